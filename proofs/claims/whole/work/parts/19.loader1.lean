abbrev rc_X4_checkTone : Room := { frames := 6, cells := 1, slots := 6, locals := 90 }
set_option maxHeartbeats 4000000 in
set_option maxRecDepth 100000 in
theorem c_X4_checkTone (l : Launch) (k : kY) (h : hS) (hst : l.stackTraces = false) (x : Int32) : CX l k yX4_checkTone wsX4_checkTone rc_X4_checkTone [.int x] h (QV k (fun h' => isT x ∧ h' = h)) (fun E h' => E = xIO ∧ ¬ isT x ∧ h' = h) 1 6 := by
  refine q_xmet (cc := cX4_checkTone) (maxL := 1) (ret := none) (by decide) rfl (Nat.le_of_ble_eq_true rfl) ?_
  intro p e s m args below meth c Q ls X hnh hlocks hrt hQ w hl
  have hx := X.1
  have hb := X.2.1
  have hown := X.2.2.2.1
  have hts := X.2.2.2.2
  have hl : lv_has ls 1 [(0, .int x)] := hl
  have hin_IO : ∀ w ∈ (vx_atS RX4 228 xIO xN).filter goodWord, w ∈ wsX4_checkTone := by decide +kernel
  refine lv_iload_n hx hb dX4_checkTone_0 rfl (lv_at hl 0 rfl) ?_
  refine q_calli w (q_runS X w (c_X4_isTone l k h x) (va_cwS 1 hts gX4_checkTone_X4_isTone rfl rfl rfl (by decide +kernel) ⟨Nat.le_of_ble_eq_true rfl, Nat.le_of_ble_eq_true rfl⟩) rfl hl.1 rfl (Nat.le_of_ble_eq_true rfl) dX4_checkTone_1 ⟨Nat.le_of_ble_eq_true rfl, Nat.le_of_ble_eq_true rfl⟩) (fun r_1 h_1 H locs hp w => ?_)
  obtain ⟨hp, eh_1⟩ := hp
  rw [eh_1] at w
  rcases hp with ⟨hd_1, er_1⟩ | ⟨hd_1, er_1⟩
  · subst er_1
    refine lv_if_ne (tgt := 17) hx hb dX4_checkTone_4 (by decide) (fun c_4 => ?_) (fun c_4 => ?_)
    · exact q_xretV X w hlocks hrt hQ dX4_checkTone_17 ⟨hd_1, rfl⟩ (Nat.le_of_ble_eq_true rfl) (Nat.le_of_ble_eq_true rfl)
    · exact absurd c_4 (by decide)
  · subst er_1
    refine lv_if_ne (tgt := 17) hx hb dX4_checkTone_4 (by decide) (fun c_4 => ?_) (fun c_4 => ?_)
    · exact absurd (by decide) c_4
    · exact q_throw X w hst hQ hnh hlocks xF_IO (by decide +kernel) (by decide +kernel) (List.mem_of_getElem? (i := 1) rfl) hin_IO hl.1 dX4_checkTone_7 dX4_checkTone_10 dX4_checkTone_11 dX4_checkTone_13 dX4_checkTone_16 (Nat.le_of_ble_eq_true rfl) (Nat.le_of_ble_eq_true rfl) (Nat.le_of_ble_eq_true rfl) (Nat.le_of_ble_eq_true rfl) ⟨rfl, hd_1, rfl⟩ (Nat.le_of_ble_eq_true rfl) (Nat.le_of_ble_eq_true rfl)

abbrev rc_X4_checkRange : Room := { frames := 6, cells := 1, slots := 6, locals := 90 }
set_option maxHeartbeats 4000000 in
set_option maxRecDepth 100000 in
theorem c_X4_checkRange (l : Launch) (k : kY) (h : hS) (hst : l.stackTraces = false) (x a b : Int32) : CX l k yX4_checkRange wsX4_checkRange rc_X4_checkRange [.int x, .int a, .int b] h (QV k (fun h' => okR x a b ∧ h' = h)) (fun E h' => E = xIA ∧ ¬ okR x a b ∧ h' = h) 1 6 := by
  refine q_xmet (cc := cX4_checkRange) (maxL := 3) (ret := none) (by decide) rfl (Nat.le_of_ble_eq_true rfl) ?_
  intro p e s m args below meth c Q ls X hnh hlocks hrt hQ w hl
  have hx := X.1
  have hb := X.2.1
  have hown := X.2.2.2.1
  have hts := X.2.2.2.2
  have hl : lv_has ls 3 [(0, .int x), (1, .int a), (2, .int b)] := hl
  have hin_IA : ∀ w ∈ (vx_atS RX4 151 xIA xN).filter goodWord, w ∈ wsX4_checkRange := by decide +kernel
  refine lv_iload_n hx hb dX4_checkRange_0 rfl (lv_at hl 0 rfl) ?_
  refine lv_iload_n hx hb dX4_checkRange_1 rfl (lv_at hl 1 rfl) ?_
  refine lv_icmp_lt (tgt := 10) hx hb dX4_checkRange_2 (by decide) (fun c_2 => ?_) (fun c_2 => ?_)
  · exact q_throw X w hst hQ hnh hlocks xF_IA (by decide +kernel) (by decide +kernel) (List.mem_of_getElem? (i := 2) rfl) hin_IA hl.1 dX4_checkRange_10 dX4_checkRange_13 dX4_checkRange_14 dX4_checkRange_16 dX4_checkRange_19 (Nat.le_of_ble_eq_true rfl) (Nat.le_of_ble_eq_true rfl) (Nat.le_of_ble_eq_true rfl) (Nat.le_of_ble_eq_true rfl) ⟨rfl, (by first | exact fun z => z.1 c_2 | exact fun z => c_7 z.2), rfl⟩ (Nat.le_of_ble_eq_true rfl) (Nat.le_of_ble_eq_true rfl)
  · refine lv_iload_n hx hb dX4_checkRange_5 rfl (lv_at hl 0 rfl) ?_
    refine lv_iload_n hx hb dX4_checkRange_6 rfl (lv_at hl 2 rfl) ?_
    refine lv_icmp_le (tgt := 20) hx hb dX4_checkRange_7 (by decide) (fun c_7 => ?_) (fun c_7 => ?_)
    · exact q_xretV X w hlocks hrt hQ dX4_checkRange_20 ⟨⟨c_2, c_7⟩, rfl⟩ (Nat.le_of_ble_eq_true rfl) (Nat.le_of_ble_eq_true rfl)
    · exact q_throw X w hst hQ hnh hlocks xF_IA (by decide +kernel) (by decide +kernel) (List.mem_of_getElem? (i := 2) rfl) hin_IA hl.1 dX4_checkRange_10 dX4_checkRange_13 dX4_checkRange_14 dX4_checkRange_16 dX4_checkRange_19 (Nat.le_of_ble_eq_true rfl) (Nat.le_of_ble_eq_true rfl) (Nat.le_of_ble_eq_true rfl) (Nat.le_of_ble_eq_true rfl) ⟨rfl, (by first | exact fun z => z.1 c_2 | exact fun z => c_7 z.2), rfl⟩ (Nat.le_of_ble_eq_true rfl) (Nat.le_of_ble_eq_true rfl)

abbrev rc_X4_pairAt : Room := { frames := 6, cells := 1, slots := 6, locals := 90 }
set_option maxHeartbeats 4000000 in
set_option maxRecDepth 100000 in
theorem c_X4_pairAt (l : Launch) (k : kY) (h : hS) (hst : l.stackTraces = false) (x : Int32) : CX l k yX4_pairAt wsX4_pairAt rc_X4_pairAt [.ref (k.2.1 0), .int x] h (QR k (fun u => ∃ q : Nat, q < 2 ∧ x = nI q ∧ u.1 = 11 + 8 * q ∧ u.2 = h)) (fun E h' => E = xIO ∧ ¬ isP x ∧ h' = h) 1 6 := by
  refine q_xmet (cc := cX4_pairAt) (maxL := 2) (ret := (some (.object "ToneLoader$Pair"))) (by decide) rfl (Nat.le_of_ble_eq_true rfl) ?_
  intro p e s m args below meth c Q ls X hnh hlocks hrt hQ w hl
  have hx := X.1
  have hb := X.2.1
  have hown := X.2.2.2.1
  have hts := X.2.2.2.2
  have hl : lv_has ls 2 [(0, .ref (k.2.1 0)), (1, .int x)] := hl
  have hi2 : ∀ w ∈ u_ws RX2 TX2 3, w ∈ wsX4_pairAt := by decide +kernel
  have hi4 : ∀ w ∈ u_ws RX4 TX4 5, w ∈ wsX4_pairAt := by decide +kernel
  have hin_IO : ∀ w ∈ (vx_atS RX4 228 xIO xN).filter goodWord, w ∈ wsX4_pairAt := by decide +kernel
  refine lv_iload_n hx hb dX4_pairAt_0 rfl (lv_at hl 1 rfl) ?_
  refine lv_if_eq (tgt := 19) hx hb dX4_pairAt_1 (by decide) (fun c_1 => ?_) (fun c_1 => ?_)
  · refine lv_iload_n hx hb dX4_pairAt_19 rfl (lv_at hl 1 rfl) ?_
    refine lv_if_ne (tgt := 33) hx hb dX4_pairAt_20 (by decide) (fun c_20 => ?_) (fun c_20 => ?_)
    · refine lv_aload_n hx hb dX4_pairAt_33 rfl (lv_at hl 0 rfl) ?_
      refine q_get X w 0 0 (ci := 4) (by decide) rfl rfl hi4 (by decide) (by decide +kernel) rfl dX4_pairAt_34 ?_
      refine q_get X w 6 2 (ci := 2) (by decide) rfl rfl hi2 (by decide) (by decide +kernel) rfl dX4_pairAt_37 ?_
      exact q_xretR X w hlocks hrt hQ dX4_pairAt_40 ⟨1, by decide, (by first | exact absurd c_1 c_20 | exact c_6), rfl, rfl⟩ (Nat.le_of_ble_eq_true rfl) (Nat.le_of_ble_eq_true rfl)
    · refine lv_aload_n hx hb dX4_pairAt_23 rfl (lv_at hl 0 rfl) ?_
      refine q_get X w 0 0 (ci := 4) (by decide) rfl rfl hi4 (by decide) (by decide +kernel) rfl dX4_pairAt_24 ?_
      refine q_get X w 6 1 (ci := 2) (by decide) rfl rfl hi2 (by decide) (by decide +kernel) rfl dX4_pairAt_27 ?_
      refine lv_goto (tgt := 40) hx hb dX4_pairAt_30 (by decide) ?_
      exact q_xretR X w hlocks hrt hQ dX4_pairAt_40 ⟨0, by decide, c_20, rfl, rfl⟩ (Nat.le_of_ble_eq_true rfl) (Nat.le_of_ble_eq_true rfl)
  · refine lv_iload_n hx hb dX4_pairAt_4 rfl (lv_at hl 1 rfl) ?_
    refine lv_iconst (v := nI 1) hx hb dX4_pairAt_5 (by decide) ?_
    refine lv_icmp_eq (tgt := 19) hx hb dX4_pairAt_6 (by decide) (fun c_6 => ?_) (fun c_6 => ?_)
    · refine lv_iload_n hx hb dX4_pairAt_19 rfl (lv_at hl 1 rfl) ?_
      refine lv_if_ne (tgt := 33) hx hb dX4_pairAt_20 (by decide) (fun c_20 => ?_) (fun c_20 => ?_)
      · refine lv_aload_n hx hb dX4_pairAt_33 rfl (lv_at hl 0 rfl) ?_
        refine q_get X w 0 0 (ci := 4) (by decide) rfl rfl hi4 (by decide) (by decide +kernel) rfl dX4_pairAt_34 ?_
        refine q_get X w 6 2 (ci := 2) (by decide) rfl rfl hi2 (by decide) (by decide +kernel) rfl dX4_pairAt_37 ?_
        exact q_xretR X w hlocks hrt hQ dX4_pairAt_40 ⟨1, by decide, (by first | exact absurd c_1 c_20 | exact c_6), rfl, rfl⟩ (Nat.le_of_ble_eq_true rfl) (Nat.le_of_ble_eq_true rfl)
      · refine lv_aload_n hx hb dX4_pairAt_23 rfl (lv_at hl 0 rfl) ?_
        refine q_get X w 0 0 (ci := 4) (by decide) rfl rfl hi4 (by decide) (by decide +kernel) rfl dX4_pairAt_24 ?_
        refine q_get X w 6 1 (ci := 2) (by decide) rfl rfl hi2 (by decide) (by decide +kernel) rfl dX4_pairAt_27 ?_
        refine lv_goto (tgt := 40) hx hb dX4_pairAt_30 (by decide) ?_
        exact q_xretR X w hlocks hrt hQ dX4_pairAt_40 ⟨0, by decide, c_20, rfl, rfl⟩ (Nat.le_of_ble_eq_true rfl) (Nat.le_of_ble_eq_true rfl)
    · exact q_throw X w hst hQ hnh hlocks xF_IO (by decide +kernel) (by decide +kernel) (List.mem_of_getElem? (i := 0) rfl) hin_IO hl.1 dX4_pairAt_9 dX4_pairAt_12 dX4_pairAt_13 dX4_pairAt_15 dX4_pairAt_18 (Nat.le_of_ble_eq_true rfl) (Nat.le_of_ble_eq_true rfl) (Nat.le_of_ble_eq_true rfl) (Nat.le_of_ble_eq_true rfl) ⟨rfl, isP_no c_1 c_6, rfl⟩ (Nat.le_of_ble_eq_true rfl) (Nat.le_of_ble_eq_true rfl)

abbrev rc_X4_otherOf : Room := { frames := 0, cells := 0, slots := 0, locals := 0 }
set_option maxHeartbeats 4000000 in
set_option maxRecDepth 100000 in
theorem c_X4_otherOf (l : Launch) (k : kY) (h : hS) {q : Nat} (hq : q < 2) : CT l k yX4_otherOf wsX4_otherOf rc_X4_otherOf [.ref (k.2.1 0), .int (nI q)] h (QR k (fun u => u.1 = 11 + 8 * (1 - q) ∧ u.2 = h)) 0 0 := by
  refine q_metR (cc := cX4_otherOf) (maxL := 2) (by decide) rfl (Nat.le_of_ble_eq_true rfl) ?_
  intro p e s m args below meth c Q ls X w hl hret
  have hx := X.1
  have hb := X.2.1
  have hown := X.2.2.2.1
  have hts := X.2.2.2.2
  have hl : lv_has ls 2 [(0, .ref (k.2.1 0)), (1, .int (nI q))] := hl
  have hi2 : ∀ w ∈ u_ws RX2 TX2 3, w ∈ wsX4_otherOf := by decide +kernel
  have hi4 : ∀ w ∈ u_ws RX4 TX4 5, w ∈ wsX4_otherOf := by decide +kernel
  refine lv_iload_n hx hb dX4_otherOf_0 rfl (lv_at hl 1 rfl) ?_
  refine lv_if_ne (tgt := 14) hx hb dX4_otherOf_1 (by decide) (fun c_1 => ?_) (fun c_1 => ?_)
  · refine lv_aload_n hx hb dX4_otherOf_14 rfl (lv_at hl 0 rfl) ?_
    refine q_get X w 0 0 (ci := 4) (by decide) rfl rfl hi4 (by decide) (by decide +kernel) rfl dX4_otherOf_15 ?_
    refine q_get X w 6 1 (ci := 2) (by decide) rfl rfl hi2 (by decide) (by decide +kernel) rfl dX4_otherOf_18 ?_
    exact hret _ _ _ _ _ _ _ _ dX4_otherOf_21 w ⟨by have : q = 1 := (by rcases (by omega : q = 0 ∨ q = 1) with z | z; subst z; exact absurd rfl c_1; exact z); subst this; rfl, rfl⟩ (Nat.le_of_ble_eq_true rfl) (Nat.le_of_ble_eq_true rfl)
  · refine lv_aload_n hx hb dX4_otherOf_4 rfl (lv_at hl 0 rfl) ?_
    refine q_get X w 0 0 (ci := 4) (by decide) rfl rfl hi4 (by decide) (by decide +kernel) rfl dX4_otherOf_5 ?_
    refine q_get X w 6 2 (ci := 2) (by decide) rfl rfl hi2 (by decide) (by decide +kernel) rfl dX4_otherOf_8 ?_
    refine lv_goto (tgt := 21) hx hb dX4_otherOf_11 (by decide) ?_
    exact hret _ _ _ _ _ _ _ _ dX4_otherOf_21 w ⟨by have : q = 0 := (by rcases (by omega : q = 0 ∨ q = 1) with z | z; exact z; subst z; exact absurd c_1 (by decide)); subst this; rfl, rfl⟩ (Nat.le_of_ble_eq_true rfl) (Nat.le_of_ble_eq_true rfl)

abbrev rc_X4_saveState : Room := { frames := 3, cells := 0, slots := 0, locals := 72 }
set_option maxHeartbeats 4000000 in
set_option maxRecDepth 100000 in
theorem c_X4_saveState (l : Launch) (k : kY) (h : hS) {a b : Nat} (hs : SI h a b) : CT l k yX4_saveState wsX4_saveState rc_X4_saveState [.ref (k.2.1 0)] h (QV k (fun h' => h' = svz h a b)) 0 0 := by
  refine q_metV (cc := cX4_saveState) (maxL := 1) (by decide) rfl (Nat.le_of_ble_eq_true rfl) ?_
  intro p e s m args below meth c Q ls X w hl hret
  have hx := X.1
  have hb := X.2.1
  have hown := X.2.2.2.1
  have hts := X.2.2.2.2
  have hl : lv_has ls 1 [(0, .ref (k.2.1 0))] := hl
  have hi4 : ∀ w ∈ u_ws RX4 TX4 5, w ∈ wsX4_saveState := by decide +kernel
  have h4 := hs.2.1.2
  have s6 : 6 ≤ 7 + (a + 1) % 4 := by omega
  have s10 : 7 + (a + 1) % 4 ≤ 10 := by omega
  refine lv_aload_n hx hb dX4_saveState_0 rfl (lv_at hl 0 rfl) ?_
  refine lv_aload_n hx hb dX4_saveState_1 rfl (lv_at hl 0 rfl) ?_
  refine q_get X w 0 2 (ci := 4) (by decide) rfl rfl hi4 (by decide) (by decide +kernel) rfl dX4_saveState_2 ?_
  rw [hs.1.1]
  refine lv_iconst (v := nI 1) hx hb dX4_saveState_5 (by decide) ?_
  refine q_iaddN X dX4_saveState_6 ?_
  refine lv_iconst (v := nI 4) hx hb dX4_saveState_7 (by decide) ?_
  refine q_calli w (q_runS X w (c_J9_floorMod_7cf53 l k h (nI (a + 1)) (nI 4) (by decide)) (va_cwS 2 hts gX4_saveState_J9_floorMod_7cf53 rfl rfl rfl (by decide +kernel) ⟨Nat.le_of_ble_eq_true rfl, Nat.le_of_ble_eq_true rfl⟩) rfl hl.1 rfl (Nat.le_of_ble_eq_true rfl) dX4_saveState_8 ⟨Nat.le_of_ble_eq_true rfl, Nat.le_of_ble_eq_true rfl⟩) (fun r_8 h_8 H locs hp w => ?_)
  obtain ⟨er_8, eh_8⟩ := hp
  rw [eh_8] at w
  rw [fmz4 a hs.1.2] at er_8
  subst er_8
  refine q_put X w 0 2 .int (ci := 4) (by decide) rfl rfl rfl hi4 tyX4_ok nmX4 (by decide) (by decide +kernel) rfl (by decide +kernel) (rfl) (rfl) (Nat.le_of_ble_eq_true rfl) dX4_saveState_11 (fun H locs w => ?_)
  obtain ⟨h_11, eh_11⟩ : ∃ z, z = upI h 0 2 (nI ((a + 1) % 4)) := ⟨_, rfl⟩
  rw [← eh_11] at w
  refine lv_aload_n hx hb dX4_saveState_14 rfl (lv_at hl 0 rfl) ?_
  refine q_get X w 0 1 (ci := 4) (by decide) rfl rfl hi4 (by decide) (by decide +kernel) rfl dX4_saveState_15 ?_
  refine lv_aload_n hx hb dX4_saveState_18 rfl (lv_at hl 0 rfl) ?_
  refine q_get X w 0 2 (ci := 4) (by decide) rfl rfl hi4 (by decide) (by decide +kernel) rfl dX4_saveState_19 ?_
  have e19 : h_11.1 0 2 = nI ((a + 1) % 4) := by rw [eh_11, upI_s]; rfl
  rw [e19]
  refine q_aald X w ((a + 1) % 4) rfl (by omega) dX4_saveState_22 ?_
  refine lv_aload_n hx hb dX4_saveState_23 rfl (lv_at hl 0 rfl) ?_
  refine q_get X w 0 0 (ci := 4) (by decide) rfl rfl hi4 (by decide) (by decide +kernel) rfl dX4_saveState_24 ?_
  refine q_callv w (q_runV X w (7 + (a + 1) % 4) (c_X2_copyFrom l k h_11 s6 s10 (S2 := 6) (by decide) (by decide) (by omega) (fgP_of (h := h) (by rw [eh_11, upI_o _ _ _ (by decide)]) (by rw [eh_11, upI_o _ _ _ (by decide)]) hs.2.2.1) (fgP_of (h := h) (by rw [eh_11, upI_o _ _ _ (by decide)]) (by rw [eh_11, upI_o _ _ _ (by decide)]) hs.2.2.2)) (cwV 1 hts gX4_saveState_X2_copyFrom rfl rfl rfl (by decide +kernel) ⟨Nat.le_of_ble_eq_true rfl, Nat.le_of_ble_eq_true rfl⟩) (Nat.lt_of_le_of_lt s10 (by decide)) (hE_st s6 s10 k _) rfl rfl hl.1 rfl (Nat.le_of_ble_eq_true rfl) dX4_saveState_27 ⟨Nat.le_of_ble_eq_true rfl, Nat.le_of_ble_eq_true rfl⟩) (fun h_27 H locs hp w => ?_)
  have eh_27 := hp
  refine lv_aload_n hx hb dX4_saveState_30 rfl (lv_at hl 0 rfl) ?_
  refine q_get X w 0 3 (ci := 4) (by decide) rfl rfl hi4 (by decide) (by decide +kernel) rfl dX4_saveState_31 ?_
  have e31 : h_27.1 0 3 = nI b := by rw [eh_27, cpS_lo _ s6 (by decide), eh_11, upI_s]; exact hs.2.1.1
  rw [e31]
  refine lv_iconst (v := nI 4) hx hb dX4_saveState_34 (by decide) ?_
  refine q_icge X (tgt := 48) (by omega) (by decide) dX4_saveState_35 (by decide) (fun c_35 => ?_) (fun c_35 => ?_)
  · exact hret _ _ _ _ _ _ _ dX4_saveState_48 w (by rw [svz, if_neg (by omega), eh_27, eh_11]) (Nat.le_of_ble_eq_true rfl) (Nat.le_of_ble_eq_true rfl)
  · refine lv_aload_n hx hb dX4_saveState_38 rfl (lv_at hl 0 rfl) ?_
    refine lv_dup hx hb dX4_saveState_39 rfl ?_
    refine q_get X w 0 3 (ci := 4) (by decide) rfl rfl hi4 (by decide) (by decide +kernel) rfl dX4_saveState_40 ?_
    rw [e31]
    refine lv_iconst (v := nI 1) hx hb dX4_saveState_43 (by decide) ?_
    refine q_iaddN X dX4_saveState_44 ?_
    refine q_put X w 0 3 .int (ci := 4) (by decide) rfl rfl rfl hi4 tyX4_ok nmX4 (by decide) (by decide +kernel) rfl (by decide +kernel) (rfl) (rfl) (Nat.le_of_ble_eq_true rfl) dX4_saveState_45 (fun H locs w => ?_)
    obtain ⟨h_45, eh_45⟩ : ∃ z, z = upI h_27 0 3 (nI (b + 1)) := ⟨_, rfl⟩
    rw [← eh_45] at w
    exact hret _ _ _ _ _ _ _ dX4_saveState_48 w (by rw [svz, if_pos (by omega), eh_45, eh_27, eh_11]) (Nat.le_of_ble_eq_true rfl) (Nat.le_of_ble_eq_true rfl)
