abbrev rc_X4_needFor : Room := { frames := 0, cells := 0, slots := 0, locals := 0 }
set_option maxHeartbeats 4000000 in
set_option maxRecDepth 100000 in
theorem c_X4_needFor (l : Launch) (k : kY) (h : hS) (b : Int32) (n : Int64) : CT l k yX4_needFor wsX4_needFor rc_X4_needFor [.int b, .long n] h (QL k (fun r h' => r = ndz b n ∧ h' = h)) 0 0 := by
  refine q_metL (cc := cX4_needFor) (maxL := 3) (by decide) rfl (Nat.le_of_ble_eq_true rfl) ?_
  intro p e s m args below meth c Q ls X w hl hret
  have hx := X.1
  have hb := X.2.1
  have hown := X.2.2.2.1
  have hts := X.2.2.2.2
  have hl : lv_has ls 3 [(0, .int b), (1, .long n)] := hl
  refine lv_lconst (v := 1) hx hb dX4_needFor_0 (by decide) ?_
  refine lv_iload_n hx hb dX4_needFor_1 rfl (lv_at hl 0 rfl) ?_
  refine lv_lshl hx hb dX4_needFor_2 rfl ?_
  refine lv_lconst (v := 1) hx hb dX4_needFor_3 (by decide) ?_
  refine lv_lsub hx hb dX4_needFor_4 ?_
  refine lv_lload_n hx hb dX4_needFor_5 rfl (lv_at hl 1 rfl) ?_
  refine lv_lmul hx hb dX4_needFor_6 ?_
  exact hret _ _ _ _ _ _ _ _ dX4_needFor_7 w ⟨rfl, rfl⟩ (Nat.le_of_ble_eq_true rfl) (Nat.le_of_ble_eq_true rfl)

abbrev rc_X4_cappedEnergy : Room := { frames := 0, cells := 0, slots := 0, locals := 0 }
set_option maxHeartbeats 4000000 in
set_option maxRecDepth 100000 in
theorem c_X4_cappedEnergy (l : Launch) (k : kY) (h : hS) (n : Int64) : CT l k yX4_cappedEnergy wsX4_cappedEnergy rc_X4_cappedEnergy [.long n] h (QL k (fun r h' => r = capz n ∧ h' = h)) 0 0 := by
  refine q_metL (cc := cX4_cappedEnergy) (maxL := 2) (by decide) rfl (Nat.le_of_ble_eq_true rfl) ?_
  intro p e s m args below meth c Q ls X w hl hret
  have hx := X.1
  have hb := X.2.1
  have hown := X.2.2.2.1
  have hts := X.2.2.2.2
  have hl : lv_has ls 2 [(0, .long n)] := hl
  refine lv_lload_n hx hb dX4_cappedEnergy_0 rfl (lv_at hl 0 rfl) ?_
  refine lv_ldc2 (v := 1000000000000) hx hb hown (hts (.constantLong RX4 260 1000000000000) (by decide +kernel)) dX4_cappedEnergy_1 ?_
  refine q_lif_le X (tgt := 14) dX4_cappedEnergy_4 dX4_cappedEnergy_5 (by decide) (fun c_4 => ?_) (fun c_4 => ?_)
  · refine lv_lload_n hx hb dX4_cappedEnergy_14 rfl (lv_at hl 0 rfl) ?_
    exact hret _ _ _ _ _ _ _ _ dX4_cappedEnergy_15 w ⟨by first | exact (if_pos (by assumption)).symm | exact (if_neg (by assumption)).symm, rfl⟩ (Nat.le_of_ble_eq_true rfl) (Nat.le_of_ble_eq_true rfl)
  · refine lv_ldc2 (v := 1000000000000) hx hb hown (hts (.constantLong RX4 260 1000000000000) (by decide +kernel)) dX4_cappedEnergy_8 ?_
    refine lv_goto (tgt := 15) hx hb dX4_cappedEnergy_11 (by decide) ?_
    exact hret _ _ _ _ _ _ _ _ dX4_cappedEnergy_15 w ⟨by first | exact (if_pos (by assumption)).symm | exact (if_neg (by assumption)).symm, rfl⟩ (Nat.le_of_ble_eq_true rfl) (Nat.le_of_ble_eq_true rfl)

abbrev rc_X4_isTone : Room := { frames := 0, cells := 0, slots := 0, locals := 0 }
set_option maxHeartbeats 4000000 in
set_option maxRecDepth 100000 in
theorem c_X4_isTone (l : Launch) (k : kY) (h : hS) (x : Int32) : CT l k yX4_isTone wsX4_isTone rc_X4_isTone [.int x] h (QI k (fun r h' => (((∃ t : Nat, t < 16 ∧ x = nI t) ∧ r = nI 1) ∨ (¬ (∃ t : Nat, t < 16 ∧ x = nI t) ∧ r = nI 0)) ∧ h' = h)) 0 0 := by
  refine q_metI (cc := cX4_isTone) (maxL := 1) (ret := some .boolean) (ty := .boolean) (by decide) rfl rfl (Nat.le_of_ble_eq_true rfl) ?_
  intro p e s m args below meth c Q ls X w hl hret
  have hx := X.1
  have hb := X.2.1
  have hown := X.2.2.2.1
  have hts := X.2.2.2.2
  have hl : lv_has ls 1 [(0, .int x)] := hl
  refine lv_iload_n hx hb dX4_isTone_0 rfl (lv_at hl 0 rfl) ?_
  refine lv_if_lt (tgt := 14) hx hb dX4_isTone_1 (by decide) (fun c_1 => ?_) (fun c_1 => ?_)
  · refine lv_iconst (v := nI 0) hx hb dX4_isTone_14 (by decide) ?_
    exact hret _ _ _ _ _ _ _ _ dX4_isTone_15 w (by decide) ⟨Or.inr ⟨by first | exact tz_neg c_1 | exact tz_ge c_7, rfl⟩, rfl⟩ (Nat.le_of_ble_eq_true rfl) (Nat.le_of_ble_eq_true rfl)
  · refine lv_iload_n hx hb dX4_isTone_4 rfl (lv_at hl 0 rfl) ?_
    refine lv_bipush (v := nI 16) hx hb dX4_isTone_5 (by decide) ?_
    refine lv_icmp_ge (tgt := 14) hx hb dX4_isTone_7 (by decide) (fun c_7 => ?_) (fun c_7 => ?_)
    · refine lv_iconst (v := nI 0) hx hb dX4_isTone_14 (by decide) ?_
      exact hret _ _ _ _ _ _ _ _ dX4_isTone_15 w (by decide) ⟨Or.inr ⟨by first | exact tz_neg c_1 | exact tz_ge c_7, rfl⟩, rfl⟩ (Nat.le_of_ble_eq_true rfl) (Nat.le_of_ble_eq_true rfl)
    · refine lv_iconst (v := nI 1) hx hb dX4_isTone_10 (by decide) ?_
      refine lv_goto (tgt := 15) hx hb dX4_isTone_11 (by decide) ?_
      exact hret _ _ _ _ _ _ _ _ dX4_isTone_15 w (by decide) ⟨Or.inl ⟨tz_of c_1 c_7, rfl⟩, rfl⟩ (Nat.le_of_ble_eq_true rfl) (Nat.le_of_ble_eq_true rfl)

abbrev rc_J9_floorMod_7cf53 : Room := { frames := 0, cells := 0, slots := 0, locals := 0 }
set_option maxHeartbeats 4000000 in
set_option maxRecDepth 100000 in
theorem c_J9_floorMod_7cf53 (l : Launch) (k : kY) (h : hS) (x y : Int32) (hy : ¬ y = 0) : CT l k yJ9_floorMod_7cf53 wsJ9_floorMod_7cf53 rc_J9_floorMod_7cf53 [.int x, .int y] h (QI k (fun r h' => r = fmz x y ∧ h' = h)) 0 0 := by
  refine q_metIF (cc := cJ9_floorMod_7cf53) (maxL := 3) (ret := some .int) (ty := .int) (by decide +kernel) rfl rfl (Nat.le_of_ble_eq_true rfl) ?_
  intro p e s m args below meth c Q ls X w hl hret
  have hx := X.1
  have hb := X.2.1
  have hown := X.2.2.2.1
  have hts := X.2.2.2.2
  have hl : lv_has ls 3 [(0, .int x), (1, .int y)] := hl
  refine lv_iload_n hx hb dJ9_floorMod_7cf53_0 rfl (lv_at hl 0 rfl) ?_
  refine lv_iload_n hx hb dJ9_floorMod_7cf53_1 rfl (lv_at hl 1 rfl) ?_
  refine lv_irem hx hb dJ9_floorMod_7cf53_2 hy ?_
  refine lv_istore_n (lv' := [(2, .int (x - x / y * y)), (0, .int x), (1, .int y)]) hx hb dJ9_floorMod_7cf53_3 rfl hl (by decide) rfl (fun ls hl => ?_)
  refine lv_iload_n hx hb dJ9_floorMod_7cf53_4 rfl (lv_at hl 1 rfl) ?_
  refine lv_iload_n hx hb dJ9_floorMod_7cf53_5 rfl (lv_at hl 2 rfl) ?_
  refine lv_ixor hx hb dJ9_floorMod_7cf53_6 ?_
  refine lv_if_ge (tgt := 18) hx hb dJ9_floorMod_7cf53_7 (by decide) (fun c_7 => ?_) (fun c_7 => ?_)
  · refine lv_iload_n hx hb dJ9_floorMod_7cf53_18 rfl (lv_at hl 0 rfl) ?_
    exact hret _ _ _ _ _ _ _ _ dJ9_floorMod_7cf53_19 w rfl ⟨by first | (rw [fmz, if_pos c_7]; done) | rw [fmz, if_neg c_7, if_pos c_11], rfl⟩ (Nat.le_of_ble_eq_true rfl) (Nat.le_of_ble_eq_true rfl)
  · refine lv_iload_n hx hb dJ9_floorMod_7cf53_10 rfl (lv_at hl 0 rfl) ?_
    refine lv_if_eq (tgt := 18) hx hb dJ9_floorMod_7cf53_11 (by decide) (fun c_11 => ?_) (fun c_11 => ?_)
    · refine lv_iload_n hx hb dJ9_floorMod_7cf53_18 rfl (lv_at hl 0 rfl) ?_
      exact hret _ _ _ _ _ _ _ _ dJ9_floorMod_7cf53_19 w rfl ⟨by first | (rw [fmz, if_pos c_7]; done) | rw [fmz, if_neg c_7, if_pos c_11], rfl⟩ (Nat.le_of_ble_eq_true rfl) (Nat.le_of_ble_eq_true rfl)
    · refine lv_iload_n hx hb dJ9_floorMod_7cf53_14 rfl (lv_at hl 0 rfl) ?_
      refine lv_iload_n hx hb dJ9_floorMod_7cf53_15 rfl (lv_at hl 2 rfl) ?_
      refine lv_iadd hx hb dJ9_floorMod_7cf53_16 ?_
      exact hret _ _ _ _ _ _ _ _ dJ9_floorMod_7cf53_17 w rfl ⟨by rw [fmz, if_neg c_7, if_neg c_11], rfl⟩ (Nat.le_of_ble_eq_true rfl) (Nat.le_of_ble_eq_true rfl)

abbrev rc_J7_fill_53178 : Room := { frames := 0, cells := 0, slots := 0, locals := 0 }
set_option maxHeartbeats 4000000 in
set_option maxRecDepth 100000 in
theorem c_J7_fill_53178 (l : Launch) (k : kY) (h : hS) (v : Int32) : CT l k yJ7_fill_53178 wsJ7_fill_53178 rc_J7_fill_53178 [.ref (k.2.1 5), .int v] h (QV k (fun h' => h' = setI h 5 (fun _ => v))) 0 0 := by
  refine q_metV (cc := cJ7_fill_53178) (maxL := 4) (by decide) rfl (Nat.le_of_ble_eq_true rfl) ?_
  intro p e s m args below meth c Q ls X w hl hret
  have hx := X.1
  have hb := X.2.1
  have hown := X.2.2.2.1
  have hts := X.2.2.2.2
  have hl : lv_has ls 4 [(0, .ref (k.2.1 5)), (1, .int v)] := hl
  refine lv_iconst (v := nI 0) hx hb dJ7_fill_53178_0 (by decide) ?_
  refine lv_istore_n (lv' := [(2, .int (nI 0)), (0, .ref (k.2.1 5)), (1, .int v)]) hx hb dJ7_fill_53178_1 rfl hl (by decide) rfl (fun ls hl => ?_)
  refine lv_aload_n hx hb dJ7_fill_53178_2 rfl (lv_at hl 1 rfl) ?_
  refine q_alen X w 5 (by decide) (fun _ => rfl) dJ7_fill_53178_3 ?_
  refine lv_istore_n (lv' := [(3, .int (nI 16)), (2, .int (nI 0)), (0, .ref (k.2.1 5)), (1, .int v)]) hx hb dJ7_fill_53178_4 rfl hl (by decide) rfl (fun ls hl => ?_)
  have lp : ∀ (n : Nat) (t : Nat), (t ≤ 16) → (16 - t) < n → ∀ (H : Heap) (locs : List Loc) (ls : Array Slot), WX k s H locs (setI h 5 (pfz (fun _ => v) (h.1 5) t)) → lv_has ls 4 [(0, .ref (k.2.1 5)), (1, .int v), (2, .int (nI t)), (3, .int (nI 16))] → W p l e rc_J7_fill_53178 s m args below meth c H locs 0 0 Q (F0 m 5 ls []) := by
    intro n
    induction n with
    | zero => intro t _ hm; exact absurd hm (Nat.not_lt_zero _)
    | succ n ih =>
      intro t hinv hm H locs ls w hl
      refine lv_iload_n hx hb dJ7_fill_53178_5 rfl (lv_at hl 2 rfl) ?_
      refine lv_iload_n hx hb dJ7_fill_53178_6 rfl (lv_at hl 3 rfl) ?_
      refine q_icge X (tgt := 20) (by omega) (by decide) dJ7_fill_53178_7 (by decide) (fun c_7 => ?_) (fun c_7 => ?_)
      · have w := w.nI 5 (fun _ => v) (fun _ => rfl) (fun j hj => by rw [setI_s, pfz_in (by omega)])
        rw [setI_setI] at w
        exact hret _ _ _ _ _ _ _ dJ7_fill_53178_20 w rfl (Nat.le_of_ble_eq_true rfl) (Nat.le_of_ble_eq_true rfl)
      · refine lv_aload_n hx hb dJ7_fill_53178_10 rfl (lv_at hl 0 rfl) ?_
        refine lv_iload_n hx hb dJ7_fill_53178_11 rfl (lv_at hl 2 rfl) ?_
        refine lv_iload_n hx hb dJ7_fill_53178_12 rfl (lv_at hl 1 rfl) ?_
        refine q_iast X w 5 t (by decide) (fun _ => rfl) rfl (by omega) (by decide) dJ7_fill_53178_13 (fun H locs w => ?_)
        obtain ⟨h_13, eh_13⟩ : ∃ z, z = upI (setI h 5 (pfz (fun _ => v) (h.1 5) t)) 5 t v := ⟨_, rfl⟩
        rw [← eh_13] at w
        refine lv_iinc (v := nI (t + 1)) (lv' := [(2, .int (nI (t + 1))), (0, .ref (k.2.1 5)), (1, .int v), (3, .int (nI 16))]) hx hb dJ7_fill_53178_14 hl (k := 2) rfl (nI_1 _) (by decide) rfl (fun ls hl => ?_)
        refine lv_goto (tgt := 5) hx hb dJ7_fill_53178_17 (by decide) ?_
        rw [eh_13, upI_set, setI_s, setI_setI, pfz_up] at w
        exact ih (t + 1) (by omega) (by omega) _ _ _ w (lv_sub hl [1, 2, 0, 3] rfl)
  rw [← setI_self h 5, ← pfz_0 (fun _ => v) (h.1 5)] at w
  exact lp 17 0 (by omega) (by omega) _ _ _ w (lv_sub hl [2, 3, 1, 0] rfl)

abbrev rc_X0_noiseBeside : Room := { frames := 0, cells := 0, slots := 0, locals := 0 }
set_option maxHeartbeats 4000000 in
set_option maxRecDepth 100000 in
theorem c_X0_noiseBeside (l : Launch) (k : kY) (h : hS) {P P2 : Nat} (hP : pp P) (hP2 : pp P2) {t : Nat} (ht : t < 16) : CT l k yX0_noiseBeside wsX0_noiseBeside rc_X0_noiseBeside [.ref (k.2.1 P), .ref (k.2.1 P2), .int (nI t)] h (QL k (fun r h' => r = dnP h P P2 t ∧ h' = h)) 0 0 := by
  refine q_metL (cc := cX0_noiseBeside) (maxL := 3) (by decide) rfl (Nat.le_of_ble_eq_true rfl) ?_
  intro p e s m args below meth c Q ls X w hl hret
  have hx := X.1
  have hb := X.2.1
  have hown := X.2.2.2.1
  have hts := X.2.2.2.2
  have hl : lv_has ls 3 [(0, .ref (k.2.1 P)), (1, .ref (k.2.1 P2)), (2, .int (nI t))] := hl
  have hi0 : ∀ w ∈ u_ws RX0 TX0 10, w ∈ wsX0_noiseBeside := by decide +kernel
  refine lv_aload_n hx hb dX0_noiseBeside_0 rfl (lv_at hl 0 rfl) ?_
  refine q_get X w P 0 (ci := 0) (pp_lt0 hP) (hE_p0 hP k _) rfl hi0 (by decide) (by decide +kernel) rfl dX0_noiseBeside_1 ?_
  refine lv_iload_n hx hb dX0_noiseBeside_4 rfl (lv_at hl 2 rfl) ?_
  refine q_iald X w (P + 1) t (pp_lt hP (c := 1) (by decide)) (hE_pi hP 1 (by decide) (by decide) k) rfl (by omega) (by decide) dX0_noiseBeside_5 ?_
  refine lv_i2l hx hb dX0_noiseBeside_6 rfl ?_
  refine lv_aload_n hx hb dX0_noiseBeside_7 rfl (lv_at hl 0 rfl) ?_
  refine q_get X w P 1 (ci := 0) (pp_lt0 hP) (hE_p0 hP k _) rfl hi0 (by decide) (by decide +kernel) rfl dX0_noiseBeside_8 ?_
  refine lv_iload_n hx hb dX0_noiseBeside_11 rfl (lv_at hl 2 rfl) ?_
  refine q_iald X w (P + 2) t (pp_lt hP (c := 2) (by decide)) (hE_pi hP 2 (by decide) (by decide) k) rfl (by omega) (by decide) dX0_noiseBeside_12 ?_
  refine lv_i2l hx hb dX0_noiseBeside_13 rfl ?_
  refine lv_aload_n hx hb dX0_noiseBeside_14 rfl (lv_at hl 1 rfl) ?_
  refine q_get X w P2 5 (ci := 0) (pp_lt0 hP2) (hE_p0 hP2 k _) rfl hi0 (by decide) (by decide +kernel) rfl dX0_noiseBeside_15 ?_
  refine lv_iload_n hx hb dX0_noiseBeside_18 rfl (lv_at hl 2 rfl) ?_
  refine q_lald X w (P2 + 6) t (pp_lt hP2 (c := 6) (by decide)) (hE_p6 hP2 k) rfl (by omega) (by decide) dX0_noiseBeside_19 ?_
  refine lv_lmul hx hb dX0_noiseBeside_20 ?_
  refine lv_ldc2 (v := 1000) hx hb hown (hts (.constantLong RX0 66 1000) (by decide +kernel)) dX0_noiseBeside_21 ?_
  refine lv_ldiv hx hb dX0_noiseBeside_24 (by decide) ?_
  refine lv_ladd hx hb dX0_noiseBeside_25 ?_
  exact hret _ _ _ _ _ _ _ _ dX0_noiseBeside_26 w ⟨rfl, rfl⟩ (Nat.le_of_ble_eq_true rfl) (Nat.le_of_ble_eq_true rfl)

abbrev rc_X0_needBeside : Room := { frames := 1, cells := 0, slots := 0, locals := 22 }
set_option maxHeartbeats 4000000 in
set_option maxRecDepth 100000 in
theorem c_X0_needBeside (l : Launch) (k : kY) (h : hS) {P P2 : Nat} (hP : pp P) (hP2 : pp P2) {t : Nat} (ht : t < 16) : CT l k yX0_needBeside wsX0_needBeside rc_X0_needBeside [.ref (k.2.1 P), .ref (k.2.1 P2), .int (nI t)] h (QL k (fun r h' => r = ndP h P P2 t ∧ h' = h)) 0 0 := by
  refine q_metL (cc := cX0_needBeside) (maxL := 3) (by decide) rfl (Nat.le_of_ble_eq_true rfl) ?_
  intro p e s m args below meth c Q ls X w hl hret
  have hx := X.1
  have hb := X.2.1
  have hown := X.2.2.2.1
  have hts := X.2.2.2.2
  have hl : lv_has ls 3 [(0, .ref (k.2.1 P)), (1, .ref (k.2.1 P2)), (2, .int (nI t))] := hl
  have hi0 : ∀ w ∈ u_ws RX0 TX0 10, w ∈ wsX0_needBeside := by decide +kernel
  refine lv_aload_n hx hb dX0_needBeside_0 rfl (lv_at hl 0 rfl) ?_
  refine q_get X w P 3 (ci := 0) (pp_lt0 hP) (hE_p0 hP k _) rfl hi0 (by decide) (by decide +kernel) rfl dX0_needBeside_1 ?_
  refine lv_iload_n hx hb dX0_needBeside_4 rfl (lv_at hl 2 rfl) ?_
  refine q_iald X w (P + 4) t (pp_lt hP (c := 4) (by decide)) (hE_pi hP 4 (by decide) (by decide) k) rfl (by omega) (by decide) dX0_needBeside_5 ?_
  refine lv_aload_n hx hb dX0_needBeside_6 rfl (lv_at hl 0 rfl) ?_
  refine lv_aload_n hx hb dX0_needBeside_7 rfl (lv_at hl 1 rfl) ?_
  refine lv_iload_n hx hb dX0_needBeside_8 rfl (lv_at hl 2 rfl) ?_
  refine q_calll w (q_runV X w P (c_X0_noiseBeside l k h hP hP2 (t := t) (by omega)) (cwV 2 hts gX0_needBeside_X0_noiseBeside rfl rfl rfl (by decide +kernel) ⟨Nat.le_of_ble_eq_true rfl, Nat.le_of_ble_eq_true rfl⟩) (pp_lt0 hP) (hE_p0 hP k _) rfl rfl hl.1 rfl (Nat.le_of_ble_eq_true rfl) dX0_needBeside_9 ⟨Nat.le_of_ble_eq_true rfl, Nat.le_of_ble_eq_true rfl⟩) (fun r_9 h_9 H locs hp w => ?_)
  obtain ⟨er_9, eh_9⟩ := hp
  rw [eh_9] at w
  have er_9 : r_9 = dnP h P P2 t := er_9
  subst er_9
  refine q_calll w (q_runN X w (c_X4_needFor l k h (h.1 (P + 4) t) (dnP h P P2 t)) ⟨va_cnB 2 hts gX0_needBeside_X4_needFor_n72 rfl rfl rfl (w.2.2.2.2.1 (RX0, 72, yX4_needFor) (by decide +kernel)) (hts (.initialized RX4) (by decide +kernel)) (by decide +kernel) ⟨Nat.le_of_ble_eq_true rfl, Nat.le_of_ble_eq_true rfl⟩, hts (.static yX4_needFor) (by decide +kernel), trivial⟩ rfl hl.1 rfl (Nat.le_of_ble_eq_true rfl) dX0_needBeside_12 ⟨Nat.le_of_ble_eq_true rfl, Nat.le_of_ble_eq_true rfl⟩) (fun r_12 h_12 H locs hp w => ?_)
  obtain ⟨er_12, eh_12⟩ := hp
  rw [eh_12] at w
  have er_12 : r_12 = ndz (h.1 (P + 4) t) (dnP h P P2 t) := er_12
  subst er_12
  exact hret _ _ _ _ _ _ _ _ dX0_needBeside_15 w ⟨rfl, rfl⟩ (Nat.le_of_ble_eq_true rfl) (Nat.le_of_ble_eq_true rfl)

abbrev rc_X0_marginBeside : Room := { frames := 2, cells := 0, slots := 0, locals := 44 }
set_option maxHeartbeats 4000000 in
set_option maxRecDepth 100000 in
theorem c_X0_marginBeside (l : Launch) (k : kY) (h : hS) {P P2 : Nat} (hP : pp P) (hP2 : pp P2) {t : Nat} (ht : t < 16) : CT l k yX0_marginBeside wsX0_marginBeside rc_X0_marginBeside [.ref (k.2.1 P), .ref (k.2.1 P2), .int (nI t)] h (QL k (fun r h' => r = mgP h P P2 t ∧ h' = h)) 0 0 := by
  refine q_metL (cc := cX0_marginBeside) (maxL := 5) (by decide) rfl (Nat.le_of_ble_eq_true rfl) ?_
  intro p e s m args below meth c Q ls X w hl hret
  have hx := X.1
  have hb := X.2.1
  have hown := X.2.2.2.1
  have hts := X.2.2.2.2
  have hl : lv_has ls 5 [(0, .ref (k.2.1 P)), (1, .ref (k.2.1 P2)), (2, .int (nI t))] := hl
  have hi0 : ∀ w ∈ u_ws RX0 TX0 10, w ∈ wsX0_marginBeside := by decide +kernel
  refine lv_aload_n hx hb dX0_marginBeside_0 rfl (lv_at hl 0 rfl) ?_
  refine lv_aload_n hx hb dX0_marginBeside_1 rfl (lv_at hl 1 rfl) ?_
  refine lv_iload_n hx hb dX0_marginBeside_2 rfl (lv_at hl 2 rfl) ?_
  refine q_calll w (q_runV X w P (c_X0_needBeside l k h hP hP2 (t := t) (by omega)) (cwV 2 hts gX0_marginBeside_X0_needBeside rfl rfl rfl (by decide +kernel) ⟨Nat.le_of_ble_eq_true rfl, Nat.le_of_ble_eq_true rfl⟩) (pp_lt0 hP) (hE_p0 hP k _) rfl rfl hl.1 rfl (Nat.le_of_ble_eq_true rfl) dX0_marginBeside_3 ⟨Nat.le_of_ble_eq_true rfl, Nat.le_of_ble_eq_true rfl⟩) (fun r_3 h_3 H locs hp w => ?_)
  obtain ⟨er_3, eh_3⟩ := hp
  rw [eh_3] at w
  have er_3 : r_3 = ndP h P P2 t := er_3
  subst er_3
  refine lv_lstore_n (lv' := [(3, .long (ndP h P P2 t)), (0, .ref (k.2.1 P)), (1, .ref (k.2.1 P2)), (2, .int (nI t))]) hx hb dX0_marginBeside_6 rfl hl (by decide) rfl (fun ls hl => ?_)
  refine lv_lload_n hx hb dX0_marginBeside_7 rfl (lv_at hl 0 rfl) ?_
  refine lv_lconst (v := 1) hx hb dX0_marginBeside_8 (by decide) ?_
  refine q_lif_ge X (tgt := 19) dX0_marginBeside_9 dX0_marginBeside_10 (by decide) (fun c_9 => ?_) (fun c_9 => ?_)
  · refine lv_ldc2 (v := 100) hx hb hown (hts (.constantLong RX0 81 100) (by decide +kernel)) dX0_marginBeside_19 ?_
    refine lv_aload_n hx hb dX0_marginBeside_22 rfl (lv_at hl 1 rfl) ?_
    refine q_get X w P 5 (ci := 0) (pp_lt0 hP) (hE_p0 hP k _) rfl hi0 (by decide) (by decide +kernel) rfl dX0_marginBeside_23 ?_
    refine lv_iload_n hx hb dX0_marginBeside_26 rfl (lv_at hl 3 rfl) ?_
    refine q_lald X w (P + 6) t (pp_lt hP (c := 6) (by decide)) (hE_p6 hP k) rfl (by omega) (by decide) dX0_marginBeside_27 ?_
    refine lv_lmul hx hb dX0_marginBeside_28 ?_
    refine lv_lload_n hx hb dX0_marginBeside_29 rfl (lv_at hl 0 rfl) ?_
    refine lv_ldiv hx hb dX0_marginBeside_30 (fun z => c_9 (by rw [z]; decide)) ?_
    exact hret _ _ _ _ _ _ _ _ dX0_marginBeside_31 w ⟨by first | exact (if_pos c_9).symm | exact (if_neg c_9).symm, rfl⟩ (Nat.le_of_ble_eq_true rfl) (Nat.le_of_ble_eq_true rfl)
  · refine lv_ldc2 (v := (-1)) hx hb hown (hts (.constantLong RX0 79 (-1)) (by decide +kernel)) dX0_marginBeside_13 ?_
    refine lv_goto (tgt := 31) hx hb dX0_marginBeside_16 (by decide) ?_
    exact hret _ _ _ _ _ _ _ _ dX0_marginBeside_31 w ⟨by first | exact (if_pos c_9).symm | exact (if_neg c_9).symm, rfl⟩ (Nat.le_of_ble_eq_true rfl) (Nat.le_of_ble_eq_true rfl)

abbrev rc_X0_tableBits : Room := { frames := 0, cells := 0, slots := 0, locals := 0 }
set_option maxHeartbeats 4000000 in
set_option maxRecDepth 100000 in
theorem c_X0_tableBits (l : Launch) (k : kY) (h : hS) {P : Nat} (hP : pp P) : CT l k yX0_tableBits wsX0_tableBits rc_X0_tableBits [.ref (k.2.1 P)] h (QI k (fun r h' => r = sumI (h.1 (P + 4)) 16 ∧ h' = h)) 0 0 := by
  refine q_metI (cc := cX0_tableBits) (maxL := 3) (ret := some .int) (ty := .int) (by decide) rfl rfl (Nat.le_of_ble_eq_true rfl) ?_
  intro p e s m args below meth c Q ls X w hl hret
  have hx := X.1
  have hb := X.2.1
  have hown := X.2.2.2.1
  have hts := X.2.2.2.2
  have hl : lv_has ls 3 [(0, .ref (k.2.1 P))] := hl
  have hi0 : ∀ w ∈ u_ws RX0 TX0 10, w ∈ wsX0_tableBits := by decide +kernel
  refine lv_iconst (v := nI 0) hx hb dX0_tableBits_0 (by decide) ?_
  refine lv_istore_n (lv' := [(1, .int (nI 0)), (0, .ref (k.2.1 P))]) hx hb dX0_tableBits_1 rfl hl (by decide) rfl (fun ls hl => ?_)
  refine lv_iconst (v := nI 0) hx hb dX0_tableBits_2 (by decide) ?_
  refine lv_istore_n (lv' := [(2, .int (nI 0)), (1, .int (nI 0)), (0, .ref (k.2.1 P))]) hx hb dX0_tableBits_3 rfl hl (by decide) rfl (fun ls hl => ?_)
  have lp : ∀ (n : Nat) (t : Nat) (x : Int32), (t ≤ 16 ∧ x = sumI (h.1 (P + 4)) t) → (16 - t) < n → ∀ (H : Heap) (locs : List Loc) (ls : Array Slot), WX k s H locs h → lv_has ls 3 [(0, .ref (k.2.1 P)), (1, .int x), (2, .int (nI t))] → W p l e rc_X0_tableBits s m args below meth c H locs 0 0 Q (F0 m 4 ls []) := by
    intro n
    induction n with
    | zero => intro t x _ hm; exact absurd hm (Nat.not_lt_zero _)
    | succ n ih =>
      intro t x hinv hm H locs ls w hl
      have ht := hinv.1
      refine lv_iload_n hx hb dX0_tableBits_4 rfl (lv_at hl 2 rfl) ?_
      refine lv_bipush (v := nI 16) hx hb dX0_tableBits_5 (by decide) ?_
      refine q_icge X (tgt := 25) (by omega) (by decide) dX0_tableBits_7 (by decide) (fun c_7 => ?_) (fun c_7 => ?_)
      · refine lv_iload_n hx hb dX0_tableBits_25 rfl (lv_at hl 1 rfl) ?_
        obtain rfl : t = 16 := by omega
        exact hret _ _ _ _ _ _ _ _ dX0_tableBits_26 w rfl ⟨hinv.2, rfl⟩ (Nat.le_of_ble_eq_true rfl) (Nat.le_of_ble_eq_true rfl)
      · refine lv_iload_n hx hb dX0_tableBits_10 rfl (lv_at hl 1 rfl) ?_
        refine lv_aload_n hx hb dX0_tableBits_11 rfl (lv_at hl 0 rfl) ?_
        refine q_get X w P 3 (ci := 0) (pp_lt0 hP) (hE_p0 hP k _) rfl hi0 (by decide) (by decide +kernel) rfl dX0_tableBits_12 ?_
        refine lv_iload_n hx hb dX0_tableBits_15 rfl (lv_at hl 2 rfl) ?_
        refine q_iald X w (P + 4) t (pp_lt hP (c := 4) (by decide)) (hE_pi hP 4 (by decide) (by decide) k) rfl (by omega) (by decide) dX0_tableBits_16 ?_
        refine lv_iadd hx hb dX0_tableBits_17 ?_
        refine lv_topi (fun x_18 ex_18 => ?_)
        refine lv_istore_n (lv' := [(1, .int x_18), (0, .ref (k.2.1 P)), (2, .int (nI t))]) hx hb dX0_tableBits_18 rfl hl (by decide) rfl (fun ls hl => ?_)
        refine lv_iinc (v := nI (t + 1)) (lv' := [(2, .int (nI (t + 1))), (1, .int x_18), (0, .ref (k.2.1 P))]) hx hb dX0_tableBits_19 hl (k := 2) rfl (nI_1 _) (by decide) rfl (fun ls hl => ?_)
        refine lv_goto (tgt := 4) hx hb dX0_tableBits_22 (by decide) ?_
        exact ih (t + 1) x_18 ⟨by omega, by rw [ex_18, hinv.2]; rfl⟩ (by omega) _ _ _ w (lv_sub hl [2, 1, 0] rfl)
  exact lp 17 0 (nI 0) ⟨by omega, rfl⟩ (by omega) _ _ _ w (lv_sub hl [2, 1, 0] rfl)

abbrev rc_X0_energySum : Room := { frames := 0, cells := 0, slots := 0, locals := 0 }
set_option maxHeartbeats 4000000 in
set_option maxRecDepth 100000 in
theorem c_X0_energySum (l : Launch) (k : kY) (h : hS) {P : Nat} (hP : pp P) : CT l k yX0_energySum wsX0_energySum rc_X0_energySum [.ref (k.2.1 P)] h (QL k (fun r h' => r = sumL (h.2.1 (P + 6)) 16 ∧ h' = h)) 0 0 := by
  refine q_metL (cc := cX0_energySum) (maxL := 4) (by decide) rfl (Nat.le_of_ble_eq_true rfl) ?_
  intro p e s m args below meth c Q ls X w hl hret
  have hx := X.1
  have hb := X.2.1
  have hown := X.2.2.2.1
  have hts := X.2.2.2.2
  have hl : lv_has ls 4 [(0, .ref (k.2.1 P))] := hl
  have hi0 : ∀ w ∈ u_ws RX0 TX0 10, w ∈ wsX0_energySum := by decide +kernel
  refine lv_lconst (v := 0) hx hb dX0_energySum_0 (by decide) ?_
  refine lv_lstore_n (lv' := [(1, .long 0), (0, .ref (k.2.1 P))]) hx hb dX0_energySum_1 rfl hl (by decide) rfl (fun ls hl => ?_)
  refine lv_iconst (v := nI 0) hx hb dX0_energySum_2 (by decide) ?_
  refine lv_istore_n (lv' := [(3, .int (nI 0)), (1, .long 0), (0, .ref (k.2.1 P))]) hx hb dX0_energySum_3 rfl hl (by decide) rfl (fun ls hl => ?_)
  have lp : ∀ (n : Nat) (t : Nat) (x : Int64), (t ≤ 16 ∧ x = sumL (h.2.1 (P + 6)) t) → (16 - t) < n → ∀ (H : Heap) (locs : List Loc) (ls : Array Slot), WX k s H locs h → lv_has ls 4 [(0, .ref (k.2.1 P)), (1, .long x), (3, .int (nI t))] → W p l e rc_X0_energySum s m args below meth c H locs 0 0 Q (F0 m 4 ls []) := by
    intro n
    induction n with
    | zero => intro t x _ hm; exact absurd hm (Nat.not_lt_zero _)
    | succ n ih =>
      intro t x hinv hm H locs ls w hl
      have ht := hinv.1
      refine lv_iload_n hx hb dX0_energySum_4 rfl (lv_at hl 2 rfl) ?_
      refine lv_bipush (v := nI 16) hx hb dX0_energySum_5 (by decide) ?_
      refine q_icge X (tgt := 25) (by omega) (by decide) dX0_energySum_7 (by decide) (fun c_7 => ?_) (fun c_7 => ?_)
      · refine lv_lload_n hx hb dX0_energySum_25 rfl (lv_at hl 1 rfl) ?_
        obtain rfl : t = 16 := by omega
        exact hret _ _ _ _ _ _ _ _ dX0_energySum_26 w ⟨hinv.2, rfl⟩ (Nat.le_of_ble_eq_true rfl) (Nat.le_of_ble_eq_true rfl)
      · refine lv_lload_n hx hb dX0_energySum_10 rfl (lv_at hl 1 rfl) ?_
        refine lv_aload_n hx hb dX0_energySum_11 rfl (lv_at hl 0 rfl) ?_
        refine q_get X w P 5 (ci := 0) (pp_lt0 hP) (hE_p0 hP k _) rfl hi0 (by decide) (by decide +kernel) rfl dX0_energySum_12 ?_
        refine lv_iload_n hx hb dX0_energySum_15 rfl (lv_at hl 2 rfl) ?_
        refine q_lald X w (P + 6) t (pp_lt hP (c := 6) (by decide)) (hE_p6 hP k) rfl (by omega) (by decide) dX0_energySum_16 ?_
        refine lv_ladd hx hb dX0_energySum_17 ?_
        refine lv_topl (fun x_18 ex_18 => ?_)
        refine lv_lstore_n (lv' := [(1, .long x_18), (0, .ref (k.2.1 P)), (3, .int (nI t))]) hx hb dX0_energySum_18 rfl hl (by decide) rfl (fun ls hl => ?_)
        refine lv_iinc (v := nI (t + 1)) (lv' := [(3, .int (nI (t + 1))), (1, .long x_18), (0, .ref (k.2.1 P))]) hx hb dX0_energySum_19 hl (k := 2) rfl (nI_1 _) (by decide) rfl (fun ls hl => ?_)
        refine lv_goto (tgt := 4) hx hb dX0_energySum_22 (by decide) ?_
        exact ih (t + 1) x_18 ⟨by omega, by rw [ex_18, hinv.2]; rfl⟩ (by omega) _ _ _ w (lv_sub hl [2, 1, 0] rfl)
  exact lp 17 0 0 ⟨by omega, rfl⟩ (by omega) _ _ _ w (lv_sub hl [2, 1, 0] rfl)

abbrev rc_X0_weakestTone : Room := { frames := 3, cells := 0, slots := 0, locals := 68 }
set_option maxHeartbeats 4000000 in
set_option maxRecDepth 100000 in
theorem c_X0_weakestTone (l : Launch) (k : kY) (h : hS) {P P2 : Nat} (hP : pp P) (hP2 : pp P2) : CT l k yX0_weakestTone wsX0_weakestTone rc_X0_weakestTone [.ref (k.2.1 P), .ref (k.2.1 P2)] h (QI k (fun r h' => r = oI (wkz h P P2) ∧ h' = h)) 0 0 := by
  refine q_metI (cc := cX0_weakestTone) (maxL := 8) (ret := some .int) (ty := .int) (by decide) rfl rfl (Nat.le_of_ble_eq_true rfl) ?_
  intro p e s m args below meth c Q ls X w hl hret
  have hx := X.1
  have hb := X.2.1
  have hown := X.2.2.2.1
  have hts := X.2.2.2.2
  have hl : lv_has ls 8 [(0, .ref (k.2.1 P)), (1, .ref (k.2.1 P2))] := hl
  refine lv_iconst (v := (-1)) hx hb dX0_weakestTone_0 (by decide) ?_
  refine lv_istore_n (lv' := [(2, .int (-1)), (0, .ref (k.2.1 P)), (1, .ref (k.2.1 P2))]) hx hb dX0_weakestTone_1 rfl hl (by decide) rfl (fun ls hl => ?_)
  refine lv_lconst (v := 0) hx hb dX0_weakestTone_2 (by decide) ?_
  refine lv_lstore_n (lv' := [(3, .long 0), (2, .int (-1)), (0, .ref (k.2.1 P)), (1, .ref (k.2.1 P2))]) hx hb dX0_weakestTone_3 rfl hl (by decide) rfl (fun ls hl => ?_)
  refine lv_iconst (v := nI 0) hx hb dX0_weakestTone_4 (by decide) ?_
  refine lv_istore (lv' := [(5, .int (nI 0)), (3, .long 0), (2, .int (-1)), (0, .ref (k.2.1 P)), (1, .ref (k.2.1 P2))]) hx hb dX0_weakestTone_5 hl (by decide) rfl (fun ls hl => ?_)
  have lp : ∀ (n : Nat) (t : Nat) (x : Int32) (y : Int64), (t ≤ 16 ∧ (x, y) = aminC (fun t => decide (¬ mgP h P P2 t = -1)) (mgP h P P2) t) → (16 - t) < n → ∀ (H : Heap) (locs : List Loc) (ls : Array Slot), WX k s H locs h → lv_has ls 8 [(0, .ref (k.2.1 P)), (1, .ref (k.2.1 P2)), (2, .int x), (3, .long y), (5, .int (nI t))] → W p l e rc_X0_weakestTone s m args below meth c H locs 0 0 Q (F0 m 7 ls []) := by
    intro n
    induction n with
    | zero => intro t x y _ hm; exact absurd hm (Nat.not_lt_zero _)
    | succ n ih =>
      intro t x y hinv hm H locs ls w hl
      have ht := hinv.1
      refine lv_iload hx hb dX0_weakestTone_7 (lv_at hl 4 rfl) ?_
      refine lv_bipush (v := nI 16) hx hb dX0_weakestTone_9 (by decide) ?_
      refine q_icge X (tgt := 55) (by omega) (by decide) dX0_weakestTone_11 (by decide) (fun c_11 => ?_) (fun c_11 => ?_)
      · refine lv_iload_n hx hb dX0_weakestTone_55 rfl (lv_at hl 2 rfl) ?_
        obtain rfl : t = 16 := by omega
        have hz := hinv.2
        rw [aminC_eq _ _ 16 (by decide)] at hz
        exact hret _ _ _ _ _ _ _ _ dX0_weakestTone_56 w rfl ⟨congrArg Prod.fst hz, rfl⟩ (Nat.le_of_ble_eq_true rfl) (Nat.le_of_ble_eq_true rfl)
      · refine lv_aload_n hx hb dX0_weakestTone_14 rfl (lv_at hl 0 rfl) ?_
        refine lv_aload_n hx hb dX0_weakestTone_15 rfl (lv_at hl 1 rfl) ?_
        refine lv_iload hx hb dX0_weakestTone_16 (lv_at hl 4 rfl) ?_
        refine q_calll w (q_runV X w P (c_X0_marginBeside l k h hP hP2 (t := t) (by omega)) (cwV 2 hts gX0_weakestTone_X0_marginBeside rfl rfl rfl (by decide +kernel) ⟨Nat.le_of_ble_eq_true rfl, Nat.le_of_ble_eq_true rfl⟩) (pp_lt0 hP) (hE_p0 hP k _) rfl rfl hl.1 rfl (Nat.le_of_ble_eq_true rfl) dX0_weakestTone_18 ⟨Nat.le_of_ble_eq_true rfl, Nat.le_of_ble_eq_true rfl⟩) (fun r_18 h_18 H locs hp w => ?_)
        obtain ⟨er_18, eh_18⟩ := hp
        rw [eh_18] at w
        have er_18 : r_18 = mgP h P P2 t := er_18
        subst er_18
        refine lv_lstore (lv' := [(6, .long (mgP h P P2 t)), (0, .ref (k.2.1 P)), (1, .ref (k.2.1 P2)), (2, .int x), (3, .long y), (5, .int (nI t))]) hx hb dX0_weakestTone_21 hl (by decide) rfl (fun ls hl => ?_)
        refine lv_lload hx hb dX0_weakestTone_23 (lv_at hl 0 rfl) ?_
        refine lv_ldc2 (v := (-1)) hx hb hown (hts (.constantLong RX0 79 (-1)) (by decide +kernel)) dX0_weakestTone_25 ?_
        refine q_lif_eq X (tgt := 49) dX0_weakestTone_28 dX0_weakestTone_29 (by decide) (fun c_28 => ?_) (fun c_28 => ?_)
        · refine lv_iinc (v := nI (t + 1)) (lv' := [(5, .int (nI (t + 1))), (6, .long (mgP h P P2 t)), (0, .ref (k.2.1 P)), (1, .ref (k.2.1 P2)), (2, .int x), (3, .long y)]) hx hb dX0_weakestTone_49 hl (k := 5) rfl (nI_1 _) (by decide) rfl (fun ls hl => ?_)
          refine lv_goto (tgt := 7) hx hb dX0_weakestTone_52 (by decide) ?_
          exact ih (t + 1) x y ⟨by omega, by first | exact aminC_no (fun q => (of_decide_eq_true q) c_28) hinv.2 | exact aminC_neg (decide_eq_true c_28) hinv.2 c_33 | exact aminC_lt (decide_eq_true c_28) hinv.2 c_33 c_39 | exact aminC_ge (decide_eq_true c_28) hinv.2 c_33 c_39⟩ (by omega) _ _ _ w (lv_sub hl [2, 3, 4, 5, 0] rfl)
        · refine lv_iload_n hx hb dX0_weakestTone_32 rfl (lv_at hl 3 rfl) ?_
          refine lv_if_lt (tgt := 43) hx hb dX0_weakestTone_33 (by decide) (fun c_33 => ?_) (fun c_33 => ?_)
          · refine lv_iload hx hb dX0_weakestTone_43 (lv_at hl 5 rfl) ?_
            refine lv_istore_n (lv' := [(2, .int (nI t)), (6, .long (mgP h P P2 t)), (0, .ref (k.2.1 P)), (1, .ref (k.2.1 P2)), (3, .long y), (5, .int (nI t))]) hx hb dX0_weakestTone_45 rfl hl (by decide) rfl (fun ls hl => ?_)
            refine lv_lload hx hb dX0_weakestTone_46 (lv_at hl 1 rfl) ?_
            refine lv_lstore_n (lv' := [(3, .long (mgP h P P2 t)), (2, .int (nI t)), (6, .long (mgP h P P2 t)), (0, .ref (k.2.1 P)), (1, .ref (k.2.1 P2)), (5, .int (nI t))]) hx hb dX0_weakestTone_48 rfl hl (by decide) rfl (fun ls hl => ?_)
            refine lv_iinc (v := nI (t + 1)) (lv' := [(5, .int (nI (t + 1))), (3, .long (mgP h P P2 t)), (2, .int (nI t)), (6, .long (mgP h P P2 t)), (0, .ref (k.2.1 P)), (1, .ref (k.2.1 P2))]) hx hb dX0_weakestTone_49 hl (k := 5) rfl (nI_1 _) (by decide) rfl (fun ls hl => ?_)
            refine lv_goto (tgt := 7) hx hb dX0_weakestTone_52 (by decide) ?_
            exact ih (t + 1) (nI t) (mgP h P P2 t) ⟨by omega, by first | exact aminC_no (fun q => (of_decide_eq_true q) c_28) hinv.2 | exact aminC_neg (decide_eq_true c_28) hinv.2 c_33 | exact aminC_lt (decide_eq_true c_28) hinv.2 c_33 c_39 | exact aminC_ge (decide_eq_true c_28) hinv.2 c_33 c_39⟩ (by omega) _ _ _ w (lv_sub hl [4, 5, 2, 1, 0] rfl)
          · refine lv_lload hx hb dX0_weakestTone_36 (lv_at hl 0 rfl) ?_
            refine lv_lload_n hx hb dX0_weakestTone_38 rfl (lv_at hl 4 rfl) ?_
            refine q_lif_ge X (tgt := 49) dX0_weakestTone_39 dX0_weakestTone_40 (by decide) (fun c_39 => ?_) (fun c_39 => ?_)
            · refine lv_iinc (v := nI (t + 1)) (lv' := [(5, .int (nI (t + 1))), (6, .long (mgP h P P2 t)), (0, .ref (k.2.1 P)), (1, .ref (k.2.1 P2)), (2, .int x), (3, .long y)]) hx hb dX0_weakestTone_49 hl (k := 5) rfl (nI_1 _) (by decide) rfl (fun ls hl => ?_)
              refine lv_goto (tgt := 7) hx hb dX0_weakestTone_52 (by decide) ?_
              exact ih (t + 1) x y ⟨by omega, by first | exact aminC_no (fun q => (of_decide_eq_true q) c_28) hinv.2 | exact aminC_neg (decide_eq_true c_28) hinv.2 c_33 | exact aminC_lt (decide_eq_true c_28) hinv.2 c_33 c_39 | exact aminC_ge (decide_eq_true c_28) hinv.2 c_33 c_39⟩ (by omega) _ _ _ w (lv_sub hl [2, 3, 4, 5, 0] rfl)
            · refine lv_iload hx hb dX0_weakestTone_43 (lv_at hl 5 rfl) ?_
              refine lv_istore_n (lv' := [(2, .int (nI t)), (6, .long (mgP h P P2 t)), (0, .ref (k.2.1 P)), (1, .ref (k.2.1 P2)), (3, .long y), (5, .int (nI t))]) hx hb dX0_weakestTone_45 rfl hl (by decide) rfl (fun ls hl => ?_)
              refine lv_lload hx hb dX0_weakestTone_46 (lv_at hl 1 rfl) ?_
              refine lv_lstore_n (lv' := [(3, .long (mgP h P P2 t)), (2, .int (nI t)), (6, .long (mgP h P P2 t)), (0, .ref (k.2.1 P)), (1, .ref (k.2.1 P2)), (5, .int (nI t))]) hx hb dX0_weakestTone_48 rfl hl (by decide) rfl (fun ls hl => ?_)
              refine lv_iinc (v := nI (t + 1)) (lv' := [(5, .int (nI (t + 1))), (3, .long (mgP h P P2 t)), (2, .int (nI t)), (6, .long (mgP h P P2 t)), (0, .ref (k.2.1 P)), (1, .ref (k.2.1 P2))]) hx hb dX0_weakestTone_49 hl (k := 5) rfl (nI_1 _) (by decide) rfl (fun ls hl => ?_)
              refine lv_goto (tgt := 7) hx hb dX0_weakestTone_52 (by decide) ?_
              exact ih (t + 1) (nI t) (mgP h P P2 t) ⟨by omega, by first | exact aminC_no (fun q => (of_decide_eq_true q) c_28) hinv.2 | exact aminC_neg (decide_eq_true c_28) hinv.2 c_33 | exact aminC_lt (decide_eq_true c_28) hinv.2 c_33 c_39 | exact aminC_ge (decide_eq_true c_28) hinv.2 c_33 c_39⟩ (by omega) _ _ _ w (lv_sub hl [4, 5, 2, 1, 0] rfl)
  exact lp 17 0 (-1) 0 ⟨by omega, rfl⟩ (by omega) _ _ _ w (lv_sub hl [3, 4, 2, 1, 0] rfl)

abbrev rc_X0_endsDiffer : Room := { frames := 0, cells := 0, slots := 0, locals := 0 }
set_option maxHeartbeats 4000000 in
set_option maxRecDepth 100000 in
theorem c_X0_endsDiffer (l : Launch) (k : kY) (h : hS) {P : Nat} (hP : pp P) : CT l k yX0_endsDiffer wsX0_endsDiffer rc_X0_endsDiffer [.ref (k.2.1 P)] h (QI k (fun r h' => r = bI (dfz (h.1 (P + 4)) (h.1 (P + 5)) 16) ∧ h' = h)) 0 0 := by
  refine q_metI (cc := cX0_endsDiffer) (maxL := 2) (ret := some .boolean) (ty := .boolean) (by decide) rfl rfl (Nat.le_of_ble_eq_true rfl) ?_
  intro p e s m args below meth c Q ls X w hl hret
  have hx := X.1
  have hb := X.2.1
  have hown := X.2.2.2.1
  have hts := X.2.2.2.2
  have hl : lv_has ls 2 [(0, .ref (k.2.1 P))] := hl
  have hi0 : ∀ w ∈ u_ws RX0 TX0 10, w ∈ wsX0_endsDiffer := by decide +kernel
  refine lv_iconst (v := nI 0) hx hb dX0_endsDiffer_0 (by decide) ?_
  refine lv_istore_n (lv' := [(1, .int (nI 0)), (0, .ref (k.2.1 P))]) hx hb dX0_endsDiffer_1 rfl hl (by decide) rfl (fun ls hl => ?_)
  have lp : ∀ (n : Nat) (t : Nat), (t ≤ 16 ∧ dfz (h.1 (P + 4)) (h.1 (P + 5)) t = false) → (16 - t) < n → ∀ (H : Heap) (locs : List Loc) (ls : Array Slot), WX k s H locs h → lv_has ls 2 [(0, .ref (k.2.1 P)), (1, .int (nI t))] → W p l e rc_X0_endsDiffer s m args below meth c H locs 0 0 Q (F0 m 2 ls []) := by
    intro n
    induction n with
    | zero => intro t _ hm; exact absurd hm (Nat.not_lt_zero _)
    | succ n ih =>
      intro t hinv hm H locs ls w hl
      have ht := hinv.1
      refine lv_iload_n hx hb dX0_endsDiffer_2 rfl (lv_at hl 1 rfl) ?_
      refine lv_bipush (v := nI 16) hx hb dX0_endsDiffer_3 (by decide) ?_
      refine q_icge X (tgt := 31) (by omega) (by decide) dX0_endsDiffer_5 (by decide) (fun c_5 => ?_) (fun c_5 => ?_)
      · refine lv_iconst (v := nI 0) hx hb dX0_endsDiffer_31 (by decide) ?_
        obtain rfl : t = 16 := by omega
        exact hret _ _ _ _ _ _ _ _ dX0_endsDiffer_32 w (by decide) ⟨by rw [hinv.2]; rfl, rfl⟩ (Nat.le_of_ble_eq_true rfl) (Nat.le_of_ble_eq_true rfl)
      · refine lv_aload_n hx hb dX0_endsDiffer_8 rfl (lv_at hl 0 rfl) ?_
        refine q_get X w P 3 (ci := 0) (pp_lt0 hP) (hE_p0 hP k _) rfl hi0 (by decide) (by decide +kernel) rfl dX0_endsDiffer_9 ?_
        refine lv_iload_n hx hb dX0_endsDiffer_12 rfl (lv_at hl 1 rfl) ?_
        refine q_iald X w (P + 4) t (pp_lt hP (c := 4) (by decide)) (hE_pi hP 4 (by decide) (by decide) k) rfl (by omega) (by decide) dX0_endsDiffer_13 ?_
        refine lv_aload_n hx hb dX0_endsDiffer_14 rfl (lv_at hl 0 rfl) ?_
        refine q_get X w P 4 (ci := 0) (pp_lt0 hP) (hE_p0 hP k _) rfl hi0 (by decide) (by decide +kernel) rfl dX0_endsDiffer_15 ?_
        refine lv_iload_n hx hb dX0_endsDiffer_18 rfl (lv_at hl 1 rfl) ?_
        refine q_iald X w (P + 5) t (pp_lt hP (c := 5) (by decide)) (hE_pi hP 5 (by decide) (by decide) k) rfl (by omega) (by decide) dX0_endsDiffer_19 ?_
        refine lv_icmp_eq (tgt := 25) hx hb dX0_endsDiffer_20 (by decide) (fun c_20 => ?_) (fun c_20 => ?_)
        · refine lv_iinc (v := nI (t + 1)) (lv' := [(1, .int (nI (t + 1))), (0, .ref (k.2.1 P))]) hx hb dX0_endsDiffer_25 hl (k := 1) rfl (nI_1 _) (by decide) rfl (fun ls hl => ?_)
          refine lv_goto (tgt := 2) hx hb dX0_endsDiffer_28 (by decide) ?_
          exact ih (t + 1) ⟨by omega, by rw [dfz, hinv.2, decide_eq_false (fun q => q c_20)]; rfl⟩ (by omega) _ _ _ w (lv_sub hl [1, 0] rfl)
        · refine lv_iconst (v := nI 1) hx hb dX0_endsDiffer_23 (by decide) ?_
          exact hret _ _ _ _ _ _ _ _ dX0_endsDiffer_24 w (by decide) ⟨by rw [dfz_up (n := t + 1) (by rw [dfz, decide_eq_true c_20, Bool.or_true]) (by omega)]; rfl, rfl⟩ (Nat.le_of_ble_eq_true rfl) (Nat.le_of_ble_eq_true rfl)
  exact lp 17 0 ⟨by omega, rfl⟩ (by omega) _ _ _ w (lv_sub hl [1, 0] rfl)

abbrev rc_X0_moveBit4 : Room := { frames := 1, cells := 0, slots := 0, locals := 20 }
set_option maxHeartbeats 4000000 in
set_option maxRecDepth 100000 in
theorem c_X0_moveBit4 (l : Launch) (k : kY) (h : hS) {P : Nat} (hP : pp P) {a b : Nat} (ha : a < 16) (hb : b < 16) : CT l k yX0_moveBit wsX0_moveBit rc_X0_moveBit4 [.ref (k.2.1 (P + 4)), .int (nI a), .int (nI b)] h (QV k (fun h' => h' = mvz h (P + 4) a b)) 0 0 := by
  refine q_metV (cc := cX0_moveBit) (maxL := 3) (by decide) rfl (Nat.le_of_ble_eq_true rfl) ?_
  intro p e s m args below meth c Q ls X w hl hret
  have hx := X.1
  have hb := X.2.1
  have hown := X.2.2.2.1
  have hts := X.2.2.2.2
  have hl : lv_has ls 3 [(0, .ref (k.2.1 (P + 4))), (1, .int (nI a)), (2, .int (nI b))] := hl
  refine lv_iload_n hx hb dX0_moveBit_0 rfl (lv_at hl 1 rfl) ?_
  refine q_calli w (q_runN X w (c_X4_isTone l k h (nI a)) ⟨va_cnB 1 hts gX0_moveBit_X4_isTone_n120 rfl rfl rfl (w.2.2.2.2.1 (RX0, 120, yX4_isTone) (by decide +kernel)) (hts (.initialized RX4) (by decide +kernel)) (by decide +kernel) ⟨Nat.le_of_ble_eq_true rfl, Nat.le_of_ble_eq_true rfl⟩, hts (.static yX4_isTone) (by decide +kernel), trivial⟩ rfl hl.1 rfl (Nat.le_of_ble_eq_true rfl) dX0_moveBit_1 ⟨Nat.le_of_ble_eq_true rfl, Nat.le_of_ble_eq_true rfl⟩) (fun r_1 h_1 H locs hp w => ?_)
  obtain ⟨hp, eh_1⟩ := hp
  rw [eh_1] at w
  have er_1 : r_1 = nI 1 := hp.elim (fun q => q.2) (fun q => absurd ⟨_, by omega, rfl⟩ q.1)
  subst er_1
  refine lv_if_eq (tgt := 28) hx hb dX0_moveBit_4 (by decide) (fun c_4 => ?_) (fun c_4 => ?_)
  · exact absurd c_4 (by decide)
  · refine lv_iload_n hx hb dX0_moveBit_7 rfl (lv_at hl 2 rfl) ?_
    refine q_calli w (q_runN X w (c_X4_isTone l k h (nI b)) ⟨va_cnB 1 hts gX0_moveBit_X4_isTone_n120 rfl rfl rfl (w.2.2.2.2.1 (RX0, 120, yX4_isTone) (by decide +kernel)) (hts (.initialized RX4) (by decide +kernel)) (by decide +kernel) ⟨Nat.le_of_ble_eq_true rfl, Nat.le_of_ble_eq_true rfl⟩, hts (.static yX4_isTone) (by decide +kernel), trivial⟩ rfl hl.1 rfl (Nat.le_of_ble_eq_true rfl) dX0_moveBit_8 ⟨Nat.le_of_ble_eq_true rfl, Nat.le_of_ble_eq_true rfl⟩) (fun r_8 h_8 H locs hp w => ?_)
    obtain ⟨hp, eh_8⟩ := hp
    rw [eh_8] at w
    have er_8 : r_8 = nI 1 := hp.elim (fun q => q.2) (fun q => absurd ⟨_, by omega, rfl⟩ q.1)
    subst er_8
    refine lv_if_eq (tgt := 28) hx hb dX0_moveBit_11 (by decide) (fun c_11 => ?_) (fun c_11 => ?_)
    · exact absurd c_11 (by decide)
    · refine lv_aload_n hx hb dX0_moveBit_14 rfl (lv_at hl 0 rfl) ?_
      refine lv_iload_n hx hb dX0_moveBit_15 rfl (lv_at hl 1 rfl) ?_
      refine lv_dup2_11 hx hb dX0_moveBit_16 rfl rfl ?_
      refine q_iald X w (P + 4) a (pp_lt hP (c := 4) (by decide)) (hE_pi hP 4 (by decide) (by decide) k) rfl (by omega) (by decide) dX0_moveBit_17 ?_
      refine lv_iconst (v := nI 1) hx hb dX0_moveBit_18 (by decide) ?_
      refine lv_isub hx hb dX0_moveBit_19 ?_
      refine lv_topi (fun x_20 ex_20 => ?_)
      refine q_iast X w (P + 4) a (pp_lt hP (c := 4) (by decide)) (hE_pi hP 4 (by decide) (by decide) k) rfl (by omega) (by decide) dX0_moveBit_20 (fun H locs w => ?_)
      obtain ⟨h_20, eh_20⟩ : ∃ z, z = upI h (P + 4) a x_20 := ⟨_, rfl⟩
      rw [← eh_20] at w
      refine lv_aload_n hx hb dX0_moveBit_21 rfl (lv_at hl 0 rfl) ?_
      refine lv_iload_n hx hb dX0_moveBit_22 rfl (lv_at hl 2 rfl) ?_
      refine lv_dup2_11 hx hb dX0_moveBit_23 rfl rfl ?_
      refine q_iald X w (P + 4) b (pp_lt hP (c := 4) (by decide)) (hE_pi hP 4 (by decide) (by decide) k) rfl (by omega) (by decide) dX0_moveBit_24 ?_
      refine lv_iconst (v := nI 1) hx hb dX0_moveBit_25 (by decide) ?_
      refine lv_iadd hx hb dX0_moveBit_26 ?_
      refine lv_topi (fun x_27 ex_27 => ?_)
      refine q_iast X w (P + 4) b (pp_lt hP (c := 4) (by decide)) (hE_pi hP 4 (by decide) (by decide) k) rfl (by omega) (by decide) dX0_moveBit_27 (fun H locs w => ?_)
      obtain ⟨h_27, eh_27⟩ : ∃ z, z = upI h_20 (P + 4) b x_27 := ⟨_, rfl⟩
      rw [← eh_27] at w
      have e9 : h_27 = mvz h (P + 4) a b := by rw [eh_27, ex_27, eh_20, ex_20]; rfl
      exact hret _ _ _ _ _ _ _ dX0_moveBit_28 w e9 (Nat.le_of_ble_eq_true rfl) (Nat.le_of_ble_eq_true rfl)

abbrev rc_X0_moveBit5 : Room := { frames := 1, cells := 0, slots := 0, locals := 20 }
set_option maxHeartbeats 4000000 in
set_option maxRecDepth 100000 in
theorem c_X0_moveBit5 (l : Launch) (k : kY) (h : hS) {P : Nat} (hP : pp P) {a b : Nat} (ha : a < 16) (hb : b < 16) : CT l k yX0_moveBit wsX0_moveBit rc_X0_moveBit5 [.ref (k.2.1 (P + 5)), .int (nI a), .int (nI b)] h (QV k (fun h' => h' = mvz h (P + 5) a b)) 0 0 := by
  refine q_metV (cc := cX0_moveBit) (maxL := 3) (by decide) rfl (Nat.le_of_ble_eq_true rfl) ?_
  intro p e s m args below meth c Q ls X w hl hret
  have hx := X.1
  have hb := X.2.1
  have hown := X.2.2.2.1
  have hts := X.2.2.2.2
  have hl : lv_has ls 3 [(0, .ref (k.2.1 (P + 5))), (1, .int (nI a)), (2, .int (nI b))] := hl
  refine lv_iload_n hx hb dX0_moveBit_0 rfl (lv_at hl 1 rfl) ?_
  refine q_calli w (q_runN X w (c_X4_isTone l k h (nI a)) ⟨va_cnB 1 hts gX0_moveBit_X4_isTone_n120 rfl rfl rfl (w.2.2.2.2.1 (RX0, 120, yX4_isTone) (by decide +kernel)) (hts (.initialized RX4) (by decide +kernel)) (by decide +kernel) ⟨Nat.le_of_ble_eq_true rfl, Nat.le_of_ble_eq_true rfl⟩, hts (.static yX4_isTone) (by decide +kernel), trivial⟩ rfl hl.1 rfl (Nat.le_of_ble_eq_true rfl) dX0_moveBit_1 ⟨Nat.le_of_ble_eq_true rfl, Nat.le_of_ble_eq_true rfl⟩) (fun r_1 h_1 H locs hp w => ?_)
  obtain ⟨hp, eh_1⟩ := hp
  rw [eh_1] at w
  have er_1 : r_1 = nI 1 := hp.elim (fun q => q.2) (fun q => absurd ⟨_, by omega, rfl⟩ q.1)
  subst er_1
  refine lv_if_eq (tgt := 28) hx hb dX0_moveBit_4 (by decide) (fun c_4 => ?_) (fun c_4 => ?_)
  · exact absurd c_4 (by decide)
  · refine lv_iload_n hx hb dX0_moveBit_7 rfl (lv_at hl 2 rfl) ?_
    refine q_calli w (q_runN X w (c_X4_isTone l k h (nI b)) ⟨va_cnB 1 hts gX0_moveBit_X4_isTone_n120 rfl rfl rfl (w.2.2.2.2.1 (RX0, 120, yX4_isTone) (by decide +kernel)) (hts (.initialized RX4) (by decide +kernel)) (by decide +kernel) ⟨Nat.le_of_ble_eq_true rfl, Nat.le_of_ble_eq_true rfl⟩, hts (.static yX4_isTone) (by decide +kernel), trivial⟩ rfl hl.1 rfl (Nat.le_of_ble_eq_true rfl) dX0_moveBit_8 ⟨Nat.le_of_ble_eq_true rfl, Nat.le_of_ble_eq_true rfl⟩) (fun r_8 h_8 H locs hp w => ?_)
    obtain ⟨hp, eh_8⟩ := hp
    rw [eh_8] at w
    have er_8 : r_8 = nI 1 := hp.elim (fun q => q.2) (fun q => absurd ⟨_, by omega, rfl⟩ q.1)
    subst er_8
    refine lv_if_eq (tgt := 28) hx hb dX0_moveBit_11 (by decide) (fun c_11 => ?_) (fun c_11 => ?_)
    · exact absurd c_11 (by decide)
    · refine lv_aload_n hx hb dX0_moveBit_14 rfl (lv_at hl 0 rfl) ?_
      refine lv_iload_n hx hb dX0_moveBit_15 rfl (lv_at hl 1 rfl) ?_
      refine lv_dup2_11 hx hb dX0_moveBit_16 rfl rfl ?_
      refine q_iald X w (P + 5) a (pp_lt hP (c := 5) (by decide)) (hE_pi hP 5 (by decide) (by decide) k) rfl (by omega) (by decide) dX0_moveBit_17 ?_
      refine lv_iconst (v := nI 1) hx hb dX0_moveBit_18 (by decide) ?_
      refine lv_isub hx hb dX0_moveBit_19 ?_
      refine lv_topi (fun x_20 ex_20 => ?_)
      refine q_iast X w (P + 5) a (pp_lt hP (c := 5) (by decide)) (hE_pi hP 5 (by decide) (by decide) k) rfl (by omega) (by decide) dX0_moveBit_20 (fun H locs w => ?_)
      obtain ⟨h_20, eh_20⟩ : ∃ z, z = upI h (P + 5) a x_20 := ⟨_, rfl⟩
      rw [← eh_20] at w
      refine lv_aload_n hx hb dX0_moveBit_21 rfl (lv_at hl 0 rfl) ?_
      refine lv_iload_n hx hb dX0_moveBit_22 rfl (lv_at hl 2 rfl) ?_
      refine lv_dup2_11 hx hb dX0_moveBit_23 rfl rfl ?_
      refine q_iald X w (P + 5) b (pp_lt hP (c := 5) (by decide)) (hE_pi hP 5 (by decide) (by decide) k) rfl (by omega) (by decide) dX0_moveBit_24 ?_
      refine lv_iconst (v := nI 1) hx hb dX0_moveBit_25 (by decide) ?_
      refine lv_iadd hx hb dX0_moveBit_26 ?_
      refine lv_topi (fun x_27 ex_27 => ?_)
      refine q_iast X w (P + 5) b (pp_lt hP (c := 5) (by decide)) (hE_pi hP 5 (by decide) (by decide) k) rfl (by omega) (by decide) dX0_moveBit_27 (fun H locs w => ?_)
      obtain ⟨h_27, eh_27⟩ : ∃ z, z = upI h_20 (P + 5) b x_27 := ⟨_, rfl⟩
      rw [← eh_27] at w
      have e9 : h_27 = mvz h (P + 5) a b := by rw [eh_27, ex_27, eh_20, ex_20]; rfl
      exact hret _ _ _ _ _ _ _ dX0_moveBit_28 w e9 (Nat.le_of_ble_eq_true rfl) (Nat.le_of_ble_eq_true rfl)

abbrev rc_X0_renewEnergy : Room := { frames := 2, cells := 0, slots := 0, locals := 44 }
set_option maxHeartbeats 4000000 in
set_option maxRecDepth 100000 in
theorem c_X0_renewEnergy (l : Launch) (k : kY) (h : hS) {P P2 : Nat} (hP : pp P) (hP2 : pp P2) {t : Nat} (ht : t < 16) : CT l k yX0_renewEnergy wsX0_renewEnergy rc_X0_renewEnergy [.ref (k.2.1 P), .int (nI t), .ref (k.2.1 P2)] h (QV k (fun h' => h' = upL h (P + 6) t (capz (ndP h P P2 t)))) 0 0 := by
  refine q_metV (cc := cX0_renewEnergy) (maxL := 3) (by decide) rfl (Nat.le_of_ble_eq_true rfl) ?_
  intro p e s m args below meth c Q ls X w hl hret
  have hx := X.1
  have hb := X.2.1
  have hown := X.2.2.2.1
  have hts := X.2.2.2.2
  have hl : lv_has ls 3 [(0, .ref (k.2.1 P)), (1, .int (nI t)), (2, .ref (k.2.1 P2))] := hl
  have hi0 : ∀ w ∈ u_ws RX0 TX0 10, w ∈ wsX0_renewEnergy := by decide +kernel
  refine lv_iload_n hx hb dX0_renewEnergy_0 rfl (lv_at hl 1 rfl) ?_
  refine q_calli w (q_runN X w (c_X4_isTone l k h (nI t)) ⟨va_cnB 1 hts gX0_renewEnergy_X4_isTone_n120 rfl rfl rfl (w.2.2.2.2.1 (RX0, 120, yX4_isTone) (by decide +kernel)) (hts (.initialized RX4) (by decide +kernel)) (by decide +kernel) ⟨Nat.le_of_ble_eq_true rfl, Nat.le_of_ble_eq_true rfl⟩, hts (.static yX4_isTone) (by decide +kernel), trivial⟩ rfl hl.1 rfl (Nat.le_of_ble_eq_true rfl) dX0_renewEnergy_1 ⟨Nat.le_of_ble_eq_true rfl, Nat.le_of_ble_eq_true rfl⟩) (fun r_1 h_1 H locs hp w => ?_)
  obtain ⟨hp, eh_1⟩ := hp
  rw [eh_1] at w
  have er_1 : r_1 = nI 1 := hp.elim (fun q => q.2) (fun q => absurd ⟨_, by omega, rfl⟩ q.1)
  subst er_1
  refine lv_if_eq (tgt := 22) hx hb dX0_renewEnergy_4 (by decide) (fun c_4 => ?_) (fun c_4 => ?_)
  · exact absurd c_4 (by decide)
  · refine lv_aload_n hx hb dX0_renewEnergy_7 rfl (lv_at hl 0 rfl) ?_
    refine q_get X w P 5 (ci := 0) (pp_lt0 hP) (hE_p0 hP k _) rfl hi0 (by decide) (by decide +kernel) rfl dX0_renewEnergy_8 ?_
    refine lv_iload_n hx hb dX0_renewEnergy_11 rfl (lv_at hl 1 rfl) ?_
    refine lv_aload_n hx hb dX0_renewEnergy_12 rfl (lv_at hl 0 rfl) ?_
    refine lv_aload_n hx hb dX0_renewEnergy_13 rfl (lv_at hl 2 rfl) ?_
    refine lv_iload_n hx hb dX0_renewEnergy_14 rfl (lv_at hl 1 rfl) ?_
    refine q_calll w (q_runV X w P (c_X0_needBeside l k h hP hP2 (t := t) (by omega)) (cwV 2 hts gX0_renewEnergy_X0_needBeside rfl rfl rfl (by decide +kernel) ⟨Nat.le_of_ble_eq_true rfl, Nat.le_of_ble_eq_true rfl⟩) (pp_lt0 hP) (hE_p0 hP k _) rfl rfl hl.1 rfl (Nat.le_of_ble_eq_true rfl) dX0_renewEnergy_15 ⟨Nat.le_of_ble_eq_true rfl, Nat.le_of_ble_eq_true rfl⟩) (fun r_15 h_15 H locs hp w => ?_)
    obtain ⟨er_15, eh_15⟩ := hp
    rw [eh_15] at w
    have er_15 : r_15 = ndP h P P2 t := er_15
    subst er_15
    refine q_calll w (q_runN X w (c_X4_cappedEnergy l k h (ndP h P P2 t)) ⟨va_cnB 1 hts gX0_renewEnergy_X4_cappedEnergy_n123 rfl rfl rfl (w.2.2.2.2.1 (RX0, 123, yX4_cappedEnergy) (by decide +kernel)) (hts (.initialized RX4) (by decide +kernel)) (by decide +kernel) ⟨Nat.le_of_ble_eq_true rfl, Nat.le_of_ble_eq_true rfl⟩, hts (.static yX4_cappedEnergy) (by decide +kernel), trivial⟩ rfl hl.1 rfl (Nat.le_of_ble_eq_true rfl) dX0_renewEnergy_18 ⟨Nat.le_of_ble_eq_true rfl, Nat.le_of_ble_eq_true rfl⟩) (fun r_18 h_18 H locs hp w => ?_)
    obtain ⟨er_18, eh_18⟩ := hp
    rw [eh_18] at w
    have er_18 : r_18 = capz (ndP h P P2 t) := er_18
    subst er_18
    refine q_last X w (P + 6) t (pp_lt hP (c := 6) (by decide)) (hE_p6 hP k) rfl (by omega) (by decide) dX0_renewEnergy_21 (fun H locs w => ?_)
    obtain ⟨h_21, eh_21⟩ : ∃ z, z = upL h (P + 6) t (capz (ndP h P P2 t)) := ⟨_, rfl⟩
    rw [← eh_21] at w
    exact hret _ _ _ _ _ _ _ dX0_renewEnergy_22 w eh_21 (Nat.le_of_ble_eq_true rfl) (Nat.le_of_ble_eq_true rfl)

abbrev rc_X0_countFrame : Room := { frames := 0, cells := 0, slots := 0, locals := 0 }
set_option maxHeartbeats 4000000 in
set_option maxRecDepth 100000 in
theorem c_X0_countFrame (l : Launch) (k : kY) (h : hS) {P : Nat} (hP : pp P) : CT l k yX0_countFrame wsX0_countFrame rc_X0_countFrame [.ref (k.2.1 P)] h (QV k (fun h' => h' = if h.1 P 9 = 0 then h else upI h P 8 (h.1 P 8 + nI 1))) 0 0 := by
  refine q_metV (cc := cX0_countFrame) (maxL := 1) (by decide) rfl (Nat.le_of_ble_eq_true rfl) ?_
  intro p e s m args below meth c Q ls X w hl hret
  have hx := X.1
  have hb := X.2.1
  have hown := X.2.2.2.1
  have hts := X.2.2.2.2
  have hl : lv_has ls 1 [(0, .ref (k.2.1 P))] := hl
  have hi0 : ∀ w ∈ u_ws RX0 TX0 10, w ∈ wsX0_countFrame := by decide +kernel
  refine lv_aload_n hx hb dX0_countFrame_0 rfl (lv_at hl 0 rfl) ?_
  refine q_get X w P 9 (ci := 0) (pp_lt0 hP) (hE_p0 hP k _) rfl hi0 (by decide) (by decide +kernel) rfl dX0_countFrame_1 ?_
  refine lv_if_eq (tgt := 17) hx hb dX0_countFrame_4 (by decide) (fun c_4 => ?_) (fun c_4 => ?_)
  · exact hret _ _ _ _ _ _ _ dX0_countFrame_17 w (by rw [if_pos c_4]) (Nat.le_of_ble_eq_true rfl) (Nat.le_of_ble_eq_true rfl)
  · refine lv_aload_n hx hb dX0_countFrame_7 rfl (lv_at hl 0 rfl) ?_
    refine lv_dup hx hb dX0_countFrame_8 rfl ?_
    refine q_get X w P 8 (ci := 0) (pp_lt0 hP) (hE_p0 hP k _) rfl hi0 (by decide) (by decide +kernel) rfl dX0_countFrame_9 ?_
    refine lv_iconst (v := nI 1) hx hb dX0_countFrame_12 (by decide) ?_
    refine lv_iadd hx hb dX0_countFrame_13 ?_
    refine q_put X w P 8 .int (ci := 0) (pp_lt0 hP) (hE_p0 hP k _) (by rw [hE_p0 hP k, upI_s]; rfl) rfl hi0 tyX0_ok nmX0 (by decide) (by decide +kernel) rfl (by decide +kernel) (rfl) (rfl) (Nat.le_of_ble_eq_true rfl) dX0_countFrame_14 (fun H locs w => ?_)
    obtain ⟨h_14, eh_14⟩ : ∃ z, z = upI h P 8 ((h.1 P 8) + (nI 1)) := ⟨_, rfl⟩
    rw [← eh_14] at w
    exact hret _ _ _ _ _ _ _ dX0_countFrame_17 w (by rw [if_neg c_4]; exact eh_14) (Nat.le_of_ble_eq_true rfl) (Nat.le_of_ble_eq_true rfl)

abbrev rc_X3_isDue : Room := { frames := 0, cells := 0, slots := 0, locals := 0 }
set_option maxHeartbeats 4000000 in
set_option maxRecDepth 100000 in
theorem c_X3_isDue (l : Launch) (k : kY) (h : hS) {P : Nat} (hP : pp P) (f : Int32) : CT l k yX3_isDue wsX3_isDue rc_X3_isDue [.ref (k.2.1 (P + 7)), .int f] h (QI k (fun r h' => ((duz h (P + 7) f ∧ r = nI 1) ∨ (¬ duz h (P + 7) f ∧ r = nI 0)) ∧ h' = h)) 0 0 := by
  refine q_metI (cc := cX3_isDue) (maxL := 2) (ret := some .boolean) (ty := .boolean) (by decide) rfl rfl (Nat.le_of_ble_eq_true rfl) ?_
  intro p e s m args below meth c Q ls X w hl hret
  have hx := X.1
  have hb := X.2.1
  have hown := X.2.2.2.1
  have hts := X.2.2.2.2
  have hl : lv_has ls 2 [(0, .ref (k.2.1 (P + 7))), (1, .int f)] := hl
  have hi3 : ∀ w ∈ u_ws RX3 TX3 14, w ∈ wsX3_isDue := by decide +kernel
  refine lv_aload_n hx hb dX3_isDue_0 rfl (lv_at hl 0 rfl) ?_
  refine q_get X w (P + 7) 1 (ci := 3) (pp_lt hP (c := 7) (by decide)) (hE_p7 hP k _) rfl hi3 (by decide) (by decide +kernel) rfl dX3_isDue_1 ?_
  refine lv_if_eq (tgt := 27) hx hb dX3_isDue_4 (by decide) (fun c_4 => ?_) (fun c_4 => ?_)
  · refine lv_iconst (v := nI 0) hx hb dX3_isDue_27 (by decide) ?_
    exact hret _ _ _ _ _ _ _ _ dX3_isDue_28 w (by decide) ⟨Or.inr ⟨by first | exact fun q => q.1 c_4 | exact fun q => q.2.1 c_12 | exact fun q => q.2.2 c_20, rfl⟩, rfl⟩ (Nat.le_of_ble_eq_true rfl) (Nat.le_of_ble_eq_true rfl)
  · refine lv_aload_n hx hb dX3_isDue_7 rfl (lv_at hl 0 rfl) ?_
    refine q_get X w (P + 7) 5 (ci := 3) (pp_lt hP (c := 7) (by decide)) (hE_p7 hP k _) rfl hi3 (by decide) (by decide +kernel) rfl dX3_isDue_8 ?_
    refine lv_iconst (v := (-1)) hx hb dX3_isDue_11 (by decide) ?_
    refine lv_icmp_eq (tgt := 27) hx hb dX3_isDue_12 (by decide) (fun c_12 => ?_) (fun c_12 => ?_)
    · refine lv_iconst (v := nI 0) hx hb dX3_isDue_27 (by decide) ?_
      exact hret _ _ _ _ _ _ _ _ dX3_isDue_28 w (by decide) ⟨Or.inr ⟨by first | exact fun q => q.1 c_4 | exact fun q => q.2.1 c_12 | exact fun q => q.2.2 c_20, rfl⟩, rfl⟩ (Nat.le_of_ble_eq_true rfl) (Nat.le_of_ble_eq_true rfl)
    · refine lv_aload_n hx hb dX3_isDue_15 rfl (lv_at hl 0 rfl) ?_
      refine q_get X w (P + 7) 5 (ci := 3) (pp_lt hP (c := 7) (by decide)) (hE_p7 hP k _) rfl hi3 (by decide) (by decide +kernel) rfl dX3_isDue_16 ?_
      refine lv_iload_n hx hb dX3_isDue_19 rfl (lv_at hl 1 rfl) ?_
      refine lv_icmp_gt (tgt := 27) hx hb dX3_isDue_20 (by decide) (fun c_20 => ?_) (fun c_20 => ?_)
      · refine lv_iconst (v := nI 0) hx hb dX3_isDue_27 (by decide) ?_
        exact hret _ _ _ _ _ _ _ _ dX3_isDue_28 w (by decide) ⟨Or.inr ⟨by first | exact fun q => q.1 c_4 | exact fun q => q.2.1 c_12 | exact fun q => q.2.2 c_20, rfl⟩, rfl⟩ (Nat.le_of_ble_eq_true rfl) (Nat.le_of_ble_eq_true rfl)
      · refine lv_iconst (v := nI 1) hx hb dX3_isDue_23 (by decide) ?_
        refine lv_goto (tgt := 28) hx hb dX3_isDue_24 (by decide) ?_
        exact hret _ _ _ _ _ _ _ _ dX3_isDue_28 w (by decide) ⟨Or.inl ⟨⟨c_4, c_12, c_20⟩, rfl⟩, rfl⟩ (Nat.le_of_ble_eq_true rfl) (Nat.le_of_ble_eq_true rfl)
