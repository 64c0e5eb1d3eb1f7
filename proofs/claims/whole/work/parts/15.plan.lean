abbrev rc_X2_copyFrom : Room := { frames := 2, cells := 0, slots := 0, locals := 51 }
set_option maxHeartbeats 4000000 in
set_option maxRecDepth 100000 in
theorem c_X2_copyFrom (l : Launch) (k : kY) (h : hS) {S S2 : Nat} (h6 : 6 ≤ S) (h10 : S ≤ 10) (g6 : 6 ≤ S2) (g10 : S2 ≤ 10) (hne : S ≠ S2) (f0 : fgP h (16 * S2 - 85)) (f1 : fgP h (16 * S2 - 77)) : CT l k yX2_copyFrom wsX2_copyFrom rc_X2_copyFrom [.ref (k.2.1 S), .ref (k.2.1 S2)] h (QV k (fun h' => h' = cpS h S S2)) 0 0 := by
  refine q_metV (cc := cX2_copyFrom) (maxL := 2) (by decide) rfl (Nat.le_of_ble_eq_true rfl) ?_
  intro p e s m args below meth c Q ls X w hl hret
  have hx := X.1
  have hb := X.2.1
  have hown := X.2.2.2.1
  have hts := X.2.2.2.2
  have hl : lv_has ls 2 [(0, .ref (k.2.1 S)), (1, .ref (k.2.1 S2))] := hl
  have hi2 : ∀ w ∈ u_ws RX2 TX2 3, w ∈ wsX2_copyFrom := by decide +kernel
  have p0 : pp (16 * S - 85) := by unfold pp; omega
  have p1 : pp (16 * S - 77) := by unfold pp; omega
  have q0 : pp (16 * S2 - 85) := by unfold pp; omega
  have q1 : pp (16 * S2 - 77) := by unfold pp; omega
  refine lv_aload_n hx hb dX2_copyFrom_0 rfl (lv_at hl 0 rfl) ?_
  refine lv_aload_n hx hb dX2_copyFrom_1 rfl (lv_at hl 1 rfl) ?_
  refine q_get X w S2 0 (ci := 2) (Nat.lt_of_le_of_lt g10 (by decide)) (hE_st g6 g10 k _) rfl hi2 (by decide) (by decide +kernel) rfl dX2_copyFrom_2 ?_
  refine q_put X w S 0 .int (ci := 2) (Nat.lt_of_le_of_lt h10 (by decide)) (hE_st h6 h10 k _) (by rw [hE_st h6 h10 k, upI_s]; rfl) rfl hi2 tyX2_ok nmX2 (by decide) (by decide +kernel) rfl (by decide +kernel) (rfl) (rfl) (Nat.le_of_ble_eq_true rfl) dX2_copyFrom_5 (fun H locs w => ?_)
  obtain ⟨h_5, eh_5⟩ : ∃ z, z = upI h S 0 (h.1 S2 0) := ⟨_, rfl⟩
  rw [← eh_5] at w
  have e8 : hE k (setI h_5 S (h.1 S2)) S = hE k h_5 S := by rw [hE_st h6 h10, hE_st h6 h10, setI_s, eh_5, upI_s]; rfl
  have w := w.nO S (h.1 S2) e8
  have e7 : setI h_5 S (h.1 S2) = setI h S (h.1 S2) := by rw [eh_5, upI_set, setI_setI]
  rw [e7] at w
  obtain ⟨g5, eg5⟩ : ∃ z, z = setI h S (h.1 S2) := ⟨_, rfl⟩
  rw [← eg5] at w
  refine lv_aload_n hx hb dX2_copyFrom_8 rfl (lv_at hl 0 rfl) ?_
  refine q_get X w S 1 (ci := 2) (Nat.lt_of_le_of_lt h10 (by decide)) (hE_st h6 h10 k _) rfl hi2 (by decide) (by decide +kernel) rfl dX2_copyFrom_9 ?_
  refine lv_aload_n hx hb dX2_copyFrom_12 rfl (lv_at hl 1 rfl) ?_
  refine q_get X w S2 1 (ci := 2) (Nat.lt_of_le_of_lt g10 (by decide)) (hE_st g6 g10 k _) rfl hi2 (by decide) (by decide +kernel) rfl dX2_copyFrom_13 ?_
  refine q_callv w (q_runV X w (16 * S - 85) (c_X0_copyFrom l k g5 p0 q0 (by omega) (fgP_of (h := h) (by rw [eg5, setI_o _ _ (by omega)]) (by rw [eg5, setI_o _ _ (by omega)]) f0)) (cwV 1 hts gX2_copyFrom_X0_copyFrom rfl rfl rfl (by decide +kernel) ⟨Nat.le_of_ble_eq_true rfl, Nat.le_of_ble_eq_true rfl⟩) (pp_lt0 p0) (hE_p0 p0 k _) rfl rfl hl.1 rfl (Nat.le_of_ble_eq_true rfl) dX2_copyFrom_16 ⟨Nat.le_of_ble_eq_true rfl, Nat.le_of_ble_eq_true rfl⟩) (fun h_16 H locs hp w => ?_)
  have eh_16 := hp
  refine lv_aload_n hx hb dX2_copyFrom_19 rfl (lv_at hl 0 rfl) ?_
  refine q_get X w S 2 (ci := 2) (Nat.lt_of_le_of_lt h10 (by decide)) (hE_st h6 h10 k _) rfl hi2 (by decide) (by decide +kernel) rfl dX2_copyFrom_20 ?_
  refine lv_aload_n hx hb dX2_copyFrom_23 rfl (lv_at hl 1 rfl) ?_
  refine q_get X w S2 2 (ci := 2) (Nat.lt_of_le_of_lt g10 (by decide)) (hE_st g6 g10 k _) rfl hi2 (by decide) (by decide +kernel) rfl dX2_copyFrom_24 ?_
  refine q_callv w (q_runV X w (16 * S - 77) (c_X0_copyFrom l k h_16 p1 q1 (by omega) (fgP_of (h := h) (by rw [eh_16, cpP_o1 _ _ _ _ (by omega), eg5, setI_o _ _ (by omega)]) (by rw [eh_16, cpP_o1 _ _ _ _ (by omega), eg5, setI_o _ _ (by omega)]) f1)) (cwV 1 hts gX2_copyFrom_X0_copyFrom rfl rfl rfl (by decide +kernel) ⟨Nat.le_of_ble_eq_true rfl, Nat.le_of_ble_eq_true rfl⟩) (pp_lt0 p1) (hE_p0 p1 k _) rfl rfl hl.1 rfl (Nat.le_of_ble_eq_true rfl) dX2_copyFrom_27 ⟨Nat.le_of_ble_eq_true rfl, Nat.le_of_ble_eq_true rfl⟩) (fun h_27 H locs hp w => ?_)
  have eh_27 := hp
  exact hret _ _ _ _ _ _ _ dX2_copyFrom_30 w (by rw [eh_27, eh_16, eg5]; rfl) (Nat.le_of_ble_eq_true rfl) (Nat.le_of_ble_eq_true rfl)

abbrev rc_X2_passFrame : Room := { frames := 4, cells := 0, slots := 0, locals := 90 }
set_option maxHeartbeats 4000000 in
set_option maxRecDepth 100000 in
theorem c_X2_passFrame (l : Launch) (k : kY) (h : hS) (ok : fOK h) : CT l k yX2_passFrame wsX2_passFrame rc_X2_passFrame [.ref (k.2.1 6)] h (QV k (fun h' => h' = psz h)) 0 0 := by
  refine q_metV (cc := cX2_passFrame) (maxL := 1) (by decide) rfl (Nat.le_of_ble_eq_true rfl) ?_
  intro p e s m args below meth c Q ls X w hl hret
  have hx := X.1
  have hb := X.2.1
  have hown := X.2.2.2.1
  have hts := X.2.2.2.2
  have hl : lv_has ls 1 [(0, .ref (k.2.1 6))] := hl
  have hi2 : ∀ w ∈ u_ws RX2 TX2 3, w ∈ wsX2_passFrame := by decide +kernel
  refine lv_aload_n hx hb dX2_passFrame_0 rfl (lv_at hl 0 rfl) ?_
  refine lv_dup hx hb dX2_passFrame_1 rfl ?_
  refine q_get X w 6 0 (ci := 2) (by decide) rfl rfl hi2 (by decide) (by decide +kernel) rfl dX2_passFrame_2 ?_
  refine lv_iconst (v := nI 1) hx hb dX2_passFrame_5 (by decide) ?_
  refine lv_iadd hx hb dX2_passFrame_6 ?_
  refine q_put X w 6 0 .int (ci := 2) (by decide) rfl rfl rfl hi2 tyX2_ok nmX2 (by decide) (by decide +kernel) rfl (by decide +kernel) (rfl) (rfl) (Nat.le_of_ble_eq_true rfl) dX2_passFrame_7 (fun H locs w => ?_)
  obtain ⟨h_7, eh_7⟩ : ∃ z, z = upI h 6 0 ((h.1 6 0) + (nI 1)) := ⟨_, rfl⟩
  rw [← eh_7] at w
  refine lv_aload_n hx hb dX2_passFrame_10 rfl (lv_at hl 0 rfl) ?_
  refine q_get X w 6 1 (ci := 2) (by decide) rfl rfl hi2 (by decide) (by decide +kernel) rfl dX2_passFrame_11 ?_
  refine lv_aload_n hx hb dX2_passFrame_14 rfl (lv_at hl 0 rfl) ?_
  refine q_get X w 6 0 (ci := 2) (by decide) rfl rfl hi2 (by decide) (by decide +kernel) rfl dX2_passFrame_15 ?_
  have ef : h_7.1 6 0 = h.1 6 0 + nI 1 := by rw [eh_7, upI_s]; rfl
  rw [ef]
  refine lv_aload_n hx hb dX2_passFrame_18 rfl (lv_at hl 0 rfl) ?_
  refine q_get X w 6 2 (ci := 2) (by decide) rfl rfl hi2 (by decide) (by decide +kernel) rfl dX2_passFrame_19 ?_
  refine q_callv w (q_runV X w 11 (c_X0_enterFrame l k h_7 pp11 pp19 (h.1 6 0 + nI 1) (by rw [eh_7]; exact ok.1) (by rw [eh_7]; exact ok.2.1)) (cwV 2 hts gX2_passFrame_X0_enterFrame rfl rfl rfl (by decide +kernel) ⟨Nat.le_of_ble_eq_true rfl, Nat.le_of_ble_eq_true rfl⟩) (by decide) (hE_p0 pp11 k _) rfl rfl hl.1 rfl (Nat.le_of_ble_eq_true rfl) dX2_passFrame_22 ⟨Nat.le_of_ble_eq_true rfl, Nat.le_of_ble_eq_true rfl⟩) (fun h_22 H locs hp w => ?_)
  have eh_22 := hp
  refine lv_aload_n hx hb dX2_passFrame_25 rfl (lv_at hl 0 rfl) ?_
  refine q_get X w 6 2 (ci := 2) (by decide) rfl rfl hi2 (by decide) (by decide +kernel) rfl dX2_passFrame_26 ?_
  refine lv_aload_n hx hb dX2_passFrame_29 rfl (lv_at hl 0 rfl) ?_
  refine q_get X w 6 0 (ci := 2) (by decide) rfl rfl hi2 (by decide) (by decide +kernel) rfl dX2_passFrame_30 ?_
  have ef : h_22.1 6 0 = h.1 6 0 + nI 1 := by rw [eh_22, efz_o _ _ _ _ (by decide) (by decide) (by decide) (by decide)]; exact ef
  rw [ef]
  refine lv_aload_n hx hb dX2_passFrame_33 rfl (lv_at hl 0 rfl) ?_
  refine q_get X w 6 1 (ci := 2) (by decide) rfl rfl hi2 (by decide) (by decide +kernel) rfl dX2_passFrame_34 ?_
  refine q_callv w (q_runV X w 19 (c_X0_enterFrame l k h_22 pp19 pp11 (h.1 6 0 + nI 1) (by rw [eh_22, eh_7]; exact ok.2.2.1) (by rw [eh_22, eh_7]; exact ok.2.2.2)) (cwV 2 hts gX2_passFrame_X0_enterFrame rfl rfl rfl (by decide +kernel) ⟨Nat.le_of_ble_eq_true rfl, Nat.le_of_ble_eq_true rfl⟩) (by decide) (hE_p0 pp19 k _) rfl rfl hl.1 rfl (Nat.le_of_ble_eq_true rfl) dX2_passFrame_37 ⟨Nat.le_of_ble_eq_true rfl, Nat.le_of_ble_eq_true rfl⟩) (fun h_37 H locs hp w => ?_)
  have eh_37 := hp
  refine lv_aload_n hx hb dX2_passFrame_40 rfl (lv_at hl 0 rfl) ?_
  refine q_get X w 6 1 (ci := 2) (by decide) rfl rfl hi2 (by decide) (by decide +kernel) rfl dX2_passFrame_41 ?_
  refine q_callv w (q_runV X w 11 (c_X0_countFrame l k h_37 pp11) (cwV 0 hts gX2_passFrame_X0_countFrame rfl rfl rfl (by decide +kernel) ⟨Nat.le_of_ble_eq_true rfl, Nat.le_of_ble_eq_true rfl⟩) (by decide) (hE_p0 pp11 k _) rfl rfl hl.1 rfl (Nat.le_of_ble_eq_true rfl) dX2_passFrame_44 ⟨Nat.le_of_ble_eq_true rfl, Nat.le_of_ble_eq_true rfl⟩) (fun h_44 H locs hp w => ?_)
  have eh_44 := hp
  refine lv_aload_n hx hb dX2_passFrame_47 rfl (lv_at hl 0 rfl) ?_
  refine q_get X w 6 2 (ci := 2) (by decide) rfl rfl hi2 (by decide) (by decide +kernel) rfl dX2_passFrame_48 ?_
  refine q_callv w (q_runV X w 19 (c_X0_countFrame l k h_44 pp19) (cwV 0 hts gX2_passFrame_X0_countFrame rfl rfl rfl (by decide +kernel) ⟨Nat.le_of_ble_eq_true rfl, Nat.le_of_ble_eq_true rfl⟩) (by decide) (hE_p0 pp19 k _) rfl rfl hl.1 rfl (Nat.le_of_ble_eq_true rfl) dX2_passFrame_51 ⟨Nat.le_of_ble_eq_true rfl, Nat.le_of_ble_eq_true rfl⟩) (fun h_51 H locs hp w => ?_)
  have eh_51 := hp
  exact hret _ _ _ _ _ _ _ dX2_passFrame_54 w (by rw [eh_51, eh_44, eh_37, eh_22, eh_7]; rfl) (Nat.le_of_ble_eq_true rfl) (Nat.le_of_ble_eq_true rfl)

abbrev rc_X1_stepOf : Room := { frames := 0, cells := 0, slots := 0, locals := 0 }
set_option maxHeartbeats 4000000 in
set_option maxRecDepth 100000 in
theorem c_X1_stepOf (l : Launch) (k : kY) (h : hS) {t : Nat} (ht : t < 16) : CT l k yX1_stepOf wsX1_stepOf rc_X1_stepOf [.ref (k.2.1 2), .int (nI t)] h (QL k (fun r h' => r = stz (h.2.1 3 t) (h.1 5 t) ∧ h' = h)) 0 0 := by
  refine q_metL (cc := cX1_stepOf) (maxL := 2) (by decide) rfl (Nat.le_of_ble_eq_true rfl) ?_
  intro p e s m args below meth c Q ls X w hl hret
  have hx := X.1
  have hb := X.2.1
  have hown := X.2.2.2.1
  have hts := X.2.2.2.2
  have hl : lv_has ls 2 [(0, .ref (k.2.1 2)), (1, .int (nI t))] := hl
  have hi1 : ∀ w ∈ u_ws RX1 TX1 3, w ∈ wsX1_stepOf := by decide +kernel
  refine lv_aload_n hx hb dX1_stepOf_0 rfl (lv_at hl 0 rfl) ?_
  refine q_get X w 2 0 (ci := 1) (by decide) rfl rfl hi1 (by decide) (by decide +kernel) rfl dX1_stepOf_1 ?_
  refine lv_iload_n hx hb dX1_stepOf_4 rfl (lv_at hl 1 rfl) ?_
  refine q_lald X w 3 t (by decide) (fun _ => rfl) rfl (by omega) (by decide) dX1_stepOf_5 ?_
  refine lv_aload_n hx hb dX1_stepOf_6 rfl (lv_at hl 0 rfl) ?_
  refine q_get X w 2 2 (ci := 1) (by decide) rfl rfl hi1 (by decide) (by decide +kernel) rfl dX1_stepOf_7 ?_
  refine lv_iload_n hx hb dX1_stepOf_10 rfl (lv_at hl 1 rfl) ?_
  refine q_iald X w 5 t (by decide) (fun _ => rfl) rfl (by omega) (by decide) dX1_stepOf_11 ?_
  refine lv_lshl hx hb dX1_stepOf_12 rfl ?_
  exact hret _ _ _ _ _ _ _ _ dX1_stepOf_13 w ⟨rfl, rfl⟩ (Nat.le_of_ble_eq_true rfl) (Nat.le_of_ble_eq_true rfl)

abbrev rc_X1_lastCostOf : Room := { frames := 0, cells := 0, slots := 0, locals := 0 }
set_option maxHeartbeats 4000000 in
set_option maxRecDepth 100000 in
theorem c_X1_lastCostOf (l : Launch) (k : kY) (h : hS) {t : Nat} (ht : t < 16) : CT l k yX1_lastCostOf wsX1_lastCostOf rc_X1_lastCostOf [.ref (k.2.1 2), .int (nI t)] h (QL k (fun r h' => r = lcz (h.2.1 3 t) (h.1 5 t) ∧ h' = h)) 0 0 := by
  refine q_metL (cc := cX1_lastCostOf) (maxL := 2) (by decide) rfl (Nat.le_of_ble_eq_true rfl) ?_
  intro p e s m args below meth c Q ls X w hl hret
  have hx := X.1
  have hb := X.2.1
  have hown := X.2.2.2.1
  have hts := X.2.2.2.2
  have hl : lv_has ls 2 [(0, .ref (k.2.1 2)), (1, .int (nI t))] := hl
  have hi1 : ∀ w ∈ u_ws RX1 TX1 3, w ∈ wsX1_lastCostOf := by decide +kernel
  refine lv_aload_n hx hb dX1_lastCostOf_0 rfl (lv_at hl 0 rfl) ?_
  refine q_get X w 2 0 (ci := 1) (by decide) rfl rfl hi1 (by decide) (by decide +kernel) rfl dX1_lastCostOf_1 ?_
  refine lv_iload_n hx hb dX1_lastCostOf_4 rfl (lv_at hl 1 rfl) ?_
  refine q_lald X w 3 t (by decide) (fun _ => rfl) rfl (by omega) (by decide) dX1_lastCostOf_5 ?_
  refine lv_aload_n hx hb dX1_lastCostOf_6 rfl (lv_at hl 0 rfl) ?_
  refine q_get X w 2 2 (ci := 1) (by decide) rfl rfl hi1 (by decide) (by decide +kernel) rfl dX1_lastCostOf_7 ?_
  refine lv_iload_n hx hb dX1_lastCostOf_10 rfl (lv_at hl 1 rfl) ?_
  refine q_iald X w 5 t (by decide) (fun _ => rfl) rfl (by omega) (by decide) dX1_lastCostOf_11 ?_
  refine lv_iconst (v := nI 1) hx hb dX1_lastCostOf_12 (by decide) ?_
  refine lv_isub hx hb dX1_lastCostOf_13 ?_
  refine lv_lshl hx hb dX1_lastCostOf_14 rfl ?_
  exact hret _ _ _ _ _ _ _ _ dX1_lastCostOf_15 w ⟨rfl, rfl⟩ (Nat.le_of_ble_eq_true rfl) (Nat.le_of_ble_eq_true rfl)

abbrev rc_X1_cheapestTone : Room := { frames := 1, cells := 0, slots := 0, locals := 21 }
set_option maxHeartbeats 4000000 in
set_option maxRecDepth 100000 in
theorem c_X1_cheapestTone (l : Launch) (k : kY) (h : hS) (ex : Int32) : CT l k yX1_cheapestTone wsX1_cheapestTone rc_X1_cheapestTone [.ref (k.2.1 2), .int ex] h (QI k (fun r h' => r = oI (chz (h.2.1 3) (h.1 4) (h.1 5) ex) ∧ h' = h)) 0 0 := by
  refine q_metI (cc := cX1_cheapestTone) (maxL := 8) (ret := some .int) (ty := .int) (by decide) rfl rfl (Nat.le_of_ble_eq_true rfl) ?_
  intro p e s m args below meth c Q ls X w hl hret
  have hx := X.1
  have hb := X.2.1
  have hown := X.2.2.2.1
  have hts := X.2.2.2.2
  have hl : lv_has ls 8 [(0, .ref (k.2.1 2)), (1, .int ex)] := hl
  have hi1 : ∀ w ∈ u_ws RX1 TX1 3, w ∈ wsX1_cheapestTone := by decide +kernel
  refine lv_iconst (v := (-1)) hx hb dX1_cheapestTone_0 (by decide) ?_
  refine lv_istore_n (lv' := [(2, .int (-1)), (0, .ref (k.2.1 2)), (1, .int ex)]) hx hb dX1_cheapestTone_1 rfl hl (by decide) rfl (fun ls hl => ?_)
  refine lv_lconst (v := 0) hx hb dX1_cheapestTone_2 (by decide) ?_
  refine lv_lstore_n (lv' := [(3, .long 0), (2, .int (-1)), (0, .ref (k.2.1 2)), (1, .int ex)]) hx hb dX1_cheapestTone_3 rfl hl (by decide) rfl (fun ls hl => ?_)
  refine lv_iconst (v := nI 0) hx hb dX1_cheapestTone_4 (by decide) ?_
  refine lv_istore (lv' := [(5, .int (nI 0)), (3, .long 0), (2, .int (-1)), (0, .ref (k.2.1 2)), (1, .int ex)]) hx hb dX1_cheapestTone_5 hl (by decide) rfl (fun ls hl => ?_)
  have lp : ∀ (n : Nat) (t : Nat) (x : Int32) (y : Int64), (t ≤ 16 ∧ (x, y) = aminC (chA (h.1 4) (h.1 5) ex) (fun t => stz (h.2.1 3 t) (h.1 5 t)) t) → (16 - t) < n → ∀ (H : Heap) (locs : List Loc) (ls : Array Slot), WX k s H locs h → lv_has ls 8 [(0, .ref (k.2.1 2)), (1, .int ex), (2, .int x), (3, .long y), (5, .int (nI t))] → W p l e rc_X1_cheapestTone s m args below meth c H locs 0 0 Q (F0 m 7 ls []) := by
    intro n
    induction n with
    | zero => intro t x y _ hm; exact absurd hm (Nat.not_lt_zero _)
    | succ n ih =>
      intro t x y hinv hm H locs ls w hl
      have ht := hinv.1
      refine lv_iload hx hb dX1_cheapestTone_7 (lv_at hl 4 rfl) ?_
      refine lv_bipush (v := nI 16) hx hb dX1_cheapestTone_9 (by decide) ?_
      refine q_icge X (tgt := 68) (by omega) (by decide) dX1_cheapestTone_11 (by decide) (fun c_11 => ?_) (fun c_11 => ?_)
      · refine lv_iload_n hx hb dX1_cheapestTone_68 rfl (lv_at hl 2 rfl) ?_
        obtain rfl : t = 16 := by omega
        have hz := hinv.2
        rw [aminC_eq _ _ 16 (by decide)] at hz
        exact hret _ _ _ _ _ _ _ _ dX1_cheapestTone_69 w rfl ⟨congrArg Prod.fst hz, rfl⟩ (Nat.le_of_ble_eq_true rfl) (Nat.le_of_ble_eq_true rfl)
      · refine lv_iload hx hb dX1_cheapestTone_14 (lv_at hl 4 rfl) ?_
        refine lv_iload_n hx hb dX1_cheapestTone_16 rfl (lv_at hl 1 rfl) ?_
        refine lv_icmp_eq (tgt := 62) hx hb dX1_cheapestTone_17 (by decide) (fun c_17 => ?_) (fun c_17 => ?_)
        · refine lv_iinc (v := nI (t + 1)) (lv' := [(5, .int (nI (t + 1))), (0, .ref (k.2.1 2)), (1, .int ex), (2, .int x), (3, .long y)]) hx hb dX1_cheapestTone_62 hl (k := 4) rfl (nI_1 _) (by decide) rfl (fun ls hl => ?_)
          refine lv_goto (tgt := 7) hx hb dX1_cheapestTone_65 (by decide) ?_
          exact ih (t + 1) x y ⟨by omega, by first | exact aminC_no (fun q => (of_decide_eq_true q).1 c_17) hinv.2 | exact aminC_no (fun q => (of_decide_eq_true q).2 c_34) hinv.2 | exact aminC_neg (decide_eq_true ⟨c_17, c_34⟩) hinv.2 c_46 | exact aminC_lt (decide_eq_true ⟨c_17, c_34⟩) hinv.2 c_46 c_52 | exact aminC_ge (decide_eq_true ⟨c_17, c_34⟩) hinv.2 c_46 c_52⟩ (by omega) _ _ _ w (lv_sub hl [1, 2, 3, 4, 0] rfl)
        · refine lv_aload_n hx hb dX1_cheapestTone_20 rfl (lv_at hl 0 rfl) ?_
          refine q_get X w 2 2 (ci := 1) (by decide) rfl rfl hi1 (by decide) (by decide +kernel) rfl dX1_cheapestTone_21 ?_
          refine lv_iload hx hb dX1_cheapestTone_24 (lv_at hl 4 rfl) ?_
          refine q_iald X w 5 t (by decide) (fun _ => rfl) rfl (by omega) (by decide) dX1_cheapestTone_26 ?_
          refine lv_aload_n hx hb dX1_cheapestTone_27 rfl (lv_at hl 0 rfl) ?_
          refine q_get X w 2 1 (ci := 1) (by decide) rfl rfl hi1 (by decide) (by decide +kernel) rfl dX1_cheapestTone_28 ?_
          refine lv_iload hx hb dX1_cheapestTone_31 (lv_at hl 4 rfl) ?_
          refine q_iald X w 4 t (by decide) (fun _ => rfl) rfl (by omega) (by decide) dX1_cheapestTone_33 ?_
          refine lv_icmp_ge (tgt := 62) hx hb dX1_cheapestTone_34 (by decide) (fun c_34 => ?_) (fun c_34 => ?_)
          · refine lv_iinc (v := nI (t + 1)) (lv' := [(5, .int (nI (t + 1))), (0, .ref (k.2.1 2)), (1, .int ex), (2, .int x), (3, .long y)]) hx hb dX1_cheapestTone_62 hl (k := 4) rfl (nI_1 _) (by decide) rfl (fun ls hl => ?_)
            refine lv_goto (tgt := 7) hx hb dX1_cheapestTone_65 (by decide) ?_
            exact ih (t + 1) x y ⟨by omega, by first | exact aminC_no (fun q => (of_decide_eq_true q).1 c_17) hinv.2 | exact aminC_no (fun q => (of_decide_eq_true q).2 c_34) hinv.2 | exact aminC_neg (decide_eq_true ⟨c_17, c_34⟩) hinv.2 c_46 | exact aminC_lt (decide_eq_true ⟨c_17, c_34⟩) hinv.2 c_46 c_52 | exact aminC_ge (decide_eq_true ⟨c_17, c_34⟩) hinv.2 c_46 c_52⟩ (by omega) _ _ _ w (lv_sub hl [1, 2, 3, 4, 0] rfl)
          · refine lv_aload_n hx hb dX1_cheapestTone_37 rfl (lv_at hl 0 rfl) ?_
            refine lv_iload hx hb dX1_cheapestTone_38 (lv_at hl 4 rfl) ?_
            refine q_calll w (q_runV X w 2 (c_X1_stepOf l k h (t := t) (by omega)) (cwV 1 hts gX1_cheapestTone_X1_stepOf rfl rfl rfl (by decide +kernel) ⟨Nat.le_of_ble_eq_true rfl, Nat.le_of_ble_eq_true rfl⟩) (by decide) rfl rfl rfl hl.1 rfl (Nat.le_of_ble_eq_true rfl) dX1_cheapestTone_40 ⟨Nat.le_of_ble_eq_true rfl, Nat.le_of_ble_eq_true rfl⟩) (fun r_40 h_40 H locs hp w => ?_)
            obtain ⟨er_40, eh_40⟩ := hp
            rw [eh_40] at w
            have er_40 : r_40 = stz (h.2.1 3 t) (h.1 5 t) := er_40
            subst er_40
            refine lv_lstore (lv' := [(6, .long (stz (h.2.1 3 t) (h.1 5 t))), (0, .ref (k.2.1 2)), (1, .int ex), (2, .int x), (3, .long y), (5, .int (nI t))]) hx hb dX1_cheapestTone_43 hl (by decide) rfl (fun ls hl => ?_)
            refine lv_iload_n hx hb dX1_cheapestTone_45 rfl (lv_at hl 3 rfl) ?_
            refine lv_if_lt (tgt := 56) hx hb dX1_cheapestTone_46 (by decide) (fun c_46 => ?_) (fun c_46 => ?_)
            · refine lv_iload hx hb dX1_cheapestTone_56 (lv_at hl 5 rfl) ?_
              refine lv_istore_n (lv' := [(2, .int (nI t)), (6, .long (stz (h.2.1 3 t) (h.1 5 t))), (0, .ref (k.2.1 2)), (1, .int ex), (3, .long y), (5, .int (nI t))]) hx hb dX1_cheapestTone_58 rfl hl (by decide) rfl (fun ls hl => ?_)
              refine lv_lload hx hb dX1_cheapestTone_59 (lv_at hl 1 rfl) ?_
              refine lv_lstore_n (lv' := [(3, .long (stz (h.2.1 3 t) (h.1 5 t))), (2, .int (nI t)), (6, .long (stz (h.2.1 3 t) (h.1 5 t))), (0, .ref (k.2.1 2)), (1, .int ex), (5, .int (nI t))]) hx hb dX1_cheapestTone_61 rfl hl (by decide) rfl (fun ls hl => ?_)
              refine lv_iinc (v := nI (t + 1)) (lv' := [(5, .int (nI (t + 1))), (3, .long (stz (h.2.1 3 t) (h.1 5 t))), (2, .int (nI t)), (6, .long (stz (h.2.1 3 t) (h.1 5 t))), (0, .ref (k.2.1 2)), (1, .int ex)]) hx hb dX1_cheapestTone_62 hl (k := 5) rfl (nI_1 _) (by decide) rfl (fun ls hl => ?_)
              refine lv_goto (tgt := 7) hx hb dX1_cheapestTone_65 (by decide) ?_
              exact ih (t + 1) (nI t) (stz (h.2.1 3 t) (h.1 5 t)) ⟨by omega, by first | exact aminC_no (fun q => (of_decide_eq_true q).1 c_17) hinv.2 | exact aminC_no (fun q => (of_decide_eq_true q).2 c_34) hinv.2 | exact aminC_neg (decide_eq_true ⟨c_17, c_34⟩) hinv.2 c_46 | exact aminC_lt (decide_eq_true ⟨c_17, c_34⟩) hinv.2 c_46 c_52 | exact aminC_ge (decide_eq_true ⟨c_17, c_34⟩) hinv.2 c_46 c_52⟩ (by omega) _ _ _ w (lv_sub hl [4, 5, 2, 1, 0] rfl)
            · refine lv_lload hx hb dX1_cheapestTone_49 (lv_at hl 0 rfl) ?_
              refine lv_lload_n hx hb dX1_cheapestTone_51 rfl (lv_at hl 4 rfl) ?_
              refine q_lif_ge X (tgt := 62) dX1_cheapestTone_52 dX1_cheapestTone_53 (by decide) (fun c_52 => ?_) (fun c_52 => ?_)
              · refine lv_iinc (v := nI (t + 1)) (lv' := [(5, .int (nI (t + 1))), (6, .long (stz (h.2.1 3 t) (h.1 5 t))), (0, .ref (k.2.1 2)), (1, .int ex), (2, .int x), (3, .long y)]) hx hb dX1_cheapestTone_62 hl (k := 5) rfl (nI_1 _) (by decide) rfl (fun ls hl => ?_)
                refine lv_goto (tgt := 7) hx hb dX1_cheapestTone_65 (by decide) ?_
                exact ih (t + 1) x y ⟨by omega, by first | exact aminC_no (fun q => (of_decide_eq_true q).1 c_17) hinv.2 | exact aminC_no (fun q => (of_decide_eq_true q).2 c_34) hinv.2 | exact aminC_neg (decide_eq_true ⟨c_17, c_34⟩) hinv.2 c_46 | exact aminC_lt (decide_eq_true ⟨c_17, c_34⟩) hinv.2 c_46 c_52 | exact aminC_ge (decide_eq_true ⟨c_17, c_34⟩) hinv.2 c_46 c_52⟩ (by omega) _ _ _ w (lv_sub hl [2, 3, 4, 5, 0] rfl)
              · refine lv_iload hx hb dX1_cheapestTone_56 (lv_at hl 5 rfl) ?_
                refine lv_istore_n (lv' := [(2, .int (nI t)), (6, .long (stz (h.2.1 3 t) (h.1 5 t))), (0, .ref (k.2.1 2)), (1, .int ex), (3, .long y), (5, .int (nI t))]) hx hb dX1_cheapestTone_58 rfl hl (by decide) rfl (fun ls hl => ?_)
                refine lv_lload hx hb dX1_cheapestTone_59 (lv_at hl 1 rfl) ?_
                refine lv_lstore_n (lv' := [(3, .long (stz (h.2.1 3 t) (h.1 5 t))), (2, .int (nI t)), (6, .long (stz (h.2.1 3 t) (h.1 5 t))), (0, .ref (k.2.1 2)), (1, .int ex), (5, .int (nI t))]) hx hb dX1_cheapestTone_61 rfl hl (by decide) rfl (fun ls hl => ?_)
                refine lv_iinc (v := nI (t + 1)) (lv' := [(5, .int (nI (t + 1))), (3, .long (stz (h.2.1 3 t) (h.1 5 t))), (2, .int (nI t)), (6, .long (stz (h.2.1 3 t) (h.1 5 t))), (0, .ref (k.2.1 2)), (1, .int ex)]) hx hb dX1_cheapestTone_62 hl (k := 5) rfl (nI_1 _) (by decide) rfl (fun ls hl => ?_)
                refine lv_goto (tgt := 7) hx hb dX1_cheapestTone_65 (by decide) ?_
                exact ih (t + 1) (nI t) (stz (h.2.1 3 t) (h.1 5 t)) ⟨by omega, by first | exact aminC_no (fun q => (of_decide_eq_true q).1 c_17) hinv.2 | exact aminC_no (fun q => (of_decide_eq_true q).2 c_34) hinv.2 | exact aminC_neg (decide_eq_true ⟨c_17, c_34⟩) hinv.2 c_46 | exact aminC_lt (decide_eq_true ⟨c_17, c_34⟩) hinv.2 c_46 c_52 | exact aminC_ge (decide_eq_true ⟨c_17, c_34⟩) hinv.2 c_46 c_52⟩ (by omega) _ _ _ w (lv_sub hl [4, 5, 2, 1, 0] rfl)
  exact lp 17 0 (-1) 0 ⟨by omega, rfl⟩ (by omega) _ _ _ w (lv_sub hl [3, 4, 2, 1, 0] rfl)

abbrev rc_X1_dearestTone : Room := { frames := 1, cells := 0, slots := 0, locals := 21 }
set_option maxHeartbeats 4000000 in
set_option maxRecDepth 100000 in
theorem c_X1_dearestTone (l : Launch) (k : kY) (h : hS)  : CT l k yX1_dearestTone wsX1_dearestTone rc_X1_dearestTone [.ref (k.2.1 2)] h (QI k (fun r h' => r = oI (dez (h.2.1 3) (h.1 5)) ∧ h' = h)) 0 0 := by
  refine q_metI (cc := cX1_dearestTone) (maxL := 7) (ret := some .int) (ty := .int) (by decide) rfl rfl (Nat.le_of_ble_eq_true rfl) ?_
  intro p e s m args below meth c Q ls X w hl hret
  have hx := X.1
  have hb := X.2.1
  have hown := X.2.2.2.1
  have hts := X.2.2.2.2
  have hl : lv_has ls 7 [(0, .ref (k.2.1 2))] := hl
  have hi1 : ∀ w ∈ u_ws RX1 TX1 3, w ∈ wsX1_dearestTone := by decide +kernel
  refine lv_iconst (v := (-1)) hx hb dX1_dearestTone_0 (by decide) ?_
  refine lv_istore_n (lv' := [(1, .int (-1)), (0, .ref (k.2.1 2))]) hx hb dX1_dearestTone_1 rfl hl (by decide) rfl (fun ls hl => ?_)
  refine lv_lconst (v := 0) hx hb dX1_dearestTone_2 (by decide) ?_
  refine lv_lstore_n (lv' := [(2, .long 0), (1, .int (-1)), (0, .ref (k.2.1 2))]) hx hb dX1_dearestTone_3 rfl hl (by decide) rfl (fun ls hl => ?_)
  refine lv_iconst (v := nI 0) hx hb dX1_dearestTone_4 (by decide) ?_
  refine lv_istore (lv' := [(4, .int (nI 0)), (2, .long 0), (1, .int (-1)), (0, .ref (k.2.1 2))]) hx hb dX1_dearestTone_5 hl (by decide) rfl (fun ls hl => ?_)
  have lp : ∀ (n : Nat) (t : Nat) (x : Int32) (y : Int64), (t ≤ 16 ∧ x = oI (amaxC (fun t => decide (¬ h.1 5 t ≤ 0)) (fun t => lcz (h.2.1 3 t) (h.1 5 t)) t).1 ∧ y = (amaxC (fun t => decide (¬ h.1 5 t ≤ 0)) (fun t => lcz (h.2.1 3 t) (h.1 5 t)) t).2) → (16 - t) < n → ∀ (H : Heap) (locs : List Loc) (ls : Array Slot), WX k s H locs h → lv_has ls 7 [(0, .ref (k.2.1 2)), (1, .int x), (2, .long y), (4, .int (nI t))] → W p l e rc_X1_dearestTone s m args below meth c H locs 0 0 Q (F0 m 7 ls []) := by
    intro n
    induction n with
    | zero => intro t x y _ hm; exact absurd hm (Nat.not_lt_zero _)
    | succ n ih =>
      intro t x y hinv hm H locs ls w hl
      have ht := hinv.1
      refine lv_iload hx hb dX1_dearestTone_7 (lv_at hl 3 rfl) ?_
      refine lv_bipush (v := nI 16) hx hb dX1_dearestTone_9 (by decide) ?_
      refine q_icge X (tgt := 51) (by omega) (by decide) dX1_dearestTone_11 (by decide) (fun c_11 => ?_) (fun c_11 => ?_)
      · refine lv_iload_n hx hb dX1_dearestTone_51 rfl (lv_at hl 1 rfl) ?_
        obtain rfl : t = 16 := by omega
        exact hret _ _ _ _ _ _ _ _ dX1_dearestTone_52 w rfl ⟨hinv.2.1, rfl⟩ (Nat.le_of_ble_eq_true rfl) (Nat.le_of_ble_eq_true rfl)
      · refine lv_aload_n hx hb dX1_dearestTone_14 rfl (lv_at hl 0 rfl) ?_
        refine q_get X w 2 2 (ci := 1) (by decide) rfl rfl hi1 (by decide) (by decide +kernel) rfl dX1_dearestTone_15 ?_
        refine lv_iload hx hb dX1_dearestTone_18 (lv_at hl 3 rfl) ?_
        refine q_iald X w 5 t (by decide) (fun _ => rfl) rfl (by omega) (by decide) dX1_dearestTone_20 ?_
        refine lv_if_le (tgt := 45) hx hb dX1_dearestTone_21 (by decide) (fun c_21 => ?_) (fun c_21 => ?_)
        · refine lv_iinc (v := nI (t + 1)) (lv' := [(4, .int (nI (t + 1))), (0, .ref (k.2.1 2)), (1, .int x), (2, .long y)]) hx hb dX1_dearestTone_45 hl (k := 3) rfl (nI_1 _) (by decide) rfl (fun ls hl => ?_)
          refine lv_goto (tgt := 7) hx hb dX1_dearestTone_48 (by decide) ?_
          exact ih (t + 1) x y ⟨by omega, by first | exact amaxC_no (fun q => (of_decide_eq_true q) c_21) hinv.2 | exact amaxC_lt (decide_eq_true c_21) hinv.2 c_35 | exact amaxC_ge (decide_eq_true c_21) hinv.2 c_35⟩ (by omega) _ _ _ w (lv_sub hl [1, 2, 3, 0] rfl)
        · refine lv_aload_n hx hb dX1_dearestTone_24 rfl (lv_at hl 0 rfl) ?_
          refine lv_iload hx hb dX1_dearestTone_25 (lv_at hl 3 rfl) ?_
          refine q_calll w (q_runV X w 2 (c_X1_lastCostOf l k h (t := t) (by omega)) (cwV 1 hts gX1_dearestTone_X1_lastCostOf rfl rfl rfl (by decide +kernel) ⟨Nat.le_of_ble_eq_true rfl, Nat.le_of_ble_eq_true rfl⟩) (by decide) rfl rfl rfl hl.1 rfl (Nat.le_of_ble_eq_true rfl) dX1_dearestTone_27 ⟨Nat.le_of_ble_eq_true rfl, Nat.le_of_ble_eq_true rfl⟩) (fun r_27 h_27 H locs hp w => ?_)
          obtain ⟨er_27, eh_27⟩ := hp
          rw [eh_27] at w
          have er_27 : r_27 = lcz (h.2.1 3 t) (h.1 5 t) := er_27
          subst er_27
          refine lv_lstore (lv' := [(5, .long (lcz (h.2.1 3 t) (h.1 5 t))), (0, .ref (k.2.1 2)), (1, .int x), (2, .long y), (4, .int (nI t))]) hx hb dX1_dearestTone_30 hl (by decide) rfl (fun ls hl => ?_)
          refine lv_lload hx hb dX1_dearestTone_32 (lv_at hl 0 rfl) ?_
          refine lv_lload_n hx hb dX1_dearestTone_34 rfl (lv_at hl 3 rfl) ?_
          refine q_lif_lt X (tgt := 45) dX1_dearestTone_35 dX1_dearestTone_36 (by decide) (fun c_35 => ?_) (fun c_35 => ?_)
          · refine lv_iinc (v := nI (t + 1)) (lv' := [(4, .int (nI (t + 1))), (5, .long (lcz (h.2.1 3 t) (h.1 5 t))), (0, .ref (k.2.1 2)), (1, .int x), (2, .long y)]) hx hb dX1_dearestTone_45 hl (k := 4) rfl (nI_1 _) (by decide) rfl (fun ls hl => ?_)
            refine lv_goto (tgt := 7) hx hb dX1_dearestTone_48 (by decide) ?_
            exact ih (t + 1) x y ⟨by omega, by first | exact amaxC_no (fun q => (of_decide_eq_true q) c_21) hinv.2 | exact amaxC_lt (decide_eq_true c_21) hinv.2 c_35 | exact amaxC_ge (decide_eq_true c_21) hinv.2 c_35⟩ (by omega) _ _ _ w (lv_sub hl [2, 3, 4, 0] rfl)
          · refine lv_iload hx hb dX1_dearestTone_39 (lv_at hl 4 rfl) ?_
            refine lv_istore_n (lv' := [(1, .int (nI t)), (5, .long (lcz (h.2.1 3 t) (h.1 5 t))), (0, .ref (k.2.1 2)), (2, .long y), (4, .int (nI t))]) hx hb dX1_dearestTone_41 rfl hl (by decide) rfl (fun ls hl => ?_)
            refine lv_lload hx hb dX1_dearestTone_42 (lv_at hl 1 rfl) ?_
            refine lv_lstore_n (lv' := [(2, .long (lcz (h.2.1 3 t) (h.1 5 t))), (1, .int (nI t)), (5, .long (lcz (h.2.1 3 t) (h.1 5 t))), (0, .ref (k.2.1 2)), (4, .int (nI t))]) hx hb dX1_dearestTone_44 rfl hl (by decide) rfl (fun ls hl => ?_)
            refine lv_iinc (v := nI (t + 1)) (lv' := [(4, .int (nI (t + 1))), (2, .long (lcz (h.2.1 3 t) (h.1 5 t))), (1, .int (nI t)), (5, .long (lcz (h.2.1 3 t) (h.1 5 t))), (0, .ref (k.2.1 2))]) hx hb dX1_dearestTone_45 hl (k := 4) rfl (nI_1 _) (by decide) rfl (fun ls hl => ?_)
            refine lv_goto (tgt := 7) hx hb dX1_dearestTone_48 (by decide) ?_
            exact ih (t + 1) (nI t) (lcz (h.2.1 3 t) (h.1 5 t)) ⟨by omega, by first | exact amaxC_no (fun q => (of_decide_eq_true q) c_21) hinv.2 | exact amaxC_lt (decide_eq_true c_21) hinv.2 c_35 | exact amaxC_ge (decide_eq_true c_21) hinv.2 c_35⟩ (by omega) _ _ _ w (lv_sub hl [4, 2, 1, 0] rfl)
  exact lp 17 0 (-1) 0 ⟨by omega, rfl, rfl⟩ (by omega) _ _ _ w (lv_sub hl [3, 2, 1, 0] rfl)

abbrev rc_X1_canSave : Room := { frames := 1, cells := 0, slots := 0, locals := 21 }
set_option maxHeartbeats 4000000 in
set_option maxRecDepth 100000 in
theorem c_X1_canSave (l : Launch) (k : kY) (h : hS) {a b : Nat} (ha : a < 16) (hb : b < 16) : CT l k yX1_canSave wsX1_canSave rc_X1_canSave [.ref (k.2.1 2), .int (nI a), .int (nI b)] h (QI k (fun r h' => ((stz (h.2.1 3 b) (h.1 5 b) < lcz (h.2.1 3 a) (h.1 5 a) ∧ r = nI 1) ∨ (¬ stz (h.2.1 3 b) (h.1 5 b) < lcz (h.2.1 3 a) (h.1 5 a) ∧ r = nI 0)) ∧ h' = h)) 0 0 := by
  refine q_metI (cc := cX1_canSave) (maxL := 3) (ret := some .boolean) (ty := .boolean) (by decide) rfl rfl (Nat.le_of_ble_eq_true rfl) ?_
  intro p e s m args below meth c Q ls X w hl hret
  have hx := X.1
  have hb := X.2.1
  have hown := X.2.2.2.1
  have hts := X.2.2.2.2
  have hl : lv_has ls 3 [(0, .ref (k.2.1 2)), (1, .int (nI a)), (2, .int (nI b))] := hl
  refine lv_iload_n hx hb dX1_canSave_0 rfl (lv_at hl 1 rfl) ?_
  refine lv_if_lt (tgt := 26) hx hb dX1_canSave_1 (by decide) (fun c_1 => ?_) (fun c_1 => ?_)
  · exact absurd c_1 (nI_pos (by omega))
  · refine lv_iload_n hx hb dX1_canSave_4 rfl (lv_at hl 2 rfl) ?_
    refine lv_if_lt (tgt := 26) hx hb dX1_canSave_5 (by decide) (fun c_5 => ?_) (fun c_5 => ?_)
    · exact absurd c_5 (nI_pos (by omega))
    · refine lv_aload_n hx hb dX1_canSave_8 rfl (lv_at hl 0 rfl) ?_
      refine lv_iload_n hx hb dX1_canSave_9 rfl (lv_at hl 1 rfl) ?_
      refine q_calll w (q_runV X w 2 (c_X1_lastCostOf l k h (t := a) (by omega)) (cwV 1 hts gX1_canSave_X1_lastCostOf rfl rfl rfl (by decide +kernel) ⟨Nat.le_of_ble_eq_true rfl, Nat.le_of_ble_eq_true rfl⟩) (by decide) rfl rfl rfl hl.1 rfl (Nat.le_of_ble_eq_true rfl) dX1_canSave_10 ⟨Nat.le_of_ble_eq_true rfl, Nat.le_of_ble_eq_true rfl⟩) (fun r_10 h_10 H locs hp w => ?_)
      obtain ⟨er_10, eh_10⟩ := hp
      rw [eh_10] at w
      have er_10 : r_10 = lcz (h.2.1 3 a) (h.1 5 a) := er_10
      subst er_10
      refine lv_aload_n hx hb dX1_canSave_13 rfl (lv_at hl 0 rfl) ?_
      refine lv_iload_n hx hb dX1_canSave_14 rfl (lv_at hl 2 rfl) ?_
      refine q_calll w (q_runV X w 2 (c_X1_stepOf l k h (t := b) (by omega)) (cwV 1 hts gX1_canSave_X1_stepOf rfl rfl rfl (by decide +kernel) ⟨Nat.le_of_ble_eq_true rfl, Nat.le_of_ble_eq_true rfl⟩) (by decide) rfl rfl rfl hl.1 rfl (Nat.le_of_ble_eq_true rfl) dX1_canSave_15 ⟨Nat.le_of_ble_eq_true rfl, Nat.le_of_ble_eq_true rfl⟩) (fun r_15 h_15 H locs hp w => ?_)
      obtain ⟨er_15, eh_15⟩ := hp
      rw [eh_15] at w
      have er_15 : r_15 = stz (h.2.1 3 b) (h.1 5 b) := er_15
      subst er_15
      refine q_lif_le X (tgt := 26) dX1_canSave_18 dX1_canSave_19 (by decide) (fun c_18 => ?_) (fun c_18 => ?_)
      · refine lv_iconst (v := nI 0) hx hb dX1_canSave_26 (by decide) ?_
        exact hret _ _ _ _ _ _ _ _ dX1_canSave_27 w (by decide) ⟨Or.inr ⟨c_18, rfl⟩, rfl⟩ (Nat.le_of_ble_eq_true rfl) (Nat.le_of_ble_eq_true rfl)
      · refine lv_iconst (v := nI 1) hx hb dX1_canSave_22 (by decide) ?_
        refine lv_goto (tgt := 27) hx hb dX1_canSave_23 (by decide) ?_
        exact hret _ _ _ _ _ _ _ _ dX1_canSave_27 w (by decide) ⟨Or.inl ⟨c_18, rfl⟩, rfl⟩ (Nat.le_of_ble_eq_true rfl) (Nat.le_of_ble_eq_true rfl)

abbrev rc_X1_canSave0 : Room := { frames := 1, cells := 0, slots := 0, locals := 21 }
set_option maxHeartbeats 4000000 in
set_option maxRecDepth 100000 in
theorem c_X1_canSave0 (l : Launch) (k : kY) (h : hS) (x : Int32) : CT l k yX1_canSave wsX1_canSave rc_X1_canSave0 [.ref (k.2.1 2), .int (-1), .int x] h (QI k (fun r h' => r = nI 0 ∧ h' = h)) 0 0 := by
  refine q_metI (cc := cX1_canSave) (maxL := 3) (ret := some .boolean) (ty := .boolean) (by decide) rfl rfl (Nat.le_of_ble_eq_true rfl) ?_
  intro p e s m args below meth c Q ls X w hl hret
  have hx := X.1
  have hb := X.2.1
  have hown := X.2.2.2.1
  have hts := X.2.2.2.2
  have hl : lv_has ls 3 [(0, .ref (k.2.1 2)), (1, .int (-1)), (2, .int x)] := hl
  refine lv_iload_n hx hb dX1_canSave_0 rfl (lv_at hl 1 rfl) ?_
  refine lv_if_lt (tgt := 26) hx hb dX1_canSave_1 (by decide) (fun c_1 => ?_) (fun c_1 => ?_)
  · refine lv_iconst (v := nI 0) hx hb dX1_canSave_26 (by decide) ?_
    exact hret _ _ _ _ _ _ _ _ dX1_canSave_27 w (by decide) ⟨rfl, rfl⟩ (Nat.le_of_ble_eq_true rfl) (Nat.le_of_ble_eq_true rfl)
  · exact absurd (by decide) c_1

abbrev rc_X1_canSave1 : Room := { frames := 1, cells := 0, slots := 0, locals := 21 }
set_option maxHeartbeats 4000000 in
set_option maxRecDepth 100000 in
theorem c_X1_canSave1 (l : Launch) (k : kY) (h : hS) {a : Nat} (ha : a < 16) : CT l k yX1_canSave wsX1_canSave rc_X1_canSave1 [.ref (k.2.1 2), .int (nI a), .int (-1)] h (QI k (fun r h' => r = nI 0 ∧ h' = h)) 0 0 := by
  refine q_metI (cc := cX1_canSave) (maxL := 3) (ret := some .boolean) (ty := .boolean) (by decide) rfl rfl (Nat.le_of_ble_eq_true rfl) ?_
  intro p e s m args below meth c Q ls X w hl hret
  have hx := X.1
  have hb := X.2.1
  have hown := X.2.2.2.1
  have hts := X.2.2.2.2
  have hl : lv_has ls 3 [(0, .ref (k.2.1 2)), (1, .int (nI a)), (2, .int (-1))] := hl
  refine lv_iload_n hx hb dX1_canSave_0 rfl (lv_at hl 1 rfl) ?_
  refine lv_if_lt (tgt := 26) hx hb dX1_canSave_1 (by decide) (fun c_1 => ?_) (fun c_1 => ?_)
  · exact absurd c_1 (nI_pos (by omega))
  · refine lv_iload_n hx hb dX1_canSave_4 rfl (lv_at hl 2 rfl) ?_
    refine lv_if_lt (tgt := 26) hx hb dX1_canSave_5 (by decide) (fun c_5 => ?_) (fun c_5 => ?_)
    · refine lv_iconst (v := nI 0) hx hb dX1_canSave_26 (by decide) ?_
      exact hret _ _ _ _ _ _ _ _ dX1_canSave_27 w (by decide) ⟨rfl, rfl⟩ (Nat.le_of_ble_eq_true rfl) (Nat.le_of_ble_eq_true rfl)
    · exact absurd (by decide) c_5
