abbrev rc_X4_needFor : Room := { frames := 0, cells := 0, slots := 0, locals := 0 }
set_option maxHeartbeats 4000000 in
set_option maxRecDepth 100000 in
theorem c_X4_needFor (l : Launch) (k : kY) (h : hS) (b : Int32) (n : Int64) : CT l k yX4_needFor wsX4_needFor rc_X4_needFor [.int b, .long n] h (QL k (fun r h' => r = ndz b n ∧ h' = h)) 0 0 := by
  refine q_metL (cc := cX4_needFor) (maxL := 3) (by decide) rfl (Nat.le_of_ble_eq_true rfl) ?_
  intro p e s m args below meth c Q ls X w hl hret
  have hx := X.1
  have hb := X.2.1
  have hown := X.2.2.2.1
  have hts := X.2.2.2.2
  have hl : lv_has ls 3 [(0, .int b), (1, .long n)] := hl
  refine lv_lconst (v := 1) hx hb dX4_needFor_0 (by decide) ?_
  refine lv_iload_n hx hb dX4_needFor_1 rfl (lv_at hl 0 rfl) ?_
  refine lv_lshl hx hb dX4_needFor_2 rfl ?_
  refine lv_lconst (v := 1) hx hb dX4_needFor_3 (by decide) ?_
  refine lv_lsub hx hb dX4_needFor_4 ?_
  refine lv_lload_n hx hb dX4_needFor_5 rfl (lv_at hl 1 rfl) ?_
  refine lv_lmul hx hb dX4_needFor_6 ?_
  exact hret _ _ _ _ _ _ _ _ dX4_needFor_7 w ⟨rfl, rfl⟩ (Nat.le_of_ble_eq_true rfl) (Nat.le_of_ble_eq_true rfl)

abbrev rc_X4_cappedEnergy : Room := { frames := 0, cells := 0, slots := 0, locals := 0 }
set_option maxHeartbeats 4000000 in
set_option maxRecDepth 100000 in
theorem c_X4_cappedEnergy (l : Launch) (k : kY) (h : hS) (n : Int64) : CT l k yX4_cappedEnergy wsX4_cappedEnergy rc_X4_cappedEnergy [.long n] h (QL k (fun r h' => r = capz n ∧ h' = h)) 0 0 := by
  refine q_metL (cc := cX4_cappedEnergy) (maxL := 2) (by decide) rfl (Nat.le_of_ble_eq_true rfl) ?_
  intro p e s m args below meth c Q ls X w hl hret
  have hx := X.1
  have hb := X.2.1
  have hown := X.2.2.2.1
  have hts := X.2.2.2.2
  have hl : lv_has ls 2 [(0, .long n)] := hl
  refine lv_lload_n hx hb dX4_cappedEnergy_0 rfl (lv_at hl 0 rfl) ?_
  refine lv_ldc2 (v := 1000000000000) hx hb hown (hts (.constantLong RX4 260 1000000000000) (by decide +kernel)) dX4_cappedEnergy_1 ?_
  refine q_lif_le X (tgt := 14) dX4_cappedEnergy_4 dX4_cappedEnergy_5 (by decide) (fun c_4 => ?_) (fun c_4 => ?_)
  · refine lv_lload_n hx hb dX4_cappedEnergy_14 rfl (lv_at hl 0 rfl) ?_
    exact hret _ _ _ _ _ _ _ _ dX4_cappedEnergy_15 w ⟨by first | exact (if_pos (by assumption)).symm | exact (if_neg (by assumption)).symm, rfl⟩ (Nat.le_of_ble_eq_true rfl) (Nat.le_of_ble_eq_true rfl)
  · refine lv_ldc2 (v := 1000000000000) hx hb hown (hts (.constantLong RX4 260 1000000000000) (by decide +kernel)) dX4_cappedEnergy_8 ?_
    refine lv_goto (tgt := 15) hx hb dX4_cappedEnergy_11 (by decide) ?_
    exact hret _ _ _ _ _ _ _ _ dX4_cappedEnergy_15 w ⟨by first | exact (if_pos (by assumption)).symm | exact (if_neg (by assumption)).symm, rfl⟩ (Nat.le_of_ble_eq_true rfl) (Nat.le_of_ble_eq_true rfl)

abbrev rc_X0_noiseBeside : Room := { frames := 0, cells := 0, slots := 0, locals := 0 }
set_option maxHeartbeats 4000000 in
set_option maxRecDepth 100000 in
theorem c_X0_noiseBeside (l : Launch) (k : kY) (h : hS) {P P2 : Nat} (hP : pp P) (hP2 : pp P2) {t : Nat} (ht : t < 16) : CT l k yX0_noiseBeside wsX0_noiseBeside rc_X0_noiseBeside [.ref (k.2.1 P), .ref (k.2.1 P2), .int (nI t)] h (QL k (fun r h' => r = dnP h P P2 t ∧ h' = h)) 0 0 := by
  refine q_metL (cc := cX0_noiseBeside) (maxL := 3) (by decide) rfl (Nat.le_of_ble_eq_true rfl) ?_
  intro p e s m args below meth c Q ls X w hl hret
  have hx := X.1
  have hb := X.2.1
  have hown := X.2.2.2.1
  have hts := X.2.2.2.2
  have hl : lv_has ls 3 [(0, .ref (k.2.1 P)), (1, .ref (k.2.1 P2)), (2, .int (nI t))] := hl
  have hi0 : ∀ w ∈ u_ws RX0 TX0 10, w ∈ wsX0_noiseBeside := by decide +kernel
  refine lv_aload_n hx hb dX0_noiseBeside_0 rfl (lv_at hl 0 rfl) ?_
  refine q_get X w P 0 (ci := 0) (pp_lt0 hP) (hE_p0 hP k _) rfl hi0 (by decide) (by decide +kernel) rfl dX0_noiseBeside_1 ?_
  refine lv_iload_n hx hb dX0_noiseBeside_4 rfl (lv_at hl 2 rfl) ?_
  refine q_iald X w (P + 1) t (pp_lt hP (c := 1) (by decide)) (hE_pi hP 1 (by decide) (by decide) k) rfl (by omega) (by decide) dX0_noiseBeside_5 ?_
  refine lv_i2l hx hb dX0_noiseBeside_6 rfl ?_
  refine lv_aload_n hx hb dX0_noiseBeside_7 rfl (lv_at hl 0 rfl) ?_
  refine q_get X w P 1 (ci := 0) (pp_lt0 hP) (hE_p0 hP k _) rfl hi0 (by decide) (by decide +kernel) rfl dX0_noiseBeside_8 ?_
  refine lv_iload_n hx hb dX0_noiseBeside_11 rfl (lv_at hl 2 rfl) ?_
  refine q_iald X w (P + 2) t (pp_lt hP (c := 2) (by decide)) (hE_pi hP 2 (by decide) (by decide) k) rfl (by omega) (by decide) dX0_noiseBeside_12 ?_
  refine lv_i2l hx hb dX0_noiseBeside_13 rfl ?_
  refine lv_aload_n hx hb dX0_noiseBeside_14 rfl (lv_at hl 1 rfl) ?_
  refine q_get X w P2 5 (ci := 0) (pp_lt0 hP2) (hE_p0 hP2 k _) rfl hi0 (by decide) (by decide +kernel) rfl dX0_noiseBeside_15 ?_
  refine lv_iload_n hx hb dX0_noiseBeside_18 rfl (lv_at hl 2 rfl) ?_
  refine q_lald X w (P2 + 6) t (pp_lt hP2 (c := 6) (by decide)) (hE_p6 hP2 k) rfl (by omega) (by decide) dX0_noiseBeside_19 ?_
  refine lv_lmul hx hb dX0_noiseBeside_20 ?_
  refine lv_ldc2 (v := 1000) hx hb hown (hts (.constantLong RX0 66 1000) (by decide +kernel)) dX0_noiseBeside_21 ?_
  refine lv_ldiv hx hb dX0_noiseBeside_24 (by decide) ?_
  refine lv_ladd hx hb dX0_noiseBeside_25 ?_
  exact hret _ _ _ _ _ _ _ _ dX0_noiseBeside_26 w ⟨rfl, rfl⟩ (Nat.le_of_ble_eq_true rfl) (Nat.le_of_ble_eq_true rfl)

abbrev rc_X0_needBeside : Room := { frames := 1, cells := 0, slots := 0, locals := 22 }
set_option maxHeartbeats 4000000 in
set_option maxRecDepth 100000 in
theorem c_X0_needBeside (l : Launch) (k : kY) (h : hS) {P P2 : Nat} (hP : pp P) (hP2 : pp P2) {t : Nat} (ht : t < 16) : CT l k yX0_needBeside wsX0_needBeside rc_X0_needBeside [.ref (k.2.1 P), .ref (k.2.1 P2), .int (nI t)] h (QL k (fun r h' => r = ndP h P P2 t ∧ h' = h)) 0 0 := by
  refine q_metL (cc := cX0_needBeside) (maxL := 3) (by decide) rfl (Nat.le_of_ble_eq_true rfl) ?_
  intro p e s m args below meth c Q ls X w hl hret
  have hx := X.1
  have hb := X.2.1
  have hown := X.2.2.2.1
  have hts := X.2.2.2.2
  have hl : lv_has ls 3 [(0, .ref (k.2.1 P)), (1, .ref (k.2.1 P2)), (2, .int (nI t))] := hl
  have hi0 : ∀ w ∈ u_ws RX0 TX0 10, w ∈ wsX0_needBeside := by decide +kernel
  refine lv_aload_n hx hb dX0_needBeside_0 rfl (lv_at hl 0 rfl) ?_
  refine q_get X w P 3 (ci := 0) (pp_lt0 hP) (hE_p0 hP k _) rfl hi0 (by decide) (by decide +kernel) rfl dX0_needBeside_1 ?_
  refine lv_iload_n hx hb dX0_needBeside_4 rfl (lv_at hl 2 rfl) ?_
  refine q_iald X w (P + 4) t (pp_lt hP (c := 4) (by decide)) (hE_pi hP 4 (by decide) (by decide) k) rfl (by omega) (by decide) dX0_needBeside_5 ?_
  refine lv_aload_n hx hb dX0_needBeside_6 rfl (lv_at hl 0 rfl) ?_
  refine lv_aload_n hx hb dX0_needBeside_7 rfl (lv_at hl 1 rfl) ?_
  refine lv_iload_n hx hb dX0_needBeside_8 rfl (lv_at hl 2 rfl) ?_
  refine q_calll w (q_runV X w P (c_X0_noiseBeside l k h hP hP2 (t := t) (by omega)) (cwV 2 hts gX0_needBeside_X0_noiseBeside rfl rfl rfl (by decide +kernel) ⟨Nat.le_of_ble_eq_true rfl, Nat.le_of_ble_eq_true rfl⟩) (pp_lt0 hP) (hE_p0 hP k _) rfl rfl hl.1 rfl (Nat.le_of_ble_eq_true rfl) dX0_needBeside_9 ⟨Nat.le_of_ble_eq_true rfl, Nat.le_of_ble_eq_true rfl⟩) (fun r_9 h_9 H locs hp w => ?_)
  obtain ⟨er_9, eh_9⟩ := hp
  rw [eh_9] at w
  subst er_9
  refine q_calll w (q_runN X w (c_X4_needFor l k h (h.1 (P + 4) t) (dnP h P P2 t)) ⟨va_cnB 2 hts gX0_needBeside_X4_needFor_n72 rfl rfl rfl (w.2.2.2.2.1 (RX0, 72, yX4_needFor) (by decide +kernel)) (hts (.initialized RX4) (by decide +kernel)) (by decide +kernel) ⟨Nat.le_of_ble_eq_true rfl, Nat.le_of_ble_eq_true rfl⟩, hts (.static yX4_needFor) (by decide +kernel), trivial⟩ rfl hl.1 rfl (Nat.le_of_ble_eq_true rfl) dX0_needBeside_12 ⟨Nat.le_of_ble_eq_true rfl, Nat.le_of_ble_eq_true rfl⟩) (fun r_12 h_12 H locs hp w => ?_)
  obtain ⟨er_12, eh_12⟩ := hp
  rw [eh_12] at w
  subst er_12
  exact hret _ _ _ _ _ _ _ _ dX0_needBeside_15 w ⟨rfl, rfl⟩ (Nat.le_of_ble_eq_true rfl) (Nat.le_of_ble_eq_true rfl)
