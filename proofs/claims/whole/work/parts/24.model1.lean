theorem mcA_n1 {R : Nat → Int64} {q t : Nat} {but : Int32} (e : nI t = but) : ¬ mcA R q but t = true := fun z => (of_decide_eq_true z).1 e
theorem mcA_n2 {R : Nat → Int64} {q t : Nat} {but : Int32} (e : ¬ R (1 + 116 * q + (49 + t)) < R (1 + 116 * q + (33 + t))) : ¬ mcA R q but t = true := fun z => e (of_decide_eq_true z).2

abbrev rc_X5_at : Room := { frames := 0, cells := 0, slots := 0, locals := 0 }
set_option maxHeartbeats 4000000 in
set_option maxRecDepth 100000 in
theorem c_X5_at (l : Launch) (k : kY) (h : hS) (q u : Nat) : CT l k yX5_at wsX5_at rc_X5_at [.int (nI q), .int (nI u)] h (QI k (fun r h' => r = nI (1 + 116 * q + u) ∧ h' = h)) 0 0 := by
  refine q_metI (cc := cX5_at) (maxL := 2) (ret := some .int) (ty := .int) (by decide) rfl rfl (Nat.le_of_ble_eq_true rfl) ?_
  intro p e s m args below meth c Q ls X w hl hret
  have hx := X.1
  have hb := X.2.1
  have hown := X.2.2.2.1
  have hts := X.2.2.2.2
  have hl : lv_has ls 2 [(0, .int (nI q)), (1, .int (nI u))] := hl
  refine lv_iconst (v := nI 1) hx hb dX5_at_0 (by decide) ?_
  refine lv_bipush (v := nI 116) hx hb dX5_at_1 (by decide) ?_
  refine lv_iload_n hx hb dX5_at_3 rfl (lv_at hl 0 rfl) ?_
  refine q_imulN X dX5_at_4 ?_
  refine q_iaddN X dX5_at_5 ?_
  refine lv_iload_n hx hb dX5_at_6 rfl (lv_at hl 1 rfl) ?_
  refine q_iaddN X dX5_at_7 ?_
  exact hret _ _ _ _ _ _ _ _ dX5_at_8 w rfl ⟨rfl, rfl⟩ (Nat.le_of_ble_eq_true rfl) (Nat.le_of_ble_eq_true rfl)

abbrev rc_X5_in : Room := { frames := 0, cells := 0, slots := 0, locals := 0 }
set_option maxHeartbeats 4000000 in
set_option maxRecDepth 100000 in
theorem c_X5_in (l : Launch) (k : kY) (h : hS) (v lo hi : Int64) : CT l k yX5_in wsX5_in rc_X5_in [.long v, .long lo, .long hi] h (QI k (fun r h' => (((¬ v < lo ∧ ¬ hi < v) ∧ r = nI 1) ∨ (¬ (¬ v < lo ∧ ¬ hi < v) ∧ r = nI 0)) ∧ h' = h)) 0 0 := by
  refine q_metI (cc := cX5_in) (maxL := 6) (ret := some .boolean) (ty := .boolean) (by decide) rfl rfl (Nat.le_of_ble_eq_true rfl) ?_
  intro p e s m args below meth c Q ls X w hl hret
  have hx := X.1
  have hb := X.2.1
  have hown := X.2.2.2.1
  have hts := X.2.2.2.2
  have hl : lv_has ls 6 [(0, .long v), (2, .long lo), (4, .long hi)] := hl
  refine lv_lload_n hx hb dX5_in_0 rfl (lv_at hl 0 rfl) ?_
  refine lv_lload_n hx hb dX5_in_1 rfl (lv_at hl 1 rfl) ?_
  refine q_lif_lt X (tgt := 17) dX5_in_2 dX5_in_3 (by decide) (fun c_2 => ?_) (fun c_2 => ?_)
  · refine lv_iconst (v := nI 0) hx hb dX5_in_17 (by decide) ?_
    exact hret _ _ _ _ _ _ _ _ dX5_in_18 w (by decide) ⟨Or.inr ⟨by first | exact fun z => z.1 c_2 | exact fun z => z.2 c_9, rfl⟩, rfl⟩ (Nat.le_of_ble_eq_true rfl) (Nat.le_of_ble_eq_true rfl)
  · refine lv_lload_n hx hb dX5_in_6 rfl (lv_at hl 0 rfl) ?_
    refine lv_lload hx hb dX5_in_7 (lv_at hl 2 rfl) ?_
    refine q_lif_gt X (tgt := 17) dX5_in_9 dX5_in_10 (by decide) (fun c_9 => ?_) (fun c_9 => ?_)
    · refine lv_iconst (v := nI 0) hx hb dX5_in_17 (by decide) ?_
      exact hret _ _ _ _ _ _ _ _ dX5_in_18 w (by decide) ⟨Or.inr ⟨by first | exact fun z => z.1 c_2 | exact fun z => z.2 c_9, rfl⟩, rfl⟩ (Nat.le_of_ble_eq_true rfl) (Nat.le_of_ble_eq_true rfl)
    · refine lv_iconst (v := nI 1) hx hb dX5_in_13 (by decide) ?_
      refine lv_goto (tgt := 18) hx hb dX5_in_14 (by decide) ?_
      exact hret _ _ _ _ _ _ _ _ dX5_in_18 w (by decide) ⟨Or.inl ⟨⟨c_2, c_9⟩, rfl⟩, rfl⟩ (Nat.le_of_ble_eq_true rfl) (Nat.le_of_ble_eq_true rfl)

abbrev rc_X5_isTone : Room := { frames := 1, cells := 0, slots := 0, locals := 25 }
set_option maxHeartbeats 4000000 in
set_option maxRecDepth 100000 in
theorem c_X5_isTone (l : Launch) (k : kY) (h : hS) (x : Int32) : CT l k yX5_isTone wsX5_isTone rc_X5_isTone [.int x] h (QI k (fun r h' => ((isT x ∧ r = nI 1) ∨ (¬ isT x ∧ r = nI 0)) ∧ h' = h)) 0 0 := by
  refine q_metI (cc := cX5_isTone) (maxL := 1) (ret := some .boolean) (ty := .boolean) (by decide) rfl rfl (Nat.le_of_ble_eq_true rfl) ?_
  intro p e s m args below meth c Q ls X w hl hret
  have hx := X.1
  have hb := X.2.1
  have hown := X.2.2.2.1
  have hts := X.2.2.2.2
  have hl : lv_has ls 1 [(0, .int x)] := hl
  refine lv_iload_n hx hb dX5_isTone_0 rfl (lv_at hl 0 rfl) ?_
  refine lv_i2l hx hb dX5_isTone_1 rfl ?_
  refine lv_lconst (v := 0) hx hb dX5_isTone_2 (by decide) ?_
  refine lv_ldc2 (v := 15) hx hb hown (hts (.constantLong RX5 37 15) (by decide +kernel)) dX5_isTone_3 ?_
  refine q_calli w (q_runS X w (c_X5_in l k h x.toInt64 0 15) (va_cwS 3 hts gX5_isTone_X5_in rfl rfl rfl (by decide +kernel) ⟨Nat.le_of_ble_eq_true rfl, Nat.le_of_ble_eq_true rfl⟩) rfl hl.1 rfl (Nat.le_of_ble_eq_true rfl) dX5_isTone_6 ⟨Nat.le_of_ble_eq_true rfl, Nat.le_of_ble_eq_true rfl⟩) (fun r_6 h_6 H locs hp w => ?_)
  obtain ⟨hp, eh_6⟩ := hp
  rw [eh_6] at w
  rcases hp with ⟨hd_6, er_6⟩ | ⟨hd_6, er_6⟩
  · subst er_6
    exact hret _ _ _ _ _ _ _ _ dX5_isTone_9 w (by decide) ⟨Or.inl ⟨isT_in.mp hd_6, rfl⟩, rfl⟩ (Nat.le_of_ble_eq_true rfl) (Nat.le_of_ble_eq_true rfl)
  · subst er_6
    exact hret _ _ _ _ _ _ _ _ dX5_isTone_9 w (by decide) ⟨Or.inr ⟨fun z => hd_6 (isT_in.mpr z), rfl⟩, rfl⟩ (Nat.le_of_ble_eq_true rfl) (Nat.le_of_ble_eq_true rfl)

abbrev rc_X5_isPair : Room := { frames := 1, cells := 0, slots := 0, locals := 25 }
set_option maxHeartbeats 4000000 in
set_option maxRecDepth 100000 in
theorem c_X5_isPair (l : Launch) (k : kY) (h : hS) (x : Int32) : CT l k yX5_isPair wsX5_isPair rc_X5_isPair [.int x] h (QI k (fun r h' => ((isP x ∧ r = nI 1) ∨ (¬ isP x ∧ r = nI 0)) ∧ h' = h)) 0 0 := by
  refine q_metI (cc := cX5_isPair) (maxL := 1) (ret := some .boolean) (ty := .boolean) (by decide) rfl rfl (Nat.le_of_ble_eq_true rfl) ?_
  intro p e s m args below meth c Q ls X w hl hret
  have hx := X.1
  have hb := X.2.1
  have hown := X.2.2.2.1
  have hts := X.2.2.2.2
  have hl : lv_has ls 1 [(0, .int x)] := hl
  refine lv_iload_n hx hb dX5_isPair_0 rfl (lv_at hl 0 rfl) ?_
  refine lv_i2l hx hb dX5_isPair_1 rfl ?_
  refine lv_lconst (v := 0) hx hb dX5_isPair_2 (by decide) ?_
  refine lv_lconst (v := 1) hx hb dX5_isPair_3 (by decide) ?_
  refine q_calli w (q_runS X w (c_X5_in l k h x.toInt64 0 1) (va_cwS 3 hts gX5_isPair_X5_in rfl rfl rfl (by decide +kernel) ⟨Nat.le_of_ble_eq_true rfl, Nat.le_of_ble_eq_true rfl⟩) rfl hl.1 rfl (Nat.le_of_ble_eq_true rfl) dX5_isPair_4 ⟨Nat.le_of_ble_eq_true rfl, Nat.le_of_ble_eq_true rfl⟩) (fun r_4 h_4 H locs hp w => ?_)
  obtain ⟨hp, eh_4⟩ := hp
  rw [eh_4] at w
  rcases hp with ⟨hd_4, er_4⟩ | ⟨hd_4, er_4⟩
  · subst er_4
    exact hret _ _ _ _ _ _ _ _ dX5_isPair_7 w (by decide) ⟨Or.inl ⟨isP_in.mp hd_4, rfl⟩, rfl⟩ (Nat.le_of_ble_eq_true rfl) (Nat.le_of_ble_eq_true rfl)
  · subst er_4
    exact hret _ _ _ _ _ _ _ _ dX5_isPair_7 w (by decide) ⟨Or.inr ⟨fun z => hd_4 (isP_in.mpr z), rfl⟩, rfl⟩ (Nat.le_of_ble_eq_true rfl) (Nat.le_of_ble_eq_true rfl)

abbrev rc_X5_thrown : Room := { frames := 0, cells := 0, slots := 0, locals := 0 }
set_option maxHeartbeats 4000000 in
set_option maxRecDepth 100000 in
theorem c_X5_thrown (l : Launch) (k : kY) (h : hS)  : CT l k yX5_thrown wsX5_thrown rc_X5_thrown [.ref (k.2.1 91)] h (QI k (fun r h' => r = h.1 91 3 ∧ h' = h)) 0 0 := by
  refine q_metI (cc := cX5_thrown) (maxL := 1) (ret := some .int) (ty := .int) (by decide) rfl rfl (Nat.le_of_ble_eq_true rfl) ?_
  intro p e s m args below meth c Q ls X w hl hret
  have hx := X.1
  have hb := X.2.1
  have hown := X.2.2.2.1
  have hts := X.2.2.2.2
  have hl : lv_has ls 1 [(0, .ref (k.2.1 91))] := hl
  have hi5 : ∀ w ∈ u_ws RX5 TX5 6, w ∈ wsX5_thrown := by decide +kernel
  refine lv_aload_n hx hb dX5_thrown_0 rfl (lv_at hl 0 rfl) ?_
  refine q_get X w 91 3 (ci := 5) (by decide) rfl rfl hi5 (by decide) (by decide +kernel) rfl dX5_thrown_1 ?_
  exact hret _ _ _ _ _ _ _ _ dX5_thrown_4 w rfl ⟨rfl, rfl⟩ (Nat.le_of_ble_eq_true rfl) (Nat.le_of_ble_eq_true rfl)

abbrev rc_X5_bad : Room := { frames := 0, cells := 0, slots := 0, locals := 0 }
set_option maxHeartbeats 4000000 in
set_option maxRecDepth 100000 in
theorem c_X5_bad (l : Launch) (k : kY) (h : hS) (v : Int32) : CT l k yX5_bad wsX5_bad rc_X5_bad [.ref (k.2.1 91), .int v] h (QI k (fun r h' => r = nI 0 ∧ h' = upI h 91 3 v)) 0 0 := by
  refine q_metI (cc := cX5_bad) (maxL := 2) (ret := some .int) (ty := .int) (by decide) rfl rfl (Nat.le_of_ble_eq_true rfl) ?_
  intro p e s m args below meth c Q ls X w hl hret
  have hx := X.1
  have hb := X.2.1
  have hown := X.2.2.2.1
  have hts := X.2.2.2.2
  have hl : lv_has ls 2 [(0, .ref (k.2.1 91)), (1, .int v)] := hl
  have hi5 : ∀ w ∈ u_ws RX5 TX5 6, w ∈ wsX5_bad := by decide +kernel
  refine lv_aload_n hx hb dX5_bad_0 rfl (lv_at hl 0 rfl) ?_
  refine lv_iload_n hx hb dX5_bad_1 rfl (lv_at hl 1 rfl) ?_
  refine q_put X w 91 3 .int (ci := 5) (by decide) rfl rfl rfl hi5 tyX5_ok nmX5 (by decide) (by decide +kernel) rfl (by decide +kernel) (rfl) (rfl) (Nat.le_of_ble_eq_true rfl) dX5_bad_2 (fun H locs w => ?_)
  obtain ⟨h_2, eh_2⟩ : ∃ z9, z9 = upI h 91 3 v := ⟨_, rfl⟩
  rw [← eh_2] at w
  refine lv_iconst (v := nI 0) hx hb dX5_bad_5 (by decide) ?_
  exact hret _ _ _ _ _ _ _ _ dX5_bad_6 w rfl ⟨rfl, eh_2⟩ (Nat.le_of_ble_eq_true rfl) (Nat.le_of_ble_eq_true rfl)

abbrev rc_X5_noiseOf : Room := { frames := 1, cells := 0, slots := 0, locals := 21 }
set_option maxHeartbeats 4000000 in
set_option maxRecDepth 100000 in
theorem c_X5_noiseOf (l : Launch) (k : kY) (h : hS) {q t : Nat} (hq : q < 2) (ht : t < 16) : CT l k yX5_noiseOf wsX5_noiseOf rc_X5_noiseOf [.ref (k.2.1 91), .int (nI q), .int (nI t)] h (QL k (fun r h' => r = mdn (h.2.1 92) q t ∧ h' = h)) 0 0 := by
  refine q_metL (cc := cX5_noiseOf) (maxL := 3) (by decide) rfl (Nat.le_of_ble_eq_true rfl) ?_
  intro p e s m args below meth c Q ls X w hl hret
  have hx := X.1
  have hb := X.2.1
  have hown := X.2.2.2.1
  have hts := X.2.2.2.2
  have hl : lv_has ls 3 [(0, .ref (k.2.1 91)), (1, .int (nI q)), (2, .int (nI t))] := hl
  have hi5 : ∀ w ∈ u_ws RX5 TX5 6, w ∈ wsX5_noiseOf := by decide +kernel
  refine lv_aload_n hx hb dX5_noiseOf_0 rfl (lv_at hl 0 rfl) ?_
  refine q_get X w 91 0 (ci := 5) (by decide) rfl rfl hi5 (by decide) (by decide +kernel) rfl dX5_noiseOf_1 ?_
  refine lv_iload_n hx hb dX5_noiseOf_4 rfl (lv_at hl 1 rfl) ?_
  refine lv_iconst (v := nI 1) hx hb dX5_noiseOf_5 (by decide) ?_
  refine lv_iload_n hx hb dX5_noiseOf_6 rfl (lv_at hl 2 rfl) ?_
  refine q_iaddN X dX5_noiseOf_7 ?_
  refine q_calli w (q_runS X w (c_X5_at l k h q (1 + t)) (va_cwS 2 hts gX5_noiseOf_X5_at rfl rfl rfl (by decide +kernel) ⟨Nat.le_of_ble_eq_true rfl, Nat.le_of_ble_eq_true rfl⟩) rfl hl.1 rfl (Nat.le_of_ble_eq_true rfl) dX5_noiseOf_8 ⟨Nat.le_of_ble_eq_true rfl, Nat.le_of_ble_eq_true rfl⟩) (fun r_8 h_8 H locs hp w => ?_)
  obtain ⟨er_8, eh_8⟩ := hp
  rw [eh_8] at w
  have er_8 : r_8 = nI (1 + 116 * q + (1 + t)) := er_8
  subst er_8
  refine q_lald X w 92 (1 + 116 * q + (1 + t)) (by decide) (fun _ => rfl) rfl (show (1 + 116 * q + (1 + t)) < 233 by omega) (by decide) dX5_noiseOf_11 ?_
  refine lv_aload_n hx hb dX5_noiseOf_12 rfl (lv_at hl 0 rfl) ?_
  refine q_get X w 91 0 (ci := 5) (by decide) rfl rfl hi5 (by decide) (by decide +kernel) rfl dX5_noiseOf_13 ?_
  refine lv_iload_n hx hb dX5_noiseOf_16 rfl (lv_at hl 1 rfl) ?_
  refine lv_bipush (v := nI 17) hx hb dX5_noiseOf_17 (by decide) ?_
  refine lv_iload_n hx hb dX5_noiseOf_19 rfl (lv_at hl 2 rfl) ?_
  refine q_iaddN X dX5_noiseOf_20 ?_
  refine q_calli w (q_runS X w (c_X5_at l k h q (17 + t)) (va_cwS 2 hts gX5_noiseOf_X5_at rfl rfl rfl (by decide +kernel) ⟨Nat.le_of_ble_eq_true rfl, Nat.le_of_ble_eq_true rfl⟩) rfl hl.1 rfl (Nat.le_of_ble_eq_true rfl) dX5_noiseOf_21 ⟨Nat.le_of_ble_eq_true rfl, Nat.le_of_ble_eq_true rfl⟩) (fun r_21 h_21 H locs hp w => ?_)
  obtain ⟨er_21, eh_21⟩ := hp
  rw [eh_21] at w
  have er_21 : r_21 = nI (1 + 116 * q + (17 + t)) := er_21
  subst er_21
  refine q_lald X w 92 (1 + 116 * q + (17 + t)) (by decide) (fun _ => rfl) rfl (show (1 + 116 * q + (17 + t)) < 233 by omega) (by decide) dX5_noiseOf_24 ?_
  refine lv_aload_n hx hb dX5_noiseOf_25 rfl (lv_at hl 0 rfl) ?_
  refine q_get X w 91 0 (ci := 5) (by decide) rfl rfl hi5 (by decide) (by decide +kernel) rfl dX5_noiseOf_26 ?_
  refine lv_iconst (v := nI 1) hx hb dX5_noiseOf_29 (by decide) ?_
  refine lv_iload_n hx hb dX5_noiseOf_30 rfl (lv_at hl 1 rfl) ?_
  refine q_isubN X (by omega) dX5_noiseOf_31 ?_
  refine lv_bipush (v := nI 81) hx hb dX5_noiseOf_32 (by decide) ?_
  refine lv_iload_n hx hb dX5_noiseOf_34 rfl (lv_at hl 2 rfl) ?_
  refine q_iaddN X dX5_noiseOf_35 ?_
  refine q_calli w (q_runS X w (c_X5_at l k h (1 - q) (81 + t)) (va_cwS 2 hts gX5_noiseOf_X5_at rfl rfl rfl (by decide +kernel) ⟨Nat.le_of_ble_eq_true rfl, Nat.le_of_ble_eq_true rfl⟩) rfl hl.1 rfl (Nat.le_of_ble_eq_true rfl) dX5_noiseOf_36 ⟨Nat.le_of_ble_eq_true rfl, Nat.le_of_ble_eq_true rfl⟩) (fun r_36 h_36 H locs hp w => ?_)
  obtain ⟨er_36, eh_36⟩ := hp
  rw [eh_36] at w
  have er_36 : r_36 = nI (1 + 116 * (1 - q) + (81 + t)) := er_36
  subst er_36
  refine q_lald X w 92 (1 + 116 * (1 - q) + (81 + t)) (by decide) (fun _ => rfl) rfl (show (1 + 116 * (1 - q) + (81 + t)) < 233 by omega) (by decide) dX5_noiseOf_39 ?_
  refine lv_lmul hx hb dX5_noiseOf_40 ?_
  refine lv_ldc2 (v := 1000) hx hb hown (hts (.constantLong RX5 68 1000) (by decide +kernel)) dX5_noiseOf_41 ?_
  refine lv_ldiv hx hb dX5_noiseOf_44 (by decide) ?_
  refine lv_ladd hx hb dX5_noiseOf_45 ?_
  exact hret _ _ _ _ _ _ _ _ dX5_noiseOf_46 w ⟨rfl, rfl⟩ (Nat.le_of_ble_eq_true rfl) (Nat.le_of_ble_eq_true rfl)

abbrev rc_X5_need : Room := { frames := 0, cells := 0, slots := 0, locals := 0 }
set_option maxHeartbeats 4000000 in
set_option maxRecDepth 100000 in
theorem c_X5_need (l : Launch) (k : kY) (h : hS) (b n : Int64) : CT l k yX5_need wsX5_need rc_X5_need [.long b, .long n] h (QL k (fun r h' => r = ndl b n ∧ h' = h)) 0 0 := by
  refine q_metL (cc := cX5_need) (maxL := 4) (by decide) rfl (Nat.le_of_ble_eq_true rfl) ?_
  intro p e s m args below meth c Q ls X w hl hret
  have hx := X.1
  have hb := X.2.1
  have hown := X.2.2.2.1
  have hts := X.2.2.2.2
  have hl : lv_has ls 4 [(0, .long b), (2, .long n)] := hl
  refine lv_lconst (v := 1) hx hb dX5_need_0 (by decide) ?_
  refine lv_lload_n hx hb dX5_need_1 rfl (lv_at hl 0 rfl) ?_
  refine lv_l2i hx hb dX5_need_2 rfl ?_
  refine lv_lshl hx hb dX5_need_3 rfl ?_
  refine lv_lconst (v := 1) hx hb dX5_need_4 (by decide) ?_
  refine lv_lsub hx hb dX5_need_5 ?_
  refine lv_lload_n hx hb dX5_need_6 rfl (lv_at hl 1 rfl) ?_
  refine lv_lmul hx hb dX5_need_7 ?_
  exact hret _ _ _ _ _ _ _ _ dX5_need_8 w ⟨rfl, rfl⟩ (Nat.le_of_ble_eq_true rfl) (Nat.le_of_ble_eq_true rfl)

abbrev rc_X5_stepOf : Room := { frames := 2, cells := 0, slots := 0, locals := 43 }
set_option maxHeartbeats 4000000 in
set_option maxRecDepth 100000 in
theorem c_X5_stepOf (l : Launch) (k : kY) (h : hS) {q t : Nat} (hq : q < 2) (ht : t < 16) : CT l k yX5_stepOf wsX5_stepOf rc_X5_stepOf [.ref (k.2.1 91), .int (nI q), .int (nI t)] h (QL k (fun r h' => r = mst (h.2.1 92) q t ∧ h' = h)) 0 0 := by
  refine q_metL (cc := cX5_stepOf) (maxL := 3) (by decide) rfl (Nat.le_of_ble_eq_true rfl) ?_
  intro p e s m args below meth c Q ls X w hl hret
  have hx := X.1
  have hb := X.2.1
  have hown := X.2.2.2.1
  have hts := X.2.2.2.2
  have hl : lv_has ls 3 [(0, .ref (k.2.1 91)), (1, .int (nI q)), (2, .int (nI t))] := hl
  have hi5 : ∀ w ∈ u_ws RX5 TX5 6, w ∈ wsX5_stepOf := by decide +kernel
  refine lv_lconst (v := 1) hx hb dX5_stepOf_0 (by decide) ?_
  refine lv_aload_n hx hb dX5_stepOf_1 rfl (lv_at hl 0 rfl) ?_
  refine q_get X w 91 0 (ci := 5) (by decide) rfl rfl hi5 (by decide) (by decide +kernel) rfl dX5_stepOf_2 ?_
  refine lv_iload_n hx hb dX5_stepOf_5 rfl (lv_at hl 1 rfl) ?_
  refine lv_bipush (v := nI 49) hx hb dX5_stepOf_6 (by decide) ?_
  refine lv_iload_n hx hb dX5_stepOf_8 rfl (lv_at hl 2 rfl) ?_
  refine q_iaddN X dX5_stepOf_9 ?_
  refine q_calli w (q_runS X w (c_X5_at l k h q (49 + t)) (va_cwS 2 hts gX5_stepOf_X5_at rfl rfl rfl (by decide +kernel) ⟨Nat.le_of_ble_eq_true rfl, Nat.le_of_ble_eq_true rfl⟩) rfl hl.1 rfl (Nat.le_of_ble_eq_true rfl) dX5_stepOf_10 ⟨Nat.le_of_ble_eq_true rfl, Nat.le_of_ble_eq_true rfl⟩) (fun r_10 h_10 H locs hp w => ?_)
  obtain ⟨er_10, eh_10⟩ := hp
  rw [eh_10] at w
  have er_10 : r_10 = nI (1 + 116 * q + (49 + t)) := er_10
  subst er_10
  refine q_lald X w 92 (1 + 116 * q + (49 + t)) (by decide) (fun _ => rfl) rfl (show (1 + 116 * q + (49 + t)) < 233 by omega) (by decide) dX5_stepOf_13 ?_
  refine lv_l2i hx hb dX5_stepOf_14 rfl ?_
  refine lv_lshl hx hb dX5_stepOf_15 rfl ?_
  refine lv_aload_n hx hb dX5_stepOf_16 rfl (lv_at hl 0 rfl) ?_
  refine lv_iload_n hx hb dX5_stepOf_17 rfl (lv_at hl 1 rfl) ?_
  refine lv_iload_n hx hb dX5_stepOf_18 rfl (lv_at hl 2 rfl) ?_
  refine q_calll w (q_runV X w 91 (c_X5_noiseOf l k h (q := q) (t := t) (by omega) (by omega)) (cwV 2 hts gX5_stepOf_X5_noiseOf rfl rfl rfl (by decide +kernel) ⟨Nat.le_of_ble_eq_true rfl, Nat.le_of_ble_eq_true rfl⟩) (by decide) rfl rfl rfl hl.1 rfl (Nat.le_of_ble_eq_true rfl) dX5_stepOf_19 ⟨Nat.le_of_ble_eq_true rfl, Nat.le_of_ble_eq_true rfl⟩) (fun r_19 h_19 H locs hp w => ?_)
  obtain ⟨er_19, eh_19⟩ := hp
  rw [eh_19] at w
  have er_19 : r_19 = mdn (h.2.1 92) q t := er_19
  subst er_19
  refine lv_lmul hx hb dX5_stepOf_22 ?_
  exact hret _ _ _ _ _ _ _ _ dX5_stepOf_23 w ⟨rfl, rfl⟩ (Nat.le_of_ble_eq_true rfl) (Nat.le_of_ble_eq_true rfl)

abbrev rc_X5_lastOf : Room := { frames := 3, cells := 0, slots := 0, locals := 65 }
set_option maxHeartbeats 4000000 in
set_option maxRecDepth 100000 in
theorem c_X5_lastOf (l : Launch) (k : kY) (h : hS) {q t : Nat} (hq : q < 2) (ht : t < 16) : CT l k yX5_lastOf wsX5_lastOf rc_X5_lastOf [.ref (k.2.1 91), .int (nI q), .int (nI t)] h (QL k (fun r h' => r = mls (h.2.1 92) q t ∧ h' = h)) 0 0 := by
  refine q_metL (cc := cX5_lastOf) (maxL := 3) (by decide) rfl (Nat.le_of_ble_eq_true rfl) ?_
  intro p e s m args below meth c Q ls X w hl hret
  have hx := X.1
  have hb := X.2.1
  have hown := X.2.2.2.1
  have hts := X.2.2.2.2
  have hl : lv_has ls 3 [(0, .ref (k.2.1 91)), (1, .int (nI q)), (2, .int (nI t))] := hl
  refine lv_aload_n hx hb dX5_lastOf_0 rfl (lv_at hl 0 rfl) ?_
  refine lv_iload_n hx hb dX5_lastOf_1 rfl (lv_at hl 1 rfl) ?_
  refine lv_iload_n hx hb dX5_lastOf_2 rfl (lv_at hl 2 rfl) ?_
  refine q_calll w (q_runV X w 91 (c_X5_stepOf l k h (q := q) (t := t) (by omega) (by omega)) (cwV 2 hts gX5_lastOf_X5_stepOf rfl rfl rfl (by decide +kernel) ⟨Nat.le_of_ble_eq_true rfl, Nat.le_of_ble_eq_true rfl⟩) (by decide) rfl rfl rfl hl.1 rfl (Nat.le_of_ble_eq_true rfl) dX5_lastOf_3 ⟨Nat.le_of_ble_eq_true rfl, Nat.le_of_ble_eq_true rfl⟩) (fun r_3 h_3 H locs hp w => ?_)
  obtain ⟨er_3, eh_3⟩ := hp
  rw [eh_3] at w
  have er_3 : r_3 = mst (h.2.1 92) q t := er_3
  subst er_3
  refine lv_ldc2 (v := 2) hx hb hown (hts (.constantLong RX5 79 2) (by decide +kernel)) dX5_lastOf_6 ?_
  refine lv_ldiv hx hb dX5_lastOf_9 (by decide) ?_
  exact hret _ _ _ _ _ _ _ _ dX5_lastOf_10 w ⟨rfl, rfl⟩ (Nat.le_of_ble_eq_true rfl) (Nat.le_of_ble_eq_true rfl)

abbrev rc_X5_needOf : Room := { frames := 2, cells := 0, slots := 0, locals := 43 }
set_option maxHeartbeats 4000000 in
set_option maxRecDepth 100000 in
theorem c_X5_needOf (l : Launch) (k : kY) (h : hS) {q t : Nat} (hq : q < 2) (ht : t < 16) : CT l k yX5_needOf wsX5_needOf rc_X5_needOf [.ref (k.2.1 91), .int (nI q), .int (nI t)] h (QL k (fun r h' => r = mnd (h.2.1 92) q t ∧ h' = h)) 0 0 := by
  refine q_metL (cc := cX5_needOf) (maxL := 3) (by decide) rfl (Nat.le_of_ble_eq_true rfl) ?_
  intro p e s m args below meth c Q ls X w hl hret
  have hx := X.1
  have hb := X.2.1
  have hown := X.2.2.2.1
  have hts := X.2.2.2.2
  have hl : lv_has ls 3 [(0, .ref (k.2.1 91)), (1, .int (nI q)), (2, .int (nI t))] := hl
  have hi5 : ∀ w ∈ u_ws RX5 TX5 6, w ∈ wsX5_needOf := by decide +kernel
  refine lv_aload_n hx hb dX5_needOf_0 rfl (lv_at hl 0 rfl) ?_
  refine q_get X w 91 0 (ci := 5) (by decide) rfl rfl hi5 (by decide) (by decide +kernel) rfl dX5_needOf_1 ?_
  refine lv_iload_n hx hb dX5_needOf_4 rfl (lv_at hl 1 rfl) ?_
  refine lv_bipush (v := nI 49) hx hb dX5_needOf_5 (by decide) ?_
  refine lv_iload_n hx hb dX5_needOf_7 rfl (lv_at hl 2 rfl) ?_
  refine q_iaddN X dX5_needOf_8 ?_
  refine q_calli w (q_runS X w (c_X5_at l k h q (49 + t)) (va_cwS 2 hts gX5_needOf_X5_at rfl rfl rfl (by decide +kernel) ⟨Nat.le_of_ble_eq_true rfl, Nat.le_of_ble_eq_true rfl⟩) rfl hl.1 rfl (Nat.le_of_ble_eq_true rfl) dX5_needOf_9 ⟨Nat.le_of_ble_eq_true rfl, Nat.le_of_ble_eq_true rfl⟩) (fun r_9 h_9 H locs hp w => ?_)
  obtain ⟨er_9, eh_9⟩ := hp
  rw [eh_9] at w
  have er_9 : r_9 = nI (1 + 116 * q + (49 + t)) := er_9
  subst er_9
  refine q_lald X w 92 (1 + 116 * q + (49 + t)) (by decide) (fun _ => rfl) rfl (show (1 + 116 * q + (49 + t)) < 233 by omega) (by decide) dX5_needOf_12 ?_
  refine lv_aload_n hx hb dX5_needOf_13 rfl (lv_at hl 0 rfl) ?_
  refine lv_iload_n hx hb dX5_needOf_14 rfl (lv_at hl 1 rfl) ?_
  refine lv_iload_n hx hb dX5_needOf_15 rfl (lv_at hl 2 rfl) ?_
  refine q_calll w (q_runV X w 91 (c_X5_noiseOf l k h (q := q) (t := t) (by omega) (by omega)) (cwV 2 hts gX5_needOf_X5_noiseOf rfl rfl rfl (by decide +kernel) ⟨Nat.le_of_ble_eq_true rfl, Nat.le_of_ble_eq_true rfl⟩) (by decide) rfl rfl rfl hl.1 rfl (Nat.le_of_ble_eq_true rfl) dX5_needOf_16 ⟨Nat.le_of_ble_eq_true rfl, Nat.le_of_ble_eq_true rfl⟩) (fun r_16 h_16 H locs hp w => ?_)
  obtain ⟨er_16, eh_16⟩ := hp
  rw [eh_16] at w
  have er_16 : r_16 = mdn (h.2.1 92) q t := er_16
  subst er_16
  refine q_calll w (q_runS X w (c_X5_need l k h (h.2.1 92 (1 + 116 * q + (49 + t))) (mdn (h.2.1 92) q t)) (va_cwS 2 hts gX5_needOf_X5_need rfl rfl rfl (by decide +kernel) ⟨Nat.le_of_ble_eq_true rfl, Nat.le_of_ble_eq_true rfl⟩) rfl hl.1 rfl (Nat.le_of_ble_eq_true rfl) dX5_needOf_19 ⟨Nat.le_of_ble_eq_true rfl, Nat.le_of_ble_eq_true rfl⟩) (fun r_19 h_19 H locs hp w => ?_)
  obtain ⟨er_19, eh_19⟩ := hp
  rw [eh_19] at w
  have er_19 : r_19 = ndl (h.2.1 92 (1 + 116 * q + (49 + t))) (mdn (h.2.1 92) q t) := er_19
  subst er_19
  exact hret _ _ _ _ _ _ _ _ dX5_needOf_22 w ⟨rfl, rfl⟩ (Nat.le_of_ble_eq_true rfl) (Nat.le_of_ble_eq_true rfl)

abbrev rc_X5_marginOf : Room := { frames := 3, cells := 0, slots := 0, locals := 65 }
set_option maxHeartbeats 4000000 in
set_option maxRecDepth 100000 in
theorem c_X5_marginOf (l : Launch) (k : kY) (h : hS) {q t : Nat} (hq : q < 2) (ht : t < 16) (hz : ¬ h.2.1 92 (1 + 116 * q + (49 + t)) = 0 → ¬ mnd (h.2.1 92) q t = 0) : CT l k yX5_marginOf wsX5_marginOf rc_X5_marginOf [.ref (k.2.1 91), .int (nI q), .int (nI t)] h (QL k (fun r h' => r = mmg (h.2.1 92) q t ∧ h' = h)) 0 0 := by
  refine q_metL (cc := cX5_marginOf) (maxL := 3) (by decide) rfl (Nat.le_of_ble_eq_true rfl) ?_
  intro p e s m args below meth c Q ls X w hl hret
  have hx := X.1
  have hb := X.2.1
  have hown := X.2.2.2.1
  have hts := X.2.2.2.2
  have hl : lv_has ls 3 [(0, .ref (k.2.1 91)), (1, .int (nI q)), (2, .int (nI t))] := hl
  have hi5 : ∀ w ∈ u_ws RX5 TX5 6, w ∈ wsX5_marginOf := by decide +kernel
  refine lv_aload_n hx hb dX5_marginOf_0 rfl (lv_at hl 0 rfl) ?_
  refine q_get X w 91 0 (ci := 5) (by decide) rfl rfl hi5 (by decide) (by decide +kernel) rfl dX5_marginOf_1 ?_
  refine lv_iload_n hx hb dX5_marginOf_4 rfl (lv_at hl 1 rfl) ?_
  refine lv_bipush (v := nI 49) hx hb dX5_marginOf_5 (by decide) ?_
  refine lv_iload_n hx hb dX5_marginOf_7 rfl (lv_at hl 2 rfl) ?_
  refine q_iaddN X dX5_marginOf_8 ?_
  refine q_calli w (q_runS X w (c_X5_at l k h q (49 + t)) (va_cwS 2 hts gX5_marginOf_X5_at rfl rfl rfl (by decide +kernel) ⟨Nat.le_of_ble_eq_true rfl, Nat.le_of_ble_eq_true rfl⟩) rfl hl.1 rfl (Nat.le_of_ble_eq_true rfl) dX5_marginOf_9 ⟨Nat.le_of_ble_eq_true rfl, Nat.le_of_ble_eq_true rfl⟩) (fun r_9 h_9 H locs hp w => ?_)
  obtain ⟨er_9, eh_9⟩ := hp
  rw [eh_9] at w
  have er_9 : r_9 = nI (1 + 116 * q + (49 + t)) := er_9
  subst er_9
  refine q_lald X w 92 (1 + 116 * q + (49 + t)) (by decide) (fun _ => rfl) rfl (show (1 + 116 * q + (49 + t)) < 233 by omega) (by decide) dX5_marginOf_12 ?_
  refine lv_lconst (v := 0) hx hb dX5_marginOf_13 (by decide) ?_
  refine q_lif_ne X (tgt := 24) dX5_marginOf_14 dX5_marginOf_15 (by decide) (fun c_14 => ?_) (fun c_14 => ?_)
  · refine lv_ldc2 (v := 100) hx hb hown (hts (.constantLong RX5 25 100) (by decide +kernel)) dX5_marginOf_24 ?_
    refine lv_aload_n hx hb dX5_marginOf_27 rfl (lv_at hl 0 rfl) ?_
    refine q_get X w 91 0 (ci := 5) (by decide) rfl rfl hi5 (by decide) (by decide +kernel) rfl dX5_marginOf_28 ?_
    refine lv_iload_n hx hb dX5_marginOf_31 rfl (lv_at hl 1 rfl) ?_
    refine lv_bipush (v := nI 81) hx hb dX5_marginOf_32 (by decide) ?_
    refine lv_iload_n hx hb dX5_marginOf_34 rfl (lv_at hl 2 rfl) ?_
    refine q_iaddN X dX5_marginOf_35 ?_
    refine q_calli w (q_runS X w (c_X5_at l k h q (81 + t)) (va_cwS 2 hts gX5_marginOf_X5_at rfl rfl rfl (by decide +kernel) ⟨Nat.le_of_ble_eq_true rfl, Nat.le_of_ble_eq_true rfl⟩) rfl hl.1 rfl (Nat.le_of_ble_eq_true rfl) dX5_marginOf_36 ⟨Nat.le_of_ble_eq_true rfl, Nat.le_of_ble_eq_true rfl⟩) (fun r_36 h_36 H locs hp w => ?_)
    obtain ⟨er_36, eh_36⟩ := hp
    rw [eh_36] at w
    have er_36 : r_36 = nI (1 + 116 * q + (81 + t)) := er_36
    subst er_36
    refine q_lald X w 92 (1 + 116 * q + (81 + t)) (by decide) (fun _ => rfl) rfl (show (1 + 116 * q + (81 + t)) < 233 by omega) (by decide) dX5_marginOf_39 ?_
    refine lv_lmul hx hb dX5_marginOf_40 ?_
    refine lv_aload_n hx hb dX5_marginOf_41 rfl (lv_at hl 0 rfl) ?_
    refine lv_iload_n hx hb dX5_marginOf_42 rfl (lv_at hl 1 rfl) ?_
    refine lv_iload_n hx hb dX5_marginOf_43 rfl (lv_at hl 2 rfl) ?_
    refine q_calll w (q_runV X w 91 (c_X5_needOf l k h (q := q) (t := t) (by omega) (by omega)) (cwV 2 hts gX5_marginOf_X5_needOf rfl rfl rfl (by decide +kernel) ⟨Nat.le_of_ble_eq_true rfl, Nat.le_of_ble_eq_true rfl⟩) (by decide) rfl rfl rfl hl.1 rfl (Nat.le_of_ble_eq_true rfl) dX5_marginOf_44 ⟨Nat.le_of_ble_eq_true rfl, Nat.le_of_ble_eq_true rfl⟩) (fun r_44 h_44 H locs hp w => ?_)
    obtain ⟨er_44, eh_44⟩ := hp
    rw [eh_44] at w
    have er_44 : r_44 = mnd (h.2.1 92) q t := er_44
    subst er_44
    refine lv_ldiv hx hb dX5_marginOf_47 (hz c_14) ?_
    exact hret _ _ _ _ _ _ _ _ dX5_marginOf_48 w ⟨by first | exact (if_pos c_14).symm | exact (if_neg c_14).symm, rfl⟩ (Nat.le_of_ble_eq_true rfl) (Nat.le_of_ble_eq_true rfl)
  · refine lv_ldc2 (v := (-1)) hx hb hown (hts (.constantLong RX5 94 (-1)) (by decide +kernel)) dX5_marginOf_18 ?_
    refine lv_goto (tgt := 48) hx hb dX5_marginOf_21 (by decide) ?_
    exact hret _ _ _ _ _ _ _ _ dX5_marginOf_48 w ⟨by first | exact (if_pos c_14).symm | exact (if_neg c_14).symm, rfl⟩ (Nat.le_of_ble_eq_true rfl) (Nat.le_of_ble_eq_true rfl)

abbrev rc_X5_isBelow : Room := { frames := 1, cells := 0, slots := 0, locals := 21 }
set_option maxHeartbeats 4000000 in
set_option maxRecDepth 100000 in
theorem c_X5_isBelow (l : Launch) (k : kY) (h : hS) {q t : Nat} (hq : q < 2) (ht : t < 16) : CT l k yX5_isBelow wsX5_isBelow rc_X5_isBelow [.ref (k.2.1 91), .int (nI q), .int (nI t)] h (QI k (fun r h' => ((h.2.1 92 (1 + 116 * q + (49 + t)) < h.2.1 92 (1 + 116 * q + (33 + t)) ∧ r = nI 1) ∨ (¬ h.2.1 92 (1 + 116 * q + (49 + t)) < h.2.1 92 (1 + 116 * q + (33 + t)) ∧ r = nI 0)) ∧ h' = h)) 0 0 := by
  refine q_metI (cc := cX5_isBelow) (maxL := 3) (ret := some .boolean) (ty := .boolean) (by decide) rfl rfl (Nat.le_of_ble_eq_true rfl) ?_
  intro p e s m args below meth c Q ls X w hl hret
  have hx := X.1
  have hb := X.2.1
  have hown := X.2.2.2.1
  have hts := X.2.2.2.2
  have hl : lv_has ls 3 [(0, .ref (k.2.1 91)), (1, .int (nI q)), (2, .int (nI t))] := hl
  have hi5 : ∀ w ∈ u_ws RX5 TX5 6, w ∈ wsX5_isBelow := by decide +kernel
  refine lv_aload_n hx hb dX5_isBelow_0 rfl (lv_at hl 0 rfl) ?_
  refine q_get X w 91 0 (ci := 5) (by decide) rfl rfl hi5 (by decide) (by decide +kernel) rfl dX5_isBelow_1 ?_
  refine lv_iload_n hx hb dX5_isBelow_4 rfl (lv_at hl 1 rfl) ?_
  refine lv_bipush (v := nI 49) hx hb dX5_isBelow_5 (by decide) ?_
  refine lv_iload_n hx hb dX5_isBelow_7 rfl (lv_at hl 2 rfl) ?_
  refine q_iaddN X dX5_isBelow_8 ?_
  refine q_calli w (q_runS X w (c_X5_at l k h q (49 + t)) (va_cwS 2 hts gX5_isBelow_X5_at rfl rfl rfl (by decide +kernel) ⟨Nat.le_of_ble_eq_true rfl, Nat.le_of_ble_eq_true rfl⟩) rfl hl.1 rfl (Nat.le_of_ble_eq_true rfl) dX5_isBelow_9 ⟨Nat.le_of_ble_eq_true rfl, Nat.le_of_ble_eq_true rfl⟩) (fun r_9 h_9 H locs hp w => ?_)
  obtain ⟨er_9, eh_9⟩ := hp
  rw [eh_9] at w
  have er_9 : r_9 = nI (1 + 116 * q + (49 + t)) := er_9
  subst er_9
  refine q_lald X w 92 (1 + 116 * q + (49 + t)) (by decide) (fun _ => rfl) rfl (show (1 + 116 * q + (49 + t)) < 233 by omega) (by decide) dX5_isBelow_12 ?_
  refine lv_aload_n hx hb dX5_isBelow_13 rfl (lv_at hl 0 rfl) ?_
  refine q_get X w 91 0 (ci := 5) (by decide) rfl rfl hi5 (by decide) (by decide +kernel) rfl dX5_isBelow_14 ?_
  refine lv_iload_n hx hb dX5_isBelow_17 rfl (lv_at hl 1 rfl) ?_
  refine lv_bipush (v := nI 33) hx hb dX5_isBelow_18 (by decide) ?_
  refine lv_iload_n hx hb dX5_isBelow_20 rfl (lv_at hl 2 rfl) ?_
  refine q_iaddN X dX5_isBelow_21 ?_
  refine q_calli w (q_runS X w (c_X5_at l k h q (33 + t)) (va_cwS 2 hts gX5_isBelow_X5_at rfl rfl rfl (by decide +kernel) ⟨Nat.le_of_ble_eq_true rfl, Nat.le_of_ble_eq_true rfl⟩) rfl hl.1 rfl (Nat.le_of_ble_eq_true rfl) dX5_isBelow_22 ⟨Nat.le_of_ble_eq_true rfl, Nat.le_of_ble_eq_true rfl⟩) (fun r_22 h_22 H locs hp w => ?_)
  obtain ⟨er_22, eh_22⟩ := hp
  rw [eh_22] at w
  have er_22 : r_22 = nI (1 + 116 * q + (33 + t)) := er_22
  subst er_22
  refine q_lald X w 92 (1 + 116 * q + (33 + t)) (by decide) (fun _ => rfl) rfl (show (1 + 116 * q + (33 + t)) < 233 by omega) (by decide) dX5_isBelow_25 ?_
  refine q_lif_ge X (tgt := 34) dX5_isBelow_26 dX5_isBelow_27 (by decide) (fun c_26 => ?_) (fun c_26 => ?_)
  · refine lv_iconst (v := nI 0) hx hb dX5_isBelow_34 (by decide) ?_
    exact hret _ _ _ _ _ _ _ _ dX5_isBelow_35 w (by decide) ⟨Or.inr ⟨c_26, rfl⟩, rfl⟩ (Nat.le_of_ble_eq_true rfl) (Nat.le_of_ble_eq_true rfl)
  · refine lv_iconst (v := nI 1) hx hb dX5_isBelow_30 (by decide) ?_
    refine lv_goto (tgt := 35) hx hb dX5_isBelow_31 (by decide) ?_
    exact hret _ _ _ _ _ _ _ _ dX5_isBelow_35 w (by decide) ⟨Or.inl ⟨c_26, rfl⟩, rfl⟩ (Nat.le_of_ble_eq_true rfl) (Nat.le_of_ble_eq_true rfl)

abbrev rc_X5_feed : Room := { frames := 3, cells := 0, slots := 0, locals := 65 }
set_option maxHeartbeats 4000000 in
set_option maxRecDepth 100000 in
theorem c_X5_feed (l : Launch) (k : kY) (h : hS) {q t : Nat} (hq : q < 2) (ht : t < 16) : CT l k yX5_feed wsX5_feed rc_X5_feed [.ref (k.2.1 91), .int (nI q), .int (nI t)] h (QV k (fun h' => h' = setL h 92 (mfd (h.2.1 92) q t))) 0 0 := by
  refine q_metV (cc := cX5_feed) (maxL := 5) (by decide) rfl (Nat.le_of_ble_eq_true rfl) ?_
  intro p e s m args below meth c Q ls X w hl hret
  have hx := X.1
  have hb := X.2.1
  have hown := X.2.2.2.1
  have hts := X.2.2.2.2
  have hl : lv_has ls 5 [(0, .ref (k.2.1 91)), (1, .int (nI q)), (2, .int (nI t))] := hl
  have hi5 : ∀ w ∈ u_ws RX5 TX5 6, w ∈ wsX5_feed := by decide +kernel
  refine lv_aload_n hx hb dX5_feed_0 rfl (lv_at hl 0 rfl) ?_
  refine lv_iload_n hx hb dX5_feed_1 rfl (lv_at hl 1 rfl) ?_
  refine lv_iload_n hx hb dX5_feed_2 rfl (lv_at hl 2 rfl) ?_
  refine q_calll w (q_runV X w 91 (c_X5_needOf l k h (q := q) (t := t) (by omega) (by omega)) (cwV 2 hts gX5_feed_X5_needOf rfl rfl rfl (by decide +kernel) ⟨Nat.le_of_ble_eq_true rfl, Nat.le_of_ble_eq_true rfl⟩) (by decide) rfl rfl rfl hl.1 rfl (Nat.le_of_ble_eq_true rfl) dX5_feed_3 ⟨Nat.le_of_ble_eq_true rfl, Nat.le_of_ble_eq_true rfl⟩) (fun r_3 h_3 H locs hp w => ?_)
  obtain ⟨er_3, eh_3⟩ := hp
  rw [eh_3] at w
  have er_3 : r_3 = mnd (h.2.1 92) q t := er_3
  subst er_3
  refine lv_lstore_n (lv' := [(3, .long (mnd (h.2.1 92) q t)), (0, .ref (k.2.1 91)), (1, .int (nI q)), (2, .int (nI t))]) hx hb dX5_feed_6 rfl hl (by decide) rfl (fun ls hl => ?_)
  refine lv_aload_n hx hb dX5_feed_7 rfl (lv_at hl 1 rfl) ?_
  refine q_get X w 91 0 (ci := 5) (by decide) rfl rfl hi5 (by decide) (by decide +kernel) rfl dX5_feed_8 ?_
  refine lv_iload_n hx hb dX5_feed_11 rfl (lv_at hl 2 rfl) ?_
  refine lv_bipush (v := nI 81) hx hb dX5_feed_12 (by decide) ?_
  refine lv_iload_n hx hb dX5_feed_14 rfl (lv_at hl 3 rfl) ?_
  refine q_iaddN X dX5_feed_15 ?_
  refine q_calli w (q_runS X w (c_X5_at l k h q (81 + t)) (va_cwS 2 hts gX5_feed_X5_at rfl rfl rfl (by decide +kernel) ⟨Nat.le_of_ble_eq_true rfl, Nat.le_of_ble_eq_true rfl⟩) rfl hl.1 rfl (Nat.le_of_ble_eq_true rfl) dX5_feed_16 ⟨Nat.le_of_ble_eq_true rfl, Nat.le_of_ble_eq_true rfl⟩) (fun r_16 h_16 H locs hp w => ?_)
  obtain ⟨er_16, eh_16⟩ := hp
  rw [eh_16] at w
  have er_16 : r_16 = nI (1 + 116 * q + (81 + t)) := er_16
  subst er_16
  refine lv_lload_n hx hb dX5_feed_19 rfl (lv_at hl 0 rfl) ?_
  refine lv_ldc2 (v := 1000000000000) hx hb hown (hts (.constantLong RX5 88 1000000000000) (by decide +kernel)) dX5_feed_20 ?_
  refine q_lif_le X (tgt := 33) dX5_feed_23 dX5_feed_24 (by decide) (fun c_23 => ?_) (fun c_23 => ?_)
  · refine lv_lload_n hx hb dX5_feed_33 rfl (lv_at hl 0 rfl) ?_
    refine q_last X w 92 (1 + 116 * q + (81 + t)) (by decide) (fun _ => rfl) rfl (show (1 + 116 * q + (81 + t)) < 233 by omega) (by decide) dX5_feed_34 (fun H locs w => ?_)
    obtain ⟨h_34, eh_34⟩ : ∃ z9, z9 = upL h 92 (1 + 116 * q + (81 + t)) (mnd (h.2.1 92) q t) := ⟨_, rfl⟩
    rw [← eh_34] at w
    exact hret _ _ _ _ _ _ _ dX5_feed_35 w (by rw [eh_34, upL_set, mfd, capz]; first | rw [if_pos c_23] | rw [if_neg c_23]) (Nat.le_of_ble_eq_true rfl) (Nat.le_of_ble_eq_true rfl)
  · refine lv_ldc2 (v := 1000000000000) hx hb hown (hts (.constantLong RX5 88 1000000000000) (by decide +kernel)) dX5_feed_27 ?_
    refine lv_goto (tgt := 34) hx hb dX5_feed_30 (by decide) ?_
    refine q_last X w 92 (1 + 116 * q + (81 + t)) (by decide) (fun _ => rfl) rfl (show (1 + 116 * q + (81 + t)) < 233 by omega) (by decide) dX5_feed_34 (fun H locs w => ?_)
    obtain ⟨h_34, eh_34⟩ : ∃ z9, z9 = upL h 92 (1 + 116 * q + (81 + t)) 1000000000000 := ⟨_, rfl⟩
    rw [← eh_34] at w
    exact hret _ _ _ _ _ _ _ dX5_feed_35 w (by rw [eh_34, upL_set, mfd, capz]; first | rw [if_pos c_23] | rw [if_neg c_23]) (Nat.le_of_ble_eq_true rfl) (Nat.le_of_ble_eq_true rfl)

abbrev rc_X5_cheapest : Room := { frames := 3, cells := 0, slots := 0, locals := 65 }
set_option maxHeartbeats 4000000 in
set_option maxRecDepth 100000 in
theorem c_X5_cheapest (l : Launch) (k : kY) (h : hS) {q : Nat} (hq : q < 2) (but : Int32) : CT l k yX5_cheapest wsX5_cheapest rc_X5_cheapest [.ref (k.2.1 91), .int (nI q), .int but] h (QI k (fun r h' => r = oI (mch (h.2.1 92) q but) ∧ h' = h)) 0 0 := by
  refine q_metI (cc := cX5_cheapest) (maxL := 6) (ret := some .int) (ty := .int) (by decide) rfl rfl (Nat.le_of_ble_eq_true rfl) ?_
  intro p e s m args below meth c Q ls X w hl hret
  have hx := X.1
  have hb := X.2.1
  have hown := X.2.2.2.1
  have hts := X.2.2.2.2
  have hl : lv_has ls 6 [(0, .ref (k.2.1 91)), (1, .int (nI q)), (2, .int but)] := hl
  refine lv_iconst (v := (-1)) hx hb dX5_cheapest_0 (by decide) ?_
  refine lv_istore_n (lv' := [(3, .int (-1)), (0, .ref (k.2.1 91)), (1, .int (nI q)), (2, .int but)]) hx hb dX5_cheapest_1 rfl hl (by decide) rfl (fun ls hl => ?_)
  refine lv_iconst (v := nI 0) hx hb dX5_cheapest_2 (by decide) ?_
  refine lv_istore (lv' := [(4, .int (nI 0)), (3, .int (-1)), (0, .ref (k.2.1 91)), (1, .int (nI q)), (2, .int but)]) hx hb dX5_cheapest_3 hl (by decide) rfl (fun ls hl => ?_)
  have lp : ∀ (fu : Nat) (t : Nat) (x : Int32), (t ≤ 16 ∧ x = oI (amin (mcA (h.2.1 92) q but) (mst (h.2.1 92) q) t)) → (16 - t) < fu → ∀ (H : Heap) (locs : List Loc) (ls : Array Slot), WX k s H locs h → lv_has ls 6 [(0, .ref (k.2.1 91)), (1, .int (nI q)), (2, .int but), (3, .int x), (4, .int (nI t))] → W p l e rc_X5_cheapest s m args below meth c H locs 0 0 Q (F0 m 5 ls []) := by
    intro fu
    induction fu with
    | zero => intro t x _ hm; exact absurd hm (Nat.not_lt_zero _)
    | succ fu ih =>
      intro t x hinv hm H locs ls w hl
      obtain ⟨ht, exx⟩ := hinv
      rcases ho : amin (mcA (h.2.1 92) q but) (mst (h.2.1 92) q) t with _ | b
      · rw [ho] at exx
        have exx : x = (-1) := exx
        subst exx
        refine lv_iload hx hb dX5_cheapest_5 (lv_at hl 4 rfl) ?_
        refine lv_bipush (v := nI 16) hx hb dX5_cheapest_7 (by decide) ?_
        refine q_icge X (tgt := 75) (by omega) (by decide) dX5_cheapest_9 (by decide) (fun c_9 => ?_) (fun c_9 => ?_)
        · refine lv_iload_n hx hb dX5_cheapest_75 rfl (lv_at hl 3 rfl) ?_
          obtain rfl : t = 16 := by omega
          exact hret _ _ _ _ _ _ _ _ dX5_cheapest_76 w rfl ⟨by rw [mch, ho]; rfl, rfl⟩ (Nat.le_of_ble_eq_true rfl) (Nat.le_of_ble_eq_true rfl)
        · refine lv_iload hx hb dX5_cheapest_12 (lv_at hl 4 rfl) ?_
          refine lv_iload_n hx hb dX5_cheapest_14 rfl (lv_at hl 2 rfl) ?_
          refine lv_icmp_eq (tgt := 32) hx hb dX5_cheapest_15 (by decide) (fun c_15 => ?_) (fun c_15 => ?_)
          · refine lv_iconst (v := nI 0) hx hb dX5_cheapest_32 (by decide) ?_
            refine lv_istore (lv' := [(5, .int (nI 0)), (0, .ref (k.2.1 91)), (1, .int (nI q)), (2, .int but), (3, .int (-1)), (4, .int (nI t))]) hx hb dX5_cheapest_33 hl (by decide) rfl (fun ls hl => ?_)
            refine lv_iload hx hb dX5_cheapest_35 (lv_at hl 0 rfl) ?_
            refine lv_if_eq (tgt := 67) hx hb dX5_cheapest_37 (by decide) (fun c_37 => ?_) (fun c_37 => ?_)
            · refine lv_iload_n hx hb dX5_cheapest_67 rfl (lv_at hl 4 rfl) ?_
              refine lv_istore_n (lv' := [(3, .int (-1)), (5, .int (nI 0)), (0, .ref (k.2.1 91)), (1, .int (nI q)), (2, .int but), (4, .int (nI t))]) hx hb dX5_cheapest_68 rfl hl (by decide) rfl (fun ls hl => ?_)
              refine lv_iinc (v := nI (t + 1)) (lv' := [(4, .int (nI (t + 1))), (3, .int (-1)), (5, .int (nI 0)), (0, .ref (k.2.1 91)), (1, .int (nI q)), (2, .int but)]) hx hb dX5_cheapest_69 hl (k := 5) rfl (nI_1 _) (by decide) rfl (fun ls hl => ?_)
              refine lv_goto (tgt := 5) hx hb dX5_cheapest_72 (by decide) ?_
              exact ih (t + 1) (-1) ⟨by omega, by first | exact ax0 (mcA_n1 c_15) ho | exact ax0 (mcA_n2 hd_22) ho | exact ax1 (decide_eq_true ⟨c_15, hd_22⟩) ho | exact ax2 (decide_eq_true ⟨c_15, hd_22⟩) ho c_58 | exact ax3 (decide_eq_true ⟨c_15, hd_22⟩) ho c_58⟩ (by omega) _ _ _ w (lv_sub hl [3, 4, 5, 1, 0] rfl)
            · exact absurd (by decide) c_37
          · refine lv_aload_n hx hb dX5_cheapest_18 rfl (lv_at hl 0 rfl) ?_
            refine lv_iload_n hx hb dX5_cheapest_19 rfl (lv_at hl 1 rfl) ?_
            refine lv_iload hx hb dX5_cheapest_20 (lv_at hl 4 rfl) ?_
            refine q_calli w (q_runV X w 91 (c_X5_isBelow l k h (q := q) (t := t) (by omega) (by omega)) (cwV 2 hts gX5_cheapest_X5_isBelow rfl rfl rfl (by decide +kernel) ⟨Nat.le_of_ble_eq_true rfl, Nat.le_of_ble_eq_true rfl⟩) (by decide) rfl rfl rfl hl.1 rfl (Nat.le_of_ble_eq_true rfl) dX5_cheapest_22 ⟨Nat.le_of_ble_eq_true rfl, Nat.le_of_ble_eq_true rfl⟩) (fun r_22 h_22 H locs hp w => ?_)
            obtain ⟨hp, eh_22⟩ := hp
            rw [eh_22] at w
            rcases hp with ⟨hd_22, er_22⟩ | ⟨hd_22, er_22⟩
            · subst er_22
              refine lv_if_eq (tgt := 32) hx hb dX5_cheapest_25 (by decide) (fun c_25 => ?_) (fun c_25 => ?_)
              · exact absurd c_25 (by decide)
              · refine lv_iconst (v := nI 1) hx hb dX5_cheapest_28 (by decide) ?_
                refine lv_goto (tgt := 33) hx hb dX5_cheapest_29 (by decide) ?_
                refine lv_istore (lv' := [(5, .int (nI 1)), (0, .ref (k.2.1 91)), (1, .int (nI q)), (2, .int but), (3, .int (-1)), (4, .int (nI t))]) hx hb dX5_cheapest_33 hl (by decide) rfl (fun ls hl => ?_)
                refine lv_iload hx hb dX5_cheapest_35 (lv_at hl 0 rfl) ?_
                refine lv_if_eq (tgt := 67) hx hb dX5_cheapest_37 (by decide) (fun c_37 => ?_) (fun c_37 => ?_)
                · exact absurd c_37 (by decide)
                · refine lv_iload_n hx hb dX5_cheapest_40 rfl (lv_at hl 4 rfl) ?_
                  refine lv_iconst (v := (-1)) hx hb dX5_cheapest_41 (by decide) ?_
                  refine lv_icmp_eq (tgt := 62) hx hb dX5_cheapest_42 (by decide) (fun c_42 => ?_) (fun c_42 => ?_)
                  · refine lv_iload hx hb dX5_cheapest_62 (lv_at hl 5 rfl) ?_
                    refine lv_goto (tgt := 68) hx hb dX5_cheapest_64 (by decide) ?_
                    refine lv_istore_n (lv' := [(3, .int (nI t)), (5, .int (nI 1)), (0, .ref (k.2.1 91)), (1, .int (nI q)), (2, .int but), (4, .int (nI t))]) hx hb dX5_cheapest_68 rfl hl (by decide) rfl (fun ls hl => ?_)
                    refine lv_iinc (v := nI (t + 1)) (lv' := [(4, .int (nI (t + 1))), (3, .int (nI t)), (5, .int (nI 1)), (0, .ref (k.2.1 91)), (1, .int (nI q)), (2, .int but)]) hx hb dX5_cheapest_69 hl (k := 5) rfl (nI_1 _) (by decide) rfl (fun ls hl => ?_)
                    refine lv_goto (tgt := 5) hx hb dX5_cheapest_72 (by decide) ?_
                    exact ih (t + 1) (nI t) ⟨by omega, by first | exact ax0 (mcA_n1 c_15) ho | exact ax0 (mcA_n2 hd_22) ho | exact ax1 (decide_eq_true ⟨c_15, hd_22⟩) ho | exact ax2 (decide_eq_true ⟨c_15, hd_22⟩) ho c_58 | exact ax3 (decide_eq_true ⟨c_15, hd_22⟩) ho c_58⟩ (by omega) _ _ _ w (lv_sub hl [3, 4, 5, 1, 0] rfl)
                  · exact absurd rfl c_42
            · subst er_22
              refine lv_if_eq (tgt := 32) hx hb dX5_cheapest_25 (by decide) (fun c_25 => ?_) (fun c_25 => ?_)
              · refine lv_iconst (v := nI 0) hx hb dX5_cheapest_32 (by decide) ?_
                refine lv_istore (lv' := [(5, .int (nI 0)), (0, .ref (k.2.1 91)), (1, .int (nI q)), (2, .int but), (3, .int (-1)), (4, .int (nI t))]) hx hb dX5_cheapest_33 hl (by decide) rfl (fun ls hl => ?_)
                refine lv_iload hx hb dX5_cheapest_35 (lv_at hl 0 rfl) ?_
                refine lv_if_eq (tgt := 67) hx hb dX5_cheapest_37 (by decide) (fun c_37 => ?_) (fun c_37 => ?_)
                · refine lv_iload_n hx hb dX5_cheapest_67 rfl (lv_at hl 4 rfl) ?_
                  refine lv_istore_n (lv' := [(3, .int (-1)), (5, .int (nI 0)), (0, .ref (k.2.1 91)), (1, .int (nI q)), (2, .int but), (4, .int (nI t))]) hx hb dX5_cheapest_68 rfl hl (by decide) rfl (fun ls hl => ?_)
                  refine lv_iinc (v := nI (t + 1)) (lv' := [(4, .int (nI (t + 1))), (3, .int (-1)), (5, .int (nI 0)), (0, .ref (k.2.1 91)), (1, .int (nI q)), (2, .int but)]) hx hb dX5_cheapest_69 hl (k := 5) rfl (nI_1 _) (by decide) rfl (fun ls hl => ?_)
                  refine lv_goto (tgt := 5) hx hb dX5_cheapest_72 (by decide) ?_
                  exact ih (t + 1) (-1) ⟨by omega, by first | exact ax0 (mcA_n1 c_15) ho | exact ax0 (mcA_n2 hd_22) ho | exact ax1 (decide_eq_true ⟨c_15, hd_22⟩) ho | exact ax2 (decide_eq_true ⟨c_15, hd_22⟩) ho c_58 | exact ax3 (decide_eq_true ⟨c_15, hd_22⟩) ho c_58⟩ (by omega) _ _ _ w (lv_sub hl [3, 4, 5, 1, 0] rfl)
                · exact absurd (by decide) c_37
              · exact absurd (by decide) c_25
      · rw [ho] at exx
        have exx : x = nI b := exx
        subst exx
        have hb9 := (amin_bd ho).1
        refine lv_iload hx hb dX5_cheapest_5 (lv_at hl 4 rfl) ?_
        refine lv_bipush (v := nI 16) hx hb dX5_cheapest_7 (by decide) ?_
        refine q_icge X (tgt := 75) (by omega) (by decide) dX5_cheapest_9 (by decide) (fun c_9 => ?_) (fun c_9 => ?_)
        · refine lv_iload_n hx hb dX5_cheapest_75 rfl (lv_at hl 3 rfl) ?_
          obtain rfl : t = 16 := by omega
          exact hret _ _ _ _ _ _ _ _ dX5_cheapest_76 w rfl ⟨by rw [mch, ho]; rfl, rfl⟩ (Nat.le_of_ble_eq_true rfl) (Nat.le_of_ble_eq_true rfl)
        · refine lv_iload hx hb dX5_cheapest_12 (lv_at hl 4 rfl) ?_
          refine lv_iload_n hx hb dX5_cheapest_14 rfl (lv_at hl 2 rfl) ?_
          refine lv_icmp_eq (tgt := 32) hx hb dX5_cheapest_15 (by decide) (fun c_15 => ?_) (fun c_15 => ?_)
          · refine lv_iconst (v := nI 0) hx hb dX5_cheapest_32 (by decide) ?_
            refine lv_istore (lv' := [(5, .int (nI 0)), (0, .ref (k.2.1 91)), (1, .int (nI q)), (2, .int but), (3, .int (nI b)), (4, .int (nI t))]) hx hb dX5_cheapest_33 hl (by decide) rfl (fun ls hl => ?_)
            refine lv_iload hx hb dX5_cheapest_35 (lv_at hl 0 rfl) ?_
            refine lv_if_eq (tgt := 67) hx hb dX5_cheapest_37 (by decide) (fun c_37 => ?_) (fun c_37 => ?_)
            · refine lv_iload_n hx hb dX5_cheapest_67 rfl (lv_at hl 4 rfl) ?_
              refine lv_istore_n (lv' := [(3, .int (nI b)), (5, .int (nI 0)), (0, .ref (k.2.1 91)), (1, .int (nI q)), (2, .int but), (4, .int (nI t))]) hx hb dX5_cheapest_68 rfl hl (by decide) rfl (fun ls hl => ?_)
              refine lv_iinc (v := nI (t + 1)) (lv' := [(4, .int (nI (t + 1))), (3, .int (nI b)), (5, .int (nI 0)), (0, .ref (k.2.1 91)), (1, .int (nI q)), (2, .int but)]) hx hb dX5_cheapest_69 hl (k := 5) rfl (nI_1 _) (by decide) rfl (fun ls hl => ?_)
              refine lv_goto (tgt := 5) hx hb dX5_cheapest_72 (by decide) ?_
              exact ih (t + 1) (nI b) ⟨by omega, by first | exact ax0 (mcA_n1 c_15) ho | exact ax0 (mcA_n2 hd_22) ho | exact ax1 (decide_eq_true ⟨c_15, hd_22⟩) ho | exact ax2 (decide_eq_true ⟨c_15, hd_22⟩) ho c_58 | exact ax3 (decide_eq_true ⟨c_15, hd_22⟩) ho c_58⟩ (by omega) _ _ _ w (lv_sub hl [3, 4, 5, 1, 0] rfl)
            · exact absurd (by decide) c_37
          · refine lv_aload_n hx hb dX5_cheapest_18 rfl (lv_at hl 0 rfl) ?_
            refine lv_iload_n hx hb dX5_cheapest_19 rfl (lv_at hl 1 rfl) ?_
            refine lv_iload hx hb dX5_cheapest_20 (lv_at hl 4 rfl) ?_
            refine q_calli w (q_runV X w 91 (c_X5_isBelow l k h (q := q) (t := t) (by omega) (by omega)) (cwV 2 hts gX5_cheapest_X5_isBelow rfl rfl rfl (by decide +kernel) ⟨Nat.le_of_ble_eq_true rfl, Nat.le_of_ble_eq_true rfl⟩) (by decide) rfl rfl rfl hl.1 rfl (Nat.le_of_ble_eq_true rfl) dX5_cheapest_22 ⟨Nat.le_of_ble_eq_true rfl, Nat.le_of_ble_eq_true rfl⟩) (fun r_22 h_22 H locs hp w => ?_)
            obtain ⟨hp, eh_22⟩ := hp
            rw [eh_22] at w
            rcases hp with ⟨hd_22, er_22⟩ | ⟨hd_22, er_22⟩
            · subst er_22
              refine lv_if_eq (tgt := 32) hx hb dX5_cheapest_25 (by decide) (fun c_25 => ?_) (fun c_25 => ?_)
              · exact absurd c_25 (by decide)
              · refine lv_iconst (v := nI 1) hx hb dX5_cheapest_28 (by decide) ?_
                refine lv_goto (tgt := 33) hx hb dX5_cheapest_29 (by decide) ?_
                refine lv_istore (lv' := [(5, .int (nI 1)), (0, .ref (k.2.1 91)), (1, .int (nI q)), (2, .int but), (3, .int (nI b)), (4, .int (nI t))]) hx hb dX5_cheapest_33 hl (by decide) rfl (fun ls hl => ?_)
                refine lv_iload hx hb dX5_cheapest_35 (lv_at hl 0 rfl) ?_
                refine lv_if_eq (tgt := 67) hx hb dX5_cheapest_37 (by decide) (fun c_37 => ?_) (fun c_37 => ?_)
                · exact absurd c_37 (by decide)
                · refine lv_iload_n hx hb dX5_cheapest_40 rfl (lv_at hl 4 rfl) ?_
                  refine lv_iconst (v := (-1)) hx hb dX5_cheapest_41 (by decide) ?_
                  refine lv_icmp_eq (tgt := 62) hx hb dX5_cheapest_42 (by decide) (fun c_42 => ?_) (fun c_42 => ?_)
                  · exact absurd c_42 (nI_m1 (by omega))
                  · refine lv_aload_n hx hb dX5_cheapest_45 rfl (lv_at hl 1 rfl) ?_
                    refine lv_iload_n hx hb dX5_cheapest_46 rfl (lv_at hl 2 rfl) ?_
                    refine lv_iload hx hb dX5_cheapest_47 (lv_at hl 5 rfl) ?_
                    refine q_calll w (q_runV X w 91 (c_X5_stepOf l k h (q := q) (t := t) (by omega) (by omega)) (cwV 2 hts gX5_cheapest_X5_stepOf rfl rfl rfl (by decide +kernel) ⟨Nat.le_of_ble_eq_true rfl, Nat.le_of_ble_eq_true rfl⟩) (by decide) rfl rfl rfl hl.1 rfl (Nat.le_of_ble_eq_true rfl) dX5_cheapest_49 ⟨Nat.le_of_ble_eq_true rfl, Nat.le_of_ble_eq_true rfl⟩) (fun r_49 h_49 H locs hp w => ?_)
                    obtain ⟨er_49, eh_49⟩ := hp
                    rw [eh_49] at w
                    have er_49 : r_49 = mst (h.2.1 92) q t := er_49
                    subst er_49
                    refine lv_aload_n hx hb dX5_cheapest_52 rfl (lv_at hl 1 rfl) ?_
                    refine lv_iload_n hx hb dX5_cheapest_53 rfl (lv_at hl 2 rfl) ?_
                    refine lv_iload_n hx hb dX5_cheapest_54 rfl (lv_at hl 4 rfl) ?_
                    refine q_calll w (q_runV X w 91 (c_X5_stepOf l k h (q := q) (t := b) (by omega) (by omega)) (cwV 2 hts gX5_cheapest_X5_stepOf rfl rfl rfl (by decide +kernel) ⟨Nat.le_of_ble_eq_true rfl, Nat.le_of_ble_eq_true rfl⟩) (by decide) rfl rfl rfl hl.1 rfl (Nat.le_of_ble_eq_true rfl) dX5_cheapest_55 ⟨Nat.le_of_ble_eq_true rfl, Nat.le_of_ble_eq_true rfl⟩) (fun r_55 h_55 H locs hp w => ?_)
                    obtain ⟨er_55, eh_55⟩ := hp
                    rw [eh_55] at w
                    have er_55 : r_55 = mst (h.2.1 92) q b := er_55
                    subst er_55
                    refine q_lif_ge X (tgt := 67) dX5_cheapest_58 dX5_cheapest_59 (by decide) (fun c_58 => ?_) (fun c_58 => ?_)
                    · refine lv_iload_n hx hb dX5_cheapest_67 rfl (lv_at hl 4 rfl) ?_
                      refine lv_istore_n (lv' := [(3, .int (nI b)), (5, .int (nI 1)), (0, .ref (k.2.1 91)), (1, .int (nI q)), (2, .int but), (4, .int (nI t))]) hx hb dX5_cheapest_68 rfl hl (by decide) rfl (fun ls hl => ?_)
                      refine lv_iinc (v := nI (t + 1)) (lv' := [(4, .int (nI (t + 1))), (3, .int (nI b)), (5, .int (nI 1)), (0, .ref (k.2.1 91)), (1, .int (nI q)), (2, .int but)]) hx hb dX5_cheapest_69 hl (k := 5) rfl (nI_1 _) (by decide) rfl (fun ls hl => ?_)
                      refine lv_goto (tgt := 5) hx hb dX5_cheapest_72 (by decide) ?_
                      exact ih (t + 1) (nI b) ⟨by omega, by first | exact ax0 (mcA_n1 c_15) ho | exact ax0 (mcA_n2 hd_22) ho | exact ax1 (decide_eq_true ⟨c_15, hd_22⟩) ho | exact ax2 (decide_eq_true ⟨c_15, hd_22⟩) ho c_58 | exact ax3 (decide_eq_true ⟨c_15, hd_22⟩) ho c_58⟩ (by omega) _ _ _ w (lv_sub hl [3, 4, 5, 1, 0] rfl)
                    · refine lv_iload hx hb dX5_cheapest_62 (lv_at hl 5 rfl) ?_
                      refine lv_goto (tgt := 68) hx hb dX5_cheapest_64 (by decide) ?_
                      refine lv_istore_n (lv' := [(3, .int (nI t)), (5, .int (nI 1)), (0, .ref (k.2.1 91)), (1, .int (nI q)), (2, .int but), (4, .int (nI t))]) hx hb dX5_cheapest_68 rfl hl (by decide) rfl (fun ls hl => ?_)
                      refine lv_iinc (v := nI (t + 1)) (lv' := [(4, .int (nI (t + 1))), (3, .int (nI t)), (5, .int (nI 1)), (0, .ref (k.2.1 91)), (1, .int (nI q)), (2, .int but)]) hx hb dX5_cheapest_69 hl (k := 5) rfl (nI_1 _) (by decide) rfl (fun ls hl => ?_)
                      refine lv_goto (tgt := 5) hx hb dX5_cheapest_72 (by decide) ?_
                      exact ih (t + 1) (nI t) ⟨by omega, by first | exact ax0 (mcA_n1 c_15) ho | exact ax0 (mcA_n2 hd_22) ho | exact ax1 (decide_eq_true ⟨c_15, hd_22⟩) ho | exact ax2 (decide_eq_true ⟨c_15, hd_22⟩) ho c_58 | exact ax3 (decide_eq_true ⟨c_15, hd_22⟩) ho c_58⟩ (by omega) _ _ _ w (lv_sub hl [3, 4, 5, 1, 0] rfl)
            · subst er_22
              refine lv_if_eq (tgt := 32) hx hb dX5_cheapest_25 (by decide) (fun c_25 => ?_) (fun c_25 => ?_)
              · refine lv_iconst (v := nI 0) hx hb dX5_cheapest_32 (by decide) ?_
                refine lv_istore (lv' := [(5, .int (nI 0)), (0, .ref (k.2.1 91)), (1, .int (nI q)), (2, .int but), (3, .int (nI b)), (4, .int (nI t))]) hx hb dX5_cheapest_33 hl (by decide) rfl (fun ls hl => ?_)
                refine lv_iload hx hb dX5_cheapest_35 (lv_at hl 0 rfl) ?_
                refine lv_if_eq (tgt := 67) hx hb dX5_cheapest_37 (by decide) (fun c_37 => ?_) (fun c_37 => ?_)
                · refine lv_iload_n hx hb dX5_cheapest_67 rfl (lv_at hl 4 rfl) ?_
                  refine lv_istore_n (lv' := [(3, .int (nI b)), (5, .int (nI 0)), (0, .ref (k.2.1 91)), (1, .int (nI q)), (2, .int but), (4, .int (nI t))]) hx hb dX5_cheapest_68 rfl hl (by decide) rfl (fun ls hl => ?_)
                  refine lv_iinc (v := nI (t + 1)) (lv' := [(4, .int (nI (t + 1))), (3, .int (nI b)), (5, .int (nI 0)), (0, .ref (k.2.1 91)), (1, .int (nI q)), (2, .int but)]) hx hb dX5_cheapest_69 hl (k := 5) rfl (nI_1 _) (by decide) rfl (fun ls hl => ?_)
                  refine lv_goto (tgt := 5) hx hb dX5_cheapest_72 (by decide) ?_
                  exact ih (t + 1) (nI b) ⟨by omega, by first | exact ax0 (mcA_n1 c_15) ho | exact ax0 (mcA_n2 hd_22) ho | exact ax1 (decide_eq_true ⟨c_15, hd_22⟩) ho | exact ax2 (decide_eq_true ⟨c_15, hd_22⟩) ho c_58 | exact ax3 (decide_eq_true ⟨c_15, hd_22⟩) ho c_58⟩ (by omega) _ _ _ w (lv_sub hl [3, 4, 5, 1, 0] rfl)
                · exact absurd (by decide) c_37
              · exact absurd (by decide) c_25
  exact lp 17 0 (-1) ⟨by omega, rfl⟩ (by omega) _ _ _ w (lv_sub hl [2, 3, 4, 1, 0] rfl)

abbrev rc_X5_dearest : Room := { frames := 4, cells := 0, slots := 0, locals := 87 }
set_option maxHeartbeats 4000000 in
set_option maxRecDepth 100000 in
theorem c_X5_dearest (l : Launch) (k : kY) (h : hS) {q : Nat} (hq : q < 2) : CT l k yX5_dearest wsX5_dearest rc_X5_dearest [.ref (k.2.1 91), .int (nI q)] h (QI k (fun r h' => r = oI (mde (h.2.1 92) q) ∧ h' = h)) 0 0 := by
  refine q_metI (cc := cX5_dearest) (maxL := 5) (ret := some .int) (ty := .int) (by decide) rfl rfl (Nat.le_of_ble_eq_true rfl) ?_
  intro p e s m args below meth c Q ls X w hl hret
  have hx := X.1
  have hb := X.2.1
  have hown := X.2.2.2.1
  have hts := X.2.2.2.2
  have hl : lv_has ls 5 [(0, .ref (k.2.1 91)), (1, .int (nI q))] := hl
  have hi5 : ∀ w ∈ u_ws RX5 TX5 6, w ∈ wsX5_dearest := by decide +kernel
  refine lv_iconst (v := (-1)) hx hb dX5_dearest_0 (by decide) ?_
  refine lv_istore_n (lv' := [(2, .int (-1)), (0, .ref (k.2.1 91)), (1, .int (nI q))]) hx hb dX5_dearest_1 rfl hl (by decide) rfl (fun ls hl => ?_)
  refine lv_iconst (v := nI 0) hx hb dX5_dearest_2 (by decide) ?_
  refine lv_istore_n (lv' := [(3, .int (nI 0)), (2, .int (-1)), (0, .ref (k.2.1 91)), (1, .int (nI q))]) hx hb dX5_dearest_3 rfl hl (by decide) rfl (fun ls hl => ?_)
  have lp : ∀ (fu : Nat) (t : Nat) (x : Int32), (t ≤ 16 ∧ x = oI (amax (mdA (h.2.1 92) q) (mls (h.2.1 92) q) t)) → (16 - t) < fu → ∀ (H : Heap) (locs : List Loc) (ls : Array Slot), WX k s H locs h → lv_has ls 5 [(0, .ref (k.2.1 91)), (1, .int (nI q)), (2, .int x), (3, .int (nI t))] → W p l e rc_X5_dearest s m args below meth c H locs 0 0 Q (F0 m 4 ls []) := by
    intro fu
    induction fu with
    | zero => intro t x _ hm; exact absurd hm (Nat.not_lt_zero _)
    | succ fu ih =>
      intro t x hinv hm H locs ls w hl
      obtain ⟨ht, exx⟩ := hinv
      rcases ho : amax (mdA (h.2.1 92) q) (mls (h.2.1 92) q) t with _ | b
      · rw [ho] at exx
        have exx : x = (-1) := exx
        subst exx
        refine lv_iload_n hx hb dX5_dearest_4 rfl (lv_at hl 3 rfl) ?_
        refine lv_bipush (v := nI 16) hx hb dX5_dearest_5 (by decide) ?_
        refine q_icge X (tgt := 73) (by omega) (by decide) dX5_dearest_7 (by decide) (fun c_7 => ?_) (fun c_7 => ?_)
        · refine lv_iload_n hx hb dX5_dearest_73 rfl (lv_at hl 2 rfl) ?_
          obtain rfl : t = 16 := by omega
          exact hret _ _ _ _ _ _ _ _ dX5_dearest_74 w rfl ⟨by rw [mde, ho]; rfl, rfl⟩ (Nat.le_of_ble_eq_true rfl) (Nat.le_of_ble_eq_true rfl)
        · refine lv_aload_n hx hb dX5_dearest_10 rfl (lv_at hl 0 rfl) ?_
          refine q_get X w 91 0 (ci := 5) (by decide) rfl rfl hi5 (by decide) (by decide +kernel) rfl dX5_dearest_11 ?_
          refine lv_iload_n hx hb dX5_dearest_14 rfl (lv_at hl 1 rfl) ?_
          refine lv_bipush (v := nI 49) hx hb dX5_dearest_15 (by decide) ?_
          refine lv_iload_n hx hb dX5_dearest_17 rfl (lv_at hl 3 rfl) ?_
          refine q_iaddN X dX5_dearest_18 ?_
          refine q_calli w (q_runS X w (c_X5_at l k h q (49 + t)) (va_cwS 2 hts gX5_dearest_X5_at rfl rfl rfl (by decide +kernel) ⟨Nat.le_of_ble_eq_true rfl, Nat.le_of_ble_eq_true rfl⟩) rfl hl.1 rfl (Nat.le_of_ble_eq_true rfl) dX5_dearest_19 ⟨Nat.le_of_ble_eq_true rfl, Nat.le_of_ble_eq_true rfl⟩) (fun r_19 h_19 H locs hp w => ?_)
          obtain ⟨er_19, eh_19⟩ := hp
          rw [eh_19] at w
          have er_19 : r_19 = nI (1 + 116 * q + (49 + t)) := er_19
          subst er_19
          refine q_lald X w 92 (1 + 116 * q + (49 + t)) (by decide) (fun _ => rfl) rfl (show (1 + 116 * q + (49 + t)) < 233 by omega) (by decide) dX5_dearest_22 ?_
          refine lv_lconst (v := 0) hx hb dX5_dearest_23 (by decide) ?_
          refine q_lif_le X (tgt := 32) dX5_dearest_24 dX5_dearest_25 (by decide) (fun c_24 => ?_) (fun c_24 => ?_)
          · refine lv_iconst (v := nI 0) hx hb dX5_dearest_32 (by decide) ?_
            refine lv_istore (lv' := [(4, .int (nI 0)), (0, .ref (k.2.1 91)), (1, .int (nI q)), (2, .int (-1)), (3, .int (nI t))]) hx hb dX5_dearest_33 hl (by decide) rfl (fun ls hl => ?_)
            refine lv_iload hx hb dX5_dearest_35 (lv_at hl 0 rfl) ?_
            refine lv_if_eq (tgt := 65) hx hb dX5_dearest_37 (by decide) (fun c_37 => ?_) (fun c_37 => ?_)
            · refine lv_iload_n hx hb dX5_dearest_65 rfl (lv_at hl 3 rfl) ?_
              refine lv_istore_n (lv' := [(2, .int (-1)), (4, .int (nI 0)), (0, .ref (k.2.1 91)), (1, .int (nI q)), (3, .int (nI t))]) hx hb dX5_dearest_66 rfl hl (by decide) rfl (fun ls hl => ?_)
              refine lv_iinc (v := nI (t + 1)) (lv' := [(3, .int (nI (t + 1))), (2, .int (-1)), (4, .int (nI 0)), (0, .ref (k.2.1 91)), (1, .int (nI q))]) hx hb dX5_dearest_67 hl (k := 4) rfl (nI_1 _) (by decide) rfl (fun ls hl => ?_)
              refine lv_goto (tgt := 4) hx hb dX5_dearest_70 (by decide) ?_
              exact ih (t + 1) (-1) ⟨by omega, by first | exact ay0 (fun z => c_24 (of_decide_eq_true z)) ho | exact ay1 (decide_eq_true c_24) ho | exact ay2 (decide_eq_true c_24) ho c_57 | exact ay3 (decide_eq_true c_24) ho c_57⟩ (by omega) _ _ _ w (lv_sub hl [3, 4, 1, 0] rfl)
            · exact absurd (by decide) c_37
          · refine lv_iconst (v := nI 1) hx hb dX5_dearest_28 (by decide) ?_
            refine lv_goto (tgt := 33) hx hb dX5_dearest_29 (by decide) ?_
            refine lv_istore (lv' := [(4, .int (nI 1)), (0, .ref (k.2.1 91)), (1, .int (nI q)), (2, .int (-1)), (3, .int (nI t))]) hx hb dX5_dearest_33 hl (by decide) rfl (fun ls hl => ?_)
            refine lv_iload hx hb dX5_dearest_35 (lv_at hl 0 rfl) ?_
            refine lv_if_eq (tgt := 65) hx hb dX5_dearest_37 (by decide) (fun c_37 => ?_) (fun c_37 => ?_)
            · exact absurd c_37 (by decide)
            · refine lv_iload_n hx hb dX5_dearest_40 rfl (lv_at hl 3 rfl) ?_
              refine lv_iconst (v := (-1)) hx hb dX5_dearest_41 (by decide) ?_
              refine lv_icmp_eq (tgt := 61) hx hb dX5_dearest_42 (by decide) (fun c_42 => ?_) (fun c_42 => ?_)
              · refine lv_iload_n hx hb dX5_dearest_61 rfl (lv_at hl 4 rfl) ?_
                refine lv_goto (tgt := 66) hx hb dX5_dearest_62 (by decide) ?_
                refine lv_istore_n (lv' := [(2, .int (nI t)), (4, .int (nI 1)), (0, .ref (k.2.1 91)), (1, .int (nI q)), (3, .int (nI t))]) hx hb dX5_dearest_66 rfl hl (by decide) rfl (fun ls hl => ?_)
                refine lv_iinc (v := nI (t + 1)) (lv' := [(3, .int (nI (t + 1))), (2, .int (nI t)), (4, .int (nI 1)), (0, .ref (k.2.1 91)), (1, .int (nI q))]) hx hb dX5_dearest_67 hl (k := 4) rfl (nI_1 _) (by decide) rfl (fun ls hl => ?_)
                refine lv_goto (tgt := 4) hx hb dX5_dearest_70 (by decide) ?_
                exact ih (t + 1) (nI t) ⟨by omega, by first | exact ay0 (fun z => c_24 (of_decide_eq_true z)) ho | exact ay1 (decide_eq_true c_24) ho | exact ay2 (decide_eq_true c_24) ho c_57 | exact ay3 (decide_eq_true c_24) ho c_57⟩ (by omega) _ _ _ w (lv_sub hl [3, 4, 1, 0] rfl)
              · exact absurd rfl c_42
      · rw [ho] at exx
        have exx : x = nI b := exx
        subst exx
        have hb9 := (amax_bd ho).1
        refine lv_iload_n hx hb dX5_dearest_4 rfl (lv_at hl 3 rfl) ?_
        refine lv_bipush (v := nI 16) hx hb dX5_dearest_5 (by decide) ?_
        refine q_icge X (tgt := 73) (by omega) (by decide) dX5_dearest_7 (by decide) (fun c_7 => ?_) (fun c_7 => ?_)
        · refine lv_iload_n hx hb dX5_dearest_73 rfl (lv_at hl 2 rfl) ?_
          obtain rfl : t = 16 := by omega
          exact hret _ _ _ _ _ _ _ _ dX5_dearest_74 w rfl ⟨by rw [mde, ho]; rfl, rfl⟩ (Nat.le_of_ble_eq_true rfl) (Nat.le_of_ble_eq_true rfl)
        · refine lv_aload_n hx hb dX5_dearest_10 rfl (lv_at hl 0 rfl) ?_
          refine q_get X w 91 0 (ci := 5) (by decide) rfl rfl hi5 (by decide) (by decide +kernel) rfl dX5_dearest_11 ?_
          refine lv_iload_n hx hb dX5_dearest_14 rfl (lv_at hl 1 rfl) ?_
          refine lv_bipush (v := nI 49) hx hb dX5_dearest_15 (by decide) ?_
          refine lv_iload_n hx hb dX5_dearest_17 rfl (lv_at hl 3 rfl) ?_
          refine q_iaddN X dX5_dearest_18 ?_
          refine q_calli w (q_runS X w (c_X5_at l k h q (49 + t)) (va_cwS 2 hts gX5_dearest_X5_at rfl rfl rfl (by decide +kernel) ⟨Nat.le_of_ble_eq_true rfl, Nat.le_of_ble_eq_true rfl⟩) rfl hl.1 rfl (Nat.le_of_ble_eq_true rfl) dX5_dearest_19 ⟨Nat.le_of_ble_eq_true rfl, Nat.le_of_ble_eq_true rfl⟩) (fun r_19 h_19 H locs hp w => ?_)
          obtain ⟨er_19, eh_19⟩ := hp
          rw [eh_19] at w
          have er_19 : r_19 = nI (1 + 116 * q + (49 + t)) := er_19
          subst er_19
          refine q_lald X w 92 (1 + 116 * q + (49 + t)) (by decide) (fun _ => rfl) rfl (show (1 + 116 * q + (49 + t)) < 233 by omega) (by decide) dX5_dearest_22 ?_
          refine lv_lconst (v := 0) hx hb dX5_dearest_23 (by decide) ?_
          refine q_lif_le X (tgt := 32) dX5_dearest_24 dX5_dearest_25 (by decide) (fun c_24 => ?_) (fun c_24 => ?_)
          · refine lv_iconst (v := nI 0) hx hb dX5_dearest_32 (by decide) ?_
            refine lv_istore (lv' := [(4, .int (nI 0)), (0, .ref (k.2.1 91)), (1, .int (nI q)), (2, .int (nI b)), (3, .int (nI t))]) hx hb dX5_dearest_33 hl (by decide) rfl (fun ls hl => ?_)
            refine lv_iload hx hb dX5_dearest_35 (lv_at hl 0 rfl) ?_
            refine lv_if_eq (tgt := 65) hx hb dX5_dearest_37 (by decide) (fun c_37 => ?_) (fun c_37 => ?_)
            · refine lv_iload_n hx hb dX5_dearest_65 rfl (lv_at hl 3 rfl) ?_
              refine lv_istore_n (lv' := [(2, .int (nI b)), (4, .int (nI 0)), (0, .ref (k.2.1 91)), (1, .int (nI q)), (3, .int (nI t))]) hx hb dX5_dearest_66 rfl hl (by decide) rfl (fun ls hl => ?_)
              refine lv_iinc (v := nI (t + 1)) (lv' := [(3, .int (nI (t + 1))), (2, .int (nI b)), (4, .int (nI 0)), (0, .ref (k.2.1 91)), (1, .int (nI q))]) hx hb dX5_dearest_67 hl (k := 4) rfl (nI_1 _) (by decide) rfl (fun ls hl => ?_)
              refine lv_goto (tgt := 4) hx hb dX5_dearest_70 (by decide) ?_
              exact ih (t + 1) (nI b) ⟨by omega, by first | exact ay0 (fun z => c_24 (of_decide_eq_true z)) ho | exact ay1 (decide_eq_true c_24) ho | exact ay2 (decide_eq_true c_24) ho c_57 | exact ay3 (decide_eq_true c_24) ho c_57⟩ (by omega) _ _ _ w (lv_sub hl [3, 4, 1, 0] rfl)
            · exact absurd (by decide) c_37
          · refine lv_iconst (v := nI 1) hx hb dX5_dearest_28 (by decide) ?_
            refine lv_goto (tgt := 33) hx hb dX5_dearest_29 (by decide) ?_
            refine lv_istore (lv' := [(4, .int (nI 1)), (0, .ref (k.2.1 91)), (1, .int (nI q)), (2, .int (nI b)), (3, .int (nI t))]) hx hb dX5_dearest_33 hl (by decide) rfl (fun ls hl => ?_)
            refine lv_iload hx hb dX5_dearest_35 (lv_at hl 0 rfl) ?_
            refine lv_if_eq (tgt := 65) hx hb dX5_dearest_37 (by decide) (fun c_37 => ?_) (fun c_37 => ?_)
            · exact absurd c_37 (by decide)
            · refine lv_iload_n hx hb dX5_dearest_40 rfl (lv_at hl 3 rfl) ?_
              refine lv_iconst (v := (-1)) hx hb dX5_dearest_41 (by decide) ?_
              refine lv_icmp_eq (tgt := 61) hx hb dX5_dearest_42 (by decide) (fun c_42 => ?_) (fun c_42 => ?_)
              · exact absurd c_42 (nI_m1 (by omega))
              · refine lv_aload_n hx hb dX5_dearest_45 rfl (lv_at hl 1 rfl) ?_
                refine lv_iload_n hx hb dX5_dearest_46 rfl (lv_at hl 2 rfl) ?_
                refine lv_iload_n hx hb dX5_dearest_47 rfl (lv_at hl 4 rfl) ?_
                refine q_calll w (q_runV X w 91 (c_X5_lastOf l k h (q := q) (t := t) (by omega) (by omega)) (cwV 2 hts gX5_dearest_X5_lastOf rfl rfl rfl (by decide +kernel) ⟨Nat.le_of_ble_eq_true rfl, Nat.le_of_ble_eq_true rfl⟩) (by decide) rfl rfl rfl hl.1 rfl (Nat.le_of_ble_eq_true rfl) dX5_dearest_48 ⟨Nat.le_of_ble_eq_true rfl, Nat.le_of_ble_eq_true rfl⟩) (fun r_48 h_48 H locs hp w => ?_)
                obtain ⟨er_48, eh_48⟩ := hp
                rw [eh_48] at w
                have er_48 : r_48 = mls (h.2.1 92) q t := er_48
                subst er_48
                refine lv_aload_n hx hb dX5_dearest_51 rfl (lv_at hl 1 rfl) ?_
                refine lv_iload_n hx hb dX5_dearest_52 rfl (lv_at hl 2 rfl) ?_
                refine lv_iload_n hx hb dX5_dearest_53 rfl (lv_at hl 3 rfl) ?_
                refine q_calll w (q_runV X w 91 (c_X5_lastOf l k h (q := q) (t := b) (by omega) (by omega)) (cwV 2 hts gX5_dearest_X5_lastOf rfl rfl rfl (by decide +kernel) ⟨Nat.le_of_ble_eq_true rfl, Nat.le_of_ble_eq_true rfl⟩) (by decide) rfl rfl rfl hl.1 rfl (Nat.le_of_ble_eq_true rfl) dX5_dearest_54 ⟨Nat.le_of_ble_eq_true rfl, Nat.le_of_ble_eq_true rfl⟩) (fun r_54 h_54 H locs hp w => ?_)
                obtain ⟨er_54, eh_54⟩ := hp
                rw [eh_54] at w
                have er_54 : r_54 = mls (h.2.1 92) q b := er_54
                subst er_54
                refine q_lif_lt X (tgt := 65) dX5_dearest_57 dX5_dearest_58 (by decide) (fun c_57 => ?_) (fun c_57 => ?_)
                · refine lv_iload_n hx hb dX5_dearest_65 rfl (lv_at hl 3 rfl) ?_
                  refine lv_istore_n (lv' := [(2, .int (nI b)), (4, .int (nI 1)), (0, .ref (k.2.1 91)), (1, .int (nI q)), (3, .int (nI t))]) hx hb dX5_dearest_66 rfl hl (by decide) rfl (fun ls hl => ?_)
                  refine lv_iinc (v := nI (t + 1)) (lv' := [(3, .int (nI (t + 1))), (2, .int (nI b)), (4, .int (nI 1)), (0, .ref (k.2.1 91)), (1, .int (nI q))]) hx hb dX5_dearest_67 hl (k := 4) rfl (nI_1 _) (by decide) rfl (fun ls hl => ?_)
                  refine lv_goto (tgt := 4) hx hb dX5_dearest_70 (by decide) ?_
                  exact ih (t + 1) (nI b) ⟨by omega, by first | exact ay0 (fun z => c_24 (of_decide_eq_true z)) ho | exact ay1 (decide_eq_true c_24) ho | exact ay2 (decide_eq_true c_24) ho c_57 | exact ay3 (decide_eq_true c_24) ho c_57⟩ (by omega) _ _ _ w (lv_sub hl [3, 4, 1, 0] rfl)
                · refine lv_iload_n hx hb dX5_dearest_61 rfl (lv_at hl 4 rfl) ?_
                  refine lv_goto (tgt := 66) hx hb dX5_dearest_62 (by decide) ?_
                  refine lv_istore_n (lv' := [(2, .int (nI t)), (4, .int (nI 1)), (0, .ref (k.2.1 91)), (1, .int (nI q)), (3, .int (nI t))]) hx hb dX5_dearest_66 rfl hl (by decide) rfl (fun ls hl => ?_)
                  refine lv_iinc (v := nI (t + 1)) (lv' := [(3, .int (nI (t + 1))), (2, .int (nI t)), (4, .int (nI 1)), (0, .ref (k.2.1 91)), (1, .int (nI q))]) hx hb dX5_dearest_67 hl (k := 4) rfl (nI_1 _) (by decide) rfl (fun ls hl => ?_)
                  refine lv_goto (tgt := 4) hx hb dX5_dearest_70 (by decide) ?_
                  exact ih (t + 1) (nI t) ⟨by omega, by first | exact ay0 (fun z => c_24 (of_decide_eq_true z)) ho | exact ay1 (decide_eq_true c_24) ho | exact ay2 (decide_eq_true c_24) ho c_57 | exact ay3 (decide_eq_true c_24) ho c_57⟩ (by omega) _ _ _ w (lv_sub hl [3, 4, 1, 0] rfl)
  exact lp 17 0 (-1) ⟨by omega, rfl⟩ (by omega) _ _ _ w (lv_sub hl [2, 3, 1, 0] rfl)

abbrev rc_X5_weakest : Room := { frames := 4, cells := 0, slots := 0, locals := 87 }
set_option maxHeartbeats 4000000 in
set_option maxRecDepth 100000 in
theorem c_X5_weakest (l : Launch) (k : kY) (h : hS) {q : Nat} (hq : q < 2) (hz : mOK (h.2.1 92)) : CT l k yX5_weakest wsX5_weakest rc_X5_weakest [.ref (k.2.1 91), .int (nI q)] h (QI k (fun r h' => r = oI (mwk (h.2.1 92) q) ∧ h' = h)) 0 0 := by
  refine q_metI (cc := cX5_weakest) (maxL := 5) (ret := some .int) (ty := .int) (by decide) rfl rfl (Nat.le_of_ble_eq_true rfl) ?_
  intro p e s m args below meth c Q ls X w hl hret
  have hx := X.1
  have hb := X.2.1
  have hown := X.2.2.2.1
  have hts := X.2.2.2.2
  have hl : lv_has ls 5 [(0, .ref (k.2.1 91)), (1, .int (nI q))] := hl
  have hi5 : ∀ w ∈ u_ws RX5 TX5 6, w ∈ wsX5_weakest := by decide +kernel
  refine lv_iconst (v := (-1)) hx hb dX5_weakest_0 (by decide) ?_
  refine lv_istore_n (lv' := [(2, .int (-1)), (0, .ref (k.2.1 91)), (1, .int (nI q))]) hx hb dX5_weakest_1 rfl hl (by decide) rfl (fun ls hl => ?_)
  refine lv_iconst (v := nI 0) hx hb dX5_weakest_2 (by decide) ?_
  refine lv_istore_n (lv' := [(3, .int (nI 0)), (2, .int (-1)), (0, .ref (k.2.1 91)), (1, .int (nI q))]) hx hb dX5_weakest_3 rfl hl (by decide) rfl (fun ls hl => ?_)
  have lp : ∀ (fu : Nat) (t : Nat) (x : Int32), (t ≤ 16 ∧ x = oI (amin (mdA (h.2.1 92) q) (mmg (h.2.1 92) q) t)) → (16 - t) < fu → ∀ (H : Heap) (locs : List Loc) (ls : Array Slot), WX k s H locs h → lv_has ls 5 [(0, .ref (k.2.1 91)), (1, .int (nI q)), (2, .int x), (3, .int (nI t))] → W p l e rc_X5_weakest s m args below meth c H locs 0 0 Q (F0 m 4 ls []) := by
    intro fu
    induction fu with
    | zero => intro t x _ hm; exact absurd hm (Nat.not_lt_zero _)
    | succ fu ih =>
      intro t x hinv hm H locs ls w hl
      obtain ⟨ht, exx⟩ := hinv
      rcases ho : amin (mdA (h.2.1 92) q) (mmg (h.2.1 92) q) t with _ | b
      · rw [ho] at exx
        have exx : x = (-1) := exx
        subst exx
        refine lv_iload_n hx hb dX5_weakest_4 rfl (lv_at hl 3 rfl) ?_
        refine lv_bipush (v := nI 16) hx hb dX5_weakest_5 (by decide) ?_
        refine q_icge X (tgt := 73) (by omega) (by decide) dX5_weakest_7 (by decide) (fun c_7 => ?_) (fun c_7 => ?_)
        · refine lv_iload_n hx hb dX5_weakest_73 rfl (lv_at hl 2 rfl) ?_
          obtain rfl : t = 16 := by omega
          exact hret _ _ _ _ _ _ _ _ dX5_weakest_74 w rfl ⟨by rw [mwk, ho]; rfl, rfl⟩ (Nat.le_of_ble_eq_true rfl) (Nat.le_of_ble_eq_true rfl)
        · refine lv_aload_n hx hb dX5_weakest_10 rfl (lv_at hl 0 rfl) ?_
          refine q_get X w 91 0 (ci := 5) (by decide) rfl rfl hi5 (by decide) (by decide +kernel) rfl dX5_weakest_11 ?_
          refine lv_iload_n hx hb dX5_weakest_14 rfl (lv_at hl 1 rfl) ?_
          refine lv_bipush (v := nI 49) hx hb dX5_weakest_15 (by decide) ?_
          refine lv_iload_n hx hb dX5_weakest_17 rfl (lv_at hl 3 rfl) ?_
          refine q_iaddN X dX5_weakest_18 ?_
          refine q_calli w (q_runS X w (c_X5_at l k h q (49 + t)) (va_cwS 2 hts gX5_weakest_X5_at rfl rfl rfl (by decide +kernel) ⟨Nat.le_of_ble_eq_true rfl, Nat.le_of_ble_eq_true rfl⟩) rfl hl.1 rfl (Nat.le_of_ble_eq_true rfl) dX5_weakest_19 ⟨Nat.le_of_ble_eq_true rfl, Nat.le_of_ble_eq_true rfl⟩) (fun r_19 h_19 H locs hp w => ?_)
          obtain ⟨er_19, eh_19⟩ := hp
          rw [eh_19] at w
          have er_19 : r_19 = nI (1 + 116 * q + (49 + t)) := er_19
          subst er_19
          refine q_lald X w 92 (1 + 116 * q + (49 + t)) (by decide) (fun _ => rfl) rfl (show (1 + 116 * q + (49 + t)) < 233 by omega) (by decide) dX5_weakest_22 ?_
          refine lv_lconst (v := 0) hx hb dX5_weakest_23 (by decide) ?_
          refine q_lif_le X (tgt := 32) dX5_weakest_24 dX5_weakest_25 (by decide) (fun c_24 => ?_) (fun c_24 => ?_)
          · refine lv_iconst (v := nI 0) hx hb dX5_weakest_32 (by decide) ?_
            refine lv_istore (lv' := [(4, .int (nI 0)), (0, .ref (k.2.1 91)), (1, .int (nI q)), (2, .int (-1)), (3, .int (nI t))]) hx hb dX5_weakest_33 hl (by decide) rfl (fun ls hl => ?_)
            refine lv_iload hx hb dX5_weakest_35 (lv_at hl 0 rfl) ?_
            refine lv_if_eq (tgt := 65) hx hb dX5_weakest_37 (by decide) (fun c_37 => ?_) (fun c_37 => ?_)
            · refine lv_iload_n hx hb dX5_weakest_65 rfl (lv_at hl 3 rfl) ?_
              refine lv_istore_n (lv' := [(2, .int (-1)), (4, .int (nI 0)), (0, .ref (k.2.1 91)), (1, .int (nI q)), (3, .int (nI t))]) hx hb dX5_weakest_66 rfl hl (by decide) rfl (fun ls hl => ?_)
              refine lv_iinc (v := nI (t + 1)) (lv' := [(3, .int (nI (t + 1))), (2, .int (-1)), (4, .int (nI 0)), (0, .ref (k.2.1 91)), (1, .int (nI q))]) hx hb dX5_weakest_67 hl (k := 4) rfl (nI_1 _) (by decide) rfl (fun ls hl => ?_)
              refine lv_goto (tgt := 4) hx hb dX5_weakest_70 (by decide) ?_
              exact ih (t + 1) (-1) ⟨by omega, by first | exact ax0 (fun z => c_24 (of_decide_eq_true z)) ho | exact ax1 (decide_eq_true c_24) ho | exact ax2 (decide_eq_true c_24) ho c_57 | exact ax3 (decide_eq_true c_24) ho c_57⟩ (by omega) _ _ _ w (lv_sub hl [3, 4, 1, 0] rfl)
            · exact absurd (by decide) c_37
          · refine lv_iconst (v := nI 1) hx hb dX5_weakest_28 (by decide) ?_
            refine lv_goto (tgt := 33) hx hb dX5_weakest_29 (by decide) ?_
            refine lv_istore (lv' := [(4, .int (nI 1)), (0, .ref (k.2.1 91)), (1, .int (nI q)), (2, .int (-1)), (3, .int (nI t))]) hx hb dX5_weakest_33 hl (by decide) rfl (fun ls hl => ?_)
            refine lv_iload hx hb dX5_weakest_35 (lv_at hl 0 rfl) ?_
            refine lv_if_eq (tgt := 65) hx hb dX5_weakest_37 (by decide) (fun c_37 => ?_) (fun c_37 => ?_)
            · exact absurd c_37 (by decide)
            · refine lv_iload_n hx hb dX5_weakest_40 rfl (lv_at hl 3 rfl) ?_
              refine lv_iconst (v := (-1)) hx hb dX5_weakest_41 (by decide) ?_
              refine lv_icmp_eq (tgt := 61) hx hb dX5_weakest_42 (by decide) (fun c_42 => ?_) (fun c_42 => ?_)
              · refine lv_iload_n hx hb dX5_weakest_61 rfl (lv_at hl 4 rfl) ?_
                refine lv_goto (tgt := 66) hx hb dX5_weakest_62 (by decide) ?_
                refine lv_istore_n (lv' := [(2, .int (nI t)), (4, .int (nI 1)), (0, .ref (k.2.1 91)), (1, .int (nI q)), (3, .int (nI t))]) hx hb dX5_weakest_66 rfl hl (by decide) rfl (fun ls hl => ?_)
                refine lv_iinc (v := nI (t + 1)) (lv' := [(3, .int (nI (t + 1))), (2, .int (nI t)), (4, .int (nI 1)), (0, .ref (k.2.1 91)), (1, .int (nI q))]) hx hb dX5_weakest_67 hl (k := 4) rfl (nI_1 _) (by decide) rfl (fun ls hl => ?_)
                refine lv_goto (tgt := 4) hx hb dX5_weakest_70 (by decide) ?_
                exact ih (t + 1) (nI t) ⟨by omega, by first | exact ax0 (fun z => c_24 (of_decide_eq_true z)) ho | exact ax1 (decide_eq_true c_24) ho | exact ax2 (decide_eq_true c_24) ho c_57 | exact ax3 (decide_eq_true c_24) ho c_57⟩ (by omega) _ _ _ w (lv_sub hl [3, 4, 1, 0] rfl)
              · exact absurd rfl c_42
      · rw [ho] at exx
        have exx : x = nI b := exx
        subst exx
        have hb9 := (amin_bd ho).1
        refine lv_iload_n hx hb dX5_weakest_4 rfl (lv_at hl 3 rfl) ?_
        refine lv_bipush (v := nI 16) hx hb dX5_weakest_5 (by decide) ?_
        refine q_icge X (tgt := 73) (by omega) (by decide) dX5_weakest_7 (by decide) (fun c_7 => ?_) (fun c_7 => ?_)
        · refine lv_iload_n hx hb dX5_weakest_73 rfl (lv_at hl 2 rfl) ?_
          obtain rfl : t = 16 := by omega
          exact hret _ _ _ _ _ _ _ _ dX5_weakest_74 w rfl ⟨by rw [mwk, ho]; rfl, rfl⟩ (Nat.le_of_ble_eq_true rfl) (Nat.le_of_ble_eq_true rfl)
        · refine lv_aload_n hx hb dX5_weakest_10 rfl (lv_at hl 0 rfl) ?_
          refine q_get X w 91 0 (ci := 5) (by decide) rfl rfl hi5 (by decide) (by decide +kernel) rfl dX5_weakest_11 ?_
          refine lv_iload_n hx hb dX5_weakest_14 rfl (lv_at hl 1 rfl) ?_
          refine lv_bipush (v := nI 49) hx hb dX5_weakest_15 (by decide) ?_
          refine lv_iload_n hx hb dX5_weakest_17 rfl (lv_at hl 3 rfl) ?_
          refine q_iaddN X dX5_weakest_18 ?_
          refine q_calli w (q_runS X w (c_X5_at l k h q (49 + t)) (va_cwS 2 hts gX5_weakest_X5_at rfl rfl rfl (by decide +kernel) ⟨Nat.le_of_ble_eq_true rfl, Nat.le_of_ble_eq_true rfl⟩) rfl hl.1 rfl (Nat.le_of_ble_eq_true rfl) dX5_weakest_19 ⟨Nat.le_of_ble_eq_true rfl, Nat.le_of_ble_eq_true rfl⟩) (fun r_19 h_19 H locs hp w => ?_)
          obtain ⟨er_19, eh_19⟩ := hp
          rw [eh_19] at w
          have er_19 : r_19 = nI (1 + 116 * q + (49 + t)) := er_19
          subst er_19
          refine q_lald X w 92 (1 + 116 * q + (49 + t)) (by decide) (fun _ => rfl) rfl (show (1 + 116 * q + (49 + t)) < 233 by omega) (by decide) dX5_weakest_22 ?_
          refine lv_lconst (v := 0) hx hb dX5_weakest_23 (by decide) ?_
          refine q_lif_le X (tgt := 32) dX5_weakest_24 dX5_weakest_25 (by decide) (fun c_24 => ?_) (fun c_24 => ?_)
          · refine lv_iconst (v := nI 0) hx hb dX5_weakest_32 (by decide) ?_
            refine lv_istore (lv' := [(4, .int (nI 0)), (0, .ref (k.2.1 91)), (1, .int (nI q)), (2, .int (nI b)), (3, .int (nI t))]) hx hb dX5_weakest_33 hl (by decide) rfl (fun ls hl => ?_)
            refine lv_iload hx hb dX5_weakest_35 (lv_at hl 0 rfl) ?_
            refine lv_if_eq (tgt := 65) hx hb dX5_weakest_37 (by decide) (fun c_37 => ?_) (fun c_37 => ?_)
            · refine lv_iload_n hx hb dX5_weakest_65 rfl (lv_at hl 3 rfl) ?_
              refine lv_istore_n (lv' := [(2, .int (nI b)), (4, .int (nI 0)), (0, .ref (k.2.1 91)), (1, .int (nI q)), (3, .int (nI t))]) hx hb dX5_weakest_66 rfl hl (by decide) rfl (fun ls hl => ?_)
              refine lv_iinc (v := nI (t + 1)) (lv' := [(3, .int (nI (t + 1))), (2, .int (nI b)), (4, .int (nI 0)), (0, .ref (k.2.1 91)), (1, .int (nI q))]) hx hb dX5_weakest_67 hl (k := 4) rfl (nI_1 _) (by decide) rfl (fun ls hl => ?_)
              refine lv_goto (tgt := 4) hx hb dX5_weakest_70 (by decide) ?_
              exact ih (t + 1) (nI b) ⟨by omega, by first | exact ax0 (fun z => c_24 (of_decide_eq_true z)) ho | exact ax1 (decide_eq_true c_24) ho | exact ax2 (decide_eq_true c_24) ho c_57 | exact ax3 (decide_eq_true c_24) ho c_57⟩ (by omega) _ _ _ w (lv_sub hl [3, 4, 1, 0] rfl)
            · exact absurd (by decide) c_37
          · refine lv_iconst (v := nI 1) hx hb dX5_weakest_28 (by decide) ?_
            refine lv_goto (tgt := 33) hx hb dX5_weakest_29 (by decide) ?_
            refine lv_istore (lv' := [(4, .int (nI 1)), (0, .ref (k.2.1 91)), (1, .int (nI q)), (2, .int (nI b)), (3, .int (nI t))]) hx hb dX5_weakest_33 hl (by decide) rfl (fun ls hl => ?_)
            refine lv_iload hx hb dX5_weakest_35 (lv_at hl 0 rfl) ?_
            refine lv_if_eq (tgt := 65) hx hb dX5_weakest_37 (by decide) (fun c_37 => ?_) (fun c_37 => ?_)
            · exact absurd c_37 (by decide)
            · refine lv_iload_n hx hb dX5_weakest_40 rfl (lv_at hl 3 rfl) ?_
              refine lv_iconst (v := (-1)) hx hb dX5_weakest_41 (by decide) ?_
              refine lv_icmp_eq (tgt := 61) hx hb dX5_weakest_42 (by decide) (fun c_42 => ?_) (fun c_42 => ?_)
              · exact absurd c_42 (nI_m1 (by omega))
              · refine lv_aload_n hx hb dX5_weakest_45 rfl (lv_at hl 1 rfl) ?_
                refine lv_iload_n hx hb dX5_weakest_46 rfl (lv_at hl 2 rfl) ?_
                refine lv_iload_n hx hb dX5_weakest_47 rfl (lv_at hl 4 rfl) ?_
                refine q_calll w (q_runV X w 91 (c_X5_marginOf l k h (q := q) (t := t) (by omega) (by omega) (hz _ _ (by omega) (by omega))) (cwV 2 hts gX5_weakest_X5_marginOf rfl rfl rfl (by decide +kernel) ⟨Nat.le_of_ble_eq_true rfl, Nat.le_of_ble_eq_true rfl⟩) (by decide) rfl rfl rfl hl.1 rfl (Nat.le_of_ble_eq_true rfl) dX5_weakest_48 ⟨Nat.le_of_ble_eq_true rfl, Nat.le_of_ble_eq_true rfl⟩) (fun r_48 h_48 H locs hp w => ?_)
                obtain ⟨er_48, eh_48⟩ := hp
                rw [eh_48] at w
                have er_48 : r_48 = mmg (h.2.1 92) q t := er_48
                subst er_48
                refine lv_aload_n hx hb dX5_weakest_51 rfl (lv_at hl 1 rfl) ?_
                refine lv_iload_n hx hb dX5_weakest_52 rfl (lv_at hl 2 rfl) ?_
                refine lv_iload_n hx hb dX5_weakest_53 rfl (lv_at hl 3 rfl) ?_
                refine q_calll w (q_runV X w 91 (c_X5_marginOf l k h (q := q) (t := b) (by omega) (by omega) (hz _ _ (by omega) (by omega))) (cwV 2 hts gX5_weakest_X5_marginOf rfl rfl rfl (by decide +kernel) ⟨Nat.le_of_ble_eq_true rfl, Nat.le_of_ble_eq_true rfl⟩) (by decide) rfl rfl rfl hl.1 rfl (Nat.le_of_ble_eq_true rfl) dX5_weakest_54 ⟨Nat.le_of_ble_eq_true rfl, Nat.le_of_ble_eq_true rfl⟩) (fun r_54 h_54 H locs hp w => ?_)
                obtain ⟨er_54, eh_54⟩ := hp
                rw [eh_54] at w
                have er_54 : r_54 = mmg (h.2.1 92) q b := er_54
                subst er_54
                refine q_lif_ge X (tgt := 65) dX5_weakest_57 dX5_weakest_58 (by decide) (fun c_57 => ?_) (fun c_57 => ?_)
                · refine lv_iload_n hx hb dX5_weakest_65 rfl (lv_at hl 3 rfl) ?_
                  refine lv_istore_n (lv' := [(2, .int (nI b)), (4, .int (nI 1)), (0, .ref (k.2.1 91)), (1, .int (nI q)), (3, .int (nI t))]) hx hb dX5_weakest_66 rfl hl (by decide) rfl (fun ls hl => ?_)
                  refine lv_iinc (v := nI (t + 1)) (lv' := [(3, .int (nI (t + 1))), (2, .int (nI b)), (4, .int (nI 1)), (0, .ref (k.2.1 91)), (1, .int (nI q))]) hx hb dX5_weakest_67 hl (k := 4) rfl (nI_1 _) (by decide) rfl (fun ls hl => ?_)
                  refine lv_goto (tgt := 4) hx hb dX5_weakest_70 (by decide) ?_
                  exact ih (t + 1) (nI b) ⟨by omega, by first | exact ax0 (fun z => c_24 (of_decide_eq_true z)) ho | exact ax1 (decide_eq_true c_24) ho | exact ax2 (decide_eq_true c_24) ho c_57 | exact ax3 (decide_eq_true c_24) ho c_57⟩ (by omega) _ _ _ w (lv_sub hl [3, 4, 1, 0] rfl)
                · refine lv_iload_n hx hb dX5_weakest_61 rfl (lv_at hl 4 rfl) ?_
                  refine lv_goto (tgt := 66) hx hb dX5_weakest_62 (by decide) ?_
                  refine lv_istore_n (lv' := [(2, .int (nI t)), (4, .int (nI 1)), (0, .ref (k.2.1 91)), (1, .int (nI q)), (3, .int (nI t))]) hx hb dX5_weakest_66 rfl hl (by decide) rfl (fun ls hl => ?_)
                  refine lv_iinc (v := nI (t + 1)) (lv' := [(3, .int (nI (t + 1))), (2, .int (nI t)), (4, .int (nI 1)), (0, .ref (k.2.1 91)), (1, .int (nI q))]) hx hb dX5_weakest_67 hl (k := 4) rfl (nI_1 _) (by decide) rfl (fun ls hl => ?_)
                  refine lv_goto (tgt := 4) hx hb dX5_weakest_70 (by decide) ?_
                  exact ih (t + 1) (nI t) ⟨by omega, by first | exact ax0 (fun z => c_24 (of_decide_eq_true z)) ho | exact ax1 (decide_eq_true c_24) ho | exact ax2 (decide_eq_true c_24) ho c_57 | exact ax3 (decide_eq_true c_24) ho c_57⟩ (by omega) _ _ _ w (lv_sub hl [3, 4, 1, 0] rfl)
  exact lp 17 0 (-1) ⟨by omega, rfl⟩ (by omega) _ _ _ w (lv_sub hl [2, 3, 1, 0] rfl)

abbrev rc_X5_efficient : Room := { frames := 5, cells := 0, slots := 0, locals := 111 }
set_option maxHeartbeats 4000000 in
set_option maxRecDepth 100000 in
theorem c_X5_efficient (l : Launch) (k : kY) (h : hS) {q : Nat} (hq : q < 2) : CT l k yX5_efficient wsX5_efficient rc_X5_efficient [.ref (k.2.1 91), .int (nI q)] h (QI k (fun r h' => r = bI (mef (h.2.1 92) q) ∧ h' = h)) 0 0 := by
  refine q_metI (cc := cX5_efficient) (maxL := 4) (ret := some .boolean) (ty := .boolean) (by decide) rfl rfl (Nat.le_of_ble_eq_true rfl) ?_
  intro p e s m args below meth c Q ls X w hl hret
  have hx := X.1
  have hb := X.2.1
  have hown := X.2.2.2.1
  have hts := X.2.2.2.2
  have hl : lv_has ls 4 [(0, .ref (k.2.1 91)), (1, .int (nI q))] := hl
  refine lv_aload_n hx hb dX5_efficient_0 rfl (lv_at hl 0 rfl) ?_
  refine lv_iload_n hx hb dX5_efficient_1 rfl (lv_at hl 1 rfl) ?_
  refine q_calli w (q_runV X w 91 (c_X5_dearest l k h (q := q) (by omega)) (cwV 1 hts gX5_efficient_X5_dearest rfl rfl rfl (by decide +kernel) ⟨Nat.le_of_ble_eq_true rfl, Nat.le_of_ble_eq_true rfl⟩) (by decide) rfl rfl rfl hl.1 rfl (Nat.le_of_ble_eq_true rfl) dX5_efficient_2 ⟨Nat.le_of_ble_eq_true rfl, Nat.le_of_ble_eq_true rfl⟩) (fun r_2 h_2 H locs hp w => ?_)
  obtain ⟨er_2, eh_2⟩ := hp
  rw [eh_2] at w
  have er_2 : r_2 = oI (mde (h.2.1 92) q) := er_2
  rcases ho_2 : mde (h.2.1 92) q with _ | t_2
  · rw [ho_2] at er_2
    have er_2 : r_2 = (-1) := er_2
    subst er_2
    refine lv_istore_n (lv' := [(2, .int (-1)), (0, .ref (k.2.1 91)), (1, .int (nI q))]) hx hb dX5_efficient_5 rfl hl (by decide) rfl (fun ls hl => ?_)
    refine lv_aload_n hx hb dX5_efficient_6 rfl (lv_at hl 1 rfl) ?_
    refine lv_iload_n hx hb dX5_efficient_7 rfl (lv_at hl 2 rfl) ?_
    refine lv_iconst (v := (-1)) hx hb dX5_efficient_8 (by decide) ?_
    refine q_calli w (q_runV X w 91 (c_X5_cheapest l k h (q := q) (by omega) (-1)) (cwV 2 hts gX5_efficient_X5_cheapest rfl rfl rfl (by decide +kernel) ⟨Nat.le_of_ble_eq_true rfl, Nat.le_of_ble_eq_true rfl⟩) (by decide) rfl rfl rfl hl.1 rfl (Nat.le_of_ble_eq_true rfl) dX5_efficient_9 ⟨Nat.le_of_ble_eq_true rfl, Nat.le_of_ble_eq_true rfl⟩) (fun r_9 h_9 H locs hp w => ?_)
    obtain ⟨er_9, eh_9⟩ := hp
    rw [eh_9] at w
    have er_9 : r_9 = oI (mch (h.2.1 92) q (-1)) := er_9
    rcases ho_9 : mch (h.2.1 92) q (-1) with _ | t_9
    · rw [ho_9] at er_9
      have er_9 : r_9 = (-1) := er_9
      subst er_9
      refine lv_istore_n (lv' := [(3, .int (-1)), (2, .int (-1)), (0, .ref (k.2.1 91)), (1, .int (nI q))]) hx hb dX5_efficient_12 rfl hl (by decide) rfl (fun ls hl => ?_)
      refine lv_iload_n hx hb dX5_efficient_13 rfl (lv_at hl 1 rfl) ?_
      refine lv_iconst (v := (-1)) hx hb dX5_efficient_14 (by decide) ?_
      refine lv_icmp_eq (tgt := 39) hx hb dX5_efficient_15 (by decide) (fun c_15 => ?_) (fun c_15 => ?_)
      · refine lv_iconst (v := nI 1) hx hb dX5_efficient_39 (by decide) ?_
        refine lv_goto (tgt := 44) hx hb dX5_efficient_40 (by decide) ?_
        exact hret _ _ _ _ _ _ _ _ dX5_efficient_44 w (by decide) ⟨by rw [mef, ho_2, ho_9]; first | rfl | (dsimp only; rw [decide_eq_false c_35]; rfl) | (dsimp only; rw [decide_eq_true c_35]; rfl), rfl⟩ (Nat.le_of_ble_eq_true rfl) (Nat.le_of_ble_eq_true rfl)
      · exact absurd rfl c_15
    · rw [ho_9] at er_9
      have er_9 : r_9 = nI t_9 := er_9
      subst er_9
      have ht_9 : t_9 < 16 := (amin_bd ho_9).1
      refine lv_istore_n (lv' := [(3, .int (nI t_9)), (2, .int (-1)), (0, .ref (k.2.1 91)), (1, .int (nI q))]) hx hb dX5_efficient_12 rfl hl (by decide) rfl (fun ls hl => ?_)
      refine lv_iload_n hx hb dX5_efficient_13 rfl (lv_at hl 1 rfl) ?_
      refine lv_iconst (v := (-1)) hx hb dX5_efficient_14 (by decide) ?_
      refine lv_icmp_eq (tgt := 39) hx hb dX5_efficient_15 (by decide) (fun c_15 => ?_) (fun c_15 => ?_)
      · refine lv_iconst (v := nI 1) hx hb dX5_efficient_39 (by decide) ?_
        refine lv_goto (tgt := 44) hx hb dX5_efficient_40 (by decide) ?_
        exact hret _ _ _ _ _ _ _ _ dX5_efficient_44 w (by decide) ⟨by rw [mef, ho_2, ho_9]; first | rfl | (dsimp only; rw [decide_eq_false c_35]; rfl) | (dsimp only; rw [decide_eq_true c_35]; rfl), rfl⟩ (Nat.le_of_ble_eq_true rfl) (Nat.le_of_ble_eq_true rfl)
      · exact absurd rfl c_15
  · rw [ho_2] at er_2
    have er_2 : r_2 = nI t_2 := er_2
    subst er_2
    have ht_2 : t_2 < 16 := (amax_bd ho_2).1
    refine lv_istore_n (lv' := [(2, .int (nI t_2)), (0, .ref (k.2.1 91)), (1, .int (nI q))]) hx hb dX5_efficient_5 rfl hl (by decide) rfl (fun ls hl => ?_)
    refine lv_aload_n hx hb dX5_efficient_6 rfl (lv_at hl 1 rfl) ?_
    refine lv_iload_n hx hb dX5_efficient_7 rfl (lv_at hl 2 rfl) ?_
    refine lv_iconst (v := (-1)) hx hb dX5_efficient_8 (by decide) ?_
    refine q_calli w (q_runV X w 91 (c_X5_cheapest l k h (q := q) (by omega) (-1)) (cwV 2 hts gX5_efficient_X5_cheapest rfl rfl rfl (by decide +kernel) ⟨Nat.le_of_ble_eq_true rfl, Nat.le_of_ble_eq_true rfl⟩) (by decide) rfl rfl rfl hl.1 rfl (Nat.le_of_ble_eq_true rfl) dX5_efficient_9 ⟨Nat.le_of_ble_eq_true rfl, Nat.le_of_ble_eq_true rfl⟩) (fun r_9 h_9 H locs hp w => ?_)
    obtain ⟨er_9, eh_9⟩ := hp
    rw [eh_9] at w
    have er_9 : r_9 = oI (mch (h.2.1 92) q (-1)) := er_9
    rcases ho_9 : mch (h.2.1 92) q (-1) with _ | t_9
    · rw [ho_9] at er_9
      have er_9 : r_9 = (-1) := er_9
      subst er_9
      refine lv_istore_n (lv' := [(3, .int (-1)), (2, .int (nI t_2)), (0, .ref (k.2.1 91)), (1, .int (nI q))]) hx hb dX5_efficient_12 rfl hl (by decide) rfl (fun ls hl => ?_)
      refine lv_iload_n hx hb dX5_efficient_13 rfl (lv_at hl 1 rfl) ?_
      refine lv_iconst (v := (-1)) hx hb dX5_efficient_14 (by decide) ?_
      refine lv_icmp_eq (tgt := 39) hx hb dX5_efficient_15 (by decide) (fun c_15 => ?_) (fun c_15 => ?_)
      · exact absurd c_15 (nI_m1 (by omega))
      · refine lv_iload_n hx hb dX5_efficient_18 rfl (lv_at hl 0 rfl) ?_
        refine lv_iconst (v := (-1)) hx hb dX5_efficient_19 (by decide) ?_
        refine lv_icmp_eq (tgt := 39) hx hb dX5_efficient_20 (by decide) (fun c_20 => ?_) (fun c_20 => ?_)
        · refine lv_iconst (v := nI 1) hx hb dX5_efficient_39 (by decide) ?_
          refine lv_goto (tgt := 44) hx hb dX5_efficient_40 (by decide) ?_
          exact hret _ _ _ _ _ _ _ _ dX5_efficient_44 w (by decide) ⟨by rw [mef, ho_2, ho_9]; first | rfl | (dsimp only; rw [decide_eq_false c_35]; rfl) | (dsimp only; rw [decide_eq_true c_35]; rfl), rfl⟩ (Nat.le_of_ble_eq_true rfl) (Nat.le_of_ble_eq_true rfl)
        · exact absurd rfl c_20
    · rw [ho_9] at er_9
      have er_9 : r_9 = nI t_9 := er_9
      subst er_9
      have ht_9 : t_9 < 16 := (amin_bd ho_9).1
      refine lv_istore_n (lv' := [(3, .int (nI t_9)), (2, .int (nI t_2)), (0, .ref (k.2.1 91)), (1, .int (nI q))]) hx hb dX5_efficient_12 rfl hl (by decide) rfl (fun ls hl => ?_)
      refine lv_iload_n hx hb dX5_efficient_13 rfl (lv_at hl 1 rfl) ?_
      refine lv_iconst (v := (-1)) hx hb dX5_efficient_14 (by decide) ?_
      refine lv_icmp_eq (tgt := 39) hx hb dX5_efficient_15 (by decide) (fun c_15 => ?_) (fun c_15 => ?_)
      · exact absurd c_15 (nI_m1 (by omega))
      · refine lv_iload_n hx hb dX5_efficient_18 rfl (lv_at hl 0 rfl) ?_
        refine lv_iconst (v := (-1)) hx hb dX5_efficient_19 (by decide) ?_
        refine lv_icmp_eq (tgt := 39) hx hb dX5_efficient_20 (by decide) (fun c_20 => ?_) (fun c_20 => ?_)
        · exact absurd c_20 (nI_m1 (by omega))
        · refine lv_aload_n hx hb dX5_efficient_23 rfl (lv_at hl 2 rfl) ?_
          refine lv_iload_n hx hb dX5_efficient_24 rfl (lv_at hl 3 rfl) ?_
          refine lv_iload_n hx hb dX5_efficient_25 rfl (lv_at hl 0 rfl) ?_
          refine q_calll w (q_runV X w 91 (c_X5_stepOf l k h (q := q) (t := t_9) (by omega) (by omega)) (cwV 2 hts gX5_efficient_X5_stepOf rfl rfl rfl (by decide +kernel) ⟨Nat.le_of_ble_eq_true rfl, Nat.le_of_ble_eq_true rfl⟩) (by decide) rfl rfl rfl hl.1 rfl (Nat.le_of_ble_eq_true rfl) dX5_efficient_26 ⟨Nat.le_of_ble_eq_true rfl, Nat.le_of_ble_eq_true rfl⟩) (fun r_26 h_26 H locs hp w => ?_)
          obtain ⟨er_26, eh_26⟩ := hp
          rw [eh_26] at w
          have er_26 : r_26 = mst (h.2.1 92) q t_9 := er_26
          subst er_26
          refine lv_aload_n hx hb dX5_efficient_29 rfl (lv_at hl 2 rfl) ?_
          refine lv_iload_n hx hb dX5_efficient_30 rfl (lv_at hl 3 rfl) ?_
          refine lv_iload_n hx hb dX5_efficient_31 rfl (lv_at hl 1 rfl) ?_
          refine q_calll w (q_runV X w 91 (c_X5_lastOf l k h (q := q) (t := t_2) (by omega) (by omega)) (cwV 2 hts gX5_efficient_X5_lastOf rfl rfl rfl (by decide +kernel) ⟨Nat.le_of_ble_eq_true rfl, Nat.le_of_ble_eq_true rfl⟩) (by decide) rfl rfl rfl hl.1 rfl (Nat.le_of_ble_eq_true rfl) dX5_efficient_32 ⟨Nat.le_of_ble_eq_true rfl, Nat.le_of_ble_eq_true rfl⟩) (fun r_32 h_32 H locs hp w => ?_)
          obtain ⟨er_32, eh_32⟩ := hp
          rw [eh_32] at w
          have er_32 : r_32 = mls (h.2.1 92) q t_2 := er_32
          subst er_32
          refine q_lif_lt X (tgt := 43) dX5_efficient_35 dX5_efficient_36 (by decide) (fun c_35 => ?_) (fun c_35 => ?_)
          · refine lv_iconst (v := nI 0) hx hb dX5_efficient_43 (by decide) ?_
            exact hret _ _ _ _ _ _ _ _ dX5_efficient_44 w (by decide) ⟨by rw [mef, ho_2, ho_9]; first | rfl | (dsimp only; rw [decide_eq_false c_35]; rfl) | (dsimp only; rw [decide_eq_true c_35]; rfl), rfl⟩ (Nat.le_of_ble_eq_true rfl) (Nat.le_of_ble_eq_true rfl)
          · refine lv_iconst (v := nI 1) hx hb dX5_efficient_39 (by decide) ?_
            refine lv_goto (tgt := 44) hx hb dX5_efficient_40 (by decide) ?_
            exact hret _ _ _ _ _ _ _ _ dX5_efficient_44 w (by decide) ⟨by rw [mef, ho_2, ho_9]; first | rfl | (dsimp only; rw [decide_eq_false c_35]; rfl) | (dsimp only; rw [decide_eq_true c_35]; rfl), rfl⟩ (Nat.le_of_ble_eq_true rfl) (Nat.le_of_ble_eq_true rfl)

abbrev rc_X5_rateOf : Room := { frames := 1, cells := 0, slots := 0, locals := 21 }
set_option maxHeartbeats 4000000 in
set_option maxRecDepth 100000 in
theorem c_X5_rateOf (l : Launch) (k : kY) (h : hS) {q : Nat} (hq : q < 2) : CT l k yX5_rateOf wsX5_rateOf rc_X5_rateOf [.ref (k.2.1 91), .int (nI q)] h (QI k (fun r h' => r = (sumL (fun t => h.2.1 92 (1 + 116 * q + (49 + t))) 16).toInt32 ∧ h' = h)) 0 0 := by
  refine q_metI (cc := cX5_rateOf) (maxL := 5) (ret := some .int) (ty := .int) (by decide) rfl rfl (Nat.le_of_ble_eq_true rfl) ?_
  intro p e s m args below meth c Q ls X w hl hret
  have hx := X.1
  have hb := X.2.1
  have hown := X.2.2.2.1
  have hts := X.2.2.2.2
  have hl : lv_has ls 5 [(0, .ref (k.2.1 91)), (1, .int (nI q))] := hl
  have hi5 : ∀ w ∈ u_ws RX5 TX5 6, w ∈ wsX5_rateOf := by decide +kernel
  refine lv_lconst (v := 0) hx hb dX5_rateOf_0 (by decide) ?_
  refine lv_lstore_n (lv' := [(2, .long 0), (0, .ref (k.2.1 91)), (1, .int (nI q))]) hx hb dX5_rateOf_1 rfl hl (by decide) rfl (fun ls hl => ?_)
  refine lv_iconst (v := nI 0) hx hb dX5_rateOf_2 (by decide) ?_
  refine lv_istore (lv' := [(4, .int (nI 0)), (2, .long 0), (0, .ref (k.2.1 91)), (1, .int (nI q))]) hx hb dX5_rateOf_3 hl (by decide) rfl (fun ls hl => ?_)
  have lp : ∀ (fu : Nat) (t : Nat) (x : Int64), (t ≤ 16 ∧ x = sumL (fun t => h.2.1 92 (1 + 116 * q + (49 + t))) t) → (16 - t) < fu → ∀ (H : Heap) (locs : List Loc) (ls : Array Slot), WX k s H locs h → lv_has ls 5 [(0, .ref (k.2.1 91)), (1, .int (nI q)), (2, .long x), (4, .int (nI t))] → W p l e rc_X5_rateOf s m args below meth c H locs 0 0 Q (F0 m 5 ls []) := by
    intro fu
    induction fu with
    | zero => intro t x _ hm; exact absurd hm (Nat.not_lt_zero _)
    | succ fu ih =>
      intro t x hinv hm H locs ls w hl
      have ht := hinv.1
      refine lv_iload hx hb dX5_rateOf_5 (lv_at hl 3 rfl) ?_
      refine lv_bipush (v := nI 16) hx hb dX5_rateOf_7 (by decide) ?_
      refine q_icge X (tgt := 35) (by omega) (by decide) dX5_rateOf_9 (by decide) (fun c_9 => ?_) (fun c_9 => ?_)
      · refine lv_lload_n hx hb dX5_rateOf_35 rfl (lv_at hl 2 rfl) ?_
        refine lv_l2i hx hb dX5_rateOf_36 rfl ?_
        obtain rfl : t = 16 := by omega
        exact hret _ _ _ _ _ _ _ _ dX5_rateOf_37 w rfl ⟨by rw [hinv.2], rfl⟩ (Nat.le_of_ble_eq_true rfl) (Nat.le_of_ble_eq_true rfl)
      · refine lv_lload_n hx hb dX5_rateOf_12 rfl (lv_at hl 2 rfl) ?_
        refine lv_aload_n hx hb dX5_rateOf_13 rfl (lv_at hl 0 rfl) ?_
        refine q_get X w 91 0 (ci := 5) (by decide) rfl rfl hi5 (by decide) (by decide +kernel) rfl dX5_rateOf_14 ?_
        refine lv_iload_n hx hb dX5_rateOf_17 rfl (lv_at hl 1 rfl) ?_
        refine lv_bipush (v := nI 49) hx hb dX5_rateOf_18 (by decide) ?_
        refine lv_iload hx hb dX5_rateOf_20 (lv_at hl 3 rfl) ?_
        refine q_iaddN X dX5_rateOf_22 ?_
        refine q_calli w (q_runS X w (c_X5_at l k h q (49 + t)) (va_cwS 2 hts gX5_rateOf_X5_at rfl rfl rfl (by decide +kernel) ⟨Nat.le_of_ble_eq_true rfl, Nat.le_of_ble_eq_true rfl⟩) rfl hl.1 rfl (Nat.le_of_ble_eq_true rfl) dX5_rateOf_23 ⟨Nat.le_of_ble_eq_true rfl, Nat.le_of_ble_eq_true rfl⟩) (fun r_23 h_23 H locs hp w => ?_)
        obtain ⟨er_23, eh_23⟩ := hp
        rw [eh_23] at w
        have er_23 : r_23 = nI (1 + 116 * q + (49 + t)) := er_23
        subst er_23
        refine q_lald X w 92 (1 + 116 * q + (49 + t)) (by decide) (fun _ => rfl) rfl (show (1 + 116 * q + (49 + t)) < 233 by omega) (by decide) dX5_rateOf_26 ?_
        refine lv_ladd hx hb dX5_rateOf_27 ?_
        refine lv_topl (fun x_28 ex_28 => ?_)
        refine lv_lstore_n (lv' := [(2, .long x_28), (0, .ref (k.2.1 91)), (1, .int (nI q)), (4, .int (nI t))]) hx hb dX5_rateOf_28 rfl hl (by decide) rfl (fun ls hl => ?_)
        refine lv_iinc (v := nI (t + 1)) (lv' := [(4, .int (nI (t + 1))), (2, .long x_28), (0, .ref (k.2.1 91)), (1, .int (nI q))]) hx hb dX5_rateOf_29 hl (k := 3) rfl (nI_1 _) (by decide) rfl (fun ls hl => ?_)
        refine lv_goto (tgt := 5) hx hb dX5_rateOf_32 (by decide) ?_
        exact ih (t + 1) x_28 ⟨by omega, by rw [ex_28, hinv.2]; rfl⟩ (by omega) _ _ _ w (lv_sub hl [2, 3, 1, 0] rfl)
  exact lp 17 0 0 ⟨by omega, rfl⟩ (by omega) _ _ _ w (lv_sub hl [2, 3, 1, 0] rfl)

abbrev rc_X5_energyOf : Room := { frames := 1, cells := 0, slots := 0, locals := 21 }
set_option maxHeartbeats 4000000 in
set_option maxRecDepth 100000 in
theorem c_X5_energyOf (l : Launch) (k : kY) (h : hS) {q : Nat} (hq : q < 2) : CT l k yX5_energyOf wsX5_energyOf rc_X5_energyOf [.ref (k.2.1 91), .int (nI q)] h (QL k (fun r h' => r = sumL (fun t => h.2.1 92 (1 + 116 * q + (81 + t))) 16 ∧ h' = h)) 0 0 := by
  refine q_metL (cc := cX5_energyOf) (maxL := 5) (by decide) rfl (Nat.le_of_ble_eq_true rfl) ?_
  intro p e s m args below meth c Q ls X w hl hret
  have hx := X.1
  have hb := X.2.1
  have hown := X.2.2.2.1
  have hts := X.2.2.2.2
  have hl : lv_has ls 5 [(0, .ref (k.2.1 91)), (1, .int (nI q))] := hl
  have hi5 : ∀ w ∈ u_ws RX5 TX5 6, w ∈ wsX5_energyOf := by decide +kernel
  refine lv_lconst (v := 0) hx hb dX5_energyOf_0 (by decide) ?_
  refine lv_lstore_n (lv' := [(2, .long 0), (0, .ref (k.2.1 91)), (1, .int (nI q))]) hx hb dX5_energyOf_1 rfl hl (by decide) rfl (fun ls hl => ?_)
  refine lv_iconst (v := nI 0) hx hb dX5_energyOf_2 (by decide) ?_
  refine lv_istore (lv' := [(4, .int (nI 0)), (2, .long 0), (0, .ref (k.2.1 91)), (1, .int (nI q))]) hx hb dX5_energyOf_3 hl (by decide) rfl (fun ls hl => ?_)
  have lp : ∀ (fu : Nat) (t : Nat) (x : Int64), (t ≤ 16 ∧ x = sumL (fun t => h.2.1 92 (1 + 116 * q + (81 + t))) t) → (16 - t) < fu → ∀ (H : Heap) (locs : List Loc) (ls : Array Slot), WX k s H locs h → lv_has ls 5 [(0, .ref (k.2.1 91)), (1, .int (nI q)), (2, .long x), (4, .int (nI t))] → W p l e rc_X5_energyOf s m args below meth c H locs 0 0 Q (F0 m 5 ls []) := by
    intro fu
    induction fu with
    | zero => intro t x _ hm; exact absurd hm (Nat.not_lt_zero _)
    | succ fu ih =>
      intro t x hinv hm H locs ls w hl
      have ht := hinv.1
      refine lv_iload hx hb dX5_energyOf_5 (lv_at hl 3 rfl) ?_
      refine lv_bipush (v := nI 16) hx hb dX5_energyOf_7 (by decide) ?_
      refine q_icge X (tgt := 35) (by omega) (by decide) dX5_energyOf_9 (by decide) (fun c_9 => ?_) (fun c_9 => ?_)
      · refine lv_lload_n hx hb dX5_energyOf_35 rfl (lv_at hl 2 rfl) ?_
        obtain rfl : t = 16 := by omega
        exact hret _ _ _ _ _ _ _ _ dX5_energyOf_36 w ⟨by rw [hinv.2], rfl⟩ (Nat.le_of_ble_eq_true rfl) (Nat.le_of_ble_eq_true rfl)
      · refine lv_lload_n hx hb dX5_energyOf_12 rfl (lv_at hl 2 rfl) ?_
        refine lv_aload_n hx hb dX5_energyOf_13 rfl (lv_at hl 0 rfl) ?_
        refine q_get X w 91 0 (ci := 5) (by decide) rfl rfl hi5 (by decide) (by decide +kernel) rfl dX5_energyOf_14 ?_
        refine lv_iload_n hx hb dX5_energyOf_17 rfl (lv_at hl 1 rfl) ?_
        refine lv_bipush (v := nI 81) hx hb dX5_energyOf_18 (by decide) ?_
        refine lv_iload hx hb dX5_energyOf_20 (lv_at hl 3 rfl) ?_
        refine q_iaddN X dX5_energyOf_22 ?_
        refine q_calli w (q_runS X w (c_X5_at l k h q (81 + t)) (va_cwS 2 hts gX5_energyOf_X5_at rfl rfl rfl (by decide +kernel) ⟨Nat.le_of_ble_eq_true rfl, Nat.le_of_ble_eq_true rfl⟩) rfl hl.1 rfl (Nat.le_of_ble_eq_true rfl) dX5_energyOf_23 ⟨Nat.le_of_ble_eq_true rfl, Nat.le_of_ble_eq_true rfl⟩) (fun r_23 h_23 H locs hp w => ?_)
        obtain ⟨er_23, eh_23⟩ := hp
        rw [eh_23] at w
        have er_23 : r_23 = nI (1 + 116 * q + (81 + t)) := er_23
        subst er_23
        refine q_lald X w 92 (1 + 116 * q + (81 + t)) (by decide) (fun _ => rfl) rfl (show (1 + 116 * q + (81 + t)) < 233 by omega) (by decide) dX5_energyOf_26 ?_
        refine lv_ladd hx hb dX5_energyOf_27 ?_
        refine lv_topl (fun x_28 ex_28 => ?_)
        refine lv_lstore_n (lv' := [(2, .long x_28), (0, .ref (k.2.1 91)), (1, .int (nI q)), (4, .int (nI t))]) hx hb dX5_energyOf_28 rfl hl (by decide) rfl (fun ls hl => ?_)
        refine lv_iinc (v := nI (t + 1)) (lv' := [(4, .int (nI (t + 1))), (2, .long x_28), (0, .ref (k.2.1 91)), (1, .int (nI q))]) hx hb dX5_energyOf_29 hl (k := 3) rfl (nI_1 _) (by decide) rfl (fun ls hl => ?_)
        refine lv_goto (tgt := 5) hx hb dX5_energyOf_32 (by decide) ?_
        exact ih (t + 1) x_28 ⟨by omega, by rw [ex_28, hinv.2]; rfl⟩ (by omega) _ _ _ w (lv_sub hl [2, 3, 1, 0] rfl)
  exact lp 17 0 0 ⟨by omega, rfl⟩ (by omega) _ _ _ w (lv_sub hl [2, 3, 1, 0] rfl)

abbrev rc_X5_inStepNow : Room := { frames := 1, cells := 0, slots := 0, locals := 21 }
set_option maxHeartbeats 4000000 in
set_option maxRecDepth 100000 in
theorem c_X5_inStepNow (l : Launch) (k : kY) (h : hS) {q : Nat} (hq : q < 2) : CT l k yX5_inStepNow wsX5_inStepNow rc_X5_inStepNow [.ref (k.2.1 91), .int (nI q)] h (QI k (fun r h' => r = bI (mis (h.2.1 92) q 16) ∧ h' = h)) 0 0 := by
  refine q_metI (cc := cX5_inStepNow) (maxL := 4) (ret := some .boolean) (ty := .boolean) (by decide) rfl rfl (Nat.le_of_ble_eq_true rfl) ?_
  intro p e s m args below meth c Q ls X w hl hret
  have hx := X.1
  have hb := X.2.1
  have hown := X.2.2.2.1
  have hts := X.2.2.2.2
  have hl : lv_has ls 4 [(0, .ref (k.2.1 91)), (1, .int (nI q))] := hl
  have hi5 : ∀ w ∈ u_ws RX5 TX5 6, w ∈ wsX5_inStepNow := by decide +kernel
  refine lv_iconst (v := nI 1) hx hb dX5_inStepNow_0 (by decide) ?_
  refine lv_istore_n (lv' := [(2, .int (nI 1)), (0, .ref (k.2.1 91)), (1, .int (nI q))]) hx hb dX5_inStepNow_1 rfl hl (by decide) rfl (fun ls hl => ?_)
  refine lv_iconst (v := nI 0) hx hb dX5_inStepNow_2 (by decide) ?_
  refine lv_istore_n (lv' := [(3, .int (nI 0)), (2, .int (nI 1)), (0, .ref (k.2.1 91)), (1, .int (nI q))]) hx hb dX5_inStepNow_3 rfl hl (by decide) rfl (fun ls hl => ?_)
  have lp : ∀ (fu : Nat) (t : Nat) (x : Int32), (t ≤ 16 ∧ x = bI (mis (h.2.1 92) q t)) → (16 - t) < fu → ∀ (H : Heap) (locs : List Loc) (ls : Array Slot), WX k s H locs h → lv_has ls 4 [(0, .ref (k.2.1 91)), (1, .int (nI q)), (2, .int x), (3, .int (nI t))] → W p l e rc_X5_inStepNow s m args below meth c H locs 0 0 Q (F0 m 4 ls []) := by
    intro fu
    induction fu with
    | zero => intro t x _ hm; exact absurd hm (Nat.not_lt_zero _)
    | succ fu ih =>
      intro t x hinv hm H locs ls w hl
      obtain ⟨ht, exx⟩ := hinv
      rcases ho : mis (h.2.1 92) q t with _ | _
      · rw [ho] at exx
        have exx : x = nI 0 := exx
        subst exx
        refine lv_iload_n hx hb dX5_inStepNow_4 rfl (lv_at hl 3 rfl) ?_
        refine lv_bipush (v := nI 16) hx hb dX5_inStepNow_5 (by decide) ?_
        refine q_icge X (tgt := 56) (by omega) (by decide) dX5_inStepNow_7 (by decide) (fun c_7 => ?_) (fun c_7 => ?_)
        · refine lv_iload_n hx hb dX5_inStepNow_56 rfl (lv_at hl 2 rfl) ?_
          obtain rfl : t = 16 := by omega
          exact hret _ _ _ _ _ _ _ _ dX5_inStepNow_57 w (by decide) ⟨by rw [ho]; rfl, rfl⟩ (Nat.le_of_ble_eq_true rfl) (Nat.le_of_ble_eq_true rfl)
        · refine lv_iload_n hx hb dX5_inStepNow_10 rfl (lv_at hl 2 rfl) ?_
          refine lv_if_eq (tgt := 48) hx hb dX5_inStepNow_11 (by decide) (fun c_11 => ?_) (fun c_11 => ?_)
          · refine lv_iconst (v := nI 0) hx hb dX5_inStepNow_48 (by decide) ?_
            refine lv_istore_n (lv' := [(2, .int (nI 0)), (0, .ref (k.2.1 91)), (1, .int (nI q)), (3, .int (nI t))]) hx hb dX5_inStepNow_49 rfl hl (by decide) rfl (fun ls hl => ?_)
            refine lv_iinc (v := nI (t + 1)) (lv' := [(3, .int (nI (t + 1))), (2, .int (nI 0)), (0, .ref (k.2.1 91)), (1, .int (nI q))]) hx hb dX5_inStepNow_50 hl (k := 3) rfl (nI_1 _) (by decide) rfl (fun ls hl => ?_)
            refine lv_goto (tgt := 4) hx hb dX5_inStepNow_53 (by decide) ?_
            exact ih (t + 1) (nI 0) ⟨by omega, by rw [mis, ho]; first | rfl | (rw [decide_eq_true c_40]; rfl) | (rw [decide_eq_false c_40]; rfl)⟩ (by omega) _ _ _ w (lv_sub hl [2, 3, 1, 0] rfl)
          · exact absurd (by decide) c_11
      · rw [ho] at exx
        have exx : x = nI 1 := exx
        subst exx
        refine lv_iload_n hx hb dX5_inStepNow_4 rfl (lv_at hl 3 rfl) ?_
        refine lv_bipush (v := nI 16) hx hb dX5_inStepNow_5 (by decide) ?_
        refine q_icge X (tgt := 56) (by omega) (by decide) dX5_inStepNow_7 (by decide) (fun c_7 => ?_) (fun c_7 => ?_)
        · refine lv_iload_n hx hb dX5_inStepNow_56 rfl (lv_at hl 2 rfl) ?_
          obtain rfl : t = 16 := by omega
          exact hret _ _ _ _ _ _ _ _ dX5_inStepNow_57 w (by decide) ⟨by rw [ho]; rfl, rfl⟩ (Nat.le_of_ble_eq_true rfl) (Nat.le_of_ble_eq_true rfl)
        · refine lv_iload_n hx hb dX5_inStepNow_10 rfl (lv_at hl 2 rfl) ?_
          refine lv_if_eq (tgt := 48) hx hb dX5_inStepNow_11 (by decide) (fun c_11 => ?_) (fun c_11 => ?_)
          · exact absurd c_11 (by decide)
          · refine lv_aload_n hx hb dX5_inStepNow_14 rfl (lv_at hl 0 rfl) ?_
            refine q_get X w 91 0 (ci := 5) (by decide) rfl rfl hi5 (by decide) (by decide +kernel) rfl dX5_inStepNow_15 ?_
            refine lv_iload_n hx hb dX5_inStepNow_18 rfl (lv_at hl 1 rfl) ?_
            refine lv_bipush (v := nI 49) hx hb dX5_inStepNow_19 (by decide) ?_
            refine lv_iload_n hx hb dX5_inStepNow_21 rfl (lv_at hl 3 rfl) ?_
            refine q_iaddN X dX5_inStepNow_22 ?_
            refine q_calli w (q_runS X w (c_X5_at l k h q (49 + t)) (va_cwS 2 hts gX5_inStepNow_X5_at rfl rfl rfl (by decide +kernel) ⟨Nat.le_of_ble_eq_true rfl, Nat.le_of_ble_eq_true rfl⟩) rfl hl.1 rfl (Nat.le_of_ble_eq_true rfl) dX5_inStepNow_23 ⟨Nat.le_of_ble_eq_true rfl, Nat.le_of_ble_eq_true rfl⟩) (fun r_23 h_23 H locs hp w => ?_)
            obtain ⟨er_23, eh_23⟩ := hp
            rw [eh_23] at w
            have er_23 : r_23 = nI (1 + 116 * q + (49 + t)) := er_23
            subst er_23
            refine q_lald X w 92 (1 + 116 * q + (49 + t)) (by decide) (fun _ => rfl) rfl (show (1 + 116 * q + (49 + t)) < 233 by omega) (by decide) dX5_inStepNow_26 ?_
            refine lv_aload_n hx hb dX5_inStepNow_27 rfl (lv_at hl 0 rfl) ?_
            refine q_get X w 91 0 (ci := 5) (by decide) rfl rfl hi5 (by decide) (by decide +kernel) rfl dX5_inStepNow_28 ?_
            refine lv_iload_n hx hb dX5_inStepNow_31 rfl (lv_at hl 1 rfl) ?_
            refine lv_bipush (v := nI 65) hx hb dX5_inStepNow_32 (by decide) ?_
            refine lv_iload_n hx hb dX5_inStepNow_34 rfl (lv_at hl 3 rfl) ?_
            refine q_iaddN X dX5_inStepNow_35 ?_
            refine q_calli w (q_runS X w (c_X5_at l k h q (65 + t)) (va_cwS 2 hts gX5_inStepNow_X5_at rfl rfl rfl (by decide +kernel) ⟨Nat.le_of_ble_eq_true rfl, Nat.le_of_ble_eq_true rfl⟩) rfl hl.1 rfl (Nat.le_of_ble_eq_true rfl) dX5_inStepNow_36 ⟨Nat.le_of_ble_eq_true rfl, Nat.le_of_ble_eq_true rfl⟩) (fun r_36 h_36 H locs hp w => ?_)
            obtain ⟨er_36, eh_36⟩ := hp
            rw [eh_36] at w
            have er_36 : r_36 = nI (1 + 116 * q + (65 + t)) := er_36
            subst er_36
            refine q_lald X w 92 (1 + 116 * q + (65 + t)) (by decide) (fun _ => rfl) rfl (show (1 + 116 * q + (65 + t)) < 233 by omega) (by decide) dX5_inStepNow_39 ?_
            refine q_lif_ne X (tgt := 48) dX5_inStepNow_40 dX5_inStepNow_41 (by decide) (fun c_40 => ?_) (fun c_40 => ?_)
            · refine lv_iconst (v := nI 0) hx hb dX5_inStepNow_48 (by decide) ?_
              refine lv_istore_n (lv' := [(2, .int (nI 0)), (0, .ref (k.2.1 91)), (1, .int (nI q)), (3, .int (nI t))]) hx hb dX5_inStepNow_49 rfl hl (by decide) rfl (fun ls hl => ?_)
              refine lv_iinc (v := nI (t + 1)) (lv' := [(3, .int (nI (t + 1))), (2, .int (nI 0)), (0, .ref (k.2.1 91)), (1, .int (nI q))]) hx hb dX5_inStepNow_50 hl (k := 3) rfl (nI_1 _) (by decide) rfl (fun ls hl => ?_)
              refine lv_goto (tgt := 4) hx hb dX5_inStepNow_53 (by decide) ?_
              exact ih (t + 1) (nI 0) ⟨by omega, by rw [mis, ho]; first | rfl | (rw [decide_eq_true c_40]; rfl) | (rw [decide_eq_false c_40]; rfl)⟩ (by omega) _ _ _ w (lv_sub hl [2, 3, 1, 0] rfl)
            · refine lv_iconst (v := nI 1) hx hb dX5_inStepNow_44 (by decide) ?_
              refine lv_goto (tgt := 49) hx hb dX5_inStepNow_45 (by decide) ?_
              refine lv_istore_n (lv' := [(2, .int (nI 1)), (0, .ref (k.2.1 91)), (1, .int (nI q)), (3, .int (nI t))]) hx hb dX5_inStepNow_49 rfl hl (by decide) rfl (fun ls hl => ?_)
              refine lv_iinc (v := nI (t + 1)) (lv' := [(3, .int (nI (t + 1))), (2, .int (nI 1)), (0, .ref (k.2.1 91)), (1, .int (nI q))]) hx hb dX5_inStepNow_50 hl (k := 3) rfl (nI_1 _) (by decide) rfl (fun ls hl => ?_)
              refine lv_goto (tgt := 4) hx hb dX5_inStepNow_53 (by decide) ?_
              exact ih (t + 1) (nI 1) ⟨by omega, by rw [mis, ho]; first | rfl | (rw [decide_eq_true c_40]; rfl) | (rw [decide_eq_false c_40]; rfl)⟩ (by omega) _ _ _ w (lv_sub hl [2, 3, 1, 0] rfl)
  exact lp 17 0 (nI 1) ⟨by omega, rfl⟩ (by omega) _ _ _ w (lv_sub hl [2, 3, 1, 0] rfl)
