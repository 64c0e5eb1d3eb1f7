abbrev rc_X3_dropAll : Room := { frames := 0, cells := 0, slots := 0, locals := 0 }
set_option maxHeartbeats 4000000 in
set_option maxRecDepth 100000 in
theorem c_X3_dropAll (l : Launch) (k : kY) (h : hS) {P : Nat} (hP : pp P) : CT l k yX3_dropAll wsX3_dropAll rc_X3_dropAll [.ref (k.2.1 (P + 7))] h (QV k (fun h' => h' = setI h (P + 7) (drT (h.1 (P + 7))))) 0 0 := by
  refine q_metV (cc := cX3_dropAll) (maxL := 1) (by decide) rfl (Nat.le_of_ble_eq_true rfl) ?_
  intro p e s m args below meth c Q ls X w hl hret
  have hx := X.1
  have hb := X.2.1
  have hown := X.2.2.2.1
  have hts := X.2.2.2.2
  have hl : lv_has ls 1 [(0, .ref (k.2.1 (P + 7)))] := hl
  have hi3 : ∀ w ∈ u_ws RX3 TX3 14, w ∈ wsX3_dropAll := by decide +kernel
  refine lv_aload_n hx hb dX3_dropAll_0 rfl (lv_at hl 0 rfl) ?_
  refine lv_iconst (v := nI 0) hx hb dX3_dropAll_1 (by decide) ?_
  refine q_put X w (P + 7) 0 .int (ci := 3) (pp_lt hP (c := 7) (by decide)) (hE_p7 hP k _) (by rw [hE_p7 hP k, upI_s]; rfl) rfl hi3 tyX3_ok nmX3 (by decide) (by decide +kernel) rfl (by decide +kernel) (rfl) (rfl) (Nat.le_of_ble_eq_true rfl) dX3_dropAll_2 (fun H locs w => ?_)
  obtain ⟨h_2, eh_2⟩ : ∃ z, z = upI h (P + 7) 0 (nI 0) := ⟨_, rfl⟩
  rw [← eh_2] at w
  refine lv_aload_n hx hb dX3_dropAll_5 rfl (lv_at hl 0 rfl) ?_
  refine lv_iconst (v := nI 0) hx hb dX3_dropAll_6 (by decide) ?_
  refine q_put X w (P + 7) 1 .boolean (ci := 3) (pp_lt hP (c := 7) (by decide)) (hE_p7 hP k _) (by rw [hE_p7 hP k, upI_s]; rfl) rfl hi3 tyX3_ok nmX3 (by decide) (by decide +kernel) rfl (by decide +kernel) (by decide) (by decide) (Nat.le_of_ble_eq_true rfl) dX3_dropAll_7 (fun H locs w => ?_)
  obtain ⟨h_7, eh_7⟩ : ∃ z, z = upI h_2 (P + 7) 1 (nI 0) := ⟨_, rfl⟩
  rw [← eh_7] at w
  refine lv_aload_n hx hb dX3_dropAll_10 rfl (lv_at hl 0 rfl) ?_
  refine lv_iconst (v := nI 0) hx hb dX3_dropAll_11 (by decide) ?_
  refine q_put X w (P + 7) 6 .boolean (ci := 3) (pp_lt hP (c := 7) (by decide)) (hE_p7 hP k _) (by rw [hE_p7 hP k, upI_s]; rfl) rfl hi3 tyX3_ok nmX3 (by decide) (by decide +kernel) rfl (by decide +kernel) (by decide) (by decide) (Nat.le_of_ble_eq_true rfl) dX3_dropAll_12 (fun H locs w => ?_)
  obtain ⟨h_12, eh_12⟩ : ∃ z, z = upI h_7 (P + 7) 6 (nI 0) := ⟨_, rfl⟩
  rw [← eh_12] at w
  refine lv_aload_n hx hb dX3_dropAll_15 rfl (lv_at hl 0 rfl) ?_
  refine lv_iconst (v := nI 0) hx hb dX3_dropAll_16 (by decide) ?_
  refine q_put X w (P + 7) 7 .boolean (ci := 3) (pp_lt hP (c := 7) (by decide)) (hE_p7 hP k _) (by rw [hE_p7 hP k, upI_s]; rfl) rfl hi3 tyX3_ok nmX3 (by decide) (by decide +kernel) rfl (by decide +kernel) (by decide) (by decide) (Nat.le_of_ble_eq_true rfl) dX3_dropAll_17 (fun H locs w => ?_)
  obtain ⟨h_17, eh_17⟩ : ∃ z, z = upI h_12 (P + 7) 7 (nI 0) := ⟨_, rfl⟩
  rw [← eh_17] at w
  refine lv_aload_n hx hb dX3_dropAll_20 rfl (lv_at hl 0 rfl) ?_
  refine lv_iconst (v := (-1)) hx hb dX3_dropAll_21 (by decide) ?_
  refine q_put X w (P + 7) 10 .int (ci := 3) (pp_lt hP (c := 7) (by decide)) (hE_p7 hP k _) (by rw [hE_p7 hP k, upI_s]; rfl) rfl hi3 tyX3_ok nmX3 (by decide) (by decide +kernel) rfl (by decide +kernel) (rfl) (rfl) (Nat.le_of_ble_eq_true rfl) dX3_dropAll_22 (fun H locs w => ?_)
  obtain ⟨h_22, eh_22⟩ : ∃ z, z = upI h_17 (P + 7) 10 (-1) := ⟨_, rfl⟩
  rw [← eh_22] at w
  refine lv_aload_n hx hb dX3_dropAll_25 rfl (lv_at hl 0 rfl) ?_
  refine lv_iconst (v := (-1)) hx hb dX3_dropAll_26 (by decide) ?_
  refine q_put X w (P + 7) 11 .int (ci := 3) (pp_lt hP (c := 7) (by decide)) (hE_p7 hP k _) (by rw [hE_p7 hP k, upI_s]; rfl) rfl hi3 tyX3_ok nmX3 (by decide) (by decide +kernel) rfl (by decide +kernel) (rfl) (rfl) (Nat.le_of_ble_eq_true rfl) dX3_dropAll_27 (fun H locs w => ?_)
  obtain ⟨h_27, eh_27⟩ : ∃ z, z = upI h_22 (P + 7) 11 (-1) := ⟨_, rfl⟩
  rw [← eh_27] at w
  exact hret _ _ _ _ _ _ _ dX3_dropAll_30 w (by simp only [eh_2, eh_7, eh_12, eh_17, eh_22, eh_27, upI_set, setI_s, setI_setI]; rfl) (Nat.le_of_ble_eq_true rfl) (Nat.le_of_ble_eq_true rfl)

abbrev rc_X3_openRequest : Room := { frames := 1, cells := 0, slots := 0, locals := 22 }
set_option maxHeartbeats 4000000 in
set_option maxRecDepth 100000 in
theorem c_X3_openRequest (l : Launch) (k : kY) (h : hS) {P : Nat} (hP : pp P) (a b : Int32) : CT l k yX3_openRequest wsX3_openRequest rc_X3_openRequest [.ref (k.2.1 (P + 7)), .int a, .int b] h (QI k (fun r h' => r = h.1 (P + 7) 0 ∧ h' = setI h (P + 7) (rqT (h.1 (P + 7)) a b))) 0 0 := by
  refine q_metI (cc := cX3_openRequest) (maxL := 3) (ret := some .int) (ty := .int) (by decide) rfl rfl (Nat.le_of_ble_eq_true rfl) ?_
  intro p e s m args below meth c Q ls X w hl hret
  have hx := X.1
  have hb := X.2.1
  have hown := X.2.2.2.1
  have hts := X.2.2.2.2
  have hl : lv_has ls 3 [(0, .ref (k.2.1 (P + 7))), (1, .int a), (2, .int b)] := hl
  have hi3 : ∀ w ∈ u_ws RX3 TX3 14, w ∈ wsX3_openRequest := by decide +kernel
  refine lv_aload_n hx hb dX3_openRequest_0 rfl (lv_at hl 0 rfl) ?_
  refine lv_iconst (v := nI 1) hx hb dX3_openRequest_1 (by decide) ?_
  refine q_put X w (P + 7) 1 .boolean (ci := 3) (pp_lt hP (c := 7) (by decide)) (hE_p7 hP k _) (by rw [hE_p7 hP k, upI_s]; rfl) rfl hi3 tyX3_ok nmX3 (by decide) (by decide +kernel) rfl (by decide +kernel) (by decide) (by decide) (Nat.le_of_ble_eq_true rfl) dX3_openRequest_2 (fun H locs w => ?_)
  obtain ⟨h_2, eh_2⟩ : ∃ z, z = upI h (P + 7) 1 (nI 1) := ⟨_, rfl⟩
  rw [← eh_2] at w
  refine lv_aload_n hx hb dX3_openRequest_5 rfl (lv_at hl 0 rfl) ?_
  refine lv_aload_n hx hb dX3_openRequest_6 rfl (lv_at hl 0 rfl) ?_
  refine q_get X w (P + 7) 0 (ci := 3) (pp_lt hP (c := 7) (by decide)) (hE_p7 hP k _) rfl hi3 (by decide) (by decide +kernel) rfl dX3_openRequest_7 ?_
  refine q_put X w (P + 7) 2 .int (ci := 3) (pp_lt hP (c := 7) (by decide)) (hE_p7 hP k _) (by rw [hE_p7 hP k, upI_s]; rfl) rfl hi3 tyX3_ok nmX3 (by decide) (by decide +kernel) rfl (by decide +kernel) (rfl) (rfl) (Nat.le_of_ble_eq_true rfl) dX3_openRequest_10 (fun H locs w => ?_)
  obtain ⟨h_10, eh_10⟩ : ∃ z, z = upI h_2 (P + 7) 2 (h_2.1 (P + 7) 0) := ⟨_, rfl⟩
  rw [← eh_10] at w
  refine lv_aload_n hx hb dX3_openRequest_13 rfl (lv_at hl 0 rfl) ?_
  refine lv_iload_n hx hb dX3_openRequest_14 rfl (lv_at hl 1 rfl) ?_
  refine q_put X w (P + 7) 3 .int (ci := 3) (pp_lt hP (c := 7) (by decide)) (hE_p7 hP k _) (by rw [hE_p7 hP k, upI_s]; rfl) rfl hi3 tyX3_ok nmX3 (by decide) (by decide +kernel) rfl (by decide +kernel) (rfl) (rfl) (Nat.le_of_ble_eq_true rfl) dX3_openRequest_15 (fun H locs w => ?_)
  obtain ⟨h_15, eh_15⟩ : ∃ z, z = upI h_10 (P + 7) 3 a := ⟨_, rfl⟩
  rw [← eh_15] at w
  refine lv_aload_n hx hb dX3_openRequest_18 rfl (lv_at hl 0 rfl) ?_
  refine lv_iload_n hx hb dX3_openRequest_19 rfl (lv_at hl 2 rfl) ?_
  refine q_put X w (P + 7) 4 .int (ci := 3) (pp_lt hP (c := 7) (by decide)) (hE_p7 hP k _) (by rw [hE_p7 hP k, upI_s]; rfl) rfl hi3 tyX3_ok nmX3 (by decide) (by decide +kernel) rfl (by decide +kernel) (rfl) (rfl) (Nat.le_of_ble_eq_true rfl) dX3_openRequest_20 (fun H locs w => ?_)
  obtain ⟨h_20, eh_20⟩ : ∃ z, z = upI h_15 (P + 7) 4 b := ⟨_, rfl⟩
  rw [← eh_20] at w
  refine lv_aload_n hx hb dX3_openRequest_23 rfl (lv_at hl 0 rfl) ?_
  refine lv_iconst (v := (-1)) hx hb dX3_openRequest_24 (by decide) ?_
  refine q_put X w (P + 7) 5 .int (ci := 3) (pp_lt hP (c := 7) (by decide)) (hE_p7 hP k _) (by rw [hE_p7 hP k, upI_s]; rfl) rfl hi3 tyX3_ok nmX3 (by decide) (by decide +kernel) rfl (by decide +kernel) (rfl) (rfl) (Nat.le_of_ble_eq_true rfl) dX3_openRequest_25 (fun H locs w => ?_)
  obtain ⟨h_25, eh_25⟩ : ∃ z, z = upI h_20 (P + 7) 5 (-1) := ⟨_, rfl⟩
  rw [← eh_25] at w
  refine lv_aload_n hx hb dX3_openRequest_28 rfl (lv_at hl 0 rfl) ?_
  refine lv_iconst (v := nI 1) hx hb dX3_openRequest_29 (by decide) ?_
  refine q_put X w (P + 7) 6 .boolean (ci := 3) (pp_lt hP (c := 7) (by decide)) (hE_p7 hP k _) (by rw [hE_p7 hP k, upI_s]; rfl) rfl hi3 tyX3_ok nmX3 (by decide) (by decide +kernel) rfl (by decide +kernel) (by decide) (by decide) (Nat.le_of_ble_eq_true rfl) dX3_openRequest_30 (fun H locs w => ?_)
  obtain ⟨h_30, eh_30⟩ : ∃ z, z = upI h_25 (P + 7) 6 (nI 1) := ⟨_, rfl⟩
  rw [← eh_30] at w
  refine lv_aload_n hx hb dX3_openRequest_33 rfl (lv_at hl 0 rfl) ?_
  refine lv_aload_n hx hb dX3_openRequest_34 rfl (lv_at hl 0 rfl) ?_
  refine q_get X w (P + 7) 0 (ci := 3) (pp_lt hP (c := 7) (by decide)) (hE_p7 hP k _) rfl hi3 (by decide) (by decide +kernel) rfl dX3_openRequest_35 ?_
  refine lv_iconst (v := nI 1) hx hb dX3_openRequest_38 (by decide) ?_
  refine lv_iadd hx hb dX3_openRequest_39 ?_
  refine lv_bipush (v := nI 8) hx hb dX3_openRequest_40 (by decide) ?_
  refine q_calli w (q_runS X w (c_J9_floorMod_7cf53 l k h_30 ((h_30.1 (P + 7) 0) + (nI 1)) (nI 8) (by decide)) (va_cwS 2 hts gX3_openRequest_J9_floorMod_7cf53 rfl rfl rfl (by decide +kernel) ⟨Nat.le_of_ble_eq_true rfl, Nat.le_of_ble_eq_true rfl⟩) rfl hl.1 rfl (Nat.le_of_ble_eq_true rfl) dX3_openRequest_42 ⟨Nat.le_of_ble_eq_true rfl, Nat.le_of_ble_eq_true rfl⟩) (fun r_42 h_42 H locs hp w => ?_)
  obtain ⟨er_42, eh_42⟩ := hp
  rw [eh_42] at w
  have er_42 : r_42 = fmz ((h_30.1 (P + 7) 0) + (nI 1)) (nI 8) := er_42
  subst er_42
  refine q_put X w (P + 7) 0 .int (ci := 3) (pp_lt hP (c := 7) (by decide)) (hE_p7 hP k _) (by rw [hE_p7 hP k, upI_s]; rfl) rfl hi3 tyX3_ok nmX3 (by decide) (by decide +kernel) rfl (by decide +kernel) (rfl) (rfl) (Nat.le_of_ble_eq_true rfl) dX3_openRequest_45 (fun H locs w => ?_)
  obtain ⟨h_45, eh_45⟩ : ∃ z, z = upI h_30 (P + 7) 0 (fmz ((h_30.1 (P + 7) 0) + (nI 1)) (nI 8)) := ⟨_, rfl⟩
  rw [← eh_45] at w
  refine lv_aload_n hx hb dX3_openRequest_48 rfl (lv_at hl 0 rfl) ?_
  refine q_get X w (P + 7) 2 (ci := 3) (pp_lt hP (c := 7) (by decide)) (hE_p7 hP k _) rfl hi3 (by decide) (by decide +kernel) rfl dX3_openRequest_49 ?_
  exact hret _ _ _ _ _ _ _ _ dX3_openRequest_52 w rfl ⟨by simp only [eh_2, eh_10, eh_15, eh_20, eh_25, eh_30, eh_45, upI_set, setI_s, setI_setI]; rfl, by simp only [eh_2, eh_10, eh_15, eh_20, eh_25, eh_30, eh_45, upI_set, setI_s, setI_setI]; rfl⟩ (Nat.le_of_ble_eq_true rfl) (Nat.le_of_ble_eq_true rfl)

abbrev rc_X3_answerRequest : Room := { frames := 0, cells := 0, slots := 0, locals := 0 }
set_option maxHeartbeats 4000000 in
set_option maxRecDepth 100000 in
theorem c_X3_answerRequest (l : Launch) (k : kY) (h : hS) {P : Nat} (hP : pp P) (n : Int32) : CT l k yX3_answerRequest wsX3_answerRequest rc_X3_answerRequest [.ref (k.2.1 (P + 7)), .int n] h (QI k (fun r h' => r = agT (h.1 (P + 7)) n 11 ∧ h' = setI h (P + 7) (anT (h.1 (P + 7)) n))) 0 0 := by
  refine q_metI (cc := cX3_answerRequest) (maxL := 2) (ret := some .int) (ty := .int) (by decide) rfl rfl (Nat.le_of_ble_eq_true rfl) ?_
  intro p e s m args below meth c Q ls X w hl hret
  have hx := X.1
  have hb := X.2.1
  have hown := X.2.2.2.1
  have hts := X.2.2.2.2
  have hl : lv_has ls 2 [(0, .ref (k.2.1 (P + 7))), (1, .int n)] := hl
  have hi3 : ∀ w ∈ u_ws RX3 TX3 14, w ∈ wsX3_answerRequest := by decide +kernel
  refine lv_aload_n hx hb dX3_answerRequest_0 rfl (lv_at hl 0 rfl) ?_
  refine q_get X w (P + 7) 10 (ci := 3) (pp_lt hP (c := 7) (by decide)) (hE_p7 hP k _) rfl hi3 (by decide) (by decide +kernel) rfl dX3_answerRequest_1 ?_
  refine lv_aload_n hx hb dX3_answerRequest_4 rfl (lv_at hl 0 rfl) ?_
  refine q_get X w (P + 7) 2 (ci := 3) (pp_lt hP (c := 7) (by decide)) (hE_p7 hP k _) rfl hi3 (by decide) (by decide +kernel) rfl dX3_answerRequest_5 ?_
  refine lv_icmp_eq (tgt := 43) hx hb dX3_answerRequest_8 (by decide) (fun c_8 => ?_) (fun c_8 => ?_)
  · refine lv_aload_n hx hb dX3_answerRequest_43 rfl (lv_at hl 0 rfl) ?_
    refine lv_iconst (v := nI 1) hx hb dX3_answerRequest_44 (by decide) ?_
    refine q_put X w (P + 7) 7 .boolean (ci := 3) (pp_lt hP (c := 7) (by decide)) (hE_p7 hP k _) (by rw [hE_p7 hP k, upI_s]; rfl) rfl hi3 tyX3_ok nmX3 (by decide) (by decide +kernel) rfl (by decide +kernel) (by decide) (by decide) (Nat.le_of_ble_eq_true rfl) dX3_answerRequest_45 (fun H locs w => ?_)
    obtain ⟨h_45, eh_45⟩ : ∃ z, z = upI h (P + 7) 7 (nI 1) := ⟨_, rfl⟩
    rw [← eh_45] at w
    refine lv_aload_n hx hb dX3_answerRequest_48 rfl (lv_at hl 0 rfl) ?_
    refine lv_aload_n hx hb dX3_answerRequest_49 rfl (lv_at hl 0 rfl) ?_
    refine q_get X w (P + 7) 10 (ci := 3) (pp_lt hP (c := 7) (by decide)) (hE_p7 hP k _) rfl hi3 (by decide) (by decide +kernel) rfl dX3_answerRequest_50 ?_
    refine q_put X w (P + 7) 8 .int (ci := 3) (pp_lt hP (c := 7) (by decide)) (hE_p7 hP k _) (by rw [hE_p7 hP k, upI_s]; rfl) rfl hi3 tyX3_ok nmX3 (by decide) (by decide +kernel) rfl (by decide +kernel) (rfl) (rfl) (Nat.le_of_ble_eq_true rfl) dX3_answerRequest_53 (fun H locs w => ?_)
    obtain ⟨h_53, eh_53⟩ : ∃ z, z = upI h_45 (P + 7) 8 (h_45.1 (P + 7) 10) := ⟨_, rfl⟩
    rw [← eh_53] at w
    refine lv_aload_n hx hb dX3_answerRequest_56 rfl (lv_at hl 0 rfl) ?_
    refine lv_aload_n hx hb dX3_answerRequest_57 rfl (lv_at hl 0 rfl) ?_
    refine q_get X w (P + 7) 11 (ci := 3) (pp_lt hP (c := 7) (by decide)) (hE_p7 hP k _) rfl hi3 (by decide) (by decide +kernel) rfl dX3_answerRequest_58 ?_
    refine q_put X w (P + 7) 9 .int (ci := 3) (pp_lt hP (c := 7) (by decide)) (hE_p7 hP k _) (by rw [hE_p7 hP k, upI_s]; rfl) rfl hi3 tyX3_ok nmX3 (by decide) (by decide +kernel) rfl (by decide +kernel) (rfl) (rfl) (Nat.le_of_ble_eq_true rfl) dX3_answerRequest_61 (fun H locs w => ?_)
    obtain ⟨h_61, eh_61⟩ : ∃ z, z = upI h_53 (P + 7) 9 (h_53.1 (P + 7) 11) := ⟨_, rfl⟩
    rw [← eh_61] at w
    refine lv_aload_n hx hb dX3_answerRequest_64 rfl (lv_at hl 0 rfl) ?_
    refine q_get X w (P + 7) 9 (ci := 3) (pp_lt hP (c := 7) (by decide)) (hE_p7 hP k _) rfl hi3 (by decide) (by decide +kernel) rfl dX3_answerRequest_65 ?_
    exact hret _ _ _ _ _ _ _ _ dX3_answerRequest_68 w rfl ⟨by first | (rw [agT, if_pos c_8]; simp only [eh_45, eh_53, eh_61, upI_set, setI_s, setI_setI]; rfl) | (rw [agT, if_neg c_8]; simp only [eh_16, eh_24, eh_32, eh_40, eh_45, eh_53, eh_61, upI_set, setI_s, setI_setI]; rfl), by first | (rw [anT, agT, if_pos c_8]; simp only [eh_45, eh_53, eh_61, upI_set, setI_s, setI_setI]; rfl) | (rw [anT, agT, if_neg c_8]; simp only [eh_16, eh_24, eh_32, eh_40, eh_45, eh_53, eh_61, upI_set, setI_s, setI_setI]; rfl)⟩ (Nat.le_of_ble_eq_true rfl) (Nat.le_of_ble_eq_true rfl)
  · refine lv_aload_n hx hb dX3_answerRequest_11 rfl (lv_at hl 0 rfl) ?_
    refine lv_aload_n hx hb dX3_answerRequest_12 rfl (lv_at hl 0 rfl) ?_
    refine q_get X w (P + 7) 2 (ci := 3) (pp_lt hP (c := 7) (by decide)) (hE_p7 hP k _) rfl hi3 (by decide) (by decide +kernel) rfl dX3_answerRequest_13 ?_
    refine q_put X w (P + 7) 10 .int (ci := 3) (pp_lt hP (c := 7) (by decide)) (hE_p7 hP k _) (by rw [hE_p7 hP k, upI_s]; rfl) rfl hi3 tyX3_ok nmX3 (by decide) (by decide +kernel) rfl (by decide +kernel) (rfl) (rfl) (Nat.le_of_ble_eq_true rfl) dX3_answerRequest_16 (fun H locs w => ?_)
    obtain ⟨h_16, eh_16⟩ : ∃ z, z = upI h (P + 7) 10 (h.1 (P + 7) 2) := ⟨_, rfl⟩
    rw [← eh_16] at w
    refine lv_aload_n hx hb dX3_answerRequest_19 rfl (lv_at hl 0 rfl) ?_
    refine lv_iload_n hx hb dX3_answerRequest_20 rfl (lv_at hl 1 rfl) ?_
    refine lv_bipush (v := nI 8) hx hb dX3_answerRequest_21 (by decide) ?_
    refine lv_iadd hx hb dX3_answerRequest_23 ?_
    refine q_put X w (P + 7) 11 .int (ci := 3) (pp_lt hP (c := 7) (by decide)) (hE_p7 hP k _) (by rw [hE_p7 hP k, upI_s]; rfl) rfl hi3 tyX3_ok nmX3 (by decide) (by decide +kernel) rfl (by decide +kernel) (rfl) (rfl) (Nat.le_of_ble_eq_true rfl) dX3_answerRequest_24 (fun H locs w => ?_)
    obtain ⟨h_24, eh_24⟩ : ∃ z, z = upI h_16 (P + 7) 11 (n + (nI 8)) := ⟨_, rfl⟩
    rw [← eh_24] at w
    refine lv_aload_n hx hb dX3_answerRequest_27 rfl (lv_at hl 0 rfl) ?_
    refine lv_aload_n hx hb dX3_answerRequest_28 rfl (lv_at hl 0 rfl) ?_
    refine q_get X w (P + 7) 3 (ci := 3) (pp_lt hP (c := 7) (by decide)) (hE_p7 hP k _) rfl hi3 (by decide) (by decide +kernel) rfl dX3_answerRequest_29 ?_
    refine q_put X w (P + 7) 12 .int (ci := 3) (pp_lt hP (c := 7) (by decide)) (hE_p7 hP k _) (by rw [hE_p7 hP k, upI_s]; rfl) rfl hi3 tyX3_ok nmX3 (by decide) (by decide +kernel) rfl (by decide +kernel) (rfl) (rfl) (Nat.le_of_ble_eq_true rfl) dX3_answerRequest_32 (fun H locs w => ?_)
    obtain ⟨h_32, eh_32⟩ : ∃ z, z = upI h_24 (P + 7) 12 (h_24.1 (P + 7) 3) := ⟨_, rfl⟩
    rw [← eh_32] at w
    refine lv_aload_n hx hb dX3_answerRequest_35 rfl (lv_at hl 0 rfl) ?_
    refine lv_aload_n hx hb dX3_answerRequest_36 rfl (lv_at hl 0 rfl) ?_
    refine q_get X w (P + 7) 4 (ci := 3) (pp_lt hP (c := 7) (by decide)) (hE_p7 hP k _) rfl hi3 (by decide) (by decide +kernel) rfl dX3_answerRequest_37 ?_
    refine q_put X w (P + 7) 13 .int (ci := 3) (pp_lt hP (c := 7) (by decide)) (hE_p7 hP k _) (by rw [hE_p7 hP k, upI_s]; rfl) rfl hi3 tyX3_ok nmX3 (by decide) (by decide +kernel) rfl (by decide +kernel) (rfl) (rfl) (Nat.le_of_ble_eq_true rfl) dX3_answerRequest_40 (fun H locs w => ?_)
    obtain ⟨h_40, eh_40⟩ : ∃ z, z = upI h_32 (P + 7) 13 (h_32.1 (P + 7) 4) := ⟨_, rfl⟩
    rw [← eh_40] at w
    refine lv_aload_n hx hb dX3_answerRequest_43 rfl (lv_at hl 0 rfl) ?_
    refine lv_iconst (v := nI 1) hx hb dX3_answerRequest_44 (by decide) ?_
    refine q_put X w (P + 7) 7 .boolean (ci := 3) (pp_lt hP (c := 7) (by decide)) (hE_p7 hP k _) (by rw [hE_p7 hP k, upI_s]; rfl) rfl hi3 tyX3_ok nmX3 (by decide) (by decide +kernel) rfl (by decide +kernel) (by decide) (by decide) (Nat.le_of_ble_eq_true rfl) dX3_answerRequest_45 (fun H locs w => ?_)
    obtain ⟨h_45, eh_45⟩ : ∃ z, z = upI h_40 (P + 7) 7 (nI 1) := ⟨_, rfl⟩
    rw [← eh_45] at w
    refine lv_aload_n hx hb dX3_answerRequest_48 rfl (lv_at hl 0 rfl) ?_
    refine lv_aload_n hx hb dX3_answerRequest_49 rfl (lv_at hl 0 rfl) ?_
    refine q_get X w (P + 7) 10 (ci := 3) (pp_lt hP (c := 7) (by decide)) (hE_p7 hP k _) rfl hi3 (by decide) (by decide +kernel) rfl dX3_answerRequest_50 ?_
    refine q_put X w (P + 7) 8 .int (ci := 3) (pp_lt hP (c := 7) (by decide)) (hE_p7 hP k _) (by rw [hE_p7 hP k, upI_s]; rfl) rfl hi3 tyX3_ok nmX3 (by decide) (by decide +kernel) rfl (by decide +kernel) (rfl) (rfl) (Nat.le_of_ble_eq_true rfl) dX3_answerRequest_53 (fun H locs w => ?_)
    obtain ⟨h_53, eh_53⟩ : ∃ z, z = upI h_45 (P + 7) 8 (h_45.1 (P + 7) 10) := ⟨_, rfl⟩
    rw [← eh_53] at w
    refine lv_aload_n hx hb dX3_answerRequest_56 rfl (lv_at hl 0 rfl) ?_
    refine lv_aload_n hx hb dX3_answerRequest_57 rfl (lv_at hl 0 rfl) ?_
    refine q_get X w (P + 7) 11 (ci := 3) (pp_lt hP (c := 7) (by decide)) (hE_p7 hP k _) rfl hi3 (by decide) (by decide +kernel) rfl dX3_answerRequest_58 ?_
    refine q_put X w (P + 7) 9 .int (ci := 3) (pp_lt hP (c := 7) (by decide)) (hE_p7 hP k _) (by rw [hE_p7 hP k, upI_s]; rfl) rfl hi3 tyX3_ok nmX3 (by decide) (by decide +kernel) rfl (by decide +kernel) (rfl) (rfl) (Nat.le_of_ble_eq_true rfl) dX3_answerRequest_61 (fun H locs w => ?_)
    obtain ⟨h_61, eh_61⟩ : ∃ z, z = upI h_53 (P + 7) 9 (h_53.1 (P + 7) 11) := ⟨_, rfl⟩
    rw [← eh_61] at w
    refine lv_aload_n hx hb dX3_answerRequest_64 rfl (lv_at hl 0 rfl) ?_
    refine q_get X w (P + 7) 9 (ci := 3) (pp_lt hP (c := 7) (by decide)) (hE_p7 hP k _) rfl hi3 (by decide) (by decide +kernel) rfl dX3_answerRequest_65 ?_
    exact hret _ _ _ _ _ _ _ _ dX3_answerRequest_68 w rfl ⟨by first | (rw [agT, if_pos c_8]; simp only [eh_45, eh_53, eh_61, upI_set, setI_s, setI_setI]; rfl) | (rw [agT, if_neg c_8]; simp only [eh_16, eh_24, eh_32, eh_40, eh_45, eh_53, eh_61, upI_set, setI_s, setI_setI]; rfl), by first | (rw [anT, agT, if_pos c_8]; simp only [eh_45, eh_53, eh_61, upI_set, setI_s, setI_setI]; rfl) | (rw [anT, agT, if_neg c_8]; simp only [eh_16, eh_24, eh_32, eh_40, eh_45, eh_53, eh_61, upI_set, setI_s, setI_setI]; rfl)⟩ (Nat.le_of_ble_eq_true rfl) (Nat.le_of_ble_eq_true rfl)

abbrev rc_X3_noteAnswer : Room := { frames := 0, cells := 0, slots := 0, locals := 0 }
set_option maxHeartbeats 4000000 in
set_option maxRecDepth 100000 in
theorem c_X3_noteAnswer (l : Launch) (k : kY) (h : hS) {P : Nat} (hP : pp P) : CT l k yX3_noteAnswer wsX3_noteAnswer rc_X3_noteAnswer [.ref (k.2.1 (P + 7))] h (QI k (fun r h' => (r = if h.1 (P + 7) 1 = 0 ∨ ¬ h.1 (P + 7) 8 = h.1 (P + 7) 2 then -1 else h.1 (P + 7) 9) ∧ h' = if h.1 (P + 7) 1 = 0 ∨ ¬ h.1 (P + 7) 8 = h.1 (P + 7) 2 then h else upI h (P + 7) 5 (h.1 (P + 7) 9))) 0 0 := by
  refine q_metI (cc := cX3_noteAnswer) (maxL := 1) (ret := some .int) (ty := .int) (by decide) rfl rfl (Nat.le_of_ble_eq_true rfl) ?_
  intro p e s m args below meth c Q ls X w hl hret
  have hx := X.1
  have hb := X.2.1
  have hown := X.2.2.2.1
  have hts := X.2.2.2.2
  have hl : lv_has ls 1 [(0, .ref (k.2.1 (P + 7)))] := hl
  have hi3 : ∀ w ∈ u_ws RX3 TX3 14, w ∈ wsX3_noteAnswer := by decide +kernel
  refine lv_aload_n hx hb dX3_noteAnswer_0 rfl (lv_at hl 0 rfl) ?_
  refine q_get X w (P + 7) 1 (ci := 3) (pp_lt hP (c := 7) (by decide)) (hE_p7 hP k _) rfl hi3 (by decide) (by decide +kernel) rfl dX3_noteAnswer_1 ?_
  refine lv_if_eq (tgt := 18) hx hb dX3_noteAnswer_4 (by decide) (fun c_4 => ?_) (fun c_4 => ?_)
  · refine lv_iconst (v := (-1)) hx hb dX3_noteAnswer_18 (by decide) ?_
    exact hret _ _ _ _ _ _ _ _ dX3_noteAnswer_19 w rfl ⟨by first | (rw [if_pos (Or.inl c_4)]; done) | rw [if_pos (Or.inr c_15)], by first | (rw [if_pos (Or.inl c_4)]; done) | rw [if_pos (Or.inr c_15)]⟩ (Nat.le_of_ble_eq_true rfl) (Nat.le_of_ble_eq_true rfl)
  · refine lv_aload_n hx hb dX3_noteAnswer_7 rfl (lv_at hl 0 rfl) ?_
    refine q_get X w (P + 7) 8 (ci := 3) (pp_lt hP (c := 7) (by decide)) (hE_p7 hP k _) rfl hi3 (by decide) (by decide +kernel) rfl dX3_noteAnswer_8 ?_
    refine lv_aload_n hx hb dX3_noteAnswer_11 rfl (lv_at hl 0 rfl) ?_
    refine q_get X w (P + 7) 2 (ci := 3) (pp_lt hP (c := 7) (by decide)) (hE_p7 hP k _) rfl hi3 (by decide) (by decide +kernel) rfl dX3_noteAnswer_12 ?_
    refine lv_icmp_eq (tgt := 20) hx hb dX3_noteAnswer_15 (by decide) (fun c_15 => ?_) (fun c_15 => ?_)
    · refine lv_aload_n hx hb dX3_noteAnswer_20 rfl (lv_at hl 0 rfl) ?_
      refine lv_aload_n hx hb dX3_noteAnswer_21 rfl (lv_at hl 0 rfl) ?_
      refine q_get X w (P + 7) 9 (ci := 3) (pp_lt hP (c := 7) (by decide)) (hE_p7 hP k _) rfl hi3 (by decide) (by decide +kernel) rfl dX3_noteAnswer_22 ?_
      refine q_put X w (P + 7) 5 .int (ci := 3) (pp_lt hP (c := 7) (by decide)) (hE_p7 hP k _) (by rw [hE_p7 hP k, upI_s]; rfl) rfl hi3 tyX3_ok nmX3 (by decide) (by decide +kernel) rfl (by decide +kernel) (rfl) (rfl) (Nat.le_of_ble_eq_true rfl) dX3_noteAnswer_25 (fun H locs w => ?_)
      obtain ⟨h_25, eh_25⟩ : ∃ z, z = upI h (P + 7) 5 (h.1 (P + 7) 9) := ⟨_, rfl⟩
      rw [← eh_25] at w
      refine lv_aload_n hx hb dX3_noteAnswer_28 rfl (lv_at hl 0 rfl) ?_
      refine q_get X w (P + 7) 5 (ci := 3) (pp_lt hP (c := 7) (by decide)) (hE_p7 hP k _) rfl hi3 (by decide) (by decide +kernel) rfl dX3_noteAnswer_29 ?_
      exact hret _ _ _ _ _ _ _ _ dX3_noteAnswer_32 w rfl ⟨by rw [if_neg (fun q => q.elim c_4 (fun z => z c_15)), eh_25, upI_s]; rfl, by rw [if_neg (fun q => q.elim c_4 (fun z => z c_15))]; exact eh_25⟩ (Nat.le_of_ble_eq_true rfl) (Nat.le_of_ble_eq_true rfl)
    · refine lv_iconst (v := (-1)) hx hb dX3_noteAnswer_18 (by decide) ?_
      exact hret _ _ _ _ _ _ _ _ dX3_noteAnswer_19 w rfl ⟨by first | (rw [if_pos (Or.inl c_4)]; done) | rw [if_pos (Or.inr c_15)], by first | (rw [if_pos (Or.inl c_4)]; done) | rw [if_pos (Or.inr c_15)]⟩ (Nat.le_of_ble_eq_true rfl) (Nat.le_of_ble_eq_true rfl)

abbrev rc_X3_copyFrom : Room := { frames := 0, cells := 0, slots := 0, locals := 0 }
set_option maxHeartbeats 4000000 in
set_option maxRecDepth 100000 in
theorem c_X3_copyFrom (l : Launch) (k : kY) (h : hS) {P P2 : Nat} (hP : pp P) (hP2 : pp P2) (hne : P2 + 7 ≠ P + 7) (hf1 : bz (h.1 (P2 + 7) 1)) (hf6 : bz (h.1 (P2 + 7) 6)) (hf7 : bz (h.1 (P2 + 7) 7)) : CT l k yX3_copyFrom wsX3_copyFrom rc_X3_copyFrom [.ref (k.2.1 (P + 7)), .ref (k.2.1 (P2 + 7))] h (QV k (fun h' => h' = setI h (P + 7) (h.1 (P2 + 7)))) 0 0 := by
  refine q_metV (cc := cX3_copyFrom) (maxL := 2) (by decide) rfl (Nat.le_of_ble_eq_true rfl) ?_
  intro p e s m args below meth c Q ls X w hl hret
  have hx := X.1
  have hb := X.2.1
  have hown := X.2.2.2.1
  have hts := X.2.2.2.2
  have hl : lv_has ls 2 [(0, .ref (k.2.1 (P + 7))), (1, .ref (k.2.1 (P2 + 7)))] := hl
  have hi3 : ∀ w ∈ u_ws RX3 TX3 14, w ∈ wsX3_copyFrom := by decide +kernel
  refine lv_aload_n hx hb dX3_copyFrom_0 rfl (lv_at hl 0 rfl) ?_
  refine lv_aload_n hx hb dX3_copyFrom_1 rfl (lv_at hl 1 rfl) ?_
  refine q_get X w (P2 + 7) 0 (ci := 3) (pp_lt hP2 (c := 7) (by decide)) (hE_p7 hP2 k _) rfl hi3 (by decide) (by decide +kernel) rfl dX3_copyFrom_2 ?_
  refine q_put X w (P + 7) 0 .int (ci := 3) (pp_lt hP (c := 7) (by decide)) (hE_p7 hP k _) (by rw [hE_p7 hP k, upI_s]; rfl) rfl hi3 tyX3_ok nmX3 (by decide) (by decide +kernel) rfl (by decide +kernel) (rfl) (rfl) (Nat.le_of_ble_eq_true rfl) dX3_copyFrom_5 (fun H locs w => ?_)
  obtain ⟨h_5, eh_5⟩ : ∃ z, z = upI h (P + 7) 0 (h.1 (P2 + 7) 0) := ⟨_, rfl⟩
  rw [← eh_5] at w
  refine lv_aload_n hx hb dX3_copyFrom_8 rfl (lv_at hl 0 rfl) ?_
  refine lv_aload_n hx hb dX3_copyFrom_9 rfl (lv_at hl 1 rfl) ?_
  refine q_get X w (P2 + 7) 1 (ci := 3) (pp_lt hP2 (c := 7) (by decide)) (hE_p7 hP2 k _) rfl hi3 (by decide) (by decide +kernel) rfl dX3_copyFrom_10 ?_
  refine q_put X w (P + 7) 1 .boolean (ci := 3) (pp_lt hP (c := 7) (by decide)) (hE_p7 hP k _) (by rw [hE_p7 hP k, upI_s]; rfl) rfl hi3 tyX3_ok nmX3 (by decide) (by decide +kernel) rfl (by decide +kernel) (by have e9 : h_5.1 (P2 + 7) 1 = h.1 (P2 + 7) 1 := (by simp only [eh_5, upI_set, setI_o _ _ hne]); rw [e9]; exact hf1.n) (by have e9 : h_5.1 (P2 + 7) 1 = h.1 (P2 + 7) 1 := (by simp only [eh_5, upI_set, setI_o _ _ hne]); rw [e9]; exact hf1.f) (Nat.le_of_ble_eq_true rfl) dX3_copyFrom_13 (fun H locs w => ?_)
  obtain ⟨h_13, eh_13⟩ : ∃ z, z = upI h_5 (P + 7) 1 (h_5.1 (P2 + 7) 1) := ⟨_, rfl⟩
  rw [← eh_13] at w
  refine lv_aload_n hx hb dX3_copyFrom_16 rfl (lv_at hl 0 rfl) ?_
  refine lv_aload_n hx hb dX3_copyFrom_17 rfl (lv_at hl 1 rfl) ?_
  refine q_get X w (P2 + 7) 2 (ci := 3) (pp_lt hP2 (c := 7) (by decide)) (hE_p7 hP2 k _) rfl hi3 (by decide) (by decide +kernel) rfl dX3_copyFrom_18 ?_
  refine q_put X w (P + 7) 2 .int (ci := 3) (pp_lt hP (c := 7) (by decide)) (hE_p7 hP k _) (by rw [hE_p7 hP k, upI_s]; rfl) rfl hi3 tyX3_ok nmX3 (by decide) (by decide +kernel) rfl (by decide +kernel) (rfl) (rfl) (Nat.le_of_ble_eq_true rfl) dX3_copyFrom_21 (fun H locs w => ?_)
  obtain ⟨h_21, eh_21⟩ : ∃ z, z = upI h_13 (P + 7) 2 (h_13.1 (P2 + 7) 2) := ⟨_, rfl⟩
  rw [← eh_21] at w
  refine lv_aload_n hx hb dX3_copyFrom_24 rfl (lv_at hl 0 rfl) ?_
  refine lv_aload_n hx hb dX3_copyFrom_25 rfl (lv_at hl 1 rfl) ?_
  refine q_get X w (P2 + 7) 3 (ci := 3) (pp_lt hP2 (c := 7) (by decide)) (hE_p7 hP2 k _) rfl hi3 (by decide) (by decide +kernel) rfl dX3_copyFrom_26 ?_
  refine q_put X w (P + 7) 3 .int (ci := 3) (pp_lt hP (c := 7) (by decide)) (hE_p7 hP k _) (by rw [hE_p7 hP k, upI_s]; rfl) rfl hi3 tyX3_ok nmX3 (by decide) (by decide +kernel) rfl (by decide +kernel) (rfl) (rfl) (Nat.le_of_ble_eq_true rfl) dX3_copyFrom_29 (fun H locs w => ?_)
  obtain ⟨h_29, eh_29⟩ : ∃ z, z = upI h_21 (P + 7) 3 (h_21.1 (P2 + 7) 3) := ⟨_, rfl⟩
  rw [← eh_29] at w
  refine lv_aload_n hx hb dX3_copyFrom_32 rfl (lv_at hl 0 rfl) ?_
  refine lv_aload_n hx hb dX3_copyFrom_33 rfl (lv_at hl 1 rfl) ?_
  refine q_get X w (P2 + 7) 4 (ci := 3) (pp_lt hP2 (c := 7) (by decide)) (hE_p7 hP2 k _) rfl hi3 (by decide) (by decide +kernel) rfl dX3_copyFrom_34 ?_
  refine q_put X w (P + 7) 4 .int (ci := 3) (pp_lt hP (c := 7) (by decide)) (hE_p7 hP k _) (by rw [hE_p7 hP k, upI_s]; rfl) rfl hi3 tyX3_ok nmX3 (by decide) (by decide +kernel) rfl (by decide +kernel) (rfl) (rfl) (Nat.le_of_ble_eq_true rfl) dX3_copyFrom_37 (fun H locs w => ?_)
  obtain ⟨h_37, eh_37⟩ : ∃ z, z = upI h_29 (P + 7) 4 (h_29.1 (P2 + 7) 4) := ⟨_, rfl⟩
  rw [← eh_37] at w
  refine lv_aload_n hx hb dX3_copyFrom_40 rfl (lv_at hl 0 rfl) ?_
  refine lv_aload_n hx hb dX3_copyFrom_41 rfl (lv_at hl 1 rfl) ?_
  refine q_get X w (P2 + 7) 5 (ci := 3) (pp_lt hP2 (c := 7) (by decide)) (hE_p7 hP2 k _) rfl hi3 (by decide) (by decide +kernel) rfl dX3_copyFrom_42 ?_
  refine q_put X w (P + 7) 5 .int (ci := 3) (pp_lt hP (c := 7) (by decide)) (hE_p7 hP k _) (by rw [hE_p7 hP k, upI_s]; rfl) rfl hi3 tyX3_ok nmX3 (by decide) (by decide +kernel) rfl (by decide +kernel) (rfl) (rfl) (Nat.le_of_ble_eq_true rfl) dX3_copyFrom_45 (fun H locs w => ?_)
  obtain ⟨h_45, eh_45⟩ : ∃ z, z = upI h_37 (P + 7) 5 (h_37.1 (P2 + 7) 5) := ⟨_, rfl⟩
  rw [← eh_45] at w
  refine lv_aload_n hx hb dX3_copyFrom_48 rfl (lv_at hl 0 rfl) ?_
  refine lv_aload_n hx hb dX3_copyFrom_49 rfl (lv_at hl 1 rfl) ?_
  refine q_get X w (P2 + 7) 6 (ci := 3) (pp_lt hP2 (c := 7) (by decide)) (hE_p7 hP2 k _) rfl hi3 (by decide) (by decide +kernel) rfl dX3_copyFrom_50 ?_
  refine q_put X w (P + 7) 6 .boolean (ci := 3) (pp_lt hP (c := 7) (by decide)) (hE_p7 hP k _) (by rw [hE_p7 hP k, upI_s]; rfl) rfl hi3 tyX3_ok nmX3 (by decide) (by decide +kernel) rfl (by decide +kernel) (by have e9 : h_45.1 (P2 + 7) 6 = h.1 (P2 + 7) 6 := (by simp only [eh_5, eh_13, eh_21, eh_29, eh_37, eh_45, upI_set, setI_o _ _ hne]); rw [e9]; exact hf6.n) (by have e9 : h_45.1 (P2 + 7) 6 = h.1 (P2 + 7) 6 := (by simp only [eh_5, eh_13, eh_21, eh_29, eh_37, eh_45, upI_set, setI_o _ _ hne]); rw [e9]; exact hf6.f) (Nat.le_of_ble_eq_true rfl) dX3_copyFrom_53 (fun H locs w => ?_)
  obtain ⟨h_53, eh_53⟩ : ∃ z, z = upI h_45 (P + 7) 6 (h_45.1 (P2 + 7) 6) := ⟨_, rfl⟩
  rw [← eh_53] at w
  refine lv_aload_n hx hb dX3_copyFrom_56 rfl (lv_at hl 0 rfl) ?_
  refine lv_aload_n hx hb dX3_copyFrom_57 rfl (lv_at hl 1 rfl) ?_
  refine q_get X w (P2 + 7) 7 (ci := 3) (pp_lt hP2 (c := 7) (by decide)) (hE_p7 hP2 k _) rfl hi3 (by decide) (by decide +kernel) rfl dX3_copyFrom_58 ?_
  refine q_put X w (P + 7) 7 .boolean (ci := 3) (pp_lt hP (c := 7) (by decide)) (hE_p7 hP k _) (by rw [hE_p7 hP k, upI_s]; rfl) rfl hi3 tyX3_ok nmX3 (by decide) (by decide +kernel) rfl (by decide +kernel) (by have e9 : h_53.1 (P2 + 7) 7 = h.1 (P2 + 7) 7 := (by simp only [eh_5, eh_13, eh_21, eh_29, eh_37, eh_45, eh_53, upI_set, setI_o _ _ hne]); rw [e9]; exact hf7.n) (by have e9 : h_53.1 (P2 + 7) 7 = h.1 (P2 + 7) 7 := (by simp only [eh_5, eh_13, eh_21, eh_29, eh_37, eh_45, eh_53, upI_set, setI_o _ _ hne]); rw [e9]; exact hf7.f) (Nat.le_of_ble_eq_true rfl) dX3_copyFrom_61 (fun H locs w => ?_)
  obtain ⟨h_61, eh_61⟩ : ∃ z, z = upI h_53 (P + 7) 7 (h_53.1 (P2 + 7) 7) := ⟨_, rfl⟩
  rw [← eh_61] at w
  refine lv_aload_n hx hb dX3_copyFrom_64 rfl (lv_at hl 0 rfl) ?_
  refine lv_aload_n hx hb dX3_copyFrom_65 rfl (lv_at hl 1 rfl) ?_
  refine q_get X w (P2 + 7) 8 (ci := 3) (pp_lt hP2 (c := 7) (by decide)) (hE_p7 hP2 k _) rfl hi3 (by decide) (by decide +kernel) rfl dX3_copyFrom_66 ?_
  refine q_put X w (P + 7) 8 .int (ci := 3) (pp_lt hP (c := 7) (by decide)) (hE_p7 hP k _) (by rw [hE_p7 hP k, upI_s]; rfl) rfl hi3 tyX3_ok nmX3 (by decide) (by decide +kernel) rfl (by decide +kernel) (rfl) (rfl) (Nat.le_of_ble_eq_true rfl) dX3_copyFrom_69 (fun H locs w => ?_)
  obtain ⟨h_69, eh_69⟩ : ∃ z, z = upI h_61 (P + 7) 8 (h_61.1 (P2 + 7) 8) := ⟨_, rfl⟩
  rw [← eh_69] at w
  refine lv_aload_n hx hb dX3_copyFrom_72 rfl (lv_at hl 0 rfl) ?_
  refine lv_aload_n hx hb dX3_copyFrom_73 rfl (lv_at hl 1 rfl) ?_
  refine q_get X w (P2 + 7) 9 (ci := 3) (pp_lt hP2 (c := 7) (by decide)) (hE_p7 hP2 k _) rfl hi3 (by decide) (by decide +kernel) rfl dX3_copyFrom_74 ?_
  refine q_put X w (P + 7) 9 .int (ci := 3) (pp_lt hP (c := 7) (by decide)) (hE_p7 hP k _) (by rw [hE_p7 hP k, upI_s]; rfl) rfl hi3 tyX3_ok nmX3 (by decide) (by decide +kernel) rfl (by decide +kernel) (rfl) (rfl) (Nat.le_of_ble_eq_true rfl) dX3_copyFrom_77 (fun H locs w => ?_)
  obtain ⟨h_77, eh_77⟩ : ∃ z, z = upI h_69 (P + 7) 9 (h_69.1 (P2 + 7) 9) := ⟨_, rfl⟩
  rw [← eh_77] at w
  refine lv_aload_n hx hb dX3_copyFrom_80 rfl (lv_at hl 0 rfl) ?_
  refine lv_aload_n hx hb dX3_copyFrom_81 rfl (lv_at hl 1 rfl) ?_
  refine q_get X w (P2 + 7) 10 (ci := 3) (pp_lt hP2 (c := 7) (by decide)) (hE_p7 hP2 k _) rfl hi3 (by decide) (by decide +kernel) rfl dX3_copyFrom_82 ?_
  refine q_put X w (P + 7) 10 .int (ci := 3) (pp_lt hP (c := 7) (by decide)) (hE_p7 hP k _) (by rw [hE_p7 hP k, upI_s]; rfl) rfl hi3 tyX3_ok nmX3 (by decide) (by decide +kernel) rfl (by decide +kernel) (rfl) (rfl) (Nat.le_of_ble_eq_true rfl) dX3_copyFrom_85 (fun H locs w => ?_)
  obtain ⟨h_85, eh_85⟩ : ∃ z, z = upI h_77 (P + 7) 10 (h_77.1 (P2 + 7) 10) := ⟨_, rfl⟩
  rw [← eh_85] at w
  refine lv_aload_n hx hb dX3_copyFrom_88 rfl (lv_at hl 0 rfl) ?_
  refine lv_aload_n hx hb dX3_copyFrom_89 rfl (lv_at hl 1 rfl) ?_
  refine q_get X w (P2 + 7) 11 (ci := 3) (pp_lt hP2 (c := 7) (by decide)) (hE_p7 hP2 k _) rfl hi3 (by decide) (by decide +kernel) rfl dX3_copyFrom_90 ?_
  refine q_put X w (P + 7) 11 .int (ci := 3) (pp_lt hP (c := 7) (by decide)) (hE_p7 hP k _) (by rw [hE_p7 hP k, upI_s]; rfl) rfl hi3 tyX3_ok nmX3 (by decide) (by decide +kernel) rfl (by decide +kernel) (rfl) (rfl) (Nat.le_of_ble_eq_true rfl) dX3_copyFrom_93 (fun H locs w => ?_)
  obtain ⟨h_93, eh_93⟩ : ∃ z, z = upI h_85 (P + 7) 11 (h_85.1 (P2 + 7) 11) := ⟨_, rfl⟩
  rw [← eh_93] at w
  refine lv_aload_n hx hb dX3_copyFrom_96 rfl (lv_at hl 0 rfl) ?_
  refine lv_aload_n hx hb dX3_copyFrom_97 rfl (lv_at hl 1 rfl) ?_
  refine q_get X w (P2 + 7) 12 (ci := 3) (pp_lt hP2 (c := 7) (by decide)) (hE_p7 hP2 k _) rfl hi3 (by decide) (by decide +kernel) rfl dX3_copyFrom_98 ?_
  refine q_put X w (P + 7) 12 .int (ci := 3) (pp_lt hP (c := 7) (by decide)) (hE_p7 hP k _) (by rw [hE_p7 hP k, upI_s]; rfl) rfl hi3 tyX3_ok nmX3 (by decide) (by decide +kernel) rfl (by decide +kernel) (rfl) (rfl) (Nat.le_of_ble_eq_true rfl) dX3_copyFrom_101 (fun H locs w => ?_)
  obtain ⟨h_101, eh_101⟩ : ∃ z, z = upI h_93 (P + 7) 12 (h_93.1 (P2 + 7) 12) := ⟨_, rfl⟩
  rw [← eh_101] at w
  refine lv_aload_n hx hb dX3_copyFrom_104 rfl (lv_at hl 0 rfl) ?_
  refine lv_aload_n hx hb dX3_copyFrom_105 rfl (lv_at hl 1 rfl) ?_
  refine q_get X w (P2 + 7) 13 (ci := 3) (pp_lt hP2 (c := 7) (by decide)) (hE_p7 hP2 k _) rfl hi3 (by decide) (by decide +kernel) rfl dX3_copyFrom_106 ?_
  refine q_put X w (P + 7) 13 .int (ci := 3) (pp_lt hP (c := 7) (by decide)) (hE_p7 hP k _) (by rw [hE_p7 hP k, upI_s]; rfl) rfl hi3 tyX3_ok nmX3 (by decide) (by decide +kernel) rfl (by decide +kernel) (rfl) (rfl) (Nat.le_of_ble_eq_true rfl) dX3_copyFrom_109 (fun H locs w => ?_)
  obtain ⟨h_109, eh_109⟩ : ∃ z, z = upI h_101 (P + 7) 13 (h_101.1 (P2 + 7) 13) := ⟨_, rfl⟩
  rw [← eh_109] at w
  have e9 : h_109 = setI h (P + 7) (h_109.1 (P + 7)) := by simp only [eh_5, eh_13, eh_21, eh_29, eh_37, eh_45, eh_53, eh_61, eh_69, eh_77, eh_85, eh_93, eh_101, eh_109, upI_set, setI_s, setI_setI]
  have e8 : hE k (setI h_109 (P + 7) (h.1 (P2 + 7))) (P + 7) = hE k h_109 (P + 7) := by rw [hE_p7 hP, hE_p7 hP, setI_s]; simp only [eh_5, eh_13, eh_21, eh_29, eh_37, eh_45, eh_53, eh_61, eh_69, eh_77, eh_85, eh_93, eh_101, eh_109, upI_set, setI_s, setI_setI, setI_o _ _ hne]; rfl
  have w := w.nO (P + 7) (h.1 (P2 + 7)) e8
  rw [e9, setI_setI] at w
  exact hret _ _ _ _ _ _ _ dX3_copyFrom_112 w rfl (Nat.le_of_ble_eq_true rfl) (Nat.le_of_ble_eq_true rfl)
