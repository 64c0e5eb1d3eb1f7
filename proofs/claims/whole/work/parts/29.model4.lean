abbrev rc_X5_rate : Room := { frames := 2, cells := 0, slots := 0, locals := 45 }
set_option maxHeartbeats 4000000 in
set_option maxRecDepth 100000 in
theorem c_X5_rate (l : Launch) (k : kY) (h : hS) (x : Int32) : CT l k yX5_rate wsX5_rate rc_X5_rate [.ref (k.2.1 91), .int x] h (QI k (fun r h' => (∃ q : Nat, q < 2 ∧ x = nI q ∧ r = (sumL (fun t => h.2.1 92 (1 + 116 * q + (49 + t))) 16).toInt32 ∧ h' = upI h 91 3 (nI 0)) ∨ (¬ isP x ∧ r = nI 0 ∧ h' = upI h 91 3 (nI 1)))) 0 0 := by
  refine q_metI (cc := cX5_rate) (maxL := 2) (ret := some .int) (ty := .int) (by decide) rfl rfl (Nat.le_of_ble_eq_true rfl) ?_
  intro p e s m args below meth c Q ls X w hl hret
  have hx := X.1
  have hb := X.2.1
  have hown := X.2.2.2.1
  have hts := X.2.2.2.2
  have hl : lv_has ls 2 [(0, .ref (k.2.1 91)), (1, .int x)] := hl
  have hi5 : ∀ w ∈ u_ws RX5 TX5 6, w ∈ wsX5_rate := by decide +kernel
  refine lv_aload_n hx hb dX5_rate_0 rfl (lv_at hl 0 rfl) ?_
  refine lv_iload_n hx hb dX5_rate_1 rfl (lv_at hl 1 rfl) ?_
  refine q_calli w (q_runS X w (c_X5_isPair l k h x) (va_cwS 1 hts gX5_rate_X5_isPair rfl rfl rfl (by decide +kernel) ⟨Nat.le_of_ble_eq_true rfl, Nat.le_of_ble_eq_true rfl⟩) rfl hl.1 rfl (Nat.le_of_ble_eq_true rfl) dX5_rate_2 ⟨Nat.le_of_ble_eq_true rfl, Nat.le_of_ble_eq_true rfl⟩) (fun r_2 h_2 H locs hp w => ?_)
  obtain ⟨hp, eh_2⟩ := hp
  rw [eh_2] at w
  rcases hp with ⟨hd_2, er_2⟩ | ⟨hd_2, er_2⟩
  · subst er_2
    obtain ⟨q, hq, rfl⟩ := hd_2
    refine lv_if_eq (tgt := 12) hx hb dX5_rate_5 (by decide) (fun c_5 => ?_) (fun c_5 => ?_)
    · exact absurd c_5 (by decide)
    · refine lv_iconst (v := nI 0) hx hb dX5_rate_8 (by decide) ?_
      refine lv_goto (tgt := 13) hx hb dX5_rate_9 (by decide) ?_
      refine q_put X w 91 3 .int (ci := 5) (by decide) rfl rfl rfl hi5 tyX5_ok nmX5 (by decide) (by decide +kernel) rfl (by decide +kernel) (rfl) (rfl) (Nat.le_of_ble_eq_true rfl) dX5_rate_13 (fun H locs w => ?_)
      obtain ⟨h_13, eh_13⟩ : ∃ z9, z9 = upI h 91 3 (nI 0) := ⟨_, rfl⟩
      rw [← eh_13] at w
      have kT : h_13.1 91 3 = nI 0 := by rw [eh_13, upI_s]; rfl
      refine lv_aload_n hx hb dX5_rate_16 rfl (lv_at hl 0 rfl) ?_
      refine q_get X w 91 3 (ci := 5) (by decide) rfl rfl hi5 (by decide) (by decide +kernel) rfl dX5_rate_17 ?_
      rw [kT]
      refine lv_if_le (tgt := 27) hx hb dX5_rate_20 (by decide) (fun c_20 => ?_) (fun c_20 => ?_)
      · refine lv_aload_n hx hb dX5_rate_27 rfl (lv_at hl 0 rfl) ?_
        refine lv_iload_n hx hb dX5_rate_28 rfl (lv_at hl 1 rfl) ?_
        refine q_calli w (q_runV X w 91 (c_X5_rateOf l k h_13 (q := q) (by omega)) (cwV 1 hts gX5_rate_X5_rateOf rfl rfl rfl (by decide +kernel) ⟨Nat.le_of_ble_eq_true rfl, Nat.le_of_ble_eq_true rfl⟩) (by decide) rfl rfl rfl hl.1 rfl (Nat.le_of_ble_eq_true rfl) dX5_rate_29 ⟨Nat.le_of_ble_eq_true rfl, Nat.le_of_ble_eq_true rfl⟩) (fun r_29 h_29 H locs hp w => ?_)
        obtain ⟨er_29, eh_29⟩ := hp
        rw [eh_29] at w
        have er_29 : r_29 = (sumL (fun t => h_13.2.1 92 (1 + 116 * q + (49 + t))) 16).toInt32 := er_29
        subst er_29
        exact hret _ _ _ _ _ _ _ _ dX5_rate_32 w rfl (Or.inl ⟨q, hq, rfl, (by subst eh_13; rfl), eh_13⟩) (Nat.le_of_ble_eq_true rfl) (Nat.le_of_ble_eq_true rfl)
      · exact absurd (by decide) c_20
  · subst er_2
    refine lv_if_eq (tgt := 12) hx hb dX5_rate_5 (by decide) (fun c_5 => ?_) (fun c_5 => ?_)
    · refine lv_iconst (v := nI 1) hx hb dX5_rate_12 (by decide) ?_
      refine q_put X w 91 3 .int (ci := 5) (by decide) rfl rfl rfl hi5 tyX5_ok nmX5 (by decide) (by decide +kernel) rfl (by decide +kernel) (rfl) (rfl) (Nat.le_of_ble_eq_true rfl) dX5_rate_13 (fun H locs w => ?_)
      obtain ⟨h_13, eh_13⟩ : ∃ z9, z9 = upI h 91 3 (nI 1) := ⟨_, rfl⟩
      rw [← eh_13] at w
      have kT : h_13.1 91 3 = nI 1 := by rw [eh_13, upI_s]; rfl
      refine lv_aload_n hx hb dX5_rate_16 rfl (lv_at hl 0 rfl) ?_
      refine q_get X w 91 3 (ci := 5) (by decide) rfl rfl hi5 (by decide) (by decide +kernel) rfl dX5_rate_17 ?_
      rw [kT]
      refine lv_if_le (tgt := 27) hx hb dX5_rate_20 (by decide) (fun c_20 => ?_) (fun c_20 => ?_)
      · exact absurd c_20 (by decide)
      · refine lv_iconst (v := nI 0) hx hb dX5_rate_23 (by decide) ?_
        refine lv_goto (tgt := 32) hx hb dX5_rate_24 (by decide) ?_
        exact hret _ _ _ _ _ _ _ _ dX5_rate_32 w rfl (Or.inr ⟨hd_2, rfl, eh_13⟩) (Nat.le_of_ble_eq_true rfl) (Nat.le_of_ble_eq_true rfl)
    · exact absurd (by decide) c_5

abbrev rc_X5_totalEnergy : Room := { frames := 2, cells := 0, slots := 0, locals := 45 }
set_option maxHeartbeats 4000000 in
set_option maxRecDepth 100000 in
theorem c_X5_totalEnergy (l : Launch) (k : kY) (h : hS) (x : Int32) : CT l k yX5_totalEnergy wsX5_totalEnergy rc_X5_totalEnergy [.ref (k.2.1 91), .int x] h (QL k (fun r h' => (∃ q : Nat, q < 2 ∧ x = nI q ∧ r = sumL (fun t => h.2.1 92 (1 + 116 * q + (81 + t))) 16 ∧ h' = upI h 91 3 (nI 0)) ∨ (¬ isP x ∧ r = 0 ∧ h' = upI h 91 3 (nI 1)))) 0 0 := by
  refine q_metL (cc := cX5_totalEnergy) (maxL := 2) (by decide) rfl (Nat.le_of_ble_eq_true rfl) ?_
  intro p e s m args below meth c Q ls X w hl hret
  have hx := X.1
  have hb := X.2.1
  have hown := X.2.2.2.1
  have hts := X.2.2.2.2
  have hl : lv_has ls 2 [(0, .ref (k.2.1 91)), (1, .int x)] := hl
  have hi5 : ∀ w ∈ u_ws RX5 TX5 6, w ∈ wsX5_totalEnergy := by decide +kernel
  refine lv_aload_n hx hb dX5_totalEnergy_0 rfl (lv_at hl 0 rfl) ?_
  refine lv_iload_n hx hb dX5_totalEnergy_1 rfl (lv_at hl 1 rfl) ?_
  refine q_calli w (q_runS X w (c_X5_isPair l k h x) (va_cwS 1 hts gX5_totalEnergy_X5_isPair rfl rfl rfl (by decide +kernel) ⟨Nat.le_of_ble_eq_true rfl, Nat.le_of_ble_eq_true rfl⟩) rfl hl.1 rfl (Nat.le_of_ble_eq_true rfl) dX5_totalEnergy_2 ⟨Nat.le_of_ble_eq_true rfl, Nat.le_of_ble_eq_true rfl⟩) (fun r_2 h_2 H locs hp w => ?_)
  obtain ⟨hp, eh_2⟩ := hp
  rw [eh_2] at w
  rcases hp with ⟨hd_2, er_2⟩ | ⟨hd_2, er_2⟩
  · subst er_2
    obtain ⟨q, hq, rfl⟩ := hd_2
    refine lv_if_eq (tgt := 12) hx hb dX5_totalEnergy_5 (by decide) (fun c_5 => ?_) (fun c_5 => ?_)
    · exact absurd c_5 (by decide)
    · refine lv_iconst (v := nI 0) hx hb dX5_totalEnergy_8 (by decide) ?_
      refine lv_goto (tgt := 13) hx hb dX5_totalEnergy_9 (by decide) ?_
      refine q_put X w 91 3 .int (ci := 5) (by decide) rfl rfl rfl hi5 tyX5_ok nmX5 (by decide) (by decide +kernel) rfl (by decide +kernel) (rfl) (rfl) (Nat.le_of_ble_eq_true rfl) dX5_totalEnergy_13 (fun H locs w => ?_)
      obtain ⟨h_13, eh_13⟩ : ∃ z9, z9 = upI h 91 3 (nI 0) := ⟨_, rfl⟩
      rw [← eh_13] at w
      have kT : h_13.1 91 3 = nI 0 := by rw [eh_13, upI_s]; rfl
      refine lv_aload_n hx hb dX5_totalEnergy_16 rfl (lv_at hl 0 rfl) ?_
      refine q_get X w 91 3 (ci := 5) (by decide) rfl rfl hi5 (by decide) (by decide +kernel) rfl dX5_totalEnergy_17 ?_
      rw [kT]
      refine lv_if_le (tgt := 27) hx hb dX5_totalEnergy_20 (by decide) (fun c_20 => ?_) (fun c_20 => ?_)
      · refine lv_aload_n hx hb dX5_totalEnergy_27 rfl (lv_at hl 0 rfl) ?_
        refine lv_iload_n hx hb dX5_totalEnergy_28 rfl (lv_at hl 1 rfl) ?_
        refine q_calll w (q_runV X w 91 (c_X5_energyOf l k h_13 (q := q) (by omega)) (cwV 1 hts gX5_totalEnergy_X5_energyOf rfl rfl rfl (by decide +kernel) ⟨Nat.le_of_ble_eq_true rfl, Nat.le_of_ble_eq_true rfl⟩) (by decide) rfl rfl rfl hl.1 rfl (Nat.le_of_ble_eq_true rfl) dX5_totalEnergy_29 ⟨Nat.le_of_ble_eq_true rfl, Nat.le_of_ble_eq_true rfl⟩) (fun r_29 h_29 H locs hp w => ?_)
        obtain ⟨er_29, eh_29⟩ := hp
        rw [eh_29] at w
        have er_29 : r_29 = (sumL (fun t => h_13.2.1 92 (1 + 116 * q + (81 + t))) 16) := er_29
        subst er_29
        exact hret _ _ _ _ _ _ _ _ dX5_totalEnergy_32 w (Or.inl ⟨q, hq, rfl, (by subst eh_13; rfl), eh_13⟩) (Nat.le_of_ble_eq_true rfl) (Nat.le_of_ble_eq_true rfl)
      · exact absurd (by decide) c_20
  · subst er_2
    refine lv_if_eq (tgt := 12) hx hb dX5_totalEnergy_5 (by decide) (fun c_5 => ?_) (fun c_5 => ?_)
    · refine lv_iconst (v := nI 1) hx hb dX5_totalEnergy_12 (by decide) ?_
      refine q_put X w 91 3 .int (ci := 5) (by decide) rfl rfl rfl hi5 tyX5_ok nmX5 (by decide) (by decide +kernel) rfl (by decide +kernel) (rfl) (rfl) (Nat.le_of_ble_eq_true rfl) dX5_totalEnergy_13 (fun H locs w => ?_)
      obtain ⟨h_13, eh_13⟩ : ∃ z9, z9 = upI h 91 3 (nI 1) := ⟨_, rfl⟩
      rw [← eh_13] at w
      have kT : h_13.1 91 3 = nI 1 := by rw [eh_13, upI_s]; rfl
      refine lv_aload_n hx hb dX5_totalEnergy_16 rfl (lv_at hl 0 rfl) ?_
      refine q_get X w 91 3 (ci := 5) (by decide) rfl rfl hi5 (by decide) (by decide +kernel) rfl dX5_totalEnergy_17 ?_
      rw [kT]
      refine lv_if_le (tgt := 27) hx hb dX5_totalEnergy_20 (by decide) (fun c_20 => ?_) (fun c_20 => ?_)
      · exact absurd c_20 (by decide)
      · refine lv_lconst (v := 0) hx hb dX5_totalEnergy_23 (by decide) ?_
        refine lv_goto (tgt := 32) hx hb dX5_totalEnergy_24 (by decide) ?_
        exact hret _ _ _ _ _ _ _ _ dX5_totalEnergy_32 w (Or.inr ⟨hd_2, rfl, eh_13⟩) (Nat.le_of_ble_eq_true rfl) (Nat.le_of_ble_eq_true rfl)
    · exact absurd (by decide) c_5

abbrev rc_X5_isEfficient : Room := { frames := 6, cells := 0, slots := 0, locals := 134 }
set_option maxHeartbeats 4000000 in
set_option maxRecDepth 100000 in
theorem c_X5_isEfficient (l : Launch) (k : kY) (h : hS) (x : Int32) : CT l k yX5_isEfficient wsX5_isEfficient rc_X5_isEfficient [.ref (k.2.1 91), .int x] h (QI k (fun r h' => (∃ q : Nat, q < 2 ∧ x = nI q ∧ r = bI (mef (h.2.1 92) q) ∧ h' = upI h 91 3 (nI 0)) ∨ (¬ isP x ∧ r = nI 0 ∧ h' = upI h 91 3 (nI 1)))) 0 0 := by
  refine q_metI (cc := cX5_isEfficient) (maxL := 2) (ret := some .boolean) (ty := .boolean) (by decide) rfl rfl (Nat.le_of_ble_eq_true rfl) ?_
  intro p e s m args below meth c Q ls X w hl hret
  have hx := X.1
  have hb := X.2.1
  have hown := X.2.2.2.1
  have hts := X.2.2.2.2
  have hl : lv_has ls 2 [(0, .ref (k.2.1 91)), (1, .int x)] := hl
  have hi5 : ∀ w ∈ u_ws RX5 TX5 6, w ∈ wsX5_isEfficient := by decide +kernel
  refine lv_aload_n hx hb dX5_isEfficient_0 rfl (lv_at hl 0 rfl) ?_
  refine lv_iload_n hx hb dX5_isEfficient_1 rfl (lv_at hl 1 rfl) ?_
  refine q_calli w (q_runS X w (c_X5_isPair l k h x) (va_cwS 1 hts gX5_isEfficient_X5_isPair rfl rfl rfl (by decide +kernel) ⟨Nat.le_of_ble_eq_true rfl, Nat.le_of_ble_eq_true rfl⟩) rfl hl.1 rfl (Nat.le_of_ble_eq_true rfl) dX5_isEfficient_2 ⟨Nat.le_of_ble_eq_true rfl, Nat.le_of_ble_eq_true rfl⟩) (fun r_2 h_2 H locs hp w => ?_)
  obtain ⟨hp, eh_2⟩ := hp
  rw [eh_2] at w
  rcases hp with ⟨hd_2, er_2⟩ | ⟨hd_2, er_2⟩
  · subst er_2
    obtain ⟨q, hq, rfl⟩ := hd_2
    refine lv_if_eq (tgt := 12) hx hb dX5_isEfficient_5 (by decide) (fun c_5 => ?_) (fun c_5 => ?_)
    · exact absurd c_5 (by decide)
    · refine lv_iconst (v := nI 0) hx hb dX5_isEfficient_8 (by decide) ?_
      refine lv_goto (tgt := 13) hx hb dX5_isEfficient_9 (by decide) ?_
      refine q_put X w 91 3 .int (ci := 5) (by decide) rfl rfl rfl hi5 tyX5_ok nmX5 (by decide) (by decide +kernel) rfl (by decide +kernel) (rfl) (rfl) (Nat.le_of_ble_eq_true rfl) dX5_isEfficient_13 (fun H locs w => ?_)
      obtain ⟨h_13, eh_13⟩ : ∃ z9, z9 = upI h 91 3 (nI 0) := ⟨_, rfl⟩
      rw [← eh_13] at w
      have kT : h_13.1 91 3 = nI 0 := by rw [eh_13, upI_s]; rfl
      refine lv_aload_n hx hb dX5_isEfficient_16 rfl (lv_at hl 0 rfl) ?_
      refine q_get X w 91 3 (ci := 5) (by decide) rfl rfl hi5 (by decide) (by decide +kernel) rfl dX5_isEfficient_17 ?_
      rw [kT]
      refine lv_if_ne (tgt := 35) hx hb dX5_isEfficient_20 (by decide) (fun c_20 => ?_) (fun c_20 => ?_)
      · exact absurd (by decide) c_20
      · refine lv_aload_n hx hb dX5_isEfficient_23 rfl (lv_at hl 0 rfl) ?_
        refine lv_iload_n hx hb dX5_isEfficient_24 rfl (lv_at hl 1 rfl) ?_
        refine q_calli w (q_runV X w 91 (c_X5_efficient l k h_13 (q := q) (by omega)) (cwV 1 hts gX5_isEfficient_X5_efficient rfl rfl rfl (by decide +kernel) ⟨Nat.le_of_ble_eq_true rfl, Nat.le_of_ble_eq_true rfl⟩) (by decide) rfl rfl rfl hl.1 rfl (Nat.le_of_ble_eq_true rfl) dX5_isEfficient_25 ⟨Nat.le_of_ble_eq_true rfl, Nat.le_of_ble_eq_true rfl⟩) (fun r_25 h_25 H locs hp w => ?_)
        obtain ⟨er_25, eh_25⟩ := hp
        rw [eh_25] at w
        have er_25 : r_25 = bI (mef (h_13.2.1 92) q) := er_25
        rcases hf_25 : mef (h_13.2.1 92) q with _ | _
        · rw [hf_25] at er_25
          have er_25 : r_25 = nI 0 := er_25
          subst er_25
          refine lv_if_eq (tgt := 35) hx hb dX5_isEfficient_28 (by decide) (fun c_28 => ?_) (fun c_28 => ?_)
          · refine lv_iconst (v := nI 0) hx hb dX5_isEfficient_35 (by decide) ?_
            exact hret _ _ _ _ _ _ _ _ dX5_isEfficient_36 w (by decide) (Or.inl ⟨q, hq, rfl, (by rw [show mef (h.2.1 92) q = false from (by subst eh_13; exact hf_25)]; rfl), eh_13⟩) (Nat.le_of_ble_eq_true rfl) (Nat.le_of_ble_eq_true rfl)
          · exact absurd (by decide) c_28
        · rw [hf_25] at er_25
          have er_25 : r_25 = nI 1 := er_25
          subst er_25
          refine lv_if_eq (tgt := 35) hx hb dX5_isEfficient_28 (by decide) (fun c_28 => ?_) (fun c_28 => ?_)
          · exact absurd c_28 (by decide)
          · refine lv_iconst (v := nI 1) hx hb dX5_isEfficient_31 (by decide) ?_
            refine lv_goto (tgt := 36) hx hb dX5_isEfficient_32 (by decide) ?_
            exact hret _ _ _ _ _ _ _ _ dX5_isEfficient_36 w (by decide) (Or.inl ⟨q, hq, rfl, (by rw [show mef (h.2.1 92) q = true from (by subst eh_13; exact hf_25)]; rfl), eh_13⟩) (Nat.le_of_ble_eq_true rfl) (Nat.le_of_ble_eq_true rfl)
  · subst er_2
    refine lv_if_eq (tgt := 12) hx hb dX5_isEfficient_5 (by decide) (fun c_5 => ?_) (fun c_5 => ?_)
    · refine lv_iconst (v := nI 1) hx hb dX5_isEfficient_12 (by decide) ?_
      refine q_put X w 91 3 .int (ci := 5) (by decide) rfl rfl rfl hi5 tyX5_ok nmX5 (by decide) (by decide +kernel) rfl (by decide +kernel) (rfl) (rfl) (Nat.le_of_ble_eq_true rfl) dX5_isEfficient_13 (fun H locs w => ?_)
      obtain ⟨h_13, eh_13⟩ : ∃ z9, z9 = upI h 91 3 (nI 1) := ⟨_, rfl⟩
      rw [← eh_13] at w
      have kT : h_13.1 91 3 = nI 1 := by rw [eh_13, upI_s]; rfl
      refine lv_aload_n hx hb dX5_isEfficient_16 rfl (lv_at hl 0 rfl) ?_
      refine q_get X w 91 3 (ci := 5) (by decide) rfl rfl hi5 (by decide) (by decide +kernel) rfl dX5_isEfficient_17 ?_
      rw [kT]
      refine lv_if_ne (tgt := 35) hx hb dX5_isEfficient_20 (by decide) (fun c_20 => ?_) (fun c_20 => ?_)
      · refine lv_iconst (v := nI 0) hx hb dX5_isEfficient_35 (by decide) ?_
        exact hret _ _ _ _ _ _ _ _ dX5_isEfficient_36 w (by decide) (Or.inr ⟨hd_2, rfl, eh_13⟩) (Nat.le_of_ble_eq_true rfl) (Nat.le_of_ble_eq_true rfl)
      · exact absurd c_20 (by decide)
    · exact absurd (by decide) c_5

abbrev rc_X5_inStep : Room := { frames := 2, cells := 0, slots := 0, locals := 45 }
set_option maxHeartbeats 4000000 in
set_option maxRecDepth 100000 in
theorem c_X5_inStep (l : Launch) (k : kY) (h : hS) (x : Int32) : CT l k yX5_inStep wsX5_inStep rc_X5_inStep [.ref (k.2.1 91), .int x] h (QI k (fun r h' => (∃ q : Nat, q < 2 ∧ x = nI q ∧ r = bI (mis (h.2.1 92) q 16) ∧ h' = upI h 91 3 (nI 0)) ∨ (¬ isP x ∧ r = nI 0 ∧ h' = upI h 91 3 (nI 1)))) 0 0 := by
  refine q_metI (cc := cX5_inStep) (maxL := 2) (ret := some .boolean) (ty := .boolean) (by decide) rfl rfl (Nat.le_of_ble_eq_true rfl) ?_
  intro p e s m args below meth c Q ls X w hl hret
  have hx := X.1
  have hb := X.2.1
  have hown := X.2.2.2.1
  have hts := X.2.2.2.2
  have hl : lv_has ls 2 [(0, .ref (k.2.1 91)), (1, .int x)] := hl
  have hi5 : ∀ w ∈ u_ws RX5 TX5 6, w ∈ wsX5_inStep := by decide +kernel
  refine lv_aload_n hx hb dX5_inStep_0 rfl (lv_at hl 0 rfl) ?_
  refine lv_iload_n hx hb dX5_inStep_1 rfl (lv_at hl 1 rfl) ?_
  refine q_calli w (q_runS X w (c_X5_isPair l k h x) (va_cwS 1 hts gX5_inStep_X5_isPair rfl rfl rfl (by decide +kernel) ⟨Nat.le_of_ble_eq_true rfl, Nat.le_of_ble_eq_true rfl⟩) rfl hl.1 rfl (Nat.le_of_ble_eq_true rfl) dX5_inStep_2 ⟨Nat.le_of_ble_eq_true rfl, Nat.le_of_ble_eq_true rfl⟩) (fun r_2 h_2 H locs hp w => ?_)
  obtain ⟨hp, eh_2⟩ := hp
  rw [eh_2] at w
  rcases hp with ⟨hd_2, er_2⟩ | ⟨hd_2, er_2⟩
  · subst er_2
    obtain ⟨q, hq, rfl⟩ := hd_2
    refine lv_if_eq (tgt := 12) hx hb dX5_inStep_5 (by decide) (fun c_5 => ?_) (fun c_5 => ?_)
    · exact absurd c_5 (by decide)
    · refine lv_iconst (v := nI 0) hx hb dX5_inStep_8 (by decide) ?_
      refine lv_goto (tgt := 13) hx hb dX5_inStep_9 (by decide) ?_
      refine q_put X w 91 3 .int (ci := 5) (by decide) rfl rfl rfl hi5 tyX5_ok nmX5 (by decide) (by decide +kernel) rfl (by decide +kernel) (rfl) (rfl) (Nat.le_of_ble_eq_true rfl) dX5_inStep_13 (fun H locs w => ?_)
      obtain ⟨h_13, eh_13⟩ : ∃ z9, z9 = upI h 91 3 (nI 0) := ⟨_, rfl⟩
      rw [← eh_13] at w
      have kT : h_13.1 91 3 = nI 0 := by rw [eh_13, upI_s]; rfl
      refine lv_aload_n hx hb dX5_inStep_16 rfl (lv_at hl 0 rfl) ?_
      refine q_get X w 91 3 (ci := 5) (by decide) rfl rfl hi5 (by decide) (by decide +kernel) rfl dX5_inStep_17 ?_
      rw [kT]
      refine lv_if_ne (tgt := 35) hx hb dX5_inStep_20 (by decide) (fun c_20 => ?_) (fun c_20 => ?_)
      · exact absurd (by decide) c_20
      · refine lv_aload_n hx hb dX5_inStep_23 rfl (lv_at hl 0 rfl) ?_
        refine lv_iload_n hx hb dX5_inStep_24 rfl (lv_at hl 1 rfl) ?_
        refine q_calli w (q_runV X w 91 (c_X5_inStepNow l k h_13 (q := q) (by omega)) (cwV 1 hts gX5_inStep_X5_inStepNow rfl rfl rfl (by decide +kernel) ⟨Nat.le_of_ble_eq_true rfl, Nat.le_of_ble_eq_true rfl⟩) (by decide) rfl rfl rfl hl.1 rfl (Nat.le_of_ble_eq_true rfl) dX5_inStep_25 ⟨Nat.le_of_ble_eq_true rfl, Nat.le_of_ble_eq_true rfl⟩) (fun r_25 h_25 H locs hp w => ?_)
        obtain ⟨er_25, eh_25⟩ := hp
        rw [eh_25] at w
        have er_25 : r_25 = bI (mis (h_13.2.1 92) q 16) := er_25
        rcases hf_25 : mis (h_13.2.1 92) q 16 with _ | _
        · rw [hf_25] at er_25
          have er_25 : r_25 = nI 0 := er_25
          subst er_25
          refine lv_if_eq (tgt := 35) hx hb dX5_inStep_28 (by decide) (fun c_28 => ?_) (fun c_28 => ?_)
          · refine lv_iconst (v := nI 0) hx hb dX5_inStep_35 (by decide) ?_
            exact hret _ _ _ _ _ _ _ _ dX5_inStep_36 w (by decide) (Or.inl ⟨q, hq, rfl, (by rw [show mis (h.2.1 92) q 16 = false from (by subst eh_13; exact hf_25)]; rfl), eh_13⟩) (Nat.le_of_ble_eq_true rfl) (Nat.le_of_ble_eq_true rfl)
          · exact absurd (by decide) c_28
        · rw [hf_25] at er_25
          have er_25 : r_25 = nI 1 := er_25
          subst er_25
          refine lv_if_eq (tgt := 35) hx hb dX5_inStep_28 (by decide) (fun c_28 => ?_) (fun c_28 => ?_)
          · exact absurd c_28 (by decide)
          · refine lv_iconst (v := nI 1) hx hb dX5_inStep_31 (by decide) ?_
            refine lv_goto (tgt := 36) hx hb dX5_inStep_32 (by decide) ?_
            exact hret _ _ _ _ _ _ _ _ dX5_inStep_36 w (by decide) (Or.inl ⟨q, hq, rfl, (by rw [show mis (h.2.1 92) q 16 = true from (by subst eh_13; exact hf_25)]; rfl), eh_13⟩) (Nat.le_of_ble_eq_true rfl) (Nat.le_of_ble_eq_true rfl)
  · subst er_2
    refine lv_if_eq (tgt := 12) hx hb dX5_inStep_5 (by decide) (fun c_5 => ?_) (fun c_5 => ?_)
    · refine lv_iconst (v := nI 1) hx hb dX5_inStep_12 (by decide) ?_
      refine q_put X w 91 3 .int (ci := 5) (by decide) rfl rfl rfl hi5 tyX5_ok nmX5 (by decide) (by decide +kernel) rfl (by decide +kernel) (rfl) (rfl) (Nat.le_of_ble_eq_true rfl) dX5_inStep_13 (fun H locs w => ?_)
      obtain ⟨h_13, eh_13⟩ : ∃ z9, z9 = upI h 91 3 (nI 1) := ⟨_, rfl⟩
      rw [← eh_13] at w
      have kT : h_13.1 91 3 = nI 1 := by rw [eh_13, upI_s]; rfl
      refine lv_aload_n hx hb dX5_inStep_16 rfl (lv_at hl 0 rfl) ?_
      refine q_get X w 91 3 (ci := 5) (by decide) rfl rfl hi5 (by decide) (by decide +kernel) rfl dX5_inStep_17 ?_
      rw [kT]
      refine lv_if_ne (tgt := 35) hx hb dX5_inStep_20 (by decide) (fun c_20 => ?_) (fun c_20 => ?_)
      · refine lv_iconst (v := nI 0) hx hb dX5_inStep_35 (by decide) ?_
        exact hret _ _ _ _ _ _ _ _ dX5_inStep_36 w (by decide) (Or.inr ⟨hd_2, rfl, eh_13⟩) (Nat.le_of_ble_eq_true rfl) (Nat.le_of_ble_eq_true rfl)
      · exact absurd c_20 (by decide)
    · exact absurd (by decide) c_5

abbrev rc_X5_brokenFrames : Room := { frames := 2, cells := 0, slots := 0, locals := 45 }
set_option maxHeartbeats 4000000 in
set_option maxRecDepth 100000 in
theorem c_X5_brokenFrames (l : Launch) (k : kY) (h : hS) (x : Int32) : CT l k yX5_brokenFrames wsX5_brokenFrames rc_X5_brokenFrames [.ref (k.2.1 91), .int x] h (QI k (fun r h' => (∃ q : Nat, q < 2 ∧ x = nI q ∧ r = (h.2.1 92 (1 + 116 * q + 115)).toInt32 ∧ h' = upI h 91 3 (nI 0)) ∨ (¬ isP x ∧ r = nI 0 ∧ h' = upI h 91 3 (nI 1)))) 0 0 := by
  refine q_metI (cc := cX5_brokenFrames) (maxL := 2) (ret := some .int) (ty := .int) (by decide) rfl rfl (Nat.le_of_ble_eq_true rfl) ?_
  intro p e s m args below meth c Q ls X w hl hret
  have hx := X.1
  have hb := X.2.1
  have hown := X.2.2.2.1
  have hts := X.2.2.2.2
  have hl : lv_has ls 2 [(0, .ref (k.2.1 91)), (1, .int x)] := hl
  have hi5 : ∀ w ∈ u_ws RX5 TX5 6, w ∈ wsX5_brokenFrames := by decide +kernel
  refine lv_aload_n hx hb dX5_brokenFrames_0 rfl (lv_at hl 0 rfl) ?_
  refine lv_iload_n hx hb dX5_brokenFrames_1 rfl (lv_at hl 1 rfl) ?_
  refine q_calli w (q_runS X w (c_X5_isPair l k h x) (va_cwS 1 hts gX5_brokenFrames_X5_isPair rfl rfl rfl (by decide +kernel) ⟨Nat.le_of_ble_eq_true rfl, Nat.le_of_ble_eq_true rfl⟩) rfl hl.1 rfl (Nat.le_of_ble_eq_true rfl) dX5_brokenFrames_2 ⟨Nat.le_of_ble_eq_true rfl, Nat.le_of_ble_eq_true rfl⟩) (fun r_2 h_2 H locs hp w => ?_)
  obtain ⟨hp, eh_2⟩ := hp
  rw [eh_2] at w
  rcases hp with ⟨hd_2, er_2⟩ | ⟨hd_2, er_2⟩
  · subst er_2
    obtain ⟨q, hq, rfl⟩ := hd_2
    refine lv_if_eq (tgt := 12) hx hb dX5_brokenFrames_5 (by decide) (fun c_5 => ?_) (fun c_5 => ?_)
    · exact absurd c_5 (by decide)
    · refine lv_iconst (v := nI 0) hx hb dX5_brokenFrames_8 (by decide) ?_
      refine lv_goto (tgt := 13) hx hb dX5_brokenFrames_9 (by decide) ?_
      refine q_put X w 91 3 .int (ci := 5) (by decide) rfl rfl rfl hi5 tyX5_ok nmX5 (by decide) (by decide +kernel) rfl (by decide +kernel) (rfl) (rfl) (Nat.le_of_ble_eq_true rfl) dX5_brokenFrames_13 (fun H locs w => ?_)
      obtain ⟨h_13, eh_13⟩ : ∃ z9, z9 = upI h 91 3 (nI 0) := ⟨_, rfl⟩
      rw [← eh_13] at w
      have kT : h_13.1 91 3 = nI 0 := by rw [eh_13, upI_s]; rfl
      refine lv_aload_n hx hb dX5_brokenFrames_16 rfl (lv_at hl 0 rfl) ?_
      refine q_get X w 91 3 (ci := 5) (by decide) rfl rfl hi5 (by decide) (by decide +kernel) rfl dX5_brokenFrames_17 ?_
      rw [kT]
      refine lv_if_le (tgt := 27) hx hb dX5_brokenFrames_20 (by decide) (fun c_20 => ?_) (fun c_20 => ?_)
      · refine lv_aload_n hx hb dX5_brokenFrames_27 rfl (lv_at hl 0 rfl) ?_
        refine q_get X w 91 0 (ci := 5) (by decide) rfl rfl hi5 (by decide) (by decide +kernel) rfl dX5_brokenFrames_28 ?_
        refine lv_iload_n hx hb dX5_brokenFrames_31 rfl (lv_at hl 1 rfl) ?_
        refine lv_bipush (v := nI 115) hx hb dX5_brokenFrames_32 (by decide) ?_
        refine q_calli w (q_runS X w (c_X5_at l k h_13 q 115) (va_cwS 2 hts gX5_brokenFrames_X5_at rfl rfl rfl (by decide +kernel) ⟨Nat.le_of_ble_eq_true rfl, Nat.le_of_ble_eq_true rfl⟩) rfl hl.1 rfl (Nat.le_of_ble_eq_true rfl) dX5_brokenFrames_34 ⟨Nat.le_of_ble_eq_true rfl, Nat.le_of_ble_eq_true rfl⟩) (fun r_34 h_34 H locs hp w => ?_)
        obtain ⟨er_34, eh_34⟩ := hp
        rw [eh_34] at w
        have er_34 : r_34 = nI (1 + 116 * q + 115) := er_34
        subst er_34
        refine q_lald X w 92 (1 + 116 * q + 115) (by decide) (fun _ => rfl) rfl (show (1 + 116 * q + 115) < 233 by omega) (by decide) dX5_brokenFrames_37 ?_
        refine lv_l2i hx hb dX5_brokenFrames_38 rfl ?_
        exact hret _ _ _ _ _ _ _ _ dX5_brokenFrames_39 w rfl (Or.inl ⟨q, hq, rfl, (by subst eh_13; rfl), eh_13⟩) (Nat.le_of_ble_eq_true rfl) (Nat.le_of_ble_eq_true rfl)
      · exact absurd (by decide) c_20
  · subst er_2
    refine lv_if_eq (tgt := 12) hx hb dX5_brokenFrames_5 (by decide) (fun c_5 => ?_) (fun c_5 => ?_)
    · refine lv_iconst (v := nI 1) hx hb dX5_brokenFrames_12 (by decide) ?_
      refine q_put X w 91 3 .int (ci := 5) (by decide) rfl rfl rfl hi5 tyX5_ok nmX5 (by decide) (by decide +kernel) rfl (by decide +kernel) (rfl) (rfl) (Nat.le_of_ble_eq_true rfl) dX5_brokenFrames_13 (fun H locs w => ?_)
      obtain ⟨h_13, eh_13⟩ : ∃ z9, z9 = upI h 91 3 (nI 1) := ⟨_, rfl⟩
      rw [← eh_13] at w
      have kT : h_13.1 91 3 = nI 1 := by rw [eh_13, upI_s]; rfl
      refine lv_aload_n hx hb dX5_brokenFrames_16 rfl (lv_at hl 0 rfl) ?_
      refine q_get X w 91 3 (ci := 5) (by decide) rfl rfl hi5 (by decide) (by decide +kernel) rfl dX5_brokenFrames_17 ?_
      rw [kT]
      refine lv_if_le (tgt := 27) hx hb dX5_brokenFrames_20 (by decide) (fun c_20 => ?_) (fun c_20 => ?_)
      · exact absurd c_20 (by decide)
      · refine lv_iconst (v := nI 0) hx hb dX5_brokenFrames_23 (by decide) ?_
        refine lv_goto (tgt := 39) hx hb dX5_brokenFrames_24 (by decide) ?_
        exact hret _ _ _ _ _ _ _ _ dX5_brokenFrames_39 w rfl (Or.inr ⟨hd_2, rfl, eh_13⟩) (Nat.le_of_ble_eq_true rfl) (Nat.le_of_ble_eq_true rfl)
    · exact absurd (by decide) c_5

abbrev rc_X5_energy : Room := { frames := 3, cells := 0, slots := 0, locals := 67 }
set_option maxHeartbeats 4000000 in
set_option maxRecDepth 100000 in
theorem c_X5_energy (l : Launch) (k : kY) (h : hS) (x y : Int32) : CT l k yX5_energy wsX5_energy rc_X5_energy [.ref (k.2.1 91), .int x, .int y] h (QL k (fun r h' => (∃ q t : Nat, q < 2 ∧ t < 16 ∧ x = nI q ∧ y = nI t ∧ r = h.2.1 92 (1 + 116 * q + (81 + t)) ∧ h' = upI h 91 3 (nI 0)) ∨ (¬ (isP x ∧ isT y) ∧ r = 0 ∧ h' = upI h 91 3 (nI 1)))) 0 0 := by
  refine q_metL (cc := cX5_energy) (maxL := 3) (by decide) rfl (Nat.le_of_ble_eq_true rfl) ?_
  intro p e s m args below meth c Q ls X w hl hret
  have hx := X.1
  have hb := X.2.1
  have hown := X.2.2.2.1
  have hts := X.2.2.2.2
  have hl : lv_has ls 3 [(0, .ref (k.2.1 91)), (1, .int x), (2, .int y)] := hl
  have hi5 : ∀ w ∈ u_ws RX5 TX5 6, w ∈ wsX5_energy := by decide +kernel
  refine lv_aload_n hx hb dX5_energy_0 rfl (lv_at hl 0 rfl) ?_
  refine lv_iload_n hx hb dX5_energy_1 rfl (lv_at hl 1 rfl) ?_
  refine lv_iload_n hx hb dX5_energy_2 rfl (lv_at hl 2 rfl) ?_
  refine q_callv w (q_runV X w 91 (c_X5_toneCheck l k h x y) (cwV 2 hts gX5_energy_X5_toneCheck rfl rfl rfl (by decide +kernel) ⟨Nat.le_of_ble_eq_true rfl, Nat.le_of_ble_eq_true rfl⟩) (by decide) rfl rfl rfl hl.1 rfl (Nat.le_of_ble_eq_true rfl) dX5_energy_3 ⟨Nat.le_of_ble_eq_true rfl, Nat.le_of_ble_eq_true rfl⟩) (fun h_3 H locs hp w => ?_)
  rcases hp with ⟨hd_3, hd2_3, eh_3⟩ | ⟨hd_3, eh_3⟩
  · obtain ⟨q, hq, rfl⟩ := hd_3
    obtain ⟨t, ht, rfl⟩ := hd2_3
    have kT : h_3.1 91 3 = nI 0 := by rw [eh_3, upI_s]; rfl
    refine lv_aload_n hx hb dX5_energy_6 rfl (lv_at hl 0 rfl) ?_
    refine q_get X w 91 3 (ci := 5) (by decide) rfl rfl hi5 (by decide) (by decide +kernel) rfl dX5_energy_7 ?_
    rw [kT]
    refine lv_if_le (tgt := 17) hx hb dX5_energy_10 (by decide) (fun c_10 => ?_) (fun c_10 => ?_)
    · refine lv_aload_n hx hb dX5_energy_17 rfl (lv_at hl 0 rfl) ?_
      refine q_get X w 91 0 (ci := 5) (by decide) rfl rfl hi5 (by decide) (by decide +kernel) rfl dX5_energy_18 ?_
      refine lv_iload_n hx hb dX5_energy_21 rfl (lv_at hl 1 rfl) ?_
      refine lv_bipush (v := nI 81) hx hb dX5_energy_22 (by decide) ?_
      refine lv_iload_n hx hb dX5_energy_24 rfl (lv_at hl 2 rfl) ?_
      refine q_iaddN X dX5_energy_25 ?_
      refine q_calli w (q_runS X w (c_X5_at l k h_3 q (81 + t)) (va_cwS 2 hts gX5_energy_X5_at rfl rfl rfl (by decide +kernel) ⟨Nat.le_of_ble_eq_true rfl, Nat.le_of_ble_eq_true rfl⟩) rfl hl.1 rfl (Nat.le_of_ble_eq_true rfl) dX5_energy_26 ⟨Nat.le_of_ble_eq_true rfl, Nat.le_of_ble_eq_true rfl⟩) (fun r_26 h_26 H locs hp w => ?_)
      obtain ⟨er_26, eh_26⟩ := hp
      rw [eh_26] at w
      have er_26 : r_26 = nI (1 + 116 * q + (81 + t)) := er_26
      subst er_26
      refine q_lald X w 92 (1 + 116 * q + (81 + t)) (by decide) (fun _ => rfl) rfl (show (1 + 116 * q + (81 + t)) < 233 by omega) (by decide) dX5_energy_29 ?_
      exact hret _ _ _ _ _ _ _ _ dX5_energy_30 w (Or.inl ⟨q, t, hq, ht, rfl, rfl, (by subst eh_3; rfl), eh_3⟩) (Nat.le_of_ble_eq_true rfl) (Nat.le_of_ble_eq_true rfl)
    · exact absurd (by decide) c_10
  · have kT : h_3.1 91 3 = nI 1 := by rw [eh_3, upI_s]; rfl
    refine lv_aload_n hx hb dX5_energy_6 rfl (lv_at hl 0 rfl) ?_
    refine q_get X w 91 3 (ci := 5) (by decide) rfl rfl hi5 (by decide) (by decide +kernel) rfl dX5_energy_7 ?_
    rw [kT]
    refine lv_if_le (tgt := 17) hx hb dX5_energy_10 (by decide) (fun c_10 => ?_) (fun c_10 => ?_)
    · exact absurd c_10 (by decide)
    · refine lv_lconst (v := 0) hx hb dX5_energy_13 (by decide) ?_
      refine lv_goto (tgt := 30) hx hb dX5_energy_14 (by decide) ?_
      exact hret _ _ _ _ _ _ _ _ dX5_energy_30 w (Or.inr ⟨hd_3, rfl, eh_3⟩) (Nat.le_of_ble_eq_true rfl) (Nat.le_of_ble_eq_true rfl)

abbrev rc_X5_disturbedNoise : Room := { frames := 3, cells := 0, slots := 0, locals := 67 }
set_option maxHeartbeats 4000000 in
set_option maxRecDepth 100000 in
theorem c_X5_disturbedNoise (l : Launch) (k : kY) (h : hS) (x y : Int32) : CT l k yX5_disturbedNoise wsX5_disturbedNoise rc_X5_disturbedNoise [.ref (k.2.1 91), .int x, .int y] h (QL k (fun r h' => (∃ q t : Nat, q < 2 ∧ t < 16 ∧ x = nI q ∧ y = nI t ∧ r = mdn (h.2.1 92) q t ∧ h' = upI h 91 3 (nI 0)) ∨ (¬ (isP x ∧ isT y) ∧ r = 0 ∧ h' = upI h 91 3 (nI 1)))) 0 0 := by
  refine q_metL (cc := cX5_disturbedNoise) (maxL := 3) (by decide) rfl (Nat.le_of_ble_eq_true rfl) ?_
  intro p e s m args below meth c Q ls X w hl hret
  have hx := X.1
  have hb := X.2.1
  have hown := X.2.2.2.1
  have hts := X.2.2.2.2
  have hl : lv_has ls 3 [(0, .ref (k.2.1 91)), (1, .int x), (2, .int y)] := hl
  have hi5 : ∀ w ∈ u_ws RX5 TX5 6, w ∈ wsX5_disturbedNoise := by decide +kernel
  refine lv_aload_n hx hb dX5_disturbedNoise_0 rfl (lv_at hl 0 rfl) ?_
  refine lv_iload_n hx hb dX5_disturbedNoise_1 rfl (lv_at hl 1 rfl) ?_
  refine lv_iload_n hx hb dX5_disturbedNoise_2 rfl (lv_at hl 2 rfl) ?_
  refine q_callv w (q_runV X w 91 (c_X5_toneCheck l k h x y) (cwV 2 hts gX5_disturbedNoise_X5_toneCheck rfl rfl rfl (by decide +kernel) ⟨Nat.le_of_ble_eq_true rfl, Nat.le_of_ble_eq_true rfl⟩) (by decide) rfl rfl rfl hl.1 rfl (Nat.le_of_ble_eq_true rfl) dX5_disturbedNoise_3 ⟨Nat.le_of_ble_eq_true rfl, Nat.le_of_ble_eq_true rfl⟩) (fun h_3 H locs hp w => ?_)
  rcases hp with ⟨hd_3, hd2_3, eh_3⟩ | ⟨hd_3, eh_3⟩
  · obtain ⟨q, hq, rfl⟩ := hd_3
    obtain ⟨t, ht, rfl⟩ := hd2_3
    have kT : h_3.1 91 3 = nI 0 := by rw [eh_3, upI_s]; rfl
    refine lv_aload_n hx hb dX5_disturbedNoise_6 rfl (lv_at hl 0 rfl) ?_
    refine q_get X w 91 3 (ci := 5) (by decide) rfl rfl hi5 (by decide) (by decide +kernel) rfl dX5_disturbedNoise_7 ?_
    rw [kT]
    refine lv_if_le (tgt := 17) hx hb dX5_disturbedNoise_10 (by decide) (fun c_10 => ?_) (fun c_10 => ?_)
    · refine lv_aload_n hx hb dX5_disturbedNoise_17 rfl (lv_at hl 0 rfl) ?_
      refine lv_iload_n hx hb dX5_disturbedNoise_18 rfl (lv_at hl 1 rfl) ?_
      refine lv_iload_n hx hb dX5_disturbedNoise_19 rfl (lv_at hl 2 rfl) ?_
      refine q_calll w (q_runV X w 91 (c_X5_noiseOf l k h_3 (q := q) (t := t) (by omega) (by omega)) (cwV 2 hts gX5_disturbedNoise_X5_noiseOf rfl rfl rfl (by decide +kernel) ⟨Nat.le_of_ble_eq_true rfl, Nat.le_of_ble_eq_true rfl⟩) (by decide) rfl rfl rfl hl.1 rfl (Nat.le_of_ble_eq_true rfl) dX5_disturbedNoise_20 ⟨Nat.le_of_ble_eq_true rfl, Nat.le_of_ble_eq_true rfl⟩) (fun r_20 h_20 H locs hp w => ?_)
      obtain ⟨er_20, eh_20⟩ := hp
      rw [eh_20] at w
      have er_20 : r_20 = mdn (h_3.2.1 92) q t := er_20
      subst er_20
      exact hret _ _ _ _ _ _ _ _ dX5_disturbedNoise_23 w (Or.inl ⟨q, t, hq, ht, rfl, rfl, (by subst eh_3; rfl), eh_3⟩) (Nat.le_of_ble_eq_true rfl) (Nat.le_of_ble_eq_true rfl)
    · exact absurd (by decide) c_10
  · have kT : h_3.1 91 3 = nI 1 := by rw [eh_3, upI_s]; rfl
    refine lv_aload_n hx hb dX5_disturbedNoise_6 rfl (lv_at hl 0 rfl) ?_
    refine q_get X w 91 3 (ci := 5) (by decide) rfl rfl hi5 (by decide) (by decide +kernel) rfl dX5_disturbedNoise_7 ?_
    rw [kT]
    refine lv_if_le (tgt := 17) hx hb dX5_disturbedNoise_10 (by decide) (fun c_10 => ?_) (fun c_10 => ?_)
    · exact absurd c_10 (by decide)
    · refine lv_lconst (v := 0) hx hb dX5_disturbedNoise_13 (by decide) ?_
      refine lv_goto (tgt := 23) hx hb dX5_disturbedNoise_14 (by decide) ?_
      exact hret _ _ _ _ _ _ _ _ dX5_disturbedNoise_23 w (Or.inr ⟨hd_3, rfl, eh_3⟩) (Nat.le_of_ble_eq_true rfl) (Nat.le_of_ble_eq_true rfl)

abbrev rc_X5_margin : Room := { frames := 4, cells := 0, slots := 0, locals := 87 }
set_option maxHeartbeats 4000000 in
set_option maxRecDepth 100000 in
theorem c_X5_margin (l : Launch) (k : kY) (h : hS) (x y : Int32) (hz : mOK (h.2.1 92)) : CT l k yX5_margin wsX5_margin rc_X5_margin [.ref (k.2.1 91), .int x, .int y] h (QL k (fun r h' => (∃ q t : Nat, q < 2 ∧ t < 16 ∧ x = nI q ∧ y = nI t ∧ r = mmg (h.2.1 92) q t ∧ h' = upI h 91 3 (nI 0)) ∨ (¬ (isP x ∧ isT y) ∧ r = 0 ∧ h' = upI h 91 3 (nI 1)))) 0 0 := by
  refine q_metL (cc := cX5_margin) (maxL := 3) (by decide) rfl (Nat.le_of_ble_eq_true rfl) ?_
  intro p e s m args below meth c Q ls X w hl hret
  have hx := X.1
  have hb := X.2.1
  have hown := X.2.2.2.1
  have hts := X.2.2.2.2
  have hl : lv_has ls 3 [(0, .ref (k.2.1 91)), (1, .int x), (2, .int y)] := hl
  have hi5 : ∀ w ∈ u_ws RX5 TX5 6, w ∈ wsX5_margin := by decide +kernel
  refine lv_aload_n hx hb dX5_margin_0 rfl (lv_at hl 0 rfl) ?_
  refine lv_iload_n hx hb dX5_margin_1 rfl (lv_at hl 1 rfl) ?_
  refine lv_iload_n hx hb dX5_margin_2 rfl (lv_at hl 2 rfl) ?_
  refine q_callv w (q_runV X w 91 (c_X5_toneCheck l k h x y) (cwV 2 hts gX5_margin_X5_toneCheck rfl rfl rfl (by decide +kernel) ⟨Nat.le_of_ble_eq_true rfl, Nat.le_of_ble_eq_true rfl⟩) (by decide) rfl rfl rfl hl.1 rfl (Nat.le_of_ble_eq_true rfl) dX5_margin_3 ⟨Nat.le_of_ble_eq_true rfl, Nat.le_of_ble_eq_true rfl⟩) (fun h_3 H locs hp w => ?_)
  rcases hp with ⟨hd_3, hd2_3, eh_3⟩ | ⟨hd_3, eh_3⟩
  · obtain ⟨q, hq, rfl⟩ := hd_3
    obtain ⟨t, ht, rfl⟩ := hd2_3
    have kT : h_3.1 91 3 = nI 0 := by rw [eh_3, upI_s]; rfl
    refine lv_aload_n hx hb dX5_margin_6 rfl (lv_at hl 0 rfl) ?_
    refine q_get X w 91 3 (ci := 5) (by decide) rfl rfl hi5 (by decide) (by decide +kernel) rfl dX5_margin_7 ?_
    rw [kT]
    refine lv_if_le (tgt := 17) hx hb dX5_margin_10 (by decide) (fun c_10 => ?_) (fun c_10 => ?_)
    · refine lv_aload_n hx hb dX5_margin_17 rfl (lv_at hl 0 rfl) ?_
      refine lv_iload_n hx hb dX5_margin_18 rfl (lv_at hl 1 rfl) ?_
      refine lv_iload_n hx hb dX5_margin_19 rfl (lv_at hl 2 rfl) ?_
      refine q_calll w (q_runV X w 91 (c_X5_marginOf l k h_3 (q := q) (t := t) (by omega) (by omega) (by subst eh_3; exact hz q t hq ht)) (cwV 2 hts gX5_margin_X5_marginOf rfl rfl rfl (by decide +kernel) ⟨Nat.le_of_ble_eq_true rfl, Nat.le_of_ble_eq_true rfl⟩) (by decide) rfl rfl rfl hl.1 rfl (Nat.le_of_ble_eq_true rfl) dX5_margin_20 ⟨Nat.le_of_ble_eq_true rfl, Nat.le_of_ble_eq_true rfl⟩) (fun r_20 h_20 H locs hp w => ?_)
      obtain ⟨er_20, eh_20⟩ := hp
      rw [eh_20] at w
      have er_20 : r_20 = mmg (h_3.2.1 92) q t := er_20
      subst er_20
      exact hret _ _ _ _ _ _ _ _ dX5_margin_23 w (Or.inl ⟨q, t, hq, ht, rfl, rfl, (by subst eh_3; rfl), eh_3⟩) (Nat.le_of_ble_eq_true rfl) (Nat.le_of_ble_eq_true rfl)
    · exact absurd (by decide) c_10
  · have kT : h_3.1 91 3 = nI 1 := by rw [eh_3, upI_s]; rfl
    refine lv_aload_n hx hb dX5_margin_6 rfl (lv_at hl 0 rfl) ?_
    refine q_get X w 91 3 (ci := 5) (by decide) rfl rfl hi5 (by decide) (by decide +kernel) rfl dX5_margin_7 ?_
    rw [kT]
    refine lv_if_le (tgt := 17) hx hb dX5_margin_10 (by decide) (fun c_10 => ?_) (fun c_10 => ?_)
    · exact absurd c_10 (by decide)
    · refine lv_lconst (v := 0) hx hb dX5_margin_13 (by decide) ?_
      refine lv_goto (tgt := 23) hx hb dX5_margin_14 (by decide) ?_
      exact hret _ _ _ _ _ _ _ _ dX5_margin_23 w (Or.inr ⟨hd_3, rfl, eh_3⟩) (Nat.le_of_ble_eq_true rfl) (Nat.le_of_ble_eq_true rfl)

abbrev rc_X5_setNoise : Room := { frames := 2, cells := 0, slots := 0, locals := 45 }
set_option maxHeartbeats 4000000 in
set_option maxRecDepth 100000 in
theorem c_X5_setNoise (l : Launch) (k : kY) (h : hS) (x y z : Int32) {b : Nat} (hs0 : h.1 91 2 = nI b) (hs4 : b ≤ 4) : CT l k yX5_setNoise wsX5_setNoise rc_X5_setNoise [.ref (k.2.1 91), .int x, .int y, .int z] h (QI k (fun r h' => (∃ q t : Nat, q < 2 ∧ t < 16 ∧ x = nI q ∧ y = nI t ∧ (¬ z.toInt64 < 1 ∧ ¬ 10000 < z.toInt64) ∧ r = (h.2.1 92 (1 + 116 * q + (1 + t))).toInt32 ∧ h' = upL (msv (upI h 91 3 (nI 0)) b) 92 (1 + 116 * q + (1 + t)) z.toInt64) ∨ (isP x ∧ isT y ∧ ¬ (¬ z.toInt64 < 1 ∧ ¬ 10000 < z.toInt64) ∧ r = nI 0 ∧ h' = upI h 91 3 (nI 2)) ∨ (¬ (isP x ∧ isT y) ∧ r = nI 0 ∧ h' = upI h 91 3 (nI 1)))) 0 0 := by
  refine q_metI (cc := cX5_setNoise) (maxL := 4) (ret := some .int) (ty := .int) (by decide) rfl rfl (Nat.le_of_ble_eq_true rfl) ?_
  intro p e s m args below meth c Q ls X w hl hret
  have hx := X.1
  have hb := X.2.1
  have hown := X.2.2.2.1
  have hts := X.2.2.2.2
  have hl : lv_has ls 4 [(0, .ref (k.2.1 91)), (1, .int x), (2, .int y), (3, .int z)] := hl
  have hi5 : ∀ w ∈ u_ws RX5 TX5 6, w ∈ wsX5_setNoise := by decide +kernel
  refine lv_aload_n hx hb dX5_setNoise_0 rfl (lv_at hl 0 rfl) ?_
  refine lv_iload_n hx hb dX5_setNoise_1 rfl (lv_at hl 1 rfl) ?_
  refine q_calli w (q_runS X w (c_X5_isPair l k h x) (va_cwS 1 hts gX5_setNoise_X5_isPair rfl rfl rfl (by decide +kernel) ⟨Nat.le_of_ble_eq_true rfl, Nat.le_of_ble_eq_true rfl⟩) rfl hl.1 rfl (Nat.le_of_ble_eq_true rfl) dX5_setNoise_2 ⟨Nat.le_of_ble_eq_true rfl, Nat.le_of_ble_eq_true rfl⟩) (fun r_2 h_2 H locs hp w => ?_)
  obtain ⟨hp, eh_2⟩ := hp
  rw [eh_2] at w
  rcases hp with ⟨hd_2, er_2⟩ | ⟨hd_2, er_2⟩
  · subst er_2
    obtain ⟨q, hq, rfl⟩ := hd_2
    refine lv_if_eq (tgt := 35) hx hb dX5_setNoise_5 (by decide) (fun c_5 => ?_) (fun c_5 => ?_)
    · exact absurd c_5 (by decide)
    · refine lv_iload_n hx hb dX5_setNoise_8 rfl (lv_at hl 2 rfl) ?_
      refine q_calli w (q_runS X w (c_X5_isTone l k h y) (va_cwS 1 hts gX5_setNoise_X5_isTone rfl rfl rfl (by decide +kernel) ⟨Nat.le_of_ble_eq_true rfl, Nat.le_of_ble_eq_true rfl⟩) rfl hl.1 rfl (Nat.le_of_ble_eq_true rfl) dX5_setNoise_9 ⟨Nat.le_of_ble_eq_true rfl, Nat.le_of_ble_eq_true rfl⟩) (fun r_9 h_9 H locs hp w => ?_)
      obtain ⟨hp, eh_9⟩ := hp
      rw [eh_9] at w
      rcases hp with ⟨hd_9, er_9⟩ | ⟨hd_9, er_9⟩
      · subst er_9
        obtain ⟨t, ht, rfl⟩ := hd_9
        refine lv_if_eq (tgt := 35) hx hb dX5_setNoise_12 (by decide) (fun c_12 => ?_) (fun c_12 => ?_)
        · exact absurd c_12 (by decide)
        · refine lv_iload_n hx hb dX5_setNoise_15 rfl (lv_at hl 3 rfl) ?_
          refine lv_i2l hx hb dX5_setNoise_16 rfl ?_
          refine lv_lconst (v := 1) hx hb dX5_setNoise_17 (by decide) ?_
          refine lv_ldc2 (v := 10000) hx hb hown (hts (.constantLong RX5 63 10000) (by decide +kernel)) dX5_setNoise_18 ?_
          refine q_calli w (q_runS X w (c_X5_in l k h z.toInt64 1 10000) (va_cwS 3 hts gX5_setNoise_X5_in rfl rfl rfl (by decide +kernel) ⟨Nat.le_of_ble_eq_true rfl, Nat.le_of_ble_eq_true rfl⟩) rfl hl.1 rfl (Nat.le_of_ble_eq_true rfl) dX5_setNoise_21 ⟨Nat.le_of_ble_eq_true rfl, Nat.le_of_ble_eq_true rfl⟩) (fun r_21 h_21 H locs hp w => ?_)
          obtain ⟨hp, eh_21⟩ := hp
          rw [eh_21] at w
          rcases hp with ⟨hd_21, er_21⟩ | ⟨hd_21, er_21⟩
          · subst er_21
            refine lv_if_eq (tgt := 31) hx hb dX5_setNoise_24 (by decide) (fun c_24 => ?_) (fun c_24 => ?_)
            · exact absurd c_24 (by decide)
            · refine lv_iconst (v := nI 0) hx hb dX5_setNoise_27 (by decide) ?_
              refine lv_goto (tgt := 36) hx hb dX5_setNoise_28 (by decide) ?_
              refine q_put X w 91 3 .int (ci := 5) (by decide) rfl rfl rfl hi5 tyX5_ok nmX5 (by decide) (by decide +kernel) rfl (by decide +kernel) (rfl) (rfl) (Nat.le_of_ble_eq_true rfl) dX5_setNoise_36 (fun H locs w => ?_)
              obtain ⟨h_36, eh_36⟩ : ∃ z9, z9 = upI h 91 3 (nI 0) := ⟨_, rfl⟩
              rw [← eh_36] at w
              have kT : h_36.1 91 3 = nI 0 := by rw [eh_36, upI_s]; rfl
              refine lv_aload_n hx hb dX5_setNoise_39 rfl (lv_at hl 0 rfl) ?_
              refine q_get X w 91 3 (ci := 5) (by decide) rfl rfl hi5 (by decide) (by decide +kernel) rfl dX5_setNoise_40 ?_
              rw [kT]
              refine lv_if_le (tgt := 50) hx hb dX5_setNoise_43 (by decide) (fun c_43 => ?_) (fun c_43 => ?_)
              · refine lv_aload_n hx hb dX5_setNoise_50 rfl (lv_at hl 0 rfl) ?_
                refine lv_iload_n hx hb dX5_setNoise_51 rfl (lv_at hl 1 rfl) ?_
                refine lv_iconst (v := nI 1) hx hb dX5_setNoise_52 (by decide) ?_
                refine lv_iload_n hx hb dX5_setNoise_53 rfl (lv_at hl 2 rfl) ?_
                refine q_iaddN X dX5_setNoise_54 ?_
                refine q_calli w (q_runS X w (c_X5_at l k h_36 q (1 + t)) (va_cwS 2 hts gX5_setNoise_X5_at rfl rfl rfl (by decide +kernel) ⟨Nat.le_of_ble_eq_true rfl, Nat.le_of_ble_eq_true rfl⟩) rfl hl.1 rfl (Nat.le_of_ble_eq_true rfl) dX5_setNoise_55 ⟨Nat.le_of_ble_eq_true rfl, Nat.le_of_ble_eq_true rfl⟩) (fun r_55 h_55 H locs hp w => ?_)
                obtain ⟨er_55, eh_55⟩ := hp
                rw [eh_55] at w
                have er_55 : r_55 = nI (1 + 116 * q + (1 + t)) := er_55
                subst er_55
                refine lv_iload_n hx hb dX5_setNoise_58 rfl (lv_at hl 3 rfl) ?_
                refine q_calli w (q_runV X w 91 (c_X5_changed l k h_36 (j := 1 + 116 * q + (1 + t)) (b := b) (by rw [eh_36, upI_s]; exact hs0) hs4 (by omega) z) (cwV 2 hts gX5_setNoise_X5_changed rfl rfl rfl (by decide +kernel) ⟨Nat.le_of_ble_eq_true rfl, Nat.le_of_ble_eq_true rfl⟩) (by decide) rfl rfl rfl hl.1 rfl (Nat.le_of_ble_eq_true rfl) dX5_setNoise_59 ⟨Nat.le_of_ble_eq_true rfl, Nat.le_of_ble_eq_true rfl⟩) (fun r_59 h_59 H locs hp w => ?_)
                obtain ⟨er_59, eh_59⟩ := hp
                exact hret _ _ _ _ _ _ _ _ dX5_setNoise_62 w rfl (Or.inl ⟨q, t, hq, ht, rfl, rfl, hd_21, (by rw [er_59]; subst eh_36; rfl), (by rw [eh_59, eh_36])⟩) (Nat.le_of_ble_eq_true rfl) (Nat.le_of_ble_eq_true rfl)
              · exact absurd (by decide) c_43
          · subst er_21
            refine lv_if_eq (tgt := 31) hx hb dX5_setNoise_24 (by decide) (fun c_24 => ?_) (fun c_24 => ?_)
            · refine lv_iconst (v := nI 2) hx hb dX5_setNoise_31 (by decide) ?_
              refine lv_goto (tgt := 36) hx hb dX5_setNoise_32 (by decide) ?_
              refine q_put X w 91 3 .int (ci := 5) (by decide) rfl rfl rfl hi5 tyX5_ok nmX5 (by decide) (by decide +kernel) rfl (by decide +kernel) (rfl) (rfl) (Nat.le_of_ble_eq_true rfl) dX5_setNoise_36 (fun H locs w => ?_)
              obtain ⟨h_36, eh_36⟩ : ∃ z9, z9 = upI h 91 3 (nI 2) := ⟨_, rfl⟩
              rw [← eh_36] at w
              have kT : h_36.1 91 3 = nI 2 := by rw [eh_36, upI_s]; rfl
              refine lv_aload_n hx hb dX5_setNoise_39 rfl (lv_at hl 0 rfl) ?_
              refine q_get X w 91 3 (ci := 5) (by decide) rfl rfl hi5 (by decide) (by decide +kernel) rfl dX5_setNoise_40 ?_
              rw [kT]
              refine lv_if_le (tgt := 50) hx hb dX5_setNoise_43 (by decide) (fun c_43 => ?_) (fun c_43 => ?_)
              · exact absurd c_43 (by decide)
              · refine lv_iconst (v := nI 0) hx hb dX5_setNoise_46 (by decide) ?_
                refine lv_goto (tgt := 62) hx hb dX5_setNoise_47 (by decide) ?_
                exact hret _ _ _ _ _ _ _ _ dX5_setNoise_62 w rfl (Or.inr (Or.inl ⟨⟨q, hq, rfl⟩, ⟨t, ht, rfl⟩, hd_21, rfl, eh_36⟩)) (Nat.le_of_ble_eq_true rfl) (Nat.le_of_ble_eq_true rfl)
            · exact absurd (by decide) c_24
      · subst er_9
        refine lv_if_eq (tgt := 35) hx hb dX5_setNoise_12 (by decide) (fun c_12 => ?_) (fun c_12 => ?_)
        · refine lv_iconst (v := nI 1) hx hb dX5_setNoise_35 (by decide) ?_
          refine q_put X w 91 3 .int (ci := 5) (by decide) rfl rfl rfl hi5 tyX5_ok nmX5 (by decide) (by decide +kernel) rfl (by decide +kernel) (rfl) (rfl) (Nat.le_of_ble_eq_true rfl) dX5_setNoise_36 (fun H locs w => ?_)
          obtain ⟨h_36, eh_36⟩ : ∃ z9, z9 = upI h 91 3 (nI 1) := ⟨_, rfl⟩
          rw [← eh_36] at w
          have kT : h_36.1 91 3 = nI 1 := by rw [eh_36, upI_s]; rfl
          refine lv_aload_n hx hb dX5_setNoise_39 rfl (lv_at hl 0 rfl) ?_
          refine q_get X w 91 3 (ci := 5) (by decide) rfl rfl hi5 (by decide) (by decide +kernel) rfl dX5_setNoise_40 ?_
          rw [kT]
          refine lv_if_le (tgt := 50) hx hb dX5_setNoise_43 (by decide) (fun c_43 => ?_) (fun c_43 => ?_)
          · exact absurd c_43 (by decide)
          · refine lv_iconst (v := nI 0) hx hb dX5_setNoise_46 (by decide) ?_
            refine lv_goto (tgt := 62) hx hb dX5_setNoise_47 (by decide) ?_
            exact hret _ _ _ _ _ _ _ _ dX5_setNoise_62 w rfl (Or.inr (Or.inr ⟨fun z9 => hd_9 z9.2, rfl, eh_36⟩)) (Nat.le_of_ble_eq_true rfl) (Nat.le_of_ble_eq_true rfl)
        · exact absurd (by decide) c_12
  · subst er_2
    refine lv_if_eq (tgt := 35) hx hb dX5_setNoise_5 (by decide) (fun c_5 => ?_) (fun c_5 => ?_)
    · refine lv_iconst (v := nI 1) hx hb dX5_setNoise_35 (by decide) ?_
      refine q_put X w 91 3 .int (ci := 5) (by decide) rfl rfl rfl hi5 tyX5_ok nmX5 (by decide) (by decide +kernel) rfl (by decide +kernel) (rfl) (rfl) (Nat.le_of_ble_eq_true rfl) dX5_setNoise_36 (fun H locs w => ?_)
      obtain ⟨h_36, eh_36⟩ : ∃ z9, z9 = upI h 91 3 (nI 1) := ⟨_, rfl⟩
      rw [← eh_36] at w
      have kT : h_36.1 91 3 = nI 1 := by rw [eh_36, upI_s]; rfl
      refine lv_aload_n hx hb dX5_setNoise_39 rfl (lv_at hl 0 rfl) ?_
      refine q_get X w 91 3 (ci := 5) (by decide) rfl rfl hi5 (by decide) (by decide +kernel) rfl dX5_setNoise_40 ?_
      rw [kT]
      refine lv_if_le (tgt := 50) hx hb dX5_setNoise_43 (by decide) (fun c_43 => ?_) (fun c_43 => ?_)
      · exact absurd c_43 (by decide)
      · refine lv_iconst (v := nI 0) hx hb dX5_setNoise_46 (by decide) ?_
        refine lv_goto (tgt := 62) hx hb dX5_setNoise_47 (by decide) ?_
        exact hret _ _ _ _ _ _ _ _ dX5_setNoise_62 w rfl (Or.inr (Or.inr ⟨fun z9 => hd_2 z9.1, rfl, eh_36⟩)) (Nat.le_of_ble_eq_true rfl) (Nat.le_of_ble_eq_true rfl)
    · exact absurd (by decide) c_5
