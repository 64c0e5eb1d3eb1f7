theorem nI_z {n : Nat} (hn : n < 2 ^ 31) (h : nI n = 0) : n = 0 := by
  have h1 : (nI n).toInt = (0 : Int32).toInt := by rw [h]
  rw [nI_toInt hn] at h1
  have h2 : (0 : Int32).toInt = 0 := rfl
  omega
theorem msv_92 (h : hS) (b : Nat) : (msv h b).2.1 92 = h.2.1 92 := by
  show (setL h 93 _).2.1 92 = _
  rw [setL_o _ _ (by decide)]
theorem msv_st (h : hS) (b : Nat) : (msv h b).1 91 2 = nI (ms3 b + 1) := by
  unfold msv
  rw [upI_s]; rfl

abbrev rc_X5_setCoupling : Room := { frames := 2, cells := 0, slots := 0, locals := 45 }
set_option maxHeartbeats 4000000 in
set_option maxRecDepth 100000 in
theorem c_X5_setCoupling (l : Launch) (k : kY) (h : hS) (x y z : Int32) {b : Nat} (hs0 : h.1 91 2 = nI b) (hs4 : b ≤ 4) : CT l k yX5_setCoupling wsX5_setCoupling rc_X5_setCoupling [.ref (k.2.1 91), .int x, .int y, .int z] h (QI k (fun r h' => (∃ q t : Nat, q < 2 ∧ t < 16 ∧ x = nI q ∧ y = nI t ∧ (¬ z.toInt64 < 0 ∧ ¬ 1000 < z.toInt64) ∧ r = (h.2.1 92 (1 + 116 * q + (17 + t))).toInt32 ∧ h' = upL (msv (upI h 91 3 (nI 0)) b) 92 (1 + 116 * q + (17 + t)) z.toInt64) ∨ (isP x ∧ isT y ∧ ¬ (¬ z.toInt64 < 0 ∧ ¬ 1000 < z.toInt64) ∧ r = nI 0 ∧ h' = upI h 91 3 (nI 2)) ∨ (¬ (isP x ∧ isT y) ∧ r = nI 0 ∧ h' = upI h 91 3 (nI 1)))) 0 0 := by
  refine q_metI (cc := cX5_setCoupling) (maxL := 4) (ret := some .int) (ty := .int) (by decide) rfl rfl (Nat.le_of_ble_eq_true rfl) ?_
  intro p e s m args below meth c Q ls X w hl hret
  have hx := X.1
  have hb := X.2.1
  have hown := X.2.2.2.1
  have hts := X.2.2.2.2
  have hl : lv_has ls 4 [(0, .ref (k.2.1 91)), (1, .int x), (2, .int y), (3, .int z)] := hl
  have hi5 : ∀ w ∈ u_ws RX5 TX5 6, w ∈ wsX5_setCoupling := by decide +kernel
  refine lv_aload_n hx hb dX5_setCoupling_0 rfl (lv_at hl 0 rfl) ?_
  refine lv_iload_n hx hb dX5_setCoupling_1 rfl (lv_at hl 1 rfl) ?_
  refine q_calli w (q_runS X w (c_X5_isPair l k h x) (va_cwS 1 hts gX5_setCoupling_X5_isPair rfl rfl rfl (by decide +kernel) ⟨Nat.le_of_ble_eq_true rfl, Nat.le_of_ble_eq_true rfl⟩) rfl hl.1 rfl (Nat.le_of_ble_eq_true rfl) dX5_setCoupling_2 ⟨Nat.le_of_ble_eq_true rfl, Nat.le_of_ble_eq_true rfl⟩) (fun r_2 h_2 H locs hp w => ?_)
  obtain ⟨hp, eh_2⟩ := hp
  rw [eh_2] at w
  rcases hp with ⟨hd_2, er_2⟩ | ⟨hd_2, er_2⟩
  · subst er_2
    obtain ⟨q, hq, rfl⟩ := hd_2
    refine lv_if_eq (tgt := 35) hx hb dX5_setCoupling_5 (by decide) (fun c_5 => ?_) (fun c_5 => ?_)
    · exact absurd c_5 (by decide)
    · refine lv_iload_n hx hb dX5_setCoupling_8 rfl (lv_at hl 2 rfl) ?_
      refine q_calli w (q_runS X w (c_X5_isTone l k h y) (va_cwS 1 hts gX5_setCoupling_X5_isTone rfl rfl rfl (by decide +kernel) ⟨Nat.le_of_ble_eq_true rfl, Nat.le_of_ble_eq_true rfl⟩) rfl hl.1 rfl (Nat.le_of_ble_eq_true rfl) dX5_setCoupling_9 ⟨Nat.le_of_ble_eq_true rfl, Nat.le_of_ble_eq_true rfl⟩) (fun r_9 h_9 H locs hp w => ?_)
      obtain ⟨hp, eh_9⟩ := hp
      rw [eh_9] at w
      rcases hp with ⟨hd_9, er_9⟩ | ⟨hd_9, er_9⟩
      · subst er_9
        obtain ⟨t, ht, rfl⟩ := hd_9
        refine lv_if_eq (tgt := 35) hx hb dX5_setCoupling_12 (by decide) (fun c_12 => ?_) (fun c_12 => ?_)
        · exact absurd c_12 (by decide)
        · refine lv_iload_n hx hb dX5_setCoupling_15 rfl (lv_at hl 3 rfl) ?_
          refine lv_i2l hx hb dX5_setCoupling_16 rfl ?_
          refine lv_lconst (v := 0) hx hb dX5_setCoupling_17 (by decide) ?_
          refine lv_ldc2 (v := 1000) hx hb hown (hts (.constantLong RX5 68 1000) (by decide +kernel)) dX5_setCoupling_18 ?_
          refine q_calli w (q_runS X w (c_X5_in l k h z.toInt64 0 1000) (va_cwS 3 hts gX5_setCoupling_X5_in rfl rfl rfl (by decide +kernel) ⟨Nat.le_of_ble_eq_true rfl, Nat.le_of_ble_eq_true rfl⟩) rfl hl.1 rfl (Nat.le_of_ble_eq_true rfl) dX5_setCoupling_21 ⟨Nat.le_of_ble_eq_true rfl, Nat.le_of_ble_eq_true rfl⟩) (fun r_21 h_21 H locs hp w => ?_)
          obtain ⟨hp, eh_21⟩ := hp
          rw [eh_21] at w
          rcases hp with ⟨hd_21, er_21⟩ | ⟨hd_21, er_21⟩
          · subst er_21
            refine lv_if_eq (tgt := 31) hx hb dX5_setCoupling_24 (by decide) (fun c_24 => ?_) (fun c_24 => ?_)
            · exact absurd c_24 (by decide)
            · refine lv_iconst (v := nI 0) hx hb dX5_setCoupling_27 (by decide) ?_
              refine lv_goto (tgt := 36) hx hb dX5_setCoupling_28 (by decide) ?_
              refine q_put X w 91 3 .int (ci := 5) (by decide) rfl rfl rfl hi5 tyX5_ok nmX5 (by decide) (by decide +kernel) rfl (by decide +kernel) (rfl) (rfl) (Nat.le_of_ble_eq_true rfl) dX5_setCoupling_36 (fun H locs w => ?_)
              obtain ⟨h_36, eh_36⟩ : ∃ z9, z9 = upI h 91 3 (nI 0) := ⟨_, rfl⟩
              rw [← eh_36] at w
              have kT : h_36.1 91 3 = nI 0 := by rw [eh_36, upI_s]; rfl
              refine lv_aload_n hx hb dX5_setCoupling_39 rfl (lv_at hl 0 rfl) ?_
              refine q_get X w 91 3 (ci := 5) (by decide) rfl rfl hi5 (by decide) (by decide +kernel) rfl dX5_setCoupling_40 ?_
              rw [kT]
              refine lv_if_le (tgt := 50) hx hb dX5_setCoupling_43 (by decide) (fun c_43 => ?_) (fun c_43 => ?_)
              · refine lv_aload_n hx hb dX5_setCoupling_50 rfl (lv_at hl 0 rfl) ?_
                refine lv_iload_n hx hb dX5_setCoupling_51 rfl (lv_at hl 1 rfl) ?_
                refine lv_bipush (v := nI 17) hx hb dX5_setCoupling_52 (by decide) ?_
                refine lv_iload_n hx hb dX5_setCoupling_54 rfl (lv_at hl 2 rfl) ?_
                refine q_iaddN X dX5_setCoupling_55 ?_
                refine q_calli w (q_runS X w (c_X5_at l k h_36 q (17 + t)) (va_cwS 2 hts gX5_setCoupling_X5_at rfl rfl rfl (by decide +kernel) ⟨Nat.le_of_ble_eq_true rfl, Nat.le_of_ble_eq_true rfl⟩) rfl hl.1 rfl (Nat.le_of_ble_eq_true rfl) dX5_setCoupling_56 ⟨Nat.le_of_ble_eq_true rfl, Nat.le_of_ble_eq_true rfl⟩) (fun r_56 h_56 H locs hp w => ?_)
                obtain ⟨er_56, eh_56⟩ := hp
                rw [eh_56] at w
                have er_56 : r_56 = nI (1 + 116 * q + (17 + t)) := er_56
                subst er_56
                refine lv_iload_n hx hb dX5_setCoupling_59 rfl (lv_at hl 3 rfl) ?_
                refine q_calli w (q_runV X w 91 (c_X5_changed l k h_36 (j := 1 + 116 * q + (17 + t)) (b := b) (by rw [eh_36, upI_s]; exact hs0) hs4 (by omega) z) (cwV 2 hts gX5_setCoupling_X5_changed rfl rfl rfl (by decide +kernel) ⟨Nat.le_of_ble_eq_true rfl, Nat.le_of_ble_eq_true rfl⟩) (by decide) rfl rfl rfl hl.1 rfl (Nat.le_of_ble_eq_true rfl) dX5_setCoupling_60 ⟨Nat.le_of_ble_eq_true rfl, Nat.le_of_ble_eq_true rfl⟩) (fun r_60 h_60 H locs hp w => ?_)
                obtain ⟨er_60, eh_60⟩ := hp
                exact hret _ _ _ _ _ _ _ _ dX5_setCoupling_63 w rfl (Or.inl ⟨q, t, hq, ht, rfl, rfl, hd_21, (by rw [er_60]; subst eh_36; rfl), (by rw [eh_60, eh_36])⟩) (Nat.le_of_ble_eq_true rfl) (Nat.le_of_ble_eq_true rfl)
              · exact absurd (by decide) c_43
          · subst er_21
            refine lv_if_eq (tgt := 31) hx hb dX5_setCoupling_24 (by decide) (fun c_24 => ?_) (fun c_24 => ?_)
            · refine lv_iconst (v := nI 2) hx hb dX5_setCoupling_31 (by decide) ?_
              refine lv_goto (tgt := 36) hx hb dX5_setCoupling_32 (by decide) ?_
              refine q_put X w 91 3 .int (ci := 5) (by decide) rfl rfl rfl hi5 tyX5_ok nmX5 (by decide) (by decide +kernel) rfl (by decide +kernel) (rfl) (rfl) (Nat.le_of_ble_eq_true rfl) dX5_setCoupling_36 (fun H locs w => ?_)
              obtain ⟨h_36, eh_36⟩ : ∃ z9, z9 = upI h 91 3 (nI 2) := ⟨_, rfl⟩
              rw [← eh_36] at w
              have kT : h_36.1 91 3 = nI 2 := by rw [eh_36, upI_s]; rfl
              refine lv_aload_n hx hb dX5_setCoupling_39 rfl (lv_at hl 0 rfl) ?_
              refine q_get X w 91 3 (ci := 5) (by decide) rfl rfl hi5 (by decide) (by decide +kernel) rfl dX5_setCoupling_40 ?_
              rw [kT]
              refine lv_if_le (tgt := 50) hx hb dX5_setCoupling_43 (by decide) (fun c_43 => ?_) (fun c_43 => ?_)
              · exact absurd c_43 (by decide)
              · refine lv_iconst (v := nI 0) hx hb dX5_setCoupling_46 (by decide) ?_
                refine lv_goto (tgt := 63) hx hb dX5_setCoupling_47 (by decide) ?_
                exact hret _ _ _ _ _ _ _ _ dX5_setCoupling_63 w rfl (Or.inr (Or.inl ⟨⟨q, hq, rfl⟩, ⟨t, ht, rfl⟩, hd_21, rfl, eh_36⟩)) (Nat.le_of_ble_eq_true rfl) (Nat.le_of_ble_eq_true rfl)
            · exact absurd (by decide) c_24
      · subst er_9
        refine lv_if_eq (tgt := 35) hx hb dX5_setCoupling_12 (by decide) (fun c_12 => ?_) (fun c_12 => ?_)
        · refine lv_iconst (v := nI 1) hx hb dX5_setCoupling_35 (by decide) ?_
          refine q_put X w 91 3 .int (ci := 5) (by decide) rfl rfl rfl hi5 tyX5_ok nmX5 (by decide) (by decide +kernel) rfl (by decide +kernel) (rfl) (rfl) (Nat.le_of_ble_eq_true rfl) dX5_setCoupling_36 (fun H locs w => ?_)
          obtain ⟨h_36, eh_36⟩ : ∃ z9, z9 = upI h 91 3 (nI 1) := ⟨_, rfl⟩
          rw [← eh_36] at w
          have kT : h_36.1 91 3 = nI 1 := by rw [eh_36, upI_s]; rfl
          refine lv_aload_n hx hb dX5_setCoupling_39 rfl (lv_at hl 0 rfl) ?_
          refine q_get X w 91 3 (ci := 5) (by decide) rfl rfl hi5 (by decide) (by decide +kernel) rfl dX5_setCoupling_40 ?_
          rw [kT]
          refine lv_if_le (tgt := 50) hx hb dX5_setCoupling_43 (by decide) (fun c_43 => ?_) (fun c_43 => ?_)
          · exact absurd c_43 (by decide)
          · refine lv_iconst (v := nI 0) hx hb dX5_setCoupling_46 (by decide) ?_
            refine lv_goto (tgt := 63) hx hb dX5_setCoupling_47 (by decide) ?_
            exact hret _ _ _ _ _ _ _ _ dX5_setCoupling_63 w rfl (Or.inr (Or.inr ⟨fun z9 => hd_9 z9.2, rfl, eh_36⟩)) (Nat.le_of_ble_eq_true rfl) (Nat.le_of_ble_eq_true rfl)
        · exact absurd (by decide) c_12
  · subst er_2
    refine lv_if_eq (tgt := 35) hx hb dX5_setCoupling_5 (by decide) (fun c_5 => ?_) (fun c_5 => ?_)
    · refine lv_iconst (v := nI 1) hx hb dX5_setCoupling_35 (by decide) ?_
      refine q_put X w 91 3 .int (ci := 5) (by decide) rfl rfl rfl hi5 tyX5_ok nmX5 (by decide) (by decide +kernel) rfl (by decide +kernel) (rfl) (rfl) (Nat.le_of_ble_eq_true rfl) dX5_setCoupling_36 (fun H locs w => ?_)
      obtain ⟨h_36, eh_36⟩ : ∃ z9, z9 = upI h 91 3 (nI 1) := ⟨_, rfl⟩
      rw [← eh_36] at w
      have kT : h_36.1 91 3 = nI 1 := by rw [eh_36, upI_s]; rfl
      refine lv_aload_n hx hb dX5_setCoupling_39 rfl (lv_at hl 0 rfl) ?_
      refine q_get X w 91 3 (ci := 5) (by decide) rfl rfl hi5 (by decide) (by decide +kernel) rfl dX5_setCoupling_40 ?_
      rw [kT]
      refine lv_if_le (tgt := 50) hx hb dX5_setCoupling_43 (by decide) (fun c_43 => ?_) (fun c_43 => ?_)
      · exact absurd c_43 (by decide)
      · refine lv_iconst (v := nI 0) hx hb dX5_setCoupling_46 (by decide) ?_
        refine lv_goto (tgt := 63) hx hb dX5_setCoupling_47 (by decide) ?_
        exact hret _ _ _ _ _ _ _ _ dX5_setCoupling_63 w rfl (Or.inr (Or.inr ⟨fun z9 => hd_2 z9.1, rfl, eh_36⟩)) (Nat.le_of_ble_eq_true rfl) (Nat.le_of_ble_eq_true rfl)
    · exact absurd (by decide) c_5

abbrev rc_X5_setBudget : Room := { frames := 2, cells := 0, slots := 0, locals := 45 }
set_option maxHeartbeats 4000000 in
set_option maxRecDepth 100000 in
theorem c_X5_setBudget (l : Launch) (k : kY) (h : hS) (x y : Int32) {b : Nat} (hs0 : h.1 91 2 = nI b) (hs4 : b ≤ 4) : CT l k yX5_setBudget wsX5_setBudget rc_X5_setBudget [.ref (k.2.1 91), .int x, .int y] h (QI k (fun r h' => (∃ q : Nat, q < 2 ∧ x = nI q ∧ (¬ y.toInt64 < 0 ∧ ¬ 1000000000 < y.toInt64) ∧ r = (h.2.1 92 (1 + 116 * q + 0)).toInt32 ∧ h' = upL (msv (upI h 91 3 (nI 0)) b) 92 (1 + 116 * q + 0) y.toInt64) ∨ (isP x ∧ ¬ (¬ y.toInt64 < 0 ∧ ¬ 1000000000 < y.toInt64) ∧ r = nI 0 ∧ h' = upI h 91 3 (nI 2)) ∨ (¬ isP x ∧ r = nI 0 ∧ h' = upI h 91 3 (nI 1)))) 0 0 := by
  refine q_metI (cc := cX5_setBudget) (maxL := 3) (ret := some .int) (ty := .int) (by decide) rfl rfl (Nat.le_of_ble_eq_true rfl) ?_
  intro p e s m args below meth c Q ls X w hl hret
  have hx := X.1
  have hb := X.2.1
  have hown := X.2.2.2.1
  have hts := X.2.2.2.2
  have hl : lv_has ls 3 [(0, .ref (k.2.1 91)), (1, .int x), (2, .int y)] := hl
  have hi5 : ∀ w ∈ u_ws RX5 TX5 6, w ∈ wsX5_setBudget := by decide +kernel
  refine lv_aload_n hx hb dX5_setBudget_0 rfl (lv_at hl 0 rfl) ?_
  refine lv_iload_n hx hb dX5_setBudget_1 rfl (lv_at hl 1 rfl) ?_
  refine q_calli w (q_runS X w (c_X5_isPair l k h x) (va_cwS 1 hts gX5_setBudget_X5_isPair rfl rfl rfl (by decide +kernel) ⟨Nat.le_of_ble_eq_true rfl, Nat.le_of_ble_eq_true rfl⟩) rfl hl.1 rfl (Nat.le_of_ble_eq_true rfl) dX5_setBudget_2 ⟨Nat.le_of_ble_eq_true rfl, Nat.le_of_ble_eq_true rfl⟩) (fun r_2 h_2 H locs hp w => ?_)
  obtain ⟨hp, eh_2⟩ := hp
  rw [eh_2] at w
  rcases hp with ⟨hd_2, er_2⟩ | ⟨hd_2, er_2⟩
  · subst er_2
    obtain ⟨q, hq, rfl⟩ := hd_2
    refine lv_if_eq (tgt := 28) hx hb dX5_setBudget_5 (by decide) (fun c_5 => ?_) (fun c_5 => ?_)
    · exact absurd c_5 (by decide)
    · refine lv_iload_n hx hb dX5_setBudget_8 rfl (lv_at hl 2 rfl) ?_
      refine lv_i2l hx hb dX5_setBudget_9 rfl ?_
      refine lv_lconst (v := 0) hx hb dX5_setBudget_10 (by decide) ?_
      refine lv_ldc2 (v := 1000000000) hx hb hown (hts (.constantLong RX5 70 1000000000) (by decide +kernel)) dX5_setBudget_11 ?_
      refine q_calli w (q_runS X w (c_X5_in l k h y.toInt64 0 1000000000) (va_cwS 3 hts gX5_setBudget_X5_in rfl rfl rfl (by decide +kernel) ⟨Nat.le_of_ble_eq_true rfl, Nat.le_of_ble_eq_true rfl⟩) rfl hl.1 rfl (Nat.le_of_ble_eq_true rfl) dX5_setBudget_14 ⟨Nat.le_of_ble_eq_true rfl, Nat.le_of_ble_eq_true rfl⟩) (fun r_14 h_14 H locs hp w => ?_)
      obtain ⟨hp, eh_14⟩ := hp
      rw [eh_14] at w
      rcases hp with ⟨hd_14, er_14⟩ | ⟨hd_14, er_14⟩
      · subst er_14
        refine lv_if_eq (tgt := 24) hx hb dX5_setBudget_17 (by decide) (fun c_17 => ?_) (fun c_17 => ?_)
        · exact absurd c_17 (by decide)
        · refine lv_iconst (v := nI 0) hx hb dX5_setBudget_20 (by decide) ?_
          refine lv_goto (tgt := 29) hx hb dX5_setBudget_21 (by decide) ?_
          refine q_put X w 91 3 .int (ci := 5) (by decide) rfl rfl rfl hi5 tyX5_ok nmX5 (by decide) (by decide +kernel) rfl (by decide +kernel) (rfl) (rfl) (Nat.le_of_ble_eq_true rfl) dX5_setBudget_29 (fun H locs w => ?_)
          obtain ⟨h_29, eh_29⟩ : ∃ z9, z9 = upI h 91 3 (nI 0) := ⟨_, rfl⟩
          rw [← eh_29] at w
          have kT : h_29.1 91 3 = nI 0 := by rw [eh_29, upI_s]; rfl
          refine lv_aload_n hx hb dX5_setBudget_32 rfl (lv_at hl 0 rfl) ?_
          refine q_get X w 91 3 (ci := 5) (by decide) rfl rfl hi5 (by decide) (by decide +kernel) rfl dX5_setBudget_33 ?_
          rw [kT]
          refine lv_if_le (tgt := 43) hx hb dX5_setBudget_36 (by decide) (fun c_36 => ?_) (fun c_36 => ?_)
          · refine lv_aload_n hx hb dX5_setBudget_43 rfl (lv_at hl 0 rfl) ?_
            refine lv_iload_n hx hb dX5_setBudget_44 rfl (lv_at hl 1 rfl) ?_
            refine lv_iconst (v := nI 0) hx hb dX5_setBudget_45 (by decide) ?_
            refine q_calli w (q_runS X w (c_X5_at l k h_29 q 0) (va_cwS 2 hts gX5_setBudget_X5_at rfl rfl rfl (by decide +kernel) ⟨Nat.le_of_ble_eq_true rfl, Nat.le_of_ble_eq_true rfl⟩) rfl hl.1 rfl (Nat.le_of_ble_eq_true rfl) dX5_setBudget_46 ⟨Nat.le_of_ble_eq_true rfl, Nat.le_of_ble_eq_true rfl⟩) (fun r_46 h_46 H locs hp w => ?_)
            obtain ⟨er_46, eh_46⟩ := hp
            rw [eh_46] at w
            have er_46 : r_46 = nI (1 + 116 * q + 0) := er_46
            subst er_46
            refine lv_iload_n hx hb dX5_setBudget_49 rfl (lv_at hl 2 rfl) ?_
            refine q_calli w (q_runV X w 91 (c_X5_changed l k h_29 (j := 1 + 116 * q + 0) (b := b) (by rw [eh_29, upI_s]; exact hs0) hs4 (by omega) y) (cwV 2 hts gX5_setBudget_X5_changed rfl rfl rfl (by decide +kernel) ⟨Nat.le_of_ble_eq_true rfl, Nat.le_of_ble_eq_true rfl⟩) (by decide) rfl rfl rfl hl.1 rfl (Nat.le_of_ble_eq_true rfl) dX5_setBudget_50 ⟨Nat.le_of_ble_eq_true rfl, Nat.le_of_ble_eq_true rfl⟩) (fun r_50 h_50 H locs hp w => ?_)
            obtain ⟨er_50, eh_50⟩ := hp
            exact hret _ _ _ _ _ _ _ _ dX5_setBudget_53 w rfl (Or.inl ⟨q, hq, rfl, hd_14, (by rw [er_50]; subst eh_29; rfl), (by rw [eh_50, eh_29])⟩) (Nat.le_of_ble_eq_true rfl) (Nat.le_of_ble_eq_true rfl)
          · exact absurd (by decide) c_36
      · subst er_14
        refine lv_if_eq (tgt := 24) hx hb dX5_setBudget_17 (by decide) (fun c_17 => ?_) (fun c_17 => ?_)
        · refine lv_iconst (v := nI 2) hx hb dX5_setBudget_24 (by decide) ?_
          refine lv_goto (tgt := 29) hx hb dX5_setBudget_25 (by decide) ?_
          refine q_put X w 91 3 .int (ci := 5) (by decide) rfl rfl rfl hi5 tyX5_ok nmX5 (by decide) (by decide +kernel) rfl (by decide +kernel) (rfl) (rfl) (Nat.le_of_ble_eq_true rfl) dX5_setBudget_29 (fun H locs w => ?_)
          obtain ⟨h_29, eh_29⟩ : ∃ z9, z9 = upI h 91 3 (nI 2) := ⟨_, rfl⟩
          rw [← eh_29] at w
          have kT : h_29.1 91 3 = nI 2 := by rw [eh_29, upI_s]; rfl
          refine lv_aload_n hx hb dX5_setBudget_32 rfl (lv_at hl 0 rfl) ?_
          refine q_get X w 91 3 (ci := 5) (by decide) rfl rfl hi5 (by decide) (by decide +kernel) rfl dX5_setBudget_33 ?_
          rw [kT]
          refine lv_if_le (tgt := 43) hx hb dX5_setBudget_36 (by decide) (fun c_36 => ?_) (fun c_36 => ?_)
          · exact absurd c_36 (by decide)
          · refine lv_iconst (v := nI 0) hx hb dX5_setBudget_39 (by decide) ?_
            refine lv_goto (tgt := 53) hx hb dX5_setBudget_40 (by decide) ?_
            exact hret _ _ _ _ _ _ _ _ dX5_setBudget_53 w rfl (Or.inr (Or.inl ⟨⟨q, hq, rfl⟩, hd_14, rfl, eh_29⟩)) (Nat.le_of_ble_eq_true rfl) (Nat.le_of_ble_eq_true rfl)
        · exact absurd (by decide) c_17
  · subst er_2
    refine lv_if_eq (tgt := 28) hx hb dX5_setBudget_5 (by decide) (fun c_5 => ?_) (fun c_5 => ?_)
    · refine lv_iconst (v := nI 1) hx hb dX5_setBudget_28 (by decide) ?_
      refine q_put X w 91 3 .int (ci := 5) (by decide) rfl rfl rfl hi5 tyX5_ok nmX5 (by decide) (by decide +kernel) rfl (by decide +kernel) (rfl) (rfl) (Nat.le_of_ble_eq_true rfl) dX5_setBudget_29 (fun H locs w => ?_)
      obtain ⟨h_29, eh_29⟩ : ∃ z9, z9 = upI h 91 3 (nI 1) := ⟨_, rfl⟩
      rw [← eh_29] at w
      have kT : h_29.1 91 3 = nI 1 := by rw [eh_29, upI_s]; rfl
      refine lv_aload_n hx hb dX5_setBudget_32 rfl (lv_at hl 0 rfl) ?_
      refine q_get X w 91 3 (ci := 5) (by decide) rfl rfl hi5 (by decide) (by decide +kernel) rfl dX5_setBudget_33 ?_
      rw [kT]
      refine lv_if_le (tgt := 43) hx hb dX5_setBudget_36 (by decide) (fun c_36 => ?_) (fun c_36 => ?_)
      · exact absurd c_36 (by decide)
      · refine lv_iconst (v := nI 0) hx hb dX5_setBudget_39 (by decide) ?_
        refine lv_goto (tgt := 53) hx hb dX5_setBudget_40 (by decide) ?_
        exact hret _ _ _ _ _ _ _ _ dX5_setBudget_53 w rfl (Or.inr (Or.inr ⟨hd_2, rfl, eh_29⟩)) (Nat.le_of_ble_eq_true rfl) (Nat.le_of_ble_eq_true rfl)
    · exact absurd (by decide) c_5

abbrev rc_X5_setLimit : Room := { frames := 2, cells := 0, slots := 0, locals := 45 }
set_option maxHeartbeats 4000000 in
set_option maxRecDepth 100000 in
theorem c_X5_setLimit (l : Launch) (k : kY) (h : hS) (x y z : Int32) {b : Nat} (hs0 : h.1 91 2 = nI b) (hs4 : b ≤ 4) : CT l k yX5_setLimit wsX5_setLimit rc_X5_setLimit [.ref (k.2.1 91), .int x, .int y, .int z] h (QI k (fun r h' => (∃ q t : Nat, q < 2 ∧ t < 16 ∧ x = nI q ∧ y = nI t ∧ (¬ z.toInt64 < 0 ∧ ¬ 12 < z.toInt64) ∧ ¬ (z.toInt64 < h.2.1 92 (1 + 116 * q + (49 + t)) ∨ z.toInt64 < h.2.1 92 (1 + 116 * q + (65 + t))) ∧ r = (h.2.1 92 (1 + 116 * q + (33 + t))).toInt32 ∧ h' = upL (msv (upI h 91 3 (nI 0)) b) 92 (1 + 116 * q + (33 + t)) z.toInt64) ∨ (∃ q t : Nat, q < 2 ∧ t < 16 ∧ x = nI q ∧ y = nI t ∧ (¬ z.toInt64 < 0 ∧ ¬ 12 < z.toInt64) ∧ (z.toInt64 < h.2.1 92 (1 + 116 * q + (49 + t)) ∨ z.toInt64 < h.2.1 92 (1 + 116 * q + (65 + t))) ∧ r = nI 0 ∧ h' = upI h 91 3 (nI 3)) ∨ (isP x ∧ isT y ∧ ¬ (¬ z.toInt64 < 0 ∧ ¬ 12 < z.toInt64) ∧ r = nI 0 ∧ h' = upI h 91 3 (nI 2)) ∨ (¬ (isP x ∧ isT y) ∧ r = nI 0 ∧ h' = upI h 91 3 (nI 1)))) 0 0 := by
  refine q_metI (cc := cX5_setLimit) (maxL := 4) (ret := some .int) (ty := .int) (by decide) rfl rfl (Nat.le_of_ble_eq_true rfl) ?_
  intro p e s m args below meth c Q ls X w hl hret
  have hx := X.1
  have hb := X.2.1
  have hown := X.2.2.2.1
  have hts := X.2.2.2.2
  have hl : lv_has ls 4 [(0, .ref (k.2.1 91)), (1, .int x), (2, .int y), (3, .int z)] := hl
  have hi5 : ∀ w ∈ u_ws RX5 TX5 6, w ∈ wsX5_setLimit := by decide +kernel
  refine lv_aload_n hx hb dX5_setLimit_0 rfl (lv_at hl 0 rfl) ?_
  refine lv_iload_n hx hb dX5_setLimit_1 rfl (lv_at hl 1 rfl) ?_
  refine q_calli w (q_runS X w (c_X5_isPair l k h x) (va_cwS 1 hts gX5_setLimit_X5_isPair rfl rfl rfl (by decide +kernel) ⟨Nat.le_of_ble_eq_true rfl, Nat.le_of_ble_eq_true rfl⟩) rfl hl.1 rfl (Nat.le_of_ble_eq_true rfl) dX5_setLimit_2 ⟨Nat.le_of_ble_eq_true rfl, Nat.le_of_ble_eq_true rfl⟩) (fun r_2 h_2 H locs hp w => ?_)
  obtain ⟨hp, eh_2⟩ := hp
  rw [eh_2] at w
  rcases hp with ⟨hd_2, er_2⟩ | ⟨hd_2, er_2⟩
  · subst er_2
    obtain ⟨q, hq, rfl⟩ := hd_2
    refine lv_if_eq (tgt := 35) hx hb dX5_setLimit_5 (by decide) (fun c_5 => ?_) (fun c_5 => ?_)
    · exact absurd c_5 (by decide)
    · refine lv_iload_n hx hb dX5_setLimit_8 rfl (lv_at hl 2 rfl) ?_
      refine q_calli w (q_runS X w (c_X5_isTone l k h y) (va_cwS 1 hts gX5_setLimit_X5_isTone rfl rfl rfl (by decide +kernel) ⟨Nat.le_of_ble_eq_true rfl, Nat.le_of_ble_eq_true rfl⟩) rfl hl.1 rfl (Nat.le_of_ble_eq_true rfl) dX5_setLimit_9 ⟨Nat.le_of_ble_eq_true rfl, Nat.le_of_ble_eq_true rfl⟩) (fun r_9 h_9 H locs hp w => ?_)
      obtain ⟨hp, eh_9⟩ := hp
      rw [eh_9] at w
      rcases hp with ⟨hd_9, er_9⟩ | ⟨hd_9, er_9⟩
      · subst er_9
        obtain ⟨t, ht, rfl⟩ := hd_9
        refine lv_if_eq (tgt := 35) hx hb dX5_setLimit_12 (by decide) (fun c_12 => ?_) (fun c_12 => ?_)
        · exact absurd c_12 (by decide)
        · refine lv_iload_n hx hb dX5_setLimit_15 rfl (lv_at hl 3 rfl) ?_
          refine lv_i2l hx hb dX5_setLimit_16 rfl ?_
          refine lv_lconst (v := 0) hx hb dX5_setLimit_17 (by decide) ?_
          refine lv_ldc2 (v := 12) hx hb hown (hts (.constantLong RX5 27 12) (by decide +kernel)) dX5_setLimit_18 ?_
          refine q_calli w (q_runS X w (c_X5_in l k h z.toInt64 0 12) (va_cwS 3 hts gX5_setLimit_X5_in rfl rfl rfl (by decide +kernel) ⟨Nat.le_of_ble_eq_true rfl, Nat.le_of_ble_eq_true rfl⟩) rfl hl.1 rfl (Nat.le_of_ble_eq_true rfl) dX5_setLimit_21 ⟨Nat.le_of_ble_eq_true rfl, Nat.le_of_ble_eq_true rfl⟩) (fun r_21 h_21 H locs hp w => ?_)
          obtain ⟨hp, eh_21⟩ := hp
          rw [eh_21] at w
          rcases hp with ⟨hd_21, er_21⟩ | ⟨hd_21, er_21⟩
          · subst er_21
            refine lv_if_eq (tgt := 31) hx hb dX5_setLimit_24 (by decide) (fun c_24 => ?_) (fun c_24 => ?_)
            · exact absurd c_24 (by decide)
            · refine lv_iconst (v := nI 0) hx hb dX5_setLimit_27 (by decide) ?_
              refine lv_goto (tgt := 36) hx hb dX5_setLimit_28 (by decide) ?_
              refine q_put X w 91 3 .int (ci := 5) (by decide) rfl rfl rfl hi5 tyX5_ok nmX5 (by decide) (by decide +kernel) rfl (by decide +kernel) (rfl) (rfl) (Nat.le_of_ble_eq_true rfl) dX5_setLimit_36 (fun H locs w => ?_)
              obtain ⟨h_36, eh_36⟩ : ∃ z9, z9 = upI h 91 3 (nI 0) := ⟨_, rfl⟩
              rw [← eh_36] at w
              have kT : h_36.1 91 3 = nI 0 := by rw [eh_36, upI_s]; rfl
              refine lv_aload_n hx hb dX5_setLimit_39 rfl (lv_at hl 0 rfl) ?_
              refine q_get X w 91 3 (ci := 5) (by decide) rfl rfl hi5 (by decide) (by decide +kernel) rfl dX5_setLimit_40 ?_
              rw [kT]
              refine lv_if_ne (tgt := 89) hx hb dX5_setLimit_43 (by decide) (fun c_43 => ?_) (fun c_43 => ?_)
              · exact absurd (by decide) c_43
              · refine lv_iload_n hx hb dX5_setLimit_46 rfl (lv_at hl 3 rfl) ?_
                refine lv_i2l hx hb dX5_setLimit_47 rfl ?_
                refine lv_aload_n hx hb dX5_setLimit_48 rfl (lv_at hl 0 rfl) ?_
                refine q_get X w 91 0 (ci := 5) (by decide) rfl rfl hi5 (by decide) (by decide +kernel) rfl dX5_setLimit_49 ?_
                refine lv_iload_n hx hb dX5_setLimit_52 rfl (lv_at hl 1 rfl) ?_
                refine lv_bipush (v := nI 49) hx hb dX5_setLimit_53 (by decide) ?_
                refine lv_iload_n hx hb dX5_setLimit_55 rfl (lv_at hl 2 rfl) ?_
                refine q_iaddN X dX5_setLimit_56 ?_
                refine q_calli w (q_runS X w (c_X5_at l k h_36 q (49 + t)) (va_cwS 2 hts gX5_setLimit_X5_at rfl rfl rfl (by decide +kernel) ⟨Nat.le_of_ble_eq_true rfl, Nat.le_of_ble_eq_true rfl⟩) rfl hl.1 rfl (Nat.le_of_ble_eq_true rfl) dX5_setLimit_57 ⟨Nat.le_of_ble_eq_true rfl, Nat.le_of_ble_eq_true rfl⟩) (fun r_57 h_57 H locs hp w => ?_)
                obtain ⟨er_57, eh_57⟩ := hp
                rw [eh_57] at w
                have er_57 : r_57 = nI (1 + 116 * q + (49 + t)) := er_57
                subst er_57
                refine q_lald X w 92 (1 + 116 * q + (49 + t)) (by decide) (fun _ => rfl) rfl (show (1 + 116 * q + (49 + t)) < 233 by omega) (by decide) dX5_setLimit_60 ?_
                refine q_lif_lt X (tgt := 84) dX5_setLimit_61 dX5_setLimit_62 (by decide) (fun c_61 => ?_) (fun c_61 => ?_)
                · refine lv_aload_n hx hb dX5_setLimit_84 rfl (lv_at hl 0 rfl) ?_
                  refine lv_iconst (v := nI 3) hx hb dX5_setLimit_85 (by decide) ?_
                  refine q_put X w 91 3 .int (ci := 5) (by decide) rfl rfl rfl hi5 tyX5_ok nmX5 (by decide) (by decide +kernel) rfl (by decide +kernel) (rfl) (rfl) (Nat.le_of_ble_eq_true rfl) dX5_setLimit_86 (fun H locs w => ?_)
                  obtain ⟨h_86, eh_86⟩ : ∃ z9, z9 = upI h_36 91 3 (nI 3) := ⟨_, rfl⟩
                  rw [← eh_86] at w
                  have kT : h_86.1 91 3 = nI 3 := by rw [eh_86, upI_s]; rfl
                  refine lv_aload_n hx hb dX5_setLimit_89 rfl (lv_at hl 0 rfl) ?_
                  refine q_get X w 91 3 (ci := 5) (by decide) rfl rfl hi5 (by decide) (by decide +kernel) rfl dX5_setLimit_90 ?_
                  rw [kT]
                  refine lv_if_le (tgt := 100) hx hb dX5_setLimit_93 (by decide) (fun c_93 => ?_) (fun c_93 => ?_)
                  · exact absurd c_93 (by decide)
                  · refine lv_iconst (v := nI 0) hx hb dX5_setLimit_96 (by decide) ?_
                    refine lv_goto (tgt := 113) hx hb dX5_setLimit_97 (by decide) ?_
                    exact hret _ _ _ _ _ _ _ _ dX5_setLimit_113 w rfl (Or.inr (Or.inl ⟨q, t, hq, ht, rfl, rfl, hd_21, (by subst eh_36; first | exact Or.inl c_61 | exact Or.inr c_80), rfl, (by rw [eh_86, eh_36, upI_upI])⟩)) (Nat.le_of_ble_eq_true rfl) (Nat.le_of_ble_eq_true rfl)
                · refine lv_iload_n hx hb dX5_setLimit_65 rfl (lv_at hl 3 rfl) ?_
                  refine lv_i2l hx hb dX5_setLimit_66 rfl ?_
                  refine lv_aload_n hx hb dX5_setLimit_67 rfl (lv_at hl 0 rfl) ?_
                  refine q_get X w 91 0 (ci := 5) (by decide) rfl rfl hi5 (by decide) (by decide +kernel) rfl dX5_setLimit_68 ?_
                  refine lv_iload_n hx hb dX5_setLimit_71 rfl (lv_at hl 1 rfl) ?_
                  refine lv_bipush (v := nI 65) hx hb dX5_setLimit_72 (by decide) ?_
                  refine lv_iload_n hx hb dX5_setLimit_74 rfl (lv_at hl 2 rfl) ?_
                  refine q_iaddN X dX5_setLimit_75 ?_
                  refine q_calli w (q_runS X w (c_X5_at l k h_36 q (65 + t)) (va_cwS 2 hts gX5_setLimit_X5_at rfl rfl rfl (by decide +kernel) ⟨Nat.le_of_ble_eq_true rfl, Nat.le_of_ble_eq_true rfl⟩) rfl hl.1 rfl (Nat.le_of_ble_eq_true rfl) dX5_setLimit_76 ⟨Nat.le_of_ble_eq_true rfl, Nat.le_of_ble_eq_true rfl⟩) (fun r_76 h_76 H locs hp w => ?_)
                  obtain ⟨er_76, eh_76⟩ := hp
                  rw [eh_76] at w
                  have er_76 : r_76 = nI (1 + 116 * q + (65 + t)) := er_76
                  subst er_76
                  refine q_lald X w 92 (1 + 116 * q + (65 + t)) (by decide) (fun _ => rfl) rfl (show (1 + 116 * q + (65 + t)) < 233 by omega) (by decide) dX5_setLimit_79 ?_
                  refine q_lif_ge X (tgt := 89) dX5_setLimit_80 dX5_setLimit_81 (by decide) (fun c_80 => ?_) (fun c_80 => ?_)
                  · refine lv_aload_n hx hb dX5_setLimit_89 rfl (lv_at hl 0 rfl) ?_
                    refine q_get X w 91 3 (ci := 5) (by decide) rfl rfl hi5 (by decide) (by decide +kernel) rfl dX5_setLimit_90 ?_
                    rw [kT]
                    refine lv_if_le (tgt := 100) hx hb dX5_setLimit_93 (by decide) (fun c_93 => ?_) (fun c_93 => ?_)
                    · refine lv_aload_n hx hb dX5_setLimit_100 rfl (lv_at hl 0 rfl) ?_
                      refine lv_iload_n hx hb dX5_setLimit_101 rfl (lv_at hl 1 rfl) ?_
                      refine lv_bipush (v := nI 33) hx hb dX5_setLimit_102 (by decide) ?_
                      refine lv_iload_n hx hb dX5_setLimit_104 rfl (lv_at hl 2 rfl) ?_
                      refine q_iaddN X dX5_setLimit_105 ?_
                      refine q_calli w (q_runS X w (c_X5_at l k h_36 q (33 + t)) (va_cwS 2 hts gX5_setLimit_X5_at rfl rfl rfl (by decide +kernel) ⟨Nat.le_of_ble_eq_true rfl, Nat.le_of_ble_eq_true rfl⟩) rfl hl.1 rfl (Nat.le_of_ble_eq_true rfl) dX5_setLimit_106 ⟨Nat.le_of_ble_eq_true rfl, Nat.le_of_ble_eq_true rfl⟩) (fun r_106 h_106 H locs hp w => ?_)
                      obtain ⟨er_106, eh_106⟩ := hp
                      rw [eh_106] at w
                      have er_106 : r_106 = nI (1 + 116 * q + (33 + t)) := er_106
                      subst er_106
                      refine lv_iload_n hx hb dX5_setLimit_109 rfl (lv_at hl 3 rfl) ?_
                      refine q_calli w (q_runV X w 91 (c_X5_changed l k h_36 (j := 1 + 116 * q + (33 + t)) (b := b) (by rw [eh_36, upI_s]; exact hs0) hs4 (by omega) z) (cwV 2 hts gX5_setLimit_X5_changed rfl rfl rfl (by decide +kernel) ⟨Nat.le_of_ble_eq_true rfl, Nat.le_of_ble_eq_true rfl⟩) (by decide) rfl rfl rfl hl.1 rfl (Nat.le_of_ble_eq_true rfl) dX5_setLimit_110 ⟨Nat.le_of_ble_eq_true rfl, Nat.le_of_ble_eq_true rfl⟩) (fun r_110 h_110 H locs hp w => ?_)
                      obtain ⟨er_110, eh_110⟩ := hp
                      exact hret _ _ _ _ _ _ _ _ dX5_setLimit_113 w rfl (Or.inl ⟨q, t, hq, ht, rfl, rfl, hd_21, (by subst eh_36; exact fun z9 => z9.elim c_61 c_80), (by rw [er_110]; subst eh_36; rfl), (by rw [eh_110, eh_36])⟩) (Nat.le_of_ble_eq_true rfl) (Nat.le_of_ble_eq_true rfl)
                    · exact absurd (by decide) c_93
                  · refine lv_aload_n hx hb dX5_setLimit_84 rfl (lv_at hl 0 rfl) ?_
                    refine lv_iconst (v := nI 3) hx hb dX5_setLimit_85 (by decide) ?_
                    refine q_put X w 91 3 .int (ci := 5) (by decide) rfl rfl rfl hi5 tyX5_ok nmX5 (by decide) (by decide +kernel) rfl (by decide +kernel) (rfl) (rfl) (Nat.le_of_ble_eq_true rfl) dX5_setLimit_86 (fun H locs w => ?_)
                    obtain ⟨h_86, eh_86⟩ : ∃ z9, z9 = upI h_36 91 3 (nI 3) := ⟨_, rfl⟩
                    rw [← eh_86] at w
                    have kT : h_86.1 91 3 = nI 3 := by rw [eh_86, upI_s]; rfl
                    refine lv_aload_n hx hb dX5_setLimit_89 rfl (lv_at hl 0 rfl) ?_
                    refine q_get X w 91 3 (ci := 5) (by decide) rfl rfl hi5 (by decide) (by decide +kernel) rfl dX5_setLimit_90 ?_
                    rw [kT]
                    refine lv_if_le (tgt := 100) hx hb dX5_setLimit_93 (by decide) (fun c_93 => ?_) (fun c_93 => ?_)
                    · exact absurd c_93 (by decide)
                    · refine lv_iconst (v := nI 0) hx hb dX5_setLimit_96 (by decide) ?_
                      refine lv_goto (tgt := 113) hx hb dX5_setLimit_97 (by decide) ?_
                      exact hret _ _ _ _ _ _ _ _ dX5_setLimit_113 w rfl (Or.inr (Or.inl ⟨q, t, hq, ht, rfl, rfl, hd_21, (by subst eh_36; first | exact Or.inl c_61 | exact Or.inr c_80), rfl, (by rw [eh_86, eh_36, upI_upI])⟩)) (Nat.le_of_ble_eq_true rfl) (Nat.le_of_ble_eq_true rfl)
          · subst er_21
            refine lv_if_eq (tgt := 31) hx hb dX5_setLimit_24 (by decide) (fun c_24 => ?_) (fun c_24 => ?_)
            · refine lv_iconst (v := nI 2) hx hb dX5_setLimit_31 (by decide) ?_
              refine lv_goto (tgt := 36) hx hb dX5_setLimit_32 (by decide) ?_
              refine q_put X w 91 3 .int (ci := 5) (by decide) rfl rfl rfl hi5 tyX5_ok nmX5 (by decide) (by decide +kernel) rfl (by decide +kernel) (rfl) (rfl) (Nat.le_of_ble_eq_true rfl) dX5_setLimit_36 (fun H locs w => ?_)
              obtain ⟨h_36, eh_36⟩ : ∃ z9, z9 = upI h 91 3 (nI 2) := ⟨_, rfl⟩
              rw [← eh_36] at w
              have kT : h_36.1 91 3 = nI 2 := by rw [eh_36, upI_s]; rfl
              refine lv_aload_n hx hb dX5_setLimit_39 rfl (lv_at hl 0 rfl) ?_
              refine q_get X w 91 3 (ci := 5) (by decide) rfl rfl hi5 (by decide) (by decide +kernel) rfl dX5_setLimit_40 ?_
              rw [kT]
              refine lv_if_ne (tgt := 89) hx hb dX5_setLimit_43 (by decide) (fun c_43 => ?_) (fun c_43 => ?_)
              · refine lv_aload_n hx hb dX5_setLimit_89 rfl (lv_at hl 0 rfl) ?_
                refine q_get X w 91 3 (ci := 5) (by decide) rfl rfl hi5 (by decide) (by decide +kernel) rfl dX5_setLimit_90 ?_
                rw [kT]
                refine lv_if_le (tgt := 100) hx hb dX5_setLimit_93 (by decide) (fun c_93 => ?_) (fun c_93 => ?_)
                · exact absurd c_93 (by decide)
                · refine lv_iconst (v := nI 0) hx hb dX5_setLimit_96 (by decide) ?_
                  refine lv_goto (tgt := 113) hx hb dX5_setLimit_97 (by decide) ?_
                  exact hret _ _ _ _ _ _ _ _ dX5_setLimit_113 w rfl (Or.inr (Or.inr (Or.inl ⟨⟨q, hq, rfl⟩, ⟨t, ht, rfl⟩, hd_21, rfl, eh_36⟩))) (Nat.le_of_ble_eq_true rfl) (Nat.le_of_ble_eq_true rfl)
              · exact absurd c_43 (by decide)
            · exact absurd (by decide) c_24
      · subst er_9
        refine lv_if_eq (tgt := 35) hx hb dX5_setLimit_12 (by decide) (fun c_12 => ?_) (fun c_12 => ?_)
        · refine lv_iconst (v := nI 1) hx hb dX5_setLimit_35 (by decide) ?_
          refine q_put X w 91 3 .int (ci := 5) (by decide) rfl rfl rfl hi5 tyX5_ok nmX5 (by decide) (by decide +kernel) rfl (by decide +kernel) (rfl) (rfl) (Nat.le_of_ble_eq_true rfl) dX5_setLimit_36 (fun H locs w => ?_)
          obtain ⟨h_36, eh_36⟩ : ∃ z9, z9 = upI h 91 3 (nI 1) := ⟨_, rfl⟩
          rw [← eh_36] at w
          have kT : h_36.1 91 3 = nI 1 := by rw [eh_36, upI_s]; rfl
          refine lv_aload_n hx hb dX5_setLimit_39 rfl (lv_at hl 0 rfl) ?_
          refine q_get X w 91 3 (ci := 5) (by decide) rfl rfl hi5 (by decide) (by decide +kernel) rfl dX5_setLimit_40 ?_
          rw [kT]
          refine lv_if_ne (tgt := 89) hx hb dX5_setLimit_43 (by decide) (fun c_43 => ?_) (fun c_43 => ?_)
          · refine lv_aload_n hx hb dX5_setLimit_89 rfl (lv_at hl 0 rfl) ?_
            refine q_get X w 91 3 (ci := 5) (by decide) rfl rfl hi5 (by decide) (by decide +kernel) rfl dX5_setLimit_90 ?_
            rw [kT]
            refine lv_if_le (tgt := 100) hx hb dX5_setLimit_93 (by decide) (fun c_93 => ?_) (fun c_93 => ?_)
            · exact absurd c_93 (by decide)
            · refine lv_iconst (v := nI 0) hx hb dX5_setLimit_96 (by decide) ?_
              refine lv_goto (tgt := 113) hx hb dX5_setLimit_97 (by decide) ?_
              exact hret _ _ _ _ _ _ _ _ dX5_setLimit_113 w rfl (Or.inr (Or.inr (Or.inr ⟨fun z9 => hd_9 z9.2, rfl, eh_36⟩))) (Nat.le_of_ble_eq_true rfl) (Nat.le_of_ble_eq_true rfl)
          · exact absurd c_43 (by decide)
        · exact absurd (by decide) c_12
  · subst er_2
    refine lv_if_eq (tgt := 35) hx hb dX5_setLimit_5 (by decide) (fun c_5 => ?_) (fun c_5 => ?_)
    · refine lv_iconst (v := nI 1) hx hb dX5_setLimit_35 (by decide) ?_
      refine q_put X w 91 3 .int (ci := 5) (by decide) rfl rfl rfl hi5 tyX5_ok nmX5 (by decide) (by decide +kernel) rfl (by decide +kernel) (rfl) (rfl) (Nat.le_of_ble_eq_true rfl) dX5_setLimit_36 (fun H locs w => ?_)
      obtain ⟨h_36, eh_36⟩ : ∃ z9, z9 = upI h 91 3 (nI 1) := ⟨_, rfl⟩
      rw [← eh_36] at w
      have kT : h_36.1 91 3 = nI 1 := by rw [eh_36, upI_s]; rfl
      refine lv_aload_n hx hb dX5_setLimit_39 rfl (lv_at hl 0 rfl) ?_
      refine q_get X w 91 3 (ci := 5) (by decide) rfl rfl hi5 (by decide) (by decide +kernel) rfl dX5_setLimit_40 ?_
      rw [kT]
      refine lv_if_ne (tgt := 89) hx hb dX5_setLimit_43 (by decide) (fun c_43 => ?_) (fun c_43 => ?_)
      · refine lv_aload_n hx hb dX5_setLimit_89 rfl (lv_at hl 0 rfl) ?_
        refine q_get X w 91 3 (ci := 5) (by decide) rfl rfl hi5 (by decide) (by decide +kernel) rfl dX5_setLimit_90 ?_
        rw [kT]
        refine lv_if_le (tgt := 100) hx hb dX5_setLimit_93 (by decide) (fun c_93 => ?_) (fun c_93 => ?_)
        · exact absurd c_93 (by decide)
        · refine lv_iconst (v := nI 0) hx hb dX5_setLimit_96 (by decide) ?_
          refine lv_goto (tgt := 113) hx hb dX5_setLimit_97 (by decide) ?_
          exact hret _ _ _ _ _ _ _ _ dX5_setLimit_113 w rfl (Or.inr (Or.inr (Or.inr ⟨fun z9 => hd_2 z9.1, rfl, eh_36⟩))) (Nat.le_of_ble_eq_true rfl) (Nat.le_of_ble_eq_true rfl)
      · exact absurd c_43 (by decide)
    · exact absurd (by decide) c_5

abbrev rc_X5_undo : Room := { frames := 1, cells := 0, slots := 0, locals := 21 }
set_option maxHeartbeats 4000000 in
set_option maxRecDepth 100000 in
theorem c_X5_undo (l : Launch) (k : kY) (h : hS)  {b : Nat} (hs0 : h.1 91 2 = nI b) (hs4 : b ≤ 4) : CT l k yX5_undo wsX5_undo rc_X5_undo [.ref (k.2.1 91)] h (QI k (fun r h' => (b = 0 ∧ r = nI 0 ∧ h' = upI h 91 3 (nI 1)) ∨ (1 ≤ b ∧ r = nI (b - 1) ∧ h' = mbk (upI h 91 3 (nI 0)) b))) 0 0 := by
  refine q_metI (cc := cX5_undo) (maxL := 1) (ret := some .int) (ty := .int) (by decide) rfl rfl (Nat.le_of_ble_eq_true rfl) ?_
  intro p e s m args below meth c Q ls X w hl hret
  have hx := X.1
  have hb := X.2.1
  have hown := X.2.2.2.1
  have hts := X.2.2.2.2
  have hl : lv_has ls 1 [(0, .ref (k.2.1 91))] := hl
  have hi5 : ∀ w ∈ u_ws RX5 TX5 6, w ∈ wsX5_undo := by decide +kernel
  refine lv_aload_n hx hb dX5_undo_0 rfl (lv_at hl 0 rfl) ?_
  refine lv_iconst (v := nI 0) hx hb dX5_undo_1 (by decide) ?_
  refine q_put X w 91 3 .int (ci := 5) (by decide) rfl rfl rfl hi5 tyX5_ok nmX5 (by decide) (by decide +kernel) rfl (by decide +kernel) (rfl) (rfl) (Nat.le_of_ble_eq_true rfl) dX5_undo_2 (fun H locs w => ?_)
  obtain ⟨h_2, eh_2⟩ : ∃ z9, z9 = upI h 91 3 (nI 0) := ⟨_, rfl⟩
  rw [← eh_2] at w
  have kT : h_2.1 91 3 = nI 0 := by rw [eh_2, upI_s]; rfl
  refine lv_aload_n hx hb dX5_undo_5 rfl (lv_at hl 0 rfl) ?_
  refine q_get X w 91 2 (ci := 5) (by decide) rfl rfl hi5 (by decide) (by decide +kernel) rfl dX5_undo_6 ?_
  have e6 : h_2.1 91 2 = nI b := by rw [eh_2, upI_s]; exact hs0
  rw [e6]
  refine lv_if_ne (tgt := 18) hx hb dX5_undo_9 (by decide) (fun c_9 => ?_) (fun c_9 => ?_)
  · have hs1 : 1 ≤ b := Nat.pos_of_ne_zero (fun z9 => c_9 (by subst z9; decide))
    refine lv_aload_n hx hb dX5_undo_18 rfl (lv_at hl 0 rfl) ?_
    refine q_callv w (q_runV X w 91 (c_X5_back l k h_2 (b := b) e6 hs1 hs4) (cwV 0 hts gX5_undo_X5_back rfl rfl rfl (by decide +kernel) ⟨Nat.le_of_ble_eq_true rfl, Nat.le_of_ble_eq_true rfl⟩) (by decide) rfl rfl rfl hl.1 rfl (Nat.le_of_ble_eq_true rfl) dX5_undo_19 ⟨Nat.le_of_ble_eq_true rfl, Nat.le_of_ble_eq_true rfl⟩) (fun h_19 H locs hp w => ?_)
    have eh_19 := hp
    refine lv_aload_n hx hb dX5_undo_22 rfl (lv_at hl 0 rfl) ?_
    refine q_get X w 91 2 (ci := 5) (by decide) rfl rfl hi5 (by decide) (by decide +kernel) rfl dX5_undo_23 ?_
    have e23 : h_19.1 91 2 = nI (b - 1) := by rw [eh_19]; show (upI h_2 91 2 (nI (b - 1))).1 91 2 = _; rw [upI_s]; rfl
    rw [e23]
    exact hret _ _ _ _ _ _ _ _ dX5_undo_26 w rfl (Or.inr ⟨hs1, rfl, (by rw [eh_19, eh_2])⟩) (Nat.le_of_ble_eq_true rfl) (Nat.le_of_ble_eq_true rfl)
  · refine lv_aload_n hx hb dX5_undo_12 rfl (lv_at hl 0 rfl) ?_
    refine lv_iconst (v := nI 1) hx hb dX5_undo_13 (by decide) ?_
    refine q_calli w (q_runV X w 91 (c_X5_bad l k h_2 (nI 1)) (cwV 1 hts gX5_undo_X5_bad rfl rfl rfl (by decide +kernel) ⟨Nat.le_of_ble_eq_true rfl, Nat.le_of_ble_eq_true rfl⟩) (by decide) rfl rfl rfl hl.1 rfl (Nat.le_of_ble_eq_true rfl) dX5_undo_14 ⟨Nat.le_of_ble_eq_true rfl, Nat.le_of_ble_eq_true rfl⟩) (fun r_14 h_14 H locs hp w => ?_)
    obtain ⟨er_14, eh_14⟩ := hp
    have er_14 : r_14 = nI 0 := er_14
    subst er_14
    exact hret _ _ _ _ _ _ _ _ dX5_undo_17 w rfl (Or.inl ⟨nI_z (by omega) c_9, rfl, (by rw [eh_14, eh_2, upI_upI])⟩) (Nat.le_of_ble_eq_true rfl) (Nat.le_of_ble_eq_true rfl)

abbrev rc_X5_resend : Room := { frames := 2, cells := 0, slots := 0, locals := 45 }
set_option maxHeartbeats 4000000 in
set_option maxRecDepth 100000 in
theorem c_X5_resend (l : Launch) (k : kY) (h : hS) (x : Int32) {b : Nat} (hs0 : h.1 91 2 = nI b) (hs4 : b ≤ 4) : CT l k yX5_resend wsX5_resend rc_X5_resend [.ref (k.2.1 91), .int x] h (QI k (fun r h' => (∃ q : Nat, q < 2 ∧ x = nI q ∧ ¬ h.2.1 92 (1 + 116 * q + 97) = 0 ∧ r = (h.2.1 92 (1 + 116 * q + 98)).toInt32 ∧ h' = setL (msv (upI h 91 3 (nI 0)) b) 92 (msd (h.2.1 92) q)) ∨ (∃ q : Nat, q < 2 ∧ x = nI q ∧ h.2.1 92 (1 + 116 * q + 97) = 0 ∧ r = nI 0 ∧ h' = upI h 91 3 (nI 2)) ∨ (¬ isP x ∧ r = nI 0 ∧ h' = upI h 91 3 (nI 1)))) 0 0 := by
  refine q_metI (cc := cX5_resend) (maxL := 2) (ret := some .int) (ty := .int) (by decide) rfl rfl (Nat.le_of_ble_eq_true rfl) ?_
  intro p e s m args below meth c Q ls X w hl hret
  have hx := X.1
  have hb := X.2.1
  have hown := X.2.2.2.1
  have hts := X.2.2.2.2
  have hl : lv_has ls 2 [(0, .ref (k.2.1 91)), (1, .int x)] := hl
  have hi5 : ∀ w ∈ u_ws RX5 TX5 6, w ∈ wsX5_resend := by decide +kernel
  refine lv_aload_n hx hb dX5_resend_0 rfl (lv_at hl 0 rfl) ?_
  refine lv_iload_n hx hb dX5_resend_1 rfl (lv_at hl 1 rfl) ?_
  refine q_calli w (q_runS X w (c_X5_isPair l k h x) (va_cwS 1 hts gX5_resend_X5_isPair rfl rfl rfl (by decide +kernel) ⟨Nat.le_of_ble_eq_true rfl, Nat.le_of_ble_eq_true rfl⟩) rfl hl.1 rfl (Nat.le_of_ble_eq_true rfl) dX5_resend_2 ⟨Nat.le_of_ble_eq_true rfl, Nat.le_of_ble_eq_true rfl⟩) (fun r_2 h_2 H locs hp w => ?_)
  obtain ⟨hp, eh_2⟩ := hp
  rw [eh_2] at w
  rcases hp with ⟨hd_2, er_2⟩ | ⟨hd_2, er_2⟩
  · subst er_2
    obtain ⟨q, hq, rfl⟩ := hd_2
    refine lv_if_eq (tgt := 12) hx hb dX5_resend_5 (by decide) (fun c_5 => ?_) (fun c_5 => ?_)
    · exact absurd c_5 (by decide)
    · refine lv_iconst (v := nI 0) hx hb dX5_resend_8 (by decide) ?_
      refine lv_goto (tgt := 13) hx hb dX5_resend_9 (by decide) ?_
      refine q_put X w 91 3 .int (ci := 5) (by decide) rfl rfl rfl hi5 tyX5_ok nmX5 (by decide) (by decide +kernel) rfl (by decide +kernel) (rfl) (rfl) (Nat.le_of_ble_eq_true rfl) dX5_resend_13 (fun H locs w => ?_)
      obtain ⟨h_13, eh_13⟩ : ∃ z9, z9 = upI h 91 3 (nI 0) := ⟨_, rfl⟩
      rw [← eh_13] at w
      have kT : h_13.1 91 3 = nI 0 := by rw [eh_13, upI_s]; rfl
      refine lv_aload_n hx hb dX5_resend_16 rfl (lv_at hl 0 rfl) ?_
      refine q_get X w 91 3 (ci := 5) (by decide) rfl rfl hi5 (by decide) (by decide +kernel) rfl dX5_resend_17 ?_
      rw [kT]
      refine lv_if_le (tgt := 25) hx hb dX5_resend_20 (by decide) (fun c_20 => ?_) (fun c_20 => ?_)
      · refine lv_aload_n hx hb dX5_resend_25 rfl (lv_at hl 0 rfl) ?_
        refine q_get X w 91 0 (ci := 5) (by decide) rfl rfl hi5 (by decide) (by decide +kernel) rfl dX5_resend_26 ?_
        refine lv_iload_n hx hb dX5_resend_29 rfl (lv_at hl 1 rfl) ?_
        refine lv_bipush (v := nI 97) hx hb dX5_resend_30 (by decide) ?_
        refine q_calli w (q_runS X w (c_X5_at l k h_13 q 97) (va_cwS 2 hts gX5_resend_X5_at rfl rfl rfl (by decide +kernel) ⟨Nat.le_of_ble_eq_true rfl, Nat.le_of_ble_eq_true rfl⟩) rfl hl.1 rfl (Nat.le_of_ble_eq_true rfl) dX5_resend_32 ⟨Nat.le_of_ble_eq_true rfl, Nat.le_of_ble_eq_true rfl⟩) (fun r_32 h_32 H locs hp w => ?_)
        obtain ⟨er_32, eh_32⟩ := hp
        rw [eh_32] at w
        have er_32 : r_32 = nI (1 + 116 * q + 97) := er_32
        subst er_32
        refine q_lald X w 92 (1 + 116 * q + 97) (by decide) (fun _ => rfl) rfl (show (1 + 116 * q + 97) < 233 by omega) (by decide) dX5_resend_35 ?_
        refine lv_lconst (v := 0) hx hb dX5_resend_36 (by decide) ?_
        refine q_lif_ne X (tgt := 47) dX5_resend_37 dX5_resend_38 (by decide) (fun c_37 => ?_) (fun c_37 => ?_)
        · refine lv_aload_n hx hb dX5_resend_47 rfl (lv_at hl 0 rfl) ?_
          refine q_callv w (q_runV X w 91 (c_X5_save l k h_13 (b := b) (by rw [eh_13, upI_s]; exact hs0) hs4) (cwV 0 hts gX5_resend_X5_save rfl rfl rfl (by decide +kernel) ⟨Nat.le_of_ble_eq_true rfl, Nat.le_of_ble_eq_true rfl⟩) (by decide) rfl rfl rfl hl.1 rfl (Nat.le_of_ble_eq_true rfl) dX5_resend_48 ⟨Nat.le_of_ble_eq_true rfl, Nat.le_of_ble_eq_true rfl⟩) (fun h_48 H locs hp w => ?_)
          have eh_48 := hp
          refine lv_aload_n hx hb dX5_resend_51 rfl (lv_at hl 0 rfl) ?_
          refine lv_iload_n hx hb dX5_resend_52 rfl (lv_at hl 1 rfl) ?_
          refine q_calli w (q_runV X w 91 (c_X5_send l k h_48 (q := q) (by omega)) (cwV 1 hts gX5_resend_X5_send rfl rfl rfl (by decide +kernel) ⟨Nat.le_of_ble_eq_true rfl, Nat.le_of_ble_eq_true rfl⟩) (by decide) rfl rfl rfl hl.1 rfl (Nat.le_of_ble_eq_true rfl) dX5_resend_53 ⟨Nat.le_of_ble_eq_true rfl, Nat.le_of_ble_eq_true rfl⟩) (fun r_53 h_53 H locs hp w => ?_)
          obtain ⟨er_53, eh_53⟩ := hp
          exact hret _ _ _ _ _ _ _ _ dX5_resend_56 w rfl (Or.inl ⟨q, hq, rfl, (by subst eh_13; exact c_37), (by rw [er_53, eh_48, msv_92]; subst eh_13; rfl), (by rw [eh_53, eh_48, msv_92]; subst eh_13; rfl)⟩) (Nat.le_of_ble_eq_true rfl) (Nat.le_of_ble_eq_true rfl)
        · refine lv_aload_n hx hb dX5_resend_41 rfl (lv_at hl 0 rfl) ?_
          refine lv_iconst (v := nI 2) hx hb dX5_resend_42 (by decide) ?_
          refine q_calli w (q_runV X w 91 (c_X5_bad l k h_13 (nI 2)) (cwV 1 hts gX5_resend_X5_bad rfl rfl rfl (by decide +kernel) ⟨Nat.le_of_ble_eq_true rfl, Nat.le_of_ble_eq_true rfl⟩) (by decide) rfl rfl rfl hl.1 rfl (Nat.le_of_ble_eq_true rfl) dX5_resend_43 ⟨Nat.le_of_ble_eq_true rfl, Nat.le_of_ble_eq_true rfl⟩) (fun r_43 h_43 H locs hp w => ?_)
          obtain ⟨er_43, eh_43⟩ := hp
          have er_43 : r_43 = nI 0 := er_43
          subst er_43
          exact hret _ _ _ _ _ _ _ _ dX5_resend_46 w rfl (Or.inr (Or.inl ⟨q, hq, rfl, (by subst eh_13; exact c_37), rfl, (by rw [eh_43, eh_13, upI_upI])⟩)) (Nat.le_of_ble_eq_true rfl) (Nat.le_of_ble_eq_true rfl)
      · exact absurd (by decide) c_20
  · subst er_2
    refine lv_if_eq (tgt := 12) hx hb dX5_resend_5 (by decide) (fun c_5 => ?_) (fun c_5 => ?_)
    · refine lv_iconst (v := nI 1) hx hb dX5_resend_12 (by decide) ?_
      refine q_put X w 91 3 .int (ci := 5) (by decide) rfl rfl rfl hi5 tyX5_ok nmX5 (by decide) (by decide +kernel) rfl (by decide +kernel) (rfl) (rfl) (Nat.le_of_ble_eq_true rfl) dX5_resend_13 (fun H locs w => ?_)
      obtain ⟨h_13, eh_13⟩ : ∃ z9, z9 = upI h 91 3 (nI 1) := ⟨_, rfl⟩
      rw [← eh_13] at w
      have kT : h_13.1 91 3 = nI 1 := by rw [eh_13, upI_s]; rfl
      refine lv_aload_n hx hb dX5_resend_16 rfl (lv_at hl 0 rfl) ?_
      refine q_get X w 91 3 (ci := 5) (by decide) rfl rfl hi5 (by decide) (by decide +kernel) rfl dX5_resend_17 ?_
      rw [kT]
      refine lv_if_le (tgt := 25) hx hb dX5_resend_20 (by decide) (fun c_20 => ?_) (fun c_20 => ?_)
      · exact absurd c_20 (by decide)
      · refine lv_iconst (v := nI 0) hx hb dX5_resend_23 (by decide) ?_
        exact hret _ _ _ _ _ _ _ _ dX5_resend_24 w rfl (Or.inr (Or.inr ⟨hd_2, rfl, eh_13⟩)) (Nat.le_of_ble_eq_true rfl) (Nat.le_of_ble_eq_true rfl)
    · exact absurd (by decide) c_5

abbrev rc_X5_loadRate : Room := { frames := 6, cells := 0, slots := 0, locals := 138 }
set_option maxHeartbeats 4000000 in
set_option maxRecDepth 100000 in
theorem c_X5_loadRate (l : Launch) (k : kY) (h : hS) (x : Int32) {b : Nat} (hs0 : h.1 91 2 = nI b) (hs4 : b ≤ 4) {F : Nat} {R2 : Nat → Nat → Int64} (hF : ∀ q : Nat, q < 2 → mld q F (mcl (h.2.1 92) q) 0 = some (R2 q)) : CT l k yX5_loadRate wsX5_loadRate rc_X5_loadRate [.ref (k.2.1 91), .int x] h (QI k (fun r h' => (∃ q : Nat, q < 2 ∧ x = nI q ∧ r = (sumL (fun t => mfi (R2 q) q (1 + 116 * q + (49 + t))) 16).toInt32 ∧ h' = setL (msv (upI h 91 3 (nI 0)) b) 92 (mfi (R2 q) q)) ∨ (¬ isP x ∧ r = nI 0 ∧ h' = upI h 91 3 (nI 1)))) 0 0 := by
  refine q_metI (cc := cX5_loadRate) (maxL := 2) (ret := some .int) (ty := .int) (by decide) rfl rfl (Nat.le_of_ble_eq_true rfl) ?_
  intro p e s m args below meth c Q ls X w hl hret
  have hx := X.1
  have hb := X.2.1
  have hown := X.2.2.2.1
  have hts := X.2.2.2.2
  have hl : lv_has ls 2 [(0, .ref (k.2.1 91)), (1, .int x)] := hl
  have hi5 : ∀ w ∈ u_ws RX5 TX5 6, w ∈ wsX5_loadRate := by decide +kernel
  refine lv_aload_n hx hb dX5_loadRate_0 rfl (lv_at hl 0 rfl) ?_
  refine lv_iload_n hx hb dX5_loadRate_1 rfl (lv_at hl 1 rfl) ?_
  refine q_calli w (q_runS X w (c_X5_isPair l k h x) (va_cwS 1 hts gX5_loadRate_X5_isPair rfl rfl rfl (by decide +kernel) ⟨Nat.le_of_ble_eq_true rfl, Nat.le_of_ble_eq_true rfl⟩) rfl hl.1 rfl (Nat.le_of_ble_eq_true rfl) dX5_loadRate_2 ⟨Nat.le_of_ble_eq_true rfl, Nat.le_of_ble_eq_true rfl⟩) (fun r_2 h_2 H locs hp w => ?_)
  obtain ⟨hp, eh_2⟩ := hp
  rw [eh_2] at w
  rcases hp with ⟨hd_2, er_2⟩ | ⟨hd_2, er_2⟩
  · subst er_2
    obtain ⟨q, hq, rfl⟩ := hd_2
    refine lv_if_eq (tgt := 12) hx hb dX5_loadRate_5 (by decide) (fun c_5 => ?_) (fun c_5 => ?_)
    · exact absurd c_5 (by decide)
    · refine lv_iconst (v := nI 0) hx hb dX5_loadRate_8 (by decide) ?_
      refine lv_goto (tgt := 13) hx hb dX5_loadRate_9 (by decide) ?_
      refine q_put X w 91 3 .int (ci := 5) (by decide) rfl rfl rfl hi5 tyX5_ok nmX5 (by decide) (by decide +kernel) rfl (by decide +kernel) (rfl) (rfl) (Nat.le_of_ble_eq_true rfl) dX5_loadRate_13 (fun H locs w => ?_)
      obtain ⟨h_13, eh_13⟩ : ∃ z9, z9 = upI h 91 3 (nI 0) := ⟨_, rfl⟩
      rw [← eh_13] at w
      have kT : h_13.1 91 3 = nI 0 := by rw [eh_13, upI_s]; rfl
      refine lv_aload_n hx hb dX5_loadRate_16 rfl (lv_at hl 0 rfl) ?_
      refine q_get X w 91 3 (ci := 5) (by decide) rfl rfl hi5 (by decide) (by decide +kernel) rfl dX5_loadRate_17 ?_
      rw [kT]
      refine lv_if_le (tgt := 25) hx hb dX5_loadRate_20 (by decide) (fun c_20 => ?_) (fun c_20 => ?_)
      · refine lv_aload_n hx hb dX5_loadRate_25 rfl (lv_at hl 0 rfl) ?_
        refine q_callv w (q_runV X w 91 (c_X5_save l k h_13 (b := b) (by rw [eh_13, upI_s]; exact hs0) hs4) (cwV 0 hts gX5_loadRate_X5_save rfl rfl rfl (by decide +kernel) ⟨Nat.le_of_ble_eq_true rfl, Nat.le_of_ble_eq_true rfl⟩) (by decide) rfl rfl rfl hl.1 rfl (Nat.le_of_ble_eq_true rfl) dX5_loadRate_26 ⟨Nat.le_of_ble_eq_true rfl, Nat.le_of_ble_eq_true rfl⟩) (fun h_26 H locs hp w => ?_)
        have eh_26 := hp
        refine lv_aload_n hx hb dX5_loadRate_29 rfl (lv_at hl 0 rfl) ?_
        refine lv_iload_n hx hb dX5_loadRate_30 rfl (lv_at hl 1 rfl) ?_
        refine q_callv w (q_runV X w 91 (c_X5_load l k h_26 (q := q) (by omega) (F := F) (R2 := R2 q) (by rw [eh_26, msv_92]; subst eh_13; exact hF q hq)) (cwV 1 hts gX5_loadRate_X5_load rfl rfl rfl (by decide +kernel) ⟨Nat.le_of_ble_eq_true rfl, Nat.le_of_ble_eq_true rfl⟩) (by decide) rfl rfl rfl hl.1 rfl (Nat.le_of_ble_eq_true rfl) dX5_loadRate_31 ⟨Nat.le_of_ble_eq_true rfl, Nat.le_of_ble_eq_true rfl⟩) (fun h_31 H locs hp w => ?_)
        have eh_31 := hp
        refine lv_aload_n hx hb dX5_loadRate_34 rfl (lv_at hl 0 rfl) ?_
        refine lv_iload_n hx hb dX5_loadRate_35 rfl (lv_at hl 1 rfl) ?_
        refine q_calli w (q_runV X w 91 (c_X5_rateOf l k h_31 (q := q) (by omega)) (cwV 1 hts gX5_loadRate_X5_rateOf rfl rfl rfl (by decide +kernel) ⟨Nat.le_of_ble_eq_true rfl, Nat.le_of_ble_eq_true rfl⟩) (by decide) rfl rfl rfl hl.1 rfl (Nat.le_of_ble_eq_true rfl) dX5_loadRate_36 ⟨Nat.le_of_ble_eq_true rfl, Nat.le_of_ble_eq_true rfl⟩) (fun r_36 h_36 H locs hp w => ?_)
        obtain ⟨er_36, eh_36⟩ := hp
        rw [eh_36] at w
        have er_36 : r_36 = (sumL (fun t => h_31.2.1 92 (1 + 116 * q + (49 + t))) 16).toInt32 := er_36
        subst er_36
        exact hret _ _ _ _ _ _ _ _ dX5_loadRate_39 w rfl (Or.inl ⟨q, hq, rfl, (by rw [eh_31, setL_s]), (by rw [eh_31, eh_26]; subst eh_13; rfl)⟩) (Nat.le_of_ble_eq_true rfl) (Nat.le_of_ble_eq_true rfl)
      · exact absurd (by decide) c_20
  · subst er_2
    refine lv_if_eq (tgt := 12) hx hb dX5_loadRate_5 (by decide) (fun c_5 => ?_) (fun c_5 => ?_)
    · refine lv_iconst (v := nI 1) hx hb dX5_loadRate_12 (by decide) ?_
      refine q_put X w 91 3 .int (ci := 5) (by decide) rfl rfl rfl hi5 tyX5_ok nmX5 (by decide) (by decide +kernel) rfl (by decide +kernel) (rfl) (rfl) (Nat.le_of_ble_eq_true rfl) dX5_loadRate_13 (fun H locs w => ?_)
      obtain ⟨h_13, eh_13⟩ : ∃ z9, z9 = upI h 91 3 (nI 1) := ⟨_, rfl⟩
      rw [← eh_13] at w
      have kT : h_13.1 91 3 = nI 1 := by rw [eh_13, upI_s]; rfl
      refine lv_aload_n hx hb dX5_loadRate_16 rfl (lv_at hl 0 rfl) ?_
      refine q_get X w 91 3 (ci := 5) (by decide) rfl rfl hi5 (by decide) (by decide +kernel) rfl dX5_loadRate_17 ?_
      rw [kT]
      refine lv_if_le (tgt := 25) hx hb dX5_loadRate_20 (by decide) (fun c_20 => ?_) (fun c_20 => ?_)
      · exact absurd c_20 (by decide)
      · refine lv_iconst (v := nI 0) hx hb dX5_loadRate_23 (by decide) ?_
        exact hret _ _ _ _ _ _ _ _ dX5_loadRate_24 w rfl (Or.inr ⟨hd_2, rfl, eh_13⟩) (Nat.le_of_ble_eq_true rfl) (Nat.le_of_ble_eq_true rfl)
    · exact absurd (by decide) c_5

abbrev rc_X5_bits : Room := { frames := 3, cells := 0, slots := 0, locals := 67 }
set_option maxHeartbeats 4000000 in
set_option maxRecDepth 100000 in
theorem c_X5_bits (l : Launch) (k : kY) (h : hS) (x y z : Int32) : CT l k yX5_bits wsX5_bits rc_X5_bits [.ref (k.2.1 91), .int x, .int y, .int z] h (QI k (fun r h' => (∃ q t v : Nat, q < 2 ∧ t < 16 ∧ v < 2 ∧ x = nI q ∧ y = nI t ∧ z = nI v ∧ r = (h.2.1 92 (1 + 116 * q + (49 + 16 * v + t))).toInt32 ∧ h' = upI h 91 3 (nI 0)) ∨ (isP x ∧ isT y ∧ ¬ isP z ∧ r = nI 0 ∧ h' = upI h 91 3 (nI 2)) ∨ (¬ (isP x ∧ isT y) ∧ r = nI 0 ∧ h' = upI h 91 3 (nI 1)))) 0 0 := by
  refine q_metI (cc := cX5_bits) (maxL := 4) (ret := some .int) (ty := .int) (by decide) rfl rfl (Nat.le_of_ble_eq_true rfl) ?_
  intro p e s m args below meth c Q ls X w hl hret
  have hx := X.1
  have hb := X.2.1
  have hown := X.2.2.2.1
  have hts := X.2.2.2.2
  have hl : lv_has ls 4 [(0, .ref (k.2.1 91)), (1, .int x), (2, .int y), (3, .int z)] := hl
  have hi5 : ∀ w ∈ u_ws RX5 TX5 6, w ∈ wsX5_bits := by decide +kernel
  refine lv_aload_n hx hb dX5_bits_0 rfl (lv_at hl 0 rfl) ?_
  refine lv_iload_n hx hb dX5_bits_1 rfl (lv_at hl 1 rfl) ?_
  refine lv_iload_n hx hb dX5_bits_2 rfl (lv_at hl 2 rfl) ?_
  refine q_callv w (q_runV X w 91 (c_X5_toneCheck l k h x y) (cwV 2 hts gX5_bits_X5_toneCheck rfl rfl rfl (by decide +kernel) ⟨Nat.le_of_ble_eq_true rfl, Nat.le_of_ble_eq_true rfl⟩) (by decide) rfl rfl rfl hl.1 rfl (Nat.le_of_ble_eq_true rfl) dX5_bits_3 ⟨Nat.le_of_ble_eq_true rfl, Nat.le_of_ble_eq_true rfl⟩) (fun h_3 H locs hp w => ?_)
  rcases hp with ⟨hd_3, hd2_3, eh_3⟩ | ⟨hd_3, eh_3⟩
  · obtain ⟨q, hq, rfl⟩ := hd_3
    obtain ⟨t, ht, rfl⟩ := hd2_3
    have kT : h_3.1 91 3 = nI 0 := by rw [eh_3, upI_s]; rfl
    refine lv_aload_n hx hb dX5_bits_6 rfl (lv_at hl 0 rfl) ?_
    refine lv_aload_n hx hb dX5_bits_7 rfl (lv_at hl 0 rfl) ?_
    refine q_get X w 91 3 (ci := 5) (by decide) rfl rfl hi5 (by decide) (by decide +kernel) rfl dX5_bits_8 ?_
    rw [kT]
    refine lv_if_ne (tgt := 28) hx hb dX5_bits_11 (by decide) (fun c_11 => ?_) (fun c_11 => ?_)
    · exact absurd (by decide) c_11
    · refine lv_iload_n hx hb dX5_bits_14 rfl (lv_at hl 3 rfl) ?_
      refine lv_i2l hx hb dX5_bits_15 rfl ?_
      refine lv_lconst (v := 0) hx hb dX5_bits_16 (by decide) ?_
      refine lv_lconst (v := 1) hx hb dX5_bits_17 (by decide) ?_
      refine q_calli w (q_runS X w (c_X5_in l k h_3 z.toInt64 0 1) (va_cwS 3 hts gX5_bits_X5_in rfl rfl rfl (by decide +kernel) ⟨Nat.le_of_ble_eq_true rfl, Nat.le_of_ble_eq_true rfl⟩) rfl hl.1 rfl (Nat.le_of_ble_eq_true rfl) dX5_bits_18 ⟨Nat.le_of_ble_eq_true rfl, Nat.le_of_ble_eq_true rfl⟩) (fun r_18 h_18 H locs hp w => ?_)
      obtain ⟨hp, eh_18⟩ := hp
      rw [eh_18] at w
      rcases hp with ⟨hd_18, er_18⟩ | ⟨hd_18, er_18⟩
      · subst er_18
        obtain ⟨v9, hv9, rfl⟩ := isP_in.mp hd_18
        refine lv_if_ne (tgt := 28) hx hb dX5_bits_21 (by decide) (fun c_21 => ?_) (fun c_21 => ?_)
        · refine lv_aload_n hx hb dX5_bits_28 rfl (lv_at hl 0 rfl) ?_
          refine q_get X w 91 3 (ci := 5) (by decide) rfl rfl hi5 (by decide) (by decide +kernel) rfl dX5_bits_29 ?_
          rw [kT]
          refine q_put X w 91 3 .int (ci := 5) (by decide) rfl rfl rfl hi5 tyX5_ok nmX5 (by decide) (by decide +kernel) rfl (by decide +kernel) (rfl) (rfl) (Nat.le_of_ble_eq_true rfl) dX5_bits_32 (fun H locs w => ?_)
          obtain ⟨h_32, eh_32⟩ : ∃ z9, z9 = upI h_3 91 3 (nI 0) := ⟨_, rfl⟩
          rw [← eh_32] at w
          have kT : h_32.1 91 3 = nI 0 := by rw [eh_32, upI_s]; rfl
          refine lv_aload_n hx hb dX5_bits_35 rfl (lv_at hl 0 rfl) ?_
          refine q_get X w 91 3 (ci := 5) (by decide) rfl rfl hi5 (by decide) (by decide +kernel) rfl dX5_bits_36 ?_
          rw [kT]
          refine lv_if_le (tgt := 46) hx hb dX5_bits_39 (by decide) (fun c_39 => ?_) (fun c_39 => ?_)
          · refine lv_aload_n hx hb dX5_bits_46 rfl (lv_at hl 0 rfl) ?_
            refine q_get X w 91 0 (ci := 5) (by decide) rfl rfl hi5 (by decide) (by decide +kernel) rfl dX5_bits_47 ?_
            refine lv_iload_n hx hb dX5_bits_50 rfl (lv_at hl 1 rfl) ?_
            refine lv_bipush (v := nI 49) hx hb dX5_bits_51 (by decide) ?_
            refine lv_bipush (v := nI 16) hx hb dX5_bits_53 (by decide) ?_
            refine lv_iload_n hx hb dX5_bits_55 rfl (lv_at hl 3 rfl) ?_
            refine q_imulN X dX5_bits_56 ?_
            refine q_iaddN X dX5_bits_57 ?_
            refine lv_iload_n hx hb dX5_bits_58 rfl (lv_at hl 2 rfl) ?_
            refine q_iaddN X dX5_bits_59 ?_
            refine q_calli w (q_runS X w (c_X5_at l k h_32 q ((49 + (16 * v9)) + t)) (va_cwS 2 hts gX5_bits_X5_at rfl rfl rfl (by decide +kernel) ⟨Nat.le_of_ble_eq_true rfl, Nat.le_of_ble_eq_true rfl⟩) rfl hl.1 rfl (Nat.le_of_ble_eq_true rfl) dX5_bits_60 ⟨Nat.le_of_ble_eq_true rfl, Nat.le_of_ble_eq_true rfl⟩) (fun r_60 h_60 H locs hp w => ?_)
            obtain ⟨er_60, eh_60⟩ := hp
            rw [eh_60] at w
            have er_60 : r_60 = nI (1 + 116 * q + ((49 + (16 * v9)) + t)) := er_60
            subst er_60
            refine q_lald X w 92 (1 + 116 * q + ((49 + (16 * v9)) + t)) (by decide) (fun _ => rfl) rfl (show (1 + 116 * q + ((49 + (16 * v9)) + t)) < 233 by omega) (by decide) dX5_bits_63 ?_
            refine lv_l2i hx hb dX5_bits_64 rfl ?_
            exact hret _ _ _ _ _ _ _ _ dX5_bits_65 w rfl (Or.inl ⟨q, t, v9, hq, ht, hv9, rfl, rfl, rfl, (by subst eh_32; subst eh_3; rfl), (by rw [eh_32, eh_3, upI_upI])⟩) (Nat.le_of_ble_eq_true rfl) (Nat.le_of_ble_eq_true rfl)
          · exact absurd (by decide) c_39
        · exact absurd c_21 (by decide)
      · subst er_18
        refine lv_if_ne (tgt := 28) hx hb dX5_bits_21 (by decide) (fun c_21 => ?_) (fun c_21 => ?_)
        · exact absurd (by decide) c_21
        · refine lv_iconst (v := nI 2) hx hb dX5_bits_24 (by decide) ?_
          refine lv_goto (tgt := 32) hx hb dX5_bits_25 (by decide) ?_
          refine q_put X w 91 3 .int (ci := 5) (by decide) rfl rfl rfl hi5 tyX5_ok nmX5 (by decide) (by decide +kernel) rfl (by decide +kernel) (rfl) (rfl) (Nat.le_of_ble_eq_true rfl) dX5_bits_32 (fun H locs w => ?_)
          obtain ⟨h_32, eh_32⟩ : ∃ z9, z9 = upI h_3 91 3 (nI 2) := ⟨_, rfl⟩
          rw [← eh_32] at w
          have kT : h_32.1 91 3 = nI 2 := by rw [eh_32, upI_s]; rfl
          refine lv_aload_n hx hb dX5_bits_35 rfl (lv_at hl 0 rfl) ?_
          refine q_get X w 91 3 (ci := 5) (by decide) rfl rfl hi5 (by decide) (by decide +kernel) rfl dX5_bits_36 ?_
          rw [kT]
          refine lv_if_le (tgt := 46) hx hb dX5_bits_39 (by decide) (fun c_39 => ?_) (fun c_39 => ?_)
          · exact absurd c_39 (by decide)
          · refine lv_iconst (v := nI 0) hx hb dX5_bits_42 (by decide) ?_
            refine lv_goto (tgt := 65) hx hb dX5_bits_43 (by decide) ?_
            exact hret _ _ _ _ _ _ _ _ dX5_bits_65 w rfl (Or.inr (Or.inl ⟨⟨q, hq, rfl⟩, ⟨t, ht, rfl⟩, fun z9 => hd_18 (isP_in.mpr z9), rfl, (by rw [eh_32, eh_3, upI_upI])⟩)) (Nat.le_of_ble_eq_true rfl) (Nat.le_of_ble_eq_true rfl)
  · have kT : h_3.1 91 3 = nI 1 := by rw [eh_3, upI_s]; rfl
    refine lv_aload_n hx hb dX5_bits_6 rfl (lv_at hl 0 rfl) ?_
    refine lv_aload_n hx hb dX5_bits_7 rfl (lv_at hl 0 rfl) ?_
    refine q_get X w 91 3 (ci := 5) (by decide) rfl rfl hi5 (by decide) (by decide +kernel) rfl dX5_bits_8 ?_
    rw [kT]
    refine lv_if_ne (tgt := 28) hx hb dX5_bits_11 (by decide) (fun c_11 => ?_) (fun c_11 => ?_)
    · refine lv_aload_n hx hb dX5_bits_28 rfl (lv_at hl 0 rfl) ?_
      refine q_get X w 91 3 (ci := 5) (by decide) rfl rfl hi5 (by decide) (by decide +kernel) rfl dX5_bits_29 ?_
      rw [kT]
      refine q_put X w 91 3 .int (ci := 5) (by decide) rfl rfl rfl hi5 tyX5_ok nmX5 (by decide) (by decide +kernel) rfl (by decide +kernel) (rfl) (rfl) (Nat.le_of_ble_eq_true rfl) dX5_bits_32 (fun H locs w => ?_)
      obtain ⟨h_32, eh_32⟩ : ∃ z9, z9 = upI h_3 91 3 (nI 1) := ⟨_, rfl⟩
      rw [← eh_32] at w
      have kT : h_32.1 91 3 = nI 1 := by rw [eh_32, upI_s]; rfl
      refine lv_aload_n hx hb dX5_bits_35 rfl (lv_at hl 0 rfl) ?_
      refine q_get X w 91 3 (ci := 5) (by decide) rfl rfl hi5 (by decide) (by decide +kernel) rfl dX5_bits_36 ?_
      rw [kT]
      refine lv_if_le (tgt := 46) hx hb dX5_bits_39 (by decide) (fun c_39 => ?_) (fun c_39 => ?_)
      · exact absurd c_39 (by decide)
      · refine lv_iconst (v := nI 0) hx hb dX5_bits_42 (by decide) ?_
        refine lv_goto (tgt := 65) hx hb dX5_bits_43 (by decide) ?_
        exact hret _ _ _ _ _ _ _ _ dX5_bits_65 w rfl (Or.inr (Or.inr ⟨hd_3, rfl, (by rw [eh_32, eh_3, upI_upI])⟩)) (Nat.le_of_ble_eq_true rfl) (Nat.le_of_ble_eq_true rfl)
    · exact absurd c_11 (by decide)
