abbrev rc_X5_meanBits : Room := { frames := 2, cells := 0, slots := 0, locals := 45 }
set_option maxHeartbeats 4000000 in
set_option maxRecDepth 100000 in
theorem c_X5_meanBits (l : Launch) (k : kY) (h : hS) (x : Int32) (hn : ∀ q : Nat, q < 2 → ∃ n : Nat, n < 193 ∧ (sumL (fun t => h.2.1 92 (1 + 116 * q + (49 + t))) 16).toInt32 = nI n) : CT l k yX5_meanBits wsX5_meanBits rc_X5_meanBits [.ref (k.2.1 91), .int x] h (QD k (fun r h' => (∃ q : Nat, q < 2 ∧ x = nI q ∧ r = FP.ddiv (FP.i2d ((sumL (fun t => h.2.1 92 (1 + 116 * q + (49 + t))) 16).toInt32)) 4625196817309499392 ∧ h' = upI h 91 3 (nI 0)) ∨ (¬ isP x ∧ r = 0 ∧ h' = upI h 91 3 (nI 1)))) 0 0 := by
  refine q_metD (cc := cX5_meanBits) (maxL := 2) (by decide) rfl (Nat.le_of_ble_eq_true rfl) ?_
  intro p e s m args below meth c Q ls X w hl hret
  have hx := X.1
  have hb := X.2.1
  have hown := X.2.2.2.1
  have hts := X.2.2.2.2
  have hl : lv_has ls 2 [(0, .ref (k.2.1 91)), (1, .int x)] := hl
  have hi5 : ∀ w ∈ u_ws RX5 TX5 6, w ∈ wsX5_meanBits := by decide +kernel
  refine lv_aload_n hx hb dX5_meanBits_0 rfl (lv_at hl 0 rfl) ?_
  refine lv_iload_n hx hb dX5_meanBits_1 rfl (lv_at hl 1 rfl) ?_
  refine q_calli w (q_runS X w (c_X5_isPair l k h x) (va_cwS 1 hts gX5_meanBits_X5_isPair rfl rfl rfl (by decide +kernel) ⟨Nat.le_of_ble_eq_true rfl, Nat.le_of_ble_eq_true rfl⟩) rfl hl.1 rfl (Nat.le_of_ble_eq_true rfl) dX5_meanBits_2 ⟨Nat.le_of_ble_eq_true rfl, Nat.le_of_ble_eq_true rfl⟩) (fun r_2 h_2 H locs hp w => ?_)
  obtain ⟨hp, eh_2⟩ := hp
  rw [eh_2] at w
  rcases hp with ⟨hd_2, er_2⟩ | ⟨hd_2, er_2⟩
  · subst er_2
    obtain ⟨q, hq, rfl⟩ := hd_2
    refine lv_if_eq (tgt := 12) hx hb dX5_meanBits_5 (by decide) (fun c_5 => ?_) (fun c_5 => ?_)
    · exact absurd c_5 (by decide)
    · refine lv_iconst (v := nI 0) hx hb dX5_meanBits_8 (by decide) ?_
      refine lv_goto (tgt := 13) hx hb dX5_meanBits_9 (by decide) ?_
      refine q_put X w 91 3 .int (ci := 5) (by decide) rfl rfl rfl hi5 tyX5_ok nmX5 (by decide) (by decide +kernel) rfl (by decide +kernel) (rfl) (rfl) (Nat.le_of_ble_eq_true rfl) dX5_meanBits_13 (fun H locs w => ?_)
      obtain ⟨h_13, eh_13⟩ : ∃ z9, z9 = upI h 91 3 (nI 0) := ⟨_, rfl⟩
      rw [← eh_13] at w
      have kT : h_13.1 91 3 = nI 0 := by rw [eh_13, upI_s]; rfl
      refine lv_aload_n hx hb dX5_meanBits_16 rfl (lv_at hl 0 rfl) ?_
      refine q_get X w 91 3 (ci := 5) (by decide) rfl rfl hi5 (by decide) (by decide +kernel) rfl dX5_meanBits_17 ?_
      rw [kT]
      refine lv_if_le (tgt := 27) hx hb dX5_meanBits_20 (by decide) (fun c_20 => ?_) (fun c_20 => ?_)
      · refine lv_aload_n hx hb dX5_meanBits_27 rfl (lv_at hl 0 rfl) ?_
        refine lv_iload_n hx hb dX5_meanBits_28 rfl (lv_at hl 1 rfl) ?_
        refine q_calli w (q_runV X w 91 (c_X5_rateOf l k h_13 (q := q) (by omega)) (cwV 1 hts gX5_meanBits_X5_rateOf rfl rfl rfl (by decide +kernel) ⟨Nat.le_of_ble_eq_true rfl, Nat.le_of_ble_eq_true rfl⟩) (by decide) rfl rfl rfl hl.1 rfl (Nat.le_of_ble_eq_true rfl) dX5_meanBits_29 ⟨Nat.le_of_ble_eq_true rfl, Nat.le_of_ble_eq_true rfl⟩) (fun r_29 h_29 H locs hp w => ?_)
        obtain ⟨er_29, eh_29⟩ := hp
        rw [eh_29] at w
        have er_29 : r_29 = (sumL (fun t => h_13.2.1 92 (1 + 116 * q + (49 + t))) 16).toInt32 := er_29
        subst er_29
        refine lv_i2d hx hb dX5_meanBits_32 ?_
        refine lv_ldc2d (v := 4625196817309499392) hx hb hown (hts (.constantDouble RX5 145 4625196817309499392) (by decide +kernel)) dX5_meanBits_33 ?_
        refine lv_ddiv hx hb dX5_meanBits_36 (by obtain ⟨n9, h1, h2⟩ := hn q hq; have h3 : (sumL (fun t => h_13.2.1 92 (1 + 116 * q + (49 + t))) 16).toInt32 = nI n9 := (by subst eh_13; exact h2); rw [h3]; exact nan16 n9 h1) ?_
        exact hret _ _ _ _ _ _ _ _ dX5_meanBits_37 w (Or.inl ⟨q, hq, rfl, (by subst eh_13; rfl), eh_13⟩) (Nat.le_of_ble_eq_true rfl) (Nat.le_of_ble_eq_true rfl)
      · exact absurd (by decide) c_20
  · subst er_2
    refine lv_if_eq (tgt := 12) hx hb dX5_meanBits_5 (by decide) (fun c_5 => ?_) (fun c_5 => ?_)
    · refine lv_iconst (v := nI 1) hx hb dX5_meanBits_12 (by decide) ?_
      refine q_put X w 91 3 .int (ci := 5) (by decide) rfl rfl rfl hi5 tyX5_ok nmX5 (by decide) (by decide +kernel) rfl (by decide +kernel) (rfl) (rfl) (Nat.le_of_ble_eq_true rfl) dX5_meanBits_13 (fun H locs w => ?_)
      obtain ⟨h_13, eh_13⟩ : ∃ z9, z9 = upI h 91 3 (nI 1) := ⟨_, rfl⟩
      rw [← eh_13] at w
      have kT : h_13.1 91 3 = nI 1 := by rw [eh_13, upI_s]; rfl
      refine lv_aload_n hx hb dX5_meanBits_16 rfl (lv_at hl 0 rfl) ?_
      refine q_get X w 91 3 (ci := 5) (by decide) rfl rfl hi5 (by decide) (by decide +kernel) rfl dX5_meanBits_17 ?_
      rw [kT]
      refine lv_if_le (tgt := 27) hx hb dX5_meanBits_20 (by decide) (fun c_20 => ?_) (fun c_20 => ?_)
      · exact absurd c_20 (by decide)
      · refine q_dconst X dX5_meanBits_23 ?_
        refine lv_goto (tgt := 37) hx hb dX5_meanBits_24 (by decide) ?_
        exact hret _ _ _ _ _ _ _ _ dX5_meanBits_37 w (Or.inr ⟨hd_2, rfl, eh_13⟩) (Nat.le_of_ble_eq_true rfl) (Nat.le_of_ble_eq_true rfl)
    · exact absurd (by decide) c_5
