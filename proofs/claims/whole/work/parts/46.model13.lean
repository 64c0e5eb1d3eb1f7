theorem mbl_g (g : hS) (A B C D : Nat → Int64) : setL (setL (setL (setL g 92 A) 94 B) 92 C) 94 D = setL (setL g 92 C) 94 D := by
  apply Prod.ext
  · rfl
  · apply Prod.ext
    · funext i
      by_cases h4 : i = 94
      · subst h4; rw [setL_s, setL_s]
      · rw [setL_o _ _ h4, setL_o _ _ h4]
        by_cases h2 : i = 92
        · subst h2; rw [setL_s, setL_s]
        · rw [setL_o _ _ h2, setL_o _ _ h2, setL_o _ _ h4, setL_o _ _ h2]
    · rfl
theorem mxB_u {R : Nat → Int64} {q j kk : Nat} {u v : Int64} (h : kk = 98 + j ∧ j ≤ 4 ∧ ((R (1 + 116 * q + 97) = 1 ∧ u = mxO R q j (mxA R q v)) ∨ (j = 0 ∧ u = mxA R q v))) (e : R (1 + 116 * q + 97) = 1) : u = mxO R q j (mxA R q v) := by
  rcases h.2.2 with a | a
  · exact a.2
  · rw [a.1, a.2]; rfl
theorem mxB_1 {R : Nat → Int64} {q j kk : Nat} {u v : Int64} (h : kk = 98 + j ∧ j ≤ 4 ∧ ((R (1 + 116 * q + 97) = 1 ∧ u = mxO R q j (mxA R q v)) ∨ (j = 0 ∧ u = mxA R q v))) (e : 101 < kk) : u = mxB R q v := by
  rcases h.2.2 with a | a
  · rw [mxB, if_pos a.1, a.2, show j = 4 by omega]
  · have := h.1; omega
theorem mxB_0 {R : Nat → Int64} {q j kk : Nat} {u v : Int64} (h : kk = 98 + j ∧ j ≤ 4 ∧ ((R (1 + 116 * q + 97) = 1 ∧ u = mxO R q j (mxA R q v)) ∨ (j = 0 ∧ u = mxA R q v))) (e : ¬ R (1 + 116 * q + 97) = 1) : u = mxB R q v := by
  rcases h.2.2 with a | a
  · exact absurd a.1 e
  · rw [mxB, if_neg e, a.2]

abbrev rc_X5_balance : Room := { frames := 6, cells := 0, slots := 0, locals := 138 }
set_option maxHeartbeats 4000000 in
set_option maxRecDepth 100000 in
theorem c_X5_balance (l : Launch) (k : kY) (h : hS) (x : Int32) {b : Nat} (hs0 : h.1 91 2 = nI b) (hs4 : b ≤ 4) {F : Nat} {V : Nat → Nat × (Nat → Int64) × (Nat → Int64)} (hF : ∀ n : Nat, n ≤ 20 → mbl F n (h.2.1 92) (pfz (mnow (h.2.1 92)) (h.2.1 94) 64) 0 = some (V n)) : CT l k yX5_balance wsX5_balance rc_X5_balance [.ref (k.2.1 91), .int x] h (QI k (fun r h' => (∃ n : Nat, 1 ≤ n ∧ n ≤ 20 ∧ x = nI n ∧ r = nI (V n).1 ∧ h' = setL (setL (msv (upI h 91 3 (nI 0)) b) 92 (V n).2.1) 94 (V n).2.2) ∨ (¬ (¬ x.toInt64 < 1 ∧ ¬ 20 < x.toInt64) ∧ r = nI 0 ∧ h' = upI h 91 3 (nI 1)))) 0 0 := by
  refine q_metI (cc := cX5_balance) (maxL := 4) (ret := some .int) (ty := .int) (by decide) rfl rfl (Nat.le_of_ble_eq_true rfl) ?_
  intro p e s m args below meth c Q ls X w hl hret
  have hx := X.1
  have hb := X.2.1
  have hown := X.2.2.2.1
  have hts := X.2.2.2.2
  have hl : lv_has ls 4 [(0, .ref (k.2.1 91)), (1, .int x)] := hl
  have hi5 : ∀ w ∈ u_ws RX5 TX5 6, w ∈ wsX5_balance := by decide +kernel
  refine lv_aload_n hx hb dX5_balance_0 rfl (lv_at hl 0 rfl) ?_
  refine lv_iload_n hx hb dX5_balance_1 rfl (lv_at hl 1 rfl) ?_
  refine lv_i2l hx hb dX5_balance_2 rfl ?_
  refine lv_lconst (v := 1) hx hb dX5_balance_3 (by decide) ?_
  refine lv_ldc2 (v := 20) hx hb hown (hts (.constantLong RX5 130 20) (by decide +kernel)) dX5_balance_4 ?_
  refine q_calli w (q_runS X w (c_X5_in l k h x.toInt64 1 20) (va_cwS 3 hts gX5_balance_X5_in rfl rfl rfl (by decide +kernel) ⟨Nat.le_of_ble_eq_true rfl, Nat.le_of_ble_eq_true rfl⟩) rfl hl.1 rfl (Nat.le_of_ble_eq_true rfl) dX5_balance_7 ⟨Nat.le_of_ble_eq_true rfl, Nat.le_of_ble_eq_true rfl⟩) (fun r_7 h_7 H locs hp w => ?_)
  obtain ⟨hp, eh_7⟩ := hp
  rw [eh_7] at w
  rcases hp with ⟨hd_7, er_7⟩ | ⟨hd_7, er_7⟩
  · subst er_7
    obtain ⟨n, hn1, hn, ex_7⟩ := okR_nat1 (by decide) ((okR_in (a := 1) (b := 20) (by decide) (by decide) rfl rfl).mp hd_7)
    subst ex_7
    refine lv_if_eq (tgt := 17) hx hb dX5_balance_10 (by decide) (fun c_10 => ?_) (fun c_10 => ?_)
    · exact absurd c_10 (by decide)
    · refine lv_iconst (v := nI 0) hx hb dX5_balance_13 (by decide) ?_
      refine lv_goto (tgt := 18) hx hb dX5_balance_14 (by decide) ?_
      refine q_put X w 91 3 .int (ci := 5) (by decide) rfl rfl rfl hi5 tyX5_ok nmX5 (by decide) (by decide +kernel) rfl (by decide +kernel) (rfl) (rfl) (Nat.le_of_ble_eq_true rfl) dX5_balance_18 (fun H locs w => ?_)
      obtain ⟨h_18, eh_18⟩ : ∃ z9, z9 = upI h 91 3 (nI 0) := ⟨_, rfl⟩
      rw [← eh_18] at w
      have kT : h_18.1 91 3 = nI 0 := by rw [eh_18, upI_s]; rfl
      refine lv_aload_n hx hb dX5_balance_21 rfl (lv_at hl 0 rfl) ?_
      refine q_get X w 91 3 (ci := 5) (by decide) rfl rfl hi5 (by decide) (by decide +kernel) rfl dX5_balance_22 ?_
      rw [kT]
      refine lv_if_le (tgt := 30) hx hb dX5_balance_25 (by decide) (fun c_25 => ?_) (fun c_25 => ?_)
      · refine lv_aload_n hx hb dX5_balance_30 rfl (lv_at hl 0 rfl) ?_
        refine q_callv w (q_runV X w 91 (c_X5_save l k h_18 (b := b) (by rw [eh_18, upI_s]; exact hs0) hs4) (cwV 0 hts gX5_balance_X5_save rfl rfl rfl (by decide +kernel) ⟨Nat.le_of_ble_eq_true rfl, Nat.le_of_ble_eq_true rfl⟩) (by decide) rfl rfl rfl hl.1 rfl (Nat.le_of_ble_eq_true rfl) dX5_balance_31 ⟨Nat.le_of_ble_eq_true rfl, Nat.le_of_ble_eq_true rfl⟩) (fun h_31 H locs hp w => ?_)
        have eh_31 := hp
        refine lv_aload_n hx hb dX5_balance_34 rfl (lv_at hl 0 rfl) ?_
        refine q_calli w (q_runV X w 91 (c_X5_isSame l k h_31) (cwV 0 hts gX5_balance_X5_isSame rfl rfl rfl (by decide +kernel) ⟨Nat.le_of_ble_eq_true rfl, Nat.le_of_ble_eq_true rfl⟩) (by decide) rfl rfl rfl hl.1 rfl (Nat.le_of_ble_eq_true rfl) dX5_balance_35 ⟨Nat.le_of_ble_eq_true rfl, Nat.le_of_ble_eq_true rfl⟩) (fun r_35 h_35 H locs hp w => ?_)
        obtain ⟨er_35, eh_35⟩ := hp
        refine lv_istore_n (lv' := [(2, .int r_35), (0, .ref (k.2.1 91)), (1, .int (nI n))]) hx hb dX5_balance_38 rfl hl (by decide) rfl (fun ls hl => ?_)
        refine lv_iconst (v := nI 0) hx hb dX5_balance_39 (by decide) ?_
        refine lv_istore_n (lv' := [(3, .int (nI 0)), (2, .int r_35), (0, .ref (k.2.1 91)), (1, .int (nI n))]) hx hb dX5_balance_40 rfl hl (by decide) rfl (fun ls hl => ?_)
        refine lv_iconst (v := nI 0) hx hb dX5_balance_41 (by decide) ?_
        refine lv_istore_n (lv' := [(2, .int (nI 0)), (3, .int (nI 0)), (0, .ref (k.2.1 91)), (1, .int (nI n))]) hx hb dX5_balance_42 rfl hl (by decide) rfl (fun ls hl => ?_)
        have lp : ∀ (fu : Nat) (i : Nat) (u : Int32) (g : hS), (i ≤ n ∧ g = setL (setL (msv (upI h 91 3 (nI 0)) b) 92 (g.2.1 92)) 94 (g.2.1 94) ∧ ((u = nI 0 ∧ mbl F (n - i) (g.2.1 92) (g.2.1 94) i = some (V n)) ∨ (u = nI 1 ∧ (i, g.2.1 92, g.2.1 94) = V n))) → (n - i) < fu → ∀ (H : Heap) (locs : List Loc) (ls : Array Slot), WX k s H locs g → lv_has ls 4 [(0, .ref (k.2.1 91)), (1, .int (nI n)), (2, .int u), (3, .int (nI i))] → W p l e rc_X5_balance s m args below meth c H locs 0 0 Q (F0 m 43 ls []) := by
          intro fu
          induction fu with
          | zero => intro i u g _ hm; exact absurd hm (Nat.not_lt_zero _)
          | succ fu ih =>
            intro i u g hinv hm H locs ls w hl
            obtain ⟨hi, hg, hu⟩ := hinv
            rcases hu with ⟨eu, hb9⟩ | ⟨eu, hb9⟩
            · subst eu
              refine lv_iload_n hx hb dX5_balance_43 rfl (lv_at hl 3 rfl) ?_
              refine lv_iload_n hx hb dX5_balance_44 rfl (lv_at hl 1 rfl) ?_
              refine q_icge X (tgt := 73) (by omega) (by omega) dX5_balance_45 (by decide) (fun c_45 => ?_) (fun c_45 => ?_)
              · refine lv_iload_n hx hb dX5_balance_73 rfl (lv_at hl 3 rfl) ?_
                exact hret _ _ _ _ _ _ _ _ dX5_balance_74 w rfl (Or.inl ⟨n, hn1, hn, rfl, (by obtain rfl : i = n := (by omega); rw [Nat.sub_self, mbl] at hb9; rw [← Option.some.inj hb9]), (by obtain rfl : i = n := (by omega); rw [Nat.sub_self, mbl] at hb9; rw [← Option.some.inj hb9]; exact hg)⟩) (Nat.le_of_ble_eq_true rfl) (Nat.le_of_ble_eq_true rfl)
              · refine lv_iload_n hx hb dX5_balance_48 rfl (lv_at hl 2 rfl) ?_
                refine lv_if_ne (tgt := 73) hx hb dX5_balance_49 (by decide) (fun c_49 => ?_) (fun c_49 => ?_)
                · exact absurd (by decide) c_49
                · obtain ⟨RA, RC, eA, eC, hy1, hy0⟩ := mbl_s (by rw [show n - i = (n - (i + 1)) + 1 by omega] at hb9; exact hb9)
                  refine lv_aload_n hx hb dX5_balance_52 rfl (lv_at hl 0 rfl) ?_
                  refine lv_iconst (v := nI 0) hx hb dX5_balance_53 (by decide) ?_
                  refine q_callv w (q_runV X w 91 (c_X5_load l k g (q := 0) (by omega) (F := F) (R2 := RA) eA) (cwV 1 hts gX5_balance_X5_load rfl rfl rfl (by decide +kernel) ⟨Nat.le_of_ble_eq_true rfl, Nat.le_of_ble_eq_true rfl⟩) (by decide) rfl rfl rfl hl.1 rfl (Nat.le_of_ble_eq_true rfl) dX5_balance_54 ⟨Nat.le_of_ble_eq_true rfl, Nat.le_of_ble_eq_true rfl⟩) (fun h_54 H locs hp w => ?_)
                  have eh_54 := hp
                  refine lv_aload_n hx hb dX5_balance_57 rfl (lv_at hl 0 rfl) ?_
                  refine lv_iconst (v := nI 1) hx hb dX5_balance_58 (by decide) ?_
                  refine q_callv w (q_runV X w 91 (c_X5_load l k h_54 (q := 1) (by omega) (F := F) (R2 := RC) (by rw [eh_54, setL_s]; exact eC)) (cwV 1 hts gX5_balance_X5_load rfl rfl rfl (by decide +kernel) ⟨Nat.le_of_ble_eq_true rfl, Nat.le_of_ble_eq_true rfl⟩) (by decide) rfl rfl rfl hl.1 rfl (Nat.le_of_ble_eq_true rfl) dX5_balance_59 ⟨Nat.le_of_ble_eq_true rfl, Nat.le_of_ble_eq_true rfl⟩) (fun h_59 H locs hp w => ?_)
                  have eh_59 := hp
                  refine lv_iinc (v := nI (i + 1)) (lv' := [(3, .int (nI (i + 1))), (0, .ref (k.2.1 91)), (1, .int (nI n)), (2, .int (nI 0))]) hx hb dX5_balance_62 hl (k := 3) rfl (nI_1 _) (by decide) rfl (fun ls hl => ?_)
                  refine lv_aload_n hx hb dX5_balance_65 rfl (lv_at hl 1 rfl) ?_
                  refine q_calli w (q_runV X w 91 (c_X5_isSame l k h_59) (cwV 0 hts gX5_balance_X5_isSame rfl rfl rfl (by decide +kernel) ⟨Nat.le_of_ble_eq_true rfl, Nat.le_of_ble_eq_true rfl⟩) (by decide) rfl rfl rfl hl.1 rfl (Nat.le_of_ble_eq_true rfl) dX5_balance_66 ⟨Nat.le_of_ble_eq_true rfl, Nat.le_of_ble_eq_true rfl⟩) (fun r_66 h_66 H locs hp w => ?_)
                  obtain ⟨er_66, eh_66⟩ := hp
                  have er_66 : r_66 = bI (mss (h_59.2.1 94) (h_59.2.1 92) 64) := er_66
                  rcases hf_66 : mss (h_59.2.1 94) (h_59.2.1 92) 64 with _ | _
                  · rw [hf_66] at er_66
                    have er_66 : r_66 = nI 0 := er_66
                    subst er_66
                    refine lv_istore_n (lv' := [(2, .int (nI 0)), (3, .int (nI (i + 1))), (0, .ref (k.2.1 91)), (1, .int (nI n))]) hx hb dX5_balance_69 rfl hl (by decide) rfl (fun ls hl => ?_)
                    refine lv_goto (tgt := 43) hx hb dX5_balance_70 (by decide) ?_
                    have g92 : h_59.2.1 92 = mfi RC 1 := by rw [eh_59, setL_s]
                    have g94 : h_59.2.1 94 = g.2.1 94 := by rw [eh_59, setL_o _ _ (by decide), eh_54, setL_o _ _ (by decide)]
                    rw [g92, g94] at hf_66 eh_66
                    have k92 : h_66.2.1 92 = mfi RC 1 := by rw [eh_66, setL_o _ _ (by decide), g92]
                    have k94 : h_66.2.1 94 = pfz (mnow (mfi RC 1)) (g.2.1 94) 64 := by rw [eh_66, setL_s]
                    have kg : h_66 = setL (setL (msv (upI h 91 3 (nI 0)) b) 92 (h_66.2.1 92)) 94 (h_66.2.1 94) := by rw [k92, k94, eh_66, eh_59, eh_54, setL_setL, hg, mbl_g]
                    exact ih (i + 1) (nI 0) h_66 ⟨by omega, kg, Or.inl ⟨rfl, by rw [k92, k94]; exact hy0 hf_66⟩⟩ (by omega) _ _ _ w (lv_sub hl [2, 3, 0, 1] rfl)
                  · rw [hf_66] at er_66
                    have er_66 : r_66 = nI 1 := er_66
                    subst er_66
                    refine lv_istore_n (lv' := [(2, .int (nI 1)), (3, .int (nI (i + 1))), (0, .ref (k.2.1 91)), (1, .int (nI n))]) hx hb dX5_balance_69 rfl hl (by decide) rfl (fun ls hl => ?_)
                    refine lv_goto (tgt := 43) hx hb dX5_balance_70 (by decide) ?_
                    have g92 : h_59.2.1 92 = mfi RC 1 := by rw [eh_59, setL_s]
                    have g94 : h_59.2.1 94 = g.2.1 94 := by rw [eh_59, setL_o _ _ (by decide), eh_54, setL_o _ _ (by decide)]
                    rw [g92, g94] at hf_66 eh_66
                    have k92 : h_66.2.1 92 = mfi RC 1 := by rw [eh_66, setL_o _ _ (by decide), g92]
                    have k94 : h_66.2.1 94 = pfz (mnow (mfi RC 1)) (g.2.1 94) 64 := by rw [eh_66, setL_s]
                    have kg : h_66 = setL (setL (msv (upI h 91 3 (nI 0)) b) 92 (h_66.2.1 92)) 94 (h_66.2.1 94) := by rw [k92, k94, eh_66, eh_59, eh_54, setL_setL, hg, mbl_g]
                    exact ih (i + 1) (nI 1) h_66 ⟨by omega, kg, Or.inr ⟨rfl, by rw [k92, k94]; exact hy1 hf_66⟩⟩ (by omega) _ _ _ w (lv_sub hl [2, 3, 0, 1] rfl)
            · subst eu
              refine lv_iload_n hx hb dX5_balance_43 rfl (lv_at hl 3 rfl) ?_
              refine lv_iload_n hx hb dX5_balance_44 rfl (lv_at hl 1 rfl) ?_
              refine q_icge X (tgt := 73) (by omega) (by omega) dX5_balance_45 (by decide) (fun c_45 => ?_) (fun c_45 => ?_)
              · refine lv_iload_n hx hb dX5_balance_73 rfl (lv_at hl 3 rfl) ?_
                exact hret _ _ _ _ _ _ _ _ dX5_balance_74 w rfl (Or.inl ⟨n, hn1, hn, rfl, (by rw [← hb9]), (by rw [← hb9]; exact hg)⟩) (Nat.le_of_ble_eq_true rfl) (Nat.le_of_ble_eq_true rfl)
              · refine lv_iload_n hx hb dX5_balance_48 rfl (lv_at hl 2 rfl) ?_
                refine lv_if_ne (tgt := 73) hx hb dX5_balance_49 (by decide) (fun c_49 => ?_) (fun c_49 => ?_)
                · refine lv_iload_n hx hb dX5_balance_73 rfl (lv_at hl 3 rfl) ?_
                  exact hret _ _ _ _ _ _ _ _ dX5_balance_74 w rfl (Or.inl ⟨n, hn1, hn, rfl, (by rw [← hb9]), (by rw [← hb9]; exact hg)⟩) (Nat.le_of_ble_eq_true rfl) (Nat.le_of_ble_eq_true rfl)
                · exact absurd c_49 (by decide)
        have e92 : h_31.2.1 92 = h.2.1 92 := by rw [eh_31, msv_92, eh_18]; rfl
        have e94 : h_31.2.1 94 = h.2.1 94 := by rw [eh_31, eh_18]; rfl
        have f92 : h_35.2.1 92 = h.2.1 92 := by rw [eh_35, setL_o _ _ (by decide), e92]
        have f94 : h_35.2.1 94 = pfz (mnow (h.2.1 92)) (h.2.1 94) 64 := by rw [eh_35, setL_s, e92, e94]
        have fg : h_35 = setL (setL (msv (upI h 91 3 (nI 0)) b) 92 (h_35.2.1 92)) 94 (h_35.2.1 94) := by rw [f92, f94, ← e92, ← eh_18, ← eh_31, setL_self, eh_35, e92, e94]
        exact lp (n + 1) 0 (nI 0) h_35 ⟨by omega, fg, Or.inl ⟨rfl, by rw [f92, f94, Nat.sub_zero]; exact hF n hn⟩⟩ (by omega) _ _ _ w (lv_sub hl [2, 3, 0, 1] rfl)
      · exact absurd (by decide) c_25
  · subst er_7
    refine lv_if_eq (tgt := 17) hx hb dX5_balance_10 (by decide) (fun c_10 => ?_) (fun c_10 => ?_)
    · refine lv_iconst (v := nI 1) hx hb dX5_balance_17 (by decide) ?_
      refine q_put X w 91 3 .int (ci := 5) (by decide) rfl rfl rfl hi5 tyX5_ok nmX5 (by decide) (by decide +kernel) rfl (by decide +kernel) (rfl) (rfl) (Nat.le_of_ble_eq_true rfl) dX5_balance_18 (fun H locs w => ?_)
      obtain ⟨h_18, eh_18⟩ : ∃ z9, z9 = upI h 91 3 (nI 1) := ⟨_, rfl⟩
      rw [← eh_18] at w
      have kT : h_18.1 91 3 = nI 1 := by rw [eh_18, upI_s]; rfl
      refine lv_aload_n hx hb dX5_balance_21 rfl (lv_at hl 0 rfl) ?_
      refine q_get X w 91 3 (ci := 5) (by decide) rfl rfl hi5 (by decide) (by decide +kernel) rfl dX5_balance_22 ?_
      rw [kT]
      refine lv_if_le (tgt := 30) hx hb dX5_balance_25 (by decide) (fun c_25 => ?_) (fun c_25 => ?_)
      · exact absurd c_25 (by decide)
      · refine lv_iconst (v := nI 0) hx hb dX5_balance_28 (by decide) ?_
        exact hret _ _ _ _ _ _ _ _ dX5_balance_29 w rfl (Or.inr ⟨hd_7, rfl, eh_18⟩) (Nat.le_of_ble_eq_true rfl) (Nat.le_of_ble_eq_true rfl)
    · exact absurd (by decide) c_10

abbrev rc_X5_mixPair : Room := { frames := 6, cells := 0, slots := 0, locals := 134 }
set_option maxHeartbeats 4000000 in
set_option maxRecDepth 100000 in
theorem c_X5_mixPair (l : Launch) (k : kY) (h : hS) {q : Nat} (hq : q < 2) (hz : mOK (h.2.1 92)) : CT l k yX5_mixPair wsX5_mixPair rc_X5_mixPair [.ref (k.2.1 91), .int (nI q)] h (QV k (fun h' => h' = upL h 91 5 (mxP (h.2.1 92) q (h.2.1 91 5)))) 0 0 := by
  refine q_metV (cc := cX5_mixPair) (maxL := 4) (by decide) rfl (Nat.le_of_ble_eq_true rfl) ?_
  intro p e s m args below meth c Q ls X w hl hret
  have hx := X.1
  have hb := X.2.1
  have hown := X.2.2.2.1
  have hts := X.2.2.2.2
  have hl : lv_has ls 4 [(0, .ref (k.2.1 91)), (1, .int (nI q))] := hl
  have hi5 : ∀ w ∈ u_ws RX5 TX5 6, w ∈ wsX5_mixPair := by decide +kernel
  refine lv_aload_n hx hb dX5_mixPair_0 rfl (lv_at hl 0 rfl) ?_
  refine lv_aload_n hx hb dX5_mixPair_1 rfl (lv_at hl 0 rfl) ?_
  refine q_get X w 91 0 (ci := 5) (by decide) rfl rfl hi5 (by decide) (by decide +kernel) rfl dX5_mixPair_2 ?_
  refine lv_iload_n hx hb dX5_mixPair_5 rfl (lv_at hl 1 rfl) ?_
  refine lv_iconst (v := nI 0) hx hb dX5_mixPair_6 (by decide) ?_
  refine q_calli w (q_runS X w (c_X5_at l k h q 0) (va_cwS 2 hts gX5_mixPair_X5_at rfl rfl rfl (by decide +kernel) ⟨Nat.le_of_ble_eq_true rfl, Nat.le_of_ble_eq_true rfl⟩) rfl hl.1 rfl (Nat.le_of_ble_eq_true rfl) dX5_mixPair_7 ⟨Nat.le_of_ble_eq_true rfl, Nat.le_of_ble_eq_true rfl⟩) (fun r_7 h_7 H locs hp w => ?_)
  obtain ⟨er_7, eh_7⟩ := hp
  rw [eh_7] at w
  have er_7 : r_7 = nI (1 + 116 * q + 0) := er_7
  subst er_7
  refine q_lald X w 92 (1 + 116 * q + 0) (by decide) (fun _ => rfl) rfl (show (1 + 116 * q + 0) < 233 by omega) (by decide) dX5_mixPair_10 ?_
  refine q_callv w (q_runV X w 91 (c_X5_mix l k h (h.2.1 92 (1 + 116 * q + 0))) (cwV 1 hts gX5_mixPair_X5_mix rfl rfl rfl (by decide +kernel) ⟨Nat.le_of_ble_eq_true rfl, Nat.le_of_ble_eq_true rfl⟩) (by decide) rfl rfl rfl hl.1 rfl (Nat.le_of_ble_eq_true rfl) dX5_mixPair_11 ⟨Nat.le_of_ble_eq_true rfl, Nat.le_of_ble_eq_true rfl⟩) (fun h_11 H locs hp w => ?_)
  have eh_11 := hp
  refine lv_iconst (v := nI 0) hx hb dX5_mixPair_14 (by decide) ?_
  refine lv_istore_n (lv' := [(2, .int (nI 0)), (0, .ref (k.2.1 91)), (1, .int (nI q))]) hx hb dX5_mixPair_15 rfl hl (by decide) rfl (fun ls hl => ?_)
  have lp1 : ∀ (fu : Nat) (t : Nat) (v : Int64), (t ≤ 16 ∧ v = mxT (h.2.1 92) q t (31 * h.2.1 91 5 + h.2.1 92 (1 + 116 * q + 0))) → (16 - t) < fu → ∀ (H : Heap) (locs : List Loc) (ls : Array Slot), WX k s H locs (upL h 91 5 v) → lv_has ls 4 [(0, .ref (k.2.1 91)), (1, .int (nI q)), (2, .int (nI t))] → W p l e rc_X5_mixPair s m args below meth c H locs 0 0 Q (F0 m 16 ls []) := by
    intro fu
    induction fu with
    | zero => intro t v _ hm; exact absurd hm (Nat.not_lt_zero _)
    | succ fu ih1 =>
      intro t v hinv1 hm1 H locs ls w hl
      have hinv := hinv1
      have ht := hinv.1
      refine lv_iload_n hx hb dX5_mixPair_16 rfl (lv_at hl 2 rfl) ?_
      refine lv_bipush (v := nI 16) hx hb dX5_mixPair_17 (by decide) ?_
      refine q_icge X (tgt := 68) (by omega) (by decide) dX5_mixPair_19 (by decide) (fun c_19 => ?_) (fun c_19 => ?_)
      · refine lv_aload_n hx hb dX5_mixPair_68 rfl (lv_at hl 0 rfl) ?_
        refine lv_aload_n hx hb dX5_mixPair_69 rfl (lv_at hl 0 rfl) ?_
        refine lv_iload_n hx hb dX5_mixPair_70 rfl (lv_at hl 1 rfl) ?_
        refine q_calli w (q_runV X w 91 (c_X5_efficient l k (upL h 91 5 v) (q := q) (by omega)) (cwV 1 hts gX5_mixPair_X5_efficient rfl rfl rfl (by decide +kernel) ⟨Nat.le_of_ble_eq_true rfl, Nat.le_of_ble_eq_true rfl⟩) (by decide) rfl rfl rfl hl.1 rfl (Nat.le_of_ble_eq_true rfl) dX5_mixPair_71 ⟨Nat.le_of_ble_eq_true rfl, Nat.le_of_ble_eq_true rfl⟩) (fun r_71 h_71 H locs hp w => ?_)
        obtain ⟨er_71, eh_71⟩ := hp
        rw [eh_71] at w
        have er_71 : r_71 = bI (mef ((upL h 91 5 v).2.1 92) q) := er_71
        rcases hf_71 : mef ((upL h 91 5 v).2.1 92) q with _ | _
        · rw [hf_71] at er_71
          have er_71 : r_71 = nI 0 := er_71
          subst er_71
          refine lv_if_eq (tgt := 81) hx hb dX5_mixPair_74 (by decide) (fun c_74 => ?_) (fun c_74 => ?_)
          · refine lv_lconst (v := 0) hx hb dX5_mixPair_81 (by decide) ?_
            refine q_callv w (q_runV X w 91 (c_X5_mix l k (upL h 91 5 v) 0) (cwV 1 hts gX5_mixPair_X5_mix rfl rfl rfl (by decide +kernel) ⟨Nat.le_of_ble_eq_true rfl, Nat.le_of_ble_eq_true rfl⟩) (by decide) rfl rfl rfl hl.1 rfl (Nat.le_of_ble_eq_true rfl) dX5_mixPair_82 ⟨Nat.le_of_ble_eq_true rfl, Nat.le_of_ble_eq_true rfl⟩) (fun h_82 H locs hp w => ?_)
            have eh_82 := hp
            have e82 : h_82 = upL h 91 5 (31 * v + (if mef (h.2.1 92) q = true then 1 else 0)) := by rw [upL92] at hf_71; rw [eh_82, upLL, upLs5, hf_71]; rfl
            refine lv_aload_n hx hb dX5_mixPair_85 rfl (lv_at hl 0 rfl) ?_
            refine lv_aload_n hx hb dX5_mixPair_86 rfl (lv_at hl 0 rfl) ?_
            refine q_get X w 91 0 (ci := 5) (by decide) rfl rfl hi5 (by decide) (by decide +kernel) rfl dX5_mixPair_87 ?_
            refine lv_iload_n hx hb dX5_mixPair_90 rfl (lv_at hl 1 rfl) ?_
            refine lv_bipush (v := nI 97) hx hb dX5_mixPair_91 (by decide) ?_
            refine q_calli w (q_runS X w (c_X5_at l k h_82 q 97) (va_cwS 2 hts gX5_mixPair_X5_at rfl rfl rfl (by decide +kernel) ⟨Nat.le_of_ble_eq_true rfl, Nat.le_of_ble_eq_true rfl⟩) rfl hl.1 rfl (Nat.le_of_ble_eq_true rfl) dX5_mixPair_93 ⟨Nat.le_of_ble_eq_true rfl, Nat.le_of_ble_eq_true rfl⟩) (fun r_93 h_93 H locs hp w => ?_)
            obtain ⟨er_93, eh_93⟩ := hp
            rw [eh_93] at w
            have er_93 : r_93 = nI (1 + 116 * q + 97) := er_93
            subst er_93
            refine q_lald X w 92 (1 + 116 * q + 97) (by decide) (fun _ => rfl) rfl (show (1 + 116 * q + 97) < 233 by omega) (by decide) dX5_mixPair_96 ?_
            refine q_callv w (q_runV X w 91 (c_X5_mix l k h_82 (h_82.2.1 92 (1 + 116 * q + 97))) (cwV 1 hts gX5_mixPair_X5_mix rfl rfl rfl (by decide +kernel) ⟨Nat.le_of_ble_eq_true rfl, Nat.le_of_ble_eq_true rfl⟩) (by decide) rfl rfl rfl hl.1 rfl (Nat.le_of_ble_eq_true rfl) dX5_mixPair_97 ⟨Nat.le_of_ble_eq_true rfl, Nat.le_of_ble_eq_true rfl⟩) (fun h_97 H locs hp w => ?_)
            have eh_97 := hp
            have e97 : h_97 = upL h 91 5 (mxA (h.2.1 92) q (h.2.1 91 5)) := by obtain rfl : t = 16 := (by omega); rw [eh_97, e82, upLL, upLs5, upL92, hinv.2]; rfl
            refine lv_bipush (v := nI 98) hx hb dX5_mixPair_100 (by decide) ?_
            refine lv_istore_n (lv' := [(2, .int (nI 98)), (0, .ref (k.2.1 91)), (1, .int (nI q))]) hx hb dX5_mixPair_102 rfl hl (by decide) rfl (fun ls hl => ?_)
            have lp3 : ∀ (fu : Nat) (j : Nat) (kk : Nat) (u : Int64), (kk = 98 + j ∧ j ≤ 4 ∧ ((h.2.1 92 (1 + 116 * q + 97) = 1 ∧ u = mxO (h.2.1 92) q j (mxA (h.2.1 92) q (h.2.1 91 5))) ∨ (j = 0 ∧ u = mxA (h.2.1 92) q (h.2.1 91 5)))) → (4 - j) < fu → ∀ (H : Heap) (locs : List Loc) (ls : Array Slot), WX k s H locs (upL h 91 5 u) → lv_has ls 4 [(0, .ref (k.2.1 91)), (1, .int (nI q)), (2, .int (nI kk))] → W p l e rc_X5_mixPair s m args below meth c H locs 0 0 Q (F0 m 103 ls []) := by
              intro fu
              induction fu with
              | zero => intro j kk u _ hm; exact absurd hm (Nat.not_lt_zero _)
              | succ fu ih3 =>
                intro j kk u hinv3 hm3 H locs ls w hl
                have hk1 := hinv3.1
                have hk2 := hinv3.2.1
                refine lv_iload_n hx hb dX5_mixPair_103 rfl (lv_at hl 2 rfl) ?_
                refine lv_bipush (v := nI 101) hx hb dX5_mixPair_104 (by decide) ?_
                refine q_icgt X (tgt := 145) (by omega) (by decide) dX5_mixPair_106 (by decide) (fun c_106 => ?_) (fun c_106 => ?_)
                · have hB : u = mxB (h.2.1 92) q (h.2.1 91 5) := by first | exact mxB_1 hinv3 c_106 | exact mxB_0 hinv3 (by rw [upL92] at c_121; exact c_121)
                  refine lv_aload_n hx hb dX5_mixPair_145 rfl (lv_at hl 0 rfl) ?_
                  refine lv_aload_n hx hb dX5_mixPair_146 rfl (lv_at hl 0 rfl) ?_
                  refine q_get X w 91 0 (ci := 5) (by decide) rfl rfl hi5 (by decide) (by decide +kernel) rfl dX5_mixPair_147 ?_
                  refine lv_iload_n hx hb dX5_mixPair_150 rfl (lv_at hl 1 rfl) ?_
                  refine lv_bipush (v := nI 108) hx hb dX5_mixPair_151 (by decide) ?_
                  refine q_calli w (q_runS X w (c_X5_at l k (upL h 91 5 u) q 108) (va_cwS 2 hts gX5_mixPair_X5_at rfl rfl rfl (by decide +kernel) ⟨Nat.le_of_ble_eq_true rfl, Nat.le_of_ble_eq_true rfl⟩) rfl hl.1 rfl (Nat.le_of_ble_eq_true rfl) dX5_mixPair_153 ⟨Nat.le_of_ble_eq_true rfl, Nat.le_of_ble_eq_true rfl⟩) (fun r_153 h_153 H locs hp w => ?_)
                  obtain ⟨er_153, eh_153⟩ := hp
                  rw [eh_153] at w
                  have er_153 : r_153 = nI (1 + 116 * q + 108) := er_153
                  subst er_153
                  refine q_lald X w 92 (1 + 116 * q + 108) (by decide) (fun _ => rfl) rfl (show (1 + 116 * q + 108) < 233 by omega) (by decide) dX5_mixPair_156 ?_
                  refine q_callv w (q_runV X w 91 (c_X5_mix l k (upL h 91 5 u) ((upL h 91 5 u).2.1 92 (1 + 116 * q + 108))) (cwV 1 hts gX5_mixPair_X5_mix rfl rfl rfl (by decide +kernel) ⟨Nat.le_of_ble_eq_true rfl, Nat.le_of_ble_eq_true rfl⟩) (by decide) rfl rfl rfl hl.1 rfl (Nat.le_of_ble_eq_true rfl) dX5_mixPair_157 ⟨Nat.le_of_ble_eq_true rfl, Nat.le_of_ble_eq_true rfl⟩) (fun h_157 H locs hp w => ?_)
                  have eh_157 := hp
                  refine lv_aload_n hx hb dX5_mixPair_160 rfl (lv_at hl 0 rfl) ?_
                  refine lv_aload_n hx hb dX5_mixPair_161 rfl (lv_at hl 0 rfl) ?_
                  refine q_get X w 91 0 (ci := 5) (by decide) rfl rfl hi5 (by decide) (by decide +kernel) rfl dX5_mixPair_162 ?_
                  refine lv_iload_n hx hb dX5_mixPair_165 rfl (lv_at hl 1 rfl) ?_
                  refine lv_bipush (v := nI 112) hx hb dX5_mixPair_166 (by decide) ?_
                  refine q_calli w (q_runS X w (c_X5_at l k h_157 q 112) (va_cwS 2 hts gX5_mixPair_X5_at rfl rfl rfl (by decide +kernel) ⟨Nat.le_of_ble_eq_true rfl, Nat.le_of_ble_eq_true rfl⟩) rfl hl.1 rfl (Nat.le_of_ble_eq_true rfl) dX5_mixPair_168 ⟨Nat.le_of_ble_eq_true rfl, Nat.le_of_ble_eq_true rfl⟩) (fun r_168 h_168 H locs hp w => ?_)
                  obtain ⟨er_168, eh_168⟩ := hp
                  rw [eh_168] at w
                  have er_168 : r_168 = nI (1 + 116 * q + 112) := er_168
                  subst er_168
                  refine q_lald X w 92 (1 + 116 * q + 112) (by decide) (fun _ => rfl) rfl (show (1 + 116 * q + 112) < 233 by omega) (by decide) dX5_mixPair_171 ?_
                  refine q_callv w (q_runV X w 91 (c_X5_mix l k h_157 (h_157.2.1 92 (1 + 116 * q + 112))) (cwV 1 hts gX5_mixPair_X5_mix rfl rfl rfl (by decide +kernel) ⟨Nat.le_of_ble_eq_true rfl, Nat.le_of_ble_eq_true rfl⟩) (by decide) rfl rfl rfl hl.1 rfl (Nat.le_of_ble_eq_true rfl) dX5_mixPair_172 ⟨Nat.le_of_ble_eq_true rfl, Nat.le_of_ble_eq_true rfl⟩) (fun h_172 H locs hp w => ?_)
                  have eh_172 := hp
                  refine lv_aload_n hx hb dX5_mixPair_175 rfl (lv_at hl 0 rfl) ?_
                  refine lv_aload_n hx hb dX5_mixPair_176 rfl (lv_at hl 0 rfl) ?_
                  refine q_get X w 91 0 (ci := 5) (by decide) rfl rfl hi5 (by decide) (by decide +kernel) rfl dX5_mixPair_177 ?_
                  refine lv_iload_n hx hb dX5_mixPair_180 rfl (lv_at hl 1 rfl) ?_
                  refine lv_bipush (v := nI 115) hx hb dX5_mixPair_181 (by decide) ?_
                  refine q_calli w (q_runS X w (c_X5_at l k h_172 q 115) (va_cwS 2 hts gX5_mixPair_X5_at rfl rfl rfl (by decide +kernel) ⟨Nat.le_of_ble_eq_true rfl, Nat.le_of_ble_eq_true rfl⟩) rfl hl.1 rfl (Nat.le_of_ble_eq_true rfl) dX5_mixPair_183 ⟨Nat.le_of_ble_eq_true rfl, Nat.le_of_ble_eq_true rfl⟩) (fun r_183 h_183 H locs hp w => ?_)
                  obtain ⟨er_183, eh_183⟩ := hp
                  rw [eh_183] at w
                  have er_183 : r_183 = nI (1 + 116 * q + 115) := er_183
                  subst er_183
                  refine q_lald X w 92 (1 + 116 * q + 115) (by decide) (fun _ => rfl) rfl (show (1 + 116 * q + 115) < 233 by omega) (by decide) dX5_mixPair_186 ?_
                  refine q_callv w (q_runV X w 91 (c_X5_mix l k h_172 (h_172.2.1 92 (1 + 116 * q + 115))) (cwV 1 hts gX5_mixPair_X5_mix rfl rfl rfl (by decide +kernel) ⟨Nat.le_of_ble_eq_true rfl, Nat.le_of_ble_eq_true rfl⟩) (by decide) rfl rfl rfl hl.1 rfl (Nat.le_of_ble_eq_true rfl) dX5_mixPair_187 ⟨Nat.le_of_ble_eq_true rfl, Nat.le_of_ble_eq_true rfl⟩) (fun h_187 H locs hp w => ?_)
                  have eh_187 := hp
                  exact hret _ _ _ _ _ _ _ dX5_mixPair_190 w (by rw [eh_187, eh_172, eh_157, upLL, upLL, upLL, upLs5, upLs5, upLs5, upL92, upL92, upL92, hB]; rfl) (Nat.le_of_ble_eq_true rfl) (Nat.le_of_ble_eq_true rfl)
                · refine lv_aload_n hx hb dX5_mixPair_109 rfl (lv_at hl 0 rfl) ?_
                  refine q_get X w 91 0 (ci := 5) (by decide) rfl rfl hi5 (by decide) (by decide +kernel) rfl dX5_mixPair_110 ?_
                  refine lv_iload_n hx hb dX5_mixPair_113 rfl (lv_at hl 1 rfl) ?_
                  refine lv_bipush (v := nI 97) hx hb dX5_mixPair_114 (by decide) ?_
                  refine q_calli w (q_runS X w (c_X5_at l k (upL h 91 5 u) q 97) (va_cwS 2 hts gX5_mixPair_X5_at rfl rfl rfl (by decide +kernel) ⟨Nat.le_of_ble_eq_true rfl, Nat.le_of_ble_eq_true rfl⟩) rfl hl.1 rfl (Nat.le_of_ble_eq_true rfl) dX5_mixPair_116 ⟨Nat.le_of_ble_eq_true rfl, Nat.le_of_ble_eq_true rfl⟩) (fun r_116 h_116 H locs hp w => ?_)
                  obtain ⟨er_116, eh_116⟩ := hp
                  rw [eh_116] at w
                  have er_116 : r_116 = nI (1 + 116 * q + 97) := er_116
                  subst er_116
                  refine q_lald X w 92 (1 + 116 * q + 97) (by decide) (fun _ => rfl) rfl (show (1 + 116 * q + 97) < 233 by omega) (by decide) dX5_mixPair_119 ?_
                  refine lv_lconst (v := 1) hx hb dX5_mixPair_120 (by decide) ?_
                  refine q_lif_ne X (tgt := 145) dX5_mixPair_121 dX5_mixPair_122 (by decide) (fun c_121 => ?_) (fun c_121 => ?_)
                  · have hB : u = mxB (h.2.1 92) q (h.2.1 91 5) := by first | exact mxB_1 hinv3 c_106 | exact mxB_0 hinv3 (by rw [upL92] at c_121; exact c_121)
                    refine lv_aload_n hx hb dX5_mixPair_145 rfl (lv_at hl 0 rfl) ?_
                    refine lv_aload_n hx hb dX5_mixPair_146 rfl (lv_at hl 0 rfl) ?_
                    refine q_get X w 91 0 (ci := 5) (by decide) rfl rfl hi5 (by decide) (by decide +kernel) rfl dX5_mixPair_147 ?_
                    refine lv_iload_n hx hb dX5_mixPair_150 rfl (lv_at hl 1 rfl) ?_
                    refine lv_bipush (v := nI 108) hx hb dX5_mixPair_151 (by decide) ?_
                    refine q_calli w (q_runS X w (c_X5_at l k (upL h 91 5 u) q 108) (va_cwS 2 hts gX5_mixPair_X5_at rfl rfl rfl (by decide +kernel) ⟨Nat.le_of_ble_eq_true rfl, Nat.le_of_ble_eq_true rfl⟩) rfl hl.1 rfl (Nat.le_of_ble_eq_true rfl) dX5_mixPair_153 ⟨Nat.le_of_ble_eq_true rfl, Nat.le_of_ble_eq_true rfl⟩) (fun r_153 h_153 H locs hp w => ?_)
                    obtain ⟨er_153, eh_153⟩ := hp
                    rw [eh_153] at w
                    have er_153 : r_153 = nI (1 + 116 * q + 108) := er_153
                    subst er_153
                    refine q_lald X w 92 (1 + 116 * q + 108) (by decide) (fun _ => rfl) rfl (show (1 + 116 * q + 108) < 233 by omega) (by decide) dX5_mixPair_156 ?_
                    refine q_callv w (q_runV X w 91 (c_X5_mix l k (upL h 91 5 u) ((upL h 91 5 u).2.1 92 (1 + 116 * q + 108))) (cwV 1 hts gX5_mixPair_X5_mix rfl rfl rfl (by decide +kernel) ⟨Nat.le_of_ble_eq_true rfl, Nat.le_of_ble_eq_true rfl⟩) (by decide) rfl rfl rfl hl.1 rfl (Nat.le_of_ble_eq_true rfl) dX5_mixPair_157 ⟨Nat.le_of_ble_eq_true rfl, Nat.le_of_ble_eq_true rfl⟩) (fun h_157 H locs hp w => ?_)
                    have eh_157 := hp
                    refine lv_aload_n hx hb dX5_mixPair_160 rfl (lv_at hl 0 rfl) ?_
                    refine lv_aload_n hx hb dX5_mixPair_161 rfl (lv_at hl 0 rfl) ?_
                    refine q_get X w 91 0 (ci := 5) (by decide) rfl rfl hi5 (by decide) (by decide +kernel) rfl dX5_mixPair_162 ?_
                    refine lv_iload_n hx hb dX5_mixPair_165 rfl (lv_at hl 1 rfl) ?_
                    refine lv_bipush (v := nI 112) hx hb dX5_mixPair_166 (by decide) ?_
                    refine q_calli w (q_runS X w (c_X5_at l k h_157 q 112) (va_cwS 2 hts gX5_mixPair_X5_at rfl rfl rfl (by decide +kernel) ⟨Nat.le_of_ble_eq_true rfl, Nat.le_of_ble_eq_true rfl⟩) rfl hl.1 rfl (Nat.le_of_ble_eq_true rfl) dX5_mixPair_168 ⟨Nat.le_of_ble_eq_true rfl, Nat.le_of_ble_eq_true rfl⟩) (fun r_168 h_168 H locs hp w => ?_)
                    obtain ⟨er_168, eh_168⟩ := hp
                    rw [eh_168] at w
                    have er_168 : r_168 = nI (1 + 116 * q + 112) := er_168
                    subst er_168
                    refine q_lald X w 92 (1 + 116 * q + 112) (by decide) (fun _ => rfl) rfl (show (1 + 116 * q + 112) < 233 by omega) (by decide) dX5_mixPair_171 ?_
                    refine q_callv w (q_runV X w 91 (c_X5_mix l k h_157 (h_157.2.1 92 (1 + 116 * q + 112))) (cwV 1 hts gX5_mixPair_X5_mix rfl rfl rfl (by decide +kernel) ⟨Nat.le_of_ble_eq_true rfl, Nat.le_of_ble_eq_true rfl⟩) (by decide) rfl rfl rfl hl.1 rfl (Nat.le_of_ble_eq_true rfl) dX5_mixPair_172 ⟨Nat.le_of_ble_eq_true rfl, Nat.le_of_ble_eq_true rfl⟩) (fun h_172 H locs hp w => ?_)
                    have eh_172 := hp
                    refine lv_aload_n hx hb dX5_mixPair_175 rfl (lv_at hl 0 rfl) ?_
                    refine lv_aload_n hx hb dX5_mixPair_176 rfl (lv_at hl 0 rfl) ?_
                    refine q_get X w 91 0 (ci := 5) (by decide) rfl rfl hi5 (by decide) (by decide +kernel) rfl dX5_mixPair_177 ?_
                    refine lv_iload_n hx hb dX5_mixPair_180 rfl (lv_at hl 1 rfl) ?_
                    refine lv_bipush (v := nI 115) hx hb dX5_mixPair_181 (by decide) ?_
                    refine q_calli w (q_runS X w (c_X5_at l k h_172 q 115) (va_cwS 2 hts gX5_mixPair_X5_at rfl rfl rfl (by decide +kernel) ⟨Nat.le_of_ble_eq_true rfl, Nat.le_of_ble_eq_true rfl⟩) rfl hl.1 rfl (Nat.le_of_ble_eq_true rfl) dX5_mixPair_183 ⟨Nat.le_of_ble_eq_true rfl, Nat.le_of_ble_eq_true rfl⟩) (fun r_183 h_183 H locs hp w => ?_)
                    obtain ⟨er_183, eh_183⟩ := hp
                    rw [eh_183] at w
                    have er_183 : r_183 = nI (1 + 116 * q + 115) := er_183
                    subst er_183
                    refine q_lald X w 92 (1 + 116 * q + 115) (by decide) (fun _ => rfl) rfl (show (1 + 116 * q + 115) < 233 by omega) (by decide) dX5_mixPair_186 ?_
                    refine q_callv w (q_runV X w 91 (c_X5_mix l k h_172 (h_172.2.1 92 (1 + 116 * q + 115))) (cwV 1 hts gX5_mixPair_X5_mix rfl rfl rfl (by decide +kernel) ⟨Nat.le_of_ble_eq_true rfl, Nat.le_of_ble_eq_true rfl⟩) (by decide) rfl rfl rfl hl.1 rfl (Nat.le_of_ble_eq_true rfl) dX5_mixPair_187 ⟨Nat.le_of_ble_eq_true rfl, Nat.le_of_ble_eq_true rfl⟩) (fun h_187 H locs hp w => ?_)
                    have eh_187 := hp
                    exact hret _ _ _ _ _ _ _ dX5_mixPair_190 w (by rw [eh_187, eh_172, eh_157, upLL, upLL, upLL, upLs5, upLs5, upLs5, upL92, upL92, upL92, hB]; rfl) (Nat.le_of_ble_eq_true rfl) (Nat.le_of_ble_eq_true rfl)
                  · refine lv_aload_n hx hb dX5_mixPair_125 rfl (lv_at hl 0 rfl) ?_
                    refine lv_aload_n hx hb dX5_mixPair_126 rfl (lv_at hl 0 rfl) ?_
                    refine q_get X w 91 0 (ci := 5) (by decide) rfl rfl hi5 (by decide) (by decide +kernel) rfl dX5_mixPair_127 ?_
                    refine lv_iload_n hx hb dX5_mixPair_130 rfl (lv_at hl 1 rfl) ?_
                    refine lv_iload_n hx hb dX5_mixPair_131 rfl (lv_at hl 2 rfl) ?_
                    refine q_calli w (q_runS X w (c_X5_at l k (upL h 91 5 u) q kk) (va_cwS 2 hts gX5_mixPair_X5_at rfl rfl rfl (by decide +kernel) ⟨Nat.le_of_ble_eq_true rfl, Nat.le_of_ble_eq_true rfl⟩) rfl hl.1 rfl (Nat.le_of_ble_eq_true rfl) dX5_mixPair_132 ⟨Nat.le_of_ble_eq_true rfl, Nat.le_of_ble_eq_true rfl⟩) (fun r_132 h_132 H locs hp w => ?_)
                    obtain ⟨er_132, eh_132⟩ := hp
                    rw [eh_132] at w
                    have er_132 : r_132 = nI (1 + 116 * q + kk) := er_132
                    subst er_132
                    refine q_lald X w 92 (1 + 116 * q + kk) (by decide) (fun _ => rfl) rfl (show (1 + 116 * q + kk) < 233 by omega) (by decide) dX5_mixPair_135 ?_
                    refine q_callv w (q_runV X w 91 (c_X5_mix l k (upL h 91 5 u) ((upL h 91 5 u).2.1 92 (1 + 116 * q + kk))) (cwV 1 hts gX5_mixPair_X5_mix rfl rfl rfl (by decide +kernel) ⟨Nat.le_of_ble_eq_true rfl, Nat.le_of_ble_eq_true rfl⟩) (by decide) rfl rfl rfl hl.1 rfl (Nat.le_of_ble_eq_true rfl) dX5_mixPair_136 ⟨Nat.le_of_ble_eq_true rfl, Nat.le_of_ble_eq_true rfl⟩) (fun h_136 H locs hp w => ?_)
                    have eh_136 := hp
                    refine lv_iinc (v := nI (kk + 1)) (lv' := [(2, .int (nI (kk + 1))), (0, .ref (k.2.1 91)), (1, .int (nI q))]) hx hb dX5_mixPair_139 hl (k := 2) rfl (nI_1 _) (by decide) rfl (fun ls hl => ?_)
                    refine lv_goto (tgt := 103) hx hb dX5_mixPair_142 (by decide) ?_
                    rw [upL92] at c_121
                    have e136 : h_136 = upL h 91 5 (31 * u + h.2.1 92 (1 + 116 * q + kk)) := by rw [eh_136, upLL, upLs5, upL92]
                    rw [e136] at w
                    exact ih3 (j + 1) (kk + 1) (31 * u + h.2.1 92 (1 + 116 * q + kk)) ⟨by omega, by omega, Or.inl ⟨c_121, by rw [mxB_u hinv3 c_121, hk1]; rfl⟩⟩ (by omega) _ _ _ w (lv_sub hl [1, 2, 0] rfl)
            rw [e97] at w
            exact lp3 5 0 98 (mxA (h.2.1 92) q (h.2.1 91 5)) ⟨by omega, by omega, Or.inr ⟨rfl, rfl⟩⟩ (by omega) _ _ _ w (lv_sub hl [1, 2, 0] rfl)
          · exact absurd (by decide) c_74
        · rw [hf_71] at er_71
          have er_71 : r_71 = nI 1 := er_71
          subst er_71
          refine lv_if_eq (tgt := 81) hx hb dX5_mixPair_74 (by decide) (fun c_74 => ?_) (fun c_74 => ?_)
          · exact absurd c_74 (by decide)
          · refine lv_lconst (v := 1) hx hb dX5_mixPair_77 (by decide) ?_
            refine lv_goto (tgt := 82) hx hb dX5_mixPair_78 (by decide) ?_
            refine q_callv w (q_runV X w 91 (c_X5_mix l k (upL h 91 5 v) 1) (cwV 1 hts gX5_mixPair_X5_mix rfl rfl rfl (by decide +kernel) ⟨Nat.le_of_ble_eq_true rfl, Nat.le_of_ble_eq_true rfl⟩) (by decide) rfl rfl rfl hl.1 rfl (Nat.le_of_ble_eq_true rfl) dX5_mixPair_82 ⟨Nat.le_of_ble_eq_true rfl, Nat.le_of_ble_eq_true rfl⟩) (fun h_82 H locs hp w => ?_)
            have eh_82 := hp
            have e82 : h_82 = upL h 91 5 (31 * v + (if mef (h.2.1 92) q = true then 1 else 0)) := by rw [upL92] at hf_71; rw [eh_82, upLL, upLs5, hf_71]; rfl
            refine lv_aload_n hx hb dX5_mixPair_85 rfl (lv_at hl 0 rfl) ?_
            refine lv_aload_n hx hb dX5_mixPair_86 rfl (lv_at hl 0 rfl) ?_
            refine q_get X w 91 0 (ci := 5) (by decide) rfl rfl hi5 (by decide) (by decide +kernel) rfl dX5_mixPair_87 ?_
            refine lv_iload_n hx hb dX5_mixPair_90 rfl (lv_at hl 1 rfl) ?_
            refine lv_bipush (v := nI 97) hx hb dX5_mixPair_91 (by decide) ?_
            refine q_calli w (q_runS X w (c_X5_at l k h_82 q 97) (va_cwS 2 hts gX5_mixPair_X5_at rfl rfl rfl (by decide +kernel) ⟨Nat.le_of_ble_eq_true rfl, Nat.le_of_ble_eq_true rfl⟩) rfl hl.1 rfl (Nat.le_of_ble_eq_true rfl) dX5_mixPair_93 ⟨Nat.le_of_ble_eq_true rfl, Nat.le_of_ble_eq_true rfl⟩) (fun r_93 h_93 H locs hp w => ?_)
            obtain ⟨er_93, eh_93⟩ := hp
            rw [eh_93] at w
            have er_93 : r_93 = nI (1 + 116 * q + 97) := er_93
            subst er_93
            refine q_lald X w 92 (1 + 116 * q + 97) (by decide) (fun _ => rfl) rfl (show (1 + 116 * q + 97) < 233 by omega) (by decide) dX5_mixPair_96 ?_
            refine q_callv w (q_runV X w 91 (c_X5_mix l k h_82 (h_82.2.1 92 (1 + 116 * q + 97))) (cwV 1 hts gX5_mixPair_X5_mix rfl rfl rfl (by decide +kernel) ⟨Nat.le_of_ble_eq_true rfl, Nat.le_of_ble_eq_true rfl⟩) (by decide) rfl rfl rfl hl.1 rfl (Nat.le_of_ble_eq_true rfl) dX5_mixPair_97 ⟨Nat.le_of_ble_eq_true rfl, Nat.le_of_ble_eq_true rfl⟩) (fun h_97 H locs hp w => ?_)
            have eh_97 := hp
            have e97 : h_97 = upL h 91 5 (mxA (h.2.1 92) q (h.2.1 91 5)) := by obtain rfl : t = 16 := (by omega); rw [eh_97, e82, upLL, upLs5, upL92, hinv.2]; rfl
            refine lv_bipush (v := nI 98) hx hb dX5_mixPair_100 (by decide) ?_
            refine lv_istore_n (lv' := [(2, .int (nI 98)), (0, .ref (k.2.1 91)), (1, .int (nI q))]) hx hb dX5_mixPair_102 rfl hl (by decide) rfl (fun ls hl => ?_)
            have lp3 : ∀ (fu : Nat) (j : Nat) (kk : Nat) (u : Int64), (kk = 98 + j ∧ j ≤ 4 ∧ ((h.2.1 92 (1 + 116 * q + 97) = 1 ∧ u = mxO (h.2.1 92) q j (mxA (h.2.1 92) q (h.2.1 91 5))) ∨ (j = 0 ∧ u = mxA (h.2.1 92) q (h.2.1 91 5)))) → (4 - j) < fu → ∀ (H : Heap) (locs : List Loc) (ls : Array Slot), WX k s H locs (upL h 91 5 u) → lv_has ls 4 [(0, .ref (k.2.1 91)), (1, .int (nI q)), (2, .int (nI kk))] → W p l e rc_X5_mixPair s m args below meth c H locs 0 0 Q (F0 m 103 ls []) := by
              intro fu
              induction fu with
              | zero => intro j kk u _ hm; exact absurd hm (Nat.not_lt_zero _)
              | succ fu ih3 =>
                intro j kk u hinv3 hm3 H locs ls w hl
                have hk1 := hinv3.1
                have hk2 := hinv3.2.1
                refine lv_iload_n hx hb dX5_mixPair_103 rfl (lv_at hl 2 rfl) ?_
                refine lv_bipush (v := nI 101) hx hb dX5_mixPair_104 (by decide) ?_
                refine q_icgt X (tgt := 145) (by omega) (by decide) dX5_mixPair_106 (by decide) (fun c_106 => ?_) (fun c_106 => ?_)
                · have hB : u = mxB (h.2.1 92) q (h.2.1 91 5) := by first | exact mxB_1 hinv3 c_106 | exact mxB_0 hinv3 (by rw [upL92] at c_121; exact c_121)
                  refine lv_aload_n hx hb dX5_mixPair_145 rfl (lv_at hl 0 rfl) ?_
                  refine lv_aload_n hx hb dX5_mixPair_146 rfl (lv_at hl 0 rfl) ?_
                  refine q_get X w 91 0 (ci := 5) (by decide) rfl rfl hi5 (by decide) (by decide +kernel) rfl dX5_mixPair_147 ?_
                  refine lv_iload_n hx hb dX5_mixPair_150 rfl (lv_at hl 1 rfl) ?_
                  refine lv_bipush (v := nI 108) hx hb dX5_mixPair_151 (by decide) ?_
                  refine q_calli w (q_runS X w (c_X5_at l k (upL h 91 5 u) q 108) (va_cwS 2 hts gX5_mixPair_X5_at rfl rfl rfl (by decide +kernel) ⟨Nat.le_of_ble_eq_true rfl, Nat.le_of_ble_eq_true rfl⟩) rfl hl.1 rfl (Nat.le_of_ble_eq_true rfl) dX5_mixPair_153 ⟨Nat.le_of_ble_eq_true rfl, Nat.le_of_ble_eq_true rfl⟩) (fun r_153 h_153 H locs hp w => ?_)
                  obtain ⟨er_153, eh_153⟩ := hp
                  rw [eh_153] at w
                  have er_153 : r_153 = nI (1 + 116 * q + 108) := er_153
                  subst er_153
                  refine q_lald X w 92 (1 + 116 * q + 108) (by decide) (fun _ => rfl) rfl (show (1 + 116 * q + 108) < 233 by omega) (by decide) dX5_mixPair_156 ?_
                  refine q_callv w (q_runV X w 91 (c_X5_mix l k (upL h 91 5 u) ((upL h 91 5 u).2.1 92 (1 + 116 * q + 108))) (cwV 1 hts gX5_mixPair_X5_mix rfl rfl rfl (by decide +kernel) ⟨Nat.le_of_ble_eq_true rfl, Nat.le_of_ble_eq_true rfl⟩) (by decide) rfl rfl rfl hl.1 rfl (Nat.le_of_ble_eq_true rfl) dX5_mixPair_157 ⟨Nat.le_of_ble_eq_true rfl, Nat.le_of_ble_eq_true rfl⟩) (fun h_157 H locs hp w => ?_)
                  have eh_157 := hp
                  refine lv_aload_n hx hb dX5_mixPair_160 rfl (lv_at hl 0 rfl) ?_
                  refine lv_aload_n hx hb dX5_mixPair_161 rfl (lv_at hl 0 rfl) ?_
                  refine q_get X w 91 0 (ci := 5) (by decide) rfl rfl hi5 (by decide) (by decide +kernel) rfl dX5_mixPair_162 ?_
                  refine lv_iload_n hx hb dX5_mixPair_165 rfl (lv_at hl 1 rfl) ?_
                  refine lv_bipush (v := nI 112) hx hb dX5_mixPair_166 (by decide) ?_
                  refine q_calli w (q_runS X w (c_X5_at l k h_157 q 112) (va_cwS 2 hts gX5_mixPair_X5_at rfl rfl rfl (by decide +kernel) ⟨Nat.le_of_ble_eq_true rfl, Nat.le_of_ble_eq_true rfl⟩) rfl hl.1 rfl (Nat.le_of_ble_eq_true rfl) dX5_mixPair_168 ⟨Nat.le_of_ble_eq_true rfl, Nat.le_of_ble_eq_true rfl⟩) (fun r_168 h_168 H locs hp w => ?_)
                  obtain ⟨er_168, eh_168⟩ := hp
                  rw [eh_168] at w
                  have er_168 : r_168 = nI (1 + 116 * q + 112) := er_168
                  subst er_168
                  refine q_lald X w 92 (1 + 116 * q + 112) (by decide) (fun _ => rfl) rfl (show (1 + 116 * q + 112) < 233 by omega) (by decide) dX5_mixPair_171 ?_
                  refine q_callv w (q_runV X w 91 (c_X5_mix l k h_157 (h_157.2.1 92 (1 + 116 * q + 112))) (cwV 1 hts gX5_mixPair_X5_mix rfl rfl rfl (by decide +kernel) ⟨Nat.le_of_ble_eq_true rfl, Nat.le_of_ble_eq_true rfl⟩) (by decide) rfl rfl rfl hl.1 rfl (Nat.le_of_ble_eq_true rfl) dX5_mixPair_172 ⟨Nat.le_of_ble_eq_true rfl, Nat.le_of_ble_eq_true rfl⟩) (fun h_172 H locs hp w => ?_)
                  have eh_172 := hp
                  refine lv_aload_n hx hb dX5_mixPair_175 rfl (lv_at hl 0 rfl) ?_
                  refine lv_aload_n hx hb dX5_mixPair_176 rfl (lv_at hl 0 rfl) ?_
                  refine q_get X w 91 0 (ci := 5) (by decide) rfl rfl hi5 (by decide) (by decide +kernel) rfl dX5_mixPair_177 ?_
                  refine lv_iload_n hx hb dX5_mixPair_180 rfl (lv_at hl 1 rfl) ?_
                  refine lv_bipush (v := nI 115) hx hb dX5_mixPair_181 (by decide) ?_
                  refine q_calli w (q_runS X w (c_X5_at l k h_172 q 115) (va_cwS 2 hts gX5_mixPair_X5_at rfl rfl rfl (by decide +kernel) ⟨Nat.le_of_ble_eq_true rfl, Nat.le_of_ble_eq_true rfl⟩) rfl hl.1 rfl (Nat.le_of_ble_eq_true rfl) dX5_mixPair_183 ⟨Nat.le_of_ble_eq_true rfl, Nat.le_of_ble_eq_true rfl⟩) (fun r_183 h_183 H locs hp w => ?_)
                  obtain ⟨er_183, eh_183⟩ := hp
                  rw [eh_183] at w
                  have er_183 : r_183 = nI (1 + 116 * q + 115) := er_183
                  subst er_183
                  refine q_lald X w 92 (1 + 116 * q + 115) (by decide) (fun _ => rfl) rfl (show (1 + 116 * q + 115) < 233 by omega) (by decide) dX5_mixPair_186 ?_
                  refine q_callv w (q_runV X w 91 (c_X5_mix l k h_172 (h_172.2.1 92 (1 + 116 * q + 115))) (cwV 1 hts gX5_mixPair_X5_mix rfl rfl rfl (by decide +kernel) ⟨Nat.le_of_ble_eq_true rfl, Nat.le_of_ble_eq_true rfl⟩) (by decide) rfl rfl rfl hl.1 rfl (Nat.le_of_ble_eq_true rfl) dX5_mixPair_187 ⟨Nat.le_of_ble_eq_true rfl, Nat.le_of_ble_eq_true rfl⟩) (fun h_187 H locs hp w => ?_)
                  have eh_187 := hp
                  exact hret _ _ _ _ _ _ _ dX5_mixPair_190 w (by rw [eh_187, eh_172, eh_157, upLL, upLL, upLL, upLs5, upLs5, upLs5, upL92, upL92, upL92, hB]; rfl) (Nat.le_of_ble_eq_true rfl) (Nat.le_of_ble_eq_true rfl)
                · refine lv_aload_n hx hb dX5_mixPair_109 rfl (lv_at hl 0 rfl) ?_
                  refine q_get X w 91 0 (ci := 5) (by decide) rfl rfl hi5 (by decide) (by decide +kernel) rfl dX5_mixPair_110 ?_
                  refine lv_iload_n hx hb dX5_mixPair_113 rfl (lv_at hl 1 rfl) ?_
                  refine lv_bipush (v := nI 97) hx hb dX5_mixPair_114 (by decide) ?_
                  refine q_calli w (q_runS X w (c_X5_at l k (upL h 91 5 u) q 97) (va_cwS 2 hts gX5_mixPair_X5_at rfl rfl rfl (by decide +kernel) ⟨Nat.le_of_ble_eq_true rfl, Nat.le_of_ble_eq_true rfl⟩) rfl hl.1 rfl (Nat.le_of_ble_eq_true rfl) dX5_mixPair_116 ⟨Nat.le_of_ble_eq_true rfl, Nat.le_of_ble_eq_true rfl⟩) (fun r_116 h_116 H locs hp w => ?_)
                  obtain ⟨er_116, eh_116⟩ := hp
                  rw [eh_116] at w
                  have er_116 : r_116 = nI (1 + 116 * q + 97) := er_116
                  subst er_116
                  refine q_lald X w 92 (1 + 116 * q + 97) (by decide) (fun _ => rfl) rfl (show (1 + 116 * q + 97) < 233 by omega) (by decide) dX5_mixPair_119 ?_
                  refine lv_lconst (v := 1) hx hb dX5_mixPair_120 (by decide) ?_
                  refine q_lif_ne X (tgt := 145) dX5_mixPair_121 dX5_mixPair_122 (by decide) (fun c_121 => ?_) (fun c_121 => ?_)
                  · have hB : u = mxB (h.2.1 92) q (h.2.1 91 5) := by first | exact mxB_1 hinv3 c_106 | exact mxB_0 hinv3 (by rw [upL92] at c_121; exact c_121)
                    refine lv_aload_n hx hb dX5_mixPair_145 rfl (lv_at hl 0 rfl) ?_
                    refine lv_aload_n hx hb dX5_mixPair_146 rfl (lv_at hl 0 rfl) ?_
                    refine q_get X w 91 0 (ci := 5) (by decide) rfl rfl hi5 (by decide) (by decide +kernel) rfl dX5_mixPair_147 ?_
                    refine lv_iload_n hx hb dX5_mixPair_150 rfl (lv_at hl 1 rfl) ?_
                    refine lv_bipush (v := nI 108) hx hb dX5_mixPair_151 (by decide) ?_
                    refine q_calli w (q_runS X w (c_X5_at l k (upL h 91 5 u) q 108) (va_cwS 2 hts gX5_mixPair_X5_at rfl rfl rfl (by decide +kernel) ⟨Nat.le_of_ble_eq_true rfl, Nat.le_of_ble_eq_true rfl⟩) rfl hl.1 rfl (Nat.le_of_ble_eq_true rfl) dX5_mixPair_153 ⟨Nat.le_of_ble_eq_true rfl, Nat.le_of_ble_eq_true rfl⟩) (fun r_153 h_153 H locs hp w => ?_)
                    obtain ⟨er_153, eh_153⟩ := hp
                    rw [eh_153] at w
                    have er_153 : r_153 = nI (1 + 116 * q + 108) := er_153
                    subst er_153
                    refine q_lald X w 92 (1 + 116 * q + 108) (by decide) (fun _ => rfl) rfl (show (1 + 116 * q + 108) < 233 by omega) (by decide) dX5_mixPair_156 ?_
                    refine q_callv w (q_runV X w 91 (c_X5_mix l k (upL h 91 5 u) ((upL h 91 5 u).2.1 92 (1 + 116 * q + 108))) (cwV 1 hts gX5_mixPair_X5_mix rfl rfl rfl (by decide +kernel) ⟨Nat.le_of_ble_eq_true rfl, Nat.le_of_ble_eq_true rfl⟩) (by decide) rfl rfl rfl hl.1 rfl (Nat.le_of_ble_eq_true rfl) dX5_mixPair_157 ⟨Nat.le_of_ble_eq_true rfl, Nat.le_of_ble_eq_true rfl⟩) (fun h_157 H locs hp w => ?_)
                    have eh_157 := hp
                    refine lv_aload_n hx hb dX5_mixPair_160 rfl (lv_at hl 0 rfl) ?_
                    refine lv_aload_n hx hb dX5_mixPair_161 rfl (lv_at hl 0 rfl) ?_
                    refine q_get X w 91 0 (ci := 5) (by decide) rfl rfl hi5 (by decide) (by decide +kernel) rfl dX5_mixPair_162 ?_
                    refine lv_iload_n hx hb dX5_mixPair_165 rfl (lv_at hl 1 rfl) ?_
                    refine lv_bipush (v := nI 112) hx hb dX5_mixPair_166 (by decide) ?_
                    refine q_calli w (q_runS X w (c_X5_at l k h_157 q 112) (va_cwS 2 hts gX5_mixPair_X5_at rfl rfl rfl (by decide +kernel) ⟨Nat.le_of_ble_eq_true rfl, Nat.le_of_ble_eq_true rfl⟩) rfl hl.1 rfl (Nat.le_of_ble_eq_true rfl) dX5_mixPair_168 ⟨Nat.le_of_ble_eq_true rfl, Nat.le_of_ble_eq_true rfl⟩) (fun r_168 h_168 H locs hp w => ?_)
                    obtain ⟨er_168, eh_168⟩ := hp
                    rw [eh_168] at w
                    have er_168 : r_168 = nI (1 + 116 * q + 112) := er_168
                    subst er_168
                    refine q_lald X w 92 (1 + 116 * q + 112) (by decide) (fun _ => rfl) rfl (show (1 + 116 * q + 112) < 233 by omega) (by decide) dX5_mixPair_171 ?_
                    refine q_callv w (q_runV X w 91 (c_X5_mix l k h_157 (h_157.2.1 92 (1 + 116 * q + 112))) (cwV 1 hts gX5_mixPair_X5_mix rfl rfl rfl (by decide +kernel) ⟨Nat.le_of_ble_eq_true rfl, Nat.le_of_ble_eq_true rfl⟩) (by decide) rfl rfl rfl hl.1 rfl (Nat.le_of_ble_eq_true rfl) dX5_mixPair_172 ⟨Nat.le_of_ble_eq_true rfl, Nat.le_of_ble_eq_true rfl⟩) (fun h_172 H locs hp w => ?_)
                    have eh_172 := hp
                    refine lv_aload_n hx hb dX5_mixPair_175 rfl (lv_at hl 0 rfl) ?_
                    refine lv_aload_n hx hb dX5_mixPair_176 rfl (lv_at hl 0 rfl) ?_
                    refine q_get X w 91 0 (ci := 5) (by decide) rfl rfl hi5 (by decide) (by decide +kernel) rfl dX5_mixPair_177 ?_
                    refine lv_iload_n hx hb dX5_mixPair_180 rfl (lv_at hl 1 rfl) ?_
                    refine lv_bipush (v := nI 115) hx hb dX5_mixPair_181 (by decide) ?_
                    refine q_calli w (q_runS X w (c_X5_at l k h_172 q 115) (va_cwS 2 hts gX5_mixPair_X5_at rfl rfl rfl (by decide +kernel) ⟨Nat.le_of_ble_eq_true rfl, Nat.le_of_ble_eq_true rfl⟩) rfl hl.1 rfl (Nat.le_of_ble_eq_true rfl) dX5_mixPair_183 ⟨Nat.le_of_ble_eq_true rfl, Nat.le_of_ble_eq_true rfl⟩) (fun r_183 h_183 H locs hp w => ?_)
                    obtain ⟨er_183, eh_183⟩ := hp
                    rw [eh_183] at w
                    have er_183 : r_183 = nI (1 + 116 * q + 115) := er_183
                    subst er_183
                    refine q_lald X w 92 (1 + 116 * q + 115) (by decide) (fun _ => rfl) rfl (show (1 + 116 * q + 115) < 233 by omega) (by decide) dX5_mixPair_186 ?_
                    refine q_callv w (q_runV X w 91 (c_X5_mix l k h_172 (h_172.2.1 92 (1 + 116 * q + 115))) (cwV 1 hts gX5_mixPair_X5_mix rfl rfl rfl (by decide +kernel) ⟨Nat.le_of_ble_eq_true rfl, Nat.le_of_ble_eq_true rfl⟩) (by decide) rfl rfl rfl hl.1 rfl (Nat.le_of_ble_eq_true rfl) dX5_mixPair_187 ⟨Nat.le_of_ble_eq_true rfl, Nat.le_of_ble_eq_true rfl⟩) (fun h_187 H locs hp w => ?_)
                    have eh_187 := hp
                    exact hret _ _ _ _ _ _ _ dX5_mixPair_190 w (by rw [eh_187, eh_172, eh_157, upLL, upLL, upLL, upLs5, upLs5, upLs5, upL92, upL92, upL92, hB]; rfl) (Nat.le_of_ble_eq_true rfl) (Nat.le_of_ble_eq_true rfl)
                  · refine lv_aload_n hx hb dX5_mixPair_125 rfl (lv_at hl 0 rfl) ?_
                    refine lv_aload_n hx hb dX5_mixPair_126 rfl (lv_at hl 0 rfl) ?_
                    refine q_get X w 91 0 (ci := 5) (by decide) rfl rfl hi5 (by decide) (by decide +kernel) rfl dX5_mixPair_127 ?_
                    refine lv_iload_n hx hb dX5_mixPair_130 rfl (lv_at hl 1 rfl) ?_
                    refine lv_iload_n hx hb dX5_mixPair_131 rfl (lv_at hl 2 rfl) ?_
                    refine q_calli w (q_runS X w (c_X5_at l k (upL h 91 5 u) q kk) (va_cwS 2 hts gX5_mixPair_X5_at rfl rfl rfl (by decide +kernel) ⟨Nat.le_of_ble_eq_true rfl, Nat.le_of_ble_eq_true rfl⟩) rfl hl.1 rfl (Nat.le_of_ble_eq_true rfl) dX5_mixPair_132 ⟨Nat.le_of_ble_eq_true rfl, Nat.le_of_ble_eq_true rfl⟩) (fun r_132 h_132 H locs hp w => ?_)
                    obtain ⟨er_132, eh_132⟩ := hp
                    rw [eh_132] at w
                    have er_132 : r_132 = nI (1 + 116 * q + kk) := er_132
                    subst er_132
                    refine q_lald X w 92 (1 + 116 * q + kk) (by decide) (fun _ => rfl) rfl (show (1 + 116 * q + kk) < 233 by omega) (by decide) dX5_mixPair_135 ?_
                    refine q_callv w (q_runV X w 91 (c_X5_mix l k (upL h 91 5 u) ((upL h 91 5 u).2.1 92 (1 + 116 * q + kk))) (cwV 1 hts gX5_mixPair_X5_mix rfl rfl rfl (by decide +kernel) ⟨Nat.le_of_ble_eq_true rfl, Nat.le_of_ble_eq_true rfl⟩) (by decide) rfl rfl rfl hl.1 rfl (Nat.le_of_ble_eq_true rfl) dX5_mixPair_136 ⟨Nat.le_of_ble_eq_true rfl, Nat.le_of_ble_eq_true rfl⟩) (fun h_136 H locs hp w => ?_)
                    have eh_136 := hp
                    refine lv_iinc (v := nI (kk + 1)) (lv' := [(2, .int (nI (kk + 1))), (0, .ref (k.2.1 91)), (1, .int (nI q))]) hx hb dX5_mixPair_139 hl (k := 2) rfl (nI_1 _) (by decide) rfl (fun ls hl => ?_)
                    refine lv_goto (tgt := 103) hx hb dX5_mixPair_142 (by decide) ?_
                    rw [upL92] at c_121
                    have e136 : h_136 = upL h 91 5 (31 * u + h.2.1 92 (1 + 116 * q + kk)) := by rw [eh_136, upLL, upLs5, upL92]
                    rw [e136] at w
                    exact ih3 (j + 1) (kk + 1) (31 * u + h.2.1 92 (1 + 116 * q + kk)) ⟨by omega, by omega, Or.inl ⟨c_121, by rw [mxB_u hinv3 c_121, hk1]; rfl⟩⟩ (by omega) _ _ _ w (lv_sub hl [1, 2, 0] rfl)
            rw [e97] at w
            exact lp3 5 0 98 (mxA (h.2.1 92) q (h.2.1 91 5)) ⟨by omega, by omega, Or.inr ⟨rfl, rfl⟩⟩ (by omega) _ _ _ w (lv_sub hl [1, 2, 0] rfl)
      · refine lv_iconst (v := nI 1) hx hb dX5_mixPair_22 (by decide) ?_
        refine lv_istore_n (lv' := [(3, .int (nI 1)), (0, .ref (k.2.1 91)), (1, .int (nI q)), (2, .int (nI t))]) hx hb dX5_mixPair_23 rfl hl (by decide) rfl (fun ls hl => ?_)
        have lp2 : ∀ (fu : Nat) (j : Nat) (kk : Nat) (v2 : Int64), (kk = 1 + 16 * j ∧ j ≤ 6 ∧ v2 = mxK (h.2.1 92) q t j v) → (6 - j) < fu → ∀ (H : Heap) (locs : List Loc) (ls : Array Slot), WX k s H locs (upL h 91 5 v2) → lv_has ls 4 [(0, .ref (k.2.1 91)), (1, .int (nI q)), (2, .int (nI t)), (3, .int (nI kk))] → W p l e rc_X5_mixPair s m args below meth c H locs 0 0 Q (F0 m 24 ls []) := by
          intro fu
          induction fu with
          | zero => intro j kk v2 _ hm; exact absurd hm (Nat.not_lt_zero _)
          | succ fu ih2 =>
            intro j kk v2 hinv2 hm2 H locs ls w hl
            have hk1 := hinv2.1
            have hk2 := hinv2.2.1
            refine lv_iload_n hx hb dX5_mixPair_24 rfl (lv_at hl 3 rfl) ?_
            refine lv_bipush (v := nI 81) hx hb dX5_mixPair_25 (by decide) ?_
            refine q_icgt X (tgt := 52) (by omega) (by decide) dX5_mixPair_27 (by decide) (fun c_27 => ?_) (fun c_27 => ?_)
            · refine lv_aload_n hx hb dX5_mixPair_52 rfl (lv_at hl 0 rfl) ?_
              refine lv_aload_n hx hb dX5_mixPair_53 rfl (lv_at hl 0 rfl) ?_
              refine lv_iload_n hx hb dX5_mixPair_54 rfl (lv_at hl 1 rfl) ?_
              refine lv_iload_n hx hb dX5_mixPair_55 rfl (lv_at hl 2 rfl) ?_
              refine q_calll w (q_runV X w 91 (c_X5_marginOf l k (upL h 91 5 v2) (q := q) (t := t) (by omega) (by omega) (by rw [upL92]; exact hz q t hq (by omega))) (cwV 2 hts gX5_mixPair_X5_marginOf rfl rfl rfl (by decide +kernel) ⟨Nat.le_of_ble_eq_true rfl, Nat.le_of_ble_eq_true rfl⟩) (by decide) rfl rfl rfl hl.1 rfl (Nat.le_of_ble_eq_true rfl) dX5_mixPair_56 ⟨Nat.le_of_ble_eq_true rfl, Nat.le_of_ble_eq_true rfl⟩) (fun r_56 h_56 H locs hp w => ?_)
              obtain ⟨er_56, eh_56⟩ := hp
              rw [eh_56] at w
              have er_56 : r_56 = mmg ((upL h 91 5 v2).2.1 92) q t := er_56
              subst er_56
              refine q_callv w (q_runV X w 91 (c_X5_mix l k (upL h 91 5 v2) (mmg ((upL h 91 5 v2).2.1 92) q t)) (cwV 1 hts gX5_mixPair_X5_mix rfl rfl rfl (by decide +kernel) ⟨Nat.le_of_ble_eq_true rfl, Nat.le_of_ble_eq_true rfl⟩) (by decide) rfl rfl rfl hl.1 rfl (Nat.le_of_ble_eq_true rfl) dX5_mixPair_59 ⟨Nat.le_of_ble_eq_true rfl, Nat.le_of_ble_eq_true rfl⟩) (fun h_59 H locs hp w => ?_)
              have eh_59 := hp
              refine lv_iinc (v := nI (t + 1)) (lv' := [(2, .int (nI (t + 1))), (0, .ref (k.2.1 91)), (1, .int (nI q)), (3, .int (nI kk))]) hx hb dX5_mixPair_62 hl (k := 2) rfl (nI_1 _) (by decide) rfl (fun ls hl => ?_)
              refine lv_goto (tgt := 16) hx hb dX5_mixPair_65 (by decide) ?_
              have ej : j = 6 := by omega
              have e59 : h_59 = upL h 91 5 (31 * v2 + mmg (h.2.1 92) q t) := by rw [eh_59, upLL, upLs5, upL92]
              rw [e59] at w
              exact ih1 (t + 1) (31 * v2 + mmg (h.2.1 92) q t) ⟨by omega, by rw [hinv2.2.2, ej, hinv.2]; rfl⟩ (by omega) _ _ _ w (lv_sub hl [1, 2, 0] rfl)
            · refine lv_aload_n hx hb dX5_mixPair_30 rfl (lv_at hl 0 rfl) ?_
              refine lv_aload_n hx hb dX5_mixPair_31 rfl (lv_at hl 0 rfl) ?_
              refine q_get X w 91 0 (ci := 5) (by decide) rfl rfl hi5 (by decide) (by decide +kernel) rfl dX5_mixPair_32 ?_
              refine lv_iload_n hx hb dX5_mixPair_35 rfl (lv_at hl 1 rfl) ?_
              refine lv_iload_n hx hb dX5_mixPair_36 rfl (lv_at hl 3 rfl) ?_
              refine lv_iload_n hx hb dX5_mixPair_37 rfl (lv_at hl 2 rfl) ?_
              refine q_iaddN X dX5_mixPair_38 ?_
              refine q_calli w (q_runS X w (c_X5_at l k (upL h 91 5 v2) q (kk + t)) (va_cwS 2 hts gX5_mixPair_X5_at rfl rfl rfl (by decide +kernel) ⟨Nat.le_of_ble_eq_true rfl, Nat.le_of_ble_eq_true rfl⟩) rfl hl.1 rfl (Nat.le_of_ble_eq_true rfl) dX5_mixPair_39 ⟨Nat.le_of_ble_eq_true rfl, Nat.le_of_ble_eq_true rfl⟩) (fun r_39 h_39 H locs hp w => ?_)
              obtain ⟨er_39, eh_39⟩ := hp
              rw [eh_39] at w
              have er_39 : r_39 = nI (1 + 116 * q + (kk + t)) := er_39
              subst er_39
              refine q_lald X w 92 (1 + 116 * q + (kk + t)) (by decide) (fun _ => rfl) rfl (show (1 + 116 * q + (kk + t)) < 233 by omega) (by decide) dX5_mixPair_42 ?_
              refine q_callv w (q_runV X w 91 (c_X5_mix l k (upL h 91 5 v2) ((upL h 91 5 v2).2.1 92 (1 + 116 * q + (kk + t)))) (cwV 1 hts gX5_mixPair_X5_mix rfl rfl rfl (by decide +kernel) ⟨Nat.le_of_ble_eq_true rfl, Nat.le_of_ble_eq_true rfl⟩) (by decide) rfl rfl rfl hl.1 rfl (Nat.le_of_ble_eq_true rfl) dX5_mixPair_43 ⟨Nat.le_of_ble_eq_true rfl, Nat.le_of_ble_eq_true rfl⟩) (fun h_43 H locs hp w => ?_)
              have eh_43 := hp
              refine lv_iinc (v := nI (kk + 16)) (lv' := [(3, .int (nI (kk + 16))), (0, .ref (k.2.1 91)), (1, .int (nI q)), (2, .int (nI t))]) hx hb dX5_mixPair_46 hl (k := 3) rfl (nI_add _ 16) (by decide) rfl (fun ls hl => ?_)
              refine lv_goto (tgt := 24) hx hb dX5_mixPair_49 (by decide) ?_
              have e43 : h_43 = upL h 91 5 (31 * v2 + h.2.1 92 (1 + 116 * q + (kk + t))) := by rw [eh_43, upLL, upLs5, upL92]
              rw [e43] at w
              exact ih2 (j + 1) (kk + 16) (31 * v2 + h.2.1 92 (1 + 116 * q + (kk + t))) ⟨by omega, by omega, by rw [hinv2.2.2, hk1]; rfl⟩ (by omega) _ _ _ w (lv_sub hl [1, 2, 3, 0] rfl)
        exact lp2 7 0 1 v ⟨by omega, by omega, rfl⟩ (by omega) _ _ _ w (lv_sub hl [1, 2, 3, 0] rfl)
  rw [eh_11] at w
  exact lp1 17 0 (31 * h.2.1 91 5 + h.2.1 92 (1 + 116 * q + 0)) ⟨by omega, rfl⟩ (by omega) _ _ _ w (lv_sub hl [1, 2, 0] rfl)

abbrev rc_X5_digest : Room := { frames := 7, cells := 0, slots := 0, locals := 157 }
set_option maxHeartbeats 4000000 in
set_option maxRecDepth 100000 in
theorem c_X5_digest (l : Launch) (k : kY) (h : hS) {b : Nat} (hs0 : h.1 91 2 = nI b) (hs4 : b ≤ 4) (hz : mOK (h.2.1 92)) : CT l k yX5_digest wsX5_digest rc_X5_digest [.ref (k.2.1 91)] h (QL k (fun r h' => r = mdg (h.2.1 92) b ∧ h' = upL (upI h 91 3 (nI 0)) 91 5 (mdg (h.2.1 92) b))) 0 0 := by
  refine q_metL (cc := cX5_digest) (maxL := 1) (by decide) rfl (Nat.le_of_ble_eq_true rfl) ?_
  intro p e s m args below meth c Q ls X w hl hret
  have hx := X.1
  have hb := X.2.1
  have hown := X.2.2.2.1
  have hts := X.2.2.2.2
  have hl : lv_has ls 1 [(0, .ref (k.2.1 91))] := hl
  have hi5 : ∀ w ∈ u_ws RX5 TX5 6, w ∈ wsX5_digest := by decide +kernel
  refine lv_aload_n hx hb dX5_digest_0 rfl (lv_at hl 0 rfl) ?_
  refine lv_iconst (v := nI 0) hx hb dX5_digest_1 (by decide) ?_
  refine q_put X w 91 3 .int (ci := 5) (by decide) rfl rfl rfl hi5 tyX5_ok nmX5 (by decide) (by decide +kernel) rfl (by decide +kernel) (rfl) (rfl) (Nat.le_of_ble_eq_true rfl) dX5_digest_2 (fun H locs w => ?_)
  obtain ⟨h_2, eh_2⟩ : ∃ z9, z9 = upI h 91 3 (nI 0) := ⟨_, rfl⟩
  rw [← eh_2] at w
  have kT : h_2.1 91 3 = nI 0 := by rw [eh_2, upI_s]; rfl
  refine lv_aload_n hx hb dX5_digest_5 rfl (lv_at hl 0 rfl) ?_
  refine lv_ldc2 (v := 2789) hx hb hown (hts (.constantLong RX5 174 2789) (by decide +kernel)) dX5_digest_6 ?_
  refine q_putL X w hi5 (by decide +kernel) dX5_digest_9 (fun H locs w => ?_)
  obtain ⟨h_9, eh_9⟩ : ∃ z9, z9 = upL h_2 91 5 2789 := ⟨_, rfl⟩
  rw [← eh_9] at w
  have kT : h_9.1 91 3 = nI 0 := by rw [eh_9]; exact kT
  have z9 : h_9.2.1 92 = h.2.1 92 := by rw [eh_9, eh_2, upL92]; rfl
  refine lv_aload_n hx hb dX5_digest_12 rfl (lv_at hl 0 rfl) ?_
  refine lv_aload_n hx hb dX5_digest_13 rfl (lv_at hl 0 rfl) ?_
  refine q_get X w 91 0 (ci := 5) (by decide) rfl rfl hi5 (by decide) (by decide +kernel) rfl dX5_digest_14 ?_
  refine lv_iconst (v := nI 0) hx hb dX5_digest_17 (by decide) ?_
  refine q_lald X w 92 0 (by decide) (fun _ => rfl) rfl (show 0 < 233 by omega) (by decide) dX5_digest_18 ?_
  refine q_callv w (q_runV X w 91 (c_X5_mix l k h_9 (h_9.2.1 92 0)) (cwV 1 hts gX5_digest_X5_mix rfl rfl rfl (by decide +kernel) ⟨Nat.le_of_ble_eq_true rfl, Nat.le_of_ble_eq_true rfl⟩) (by decide) rfl rfl rfl hl.1 rfl (Nat.le_of_ble_eq_true rfl) dX5_digest_19 ⟨Nat.le_of_ble_eq_true rfl, Nat.le_of_ble_eq_true rfl⟩) (fun h_19 H locs hp w => ?_)
  have eh_19 := hp
  have e19 : h_19 = upL (upI h 91 3 (nI 0)) 91 5 (31 * 2789 + h.2.1 92 0) := by rw [eh_19, z9, eh_9, upLL, upLs5, eh_2]
  refine lv_aload_n hx hb dX5_digest_22 rfl (lv_at hl 0 rfl) ?_
  refine lv_iconst (v := nI 0) hx hb dX5_digest_23 (by decide) ?_
  refine q_callv w (q_runV X w 91 (c_X5_mixPair l k h_19 (q := 0) (by omega) (by rw [e19, upL92]; exact hz)) (cwV 1 hts gX5_digest_X5_mixPair rfl rfl rfl (by decide +kernel) ⟨Nat.le_of_ble_eq_true rfl, Nat.le_of_ble_eq_true rfl⟩) (by decide) rfl rfl rfl hl.1 rfl (Nat.le_of_ble_eq_true rfl) dX5_digest_24 ⟨Nat.le_of_ble_eq_true rfl, Nat.le_of_ble_eq_true rfl⟩) (fun h_24 H locs hp w => ?_)
  have eh_24 := hp
  have e24 : h_24 = upL (upI h 91 3 (nI 0)) 91 5 (mxP (h.2.1 92) 0 (31 * 2789 + h.2.1 92 0)) := by rw [eh_24, e19, upLL, upLs5, upL92]; rfl
  refine lv_aload_n hx hb dX5_digest_27 rfl (lv_at hl 0 rfl) ?_
  refine lv_iconst (v := nI 1) hx hb dX5_digest_28 (by decide) ?_
  refine q_callv w (q_runV X w 91 (c_X5_mixPair l k h_24 (q := 1) (by omega) (by rw [e24, upL92]; exact hz)) (cwV 1 hts gX5_digest_X5_mixPair rfl rfl rfl (by decide +kernel) ⟨Nat.le_of_ble_eq_true rfl, Nat.le_of_ble_eq_true rfl⟩) (by decide) rfl rfl rfl hl.1 rfl (Nat.le_of_ble_eq_true rfl) dX5_digest_29 ⟨Nat.le_of_ble_eq_true rfl, Nat.le_of_ble_eq_true rfl⟩) (fun h_29 H locs hp w => ?_)
  have eh_29 := hp
  have e29 : h_29 = upL (upI h 91 3 (nI 0)) 91 5 (mxP (h.2.1 92) 1 (mxP (h.2.1 92) 0 (31 * 2789 + h.2.1 92 0))) := by rw [eh_29, e24, upLL, upLs5, upL92]; rfl
  refine lv_aload_n hx hb dX5_digest_32 rfl (lv_at hl 0 rfl) ?_
  refine lv_aload_n hx hb dX5_digest_33 rfl (lv_at hl 0 rfl) ?_
  refine q_get X w 91 2 (ci := 5) (by decide) rfl rfl hi5 (by decide) (by decide +kernel) rfl dX5_digest_34 ?_
  have e34 : h_29.1 91 2 = nI b := by rw [e29]; show (upI h 91 3 (nI 0)).1 91 2 = _; rw [upI_s]; exact hs0
  rw [e34]
  refine lv_i2l hx hb dX5_digest_37 rfl ?_
  refine q_callv w (q_runV X w 91 (c_X5_mix l k h_29 ((nI b).toInt64)) (cwV 1 hts gX5_digest_X5_mix rfl rfl rfl (by decide +kernel) ⟨Nat.le_of_ble_eq_true rfl, Nat.le_of_ble_eq_true rfl⟩) (by decide) rfl rfl rfl hl.1 rfl (Nat.le_of_ble_eq_true rfl) dX5_digest_38 ⟨Nat.le_of_ble_eq_true rfl, Nat.le_of_ble_eq_true rfl⟩) (fun h_38 H locs hp w => ?_)
  have eh_38 := hp
  refine lv_aload_n hx hb dX5_digest_41 rfl (lv_at hl 0 rfl) ?_
  refine q_get X w 91 5 (ci := 5) (by decide) rfl rfl hi5 (by decide) (by decide +kernel) rfl dX5_digest_42 ?_
  have e38 : h_38 = upL (upI h 91 3 (nI 0)) 91 5 (mdg (h.2.1 92) b) := by rw [eh_38, e29, upLL, upLs5]; rfl
  exact hret _ _ _ _ _ _ _ _ dX5_digest_45 w ⟨by rw [e38, upLs5], e38⟩ (Nat.le_of_ble_eq_true rfl) (Nat.le_of_ble_eq_true rfl)
