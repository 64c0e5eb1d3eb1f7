abbrev rc_X5_tellReceiver : Room := { frames := 1, cells := 0, slots := 0, locals := 21 }
set_option maxHeartbeats 4000000 in
set_option maxRecDepth 100000 in
theorem c_X5_tellReceiver (l : Launch) (k : kY) (h : hS) {q : Nat} (hq : q < 2) : CT l k yX5_tellReceiver wsX5_tellReceiver rc_X5_tellReceiver [.ref (k.2.1 91), .int (nI q)] h (QI k (fun r h' => ((h.2.1 92 (1 + 116 * q + 97) = 0 ∨ ¬ h.2.1 92 (1 + 116 * q + 98) = h.2.1 92 (1 + 116 * q + 113)) ∧ r = (-1) ∧ h' = h) ∨ (¬ (h.2.1 92 (1 + 116 * q + 97) = 0 ∨ ¬ h.2.1 92 (1 + 116 * q + 98) = h.2.1 92 (1 + 116 * q + 113)) ∧ r = (h.2.1 92 (1 + 116 * q + 114)).toInt32 ∧ h' = setL h 92 (va_up (h.2.1 92) (1 + 116 * q + 101) (h.2.1 92 (1 + 116 * q + 114)))))) 0 0 := by
  refine q_metI (cc := cX5_tellReceiver) (maxL := 2) (ret := some .int) (ty := .int) (by decide) rfl rfl (Nat.le_of_ble_eq_true rfl) ?_
  intro p e s m args below meth c Q ls X w hl hret
  have hx := X.1
  have hb := X.2.1
  have hown := X.2.2.2.1
  have hts := X.2.2.2.2
  have hl : lv_has ls 2 [(0, .ref (k.2.1 91)), (1, .int (nI q))] := hl
  have hi5 : ∀ w ∈ u_ws RX5 TX5 6, w ∈ wsX5_tellReceiver := by decide +kernel
  refine lv_aload_n hx hb dX5_tellReceiver_0 rfl (lv_at hl 0 rfl) ?_
  refine q_get X w 91 0 (ci := 5) (by decide) rfl rfl hi5 (by decide) (by decide +kernel) rfl dX5_tellReceiver_1 ?_
  refine lv_iload_n hx hb dX5_tellReceiver_4 rfl (lv_at hl 1 rfl) ?_
  refine lv_bipush (v := nI 97) hx hb dX5_tellReceiver_5 (by decide) ?_
  refine q_calli w (q_runS X w (c_X5_at l k h q 97) (va_cwS 2 hts gX5_tellReceiver_X5_at rfl rfl rfl (by decide +kernel) ⟨Nat.le_of_ble_eq_true rfl, Nat.le_of_ble_eq_true rfl⟩) rfl hl.1 rfl (Nat.le_of_ble_eq_true rfl) dX5_tellReceiver_7 ⟨Nat.le_of_ble_eq_true rfl, Nat.le_of_ble_eq_true rfl⟩) (fun r_7 h_7 H locs hp w => ?_)
  obtain ⟨er_7, eh_7⟩ := hp
  rw [eh_7] at w
  have er_7 : r_7 = nI (1 + 116 * q + 97) := er_7
  subst er_7
  refine q_lald X w 92 (1 + 116 * q + 97) (by decide) (fun _ => rfl) rfl (show (1 + 116 * q + 97) < 233 by omega) (by decide) dX5_tellReceiver_10 ?_
  refine lv_lconst (v := 0) hx hb dX5_tellReceiver_11 (by decide) ?_
  refine q_lif_eq X (tgt := 42) dX5_tellReceiver_12 dX5_tellReceiver_13 (by decide) (fun c_12 => ?_) (fun c_12 => ?_)
  · refine lv_iconst (v := (-1)) hx hb dX5_tellReceiver_42 (by decide) ?_
    exact hret _ _ _ _ _ _ _ _ dX5_tellReceiver_43 w rfl (by first | exact Or.inl ⟨Or.inl c_12, rfl, rfl⟩ | exact Or.inl ⟨Or.inr c_38, rfl, rfl⟩) (Nat.le_of_ble_eq_true rfl) (Nat.le_of_ble_eq_true rfl)
  · refine lv_aload_n hx hb dX5_tellReceiver_16 rfl (lv_at hl 0 rfl) ?_
    refine q_get X w 91 0 (ci := 5) (by decide) rfl rfl hi5 (by decide) (by decide +kernel) rfl dX5_tellReceiver_17 ?_
    refine lv_iload_n hx hb dX5_tellReceiver_20 rfl (lv_at hl 1 rfl) ?_
    refine lv_bipush (v := nI 98) hx hb dX5_tellReceiver_21 (by decide) ?_
    refine q_calli w (q_runS X w (c_X5_at l k h q 98) (va_cwS 2 hts gX5_tellReceiver_X5_at rfl rfl rfl (by decide +kernel) ⟨Nat.le_of_ble_eq_true rfl, Nat.le_of_ble_eq_true rfl⟩) rfl hl.1 rfl (Nat.le_of_ble_eq_true rfl) dX5_tellReceiver_23 ⟨Nat.le_of_ble_eq_true rfl, Nat.le_of_ble_eq_true rfl⟩) (fun r_23 h_23 H locs hp w => ?_)
    obtain ⟨er_23, eh_23⟩ := hp
    rw [eh_23] at w
    have er_23 : r_23 = nI (1 + 116 * q + 98) := er_23
    subst er_23
    refine q_lald X w 92 (1 + 116 * q + 98) (by decide) (fun _ => rfl) rfl (show (1 + 116 * q + 98) < 233 by omega) (by decide) dX5_tellReceiver_26 ?_
    refine lv_aload_n hx hb dX5_tellReceiver_27 rfl (lv_at hl 0 rfl) ?_
    refine q_get X w 91 0 (ci := 5) (by decide) rfl rfl hi5 (by decide) (by decide +kernel) rfl dX5_tellReceiver_28 ?_
    refine lv_iload_n hx hb dX5_tellReceiver_31 rfl (lv_at hl 1 rfl) ?_
    refine lv_bipush (v := nI 113) hx hb dX5_tellReceiver_32 (by decide) ?_
    refine q_calli w (q_runS X w (c_X5_at l k h q 113) (va_cwS 2 hts gX5_tellReceiver_X5_at rfl rfl rfl (by decide +kernel) ⟨Nat.le_of_ble_eq_true rfl, Nat.le_of_ble_eq_true rfl⟩) rfl hl.1 rfl (Nat.le_of_ble_eq_true rfl) dX5_tellReceiver_34 ⟨Nat.le_of_ble_eq_true rfl, Nat.le_of_ble_eq_true rfl⟩) (fun r_34 h_34 H locs hp w => ?_)
    obtain ⟨er_34, eh_34⟩ := hp
    rw [eh_34] at w
    have er_34 : r_34 = nI (1 + 116 * q + 113) := er_34
    subst er_34
    refine q_lald X w 92 (1 + 116 * q + 113) (by decide) (fun _ => rfl) rfl (show (1 + 116 * q + 113) < 233 by omega) (by decide) dX5_tellReceiver_37 ?_
    refine q_lif_eq X (tgt := 44) dX5_tellReceiver_38 dX5_tellReceiver_39 (by decide) (fun c_38 => ?_) (fun c_38 => ?_)
    · refine lv_aload_n hx hb dX5_tellReceiver_44 rfl (lv_at hl 0 rfl) ?_
      refine q_get X w 91 0 (ci := 5) (by decide) rfl rfl hi5 (by decide) (by decide +kernel) rfl dX5_tellReceiver_45 ?_
      refine lv_iload_n hx hb dX5_tellReceiver_48 rfl (lv_at hl 1 rfl) ?_
      refine lv_bipush (v := nI 101) hx hb dX5_tellReceiver_49 (by decide) ?_
      refine q_calli w (q_runS X w (c_X5_at l k h q 101) (va_cwS 2 hts gX5_tellReceiver_X5_at rfl rfl rfl (by decide +kernel) ⟨Nat.le_of_ble_eq_true rfl, Nat.le_of_ble_eq_true rfl⟩) rfl hl.1 rfl (Nat.le_of_ble_eq_true rfl) dX5_tellReceiver_51 ⟨Nat.le_of_ble_eq_true rfl, Nat.le_of_ble_eq_true rfl⟩) (fun r_51 h_51 H locs hp w => ?_)
      obtain ⟨er_51, eh_51⟩ := hp
      rw [eh_51] at w
      have er_51 : r_51 = nI (1 + 116 * q + 101) := er_51
      subst er_51
      refine lv_aload_n hx hb dX5_tellReceiver_54 rfl (lv_at hl 0 rfl) ?_
      refine q_get X w 91 0 (ci := 5) (by decide) rfl rfl hi5 (by decide) (by decide +kernel) rfl dX5_tellReceiver_55 ?_
      refine lv_iload_n hx hb dX5_tellReceiver_58 rfl (lv_at hl 1 rfl) ?_
      refine lv_bipush (v := nI 114) hx hb dX5_tellReceiver_59 (by decide) ?_
      refine q_calli w (q_runS X w (c_X5_at l k h q 114) (va_cwS 2 hts gX5_tellReceiver_X5_at rfl rfl rfl (by decide +kernel) ⟨Nat.le_of_ble_eq_true rfl, Nat.le_of_ble_eq_true rfl⟩) rfl hl.1 rfl (Nat.le_of_ble_eq_true rfl) dX5_tellReceiver_61 ⟨Nat.le_of_ble_eq_true rfl, Nat.le_of_ble_eq_true rfl⟩) (fun r_61 h_61 H locs hp w => ?_)
      obtain ⟨er_61, eh_61⟩ := hp
      rw [eh_61] at w
      have er_61 : r_61 = nI (1 + 116 * q + 114) := er_61
      subst er_61
      refine q_lald X w 92 (1 + 116 * q + 114) (by decide) (fun _ => rfl) rfl (show (1 + 116 * q + 114) < 233 by omega) (by decide) dX5_tellReceiver_64 ?_
      refine lv_topl (fun x_65 ex_65 => ?_)
      refine q_last X w 92 (1 + 116 * q + 101) (by decide) (fun _ => rfl) rfl (show (1 + 116 * q + 101) < 233 by omega) (by decide) dX5_tellReceiver_65 (fun H locs w => ?_)
      obtain ⟨h_65, eh_65⟩ : ∃ z9, z9 = upL h 92 (1 + 116 * q + 101) x_65 := ⟨_, rfl⟩
      rw [← eh_65] at w
      refine lv_aload_n hx hb dX5_tellReceiver_66 rfl (lv_at hl 0 rfl) ?_
      refine q_get X w 91 0 (ci := 5) (by decide) rfl rfl hi5 (by decide) (by decide +kernel) rfl dX5_tellReceiver_67 ?_
      refine lv_iload_n hx hb dX5_tellReceiver_70 rfl (lv_at hl 1 rfl) ?_
      refine lv_bipush (v := nI 101) hx hb dX5_tellReceiver_71 (by decide) ?_
      refine q_calli w (q_runS X w (c_X5_at l k h_65 q 101) (va_cwS 2 hts gX5_tellReceiver_X5_at rfl rfl rfl (by decide +kernel) ⟨Nat.le_of_ble_eq_true rfl, Nat.le_of_ble_eq_true rfl⟩) rfl hl.1 rfl (Nat.le_of_ble_eq_true rfl) dX5_tellReceiver_73 ⟨Nat.le_of_ble_eq_true rfl, Nat.le_of_ble_eq_true rfl⟩) (fun r_73 h_73 H locs hp w => ?_)
      obtain ⟨er_73, eh_73⟩ := hp
      rw [eh_73] at w
      have er_73 : r_73 = nI (1 + 116 * q + 101) := er_73
      subst er_73
      refine q_lald X w 92 (1 + 116 * q + 101) (by decide) (fun _ => rfl) rfl (show (1 + 116 * q + 101) < 233 by omega) (by decide) dX5_tellReceiver_76 ?_
      refine lv_l2i hx hb dX5_tellReceiver_77 rfl ?_
      exact hret _ _ _ _ _ _ _ _ dX5_tellReceiver_78 w rfl (Or.inr ⟨fun z => z.elim c_12 (fun y => y c_38), by rw [eh_65, upL_s, va_s9, ex_65], by rw [eh_65, ex_65, upL_set]⟩) (Nat.le_of_ble_eq_true rfl) (Nat.le_of_ble_eq_true rfl)
    · refine lv_iconst (v := (-1)) hx hb dX5_tellReceiver_42 (by decide) ?_
      exact hret _ _ _ _ _ _ _ _ dX5_tellReceiver_43 w rfl (by first | exact Or.inl ⟨Or.inl c_12, rfl, rfl⟩ | exact Or.inl ⟨Or.inr c_38, rfl, rfl⟩) (Nat.le_of_ble_eq_true rfl) (Nat.le_of_ble_eq_true rfl)

abbrev rc_X5_askSender : Room := { frames := 1, cells := 0, slots := 0, locals := 21 }
set_option maxHeartbeats 4000000 in
set_option maxRecDepth 100000 in
theorem c_X5_askSender (l : Launch) (k : kY) (h : hS) {q : Nat} (hq : q < 2) : CT l k yX5_askSender wsX5_askSender rc_X5_askSender [.ref (k.2.1 91), .int (nI q)] h (QI k (fun r h' => r = (ma4 (mak (h.2.1 92) q) q (1 + 116 * q + 107)).toInt32 ∧ h' = setL h 92 (ma4 (mak (h.2.1 92) q) q))) 0 0 := by
  refine q_metI (cc := cX5_askSender) (maxL := 4) (ret := some .int) (ty := .int) (by decide) rfl rfl (Nat.le_of_ble_eq_true rfl) ?_
  intro p e s m args below meth c Q ls X w hl hret
  have hx := X.1
  have hb := X.2.1
  have hown := X.2.2.2.1
  have hts := X.2.2.2.2
  have hl : lv_has ls 4 [(0, .ref (k.2.1 91)), (1, .int (nI q))] := hl
  have hi5 : ∀ w ∈ u_ws RX5 TX5 6, w ∈ wsX5_askSender := by decide +kernel
  refine lv_aload_n hx hb dX5_askSender_0 rfl (lv_at hl 0 rfl) ?_
  refine q_get X w 91 0 (ci := 5) (by decide) rfl rfl hi5 (by decide) (by decide +kernel) rfl dX5_askSender_1 ?_
  refine lv_iload_n hx hb dX5_askSender_4 rfl (lv_at hl 1 rfl) ?_
  refine lv_bipush (v := nI 103) hx hb dX5_askSender_5 (by decide) ?_
  refine q_calli w (q_runS X w (c_X5_at l k h q 103) (va_cwS 2 hts gX5_askSender_X5_at rfl rfl rfl (by decide +kernel) ⟨Nat.le_of_ble_eq_true rfl, Nat.le_of_ble_eq_true rfl⟩) rfl hl.1 rfl (Nat.le_of_ble_eq_true rfl) dX5_askSender_7 ⟨Nat.le_of_ble_eq_true rfl, Nat.le_of_ble_eq_true rfl⟩) (fun r_7 h_7 H locs hp w => ?_)
  obtain ⟨er_7, eh_7⟩ := hp
  rw [eh_7] at w
  have er_7 : r_7 = nI (1 + 116 * q + 103) := er_7
  subst er_7
  refine q_lald X w 92 (1 + 116 * q + 103) (by decide) (fun _ => rfl) rfl (show (1 + 116 * q + 103) < 233 by omega) (by decide) dX5_askSender_10 ?_
  refine lv_lconst (v := 1) hx hb dX5_askSender_11 (by decide) ?_
  refine q_lif_ne X (tgt := 46) dX5_askSender_12 dX5_askSender_13 (by decide) (fun c_12 => ?_) (fun c_12 => ?_)
  · refine lv_iconst (v := nI 0) hx hb dX5_askSender_46 (by decide) ?_
    refine lv_istore_n (lv' := [(2, .int (nI 0)), (0, .ref (k.2.1 91)), (1, .int (nI q))]) hx hb dX5_askSender_47 rfl hl (by decide) rfl (fun ls hl => ?_)
    refine lv_iload_n hx hb dX5_askSender_48 rfl (lv_at hl 0 rfl) ?_
    refine lv_if_ne (tgt := 124) hx hb dX5_askSender_49 (by decide) (fun c_49 => ?_) (fun c_49 => ?_)
    · exact absurd (by decide) c_49
    · refine lv_aload_n hx hb dX5_askSender_52 rfl (lv_at hl 1 rfl) ?_
      refine q_get X w 91 0 (ci := 5) (by decide) rfl rfl hi5 (by decide) (by decide +kernel) rfl dX5_askSender_53 ?_
      refine lv_iload_n hx hb dX5_askSender_56 rfl (lv_at hl 2 rfl) ?_
      refine lv_bipush (v := nI 103) hx hb dX5_askSender_57 (by decide) ?_
      refine q_calli w (q_runS X w (c_X5_at l k h q 103) (va_cwS 2 hts gX5_askSender_X5_at rfl rfl rfl (by decide +kernel) ⟨Nat.le_of_ble_eq_true rfl, Nat.le_of_ble_eq_true rfl⟩) rfl hl.1 rfl (Nat.le_of_ble_eq_true rfl) dX5_askSender_59 ⟨Nat.le_of_ble_eq_true rfl, Nat.le_of_ble_eq_true rfl⟩) (fun r_59 h_59 H locs hp w => ?_)
      obtain ⟨er_59, eh_59⟩ := hp
      rw [eh_59] at w
      have er_59 : r_59 = nI (1 + 116 * q + 103) := er_59
      subst er_59
      refine lv_lconst (v := 1) hx hb dX5_askSender_62 (by decide) ?_
      refine q_last X w 92 (1 + 116 * q + 103) (by decide) (fun _ => rfl) rfl (show (1 + 116 * q + 103) < 233 by omega) (by decide) dX5_askSender_63 (fun H locs w => ?_)
      obtain ⟨h_63, eh_63⟩ : ∃ z9, z9 = upL h 92 (1 + 116 * q + 103) 1 := ⟨_, rfl⟩
      rw [← eh_63] at w
      refine lv_iconst (v := nI 0) hx hb dX5_askSender_64 (by decide) ?_
      refine lv_istore_n (lv' := [(3, .int (nI 0)), (2, .int (nI 0)), (0, .ref (k.2.1 91)), (1, .int (nI q))]) hx hb dX5_askSender_65 rfl hl (by decide) rfl (fun ls hl => ?_)
      have lp : ∀ (fu : Nat) (t : Nat), (t ≤ 3) → (3 - t) < fu → ∀ (H : Heap) (locs : List Loc) (ls : Array Slot), WX k s H locs (setL h 92 (wfz (fun j => va_up (h.2.1 92) (1 + 116 * q + 103) 1 (1 + 116 * q + (109 + j))) (va_up (h.2.1 92) (1 + 116 * q + 103) 1) (1 + 116 * q + 104) t)) → lv_has ls 4 [(0, .ref (k.2.1 91)), (1, .int (nI q)), (3, .int (nI t))] → W p l e rc_X5_askSender s m args below meth c H locs 0 0 Q (F0 m 66 ls []) := by
        intro fu
        induction fu with
        | zero => intro t _ hm; exact absurd hm (Nat.not_lt_zero _)
        | succ fu ih =>
          intro t hinv hm H locs ls w hl
          have ht := hinv
          refine lv_iload_n hx hb dX5_askSender_66 rfl (lv_at hl 2 rfl) ?_
          refine lv_iconst (v := nI 3) hx hb dX5_askSender_67 (by decide) ?_
          refine q_icge X (tgt := 103) (by omega) (by decide) dX5_askSender_68 (by decide) (fun c_68 => ?_) (fun c_68 => ?_)
          · refine lv_aload_n hx hb dX5_askSender_103 rfl (lv_at hl 0 rfl) ?_
            refine q_get X w 91 0 (ci := 5) (by decide) rfl rfl hi5 (by decide) (by decide +kernel) rfl dX5_askSender_104 ?_
            refine lv_iload_n hx hb dX5_askSender_107 rfl (lv_at hl 1 rfl) ?_
            refine lv_bipush (v := nI 107) hx hb dX5_askSender_108 (by decide) ?_
            refine q_calli w (q_runS X w (c_X5_at l k (setL h 92 (wfz (fun j => va_up (h.2.1 92) (1 + 116 * q + 103) 1 (1 + 116 * q + (109 + j))) (va_up (h.2.1 92) (1 + 116 * q + 103) 1) (1 + 116 * q + 104) t)) q 107) (va_cwS 2 hts gX5_askSender_X5_at rfl rfl rfl (by decide +kernel) ⟨Nat.le_of_ble_eq_true rfl, Nat.le_of_ble_eq_true rfl⟩) rfl hl.1 rfl (Nat.le_of_ble_eq_true rfl) dX5_askSender_110 ⟨Nat.le_of_ble_eq_true rfl, Nat.le_of_ble_eq_true rfl⟩) (fun r_110 h_110 H locs hp w => ?_)
            obtain ⟨er_110, eh_110⟩ := hp
            rw [eh_110] at w
            have er_110 : r_110 = nI (1 + 116 * q + 107) := er_110
            subst er_110
            refine lv_aload_n hx hb dX5_askSender_113 rfl (lv_at hl 0 rfl) ?_
            refine q_get X w 91 0 (ci := 5) (by decide) rfl rfl hi5 (by decide) (by decide +kernel) rfl dX5_askSender_114 ?_
            refine lv_iconst (v := nI 0) hx hb dX5_askSender_117 (by decide) ?_
            refine q_lald X w 92 0 (by decide) (fun _ => rfl) rfl (show 0 < 233 by omega) (by decide) dX5_askSender_118 ?_
            refine lv_ldc2 (v := 8) hx hb hown (hts (.constantLong RX5 150 8) (by decide +kernel)) dX5_askSender_119 ?_
            refine lv_ladd hx hb dX5_askSender_122 ?_
            refine lv_topl (fun x_123 ex_123 => ?_)
            refine q_last X w 92 (1 + 116 * q + 107) (by decide) (fun _ => rfl) rfl (show (1 + 116 * q + 107) < 233 by omega) (by decide) dX5_askSender_123 (fun H locs w => ?_)
            obtain ⟨h_123, eh_123⟩ : ∃ z9, z9 = upL (setL h 92 (wfz (fun j => va_up (h.2.1 92) (1 + 116 * q + 103) 1 (1 + 116 * q + (109 + j))) (va_up (h.2.1 92) (1 + 116 * q + 103) 1) (1 + 116 * q + 104) t)) 92 (1 + 116 * q + 107) x_123 := ⟨_, rfl⟩
            rw [← eh_123] at w
            obtain ⟨g0, eg, hg⟩ : ∃ g0 : hS, h_123 = g0 ∧ g0 = setL h 92 (mak (h.2.1 92) q) := ⟨h_123, rfl, by obtain rfl : t = 3 := (by omega); rw [eh_123, ex_123, setL_s, setL_up]; first | (rw [← mak_1 c_12]; rfl) | (rw [← mak_2 c_38]; rfl)⟩
            rw [eg] at w
            refine lv_aload_n hx hb dX5_askSender_124 rfl (lv_at hl 0 rfl) ?_
            refine q_get X w 91 0 (ci := 5) (by decide) rfl rfl hi5 (by decide) (by decide +kernel) rfl dX5_askSender_125 ?_
            refine lv_iload_n hx hb dX5_askSender_128 rfl (lv_at hl 1 rfl) ?_
            refine lv_bipush (v := nI 112) hx hb dX5_askSender_129 (by decide) ?_
            refine q_calli w (q_runS X w (c_X5_at l k g0 q 112) (va_cwS 2 hts gX5_askSender_X5_at rfl rfl rfl (by decide +kernel) ⟨Nat.le_of_ble_eq_true rfl, Nat.le_of_ble_eq_true rfl⟩) rfl hl.1 rfl (Nat.le_of_ble_eq_true rfl) dX5_askSender_131 ⟨Nat.le_of_ble_eq_true rfl, Nat.le_of_ble_eq_true rfl⟩) (fun r_131 h_131 H locs hp w => ?_)
            obtain ⟨er_131, eh_131⟩ := hp
            rw [eh_131] at w
            have er_131 : r_131 = nI (1 + 116 * q + 112) := er_131
            subst er_131
            refine lv_lconst (v := 1) hx hb dX5_askSender_134 (by decide) ?_
            refine q_last X w 92 (1 + 116 * q + 112) (by decide) (fun _ => rfl) rfl (show (1 + 116 * q + 112) < 233 by omega) (by decide) dX5_askSender_135 (fun H locs w => ?_)
            obtain ⟨h_135, eh_135⟩ : ∃ z9, z9 = upL g0 92 (1 + 116 * q + 112) 1 := ⟨_, rfl⟩
            rw [← eh_135] at w
            refine lv_aload_n hx hb dX5_askSender_136 rfl (lv_at hl 0 rfl) ?_
            refine q_get X w 91 0 (ci := 5) (by decide) rfl rfl hi5 (by decide) (by decide +kernel) rfl dX5_askSender_137 ?_
            refine lv_iload_n hx hb dX5_askSender_140 rfl (lv_at hl 1 rfl) ?_
            refine lv_bipush (v := nI 113) hx hb dX5_askSender_141 (by decide) ?_
            refine q_calli w (q_runS X w (c_X5_at l k h_135 q 113) (va_cwS 2 hts gX5_askSender_X5_at rfl rfl rfl (by decide +kernel) ⟨Nat.le_of_ble_eq_true rfl, Nat.le_of_ble_eq_true rfl⟩) rfl hl.1 rfl (Nat.le_of_ble_eq_true rfl) dX5_askSender_143 ⟨Nat.le_of_ble_eq_true rfl, Nat.le_of_ble_eq_true rfl⟩) (fun r_143 h_143 H locs hp w => ?_)
            obtain ⟨er_143, eh_143⟩ := hp
            rw [eh_143] at w
            have er_143 : r_143 = nI (1 + 116 * q + 113) := er_143
            subst er_143
            refine lv_aload_n hx hb dX5_askSender_146 rfl (lv_at hl 0 rfl) ?_
            refine q_get X w 91 0 (ci := 5) (by decide) rfl rfl hi5 (by decide) (by decide +kernel) rfl dX5_askSender_147 ?_
            refine lv_iload_n hx hb dX5_askSender_150 rfl (lv_at hl 1 rfl) ?_
            refine lv_bipush (v := nI 104) hx hb dX5_askSender_151 (by decide) ?_
            refine q_calli w (q_runS X w (c_X5_at l k h_135 q 104) (va_cwS 2 hts gX5_askSender_X5_at rfl rfl rfl (by decide +kernel) ⟨Nat.le_of_ble_eq_true rfl, Nat.le_of_ble_eq_true rfl⟩) rfl hl.1 rfl (Nat.le_of_ble_eq_true rfl) dX5_askSender_153 ⟨Nat.le_of_ble_eq_true rfl, Nat.le_of_ble_eq_true rfl⟩) (fun r_153 h_153 H locs hp w => ?_)
            obtain ⟨er_153, eh_153⟩ := hp
            rw [eh_153] at w
            have er_153 : r_153 = nI (1 + 116 * q + 104) := er_153
            subst er_153
            refine q_lald X w 92 (1 + 116 * q + 104) (by decide) (fun _ => rfl) rfl (show (1 + 116 * q + 104) < 233 by omega) (by decide) dX5_askSender_156 ?_
            refine lv_topl (fun x_157 ex_157 => ?_)
            refine q_last X w 92 (1 + 116 * q + 113) (by decide) (fun _ => rfl) rfl (show (1 + 116 * q + 113) < 233 by omega) (by decide) dX5_askSender_157 (fun H locs w => ?_)
            obtain ⟨h_157, eh_157⟩ : ∃ z9, z9 = upL h_135 92 (1 + 116 * q + 113) x_157 := ⟨_, rfl⟩
            rw [← eh_157] at w
            refine lv_aload_n hx hb dX5_askSender_158 rfl (lv_at hl 0 rfl) ?_
            refine q_get X w 91 0 (ci := 5) (by decide) rfl rfl hi5 (by decide) (by decide +kernel) rfl dX5_askSender_159 ?_
            refine lv_iload_n hx hb dX5_askSender_162 rfl (lv_at hl 1 rfl) ?_
            refine lv_bipush (v := nI 114) hx hb dX5_askSender_163 (by decide) ?_
            refine q_calli w (q_runS X w (c_X5_at l k h_157 q 114) (va_cwS 2 hts gX5_askSender_X5_at rfl rfl rfl (by decide +kernel) ⟨Nat.le_of_ble_eq_true rfl, Nat.le_of_ble_eq_true rfl⟩) rfl hl.1 rfl (Nat.le_of_ble_eq_true rfl) dX5_askSender_165 ⟨Nat.le_of_ble_eq_true rfl, Nat.le_of_ble_eq_true rfl⟩) (fun r_165 h_165 H locs hp w => ?_)
            obtain ⟨er_165, eh_165⟩ := hp
            rw [eh_165] at w
            have er_165 : r_165 = nI (1 + 116 * q + 114) := er_165
            subst er_165
            refine lv_aload_n hx hb dX5_askSender_168 rfl (lv_at hl 0 rfl) ?_
            refine q_get X w 91 0 (ci := 5) (by decide) rfl rfl hi5 (by decide) (by decide +kernel) rfl dX5_askSender_169 ?_
            refine lv_iload_n hx hb dX5_askSender_172 rfl (lv_at hl 1 rfl) ?_
            refine lv_bipush (v := nI 107) hx hb dX5_askSender_173 (by decide) ?_
            refine q_calli w (q_runS X w (c_X5_at l k h_157 q 107) (va_cwS 2 hts gX5_askSender_X5_at rfl rfl rfl (by decide +kernel) ⟨Nat.le_of_ble_eq_true rfl, Nat.le_of_ble_eq_true rfl⟩) rfl hl.1 rfl (Nat.le_of_ble_eq_true rfl) dX5_askSender_175 ⟨Nat.le_of_ble_eq_true rfl, Nat.le_of_ble_eq_true rfl⟩) (fun r_175 h_175 H locs hp w => ?_)
            obtain ⟨er_175, eh_175⟩ := hp
            rw [eh_175] at w
            have er_175 : r_175 = nI (1 + 116 * q + 107) := er_175
            subst er_175
            refine q_lald X w 92 (1 + 116 * q + 107) (by decide) (fun _ => rfl) rfl (show (1 + 116 * q + 107) < 233 by omega) (by decide) dX5_askSender_178 ?_
            refine lv_topl (fun x_179 ex_179 => ?_)
            refine q_last X w 92 (1 + 116 * q + 114) (by decide) (fun _ => rfl) rfl (show (1 + 116 * q + 114) < 233 by omega) (by decide) dX5_askSender_179 (fun H locs w => ?_)
            obtain ⟨h_179, eh_179⟩ : ∃ z9, z9 = upL h_157 92 (1 + 116 * q + 114) x_179 := ⟨_, rfl⟩
            rw [← eh_179] at w
            refine lv_aload_n hx hb dX5_askSender_180 rfl (lv_at hl 0 rfl) ?_
            refine q_get X w 91 0 (ci := 5) (by decide) rfl rfl hi5 (by decide) (by decide +kernel) rfl dX5_askSender_181 ?_
            refine lv_iload_n hx hb dX5_askSender_184 rfl (lv_at hl 1 rfl) ?_
            refine lv_bipush (v := nI 107) hx hb dX5_askSender_185 (by decide) ?_
            refine q_calli w (q_runS X w (c_X5_at l k h_179 q 107) (va_cwS 2 hts gX5_askSender_X5_at rfl rfl rfl (by decide +kernel) ⟨Nat.le_of_ble_eq_true rfl, Nat.le_of_ble_eq_true rfl⟩) rfl hl.1 rfl (Nat.le_of_ble_eq_true rfl) dX5_askSender_187 ⟨Nat.le_of_ble_eq_true rfl, Nat.le_of_ble_eq_true rfl⟩) (fun r_187 h_187 H locs hp w => ?_)
            obtain ⟨er_187, eh_187⟩ := hp
            rw [eh_187] at w
            have er_187 : r_187 = nI (1 + 116 * q + 107) := er_187
            subst er_187
            refine q_lald X w 92 (1 + 116 * q + 107) (by decide) (fun _ => rfl) rfl (show (1 + 116 * q + 107) < 233 by omega) (by decide) dX5_askSender_190 ?_
            refine lv_l2i hx hb dX5_askSender_191 rfl ?_
            have e135 : h_135 = setL h 92 (ma2 (mak (h.2.1 92) q) q) := by rw [eh_135, hg, setL_up]; rfl
            have e157 : h_157 = setL h 92 (ma3 (mak (h.2.1 92) q) q) := by rw [eh_157, ex_157, e135, setL_s, setL_up]; rfl
            have e179 : h_179 = setL h 92 (ma4 (mak (h.2.1 92) q) q) := by rw [eh_179, ex_179, e157, setL_s, setL_up]; rfl
            exact hret _ _ _ _ _ _ _ _ dX5_askSender_192 w rfl ⟨by rw [e179, setL_s], e179⟩ (Nat.le_of_ble_eq_true rfl) (Nat.le_of_ble_eq_true rfl)
          · refine lv_aload_n hx hb dX5_askSender_71 rfl (lv_at hl 0 rfl) ?_
            refine q_get X w 91 0 (ci := 5) (by decide) rfl rfl hi5 (by decide) (by decide +kernel) rfl dX5_askSender_72 ?_
            refine lv_iload_n hx hb dX5_askSender_75 rfl (lv_at hl 1 rfl) ?_
            refine lv_bipush (v := nI 104) hx hb dX5_askSender_76 (by decide) ?_
            refine lv_iload_n hx hb dX5_askSender_78 rfl (lv_at hl 2 rfl) ?_
            refine q_iaddN X dX5_askSender_79 ?_
            refine q_calli w (q_runS X w (c_X5_at l k (setL h 92 (wfz (fun j => va_up (h.2.1 92) (1 + 116 * q + 103) 1 (1 + 116 * q + (109 + j))) (va_up (h.2.1 92) (1 + 116 * q + 103) 1) (1 + 116 * q + 104) t)) q (104 + t)) (va_cwS 2 hts gX5_askSender_X5_at rfl rfl rfl (by decide +kernel) ⟨Nat.le_of_ble_eq_true rfl, Nat.le_of_ble_eq_true rfl⟩) rfl hl.1 rfl (Nat.le_of_ble_eq_true rfl) dX5_askSender_80 ⟨Nat.le_of_ble_eq_true rfl, Nat.le_of_ble_eq_true rfl⟩) (fun r_80 h_80 H locs hp w => ?_)
            obtain ⟨er_80, eh_80⟩ := hp
            rw [eh_80] at w
            have er_80 : r_80 = nI (1 + 116 * q + (104 + t)) := er_80
            subst er_80
            refine lv_aload_n hx hb dX5_askSender_83 rfl (lv_at hl 0 rfl) ?_
            refine q_get X w 91 0 (ci := 5) (by decide) rfl rfl hi5 (by decide) (by decide +kernel) rfl dX5_askSender_84 ?_
            refine lv_iload_n hx hb dX5_askSender_87 rfl (lv_at hl 1 rfl) ?_
            refine lv_bipush (v := nI 109) hx hb dX5_askSender_88 (by decide) ?_
            refine lv_iload_n hx hb dX5_askSender_90 rfl (lv_at hl 2 rfl) ?_
            refine q_iaddN X dX5_askSender_91 ?_
            refine q_calli w (q_runS X w (c_X5_at l k (setL h 92 (wfz (fun j => va_up (h.2.1 92) (1 + 116 * q + 103) 1 (1 + 116 * q + (109 + j))) (va_up (h.2.1 92) (1 + 116 * q + 103) 1) (1 + 116 * q + 104) t)) q (109 + t)) (va_cwS 2 hts gX5_askSender_X5_at rfl rfl rfl (by decide +kernel) ⟨Nat.le_of_ble_eq_true rfl, Nat.le_of_ble_eq_true rfl⟩) rfl hl.1 rfl (Nat.le_of_ble_eq_true rfl) dX5_askSender_92 ⟨Nat.le_of_ble_eq_true rfl, Nat.le_of_ble_eq_true rfl⟩) (fun r_92 h_92 H locs hp w => ?_)
            obtain ⟨er_92, eh_92⟩ := hp
            rw [eh_92] at w
            have er_92 : r_92 = nI (1 + 116 * q + (109 + t)) := er_92
            subst er_92
            refine q_lald X w 92 (1 + 116 * q + (109 + t)) (by decide) (fun _ => rfl) rfl (show (1 + 116 * q + (109 + t)) < 233 by omega) (by decide) dX5_askSender_95 ?_
            refine lv_topl (fun x_96 ex_96 => ?_)
            refine q_last X w 92 (1 + 116 * q + (104 + t)) (by decide) (fun _ => rfl) rfl (show (1 + 116 * q + (104 + t)) < 233 by omega) (by decide) dX5_askSender_96 (fun H locs w => ?_)
            obtain ⟨h_96, eh_96⟩ : ∃ z9, z9 = upL (setL h 92 (wfz (fun j => va_up (h.2.1 92) (1 + 116 * q + 103) 1 (1 + 116 * q + (109 + j))) (va_up (h.2.1 92) (1 + 116 * q + 103) 1) (1 + 116 * q + 104) t)) 92 (1 + 116 * q + (104 + t)) x_96 := ⟨_, rfl⟩
            rw [← eh_96] at w
            refine lv_iinc (v := nI (t + 1)) (lv' := [(3, .int (nI (t + 1))), (0, .ref (k.2.1 91)), (1, .int (nI q))]) hx hb dX5_askSender_97 hl (k := 2) rfl (nI_1 _) (by decide) rfl (fun ls hl => ?_)
            refine lv_goto (tgt := 66) hx hb dX5_askSender_100 (by decide) ?_
            rw [eh_96, setL_up, ex_96, setL_s, wfz_out _ _ (o := 1 + 116 * q + 104) (n := t) (j := 1 + 116 * q + (109 + t)) (by omega), show 1 + 116 * q + (104 + t) = 1 + 116 * q + 104 + t by omega, wfz_up (fun j => va_up (h.2.1 92) (1 + 116 * q + 103) 1 (1 + 116 * q + (109 + j)))] at w
            exact ih (t + 1) (by omega) (by omega) _ _ _ w (lv_sub hl [1, 2, 0] rfl)
      rw [eh_63, upL_set, show va_up (h.2.1 92) (1 + 116 * q + 103) 1 = wfz (fun j => va_up (h.2.1 92) (1 + 116 * q + 103) 1 (1 + 116 * q + (109 + j))) (va_up (h.2.1 92) (1 + 116 * q + 103) 1) (1 + 116 * q + 104) 0 from (wfz_0 _ _ _).symm] at w
      exact lp 4 0 (by omega) (by omega) _ _ _ w (lv_sub hl [2, 3, 0] rfl)
  · refine lv_aload_n hx hb dX5_askSender_16 rfl (lv_at hl 0 rfl) ?_
    refine q_get X w 91 0 (ci := 5) (by decide) rfl rfl hi5 (by decide) (by decide +kernel) rfl dX5_askSender_17 ?_
    refine lv_iload_n hx hb dX5_askSender_20 rfl (lv_at hl 1 rfl) ?_
    refine lv_bipush (v := nI 104) hx hb dX5_askSender_21 (by decide) ?_
    refine q_calli w (q_runS X w (c_X5_at l k h q 104) (va_cwS 2 hts gX5_askSender_X5_at rfl rfl rfl (by decide +kernel) ⟨Nat.le_of_ble_eq_true rfl, Nat.le_of_ble_eq_true rfl⟩) rfl hl.1 rfl (Nat.le_of_ble_eq_true rfl) dX5_askSender_23 ⟨Nat.le_of_ble_eq_true rfl, Nat.le_of_ble_eq_true rfl⟩) (fun r_23 h_23 H locs hp w => ?_)
    obtain ⟨er_23, eh_23⟩ := hp
    rw [eh_23] at w
    have er_23 : r_23 = nI (1 + 116 * q + 104) := er_23
    subst er_23
    refine q_lald X w 92 (1 + 116 * q + 104) (by decide) (fun _ => rfl) rfl (show (1 + 116 * q + 104) < 233 by omega) (by decide) dX5_askSender_26 ?_
    refine lv_aload_n hx hb dX5_askSender_27 rfl (lv_at hl 0 rfl) ?_
    refine q_get X w 91 0 (ci := 5) (by decide) rfl rfl hi5 (by decide) (by decide +kernel) rfl dX5_askSender_28 ?_
    refine lv_iload_n hx hb dX5_askSender_31 rfl (lv_at hl 1 rfl) ?_
    refine lv_bipush (v := nI 109) hx hb dX5_askSender_32 (by decide) ?_
    refine q_calli w (q_runS X w (c_X5_at l k h q 109) (va_cwS 2 hts gX5_askSender_X5_at rfl rfl rfl (by decide +kernel) ⟨Nat.le_of_ble_eq_true rfl, Nat.le_of_ble_eq_true rfl⟩) rfl hl.1 rfl (Nat.le_of_ble_eq_true rfl) dX5_askSender_34 ⟨Nat.le_of_ble_eq_true rfl, Nat.le_of_ble_eq_true rfl⟩) (fun r_34 h_34 H locs hp w => ?_)
    obtain ⟨er_34, eh_34⟩ := hp
    rw [eh_34] at w
    have er_34 : r_34 = nI (1 + 116 * q + 109) := er_34
    subst er_34
    refine q_lald X w 92 (1 + 116 * q + 109) (by decide) (fun _ => rfl) rfl (show (1 + 116 * q + 109) < 233 by omega) (by decide) dX5_askSender_37 ?_
    refine q_lif_ne X (tgt := 46) dX5_askSender_38 dX5_askSender_39 (by decide) (fun c_38 => ?_) (fun c_38 => ?_)
    · refine lv_iconst (v := nI 0) hx hb dX5_askSender_46 (by decide) ?_
      refine lv_istore_n (lv' := [(2, .int (nI 0)), (0, .ref (k.2.1 91)), (1, .int (nI q))]) hx hb dX5_askSender_47 rfl hl (by decide) rfl (fun ls hl => ?_)
      refine lv_iload_n hx hb dX5_askSender_48 rfl (lv_at hl 0 rfl) ?_
      refine lv_if_ne (tgt := 124) hx hb dX5_askSender_49 (by decide) (fun c_49 => ?_) (fun c_49 => ?_)
      · exact absurd (by decide) c_49
      · refine lv_aload_n hx hb dX5_askSender_52 rfl (lv_at hl 1 rfl) ?_
        refine q_get X w 91 0 (ci := 5) (by decide) rfl rfl hi5 (by decide) (by decide +kernel) rfl dX5_askSender_53 ?_
        refine lv_iload_n hx hb dX5_askSender_56 rfl (lv_at hl 2 rfl) ?_
        refine lv_bipush (v := nI 103) hx hb dX5_askSender_57 (by decide) ?_
        refine q_calli w (q_runS X w (c_X5_at l k h q 103) (va_cwS 2 hts gX5_askSender_X5_at rfl rfl rfl (by decide +kernel) ⟨Nat.le_of_ble_eq_true rfl, Nat.le_of_ble_eq_true rfl⟩) rfl hl.1 rfl (Nat.le_of_ble_eq_true rfl) dX5_askSender_59 ⟨Nat.le_of_ble_eq_true rfl, Nat.le_of_ble_eq_true rfl⟩) (fun r_59 h_59 H locs hp w => ?_)
        obtain ⟨er_59, eh_59⟩ := hp
        rw [eh_59] at w
        have er_59 : r_59 = nI (1 + 116 * q + 103) := er_59
        subst er_59
        refine lv_lconst (v := 1) hx hb dX5_askSender_62 (by decide) ?_
        refine q_last X w 92 (1 + 116 * q + 103) (by decide) (fun _ => rfl) rfl (show (1 + 116 * q + 103) < 233 by omega) (by decide) dX5_askSender_63 (fun H locs w => ?_)
        obtain ⟨h_63, eh_63⟩ : ∃ z9, z9 = upL h 92 (1 + 116 * q + 103) 1 := ⟨_, rfl⟩
        rw [← eh_63] at w
        refine lv_iconst (v := nI 0) hx hb dX5_askSender_64 (by decide) ?_
        refine lv_istore_n (lv' := [(3, .int (nI 0)), (2, .int (nI 0)), (0, .ref (k.2.1 91)), (1, .int (nI q))]) hx hb dX5_askSender_65 rfl hl (by decide) rfl (fun ls hl => ?_)
        have lp : ∀ (fu : Nat) (t : Nat), (t ≤ 3) → (3 - t) < fu → ∀ (H : Heap) (locs : List Loc) (ls : Array Slot), WX k s H locs (setL h 92 (wfz (fun j => va_up (h.2.1 92) (1 + 116 * q + 103) 1 (1 + 116 * q + (109 + j))) (va_up (h.2.1 92) (1 + 116 * q + 103) 1) (1 + 116 * q + 104) t)) → lv_has ls 4 [(0, .ref (k.2.1 91)), (1, .int (nI q)), (3, .int (nI t))] → W p l e rc_X5_askSender s m args below meth c H locs 0 0 Q (F0 m 66 ls []) := by
          intro fu
          induction fu with
          | zero => intro t _ hm; exact absurd hm (Nat.not_lt_zero _)
          | succ fu ih =>
            intro t hinv hm H locs ls w hl
            have ht := hinv
            refine lv_iload_n hx hb dX5_askSender_66 rfl (lv_at hl 2 rfl) ?_
            refine lv_iconst (v := nI 3) hx hb dX5_askSender_67 (by decide) ?_
            refine q_icge X (tgt := 103) (by omega) (by decide) dX5_askSender_68 (by decide) (fun c_68 => ?_) (fun c_68 => ?_)
            · refine lv_aload_n hx hb dX5_askSender_103 rfl (lv_at hl 0 rfl) ?_
              refine q_get X w 91 0 (ci := 5) (by decide) rfl rfl hi5 (by decide) (by decide +kernel) rfl dX5_askSender_104 ?_
              refine lv_iload_n hx hb dX5_askSender_107 rfl (lv_at hl 1 rfl) ?_
              refine lv_bipush (v := nI 107) hx hb dX5_askSender_108 (by decide) ?_
              refine q_calli w (q_runS X w (c_X5_at l k (setL h 92 (wfz (fun j => va_up (h.2.1 92) (1 + 116 * q + 103) 1 (1 + 116 * q + (109 + j))) (va_up (h.2.1 92) (1 + 116 * q + 103) 1) (1 + 116 * q + 104) t)) q 107) (va_cwS 2 hts gX5_askSender_X5_at rfl rfl rfl (by decide +kernel) ⟨Nat.le_of_ble_eq_true rfl, Nat.le_of_ble_eq_true rfl⟩) rfl hl.1 rfl (Nat.le_of_ble_eq_true rfl) dX5_askSender_110 ⟨Nat.le_of_ble_eq_true rfl, Nat.le_of_ble_eq_true rfl⟩) (fun r_110 h_110 H locs hp w => ?_)
              obtain ⟨er_110, eh_110⟩ := hp
              rw [eh_110] at w
              have er_110 : r_110 = nI (1 + 116 * q + 107) := er_110
              subst er_110
              refine lv_aload_n hx hb dX5_askSender_113 rfl (lv_at hl 0 rfl) ?_
              refine q_get X w 91 0 (ci := 5) (by decide) rfl rfl hi5 (by decide) (by decide +kernel) rfl dX5_askSender_114 ?_
              refine lv_iconst (v := nI 0) hx hb dX5_askSender_117 (by decide) ?_
              refine q_lald X w 92 0 (by decide) (fun _ => rfl) rfl (show 0 < 233 by omega) (by decide) dX5_askSender_118 ?_
              refine lv_ldc2 (v := 8) hx hb hown (hts (.constantLong RX5 150 8) (by decide +kernel)) dX5_askSender_119 ?_
              refine lv_ladd hx hb dX5_askSender_122 ?_
              refine lv_topl (fun x_123 ex_123 => ?_)
              refine q_last X w 92 (1 + 116 * q + 107) (by decide) (fun _ => rfl) rfl (show (1 + 116 * q + 107) < 233 by omega) (by decide) dX5_askSender_123 (fun H locs w => ?_)
              obtain ⟨h_123, eh_123⟩ : ∃ z9, z9 = upL (setL h 92 (wfz (fun j => va_up (h.2.1 92) (1 + 116 * q + 103) 1 (1 + 116 * q + (109 + j))) (va_up (h.2.1 92) (1 + 116 * q + 103) 1) (1 + 116 * q + 104) t)) 92 (1 + 116 * q + 107) x_123 := ⟨_, rfl⟩
              rw [← eh_123] at w
              obtain ⟨g0, eg, hg⟩ : ∃ g0 : hS, h_123 = g0 ∧ g0 = setL h 92 (mak (h.2.1 92) q) := ⟨h_123, rfl, by obtain rfl : t = 3 := (by omega); rw [eh_123, ex_123, setL_s, setL_up]; first | (rw [← mak_1 c_12]; rfl) | (rw [← mak_2 c_38]; rfl)⟩
              rw [eg] at w
              refine lv_aload_n hx hb dX5_askSender_124 rfl (lv_at hl 0 rfl) ?_
              refine q_get X w 91 0 (ci := 5) (by decide) rfl rfl hi5 (by decide) (by decide +kernel) rfl dX5_askSender_125 ?_
              refine lv_iload_n hx hb dX5_askSender_128 rfl (lv_at hl 1 rfl) ?_
              refine lv_bipush (v := nI 112) hx hb dX5_askSender_129 (by decide) ?_
              refine q_calli w (q_runS X w (c_X5_at l k g0 q 112) (va_cwS 2 hts gX5_askSender_X5_at rfl rfl rfl (by decide +kernel) ⟨Nat.le_of_ble_eq_true rfl, Nat.le_of_ble_eq_true rfl⟩) rfl hl.1 rfl (Nat.le_of_ble_eq_true rfl) dX5_askSender_131 ⟨Nat.le_of_ble_eq_true rfl, Nat.le_of_ble_eq_true rfl⟩) (fun r_131 h_131 H locs hp w => ?_)
              obtain ⟨er_131, eh_131⟩ := hp
              rw [eh_131] at w
              have er_131 : r_131 = nI (1 + 116 * q + 112) := er_131
              subst er_131
              refine lv_lconst (v := 1) hx hb dX5_askSender_134 (by decide) ?_
              refine q_last X w 92 (1 + 116 * q + 112) (by decide) (fun _ => rfl) rfl (show (1 + 116 * q + 112) < 233 by omega) (by decide) dX5_askSender_135 (fun H locs w => ?_)
              obtain ⟨h_135, eh_135⟩ : ∃ z9, z9 = upL g0 92 (1 + 116 * q + 112) 1 := ⟨_, rfl⟩
              rw [← eh_135] at w
              refine lv_aload_n hx hb dX5_askSender_136 rfl (lv_at hl 0 rfl) ?_
              refine q_get X w 91 0 (ci := 5) (by decide) rfl rfl hi5 (by decide) (by decide +kernel) rfl dX5_askSender_137 ?_
              refine lv_iload_n hx hb dX5_askSender_140 rfl (lv_at hl 1 rfl) ?_
              refine lv_bipush (v := nI 113) hx hb dX5_askSender_141 (by decide) ?_
              refine q_calli w (q_runS X w (c_X5_at l k h_135 q 113) (va_cwS 2 hts gX5_askSender_X5_at rfl rfl rfl (by decide +kernel) ⟨Nat.le_of_ble_eq_true rfl, Nat.le_of_ble_eq_true rfl⟩) rfl hl.1 rfl (Nat.le_of_ble_eq_true rfl) dX5_askSender_143 ⟨Nat.le_of_ble_eq_true rfl, Nat.le_of_ble_eq_true rfl⟩) (fun r_143 h_143 H locs hp w => ?_)
              obtain ⟨er_143, eh_143⟩ := hp
              rw [eh_143] at w
              have er_143 : r_143 = nI (1 + 116 * q + 113) := er_143
              subst er_143
              refine lv_aload_n hx hb dX5_askSender_146 rfl (lv_at hl 0 rfl) ?_
              refine q_get X w 91 0 (ci := 5) (by decide) rfl rfl hi5 (by decide) (by decide +kernel) rfl dX5_askSender_147 ?_
              refine lv_iload_n hx hb dX5_askSender_150 rfl (lv_at hl 1 rfl) ?_
              refine lv_bipush (v := nI 104) hx hb dX5_askSender_151 (by decide) ?_
              refine q_calli w (q_runS X w (c_X5_at l k h_135 q 104) (va_cwS 2 hts gX5_askSender_X5_at rfl rfl rfl (by decide +kernel) ⟨Nat.le_of_ble_eq_true rfl, Nat.le_of_ble_eq_true rfl⟩) rfl hl.1 rfl (Nat.le_of_ble_eq_true rfl) dX5_askSender_153 ⟨Nat.le_of_ble_eq_true rfl, Nat.le_of_ble_eq_true rfl⟩) (fun r_153 h_153 H locs hp w => ?_)
              obtain ⟨er_153, eh_153⟩ := hp
              rw [eh_153] at w
              have er_153 : r_153 = nI (1 + 116 * q + 104) := er_153
              subst er_153
              refine q_lald X w 92 (1 + 116 * q + 104) (by decide) (fun _ => rfl) rfl (show (1 + 116 * q + 104) < 233 by omega) (by decide) dX5_askSender_156 ?_
              refine lv_topl (fun x_157 ex_157 => ?_)
              refine q_last X w 92 (1 + 116 * q + 113) (by decide) (fun _ => rfl) rfl (show (1 + 116 * q + 113) < 233 by omega) (by decide) dX5_askSender_157 (fun H locs w => ?_)
              obtain ⟨h_157, eh_157⟩ : ∃ z9, z9 = upL h_135 92 (1 + 116 * q + 113) x_157 := ⟨_, rfl⟩
              rw [← eh_157] at w
              refine lv_aload_n hx hb dX5_askSender_158 rfl (lv_at hl 0 rfl) ?_
              refine q_get X w 91 0 (ci := 5) (by decide) rfl rfl hi5 (by decide) (by decide +kernel) rfl dX5_askSender_159 ?_
              refine lv_iload_n hx hb dX5_askSender_162 rfl (lv_at hl 1 rfl) ?_
              refine lv_bipush (v := nI 114) hx hb dX5_askSender_163 (by decide) ?_
              refine q_calli w (q_runS X w (c_X5_at l k h_157 q 114) (va_cwS 2 hts gX5_askSender_X5_at rfl rfl rfl (by decide +kernel) ⟨Nat.le_of_ble_eq_true rfl, Nat.le_of_ble_eq_true rfl⟩) rfl hl.1 rfl (Nat.le_of_ble_eq_true rfl) dX5_askSender_165 ⟨Nat.le_of_ble_eq_true rfl, Nat.le_of_ble_eq_true rfl⟩) (fun r_165 h_165 H locs hp w => ?_)
              obtain ⟨er_165, eh_165⟩ := hp
              rw [eh_165] at w
              have er_165 : r_165 = nI (1 + 116 * q + 114) := er_165
              subst er_165
              refine lv_aload_n hx hb dX5_askSender_168 rfl (lv_at hl 0 rfl) ?_
              refine q_get X w 91 0 (ci := 5) (by decide) rfl rfl hi5 (by decide) (by decide +kernel) rfl dX5_askSender_169 ?_
              refine lv_iload_n hx hb dX5_askSender_172 rfl (lv_at hl 1 rfl) ?_
              refine lv_bipush (v := nI 107) hx hb dX5_askSender_173 (by decide) ?_
              refine q_calli w (q_runS X w (c_X5_at l k h_157 q 107) (va_cwS 2 hts gX5_askSender_X5_at rfl rfl rfl (by decide +kernel) ⟨Nat.le_of_ble_eq_true rfl, Nat.le_of_ble_eq_true rfl⟩) rfl hl.1 rfl (Nat.le_of_ble_eq_true rfl) dX5_askSender_175 ⟨Nat.le_of_ble_eq_true rfl, Nat.le_of_ble_eq_true rfl⟩) (fun r_175 h_175 H locs hp w => ?_)
              obtain ⟨er_175, eh_175⟩ := hp
              rw [eh_175] at w
              have er_175 : r_175 = nI (1 + 116 * q + 107) := er_175
              subst er_175
              refine q_lald X w 92 (1 + 116 * q + 107) (by decide) (fun _ => rfl) rfl (show (1 + 116 * q + 107) < 233 by omega) (by decide) dX5_askSender_178 ?_
              refine lv_topl (fun x_179 ex_179 => ?_)
              refine q_last X w 92 (1 + 116 * q + 114) (by decide) (fun _ => rfl) rfl (show (1 + 116 * q + 114) < 233 by omega) (by decide) dX5_askSender_179 (fun H locs w => ?_)
              obtain ⟨h_179, eh_179⟩ : ∃ z9, z9 = upL h_157 92 (1 + 116 * q + 114) x_179 := ⟨_, rfl⟩
              rw [← eh_179] at w
              refine lv_aload_n hx hb dX5_askSender_180 rfl (lv_at hl 0 rfl) ?_
              refine q_get X w 91 0 (ci := 5) (by decide) rfl rfl hi5 (by decide) (by decide +kernel) rfl dX5_askSender_181 ?_
              refine lv_iload_n hx hb dX5_askSender_184 rfl (lv_at hl 1 rfl) ?_
              refine lv_bipush (v := nI 107) hx hb dX5_askSender_185 (by decide) ?_
              refine q_calli w (q_runS X w (c_X5_at l k h_179 q 107) (va_cwS 2 hts gX5_askSender_X5_at rfl rfl rfl (by decide +kernel) ⟨Nat.le_of_ble_eq_true rfl, Nat.le_of_ble_eq_true rfl⟩) rfl hl.1 rfl (Nat.le_of_ble_eq_true rfl) dX5_askSender_187 ⟨Nat.le_of_ble_eq_true rfl, Nat.le_of_ble_eq_true rfl⟩) (fun r_187 h_187 H locs hp w => ?_)
              obtain ⟨er_187, eh_187⟩ := hp
              rw [eh_187] at w
              have er_187 : r_187 = nI (1 + 116 * q + 107) := er_187
              subst er_187
              refine q_lald X w 92 (1 + 116 * q + 107) (by decide) (fun _ => rfl) rfl (show (1 + 116 * q + 107) < 233 by omega) (by decide) dX5_askSender_190 ?_
              refine lv_l2i hx hb dX5_askSender_191 rfl ?_
              have e135 : h_135 = setL h 92 (ma2 (mak (h.2.1 92) q) q) := by rw [eh_135, hg, setL_up]; rfl
              have e157 : h_157 = setL h 92 (ma3 (mak (h.2.1 92) q) q) := by rw [eh_157, ex_157, e135, setL_s, setL_up]; rfl
              have e179 : h_179 = setL h 92 (ma4 (mak (h.2.1 92) q) q) := by rw [eh_179, ex_179, e157, setL_s, setL_up]; rfl
              exact hret _ _ _ _ _ _ _ _ dX5_askSender_192 w rfl ⟨by rw [e179, setL_s], e179⟩ (Nat.le_of_ble_eq_true rfl) (Nat.le_of_ble_eq_true rfl)
            · refine lv_aload_n hx hb dX5_askSender_71 rfl (lv_at hl 0 rfl) ?_
              refine q_get X w 91 0 (ci := 5) (by decide) rfl rfl hi5 (by decide) (by decide +kernel) rfl dX5_askSender_72 ?_
              refine lv_iload_n hx hb dX5_askSender_75 rfl (lv_at hl 1 rfl) ?_
              refine lv_bipush (v := nI 104) hx hb dX5_askSender_76 (by decide) ?_
              refine lv_iload_n hx hb dX5_askSender_78 rfl (lv_at hl 2 rfl) ?_
              refine q_iaddN X dX5_askSender_79 ?_
              refine q_calli w (q_runS X w (c_X5_at l k (setL h 92 (wfz (fun j => va_up (h.2.1 92) (1 + 116 * q + 103) 1 (1 + 116 * q + (109 + j))) (va_up (h.2.1 92) (1 + 116 * q + 103) 1) (1 + 116 * q + 104) t)) q (104 + t)) (va_cwS 2 hts gX5_askSender_X5_at rfl rfl rfl (by decide +kernel) ⟨Nat.le_of_ble_eq_true rfl, Nat.le_of_ble_eq_true rfl⟩) rfl hl.1 rfl (Nat.le_of_ble_eq_true rfl) dX5_askSender_80 ⟨Nat.le_of_ble_eq_true rfl, Nat.le_of_ble_eq_true rfl⟩) (fun r_80 h_80 H locs hp w => ?_)
              obtain ⟨er_80, eh_80⟩ := hp
              rw [eh_80] at w
              have er_80 : r_80 = nI (1 + 116 * q + (104 + t)) := er_80
              subst er_80
              refine lv_aload_n hx hb dX5_askSender_83 rfl (lv_at hl 0 rfl) ?_
              refine q_get X w 91 0 (ci := 5) (by decide) rfl rfl hi5 (by decide) (by decide +kernel) rfl dX5_askSender_84 ?_
              refine lv_iload_n hx hb dX5_askSender_87 rfl (lv_at hl 1 rfl) ?_
              refine lv_bipush (v := nI 109) hx hb dX5_askSender_88 (by decide) ?_
              refine lv_iload_n hx hb dX5_askSender_90 rfl (lv_at hl 2 rfl) ?_
              refine q_iaddN X dX5_askSender_91 ?_
              refine q_calli w (q_runS X w (c_X5_at l k (setL h 92 (wfz (fun j => va_up (h.2.1 92) (1 + 116 * q + 103) 1 (1 + 116 * q + (109 + j))) (va_up (h.2.1 92) (1 + 116 * q + 103) 1) (1 + 116 * q + 104) t)) q (109 + t)) (va_cwS 2 hts gX5_askSender_X5_at rfl rfl rfl (by decide +kernel) ⟨Nat.le_of_ble_eq_true rfl, Nat.le_of_ble_eq_true rfl⟩) rfl hl.1 rfl (Nat.le_of_ble_eq_true rfl) dX5_askSender_92 ⟨Nat.le_of_ble_eq_true rfl, Nat.le_of_ble_eq_true rfl⟩) (fun r_92 h_92 H locs hp w => ?_)
              obtain ⟨er_92, eh_92⟩ := hp
              rw [eh_92] at w
              have er_92 : r_92 = nI (1 + 116 * q + (109 + t)) := er_92
              subst er_92
              refine q_lald X w 92 (1 + 116 * q + (109 + t)) (by decide) (fun _ => rfl) rfl (show (1 + 116 * q + (109 + t)) < 233 by omega) (by decide) dX5_askSender_95 ?_
              refine lv_topl (fun x_96 ex_96 => ?_)
              refine q_last X w 92 (1 + 116 * q + (104 + t)) (by decide) (fun _ => rfl) rfl (show (1 + 116 * q + (104 + t)) < 233 by omega) (by decide) dX5_askSender_96 (fun H locs w => ?_)
              obtain ⟨h_96, eh_96⟩ : ∃ z9, z9 = upL (setL h 92 (wfz (fun j => va_up (h.2.1 92) (1 + 116 * q + 103) 1 (1 + 116 * q + (109 + j))) (va_up (h.2.1 92) (1 + 116 * q + 103) 1) (1 + 116 * q + 104) t)) 92 (1 + 116 * q + (104 + t)) x_96 := ⟨_, rfl⟩
              rw [← eh_96] at w
              refine lv_iinc (v := nI (t + 1)) (lv' := [(3, .int (nI (t + 1))), (0, .ref (k.2.1 91)), (1, .int (nI q))]) hx hb dX5_askSender_97 hl (k := 2) rfl (nI_1 _) (by decide) rfl (fun ls hl => ?_)
              refine lv_goto (tgt := 66) hx hb dX5_askSender_100 (by decide) ?_
              rw [eh_96, setL_up, ex_96, setL_s, wfz_out _ _ (o := 1 + 116 * q + 104) (n := t) (j := 1 + 116 * q + (109 + t)) (by omega), show 1 + 116 * q + (104 + t) = 1 + 116 * q + 104 + t by omega, wfz_up (fun j => va_up (h.2.1 92) (1 + 116 * q + 103) 1 (1 + 116 * q + (109 + j)))] at w
              exact ih (t + 1) (by omega) (by omega) _ _ _ w (lv_sub hl [1, 2, 0] rfl)
        rw [eh_63, upL_set, show va_up (h.2.1 92) (1 + 116 * q + 103) 1 = wfz (fun j => va_up (h.2.1 92) (1 + 116 * q + 103) 1 (1 + 116 * q + (109 + j))) (va_up (h.2.1 92) (1 + 116 * q + 103) 1) (1 + 116 * q + 104) 0 from (wfz_0 _ _ _).symm] at w
        exact lp 4 0 (by omega) (by omega) _ _ _ w (lv_sub hl [2, 3, 0] rfl)
    · refine lv_iconst (v := nI 1) hx hb dX5_askSender_42 (by decide) ?_
      refine lv_goto (tgt := 47) hx hb dX5_askSender_43 (by decide) ?_
      refine lv_istore_n (lv' := [(2, .int (nI 1)), (0, .ref (k.2.1 91)), (1, .int (nI q))]) hx hb dX5_askSender_47 rfl hl (by decide) rfl (fun ls hl => ?_)
      refine lv_iload_n hx hb dX5_askSender_48 rfl (lv_at hl 0 rfl) ?_
      refine lv_if_ne (tgt := 124) hx hb dX5_askSender_49 (by decide) (fun c_49 => ?_) (fun c_49 => ?_)
      · obtain ⟨g0, eg, hg⟩ : ∃ g0 : hS, h = g0 ∧ g0 = setL h 92 (mak (h.2.1 92) q) := ⟨h, rfl, by rw [mak_p c_12 c_38]; exact (setL_self h 92).symm⟩
        rw [eg] at w
        refine lv_aload_n hx hb dX5_askSender_124 rfl (lv_at hl 1 rfl) ?_
        refine q_get X w 91 0 (ci := 5) (by decide) rfl rfl hi5 (by decide) (by decide +kernel) rfl dX5_askSender_125 ?_
        refine lv_iload_n hx hb dX5_askSender_128 rfl (lv_at hl 2 rfl) ?_
        refine lv_bipush (v := nI 112) hx hb dX5_askSender_129 (by decide) ?_
        refine q_calli w (q_runS X w (c_X5_at l k g0 q 112) (va_cwS 2 hts gX5_askSender_X5_at rfl rfl rfl (by decide +kernel) ⟨Nat.le_of_ble_eq_true rfl, Nat.le_of_ble_eq_true rfl⟩) rfl hl.1 rfl (Nat.le_of_ble_eq_true rfl) dX5_askSender_131 ⟨Nat.le_of_ble_eq_true rfl, Nat.le_of_ble_eq_true rfl⟩) (fun r_131 h_131 H locs hp w => ?_)
        obtain ⟨er_131, eh_131⟩ := hp
        rw [eh_131] at w
        have er_131 : r_131 = nI (1 + 116 * q + 112) := er_131
        subst er_131
        refine lv_lconst (v := 1) hx hb dX5_askSender_134 (by decide) ?_
        refine q_last X w 92 (1 + 116 * q + 112) (by decide) (fun _ => rfl) rfl (show (1 + 116 * q + 112) < 233 by omega) (by decide) dX5_askSender_135 (fun H locs w => ?_)
        obtain ⟨h_135, eh_135⟩ : ∃ z9, z9 = upL g0 92 (1 + 116 * q + 112) 1 := ⟨_, rfl⟩
        rw [← eh_135] at w
        refine lv_aload_n hx hb dX5_askSender_136 rfl (lv_at hl 1 rfl) ?_
        refine q_get X w 91 0 (ci := 5) (by decide) rfl rfl hi5 (by decide) (by decide +kernel) rfl dX5_askSender_137 ?_
        refine lv_iload_n hx hb dX5_askSender_140 rfl (lv_at hl 2 rfl) ?_
        refine lv_bipush (v := nI 113) hx hb dX5_askSender_141 (by decide) ?_
        refine q_calli w (q_runS X w (c_X5_at l k h_135 q 113) (va_cwS 2 hts gX5_askSender_X5_at rfl rfl rfl (by decide +kernel) ⟨Nat.le_of_ble_eq_true rfl, Nat.le_of_ble_eq_true rfl⟩) rfl hl.1 rfl (Nat.le_of_ble_eq_true rfl) dX5_askSender_143 ⟨Nat.le_of_ble_eq_true rfl, Nat.le_of_ble_eq_true rfl⟩) (fun r_143 h_143 H locs hp w => ?_)
        obtain ⟨er_143, eh_143⟩ := hp
        rw [eh_143] at w
        have er_143 : r_143 = nI (1 + 116 * q + 113) := er_143
        subst er_143
        refine lv_aload_n hx hb dX5_askSender_146 rfl (lv_at hl 1 rfl) ?_
        refine q_get X w 91 0 (ci := 5) (by decide) rfl rfl hi5 (by decide) (by decide +kernel) rfl dX5_askSender_147 ?_
        refine lv_iload_n hx hb dX5_askSender_150 rfl (lv_at hl 2 rfl) ?_
        refine lv_bipush (v := nI 104) hx hb dX5_askSender_151 (by decide) ?_
        refine q_calli w (q_runS X w (c_X5_at l k h_135 q 104) (va_cwS 2 hts gX5_askSender_X5_at rfl rfl rfl (by decide +kernel) ⟨Nat.le_of_ble_eq_true rfl, Nat.le_of_ble_eq_true rfl⟩) rfl hl.1 rfl (Nat.le_of_ble_eq_true rfl) dX5_askSender_153 ⟨Nat.le_of_ble_eq_true rfl, Nat.le_of_ble_eq_true rfl⟩) (fun r_153 h_153 H locs hp w => ?_)
        obtain ⟨er_153, eh_153⟩ := hp
        rw [eh_153] at w
        have er_153 : r_153 = nI (1 + 116 * q + 104) := er_153
        subst er_153
        refine q_lald X w 92 (1 + 116 * q + 104) (by decide) (fun _ => rfl) rfl (show (1 + 116 * q + 104) < 233 by omega) (by decide) dX5_askSender_156 ?_
        refine lv_topl (fun x_157 ex_157 => ?_)
        refine q_last X w 92 (1 + 116 * q + 113) (by decide) (fun _ => rfl) rfl (show (1 + 116 * q + 113) < 233 by omega) (by decide) dX5_askSender_157 (fun H locs w => ?_)
        obtain ⟨h_157, eh_157⟩ : ∃ z9, z9 = upL h_135 92 (1 + 116 * q + 113) x_157 := ⟨_, rfl⟩
        rw [← eh_157] at w
        refine lv_aload_n hx hb dX5_askSender_158 rfl (lv_at hl 1 rfl) ?_
        refine q_get X w 91 0 (ci := 5) (by decide) rfl rfl hi5 (by decide) (by decide +kernel) rfl dX5_askSender_159 ?_
        refine lv_iload_n hx hb dX5_askSender_162 rfl (lv_at hl 2 rfl) ?_
        refine lv_bipush (v := nI 114) hx hb dX5_askSender_163 (by decide) ?_
        refine q_calli w (q_runS X w (c_X5_at l k h_157 q 114) (va_cwS 2 hts gX5_askSender_X5_at rfl rfl rfl (by decide +kernel) ⟨Nat.le_of_ble_eq_true rfl, Nat.le_of_ble_eq_true rfl⟩) rfl hl.1 rfl (Nat.le_of_ble_eq_true rfl) dX5_askSender_165 ⟨Nat.le_of_ble_eq_true rfl, Nat.le_of_ble_eq_true rfl⟩) (fun r_165 h_165 H locs hp w => ?_)
        obtain ⟨er_165, eh_165⟩ := hp
        rw [eh_165] at w
        have er_165 : r_165 = nI (1 + 116 * q + 114) := er_165
        subst er_165
        refine lv_aload_n hx hb dX5_askSender_168 rfl (lv_at hl 1 rfl) ?_
        refine q_get X w 91 0 (ci := 5) (by decide) rfl rfl hi5 (by decide) (by decide +kernel) rfl dX5_askSender_169 ?_
        refine lv_iload_n hx hb dX5_askSender_172 rfl (lv_at hl 2 rfl) ?_
        refine lv_bipush (v := nI 107) hx hb dX5_askSender_173 (by decide) ?_
        refine q_calli w (q_runS X w (c_X5_at l k h_157 q 107) (va_cwS 2 hts gX5_askSender_X5_at rfl rfl rfl (by decide +kernel) ⟨Nat.le_of_ble_eq_true rfl, Nat.le_of_ble_eq_true rfl⟩) rfl hl.1 rfl (Nat.le_of_ble_eq_true rfl) dX5_askSender_175 ⟨Nat.le_of_ble_eq_true rfl, Nat.le_of_ble_eq_true rfl⟩) (fun r_175 h_175 H locs hp w => ?_)
        obtain ⟨er_175, eh_175⟩ := hp
        rw [eh_175] at w
        have er_175 : r_175 = nI (1 + 116 * q + 107) := er_175
        subst er_175
        refine q_lald X w 92 (1 + 116 * q + 107) (by decide) (fun _ => rfl) rfl (show (1 + 116 * q + 107) < 233 by omega) (by decide) dX5_askSender_178 ?_
        refine lv_topl (fun x_179 ex_179 => ?_)
        refine q_last X w 92 (1 + 116 * q + 114) (by decide) (fun _ => rfl) rfl (show (1 + 116 * q + 114) < 233 by omega) (by decide) dX5_askSender_179 (fun H locs w => ?_)
        obtain ⟨h_179, eh_179⟩ : ∃ z9, z9 = upL h_157 92 (1 + 116 * q + 114) x_179 := ⟨_, rfl⟩
        rw [← eh_179] at w
        refine lv_aload_n hx hb dX5_askSender_180 rfl (lv_at hl 1 rfl) ?_
        refine q_get X w 91 0 (ci := 5) (by decide) rfl rfl hi5 (by decide) (by decide +kernel) rfl dX5_askSender_181 ?_
        refine lv_iload_n hx hb dX5_askSender_184 rfl (lv_at hl 2 rfl) ?_
        refine lv_bipush (v := nI 107) hx hb dX5_askSender_185 (by decide) ?_
        refine q_calli w (q_runS X w (c_X5_at l k h_179 q 107) (va_cwS 2 hts gX5_askSender_X5_at rfl rfl rfl (by decide +kernel) ⟨Nat.le_of_ble_eq_true rfl, Nat.le_of_ble_eq_true rfl⟩) rfl hl.1 rfl (Nat.le_of_ble_eq_true rfl) dX5_askSender_187 ⟨Nat.le_of_ble_eq_true rfl, Nat.le_of_ble_eq_true rfl⟩) (fun r_187 h_187 H locs hp w => ?_)
        obtain ⟨er_187, eh_187⟩ := hp
        rw [eh_187] at w
        have er_187 : r_187 = nI (1 + 116 * q + 107) := er_187
        subst er_187
        refine q_lald X w 92 (1 + 116 * q + 107) (by decide) (fun _ => rfl) rfl (show (1 + 116 * q + 107) < 233 by omega) (by decide) dX5_askSender_190 ?_
        refine lv_l2i hx hb dX5_askSender_191 rfl ?_
        have e135 : h_135 = setL h 92 (ma2 (mak (h.2.1 92) q) q) := by rw [eh_135, hg, setL_up]; rfl
        have e157 : h_157 = setL h 92 (ma3 (mak (h.2.1 92) q) q) := by rw [eh_157, ex_157, e135, setL_s, setL_up]; rfl
        have e179 : h_179 = setL h 92 (ma4 (mak (h.2.1 92) q) q) := by rw [eh_179, ex_179, e157, setL_s, setL_up]; rfl
        exact hret _ _ _ _ _ _ _ _ dX5_askSender_192 w rfl ⟨by rw [e179, setL_s], e179⟩ (Nat.le_of_ble_eq_true rfl) (Nat.le_of_ble_eq_true rfl)
      · exact absurd c_49 (by decide)

abbrev rc_X5_frame : Room := { frames := 4, cells := 0, slots := 0, locals := 89 }
set_option maxHeartbeats 4000000 in
set_option maxRecDepth 100000 in
theorem c_X5_frame (l : Launch) (k : kY) (h : hS) {q : Nat} (hq : q < 2) (hA : h.2.1 92 (1 + 116 * q + 103) = 1 → tnO (h.2.1 92 (1 + 116 * q + 105)) ∧ tnO (h.2.1 92 (1 + 116 * q + 106))) (hB : mfA (h.2.1 92) q (1 + 116 * q + 97) = 1 → tnO (mfA (h.2.1 92) q (1 + 116 * q + 99)) ∧ tnO (mfA (h.2.1 92) q (1 + 116 * q + 100))) : CT l k yX5_frame wsX5_frame rc_X5_frame [.ref (k.2.1 91), .int (nI q)] h (QV k (fun h' => h' = setL h 92 (mfB (mfA (h.2.1 92) q) q))) 0 0 := by
  refine q_metV (cc := cX5_frame) (maxL := 5) (by decide) rfl (Nat.le_of_ble_eq_true rfl) ?_
  intro p e s m args below meth c Q ls X w hl hret
  have hx := X.1
  have hb := X.2.1
  have hown := X.2.2.2.1
  have hts := X.2.2.2.2
  have hl : lv_has ls 5 [(0, .ref (k.2.1 91)), (1, .int (nI q))] := hl
  have hi5 : ∀ w ∈ u_ws RX5 TX5 6, w ∈ wsX5_frame := by decide +kernel
  refine lv_aload_n hx hb dX5_frame_0 rfl (lv_at hl 0 rfl) ?_
  refine q_get X w 91 0 (ci := 5) (by decide) rfl rfl hi5 (by decide) (by decide +kernel) rfl dX5_frame_1 ?_
  refine lv_iload_n hx hb dX5_frame_4 rfl (lv_at hl 1 rfl) ?_
  refine lv_bipush (v := nI 103) hx hb dX5_frame_5 (by decide) ?_
  refine q_calli w (q_runS X w (c_X5_at l k h q 103) (va_cwS 2 hts gX5_frame_X5_at rfl rfl rfl (by decide +kernel) ⟨Nat.le_of_ble_eq_true rfl, Nat.le_of_ble_eq_true rfl⟩) rfl hl.1 rfl (Nat.le_of_ble_eq_true rfl) dX5_frame_7 ⟨Nat.le_of_ble_eq_true rfl, Nat.le_of_ble_eq_true rfl⟩) (fun r_7 h_7 H locs hp w => ?_)
  obtain ⟨er_7, eh_7⟩ := hp
  rw [eh_7] at w
  have er_7 : r_7 = nI (1 + 116 * q + 103) := er_7
  subst er_7
  refine q_lald X w 92 (1 + 116 * q + 103) (by decide) (fun _ => rfl) rfl (show (1 + 116 * q + 103) < 233 by omega) (by decide) dX5_frame_10 ?_
  refine lv_lconst (v := 1) hx hb dX5_frame_11 (by decide) ?_
  refine q_lif_ne X (tgt := 93) dX5_frame_12 dX5_frame_13 (by decide) (fun c_12 => ?_) (fun c_12 => ?_)
  · obtain ⟨g0, eg, hg⟩ : ∃ g0 : hS, h = g0 ∧ g0 = setL h 92 (mfA (h.2.1 92) q) := ⟨h, rfl, by first | (rw [mfA_1 c_12]; exact (setL_self h 92).symm) | (rw [mfA_2 c_33]; exact (setL_self h 92).symm)⟩
    rw [eg] at w
    have hB9 : g0.2.1 92 (1 + 116 * q + 97) = 1 → tnO (g0.2.1 92 (1 + 116 * q + 99)) ∧ tnO (g0.2.1 92 (1 + 116 * q + 100)) := by rw [hg, setL_s]; exact hB
    refine lv_aload_n hx hb dX5_frame_93 rfl (lv_at hl 0 rfl) ?_
    refine q_get X w 91 0 (ci := 5) (by decide) rfl rfl hi5 (by decide) (by decide +kernel) rfl dX5_frame_94 ?_
    refine lv_iload_n hx hb dX5_frame_97 rfl (lv_at hl 1 rfl) ?_
    refine lv_bipush (v := nI 97) hx hb dX5_frame_98 (by decide) ?_
    refine q_calli w (q_runS X w (c_X5_at l k g0 q 97) (va_cwS 2 hts gX5_frame_X5_at rfl rfl rfl (by decide +kernel) ⟨Nat.le_of_ble_eq_true rfl, Nat.le_of_ble_eq_true rfl⟩) rfl hl.1 rfl (Nat.le_of_ble_eq_true rfl) dX5_frame_100 ⟨Nat.le_of_ble_eq_true rfl, Nat.le_of_ble_eq_true rfl⟩) (fun r_100 h_100 H locs hp w => ?_)
    obtain ⟨er_100, eh_100⟩ := hp
    rw [eh_100] at w
    have er_100 : r_100 = nI (1 + 116 * q + 97) := er_100
    subst er_100
    refine q_lald X w 92 (1 + 116 * q + 97) (by decide) (fun _ => rfl) rfl (show (1 + 116 * q + 97) < 233 by omega) (by decide) dX5_frame_103 ?_
    refine lv_lconst (v := 1) hx hb dX5_frame_104 (by decide) ?_
    refine q_lif_ne X (tgt := 152) dX5_frame_105 dX5_frame_106 (by decide) (fun c_105 => ?_) (fun c_105 => ?_)
    · refine lv_iconst (v := nI 0) hx hb dX5_frame_152 (by decide) ?_
      refine lv_istore_n (lv' := [(2, .int (nI 0)), (0, .ref (k.2.1 91)), (1, .int (nI q))]) hx hb dX5_frame_153 rfl hl (by decide) rfl (fun ls hl => ?_)
      refine lv_iload_n hx hb dX5_frame_154 rfl (lv_at hl 0 rfl) ?_
      refine lv_if_eq (tgt := 259) hx hb dX5_frame_155 (by decide) (fun c_155 => ?_) (fun c_155 => ?_)
      · have e0 : mfB (g0.2.1 92) q = g0.2.1 92 := by first | exact mfB_1 c_105 | exact mfB_2 c_123 | exact mfB_3 c_144
        rw [hg, setL_s] at e0
        exact hret _ _ _ _ _ _ _ dX5_frame_259 w (by rw [e0]; exact hg) (Nat.le_of_ble_eq_true rfl) (Nat.le_of_ble_eq_true rfl)
      · exact absurd (by decide) c_155
    · refine lv_aload_n hx hb dX5_frame_109 rfl (lv_at hl 0 rfl) ?_
      refine q_get X w 91 0 (ci := 5) (by decide) rfl rfl hi5 (by decide) (by decide +kernel) rfl dX5_frame_110 ?_
      refine lv_iload_n hx hb dX5_frame_113 rfl (lv_at hl 1 rfl) ?_
      refine lv_bipush (v := nI 101) hx hb dX5_frame_114 (by decide) ?_
      refine q_calli w (q_runS X w (c_X5_at l k g0 q 101) (va_cwS 2 hts gX5_frame_X5_at rfl rfl rfl (by decide +kernel) ⟨Nat.le_of_ble_eq_true rfl, Nat.le_of_ble_eq_true rfl⟩) rfl hl.1 rfl (Nat.le_of_ble_eq_true rfl) dX5_frame_116 ⟨Nat.le_of_ble_eq_true rfl, Nat.le_of_ble_eq_true rfl⟩) (fun r_116 h_116 H locs hp w => ?_)
      obtain ⟨er_116, eh_116⟩ := hp
      rw [eh_116] at w
      have er_116 : r_116 = nI (1 + 116 * q + 101) := er_116
      subst er_116
      refine q_lald X w 92 (1 + 116 * q + 101) (by decide) (fun _ => rfl) rfl (show (1 + 116 * q + 101) < 233 by omega) (by decide) dX5_frame_119 ?_
      refine lv_ldc2 (v := (-1)) hx hb hown (hts (.constantLong RX5 94 (-1)) (by decide +kernel)) dX5_frame_120 ?_
      refine q_lif_eq X (tgt := 152) dX5_frame_123 dX5_frame_124 (by decide) (fun c_123 => ?_) (fun c_123 => ?_)
      · refine lv_iconst (v := nI 0) hx hb dX5_frame_152 (by decide) ?_
        refine lv_istore_n (lv' := [(2, .int (nI 0)), (0, .ref (k.2.1 91)), (1, .int (nI q))]) hx hb dX5_frame_153 rfl hl (by decide) rfl (fun ls hl => ?_)
        refine lv_iload_n hx hb dX5_frame_154 rfl (lv_at hl 0 rfl) ?_
        refine lv_if_eq (tgt := 259) hx hb dX5_frame_155 (by decide) (fun c_155 => ?_) (fun c_155 => ?_)
        · have e0 : mfB (g0.2.1 92) q = g0.2.1 92 := by first | exact mfB_1 c_105 | exact mfB_2 c_123 | exact mfB_3 c_144
          rw [hg, setL_s] at e0
          exact hret _ _ _ _ _ _ _ dX5_frame_259 w (by rw [e0]; exact hg) (Nat.le_of_ble_eq_true rfl) (Nat.le_of_ble_eq_true rfl)
        · exact absurd (by decide) c_155
      · refine lv_aload_n hx hb dX5_frame_127 rfl (lv_at hl 0 rfl) ?_
        refine q_get X w 91 0 (ci := 5) (by decide) rfl rfl hi5 (by decide) (by decide +kernel) rfl dX5_frame_128 ?_
        refine lv_iload_n hx hb dX5_frame_131 rfl (lv_at hl 1 rfl) ?_
        refine lv_bipush (v := nI 101) hx hb dX5_frame_132 (by decide) ?_
        refine q_calli w (q_runS X w (c_X5_at l k g0 q 101) (va_cwS 2 hts gX5_frame_X5_at rfl rfl rfl (by decide +kernel) ⟨Nat.le_of_ble_eq_true rfl, Nat.le_of_ble_eq_true rfl⟩) rfl hl.1 rfl (Nat.le_of_ble_eq_true rfl) dX5_frame_134 ⟨Nat.le_of_ble_eq_true rfl, Nat.le_of_ble_eq_true rfl⟩) (fun r_134 h_134 H locs hp w => ?_)
        obtain ⟨er_134, eh_134⟩ := hp
        rw [eh_134] at w
        have er_134 : r_134 = nI (1 + 116 * q + 101) := er_134
        subst er_134
        refine q_lald X w 92 (1 + 116 * q + 101) (by decide) (fun _ => rfl) rfl (show (1 + 116 * q + 101) < 233 by omega) (by decide) dX5_frame_137 ?_
        refine lv_aload_n hx hb dX5_frame_138 rfl (lv_at hl 0 rfl) ?_
        refine q_get X w 91 0 (ci := 5) (by decide) rfl rfl hi5 (by decide) (by decide +kernel) rfl dX5_frame_139 ?_
        refine lv_iconst (v := nI 0) hx hb dX5_frame_142 (by decide) ?_
        refine q_lald X w 92 0 (by decide) (fun _ => rfl) rfl (show 0 < 233 by omega) (by decide) dX5_frame_143 ?_
        refine q_lif_gt X (tgt := 152) dX5_frame_144 dX5_frame_145 (by decide) (fun c_144 => ?_) (fun c_144 => ?_)
        · refine lv_iconst (v := nI 0) hx hb dX5_frame_152 (by decide) ?_
          refine lv_istore_n (lv' := [(2, .int (nI 0)), (0, .ref (k.2.1 91)), (1, .int (nI q))]) hx hb dX5_frame_153 rfl hl (by decide) rfl (fun ls hl => ?_)
          refine lv_iload_n hx hb dX5_frame_154 rfl (lv_at hl 0 rfl) ?_
          refine lv_if_eq (tgt := 259) hx hb dX5_frame_155 (by decide) (fun c_155 => ?_) (fun c_155 => ?_)
          · have e0 : mfB (g0.2.1 92) q = g0.2.1 92 := by first | exact mfB_1 c_105 | exact mfB_2 c_123 | exact mfB_3 c_144
            rw [hg, setL_s] at e0
            exact hret _ _ _ _ _ _ _ dX5_frame_259 w (by rw [e0]; exact hg) (Nat.le_of_ble_eq_true rfl) (Nat.le_of_ble_eq_true rfl)
          · exact absurd (by decide) c_155
        · refine lv_iconst (v := nI 1) hx hb dX5_frame_148 (by decide) ?_
          refine lv_goto (tgt := 153) hx hb dX5_frame_149 (by decide) ?_
          refine lv_istore_n (lv' := [(2, .int (nI 1)), (0, .ref (k.2.1 91)), (1, .int (nI q))]) hx hb dX5_frame_153 rfl hl (by decide) rfl (fun ls hl => ?_)
          refine lv_iload_n hx hb dX5_frame_154 rfl (lv_at hl 0 rfl) ?_
          refine lv_if_eq (tgt := 259) hx hb dX5_frame_155 (by decide) (fun c_155 => ?_) (fun c_155 => ?_)
          · exact absurd c_155 (by decide)
          · obtain ⟨⟨et3, ht3⟩, et4, ht4⟩ := hB9 c_105
            refine lv_aload_n hx hb dX5_frame_158 rfl (lv_at hl 1 rfl) ?_
            refine q_get X w 91 0 (ci := 5) (by decide) rfl rfl hi5 (by decide) (by decide +kernel) rfl dX5_frame_159 ?_
            refine lv_iload_n hx hb dX5_frame_162 rfl (lv_at hl 2 rfl) ?_
            refine lv_bipush (v := nI 99) hx hb dX5_frame_163 (by decide) ?_
            refine q_calli w (q_runS X w (c_X5_at l k g0 q 99) (va_cwS 2 hts gX5_frame_X5_at rfl rfl rfl (by decide +kernel) ⟨Nat.le_of_ble_eq_true rfl, Nat.le_of_ble_eq_true rfl⟩) rfl hl.1 rfl (Nat.le_of_ble_eq_true rfl) dX5_frame_165 ⟨Nat.le_of_ble_eq_true rfl, Nat.le_of_ble_eq_true rfl⟩) (fun r_165 h_165 H locs hp w => ?_)
            obtain ⟨er_165, eh_165⟩ := hp
            rw [eh_165] at w
            have er_165 : r_165 = nI (1 + 116 * q + 99) := er_165
            subst er_165
            refine q_lald X w 92 (1 + 116 * q + 99) (by decide) (fun _ => rfl) rfl (show (1 + 116 * q + 99) < 233 by omega) (by decide) dX5_frame_168 ?_
            refine lv_l2i hx hb dX5_frame_169 rfl ?_
            rw [et3]
            refine lv_istore_n (lv' := [(3, .int (nI (tn (g0.2.1 92 (1 + 116 * q + 99))))), (2, .int (nI 1)), (0, .ref (k.2.1 91)), (1, .int (nI q))]) hx hb dX5_frame_170 rfl hl (by decide) rfl (fun ls hl => ?_)
            refine lv_aload_n hx hb dX5_frame_171 rfl (lv_at hl 2 rfl) ?_
            refine q_get X w 91 0 (ci := 5) (by decide) rfl rfl hi5 (by decide) (by decide +kernel) rfl dX5_frame_172 ?_
            refine lv_iload_n hx hb dX5_frame_175 rfl (lv_at hl 3 rfl) ?_
            refine lv_bipush (v := nI 100) hx hb dX5_frame_176 (by decide) ?_
            refine q_calli w (q_runS X w (c_X5_at l k g0 q 100) (va_cwS 2 hts gX5_frame_X5_at rfl rfl rfl (by decide +kernel) ⟨Nat.le_of_ble_eq_true rfl, Nat.le_of_ble_eq_true rfl⟩) rfl hl.1 rfl (Nat.le_of_ble_eq_true rfl) dX5_frame_178 ⟨Nat.le_of_ble_eq_true rfl, Nat.le_of_ble_eq_true rfl⟩) (fun r_178 h_178 H locs hp w => ?_)
            obtain ⟨er_178, eh_178⟩ := hp
            rw [eh_178] at w
            have er_178 : r_178 = nI (1 + 116 * q + 100) := er_178
            subst er_178
            refine q_lald X w 92 (1 + 116 * q + 100) (by decide) (fun _ => rfl) rfl (show (1 + 116 * q + 100) < 233 by omega) (by decide) dX5_frame_181 ?_
            refine lv_l2i hx hb dX5_frame_182 rfl ?_
            rw [et4]
            refine lv_istore (lv' := [(4, .int (nI (tn (g0.2.1 92 (1 + 116 * q + 100))))), (3, .int (nI (tn (g0.2.1 92 (1 + 116 * q + 99))))), (2, .int (nI 1)), (0, .ref (k.2.1 91)), (1, .int (nI q))]) hx hb dX5_frame_183 hl (by decide) rfl (fun ls hl => ?_)
            refine lv_aload_n hx hb dX5_frame_185 rfl (lv_at hl 3 rfl) ?_
            refine q_get X w 91 0 (ci := 5) (by decide) rfl rfl hi5 (by decide) (by decide +kernel) rfl dX5_frame_186 ?_
            refine lv_iload_n hx hb dX5_frame_189 rfl (lv_at hl 4 rfl) ?_
            refine lv_bipush (v := nI 49) hx hb dX5_frame_190 (by decide) ?_
            refine lv_iload_n hx hb dX5_frame_192 rfl (lv_at hl 1 rfl) ?_
            refine q_iaddN X dX5_frame_193 ?_
            refine q_calli w (q_runS X w (c_X5_at l k g0 q (49 + (tn (g0.2.1 92 (1 + 116 * q + 99))))) (va_cwS 2 hts gX5_frame_X5_at rfl rfl rfl (by decide +kernel) ⟨Nat.le_of_ble_eq_true rfl, Nat.le_of_ble_eq_true rfl⟩) rfl hl.1 rfl (Nat.le_of_ble_eq_true rfl) dX5_frame_194 ⟨Nat.le_of_ble_eq_true rfl, Nat.le_of_ble_eq_true rfl⟩) (fun r_194 h_194 H locs hp w => ?_)
            obtain ⟨er_194, eh_194⟩ := hp
            rw [eh_194] at w
            have er_194 : r_194 = nI (1 + 116 * q + (49 + (tn (g0.2.1 92 (1 + 116 * q + 99))))) := er_194
            subst er_194
            refine lv_dup2_11 hx hb dX5_frame_197 rfl rfl ?_
            refine q_lald X w 92 (1 + 116 * q + (49 + (tn (g0.2.1 92 (1 + 116 * q + 99))))) (by decide) (fun _ => rfl) rfl (show (1 + 116 * q + (49 + (tn (g0.2.1 92 (1 + 116 * q + 99))))) < 233 by omega) (by decide) dX5_frame_198 ?_
            refine lv_lconst (v := 1) hx hb dX5_frame_199 (by decide) ?_
            refine lv_lsub hx hb dX5_frame_200 ?_
            refine lv_topl (fun x_201 ex_201 => ?_)
            refine q_last X w 92 (1 + 116 * q + (49 + (tn (g0.2.1 92 (1 + 116 * q + 99))))) (by decide) (fun _ => rfl) rfl (show (1 + 116 * q + (49 + (tn (g0.2.1 92 (1 + 116 * q + 99))))) < 233 by omega) (by decide) dX5_frame_201 (fun H locs w => ?_)
            obtain ⟨h_201, eh_201⟩ : ∃ z9, z9 = upL g0 92 (1 + 116 * q + (49 + (tn (g0.2.1 92 (1 + 116 * q + 99))))) x_201 := ⟨_, rfl⟩
            rw [← eh_201] at w
            refine lv_aload_n hx hb dX5_frame_202 rfl (lv_at hl 3 rfl) ?_
            refine q_get X w 91 0 (ci := 5) (by decide) rfl rfl hi5 (by decide) (by decide +kernel) rfl dX5_frame_203 ?_
            refine lv_iload_n hx hb dX5_frame_206 rfl (lv_at hl 4 rfl) ?_
            refine lv_bipush (v := nI 49) hx hb dX5_frame_207 (by decide) ?_
            refine lv_iload hx hb dX5_frame_209 (lv_at hl 0 rfl) ?_
            refine q_iaddN X dX5_frame_211 ?_
            refine q_calli w (q_runS X w (c_X5_at l k h_201 q (49 + (tn (g0.2.1 92 (1 + 116 * q + 100))))) (va_cwS 2 hts gX5_frame_X5_at rfl rfl rfl (by decide +kernel) ⟨Nat.le_of_ble_eq_true rfl, Nat.le_of_ble_eq_true rfl⟩) rfl hl.1 rfl (Nat.le_of_ble_eq_true rfl) dX5_frame_212 ⟨Nat.le_of_ble_eq_true rfl, Nat.le_of_ble_eq_true rfl⟩) (fun r_212 h_212 H locs hp w => ?_)
            obtain ⟨er_212, eh_212⟩ := hp
            rw [eh_212] at w
            have er_212 : r_212 = nI (1 + 116 * q + (49 + (tn (g0.2.1 92 (1 + 116 * q + 100))))) := er_212
            subst er_212
            refine lv_dup2_11 hx hb dX5_frame_215 rfl rfl ?_
            refine q_lald X w 92 (1 + 116 * q + (49 + (tn (g0.2.1 92 (1 + 116 * q + 100))))) (by decide) (fun _ => rfl) rfl (show (1 + 116 * q + (49 + (tn (g0.2.1 92 (1 + 116 * q + 100))))) < 233 by omega) (by decide) dX5_frame_216 ?_
            refine lv_lconst (v := 1) hx hb dX5_frame_217 (by decide) ?_
            refine lv_ladd hx hb dX5_frame_218 ?_
            refine lv_topl (fun x_219 ex_219 => ?_)
            refine q_last X w 92 (1 + 116 * q + (49 + (tn (g0.2.1 92 (1 + 116 * q + 100))))) (by decide) (fun _ => rfl) rfl (show (1 + 116 * q + (49 + (tn (g0.2.1 92 (1 + 116 * q + 100))))) < 233 by omega) (by decide) dX5_frame_219 (fun H locs w => ?_)
            obtain ⟨h_219, eh_219⟩ : ∃ z9, z9 = upL h_201 92 (1 + 116 * q + (49 + (tn (g0.2.1 92 (1 + 116 * q + 100))))) x_219 := ⟨_, rfl⟩
            rw [← eh_219] at w
            refine lv_aload_n hx hb dX5_frame_220 rfl (lv_at hl 3 rfl) ?_
            refine lv_iload_n hx hb dX5_frame_221 rfl (lv_at hl 4 rfl) ?_
            refine lv_iload_n hx hb dX5_frame_222 rfl (lv_at hl 1 rfl) ?_
            refine q_callv w (q_runV X w 91 (c_X5_feed l k h_219 (q := q) (t := (tn (g0.2.1 92 (1 + 116 * q + 99)))) (by omega) (by omega)) (cwV 2 hts gX5_frame_X5_feed rfl rfl rfl (by decide +kernel) ⟨Nat.le_of_ble_eq_true rfl, Nat.le_of_ble_eq_true rfl⟩) (by decide) rfl rfl rfl hl.1 rfl (Nat.le_of_ble_eq_true rfl) dX5_frame_223 ⟨Nat.le_of_ble_eq_true rfl, Nat.le_of_ble_eq_true rfl⟩) (fun h_223 H locs hp w => ?_)
            have eh_223 := hp
            refine lv_aload_n hx hb dX5_frame_226 rfl (lv_at hl 3 rfl) ?_
            refine lv_iload_n hx hb dX5_frame_227 rfl (lv_at hl 4 rfl) ?_
            refine lv_iload hx hb dX5_frame_228 (lv_at hl 0 rfl) ?_
            refine q_callv w (q_runV X w 91 (c_X5_feed l k h_223 (q := q) (t := (tn (g0.2.1 92 (1 + 116 * q + 100)))) (by omega) (by omega)) (cwV 2 hts gX5_frame_X5_feed rfl rfl rfl (by decide +kernel) ⟨Nat.le_of_ble_eq_true rfl, Nat.le_of_ble_eq_true rfl⟩) (by decide) rfl rfl rfl hl.1 rfl (Nat.le_of_ble_eq_true rfl) dX5_frame_230 ⟨Nat.le_of_ble_eq_true rfl, Nat.le_of_ble_eq_true rfl⟩) (fun h_230 H locs hp w => ?_)
            have eh_230 := hp
            refine lv_aload_n hx hb dX5_frame_233 rfl (lv_at hl 3 rfl) ?_
            refine q_get X w 91 0 (ci := 5) (by decide) rfl rfl hi5 (by decide) (by decide +kernel) rfl dX5_frame_234 ?_
            refine lv_iload_n hx hb dX5_frame_237 rfl (lv_at hl 4 rfl) ?_
            refine lv_bipush (v := nI 97) hx hb dX5_frame_238 (by decide) ?_
            refine q_calli w (q_runS X w (c_X5_at l k h_230 q 97) (va_cwS 2 hts gX5_frame_X5_at rfl rfl rfl (by decide +kernel) ⟨Nat.le_of_ble_eq_true rfl, Nat.le_of_ble_eq_true rfl⟩) rfl hl.1 rfl (Nat.le_of_ble_eq_true rfl) dX5_frame_240 ⟨Nat.le_of_ble_eq_true rfl, Nat.le_of_ble_eq_true rfl⟩) (fun r_240 h_240 H locs hp w => ?_)
            obtain ⟨er_240, eh_240⟩ := hp
            rw [eh_240] at w
            have er_240 : r_240 = nI (1 + 116 * q + 97) := er_240
            subst er_240
            refine lv_lconst (v := 0) hx hb dX5_frame_243 (by decide) ?_
            refine q_last X w 92 (1 + 116 * q + 97) (by decide) (fun _ => rfl) rfl (show (1 + 116 * q + 97) < 233 by omega) (by decide) dX5_frame_244 (fun H locs w => ?_)
            obtain ⟨h_244, eh_244⟩ : ∃ z9, z9 = upL h_230 92 (1 + 116 * q + 97) 0 := ⟨_, rfl⟩
            rw [← eh_244] at w
            refine lv_aload_n hx hb dX5_frame_245 rfl (lv_at hl 3 rfl) ?_
            refine q_get X w 91 0 (ci := 5) (by decide) rfl rfl hi5 (by decide) (by decide +kernel) rfl dX5_frame_246 ?_
            refine lv_iload_n hx hb dX5_frame_249 rfl (lv_at hl 4 rfl) ?_
            refine lv_bipush (v := nI 101) hx hb dX5_frame_250 (by decide) ?_
            refine q_calli w (q_runS X w (c_X5_at l k h_244 q 101) (va_cwS 2 hts gX5_frame_X5_at rfl rfl rfl (by decide +kernel) ⟨Nat.le_of_ble_eq_true rfl, Nat.le_of_ble_eq_true rfl⟩) rfl hl.1 rfl (Nat.le_of_ble_eq_true rfl) dX5_frame_252 ⟨Nat.le_of_ble_eq_true rfl, Nat.le_of_ble_eq_true rfl⟩) (fun r_252 h_252 H locs hp w => ?_)
            obtain ⟨er_252, eh_252⟩ := hp
            rw [eh_252] at w
            have er_252 : r_252 = nI (1 + 116 * q + 101) := er_252
            subst er_252
            refine lv_ldc2 (v := (-1)) hx hb hown (hts (.constantLong RX5 94 (-1)) (by decide +kernel)) dX5_frame_255 ?_
            refine q_last X w 92 (1 + 116 * q + 101) (by decide) (fun _ => rfl) rfl (show (1 + 116 * q + 101) < 233 by omega) (by decide) dX5_frame_258 (fun H locs w => ?_)
            obtain ⟨h_258, eh_258⟩ : ∃ z9, z9 = upL h_244 92 (1 + 116 * q + 101) (-1) := ⟨_, rfl⟩
            rw [← eh_258] at w
            have e201 : h_201 = setL g0 92 (mm1 (g0.2.1 92) (1 + 116 * q + (49 + tn (g0.2.1 92 (1 + 116 * q + 99))))) := by rw [eh_201, ex_201, upL_set]; rfl
            have e219 : h_219 = setL g0 92 (mp1 (mm1 (g0.2.1 92) (1 + 116 * q + (49 + tn (g0.2.1 92 (1 + 116 * q + 99))))) (1 + 116 * q + (49 + tn (g0.2.1 92 (1 + 116 * q + 100))))) := by rw [eh_219, ex_219, e201, setL_s, setL_up]; rfl
            have e223 : h_223 = setL g0 92 (mfd (mp1 (mm1 (g0.2.1 92) (1 + 116 * q + (49 + tn (g0.2.1 92 (1 + 116 * q + 99))))) (1 + 116 * q + (49 + tn (g0.2.1 92 (1 + 116 * q + 100))))) q (tn (g0.2.1 92 (1 + 116 * q + 99)))) := by rw [eh_223, e219, setL_s, setL_setL]
            have e230 : h_230 = setL g0 92 (mfd (mfd (mp1 (mm1 (g0.2.1 92) (1 + 116 * q + (49 + tn (g0.2.1 92 (1 + 116 * q + 99))))) (1 + 116 * q + (49 + tn (g0.2.1 92 (1 + 116 * q + 100))))) q (tn (g0.2.1 92 (1 + 116 * q + 99)))) q (tn (g0.2.1 92 (1 + 116 * q + 100)))) := by rw [eh_230, e223, setL_s, setL_setL]
            have e258 : h_258 = setL g0 92 (mfB (g0.2.1 92) q) := by rw [eh_258, eh_244, e230, setL_up, setL_up, ← mfB_p c_105 c_123 c_144]; rfl
            exact hret _ _ _ _ _ _ _ dX5_frame_259 w (by rw [e258, hg, setL_s, setL_setL]) (Nat.le_of_ble_eq_true rfl) (Nat.le_of_ble_eq_true rfl)
  · refine lv_aload_n hx hb dX5_frame_16 rfl (lv_at hl 0 rfl) ?_
    refine q_get X w 91 0 (ci := 5) (by decide) rfl rfl hi5 (by decide) (by decide +kernel) rfl dX5_frame_17 ?_
    refine lv_iload_n hx hb dX5_frame_20 rfl (lv_at hl 1 rfl) ?_
    refine lv_bipush (v := nI 107) hx hb dX5_frame_21 (by decide) ?_
    refine q_calli w (q_runS X w (c_X5_at l k h q 107) (va_cwS 2 hts gX5_frame_X5_at rfl rfl rfl (by decide +kernel) ⟨Nat.le_of_ble_eq_true rfl, Nat.le_of_ble_eq_true rfl⟩) rfl hl.1 rfl (Nat.le_of_ble_eq_true rfl) dX5_frame_23 ⟨Nat.le_of_ble_eq_true rfl, Nat.le_of_ble_eq_true rfl⟩) (fun r_23 h_23 H locs hp w => ?_)
    obtain ⟨er_23, eh_23⟩ := hp
    rw [eh_23] at w
    have er_23 : r_23 = nI (1 + 116 * q + 107) := er_23
    subst er_23
    refine q_lald X w 92 (1 + 116 * q + 107) (by decide) (fun _ => rfl) rfl (show (1 + 116 * q + 107) < 233 by omega) (by decide) dX5_frame_26 ?_
    refine lv_aload_n hx hb dX5_frame_27 rfl (lv_at hl 0 rfl) ?_
    refine q_get X w 91 0 (ci := 5) (by decide) rfl rfl hi5 (by decide) (by decide +kernel) rfl dX5_frame_28 ?_
    refine lv_iconst (v := nI 0) hx hb dX5_frame_31 (by decide) ?_
    refine q_lald X w 92 0 (by decide) (fun _ => rfl) rfl (show 0 < 233 by omega) (by decide) dX5_frame_32 ?_
    refine q_lif_ne X (tgt := 93) dX5_frame_33 dX5_frame_34 (by decide) (fun c_33 => ?_) (fun c_33 => ?_)
    · obtain ⟨g0, eg, hg⟩ : ∃ g0 : hS, h = g0 ∧ g0 = setL h 92 (mfA (h.2.1 92) q) := ⟨h, rfl, by first | (rw [mfA_1 c_12]; exact (setL_self h 92).symm) | (rw [mfA_2 c_33]; exact (setL_self h 92).symm)⟩
      rw [eg] at w
      have hB9 : g0.2.1 92 (1 + 116 * q + 97) = 1 → tnO (g0.2.1 92 (1 + 116 * q + 99)) ∧ tnO (g0.2.1 92 (1 + 116 * q + 100)) := by rw [hg, setL_s]; exact hB
      refine lv_aload_n hx hb dX5_frame_93 rfl (lv_at hl 0 rfl) ?_
      refine q_get X w 91 0 (ci := 5) (by decide) rfl rfl hi5 (by decide) (by decide +kernel) rfl dX5_frame_94 ?_
      refine lv_iload_n hx hb dX5_frame_97 rfl (lv_at hl 1 rfl) ?_
      refine lv_bipush (v := nI 97) hx hb dX5_frame_98 (by decide) ?_
      refine q_calli w (q_runS X w (c_X5_at l k g0 q 97) (va_cwS 2 hts gX5_frame_X5_at rfl rfl rfl (by decide +kernel) ⟨Nat.le_of_ble_eq_true rfl, Nat.le_of_ble_eq_true rfl⟩) rfl hl.1 rfl (Nat.le_of_ble_eq_true rfl) dX5_frame_100 ⟨Nat.le_of_ble_eq_true rfl, Nat.le_of_ble_eq_true rfl⟩) (fun r_100 h_100 H locs hp w => ?_)
      obtain ⟨er_100, eh_100⟩ := hp
      rw [eh_100] at w
      have er_100 : r_100 = nI (1 + 116 * q + 97) := er_100
      subst er_100
      refine q_lald X w 92 (1 + 116 * q + 97) (by decide) (fun _ => rfl) rfl (show (1 + 116 * q + 97) < 233 by omega) (by decide) dX5_frame_103 ?_
      refine lv_lconst (v := 1) hx hb dX5_frame_104 (by decide) ?_
      refine q_lif_ne X (tgt := 152) dX5_frame_105 dX5_frame_106 (by decide) (fun c_105 => ?_) (fun c_105 => ?_)
      · refine lv_iconst (v := nI 0) hx hb dX5_frame_152 (by decide) ?_
        refine lv_istore_n (lv' := [(2, .int (nI 0)), (0, .ref (k.2.1 91)), (1, .int (nI q))]) hx hb dX5_frame_153 rfl hl (by decide) rfl (fun ls hl => ?_)
        refine lv_iload_n hx hb dX5_frame_154 rfl (lv_at hl 0 rfl) ?_
        refine lv_if_eq (tgt := 259) hx hb dX5_frame_155 (by decide) (fun c_155 => ?_) (fun c_155 => ?_)
        · have e0 : mfB (g0.2.1 92) q = g0.2.1 92 := by first | exact mfB_1 c_105 | exact mfB_2 c_123 | exact mfB_3 c_144
          rw [hg, setL_s] at e0
          exact hret _ _ _ _ _ _ _ dX5_frame_259 w (by rw [e0]; exact hg) (Nat.le_of_ble_eq_true rfl) (Nat.le_of_ble_eq_true rfl)
        · exact absurd (by decide) c_155
      · refine lv_aload_n hx hb dX5_frame_109 rfl (lv_at hl 0 rfl) ?_
        refine q_get X w 91 0 (ci := 5) (by decide) rfl rfl hi5 (by decide) (by decide +kernel) rfl dX5_frame_110 ?_
        refine lv_iload_n hx hb dX5_frame_113 rfl (lv_at hl 1 rfl) ?_
        refine lv_bipush (v := nI 101) hx hb dX5_frame_114 (by decide) ?_
        refine q_calli w (q_runS X w (c_X5_at l k g0 q 101) (va_cwS 2 hts gX5_frame_X5_at rfl rfl rfl (by decide +kernel) ⟨Nat.le_of_ble_eq_true rfl, Nat.le_of_ble_eq_true rfl⟩) rfl hl.1 rfl (Nat.le_of_ble_eq_true rfl) dX5_frame_116 ⟨Nat.le_of_ble_eq_true rfl, Nat.le_of_ble_eq_true rfl⟩) (fun r_116 h_116 H locs hp w => ?_)
        obtain ⟨er_116, eh_116⟩ := hp
        rw [eh_116] at w
        have er_116 : r_116 = nI (1 + 116 * q + 101) := er_116
        subst er_116
        refine q_lald X w 92 (1 + 116 * q + 101) (by decide) (fun _ => rfl) rfl (show (1 + 116 * q + 101) < 233 by omega) (by decide) dX5_frame_119 ?_
        refine lv_ldc2 (v := (-1)) hx hb hown (hts (.constantLong RX5 94 (-1)) (by decide +kernel)) dX5_frame_120 ?_
        refine q_lif_eq X (tgt := 152) dX5_frame_123 dX5_frame_124 (by decide) (fun c_123 => ?_) (fun c_123 => ?_)
        · refine lv_iconst (v := nI 0) hx hb dX5_frame_152 (by decide) ?_
          refine lv_istore_n (lv' := [(2, .int (nI 0)), (0, .ref (k.2.1 91)), (1, .int (nI q))]) hx hb dX5_frame_153 rfl hl (by decide) rfl (fun ls hl => ?_)
          refine lv_iload_n hx hb dX5_frame_154 rfl (lv_at hl 0 rfl) ?_
          refine lv_if_eq (tgt := 259) hx hb dX5_frame_155 (by decide) (fun c_155 => ?_) (fun c_155 => ?_)
          · have e0 : mfB (g0.2.1 92) q = g0.2.1 92 := by first | exact mfB_1 c_105 | exact mfB_2 c_123 | exact mfB_3 c_144
            rw [hg, setL_s] at e0
            exact hret _ _ _ _ _ _ _ dX5_frame_259 w (by rw [e0]; exact hg) (Nat.le_of_ble_eq_true rfl) (Nat.le_of_ble_eq_true rfl)
          · exact absurd (by decide) c_155
        · refine lv_aload_n hx hb dX5_frame_127 rfl (lv_at hl 0 rfl) ?_
          refine q_get X w 91 0 (ci := 5) (by decide) rfl rfl hi5 (by decide) (by decide +kernel) rfl dX5_frame_128 ?_
          refine lv_iload_n hx hb dX5_frame_131 rfl (lv_at hl 1 rfl) ?_
          refine lv_bipush (v := nI 101) hx hb dX5_frame_132 (by decide) ?_
          refine q_calli w (q_runS X w (c_X5_at l k g0 q 101) (va_cwS 2 hts gX5_frame_X5_at rfl rfl rfl (by decide +kernel) ⟨Nat.le_of_ble_eq_true rfl, Nat.le_of_ble_eq_true rfl⟩) rfl hl.1 rfl (Nat.le_of_ble_eq_true rfl) dX5_frame_134 ⟨Nat.le_of_ble_eq_true rfl, Nat.le_of_ble_eq_true rfl⟩) (fun r_134 h_134 H locs hp w => ?_)
          obtain ⟨er_134, eh_134⟩ := hp
          rw [eh_134] at w
          have er_134 : r_134 = nI (1 + 116 * q + 101) := er_134
          subst er_134
          refine q_lald X w 92 (1 + 116 * q + 101) (by decide) (fun _ => rfl) rfl (show (1 + 116 * q + 101) < 233 by omega) (by decide) dX5_frame_137 ?_
          refine lv_aload_n hx hb dX5_frame_138 rfl (lv_at hl 0 rfl) ?_
          refine q_get X w 91 0 (ci := 5) (by decide) rfl rfl hi5 (by decide) (by decide +kernel) rfl dX5_frame_139 ?_
          refine lv_iconst (v := nI 0) hx hb dX5_frame_142 (by decide) ?_
          refine q_lald X w 92 0 (by decide) (fun _ => rfl) rfl (show 0 < 233 by omega) (by decide) dX5_frame_143 ?_
          refine q_lif_gt X (tgt := 152) dX5_frame_144 dX5_frame_145 (by decide) (fun c_144 => ?_) (fun c_144 => ?_)
          · refine lv_iconst (v := nI 0) hx hb dX5_frame_152 (by decide) ?_
            refine lv_istore_n (lv' := [(2, .int (nI 0)), (0, .ref (k.2.1 91)), (1, .int (nI q))]) hx hb dX5_frame_153 rfl hl (by decide) rfl (fun ls hl => ?_)
            refine lv_iload_n hx hb dX5_frame_154 rfl (lv_at hl 0 rfl) ?_
            refine lv_if_eq (tgt := 259) hx hb dX5_frame_155 (by decide) (fun c_155 => ?_) (fun c_155 => ?_)
            · have e0 : mfB (g0.2.1 92) q = g0.2.1 92 := by first | exact mfB_1 c_105 | exact mfB_2 c_123 | exact mfB_3 c_144
              rw [hg, setL_s] at e0
              exact hret _ _ _ _ _ _ _ dX5_frame_259 w (by rw [e0]; exact hg) (Nat.le_of_ble_eq_true rfl) (Nat.le_of_ble_eq_true rfl)
            · exact absurd (by decide) c_155
          · refine lv_iconst (v := nI 1) hx hb dX5_frame_148 (by decide) ?_
            refine lv_goto (tgt := 153) hx hb dX5_frame_149 (by decide) ?_
            refine lv_istore_n (lv' := [(2, .int (nI 1)), (0, .ref (k.2.1 91)), (1, .int (nI q))]) hx hb dX5_frame_153 rfl hl (by decide) rfl (fun ls hl => ?_)
            refine lv_iload_n hx hb dX5_frame_154 rfl (lv_at hl 0 rfl) ?_
            refine lv_if_eq (tgt := 259) hx hb dX5_frame_155 (by decide) (fun c_155 => ?_) (fun c_155 => ?_)
            · exact absurd c_155 (by decide)
            · obtain ⟨⟨et3, ht3⟩, et4, ht4⟩ := hB9 c_105
              refine lv_aload_n hx hb dX5_frame_158 rfl (lv_at hl 1 rfl) ?_
              refine q_get X w 91 0 (ci := 5) (by decide) rfl rfl hi5 (by decide) (by decide +kernel) rfl dX5_frame_159 ?_
              refine lv_iload_n hx hb dX5_frame_162 rfl (lv_at hl 2 rfl) ?_
              refine lv_bipush (v := nI 99) hx hb dX5_frame_163 (by decide) ?_
              refine q_calli w (q_runS X w (c_X5_at l k g0 q 99) (va_cwS 2 hts gX5_frame_X5_at rfl rfl rfl (by decide +kernel) ⟨Nat.le_of_ble_eq_true rfl, Nat.le_of_ble_eq_true rfl⟩) rfl hl.1 rfl (Nat.le_of_ble_eq_true rfl) dX5_frame_165 ⟨Nat.le_of_ble_eq_true rfl, Nat.le_of_ble_eq_true rfl⟩) (fun r_165 h_165 H locs hp w => ?_)
              obtain ⟨er_165, eh_165⟩ := hp
              rw [eh_165] at w
              have er_165 : r_165 = nI (1 + 116 * q + 99) := er_165
              subst er_165
              refine q_lald X w 92 (1 + 116 * q + 99) (by decide) (fun _ => rfl) rfl (show (1 + 116 * q + 99) < 233 by omega) (by decide) dX5_frame_168 ?_
              refine lv_l2i hx hb dX5_frame_169 rfl ?_
              rw [et3]
              refine lv_istore_n (lv' := [(3, .int (nI (tn (g0.2.1 92 (1 + 116 * q + 99))))), (2, .int (nI 1)), (0, .ref (k.2.1 91)), (1, .int (nI q))]) hx hb dX5_frame_170 rfl hl (by decide) rfl (fun ls hl => ?_)
              refine lv_aload_n hx hb dX5_frame_171 rfl (lv_at hl 2 rfl) ?_
              refine q_get X w 91 0 (ci := 5) (by decide) rfl rfl hi5 (by decide) (by decide +kernel) rfl dX5_frame_172 ?_
              refine lv_iload_n hx hb dX5_frame_175 rfl (lv_at hl 3 rfl) ?_
              refine lv_bipush (v := nI 100) hx hb dX5_frame_176 (by decide) ?_
              refine q_calli w (q_runS X w (c_X5_at l k g0 q 100) (va_cwS 2 hts gX5_frame_X5_at rfl rfl rfl (by decide +kernel) ⟨Nat.le_of_ble_eq_true rfl, Nat.le_of_ble_eq_true rfl⟩) rfl hl.1 rfl (Nat.le_of_ble_eq_true rfl) dX5_frame_178 ⟨Nat.le_of_ble_eq_true rfl, Nat.le_of_ble_eq_true rfl⟩) (fun r_178 h_178 H locs hp w => ?_)
              obtain ⟨er_178, eh_178⟩ := hp
              rw [eh_178] at w
              have er_178 : r_178 = nI (1 + 116 * q + 100) := er_178
              subst er_178
              refine q_lald X w 92 (1 + 116 * q + 100) (by decide) (fun _ => rfl) rfl (show (1 + 116 * q + 100) < 233 by omega) (by decide) dX5_frame_181 ?_
              refine lv_l2i hx hb dX5_frame_182 rfl ?_
              rw [et4]
              refine lv_istore (lv' := [(4, .int (nI (tn (g0.2.1 92 (1 + 116 * q + 100))))), (3, .int (nI (tn (g0.2.1 92 (1 + 116 * q + 99))))), (2, .int (nI 1)), (0, .ref (k.2.1 91)), (1, .int (nI q))]) hx hb dX5_frame_183 hl (by decide) rfl (fun ls hl => ?_)
              refine lv_aload_n hx hb dX5_frame_185 rfl (lv_at hl 3 rfl) ?_
              refine q_get X w 91 0 (ci := 5) (by decide) rfl rfl hi5 (by decide) (by decide +kernel) rfl dX5_frame_186 ?_
              refine lv_iload_n hx hb dX5_frame_189 rfl (lv_at hl 4 rfl) ?_
              refine lv_bipush (v := nI 49) hx hb dX5_frame_190 (by decide) ?_
              refine lv_iload_n hx hb dX5_frame_192 rfl (lv_at hl 1 rfl) ?_
              refine q_iaddN X dX5_frame_193 ?_
              refine q_calli w (q_runS X w (c_X5_at l k g0 q (49 + (tn (g0.2.1 92 (1 + 116 * q + 99))))) (va_cwS 2 hts gX5_frame_X5_at rfl rfl rfl (by decide +kernel) ⟨Nat.le_of_ble_eq_true rfl, Nat.le_of_ble_eq_true rfl⟩) rfl hl.1 rfl (Nat.le_of_ble_eq_true rfl) dX5_frame_194 ⟨Nat.le_of_ble_eq_true rfl, Nat.le_of_ble_eq_true rfl⟩) (fun r_194 h_194 H locs hp w => ?_)
              obtain ⟨er_194, eh_194⟩ := hp
              rw [eh_194] at w
              have er_194 : r_194 = nI (1 + 116 * q + (49 + (tn (g0.2.1 92 (1 + 116 * q + 99))))) := er_194
              subst er_194
              refine lv_dup2_11 hx hb dX5_frame_197 rfl rfl ?_
              refine q_lald X w 92 (1 + 116 * q + (49 + (tn (g0.2.1 92 (1 + 116 * q + 99))))) (by decide) (fun _ => rfl) rfl (show (1 + 116 * q + (49 + (tn (g0.2.1 92 (1 + 116 * q + 99))))) < 233 by omega) (by decide) dX5_frame_198 ?_
              refine lv_lconst (v := 1) hx hb dX5_frame_199 (by decide) ?_
              refine lv_lsub hx hb dX5_frame_200 ?_
              refine lv_topl (fun x_201 ex_201 => ?_)
              refine q_last X w 92 (1 + 116 * q + (49 + (tn (g0.2.1 92 (1 + 116 * q + 99))))) (by decide) (fun _ => rfl) rfl (show (1 + 116 * q + (49 + (tn (g0.2.1 92 (1 + 116 * q + 99))))) < 233 by omega) (by decide) dX5_frame_201 (fun H locs w => ?_)
              obtain ⟨h_201, eh_201⟩ : ∃ z9, z9 = upL g0 92 (1 + 116 * q + (49 + (tn (g0.2.1 92 (1 + 116 * q + 99))))) x_201 := ⟨_, rfl⟩
              rw [← eh_201] at w
              refine lv_aload_n hx hb dX5_frame_202 rfl (lv_at hl 3 rfl) ?_
              refine q_get X w 91 0 (ci := 5) (by decide) rfl rfl hi5 (by decide) (by decide +kernel) rfl dX5_frame_203 ?_
              refine lv_iload_n hx hb dX5_frame_206 rfl (lv_at hl 4 rfl) ?_
              refine lv_bipush (v := nI 49) hx hb dX5_frame_207 (by decide) ?_
              refine lv_iload hx hb dX5_frame_209 (lv_at hl 0 rfl) ?_
              refine q_iaddN X dX5_frame_211 ?_
              refine q_calli w (q_runS X w (c_X5_at l k h_201 q (49 + (tn (g0.2.1 92 (1 + 116 * q + 100))))) (va_cwS 2 hts gX5_frame_X5_at rfl rfl rfl (by decide +kernel) ⟨Nat.le_of_ble_eq_true rfl, Nat.le_of_ble_eq_true rfl⟩) rfl hl.1 rfl (Nat.le_of_ble_eq_true rfl) dX5_frame_212 ⟨Nat.le_of_ble_eq_true rfl, Nat.le_of_ble_eq_true rfl⟩) (fun r_212 h_212 H locs hp w => ?_)
              obtain ⟨er_212, eh_212⟩ := hp
              rw [eh_212] at w
              have er_212 : r_212 = nI (1 + 116 * q + (49 + (tn (g0.2.1 92 (1 + 116 * q + 100))))) := er_212
              subst er_212
              refine lv_dup2_11 hx hb dX5_frame_215 rfl rfl ?_
              refine q_lald X w 92 (1 + 116 * q + (49 + (tn (g0.2.1 92 (1 + 116 * q + 100))))) (by decide) (fun _ => rfl) rfl (show (1 + 116 * q + (49 + (tn (g0.2.1 92 (1 + 116 * q + 100))))) < 233 by omega) (by decide) dX5_frame_216 ?_
              refine lv_lconst (v := 1) hx hb dX5_frame_217 (by decide) ?_
              refine lv_ladd hx hb dX5_frame_218 ?_
              refine lv_topl (fun x_219 ex_219 => ?_)
              refine q_last X w 92 (1 + 116 * q + (49 + (tn (g0.2.1 92 (1 + 116 * q + 100))))) (by decide) (fun _ => rfl) rfl (show (1 + 116 * q + (49 + (tn (g0.2.1 92 (1 + 116 * q + 100))))) < 233 by omega) (by decide) dX5_frame_219 (fun H locs w => ?_)
              obtain ⟨h_219, eh_219⟩ : ∃ z9, z9 = upL h_201 92 (1 + 116 * q + (49 + (tn (g0.2.1 92 (1 + 116 * q + 100))))) x_219 := ⟨_, rfl⟩
              rw [← eh_219] at w
              refine lv_aload_n hx hb dX5_frame_220 rfl (lv_at hl 3 rfl) ?_
              refine lv_iload_n hx hb dX5_frame_221 rfl (lv_at hl 4 rfl) ?_
              refine lv_iload_n hx hb dX5_frame_222 rfl (lv_at hl 1 rfl) ?_
              refine q_callv w (q_runV X w 91 (c_X5_feed l k h_219 (q := q) (t := (tn (g0.2.1 92 (1 + 116 * q + 99)))) (by omega) (by omega)) (cwV 2 hts gX5_frame_X5_feed rfl rfl rfl (by decide +kernel) ⟨Nat.le_of_ble_eq_true rfl, Nat.le_of_ble_eq_true rfl⟩) (by decide) rfl rfl rfl hl.1 rfl (Nat.le_of_ble_eq_true rfl) dX5_frame_223 ⟨Nat.le_of_ble_eq_true rfl, Nat.le_of_ble_eq_true rfl⟩) (fun h_223 H locs hp w => ?_)
              have eh_223 := hp
              refine lv_aload_n hx hb dX5_frame_226 rfl (lv_at hl 3 rfl) ?_
              refine lv_iload_n hx hb dX5_frame_227 rfl (lv_at hl 4 rfl) ?_
              refine lv_iload hx hb dX5_frame_228 (lv_at hl 0 rfl) ?_
              refine q_callv w (q_runV X w 91 (c_X5_feed l k h_223 (q := q) (t := (tn (g0.2.1 92 (1 + 116 * q + 100)))) (by omega) (by omega)) (cwV 2 hts gX5_frame_X5_feed rfl rfl rfl (by decide +kernel) ⟨Nat.le_of_ble_eq_true rfl, Nat.le_of_ble_eq_true rfl⟩) (by decide) rfl rfl rfl hl.1 rfl (Nat.le_of_ble_eq_true rfl) dX5_frame_230 ⟨Nat.le_of_ble_eq_true rfl, Nat.le_of_ble_eq_true rfl⟩) (fun h_230 H locs hp w => ?_)
              have eh_230 := hp
              refine lv_aload_n hx hb dX5_frame_233 rfl (lv_at hl 3 rfl) ?_
              refine q_get X w 91 0 (ci := 5) (by decide) rfl rfl hi5 (by decide) (by decide +kernel) rfl dX5_frame_234 ?_
              refine lv_iload_n hx hb dX5_frame_237 rfl (lv_at hl 4 rfl) ?_
              refine lv_bipush (v := nI 97) hx hb dX5_frame_238 (by decide) ?_
              refine q_calli w (q_runS X w (c_X5_at l k h_230 q 97) (va_cwS 2 hts gX5_frame_X5_at rfl rfl rfl (by decide +kernel) ⟨Nat.le_of_ble_eq_true rfl, Nat.le_of_ble_eq_true rfl⟩) rfl hl.1 rfl (Nat.le_of_ble_eq_true rfl) dX5_frame_240 ⟨Nat.le_of_ble_eq_true rfl, Nat.le_of_ble_eq_true rfl⟩) (fun r_240 h_240 H locs hp w => ?_)
              obtain ⟨er_240, eh_240⟩ := hp
              rw [eh_240] at w
              have er_240 : r_240 = nI (1 + 116 * q + 97) := er_240
              subst er_240
              refine lv_lconst (v := 0) hx hb dX5_frame_243 (by decide) ?_
              refine q_last X w 92 (1 + 116 * q + 97) (by decide) (fun _ => rfl) rfl (show (1 + 116 * q + 97) < 233 by omega) (by decide) dX5_frame_244 (fun H locs w => ?_)
              obtain ⟨h_244, eh_244⟩ : ∃ z9, z9 = upL h_230 92 (1 + 116 * q + 97) 0 := ⟨_, rfl⟩
              rw [← eh_244] at w
              refine lv_aload_n hx hb dX5_frame_245 rfl (lv_at hl 3 rfl) ?_
              refine q_get X w 91 0 (ci := 5) (by decide) rfl rfl hi5 (by decide) (by decide +kernel) rfl dX5_frame_246 ?_
              refine lv_iload_n hx hb dX5_frame_249 rfl (lv_at hl 4 rfl) ?_
              refine lv_bipush (v := nI 101) hx hb dX5_frame_250 (by decide) ?_
              refine q_calli w (q_runS X w (c_X5_at l k h_244 q 101) (va_cwS 2 hts gX5_frame_X5_at rfl rfl rfl (by decide +kernel) ⟨Nat.le_of_ble_eq_true rfl, Nat.le_of_ble_eq_true rfl⟩) rfl hl.1 rfl (Nat.le_of_ble_eq_true rfl) dX5_frame_252 ⟨Nat.le_of_ble_eq_true rfl, Nat.le_of_ble_eq_true rfl⟩) (fun r_252 h_252 H locs hp w => ?_)
              obtain ⟨er_252, eh_252⟩ := hp
              rw [eh_252] at w
              have er_252 : r_252 = nI (1 + 116 * q + 101) := er_252
              subst er_252
              refine lv_ldc2 (v := (-1)) hx hb hown (hts (.constantLong RX5 94 (-1)) (by decide +kernel)) dX5_frame_255 ?_
              refine q_last X w 92 (1 + 116 * q + 101) (by decide) (fun _ => rfl) rfl (show (1 + 116 * q + 101) < 233 by omega) (by decide) dX5_frame_258 (fun H locs w => ?_)
              obtain ⟨h_258, eh_258⟩ : ∃ z9, z9 = upL h_244 92 (1 + 116 * q + 101) (-1) := ⟨_, rfl⟩
              rw [← eh_258] at w
              have e201 : h_201 = setL g0 92 (mm1 (g0.2.1 92) (1 + 116 * q + (49 + tn (g0.2.1 92 (1 + 116 * q + 99))))) := by rw [eh_201, ex_201, upL_set]; rfl
              have e219 : h_219 = setL g0 92 (mp1 (mm1 (g0.2.1 92) (1 + 116 * q + (49 + tn (g0.2.1 92 (1 + 116 * q + 99))))) (1 + 116 * q + (49 + tn (g0.2.1 92 (1 + 116 * q + 100))))) := by rw [eh_219, ex_219, e201, setL_s, setL_up]; rfl
              have e223 : h_223 = setL g0 92 (mfd (mp1 (mm1 (g0.2.1 92) (1 + 116 * q + (49 + tn (g0.2.1 92 (1 + 116 * q + 99))))) (1 + 116 * q + (49 + tn (g0.2.1 92 (1 + 116 * q + 100))))) q (tn (g0.2.1 92 (1 + 116 * q + 99)))) := by rw [eh_223, e219, setL_s, setL_setL]
              have e230 : h_230 = setL g0 92 (mfd (mfd (mp1 (mm1 (g0.2.1 92) (1 + 116 * q + (49 + tn (g0.2.1 92 (1 + 116 * q + 99))))) (1 + 116 * q + (49 + tn (g0.2.1 92 (1 + 116 * q + 100))))) q (tn (g0.2.1 92 (1 + 116 * q + 99)))) q (tn (g0.2.1 92 (1 + 116 * q + 100)))) := by rw [eh_230, e223, setL_s, setL_setL]
              have e258 : h_258 = setL g0 92 (mfB (g0.2.1 92) q) := by rw [eh_258, eh_244, e230, setL_up, setL_up, ← mfB_p c_105 c_123 c_144]; rfl
              exact hret _ _ _ _ _ _ _ dX5_frame_259 w (by rw [e258, hg, setL_s, setL_setL]) (Nat.le_of_ble_eq_true rfl) (Nat.le_of_ble_eq_true rfl)
    · obtain ⟨⟨et1, ht1⟩, et2, ht2⟩ := hA c_12
      refine lv_aload_n hx hb dX5_frame_37 rfl (lv_at hl 0 rfl) ?_
      refine q_get X w 91 0 (ci := 5) (by decide) rfl rfl hi5 (by decide) (by decide +kernel) rfl dX5_frame_38 ?_
      refine lv_iload_n hx hb dX5_frame_41 rfl (lv_at hl 1 rfl) ?_
      refine lv_bipush (v := nI 65) hx hb dX5_frame_42 (by decide) ?_
      refine q_calli w (q_runS X w (c_X5_at l k h q 65) (va_cwS 2 hts gX5_frame_X5_at rfl rfl rfl (by decide +kernel) ⟨Nat.le_of_ble_eq_true rfl, Nat.le_of_ble_eq_true rfl⟩) rfl hl.1 rfl (Nat.le_of_ble_eq_true rfl) dX5_frame_44 ⟨Nat.le_of_ble_eq_true rfl, Nat.le_of_ble_eq_true rfl⟩) (fun r_44 h_44 H locs hp w => ?_)
      obtain ⟨er_44, eh_44⟩ := hp
      rw [eh_44] at w
      have er_44 : r_44 = nI (1 + 116 * q + 65) := er_44
      subst er_44
      refine lv_aload_n hx hb dX5_frame_47 rfl (lv_at hl 0 rfl) ?_
      refine q_get X w 91 0 (ci := 5) (by decide) rfl rfl hi5 (by decide) (by decide +kernel) rfl dX5_frame_48 ?_
      refine lv_iload_n hx hb dX5_frame_51 rfl (lv_at hl 1 rfl) ?_
      refine lv_bipush (v := nI 105) hx hb dX5_frame_52 (by decide) ?_
      refine q_calli w (q_runS X w (c_X5_at l k h q 105) (va_cwS 2 hts gX5_frame_X5_at rfl rfl rfl (by decide +kernel) ⟨Nat.le_of_ble_eq_true rfl, Nat.le_of_ble_eq_true rfl⟩) rfl hl.1 rfl (Nat.le_of_ble_eq_true rfl) dX5_frame_54 ⟨Nat.le_of_ble_eq_true rfl, Nat.le_of_ble_eq_true rfl⟩) (fun r_54 h_54 H locs hp w => ?_)
      obtain ⟨er_54, eh_54⟩ := hp
      rw [eh_54] at w
      have er_54 : r_54 = nI (1 + 116 * q + 105) := er_54
      subst er_54
      refine q_lald X w 92 (1 + 116 * q + 105) (by decide) (fun _ => rfl) rfl (show (1 + 116 * q + 105) < 233 by omega) (by decide) dX5_frame_57 ?_
      refine lv_l2i hx hb dX5_frame_58 rfl ?_
      rw [et1]
      refine q_iaddN X dX5_frame_59 ?_
      refine lv_dup2_11 hx hb dX5_frame_60 rfl rfl ?_
      refine q_lald X w 92 ((1 + 116 * q + 65) + (tn (h.2.1 92 (1 + 116 * q + 105)))) (by decide) (fun _ => rfl) rfl (show ((1 + 116 * q + 65) + (tn (h.2.1 92 (1 + 116 * q + 105)))) < 233 by omega) (by decide) dX5_frame_61 ?_
      refine lv_lconst (v := 1) hx hb dX5_frame_62 (by decide) ?_
      refine lv_lsub hx hb dX5_frame_63 ?_
      refine lv_topl (fun x_64 ex_64 => ?_)
      refine q_last X w 92 ((1 + 116 * q + 65) + (tn (h.2.1 92 (1 + 116 * q + 105)))) (by decide) (fun _ => rfl) rfl (show ((1 + 116 * q + 65) + (tn (h.2.1 92 (1 + 116 * q + 105)))) < 233 by omega) (by decide) dX5_frame_64 (fun H locs w => ?_)
      obtain ⟨h_64, eh_64⟩ : ∃ z9, z9 = upL h 92 ((1 + 116 * q + 65) + (tn (h.2.1 92 (1 + 116 * q + 105)))) x_64 := ⟨_, rfl⟩
      rw [← eh_64] at w
      refine lv_aload_n hx hb dX5_frame_65 rfl (lv_at hl 0 rfl) ?_
      refine q_get X w 91 0 (ci := 5) (by decide) rfl rfl hi5 (by decide) (by decide +kernel) rfl dX5_frame_66 ?_
      refine lv_iload_n hx hb dX5_frame_69 rfl (lv_at hl 1 rfl) ?_
      refine lv_bipush (v := nI 65) hx hb dX5_frame_70 (by decide) ?_
      refine q_calli w (q_runS X w (c_X5_at l k h_64 q 65) (va_cwS 2 hts gX5_frame_X5_at rfl rfl rfl (by decide +kernel) ⟨Nat.le_of_ble_eq_true rfl, Nat.le_of_ble_eq_true rfl⟩) rfl hl.1 rfl (Nat.le_of_ble_eq_true rfl) dX5_frame_72 ⟨Nat.le_of_ble_eq_true rfl, Nat.le_of_ble_eq_true rfl⟩) (fun r_72 h_72 H locs hp w => ?_)
      obtain ⟨er_72, eh_72⟩ := hp
      rw [eh_72] at w
      have er_72 : r_72 = nI (1 + 116 * q + 65) := er_72
      subst er_72
      refine lv_aload_n hx hb dX5_frame_75 rfl (lv_at hl 0 rfl) ?_
      refine q_get X w 91 0 (ci := 5) (by decide) rfl rfl hi5 (by decide) (by decide +kernel) rfl dX5_frame_76 ?_
      refine lv_iload_n hx hb dX5_frame_79 rfl (lv_at hl 1 rfl) ?_
      refine lv_bipush (v := nI 106) hx hb dX5_frame_80 (by decide) ?_
      refine q_calli w (q_runS X w (c_X5_at l k h_64 q 106) (va_cwS 2 hts gX5_frame_X5_at rfl rfl rfl (by decide +kernel) ⟨Nat.le_of_ble_eq_true rfl, Nat.le_of_ble_eq_true rfl⟩) rfl hl.1 rfl (Nat.le_of_ble_eq_true rfl) dX5_frame_82 ⟨Nat.le_of_ble_eq_true rfl, Nat.le_of_ble_eq_true rfl⟩) (fun r_82 h_82 H locs hp w => ?_)
      obtain ⟨er_82, eh_82⟩ := hp
      rw [eh_82] at w
      have er_82 : r_82 = nI (1 + 116 * q + 106) := er_82
      subst er_82
      refine q_lald X w 92 (1 + 116 * q + 106) (by decide) (fun _ => rfl) rfl (show (1 + 116 * q + 106) < 233 by omega) (by decide) dX5_frame_85 ?_
      refine lv_l2i hx hb dX5_frame_86 rfl ?_
      have e85 : h_64.2.1 92 (1 + 116 * q + 106) = h.2.1 92 (1 + 116 * q + 106) := by rw [eh_64, upL_s, va_o9 _ _ (by omega)]
      rw [e85, et2]
      refine q_iaddN X dX5_frame_87 ?_
      refine lv_dup2_11 hx hb dX5_frame_88 rfl rfl ?_
      refine q_lald X w 92 ((1 + 116 * q + 65) + (tn (h.2.1 92 (1 + 116 * q + 106)))) (by decide) (fun _ => rfl) rfl (show ((1 + 116 * q + 65) + (tn (h.2.1 92 (1 + 116 * q + 106)))) < 233 by omega) (by decide) dX5_frame_89 ?_
      refine lv_lconst (v := 1) hx hb dX5_frame_90 (by decide) ?_
      refine lv_ladd hx hb dX5_frame_91 ?_
      refine lv_topl (fun x_92 ex_92 => ?_)
      refine q_last X w 92 ((1 + 116 * q + 65) + (tn (h.2.1 92 (1 + 116 * q + 106)))) (by decide) (fun _ => rfl) rfl (show ((1 + 116 * q + 65) + (tn (h.2.1 92 (1 + 116 * q + 106)))) < 233 by omega) (by decide) dX5_frame_92 (fun H locs w => ?_)
      obtain ⟨h_92, eh_92⟩ : ∃ z9, z9 = upL h_64 92 ((1 + 116 * q + 65) + (tn (h.2.1 92 (1 + 116 * q + 106)))) x_92 := ⟨_, rfl⟩
      rw [← eh_92] at w
      obtain ⟨g0, eg, hg⟩ : ∃ g0 : hS, h_92 = g0 ∧ g0 = setL h 92 (mfA (h.2.1 92) q) := ⟨h_92, rfl, by rw [eh_92, ex_92, eh_64, ex_64, upL_set h, setL_s, setL_up, ← mfA_p c_12 c_33]; rfl⟩
      rw [eg] at w
      have hB9 : g0.2.1 92 (1 + 116 * q + 97) = 1 → tnO (g0.2.1 92 (1 + 116 * q + 99)) ∧ tnO (g0.2.1 92 (1 + 116 * q + 100)) := by rw [hg, setL_s]; exact hB
      refine lv_aload_n hx hb dX5_frame_93 rfl (lv_at hl 0 rfl) ?_
      refine q_get X w 91 0 (ci := 5) (by decide) rfl rfl hi5 (by decide) (by decide +kernel) rfl dX5_frame_94 ?_
      refine lv_iload_n hx hb dX5_frame_97 rfl (lv_at hl 1 rfl) ?_
      refine lv_bipush (v := nI 97) hx hb dX5_frame_98 (by decide) ?_
      refine q_calli w (q_runS X w (c_X5_at l k g0 q 97) (va_cwS 2 hts gX5_frame_X5_at rfl rfl rfl (by decide +kernel) ⟨Nat.le_of_ble_eq_true rfl, Nat.le_of_ble_eq_true rfl⟩) rfl hl.1 rfl (Nat.le_of_ble_eq_true rfl) dX5_frame_100 ⟨Nat.le_of_ble_eq_true rfl, Nat.le_of_ble_eq_true rfl⟩) (fun r_100 h_100 H locs hp w => ?_)
      obtain ⟨er_100, eh_100⟩ := hp
      rw [eh_100] at w
      have er_100 : r_100 = nI (1 + 116 * q + 97) := er_100
      subst er_100
      refine q_lald X w 92 (1 + 116 * q + 97) (by decide) (fun _ => rfl) rfl (show (1 + 116 * q + 97) < 233 by omega) (by decide) dX5_frame_103 ?_
      refine lv_lconst (v := 1) hx hb dX5_frame_104 (by decide) ?_
      refine q_lif_ne X (tgt := 152) dX5_frame_105 dX5_frame_106 (by decide) (fun c_105 => ?_) (fun c_105 => ?_)
      · refine lv_iconst (v := nI 0) hx hb dX5_frame_152 (by decide) ?_
        refine lv_istore_n (lv' := [(2, .int (nI 0)), (0, .ref (k.2.1 91)), (1, .int (nI q))]) hx hb dX5_frame_153 rfl hl (by decide) rfl (fun ls hl => ?_)
        refine lv_iload_n hx hb dX5_frame_154 rfl (lv_at hl 0 rfl) ?_
        refine lv_if_eq (tgt := 259) hx hb dX5_frame_155 (by decide) (fun c_155 => ?_) (fun c_155 => ?_)
        · have e0 : mfB (g0.2.1 92) q = g0.2.1 92 := by first | exact mfB_1 c_105 | exact mfB_2 c_123 | exact mfB_3 c_144
          rw [hg, setL_s] at e0
          exact hret _ _ _ _ _ _ _ dX5_frame_259 w (by rw [e0]; exact hg) (Nat.le_of_ble_eq_true rfl) (Nat.le_of_ble_eq_true rfl)
        · exact absurd (by decide) c_155
      · refine lv_aload_n hx hb dX5_frame_109 rfl (lv_at hl 0 rfl) ?_
        refine q_get X w 91 0 (ci := 5) (by decide) rfl rfl hi5 (by decide) (by decide +kernel) rfl dX5_frame_110 ?_
        refine lv_iload_n hx hb dX5_frame_113 rfl (lv_at hl 1 rfl) ?_
        refine lv_bipush (v := nI 101) hx hb dX5_frame_114 (by decide) ?_
        refine q_calli w (q_runS X w (c_X5_at l k g0 q 101) (va_cwS 2 hts gX5_frame_X5_at rfl rfl rfl (by decide +kernel) ⟨Nat.le_of_ble_eq_true rfl, Nat.le_of_ble_eq_true rfl⟩) rfl hl.1 rfl (Nat.le_of_ble_eq_true rfl) dX5_frame_116 ⟨Nat.le_of_ble_eq_true rfl, Nat.le_of_ble_eq_true rfl⟩) (fun r_116 h_116 H locs hp w => ?_)
        obtain ⟨er_116, eh_116⟩ := hp
        rw [eh_116] at w
        have er_116 : r_116 = nI (1 + 116 * q + 101) := er_116
        subst er_116
        refine q_lald X w 92 (1 + 116 * q + 101) (by decide) (fun _ => rfl) rfl (show (1 + 116 * q + 101) < 233 by omega) (by decide) dX5_frame_119 ?_
        refine lv_ldc2 (v := (-1)) hx hb hown (hts (.constantLong RX5 94 (-1)) (by decide +kernel)) dX5_frame_120 ?_
        refine q_lif_eq X (tgt := 152) dX5_frame_123 dX5_frame_124 (by decide) (fun c_123 => ?_) (fun c_123 => ?_)
        · refine lv_iconst (v := nI 0) hx hb dX5_frame_152 (by decide) ?_
          refine lv_istore_n (lv' := [(2, .int (nI 0)), (0, .ref (k.2.1 91)), (1, .int (nI q))]) hx hb dX5_frame_153 rfl hl (by decide) rfl (fun ls hl => ?_)
          refine lv_iload_n hx hb dX5_frame_154 rfl (lv_at hl 0 rfl) ?_
          refine lv_if_eq (tgt := 259) hx hb dX5_frame_155 (by decide) (fun c_155 => ?_) (fun c_155 => ?_)
          · have e0 : mfB (g0.2.1 92) q = g0.2.1 92 := by first | exact mfB_1 c_105 | exact mfB_2 c_123 | exact mfB_3 c_144
            rw [hg, setL_s] at e0
            exact hret _ _ _ _ _ _ _ dX5_frame_259 w (by rw [e0]; exact hg) (Nat.le_of_ble_eq_true rfl) (Nat.le_of_ble_eq_true rfl)
          · exact absurd (by decide) c_155
        · refine lv_aload_n hx hb dX5_frame_127 rfl (lv_at hl 0 rfl) ?_
          refine q_get X w 91 0 (ci := 5) (by decide) rfl rfl hi5 (by decide) (by decide +kernel) rfl dX5_frame_128 ?_
          refine lv_iload_n hx hb dX5_frame_131 rfl (lv_at hl 1 rfl) ?_
          refine lv_bipush (v := nI 101) hx hb dX5_frame_132 (by decide) ?_
          refine q_calli w (q_runS X w (c_X5_at l k g0 q 101) (va_cwS 2 hts gX5_frame_X5_at rfl rfl rfl (by decide +kernel) ⟨Nat.le_of_ble_eq_true rfl, Nat.le_of_ble_eq_true rfl⟩) rfl hl.1 rfl (Nat.le_of_ble_eq_true rfl) dX5_frame_134 ⟨Nat.le_of_ble_eq_true rfl, Nat.le_of_ble_eq_true rfl⟩) (fun r_134 h_134 H locs hp w => ?_)
          obtain ⟨er_134, eh_134⟩ := hp
          rw [eh_134] at w
          have er_134 : r_134 = nI (1 + 116 * q + 101) := er_134
          subst er_134
          refine q_lald X w 92 (1 + 116 * q + 101) (by decide) (fun _ => rfl) rfl (show (1 + 116 * q + 101) < 233 by omega) (by decide) dX5_frame_137 ?_
          refine lv_aload_n hx hb dX5_frame_138 rfl (lv_at hl 0 rfl) ?_
          refine q_get X w 91 0 (ci := 5) (by decide) rfl rfl hi5 (by decide) (by decide +kernel) rfl dX5_frame_139 ?_
          refine lv_iconst (v := nI 0) hx hb dX5_frame_142 (by decide) ?_
          refine q_lald X w 92 0 (by decide) (fun _ => rfl) rfl (show 0 < 233 by omega) (by decide) dX5_frame_143 ?_
          refine q_lif_gt X (tgt := 152) dX5_frame_144 dX5_frame_145 (by decide) (fun c_144 => ?_) (fun c_144 => ?_)
          · refine lv_iconst (v := nI 0) hx hb dX5_frame_152 (by decide) ?_
            refine lv_istore_n (lv' := [(2, .int (nI 0)), (0, .ref (k.2.1 91)), (1, .int (nI q))]) hx hb dX5_frame_153 rfl hl (by decide) rfl (fun ls hl => ?_)
            refine lv_iload_n hx hb dX5_frame_154 rfl (lv_at hl 0 rfl) ?_
            refine lv_if_eq (tgt := 259) hx hb dX5_frame_155 (by decide) (fun c_155 => ?_) (fun c_155 => ?_)
            · have e0 : mfB (g0.2.1 92) q = g0.2.1 92 := by first | exact mfB_1 c_105 | exact mfB_2 c_123 | exact mfB_3 c_144
              rw [hg, setL_s] at e0
              exact hret _ _ _ _ _ _ _ dX5_frame_259 w (by rw [e0]; exact hg) (Nat.le_of_ble_eq_true rfl) (Nat.le_of_ble_eq_true rfl)
            · exact absurd (by decide) c_155
          · refine lv_iconst (v := nI 1) hx hb dX5_frame_148 (by decide) ?_
            refine lv_goto (tgt := 153) hx hb dX5_frame_149 (by decide) ?_
            refine lv_istore_n (lv' := [(2, .int (nI 1)), (0, .ref (k.2.1 91)), (1, .int (nI q))]) hx hb dX5_frame_153 rfl hl (by decide) rfl (fun ls hl => ?_)
            refine lv_iload_n hx hb dX5_frame_154 rfl (lv_at hl 0 rfl) ?_
            refine lv_if_eq (tgt := 259) hx hb dX5_frame_155 (by decide) (fun c_155 => ?_) (fun c_155 => ?_)
            · exact absurd c_155 (by decide)
            · obtain ⟨⟨et3, ht3⟩, et4, ht4⟩ := hB9 c_105
              refine lv_aload_n hx hb dX5_frame_158 rfl (lv_at hl 1 rfl) ?_
              refine q_get X w 91 0 (ci := 5) (by decide) rfl rfl hi5 (by decide) (by decide +kernel) rfl dX5_frame_159 ?_
              refine lv_iload_n hx hb dX5_frame_162 rfl (lv_at hl 2 rfl) ?_
              refine lv_bipush (v := nI 99) hx hb dX5_frame_163 (by decide) ?_
              refine q_calli w (q_runS X w (c_X5_at l k g0 q 99) (va_cwS 2 hts gX5_frame_X5_at rfl rfl rfl (by decide +kernel) ⟨Nat.le_of_ble_eq_true rfl, Nat.le_of_ble_eq_true rfl⟩) rfl hl.1 rfl (Nat.le_of_ble_eq_true rfl) dX5_frame_165 ⟨Nat.le_of_ble_eq_true rfl, Nat.le_of_ble_eq_true rfl⟩) (fun r_165 h_165 H locs hp w => ?_)
              obtain ⟨er_165, eh_165⟩ := hp
              rw [eh_165] at w
              have er_165 : r_165 = nI (1 + 116 * q + 99) := er_165
              subst er_165
              refine q_lald X w 92 (1 + 116 * q + 99) (by decide) (fun _ => rfl) rfl (show (1 + 116 * q + 99) < 233 by omega) (by decide) dX5_frame_168 ?_
              refine lv_l2i hx hb dX5_frame_169 rfl ?_
              rw [et3]
              refine lv_istore_n (lv' := [(3, .int (nI (tn (g0.2.1 92 (1 + 116 * q + 99))))), (2, .int (nI 1)), (0, .ref (k.2.1 91)), (1, .int (nI q))]) hx hb dX5_frame_170 rfl hl (by decide) rfl (fun ls hl => ?_)
              refine lv_aload_n hx hb dX5_frame_171 rfl (lv_at hl 2 rfl) ?_
              refine q_get X w 91 0 (ci := 5) (by decide) rfl rfl hi5 (by decide) (by decide +kernel) rfl dX5_frame_172 ?_
              refine lv_iload_n hx hb dX5_frame_175 rfl (lv_at hl 3 rfl) ?_
              refine lv_bipush (v := nI 100) hx hb dX5_frame_176 (by decide) ?_
              refine q_calli w (q_runS X w (c_X5_at l k g0 q 100) (va_cwS 2 hts gX5_frame_X5_at rfl rfl rfl (by decide +kernel) ⟨Nat.le_of_ble_eq_true rfl, Nat.le_of_ble_eq_true rfl⟩) rfl hl.1 rfl (Nat.le_of_ble_eq_true rfl) dX5_frame_178 ⟨Nat.le_of_ble_eq_true rfl, Nat.le_of_ble_eq_true rfl⟩) (fun r_178 h_178 H locs hp w => ?_)
              obtain ⟨er_178, eh_178⟩ := hp
              rw [eh_178] at w
              have er_178 : r_178 = nI (1 + 116 * q + 100) := er_178
              subst er_178
              refine q_lald X w 92 (1 + 116 * q + 100) (by decide) (fun _ => rfl) rfl (show (1 + 116 * q + 100) < 233 by omega) (by decide) dX5_frame_181 ?_
              refine lv_l2i hx hb dX5_frame_182 rfl ?_
              rw [et4]
              refine lv_istore (lv' := [(4, .int (nI (tn (g0.2.1 92 (1 + 116 * q + 100))))), (3, .int (nI (tn (g0.2.1 92 (1 + 116 * q + 99))))), (2, .int (nI 1)), (0, .ref (k.2.1 91)), (1, .int (nI q))]) hx hb dX5_frame_183 hl (by decide) rfl (fun ls hl => ?_)
              refine lv_aload_n hx hb dX5_frame_185 rfl (lv_at hl 3 rfl) ?_
              refine q_get X w 91 0 (ci := 5) (by decide) rfl rfl hi5 (by decide) (by decide +kernel) rfl dX5_frame_186 ?_
              refine lv_iload_n hx hb dX5_frame_189 rfl (lv_at hl 4 rfl) ?_
              refine lv_bipush (v := nI 49) hx hb dX5_frame_190 (by decide) ?_
              refine lv_iload_n hx hb dX5_frame_192 rfl (lv_at hl 1 rfl) ?_
              refine q_iaddN X dX5_frame_193 ?_
              refine q_calli w (q_runS X w (c_X5_at l k g0 q (49 + (tn (g0.2.1 92 (1 + 116 * q + 99))))) (va_cwS 2 hts gX5_frame_X5_at rfl rfl rfl (by decide +kernel) ⟨Nat.le_of_ble_eq_true rfl, Nat.le_of_ble_eq_true rfl⟩) rfl hl.1 rfl (Nat.le_of_ble_eq_true rfl) dX5_frame_194 ⟨Nat.le_of_ble_eq_true rfl, Nat.le_of_ble_eq_true rfl⟩) (fun r_194 h_194 H locs hp w => ?_)
              obtain ⟨er_194, eh_194⟩ := hp
              rw [eh_194] at w
              have er_194 : r_194 = nI (1 + 116 * q + (49 + (tn (g0.2.1 92 (1 + 116 * q + 99))))) := er_194
              subst er_194
              refine lv_dup2_11 hx hb dX5_frame_197 rfl rfl ?_
              refine q_lald X w 92 (1 + 116 * q + (49 + (tn (g0.2.1 92 (1 + 116 * q + 99))))) (by decide) (fun _ => rfl) rfl (show (1 + 116 * q + (49 + (tn (g0.2.1 92 (1 + 116 * q + 99))))) < 233 by omega) (by decide) dX5_frame_198 ?_
              refine lv_lconst (v := 1) hx hb dX5_frame_199 (by decide) ?_
              refine lv_lsub hx hb dX5_frame_200 ?_
              refine lv_topl (fun x_201 ex_201 => ?_)
              refine q_last X w 92 (1 + 116 * q + (49 + (tn (g0.2.1 92 (1 + 116 * q + 99))))) (by decide) (fun _ => rfl) rfl (show (1 + 116 * q + (49 + (tn (g0.2.1 92 (1 + 116 * q + 99))))) < 233 by omega) (by decide) dX5_frame_201 (fun H locs w => ?_)
              obtain ⟨h_201, eh_201⟩ : ∃ z9, z9 = upL g0 92 (1 + 116 * q + (49 + (tn (g0.2.1 92 (1 + 116 * q + 99))))) x_201 := ⟨_, rfl⟩
              rw [← eh_201] at w
              refine lv_aload_n hx hb dX5_frame_202 rfl (lv_at hl 3 rfl) ?_
              refine q_get X w 91 0 (ci := 5) (by decide) rfl rfl hi5 (by decide) (by decide +kernel) rfl dX5_frame_203 ?_
              refine lv_iload_n hx hb dX5_frame_206 rfl (lv_at hl 4 rfl) ?_
              refine lv_bipush (v := nI 49) hx hb dX5_frame_207 (by decide) ?_
              refine lv_iload hx hb dX5_frame_209 (lv_at hl 0 rfl) ?_
              refine q_iaddN X dX5_frame_211 ?_
              refine q_calli w (q_runS X w (c_X5_at l k h_201 q (49 + (tn (g0.2.1 92 (1 + 116 * q + 100))))) (va_cwS 2 hts gX5_frame_X5_at rfl rfl rfl (by decide +kernel) ⟨Nat.le_of_ble_eq_true rfl, Nat.le_of_ble_eq_true rfl⟩) rfl hl.1 rfl (Nat.le_of_ble_eq_true rfl) dX5_frame_212 ⟨Nat.le_of_ble_eq_true rfl, Nat.le_of_ble_eq_true rfl⟩) (fun r_212 h_212 H locs hp w => ?_)
              obtain ⟨er_212, eh_212⟩ := hp
              rw [eh_212] at w
              have er_212 : r_212 = nI (1 + 116 * q + (49 + (tn (g0.2.1 92 (1 + 116 * q + 100))))) := er_212
              subst er_212
              refine lv_dup2_11 hx hb dX5_frame_215 rfl rfl ?_
              refine q_lald X w 92 (1 + 116 * q + (49 + (tn (g0.2.1 92 (1 + 116 * q + 100))))) (by decide) (fun _ => rfl) rfl (show (1 + 116 * q + (49 + (tn (g0.2.1 92 (1 + 116 * q + 100))))) < 233 by omega) (by decide) dX5_frame_216 ?_
              refine lv_lconst (v := 1) hx hb dX5_frame_217 (by decide) ?_
              refine lv_ladd hx hb dX5_frame_218 ?_
              refine lv_topl (fun x_219 ex_219 => ?_)
              refine q_last X w 92 (1 + 116 * q + (49 + (tn (g0.2.1 92 (1 + 116 * q + 100))))) (by decide) (fun _ => rfl) rfl (show (1 + 116 * q + (49 + (tn (g0.2.1 92 (1 + 116 * q + 100))))) < 233 by omega) (by decide) dX5_frame_219 (fun H locs w => ?_)
              obtain ⟨h_219, eh_219⟩ : ∃ z9, z9 = upL h_201 92 (1 + 116 * q + (49 + (tn (g0.2.1 92 (1 + 116 * q + 100))))) x_219 := ⟨_, rfl⟩
              rw [← eh_219] at w
              refine lv_aload_n hx hb dX5_frame_220 rfl (lv_at hl 3 rfl) ?_
              refine lv_iload_n hx hb dX5_frame_221 rfl (lv_at hl 4 rfl) ?_
              refine lv_iload_n hx hb dX5_frame_222 rfl (lv_at hl 1 rfl) ?_
              refine q_callv w (q_runV X w 91 (c_X5_feed l k h_219 (q := q) (t := (tn (g0.2.1 92 (1 + 116 * q + 99)))) (by omega) (by omega)) (cwV 2 hts gX5_frame_X5_feed rfl rfl rfl (by decide +kernel) ⟨Nat.le_of_ble_eq_true rfl, Nat.le_of_ble_eq_true rfl⟩) (by decide) rfl rfl rfl hl.1 rfl (Nat.le_of_ble_eq_true rfl) dX5_frame_223 ⟨Nat.le_of_ble_eq_true rfl, Nat.le_of_ble_eq_true rfl⟩) (fun h_223 H locs hp w => ?_)
              have eh_223 := hp
              refine lv_aload_n hx hb dX5_frame_226 rfl (lv_at hl 3 rfl) ?_
              refine lv_iload_n hx hb dX5_frame_227 rfl (lv_at hl 4 rfl) ?_
              refine lv_iload hx hb dX5_frame_228 (lv_at hl 0 rfl) ?_
              refine q_callv w (q_runV X w 91 (c_X5_feed l k h_223 (q := q) (t := (tn (g0.2.1 92 (1 + 116 * q + 100)))) (by omega) (by omega)) (cwV 2 hts gX5_frame_X5_feed rfl rfl rfl (by decide +kernel) ⟨Nat.le_of_ble_eq_true rfl, Nat.le_of_ble_eq_true rfl⟩) (by decide) rfl rfl rfl hl.1 rfl (Nat.le_of_ble_eq_true rfl) dX5_frame_230 ⟨Nat.le_of_ble_eq_true rfl, Nat.le_of_ble_eq_true rfl⟩) (fun h_230 H locs hp w => ?_)
              have eh_230 := hp
              refine lv_aload_n hx hb dX5_frame_233 rfl (lv_at hl 3 rfl) ?_
              refine q_get X w 91 0 (ci := 5) (by decide) rfl rfl hi5 (by decide) (by decide +kernel) rfl dX5_frame_234 ?_
              refine lv_iload_n hx hb dX5_frame_237 rfl (lv_at hl 4 rfl) ?_
              refine lv_bipush (v := nI 97) hx hb dX5_frame_238 (by decide) ?_
              refine q_calli w (q_runS X w (c_X5_at l k h_230 q 97) (va_cwS 2 hts gX5_frame_X5_at rfl rfl rfl (by decide +kernel) ⟨Nat.le_of_ble_eq_true rfl, Nat.le_of_ble_eq_true rfl⟩) rfl hl.1 rfl (Nat.le_of_ble_eq_true rfl) dX5_frame_240 ⟨Nat.le_of_ble_eq_true rfl, Nat.le_of_ble_eq_true rfl⟩) (fun r_240 h_240 H locs hp w => ?_)
              obtain ⟨er_240, eh_240⟩ := hp
              rw [eh_240] at w
              have er_240 : r_240 = nI (1 + 116 * q + 97) := er_240
              subst er_240
              refine lv_lconst (v := 0) hx hb dX5_frame_243 (by decide) ?_
              refine q_last X w 92 (1 + 116 * q + 97) (by decide) (fun _ => rfl) rfl (show (1 + 116 * q + 97) < 233 by omega) (by decide) dX5_frame_244 (fun H locs w => ?_)
              obtain ⟨h_244, eh_244⟩ : ∃ z9, z9 = upL h_230 92 (1 + 116 * q + 97) 0 := ⟨_, rfl⟩
              rw [← eh_244] at w
              refine lv_aload_n hx hb dX5_frame_245 rfl (lv_at hl 3 rfl) ?_
              refine q_get X w 91 0 (ci := 5) (by decide) rfl rfl hi5 (by decide) (by decide +kernel) rfl dX5_frame_246 ?_
              refine lv_iload_n hx hb dX5_frame_249 rfl (lv_at hl 4 rfl) ?_
              refine lv_bipush (v := nI 101) hx hb dX5_frame_250 (by decide) ?_
              refine q_calli w (q_runS X w (c_X5_at l k h_244 q 101) (va_cwS 2 hts gX5_frame_X5_at rfl rfl rfl (by decide +kernel) ⟨Nat.le_of_ble_eq_true rfl, Nat.le_of_ble_eq_true rfl⟩) rfl hl.1 rfl (Nat.le_of_ble_eq_true rfl) dX5_frame_252 ⟨Nat.le_of_ble_eq_true rfl, Nat.le_of_ble_eq_true rfl⟩) (fun r_252 h_252 H locs hp w => ?_)
              obtain ⟨er_252, eh_252⟩ := hp
              rw [eh_252] at w
              have er_252 : r_252 = nI (1 + 116 * q + 101) := er_252
              subst er_252
              refine lv_ldc2 (v := (-1)) hx hb hown (hts (.constantLong RX5 94 (-1)) (by decide +kernel)) dX5_frame_255 ?_
              refine q_last X w 92 (1 + 116 * q + 101) (by decide) (fun _ => rfl) rfl (show (1 + 116 * q + 101) < 233 by omega) (by decide) dX5_frame_258 (fun H locs w => ?_)
              obtain ⟨h_258, eh_258⟩ : ∃ z9, z9 = upL h_244 92 (1 + 116 * q + 101) (-1) := ⟨_, rfl⟩
              rw [← eh_258] at w
              have e201 : h_201 = setL g0 92 (mm1 (g0.2.1 92) (1 + 116 * q + (49 + tn (g0.2.1 92 (1 + 116 * q + 99))))) := by rw [eh_201, ex_201, upL_set]; rfl
              have e219 : h_219 = setL g0 92 (mp1 (mm1 (g0.2.1 92) (1 + 116 * q + (49 + tn (g0.2.1 92 (1 + 116 * q + 99))))) (1 + 116 * q + (49 + tn (g0.2.1 92 (1 + 116 * q + 100))))) := by rw [eh_219, ex_219, e201, setL_s, setL_up]; rfl
              have e223 : h_223 = setL g0 92 (mfd (mp1 (mm1 (g0.2.1 92) (1 + 116 * q + (49 + tn (g0.2.1 92 (1 + 116 * q + 99))))) (1 + 116 * q + (49 + tn (g0.2.1 92 (1 + 116 * q + 100))))) q (tn (g0.2.1 92 (1 + 116 * q + 99)))) := by rw [eh_223, e219, setL_s, setL_setL]
              have e230 : h_230 = setL g0 92 (mfd (mfd (mp1 (mm1 (g0.2.1 92) (1 + 116 * q + (49 + tn (g0.2.1 92 (1 + 116 * q + 99))))) (1 + 116 * q + (49 + tn (g0.2.1 92 (1 + 116 * q + 100))))) q (tn (g0.2.1 92 (1 + 116 * q + 99)))) q (tn (g0.2.1 92 (1 + 116 * q + 100)))) := by rw [eh_230, e223, setL_s, setL_setL]
              have e258 : h_258 = setL g0 92 (mfB (g0.2.1 92) q) := by rw [eh_258, eh_244, e230, setL_up, setL_up, ← mfB_p c_105 c_123 c_144]; rfl
              exact hret _ _ _ _ _ _ _ dX5_frame_259 w (by rw [e258, hg, setL_s, setL_setL]) (Nat.le_of_ble_eq_true rfl) (Nat.le_of_ble_eq_true rfl)
