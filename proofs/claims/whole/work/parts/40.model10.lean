abbrev rc_X5_run : Room := { frames := 5, cells := 0, slots := 0, locals := 113 }
set_option maxHeartbeats 4000000 in
set_option maxRecDepth 100000 in
theorem c_X5_run (l : Launch) (k : kY) (h : hS) (x : Int32) {b : Nat} (hs0 : h.1 91 2 = nI b) (hs4 : b ≤ 4) (ok : mrO (h.2.1 92)) : CT l k yX5_run wsX5_run rc_X5_run [.ref (k.2.1 91), .int x] h (QI k (fun r h' => (∃ n : Nat, n ≤ 1000 ∧ x = nI n ∧ r = (mrn (h.2.1 92) n 0).toInt32 ∧ h' = setL (msv (upI h 91 3 (nI 0)) b) 92 (mrn (h.2.1 92) n)) ∨ (¬ (¬ x.toInt64 < 0 ∧ ¬ 1000 < x.toInt64) ∧ r = nI 0 ∧ h' = upI h 91 3 (nI 1)))) 0 0 := by
  refine q_metI (cc := cX5_run) (maxL := 3) (ret := some .int) (ty := .int) (by decide) rfl rfl (Nat.le_of_ble_eq_true rfl) ?_
  intro p e s m args below meth c Q ls X w hl hret
  have hx := X.1
  have hb := X.2.1
  have hown := X.2.2.2.1
  have hts := X.2.2.2.2
  have hl : lv_has ls 3 [(0, .ref (k.2.1 91)), (1, .int x)] := hl
  have hi5 : ∀ w ∈ u_ws RX5 TX5 6, w ∈ wsX5_run := by decide +kernel
  refine lv_aload_n hx hb dX5_run_0 rfl (lv_at hl 0 rfl) ?_
  refine lv_iload_n hx hb dX5_run_1 rfl (lv_at hl 1 rfl) ?_
  refine lv_i2l hx hb dX5_run_2 rfl ?_
  refine lv_lconst (v := 0) hx hb dX5_run_3 (by decide) ?_
  refine lv_ldc2 (v := 1000) hx hb hown (hts (.constantLong RX5 68 1000) (by decide +kernel)) dX5_run_4 ?_
  refine q_calli w (q_runS X w (c_X5_in l k h x.toInt64 0 1000) (va_cwS 3 hts gX5_run_X5_in rfl rfl rfl (by decide +kernel) ⟨Nat.le_of_ble_eq_true rfl, Nat.le_of_ble_eq_true rfl⟩) rfl hl.1 rfl (Nat.le_of_ble_eq_true rfl) dX5_run_7 ⟨Nat.le_of_ble_eq_true rfl, Nat.le_of_ble_eq_true rfl⟩) (fun r_7 h_7 H locs hp w => ?_)
  obtain ⟨hp, eh_7⟩ := hp
  rw [eh_7] at w
  rcases hp with ⟨hd_7, er_7⟩ | ⟨hd_7, er_7⟩
  · subst er_7
    obtain ⟨n, hn, ex_7⟩ := okR_nat (by decide) ((okR_in (a := 0) (b := 1000) (by decide) (by decide) rfl rfl).mp hd_7)
    subst ex_7
    refine lv_if_eq (tgt := 17) hx hb dX5_run_10 (by decide) (fun c_10 => ?_) (fun c_10 => ?_)
    · exact absurd c_10 (by decide)
    · refine lv_iconst (v := nI 0) hx hb dX5_run_13 (by decide) ?_
      refine lv_goto (tgt := 18) hx hb dX5_run_14 (by decide) ?_
      refine q_put X w 91 3 .int (ci := 5) (by decide) rfl rfl rfl hi5 tyX5_ok nmX5 (by decide) (by decide +kernel) rfl (by decide +kernel) (rfl) (rfl) (Nat.le_of_ble_eq_true rfl) dX5_run_18 (fun H locs w => ?_)
      obtain ⟨h_18, eh_18⟩ : ∃ z9, z9 = upI h 91 3 (nI 0) := ⟨_, rfl⟩
      rw [← eh_18] at w
      have kT : h_18.1 91 3 = nI 0 := by rw [eh_18, upI_s]; rfl
      refine lv_aload_n hx hb dX5_run_21 rfl (lv_at hl 0 rfl) ?_
      refine q_get X w 91 3 (ci := 5) (by decide) rfl rfl hi5 (by decide) (by decide +kernel) rfl dX5_run_22 ?_
      rw [kT]
      refine lv_if_le (tgt := 30) hx hb dX5_run_25 (by decide) (fun c_25 => ?_) (fun c_25 => ?_)
      · refine lv_aload_n hx hb dX5_run_30 rfl (lv_at hl 0 rfl) ?_
        refine q_callv w (q_runV X w 91 (c_X5_save l k h_18 (b := b) (by rw [eh_18, upI_s]; exact hs0) hs4) (cwV 0 hts gX5_run_X5_save rfl rfl rfl (by decide +kernel) ⟨Nat.le_of_ble_eq_true rfl, Nat.le_of_ble_eq_true rfl⟩) (by decide) rfl rfl rfl hl.1 rfl (Nat.le_of_ble_eq_true rfl) dX5_run_31 ⟨Nat.le_of_ble_eq_true rfl, Nat.le_of_ble_eq_true rfl⟩) (fun h_31 H locs hp w => ?_)
        have eh_31 := hp
        refine lv_iconst (v := nI 0) hx hb dX5_run_34 (by decide) ?_
        refine lv_istore_n (lv' := [(2, .int (nI 0)), (0, .ref (k.2.1 91)), (1, .int (nI n))]) hx hb dX5_run_35 rfl hl (by decide) rfl (fun ls hl => ?_)
        have lp : ∀ (fu : Nat) (i : Nat), (i ≤ n) → (n - i) < fu → ∀ (H : Heap) (locs : List Loc) (ls : Array Slot), WX k s H locs (setL h_31 92 (mrn (h.2.1 92) i)) → lv_has ls 3 [(0, .ref (k.2.1 91)), (1, .int (nI n)), (2, .int (nI i))] → W p l e rc_X5_run s m args below meth c H locs 0 0 Q (F0 m 36 ls []) := by
          intro fu
          induction fu with
          | zero => intro i _ hm; exact absurd hm (Nat.not_lt_zero _)
          | succ fu ih =>
            intro i hinv hm H locs ls w hl
            have hi := hinv
            refine lv_iload_n hx hb dX5_run_36 rfl (lv_at hl 2 rfl) ?_
            refine lv_iload_n hx hb dX5_run_37 rfl (lv_at hl 1 rfl) ?_
            refine q_icge X (tgt := 121) (by omega) (by omega) dX5_run_38 (by decide) (fun c_38 => ?_) (fun c_38 => ?_)
            · refine lv_aload_n hx hb dX5_run_121 rfl (lv_at hl 0 rfl) ?_
              refine q_get X w 91 0 (ci := 5) (by decide) rfl rfl hi5 (by decide) (by decide +kernel) rfl dX5_run_122 ?_
              refine lv_iconst (v := nI 0) hx hb dX5_run_125 (by decide) ?_
              refine q_lald X w 92 0 (by decide) (fun _ => rfl) rfl (show 0 < 233 by omega) (by decide) dX5_run_126 ?_
              refine lv_l2i hx hb dX5_run_127 rfl ?_
              exact hret _ _ _ _ _ _ _ _ dX5_run_128 w rfl (Or.inl ⟨n, hn, rfl, (by obtain rfl : i = n := (by omega); rw [setL_s]), (by obtain rfl : i = n := (by omega); rw [eh_31, eh_18])⟩) (Nat.le_of_ble_eq_true rfl) (Nat.le_of_ble_eq_true rfl)
            · refine lv_aload_n hx hb dX5_run_41 rfl (lv_at hl 0 rfl) ?_
              refine q_get X w 91 0 (ci := 5) (by decide) rfl rfl hi5 (by decide) (by decide +kernel) rfl dX5_run_42 ?_
              refine lv_iconst (v := nI 0) hx hb dX5_run_45 (by decide) ?_
              refine lv_dup2_11 hx hb dX5_run_46 rfl rfl ?_
              refine q_lald X w 92 0 (by decide) (fun _ => rfl) rfl (show 0 < 233 by omega) (by decide) dX5_run_47 ?_
              refine lv_lconst (v := 1) hx hb dX5_run_48 (by decide) ?_
              refine lv_ladd hx hb dX5_run_49 ?_
              refine lv_topl (fun x_50 ex_50 => ?_)
              refine q_last X w 92 0 (by decide) (fun _ => rfl) rfl (show 0 < 233 by omega) (by decide) dX5_run_50 (fun H locs w => ?_)
              obtain ⟨h_50, eh_50⟩ : ∃ z9, z9 = upL (setL h_31 92 (mrn (h.2.1 92) i)) 92 0 x_50 := ⟨_, rfl⟩
              rw [← eh_50] at w
              have e50 : h_50 = setL h_31 92 (mr0 (mrn (h.2.1 92) i)) := by rw [eh_50, ex_50, setL_s, setL_up]; rfl
              have ok9 := ok i (by omega)
              refine lv_aload_n hx hb dX5_run_51 rfl (lv_at hl 0 rfl) ?_
              refine lv_iconst (v := nI 0) hx hb dX5_run_52 (by decide) ?_
              refine q_callv w (q_runV X w 91 (c_X5_frame l k h_50 (q := 0) (by omega) (by rw [e50, setL_s]; exact ok9.1.1) (by rw [e50, setL_s]; exact ok9.1.2)) (cwV 1 hts gX5_run_X5_frame rfl rfl rfl (by decide +kernel) ⟨Nat.le_of_ble_eq_true rfl, Nat.le_of_ble_eq_true rfl⟩) (by decide) rfl rfl rfl hl.1 rfl (Nat.le_of_ble_eq_true rfl) dX5_run_53 ⟨Nat.le_of_ble_eq_true rfl, Nat.le_of_ble_eq_true rfl⟩) (fun h_53 H locs hp w => ?_)
              have eh_53 := hp
              have e53 : h_53 = setL h_31 92 (mfr (mr0 (mrn (h.2.1 92) i)) 0) := by rw [eh_53, e50, setL_s, setL_setL]; rfl
              refine lv_aload_n hx hb dX5_run_56 rfl (lv_at hl 0 rfl) ?_
              refine lv_iconst (v := nI 1) hx hb dX5_run_57 (by decide) ?_
              refine q_callv w (q_runV X w 91 (c_X5_frame l k h_53 (q := 1) (by omega) (by rw [e53, setL_s]; exact ok9.2.1) (by rw [e53, setL_s]; exact ok9.2.2)) (cwV 1 hts gX5_run_X5_frame rfl rfl rfl (by decide +kernel) ⟨Nat.le_of_ble_eq_true rfl, Nat.le_of_ble_eq_true rfl⟩) (by decide) rfl rfl rfl hl.1 rfl (Nat.le_of_ble_eq_true rfl) dX5_run_58 ⟨Nat.le_of_ble_eq_true rfl, Nat.le_of_ble_eq_true rfl⟩) (fun h_58 H locs hp w => ?_)
              have eh_58 := hp
              have e58 : h_58 = setL h_31 92 (mfr (mfr (mr0 (mrn (h.2.1 92) i)) 0) 1) := by rw [eh_58, e53, setL_s, setL_setL]; rfl
              refine lv_aload_n hx hb dX5_run_61 rfl (lv_at hl 0 rfl) ?_
              refine q_get X w 91 0 (ci := 5) (by decide) rfl rfl hi5 (by decide) (by decide +kernel) rfl dX5_run_62 ?_
              refine lv_iconst (v := nI 0) hx hb dX5_run_65 (by decide) ?_
              refine lv_bipush (v := nI 115) hx hb dX5_run_66 (by decide) ?_
              refine q_calli w (q_runS X w (c_X5_at l k h_58 0 115) (va_cwS 2 hts gX5_run_X5_at rfl rfl rfl (by decide +kernel) ⟨Nat.le_of_ble_eq_true rfl, Nat.le_of_ble_eq_true rfl⟩) rfl hl.1 rfl (Nat.le_of_ble_eq_true rfl) dX5_run_68 ⟨Nat.le_of_ble_eq_true rfl, Nat.le_of_ble_eq_true rfl⟩) (fun r_68 h_68 H locs hp w => ?_)
              obtain ⟨er_68, eh_68⟩ := hp
              rw [eh_68] at w
              have er_68 : r_68 = nI (1 + 116 * 0 + 115) := er_68
              subst er_68
              refine lv_dup2_11 hx hb dX5_run_71 rfl rfl ?_
              refine q_lald X w 92 (1 + 116 * 0 + 115) (by decide) (fun _ => rfl) rfl (show (1 + 116 * 0 + 115) < 233 by omega) (by decide) dX5_run_72 ?_
              refine lv_aload_n hx hb dX5_run_73 rfl (lv_at hl 0 rfl) ?_
              refine lv_iconst (v := nI 0) hx hb dX5_run_74 (by decide) ?_
              refine q_calli w (q_runV X w 91 (c_X5_inStepNow l k h_58 (q := 0) (by omega)) (cwV 1 hts gX5_run_X5_inStepNow rfl rfl rfl (by decide +kernel) ⟨Nat.le_of_ble_eq_true rfl, Nat.le_of_ble_eq_true rfl⟩) (by decide) rfl rfl rfl hl.1 rfl (Nat.le_of_ble_eq_true rfl) dX5_run_75 ⟨Nat.le_of_ble_eq_true rfl, Nat.le_of_ble_eq_true rfl⟩) (fun r_75 h_75 H locs hp w => ?_)
              obtain ⟨er_75, eh_75⟩ := hp
              rw [eh_75] at w
              have er_75 : r_75 = bI (mis (h_58.2.1 92) 0 16) := er_75
              rcases hf_75 : mis (h_58.2.1 92) 0 16 with _ | _
              · rw [hf_75] at er_75
                have er_75 : r_75 = nI 0 := er_75
                subst er_75
                refine lv_if_eq (tgt := 85) hx hb dX5_run_78 (by decide) (fun c_78 => ?_) (fun c_78 => ?_)
                · refine lv_lconst (v := 1) hx hb dX5_run_85 (by decide) ?_
                  refine lv_ladd hx hb dX5_run_86 ?_
                  refine lv_topl (fun x_87 ex_87 => ?_)
                  refine q_last X w 92 (1 + 116 * 0 + 115) (by decide) (fun _ => rfl) rfl (show (1 + 116 * 0 + 115) < 233 by omega) (by decide) dX5_run_87 (fun H locs w => ?_)
                  obtain ⟨h_87, eh_87⟩ : ∃ z9, z9 = upL h_58 92 (1 + 116 * 0 + 115) x_87 := ⟨_, rfl⟩
                  rw [← eh_87] at w
                  have e87 : h_87 = setL h_31 92 (mbr (mfr (mfr (mr0 (mrn (h.2.1 92) i)) 0) 1) 0) := by rw [e58, setL_s] at hf_75; first | (rw [eh_87, ex_87, e58, setL_s, setL_up]; exact congrArg _ (mbr_t hf_75)) | (rw [eh_87, ex_87, e58, setL_s, setL_up]; exact congrArg _ (mbr_f hf_75))
                  refine lv_aload_n hx hb dX5_run_88 rfl (lv_at hl 0 rfl) ?_
                  refine q_get X w 91 0 (ci := 5) (by decide) rfl rfl hi5 (by decide) (by decide +kernel) rfl dX5_run_89 ?_
                  refine lv_iconst (v := nI 1) hx hb dX5_run_92 (by decide) ?_
                  refine lv_bipush (v := nI 115) hx hb dX5_run_93 (by decide) ?_
                  refine q_calli w (q_runS X w (c_X5_at l k h_87 1 115) (va_cwS 2 hts gX5_run_X5_at rfl rfl rfl (by decide +kernel) ⟨Nat.le_of_ble_eq_true rfl, Nat.le_of_ble_eq_true rfl⟩) rfl hl.1 rfl (Nat.le_of_ble_eq_true rfl) dX5_run_95 ⟨Nat.le_of_ble_eq_true rfl, Nat.le_of_ble_eq_true rfl⟩) (fun r_95 h_95 H locs hp w => ?_)
                  obtain ⟨er_95, eh_95⟩ := hp
                  rw [eh_95] at w
                  have er_95 : r_95 = nI (1 + 116 * 1 + 115) := er_95
                  subst er_95
                  refine lv_dup2_11 hx hb dX5_run_98 rfl rfl ?_
                  refine q_lald X w 92 (1 + 116 * 1 + 115) (by decide) (fun _ => rfl) rfl (show (1 + 116 * 1 + 115) < 233 by omega) (by decide) dX5_run_99 ?_
                  refine lv_aload_n hx hb dX5_run_100 rfl (lv_at hl 0 rfl) ?_
                  refine lv_iconst (v := nI 1) hx hb dX5_run_101 (by decide) ?_
                  refine q_calli w (q_runV X w 91 (c_X5_inStepNow l k h_87 (q := 1) (by omega)) (cwV 1 hts gX5_run_X5_inStepNow rfl rfl rfl (by decide +kernel) ⟨Nat.le_of_ble_eq_true rfl, Nat.le_of_ble_eq_true rfl⟩) (by decide) rfl rfl rfl hl.1 rfl (Nat.le_of_ble_eq_true rfl) dX5_run_102 ⟨Nat.le_of_ble_eq_true rfl, Nat.le_of_ble_eq_true rfl⟩) (fun r_102 h_102 H locs hp w => ?_)
                  obtain ⟨er_102, eh_102⟩ := hp
                  rw [eh_102] at w
                  have er_102 : r_102 = bI (mis (h_87.2.1 92) 1 16) := er_102
                  rcases hf_102 : mis (h_87.2.1 92) 1 16 with _ | _
                  · rw [hf_102] at er_102
                    have er_102 : r_102 = nI 0 := er_102
                    subst er_102
                    refine lv_if_eq (tgt := 112) hx hb dX5_run_105 (by decide) (fun c_105 => ?_) (fun c_105 => ?_)
                    · refine lv_lconst (v := 1) hx hb dX5_run_112 (by decide) ?_
                      refine lv_ladd hx hb dX5_run_113 ?_
                      refine lv_topl (fun x_114 ex_114 => ?_)
                      refine q_last X w 92 (1 + 116 * 1 + 115) (by decide) (fun _ => rfl) rfl (show (1 + 116 * 1 + 115) < 233 by omega) (by decide) dX5_run_114 (fun H locs w => ?_)
                      obtain ⟨h_114, eh_114⟩ : ∃ z9, z9 = upL h_87 92 (1 + 116 * 1 + 115) x_114 := ⟨_, rfl⟩
                      rw [← eh_114] at w
                      have e114 : h_114 = setL h_31 92 (mbr (mbr (mfr (mfr (mr0 (mrn (h.2.1 92) i)) 0) 1) 0) 1) := by rw [e87, setL_s] at hf_102; first | (rw [eh_114, ex_114, e87, setL_s, setL_up]; exact congrArg _ (mbr_t hf_102)) | (rw [eh_114, ex_114, e87, setL_s, setL_up]; exact congrArg _ (mbr_f hf_102))
                      refine lv_iinc (v := nI (i + 1)) (lv' := [(2, .int (nI (i + 1))), (0, .ref (k.2.1 91)), (1, .int (nI n))]) hx hb dX5_run_115 hl (k := 2) rfl (nI_1 _) (by decide) rfl (fun ls hl => ?_)
                      refine lv_goto (tgt := 36) hx hb dX5_run_118 (by decide) ?_
                      rw [e114] at w
                      exact ih (i + 1) (by omega) (by omega) _ _ _ w (lv_sub hl [1, 2, 0] rfl)
                    · exact absurd (by decide) c_105
                  · rw [hf_102] at er_102
                    have er_102 : r_102 = nI 1 := er_102
                    subst er_102
                    refine lv_if_eq (tgt := 112) hx hb dX5_run_105 (by decide) (fun c_105 => ?_) (fun c_105 => ?_)
                    · exact absurd c_105 (by decide)
                    · refine lv_lconst (v := 0) hx hb dX5_run_108 (by decide) ?_
                      refine lv_goto (tgt := 113) hx hb dX5_run_109 (by decide) ?_
                      refine lv_ladd hx hb dX5_run_113 ?_
                      refine lv_topl (fun x_114 ex_114 => ?_)
                      refine q_last X w 92 (1 + 116 * 1 + 115) (by decide) (fun _ => rfl) rfl (show (1 + 116 * 1 + 115) < 233 by omega) (by decide) dX5_run_114 (fun H locs w => ?_)
                      obtain ⟨h_114, eh_114⟩ : ∃ z9, z9 = upL h_87 92 (1 + 116 * 1 + 115) x_114 := ⟨_, rfl⟩
                      rw [← eh_114] at w
                      have e114 : h_114 = setL h_31 92 (mbr (mbr (mfr (mfr (mr0 (mrn (h.2.1 92) i)) 0) 1) 0) 1) := by rw [e87, setL_s] at hf_102; first | (rw [eh_114, ex_114, e87, setL_s, setL_up]; exact congrArg _ (mbr_t hf_102)) | (rw [eh_114, ex_114, e87, setL_s, setL_up]; exact congrArg _ (mbr_f hf_102))
                      refine lv_iinc (v := nI (i + 1)) (lv' := [(2, .int (nI (i + 1))), (0, .ref (k.2.1 91)), (1, .int (nI n))]) hx hb dX5_run_115 hl (k := 2) rfl (nI_1 _) (by decide) rfl (fun ls hl => ?_)
                      refine lv_goto (tgt := 36) hx hb dX5_run_118 (by decide) ?_
                      rw [e114] at w
                      exact ih (i + 1) (by omega) (by omega) _ _ _ w (lv_sub hl [1, 2, 0] rfl)
                · exact absurd (by decide) c_78
              · rw [hf_75] at er_75
                have er_75 : r_75 = nI 1 := er_75
                subst er_75
                refine lv_if_eq (tgt := 85) hx hb dX5_run_78 (by decide) (fun c_78 => ?_) (fun c_78 => ?_)
                · exact absurd c_78 (by decide)
                · refine lv_lconst (v := 0) hx hb dX5_run_81 (by decide) ?_
                  refine lv_goto (tgt := 86) hx hb dX5_run_82 (by decide) ?_
                  refine lv_ladd hx hb dX5_run_86 ?_
                  refine lv_topl (fun x_87 ex_87 => ?_)
                  refine q_last X w 92 (1 + 116 * 0 + 115) (by decide) (fun _ => rfl) rfl (show (1 + 116 * 0 + 115) < 233 by omega) (by decide) dX5_run_87 (fun H locs w => ?_)
                  obtain ⟨h_87, eh_87⟩ : ∃ z9, z9 = upL h_58 92 (1 + 116 * 0 + 115) x_87 := ⟨_, rfl⟩
                  rw [← eh_87] at w
                  have e87 : h_87 = setL h_31 92 (mbr (mfr (mfr (mr0 (mrn (h.2.1 92) i)) 0) 1) 0) := by rw [e58, setL_s] at hf_75; first | (rw [eh_87, ex_87, e58, setL_s, setL_up]; exact congrArg _ (mbr_t hf_75)) | (rw [eh_87, ex_87, e58, setL_s, setL_up]; exact congrArg _ (mbr_f hf_75))
                  refine lv_aload_n hx hb dX5_run_88 rfl (lv_at hl 0 rfl) ?_
                  refine q_get X w 91 0 (ci := 5) (by decide) rfl rfl hi5 (by decide) (by decide +kernel) rfl dX5_run_89 ?_
                  refine lv_iconst (v := nI 1) hx hb dX5_run_92 (by decide) ?_
                  refine lv_bipush (v := nI 115) hx hb dX5_run_93 (by decide) ?_
                  refine q_calli w (q_runS X w (c_X5_at l k h_87 1 115) (va_cwS 2 hts gX5_run_X5_at rfl rfl rfl (by decide +kernel) ⟨Nat.le_of_ble_eq_true rfl, Nat.le_of_ble_eq_true rfl⟩) rfl hl.1 rfl (Nat.le_of_ble_eq_true rfl) dX5_run_95 ⟨Nat.le_of_ble_eq_true rfl, Nat.le_of_ble_eq_true rfl⟩) (fun r_95 h_95 H locs hp w => ?_)
                  obtain ⟨er_95, eh_95⟩ := hp
                  rw [eh_95] at w
                  have er_95 : r_95 = nI (1 + 116 * 1 + 115) := er_95
                  subst er_95
                  refine lv_dup2_11 hx hb dX5_run_98 rfl rfl ?_
                  refine q_lald X w 92 (1 + 116 * 1 + 115) (by decide) (fun _ => rfl) rfl (show (1 + 116 * 1 + 115) < 233 by omega) (by decide) dX5_run_99 ?_
                  refine lv_aload_n hx hb dX5_run_100 rfl (lv_at hl 0 rfl) ?_
                  refine lv_iconst (v := nI 1) hx hb dX5_run_101 (by decide) ?_
                  refine q_calli w (q_runV X w 91 (c_X5_inStepNow l k h_87 (q := 1) (by omega)) (cwV 1 hts gX5_run_X5_inStepNow rfl rfl rfl (by decide +kernel) ⟨Nat.le_of_ble_eq_true rfl, Nat.le_of_ble_eq_true rfl⟩) (by decide) rfl rfl rfl hl.1 rfl (Nat.le_of_ble_eq_true rfl) dX5_run_102 ⟨Nat.le_of_ble_eq_true rfl, Nat.le_of_ble_eq_true rfl⟩) (fun r_102 h_102 H locs hp w => ?_)
                  obtain ⟨er_102, eh_102⟩ := hp
                  rw [eh_102] at w
                  have er_102 : r_102 = bI (mis (h_87.2.1 92) 1 16) := er_102
                  rcases hf_102 : mis (h_87.2.1 92) 1 16 with _ | _
                  · rw [hf_102] at er_102
                    have er_102 : r_102 = nI 0 := er_102
                    subst er_102
                    refine lv_if_eq (tgt := 112) hx hb dX5_run_105 (by decide) (fun c_105 => ?_) (fun c_105 => ?_)
                    · refine lv_lconst (v := 1) hx hb dX5_run_112 (by decide) ?_
                      refine lv_ladd hx hb dX5_run_113 ?_
                      refine lv_topl (fun x_114 ex_114 => ?_)
                      refine q_last X w 92 (1 + 116 * 1 + 115) (by decide) (fun _ => rfl) rfl (show (1 + 116 * 1 + 115) < 233 by omega) (by decide) dX5_run_114 (fun H locs w => ?_)
                      obtain ⟨h_114, eh_114⟩ : ∃ z9, z9 = upL h_87 92 (1 + 116 * 1 + 115) x_114 := ⟨_, rfl⟩
                      rw [← eh_114] at w
                      have e114 : h_114 = setL h_31 92 (mbr (mbr (mfr (mfr (mr0 (mrn (h.2.1 92) i)) 0) 1) 0) 1) := by rw [e87, setL_s] at hf_102; first | (rw [eh_114, ex_114, e87, setL_s, setL_up]; exact congrArg _ (mbr_t hf_102)) | (rw [eh_114, ex_114, e87, setL_s, setL_up]; exact congrArg _ (mbr_f hf_102))
                      refine lv_iinc (v := nI (i + 1)) (lv' := [(2, .int (nI (i + 1))), (0, .ref (k.2.1 91)), (1, .int (nI n))]) hx hb dX5_run_115 hl (k := 2) rfl (nI_1 _) (by decide) rfl (fun ls hl => ?_)
                      refine lv_goto (tgt := 36) hx hb dX5_run_118 (by decide) ?_
                      rw [e114] at w
                      exact ih (i + 1) (by omega) (by omega) _ _ _ w (lv_sub hl [1, 2, 0] rfl)
                    · exact absurd (by decide) c_105
                  · rw [hf_102] at er_102
                    have er_102 : r_102 = nI 1 := er_102
                    subst er_102
                    refine lv_if_eq (tgt := 112) hx hb dX5_run_105 (by decide) (fun c_105 => ?_) (fun c_105 => ?_)
                    · exact absurd c_105 (by decide)
                    · refine lv_lconst (v := 0) hx hb dX5_run_108 (by decide) ?_
                      refine lv_goto (tgt := 113) hx hb dX5_run_109 (by decide) ?_
                      refine lv_ladd hx hb dX5_run_113 ?_
                      refine lv_topl (fun x_114 ex_114 => ?_)
                      refine q_last X w 92 (1 + 116 * 1 + 115) (by decide) (fun _ => rfl) rfl (show (1 + 116 * 1 + 115) < 233 by omega) (by decide) dX5_run_114 (fun H locs w => ?_)
                      obtain ⟨h_114, eh_114⟩ : ∃ z9, z9 = upL h_87 92 (1 + 116 * 1 + 115) x_114 := ⟨_, rfl⟩
                      rw [← eh_114] at w
                      have e114 : h_114 = setL h_31 92 (mbr (mbr (mfr (mfr (mr0 (mrn (h.2.1 92) i)) 0) 1) 0) 1) := by rw [e87, setL_s] at hf_102; first | (rw [eh_114, ex_114, e87, setL_s, setL_up]; exact congrArg _ (mbr_t hf_102)) | (rw [eh_114, ex_114, e87, setL_s, setL_up]; exact congrArg _ (mbr_f hf_102))
                      refine lv_iinc (v := nI (i + 1)) (lv' := [(2, .int (nI (i + 1))), (0, .ref (k.2.1 91)), (1, .int (nI n))]) hx hb dX5_run_115 hl (k := 2) rfl (nI_1 _) (by decide) rfl (fun ls hl => ?_)
                      refine lv_goto (tgt := 36) hx hb dX5_run_118 (by decide) ?_
                      rw [e114] at w
                      exact ih (i + 1) (by omega) (by omega) _ _ _ w (lv_sub hl [1, 2, 0] rfl)
        have e92 : h_31.2.1 92 = h.2.1 92 := by rw [eh_31, msv_92, eh_18]; rfl
        rw [show h_31 = setL h_31 92 (mrn (h.2.1 92) 0) from (by show h_31 = setL h_31 92 (h.2.1 92); rw [← e92, setL_self])] at w
        exact lp (n + 1) 0 (by omega) (by omega) _ _ _ w (lv_sub hl [1, 2, 0] rfl)
      · exact absurd (by decide) c_25
  · subst er_7
    refine lv_if_eq (tgt := 17) hx hb dX5_run_10 (by decide) (fun c_10 => ?_) (fun c_10 => ?_)
    · refine lv_iconst (v := nI 1) hx hb dX5_run_17 (by decide) ?_
      refine q_put X w 91 3 .int (ci := 5) (by decide) rfl rfl rfl hi5 tyX5_ok nmX5 (by decide) (by decide +kernel) rfl (by decide +kernel) (rfl) (rfl) (Nat.le_of_ble_eq_true rfl) dX5_run_18 (fun H locs w => ?_)
      obtain ⟨h_18, eh_18⟩ : ∃ z9, z9 = upI h 91 3 (nI 1) := ⟨_, rfl⟩
      rw [← eh_18] at w
      have kT : h_18.1 91 3 = nI 1 := by rw [eh_18, upI_s]; rfl
      refine lv_aload_n hx hb dX5_run_21 rfl (lv_at hl 0 rfl) ?_
      refine q_get X w 91 3 (ci := 5) (by decide) rfl rfl hi5 (by decide) (by decide +kernel) rfl dX5_run_22 ?_
      rw [kT]
      refine lv_if_le (tgt := 30) hx hb dX5_run_25 (by decide) (fun c_25 => ?_) (fun c_25 => ?_)
      · exact absurd c_25 (by decide)
      · refine lv_iconst (v := nI 0) hx hb dX5_run_28 (by decide) ?_
        exact hret _ _ _ _ _ _ _ _ dX5_run_29 w rfl (Or.inr ⟨hd_7, rfl, eh_18⟩) (Nat.le_of_ble_eq_true rfl) (Nat.le_of_ble_eq_true rfl)
    · exact absurd (by decide) c_10
