abbrev rc_X5_isSame : Room := { frames := 1, cells := 0, slots := 0, locals := 21 }
set_option maxHeartbeats 4000000 in
set_option maxRecDepth 100000 in
theorem c_X5_isSame (l : Launch) (k : kY) (h : hS)  : CT l k yX5_isSame wsX5_isSame rc_X5_isSame [.ref (k.2.1 91)] h (QI k (fun r h' => r = bI (mss (h.2.1 94) (h.2.1 92) 64) ∧ h' = setL h 94 (pfz (mnow (h.2.1 92)) (h.2.1 94) 64))) 0 0 := by
  refine q_metI (cc := cX5_isSame) (maxL := 6) (ret := some .boolean) (ty := .boolean) (by decide) rfl rfl (Nat.le_of_ble_eq_true rfl) ?_
  intro p e s m args below meth c Q ls X w hl hret
  have hx := X.1
  have hb := X.2.1
  have hown := X.2.2.2.1
  have hts := X.2.2.2.2
  have hl : lv_has ls 6 [(0, .ref (k.2.1 91))] := hl
  have hi5 : ∀ w ∈ u_ws RX5 TX5 6, w ∈ wsX5_isSame := by decide +kernel
  refine lv_iconst (v := nI 1) hx hb dX5_isSame_0 (by decide) ?_
  refine lv_istore_n (lv' := [(1, .int (nI 1)), (0, .ref (k.2.1 91))]) hx hb dX5_isSame_1 rfl hl (by decide) rfl (fun ls hl => ?_)
  refine lv_iconst (v := nI 0) hx hb dX5_isSame_2 (by decide) ?_
  refine lv_istore_n (lv' := [(2, .int (nI 0)), (1, .int (nI 1)), (0, .ref (k.2.1 91))]) hx hb dX5_isSame_3 rfl hl (by decide) rfl (fun ls hl => ?_)
  have lp : ∀ (fu : Nat) (i : Nat) (u : Int32), (i ≤ 64 ∧ u = bI (mss (h.2.1 94) (h.2.1 92) i)) → (64 - i) < fu → ∀ (H : Heap) (locs : List Loc) (ls : Array Slot), WX k s H locs (setL h 94 (pfz (mnow (h.2.1 92)) (h.2.1 94) i)) → lv_has ls 6 [(0, .ref (k.2.1 91)), (1, .int u), (2, .int (nI i))] → W p l e rc_X5_isSame s m args below meth c H locs 0 0 Q (F0 m 4 ls []) := by
    intro fu
    induction fu with
    | zero => intro i u _ hm; exact absurd hm (Nat.not_lt_zero _)
    | succ fu ih =>
      intro i u hinv hm H locs ls w hl
      obtain ⟨hi, exx⟩ := hinv
      rcases ho : mss (h.2.1 94) (h.2.1 92) i with _ | _
      · rw [ho] at exx
        have exx : u = nI 0 := exx
        subst exx
        refine lv_iload_n hx hb dX5_isSame_4 rfl (lv_at hl 2 rfl) ?_
        refine lv_bipush (v := nI 64) hx hb dX5_isSame_5 (by decide) ?_
        refine q_icge X (tgt := 88) (by omega) (by decide) dX5_isSame_7 (by decide) (fun c_7 => ?_) (fun c_7 => ?_)
        · refine lv_iload_n hx hb dX5_isSame_88 rfl (lv_at hl 1 rfl) ?_
          exact hret _ _ _ _ _ _ _ _ dX5_isSame_89 w (by decide) ⟨(by obtain rfl : i = 64 := (by omega); rw [ho]; rfl), (by obtain rfl : i = 64 := (by omega); rfl)⟩ (Nat.le_of_ble_eq_true rfl) (Nat.le_of_ble_eq_true rfl)
        · refine lv_iload_n hx hb dX5_isSame_10 rfl (lv_at hl 2 rfl) ?_
          refine lv_bipush (v := nI 32) hx hb dX5_isSame_11 (by decide) ?_
          refine lv_idiv hx hb dX5_isSame_13 (by decide) ?_
          rw [isd1 i (by omega)]
          refine lv_istore_n (lv' := [(3, .int (nI (i / 32))), (0, .ref (k.2.1 91)), (1, .int (nI 0)), (2, .int (nI i))]) hx hb dX5_isSame_14 rfl hl (by decide) rfl (fun ls hl => ?_)
          refine lv_aload_n hx hb dX5_isSame_15 rfl (lv_at hl 1 rfl) ?_
          refine q_get X w 91 0 (ci := 5) (by decide) rfl rfl hi5 (by decide) (by decide +kernel) rfl dX5_isSame_16 ?_
          refine lv_iload_n hx hb dX5_isSame_19 rfl (lv_at hl 0 rfl) ?_
          refine lv_iload_n hx hb dX5_isSame_20 rfl (lv_at hl 3 rfl) ?_
          refine lv_bipush (v := nI 32) hx hb dX5_isSame_21 (by decide) ?_
          refine lv_irem hx hb dX5_isSame_23 (by decide) ?_
          rw [isd2 i (by omega)]
          refine lv_bipush (v := nI 16) hx hb dX5_isSame_24 (by decide) ?_
          refine q_icge X (tgt := 39) (by omega) (by decide) dX5_isSame_26 (by decide) (fun c_26 => ?_) (fun c_26 => ?_)
          · refine lv_bipush (v := nI 81) hx hb dX5_isSame_39 (by decide) ?_
            refine lv_iload_n hx hb dX5_isSame_41 rfl (lv_at hl 3 rfl) ?_
            refine lv_bipush (v := nI 16) hx hb dX5_isSame_42 (by decide) ?_
            refine lv_irem hx hb dX5_isSame_44 (by decide) ?_
            rw [isd3 i (by omega)]
            refine q_iaddN X dX5_isSame_45 ?_
            refine q_calli w (q_runS X w (c_X5_at l k (setL h 94 (pfz (mnow (h.2.1 92)) (h.2.1 94) i)) (i / 32) (81 + (i % 16))) (va_cwS 2 hts gX5_isSame_X5_at rfl rfl rfl (by decide +kernel) ⟨Nat.le_of_ble_eq_true rfl, Nat.le_of_ble_eq_true rfl⟩) rfl hl.1 rfl (Nat.le_of_ble_eq_true rfl) dX5_isSame_46 ⟨Nat.le_of_ble_eq_true rfl, Nat.le_of_ble_eq_true rfl⟩) (fun r_46 h_46 H locs hp w => ?_)
            obtain ⟨er_46, eh_46⟩ := hp
            rw [eh_46] at w
            have er_46 : r_46 = nI (1 + 116 * (i / 32) + (81 + (i % 16))) := er_46
            subst er_46
            refine q_lald X w 92 (1 + 116 * (i / 32) + (81 + (i % 16))) (by decide) (fun _ => rfl) rfl (show (1 + 116 * (i / 32) + (81 + (i % 16))) < 233 by omega) (by decide) dX5_isSame_49 ?_
            refine lv_topl (fun x_50 ex_50 => ?_)
            refine lv_lstore (lv' := [(4, .long x_50), (3, .int (nI (i / 32))), (0, .ref (k.2.1 91)), (1, .int (nI 0)), (2, .int (nI i))]) hx hb dX5_isSame_50 hl (by decide) rfl (fun ls hl => ?_)
            refine lv_iload_n hx hb dX5_isSame_52 rfl (lv_at hl 3 rfl) ?_
            refine lv_if_eq (tgt := 72) hx hb dX5_isSame_53 (by decide) (fun c_53 => ?_) (fun c_53 => ?_)
            · refine lv_iconst (v := nI 0) hx hb dX5_isSame_72 (by decide) ?_
              refine lv_istore_n (lv' := [(1, .int (nI 0)), (4, .long x_50), (3, .int (nI (i / 32))), (0, .ref (k.2.1 91)), (2, .int (nI i))]) hx hb dX5_isSame_73 rfl hl (by decide) rfl (fun ls hl => ?_)
              refine lv_aload_n hx hb dX5_isSame_74 rfl (lv_at hl 3 rfl) ?_
              refine q_get X w 91 4 (ci := 5) (by decide) rfl rfl hi5 (by decide) (by decide +kernel) rfl dX5_isSame_75 ?_
              refine lv_iload_n hx hb dX5_isSame_78 rfl (lv_at hl 4 rfl) ?_
              refine lv_lload hx hb dX5_isSame_79 (lv_at hl 1 rfl) ?_
              refine q_last X w 94 i (by decide) (fun _ => rfl) rfl (show i < 64 by omega) (by decide) dX5_isSame_81 (fun H locs w => ?_)
              obtain ⟨h_81, eh_81⟩ : ∃ z9, z9 = upL (setL h 94 (pfz (mnow (h.2.1 92)) (h.2.1 94) i)) 94 i x_50 := ⟨_, rfl⟩
              rw [← eh_81] at w
              refine lv_iinc (v := nI (i + 1)) (lv' := [(2, .int (nI (i + 1))), (1, .int (nI 0)), (4, .long x_50), (3, .int (nI (i / 32))), (0, .ref (k.2.1 91))]) hx hb dX5_isSame_82 hl (k := 4) rfl (nI_1 _) (by decide) rfl (fun ls hl => ?_)
              refine lv_goto (tgt := 4) hx hb dX5_isSame_85 (by decide) ?_
              have en : x_50 = mnow (h.2.1 92) i := by rw [ex_50, setL_o _ _ (by decide)]; unfold mnow; first | rw [if_pos (show 16 ≤ i % 32 by omega)] | rw [if_neg (show ¬ 16 ≤ i % 32 by omega)]
              rw [eh_81, setL_up, en, pfz_up (mnow (h.2.1 92))] at w
              try rw [setL_s, pfz_out (Nat.le_refl i), en] at c_64
              exact ih (i + 1) (nI 0) ⟨by omega, by first | exact ms_f ho | exact ms_n ho c_64⟩ (by omega) _ _ _ w (lv_sub hl [4, 1, 0] rfl)
            · exact absurd (by decide) c_53
          · refine lv_bipush (v := nI 49) hx hb dX5_isSame_29 (by decide) ?_
            refine lv_iload_n hx hb dX5_isSame_31 rfl (lv_at hl 3 rfl) ?_
            refine lv_bipush (v := nI 16) hx hb dX5_isSame_32 (by decide) ?_
            refine lv_irem hx hb dX5_isSame_34 (by decide) ?_
            rw [isd3 i (by omega)]
            refine q_iaddN X dX5_isSame_35 ?_
            refine lv_goto (tgt := 46) hx hb dX5_isSame_36 (by decide) ?_
            refine q_calli w (q_runS X w (c_X5_at l k (setL h 94 (pfz (mnow (h.2.1 92)) (h.2.1 94) i)) (i / 32) (49 + (i % 16))) (va_cwS 2 hts gX5_isSame_X5_at rfl rfl rfl (by decide +kernel) ⟨Nat.le_of_ble_eq_true rfl, Nat.le_of_ble_eq_true rfl⟩) rfl hl.1 rfl (Nat.le_of_ble_eq_true rfl) dX5_isSame_46 ⟨Nat.le_of_ble_eq_true rfl, Nat.le_of_ble_eq_true rfl⟩) (fun r_46 h_46 H locs hp w => ?_)
            obtain ⟨er_46, eh_46⟩ := hp
            rw [eh_46] at w
            have er_46 : r_46 = nI (1 + 116 * (i / 32) + (49 + (i % 16))) := er_46
            subst er_46
            refine q_lald X w 92 (1 + 116 * (i / 32) + (49 + (i % 16))) (by decide) (fun _ => rfl) rfl (show (1 + 116 * (i / 32) + (49 + (i % 16))) < 233 by omega) (by decide) dX5_isSame_49 ?_
            refine lv_topl (fun x_50 ex_50 => ?_)
            refine lv_lstore (lv' := [(4, .long x_50), (3, .int (nI (i / 32))), (0, .ref (k.2.1 91)), (1, .int (nI 0)), (2, .int (nI i))]) hx hb dX5_isSame_50 hl (by decide) rfl (fun ls hl => ?_)
            refine lv_iload_n hx hb dX5_isSame_52 rfl (lv_at hl 3 rfl) ?_
            refine lv_if_eq (tgt := 72) hx hb dX5_isSame_53 (by decide) (fun c_53 => ?_) (fun c_53 => ?_)
            · refine lv_iconst (v := nI 0) hx hb dX5_isSame_72 (by decide) ?_
              refine lv_istore_n (lv' := [(1, .int (nI 0)), (4, .long x_50), (3, .int (nI (i / 32))), (0, .ref (k.2.1 91)), (2, .int (nI i))]) hx hb dX5_isSame_73 rfl hl (by decide) rfl (fun ls hl => ?_)
              refine lv_aload_n hx hb dX5_isSame_74 rfl (lv_at hl 3 rfl) ?_
              refine q_get X w 91 4 (ci := 5) (by decide) rfl rfl hi5 (by decide) (by decide +kernel) rfl dX5_isSame_75 ?_
              refine lv_iload_n hx hb dX5_isSame_78 rfl (lv_at hl 4 rfl) ?_
              refine lv_lload hx hb dX5_isSame_79 (lv_at hl 1 rfl) ?_
              refine q_last X w 94 i (by decide) (fun _ => rfl) rfl (show i < 64 by omega) (by decide) dX5_isSame_81 (fun H locs w => ?_)
              obtain ⟨h_81, eh_81⟩ : ∃ z9, z9 = upL (setL h 94 (pfz (mnow (h.2.1 92)) (h.2.1 94) i)) 94 i x_50 := ⟨_, rfl⟩
              rw [← eh_81] at w
              refine lv_iinc (v := nI (i + 1)) (lv' := [(2, .int (nI (i + 1))), (1, .int (nI 0)), (4, .long x_50), (3, .int (nI (i / 32))), (0, .ref (k.2.1 91))]) hx hb dX5_isSame_82 hl (k := 4) rfl (nI_1 _) (by decide) rfl (fun ls hl => ?_)
              refine lv_goto (tgt := 4) hx hb dX5_isSame_85 (by decide) ?_
              have en : x_50 = mnow (h.2.1 92) i := by rw [ex_50, setL_o _ _ (by decide)]; unfold mnow; first | rw [if_pos (show 16 ≤ i % 32 by omega)] | rw [if_neg (show ¬ 16 ≤ i % 32 by omega)]
              rw [eh_81, setL_up, en, pfz_up (mnow (h.2.1 92))] at w
              try rw [setL_s, pfz_out (Nat.le_refl i), en] at c_64
              exact ih (i + 1) (nI 0) ⟨by omega, by first | exact ms_f ho | exact ms_n ho c_64⟩ (by omega) _ _ _ w (lv_sub hl [4, 1, 0] rfl)
            · exact absurd (by decide) c_53
      · rw [ho] at exx
        have exx : u = nI 1 := exx
        subst exx
        refine lv_iload_n hx hb dX5_isSame_4 rfl (lv_at hl 2 rfl) ?_
        refine lv_bipush (v := nI 64) hx hb dX5_isSame_5 (by decide) ?_
        refine q_icge X (tgt := 88) (by omega) (by decide) dX5_isSame_7 (by decide) (fun c_7 => ?_) (fun c_7 => ?_)
        · refine lv_iload_n hx hb dX5_isSame_88 rfl (lv_at hl 1 rfl) ?_
          exact hret _ _ _ _ _ _ _ _ dX5_isSame_89 w (by decide) ⟨(by obtain rfl : i = 64 := (by omega); rw [ho]; rfl), (by obtain rfl : i = 64 := (by omega); rfl)⟩ (Nat.le_of_ble_eq_true rfl) (Nat.le_of_ble_eq_true rfl)
        · refine lv_iload_n hx hb dX5_isSame_10 rfl (lv_at hl 2 rfl) ?_
          refine lv_bipush (v := nI 32) hx hb dX5_isSame_11 (by decide) ?_
          refine lv_idiv hx hb dX5_isSame_13 (by decide) ?_
          rw [isd1 i (by omega)]
          refine lv_istore_n (lv' := [(3, .int (nI (i / 32))), (0, .ref (k.2.1 91)), (1, .int (nI 1)), (2, .int (nI i))]) hx hb dX5_isSame_14 rfl hl (by decide) rfl (fun ls hl => ?_)
          refine lv_aload_n hx hb dX5_isSame_15 rfl (lv_at hl 1 rfl) ?_
          refine q_get X w 91 0 (ci := 5) (by decide) rfl rfl hi5 (by decide) (by decide +kernel) rfl dX5_isSame_16 ?_
          refine lv_iload_n hx hb dX5_isSame_19 rfl (lv_at hl 0 rfl) ?_
          refine lv_iload_n hx hb dX5_isSame_20 rfl (lv_at hl 3 rfl) ?_
          refine lv_bipush (v := nI 32) hx hb dX5_isSame_21 (by decide) ?_
          refine lv_irem hx hb dX5_isSame_23 (by decide) ?_
          rw [isd2 i (by omega)]
          refine lv_bipush (v := nI 16) hx hb dX5_isSame_24 (by decide) ?_
          refine q_icge X (tgt := 39) (by omega) (by decide) dX5_isSame_26 (by decide) (fun c_26 => ?_) (fun c_26 => ?_)
          · refine lv_bipush (v := nI 81) hx hb dX5_isSame_39 (by decide) ?_
            refine lv_iload_n hx hb dX5_isSame_41 rfl (lv_at hl 3 rfl) ?_
            refine lv_bipush (v := nI 16) hx hb dX5_isSame_42 (by decide) ?_
            refine lv_irem hx hb dX5_isSame_44 (by decide) ?_
            rw [isd3 i (by omega)]
            refine q_iaddN X dX5_isSame_45 ?_
            refine q_calli w (q_runS X w (c_X5_at l k (setL h 94 (pfz (mnow (h.2.1 92)) (h.2.1 94) i)) (i / 32) (81 + (i % 16))) (va_cwS 2 hts gX5_isSame_X5_at rfl rfl rfl (by decide +kernel) ⟨Nat.le_of_ble_eq_true rfl, Nat.le_of_ble_eq_true rfl⟩) rfl hl.1 rfl (Nat.le_of_ble_eq_true rfl) dX5_isSame_46 ⟨Nat.le_of_ble_eq_true rfl, Nat.le_of_ble_eq_true rfl⟩) (fun r_46 h_46 H locs hp w => ?_)
            obtain ⟨er_46, eh_46⟩ := hp
            rw [eh_46] at w
            have er_46 : r_46 = nI (1 + 116 * (i / 32) + (81 + (i % 16))) := er_46
            subst er_46
            refine q_lald X w 92 (1 + 116 * (i / 32) + (81 + (i % 16))) (by decide) (fun _ => rfl) rfl (show (1 + 116 * (i / 32) + (81 + (i % 16))) < 233 by omega) (by decide) dX5_isSame_49 ?_
            refine lv_topl (fun x_50 ex_50 => ?_)
            refine lv_lstore (lv' := [(4, .long x_50), (3, .int (nI (i / 32))), (0, .ref (k.2.1 91)), (1, .int (nI 1)), (2, .int (nI i))]) hx hb dX5_isSame_50 hl (by decide) rfl (fun ls hl => ?_)
            refine lv_iload_n hx hb dX5_isSame_52 rfl (lv_at hl 3 rfl) ?_
            refine lv_if_eq (tgt := 72) hx hb dX5_isSame_53 (by decide) (fun c_53 => ?_) (fun c_53 => ?_)
            · exact absurd c_53 (by decide)
            · refine lv_aload_n hx hb dX5_isSame_56 rfl (lv_at hl 2 rfl) ?_
              refine q_get X w 91 4 (ci := 5) (by decide) rfl rfl hi5 (by decide) (by decide +kernel) rfl dX5_isSame_57 ?_
              refine lv_iload_n hx hb dX5_isSame_60 rfl (lv_at hl 4 rfl) ?_
              refine q_lald X w 94 i (by decide) (fun _ => rfl) rfl (show i < 64 by omega) (by decide) dX5_isSame_61 ?_
              refine lv_lload hx hb dX5_isSame_62 (lv_at hl 0 rfl) ?_
              refine q_lif_ne X (tgt := 72) dX5_isSame_64 dX5_isSame_65 (by decide) (fun c_64 => ?_) (fun c_64 => ?_)
              · refine lv_iconst (v := nI 0) hx hb dX5_isSame_72 (by decide) ?_
                refine lv_istore_n (lv' := [(1, .int (nI 0)), (4, .long x_50), (3, .int (nI (i / 32))), (0, .ref (k.2.1 91)), (2, .int (nI i))]) hx hb dX5_isSame_73 rfl hl (by decide) rfl (fun ls hl => ?_)
                refine lv_aload_n hx hb dX5_isSame_74 rfl (lv_at hl 3 rfl) ?_
                refine q_get X w 91 4 (ci := 5) (by decide) rfl rfl hi5 (by decide) (by decide +kernel) rfl dX5_isSame_75 ?_
                refine lv_iload_n hx hb dX5_isSame_78 rfl (lv_at hl 4 rfl) ?_
                refine lv_lload hx hb dX5_isSame_79 (lv_at hl 1 rfl) ?_
                refine q_last X w 94 i (by decide) (fun _ => rfl) rfl (show i < 64 by omega) (by decide) dX5_isSame_81 (fun H locs w => ?_)
                obtain ⟨h_81, eh_81⟩ : ∃ z9, z9 = upL (setL h 94 (pfz (mnow (h.2.1 92)) (h.2.1 94) i)) 94 i x_50 := ⟨_, rfl⟩
                rw [← eh_81] at w
                refine lv_iinc (v := nI (i + 1)) (lv' := [(2, .int (nI (i + 1))), (1, .int (nI 0)), (4, .long x_50), (3, .int (nI (i / 32))), (0, .ref (k.2.1 91))]) hx hb dX5_isSame_82 hl (k := 4) rfl (nI_1 _) (by decide) rfl (fun ls hl => ?_)
                refine lv_goto (tgt := 4) hx hb dX5_isSame_85 (by decide) ?_
                have en : x_50 = mnow (h.2.1 92) i := by rw [ex_50, setL_o _ _ (by decide)]; unfold mnow; first | rw [if_pos (show 16 ≤ i % 32 by omega)] | rw [if_neg (show ¬ 16 ≤ i % 32 by omega)]
                rw [eh_81, setL_up, en, pfz_up (mnow (h.2.1 92))] at w
                try rw [setL_s, pfz_out (Nat.le_refl i), en] at c_64
                exact ih (i + 1) (nI 0) ⟨by omega, by first | exact ms_f ho | exact ms_n ho c_64⟩ (by omega) _ _ _ w (lv_sub hl [4, 1, 0] rfl)
              · refine lv_iconst (v := nI 1) hx hb dX5_isSame_68 (by decide) ?_
                refine lv_goto (tgt := 73) hx hb dX5_isSame_69 (by decide) ?_
                refine lv_istore_n (lv' := [(1, .int (nI 1)), (4, .long x_50), (3, .int (nI (i / 32))), (0, .ref (k.2.1 91)), (2, .int (nI i))]) hx hb dX5_isSame_73 rfl hl (by decide) rfl (fun ls hl => ?_)
                refine lv_aload_n hx hb dX5_isSame_74 rfl (lv_at hl 3 rfl) ?_
                refine q_get X w 91 4 (ci := 5) (by decide) rfl rfl hi5 (by decide) (by decide +kernel) rfl dX5_isSame_75 ?_
                refine lv_iload_n hx hb dX5_isSame_78 rfl (lv_at hl 4 rfl) ?_
                refine lv_lload hx hb dX5_isSame_79 (lv_at hl 1 rfl) ?_
                refine q_last X w 94 i (by decide) (fun _ => rfl) rfl (show i < 64 by omega) (by decide) dX5_isSame_81 (fun H locs w => ?_)
                obtain ⟨h_81, eh_81⟩ : ∃ z9, z9 = upL (setL h 94 (pfz (mnow (h.2.1 92)) (h.2.1 94) i)) 94 i x_50 := ⟨_, rfl⟩
                rw [← eh_81] at w
                refine lv_iinc (v := nI (i + 1)) (lv' := [(2, .int (nI (i + 1))), (1, .int (nI 1)), (4, .long x_50), (3, .int (nI (i / 32))), (0, .ref (k.2.1 91))]) hx hb dX5_isSame_82 hl (k := 4) rfl (nI_1 _) (by decide) rfl (fun ls hl => ?_)
                refine lv_goto (tgt := 4) hx hb dX5_isSame_85 (by decide) ?_
                have en : x_50 = mnow (h.2.1 92) i := by rw [ex_50, setL_o _ _ (by decide)]; unfold mnow; first | rw [if_pos (show 16 ≤ i % 32 by omega)] | rw [if_neg (show ¬ 16 ≤ i % 32 by omega)]
                rw [eh_81, setL_up, en, pfz_up (mnow (h.2.1 92))] at w
                try rw [setL_s, pfz_out (Nat.le_refl i), en] at c_64
                exact ih (i + 1) (nI 1) ⟨by omega, ms_t ho c_64⟩ (by omega) _ _ _ w (lv_sub hl [4, 1, 0] rfl)
          · refine lv_bipush (v := nI 49) hx hb dX5_isSame_29 (by decide) ?_
            refine lv_iload_n hx hb dX5_isSame_31 rfl (lv_at hl 3 rfl) ?_
            refine lv_bipush (v := nI 16) hx hb dX5_isSame_32 (by decide) ?_
            refine lv_irem hx hb dX5_isSame_34 (by decide) ?_
            rw [isd3 i (by omega)]
            refine q_iaddN X dX5_isSame_35 ?_
            refine lv_goto (tgt := 46) hx hb dX5_isSame_36 (by decide) ?_
            refine q_calli w (q_runS X w (c_X5_at l k (setL h 94 (pfz (mnow (h.2.1 92)) (h.2.1 94) i)) (i / 32) (49 + (i % 16))) (va_cwS 2 hts gX5_isSame_X5_at rfl rfl rfl (by decide +kernel) ⟨Nat.le_of_ble_eq_true rfl, Nat.le_of_ble_eq_true rfl⟩) rfl hl.1 rfl (Nat.le_of_ble_eq_true rfl) dX5_isSame_46 ⟨Nat.le_of_ble_eq_true rfl, Nat.le_of_ble_eq_true rfl⟩) (fun r_46 h_46 H locs hp w => ?_)
            obtain ⟨er_46, eh_46⟩ := hp
            rw [eh_46] at w
            have er_46 : r_46 = nI (1 + 116 * (i / 32) + (49 + (i % 16))) := er_46
            subst er_46
            refine q_lald X w 92 (1 + 116 * (i / 32) + (49 + (i % 16))) (by decide) (fun _ => rfl) rfl (show (1 + 116 * (i / 32) + (49 + (i % 16))) < 233 by omega) (by decide) dX5_isSame_49 ?_
            refine lv_topl (fun x_50 ex_50 => ?_)
            refine lv_lstore (lv' := [(4, .long x_50), (3, .int (nI (i / 32))), (0, .ref (k.2.1 91)), (1, .int (nI 1)), (2, .int (nI i))]) hx hb dX5_isSame_50 hl (by decide) rfl (fun ls hl => ?_)
            refine lv_iload_n hx hb dX5_isSame_52 rfl (lv_at hl 3 rfl) ?_
            refine lv_if_eq (tgt := 72) hx hb dX5_isSame_53 (by decide) (fun c_53 => ?_) (fun c_53 => ?_)
            · exact absurd c_53 (by decide)
            · refine lv_aload_n hx hb dX5_isSame_56 rfl (lv_at hl 2 rfl) ?_
              refine q_get X w 91 4 (ci := 5) (by decide) rfl rfl hi5 (by decide) (by decide +kernel) rfl dX5_isSame_57 ?_
              refine lv_iload_n hx hb dX5_isSame_60 rfl (lv_at hl 4 rfl) ?_
              refine q_lald X w 94 i (by decide) (fun _ => rfl) rfl (show i < 64 by omega) (by decide) dX5_isSame_61 ?_
              refine lv_lload hx hb dX5_isSame_62 (lv_at hl 0 rfl) ?_
              refine q_lif_ne X (tgt := 72) dX5_isSame_64 dX5_isSame_65 (by decide) (fun c_64 => ?_) (fun c_64 => ?_)
              · refine lv_iconst (v := nI 0) hx hb dX5_isSame_72 (by decide) ?_
                refine lv_istore_n (lv' := [(1, .int (nI 0)), (4, .long x_50), (3, .int (nI (i / 32))), (0, .ref (k.2.1 91)), (2, .int (nI i))]) hx hb dX5_isSame_73 rfl hl (by decide) rfl (fun ls hl => ?_)
                refine lv_aload_n hx hb dX5_isSame_74 rfl (lv_at hl 3 rfl) ?_
                refine q_get X w 91 4 (ci := 5) (by decide) rfl rfl hi5 (by decide) (by decide +kernel) rfl dX5_isSame_75 ?_
                refine lv_iload_n hx hb dX5_isSame_78 rfl (lv_at hl 4 rfl) ?_
                refine lv_lload hx hb dX5_isSame_79 (lv_at hl 1 rfl) ?_
                refine q_last X w 94 i (by decide) (fun _ => rfl) rfl (show i < 64 by omega) (by decide) dX5_isSame_81 (fun H locs w => ?_)
                obtain ⟨h_81, eh_81⟩ : ∃ z9, z9 = upL (setL h 94 (pfz (mnow (h.2.1 92)) (h.2.1 94) i)) 94 i x_50 := ⟨_, rfl⟩
                rw [← eh_81] at w
                refine lv_iinc (v := nI (i + 1)) (lv' := [(2, .int (nI (i + 1))), (1, .int (nI 0)), (4, .long x_50), (3, .int (nI (i / 32))), (0, .ref (k.2.1 91))]) hx hb dX5_isSame_82 hl (k := 4) rfl (nI_1 _) (by decide) rfl (fun ls hl => ?_)
                refine lv_goto (tgt := 4) hx hb dX5_isSame_85 (by decide) ?_
                have en : x_50 = mnow (h.2.1 92) i := by rw [ex_50, setL_o _ _ (by decide)]; unfold mnow; first | rw [if_pos (show 16 ≤ i % 32 by omega)] | rw [if_neg (show ¬ 16 ≤ i % 32 by omega)]
                rw [eh_81, setL_up, en, pfz_up (mnow (h.2.1 92))] at w
                try rw [setL_s, pfz_out (Nat.le_refl i), en] at c_64
                exact ih (i + 1) (nI 0) ⟨by omega, by first | exact ms_f ho | exact ms_n ho c_64⟩ (by omega) _ _ _ w (lv_sub hl [4, 1, 0] rfl)
              · refine lv_iconst (v := nI 1) hx hb dX5_isSame_68 (by decide) ?_
                refine lv_goto (tgt := 73) hx hb dX5_isSame_69 (by decide) ?_
                refine lv_istore_n (lv' := [(1, .int (nI 1)), (4, .long x_50), (3, .int (nI (i / 32))), (0, .ref (k.2.1 91)), (2, .int (nI i))]) hx hb dX5_isSame_73 rfl hl (by decide) rfl (fun ls hl => ?_)
                refine lv_aload_n hx hb dX5_isSame_74 rfl (lv_at hl 3 rfl) ?_
                refine q_get X w 91 4 (ci := 5) (by decide) rfl rfl hi5 (by decide) (by decide +kernel) rfl dX5_isSame_75 ?_
                refine lv_iload_n hx hb dX5_isSame_78 rfl (lv_at hl 4 rfl) ?_
                refine lv_lload hx hb dX5_isSame_79 (lv_at hl 1 rfl) ?_
                refine q_last X w 94 i (by decide) (fun _ => rfl) rfl (show i < 64 by omega) (by decide) dX5_isSame_81 (fun H locs w => ?_)
                obtain ⟨h_81, eh_81⟩ : ∃ z9, z9 = upL (setL h 94 (pfz (mnow (h.2.1 92)) (h.2.1 94) i)) 94 i x_50 := ⟨_, rfl⟩
                rw [← eh_81] at w
                refine lv_iinc (v := nI (i + 1)) (lv' := [(2, .int (nI (i + 1))), (1, .int (nI 1)), (4, .long x_50), (3, .int (nI (i / 32))), (0, .ref (k.2.1 91))]) hx hb dX5_isSame_82 hl (k := 4) rfl (nI_1 _) (by decide) rfl (fun ls hl => ?_)
                refine lv_goto (tgt := 4) hx hb dX5_isSame_85 (by decide) ?_
                have en : x_50 = mnow (h.2.1 92) i := by rw [ex_50, setL_o _ _ (by decide)]; unfold mnow; first | rw [if_pos (show 16 ≤ i % 32 by omega)] | rw [if_neg (show ¬ 16 ≤ i % 32 by omega)]
                rw [eh_81, setL_up, en, pfz_up (mnow (h.2.1 92))] at w
                try rw [setL_s, pfz_out (Nat.le_refl i), en] at c_64
                exact ih (i + 1) (nI 1) ⟨by omega, ms_t ho c_64⟩ (by omega) _ _ _ w (lv_sub hl [4, 1, 0] rfl)
  rw [show h = setL h 94 (pfz (mnow (h.2.1 92)) (h.2.1 94) 0) by rw [pfz_0, setL_self]] at w
  exact lp 65 0 (nI 1) ⟨by omega, rfl⟩ (by omega) _ _ _ w (lv_sub hl [2, 1, 0] rfl)
