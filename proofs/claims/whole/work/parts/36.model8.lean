abbrev rc_X5_repair : Room := { frames := 6, cells := 0, slots := 0, locals := 134 }
set_option maxHeartbeats 4000000 in
set_option maxRecDepth 100000 in
theorem c_X5_repair (l : Launch) (k : kY) (h : hS) (x : Int32) {b : Nat} (hs0 : h.1 91 2 = nI b) (hs4 : b ≤ 4) {F : Nat} {P2 : Nat → (Nat → Int64) × Nat} (hF : ∀ q : Nat, q < 2 → mrp q F (h.2.1 92) 0 = some (P2 q)) : CT l k yX5_repair wsX5_repair rc_X5_repair [.ref (k.2.1 91), .int x] h (QI k (fun r h' => (∃ q : Nat, q < 2 ∧ x = nI q ∧ r = nI (P2 q).2 ∧ h' = setL (msv (upI h 91 3 (nI 0)) b) 92 (mfi (P2 q).1 q)) ∨ (¬ isP x ∧ r = nI 0 ∧ h' = upI h 91 3 (nI 1)))) 0 0 := by
  refine q_metI (cc := cX5_repair) (maxL := 5) (ret := some .int) (ty := .int) (by decide) rfl rfl (Nat.le_of_ble_eq_true rfl) ?_
  intro p e s m args below meth c Q ls X w hl hret
  have hx := X.1
  have hb := X.2.1
  have hown := X.2.2.2.1
  have hts := X.2.2.2.2
  have hl : lv_has ls 5 [(0, .ref (k.2.1 91)), (1, .int x)] := hl
  have hi5 : ∀ w ∈ u_ws RX5 TX5 6, w ∈ wsX5_repair := by decide +kernel
  refine lv_aload_n hx hb dX5_repair_0 rfl (lv_at hl 0 rfl) ?_
  refine lv_iload_n hx hb dX5_repair_1 rfl (lv_at hl 1 rfl) ?_
  refine q_calli w (q_runS X w (c_X5_isPair l k h x) (va_cwS 1 hts gX5_repair_X5_isPair rfl rfl rfl (by decide +kernel) ⟨Nat.le_of_ble_eq_true rfl, Nat.le_of_ble_eq_true rfl⟩) rfl hl.1 rfl (Nat.le_of_ble_eq_true rfl) dX5_repair_2 ⟨Nat.le_of_ble_eq_true rfl, Nat.le_of_ble_eq_true rfl⟩) (fun r_2 h_2 H locs hp w => ?_)
  obtain ⟨hp, eh_2⟩ := hp
  rw [eh_2] at w
  rcases hp with ⟨hd_2, er_2⟩ | ⟨hd_2, er_2⟩
  · subst er_2
    obtain ⟨q, hq, rfl⟩ := hd_2
    refine lv_if_eq (tgt := 12) hx hb dX5_repair_5 (by decide) (fun c_5 => ?_) (fun c_5 => ?_)
    · exact absurd c_5 (by decide)
    · refine lv_iconst (v := nI 0) hx hb dX5_repair_8 (by decide) ?_
      refine lv_goto (tgt := 13) hx hb dX5_repair_9 (by decide) ?_
      refine q_put X w 91 3 .int (ci := 5) (by decide) rfl rfl rfl hi5 tyX5_ok nmX5 (by decide) (by decide +kernel) rfl (by decide +kernel) (rfl) (rfl) (Nat.le_of_ble_eq_true rfl) dX5_repair_13 (fun H locs w => ?_)
      obtain ⟨h_13, eh_13⟩ : ∃ z9, z9 = upI h 91 3 (nI 0) := ⟨_, rfl⟩
      rw [← eh_13] at w
      have kT : h_13.1 91 3 = nI 0 := by rw [eh_13, upI_s]; rfl
      refine lv_aload_n hx hb dX5_repair_16 rfl (lv_at hl 0 rfl) ?_
      refine q_get X w 91 3 (ci := 5) (by decide) rfl rfl hi5 (by decide) (by decide +kernel) rfl dX5_repair_17 ?_
      rw [kT]
      refine lv_if_le (tgt := 25) hx hb dX5_repair_20 (by decide) (fun c_20 => ?_) (fun c_20 => ?_)
      · refine lv_aload_n hx hb dX5_repair_25 rfl (lv_at hl 0 rfl) ?_
        refine q_callv w (q_runV X w 91 (c_X5_save l k h_13 (b := b) (by rw [eh_13, upI_s]; exact hs0) hs4) (cwV 0 hts gX5_repair_X5_save rfl rfl rfl (by decide +kernel) ⟨Nat.le_of_ble_eq_true rfl, Nat.le_of_ble_eq_true rfl⟩) (by decide) rfl rfl rfl hl.1 rfl (Nat.le_of_ble_eq_true rfl) dX5_repair_26 ⟨Nat.le_of_ble_eq_true rfl, Nat.le_of_ble_eq_true rfl⟩) (fun h_26 H locs hp w => ?_)
        have eh_26 := hp
        refine lv_iconst (v := nI 0) hx hb dX5_repair_29 (by decide) ?_
        refine lv_istore_n (lv' := [(2, .int (nI 0)), (0, .ref (k.2.1 91)), (1, .int (nI q))]) hx hb dX5_repair_30 rfl hl (by decide) rfl (fun ls hl => ?_)
        have lp : ∀ (fu : Nat) (f0 : Nat) (Rv : Nat → Int64) (n9 : Nat), (mrp q f0 Rv n9 = some (P2 q)) → f0 < fu → ∀ (H : Heap) (locs : List Loc) (ls : Array Slot), WX k s H locs (setL h_26 92 Rv) → lv_has ls 5 [(0, .ref (k.2.1 91)), (1, .int (nI q)), (2, .int (nI n9))] → W p l e rc_X5_repair s m args below meth c H locs 0 0 Q (F0 m 31 ls []) := by
          intro fu
          induction fu with
          | zero => intro f0 Rv n9 _ hm; exact absurd hm (Nat.not_lt_zero _)
          | succ fu ih =>
            intro f0 Rv n9 hinv hm H locs ls w hl
            obtain ⟨f1, rfl⟩ := mrp_pos hinv
            refine lv_aload_n hx hb dX5_repair_31 rfl (lv_at hl 0 rfl) ?_
            refine lv_iload_n hx hb dX5_repair_32 rfl (lv_at hl 1 rfl) ?_
            refine q_calli w (q_runV X w 91 (c_X5_efficient l k (setL h_26 92 Rv) (q := q) (by omega)) (cwV 1 hts gX5_repair_X5_efficient rfl rfl rfl (by decide +kernel) ⟨Nat.le_of_ble_eq_true rfl, Nat.le_of_ble_eq_true rfl⟩) (by decide) rfl rfl rfl hl.1 rfl (Nat.le_of_ble_eq_true rfl) dX5_repair_33 ⟨Nat.le_of_ble_eq_true rfl, Nat.le_of_ble_eq_true rfl⟩) (fun r_33 h_33 H locs hp w => ?_)
            obtain ⟨er_33, eh_33⟩ := hp
            rw [eh_33] at w
            have er_33 : r_33 = bI (mef ((setL h_26 92 Rv).2.1 92) q) := er_33
            rcases hf_33 : mef ((setL h_26 92 Rv).2.1 92) q with _ | _
            · rw [hf_33] at er_33
              have er_33 : r_33 = nI 0 := er_33
              subst er_33
              refine lv_if_ne (tgt := 94) hx hb dX5_repair_36 (by decide) (fun c_36 => ?_) (fun c_36 => ?_)
              · exact absurd (by decide) c_36
              · refine lv_aload_n hx hb dX5_repair_39 rfl (lv_at hl 0 rfl) ?_
                refine lv_iload_n hx hb dX5_repair_40 rfl (lv_at hl 1 rfl) ?_
                refine q_calli w (q_runV X w 91 (c_X5_dearest l k (setL h_26 92 Rv) (q := q) (by omega)) (cwV 1 hts gX5_repair_X5_dearest rfl rfl rfl (by decide +kernel) ⟨Nat.le_of_ble_eq_true rfl, Nat.le_of_ble_eq_true rfl⟩) (by decide) rfl rfl rfl hl.1 rfl (Nat.le_of_ble_eq_true rfl) dX5_repair_41 ⟨Nat.le_of_ble_eq_true rfl, Nat.le_of_ble_eq_true rfl⟩) (fun r_41 h_41 H locs hp w => ?_)
                obtain ⟨er_41, eh_41⟩ := hp
                rw [eh_41] at w
                have er_41 : r_41 = oI (mde ((setL h_26 92 Rv).2.1 92) q) := er_41
                rcases ho_41 : mde ((setL h_26 92 Rv).2.1 92) q with _ | t_41
                · exact absurd (mef_n1 ho_41) (fun z9 => Bool.noConfusion (hf_33.symm.trans z9))
                · rw [ho_41] at er_41
                  have er_41 : r_41 = nI t_41 := er_41
                  subst er_41
                  have ht_41 : t_41 < 16 := (amax_bd ho_41).1
                  refine lv_istore_n (lv' := [(3, .int (nI t_41)), (0, .ref (k.2.1 91)), (1, .int (nI q)), (2, .int (nI n9))]) hx hb dX5_repair_44 rfl hl (by decide) rfl (fun ls hl => ?_)
                  refine lv_aload_n hx hb dX5_repair_45 rfl (lv_at hl 1 rfl) ?_
                  refine lv_iload_n hx hb dX5_repair_46 rfl (lv_at hl 2 rfl) ?_
                  refine lv_iconst (v := (-1)) hx hb dX5_repair_47 (by decide) ?_
                  refine q_calli w (q_runV X w 91 (c_X5_cheapest l k (setL h_26 92 Rv) (q := q) (by omega) (-1)) (cwV 2 hts gX5_repair_X5_cheapest rfl rfl rfl (by decide +kernel) ⟨Nat.le_of_ble_eq_true rfl, Nat.le_of_ble_eq_true rfl⟩) (by decide) rfl rfl rfl hl.1 rfl (Nat.le_of_ble_eq_true rfl) dX5_repair_48 ⟨Nat.le_of_ble_eq_true rfl, Nat.le_of_ble_eq_true rfl⟩) (fun r_48 h_48 H locs hp w => ?_)
                  obtain ⟨er_48, eh_48⟩ := hp
                  rw [eh_48] at w
                  have er_48 : r_48 = oI (mch ((setL h_26 92 Rv).2.1 92) q (-1)) := er_48
                  rcases ho_48 : mch ((setL h_26 92 Rv).2.1 92) q (-1) with _ | t_48
                  · exact absurd (mef_n2 ho_48) (fun z9 => Bool.noConfusion (hf_33.symm.trans z9))
                  · rw [ho_48] at er_48
                    have er_48 : r_48 = nI t_48 := er_48
                    subst er_48
                    have ht_48 : t_48 < 16 := (amin_bd ho_48).1
                    refine lv_istore (lv' := [(4, .int (nI t_48)), (3, .int (nI t_41)), (0, .ref (k.2.1 91)), (1, .int (nI q)), (2, .int (nI n9))]) hx hb dX5_repair_51 hl (by decide) rfl (fun ls hl => ?_)
                    refine lv_aload_n hx hb dX5_repair_53 rfl (lv_at hl 2 rfl) ?_
                    refine q_get X w 91 0 (ci := 5) (by decide) rfl rfl hi5 (by decide) (by decide +kernel) rfl dX5_repair_54 ?_
                    refine lv_iload_n hx hb dX5_repair_57 rfl (lv_at hl 3 rfl) ?_
                    refine lv_bipush (v := nI 49) hx hb dX5_repair_58 (by decide) ?_
                    refine lv_iload_n hx hb dX5_repair_60 rfl (lv_at hl 1 rfl) ?_
                    refine q_iaddN X dX5_repair_61 ?_
                    refine q_calli w (q_runS X w (c_X5_at l k (setL h_26 92 Rv) q (49 + t_41)) (va_cwS 2 hts gX5_repair_X5_at rfl rfl rfl (by decide +kernel) ⟨Nat.le_of_ble_eq_true rfl, Nat.le_of_ble_eq_true rfl⟩) rfl hl.1 rfl (Nat.le_of_ble_eq_true rfl) dX5_repair_62 ⟨Nat.le_of_ble_eq_true rfl, Nat.le_of_ble_eq_true rfl⟩) (fun r_62 h_62 H locs hp w => ?_)
                    obtain ⟨er_62, eh_62⟩ := hp
                    rw [eh_62] at w
                    have er_62 : r_62 = nI (1 + 116 * q + (49 + t_41)) := er_62
                    subst er_62
                    refine lv_dup2_11 hx hb dX5_repair_65 rfl rfl ?_
                    refine q_lald X w 92 (1 + 116 * q + (49 + t_41)) (by decide) (fun _ => rfl) rfl (show (1 + 116 * q + (49 + t_41)) < 233 by omega) (by decide) dX5_repair_66 ?_
                    refine lv_lconst (v := 1) hx hb dX5_repair_67 (by decide) ?_
                    refine lv_lsub hx hb dX5_repair_68 ?_
                    refine lv_topl (fun x_69 ex_69 => ?_)
                    refine q_last X w 92 (1 + 116 * q + (49 + t_41)) (by decide) (fun _ => rfl) rfl (show (1 + 116 * q + (49 + t_41)) < 233 by omega) (by decide) dX5_repair_69 (fun H locs w => ?_)
                    obtain ⟨h_69, eh_69⟩ : ∃ z9, z9 = upL (setL h_26 92 Rv) 92 (1 + 116 * q + (49 + t_41)) x_69 := ⟨_, rfl⟩
                    rw [← eh_69] at w
                    refine lv_aload_n hx hb dX5_repair_70 rfl (lv_at hl 2 rfl) ?_
                    refine q_get X w 91 0 (ci := 5) (by decide) rfl rfl hi5 (by decide) (by decide +kernel) rfl dX5_repair_71 ?_
                    refine lv_iload_n hx hb dX5_repair_74 rfl (lv_at hl 3 rfl) ?_
                    refine lv_bipush (v := nI 49) hx hb dX5_repair_75 (by decide) ?_
                    refine lv_iload hx hb dX5_repair_77 (lv_at hl 0 rfl) ?_
                    refine q_iaddN X dX5_repair_79 ?_
                    refine q_calli w (q_runS X w (c_X5_at l k h_69 q (49 + t_48)) (va_cwS 2 hts gX5_repair_X5_at rfl rfl rfl (by decide +kernel) ⟨Nat.le_of_ble_eq_true rfl, Nat.le_of_ble_eq_true rfl⟩) rfl hl.1 rfl (Nat.le_of_ble_eq_true rfl) dX5_repair_80 ⟨Nat.le_of_ble_eq_true rfl, Nat.le_of_ble_eq_true rfl⟩) (fun r_80 h_80 H locs hp w => ?_)
                    obtain ⟨er_80, eh_80⟩ := hp
                    rw [eh_80] at w
                    have er_80 : r_80 = nI (1 + 116 * q + (49 + t_48)) := er_80
                    subst er_80
                    refine lv_dup2_11 hx hb dX5_repair_83 rfl rfl ?_
                    refine q_lald X w 92 (1 + 116 * q + (49 + t_48)) (by decide) (fun _ => rfl) rfl (show (1 + 116 * q + (49 + t_48)) < 233 by omega) (by decide) dX5_repair_84 ?_
                    refine lv_lconst (v := 1) hx hb dX5_repair_85 (by decide) ?_
                    refine lv_ladd hx hb dX5_repair_86 ?_
                    refine lv_topl (fun x_87 ex_87 => ?_)
                    refine q_last X w 92 (1 + 116 * q + (49 + t_48)) (by decide) (fun _ => rfl) rfl (show (1 + 116 * q + (49 + t_48)) < 233 by omega) (by decide) dX5_repair_87 (fun H locs w => ?_)
                    obtain ⟨h_87, eh_87⟩ : ∃ z9, z9 = upL h_69 92 (1 + 116 * q + (49 + t_48)) x_87 := ⟨_, rfl⟩
                    rw [← eh_87] at w
                    refine lv_iinc (v := nI (n9 + 1)) (lv' := [(2, .int (nI (n9 + 1))), (4, .int (nI t_48)), (3, .int (nI t_41)), (0, .ref (k.2.1 91)), (1, .int (nI q))]) hx hb dX5_repair_88 hl (k := 4) rfl (nI_1 _) (by decide) rfl (fun ls hl => ?_)
                    refine lv_goto (tgt := 31) hx hb dX5_repair_91 (by decide) ?_
                    have e69 : h_69 = setL h_26 92 (mm1 Rv (1 + 116 * q + (49 + t_41))) := by rw [eh_69, ex_69, setL_s, setL_up]; rfl
                    have e87 : h_87 = setL h_26 92 (mp1 (mm1 Rv (1 + 116 * q + (49 + t_41))) (1 + 116 * q + (49 + t_48))) := by rw [eh_87, ex_87, e69, setL_s, setL_up]; rfl
                    rw [e87] at w
                    exact ih f1 (mp1 (mm1 Rv (1 + 116 * q + (49 + t_41))) (1 + 116 * q + (49 + t_48))) (n9 + 1) (mrp_s (R := Rv) hf_33 ho_41 ho_48 hinv) (by omega) _ _ _ w (lv_sub hl [3, 4, 0] rfl)
            · rw [hf_33] at er_33
              have er_33 : r_33 = nI 1 := er_33
              subst er_33
              refine lv_if_ne (tgt := 94) hx hb dX5_repair_36 (by decide) (fun c_36 => ?_) (fun c_36 => ?_)
              · refine lv_aload_n hx hb dX5_repair_94 rfl (lv_at hl 0 rfl) ?_
                refine lv_iload_n hx hb dX5_repair_95 rfl (lv_at hl 1 rfl) ?_
                refine q_callv w (q_runV X w 91 (c_X5_finish l k (setL h_26 92 Rv) (q := q) (by omega)) (cwV 1 hts gX5_repair_X5_finish rfl rfl rfl (by decide +kernel) ⟨Nat.le_of_ble_eq_true rfl, Nat.le_of_ble_eq_true rfl⟩) (by decide) rfl rfl rfl hl.1 rfl (Nat.le_of_ble_eq_true rfl) dX5_repair_96 ⟨Nat.le_of_ble_eq_true rfl, Nat.le_of_ble_eq_true rfl⟩) (fun h_96 H locs hp w => ?_)
                have eh_96 := hp
                refine lv_iload_n hx hb dX5_repair_99 rfl (lv_at hl 2 rfl) ?_
                have eP := mrp_t (R := Rv) hf_33 hinv
                exact hret _ _ _ _ _ _ _ _ dX5_repair_100 w rfl (Or.inl ⟨q, hq, rfl, (by rw [← eP]), (by rw [eh_96, setL_s, setL_setL, ← eP, eh_26, eh_13])⟩) (Nat.le_of_ble_eq_true rfl) (Nat.le_of_ble_eq_true rfl)
              · exact absurd c_36 (by decide)
        have e92 : h_26.2.1 92 = h.2.1 92 := by rw [eh_26, msv_92, eh_13]; rfl
        rw [show h_26 = setL h_26 92 (h.2.1 92) by rw [← e92, setL_self]] at w
        exact lp (F + 1) F (h.2.1 92) 0 (hF q hq) (by omega) _ _ _ w (lv_sub hl [1, 2, 0] rfl)
      · exact absurd (by decide) c_20
  · subst er_2
    refine lv_if_eq (tgt := 12) hx hb dX5_repair_5 (by decide) (fun c_5 => ?_) (fun c_5 => ?_)
    · refine lv_iconst (v := nI 1) hx hb dX5_repair_12 (by decide) ?_
      refine q_put X w 91 3 .int (ci := 5) (by decide) rfl rfl rfl hi5 tyX5_ok nmX5 (by decide) (by decide +kernel) rfl (by decide +kernel) (rfl) (rfl) (Nat.le_of_ble_eq_true rfl) dX5_repair_13 (fun H locs w => ?_)
      obtain ⟨h_13, eh_13⟩ : ∃ z9, z9 = upI h 91 3 (nI 1) := ⟨_, rfl⟩
      rw [← eh_13] at w
      have kT : h_13.1 91 3 = nI 1 := by rw [eh_13, upI_s]; rfl
      refine lv_aload_n hx hb dX5_repair_16 rfl (lv_at hl 0 rfl) ?_
      refine q_get X w 91 3 (ci := 5) (by decide) rfl rfl hi5 (by decide) (by decide +kernel) rfl dX5_repair_17 ?_
      rw [kT]
      refine lv_if_le (tgt := 25) hx hb dX5_repair_20 (by decide) (fun c_20 => ?_) (fun c_20 => ?_)
      · exact absurd c_20 (by decide)
      · refine lv_iconst (v := nI 0) hx hb dX5_repair_23 (by decide) ?_
        exact hret _ _ _ _ _ _ _ _ dX5_repair_24 w rfl (Or.inr ⟨hd_2, rfl, eh_13⟩) (Nat.le_of_ble_eq_true rfl) (Nat.le_of_ble_eq_true rfl)
    · exact absurd (by decide) c_5
