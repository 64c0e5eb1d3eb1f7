abbrev rc_X5_deliver : Room := { frames := 2, cells := 0, slots := 0, locals := 45 }
set_option maxHeartbeats 4000000 in
set_option maxRecDepth 100000 in
theorem c_X5_deliver (l : Launch) (k : kY) (h : hS) (x y z : Int32) {b : Nat} (hs0 : h.1 91 2 = nI b) (hs4 : b ≤ 4) : CT l k yX5_deliver wsX5_deliver rc_X5_deliver [.ref (k.2.1 91), .int x, .int y, .int z] h (QI k (fun r h' => (∃ q : Nat, q < 2 ∧ x = nI q ∧ (¬ y.toInt64 < 0 ∧ ¬ 1 < y.toInt64) ∧ ¬ h.2.1 92 (mwy q y) = 0 ∧ r = (mdl (h.2.1 92) q y z).1 ∧ h' = setL (msv (upI h 91 3 (nI 0)) b) 92 (mdl (h.2.1 92) q y z).2) ∨ (∃ q : Nat, q < 2 ∧ x = nI q ∧ (¬ y.toInt64 < 0 ∧ ¬ 1 < y.toInt64) ∧ h.2.1 92 (mwy q y) = 0 ∧ r = nI 0 ∧ h' = upI h 91 3 (nI 3)) ∨ (isP x ∧ ¬ (¬ y.toInt64 < 0 ∧ ¬ 1 < y.toInt64) ∧ r = nI 0 ∧ h' = upI h 91 3 (nI 2)) ∨ (¬ isP x ∧ r = nI 0 ∧ h' = upI h 91 3 (nI 1)))) 0 0 := by
  refine q_metI (cc := cX5_deliver) (maxL := 5) (ret := some .int) (ty := .int) (by decide) rfl rfl (Nat.le_of_ble_eq_true rfl) ?_
  intro p e s m args below meth c Q ls X w hl hret
  have hx := X.1
  have hb := X.2.1
  have hown := X.2.2.2.1
  have hts := X.2.2.2.2
  have hl : lv_has ls 5 [(0, .ref (k.2.1 91)), (1, .int x), (2, .int y), (3, .int z)] := hl
  have hi5 : ∀ w ∈ u_ws RX5 TX5 6, w ∈ wsX5_deliver := by decide +kernel
  refine lv_aload_n hx hb dX5_deliver_0 rfl (lv_at hl 0 rfl) ?_
  refine lv_iload_n hx hb dX5_deliver_1 rfl (lv_at hl 1 rfl) ?_
  refine q_calli w (q_runS X w (c_X5_isPair l k h x) (va_cwS 1 hts gX5_deliver_X5_isPair rfl rfl rfl (by decide +kernel) ⟨Nat.le_of_ble_eq_true rfl, Nat.le_of_ble_eq_true rfl⟩) rfl hl.1 rfl (Nat.le_of_ble_eq_true rfl) dX5_deliver_2 ⟨Nat.le_of_ble_eq_true rfl, Nat.le_of_ble_eq_true rfl⟩) (fun r_2 h_2 H locs hp w => ?_)
  obtain ⟨hp, eh_2⟩ := hp
  rw [eh_2] at w
  rcases hp with ⟨hd_2, er_2⟩ | ⟨hd_2, er_2⟩
  · subst er_2
    obtain ⟨q, hq, rfl⟩ := hd_2
    refine lv_if_eq (tgt := 26) hx hb dX5_deliver_5 (by decide) (fun c_5 => ?_) (fun c_5 => ?_)
    · exact absurd c_5 (by decide)
    · refine lv_iload_n hx hb dX5_deliver_8 rfl (lv_at hl 2 rfl) ?_
      refine lv_i2l hx hb dX5_deliver_9 rfl ?_
      refine lv_lconst (v := 0) hx hb dX5_deliver_10 (by decide) ?_
      refine lv_lconst (v := 1) hx hb dX5_deliver_11 (by decide) ?_
      refine q_calli w (q_runS X w (c_X5_in l k h y.toInt64 0 1) (va_cwS 3 hts gX5_deliver_X5_in rfl rfl rfl (by decide +kernel) ⟨Nat.le_of_ble_eq_true rfl, Nat.le_of_ble_eq_true rfl⟩) rfl hl.1 rfl (Nat.le_of_ble_eq_true rfl) dX5_deliver_12 ⟨Nat.le_of_ble_eq_true rfl, Nat.le_of_ble_eq_true rfl⟩) (fun r_12 h_12 H locs hp w => ?_)
      obtain ⟨hp, eh_12⟩ := hp
      rw [eh_12] at w
      rcases hp with ⟨hd_12, er_12⟩ | ⟨hd_12, er_12⟩
      · subst er_12
        refine lv_if_eq (tgt := 22) hx hb dX5_deliver_15 (by decide) (fun c_15 => ?_) (fun c_15 => ?_)
        · exact absurd c_15 (by decide)
        · refine lv_iconst (v := nI 0) hx hb dX5_deliver_18 (by decide) ?_
          refine lv_goto (tgt := 27) hx hb dX5_deliver_19 (by decide) ?_
          refine q_put X w 91 3 .int (ci := 5) (by decide) rfl rfl rfl hi5 tyX5_ok nmX5 (by decide) (by decide +kernel) rfl (by decide +kernel) (rfl) (rfl) (Nat.le_of_ble_eq_true rfl) dX5_deliver_27 (fun H locs w => ?_)
          obtain ⟨h_27, eh_27⟩ : ∃ z9, z9 = upI h 91 3 (nI 0) := ⟨_, rfl⟩
          rw [← eh_27] at w
          have kT : h_27.1 91 3 = nI 0 := by rw [eh_27, upI_s]; rfl
          refine lv_aload_n hx hb dX5_deliver_30 rfl (lv_at hl 0 rfl) ?_
          refine q_get X w 91 3 (ci := 5) (by decide) rfl rfl hi5 (by decide) (by decide +kernel) rfl dX5_deliver_31 ?_
          rw [kT]
          refine lv_if_le (tgt := 39) hx hb dX5_deliver_34 (by decide) (fun c_34 => ?_) (fun c_34 => ?_)
          · refine lv_iload_n hx hb dX5_deliver_39 rfl (lv_at hl 1 rfl) ?_
            refine lv_iload_n hx hb dX5_deliver_40 rfl (lv_at hl 2 rfl) ?_
            refine lv_if_ne (tgt := 49) hx hb dX5_deliver_41 (by decide) (fun c_41 => ?_) (fun c_41 => ?_)
            · refine lv_bipush (v := nI 112) hx hb dX5_deliver_49 (by decide) ?_
              refine q_calli w (q_runS X w (c_X5_at l k h_27 q 112) (va_cwS 2 hts gX5_deliver_X5_at rfl rfl rfl (by decide +kernel) ⟨Nat.le_of_ble_eq_true rfl, Nat.le_of_ble_eq_true rfl⟩) rfl hl.1 rfl (Nat.le_of_ble_eq_true rfl) dX5_deliver_51 ⟨Nat.le_of_ble_eq_true rfl, Nat.le_of_ble_eq_true rfl⟩) (fun r_51 h_51 H locs hp w => ?_)
              obtain ⟨er_51, eh_51⟩ := hp
              rw [eh_51] at w
              have er_51 : r_51 = nI (1 + 116 * q + 112) := er_51
              subst er_51
              refine lv_istore (lv' := [(4, .int (nI (1 + 116 * q + 112))), (0, .ref (k.2.1 91)), (1, .int (nI q)), (2, .int y), (3, .int z)]) hx hb dX5_deliver_54 hl (by decide) rfl (fun ls hl => ?_)
              refine lv_aload_n hx hb dX5_deliver_56 rfl (lv_at hl 1 rfl) ?_
              refine q_get X w 91 0 (ci := 5) (by decide) rfl rfl hi5 (by decide) (by decide +kernel) rfl dX5_deliver_57 ?_
              refine lv_iload hx hb dX5_deliver_60 (lv_at hl 0 rfl) ?_
              refine q_lald X w 92 (1 + 116 * q + 112) (by decide) (fun _ => rfl) rfl (show (1 + 116 * q + 112) < 233 by omega) (by decide) dX5_deliver_62 ?_
              refine lv_lconst (v := 0) hx hb dX5_deliver_63 (by decide) ?_
              refine q_lif_ne X (tgt := 74) dX5_deliver_64 dX5_deliver_65 (by decide) (fun c_64 => ?_) (fun c_64 => ?_)
              · refine lv_aload_n hx hb dX5_deliver_74 rfl (lv_at hl 1 rfl) ?_
                refine q_callv w (q_runV X w 91 (c_X5_save l k h_27 (b := b) (by rw [eh_27, upI_s]; exact hs0) hs4) (cwV 0 hts gX5_deliver_X5_save rfl rfl rfl (by decide +kernel) ⟨Nat.le_of_ble_eq_true rfl, Nat.le_of_ble_eq_true rfl⟩) (by decide) rfl rfl rfl hl.1 rfl (Nat.le_of_ble_eq_true rfl) dX5_deliver_75 ⟨Nat.le_of_ble_eq_true rfl, Nat.le_of_ble_eq_true rfl⟩) (fun h_75 H locs hp w => ?_)
                have eh_75 := hp
                refine lv_aload_n hx hb dX5_deliver_78 rfl (lv_at hl 1 rfl) ?_
                refine q_get X w 91 0 (ci := 5) (by decide) rfl rfl hi5 (by decide) (by decide +kernel) rfl dX5_deliver_79 ?_
                refine lv_iload hx hb dX5_deliver_82 (lv_at hl 0 rfl) ?_
                refine lv_lconst (v := 0) hx hb dX5_deliver_84 (by decide) ?_
                refine q_last X w 92 (1 + 116 * q + 112) (by decide) (fun _ => rfl) rfl (show (1 + 116 * q + 112) < 233 by omega) (by decide) dX5_deliver_85 (fun H locs w => ?_)
                obtain ⟨h_85, eh_85⟩ : ∃ z9, z9 = upL h_75 92 (1 + 116 * q + 112) 0 := ⟨_, rfl⟩
                rw [← eh_85] at w
                refine lv_iload_n hx hb dX5_deliver_86 rfl (lv_at hl 4 rfl) ?_
                refine lv_if_eq (tgt := 94) hx hb dX5_deliver_87 (by decide) (fun c_87 => ?_) (fun c_87 => ?_)
                · refine lv_iload_n hx hb dX5_deliver_94 rfl (lv_at hl 3 rfl) ?_
                  refine lv_if_ne (tgt := 106) hx hb dX5_deliver_95 (by decide) (fun c_95 => ?_) (fun c_95 => ?_)
                  · refine lv_aload_n hx hb dX5_deliver_106 rfl (lv_at hl 1 rfl) ?_
                    refine lv_iload_n hx hb dX5_deliver_107 rfl (lv_at hl 2 rfl) ?_
                    refine q_calli w (q_runV X w 91 (c_X5_tellReceiver l k h_85 (q := q) (by omega)) (cwV 1 hts gX5_deliver_X5_tellReceiver rfl rfl rfl (by decide +kernel) ⟨Nat.le_of_ble_eq_true rfl, Nat.le_of_ble_eq_true rfl⟩) (by decide) rfl rfl rfl hl.1 rfl (Nat.le_of_ble_eq_true rfl) dX5_deliver_108 ⟨Nat.le_of_ble_eq_true rfl, Nat.le_of_ble_eq_true rfl⟩) (fun r_108 h_108 H locs hp w => ?_)
                    rcases hp with ⟨hd_108, er_108, eh_108⟩ | ⟨hd_108, er_108, eh_108⟩
                    · subst er_108
                      rw [eh_108] at w
                      have e92 : h_75.2.1 92 = h.2.1 92 := by rw [eh_75, msv_92, eh_27]; rfl
                      have e75 : h_75 = msv (upI h 91 3 (nI 0)) b := by rw [eh_75, eh_27]
                      have e85 : h_85 = setL h_75 92 (va_up (h.2.1 92) (1 + 116 * q + 112) 0) := by rw [eh_85, upL_set, e92]
                      exact hret _ _ _ _ _ _ _ _ dX5_deliver_111 w rfl (Or.inl ⟨q, hq, rfl, hd_12, (by rw [mwy, if_neg c_41]; subst eh_27; exact c_64), (by first | rw [mdl_l1 c_41 c_87] | rw [mdl_t1 c_41 c_87 (by rw [e85, setL_s] at hd_108; exact hd_108)]), (by first | rw [mdl_l1 c_41 c_87, e85, e75] | rw [mdl_t1 c_41 c_87 (by rw [e85, setL_s] at hd_108; exact hd_108), e85, e75])⟩) (Nat.le_of_ble_eq_true rfl) (Nat.le_of_ble_eq_true rfl)
                    · have hq9 := hq
                      have e92 : h_75.2.1 92 = h.2.1 92 := by rw [eh_75, msv_92, eh_27]; rfl
                      have e75 : h_75 = msv (upI h 91 3 (nI 0)) b := by rw [eh_75, eh_27]
                      have e85 : h_85 = setL h_75 92 (va_up (h.2.1 92) (1 + 116 * q + 112) 0) := by rw [eh_85, upL_set, e92]
                      exact hret _ _ _ _ _ _ _ _ dX5_deliver_111 w rfl (Or.inl ⟨q, hq, rfl, hd_12, (by rw [mwy, if_neg c_41]; subst eh_27; exact c_64), (by rw [er_108, mdl_t2 c_41 c_87 (by rw [e85, setL_s] at hd_108; exact hd_108), e85, setL_s]), (by rw [eh_108, mdl_t2 c_41 c_87 (by rw [e85, setL_s] at hd_108; exact hd_108), e85, setL_s, setL_setL, e75])⟩) (Nat.le_of_ble_eq_true rfl) (Nat.le_of_ble_eq_true rfl)
                  · exact absurd c_95 c_41
                · refine lv_iconst (v := (-1)) hx hb dX5_deliver_90 (by decide) ?_
                  refine lv_goto (tgt := 111) hx hb dX5_deliver_91 (by decide) ?_
                  have e92 : h_75.2.1 92 = h.2.1 92 := by rw [eh_75, msv_92, eh_27]; rfl
                  have e75 : h_75 = msv (upI h 91 3 (nI 0)) b := by rw [eh_75, eh_27]
                  have e85 : h_85 = setL h_75 92 (va_up (h.2.1 92) (1 + 116 * q + 112) 0) := by rw [eh_85, upL_set, e92]
                  exact hret _ _ _ _ _ _ _ _ dX5_deliver_111 w rfl (Or.inl ⟨q, hq, rfl, hd_12, (by rw [mwy, if_neg c_41]; subst eh_27; exact c_64), (by first | rw [mdl_l1 c_41 c_87] | rw [mdl_t1 c_41 c_87 (by rw [e85, setL_s] at hd_108; exact hd_108)]), (by first | rw [mdl_l1 c_41 c_87, e85, e75] | rw [mdl_t1 c_41 c_87 (by rw [e85, setL_s] at hd_108; exact hd_108), e85, e75])⟩) (Nat.le_of_ble_eq_true rfl) (Nat.le_of_ble_eq_true rfl)
              · refine lv_aload_n hx hb dX5_deliver_68 rfl (lv_at hl 1 rfl) ?_
                refine lv_iconst (v := nI 3) hx hb dX5_deliver_69 (by decide) ?_
                refine q_calli w (q_runV X w 91 (c_X5_bad l k h_27 (nI 3)) (cwV 1 hts gX5_deliver_X5_bad rfl rfl rfl (by decide +kernel) ⟨Nat.le_of_ble_eq_true rfl, Nat.le_of_ble_eq_true rfl⟩) (by decide) rfl rfl rfl hl.1 rfl (Nat.le_of_ble_eq_true rfl) dX5_deliver_70 ⟨Nat.le_of_ble_eq_true rfl, Nat.le_of_ble_eq_true rfl⟩) (fun r_70 h_70 H locs hp w => ?_)
                obtain ⟨er_70, eh_70⟩ := hp
                have er_70 : r_70 = nI 0 := er_70
                subst er_70
                exact hret _ _ _ _ _ _ _ _ dX5_deliver_73 w rfl (Or.inr (Or.inl ⟨q, hq, rfl, hd_12, (by rw [mwy, if_neg c_41]; subst eh_27; exact c_64), rfl, (by rw [eh_70, eh_27, upI_upI])⟩)) (Nat.le_of_ble_eq_true rfl) (Nat.le_of_ble_eq_true rfl)
            · refine lv_bipush (v := nI 108) hx hb dX5_deliver_44 (by decide) ?_
              refine lv_goto (tgt := 51) hx hb dX5_deliver_46 (by decide) ?_
              refine q_calli w (q_runS X w (c_X5_at l k h_27 q 108) (va_cwS 2 hts gX5_deliver_X5_at rfl rfl rfl (by decide +kernel) ⟨Nat.le_of_ble_eq_true rfl, Nat.le_of_ble_eq_true rfl⟩) rfl hl.1 rfl (Nat.le_of_ble_eq_true rfl) dX5_deliver_51 ⟨Nat.le_of_ble_eq_true rfl, Nat.le_of_ble_eq_true rfl⟩) (fun r_51 h_51 H locs hp w => ?_)
              obtain ⟨er_51, eh_51⟩ := hp
              rw [eh_51] at w
              have er_51 : r_51 = nI (1 + 116 * q + 108) := er_51
              subst er_51
              refine lv_istore (lv' := [(4, .int (nI (1 + 116 * q + 108))), (0, .ref (k.2.1 91)), (1, .int (nI q)), (2, .int y), (3, .int z)]) hx hb dX5_deliver_54 hl (by decide) rfl (fun ls hl => ?_)
              refine lv_aload_n hx hb dX5_deliver_56 rfl (lv_at hl 1 rfl) ?_
              refine q_get X w 91 0 (ci := 5) (by decide) rfl rfl hi5 (by decide) (by decide +kernel) rfl dX5_deliver_57 ?_
              refine lv_iload hx hb dX5_deliver_60 (lv_at hl 0 rfl) ?_
              refine q_lald X w 92 (1 + 116 * q + 108) (by decide) (fun _ => rfl) rfl (show (1 + 116 * q + 108) < 233 by omega) (by decide) dX5_deliver_62 ?_
              refine lv_lconst (v := 0) hx hb dX5_deliver_63 (by decide) ?_
              refine q_lif_ne X (tgt := 74) dX5_deliver_64 dX5_deliver_65 (by decide) (fun c_64 => ?_) (fun c_64 => ?_)
              · refine lv_aload_n hx hb dX5_deliver_74 rfl (lv_at hl 1 rfl) ?_
                refine q_callv w (q_runV X w 91 (c_X5_save l k h_27 (b := b) (by rw [eh_27, upI_s]; exact hs0) hs4) (cwV 0 hts gX5_deliver_X5_save rfl rfl rfl (by decide +kernel) ⟨Nat.le_of_ble_eq_true rfl, Nat.le_of_ble_eq_true rfl⟩) (by decide) rfl rfl rfl hl.1 rfl (Nat.le_of_ble_eq_true rfl) dX5_deliver_75 ⟨Nat.le_of_ble_eq_true rfl, Nat.le_of_ble_eq_true rfl⟩) (fun h_75 H locs hp w => ?_)
                have eh_75 := hp
                refine lv_aload_n hx hb dX5_deliver_78 rfl (lv_at hl 1 rfl) ?_
                refine q_get X w 91 0 (ci := 5) (by decide) rfl rfl hi5 (by decide) (by decide +kernel) rfl dX5_deliver_79 ?_
                refine lv_iload hx hb dX5_deliver_82 (lv_at hl 0 rfl) ?_
                refine lv_lconst (v := 0) hx hb dX5_deliver_84 (by decide) ?_
                refine q_last X w 92 (1 + 116 * q + 108) (by decide) (fun _ => rfl) rfl (show (1 + 116 * q + 108) < 233 by omega) (by decide) dX5_deliver_85 (fun H locs w => ?_)
                obtain ⟨h_85, eh_85⟩ : ∃ z9, z9 = upL h_75 92 (1 + 116 * q + 108) 0 := ⟨_, rfl⟩
                rw [← eh_85] at w
                refine lv_iload_n hx hb dX5_deliver_86 rfl (lv_at hl 4 rfl) ?_
                refine lv_if_eq (tgt := 94) hx hb dX5_deliver_87 (by decide) (fun c_87 => ?_) (fun c_87 => ?_)
                · refine lv_iload_n hx hb dX5_deliver_94 rfl (lv_at hl 3 rfl) ?_
                  refine lv_if_ne (tgt := 106) hx hb dX5_deliver_95 (by decide) (fun c_95 => ?_) (fun c_95 => ?_)
                  · exact absurd c_41 c_95
                  · refine lv_aload_n hx hb dX5_deliver_98 rfl (lv_at hl 1 rfl) ?_
                    refine lv_iload_n hx hb dX5_deliver_99 rfl (lv_at hl 2 rfl) ?_
                    refine q_calli w (q_runV X w 91 (c_X5_askSender l k h_85 (q := q) (by omega)) (cwV 1 hts gX5_deliver_X5_askSender rfl rfl rfl (by decide +kernel) ⟨Nat.le_of_ble_eq_true rfl, Nat.le_of_ble_eq_true rfl⟩) (by decide) rfl rfl rfl hl.1 rfl (Nat.le_of_ble_eq_true rfl) dX5_deliver_100 ⟨Nat.le_of_ble_eq_true rfl, Nat.le_of_ble_eq_true rfl⟩) (fun r_100 h_100 H locs hp w => ?_)
                    obtain ⟨er_100, eh_100⟩ := hp
                    refine lv_goto (tgt := 111) hx hb dX5_deliver_103 (by decide) ?_
                    have e92 : h_75.2.1 92 = h.2.1 92 := by rw [eh_75, msv_92, eh_27]; rfl
                    have e75 : h_75 = msv (upI h 91 3 (nI 0)) b := by rw [eh_75, eh_27]
                    have e85 : h_85 = setL h_75 92 (va_up (h.2.1 92) (1 + 116 * q + 108) 0) := by rw [eh_85, upL_set, e92]
                    exact hret _ _ _ _ _ _ _ _ dX5_deliver_111 w rfl (Or.inl ⟨q, hq, rfl, hd_12, (by rw [mwy, if_pos c_41]; subst eh_27; exact c_64), (by rw [er_100, mdl_a c_41 c_87, e85, setL_s]), (by rw [eh_100, mdl_a c_41 c_87, e85, setL_s, setL_setL, e75])⟩) (Nat.le_of_ble_eq_true rfl) (Nat.le_of_ble_eq_true rfl)
                · refine lv_iconst (v := (-1)) hx hb dX5_deliver_90 (by decide) ?_
                  refine lv_goto (tgt := 111) hx hb dX5_deliver_91 (by decide) ?_
                  have e92 : h_75.2.1 92 = h.2.1 92 := by rw [eh_75, msv_92, eh_27]; rfl
                  have e75 : h_75 = msv (upI h 91 3 (nI 0)) b := by rw [eh_75, eh_27]
                  have e85 : h_85 = setL h_75 92 (va_up (h.2.1 92) (1 + 116 * q + 108) 0) := by rw [eh_85, upL_set, e92]
                  exact hret _ _ _ _ _ _ _ _ dX5_deliver_111 w rfl (Or.inl ⟨q, hq, rfl, hd_12, (by rw [mwy, if_pos c_41]; subst eh_27; exact c_64), (by rw [mdl_l0 c_41 c_87]), (by rw [mdl_l0 c_41 c_87, e85, e75])⟩) (Nat.le_of_ble_eq_true rfl) (Nat.le_of_ble_eq_true rfl)
              · refine lv_aload_n hx hb dX5_deliver_68 rfl (lv_at hl 1 rfl) ?_
                refine lv_iconst (v := nI 3) hx hb dX5_deliver_69 (by decide) ?_
                refine q_calli w (q_runV X w 91 (c_X5_bad l k h_27 (nI 3)) (cwV 1 hts gX5_deliver_X5_bad rfl rfl rfl (by decide +kernel) ⟨Nat.le_of_ble_eq_true rfl, Nat.le_of_ble_eq_true rfl⟩) (by decide) rfl rfl rfl hl.1 rfl (Nat.le_of_ble_eq_true rfl) dX5_deliver_70 ⟨Nat.le_of_ble_eq_true rfl, Nat.le_of_ble_eq_true rfl⟩) (fun r_70 h_70 H locs hp w => ?_)
                obtain ⟨er_70, eh_70⟩ := hp
                have er_70 : r_70 = nI 0 := er_70
                subst er_70
                exact hret _ _ _ _ _ _ _ _ dX5_deliver_73 w rfl (Or.inr (Or.inl ⟨q, hq, rfl, hd_12, (by rw [mwy, if_pos c_41]; subst eh_27; exact c_64), rfl, (by rw [eh_70, eh_27, upI_upI])⟩)) (Nat.le_of_ble_eq_true rfl) (Nat.le_of_ble_eq_true rfl)
          · exact absurd (by decide) c_34
      · subst er_12
        refine lv_if_eq (tgt := 22) hx hb dX5_deliver_15 (by decide) (fun c_15 => ?_) (fun c_15 => ?_)
        · refine lv_iconst (v := nI 2) hx hb dX5_deliver_22 (by decide) ?_
          refine lv_goto (tgt := 27) hx hb dX5_deliver_23 (by decide) ?_
          refine q_put X w 91 3 .int (ci := 5) (by decide) rfl rfl rfl hi5 tyX5_ok nmX5 (by decide) (by decide +kernel) rfl (by decide +kernel) (rfl) (rfl) (Nat.le_of_ble_eq_true rfl) dX5_deliver_27 (fun H locs w => ?_)
          obtain ⟨h_27, eh_27⟩ : ∃ z9, z9 = upI h 91 3 (nI 2) := ⟨_, rfl⟩
          rw [← eh_27] at w
          have kT : h_27.1 91 3 = nI 2 := by rw [eh_27, upI_s]; rfl
          refine lv_aload_n hx hb dX5_deliver_30 rfl (lv_at hl 0 rfl) ?_
          refine q_get X w 91 3 (ci := 5) (by decide) rfl rfl hi5 (by decide) (by decide +kernel) rfl dX5_deliver_31 ?_
          rw [kT]
          refine lv_if_le (tgt := 39) hx hb dX5_deliver_34 (by decide) (fun c_34 => ?_) (fun c_34 => ?_)
          · exact absurd c_34 (by decide)
          · refine lv_iconst (v := nI 0) hx hb dX5_deliver_37 (by decide) ?_
            exact hret _ _ _ _ _ _ _ _ dX5_deliver_38 w rfl (Or.inr (Or.inr (Or.inl ⟨⟨q, hq, rfl⟩, hd_12, rfl, eh_27⟩))) (Nat.le_of_ble_eq_true rfl) (Nat.le_of_ble_eq_true rfl)
        · exact absurd (by decide) c_15
  · subst er_2
    refine lv_if_eq (tgt := 26) hx hb dX5_deliver_5 (by decide) (fun c_5 => ?_) (fun c_5 => ?_)
    · refine lv_iconst (v := nI 1) hx hb dX5_deliver_26 (by decide) ?_
      refine q_put X w 91 3 .int (ci := 5) (by decide) rfl rfl rfl hi5 tyX5_ok nmX5 (by decide) (by decide +kernel) rfl (by decide +kernel) (rfl) (rfl) (Nat.le_of_ble_eq_true rfl) dX5_deliver_27 (fun H locs w => ?_)
      obtain ⟨h_27, eh_27⟩ : ∃ z9, z9 = upI h 91 3 (nI 1) := ⟨_, rfl⟩
      rw [← eh_27] at w
      have kT : h_27.1 91 3 = nI 1 := by rw [eh_27, upI_s]; rfl
      refine lv_aload_n hx hb dX5_deliver_30 rfl (lv_at hl 0 rfl) ?_
      refine q_get X w 91 3 (ci := 5) (by decide) rfl rfl hi5 (by decide) (by decide +kernel) rfl dX5_deliver_31 ?_
      rw [kT]
      refine lv_if_le (tgt := 39) hx hb dX5_deliver_34 (by decide) (fun c_34 => ?_) (fun c_34 => ?_)
      · exact absurd c_34 (by decide)
      · refine lv_iconst (v := nI 0) hx hb dX5_deliver_37 (by decide) ?_
        exact hret _ _ _ _ _ _ _ _ dX5_deliver_38 w rfl (Or.inr (Or.inr (Or.inr ⟨hd_2, rfl, eh_27⟩))) (Nat.le_of_ble_eq_true rfl) (Nat.le_of_ble_eq_true rfl)
    · exact absurd (by decide) c_5
