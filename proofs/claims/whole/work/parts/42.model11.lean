abbrev rc_X5_loadBits : Room := { frames := 5, cells := 0, slots := 0, locals := 111 }
set_option maxHeartbeats 4000000 in
set_option maxRecDepth 100000 in
theorem c_X5_loadBits (l : Launch) (k : kY) (h : hS) (x y : Int32) {b : Nat} (hs0 : h.1 91 2 = nI b) (hs4 : b ≤ 4) {R2 : Nat → Nat → Nat → Int64} (hF : ∀ q n : Nat, q < 2 → n ≤ 192 → nI n ≤ mlS (h.2.1 92) q 16 → mfk q n (mcl (h.2.1 92) q) = some (R2 q n)) : CT l k yX5_loadBits wsX5_loadBits rc_X5_loadBits [.ref (k.2.1 91), .int x, .int y] h (QL k (fun r h' => (∃ q n : Nat, q < 2 ∧ n ≤ 192 ∧ x = nI q ∧ y = nI n ∧ nI n ≤ mlS (h.2.1 92) q 16 ∧ r = sumL (fun t => mfi (R2 q n) q (1 + 116 * q + (81 + t))) 16 ∧ h' = setL (msv (upI h 91 3 (nI 0)) b) 92 (mfi (R2 q n) q)) ∨ (∃ q n : Nat, q < 2 ∧ n ≤ 192 ∧ x = nI q ∧ y = nI n ∧ ¬ nI n ≤ mlS (h.2.1 92) q 16 ∧ r = 0 ∧ h' = upI h 91 3 (nI 3)) ∨ (isP x ∧ ¬ (¬ y.toInt64 < 0 ∧ ¬ 192 < y.toInt64) ∧ r = 0 ∧ h' = upI h 91 3 (nI 2)) ∨ (¬ isP x ∧ r = 0 ∧ h' = upI h 91 3 (nI 1)))) 0 0 := by
  refine q_metL (cc := cX5_loadBits) (maxL := 5) (by decide) rfl (Nat.le_of_ble_eq_true rfl) ?_
  intro p e s m args below meth c Q ls X w hl hret
  have hx := X.1
  have hb := X.2.1
  have hown := X.2.2.2.1
  have hts := X.2.2.2.2
  have hl : lv_has ls 5 [(0, .ref (k.2.1 91)), (1, .int x), (2, .int y)] := hl
  have hi5 : ∀ w ∈ u_ws RX5 TX5 6, w ∈ wsX5_loadBits := by decide +kernel
  refine lv_aload_n hx hb dX5_loadBits_0 rfl (lv_at hl 0 rfl) ?_
  refine lv_iload_n hx hb dX5_loadBits_1 rfl (lv_at hl 1 rfl) ?_
  refine q_calli w (q_runS X w (c_X5_isPair l k h x) (va_cwS 1 hts gX5_loadBits_X5_isPair rfl rfl rfl (by decide +kernel) ⟨Nat.le_of_ble_eq_true rfl, Nat.le_of_ble_eq_true rfl⟩) rfl hl.1 rfl (Nat.le_of_ble_eq_true rfl) dX5_loadBits_2 ⟨Nat.le_of_ble_eq_true rfl, Nat.le_of_ble_eq_true rfl⟩) (fun r_2 h_2 H locs hp w => ?_)
  obtain ⟨hp, eh_2⟩ := hp
  rw [eh_2] at w
  rcases hp with ⟨hd_2, er_2⟩ | ⟨hd_2, er_2⟩
  · subst er_2
    obtain ⟨q, hq, rfl⟩ := hd_2
    refine lv_if_eq (tgt := 28) hx hb dX5_loadBits_5 (by decide) (fun c_5 => ?_) (fun c_5 => ?_)
    · exact absurd c_5 (by decide)
    · refine lv_iload_n hx hb dX5_loadBits_8 rfl (lv_at hl 2 rfl) ?_
      refine lv_i2l hx hb dX5_loadBits_9 rfl ?_
      refine lv_lconst (v := 0) hx hb dX5_loadBits_10 (by decide) ?_
      refine lv_ldc2 (v := 192) hx hb hown (hts (.constantLong RX5 115 192) (by decide +kernel)) dX5_loadBits_11 ?_
      refine q_calli w (q_runS X w (c_X5_in l k h y.toInt64 0 192) (va_cwS 3 hts gX5_loadBits_X5_in rfl rfl rfl (by decide +kernel) ⟨Nat.le_of_ble_eq_true rfl, Nat.le_of_ble_eq_true rfl⟩) rfl hl.1 rfl (Nat.le_of_ble_eq_true rfl) dX5_loadBits_14 ⟨Nat.le_of_ble_eq_true rfl, Nat.le_of_ble_eq_true rfl⟩) (fun r_14 h_14 H locs hp w => ?_)
      obtain ⟨hp, eh_14⟩ := hp
      rw [eh_14] at w
      rcases hp with ⟨hd_14, er_14⟩ | ⟨hd_14, er_14⟩
      · subst er_14
        obtain ⟨n, hn, ex_14⟩ := okR_nat (by decide) ((okR_in (a := 0) (b := 192) (by decide) (by decide) rfl rfl).mp hd_14)
        subst ex_14
        refine lv_if_eq (tgt := 24) hx hb dX5_loadBits_17 (by decide) (fun c_17 => ?_) (fun c_17 => ?_)
        · exact absurd c_17 (by decide)
        · refine lv_iconst (v := nI 0) hx hb dX5_loadBits_20 (by decide) ?_
          refine lv_goto (tgt := 29) hx hb dX5_loadBits_21 (by decide) ?_
          refine q_put X w 91 3 .int (ci := 5) (by decide) rfl rfl rfl hi5 tyX5_ok nmX5 (by decide) (by decide +kernel) rfl (by decide +kernel) (rfl) (rfl) (Nat.le_of_ble_eq_true rfl) dX5_loadBits_29 (fun H locs w => ?_)
          obtain ⟨h_29, eh_29⟩ : ∃ z9, z9 = upI h 91 3 (nI 0) := ⟨_, rfl⟩
          rw [← eh_29] at w
          have kT : h_29.1 91 3 = nI 0 := by rw [eh_29, upI_s]; rfl
          refine lv_aload_n hx hb dX5_loadBits_32 rfl (lv_at hl 0 rfl) ?_
          refine q_get X w 91 3 (ci := 5) (by decide) rfl rfl hi5 (by decide) (by decide +kernel) rfl dX5_loadBits_33 ?_
          rw [kT]
          refine lv_if_le (tgt := 41) hx hb dX5_loadBits_36 (by decide) (fun c_36 => ?_) (fun c_36 => ?_)
          · refine lv_iconst (v := nI 0) hx hb dX5_loadBits_41 (by decide) ?_
            refine lv_istore_n (lv' := [(3, .int (nI 0)), (0, .ref (k.2.1 91)), (1, .int (nI q)), (2, .int (nI n))]) hx hb dX5_loadBits_42 rfl hl (by decide) rfl (fun ls hl => ?_)
            refine lv_iconst (v := nI 0) hx hb dX5_loadBits_43 (by decide) ?_
            refine lv_istore (lv' := [(4, .int (nI 0)), (3, .int (nI 0)), (0, .ref (k.2.1 91)), (1, .int (nI q)), (2, .int (nI n))]) hx hb dX5_loadBits_44 hl (by decide) rfl (fun ls hl => ?_)
            have lp : ∀ (fu : Nat) (t : Nat) (u : Int32), (t ≤ 16 ∧ u = mlS (h.2.1 92) q t) → (16 - t) < fu → ∀ (H : Heap) (locs : List Loc) (ls : Array Slot), WX k s H locs h_29 → lv_has ls 5 [(0, .ref (k.2.1 91)), (1, .int (nI q)), (2, .int (nI n)), (3, .int u), (4, .int (nI t))] → W p l e rc_X5_loadBits s m args below meth c H locs 0 0 Q (F0 m 46 ls []) := by
              intro fu
              induction fu with
              | zero => intro t u _ hm; exact absurd hm (Nat.not_lt_zero _)
              | succ fu ih =>
                intro t u hinv hm H locs ls w hl
                have ht := hinv.1
                refine lv_iload hx hb dX5_loadBits_46 (lv_at hl 4 rfl) ?_
                refine lv_bipush (v := nI 16) hx hb dX5_loadBits_48 (by decide) ?_
                refine q_icge X (tgt := 77) (by omega) (by decide) dX5_loadBits_50 (by decide) (fun c_50 => ?_) (fun c_50 => ?_)
                · refine lv_iload_n hx hb dX5_loadBits_77 rfl (lv_at hl 3 rfl) ?_
                  refine lv_iload_n hx hb dX5_loadBits_78 rfl (lv_at hl 2 rfl) ?_
                  refine lv_icmp_ge (tgt := 89) hx hb dX5_loadBits_79 (by decide) (fun c_79 => ?_) (fun c_79 => ?_)
                  · have e16 : u = mlS (h.2.1 92) q 16 := by obtain rfl : t = 16 := (by omega); exact hinv.2
                    rw [e16] at c_79
                    refine lv_aload_n hx hb dX5_loadBits_89 rfl (lv_at hl 0 rfl) ?_
                    refine q_callv w (q_runV X w 91 (c_X5_save l k h_29 (b := b) (by rw [eh_29, upI_s]; exact hs0) hs4) (cwV 0 hts gX5_loadBits_X5_save rfl rfl rfl (by decide +kernel) ⟨Nat.le_of_ble_eq_true rfl, Nat.le_of_ble_eq_true rfl⟩) (by decide) rfl rfl rfl hl.1 rfl (Nat.le_of_ble_eq_true rfl) dX5_loadBits_90 ⟨Nat.le_of_ble_eq_true rfl, Nat.le_of_ble_eq_true rfl⟩) (fun h_90 H locs hp w => ?_)
                    have eh_90 := hp
                    refine lv_aload_n hx hb dX5_loadBits_93 rfl (lv_at hl 0 rfl) ?_
                    refine lv_iload_n hx hb dX5_loadBits_94 rfl (lv_at hl 1 rfl) ?_
                    refine q_callv w (q_runV X w 91 (c_X5_clear l k h_90 (q := q) (by omega)) (cwV 1 hts gX5_loadBits_X5_clear rfl rfl rfl (by decide +kernel) ⟨Nat.le_of_ble_eq_true rfl, Nat.le_of_ble_eq_true rfl⟩) (by decide) rfl rfl rfl hl.1 rfl (Nat.le_of_ble_eq_true rfl) dX5_loadBits_95 ⟨Nat.le_of_ble_eq_true rfl, Nat.le_of_ble_eq_true rfl⟩) (fun h_95 H locs hp w => ?_)
                    have eh_95 := hp
                    have e92 : h_90.2.1 92 = h.2.1 92 := by rw [eh_90, msv_92, eh_29]; rfl
                    rw [e92] at eh_95
                    refine lv_iconst (v := nI 0) hx hb dX5_loadBits_98 (by decide) ?_
                    refine lv_istore (lv' := [(4, .int (nI 0)), (0, .ref (k.2.1 91)), (1, .int (nI q)), (2, .int (nI n)), (3, .int u)]) hx hb dX5_loadBits_99 hl (by decide) rfl (fun ls hl => ?_)
                    have lp2 : ∀ (fu : Nat) (i : Nat) (Rv : Nat → Int64), (i ≤ n ∧ mfk q (n - i) Rv = some (R2 q n)) → (n - i) < fu → ∀ (H : Heap) (locs : List Loc) (ls : Array Slot), WX k s H locs (setL h_90 92 Rv) → lv_has ls 5 [(0, .ref (k.2.1 91)), (1, .int (nI q)), (2, .int (nI n)), (4, .int (nI i))] → W p l e rc_X5_loadBits s m args below meth c H locs 0 0 Q (F0 m 101 ls []) := by
                      intro fu
                      induction fu with
                      | zero => intro i Rv _ hm; exact absurd hm (Nat.not_lt_zero _)
                      | succ fu ih2 =>
                        intro i Rv hinv2 hm2 H locs ls w hl
                        have hi := hinv2.1
                        refine lv_iload hx hb dX5_loadBits_101 (lv_at hl 3 rfl) ?_
                        refine lv_iload_n hx hb dX5_loadBits_103 rfl (lv_at hl 2 rfl) ?_
                        refine q_icge X (tgt := 135) (by omega) (by omega) dX5_loadBits_104 (by decide) (fun c_104 => ?_) (fun c_104 => ?_)
                        · have eR : Rv = R2 q n := by have z8 := hinv2.2; rw [show n - i = 0 by omega] at z8; exact Option.some.inj z8
                          refine lv_aload_n hx hb dX5_loadBits_135 rfl (lv_at hl 0 rfl) ?_
                          refine lv_iload_n hx hb dX5_loadBits_136 rfl (lv_at hl 1 rfl) ?_
                          refine q_callv w (q_runV X w 91 (c_X5_finish l k (setL h_90 92 Rv) (q := q) (by omega)) (cwV 1 hts gX5_loadBits_X5_finish rfl rfl rfl (by decide +kernel) ⟨Nat.le_of_ble_eq_true rfl, Nat.le_of_ble_eq_true rfl⟩) (by decide) rfl rfl rfl hl.1 rfl (Nat.le_of_ble_eq_true rfl) dX5_loadBits_137 ⟨Nat.le_of_ble_eq_true rfl, Nat.le_of_ble_eq_true rfl⟩) (fun h_137 H locs hp w => ?_)
                          have eh_137 := hp
                          refine lv_aload_n hx hb dX5_loadBits_140 rfl (lv_at hl 0 rfl) ?_
                          refine lv_iload_n hx hb dX5_loadBits_141 rfl (lv_at hl 1 rfl) ?_
                          refine q_calll w (q_runV X w 91 (c_X5_energyOf l k h_137 (q := q) (by omega)) (cwV 1 hts gX5_loadBits_X5_energyOf rfl rfl rfl (by decide +kernel) ⟨Nat.le_of_ble_eq_true rfl, Nat.le_of_ble_eq_true rfl⟩) (by decide) rfl rfl rfl hl.1 rfl (Nat.le_of_ble_eq_true rfl) dX5_loadBits_142 ⟨Nat.le_of_ble_eq_true rfl, Nat.le_of_ble_eq_true rfl⟩) (fun r_142 h_142 H locs hp w => ?_)
                          obtain ⟨er_142, eh_142⟩ := hp
                          rw [eh_142] at w
                          have er_142 : r_142 = (sumL (fun t => h_137.2.1 92 (1 + 116 * q + (81 + t))) 16) := er_142
                          subst er_142
                          exact hret _ _ _ _ _ _ _ _ dX5_loadBits_145 w (Or.inl ⟨q, n, hq, hn, rfl, rfl, c_79, (by rw [eh_137, setL_s, setL_s, eR]), (by rw [eh_137, setL_s, setL_setL, eR, eh_90, eh_29])⟩) (Nat.le_of_ble_eq_true rfl) (Nat.le_of_ble_eq_true rfl)
                        · refine lv_aload_n hx hb dX5_loadBits_107 rfl (lv_at hl 0 rfl) ?_
                          refine q_get X w 91 0 (ci := 5) (by decide) rfl rfl hi5 (by decide) (by decide +kernel) rfl dX5_loadBits_108 ?_
                          refine lv_iload_n hx hb dX5_loadBits_111 rfl (lv_at hl 1 rfl) ?_
                          refine lv_bipush (v := nI 49) hx hb dX5_loadBits_112 (by decide) ?_
                          refine lv_aload_n hx hb dX5_loadBits_114 rfl (lv_at hl 0 rfl) ?_
                          refine lv_iload_n hx hb dX5_loadBits_115 rfl (lv_at hl 1 rfl) ?_
                          refine lv_iconst (v := (-1)) hx hb dX5_loadBits_116 (by decide) ?_
                          refine q_calli w (q_runV X w 91 (c_X5_cheapest l k (setL h_90 92 Rv) (q := q) (by omega) (-1)) (cwV 2 hts gX5_loadBits_X5_cheapest rfl rfl rfl (by decide +kernel) ⟨Nat.le_of_ble_eq_true rfl, Nat.le_of_ble_eq_true rfl⟩) (by decide) rfl rfl rfl hl.1 rfl (Nat.le_of_ble_eq_true rfl) dX5_loadBits_117 ⟨Nat.le_of_ble_eq_true rfl, Nat.le_of_ble_eq_true rfl⟩) (fun r_117 h_117 H locs hp w => ?_)
                          obtain ⟨er_117, eh_117⟩ := hp
                          rw [eh_117] at w
                          have er_117 : r_117 = oI (mch ((setL h_90 92 Rv).2.1 92) q (-1)) := er_117
                          rcases ho_117 : mch ((setL h_90 92 Rv).2.1 92) q (-1) with _ | t_117
                          · exact (mfk_n (R := Rv) ho_117 (by rw [show n - i = (n - (i + 1)) + 1 by omega] at hinv2; exact hinv2.2)).elim
                          · rw [ho_117] at er_117
                            have er_117 : r_117 = nI t_117 := er_117
                            subst er_117
                            have ht_117 : t_117 < 16 := (amin_bd ho_117).1
                            refine q_iaddN X dX5_loadBits_120 ?_
                            refine q_calli w (q_runS X w (c_X5_at l k (setL h_90 92 Rv) q (49 + t_117)) (va_cwS 2 hts gX5_loadBits_X5_at rfl rfl rfl (by decide +kernel) ⟨Nat.le_of_ble_eq_true rfl, Nat.le_of_ble_eq_true rfl⟩) rfl hl.1 rfl (Nat.le_of_ble_eq_true rfl) dX5_loadBits_121 ⟨Nat.le_of_ble_eq_true rfl, Nat.le_of_ble_eq_true rfl⟩) (fun r_121 h_121 H locs hp w => ?_)
                            obtain ⟨er_121, eh_121⟩ := hp
                            rw [eh_121] at w
                            have er_121 : r_121 = nI (1 + 116 * q + (49 + t_117)) := er_121
                            subst er_121
                            refine lv_dup2_11 hx hb dX5_loadBits_124 rfl rfl ?_
                            refine q_lald X w 92 (1 + 116 * q + (49 + t_117)) (by decide) (fun _ => rfl) rfl (show (1 + 116 * q + (49 + t_117)) < 233 by omega) (by decide) dX5_loadBits_125 ?_
                            refine lv_lconst (v := 1) hx hb dX5_loadBits_126 (by decide) ?_
                            refine lv_ladd hx hb dX5_loadBits_127 ?_
                            refine lv_topl (fun x_128 ex_128 => ?_)
                            refine q_last X w 92 (1 + 116 * q + (49 + t_117)) (by decide) (fun _ => rfl) rfl (show (1 + 116 * q + (49 + t_117)) < 233 by omega) (by decide) dX5_loadBits_128 (fun H locs w => ?_)
                            obtain ⟨h_128, eh_128⟩ : ∃ z9, z9 = upL (setL h_90 92 Rv) 92 (1 + 116 * q + (49 + t_117)) x_128 := ⟨_, rfl⟩
                            rw [← eh_128] at w
                            refine lv_iinc (v := nI (i + 1)) (lv' := [(4, .int (nI (i + 1))), (0, .ref (k.2.1 91)), (1, .int (nI q)), (2, .int (nI n))]) hx hb dX5_loadBits_129 hl (k := 3) rfl (nI_1 _) (by decide) rfl (fun ls hl => ?_)
                            refine lv_goto (tgt := 101) hx hb dX5_loadBits_132 (by decide) ?_
                            have e128 : h_128 = setL h_90 92 (mp1 Rv (1 + 116 * q + (49 + t_117))) := by rw [eh_128, ex_128, setL_s, setL_up]; rfl
                            rw [e128] at w
                            exact ih2 (i + 1) (mp1 Rv (1 + 116 * q + (49 + t_117))) ⟨by omega, mfk_s (R := Rv) ho_117 (by rw [show n - i = (n - (i + 1)) + 1 by omega] at hinv2; exact hinv2.2)⟩ (by omega) _ _ _ w (lv_sub hl [1, 2, 3, 0] rfl)
                    rw [eh_95] at w
                    exact lp2 (n + 1) 0 (mcl (h.2.1 92) q) ⟨by omega, hF q n hq hn c_79⟩ (by omega) _ _ _ w (lv_sub hl [1, 2, 3, 0] rfl)
                  · have e16 : u = mlS (h.2.1 92) q 16 := by obtain rfl : t = 16 := (by omega); exact hinv.2
                    rw [e16] at c_79
                    refine lv_aload_n hx hb dX5_loadBits_82 rfl (lv_at hl 0 rfl) ?_
                    refine lv_iconst (v := nI 3) hx hb dX5_loadBits_83 (by decide) ?_
                    refine q_calli w (q_runV X w 91 (c_X5_bad l k h_29 (nI 3)) (cwV 1 hts gX5_loadBits_X5_bad rfl rfl rfl (by decide +kernel) ⟨Nat.le_of_ble_eq_true rfl, Nat.le_of_ble_eq_true rfl⟩) (by decide) rfl rfl rfl hl.1 rfl (Nat.le_of_ble_eq_true rfl) dX5_loadBits_84 ⟨Nat.le_of_ble_eq_true rfl, Nat.le_of_ble_eq_true rfl⟩) (fun r_84 h_84 H locs hp w => ?_)
                    obtain ⟨er_84, eh_84⟩ := hp
                    have er_84 : r_84 = nI 0 := er_84
                    subst er_84
                    refine lv_i2l hx hb dX5_loadBits_87 rfl ?_
                    exact hret _ _ _ _ _ _ _ _ dX5_loadBits_88 w (Or.inr (Or.inl ⟨q, n, hq, hn, rfl, rfl, c_79, rfl, (by rw [eh_84, eh_29, upI_upI])⟩)) (Nat.le_of_ble_eq_true rfl) (Nat.le_of_ble_eq_true rfl)
                · refine lv_iload_n hx hb dX5_loadBits_53 rfl (lv_at hl 3 rfl) ?_
                  refine lv_aload_n hx hb dX5_loadBits_54 rfl (lv_at hl 0 rfl) ?_
                  refine q_get X w 91 0 (ci := 5) (by decide) rfl rfl hi5 (by decide) (by decide +kernel) rfl dX5_loadBits_55 ?_
                  refine lv_iload_n hx hb dX5_loadBits_58 rfl (lv_at hl 1 rfl) ?_
                  refine lv_bipush (v := nI 33) hx hb dX5_loadBits_59 (by decide) ?_
                  refine lv_iload hx hb dX5_loadBits_61 (lv_at hl 4 rfl) ?_
                  refine q_iaddN X dX5_loadBits_63 ?_
                  refine q_calli w (q_runS X w (c_X5_at l k h_29 q (33 + t)) (va_cwS 2 hts gX5_loadBits_X5_at rfl rfl rfl (by decide +kernel) ⟨Nat.le_of_ble_eq_true rfl, Nat.le_of_ble_eq_true rfl⟩) rfl hl.1 rfl (Nat.le_of_ble_eq_true rfl) dX5_loadBits_64 ⟨Nat.le_of_ble_eq_true rfl, Nat.le_of_ble_eq_true rfl⟩) (fun r_64 h_64 H locs hp w => ?_)
                  obtain ⟨er_64, eh_64⟩ := hp
                  rw [eh_64] at w
                  have er_64 : r_64 = nI (1 + 116 * q + (33 + t)) := er_64
                  subst er_64
                  refine q_lald X w 92 (1 + 116 * q + (33 + t)) (by decide) (fun _ => rfl) rfl (show (1 + 116 * q + (33 + t)) < 233 by omega) (by decide) dX5_loadBits_67 ?_
                  refine lv_l2i hx hb dX5_loadBits_68 rfl ?_
                  refine lv_iadd hx hb dX5_loadBits_69 ?_
                  refine lv_topi (fun x_70 ex_70 => ?_)
                  refine lv_istore_n (lv' := [(3, .int x_70), (0, .ref (k.2.1 91)), (1, .int (nI q)), (2, .int (nI n)), (4, .int (nI t))]) hx hb dX5_loadBits_70 rfl hl (by decide) rfl (fun ls hl => ?_)
                  refine lv_iinc (v := nI (t + 1)) (lv' := [(4, .int (nI (t + 1))), (3, .int x_70), (0, .ref (k.2.1 91)), (1, .int (nI q)), (2, .int (nI n))]) hx hb dX5_loadBits_71 hl (k := 4) rfl (nI_1 _) (by decide) rfl (fun ls hl => ?_)
                  refine lv_goto (tgt := 46) hx hb dX5_loadBits_74 (by decide) ?_
                  exact ih (t + 1) x_70 ⟨by omega, by rw [ex_70, hinv.2]; subst eh_29; rfl⟩ (by omega) _ _ _ w (lv_sub hl [2, 3, 4, 1, 0] rfl)
            exact lp 17 0 (nI 0) ⟨by omega, rfl⟩ (by omega) _ _ _ w (lv_sub hl [2, 3, 4, 1, 0] rfl)
          · exact absurd (by decide) c_36
      · subst er_14
        refine lv_if_eq (tgt := 24) hx hb dX5_loadBits_17 (by decide) (fun c_17 => ?_) (fun c_17 => ?_)
        · refine lv_iconst (v := nI 2) hx hb dX5_loadBits_24 (by decide) ?_
          refine lv_goto (tgt := 29) hx hb dX5_loadBits_25 (by decide) ?_
          refine q_put X w 91 3 .int (ci := 5) (by decide) rfl rfl rfl hi5 tyX5_ok nmX5 (by decide) (by decide +kernel) rfl (by decide +kernel) (rfl) (rfl) (Nat.le_of_ble_eq_true rfl) dX5_loadBits_29 (fun H locs w => ?_)
          obtain ⟨h_29, eh_29⟩ : ∃ z9, z9 = upI h 91 3 (nI 2) := ⟨_, rfl⟩
          rw [← eh_29] at w
          have kT : h_29.1 91 3 = nI 2 := by rw [eh_29, upI_s]; rfl
          refine lv_aload_n hx hb dX5_loadBits_32 rfl (lv_at hl 0 rfl) ?_
          refine q_get X w 91 3 (ci := 5) (by decide) rfl rfl hi5 (by decide) (by decide +kernel) rfl dX5_loadBits_33 ?_
          rw [kT]
          refine lv_if_le (tgt := 41) hx hb dX5_loadBits_36 (by decide) (fun c_36 => ?_) (fun c_36 => ?_)
          · exact absurd c_36 (by decide)
          · refine lv_lconst (v := 0) hx hb dX5_loadBits_39 (by decide) ?_
            exact hret _ _ _ _ _ _ _ _ dX5_loadBits_40 w (Or.inr (Or.inr (Or.inl ⟨⟨q, hq, rfl⟩, hd_14, rfl, eh_29⟩))) (Nat.le_of_ble_eq_true rfl) (Nat.le_of_ble_eq_true rfl)
        · exact absurd (by decide) c_17
  · subst er_2
    refine lv_if_eq (tgt := 28) hx hb dX5_loadBits_5 (by decide) (fun c_5 => ?_) (fun c_5 => ?_)
    · refine lv_iconst (v := nI 1) hx hb dX5_loadBits_28 (by decide) ?_
      refine q_put X w 91 3 .int (ci := 5) (by decide) rfl rfl rfl hi5 tyX5_ok nmX5 (by decide) (by decide +kernel) rfl (by decide +kernel) (rfl) (rfl) (Nat.le_of_ble_eq_true rfl) dX5_loadBits_29 (fun H locs w => ?_)
      obtain ⟨h_29, eh_29⟩ : ∃ z9, z9 = upI h 91 3 (nI 1) := ⟨_, rfl⟩
      rw [← eh_29] at w
      have kT : h_29.1 91 3 = nI 1 := by rw [eh_29, upI_s]; rfl
      refine lv_aload_n hx hb dX5_loadBits_32 rfl (lv_at hl 0 rfl) ?_
      refine q_get X w 91 3 (ci := 5) (by decide) rfl rfl hi5 (by decide) (by decide +kernel) rfl dX5_loadBits_33 ?_
      rw [kT]
      refine lv_if_le (tgt := 41) hx hb dX5_loadBits_36 (by decide) (fun c_36 => ?_) (fun c_36 => ?_)
      · exact absurd c_36 (by decide)
      · refine lv_lconst (v := 0) hx hb dX5_loadBits_39 (by decide) ?_
        exact hret _ _ _ _ _ _ _ _ dX5_loadBits_40 w (Or.inr (Or.inr (Or.inr ⟨hd_2, rfl, eh_29⟩))) (Nat.le_of_ble_eq_true rfl) (Nat.le_of_ble_eq_true rfl)
    · exact absurd (by decide) c_5
