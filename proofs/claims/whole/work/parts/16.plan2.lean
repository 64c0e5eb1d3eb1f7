abbrev rc_X1_readLine : Room := { frames := 1, cells := 0, slots := 0, locals := 30 }
set_option maxHeartbeats 4000000 in
set_option maxRecDepth 100000 in
theorem c_X1_readLine (l : Launch) (k : kY) (h : hS) {P P2 : Nat} (hP : pp P) (hP2 : pp P2) : CT l k yX1_readLine wsX1_readLine rc_X1_readLine [.ref (k.2.1 2), .ref (k.2.1 P), .ref (k.2.1 P2)] h (QV k (fun h' => h' = rlz h P P2)) 0 0 := by
  refine q_metV (cc := cX1_readLine) (maxL := 4) (by decide) rfl (Nat.le_of_ble_eq_true rfl) ?_
  intro p e s m args below meth c Q ls X w hl hret
  have hx := X.1
  have hb := X.2.1
  have hown := X.2.2.2.1
  have hts := X.2.2.2.2
  have hl : lv_has ls 4 [(0, .ref (k.2.1 2)), (1, .ref (k.2.1 P)), (2, .ref (k.2.1 P2))] := hl
  have hi0 : ∀ w ∈ u_ws RX0 TX0 10, w ∈ wsX1_readLine := by decide +kernel
  have hi1 : ∀ w ∈ u_ws RX1 TX1 3, w ∈ wsX1_readLine := by decide +kernel
  refine lv_iconst (v := nI 0) hx hb dX1_readLine_0 (by decide) ?_
  refine lv_istore_n (lv' := [(3, .int (nI 0)), (0, .ref (k.2.1 2)), (1, .ref (k.2.1 P)), (2, .ref (k.2.1 P2))]) hx hb dX1_readLine_1 rfl hl (by decide) rfl (fun ls hl => ?_)
  have lp : ∀ (n : Nat) (t : Nat), (t ≤ 16) → (16 - t) < n → ∀ (H : Heap) (locs : List Loc) (ls : Array Slot), WX k s H locs (setL h 3 (pfz (dnP h P P2) (h.2.1 3) t)) → lv_has ls 4 [(0, .ref (k.2.1 2)), (1, .ref (k.2.1 P)), (2, .ref (k.2.1 P2)), (3, .int (nI t))] → W p l e rc_X1_readLine s m args below meth c H locs 0 0 Q (F0 m 2 ls []) := by
    intro n
    induction n with
    | zero => intro t _ hm; exact absurd hm (Nat.not_lt_zero _)
    | succ n ih =>
      intro t hinv hm H locs ls w hl
      refine lv_iload_n hx hb dX1_readLine_2 rfl (lv_at hl 3 rfl) ?_
      refine lv_bipush (v := nI 16) hx hb dX1_readLine_3 (by decide) ?_
      refine q_icge X (tgt := 26) (by omega) (by decide) dX1_readLine_5 (by decide) (fun c_5 => ?_) (fun c_5 => ?_)
      · obtain rfl : t = 16 := by omega
        have w := w.nL 3 (dnP h P P2) (fun _ => rfl) (fun j hj => by rw [setL_s, pfz_in (by omega)])
        rw [setL_setL] at w
        obtain ⟨g26, eg26⟩ : ∃ z, z = setL h 3 (dnP h P P2) := ⟨_, rfl⟩
        rw [← eg26] at w
        refine lv_aload_n hx hb dX1_readLine_26 rfl (lv_at hl 1 rfl) ?_
        refine q_get X w P 2 (ci := 0) (pp_lt0 hP) (hE_p0 hP k _) rfl hi0 (by decide) (by decide +kernel) rfl dX1_readLine_27 ?_
        refine lv_iconst (v := nI 0) hx hb dX1_readLine_30 (by decide) ?_
        refine lv_aload_n hx hb dX1_readLine_31 rfl (lv_at hl 0 rfl) ?_
        refine q_get X w 2 1 (ci := 1) (by decide) rfl rfl hi1 (by decide) (by decide +kernel) rfl dX1_readLine_32 ?_
        refine lv_iconst (v := nI 0) hx hb dX1_readLine_35 (by decide) ?_
        refine lv_bipush (v := nI 16) hx hb dX1_readLine_36 (by decide) ?_
        refine q_copyI X w (P + 3) 4 (pp_lt hP (c := 3) (by decide)) (by decide) (hE_pi hP 3 (by decide) (by decide) k) (fun _ => rfl) hl.1 (by decide +kernel) (by decide +kernel) (by decide +kernel) (by decide +kernel) (Nat.le_of_ble_eq_true rfl) (Nat.le_of_ble_eq_true rfl) dX1_readLine_38 (fun H locs w => ?_)
        obtain ⟨h_38, eh_38⟩ : ∃ z, z = setI g26 4 (g26.1 (P + 3)) := ⟨_, rfl⟩
        rw [← eh_38] at w
        exact hret _ _ _ _ _ _ _ dX1_readLine_41 w (by rw [eh_38, eg26]; rfl) (Nat.le_of_ble_eq_true rfl) (Nat.le_of_ble_eq_true rfl)
      · refine lv_aload_n hx hb dX1_readLine_8 rfl (lv_at hl 0 rfl) ?_
        refine q_get X w 2 0 (ci := 1) (by decide) rfl rfl hi1 (by decide) (by decide +kernel) rfl dX1_readLine_9 ?_
        refine lv_iload_n hx hb dX1_readLine_12 rfl (lv_at hl 3 rfl) ?_
        refine lv_aload_n hx hb dX1_readLine_13 rfl (lv_at hl 1 rfl) ?_
        refine lv_aload_n hx hb dX1_readLine_14 rfl (lv_at hl 2 rfl) ?_
        refine lv_iload_n hx hb dX1_readLine_15 rfl (lv_at hl 3 rfl) ?_
        refine q_calll w (q_runV X w P (c_X0_noiseBeside l k (setL h 3 (pfz (dnP h P P2) (h.2.1 3) t)) hP hP2 (t := t) (by omega)) (cwV 2 hts gX1_readLine_X0_noiseBeside rfl rfl rfl (by decide +kernel) ⟨Nat.le_of_ble_eq_true rfl, Nat.le_of_ble_eq_true rfl⟩) (pp_lt0 hP) (hE_p0 hP k _) rfl rfl hl.1 rfl (Nat.le_of_ble_eq_true rfl) dX1_readLine_16 ⟨Nat.le_of_ble_eq_true rfl, Nat.le_of_ble_eq_true rfl⟩) (fun r_16 h_16 H locs hp w => ?_)
        obtain ⟨er_16, eh_16⟩ := hp
        rw [eh_16] at w
        have er_16 : r_16 = dnP (setL h 3 (pfz (dnP h P P2) (h.2.1 3) t)) P P2 t := er_16
        subst er_16
        rw [dnP_setL3 _ _ hP2]
        refine q_last X w 3 t (by decide) (fun _ => rfl) rfl (by omega) (by decide) dX1_readLine_19 (fun H locs w => ?_)
        obtain ⟨h_19, eh_19⟩ : ∃ z, z = upL (setL h 3 (pfz (dnP h P P2) (h.2.1 3) t)) 3 t (dnP h P P2 t) := ⟨_, rfl⟩
        rw [← eh_19] at w
        refine lv_iinc (v := nI (t + 1)) (lv' := [(3, .int (nI (t + 1))), (0, .ref (k.2.1 2)), (1, .ref (k.2.1 P)), (2, .ref (k.2.1 P2))]) hx hb dX1_readLine_20 hl (k := 3) rfl (nI_1 _) (by decide) rfl (fun ls hl => ?_)
        refine lv_goto (tgt := 2) hx hb dX1_readLine_23 (by decide) ?_
        rw [eh_19, upL_set, setL_s, setL_setL, pfz_up] at w
        exact ih (t + 1) (by omega) (by omega) _ _ _ w (lv_sub hl [1, 2, 3, 0] rfl)
  have e0 : setL h 3 (pfz (dnP h P P2) (h.2.1 3) 0) = h := by rw [pfz_0, setL_self]
  rw [← e0] at w
  exact lp 17 0 (by omega) (by omega) _ _ _ w (lv_sub hl [1, 2, 3, 0] rfl)

abbrev rc_X1_readTable : Room := { frames := 2, cells := 0, slots := 0, locals := 53 }
set_option maxHeartbeats 4000000 in
set_option maxRecDepth 100000 in
theorem c_X1_readTable (l : Launch) (k : kY) (h : hS) {P P2 : Nat} (hP : pp P) (hP2 : pp P2) : CT l k yX1_readTable wsX1_readTable rc_X1_readTable [.ref (k.2.1 2), .ref (k.2.1 P), .ref (k.2.1 P2)] h (QV k (fun h' => h' = rtz h P P2)) 0 0 := by
  refine q_metV (cc := cX1_readTable) (maxL := 3) (by decide) rfl (Nat.le_of_ble_eq_true rfl) ?_
  intro p e s m args below meth c Q ls X w hl hret
  have hx := X.1
  have hb := X.2.1
  have hown := X.2.2.2.1
  have hts := X.2.2.2.2
  have hl : lv_has ls 3 [(0, .ref (k.2.1 2)), (1, .ref (k.2.1 P)), (2, .ref (k.2.1 P2))] := hl
  have hi0 : ∀ w ∈ u_ws RX0 TX0 10, w ∈ wsX1_readTable := by decide +kernel
  have hi1 : ∀ w ∈ u_ws RX1 TX1 3, w ∈ wsX1_readTable := by decide +kernel
  refine lv_aload_n hx hb dX1_readTable_0 rfl (lv_at hl 0 rfl) ?_
  refine lv_aload_n hx hb dX1_readTable_1 rfl (lv_at hl 1 rfl) ?_
  refine lv_aload_n hx hb dX1_readTable_2 rfl (lv_at hl 2 rfl) ?_
  refine q_callv w (q_runV X w 2 (c_X1_readLine l k h hP hP2) (cwV 2 hts gX1_readTable_X1_readLine rfl rfl rfl (by decide +kernel) ⟨Nat.le_of_ble_eq_true rfl, Nat.le_of_ble_eq_true rfl⟩) (by decide) rfl rfl rfl hl.1 rfl (Nat.le_of_ble_eq_true rfl) dX1_readTable_3 ⟨Nat.le_of_ble_eq_true rfl, Nat.le_of_ble_eq_true rfl⟩) (fun h_3 H locs hp w => ?_)
  have eh_3 := hp
  refine lv_aload_n hx hb dX1_readTable_6 rfl (lv_at hl 1 rfl) ?_
  refine q_get X w P 3 (ci := 0) (pp_lt0 hP) (hE_p0 hP k _) rfl hi0 (by decide) (by decide +kernel) rfl dX1_readTable_7 ?_
  refine lv_iconst (v := nI 0) hx hb dX1_readTable_10 (by decide) ?_
  refine lv_aload_n hx hb dX1_readTable_11 rfl (lv_at hl 0 rfl) ?_
  refine q_get X w 2 2 (ci := 1) (by decide) rfl rfl hi1 (by decide) (by decide +kernel) rfl dX1_readTable_12 ?_
  refine lv_iconst (v := nI 0) hx hb dX1_readTable_15 (by decide) ?_
  refine lv_bipush (v := nI 16) hx hb dX1_readTable_16 (by decide) ?_
  refine q_copyI X w (P + 4) 5 (pp_lt hP (c := 4) (by decide)) (by decide) (hE_pi hP 4 (by decide) (by decide) k) (fun _ => rfl) hl.1 (by decide +kernel) (by decide +kernel) (by decide +kernel) (by decide +kernel) (Nat.le_of_ble_eq_true rfl) (Nat.le_of_ble_eq_true rfl) dX1_readTable_18 (fun H locs w => ?_)
  obtain ⟨h_18, eh_18⟩ : ∃ z, z = setI h_3 5 (h_3.1 (P + 4)) := ⟨_, rfl⟩
  rw [← eh_18] at w
  exact hret _ _ _ _ _ _ _ dX1_readTable_21 w (by rw [eh_18, eh_3, rtz]; congr 1; unfold rlz; rw [setI_o _ _ (by have := hP.1; omega)]; rfl) (Nat.le_of_ble_eq_true rfl) (Nat.le_of_ble_eq_true rfl)

abbrev rc_X1_clearBits : Room := { frames := 1, cells := 0, slots := 0, locals := 23 }
set_option maxHeartbeats 4000000 in
set_option maxRecDepth 100000 in
theorem c_X1_clearBits (l : Launch) (k : kY) (h : hS)  : CT l k yX1_clearBits wsX1_clearBits rc_X1_clearBits [.ref (k.2.1 2)] h (QV k (fun h' => h' = setI h 5 (fun _ => nI 0))) 0 0 := by
  refine q_metV (cc := cX1_clearBits) (maxL := 1) (by decide) rfl (Nat.le_of_ble_eq_true rfl) ?_
  intro p e s m args below meth c Q ls X w hl hret
  have hx := X.1
  have hb := X.2.1
  have hown := X.2.2.2.1
  have hts := X.2.2.2.2
  have hl : lv_has ls 1 [(0, .ref (k.2.1 2))] := hl
  have hi1 : ∀ w ∈ u_ws RX1 TX1 3, w ∈ wsX1_clearBits := by decide +kernel
  refine lv_aload_n hx hb dX1_clearBits_0 rfl (lv_at hl 0 rfl) ?_
  refine q_get X w 2 2 (ci := 1) (by decide) rfl rfl hi1 (by decide) (by decide +kernel) rfl dX1_clearBits_1 ?_
  refine lv_iconst (v := nI 0) hx hb dX1_clearBits_4 (by decide) ?_
  refine q_callv w (q_runS X w (c_J7_fill_53178 l k h (nI 0)) (va_cwS 2 hts gX1_clearBits_J7_fill_53178 rfl rfl rfl (by decide +kernel) ⟨Nat.le_of_ble_eq_true rfl, Nat.le_of_ble_eq_true rfl⟩) rfl hl.1 rfl (Nat.le_of_ble_eq_true rfl) dX1_clearBits_5 ⟨Nat.le_of_ble_eq_true rfl, Nat.le_of_ble_eq_true rfl⟩) (fun h_5 H locs hp w => ?_)
  have eh_5 := hp
  exact hret _ _ _ _ _ _ _ dX1_clearBits_8 w eh_5 (Nat.le_of_ble_eq_true rfl) (Nat.le_of_ble_eq_true rfl)

abbrev rc_X1_fillToBudget : Room := { frames := 2, cells := 0, slots := 0, locals := 48 }
set_option maxHeartbeats 4000000 in
set_option maxRecDepth 100000 in
theorem c_X1_fillToBudget (l : Launch) (k : kY) (h : hS) (bud : Int64) : CT l k yX1_fillToBudget wsX1_fillToBudget rc_X1_fillToBudget [.ref (k.2.1 2), .long bud] h (QV k (fun h' => h' = setI h 5 (fbz (h.2.1 3) (h.1 4) bud 192 (h.1 5) 0))) 0 0 := by
  refine q_metV (cc := cX1_fillToBudget) (maxL := 7) (by decide) rfl (Nat.le_of_ble_eq_true rfl) ?_
  intro p e s m args below meth c Q ls X w hl hret
  have hx := X.1
  have hb := X.2.1
  have hown := X.2.2.2.1
  have hts := X.2.2.2.2
  have hl : lv_has ls 7 [(0, .ref (k.2.1 2)), (1, .long bud)] := hl
  have hi1 : ∀ w ∈ u_ws RX1 TX1 3, w ∈ wsX1_fillToBudget := by decide +kernel
  refine lv_lconst (v := 0) hx hb dX1_fillToBudget_0 (by decide) ?_
  refine lv_lstore_n (lv' := [(3, .long 0), (0, .ref (k.2.1 2)), (1, .long bud)]) hx hb dX1_fillToBudget_1 rfl hl (by decide) rfl (fun ls hl => ?_)
  refine lv_iconst (v := nI 0) hx hb dX1_fillToBudget_2 (by decide) ?_
  refine lv_istore (lv' := [(5, .int (nI 0)), (3, .long 0), (0, .ref (k.2.1 2)), (1, .long bud)]) hx hb dX1_fillToBudget_3 hl (by decide) rfl (fun ls hl => ?_)
  have lp : ∀ (n : Nat) (i : Nat) (cn : Nat → Int32) (s9 : Int64), (i ≤ 192 ∧ fbz (h.2.1 3) (h.1 4) bud (192 - i) cn s9 = fbz (h.2.1 3) (h.1 4) bud 192 (h.1 5) 0) → (192 - i) < n → ∀ (H : Heap) (locs : List Loc) (ls : Array Slot), WX k s H locs (setI h 5 cn) → lv_has ls 7 [(0, .ref (k.2.1 2)), (1, .long bud), (3, .long s9), (5, .int (nI i))] → W p l e rc_X1_fillToBudget s m args below meth c H locs 0 0 Q (F0 m 5 ls []) := by
    intro n
    induction n with
    | zero => intro i cn s9 _ hm; exact absurd hm (Nat.not_lt_zero _)
    | succ n ih =>
      intro i cn s9 hinv hm H locs ls w hl
      have hi := hinv.1
      refine lv_iload hx hb dX1_fillToBudget_5 (lv_at hl 3 rfl) ?_
      refine lv_sipush (v := nI 192) hx hb dX1_fillToBudget_7 (by decide) ?_
      refine q_icge X (tgt := 59) (by omega) (by decide) dX1_fillToBudget_10 (by decide) (fun c_10 => ?_) (fun c_10 => ?_)
      · obtain rfl : i = 192 := by omega
        have e2 := hinv.2
        rw [Nat.sub_self, fbz] at e2
        exact hret _ _ _ _ _ _ _ dX1_fillToBudget_59 w (by rw [← e2]) (Nat.le_of_ble_eq_true rfl) (Nat.le_of_ble_eq_true rfl)
      · refine lv_aload_n hx hb dX1_fillToBudget_13 rfl (lv_at hl 0 rfl) ?_
        refine lv_iconst (v := (-1)) hx hb dX1_fillToBudget_14 (by decide) ?_
        refine q_calli w (q_runV X w 2 (c_X1_cheapestTone l k (setI h 5 cn) (-1)) (cwV 1 hts gX1_fillToBudget_X1_cheapestTone rfl rfl rfl (by decide +kernel) ⟨Nat.le_of_ble_eq_true rfl, Nat.le_of_ble_eq_true rfl⟩) (by decide) rfl rfl rfl hl.1 rfl (Nat.le_of_ble_eq_true rfl) dX1_fillToBudget_15 ⟨Nat.le_of_ble_eq_true rfl, Nat.le_of_ble_eq_true rfl⟩) (fun r_15 h_15 H locs hp w => ?_)
        obtain ⟨er_15, eh_15⟩ := hp
        rw [eh_15] at w
        have er_15 : r_15 = oI (chz (h.2.1 3) (h.1 4) cn (-1)) := er_15
        rcases ho_15 : chz (h.2.1 3) (h.1 4) cn (-1) with _ | t_15
        · rw [ho_15] at er_15
          have er_15 : r_15 = (-1) := er_15
          subst er_15
          refine lv_istore (lv' := [(6, .int (-1)), (0, .ref (k.2.1 2)), (1, .long bud), (3, .long s9), (5, .int (nI i))]) hx hb dX1_fillToBudget_18 hl (by decide) rfl (fun ls hl => ?_)
          refine lv_iload hx hb dX1_fillToBudget_20 (lv_at hl 0 rfl) ?_
          refine lv_if_ge (tgt := 26) hx hb dX1_fillToBudget_22 (by decide) (fun c_22 => ?_) (fun c_22 => ?_)
          · exact absurd c_22 (by decide)
          · have e1 : 192 - i = (192 - (i + 1)) + 1 := by omega
            have e2 := hinv.2
            rw [e1, fbz] at e2
            rw [ho_15] at e2
            exact hret _ _ _ _ _ _ _ dX1_fillToBudget_25 w (by rw [← e2]) (Nat.le_of_ble_eq_true rfl) (Nat.le_of_ble_eq_true rfl)
        · rw [ho_15] at er_15
          have er_15 : r_15 = nI t_15 := er_15
          subst er_15
          have ht_15 : t_15 < 16 := (amin_bd ho_15).1
          refine lv_istore (lv' := [(6, .int (nI t_15)), (0, .ref (k.2.1 2)), (1, .long bud), (3, .long s9), (5, .int (nI i))]) hx hb dX1_fillToBudget_18 hl (by decide) rfl (fun ls hl => ?_)
          refine lv_iload hx hb dX1_fillToBudget_20 (lv_at hl 0 rfl) ?_
          refine lv_if_ge (tgt := 26) hx hb dX1_fillToBudget_22 (by decide) (fun c_22 => ?_) (fun c_22 => ?_)
          · refine lv_lload_n hx hb dX1_fillToBudget_26 rfl (lv_at hl 3 rfl) ?_
            refine lv_aload_n hx hb dX1_fillToBudget_27 rfl (lv_at hl 1 rfl) ?_
            refine lv_iload hx hb dX1_fillToBudget_28 (lv_at hl 0 rfl) ?_
            refine q_calll w (q_runV X w 2 (c_X1_stepOf l k (setI h 5 cn) (t := t_15) (by omega)) (cwV 1 hts gX1_fillToBudget_X1_stepOf rfl rfl rfl (by decide +kernel) ⟨Nat.le_of_ble_eq_true rfl, Nat.le_of_ble_eq_true rfl⟩) (by decide) rfl rfl rfl hl.1 rfl (Nat.le_of_ble_eq_true rfl) dX1_fillToBudget_30 ⟨Nat.le_of_ble_eq_true rfl, Nat.le_of_ble_eq_true rfl⟩) (fun r_30 h_30 H locs hp w => ?_)
            obtain ⟨er_30, eh_30⟩ := hp
            rw [eh_30] at w
            have er_30 : r_30 = stz (h.2.1 3 t_15) (cn t_15) := er_30
            subst er_30
            refine lv_ladd hx hb dX1_fillToBudget_33 ?_
            refine lv_lstore_n (lv' := [(3, .long (s9 + (stz (h.2.1 3 t_15) (cn t_15)))), (6, .int (nI t_15)), (0, .ref (k.2.1 2)), (1, .long bud), (5, .int (nI i))]) hx hb dX1_fillToBudget_34 rfl hl (by decide) rfl (fun ls hl => ?_)
            refine lv_lload_n hx hb dX1_fillToBudget_35 rfl (lv_at hl 0 rfl) ?_
            refine lv_lload_n hx hb dX1_fillToBudget_36 rfl (lv_at hl 3 rfl) ?_
            refine q_lif_le X (tgt := 42) dX1_fillToBudget_37 dX1_fillToBudget_38 (by decide) (fun c_37 => ?_) (fun c_37 => ?_)
            · refine lv_aload_n hx hb dX1_fillToBudget_42 rfl (lv_at hl 2 rfl) ?_
              refine q_get X w 2 2 (ci := 1) (by decide) rfl rfl hi1 (by decide) (by decide +kernel) rfl dX1_fillToBudget_43 ?_
              refine lv_iload hx hb dX1_fillToBudget_46 (lv_at hl 1 rfl) ?_
              refine lv_dup2_11 hx hb dX1_fillToBudget_48 rfl rfl ?_
              refine q_iald X w 5 t_15 (by decide) (fun _ => rfl) rfl (by omega) (by decide) dX1_fillToBudget_49 ?_
              refine lv_iconst (v := nI 1) hx hb dX1_fillToBudget_50 (by decide) ?_
              refine lv_iadd hx hb dX1_fillToBudget_51 ?_
              refine lv_topi (fun x_52 ex_52 => ?_)
              refine q_iast X w 5 t_15 (by decide) (fun _ => rfl) rfl (by omega) (by decide) dX1_fillToBudget_52 (fun H locs w => ?_)
              obtain ⟨h_52, eh_52⟩ : ∃ z, z = upI (setI h 5 cn) 5 t_15 x_52 := ⟨_, rfl⟩
              rw [← eh_52] at w
              refine lv_iinc (v := nI (i + 1)) (lv' := [(5, .int (nI (i + 1))), (3, .long (s9 + (stz (h.2.1 3 t_15) (cn t_15)))), (6, .int (nI t_15)), (0, .ref (k.2.1 2)), (1, .long bud)]) hx hb dX1_fillToBudget_53 hl (k := 4) rfl (nI_1 _) (by decide) rfl (fun ls hl => ?_)
              refine lv_goto (tgt := 5) hx hb dX1_fillToBudget_56 (by decide) ?_
              rw [eh_52, upI_set, setI_s, setI_setI, ex_52, setI_s] at w
              have e1 : 192 - i = (192 - (i + 1)) + 1 := by omega
              have e2 := hinv.2
              rw [e1, fbz] at e2
              rw [ho_15] at e2
              dsimp only at e2
              rw [if_neg c_37] at e2
              exact ih (i + 1) (va_up cn t_15 (cn t_15 + nI 1)) (s9 + (stz (h.2.1 3 t_15) (cn t_15))) ⟨by omega, e2⟩ (by omega) _ _ _ w (lv_sub hl [3, 4, 1, 0] rfl)
            · have e1 : 192 - i = (192 - (i + 1)) + 1 := by omega
              have e2 := hinv.2
              rw [e1, fbz] at e2
              rw [ho_15] at e2
              dsimp only at e2
              rw [if_pos c_37] at e2
              exact hret _ _ _ _ _ _ _ dX1_fillToBudget_41 w (by rw [← e2]) (Nat.le_of_ble_eq_true rfl) (Nat.le_of_ble_eq_true rfl)
          · exact absurd (nI_pos' (by omega)) c_22
  rw [← setI_self h 5] at w
  exact lp 193 0 (h.1 5) 0 ⟨by omega, rfl⟩ (by omega) _ _ _ w (lv_sub hl [2, 3, 1, 0] rfl)

abbrev rc_X1_fillToTarget : Room := { frames := 2, cells := 0, slots := 0, locals := 48 }
set_option maxHeartbeats 4000000 in
set_option maxRecDepth 100000 in
theorem c_X1_fillToTarget (l : Launch) (k : kY) (h : hS) (T : Nat) (hT : T ≤ 192) : CT l k yX1_fillToTarget wsX1_fillToTarget rc_X1_fillToTarget [.ref (k.2.1 2), .int (nI T)] h (QI k (fun r h' => r = bI (ftz (h.2.1 3) (h.1 4) T (h.1 5)).2 ∧ h' = setI h 5 (ftz (h.2.1 3) (h.1 4) T (h.1 5)).1)) 0 0 := by
  refine q_metI (cc := cX1_fillToTarget) (maxL := 4) (ret := some .boolean) (ty := .boolean) (by decide) rfl rfl (Nat.le_of_ble_eq_true rfl) ?_
  intro p e s m args below meth c Q ls X w hl hret
  have hx := X.1
  have hb := X.2.1
  have hown := X.2.2.2.1
  have hts := X.2.2.2.2
  have hl : lv_has ls 4 [(0, .ref (k.2.1 2)), (1, .int (nI T))] := hl
  have hi1 : ∀ w ∈ u_ws RX1 TX1 3, w ∈ wsX1_fillToTarget := by decide +kernel
  refine lv_iconst (v := nI 0) hx hb dX1_fillToTarget_0 (by decide) ?_
  refine lv_istore_n (lv' := [(2, .int (nI 0)), (0, .ref (k.2.1 2)), (1, .int (nI T))]) hx hb dX1_fillToTarget_1 rfl hl (by decide) rfl (fun ls hl => ?_)
  have lp : ∀ (n : Nat) (i : Nat) (cn : Nat → Int32), (i ≤ T ∧ ftz (h.2.1 3) (h.1 4) (T - i) cn = ftz (h.2.1 3) (h.1 4) T (h.1 5)) → (T - i) < n → ∀ (H : Heap) (locs : List Loc) (ls : Array Slot), WX k s H locs (setI h 5 cn) → lv_has ls 4 [(0, .ref (k.2.1 2)), (1, .int (nI T)), (2, .int (nI i))] → W p l e rc_X1_fillToTarget s m args below meth c H locs 0 0 Q (F0 m 2 ls []) := by
    intro n
    induction n with
    | zero => intro i cn _ hm; exact absurd hm (Nat.not_lt_zero _)
    | succ n ih =>
      intro i cn hinv hm H locs ls w hl
      have hi := hinv.1
      refine lv_iload_n hx hb dX1_fillToTarget_2 rfl (lv_at hl 2 rfl) ?_
      refine lv_iload_n hx hb dX1_fillToTarget_3 rfl (lv_at hl 1 rfl) ?_
      refine q_icge X (tgt := 35) (by omega) (by omega) dX1_fillToTarget_4 (by decide) (fun c_4 => ?_) (fun c_4 => ?_)
      · refine lv_iconst (v := nI 1) hx hb dX1_fillToTarget_35 (by decide) ?_
        obtain rfl : i = T := by omega
        have e2 := hinv.2
        rw [Nat.sub_self, ftz] at e2
        exact hret _ _ _ _ _ _ _ _ dX1_fillToTarget_36 w (by decide) ⟨by rw [← e2]; rfl, by rw [← e2]⟩ (Nat.le_of_ble_eq_true rfl) (Nat.le_of_ble_eq_true rfl)
      · refine lv_aload_n hx hb dX1_fillToTarget_7 rfl (lv_at hl 0 rfl) ?_
        refine lv_iconst (v := (-1)) hx hb dX1_fillToTarget_8 (by decide) ?_
        refine q_calli w (q_runV X w 2 (c_X1_cheapestTone l k (setI h 5 cn) (-1)) (cwV 1 hts gX1_fillToTarget_X1_cheapestTone rfl rfl rfl (by decide +kernel) ⟨Nat.le_of_ble_eq_true rfl, Nat.le_of_ble_eq_true rfl⟩) (by decide) rfl rfl rfl hl.1 rfl (Nat.le_of_ble_eq_true rfl) dX1_fillToTarget_9 ⟨Nat.le_of_ble_eq_true rfl, Nat.le_of_ble_eq_true rfl⟩) (fun r_9 h_9 H locs hp w => ?_)
        obtain ⟨er_9, eh_9⟩ := hp
        rw [eh_9] at w
        have er_9 : r_9 = oI (chz (h.2.1 3) (h.1 4) cn (-1)) := er_9
        rcases ho_9 : chz (h.2.1 3) (h.1 4) cn (-1) with _ | t_9
        · rw [ho_9] at er_9
          have er_9 : r_9 = (-1) := er_9
          subst er_9
          refine lv_istore_n (lv' := [(3, .int (-1)), (0, .ref (k.2.1 2)), (1, .int (nI T)), (2, .int (nI i))]) hx hb dX1_fillToTarget_12 rfl hl (by decide) rfl (fun ls hl => ?_)
          refine lv_iload_n hx hb dX1_fillToTarget_13 rfl (lv_at hl 0 rfl) ?_
          refine lv_if_ge (tgt := 19) hx hb dX1_fillToTarget_14 (by decide) (fun c_14 => ?_) (fun c_14 => ?_)
          · exact absurd c_14 (by decide)
          · refine lv_iconst (v := nI 0) hx hb dX1_fillToTarget_17 (by decide) ?_
            have e1 : T - i = (T - (i + 1)) + 1 := by omega
            have e2 := hinv.2
            rw [e1, ftz] at e2
            rw [ho_9] at e2
            exact hret _ _ _ _ _ _ _ _ dX1_fillToTarget_18 w (by decide) ⟨by rw [← e2]; rfl, by rw [← e2]⟩ (Nat.le_of_ble_eq_true rfl) (Nat.le_of_ble_eq_true rfl)
        · rw [ho_9] at er_9
          have er_9 : r_9 = nI t_9 := er_9
          subst er_9
          have ht_9 : t_9 < 16 := (amin_bd ho_9).1
          refine lv_istore_n (lv' := [(3, .int (nI t_9)), (0, .ref (k.2.1 2)), (1, .int (nI T)), (2, .int (nI i))]) hx hb dX1_fillToTarget_12 rfl hl (by decide) rfl (fun ls hl => ?_)
          refine lv_iload_n hx hb dX1_fillToTarget_13 rfl (lv_at hl 0 rfl) ?_
          refine lv_if_ge (tgt := 19) hx hb dX1_fillToTarget_14 (by decide) (fun c_14 => ?_) (fun c_14 => ?_)
          · refine lv_aload_n hx hb dX1_fillToTarget_19 rfl (lv_at hl 1 rfl) ?_
            refine q_get X w 2 2 (ci := 1) (by decide) rfl rfl hi1 (by decide) (by decide +kernel) rfl dX1_fillToTarget_20 ?_
            refine lv_iload_n hx hb dX1_fillToTarget_23 rfl (lv_at hl 0 rfl) ?_
            refine lv_dup2_11 hx hb dX1_fillToTarget_24 rfl rfl ?_
            refine q_iald X w 5 t_9 (by decide) (fun _ => rfl) rfl (by omega) (by decide) dX1_fillToTarget_25 ?_
            refine lv_iconst (v := nI 1) hx hb dX1_fillToTarget_26 (by decide) ?_
            refine lv_iadd hx hb dX1_fillToTarget_27 ?_
            refine lv_topi (fun x_28 ex_28 => ?_)
            refine q_iast X w 5 t_9 (by decide) (fun _ => rfl) rfl (by omega) (by decide) dX1_fillToTarget_28 (fun H locs w => ?_)
            obtain ⟨h_28, eh_28⟩ : ∃ z, z = upI (setI h 5 cn) 5 t_9 x_28 := ⟨_, rfl⟩
            rw [← eh_28] at w
            refine lv_iinc (v := nI (i + 1)) (lv' := [(2, .int (nI (i + 1))), (3, .int (nI t_9)), (0, .ref (k.2.1 2)), (1, .int (nI T))]) hx hb dX1_fillToTarget_29 hl (k := 3) rfl (nI_1 _) (by decide) rfl (fun ls hl => ?_)
            refine lv_goto (tgt := 2) hx hb dX1_fillToTarget_32 (by decide) ?_
            rw [eh_28, upI_set, setI_s, setI_setI, ex_28, setI_s] at w
            have e1 : T - i = (T - (i + 1)) + 1 := by omega
            have e2 := hinv.2
            rw [e1, ftz] at e2
            rw [ho_9] at e2
            exact ih (i + 1) (va_up cn t_9 (cn t_9 + nI 1)) ⟨by omega, e2⟩ (by omega) _ _ _ w (lv_sub hl [2, 3, 0] rfl)
          · exact absurd (nI_pos' (by omega)) c_14
  rw [← setI_self h 5] at w
  exact lp (T + 1) 0 (h.1 5) ⟨by omega, by rw [Nat.sub_zero]⟩ (by omega) _ _ _ w (lv_sub hl [1, 2, 0] rfl)

abbrev rc_X1_makeEfficient : Room := { frames := 2, cells := 0, slots := 0, locals := 48 }
set_option maxHeartbeats 4000000 in
set_option maxRecDepth 100000 in
theorem c_X1_makeEfficient (l : Launch) (k : kY) (h : hS)  : CT l k yX1_makeEfficient wsX1_makeEfficient rc_X1_makeEfficient [.ref (k.2.1 2)] h (QI k (fun r h' => r = nI (mez (h.2.1 3) (h.1 4) 10000 (h.1 5) 0).2 ∧ h' = setI h 5 (mez (h.2.1 3) (h.1 4) 10000 (h.1 5) 0).1)) 0 0 := by
  refine q_metI (cc := cX1_makeEfficient) (maxL := 4) (ret := some .int) (ty := .int) (by decide) rfl rfl (Nat.le_of_ble_eq_true rfl) ?_
  intro p e s m args below meth c Q ls X w hl hret
  have hx := X.1
  have hb := X.2.1
  have hown := X.2.2.2.1
  have hts := X.2.2.2.2
  have hl : lv_has ls 4 [(0, .ref (k.2.1 2))] := hl
  have hi1 : ∀ w ∈ u_ws RX1 TX1 3, w ∈ wsX1_makeEfficient := by decide +kernel
  refine lv_iconst (v := nI 0) hx hb dX1_makeEfficient_0 (by decide) ?_
  refine lv_istore_n (lv' := [(1, .int (nI 0)), (0, .ref (k.2.1 2))]) hx hb dX1_makeEfficient_1 rfl hl (by decide) rfl (fun ls hl => ?_)
  have lp : ∀ (n : Nat) (mo : Nat) (cn : Nat → Int32), (mo ≤ 10000 ∧ mez (h.2.1 3) (h.1 4) (10000 - mo) cn mo = mez (h.2.1 3) (h.1 4) 10000 (h.1 5) 0) → (10000 - mo) < n → ∀ (H : Heap) (locs : List Loc) (ls : Array Slot), WX k s H locs (setI h 5 cn) → lv_has ls 4 [(0, .ref (k.2.1 2)), (1, .int (nI mo))] → W p l e rc_X1_makeEfficient s m args below meth c H locs 0 0 Q (F0 m 2 ls []) := by
    intro n
    induction n with
    | zero => intro mo cn _ hm; exact absurd hm (Nat.not_lt_zero _)
    | succ n ih =>
      intro mo cn hinv hm H locs ls w hl
      have hi := hinv.1
      refine lv_iload_n hx hb dX1_makeEfficient_2 rfl (lv_at hl 1 rfl) ?_
      refine lv_sipush (v := nI 10000) hx hb dX1_makeEfficient_3 (by decide) ?_
      refine q_icge X (tgt := 65) (by omega) (by decide) dX1_makeEfficient_6 (by decide) (fun c_6 => ?_) (fun c_6 => ?_)
      · refine lv_iload_n hx hb dX1_makeEfficient_65 rfl (lv_at hl 1 rfl) ?_
        obtain rfl : mo = 10000 := by omega
        have e2 := hinv.2
        rw [Nat.sub_self, mez] at e2
        exact hret _ _ _ _ _ _ _ _ dX1_makeEfficient_66 w rfl ⟨by rw [← e2], by rw [← e2]⟩ (Nat.le_of_ble_eq_true rfl) (Nat.le_of_ble_eq_true rfl)
      · refine lv_aload_n hx hb dX1_makeEfficient_9 rfl (lv_at hl 0 rfl) ?_
        refine q_calli w (q_runV X w 2 (c_X1_dearestTone l k (setI h 5 cn)) (cwV 0 hts gX1_makeEfficient_X1_dearestTone rfl rfl rfl (by decide +kernel) ⟨Nat.le_of_ble_eq_true rfl, Nat.le_of_ble_eq_true rfl⟩) (by decide) rfl rfl rfl hl.1 rfl (Nat.le_of_ble_eq_true rfl) dX1_makeEfficient_10 ⟨Nat.le_of_ble_eq_true rfl, Nat.le_of_ble_eq_true rfl⟩) (fun r_10 h_10 H locs hp w => ?_)
        obtain ⟨er_10, eh_10⟩ := hp
        rw [eh_10] at w
        have er_10 : r_10 = oI (dez (h.2.1 3) cn) := er_10
        rcases ho_10 : dez (h.2.1 3) cn with _ | t_10
        · rw [ho_10] at er_10
          have er_10 : r_10 = (-1) := er_10
          subst er_10
          refine lv_istore_n (lv' := [(2, .int (-1)), (0, .ref (k.2.1 2)), (1, .int (nI mo))]) hx hb dX1_makeEfficient_13 rfl hl (by decide) rfl (fun ls hl => ?_)
          refine lv_aload_n hx hb dX1_makeEfficient_14 rfl (lv_at hl 1 rfl) ?_
          refine lv_iconst (v := (-1)) hx hb dX1_makeEfficient_15 (by decide) ?_
          refine q_calli w (q_runV X w 2 (c_X1_cheapestTone l k (setI h 5 cn) (-1)) (cwV 1 hts gX1_makeEfficient_X1_cheapestTone rfl rfl rfl (by decide +kernel) ⟨Nat.le_of_ble_eq_true rfl, Nat.le_of_ble_eq_true rfl⟩) (by decide) rfl rfl rfl hl.1 rfl (Nat.le_of_ble_eq_true rfl) dX1_makeEfficient_16 ⟨Nat.le_of_ble_eq_true rfl, Nat.le_of_ble_eq_true rfl⟩) (fun r_16 h_16 H locs hp w => ?_)
          obtain ⟨er_16, eh_16⟩ := hp
          rw [eh_16] at w
          have er_16 : r_16 = oI (chz (h.2.1 3) (h.1 4) cn (-1)) := er_16
          rcases ho_16 : chz (h.2.1 3) (h.1 4) cn (-1) with _ | t_16
          · rw [ho_16] at er_16
            have er_16 : r_16 = (-1) := er_16
            subst er_16
            refine lv_istore_n (lv' := [(3, .int (-1)), (2, .int (-1)), (0, .ref (k.2.1 2)), (1, .int (nI mo))]) hx hb dX1_makeEfficient_19 rfl hl (by decide) rfl (fun ls hl => ?_)
            refine lv_iload_n hx hb dX1_makeEfficient_20 rfl (lv_at hl 1 rfl) ?_
            refine lv_if_lt (tgt := 37) hx hb dX1_makeEfficient_21 (by decide) (fun c_21 => ?_) (fun c_21 => ?_)
            · refine lv_iload_n hx hb dX1_makeEfficient_37 rfl (lv_at hl 3 rfl) ?_
              have e1 : 10000 - mo = (10000 - (mo + 1)) + 1 := by omega
              have e2 := hinv.2
              rw [e1, mez] at e2
              exact hret _ _ _ _ _ _ _ _ dX1_makeEfficient_38 w rfl ⟨by first | (rw [ho_10] at e2; rw [← e2]; done) | (rw [ho_10, ho_16] at e2; rw [← e2]; done) | (rw [ho_10, ho_16] at e2; dsimp only at e2; rw [if_neg (show ¬ stz (h.2.1 3 t_16) (cn t_16) < lcz (h.2.1 3 t_10) (cn t_10) from hd_31)] at e2; rw [← e2]), by first | (rw [ho_10] at e2; rw [← e2]; done) | (rw [ho_10, ho_16] at e2; rw [← e2]; done) | (rw [ho_10, ho_16] at e2; dsimp only at e2; rw [if_neg (show ¬ stz (h.2.1 3 t_16) (cn t_16) < lcz (h.2.1 3 t_10) (cn t_10) from hd_31)] at e2; rw [← e2])⟩ (Nat.le_of_ble_eq_true rfl) (Nat.le_of_ble_eq_true rfl)
            · exact absurd (by decide) c_21
          · rw [ho_16] at er_16
            have er_16 : r_16 = nI t_16 := er_16
            subst er_16
            have ht_16 : t_16 < 16 := (amin_bd ho_16).1
            refine lv_istore_n (lv' := [(3, .int (nI t_16)), (2, .int (-1)), (0, .ref (k.2.1 2)), (1, .int (nI mo))]) hx hb dX1_makeEfficient_19 rfl hl (by decide) rfl (fun ls hl => ?_)
            refine lv_iload_n hx hb dX1_makeEfficient_20 rfl (lv_at hl 1 rfl) ?_
            refine lv_if_lt (tgt := 37) hx hb dX1_makeEfficient_21 (by decide) (fun c_21 => ?_) (fun c_21 => ?_)
            · refine lv_iload_n hx hb dX1_makeEfficient_37 rfl (lv_at hl 3 rfl) ?_
              have e1 : 10000 - mo = (10000 - (mo + 1)) + 1 := by omega
              have e2 := hinv.2
              rw [e1, mez] at e2
              exact hret _ _ _ _ _ _ _ _ dX1_makeEfficient_38 w rfl ⟨by first | (rw [ho_10] at e2; rw [← e2]; done) | (rw [ho_10, ho_16] at e2; rw [← e2]; done) | (rw [ho_10, ho_16] at e2; dsimp only at e2; rw [if_neg (show ¬ stz (h.2.1 3 t_16) (cn t_16) < lcz (h.2.1 3 t_10) (cn t_10) from hd_31)] at e2; rw [← e2]), by first | (rw [ho_10] at e2; rw [← e2]; done) | (rw [ho_10, ho_16] at e2; rw [← e2]; done) | (rw [ho_10, ho_16] at e2; dsimp only at e2; rw [if_neg (show ¬ stz (h.2.1 3 t_16) (cn t_16) < lcz (h.2.1 3 t_10) (cn t_10) from hd_31)] at e2; rw [← e2])⟩ (Nat.le_of_ble_eq_true rfl) (Nat.le_of_ble_eq_true rfl)
            · exact absurd (by decide) c_21
        · rw [ho_10] at er_10
          have er_10 : r_10 = nI t_10 := er_10
          subst er_10
          have ht_10 : t_10 < 16 := (amaxC_bd ho_10).1
          refine lv_istore_n (lv' := [(2, .int (nI t_10)), (0, .ref (k.2.1 2)), (1, .int (nI mo))]) hx hb dX1_makeEfficient_13 rfl hl (by decide) rfl (fun ls hl => ?_)
          refine lv_aload_n hx hb dX1_makeEfficient_14 rfl (lv_at hl 1 rfl) ?_
          refine lv_iconst (v := (-1)) hx hb dX1_makeEfficient_15 (by decide) ?_
          refine q_calli w (q_runV X w 2 (c_X1_cheapestTone l k (setI h 5 cn) (-1)) (cwV 1 hts gX1_makeEfficient_X1_cheapestTone rfl rfl rfl (by decide +kernel) ⟨Nat.le_of_ble_eq_true rfl, Nat.le_of_ble_eq_true rfl⟩) (by decide) rfl rfl rfl hl.1 rfl (Nat.le_of_ble_eq_true rfl) dX1_makeEfficient_16 ⟨Nat.le_of_ble_eq_true rfl, Nat.le_of_ble_eq_true rfl⟩) (fun r_16 h_16 H locs hp w => ?_)
          obtain ⟨er_16, eh_16⟩ := hp
          rw [eh_16] at w
          have er_16 : r_16 = oI (chz (h.2.1 3) (h.1 4) cn (-1)) := er_16
          rcases ho_16 : chz (h.2.1 3) (h.1 4) cn (-1) with _ | t_16
          · rw [ho_16] at er_16
            have er_16 : r_16 = (-1) := er_16
            subst er_16
            refine lv_istore_n (lv' := [(3, .int (-1)), (2, .int (nI t_10)), (0, .ref (k.2.1 2)), (1, .int (nI mo))]) hx hb dX1_makeEfficient_19 rfl hl (by decide) rfl (fun ls hl => ?_)
            refine lv_iload_n hx hb dX1_makeEfficient_20 rfl (lv_at hl 1 rfl) ?_
            refine lv_if_lt (tgt := 37) hx hb dX1_makeEfficient_21 (by decide) (fun c_21 => ?_) (fun c_21 => ?_)
            · exact absurd c_21 (nI_pos (by omega))
            · refine lv_iload_n hx hb dX1_makeEfficient_24 rfl (lv_at hl 0 rfl) ?_
              refine lv_if_lt (tgt := 37) hx hb dX1_makeEfficient_25 (by decide) (fun c_25 => ?_) (fun c_25 => ?_)
              · refine lv_iload_n hx hb dX1_makeEfficient_37 rfl (lv_at hl 3 rfl) ?_
                have e1 : 10000 - mo = (10000 - (mo + 1)) + 1 := by omega
                have e2 := hinv.2
                rw [e1, mez] at e2
                exact hret _ _ _ _ _ _ _ _ dX1_makeEfficient_38 w rfl ⟨by first | (rw [ho_10] at e2; rw [← e2]; done) | (rw [ho_10, ho_16] at e2; rw [← e2]; done) | (rw [ho_10, ho_16] at e2; dsimp only at e2; rw [if_neg (show ¬ stz (h.2.1 3 t_16) (cn t_16) < lcz (h.2.1 3 t_10) (cn t_10) from hd_31)] at e2; rw [← e2]), by first | (rw [ho_10] at e2; rw [← e2]; done) | (rw [ho_10, ho_16] at e2; rw [← e2]; done) | (rw [ho_10, ho_16] at e2; dsimp only at e2; rw [if_neg (show ¬ stz (h.2.1 3 t_16) (cn t_16) < lcz (h.2.1 3 t_10) (cn t_10) from hd_31)] at e2; rw [← e2])⟩ (Nat.le_of_ble_eq_true rfl) (Nat.le_of_ble_eq_true rfl)
              · exact absurd (by decide) c_25
          · rw [ho_16] at er_16
            have er_16 : r_16 = nI t_16 := er_16
            subst er_16
            have ht_16 : t_16 < 16 := (amin_bd ho_16).1
            refine lv_istore_n (lv' := [(3, .int (nI t_16)), (2, .int (nI t_10)), (0, .ref (k.2.1 2)), (1, .int (nI mo))]) hx hb dX1_makeEfficient_19 rfl hl (by decide) rfl (fun ls hl => ?_)
            refine lv_iload_n hx hb dX1_makeEfficient_20 rfl (lv_at hl 1 rfl) ?_
            refine lv_if_lt (tgt := 37) hx hb dX1_makeEfficient_21 (by decide) (fun c_21 => ?_) (fun c_21 => ?_)
            · exact absurd c_21 (nI_pos (by omega))
            · refine lv_iload_n hx hb dX1_makeEfficient_24 rfl (lv_at hl 0 rfl) ?_
              refine lv_if_lt (tgt := 37) hx hb dX1_makeEfficient_25 (by decide) (fun c_25 => ?_) (fun c_25 => ?_)
              · exact absurd c_25 (nI_pos (by omega))
              · refine lv_aload_n hx hb dX1_makeEfficient_28 rfl (lv_at hl 2 rfl) ?_
                refine lv_iload_n hx hb dX1_makeEfficient_29 rfl (lv_at hl 1 rfl) ?_
                refine lv_iload_n hx hb dX1_makeEfficient_30 rfl (lv_at hl 0 rfl) ?_
                refine q_calli w (q_runV X w 2 (c_X1_canSave l k (setI h 5 cn) ht_10 ht_16) (cwV 2 hts gX1_makeEfficient_X1_canSave rfl rfl rfl (by decide +kernel) ⟨Nat.le_of_ble_eq_true rfl, Nat.le_of_ble_eq_true rfl⟩) (by decide) rfl rfl rfl hl.1 rfl (Nat.le_of_ble_eq_true rfl) dX1_makeEfficient_31 ⟨Nat.le_of_ble_eq_true rfl, Nat.le_of_ble_eq_true rfl⟩) (fun r_31 h_31 H locs hp w => ?_)
                obtain ⟨hp, eh_31⟩ := hp
                rw [eh_31] at w
                rcases hp with ⟨hd_31, er_31⟩ | ⟨hd_31, er_31⟩
                · subst er_31
                  refine lv_if_ne (tgt := 39) hx hb dX1_makeEfficient_34 (by decide) (fun c_34 => ?_) (fun c_34 => ?_)
                  · refine lv_aload_n hx hb dX1_makeEfficient_39 rfl (lv_at hl 2 rfl) ?_
                    refine q_get X w 2 2 (ci := 1) (by decide) rfl rfl hi1 (by decide) (by decide +kernel) rfl dX1_makeEfficient_40 ?_
                    refine lv_iload_n hx hb dX1_makeEfficient_43 rfl (lv_at hl 1 rfl) ?_
                    refine lv_dup2_11 hx hb dX1_makeEfficient_44 rfl rfl ?_
                    refine q_iald X w 5 t_10 (by decide) (fun _ => rfl) rfl (by omega) (by decide) dX1_makeEfficient_45 ?_
                    refine lv_iconst (v := nI 1) hx hb dX1_makeEfficient_46 (by decide) ?_
                    refine lv_isub hx hb dX1_makeEfficient_47 ?_
                    refine lv_topi (fun x_48 ex_48 => ?_)
                    refine q_iast X w 5 t_10 (by decide) (fun _ => rfl) rfl (by omega) (by decide) dX1_makeEfficient_48 (fun H locs w => ?_)
                    obtain ⟨h_48, eh_48⟩ : ∃ z, z = upI (setI h 5 cn) 5 t_10 x_48 := ⟨_, rfl⟩
                    rw [← eh_48] at w
                    refine lv_aload_n hx hb dX1_makeEfficient_49 rfl (lv_at hl 2 rfl) ?_
                    refine q_get X w 2 2 (ci := 1) (by decide) rfl rfl hi1 (by decide) (by decide +kernel) rfl dX1_makeEfficient_50 ?_
                    refine lv_iload_n hx hb dX1_makeEfficient_53 rfl (lv_at hl 0 rfl) ?_
                    refine lv_dup2_11 hx hb dX1_makeEfficient_54 rfl rfl ?_
                    refine q_iald X w 5 t_16 (by decide) (fun _ => rfl) rfl (by omega) (by decide) dX1_makeEfficient_55 ?_
                    refine lv_iconst (v := nI 1) hx hb dX1_makeEfficient_56 (by decide) ?_
                    refine lv_iadd hx hb dX1_makeEfficient_57 ?_
                    refine lv_topi (fun x_58 ex_58 => ?_)
                    refine q_iast X w 5 t_16 (by decide) (fun _ => rfl) rfl (by omega) (by decide) dX1_makeEfficient_58 (fun H locs w => ?_)
                    obtain ⟨h_58, eh_58⟩ : ∃ z, z = upI h_48 5 t_16 x_58 := ⟨_, rfl⟩
                    rw [← eh_58] at w
                    refine lv_iinc (v := nI (mo + 1)) (lv' := [(1, .int (nI (mo + 1))), (3, .int (nI t_16)), (2, .int (nI t_10)), (0, .ref (k.2.1 2))]) hx hb dX1_makeEfficient_59 hl (k := 3) rfl (nI_1 _) (by decide) rfl (fun ls hl => ?_)
                    refine lv_goto (tgt := 2) hx hb dX1_makeEfficient_62 (by decide) ?_
                    rw [eh_58, upI_set, ex_58, eh_48, upI_set, setI_s, ex_48, setI_s, setI_setI, setI_setI] at w
                    have e1 : 10000 - mo = (10000 - (mo + 1)) + 1 := by omega
                    have e2 := hinv.2
                    rw [e1, mez] at e2
                    rw [ho_10, ho_16] at e2
                    dsimp only at e2
                    rw [if_pos (show stz (h.2.1 3 t_16) (cn t_16) < lcz (h.2.1 3 t_10) (cn t_10) from hd_31)] at e2
                    exact ih (mo + 1) (mvC cn t_10 t_16) ⟨by omega, e2⟩ (by omega) _ _ _ w (lv_sub hl [3, 0] rfl)
                  · exact absurd c_34 (by decide)
                · subst er_31
                  refine lv_if_ne (tgt := 39) hx hb dX1_makeEfficient_34 (by decide) (fun c_34 => ?_) (fun c_34 => ?_)
                  · exact absurd (by decide) c_34
                  · refine lv_iload_n hx hb dX1_makeEfficient_37 rfl (lv_at hl 3 rfl) ?_
                    have e1 : 10000 - mo = (10000 - (mo + 1)) + 1 := by omega
                    have e2 := hinv.2
                    rw [e1, mez] at e2
                    exact hret _ _ _ _ _ _ _ _ dX1_makeEfficient_38 w rfl ⟨by first | (rw [ho_10] at e2; rw [← e2]; done) | (rw [ho_10, ho_16] at e2; rw [← e2]; done) | (rw [ho_10, ho_16] at e2; dsimp only at e2; rw [if_neg (show ¬ stz (h.2.1 3 t_16) (cn t_16) < lcz (h.2.1 3 t_10) (cn t_10) from hd_31)] at e2; rw [← e2]), by first | (rw [ho_10] at e2; rw [← e2]; done) | (rw [ho_10, ho_16] at e2; rw [← e2]; done) | (rw [ho_10, ho_16] at e2; dsimp only at e2; rw [if_neg (show ¬ stz (h.2.1 3 t_16) (cn t_16) < lcz (h.2.1 3 t_10) (cn t_10) from hd_31)] at e2; rw [← e2])⟩ (Nat.le_of_ble_eq_true rfl) (Nat.le_of_ble_eq_true rfl)
  rw [← setI_self h 5] at w
  exact lp 10001 0 (h.1 5) ⟨by omega, rfl⟩ (by omega) _ _ _ w (lv_sub hl [1, 0] rfl)

abbrev rc_X1_settle : Room := { frames := 1, cells := 0, slots := 0, locals := 22 }
set_option maxHeartbeats 4000000 in
set_option maxRecDepth 100000 in
theorem c_X1_settle (l : Launch) (k : kY) (h : hS) {P : Nat} (hP : pp P) : CT l k yX1_settle wsX1_settle rc_X1_settle [.ref (k.2.1 2), .ref (k.2.1 P)] h (QI k (fun r h' => r = bI (cgz h P 16) ∧ h' = sez h P)) 0 0 := by
  refine q_metI (cc := cX1_settle) (maxL := 6) (ret := some .boolean) (ty := .boolean) (by decide) rfl rfl (Nat.le_of_ble_eq_true rfl) ?_
  intro p e s m args below meth c Q ls X w hl hret
  have hx := X.1
  have hb := X.2.1
  have hown := X.2.2.2.1
  have hts := X.2.2.2.2
  have hl : lv_has ls 6 [(0, .ref (k.2.1 2)), (1, .ref (k.2.1 P))] := hl
  have hi0 : ∀ w ∈ u_ws RX0 TX0 10, w ∈ wsX1_settle := by decide +kernel
  have hi1 : ∀ w ∈ u_ws RX1 TX1 3, w ∈ wsX1_settle := by decide +kernel
  have hP1 := hP.1
  refine lv_iconst (v := nI 0) hx hb dX1_settle_0 (by decide) ?_
  refine lv_istore_n (lv' := [(2, .int (nI 0)), (0, .ref (k.2.1 2)), (1, .ref (k.2.1 P))]) hx hb dX1_settle_1 rfl hl (by decide) rfl (fun ls hl => ?_)
  refine lv_iconst (v := nI 0) hx hb dX1_settle_2 (by decide) ?_
  refine lv_istore_n (lv' := [(3, .int (nI 0)), (2, .int (nI 0)), (0, .ref (k.2.1 2)), (1, .ref (k.2.1 P))]) hx hb dX1_settle_3 rfl hl (by decide) rfl (fun ls hl => ?_)
  have lp : ∀ (n : Nat) (t : Nat) (x : Int32), (t ≤ 16 ∧ x = bI (cgz h P t)) → (16 - t) < n → ∀ (H : Heap) (locs : List Loc) (ls : Array Slot), WX k s H locs (slz h P t) → lv_has ls 6 [(0, .ref (k.2.1 2)), (1, .ref (k.2.1 P)), (2, .int x), (3, .int (nI t))] → W p l e rc_X1_settle s m args below meth c H locs 0 0 Q (F0 m 4 ls []) := by
    intro n
    induction n with
    | zero => intro t x _ hm; exact absurd hm (Nat.not_lt_zero _)
    | succ n ih =>
      intro t x hinv hm H locs ls w hl
      have ht := hinv.1
      have e5 : (slz h P t).1 5 = h.1 5 := by have := hP.1; rw [slz_o _ (by omega) (by omega)]
      have e3 : (slz h P t).2.1 3 = h.2.1 3 := by have := hP.1; rw [slz_oL _ (by omega)]
      have e4 : (slz h P t).1 (P + 4) t = h.1 (P + 4) t := by rw [slz_4, pfz_out (Nat.le_refl _)]
      have e6 : (slz h P t).2.1 (P + 6) t = h.2.1 (P + 6) t := by rw [slz_6, pfz_out (Nat.le_refl _)]
      refine lv_iload_n hx hb dX1_settle_4 rfl (lv_at hl 3 rfl) ?_
      refine lv_bipush (v := nI 16) hx hb dX1_settle_5 (by decide) ?_
      refine q_icge X (tgt := 97) (by omega) (by decide) dX1_settle_7 (by decide) (fun c_7 => ?_) (fun c_7 => ?_)
      · obtain rfl : t = 16 := by omega
        have w := w.nI (P + 4) (h.1 5) (hE_pi hP 4 (by decide) (by decide) k) (fun j hj => by rw [slz_4, pfz_in hj])
        have w := w.nI (P + 5) (h.1 5) (hE_pi hP 5 (by decide) (by decide) k) (fun j hj => by rw [setI_o _ _ (by omega), slz_5, pfz_in hj])
        have w := w.nL (P + 6) (enz h) (hE_p6 hP k) (fun j hj => by show _ = (slz h P 16).2.1 (P + 6) j; rw [slz_6, pfz_in hj])
        rw [slz_fin] at w
        obtain ⟨g97, eg97⟩ : ∃ z, z = setL (setI (setI h (P + 4) (h.1 5)) (P + 5) (h.1 5)) (P + 6) (enz h) := ⟨_, rfl⟩
        rw [← eg97] at w
        refine lv_aload_n hx hb dX1_settle_97 rfl (lv_at hl 1 rfl) ?_
        refine lv_iconst (v := nI 0) hx hb dX1_settle_98 (by decide) ?_
        refine q_put X w P 9 .boolean (ci := 0) (pp_lt0 hP) (hE_p0 hP k _) (by rw [hE_p0 hP k, upI_s]; rfl) rfl hi0 tyX0_ok nmX0 (by decide) (by decide +kernel) rfl (by decide +kernel) (by decide) (by decide) (Nat.le_of_ble_eq_true rfl) dX1_settle_99 (fun H locs w => ?_)
        obtain ⟨h_99, eh_99⟩ : ∃ z, z = upI g97 P 9 (nI 0) := ⟨_, rfl⟩
        rw [← eh_99] at w
        refine lv_aload_n hx hb dX1_settle_102 rfl (lv_at hl 1 rfl) ?_
        refine q_get X w P 6 (ci := 0) (pp_lt0 hP) (hE_p0 hP k _) rfl hi0 (by decide) (by decide +kernel) rfl dX1_settle_103 ?_
        refine q_callv w (q_runV X w (P + 7) (c_X3_dropAll l k h_99 hP) (cwV 0 hts gX1_settle_X3_dropAll rfl rfl rfl (by decide +kernel) ⟨Nat.le_of_ble_eq_true rfl, Nat.le_of_ble_eq_true rfl⟩) (pp_lt hP (c := 7) (by decide)) (hE_p7 hP k _) rfl rfl hl.1 rfl (Nat.le_of_ble_eq_true rfl) dX1_settle_106 ⟨Nat.le_of_ble_eq_true rfl, Nat.le_of_ble_eq_true rfl⟩) (fun h_106 H locs hp w => ?_)
        have eh_106 := hp
        refine lv_iload_n hx hb dX1_settle_109 rfl (lv_at hl 2 rfl) ?_
        exact hret _ _ _ _ _ _ _ _ dX1_settle_110 w (by rw [hinv.2]; exact (bI_bz _).n) ⟨hinv.2, by rw [eh_106, eh_99, eg97, sez]; congr 1; rw [upI_o _ _ _ (by omega), setL_I, setI_o _ _ (by omega), setI_o _ _ (by omega)]⟩ (Nat.le_of_ble_eq_true rfl) (Nat.le_of_ble_eq_true rfl)
      · refine lv_aload_n hx hb dX1_settle_10 rfl (lv_at hl 0 rfl) ?_
        refine q_get X w 2 2 (ci := 1) (by decide) rfl rfl hi1 (by decide) (by decide +kernel) rfl dX1_settle_11 ?_
        refine lv_iload_n hx hb dX1_settle_14 rfl (lv_at hl 3 rfl) ?_
        refine q_iald X w 5 t (by decide) (fun _ => rfl) rfl (by omega) (by decide) dX1_settle_15 ?_
        rw [e5]
        refine lv_aload_n hx hb dX1_settle_16 rfl (lv_at hl 0 rfl) ?_
        refine q_get X w 2 0 (ci := 1) (by decide) rfl rfl hi1 (by decide) (by decide +kernel) rfl dX1_settle_17 ?_
        refine lv_iload_n hx hb dX1_settle_20 rfl (lv_at hl 3 rfl) ?_
        refine q_lald X w 3 t (by decide) (fun _ => rfl) rfl (by omega) (by decide) dX1_settle_21 ?_
        rw [e3]
        refine q_calll w (q_runN X w (c_X4_needFor l k (slz h P t) (h.1 5 t) (h.2.1 3 t)) ⟨va_cnB 2 hts gX1_settle_X4_needFor_n67 rfl rfl rfl (w.2.2.2.2.1 (RX1, 67, yX4_needFor) (by decide +kernel)) (hts (.initialized RX4) (by decide +kernel)) (by decide +kernel) ⟨Nat.le_of_ble_eq_true rfl, Nat.le_of_ble_eq_true rfl⟩, hts (.static yX4_needFor) (by decide +kernel), trivial⟩ rfl hl.1 rfl (Nat.le_of_ble_eq_true rfl) dX1_settle_22 ⟨Nat.le_of_ble_eq_true rfl, Nat.le_of_ble_eq_true rfl⟩) (fun r_22 h_22 H locs hp w => ?_)
        obtain ⟨er_22, eh_22⟩ := hp
        rw [eh_22] at w
        have er_22 : r_22 = ndz (h.1 5 t) (h.2.1 3 t) := er_22
        subst er_22
        refine q_calll w (q_runN X w (c_X4_cappedEnergy l k (slz h P t) (ndz (h.1 5 t) (h.2.1 3 t))) ⟨va_cnB 1 hts gX1_settle_X4_cappedEnergy_n71 rfl rfl rfl (w.2.2.2.2.1 (RX1, 71, yX4_cappedEnergy) (by decide +kernel)) (hts (.initialized RX4) (by decide +kernel)) (by decide +kernel) ⟨Nat.le_of_ble_eq_true rfl, Nat.le_of_ble_eq_true rfl⟩, hts (.static yX4_cappedEnergy) (by decide +kernel), trivial⟩ rfl hl.1 rfl (Nat.le_of_ble_eq_true rfl) dX1_settle_25 ⟨Nat.le_of_ble_eq_true rfl, Nat.le_of_ble_eq_true rfl⟩) (fun r_25 h_25 H locs hp w => ?_)
        obtain ⟨er_25, eh_25⟩ := hp
        rw [eh_25] at w
        have er_25 : r_25 = enz h t := er_25
        subst er_25
        refine lv_lstore (lv' := [(4, .long (enz h t)), (0, .ref (k.2.1 2)), (1, .ref (k.2.1 P)), (2, .int x), (3, .int (nI t))]) hx hb dX1_settle_28 hl (by decide) rfl (fun ls hl => ?_)
        refine lv_aload_n hx hb dX1_settle_30 rfl (lv_at hl 2 rfl) ?_
        refine q_get X w P 3 (ci := 0) (pp_lt0 hP) (hE_p0 hP k _) rfl hi0 (by decide) (by decide +kernel) rfl dX1_settle_31 ?_
        refine lv_iload_n hx hb dX1_settle_34 rfl (lv_at hl 4 rfl) ?_
        refine q_iald X w (P + 4) t (pp_lt hP (c := 4) (by decide)) (hE_pi hP 4 (by decide) (by decide) k) rfl (by omega) (by decide) dX1_settle_35 ?_
        rw [e4]
        refine lv_aload_n hx hb dX1_settle_36 rfl (lv_at hl 1 rfl) ?_
        refine q_get X w 2 2 (ci := 1) (by decide) rfl rfl hi1 (by decide) (by decide +kernel) rfl dX1_settle_37 ?_
        refine lv_iload_n hx hb dX1_settle_40 rfl (lv_at hl 4 rfl) ?_
        refine q_iald X w 5 t (by decide) (fun _ => rfl) rfl (by omega) (by decide) dX1_settle_41 ?_
        rw [e5]
        refine lv_icmp_ne (tgt := 57) hx hb dX1_settle_42 (by decide) (fun c_42 => ?_) (fun c_42 => ?_)
        · refine lv_iconst (v := nI 1) hx hb dX1_settle_57 (by decide) ?_
          refine lv_istore_n (lv' := [(2, .int (nI 1)), (4, .long (enz h t)), (0, .ref (k.2.1 2)), (1, .ref (k.2.1 P)), (3, .int (nI t))]) hx hb dX1_settle_58 rfl hl (by decide) rfl (fun ls hl => ?_)
          refine lv_aload_n hx hb dX1_settle_59 rfl (lv_at hl 3 rfl) ?_
          refine q_get X w P 3 (ci := 0) (pp_lt0 hP) (hE_p0 hP k _) rfl hi0 (by decide) (by decide +kernel) rfl dX1_settle_60 ?_
          refine lv_iload_n hx hb dX1_settle_63 rfl (lv_at hl 4 rfl) ?_
          refine lv_aload_n hx hb dX1_settle_64 rfl (lv_at hl 2 rfl) ?_
          refine q_get X w 2 2 (ci := 1) (by decide) rfl rfl hi1 (by decide) (by decide +kernel) rfl dX1_settle_65 ?_
          refine lv_iload_n hx hb dX1_settle_68 rfl (lv_at hl 4 rfl) ?_
          refine q_iald X w 5 t (by decide) (fun _ => rfl) rfl (by omega) (by decide) dX1_settle_69 ?_
          rw [e5]
          refine q_iast X w (P + 4) t (pp_lt hP (c := 4) (by decide)) (hE_pi hP 4 (by decide) (by decide) k) rfl (by omega) (by decide) dX1_settle_70 (fun H locs w => ?_)
          obtain ⟨h_70, eh_70⟩ : ∃ z, z = upI (slz h P t) (P + 4) t (h.1 5 t) := ⟨_, rfl⟩
          rw [← eh_70] at w
          have e5 : h_70.1 5 = h.1 5 := by rw [eh_70, upI_o _ _ _ (by omega), e5]
          refine lv_aload_n hx hb dX1_settle_71 rfl (lv_at hl 3 rfl) ?_
          refine q_get X w P 4 (ci := 0) (pp_lt0 hP) (hE_p0 hP k _) rfl hi0 (by decide) (by decide +kernel) rfl dX1_settle_72 ?_
          refine lv_iload_n hx hb dX1_settle_75 rfl (lv_at hl 4 rfl) ?_
          refine lv_aload_n hx hb dX1_settle_76 rfl (lv_at hl 2 rfl) ?_
          refine q_get X w 2 2 (ci := 1) (by decide) rfl rfl hi1 (by decide) (by decide +kernel) rfl dX1_settle_77 ?_
          refine lv_iload_n hx hb dX1_settle_80 rfl (lv_at hl 4 rfl) ?_
          refine q_iald X w 5 t (by decide) (fun _ => rfl) rfl (by omega) (by decide) dX1_settle_81 ?_
          rw [e5]
          refine q_iast X w (P + 5) t (pp_lt hP (c := 5) (by decide)) (hE_pi hP 5 (by decide) (by decide) k) rfl (by omega) (by decide) dX1_settle_82 (fun H locs w => ?_)
          obtain ⟨h_82, eh_82⟩ : ∃ z, z = upI h_70 (P + 5) t (h.1 5 t) := ⟨_, rfl⟩
          rw [← eh_82] at w
          refine lv_aload_n hx hb dX1_settle_83 rfl (lv_at hl 3 rfl) ?_
          refine q_get X w P 5 (ci := 0) (pp_lt0 hP) (hE_p0 hP k _) rfl hi0 (by decide) (by decide +kernel) rfl dX1_settle_84 ?_
          refine lv_iload_n hx hb dX1_settle_87 rfl (lv_at hl 4 rfl) ?_
          refine lv_lload hx hb dX1_settle_88 (lv_at hl 1 rfl) ?_
          refine q_last X w (P + 6) t (pp_lt hP (c := 6) (by decide)) (hE_p6 hP k) rfl (by omega) (by decide) dX1_settle_90 (fun H locs w => ?_)
          obtain ⟨h_90, eh_90⟩ : ∃ z, z = upL h_82 (P + 6) t (enz h t) := ⟨_, rfl⟩
          rw [← eh_90] at w
          refine lv_iinc (v := nI (t + 1)) (lv' := [(3, .int (nI (t + 1))), (2, .int (nI 1)), (4, .long (enz h t)), (0, .ref (k.2.1 2)), (1, .ref (k.2.1 P))]) hx hb dX1_settle_91 hl (k := 4) rfl (nI_1 _) (by decide) rfl (fun ls hl => ?_)
          refine lv_goto (tgt := 4) hx hb dX1_settle_94 (by decide) ?_
          rw [eh_90, eh_82, eh_70, slz_up] at w
          exact ih (t + 1) (nI 1) ⟨by omega, by rw [cgz, decide_eq_true (by first | exact Or.inl c_42 | exact Or.inr c_53), Bool.or_true]; rfl⟩ (by omega) _ _ _ w (lv_sub hl [3, 4, 1, 0] rfl)
        · refine lv_aload_n hx hb dX1_settle_45 rfl (lv_at hl 2 rfl) ?_
          refine q_get X w P 5 (ci := 0) (pp_lt0 hP) (hE_p0 hP k _) rfl hi0 (by decide) (by decide +kernel) rfl dX1_settle_46 ?_
          refine lv_iload_n hx hb dX1_settle_49 rfl (lv_at hl 4 rfl) ?_
          refine q_lald X w (P + 6) t (pp_lt hP (c := 6) (by decide)) (hE_p6 hP k) rfl (by omega) (by decide) dX1_settle_50 ?_
          rw [e6]
          refine lv_lload hx hb dX1_settle_51 (lv_at hl 0 rfl) ?_
          refine q_lif_eq X (tgt := 59) dX1_settle_53 dX1_settle_54 (by decide) (fun c_53 => ?_) (fun c_53 => ?_)
          · refine lv_aload_n hx hb dX1_settle_59 rfl (lv_at hl 2 rfl) ?_
            refine q_get X w P 3 (ci := 0) (pp_lt0 hP) (hE_p0 hP k _) rfl hi0 (by decide) (by decide +kernel) rfl dX1_settle_60 ?_
            refine lv_iload_n hx hb dX1_settle_63 rfl (lv_at hl 4 rfl) ?_
            refine lv_aload_n hx hb dX1_settle_64 rfl (lv_at hl 1 rfl) ?_
            refine q_get X w 2 2 (ci := 1) (by decide) rfl rfl hi1 (by decide) (by decide +kernel) rfl dX1_settle_65 ?_
            refine lv_iload_n hx hb dX1_settle_68 rfl (lv_at hl 4 rfl) ?_
            refine q_iald X w 5 t (by decide) (fun _ => rfl) rfl (by omega) (by decide) dX1_settle_69 ?_
            rw [e5]
            refine q_iast X w (P + 4) t (pp_lt hP (c := 4) (by decide)) (hE_pi hP 4 (by decide) (by decide) k) rfl (by omega) (by decide) dX1_settle_70 (fun H locs w => ?_)
            obtain ⟨h_70, eh_70⟩ : ∃ z, z = upI (slz h P t) (P + 4) t (h.1 5 t) := ⟨_, rfl⟩
            rw [← eh_70] at w
            have e5 : h_70.1 5 = h.1 5 := by rw [eh_70, upI_o _ _ _ (by omega), e5]
            refine lv_aload_n hx hb dX1_settle_71 rfl (lv_at hl 2 rfl) ?_
            refine q_get X w P 4 (ci := 0) (pp_lt0 hP) (hE_p0 hP k _) rfl hi0 (by decide) (by decide +kernel) rfl dX1_settle_72 ?_
            refine lv_iload_n hx hb dX1_settle_75 rfl (lv_at hl 4 rfl) ?_
            refine lv_aload_n hx hb dX1_settle_76 rfl (lv_at hl 1 rfl) ?_
            refine q_get X w 2 2 (ci := 1) (by decide) rfl rfl hi1 (by decide) (by decide +kernel) rfl dX1_settle_77 ?_
            refine lv_iload_n hx hb dX1_settle_80 rfl (lv_at hl 4 rfl) ?_
            refine q_iald X w 5 t (by decide) (fun _ => rfl) rfl (by omega) (by decide) dX1_settle_81 ?_
            rw [e5]
            refine q_iast X w (P + 5) t (pp_lt hP (c := 5) (by decide)) (hE_pi hP 5 (by decide) (by decide) k) rfl (by omega) (by decide) dX1_settle_82 (fun H locs w => ?_)
            obtain ⟨h_82, eh_82⟩ : ∃ z, z = upI h_70 (P + 5) t (h.1 5 t) := ⟨_, rfl⟩
            rw [← eh_82] at w
            refine lv_aload_n hx hb dX1_settle_83 rfl (lv_at hl 2 rfl) ?_
            refine q_get X w P 5 (ci := 0) (pp_lt0 hP) (hE_p0 hP k _) rfl hi0 (by decide) (by decide +kernel) rfl dX1_settle_84 ?_
            refine lv_iload_n hx hb dX1_settle_87 rfl (lv_at hl 4 rfl) ?_
            refine lv_lload hx hb dX1_settle_88 (lv_at hl 0 rfl) ?_
            refine q_last X w (P + 6) t (pp_lt hP (c := 6) (by decide)) (hE_p6 hP k) rfl (by omega) (by decide) dX1_settle_90 (fun H locs w => ?_)
            obtain ⟨h_90, eh_90⟩ : ∃ z, z = upL h_82 (P + 6) t (enz h t) := ⟨_, rfl⟩
            rw [← eh_90] at w
            refine lv_iinc (v := nI (t + 1)) (lv' := [(3, .int (nI (t + 1))), (4, .long (enz h t)), (0, .ref (k.2.1 2)), (1, .ref (k.2.1 P)), (2, .int x)]) hx hb dX1_settle_91 hl (k := 4) rfl (nI_1 _) (by decide) rfl (fun ls hl => ?_)
            refine lv_goto (tgt := 4) hx hb dX1_settle_94 (by decide) ?_
            rw [eh_90, eh_82, eh_70, slz_up] at w
            exact ih (t + 1) x ⟨by omega, by rw [cgz, decide_eq_false (fun q => q.elim (fun z => z c_42) (fun z => z c_53)), Bool.or_false]; exact hinv.2⟩ (by omega) _ _ _ w (lv_sub hl [2, 3, 4, 0] rfl)
          · refine lv_iconst (v := nI 1) hx hb dX1_settle_57 (by decide) ?_
            refine lv_istore_n (lv' := [(2, .int (nI 1)), (4, .long (enz h t)), (0, .ref (k.2.1 2)), (1, .ref (k.2.1 P)), (3, .int (nI t))]) hx hb dX1_settle_58 rfl hl (by decide) rfl (fun ls hl => ?_)
            refine lv_aload_n hx hb dX1_settle_59 rfl (lv_at hl 3 rfl) ?_
            refine q_get X w P 3 (ci := 0) (pp_lt0 hP) (hE_p0 hP k _) rfl hi0 (by decide) (by decide +kernel) rfl dX1_settle_60 ?_
            refine lv_iload_n hx hb dX1_settle_63 rfl (lv_at hl 4 rfl) ?_
            refine lv_aload_n hx hb dX1_settle_64 rfl (lv_at hl 2 rfl) ?_
            refine q_get X w 2 2 (ci := 1) (by decide) rfl rfl hi1 (by decide) (by decide +kernel) rfl dX1_settle_65 ?_
            refine lv_iload_n hx hb dX1_settle_68 rfl (lv_at hl 4 rfl) ?_
            refine q_iald X w 5 t (by decide) (fun _ => rfl) rfl (by omega) (by decide) dX1_settle_69 ?_
            rw [e5]
            refine q_iast X w (P + 4) t (pp_lt hP (c := 4) (by decide)) (hE_pi hP 4 (by decide) (by decide) k) rfl (by omega) (by decide) dX1_settle_70 (fun H locs w => ?_)
            obtain ⟨h_70, eh_70⟩ : ∃ z, z = upI (slz h P t) (P + 4) t (h.1 5 t) := ⟨_, rfl⟩
            rw [← eh_70] at w
            have e5 : h_70.1 5 = h.1 5 := by rw [eh_70, upI_o _ _ _ (by omega), e5]
            refine lv_aload_n hx hb dX1_settle_71 rfl (lv_at hl 3 rfl) ?_
            refine q_get X w P 4 (ci := 0) (pp_lt0 hP) (hE_p0 hP k _) rfl hi0 (by decide) (by decide +kernel) rfl dX1_settle_72 ?_
            refine lv_iload_n hx hb dX1_settle_75 rfl (lv_at hl 4 rfl) ?_
            refine lv_aload_n hx hb dX1_settle_76 rfl (lv_at hl 2 rfl) ?_
            refine q_get X w 2 2 (ci := 1) (by decide) rfl rfl hi1 (by decide) (by decide +kernel) rfl dX1_settle_77 ?_
            refine lv_iload_n hx hb dX1_settle_80 rfl (lv_at hl 4 rfl) ?_
            refine q_iald X w 5 t (by decide) (fun _ => rfl) rfl (by omega) (by decide) dX1_settle_81 ?_
            rw [e5]
            refine q_iast X w (P + 5) t (pp_lt hP (c := 5) (by decide)) (hE_pi hP 5 (by decide) (by decide) k) rfl (by omega) (by decide) dX1_settle_82 (fun H locs w => ?_)
            obtain ⟨h_82, eh_82⟩ : ∃ z, z = upI h_70 (P + 5) t (h.1 5 t) := ⟨_, rfl⟩
            rw [← eh_82] at w
            refine lv_aload_n hx hb dX1_settle_83 rfl (lv_at hl 3 rfl) ?_
            refine q_get X w P 5 (ci := 0) (pp_lt0 hP) (hE_p0 hP k _) rfl hi0 (by decide) (by decide +kernel) rfl dX1_settle_84 ?_
            refine lv_iload_n hx hb dX1_settle_87 rfl (lv_at hl 4 rfl) ?_
            refine lv_lload hx hb dX1_settle_88 (lv_at hl 1 rfl) ?_
            refine q_last X w (P + 6) t (pp_lt hP (c := 6) (by decide)) (hE_p6 hP k) rfl (by omega) (by decide) dX1_settle_90 (fun H locs w => ?_)
            obtain ⟨h_90, eh_90⟩ : ∃ z, z = upL h_82 (P + 6) t (enz h t) := ⟨_, rfl⟩
            rw [← eh_90] at w
            refine lv_iinc (v := nI (t + 1)) (lv' := [(3, .int (nI (t + 1))), (2, .int (nI 1)), (4, .long (enz h t)), (0, .ref (k.2.1 2)), (1, .ref (k.2.1 P))]) hx hb dX1_settle_91 hl (k := 4) rfl (nI_1 _) (by decide) rfl (fun ls hl => ?_)
            refine lv_goto (tgt := 4) hx hb dX1_settle_94 (by decide) ?_
            rw [eh_90, eh_82, eh_70, slz_up] at w
            exact ih (t + 1) (nI 1) ⟨by omega, by rw [cgz, decide_eq_true (by first | exact Or.inl c_42 | exact Or.inr c_53), Bool.or_true]; rfl⟩ (by omega) _ _ _ w (lv_sub hl [3, 4, 1, 0] rfl)
  rw [← slz_0 h P] at w
  exact lp 17 0 (nI 0) ⟨by omega, rfl⟩ (by omega) _ _ _ w (lv_sub hl [2, 3, 1, 0] rfl)
