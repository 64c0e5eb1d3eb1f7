abbrev rc_X5_drop : Room := { frames := 1, cells := 0, slots := 0, locals := 21 }
set_option maxHeartbeats 4000000 in
set_option maxRecDepth 100000 in
theorem c_X5_drop (l : Launch) (k : kY) (h : hS) {q : Nat} (hq : q < 2) : CT l k yX5_drop wsX5_drop rc_X5_drop [.ref (k.2.1 91), .int (nI q)] h (QV k (fun h' => h' = setL h 92 (mdr (h.2.1 92) q))) 0 0 := by
  refine q_metV (cc := cX5_drop) (maxL := 3) (by decide) rfl (Nat.le_of_ble_eq_true rfl) ?_
  intro p e s m args below meth c Q ls X w hl hret
  have hx := X.1
  have hb := X.2.1
  have hown := X.2.2.2.1
  have hts := X.2.2.2.2
  have hl : lv_has ls 3 [(0, .ref (k.2.1 91)), (1, .int (nI q))] := hl
  have hi5 : ∀ w ∈ u_ws RX5 TX5 6, w ∈ wsX5_drop := by decide +kernel
  refine lv_bipush (v := nI 97) hx hb dX5_drop_0 (by decide) ?_
  refine lv_istore_n (lv' := [(2, .int (nI 97)), (0, .ref (k.2.1 91)), (1, .int (nI q))]) hx hb dX5_drop_2 rfl hl (by decide) rfl (fun ls hl => ?_)
  have lp : ∀ (fu : Nat) (kk : Nat), (97 ≤ kk ∧ kk ≤ 115) → (115 - kk) < fu → ∀ (H : Heap) (locs : List Loc) (ls : Array Slot), WX k s H locs (setL h 92 (wfz (fun _ => 0) (h.2.1 92) (1 + 116 * q + 97) (kk - 97))) → lv_has ls 3 [(0, .ref (k.2.1 91)), (1, .int (nI q)), (2, .int (nI kk))] → W p l e rc_X5_drop s m args below meth c H locs 0 0 Q (F0 m 3 ls []) := by
    intro fu
    induction fu with
    | zero => intro kk _ hm; exact absurd hm (Nat.not_lt_zero _)
    | succ fu ih =>
      intro kk hinv hm H locs ls w hl
      have hk1 := hinv.1
      have hk2 := hinv.2
      refine lv_iload_n hx hb dX5_drop_3 rfl (lv_at hl 2 rfl) ?_
      refine lv_bipush (v := nI 115) hx hb dX5_drop_4 (by decide) ?_
      refine q_icge X (tgt := 26) (by omega) (by decide) dX5_drop_6 (by decide) (fun c_6 => ?_) (fun c_6 => ?_)
      · refine lv_aload_n hx hb dX5_drop_26 rfl (lv_at hl 0 rfl) ?_
        refine q_get X w 91 0 (ci := 5) (by decide) rfl rfl hi5 (by decide) (by decide +kernel) rfl dX5_drop_27 ?_
        refine lv_iload_n hx hb dX5_drop_30 rfl (lv_at hl 1 rfl) ?_
        refine lv_bipush (v := nI 101) hx hb dX5_drop_31 (by decide) ?_
        refine q_calli w (q_runS X w (c_X5_at l k (setL h 92 (wfz (fun _ => 0) (h.2.1 92) (1 + 116 * q + 97) (kk - 97))) q 101) (va_cwS 2 hts gX5_drop_X5_at rfl rfl rfl (by decide +kernel) ⟨Nat.le_of_ble_eq_true rfl, Nat.le_of_ble_eq_true rfl⟩) rfl hl.1 rfl (Nat.le_of_ble_eq_true rfl) dX5_drop_33 ⟨Nat.le_of_ble_eq_true rfl, Nat.le_of_ble_eq_true rfl⟩) (fun r_33 h_33 H locs hp w => ?_)
        obtain ⟨er_33, eh_33⟩ := hp
        rw [eh_33] at w
        have er_33 : r_33 = nI (1 + 116 * q + 101) := er_33
        subst er_33
        refine lv_ldc2 (v := (-1)) hx hb hown (hts (.constantLong RX5 94 (-1)) (by decide +kernel)) dX5_drop_36 ?_
        refine q_last X w 92 (1 + 116 * q + 101) (by decide) (fun _ => rfl) rfl (show (1 + 116 * q + 101) < 233 by omega) (by decide) dX5_drop_39 (fun H locs w => ?_)
        obtain ⟨h_39, eh_39⟩ : ∃ z9, z9 = upL (setL h 92 (wfz (fun _ => 0) (h.2.1 92) (1 + 116 * q + 97) (kk - 97))) 92 (1 + 116 * q + 101) (-1) := ⟨_, rfl⟩
        rw [← eh_39] at w
        exact hret _ _ _ _ _ _ _ dX5_drop_40 w (by obtain rfl : kk = 115 := (by omega); rw [eh_39, setL_up]; rfl) (Nat.le_of_ble_eq_true rfl) (Nat.le_of_ble_eq_true rfl)
      · refine lv_aload_n hx hb dX5_drop_9 rfl (lv_at hl 0 rfl) ?_
        refine q_get X w 91 0 (ci := 5) (by decide) rfl rfl hi5 (by decide) (by decide +kernel) rfl dX5_drop_10 ?_
        refine lv_iload_n hx hb dX5_drop_13 rfl (lv_at hl 1 rfl) ?_
        refine lv_iload_n hx hb dX5_drop_14 rfl (lv_at hl 2 rfl) ?_
        refine q_calli w (q_runS X w (c_X5_at l k (setL h 92 (wfz (fun _ => 0) (h.2.1 92) (1 + 116 * q + 97) (kk - 97))) q kk) (va_cwS 2 hts gX5_drop_X5_at rfl rfl rfl (by decide +kernel) ⟨Nat.le_of_ble_eq_true rfl, Nat.le_of_ble_eq_true rfl⟩) rfl hl.1 rfl (Nat.le_of_ble_eq_true rfl) dX5_drop_15 ⟨Nat.le_of_ble_eq_true rfl, Nat.le_of_ble_eq_true rfl⟩) (fun r_15 h_15 H locs hp w => ?_)
        obtain ⟨er_15, eh_15⟩ := hp
        rw [eh_15] at w
        have er_15 : r_15 = nI (1 + 116 * q + kk) := er_15
        subst er_15
        refine lv_lconst (v := 0) hx hb dX5_drop_18 (by decide) ?_
        refine q_last X w 92 (1 + 116 * q + kk) (by decide) (fun _ => rfl) rfl (show (1 + 116 * q + kk) < 233 by omega) (by decide) dX5_drop_19 (fun H locs w => ?_)
        obtain ⟨h_19, eh_19⟩ : ∃ z9, z9 = upL (setL h 92 (wfz (fun _ => 0) (h.2.1 92) (1 + 116 * q + 97) (kk - 97))) 92 (1 + 116 * q + kk) 0 := ⟨_, rfl⟩
        rw [← eh_19] at w
        refine lv_iinc (v := nI (kk + 1)) (lv' := [(2, .int (nI (kk + 1))), (0, .ref (k.2.1 91)), (1, .int (nI q))]) hx hb dX5_drop_20 hl (k := 2) rfl (nI_1 _) (by decide) rfl (fun ls hl => ?_)
        refine lv_goto (tgt := 3) hx hb dX5_drop_23 (by decide) ?_
        rw [eh_19, setL_up, show 1 + 116 * q + kk = 1 + 116 * q + 97 + (kk - 97) by omega, wfz_up, show kk - 97 + 1 = kk + 1 - 97 by omega] at w
        exact ih (kk + 1) ⟨by omega, by omega⟩ (by omega) _ _ _ w (lv_sub hl [1, 2, 0] rfl)
  rw [show h = setL h 92 (wfz (fun _ => 0) (h.2.1 92) (1 + 116 * q + 97) (97 - 97)) by rw [Nat.sub_self, wfz_0, setL_self]] at w
  exact lp 19 97 ⟨by omega, by omega⟩ (by omega) _ _ _ w (lv_sub hl [1, 2, 0] rfl)

abbrev rc_X5_clear : Room := { frames := 1, cells := 0, slots := 0, locals := 21 }
set_option maxHeartbeats 4000000 in
set_option maxRecDepth 100000 in
theorem c_X5_clear (l : Launch) (k : kY) (h : hS) {q : Nat} (hq : q < 2) : CT l k yX5_clear wsX5_clear rc_X5_clear [.ref (k.2.1 91), .int (nI q)] h (QV k (fun h' => h' = setL h 92 (mcl (h.2.1 92) q))) 0 0 := by
  refine q_metV (cc := cX5_clear) (maxL := 3) (by decide) rfl (Nat.le_of_ble_eq_true rfl) ?_
  intro p e s m args below meth c Q ls X w hl hret
  have hx := X.1
  have hb := X.2.1
  have hown := X.2.2.2.1
  have hts := X.2.2.2.2
  have hl : lv_has ls 3 [(0, .ref (k.2.1 91)), (1, .int (nI q))] := hl
  have hi5 : ∀ w ∈ u_ws RX5 TX5 6, w ∈ wsX5_clear := by decide +kernel
  refine lv_iconst (v := nI 0) hx hb dX5_clear_0 (by decide) ?_
  refine lv_istore_n (lv' := [(2, .int (nI 0)), (0, .ref (k.2.1 91)), (1, .int (nI q))]) hx hb dX5_clear_1 rfl hl (by decide) rfl (fun ls hl => ?_)
  have lp : ∀ (fu : Nat) (t : Nat), (t ≤ 16) → (16 - t) < fu → ∀ (H : Heap) (locs : List Loc) (ls : Array Slot), WX k s H locs (setL h 92 (wfz (fun _ => 0) (h.2.1 92) (1 + 116 * q + 49) t)) → lv_has ls 3 [(0, .ref (k.2.1 91)), (1, .int (nI q)), (2, .int (nI t))] → W p l e rc_X5_clear s m args below meth c H locs 0 0 Q (F0 m 2 ls []) := by
    intro fu
    induction fu with
    | zero => intro t _ hm; exact absurd hm (Nat.not_lt_zero _)
    | succ fu ih =>
      intro t hinv hm H locs ls w hl
      have ht := hinv
      refine lv_iload_n hx hb dX5_clear_2 rfl (lv_at hl 2 rfl) ?_
      refine lv_bipush (v := nI 16) hx hb dX5_clear_3 (by decide) ?_
      refine q_icge X (tgt := 28) (by omega) (by decide) dX5_clear_5 (by decide) (fun c_5 => ?_) (fun c_5 => ?_)
      · obtain rfl : t = 16 := by omega
        exact hret _ _ _ _ _ _ _ dX5_clear_28 w rfl (Nat.le_of_ble_eq_true rfl) (Nat.le_of_ble_eq_true rfl)
      · refine lv_aload_n hx hb dX5_clear_8 rfl (lv_at hl 0 rfl) ?_
        refine q_get X w 91 0 (ci := 5) (by decide) rfl rfl hi5 (by decide) (by decide +kernel) rfl dX5_clear_9 ?_
        refine lv_iload_n hx hb dX5_clear_12 rfl (lv_at hl 1 rfl) ?_
        refine lv_bipush (v := nI 49) hx hb dX5_clear_13 (by decide) ?_
        refine lv_iload_n hx hb dX5_clear_15 rfl (lv_at hl 2 rfl) ?_
        refine q_iaddN X dX5_clear_16 ?_
        refine q_calli w (q_runS X w (c_X5_at l k (setL h 92 (wfz (fun _ => 0) (h.2.1 92) (1 + 116 * q + 49) t)) q (49 + t)) (va_cwS 2 hts gX5_clear_X5_at rfl rfl rfl (by decide +kernel) ⟨Nat.le_of_ble_eq_true rfl, Nat.le_of_ble_eq_true rfl⟩) rfl hl.1 rfl (Nat.le_of_ble_eq_true rfl) dX5_clear_17 ⟨Nat.le_of_ble_eq_true rfl, Nat.le_of_ble_eq_true rfl⟩) (fun r_17 h_17 H locs hp w => ?_)
        obtain ⟨er_17, eh_17⟩ := hp
        rw [eh_17] at w
        have er_17 : r_17 = nI (1 + 116 * q + (49 + t)) := er_17
        subst er_17
        refine lv_lconst (v := 0) hx hb dX5_clear_20 (by decide) ?_
        refine q_last X w 92 (1 + 116 * q + (49 + t)) (by decide) (fun _ => rfl) rfl (show (1 + 116 * q + (49 + t)) < 233 by omega) (by decide) dX5_clear_21 (fun H locs w => ?_)
        obtain ⟨h_21, eh_21⟩ : ∃ z9, z9 = upL (setL h 92 (wfz (fun _ => 0) (h.2.1 92) (1 + 116 * q + 49) t)) 92 (1 + 116 * q + (49 + t)) 0 := ⟨_, rfl⟩
        rw [← eh_21] at w
        refine lv_iinc (v := nI (t + 1)) (lv' := [(2, .int (nI (t + 1))), (0, .ref (k.2.1 91)), (1, .int (nI q))]) hx hb dX5_clear_22 hl (k := 2) rfl (nI_1 _) (by decide) rfl (fun ls hl => ?_)
        refine lv_goto (tgt := 2) hx hb dX5_clear_25 (by decide) ?_
        rw [eh_21, setL_up, show 1 + 116 * q + (49 + t) = 1 + 116 * q + 49 + t by omega, wfz_up] at w
        exact ih (t + 1) (by omega) (by omega) _ _ _ w (lv_sub hl [1, 2, 0] rfl)
  rw [show h = setL h 92 (wfz (fun _ => 0) (h.2.1 92) (1 + 116 * q + 49) 0) by rw [wfz_0, setL_self]] at w
  exact lp 17 0 (by omega) (by omega) _ _ _ w (lv_sub hl [1, 2, 0] rfl)

abbrev rc_X5_finish : Room := { frames := 4, cells := 0, slots := 0, locals := 89 }
set_option maxHeartbeats 4000000 in
set_option maxRecDepth 100000 in
theorem c_X5_finish (l : Launch) (k : kY) (h : hS) {q : Nat} (hq : q < 2) : CT l k yX5_finish wsX5_finish rc_X5_finish [.ref (k.2.1 91), .int (nI q)] h (QV k (fun h' => h' = setL h 92 (mfi (h.2.1 92) q))) 0 0 := by
  refine q_metV (cc := cX5_finish) (maxL := 3) (by decide) rfl (Nat.le_of_ble_eq_true rfl) ?_
  intro p e s m args below meth c Q ls X w hl hret
  have hx := X.1
  have hb := X.2.1
  have hown := X.2.2.2.1
  have hts := X.2.2.2.2
  have hl : lv_has ls 3 [(0, .ref (k.2.1 91)), (1, .int (nI q))] := hl
  have hi5 : ∀ w ∈ u_ws RX5 TX5 6, w ∈ wsX5_finish := by decide +kernel
  refine lv_iconst (v := nI 0) hx hb dX5_finish_0 (by decide) ?_
  refine lv_istore_n (lv' := [(2, .int (nI 0)), (0, .ref (k.2.1 91)), (1, .int (nI q))]) hx hb dX5_finish_1 rfl hl (by decide) rfl (fun ls hl => ?_)
  have lp : ∀ (fu : Nat) (t : Nat), (t ≤ 16) → (16 - t) < fu → ∀ (H : Heap) (locs : List Loc) (ls : Array Slot), WX k s H locs (setL h 92 (mfn (h.2.1 92) q t)) → lv_has ls 3 [(0, .ref (k.2.1 91)), (1, .int (nI q)), (2, .int (nI t))] → W p l e rc_X5_finish s m args below meth c H locs 0 0 Q (F0 m 2 ls []) := by
    intro fu
    induction fu with
    | zero => intro t _ hm; exact absurd hm (Nat.not_lt_zero _)
    | succ fu ih =>
      intro t hinv hm H locs ls w hl
      have ht := hinv
      refine lv_iload_n hx hb dX5_finish_2 rfl (lv_at hl 2 rfl) ?_
      refine lv_bipush (v := nI 16) hx hb dX5_finish_3 (by decide) ?_
      refine q_icge X (tgt := 46) (by omega) (by decide) dX5_finish_5 (by decide) (fun c_5 => ?_) (fun c_5 => ?_)
      · refine lv_aload_n hx hb dX5_finish_46 rfl (lv_at hl 0 rfl) ?_
        refine lv_iload_n hx hb dX5_finish_47 rfl (lv_at hl 1 rfl) ?_
        refine q_callv w (q_runV X w 91 (c_X5_drop l k (setL h 92 (mfn (h.2.1 92) q t)) (q := q) (by omega)) (cwV 1 hts gX5_finish_X5_drop rfl rfl rfl (by decide +kernel) ⟨Nat.le_of_ble_eq_true rfl, Nat.le_of_ble_eq_true rfl⟩) (by decide) rfl rfl rfl hl.1 rfl (Nat.le_of_ble_eq_true rfl) dX5_finish_48 ⟨Nat.le_of_ble_eq_true rfl, Nat.le_of_ble_eq_true rfl⟩) (fun h_48 H locs hp w => ?_)
        have eh_48 := hp
        exact hret _ _ _ _ _ _ _ dX5_finish_51 w (by obtain rfl : t = 16 := (by omega); rw [eh_48, setL_s, setL_setL]; rfl) (Nat.le_of_ble_eq_true rfl) (Nat.le_of_ble_eq_true rfl)
      · refine lv_aload_n hx hb dX5_finish_8 rfl (lv_at hl 0 rfl) ?_
        refine lv_iload_n hx hb dX5_finish_9 rfl (lv_at hl 1 rfl) ?_
        refine lv_iload_n hx hb dX5_finish_10 rfl (lv_at hl 2 rfl) ?_
        refine q_callv w (q_runV X w 91 (c_X5_feed l k (setL h 92 (mfn (h.2.1 92) q t)) (q := q) (t := t) (by omega) (by omega)) (cwV 2 hts gX5_finish_X5_feed rfl rfl rfl (by decide +kernel) ⟨Nat.le_of_ble_eq_true rfl, Nat.le_of_ble_eq_true rfl⟩) (by decide) rfl rfl rfl hl.1 rfl (Nat.le_of_ble_eq_true rfl) dX5_finish_11 ⟨Nat.le_of_ble_eq_true rfl, Nat.le_of_ble_eq_true rfl⟩) (fun h_11 H locs hp w => ?_)
        have eh_11 := hp
        refine lv_aload_n hx hb dX5_finish_14 rfl (lv_at hl 0 rfl) ?_
        refine q_get X w 91 0 (ci := 5) (by decide) rfl rfl hi5 (by decide) (by decide +kernel) rfl dX5_finish_15 ?_
        refine lv_iload_n hx hb dX5_finish_18 rfl (lv_at hl 1 rfl) ?_
        refine lv_bipush (v := nI 65) hx hb dX5_finish_19 (by decide) ?_
        refine lv_iload_n hx hb dX5_finish_21 rfl (lv_at hl 2 rfl) ?_
        refine q_iaddN X dX5_finish_22 ?_
        refine q_calli w (q_runS X w (c_X5_at l k h_11 q (65 + t)) (va_cwS 2 hts gX5_finish_X5_at rfl rfl rfl (by decide +kernel) ⟨Nat.le_of_ble_eq_true rfl, Nat.le_of_ble_eq_true rfl⟩) rfl hl.1 rfl (Nat.le_of_ble_eq_true rfl) dX5_finish_23 ⟨Nat.le_of_ble_eq_true rfl, Nat.le_of_ble_eq_true rfl⟩) (fun r_23 h_23 H locs hp w => ?_)
        obtain ⟨er_23, eh_23⟩ := hp
        rw [eh_23] at w
        have er_23 : r_23 = nI (1 + 116 * q + (65 + t)) := er_23
        subst er_23
        refine lv_aload_n hx hb dX5_finish_26 rfl (lv_at hl 0 rfl) ?_
        refine q_get X w 91 0 (ci := 5) (by decide) rfl rfl hi5 (by decide) (by decide +kernel) rfl dX5_finish_27 ?_
        refine lv_iload_n hx hb dX5_finish_30 rfl (lv_at hl 1 rfl) ?_
        refine lv_bipush (v := nI 49) hx hb dX5_finish_31 (by decide) ?_
        refine lv_iload_n hx hb dX5_finish_33 rfl (lv_at hl 2 rfl) ?_
        refine q_iaddN X dX5_finish_34 ?_
        refine q_calli w (q_runS X w (c_X5_at l k h_11 q (49 + t)) (va_cwS 2 hts gX5_finish_X5_at rfl rfl rfl (by decide +kernel) ⟨Nat.le_of_ble_eq_true rfl, Nat.le_of_ble_eq_true rfl⟩) rfl hl.1 rfl (Nat.le_of_ble_eq_true rfl) dX5_finish_35 ⟨Nat.le_of_ble_eq_true rfl, Nat.le_of_ble_eq_true rfl⟩) (fun r_35 h_35 H locs hp w => ?_)
        obtain ⟨er_35, eh_35⟩ := hp
        rw [eh_35] at w
        have er_35 : r_35 = nI (1 + 116 * q + (49 + t)) := er_35
        subst er_35
        refine q_lald X w 92 (1 + 116 * q + (49 + t)) (by decide) (fun _ => rfl) rfl (show (1 + 116 * q + (49 + t)) < 233 by omega) (by decide) dX5_finish_38 ?_
        refine lv_topl (fun x_39 ex_39 => ?_)
        refine q_last X w 92 (1 + 116 * q + (65 + t)) (by decide) (fun _ => rfl) rfl (show (1 + 116 * q + (65 + t)) < 233 by omega) (by decide) dX5_finish_39 (fun H locs w => ?_)
        obtain ⟨h_39, eh_39⟩ : ∃ z9, z9 = upL h_11 92 (1 + 116 * q + (65 + t)) x_39 := ⟨_, rfl⟩
        rw [← eh_39] at w
        refine lv_iinc (v := nI (t + 1)) (lv' := [(2, .int (nI (t + 1))), (0, .ref (k.2.1 91)), (1, .int (nI q))]) hx hb dX5_finish_40 hl (k := 2) rfl (nI_1 _) (by decide) rfl (fun ls hl => ?_)
        refine lv_goto (tgt := 2) hx hb dX5_finish_43 (by decide) ?_
        have e11 : h_11 = setL h 92 (mfd (mfn (h.2.1 92) q t) q t) := by rw [eh_11, setL_s, setL_setL]
        have e39 : h_39 = setL h 92 (mfn (h.2.1 92) q (t + 1)) := by rw [eh_39, ex_39, e11, setL_s, setL_up]; rfl
        rw [e39] at w
        exact ih (t + 1) (by omega) (by omega) _ _ _ w (lv_sub hl [1, 2, 0] rfl)
  rw [show h = setL h 92 (mfn (h.2.1 92) q 0) from (setL_self h 92).symm] at w
  exact lp 17 0 (by omega) (by omega) _ _ _ w (lv_sub hl [1, 2, 0] rfl)

abbrev rc_X5_load : Room := { frames := 5, cells := 0, slots := 0, locals := 111 }
set_option maxHeartbeats 4000000 in
set_option maxRecDepth 100000 in
theorem c_X5_load (l : Launch) (k : kY) (h : hS) {q : Nat} (hq : q < 2) {F : Nat} {R2 : Nat → Int64} (hF : mld q F (mcl (h.2.1 92) q) 0 = some R2) : CT l k yX5_load wsX5_load rc_X5_load [.ref (k.2.1 91), .int (nI q)] h (QV k (fun h' => h' = setL h 92 (mfi R2 q))) 0 0 := by
  refine q_metV (cc := cX5_load) (maxL := 8) (by decide) rfl (Nat.le_of_ble_eq_true rfl) ?_
  intro p e s m args below meth c Q ls X w hl hret
  have hx := X.1
  have hb := X.2.1
  have hown := X.2.2.2.1
  have hts := X.2.2.2.2
  have hl : lv_has ls 8 [(0, .ref (k.2.1 91)), (1, .int (nI q))] := hl
  have hi5 : ∀ w ∈ u_ws RX5 TX5 6, w ∈ wsX5_load := by decide +kernel
  refine lv_aload_n hx hb dX5_load_0 rfl (lv_at hl 0 rfl) ?_
  refine lv_iload_n hx hb dX5_load_1 rfl (lv_at hl 1 rfl) ?_
  refine q_callv w (q_runV X w 91 (c_X5_clear l k h (q := q) (by omega)) (cwV 1 hts gX5_load_X5_clear rfl rfl rfl (by decide +kernel) ⟨Nat.le_of_ble_eq_true rfl, Nat.le_of_ble_eq_true rfl⟩) (by decide) rfl rfl rfl hl.1 rfl (Nat.le_of_ble_eq_true rfl) dX5_load_2 ⟨Nat.le_of_ble_eq_true rfl, Nat.le_of_ble_eq_true rfl⟩) (fun h_2 H locs hp w => ?_)
  have eh_2 := hp
  refine lv_lconst (v := 0) hx hb dX5_load_5 (by decide) ?_
  refine lv_lstore_n (lv' := [(2, .long 0), (0, .ref (k.2.1 91)), (1, .int (nI q))]) hx hb dX5_load_6 rfl hl (by decide) rfl (fun ls hl => ?_)
  refine lv_iconst (v := nI 1) hx hb dX5_load_7 (by decide) ?_
  refine lv_istore (lv' := [(4, .int (nI 1)), (2, .long 0), (0, .ref (k.2.1 91)), (1, .int (nI q))]) hx hb dX5_load_8 hl (by decide) rfl (fun ls hl => ?_)
  have lp : ∀ (fu : Nat) (f0 : Nat) (Rv : Nat → Int64) (s9 : Int64) (u : Int32), ((u = nI 1 ∧ mld q f0 Rv s9 = some R2) ∨ (u = nI 0 ∧ Rv = R2)) → f0 < fu → ∀ (H : Heap) (locs : List Loc) (ls : Array Slot), WX k s H locs (setL h 92 Rv) → lv_has ls 8 [(0, .ref (k.2.1 91)), (1, .int (nI q)), (2, .long s9), (4, .int u)] → W p l e rc_X5_load s m args below meth c H locs 0 0 Q (F0 m 10 ls []) := by
    intro fu
    induction fu with
    | zero => intro f0 Rv s9 u _ hm; exact absurd hm (Nat.not_lt_zero _)
    | succ fu ih =>
      intro f0 Rv s9 u hinv hm H locs ls w hl
      rcases hinv with ⟨eu, hb9⟩ | ⟨eu, hb9⟩
      · subst eu
        obtain ⟨f1, rfl⟩ := mld_pos hb9
        refine lv_iload hx hb dX5_load_10 (lv_at hl 3 rfl) ?_
        refine lv_if_eq (tgt := 104) hx hb dX5_load_12 (by decide) (fun c_12 => ?_) (fun c_12 => ?_)
        · exact absurd c_12 (by decide)
        · refine lv_aload_n hx hb dX5_load_15 rfl (lv_at hl 0 rfl) ?_
          refine lv_iload_n hx hb dX5_load_16 rfl (lv_at hl 1 rfl) ?_
          refine lv_iconst (v := (-1)) hx hb dX5_load_17 (by decide) ?_
          refine q_calli w (q_runV X w 91 (c_X5_cheapest l k (setL h 92 Rv) (q := q) (by omega) (-1)) (cwV 2 hts gX5_load_X5_cheapest rfl rfl rfl (by decide +kernel) ⟨Nat.le_of_ble_eq_true rfl, Nat.le_of_ble_eq_true rfl⟩) (by decide) rfl rfl rfl hl.1 rfl (Nat.le_of_ble_eq_true rfl) dX5_load_18 ⟨Nat.le_of_ble_eq_true rfl, Nat.le_of_ble_eq_true rfl⟩) (fun r_18 h_18 H locs hp w => ?_)
          obtain ⟨er_18, eh_18⟩ := hp
          rw [eh_18] at w
          have er_18 : r_18 = oI (mch ((setL h 92 Rv).2.1 92) q (-1)) := er_18
          rcases ho_18 : mch ((setL h 92 Rv).2.1 92) q (-1) with _ | t_18
          · rw [ho_18] at er_18
            have er_18 : r_18 = (-1) := er_18
            subst er_18
            refine lv_istore (lv' := [(5, .int (-1)), (0, .ref (k.2.1 91)), (1, .int (nI q)), (2, .long s9), (4, .int (nI 1))]) hx hb dX5_load_21 hl (by decide) rfl (fun ls hl => ?_)
            refine lv_iload hx hb dX5_load_23 (lv_at hl 0 rfl) ?_
            refine lv_iconst (v := (-1)) hx hb dX5_load_25 (by decide) ?_
            refine lv_icmp_ne (tgt := 33) hx hb dX5_load_26 (by decide) (fun c_26 => ?_) (fun c_26 => ?_)
            · exact absurd rfl c_26
            · refine lv_lconst (v := 0) hx hb dX5_load_29 (by decide) ?_
              refine lv_goto (tgt := 40) hx hb dX5_load_30 (by decide) ?_
              refine lv_lstore (lv' := [(6, .long 0), (5, .int (-1)), (0, .ref (k.2.1 91)), (1, .int (nI q)), (2, .long s9), (4, .int (nI 1))]) hx hb dX5_load_40 hl (by decide) rfl (fun ls hl => ?_)
              refine lv_iload hx hb dX5_load_42 (lv_at hl 1 rfl) ?_
              refine lv_iconst (v := (-1)) hx hb dX5_load_44 (by decide) ?_
              refine lv_icmp_eq (tgt := 70) hx hb dX5_load_45 (by decide) (fun c_45 => ?_) (fun c_45 => ?_)
              · refine lv_iconst (v := nI 0) hx hb dX5_load_70 (by decide) ?_
                refine lv_istore (lv' := [(4, .int (nI 0)), (6, .long 0), (5, .int (-1)), (0, .ref (k.2.1 91)), (1, .int (nI q)), (2, .long s9)]) hx hb dX5_load_71 hl (by decide) rfl (fun ls hl => ?_)
                refine lv_iload hx hb dX5_load_73 (lv_at hl 0 rfl) ?_
                refine lv_if_eq (tgt := 101) hx hb dX5_load_75 (by decide) (fun c_75 => ?_) (fun c_75 => ?_)
                · refine lv_goto (tgt := 10) hx hb dX5_load_101 (by decide) ?_
                  
                  exact ih f1 Rv s9 (nI 0) (Or.inr ⟨rfl, mld_n (R := Rv) ho_18 hb9⟩) (by omega) _ _ _ w (lv_sub hl [3, 4, 5, 0] rfl)
                · exact absurd (by decide) c_75
              · exact absurd rfl c_45
          · rw [ho_18] at er_18
            have er_18 : r_18 = nI t_18 := er_18
            subst er_18
            have ht_18 : t_18 < 16 := (amin_bd ho_18).1
            refine lv_istore (lv' := [(5, .int (nI t_18)), (0, .ref (k.2.1 91)), (1, .int (nI q)), (2, .long s9), (4, .int (nI 1))]) hx hb dX5_load_21 hl (by decide) rfl (fun ls hl => ?_)
            refine lv_iload hx hb dX5_load_23 (lv_at hl 0 rfl) ?_
            refine lv_iconst (v := (-1)) hx hb dX5_load_25 (by decide) ?_
            refine lv_icmp_ne (tgt := 33) hx hb dX5_load_26 (by decide) (fun c_26 => ?_) (fun c_26 => ?_)
            · refine lv_aload_n hx hb dX5_load_33 rfl (lv_at hl 1 rfl) ?_
              refine lv_iload_n hx hb dX5_load_34 rfl (lv_at hl 2 rfl) ?_
              refine lv_iload hx hb dX5_load_35 (lv_at hl 0 rfl) ?_
              refine q_calll w (q_runV X w 91 (c_X5_stepOf l k (setL h 92 Rv) (q := q) (t := t_18) (by omega) (by omega)) (cwV 2 hts gX5_load_X5_stepOf rfl rfl rfl (by decide +kernel) ⟨Nat.le_of_ble_eq_true rfl, Nat.le_of_ble_eq_true rfl⟩) (by decide) rfl rfl rfl hl.1 rfl (Nat.le_of_ble_eq_true rfl) dX5_load_37 ⟨Nat.le_of_ble_eq_true rfl, Nat.le_of_ble_eq_true rfl⟩) (fun r_37 h_37 H locs hp w => ?_)
              obtain ⟨er_37, eh_37⟩ := hp
              rw [eh_37] at w
              have er_37 : r_37 = mst ((setL h 92 Rv).2.1 92) q t_18 := er_37
              subst er_37
              refine lv_topl (fun x_40 ex_40 => ?_)
              refine lv_lstore (lv' := [(6, .long x_40), (5, .int (nI t_18)), (0, .ref (k.2.1 91)), (1, .int (nI q)), (2, .long s9), (4, .int (nI 1))]) hx hb dX5_load_40 hl (by decide) rfl (fun ls hl => ?_)
              refine lv_iload hx hb dX5_load_42 (lv_at hl 1 rfl) ?_
              refine lv_iconst (v := (-1)) hx hb dX5_load_44 (by decide) ?_
              refine lv_icmp_eq (tgt := 70) hx hb dX5_load_45 (by decide) (fun c_45 => ?_) (fun c_45 => ?_)
              · exact absurd c_45 (nI_m1 (by omega))
              · refine lv_lload_n hx hb dX5_load_48 rfl (lv_at hl 4 rfl) ?_
                refine lv_lload hx hb dX5_load_49 (lv_at hl 0 rfl) ?_
                refine lv_ladd hx hb dX5_load_51 ?_
                refine lv_aload_n hx hb dX5_load_52 rfl (lv_at hl 2 rfl) ?_
                refine q_get X w 91 0 (ci := 5) (by decide) rfl rfl hi5 (by decide) (by decide +kernel) rfl dX5_load_53 ?_
                refine lv_iload_n hx hb dX5_load_56 rfl (lv_at hl 3 rfl) ?_
                refine lv_iconst (v := nI 0) hx hb dX5_load_57 (by decide) ?_
                refine q_calli w (q_runS X w (c_X5_at l k (setL h 92 Rv) q 0) (va_cwS 2 hts gX5_load_X5_at rfl rfl rfl (by decide +kernel) ⟨Nat.le_of_ble_eq_true rfl, Nat.le_of_ble_eq_true rfl⟩) rfl hl.1 rfl (Nat.le_of_ble_eq_true rfl) dX5_load_58 ⟨Nat.le_of_ble_eq_true rfl, Nat.le_of_ble_eq_true rfl⟩) (fun r_58 h_58 H locs hp w => ?_)
                obtain ⟨er_58, eh_58⟩ := hp
                rw [eh_58] at w
                have er_58 : r_58 = nI (1 + 116 * q + 0) := er_58
                subst er_58
                refine q_lald X w 92 (1 + 116 * q + 0) (by decide) (fun _ => rfl) rfl (show (1 + 116 * q + 0) < 233 by omega) (by decide) dX5_load_61 ?_
                refine q_lif_gt X (tgt := 70) dX5_load_62 dX5_load_63 (by decide) (fun c_62 => ?_) (fun c_62 => ?_)
                · refine lv_iconst (v := nI 0) hx hb dX5_load_70 (by decide) ?_
                  refine lv_istore (lv' := [(4, .int (nI 0)), (6, .long x_40), (5, .int (nI t_18)), (0, .ref (k.2.1 91)), (1, .int (nI q)), (2, .long s9)]) hx hb dX5_load_71 hl (by decide) rfl (fun ls hl => ?_)
                  refine lv_iload hx hb dX5_load_73 (lv_at hl 0 rfl) ?_
                  refine lv_if_eq (tgt := 101) hx hb dX5_load_75 (by decide) (fun c_75 => ?_) (fun c_75 => ?_)
                  · refine lv_goto (tgt := 10) hx hb dX5_load_101 (by decide) ?_
                    
                    exact ih f1 Rv s9 (nI 0) (Or.inr ⟨rfl, mld_g (R := Rv) ho_18 (by rw [ex_40] at c_62; exact c_62) hb9⟩) (by omega) _ _ _ w (lv_sub hl [3, 4, 5, 0] rfl)
                  · exact absurd (by decide) c_75
                · refine lv_iconst (v := nI 1) hx hb dX5_load_66 (by decide) ?_
                  refine lv_goto (tgt := 71) hx hb dX5_load_67 (by decide) ?_
                  refine lv_istore (lv' := [(4, .int (nI 1)), (6, .long x_40), (5, .int (nI t_18)), (0, .ref (k.2.1 91)), (1, .int (nI q)), (2, .long s9)]) hx hb dX5_load_71 hl (by decide) rfl (fun ls hl => ?_)
                  refine lv_iload hx hb dX5_load_73 (lv_at hl 0 rfl) ?_
                  refine lv_if_eq (tgt := 101) hx hb dX5_load_75 (by decide) (fun c_75 => ?_) (fun c_75 => ?_)
                  · exact absurd c_75 (by decide)
                  · refine lv_lload_n hx hb dX5_load_78 rfl (lv_at hl 5 rfl) ?_
                    refine lv_lload hx hb dX5_load_79 (lv_at hl 1 rfl) ?_
                    refine lv_ladd hx hb dX5_load_81 ?_
                    refine lv_topl (fun x_82 ex_82 => ?_)
                    refine lv_lstore_n (lv' := [(2, .long x_82), (4, .int (nI 1)), (6, .long x_40), (5, .int (nI t_18)), (0, .ref (k.2.1 91)), (1, .int (nI q))]) hx hb dX5_load_82 rfl hl (by decide) rfl (fun ls hl => ?_)
                    refine lv_aload_n hx hb dX5_load_83 rfl (lv_at hl 4 rfl) ?_
                    refine q_get X w 91 0 (ci := 5) (by decide) rfl rfl hi5 (by decide) (by decide +kernel) rfl dX5_load_84 ?_
                    refine lv_iload_n hx hb dX5_load_87 rfl (lv_at hl 5 rfl) ?_
                    refine lv_bipush (v := nI 49) hx hb dX5_load_88 (by decide) ?_
                    refine lv_iload hx hb dX5_load_90 (lv_at hl 3 rfl) ?_
                    refine q_iaddN X dX5_load_92 ?_
                    refine q_calli w (q_runS X w (c_X5_at l k (setL h 92 Rv) q (49 + t_18)) (va_cwS 2 hts gX5_load_X5_at rfl rfl rfl (by decide +kernel) ⟨Nat.le_of_ble_eq_true rfl, Nat.le_of_ble_eq_true rfl⟩) rfl hl.1 rfl (Nat.le_of_ble_eq_true rfl) dX5_load_93 ⟨Nat.le_of_ble_eq_true rfl, Nat.le_of_ble_eq_true rfl⟩) (fun r_93 h_93 H locs hp w => ?_)
                    obtain ⟨er_93, eh_93⟩ := hp
                    rw [eh_93] at w
                    have er_93 : r_93 = nI (1 + 116 * q + (49 + t_18)) := er_93
                    subst er_93
                    refine lv_dup2_11 hx hb dX5_load_96 rfl rfl ?_
                    refine q_lald X w 92 (1 + 116 * q + (49 + t_18)) (by decide) (fun _ => rfl) rfl (show (1 + 116 * q + (49 + t_18)) < 233 by omega) (by decide) dX5_load_97 ?_
                    refine lv_lconst (v := 1) hx hb dX5_load_98 (by decide) ?_
                    refine lv_ladd hx hb dX5_load_99 ?_
                    refine lv_topl (fun x_100 ex_100 => ?_)
                    refine q_last X w 92 (1 + 116 * q + (49 + t_18)) (by decide) (fun _ => rfl) rfl (show (1 + 116 * q + (49 + t_18)) < 233 by omega) (by decide) dX5_load_100 (fun H locs w => ?_)
                    obtain ⟨h_100, eh_100⟩ : ∃ z9, z9 = upL (setL h 92 Rv) 92 (1 + 116 * q + (49 + t_18)) x_100 := ⟨_, rfl⟩
                    rw [← eh_100] at w
                    refine lv_goto (tgt := 10) hx hb dX5_load_101 (by decide) ?_
                    have e100 : h_100 = setL h 92 (va_up Rv (1 + 116 * q + (49 + t_18)) (Rv (1 + 116 * q + (49 + t_18)) + 1)) := by rw [eh_100, ex_100, setL_s, setL_up]
                    rw [e100] at w
                    exact ih f1 (va_up Rv (1 + 116 * q + (49 + t_18)) (Rv (1 + 116 * q + (49 + t_18)) + 1)) x_82 (nI 1) (Or.inl ⟨rfl, by rw [ex_82, ex_40]; exact mld_s (R := Rv) ho_18 (by rw [ex_40] at c_62; exact c_62) hb9⟩) (by omega) _ _ _ w (lv_sub hl [4, 5, 0, 1] rfl)
            · exact absurd c_26 (nI_m1 (by omega))
      · subst eu
        refine lv_iload hx hb dX5_load_10 (lv_at hl 3 rfl) ?_
        refine lv_if_eq (tgt := 104) hx hb dX5_load_12 (by decide) (fun c_12 => ?_) (fun c_12 => ?_)
        · refine lv_aload_n hx hb dX5_load_104 rfl (lv_at hl 0 rfl) ?_
          refine lv_iload_n hx hb dX5_load_105 rfl (lv_at hl 1 rfl) ?_
          refine q_callv w (q_runV X w 91 (c_X5_finish l k (setL h 92 Rv) (q := q) (by omega)) (cwV 1 hts gX5_load_X5_finish rfl rfl rfl (by decide +kernel) ⟨Nat.le_of_ble_eq_true rfl, Nat.le_of_ble_eq_true rfl⟩) (by decide) rfl rfl rfl hl.1 rfl (Nat.le_of_ble_eq_true rfl) dX5_load_106 ⟨Nat.le_of_ble_eq_true rfl, Nat.le_of_ble_eq_true rfl⟩) (fun h_106 H locs hp w => ?_)
          have eh_106 := hp
          exact hret _ _ _ _ _ _ _ dX5_load_109 w (by rw [eh_106, setL_s, setL_setL, hb9]) (Nat.le_of_ble_eq_true rfl) (Nat.le_of_ble_eq_true rfl)
        · exact absurd (by decide) c_12
  rw [eh_2] at w
  exact lp (F + 1) F (mcl (h.2.1 92) q) 0 (nI 1) (Or.inl ⟨rfl, hF⟩) (by omega) _ _ _ w (lv_sub hl [2, 3, 1, 0] rfl)

abbrev rc_X5_save : Room := { frames := 0, cells := 0, slots := 0, locals := 0 }
set_option maxHeartbeats 4000000 in
set_option maxRecDepth 100000 in
theorem c_X5_save (l : Launch) (k : kY) (h : hS) {b : Nat} (hs0 : h.1 91 2 = nI b) (hs4 : b ≤ 4) : CT l k yX5_save wsX5_save rc_X5_save [.ref (k.2.1 91)] h (QV k (fun h' => h' = msv h b)) 0 0 := by
  refine q_metV (cc := cX5_save) (maxL := 2) (by decide) rfl (Nat.le_of_ble_eq_true rfl) ?_
  intro p e s m args below meth c Q ls X w hl hret
  have hx := X.1
  have hb := X.2.1
  have hown := X.2.2.2.1
  have hts := X.2.2.2.2
  have hl : lv_has ls 2 [(0, .ref (k.2.1 91))] := hl
  have hi5 : ∀ w ∈ u_ws RX5 TX5 6, w ∈ wsX5_save := by decide +kernel
  refine lv_aload_n hx hb dX5_save_0 rfl (lv_at hl 0 rfl) ?_
  refine q_get X w 91 2 (ci := 5) (by decide) rfl rfl hi5 (by decide) (by decide +kernel) rfl dX5_save_1 ?_
  rw [hs0]
  refine lv_iconst (v := nI 4) hx hb dX5_save_4 (by decide) ?_
  refine q_icne X (tgt := 49) (by omega) (by decide) dX5_save_5 (by decide) (fun c_5 => ?_) (fun c_5 => ?_)
  · obtain ⟨g0, b1, eg, hb1, hb3, hg⟩ : ∃ (g0 : hS) (b1 : Nat), h = g0 ∧ g0.1 91 2 = nI b1 ∧ b1 ≤ 3 ∧ upI (setL g0 93 (wfz (g0.2.1 92) (g0.2.1 93) (233 * b1) 233)) 91 2 (nI (b1 + 1)) = msv h b := ⟨h, b, rfl, hs0, by omega, (msv_n c_5).symm⟩
    rw [eg] at w
    refine lv_iconst (v := nI 0) hx hb dX5_save_49 (by decide) ?_
    refine lv_istore_n (lv' := [(1, .int (nI 0)), (0, .ref (k.2.1 91))]) hx hb dX5_save_50 rfl hl (by decide) rfl (fun ls hl => ?_)
    have lp2 : ∀ (fu : Nat) (i : Nat), (i ≤ 233) → (233 - i) < fu → ∀ (H : Heap) (locs : List Loc) (ls : Array Slot), WX k s H locs (setL g0 93 (wfz (g0.2.1 92) (g0.2.1 93) (233 * b1) i)) → lv_has ls 2 [(0, .ref (k.2.1 91)), (1, .int (nI i))] → W p l e rc_X5_save s m args below meth c H locs 0 0 Q (F0 m 51 ls []) := by
      intro fu
      induction fu with
      | zero => intro i _ hm; exact absurd hm (Nat.not_lt_zero _)
      | succ fu ih2 =>
        intro i hinv2 hm2 H locs ls w hl
        have hi := hinv2
        refine lv_iload_n hx hb dX5_save_51 rfl (lv_at hl 1 rfl) ?_
        refine lv_sipush (v := nI 233) hx hb dX5_save_52 (by decide) ?_
        refine q_icge X (tgt := 85) (by omega) (by decide) dX5_save_55 (by decide) (fun c_55 => ?_) (fun c_55 => ?_)
        · refine lv_aload_n hx hb dX5_save_85 rfl (lv_at hl 0 rfl) ?_
          refine lv_dup hx hb dX5_save_86 rfl ?_
          refine q_get X w 91 2 (ci := 5) (by decide) rfl rfl hi5 (by decide) (by decide +kernel) rfl dX5_save_87 ?_
          rw [setL_I, hb1]
          refine lv_iconst (v := nI 1) hx hb dX5_save_90 (by decide) ?_
          refine q_iaddN X dX5_save_91 ?_
          refine q_put X w 91 2 .int (ci := 5) (by decide) rfl rfl rfl hi5 tyX5_ok nmX5 (by decide) (by decide +kernel) rfl (by decide +kernel) (rfl) (rfl) (Nat.le_of_ble_eq_true rfl) dX5_save_92 (fun H locs w => ?_)
          obtain ⟨h_92, eh_92⟩ : ∃ z9, z9 = upI (setL g0 93 (wfz (g0.2.1 92) (g0.2.1 93) (233 * b1) i)) 91 2 (nI (b1 + 1)) := ⟨_, rfl⟩
          rw [← eh_92] at w
          exact hret _ _ _ _ _ _ _ dX5_save_95 w (by obtain rfl : i = 233 := (by omega); rw [eh_92]; exact hg) (Nat.le_of_ble_eq_true rfl) (Nat.le_of_ble_eq_true rfl)
        · refine lv_aload_n hx hb dX5_save_58 rfl (lv_at hl 0 rfl) ?_
          refine q_get X w 91 1 (ci := 5) (by decide) rfl rfl hi5 (by decide) (by decide +kernel) rfl dX5_save_59 ?_
          refine lv_sipush (v := nI 233) hx hb dX5_save_62 (by decide) ?_
          refine lv_aload_n hx hb dX5_save_65 rfl (lv_at hl 0 rfl) ?_
          refine q_get X w 91 2 (ci := 5) (by decide) rfl rfl hi5 (by decide) (by decide +kernel) rfl dX5_save_66 ?_
          rw [setL_I, hb1]
          refine q_imulN X dX5_save_69 ?_
          refine lv_iload_n hx hb dX5_save_70 rfl (lv_at hl 1 rfl) ?_
          refine q_iaddN X dX5_save_71 ?_
          refine lv_aload_n hx hb dX5_save_72 rfl (lv_at hl 0 rfl) ?_
          refine q_get X w 91 0 (ci := 5) (by decide) rfl rfl hi5 (by decide) (by decide +kernel) rfl dX5_save_73 ?_
          refine lv_iload_n hx hb dX5_save_76 rfl (lv_at hl 1 rfl) ?_
          refine q_lald X w 92 i (by decide) (fun _ => rfl) rfl (show i < 233 by omega) (by decide) dX5_save_77 ?_
          refine lv_topl (fun x_78 ex_78 => ?_)
          refine q_last X w 93 ((233 * b1) + i) (by decide) (fun _ => rfl) rfl (show ((233 * b1) + i) < 932 by omega) (by decide) dX5_save_78 (fun H locs w => ?_)
          obtain ⟨h_78, eh_78⟩ : ∃ z9, z9 = upL (setL g0 93 (wfz (g0.2.1 92) (g0.2.1 93) (233 * b1) i)) 93 ((233 * b1) + i) x_78 := ⟨_, rfl⟩
          rw [← eh_78] at w
          refine lv_iinc (v := nI (i + 1)) (lv' := [(1, .int (nI (i + 1))), (0, .ref (k.2.1 91))]) hx hb dX5_save_79 hl (k := 1) rfl (nI_1 _) (by decide) rfl (fun ls hl => ?_)
          refine lv_goto (tgt := 51) hx hb dX5_save_82 (by decide) ?_
          rw [eh_78, setL_up, ex_78, setL_o _ _ (by decide), wfz_up] at w
          exact ih2 (i + 1) (by omega) (by omega) _ _ _ w (lv_sub hl [1, 0] rfl)
    rw [show g0 = setL g0 93 (wfz (g0.2.1 92) (g0.2.1 93) (233 * b1) 0) by rw [wfz_0, setL_self]] at w
    exact lp2 234 0 (by omega) (by omega) _ _ _ w (lv_sub hl [1, 0] rfl)
  · refine lv_iconst (v := nI 0) hx hb dX5_save_8 (by decide) ?_
    refine lv_istore_n (lv' := [(1, .int (nI 0)), (0, .ref (k.2.1 91))]) hx hb dX5_save_9 rfl hl (by decide) rfl (fun ls hl => ?_)
    have lp : ∀ (fu : Nat) (i : Nat), (i ≤ 699) → (699 - i) < fu → ∀ (H : Heap) (locs : List Loc) (ls : Array Slot), WX k s H locs (setL h 93 (pfz (fun j => h.2.1 93 (j + 233)) (h.2.1 93) i)) → lv_has ls 2 [(0, .ref (k.2.1 91)), (1, .int (nI i))] → W p l e rc_X5_save s m args below meth c H locs 0 0 Q (F0 m 10 ls []) := by
      intro fu
      induction fu with
      | zero => intro i _ hm; exact absurd hm (Nat.not_lt_zero _)
      | succ fu ih =>
        intro i hinv hm H locs ls w hl
        have hi := hinv
        refine lv_iload_n hx hb dX5_save_10 rfl (lv_at hl 1 rfl) ?_
        refine lv_sipush (v := nI 699) hx hb dX5_save_11 (by decide) ?_
        refine q_icge X (tgt := 39) (by omega) (by decide) dX5_save_14 (by decide) (fun c_14 => ?_) (fun c_14 => ?_)
        · refine lv_aload_n hx hb dX5_save_39 rfl (lv_at hl 0 rfl) ?_
          refine lv_dup hx hb dX5_save_40 rfl ?_
          refine q_get X w 91 2 (ci := 5) (by decide) rfl rfl hi5 (by decide) (by decide +kernel) rfl dX5_save_41 ?_
          rw [setL_I, hs0, c_5]
          refine lv_iconst (v := nI 1) hx hb dX5_save_44 (by decide) ?_
          refine q_isubN X (by omega) dX5_save_45 ?_
          refine q_put X w 91 2 .int (ci := 5) (by decide) rfl rfl rfl hi5 tyX5_ok nmX5 (by decide) (by decide +kernel) rfl (by decide +kernel) (rfl) (rfl) (Nat.le_of_ble_eq_true rfl) dX5_save_46 (fun H locs w => ?_)
          obtain ⟨h_46, eh_46⟩ : ∃ z9, z9 = upI (setL h 93 (pfz (fun j => h.2.1 93 (j + 233)) (h.2.1 93) i)) 91 2 (nI (4 - 1)) := ⟨_, rfl⟩
          rw [← eh_46] at w
          obtain ⟨g0, b1, eg, hb1, hb3, hg⟩ : ∃ (g0 : hS) (b1 : Nat), h_46 = g0 ∧ g0.1 91 2 = nI b1 ∧ b1 ≤ 3 ∧ upI (setL g0 93 (wfz (g0.2.1 92) (g0.2.1 93) (233 * b1) 233)) 91 2 (nI (b1 + 1)) = msv h b := ⟨h_46, 3, rfl, by rw [eh_46, upI_s]; rfl, by omega, by obtain rfl : i = 699 := (by omega); obtain rfl : b = 4 := c_5; rw [eh_46]; exact msv_4 h _⟩
          rw [eg] at w
          refine lv_iconst (v := nI 0) hx hb dX5_save_49 (by decide) ?_
          refine lv_istore_n (lv' := [(1, .int (nI 0)), (0, .ref (k.2.1 91))]) hx hb dX5_save_50 rfl hl (by decide) rfl (fun ls hl => ?_)
          have lp2 : ∀ (fu : Nat) (i : Nat), (i ≤ 233) → (233 - i) < fu → ∀ (H : Heap) (locs : List Loc) (ls : Array Slot), WX k s H locs (setL g0 93 (wfz (g0.2.1 92) (g0.2.1 93) (233 * b1) i)) → lv_has ls 2 [(0, .ref (k.2.1 91)), (1, .int (nI i))] → W p l e rc_X5_save s m args below meth c H locs 0 0 Q (F0 m 51 ls []) := by
            intro fu
            induction fu with
            | zero => intro i _ hm; exact absurd hm (Nat.not_lt_zero _)
            | succ fu ih2 =>
              intro i hinv2 hm2 H locs ls w hl
              have hi := hinv2
              refine lv_iload_n hx hb dX5_save_51 rfl (lv_at hl 1 rfl) ?_
              refine lv_sipush (v := nI 233) hx hb dX5_save_52 (by decide) ?_
              refine q_icge X (tgt := 85) (by omega) (by decide) dX5_save_55 (by decide) (fun c_55 => ?_) (fun c_55 => ?_)
              · refine lv_aload_n hx hb dX5_save_85 rfl (lv_at hl 0 rfl) ?_
                refine lv_dup hx hb dX5_save_86 rfl ?_
                refine q_get X w 91 2 (ci := 5) (by decide) rfl rfl hi5 (by decide) (by decide +kernel) rfl dX5_save_87 ?_
                rw [setL_I, hb1]
                refine lv_iconst (v := nI 1) hx hb dX5_save_90 (by decide) ?_
                refine q_iaddN X dX5_save_91 ?_
                refine q_put X w 91 2 .int (ci := 5) (by decide) rfl rfl rfl hi5 tyX5_ok nmX5 (by decide) (by decide +kernel) rfl (by decide +kernel) (rfl) (rfl) (Nat.le_of_ble_eq_true rfl) dX5_save_92 (fun H locs w => ?_)
                obtain ⟨h_92, eh_92⟩ : ∃ z9, z9 = upI (setL g0 93 (wfz (g0.2.1 92) (g0.2.1 93) (233 * b1) i)) 91 2 (nI (b1 + 1)) := ⟨_, rfl⟩
                rw [← eh_92] at w
                exact hret _ _ _ _ _ _ _ dX5_save_95 w (by obtain rfl : i = 233 := (by omega); rw [eh_92]; exact hg) (Nat.le_of_ble_eq_true rfl) (Nat.le_of_ble_eq_true rfl)
              · refine lv_aload_n hx hb dX5_save_58 rfl (lv_at hl 0 rfl) ?_
                refine q_get X w 91 1 (ci := 5) (by decide) rfl rfl hi5 (by decide) (by decide +kernel) rfl dX5_save_59 ?_
                refine lv_sipush (v := nI 233) hx hb dX5_save_62 (by decide) ?_
                refine lv_aload_n hx hb dX5_save_65 rfl (lv_at hl 0 rfl) ?_
                refine q_get X w 91 2 (ci := 5) (by decide) rfl rfl hi5 (by decide) (by decide +kernel) rfl dX5_save_66 ?_
                rw [setL_I, hb1]
                refine q_imulN X dX5_save_69 ?_
                refine lv_iload_n hx hb dX5_save_70 rfl (lv_at hl 1 rfl) ?_
                refine q_iaddN X dX5_save_71 ?_
                refine lv_aload_n hx hb dX5_save_72 rfl (lv_at hl 0 rfl) ?_
                refine q_get X w 91 0 (ci := 5) (by decide) rfl rfl hi5 (by decide) (by decide +kernel) rfl dX5_save_73 ?_
                refine lv_iload_n hx hb dX5_save_76 rfl (lv_at hl 1 rfl) ?_
                refine q_lald X w 92 i (by decide) (fun _ => rfl) rfl (show i < 233 by omega) (by decide) dX5_save_77 ?_
                refine lv_topl (fun x_78 ex_78 => ?_)
                refine q_last X w 93 ((233 * b1) + i) (by decide) (fun _ => rfl) rfl (show ((233 * b1) + i) < 932 by omega) (by decide) dX5_save_78 (fun H locs w => ?_)
                obtain ⟨h_78, eh_78⟩ : ∃ z9, z9 = upL (setL g0 93 (wfz (g0.2.1 92) (g0.2.1 93) (233 * b1) i)) 93 ((233 * b1) + i) x_78 := ⟨_, rfl⟩
                rw [← eh_78] at w
                refine lv_iinc (v := nI (i + 1)) (lv' := [(1, .int (nI (i + 1))), (0, .ref (k.2.1 91))]) hx hb dX5_save_79 hl (k := 1) rfl (nI_1 _) (by decide) rfl (fun ls hl => ?_)
                refine lv_goto (tgt := 51) hx hb dX5_save_82 (by decide) ?_
                rw [eh_78, setL_up, ex_78, setL_o _ _ (by decide), wfz_up] at w
                exact ih2 (i + 1) (by omega) (by omega) _ _ _ w (lv_sub hl [1, 0] rfl)
          rw [show g0 = setL g0 93 (wfz (g0.2.1 92) (g0.2.1 93) (233 * b1) 0) by rw [wfz_0, setL_self]] at w
          exact lp2 234 0 (by omega) (by omega) _ _ _ w (lv_sub hl [1, 0] rfl)
        · refine lv_aload_n hx hb dX5_save_17 rfl (lv_at hl 0 rfl) ?_
          refine q_get X w 91 1 (ci := 5) (by decide) rfl rfl hi5 (by decide) (by decide +kernel) rfl dX5_save_18 ?_
          refine lv_iload_n hx hb dX5_save_21 rfl (lv_at hl 1 rfl) ?_
          refine lv_aload_n hx hb dX5_save_22 rfl (lv_at hl 0 rfl) ?_
          refine q_get X w 91 1 (ci := 5) (by decide) rfl rfl hi5 (by decide) (by decide +kernel) rfl dX5_save_23 ?_
          refine lv_iload_n hx hb dX5_save_26 rfl (lv_at hl 1 rfl) ?_
          refine lv_sipush (v := nI 233) hx hb dX5_save_27 (by decide) ?_
          refine q_iaddN X dX5_save_30 ?_
          refine q_lald X w 93 (i + 233) (by decide) (fun _ => rfl) rfl (show (i + 233) < 932 by omega) (by decide) dX5_save_31 ?_
          refine lv_topl (fun x_32 ex_32 => ?_)
          refine q_last X w 93 i (by decide) (fun _ => rfl) rfl (show i < 932 by omega) (by decide) dX5_save_32 (fun H locs w => ?_)
          obtain ⟨h_32, eh_32⟩ : ∃ z9, z9 = upL (setL h 93 (pfz (fun j => h.2.1 93 (j + 233)) (h.2.1 93) i)) 93 i x_32 := ⟨_, rfl⟩
          rw [← eh_32] at w
          refine lv_iinc (v := nI (i + 1)) (lv' := [(1, .int (nI (i + 1))), (0, .ref (k.2.1 91))]) hx hb dX5_save_33 hl (k := 1) rfl (nI_1 _) (by decide) rfl (fun ls hl => ?_)
          refine lv_goto (tgt := 10) hx hb dX5_save_36 (by decide) ?_
          rw [eh_32, setL_up, ex_32, setL_s, pfz_out (by omega), pfz_up (fun j => h.2.1 93 (j + 233))] at w
          exact ih (i + 1) (by omega) (by omega) _ _ _ w (lv_sub hl [1, 0] rfl)
    rw [show h = setL h 93 (pfz (fun j => h.2.1 93 (j + 233)) (h.2.1 93) 0) by rw [pfz_0, setL_self]] at w
    exact lp 700 0 (by omega) (by omega) _ _ _ w (lv_sub hl [1, 0] rfl)

abbrev rc_X5_back : Room := { frames := 0, cells := 0, slots := 0, locals := 0 }
set_option maxHeartbeats 4000000 in
set_option maxRecDepth 100000 in
theorem c_X5_back (l : Launch) (k : kY) (h : hS) {b : Nat} (hs0 : h.1 91 2 = nI b) (hs1 : 1 ≤ b) (hs4 : b ≤ 4) : CT l k yX5_back wsX5_back rc_X5_back [.ref (k.2.1 91)] h (QV k (fun h' => h' = mbk h b)) 0 0 := by
  refine q_metV (cc := cX5_back) (maxL := 2) (by decide) rfl (Nat.le_of_ble_eq_true rfl) ?_
  intro p e s m args below meth c Q ls X w hl hret
  have hx := X.1
  have hb := X.2.1
  have hown := X.2.2.2.1
  have hts := X.2.2.2.2
  have hl : lv_has ls 2 [(0, .ref (k.2.1 91))] := hl
  have hi5 : ∀ w ∈ u_ws RX5 TX5 6, w ∈ wsX5_back := by decide +kernel
  refine lv_aload_n hx hb dX5_back_0 rfl (lv_at hl 0 rfl) ?_
  refine lv_dup hx hb dX5_back_1 rfl ?_
  refine q_get X w 91 2 (ci := 5) (by decide) rfl rfl hi5 (by decide) (by decide +kernel) rfl dX5_back_2 ?_
  rw [hs0]
  refine lv_iconst (v := nI 1) hx hb dX5_back_5 (by decide) ?_
  refine q_isubN X hs1 dX5_back_6 ?_
  refine q_put X w 91 2 .int (ci := 5) (by decide) rfl rfl rfl hi5 tyX5_ok nmX5 (by decide) (by decide +kernel) rfl (by decide +kernel) (rfl) (rfl) (Nat.le_of_ble_eq_true rfl) dX5_back_7 (fun H locs w => ?_)
  obtain ⟨h_7, eh_7⟩ : ∃ z9, z9 = upI h 91 2 (nI (b - 1)) := ⟨_, rfl⟩
  rw [← eh_7] at w
  refine lv_iconst (v := nI 0) hx hb dX5_back_10 (by decide) ?_
  refine lv_istore_n (lv' := [(1, .int (nI 0)), (0, .ref (k.2.1 91))]) hx hb dX5_back_11 rfl hl (by decide) rfl (fun ls hl => ?_)
  have lp : ∀ (fu : Nat) (i : Nat), (i ≤ 233) → (233 - i) < fu → ∀ (H : Heap) (locs : List Loc) (ls : Array Slot), WX k s H locs (setL h_7 92 (pfz (fun j => h.2.1 93 (233 * (b - 1) + j)) (h.2.1 92) i)) → lv_has ls 2 [(0, .ref (k.2.1 91)), (1, .int (nI i))] → W p l e rc_X5_back s m args below meth c H locs 0 0 Q (F0 m 12 ls []) := by
    intro fu
    induction fu with
    | zero => intro i _ hm; exact absurd hm (Nat.not_lt_zero _)
    | succ fu ih =>
      intro i hinv hm H locs ls w hl
      have hi := hinv
      refine lv_iload_n hx hb dX5_back_12 rfl (lv_at hl 1 rfl) ?_
      refine lv_sipush (v := nI 233) hx hb dX5_back_13 (by decide) ?_
      refine q_icge X (tgt := 46) (by omega) (by decide) dX5_back_16 (by decide) (fun c_16 => ?_) (fun c_16 => ?_)
      · obtain rfl : i = 233 := by omega
        exact hret _ _ _ _ _ _ _ dX5_back_46 w (by rw [eh_7]; rfl) (Nat.le_of_ble_eq_true rfl) (Nat.le_of_ble_eq_true rfl)
      · refine lv_aload_n hx hb dX5_back_19 rfl (lv_at hl 0 rfl) ?_
        refine q_get X w 91 0 (ci := 5) (by decide) rfl rfl hi5 (by decide) (by decide +kernel) rfl dX5_back_20 ?_
        refine lv_iload_n hx hb dX5_back_23 rfl (lv_at hl 1 rfl) ?_
        refine lv_aload_n hx hb dX5_back_24 rfl (lv_at hl 0 rfl) ?_
        refine q_get X w 91 1 (ci := 5) (by decide) rfl rfl hi5 (by decide) (by decide +kernel) rfl dX5_back_25 ?_
        refine lv_sipush (v := nI 233) hx hb dX5_back_28 (by decide) ?_
        refine lv_aload_n hx hb dX5_back_31 rfl (lv_at hl 0 rfl) ?_
        refine q_get X w 91 2 (ci := 5) (by decide) rfl rfl hi5 (by decide) (by decide +kernel) rfl dX5_back_32 ?_
        have e32 : h_7.1 91 2 = nI (b - 1) := by rw [eh_7, upI_s]; rfl
        rw [setL_I, e32]
        refine q_imulN X dX5_back_35 ?_
        refine lv_iload_n hx hb dX5_back_36 rfl (lv_at hl 1 rfl) ?_
        refine q_iaddN X dX5_back_37 ?_
        refine q_lald X w 93 ((233 * (b - 1)) + i) (by decide) (fun _ => rfl) rfl (show ((233 * (b - 1)) + i) < 932 by omega) (by decide) dX5_back_38 ?_
        refine lv_topl (fun x_39 ex_39 => ?_)
        refine q_last X w 92 i (by decide) (fun _ => rfl) rfl (show i < 233 by omega) (by decide) dX5_back_39 (fun H locs w => ?_)
        obtain ⟨h_39, eh_39⟩ : ∃ z9, z9 = upL (setL h_7 92 (pfz (fun j => h.2.1 93 (233 * (b - 1) + j)) (h.2.1 92) i)) 92 i x_39 := ⟨_, rfl⟩
        rw [← eh_39] at w
        refine lv_iinc (v := nI (i + 1)) (lv' := [(1, .int (nI (i + 1))), (0, .ref (k.2.1 91))]) hx hb dX5_back_40 hl (k := 1) rfl (nI_1 _) (by decide) rfl (fun ls hl => ?_)
        refine lv_goto (tgt := 12) hx hb dX5_back_43 (by decide) ?_
        rw [eh_39, setL_up, ex_39, setL_o _ _ (by decide), show h_7.2.1 93 = h.2.1 93 by rw [eh_7]; rfl, pfz_up (fun j => h.2.1 93 (233 * (b - 1) + j))] at w
        exact ih (i + 1) (by omega) (by omega) _ _ _ w (lv_sub hl [1, 0] rfl)
  rw [show h_7 = setL h_7 92 (pfz (fun j => h.2.1 93 (233 * (b - 1) + j)) (h.2.1 92) 0) by rw [pfz_0, eh_7]; exact (setL_self _ 92).symm] at w
  exact lp 234 0 (by omega) (by omega) _ _ _ w (lv_sub hl [1, 0] rfl)

abbrev rc_X5_changed : Room := { frames := 1, cells := 0, slots := 0, locals := 21 }
set_option maxHeartbeats 4000000 in
set_option maxRecDepth 100000 in
theorem c_X5_changed (l : Launch) (k : kY) (h : hS) {b j : Nat} (hs0 : h.1 91 2 = nI b) (hs4 : b ≤ 4) (hj : j < 233) (x : Int32) : CT l k yX5_changed wsX5_changed rc_X5_changed [.ref (k.2.1 91), .int (nI j), .int x] h (QI k (fun r h' => r = (h.2.1 92 j).toInt32 ∧ h' = upL (msv h b) 92 j x.toInt64)) 0 0 := by
  refine q_metI (cc := cX5_changed) (maxL := 4) (ret := some .int) (ty := .int) (by decide) rfl rfl (Nat.le_of_ble_eq_true rfl) ?_
  intro p e s m args below meth c Q ls X w hl hret
  have hx := X.1
  have hb := X.2.1
  have hown := X.2.2.2.1
  have hts := X.2.2.2.2
  have hl : lv_has ls 4 [(0, .ref (k.2.1 91)), (1, .int (nI j)), (2, .int x)] := hl
  have hi5 : ∀ w ∈ u_ws RX5 TX5 6, w ∈ wsX5_changed := by decide +kernel
  refine lv_aload_n hx hb dX5_changed_0 rfl (lv_at hl 0 rfl) ?_
  refine q_callv w (q_runV X w 91 (c_X5_save l k h hs0 hs4) (cwV 0 hts gX5_changed_X5_save rfl rfl rfl (by decide +kernel) ⟨Nat.le_of_ble_eq_true rfl, Nat.le_of_ble_eq_true rfl⟩) (by decide) rfl rfl rfl hl.1 rfl (Nat.le_of_ble_eq_true rfl) dX5_changed_1 ⟨Nat.le_of_ble_eq_true rfl, Nat.le_of_ble_eq_true rfl⟩) (fun h_1 H locs hp w => ?_)
  have eh_1 := hp
  refine lv_aload_n hx hb dX5_changed_4 rfl (lv_at hl 0 rfl) ?_
  refine q_get X w 91 0 (ci := 5) (by decide) rfl rfl hi5 (by decide) (by decide +kernel) rfl dX5_changed_5 ?_
  refine lv_iload_n hx hb dX5_changed_8 rfl (lv_at hl 1 rfl) ?_
  refine q_lald X w 92 j (by decide) (fun _ => rfl) rfl (show j < 233 by omega) (by decide) dX5_changed_9 ?_
  refine lv_l2i hx hb dX5_changed_10 rfl ?_
  refine lv_topi (fun x_11 ex_11 => ?_)
  refine lv_istore_n (lv' := [(3, .int x_11), (0, .ref (k.2.1 91)), (1, .int (nI j)), (2, .int x)]) hx hb dX5_changed_11 rfl hl (by decide) rfl (fun ls hl => ?_)
  refine lv_aload_n hx hb dX5_changed_12 rfl (lv_at hl 1 rfl) ?_
  refine q_get X w 91 0 (ci := 5) (by decide) rfl rfl hi5 (by decide) (by decide +kernel) rfl dX5_changed_13 ?_
  refine lv_iload_n hx hb dX5_changed_16 rfl (lv_at hl 2 rfl) ?_
  refine lv_iload_n hx hb dX5_changed_17 rfl (lv_at hl 3 rfl) ?_
  refine lv_i2l hx hb dX5_changed_18 rfl ?_
  refine q_last X w 92 j (by decide) (fun _ => rfl) rfl (show j < 233 by omega) (by decide) dX5_changed_19 (fun H locs w => ?_)
  obtain ⟨h_19, eh_19⟩ : ∃ z9, z9 = upL h_1 92 j x.toInt64 := ⟨_, rfl⟩
  rw [← eh_19] at w
  refine lv_iload_n hx hb dX5_changed_20 rfl (lv_at hl 0 rfl) ?_
  exact hret _ _ _ _ _ _ _ _ dX5_changed_21 w rfl ⟨by rw [ex_11, eh_1]; rfl, by rw [eh_19, eh_1]⟩ (Nat.le_of_ble_eq_true rfl) (Nat.le_of_ble_eq_true rfl)

abbrev rc_X5_mix : Room := { frames := 0, cells := 0, slots := 0, locals := 0 }
set_option maxHeartbeats 4000000 in
set_option maxRecDepth 100000 in
theorem c_X5_mix (l : Launch) (k : kY) (h : hS) (v : Int64) : CT l k yX5_mix wsX5_mix rc_X5_mix [.ref (k.2.1 91), .long v] h (QV k (fun h' => h' = upL h 91 5 (31 * h.2.1 91 5 + v))) 0 0 := by
  refine q_metV (cc := cX5_mix) (maxL := 3) (by decide) rfl (Nat.le_of_ble_eq_true rfl) ?_
  intro p e s m args below meth c Q ls X w hl hret
  have hx := X.1
  have hb := X.2.1
  have hown := X.2.2.2.1
  have hts := X.2.2.2.2
  have hl : lv_has ls 3 [(0, .ref (k.2.1 91)), (1, .long v)] := hl
  have hi5 : ∀ w ∈ u_ws RX5 TX5 6, w ∈ wsX5_mix := by decide +kernel
  refine lv_aload_n hx hb dX5_mix_0 rfl (lv_at hl 0 rfl) ?_
  refine lv_ldc2 (v := 31) hx hb hown (hts (.constantLong RX5 164 31) (by decide +kernel)) dX5_mix_1 ?_
  refine lv_aload_n hx hb dX5_mix_4 rfl (lv_at hl 0 rfl) ?_
  refine q_get X w 91 5 (ci := 5) (by decide) rfl rfl hi5 (by decide) (by decide +kernel) rfl dX5_mix_5 ?_
  refine lv_lmul hx hb dX5_mix_8 ?_
  refine lv_lload_n hx hb dX5_mix_9 rfl (lv_at hl 1 rfl) ?_
  refine lv_ladd hx hb dX5_mix_10 ?_
  refine q_putL X w hi5 (by decide +kernel) dX5_mix_11 (fun H locs w => ?_)
  obtain ⟨h_11, eh_11⟩ : ∃ z9, z9 = upL h 91 5 ((31 * (h.2.1 91 5)) + v) := ⟨_, rfl⟩
  rw [← eh_11] at w
  exact hret _ _ _ _ _ _ _ dX5_mix_14 w eh_11 (Nat.le_of_ble_eq_true rfl) (Nat.le_of_ble_eq_true rfl)

abbrev rc_X5_toneCheck : Room := { frames := 2, cells := 0, slots := 0, locals := 45 }
set_option maxHeartbeats 4000000 in
set_option maxRecDepth 100000 in
theorem c_X5_toneCheck (l : Launch) (k : kY) (h : hS) (x y : Int32) : CT l k yX5_toneCheck wsX5_toneCheck rc_X5_toneCheck [.ref (k.2.1 91), .int x, .int y] h (QV k (fun h' => (isP x ∧ isT y ∧ h' = upI h 91 3 (nI 0)) ∨ (¬ (isP x ∧ isT y) ∧ h' = upI h 91 3 (nI 1)))) 0 0 := by
  refine q_metV (cc := cX5_toneCheck) (maxL := 3) (by decide) rfl (Nat.le_of_ble_eq_true rfl) ?_
  intro p e s m args below meth c Q ls X w hl hret
  have hx := X.1
  have hb := X.2.1
  have hown := X.2.2.2.1
  have hts := X.2.2.2.2
  have hl : lv_has ls 3 [(0, .ref (k.2.1 91)), (1, .int x), (2, .int y)] := hl
  have hi5 : ∀ w ∈ u_ws RX5 TX5 6, w ∈ wsX5_toneCheck := by decide +kernel
  refine lv_aload_n hx hb dX5_toneCheck_0 rfl (lv_at hl 0 rfl) ?_
  refine lv_iload_n hx hb dX5_toneCheck_1 rfl (lv_at hl 1 rfl) ?_
  refine q_calli w (q_runS X w (c_X5_isPair l k h x) (va_cwS 1 hts gX5_toneCheck_X5_isPair rfl rfl rfl (by decide +kernel) ⟨Nat.le_of_ble_eq_true rfl, Nat.le_of_ble_eq_true rfl⟩) rfl hl.1 rfl (Nat.le_of_ble_eq_true rfl) dX5_toneCheck_2 ⟨Nat.le_of_ble_eq_true rfl, Nat.le_of_ble_eq_true rfl⟩) (fun r_2 h_2 H locs hp w => ?_)
  obtain ⟨hp, eh_2⟩ := hp
  rw [eh_2] at w
  rcases hp with ⟨hd_2, er_2⟩ | ⟨hd_2, er_2⟩
  · subst er_2
    refine lv_if_eq (tgt := 19) hx hb dX5_toneCheck_5 (by decide) (fun c_5 => ?_) (fun c_5 => ?_)
    · exact absurd c_5 (by decide)
    · refine lv_iload_n hx hb dX5_toneCheck_8 rfl (lv_at hl 2 rfl) ?_
      refine q_calli w (q_runS X w (c_X5_isTone l k h y) (va_cwS 1 hts gX5_toneCheck_X5_isTone rfl rfl rfl (by decide +kernel) ⟨Nat.le_of_ble_eq_true rfl, Nat.le_of_ble_eq_true rfl⟩) rfl hl.1 rfl (Nat.le_of_ble_eq_true rfl) dX5_toneCheck_9 ⟨Nat.le_of_ble_eq_true rfl, Nat.le_of_ble_eq_true rfl⟩) (fun r_9 h_9 H locs hp w => ?_)
      obtain ⟨hp, eh_9⟩ := hp
      rw [eh_9] at w
      rcases hp with ⟨hd_9, er_9⟩ | ⟨hd_9, er_9⟩
      · subst er_9
        refine lv_if_eq (tgt := 19) hx hb dX5_toneCheck_12 (by decide) (fun c_12 => ?_) (fun c_12 => ?_)
        · exact absurd c_12 (by decide)
        · refine lv_iconst (v := nI 0) hx hb dX5_toneCheck_15 (by decide) ?_
          refine lv_goto (tgt := 20) hx hb dX5_toneCheck_16 (by decide) ?_
          refine q_put X w 91 3 .int (ci := 5) (by decide) rfl rfl rfl hi5 tyX5_ok nmX5 (by decide) (by decide +kernel) rfl (by decide +kernel) (rfl) (rfl) (Nat.le_of_ble_eq_true rfl) dX5_toneCheck_20 (fun H locs w => ?_)
          obtain ⟨h_20, eh_20⟩ : ∃ z9, z9 = upI h 91 3 (nI 0) := ⟨_, rfl⟩
          rw [← eh_20] at w
          have kT : h_20.1 91 3 = nI 0 := by rw [eh_20, upI_s]; rfl
          exact hret _ _ _ _ _ _ _ dX5_toneCheck_23 w (by first | exact Or.inl ⟨hd_2, hd_9, eh_20⟩ | exact Or.inr ⟨fun z => hd_9 z.2, eh_20⟩ | exact Or.inr ⟨fun z => hd_2 z.1, eh_20⟩) (Nat.le_of_ble_eq_true rfl) (Nat.le_of_ble_eq_true rfl)
      · subst er_9
        refine lv_if_eq (tgt := 19) hx hb dX5_toneCheck_12 (by decide) (fun c_12 => ?_) (fun c_12 => ?_)
        · refine lv_iconst (v := nI 1) hx hb dX5_toneCheck_19 (by decide) ?_
          refine q_put X w 91 3 .int (ci := 5) (by decide) rfl rfl rfl hi5 tyX5_ok nmX5 (by decide) (by decide +kernel) rfl (by decide +kernel) (rfl) (rfl) (Nat.le_of_ble_eq_true rfl) dX5_toneCheck_20 (fun H locs w => ?_)
          obtain ⟨h_20, eh_20⟩ : ∃ z9, z9 = upI h 91 3 (nI 1) := ⟨_, rfl⟩
          rw [← eh_20] at w
          have kT : h_20.1 91 3 = nI 1 := by rw [eh_20, upI_s]; rfl
          exact hret _ _ _ _ _ _ _ dX5_toneCheck_23 w (by first | exact Or.inl ⟨hd_2, hd_9, eh_20⟩ | exact Or.inr ⟨fun z => hd_9 z.2, eh_20⟩ | exact Or.inr ⟨fun z => hd_2 z.1, eh_20⟩) (Nat.le_of_ble_eq_true rfl) (Nat.le_of_ble_eq_true rfl)
        · exact absurd (by decide) c_12
  · subst er_2
    refine lv_if_eq (tgt := 19) hx hb dX5_toneCheck_5 (by decide) (fun c_5 => ?_) (fun c_5 => ?_)
    · refine lv_iconst (v := nI 1) hx hb dX5_toneCheck_19 (by decide) ?_
      refine q_put X w 91 3 .int (ci := 5) (by decide) rfl rfl rfl hi5 tyX5_ok nmX5 (by decide) (by decide +kernel) rfl (by decide +kernel) (rfl) (rfl) (Nat.le_of_ble_eq_true rfl) dX5_toneCheck_20 (fun H locs w => ?_)
      obtain ⟨h_20, eh_20⟩ : ∃ z9, z9 = upI h 91 3 (nI 1) := ⟨_, rfl⟩
      rw [← eh_20] at w
      have kT : h_20.1 91 3 = nI 1 := by rw [eh_20, upI_s]; rfl
      exact hret _ _ _ _ _ _ _ dX5_toneCheck_23 w (by first | exact Or.inl ⟨hd_2, hd_9, eh_20⟩ | exact Or.inr ⟨fun z => hd_9 z.2, eh_20⟩ | exact Or.inr ⟨fun z => hd_2 z.1, eh_20⟩) (Nat.le_of_ble_eq_true rfl) (Nat.le_of_ble_eq_true rfl)
    · exact absurd (by decide) c_5

abbrev rc_X5_send : Room := { frames := 1, cells := 0, slots := 0, locals := 21 }
set_option maxHeartbeats 4000000 in
set_option maxRecDepth 100000 in
theorem c_X5_send (l : Launch) (k : kY) (h : hS) {q : Nat} (hq : q < 2) : CT l k yX5_send wsX5_send rc_X5_send [.ref (k.2.1 91), .int (nI q)] h (QI k (fun r h' => r = (h.2.1 92 (1 + 116 * q + 98)).toInt32 ∧ h' = setL h 92 (msd (h.2.1 92) q))) 0 0 := by
  refine q_metI (cc := cX5_send) (maxL := 3) (ret := some .int) (ty := .int) (by decide) rfl rfl (Nat.le_of_ble_eq_true rfl) ?_
  intro p e s m args below meth c Q ls X w hl hret
  have hx := X.1
  have hb := X.2.1
  have hown := X.2.2.2.1
  have hts := X.2.2.2.2
  have hl : lv_has ls 3 [(0, .ref (k.2.1 91)), (1, .int (nI q))] := hl
  have hi5 : ∀ w ∈ u_ws RX5 TX5 6, w ∈ wsX5_send := by decide +kernel
  refine lv_aload_n hx hb dX5_send_0 rfl (lv_at hl 0 rfl) ?_
  refine q_get X w 91 0 (ci := 5) (by decide) rfl rfl hi5 (by decide) (by decide +kernel) rfl dX5_send_1 ?_
  refine lv_iload_n hx hb dX5_send_4 rfl (lv_at hl 1 rfl) ?_
  refine lv_bipush (v := nI 108) hx hb dX5_send_5 (by decide) ?_
  refine q_calli w (q_runS X w (c_X5_at l k h q 108) (va_cwS 2 hts gX5_send_X5_at rfl rfl rfl (by decide +kernel) ⟨Nat.le_of_ble_eq_true rfl, Nat.le_of_ble_eq_true rfl⟩) rfl hl.1 rfl (Nat.le_of_ble_eq_true rfl) dX5_send_7 ⟨Nat.le_of_ble_eq_true rfl, Nat.le_of_ble_eq_true rfl⟩) (fun r_7 h_7 H locs hp w => ?_)
  obtain ⟨er_7, eh_7⟩ := hp
  rw [eh_7] at w
  have er_7 : r_7 = nI (1 + 116 * q + 108) := er_7
  subst er_7
  refine lv_lconst (v := 1) hx hb dX5_send_10 (by decide) ?_
  refine q_last X w 92 (1 + 116 * q + 108) (by decide) (fun _ => rfl) rfl (show (1 + 116 * q + 108) < 233 by omega) (by decide) dX5_send_11 (fun H locs w => ?_)
  obtain ⟨h_11, eh_11⟩ : ∃ z9, z9 = upL h 92 (1 + 116 * q + 108) 1 := ⟨_, rfl⟩
  rw [← eh_11] at w
  refine lv_iconst (v := nI 0) hx hb dX5_send_12 (by decide) ?_
  refine lv_istore_n (lv' := [(2, .int (nI 0)), (0, .ref (k.2.1 91)), (1, .int (nI q))]) hx hb dX5_send_13 rfl hl (by decide) rfl (fun ls hl => ?_)
  have lp : ∀ (fu : Nat) (t : Nat), (t ≤ 3) → (3 - t) < fu → ∀ (H : Heap) (locs : List Loc) (ls : Array Slot), WX k s H locs (setL h 92 (wfz (fun j => va_up (h.2.1 92) (1 + 116 * q + 108) 1 (1 + 116 * q + (98 + j))) (va_up (h.2.1 92) (1 + 116 * q + 108) 1) (1 + 116 * q + 109) t)) → lv_has ls 3 [(0, .ref (k.2.1 91)), (1, .int (nI q)), (2, .int (nI t))] → W p l e rc_X5_send s m args below meth c H locs 0 0 Q (F0 m 14 ls []) := by
    intro fu
    induction fu with
    | zero => intro t _ hm; exact absurd hm (Nat.not_lt_zero _)
    | succ fu ih =>
      intro t hinv hm H locs ls w hl
      have ht := hinv
      refine lv_iload_n hx hb dX5_send_14 rfl (lv_at hl 2 rfl) ?_
      refine lv_iconst (v := nI 3) hx hb dX5_send_15 (by decide) ?_
      refine q_icge X (tgt := 51) (by omega) (by decide) dX5_send_16 (by decide) (fun c_16 => ?_) (fun c_16 => ?_)
      · refine lv_aload_n hx hb dX5_send_51 rfl (lv_at hl 0 rfl) ?_
        refine q_get X w 91 0 (ci := 5) (by decide) rfl rfl hi5 (by decide) (by decide +kernel) rfl dX5_send_52 ?_
        refine lv_iload_n hx hb dX5_send_55 rfl (lv_at hl 1 rfl) ?_
        refine lv_bipush (v := nI 98) hx hb dX5_send_56 (by decide) ?_
        refine q_calli w (q_runS X w (c_X5_at l k (setL h 92 (wfz (fun j => va_up (h.2.1 92) (1 + 116 * q + 108) 1 (1 + 116 * q + (98 + j))) (va_up (h.2.1 92) (1 + 116 * q + 108) 1) (1 + 116 * q + 109) t)) q 98) (va_cwS 2 hts gX5_send_X5_at rfl rfl rfl (by decide +kernel) ⟨Nat.le_of_ble_eq_true rfl, Nat.le_of_ble_eq_true rfl⟩) rfl hl.1 rfl (Nat.le_of_ble_eq_true rfl) dX5_send_58 ⟨Nat.le_of_ble_eq_true rfl, Nat.le_of_ble_eq_true rfl⟩) (fun r_58 h_58 H locs hp w => ?_)
        obtain ⟨er_58, eh_58⟩ := hp
        rw [eh_58] at w
        have er_58 : r_58 = nI (1 + 116 * q + 98) := er_58
        subst er_58
        refine q_lald X w 92 (1 + 116 * q + 98) (by decide) (fun _ => rfl) rfl (show (1 + 116 * q + 98) < 233 by omega) (by decide) dX5_send_61 ?_
        refine lv_l2i hx hb dX5_send_62 rfl ?_
        obtain rfl : t = 3 := by omega
        exact hret _ _ _ _ _ _ _ _ dX5_send_63 w rfl ⟨by rw [setL_s, wfz_out _ _ (by omega)]; show (va_up (h.2.1 92) (1 + 116 * q + 108) 1 (1 + 116 * q + 98)).toInt32 = _; rw [show va_up (h.2.1 92) (1 + 116 * q + 108) 1 (1 + 116 * q + 98) = h.2.1 92 (1 + 116 * q + 98) from if_neg (by omega)], rfl⟩ (Nat.le_of_ble_eq_true rfl) (Nat.le_of_ble_eq_true rfl)
      · refine lv_aload_n hx hb dX5_send_19 rfl (lv_at hl 0 rfl) ?_
        refine q_get X w 91 0 (ci := 5) (by decide) rfl rfl hi5 (by decide) (by decide +kernel) rfl dX5_send_20 ?_
        refine lv_iload_n hx hb dX5_send_23 rfl (lv_at hl 1 rfl) ?_
        refine lv_bipush (v := nI 109) hx hb dX5_send_24 (by decide) ?_
        refine lv_iload_n hx hb dX5_send_26 rfl (lv_at hl 2 rfl) ?_
        refine q_iaddN X dX5_send_27 ?_
        refine q_calli w (q_runS X w (c_X5_at l k (setL h 92 (wfz (fun j => va_up (h.2.1 92) (1 + 116 * q + 108) 1 (1 + 116 * q + (98 + j))) (va_up (h.2.1 92) (1 + 116 * q + 108) 1) (1 + 116 * q + 109) t)) q (109 + t)) (va_cwS 2 hts gX5_send_X5_at rfl rfl rfl (by decide +kernel) ⟨Nat.le_of_ble_eq_true rfl, Nat.le_of_ble_eq_true rfl⟩) rfl hl.1 rfl (Nat.le_of_ble_eq_true rfl) dX5_send_28 ⟨Nat.le_of_ble_eq_true rfl, Nat.le_of_ble_eq_true rfl⟩) (fun r_28 h_28 H locs hp w => ?_)
        obtain ⟨er_28, eh_28⟩ := hp
        rw [eh_28] at w
        have er_28 : r_28 = nI (1 + 116 * q + (109 + t)) := er_28
        subst er_28
        refine lv_aload_n hx hb dX5_send_31 rfl (lv_at hl 0 rfl) ?_
        refine q_get X w 91 0 (ci := 5) (by decide) rfl rfl hi5 (by decide) (by decide +kernel) rfl dX5_send_32 ?_
        refine lv_iload_n hx hb dX5_send_35 rfl (lv_at hl 1 rfl) ?_
        refine lv_bipush (v := nI 98) hx hb dX5_send_36 (by decide) ?_
        refine lv_iload_n hx hb dX5_send_38 rfl (lv_at hl 2 rfl) ?_
        refine q_iaddN X dX5_send_39 ?_
        refine q_calli w (q_runS X w (c_X5_at l k (setL h 92 (wfz (fun j => va_up (h.2.1 92) (1 + 116 * q + 108) 1 (1 + 116 * q + (98 + j))) (va_up (h.2.1 92) (1 + 116 * q + 108) 1) (1 + 116 * q + 109) t)) q (98 + t)) (va_cwS 2 hts gX5_send_X5_at rfl rfl rfl (by decide +kernel) ⟨Nat.le_of_ble_eq_true rfl, Nat.le_of_ble_eq_true rfl⟩) rfl hl.1 rfl (Nat.le_of_ble_eq_true rfl) dX5_send_40 ⟨Nat.le_of_ble_eq_true rfl, Nat.le_of_ble_eq_true rfl⟩) (fun r_40 h_40 H locs hp w => ?_)
        obtain ⟨er_40, eh_40⟩ := hp
        rw [eh_40] at w
        have er_40 : r_40 = nI (1 + 116 * q + (98 + t)) := er_40
        subst er_40
        refine q_lald X w 92 (1 + 116 * q + (98 + t)) (by decide) (fun _ => rfl) rfl (show (1 + 116 * q + (98 + t)) < 233 by omega) (by decide) dX5_send_43 ?_
        refine lv_topl (fun x_44 ex_44 => ?_)
        refine q_last X w 92 (1 + 116 * q + (109 + t)) (by decide) (fun _ => rfl) rfl (show (1 + 116 * q + (109 + t)) < 233 by omega) (by decide) dX5_send_44 (fun H locs w => ?_)
        obtain ⟨h_44, eh_44⟩ : ∃ z9, z9 = upL (setL h 92 (wfz (fun j => va_up (h.2.1 92) (1 + 116 * q + 108) 1 (1 + 116 * q + (98 + j))) (va_up (h.2.1 92) (1 + 116 * q + 108) 1) (1 + 116 * q + 109) t)) 92 (1 + 116 * q + (109 + t)) x_44 := ⟨_, rfl⟩
        rw [← eh_44] at w
        refine lv_iinc (v := nI (t + 1)) (lv' := [(2, .int (nI (t + 1))), (0, .ref (k.2.1 91)), (1, .int (nI q))]) hx hb dX5_send_45 hl (k := 2) rfl (nI_1 _) (by decide) rfl (fun ls hl => ?_)
        refine lv_goto (tgt := 14) hx hb dX5_send_48 (by decide) ?_
        rw [eh_44, setL_up, ex_44, setL_s, wfz_out _ _ (o := 1 + 116 * q + 109) (n := t) (j := 1 + 116 * q + (98 + t)) (by omega), show 1 + 116 * q + (109 + t) = 1 + 116 * q + 109 + t by omega, wfz_up (fun j => va_up (h.2.1 92) (1 + 116 * q + 108) 1 (1 + 116 * q + (98 + j)))] at w
        exact ih (t + 1) (by omega) (by omega) _ _ _ w (lv_sub hl [1, 2, 0] rfl)
  rw [eh_11, upL_set, show va_up (h.2.1 92) (1 + 116 * q + 108) 1 = wfz (fun j => va_up (h.2.1 92) (1 + 116 * q + 108) 1 (1 + 116 * q + (98 + j))) (va_up (h.2.1 92) (1 + 116 * q + 108) 1) (1 + 116 * q + 109) 0 from (wfz_0 _ _ _).symm] at w
  exact lp 4 0 (by omega) (by omega) _ _ _ w (lv_sub hl [1, 2, 0] rfl)
