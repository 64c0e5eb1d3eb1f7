abbrev rc_X5_leastMargin : Room := { frames := 5, cells := 0, slots := 0, locals := 111 }
set_option maxHeartbeats 4000000 in
set_option maxRecDepth 100000 in
theorem c_X5_leastMargin (l : Launch) (k : kY) (h : hS) (x : Int32) (hz : mOK (h.2.1 92)) : CT l k yX5_leastMargin wsX5_leastMargin rc_X5_leastMargin [.ref (k.2.1 91), .int x] h (QL k (fun r h' => (∃ q : Nat, q < 2 ∧ x = nI q ∧ r = mlm (h.2.1 92) q ∧ h' = upI h 91 3 (nI 0)) ∨ (¬ isP x ∧ r = 0 ∧ h' = upI h 91 3 (nI 1)))) 0 0 := by
  refine q_metL (cc := cX5_leastMargin) (maxL := 3) (by decide) rfl (Nat.le_of_ble_eq_true rfl) ?_
  intro p e s m args below meth c Q ls X w hl hret
  have hx := X.1
  have hb := X.2.1
  have hown := X.2.2.2.1
  have hts := X.2.2.2.2
  have hl : lv_has ls 3 [(0, .ref (k.2.1 91)), (1, .int x)] := hl
  have hi5 : ∀ w ∈ u_ws RX5 TX5 6, w ∈ wsX5_leastMargin := by decide +kernel
  refine lv_aload_n hx hb dX5_leastMargin_0 rfl (lv_at hl 0 rfl) ?_
  refine lv_iload_n hx hb dX5_leastMargin_1 rfl (lv_at hl 1 rfl) ?_
  refine q_calli w (q_runS X w (c_X5_isPair l k h x) (va_cwS 1 hts gX5_leastMargin_X5_isPair rfl rfl rfl (by decide +kernel) ⟨Nat.le_of_ble_eq_true rfl, Nat.le_of_ble_eq_true rfl⟩) rfl hl.1 rfl (Nat.le_of_ble_eq_true rfl) dX5_leastMargin_2 ⟨Nat.le_of_ble_eq_true rfl, Nat.le_of_ble_eq_true rfl⟩) (fun r_2 h_2 H locs hp w => ?_)
  obtain ⟨hp, eh_2⟩ := hp
  rw [eh_2] at w
  rcases hp with ⟨hd_2, er_2⟩ | ⟨hd_2, er_2⟩
  · subst er_2
    obtain ⟨q, hq, rfl⟩ := hd_2
    refine lv_if_eq (tgt := 12) hx hb dX5_leastMargin_5 (by decide) (fun c_5 => ?_) (fun c_5 => ?_)
    · exact absurd c_5 (by decide)
    · refine lv_iconst (v := nI 0) hx hb dX5_leastMargin_8 (by decide) ?_
      refine lv_goto (tgt := 13) hx hb dX5_leastMargin_9 (by decide) ?_
      refine q_put X w 91 3 .int (ci := 5) (by decide) rfl rfl rfl hi5 tyX5_ok nmX5 (by decide) (by decide +kernel) rfl (by decide +kernel) (rfl) (rfl) (Nat.le_of_ble_eq_true rfl) dX5_leastMargin_13 (fun H locs w => ?_)
      obtain ⟨h_13, eh_13⟩ : ∃ z9, z9 = upI h 91 3 (nI 0) := ⟨_, rfl⟩
      rw [← eh_13] at w
      have kT : h_13.1 91 3 = nI 0 := by rw [eh_13, upI_s]; rfl
      refine lv_aload_n hx hb dX5_leastMargin_16 rfl (lv_at hl 0 rfl) ?_
      refine q_get X w 91 3 (ci := 5) (by decide) rfl rfl hi5 (by decide) (by decide +kernel) rfl dX5_leastMargin_17 ?_
      rw [kT]
      refine lv_if_le (tgt := 27) hx hb dX5_leastMargin_20 (by decide) (fun c_20 => ?_) (fun c_20 => ?_)
      · refine lv_aload_n hx hb dX5_leastMargin_27 rfl (lv_at hl 0 rfl) ?_
        refine lv_iload_n hx hb dX5_leastMargin_28 rfl (lv_at hl 1 rfl) ?_
        refine q_calli w (q_runV X w 91 (c_X5_weakest l k h_13 (q := q) (by omega) (by subst eh_13; exact hz)) (cwV 1 hts gX5_leastMargin_X5_weakest rfl rfl rfl (by decide +kernel) ⟨Nat.le_of_ble_eq_true rfl, Nat.le_of_ble_eq_true rfl⟩) (by decide) rfl rfl rfl hl.1 rfl (Nat.le_of_ble_eq_true rfl) dX5_leastMargin_29 ⟨Nat.le_of_ble_eq_true rfl, Nat.le_of_ble_eq_true rfl⟩) (fun r_29 h_29 H locs hp w => ?_)
        obtain ⟨er_29, eh_29⟩ := hp
        rw [eh_29] at w
        have er_29 : r_29 = oI (mwk (h_13.2.1 92) q) := er_29
        rcases ho_29 : mwk (h_13.2.1 92) q with _ | t_29
        · rw [ho_29] at er_29
          have er_29 : r_29 = (-1) := er_29
          subst er_29
          refine lv_istore_n (lv' := [(2, .int (-1)), (0, .ref (k.2.1 91)), (1, .int (nI q))]) hx hb dX5_leastMargin_32 rfl hl (by decide) rfl (fun ls hl => ?_)
          refine lv_aload_n hx hb dX5_leastMargin_33 rfl (lv_at hl 1 rfl) ?_
          refine q_get X w 91 3 (ci := 5) (by decide) rfl rfl hi5 (by decide) (by decide +kernel) rfl dX5_leastMargin_34 ?_
          rw [kT]
          refine lv_if_le (tgt := 44) hx hb dX5_leastMargin_37 (by decide) (fun c_37 => ?_) (fun c_37 => ?_)
          · refine lv_iload_n hx hb dX5_leastMargin_44 rfl (lv_at hl 0 rfl) ?_
            refine lv_iconst (v := (-1)) hx hb dX5_leastMargin_45 (by decide) ?_
            refine lv_icmp_ne (tgt := 55) hx hb dX5_leastMargin_46 (by decide) (fun c_46 => ?_) (fun c_46 => ?_)
            · exact absurd rfl c_46
            · refine lv_ldc2 (v := (-1)) hx hb hown (hts (.constantLong RX5 94 (-1)) (by decide +kernel)) dX5_leastMargin_49 ?_
              refine lv_goto (tgt := 61) hx hb dX5_leastMargin_52 (by decide) ?_
              exact hret _ _ _ _ _ _ _ _ dX5_leastMargin_61 w (Or.inl ⟨q, hq, rfl, (by subst eh_13; first | exact mlm_n ho_29 | exact mlm_s ho_29), eh_13⟩) (Nat.le_of_ble_eq_true rfl) (Nat.le_of_ble_eq_true rfl)
          · exact absurd (by decide) c_37
        · rw [ho_29] at er_29
          have er_29 : r_29 = nI t_29 := er_29
          subst er_29
          have ht_29 : t_29 < 16 := (amin_bd ho_29).1
          refine lv_istore_n (lv' := [(2, .int (nI t_29)), (0, .ref (k.2.1 91)), (1, .int (nI q))]) hx hb dX5_leastMargin_32 rfl hl (by decide) rfl (fun ls hl => ?_)
          refine lv_aload_n hx hb dX5_leastMargin_33 rfl (lv_at hl 1 rfl) ?_
          refine q_get X w 91 3 (ci := 5) (by decide) rfl rfl hi5 (by decide) (by decide +kernel) rfl dX5_leastMargin_34 ?_
          rw [kT]
          refine lv_if_le (tgt := 44) hx hb dX5_leastMargin_37 (by decide) (fun c_37 => ?_) (fun c_37 => ?_)
          · refine lv_iload_n hx hb dX5_leastMargin_44 rfl (lv_at hl 0 rfl) ?_
            refine lv_iconst (v := (-1)) hx hb dX5_leastMargin_45 (by decide) ?_
            refine lv_icmp_ne (tgt := 55) hx hb dX5_leastMargin_46 (by decide) (fun c_46 => ?_) (fun c_46 => ?_)
            · refine lv_aload_n hx hb dX5_leastMargin_55 rfl (lv_at hl 1 rfl) ?_
              refine lv_iload_n hx hb dX5_leastMargin_56 rfl (lv_at hl 2 rfl) ?_
              refine lv_iload_n hx hb dX5_leastMargin_57 rfl (lv_at hl 0 rfl) ?_
              refine q_calll w (q_runV X w 91 (c_X5_marginOf l k h_13 (q := q) (t := t_29) (by omega) (by omega) (by subst eh_13; exact hz q t_29 hq ht_29)) (cwV 2 hts gX5_leastMargin_X5_marginOf rfl rfl rfl (by decide +kernel) ⟨Nat.le_of_ble_eq_true rfl, Nat.le_of_ble_eq_true rfl⟩) (by decide) rfl rfl rfl hl.1 rfl (Nat.le_of_ble_eq_true rfl) dX5_leastMargin_58 ⟨Nat.le_of_ble_eq_true rfl, Nat.le_of_ble_eq_true rfl⟩) (fun r_58 h_58 H locs hp w => ?_)
              obtain ⟨er_58, eh_58⟩ := hp
              rw [eh_58] at w
              have er_58 : r_58 = mmg (h_13.2.1 92) q t_29 := er_58
              subst er_58
              exact hret _ _ _ _ _ _ _ _ dX5_leastMargin_61 w (Or.inl ⟨q, hq, rfl, (by subst eh_13; first | exact mlm_n ho_29 | exact mlm_s ho_29), eh_13⟩) (Nat.le_of_ble_eq_true rfl) (Nat.le_of_ble_eq_true rfl)
            · exact absurd c_46 (nI_m1 (by omega))
          · exact absurd (by decide) c_37
      · exact absurd (by decide) c_20
  · subst er_2
    refine lv_if_eq (tgt := 12) hx hb dX5_leastMargin_5 (by decide) (fun c_5 => ?_) (fun c_5 => ?_)
    · refine lv_iconst (v := nI 1) hx hb dX5_leastMargin_12 (by decide) ?_
      refine q_put X w 91 3 .int (ci := 5) (by decide) rfl rfl rfl hi5 tyX5_ok nmX5 (by decide) (by decide +kernel) rfl (by decide +kernel) (rfl) (rfl) (Nat.le_of_ble_eq_true rfl) dX5_leastMargin_13 (fun H locs w => ?_)
      obtain ⟨h_13, eh_13⟩ : ∃ z9, z9 = upI h 91 3 (nI 1) := ⟨_, rfl⟩
      rw [← eh_13] at w
      have kT : h_13.1 91 3 = nI 1 := by rw [eh_13, upI_s]; rfl
      refine lv_aload_n hx hb dX5_leastMargin_16 rfl (lv_at hl 0 rfl) ?_
      refine q_get X w 91 3 (ci := 5) (by decide) rfl rfl hi5 (by decide) (by decide +kernel) rfl dX5_leastMargin_17 ?_
      rw [kT]
      refine lv_if_le (tgt := 27) hx hb dX5_leastMargin_20 (by decide) (fun c_20 => ?_) (fun c_20 => ?_)
      · exact absurd c_20 (by decide)
      · refine lv_iconst (v := (-1)) hx hb dX5_leastMargin_23 (by decide) ?_
        refine lv_goto (tgt := 32) hx hb dX5_leastMargin_24 (by decide) ?_
        refine lv_istore_n (lv' := [(2, .int (-1)), (0, .ref (k.2.1 91)), (1, .int x)]) hx hb dX5_leastMargin_32 rfl hl (by decide) rfl (fun ls hl => ?_)
        refine lv_aload_n hx hb dX5_leastMargin_33 rfl (lv_at hl 1 rfl) ?_
        refine q_get X w 91 3 (ci := 5) (by decide) rfl rfl hi5 (by decide) (by decide +kernel) rfl dX5_leastMargin_34 ?_
        rw [kT]
        refine lv_if_le (tgt := 44) hx hb dX5_leastMargin_37 (by decide) (fun c_37 => ?_) (fun c_37 => ?_)
        · exact absurd c_37 (by decide)
        · refine lv_lconst (v := 0) hx hb dX5_leastMargin_40 (by decide) ?_
          refine lv_goto (tgt := 61) hx hb dX5_leastMargin_41 (by decide) ?_
          exact hret _ _ _ _ _ _ _ _ dX5_leastMargin_61 w (Or.inr ⟨hd_2, rfl, eh_13⟩) (Nat.le_of_ble_eq_true rfl) (Nat.le_of_ble_eq_true rfl)
    · exact absurd (by decide) c_5

abbrev rc_X5_suggest : Room := { frames := 5, cells := 0, slots := 0, locals := 111 }
set_option maxHeartbeats 4000000 in
set_option maxRecDepth 100000 in
theorem c_X5_suggest (l : Launch) (k : kY) (h : hS) (x : Int32) (hz : mOK (h.2.1 92)) : CT l k yX5_suggest wsX5_suggest rc_X5_suggest [.ref (k.2.1 91), .int x] h (QI k (fun r h' => (∃ q : Nat, q < 2 ∧ x = nI q ∧ r = oI (msg (h.2.1 92) q) ∧ h' = upI h 91 3 (nI 0)) ∨ (¬ isP x ∧ r = nI 0 ∧ h' = upI h 91 3 (nI 1)))) 0 0 := by
  refine q_metI (cc := cX5_suggest) (maxL := 4) (ret := some .int) (ty := .int) (by decide) rfl rfl (Nat.le_of_ble_eq_true rfl) ?_
  intro p e s m args below meth c Q ls X w hl hret
  have hx := X.1
  have hb := X.2.1
  have hown := X.2.2.2.1
  have hts := X.2.2.2.2
  have hl : lv_has ls 4 [(0, .ref (k.2.1 91)), (1, .int x)] := hl
  have hi5 : ∀ w ∈ u_ws RX5 TX5 6, w ∈ wsX5_suggest := by decide +kernel
  refine lv_aload_n hx hb dX5_suggest_0 rfl (lv_at hl 0 rfl) ?_
  refine lv_iload_n hx hb dX5_suggest_1 rfl (lv_at hl 1 rfl) ?_
  refine q_calli w (q_runS X w (c_X5_isPair l k h x) (va_cwS 1 hts gX5_suggest_X5_isPair rfl rfl rfl (by decide +kernel) ⟨Nat.le_of_ble_eq_true rfl, Nat.le_of_ble_eq_true rfl⟩) rfl hl.1 rfl (Nat.le_of_ble_eq_true rfl) dX5_suggest_2 ⟨Nat.le_of_ble_eq_true rfl, Nat.le_of_ble_eq_true rfl⟩) (fun r_2 h_2 H locs hp w => ?_)
  obtain ⟨hp, eh_2⟩ := hp
  rw [eh_2] at w
  rcases hp with ⟨hd_2, er_2⟩ | ⟨hd_2, er_2⟩
  · subst er_2
    obtain ⟨q, hq, rfl⟩ := hd_2
    refine lv_if_eq (tgt := 12) hx hb dX5_suggest_5 (by decide) (fun c_5 => ?_) (fun c_5 => ?_)
    · exact absurd c_5 (by decide)
    · refine lv_iconst (v := nI 0) hx hb dX5_suggest_8 (by decide) ?_
      refine lv_goto (tgt := 13) hx hb dX5_suggest_9 (by decide) ?_
      refine q_put X w 91 3 .int (ci := 5) (by decide) rfl rfl rfl hi5 tyX5_ok nmX5 (by decide) (by decide +kernel) rfl (by decide +kernel) (rfl) (rfl) (Nat.le_of_ble_eq_true rfl) dX5_suggest_13 (fun H locs w => ?_)
      obtain ⟨h_13, eh_13⟩ : ∃ z9, z9 = upI h 91 3 (nI 0) := ⟨_, rfl⟩
      rw [← eh_13] at w
      have kT : h_13.1 91 3 = nI 0 := by rw [eh_13, upI_s]; rfl
      refine lv_aload_n hx hb dX5_suggest_16 rfl (lv_at hl 0 rfl) ?_
      refine q_get X w 91 3 (ci := 5) (by decide) rfl rfl hi5 (by decide) (by decide +kernel) rfl dX5_suggest_17 ?_
      rw [kT]
      refine lv_if_le (tgt := 27) hx hb dX5_suggest_20 (by decide) (fun c_20 => ?_) (fun c_20 => ?_)
      · refine lv_aload_n hx hb dX5_suggest_27 rfl (lv_at hl 0 rfl) ?_
        refine lv_iload_n hx hb dX5_suggest_28 rfl (lv_at hl 1 rfl) ?_
        refine q_calli w (q_runV X w 91 (c_X5_weakest l k h_13 (q := q) (by omega) (by subst eh_13; exact hz)) (cwV 1 hts gX5_suggest_X5_weakest rfl rfl rfl (by decide +kernel) ⟨Nat.le_of_ble_eq_true rfl, Nat.le_of_ble_eq_true rfl⟩) (by decide) rfl rfl rfl hl.1 rfl (Nat.le_of_ble_eq_true rfl) dX5_suggest_29 ⟨Nat.le_of_ble_eq_true rfl, Nat.le_of_ble_eq_true rfl⟩) (fun r_29 h_29 H locs hp w => ?_)
        obtain ⟨er_29, eh_29⟩ := hp
        rw [eh_29] at w
        have er_29 : r_29 = oI (mwk (h_13.2.1 92) q) := er_29
        rcases ho_29 : mwk (h_13.2.1 92) q with _ | t_29
        · rw [ho_29] at er_29
          have er_29 : r_29 = (-1) := er_29
          subst er_29
          refine lv_istore_n (lv' := [(2, .int (-1)), (0, .ref (k.2.1 91)), (1, .int (nI q))]) hx hb dX5_suggest_32 rfl hl (by decide) rfl (fun ls hl => ?_)
          refine lv_iload_n hx hb dX5_suggest_33 rfl (lv_at hl 0 rfl) ?_
          refine lv_iconst (v := (-1)) hx hb dX5_suggest_34 (by decide) ?_
          refine lv_icmp_ne (tgt := 42) hx hb dX5_suggest_35 (by decide) (fun c_35 => ?_) (fun c_35 => ?_)
          · exact absurd rfl c_35
          · refine lv_iconst (v := (-1)) hx hb dX5_suggest_38 (by decide) ?_
            refine lv_goto (tgt := 48) hx hb dX5_suggest_39 (by decide) ?_
            refine lv_istore_n (lv' := [(3, .int (-1)), (2, .int (-1)), (0, .ref (k.2.1 91)), (1, .int (nI q))]) hx hb dX5_suggest_48 rfl hl (by decide) rfl (fun ls hl => ?_)
            refine lv_aload_n hx hb dX5_suggest_49 rfl (lv_at hl 2 rfl) ?_
            refine q_get X w 91 3 (ci := 5) (by decide) rfl rfl hi5 (by decide) (by decide +kernel) rfl dX5_suggest_50 ?_
            rw [kT]
            refine lv_if_le (tgt := 60) hx hb dX5_suggest_53 (by decide) (fun c_53 => ?_) (fun c_53 => ?_)
            · refine lv_iload_n hx hb dX5_suggest_60 rfl (lv_at hl 0 rfl) ?_
              refine lv_iconst (v := (-1)) hx hb dX5_suggest_61 (by decide) ?_
              refine lv_icmp_ne (tgt := 69) hx hb dX5_suggest_62 (by decide) (fun c_62 => ?_) (fun c_62 => ?_)
              · exact absurd rfl c_62
              · refine lv_iconst (v := (-1)) hx hb dX5_suggest_65 (by decide) ?_
                refine lv_goto (tgt := 75) hx hb dX5_suggest_66 (by decide) ?_
                exact hret _ _ _ _ _ _ _ _ dX5_suggest_75 w rfl (Or.inl ⟨q, hq, rfl, (by subst eh_13; first | exact msg_n ho_29 | exact msg_1 ho_29 ho_45 | exact msg_2 ho_29 ho_45), eh_13⟩) (Nat.le_of_ble_eq_true rfl) (Nat.le_of_ble_eq_true rfl)
            · exact absurd (by decide) c_53
        · rw [ho_29] at er_29
          have er_29 : r_29 = nI t_29 := er_29
          subst er_29
          have ht_29 : t_29 < 16 := (amin_bd ho_29).1
          refine lv_istore_n (lv' := [(2, .int (nI t_29)), (0, .ref (k.2.1 91)), (1, .int (nI q))]) hx hb dX5_suggest_32 rfl hl (by decide) rfl (fun ls hl => ?_)
          refine lv_iload_n hx hb dX5_suggest_33 rfl (lv_at hl 0 rfl) ?_
          refine lv_iconst (v := (-1)) hx hb dX5_suggest_34 (by decide) ?_
          refine lv_icmp_ne (tgt := 42) hx hb dX5_suggest_35 (by decide) (fun c_35 => ?_) (fun c_35 => ?_)
          · refine lv_aload_n hx hb dX5_suggest_42 rfl (lv_at hl 1 rfl) ?_
            refine lv_iload_n hx hb dX5_suggest_43 rfl (lv_at hl 2 rfl) ?_
            refine lv_iload_n hx hb dX5_suggest_44 rfl (lv_at hl 0 rfl) ?_
            refine q_calli w (q_runV X w 91 (c_X5_cheapest l k h_13 (q := q) (by omega) (nI t_29)) (cwV 2 hts gX5_suggest_X5_cheapest rfl rfl rfl (by decide +kernel) ⟨Nat.le_of_ble_eq_true rfl, Nat.le_of_ble_eq_true rfl⟩) (by decide) rfl rfl rfl hl.1 rfl (Nat.le_of_ble_eq_true rfl) dX5_suggest_45 ⟨Nat.le_of_ble_eq_true rfl, Nat.le_of_ble_eq_true rfl⟩) (fun r_45 h_45 H locs hp w => ?_)
            obtain ⟨er_45, eh_45⟩ := hp
            rw [eh_45] at w
            have er_45 : r_45 = oI (mch (h_13.2.1 92) q (nI t_29)) := er_45
            rcases ho_45 : mch (h_13.2.1 92) q (nI t_29) with _ | t_45
            · rw [ho_45] at er_45
              have er_45 : r_45 = (-1) := er_45
              subst er_45
              refine lv_istore_n (lv' := [(3, .int (-1)), (2, .int (nI t_29)), (0, .ref (k.2.1 91)), (1, .int (nI q))]) hx hb dX5_suggest_48 rfl hl (by decide) rfl (fun ls hl => ?_)
              refine lv_aload_n hx hb dX5_suggest_49 rfl (lv_at hl 2 rfl) ?_
              refine q_get X w 91 3 (ci := 5) (by decide) rfl rfl hi5 (by decide) (by decide +kernel) rfl dX5_suggest_50 ?_
              rw [kT]
              refine lv_if_le (tgt := 60) hx hb dX5_suggest_53 (by decide) (fun c_53 => ?_) (fun c_53 => ?_)
              · refine lv_iload_n hx hb dX5_suggest_60 rfl (lv_at hl 0 rfl) ?_
                refine lv_iconst (v := (-1)) hx hb dX5_suggest_61 (by decide) ?_
                refine lv_icmp_ne (tgt := 69) hx hb dX5_suggest_62 (by decide) (fun c_62 => ?_) (fun c_62 => ?_)
                · exact absurd rfl c_62
                · refine lv_iconst (v := (-1)) hx hb dX5_suggest_65 (by decide) ?_
                  refine lv_goto (tgt := 75) hx hb dX5_suggest_66 (by decide) ?_
                  exact hret _ _ _ _ _ _ _ _ dX5_suggest_75 w rfl (Or.inl ⟨q, hq, rfl, (by subst eh_13; first | exact msg_n ho_29 | exact msg_1 ho_29 ho_45 | exact msg_2 ho_29 ho_45), eh_13⟩) (Nat.le_of_ble_eq_true rfl) (Nat.le_of_ble_eq_true rfl)
              · exact absurd (by decide) c_53
            · rw [ho_45] at er_45
              have er_45 : r_45 = nI t_45 := er_45
              subst er_45
              have ht_45 : t_45 < 16 := (amin_bd ho_45).1
              refine lv_istore_n (lv' := [(3, .int (nI t_45)), (2, .int (nI t_29)), (0, .ref (k.2.1 91)), (1, .int (nI q))]) hx hb dX5_suggest_48 rfl hl (by decide) rfl (fun ls hl => ?_)
              refine lv_aload_n hx hb dX5_suggest_49 rfl (lv_at hl 2 rfl) ?_
              refine q_get X w 91 3 (ci := 5) (by decide) rfl rfl hi5 (by decide) (by decide +kernel) rfl dX5_suggest_50 ?_
              rw [kT]
              refine lv_if_le (tgt := 60) hx hb dX5_suggest_53 (by decide) (fun c_53 => ?_) (fun c_53 => ?_)
              · refine lv_iload_n hx hb dX5_suggest_60 rfl (lv_at hl 0 rfl) ?_
                refine lv_iconst (v := (-1)) hx hb dX5_suggest_61 (by decide) ?_
                refine lv_icmp_ne (tgt := 69) hx hb dX5_suggest_62 (by decide) (fun c_62 => ?_) (fun c_62 => ?_)
                · refine lv_bipush (v := nI 16) hx hb dX5_suggest_69 (by decide) ?_
                  refine lv_iload_n hx hb dX5_suggest_71 rfl (lv_at hl 1 rfl) ?_
                  refine q_imulN X dX5_suggest_72 ?_
                  refine lv_iload_n hx hb dX5_suggest_73 rfl (lv_at hl 0 rfl) ?_
                  refine q_iaddN X dX5_suggest_74 ?_
                  exact hret _ _ _ _ _ _ _ _ dX5_suggest_75 w rfl (Or.inl ⟨q, hq, rfl, (by subst eh_13; first | exact msg_n ho_29 | exact msg_1 ho_29 ho_45 | exact msg_2 ho_29 ho_45), eh_13⟩) (Nat.le_of_ble_eq_true rfl) (Nat.le_of_ble_eq_true rfl)
                · exact absurd c_62 (nI_m1 (by omega))
              · exact absurd (by decide) c_53
          · exact absurd c_35 (nI_m1 (by omega))
      · exact absurd (by decide) c_20
  · subst er_2
    refine lv_if_eq (tgt := 12) hx hb dX5_suggest_5 (by decide) (fun c_5 => ?_) (fun c_5 => ?_)
    · refine lv_iconst (v := nI 1) hx hb dX5_suggest_12 (by decide) ?_
      refine q_put X w 91 3 .int (ci := 5) (by decide) rfl rfl rfl hi5 tyX5_ok nmX5 (by decide) (by decide +kernel) rfl (by decide +kernel) (rfl) (rfl) (Nat.le_of_ble_eq_true rfl) dX5_suggest_13 (fun H locs w => ?_)
      obtain ⟨h_13, eh_13⟩ : ∃ z9, z9 = upI h 91 3 (nI 1) := ⟨_, rfl⟩
      rw [← eh_13] at w
      have kT : h_13.1 91 3 = nI 1 := by rw [eh_13, upI_s]; rfl
      refine lv_aload_n hx hb dX5_suggest_16 rfl (lv_at hl 0 rfl) ?_
      refine q_get X w 91 3 (ci := 5) (by decide) rfl rfl hi5 (by decide) (by decide +kernel) rfl dX5_suggest_17 ?_
      rw [kT]
      refine lv_if_le (tgt := 27) hx hb dX5_suggest_20 (by decide) (fun c_20 => ?_) (fun c_20 => ?_)
      · exact absurd c_20 (by decide)
      · refine lv_iconst (v := (-1)) hx hb dX5_suggest_23 (by decide) ?_
        refine lv_goto (tgt := 32) hx hb dX5_suggest_24 (by decide) ?_
        refine lv_istore_n (lv' := [(2, .int (-1)), (0, .ref (k.2.1 91)), (1, .int x)]) hx hb dX5_suggest_32 rfl hl (by decide) rfl (fun ls hl => ?_)
        refine lv_iload_n hx hb dX5_suggest_33 rfl (lv_at hl 0 rfl) ?_
        refine lv_iconst (v := (-1)) hx hb dX5_suggest_34 (by decide) ?_
        refine lv_icmp_ne (tgt := 42) hx hb dX5_suggest_35 (by decide) (fun c_35 => ?_) (fun c_35 => ?_)
        · exact absurd rfl c_35
        · refine lv_iconst (v := (-1)) hx hb dX5_suggest_38 (by decide) ?_
          refine lv_goto (tgt := 48) hx hb dX5_suggest_39 (by decide) ?_
          refine lv_istore_n (lv' := [(3, .int (-1)), (2, .int (-1)), (0, .ref (k.2.1 91)), (1, .int x)]) hx hb dX5_suggest_48 rfl hl (by decide) rfl (fun ls hl => ?_)
          refine lv_aload_n hx hb dX5_suggest_49 rfl (lv_at hl 2 rfl) ?_
          refine q_get X w 91 3 (ci := 5) (by decide) rfl rfl hi5 (by decide) (by decide +kernel) rfl dX5_suggest_50 ?_
          rw [kT]
          refine lv_if_le (tgt := 60) hx hb dX5_suggest_53 (by decide) (fun c_53 => ?_) (fun c_53 => ?_)
          · exact absurd c_53 (by decide)
          · refine lv_iconst (v := nI 0) hx hb dX5_suggest_56 (by decide) ?_
            refine lv_goto (tgt := 75) hx hb dX5_suggest_57 (by decide) ?_
            exact hret _ _ _ _ _ _ _ _ dX5_suggest_75 w rfl (Or.inr ⟨hd_2, rfl, eh_13⟩) (Nat.le_of_ble_eq_true rfl) (Nat.le_of_ble_eq_true rfl)
    · exact absurd (by decide) c_5

abbrev rc_X5_badTones : Room := { frames := 4, cells := 0, slots := 0, locals := 87 }
set_option maxHeartbeats 4000000 in
set_option maxRecDepth 100000 in
theorem c_X5_badTones (l : Launch) (k : kY) (h : hS) (x : Int32) (hz : mOK (h.2.1 92)) : CT l k yX5_badTones wsX5_badTones rc_X5_badTones [.ref (k.2.1 91), .int x] h (QI k (fun r h' => (∃ q : Nat, q < 2 ∧ x = nI q ∧ r = mbt (h.2.1 92) q 16 ∧ h' = upI h 91 3 (nI 0)) ∨ (¬ isP x ∧ r = nI 0 ∧ h' = upI h 91 3 (nI 1)))) 0 0 := by
  refine q_metI (cc := cX5_badTones) (maxL := 6) (ret := some .int) (ty := .int) (by decide) rfl rfl (Nat.le_of_ble_eq_true rfl) ?_
  intro p e s m args below meth c Q ls X w hl hret
  have hx := X.1
  have hb := X.2.1
  have hown := X.2.2.2.1
  have hts := X.2.2.2.2
  have hl : lv_has ls 6 [(0, .ref (k.2.1 91)), (1, .int x)] := hl
  have hi5 : ∀ w ∈ u_ws RX5 TX5 6, w ∈ wsX5_badTones := by decide +kernel
  refine lv_aload_n hx hb dX5_badTones_0 rfl (lv_at hl 0 rfl) ?_
  refine lv_iload_n hx hb dX5_badTones_1 rfl (lv_at hl 1 rfl) ?_
  refine q_calli w (q_runS X w (c_X5_isPair l k h x) (va_cwS 1 hts gX5_badTones_X5_isPair rfl rfl rfl (by decide +kernel) ⟨Nat.le_of_ble_eq_true rfl, Nat.le_of_ble_eq_true rfl⟩) rfl hl.1 rfl (Nat.le_of_ble_eq_true rfl) dX5_badTones_2 ⟨Nat.le_of_ble_eq_true rfl, Nat.le_of_ble_eq_true rfl⟩) (fun r_2 h_2 H locs hp w => ?_)
  obtain ⟨hp, eh_2⟩ := hp
  rw [eh_2] at w
  rcases hp with ⟨hd_2, er_2⟩ | ⟨hd_2, er_2⟩
  · subst er_2
    obtain ⟨q, hq, rfl⟩ := hd_2
    refine lv_if_eq (tgt := 12) hx hb dX5_badTones_5 (by decide) (fun c_5 => ?_) (fun c_5 => ?_)
    · exact absurd c_5 (by decide)
    · refine lv_iconst (v := nI 0) hx hb dX5_badTones_8 (by decide) ?_
      refine lv_goto (tgt := 13) hx hb dX5_badTones_9 (by decide) ?_
      refine q_put X w 91 3 .int (ci := 5) (by decide) rfl rfl rfl hi5 tyX5_ok nmX5 (by decide) (by decide +kernel) rfl (by decide +kernel) (rfl) (rfl) (Nat.le_of_ble_eq_true rfl) dX5_badTones_13 (fun H locs w => ?_)
      obtain ⟨h_13, eh_13⟩ : ∃ z9, z9 = upI h 91 3 (nI 0) := ⟨_, rfl⟩
      rw [← eh_13] at w
      have kT : h_13.1 91 3 = nI 0 := by rw [eh_13, upI_s]; rfl
      refine lv_iconst (v := nI 0) hx hb dX5_badTones_16 (by decide) ?_
      refine lv_istore_n (lv' := [(2, .int (nI 0)), (0, .ref (k.2.1 91)), (1, .int (nI q))]) hx hb dX5_badTones_17 rfl hl (by decide) rfl (fun ls hl => ?_)
      refine lv_iconst (v := nI 0) hx hb dX5_badTones_18 (by decide) ?_
      refine lv_istore_n (lv' := [(3, .int (nI 0)), (2, .int (nI 0)), (0, .ref (k.2.1 91)), (1, .int (nI q))]) hx hb dX5_badTones_19 rfl hl (by decide) rfl (fun ls hl => ?_)
      have lp : ∀ (fu : Nat) (t : Nat) (u : Int32), (t ≤ 16 ∧ u = mbt (h_13.2.1 92) q t) → (16 - t) < fu → ∀ (H : Heap) (locs : List Loc) (ls : Array Slot), WX k s H locs h_13 → lv_has ls 6 [(0, .ref (k.2.1 91)), (1, .int (nI q)), (2, .int u), (3, .int (nI t))] → W p l e rc_X5_badTones s m args below meth c H locs 0 0 Q (F0 m 20 ls []) := by
        intro fu
        induction fu with
        | zero => intro t u _ hm; exact absurd hm (Nat.not_lt_zero _)
        | succ fu ih =>
          intro t u hinv hm H locs ls w hl
          have ht := hinv.1
          refine lv_iload_n hx hb dX5_badTones_20 rfl (lv_at hl 3 rfl) ?_
          refine lv_bipush (v := nI 16) hx hb dX5_badTones_21 (by decide) ?_
          refine q_icge X (tgt := 75) (by omega) (by decide) dX5_badTones_23 (by decide) (fun c_23 => ?_) (fun c_23 => ?_)
          · refine lv_iload_n hx hb dX5_badTones_75 rfl (lv_at hl 2 rfl) ?_
            exact hret _ _ _ _ _ _ _ _ dX5_badTones_76 w rfl (Or.inl ⟨q, hq, rfl, (by obtain rfl : t = 16 := (by omega); rw [hinv.2]; subst eh_13; rfl), eh_13⟩) (Nat.le_of_ble_eq_true rfl) (Nat.le_of_ble_eq_true rfl)
          · refine lv_aload_n hx hb dX5_badTones_26 rfl (lv_at hl 0 rfl) ?_
            refine q_get X w 91 3 (ci := 5) (by decide) rfl rfl hi5 (by decide) (by decide +kernel) rfl dX5_badTones_27 ?_
            rw [kT]
            refine lv_if_ne (tgt := 75) hx hb dX5_badTones_30 (by decide) (fun c_30 => ?_) (fun c_30 => ?_)
            · exact absurd (by decide) c_30
            · refine lv_aload_n hx hb dX5_badTones_33 rfl (lv_at hl 0 rfl) ?_
              refine lv_iload_n hx hb dX5_badTones_34 rfl (lv_at hl 1 rfl) ?_
              refine lv_iload_n hx hb dX5_badTones_35 rfl (lv_at hl 3 rfl) ?_
              refine q_calll w (q_runV X w 91 (c_X5_marginOf l k h_13 (q := q) (t := t) (by omega) (by omega) (by subst eh_13; exact hz q t hq (by omega))) (cwV 2 hts gX5_badTones_X5_marginOf rfl rfl rfl (by decide +kernel) ⟨Nat.le_of_ble_eq_true rfl, Nat.le_of_ble_eq_true rfl⟩) (by decide) rfl rfl rfl hl.1 rfl (Nat.le_of_ble_eq_true rfl) dX5_badTones_36 ⟨Nat.le_of_ble_eq_true rfl, Nat.le_of_ble_eq_true rfl⟩) (fun r_36 h_36 H locs hp w => ?_)
              obtain ⟨er_36, eh_36⟩ := hp
              rw [eh_36] at w
              have er_36 : r_36 = mmg (h_13.2.1 92) q t := er_36
              subst er_36
              refine lv_topl (fun x_39 ex_39 => ?_)
              refine lv_lstore (lv' := [(4, .long x_39), (0, .ref (k.2.1 91)), (1, .int (nI q)), (2, .int u), (3, .int (nI t))]) hx hb dX5_badTones_39 hl (by decide) rfl (fun ls hl => ?_)
              refine lv_iload_n hx hb dX5_badTones_41 rfl (lv_at hl 3 rfl) ?_
              refine lv_lload hx hb dX5_badTones_42 (lv_at hl 0 rfl) ?_
              refine lv_ldc2 (v := (-1)) hx hb hown (hts (.constantLong RX5 94 (-1)) (by decide +kernel)) dX5_badTones_44 ?_
              refine q_lif_eq X (tgt := 66) dX5_badTones_47 dX5_badTones_48 (by decide) (fun c_47 => ?_) (fun c_47 => ?_)
              · refine lv_iconst (v := nI 0) hx hb dX5_badTones_66 (by decide) ?_
                refine lv_ior hx hb dX5_badTones_67 ?_
                refine lv_topi (fun x_68 ex_68 => ?_)
                refine lv_istore_n (lv' := [(2, .int x_68), (4, .long x_39), (0, .ref (k.2.1 91)), (1, .int (nI q)), (3, .int (nI t))]) hx hb dX5_badTones_68 rfl hl (by decide) rfl (fun ls hl => ?_)
                refine lv_iinc (v := nI (t + 1)) (lv' := [(3, .int (nI (t + 1))), (2, .int x_68), (4, .long x_39), (0, .ref (k.2.1 91)), (1, .int (nI q))]) hx hb dX5_badTones_69 hl (k := 4) rfl (nI_1 _) (by decide) rfl (fun ls hl => ?_)
                refine lv_goto (tgt := 20) hx hb dX5_badTones_72 (by decide) ?_
                subst ex_39
                exact ih (t + 1) x_68 ⟨by omega, by rw [ex_68, hinv.2]; first | exact mbt_1 c_47 | exact mbt_2 c_56 | exact mbt_3 c_47 c_56⟩ (by omega) _ _ _ w (lv_sub hl [3, 4, 1, 0] rfl)
              · refine lv_lload hx hb dX5_badTones_51 (lv_at hl 0 rfl) ?_
                refine lv_ldc2 (v := 100) hx hb hown (hts (.constantLong RX5 25 100) (by decide +kernel)) dX5_badTones_53 ?_
                refine q_lif_ge X (tgt := 66) dX5_badTones_56 dX5_badTones_57 (by decide) (fun c_56 => ?_) (fun c_56 => ?_)
                · refine lv_iconst (v := nI 0) hx hb dX5_badTones_66 (by decide) ?_
                  refine lv_ior hx hb dX5_badTones_67 ?_
                  refine lv_topi (fun x_68 ex_68 => ?_)
                  refine lv_istore_n (lv' := [(2, .int x_68), (4, .long x_39), (0, .ref (k.2.1 91)), (1, .int (nI q)), (3, .int (nI t))]) hx hb dX5_badTones_68 rfl hl (by decide) rfl (fun ls hl => ?_)
                  refine lv_iinc (v := nI (t + 1)) (lv' := [(3, .int (nI (t + 1))), (2, .int x_68), (4, .long x_39), (0, .ref (k.2.1 91)), (1, .int (nI q))]) hx hb dX5_badTones_69 hl (k := 4) rfl (nI_1 _) (by decide) rfl (fun ls hl => ?_)
                  refine lv_goto (tgt := 20) hx hb dX5_badTones_72 (by decide) ?_
                  subst ex_39
                  exact ih (t + 1) x_68 ⟨by omega, by rw [ex_68, hinv.2]; first | exact mbt_1 c_47 | exact mbt_2 c_56 | exact mbt_3 c_47 c_56⟩ (by omega) _ _ _ w (lv_sub hl [3, 4, 1, 0] rfl)
                · refine lv_iconst (v := nI 1) hx hb dX5_badTones_60 (by decide) ?_
                  refine lv_iload_n hx hb dX5_badTones_61 rfl (lv_at hl 4 rfl) ?_
                  refine lv_ishl hx hb dX5_badTones_62 ?_
                  refine lv_goto (tgt := 67) hx hb dX5_badTones_63 (by decide) ?_
                  refine lv_ior hx hb dX5_badTones_67 ?_
                  refine lv_topi (fun x_68 ex_68 => ?_)
                  refine lv_istore_n (lv' := [(2, .int x_68), (4, .long x_39), (0, .ref (k.2.1 91)), (1, .int (nI q)), (3, .int (nI t))]) hx hb dX5_badTones_68 rfl hl (by decide) rfl (fun ls hl => ?_)
                  refine lv_iinc (v := nI (t + 1)) (lv' := [(3, .int (nI (t + 1))), (2, .int x_68), (4, .long x_39), (0, .ref (k.2.1 91)), (1, .int (nI q))]) hx hb dX5_badTones_69 hl (k := 4) rfl (nI_1 _) (by decide) rfl (fun ls hl => ?_)
                  refine lv_goto (tgt := 20) hx hb dX5_badTones_72 (by decide) ?_
                  subst ex_39
                  exact ih (t + 1) x_68 ⟨by omega, by rw [ex_68, hinv.2]; first | exact mbt_1 c_47 | exact mbt_2 c_56 | exact mbt_3 c_47 c_56⟩ (by omega) _ _ _ w (lv_sub hl [3, 4, 1, 0] rfl)
      exact lp 17 0 (nI 0) ⟨by omega, rfl⟩ (by omega) _ _ _ w (lv_sub hl [2, 3, 1, 0] rfl)
  · subst er_2
    refine lv_if_eq (tgt := 12) hx hb dX5_badTones_5 (by decide) (fun c_5 => ?_) (fun c_5 => ?_)
    · refine lv_iconst (v := nI 1) hx hb dX5_badTones_12 (by decide) ?_
      refine q_put X w 91 3 .int (ci := 5) (by decide) rfl rfl rfl hi5 tyX5_ok nmX5 (by decide) (by decide +kernel) rfl (by decide +kernel) (rfl) (rfl) (Nat.le_of_ble_eq_true rfl) dX5_badTones_13 (fun H locs w => ?_)
      obtain ⟨h_13, eh_13⟩ : ∃ z9, z9 = upI h 91 3 (nI 1) := ⟨_, rfl⟩
      rw [← eh_13] at w
      have kT : h_13.1 91 3 = nI 1 := by rw [eh_13, upI_s]; rfl
      refine lv_iconst (v := nI 0) hx hb dX5_badTones_16 (by decide) ?_
      refine lv_istore_n (lv' := [(2, .int (nI 0)), (0, .ref (k.2.1 91)), (1, .int x)]) hx hb dX5_badTones_17 rfl hl (by decide) rfl (fun ls hl => ?_)
      refine lv_iconst (v := nI 0) hx hb dX5_badTones_18 (by decide) ?_
      refine lv_istore_n (lv' := [(3, .int (nI 0)), (2, .int (nI 0)), (0, .ref (k.2.1 91)), (1, .int x)]) hx hb dX5_badTones_19 rfl hl (by decide) rfl (fun ls hl => ?_)
      refine lv_iload_n hx hb dX5_badTones_20 rfl (lv_at hl 0 rfl) ?_
      refine lv_bipush (v := nI 16) hx hb dX5_badTones_21 (by decide) ?_
      refine q_icge X (tgt := 75) (by decide) (by decide) dX5_badTones_23 (by decide) (fun c_23 => ?_) (fun c_23 => ?_)
      · refine lv_iload_n hx hb dX5_badTones_75 rfl (lv_at hl 1 rfl) ?_
        exact hret _ _ _ _ _ _ _ _ dX5_badTones_76 w rfl (Or.inr ⟨hd_2, rfl, eh_13⟩) (Nat.le_of_ble_eq_true rfl) (Nat.le_of_ble_eq_true rfl)
      · refine lv_aload_n hx hb dX5_badTones_26 rfl (lv_at hl 2 rfl) ?_
        refine q_get X w 91 3 (ci := 5) (by decide) rfl rfl hi5 (by decide) (by decide +kernel) rfl dX5_badTones_27 ?_
        rw [kT]
        refine lv_if_ne (tgt := 75) hx hb dX5_badTones_30 (by decide) (fun c_30 => ?_) (fun c_30 => ?_)
        · refine lv_iload_n hx hb dX5_badTones_75 rfl (lv_at hl 1 rfl) ?_
          exact hret _ _ _ _ _ _ _ _ dX5_badTones_76 w rfl (Or.inr ⟨hd_2, rfl, eh_13⟩) (Nat.le_of_ble_eq_true rfl) (Nat.le_of_ble_eq_true rfl)
        · exact absurd c_30 (by decide)
    · exact absurd (by decide) c_5

abbrev rc_X5_request : Room := { frames := 3, cells := 0, slots := 0, locals := 67 }
set_option maxHeartbeats 4000000 in
set_option maxRecDepth 100000 in
theorem c_X5_request (l : Launch) (k : kY) (h : hS) (x y z : Int32) {b : Nat} (hs0 : h.1 91 2 = nI b) (hs4 : b ≤ 4) : CT l k yX5_request wsX5_request rc_X5_request [.ref (k.2.1 91), .int x, .int y, .int z] h (QI k (fun r h' => (∃ q t u : Nat, q < 2 ∧ t < 16 ∧ u < 16 ∧ x = nI q ∧ y = nI t ∧ z = nI u ∧ ¬ t = u ∧ ¬ mrB (h.2.1 92) q t u ∧ r = (mrq (h.2.1 92) q t u (1 + 116 * q + 98)).toInt32 ∧ h' = setL (msv (upI h 91 3 (nI 0)) b) 92 (msd (mrq (h.2.1 92) q t u) q)) ∨ (∃ q t u : Nat, q < 2 ∧ t < 16 ∧ u < 16 ∧ x = nI q ∧ y = nI t ∧ z = nI u ∧ ¬ t = u ∧ mrB (h.2.1 92) q t u ∧ r = nI 0 ∧ h' = upI h 91 3 (nI 3)) ∨ (∃ q t : Nat, q < 2 ∧ t < 16 ∧ x = nI q ∧ y = nI t ∧ y = z ∧ r = nI 0 ∧ h' = upI h 91 3 (nI 2)) ∨ (¬ (isP x ∧ isT y ∧ isT z) ∧ r = nI 0 ∧ h' = upI h 91 3 (nI 1)))) 0 0 := by
  refine q_metI (cc := cX5_request) (maxL := 4) (ret := some .int) (ty := .int) (by decide) rfl rfl (Nat.le_of_ble_eq_true rfl) ?_
  intro p e s m args below meth c Q ls X w hl hret
  have hx := X.1
  have hb := X.2.1
  have hown := X.2.2.2.1
  have hts := X.2.2.2.2
  have hl : lv_has ls 4 [(0, .ref (k.2.1 91)), (1, .int x), (2, .int y), (3, .int z)] := hl
  have hi5 : ∀ w ∈ u_ws RX5 TX5 6, w ∈ wsX5_request := by decide +kernel
  refine lv_aload_n hx hb dX5_request_0 rfl (lv_at hl 0 rfl) ?_
  refine lv_iload_n hx hb dX5_request_1 rfl (lv_at hl 1 rfl) ?_
  refine lv_iload_n hx hb dX5_request_2 rfl (lv_at hl 2 rfl) ?_
  refine q_callv w (q_runV X w 91 (c_X5_toneCheck l k h x y) (cwV 2 hts gX5_request_X5_toneCheck rfl rfl rfl (by decide +kernel) ⟨Nat.le_of_ble_eq_true rfl, Nat.le_of_ble_eq_true rfl⟩) (by decide) rfl rfl rfl hl.1 rfl (Nat.le_of_ble_eq_true rfl) dX5_request_3 ⟨Nat.le_of_ble_eq_true rfl, Nat.le_of_ble_eq_true rfl⟩) (fun h_3 H locs hp w => ?_)
  rcases hp with ⟨hd_3, hd2_3, eh_3⟩ | ⟨hd_3, eh_3⟩
  · obtain ⟨q, hq, rfl⟩ := hd_3
    obtain ⟨t, ht, rfl⟩ := hd2_3
    have kT : h_3.1 91 3 = nI 0 := by rw [eh_3, upI_s]; rfl
    refine lv_aload_n hx hb dX5_request_6 rfl (lv_at hl 0 rfl) ?_
    refine lv_aload_n hx hb dX5_request_7 rfl (lv_at hl 0 rfl) ?_
    refine q_get X w 91 3 (ci := 5) (by decide) rfl rfl hi5 (by decide) (by decide +kernel) rfl dX5_request_8 ?_
    rw [kT]
    refine lv_if_gt (tgt := 21) hx hb dX5_request_11 (by decide) (fun c_11 => ?_) (fun c_11 => ?_)
    · exact absurd c_11 (by decide)
    · refine lv_iload_n hx hb dX5_request_14 rfl (lv_at hl 3 rfl) ?_
      refine q_calli w (q_runS X w (c_X5_isTone l k h_3 z) (va_cwS 1 hts gX5_request_X5_isTone rfl rfl rfl (by decide +kernel) ⟨Nat.le_of_ble_eq_true rfl, Nat.le_of_ble_eq_true rfl⟩) rfl hl.1 rfl (Nat.le_of_ble_eq_true rfl) dX5_request_15 ⟨Nat.le_of_ble_eq_true rfl, Nat.le_of_ble_eq_true rfl⟩) (fun r_15 h_15 H locs hp w => ?_)
      obtain ⟨hp, eh_15⟩ := hp
      rw [eh_15] at w
      rcases hp with ⟨hd_15, er_15⟩ | ⟨hd_15, er_15⟩
      · subst er_15
        obtain ⟨u, hu, rfl⟩ := hd_15
        refine lv_if_ne (tgt := 25) hx hb dX5_request_18 (by decide) (fun c_18 => ?_) (fun c_18 => ?_)
        · refine lv_iload_n hx hb dX5_request_25 rfl (lv_at hl 2 rfl) ?_
          refine lv_iload_n hx hb dX5_request_26 rfl (lv_at hl 3 rfl) ?_
          refine q_icne X (tgt := 34) (by omega) (by omega) dX5_request_27 (by decide) (fun c_27 => ?_) (fun c_27 => ?_)
          · refine lv_iconst (v := nI 0) hx hb dX5_request_34 (by decide) ?_
            refine q_put X w 91 3 .int (ci := 5) (by decide) rfl rfl rfl hi5 tyX5_ok nmX5 (by decide) (by decide +kernel) rfl (by decide +kernel) (rfl) (rfl) (Nat.le_of_ble_eq_true rfl) dX5_request_35 (fun H locs w => ?_)
            obtain ⟨h_35, eh_35⟩ : ∃ z9, z9 = upI h_3 91 3 (nI 0) := ⟨_, rfl⟩
            rw [← eh_35] at w
            have kT : h_35.1 91 3 = nI 0 := by rw [eh_35, upI_s]; rfl
            refine lv_aload_n hx hb dX5_request_38 rfl (lv_at hl 0 rfl) ?_
            refine q_get X w 91 3 (ci := 5) (by decide) rfl rfl hi5 (by decide) (by decide +kernel) rfl dX5_request_39 ?_
            rw [kT]
            refine lv_if_le (tgt := 47) hx hb dX5_request_42 (by decide) (fun c_42 => ?_) (fun c_42 => ?_)
            · refine lv_aload_n hx hb dX5_request_47 rfl (lv_at hl 0 rfl) ?_
              refine q_get X w 91 0 (ci := 5) (by decide) rfl rfl hi5 (by decide) (by decide +kernel) rfl dX5_request_48 ?_
              refine lv_iload_n hx hb dX5_request_51 rfl (lv_at hl 1 rfl) ?_
              refine lv_bipush (v := nI 97) hx hb dX5_request_52 (by decide) ?_
              refine q_calli w (q_runS X w (c_X5_at l k h_35 q 97) (va_cwS 2 hts gX5_request_X5_at rfl rfl rfl (by decide +kernel) ⟨Nat.le_of_ble_eq_true rfl, Nat.le_of_ble_eq_true rfl⟩) rfl hl.1 rfl (Nat.le_of_ble_eq_true rfl) dX5_request_54 ⟨Nat.le_of_ble_eq_true rfl, Nat.le_of_ble_eq_true rfl⟩) (fun r_54 h_54 H locs hp w => ?_)
              obtain ⟨er_54, eh_54⟩ := hp
              rw [eh_54] at w
              have er_54 : r_54 = nI (1 + 116 * q + 97) := er_54
              subst er_54
              refine q_lald X w 92 (1 + 116 * q + 97) (by decide) (fun _ => rfl) rfl (show (1 + 116 * q + 97) < 233 by omega) (by decide) dX5_request_57 ?_
              refine lv_lconst (v := 1) hx hb dX5_request_58 (by decide) ?_
              refine q_lif_eq X (tgt := 98) dX5_request_59 dX5_request_60 (by decide) (fun c_59 => ?_) (fun c_59 => ?_)
              · refine lv_aload_n hx hb dX5_request_98 rfl (lv_at hl 0 rfl) ?_
                refine lv_iconst (v := nI 3) hx hb dX5_request_99 (by decide) ?_
                refine q_calli w (q_runV X w 91 (c_X5_bad l k h_35 (nI 3)) (cwV 1 hts gX5_request_X5_bad rfl rfl rfl (by decide +kernel) ⟨Nat.le_of_ble_eq_true rfl, Nat.le_of_ble_eq_true rfl⟩) (by decide) rfl rfl rfl hl.1 rfl (Nat.le_of_ble_eq_true rfl) dX5_request_100 ⟨Nat.le_of_ble_eq_true rfl, Nat.le_of_ble_eq_true rfl⟩) (fun r_100 h_100 H locs hp w => ?_)
                obtain ⟨er_100, eh_100⟩ := hp
                have er_100 : r_100 = nI 0 := er_100
                subst er_100
                exact hret _ _ _ _ _ _ _ _ dX5_request_103 w rfl (Or.inr (Or.inl ⟨q, t, u, hq, ht, hu, rfl, rfl, rfl, c_27, (by subst eh_35; subst eh_3; first | exact Or.inl c_59 | exact Or.inr (Or.inl c_77) | exact Or.inr (Or.inr (Or.inl hd_84)) | exact Or.inr (Or.inr (Or.inr hf_92))), rfl, (by rw [eh_100, eh_35, eh_3, upI_upI, upI_upI])⟩)) (Nat.le_of_ble_eq_true rfl) (Nat.le_of_ble_eq_true rfl)
              · refine lv_aload_n hx hb dX5_request_63 rfl (lv_at hl 0 rfl) ?_
                refine q_get X w 91 0 (ci := 5) (by decide) rfl rfl hi5 (by decide) (by decide +kernel) rfl dX5_request_64 ?_
                refine lv_iload_n hx hb dX5_request_67 rfl (lv_at hl 1 rfl) ?_
                refine lv_bipush (v := nI 49) hx hb dX5_request_68 (by decide) ?_
                refine lv_iload_n hx hb dX5_request_70 rfl (lv_at hl 2 rfl) ?_
                refine q_iaddN X dX5_request_71 ?_
                refine q_calli w (q_runS X w (c_X5_at l k h_35 q (49 + t)) (va_cwS 2 hts gX5_request_X5_at rfl rfl rfl (by decide +kernel) ⟨Nat.le_of_ble_eq_true rfl, Nat.le_of_ble_eq_true rfl⟩) rfl hl.1 rfl (Nat.le_of_ble_eq_true rfl) dX5_request_72 ⟨Nat.le_of_ble_eq_true rfl, Nat.le_of_ble_eq_true rfl⟩) (fun r_72 h_72 H locs hp w => ?_)
                obtain ⟨er_72, eh_72⟩ := hp
                rw [eh_72] at w
                have er_72 : r_72 = nI (1 + 116 * q + (49 + t)) := er_72
                subst er_72
                refine q_lald X w 92 (1 + 116 * q + (49 + t)) (by decide) (fun _ => rfl) rfl (show (1 + 116 * q + (49 + t)) < 233 by omega) (by decide) dX5_request_75 ?_
                refine lv_lconst (v := 0) hx hb dX5_request_76 (by decide) ?_
                refine q_lif_eq X (tgt := 98) dX5_request_77 dX5_request_78 (by decide) (fun c_77 => ?_) (fun c_77 => ?_)
                · refine lv_aload_n hx hb dX5_request_98 rfl (lv_at hl 0 rfl) ?_
                  refine lv_iconst (v := nI 3) hx hb dX5_request_99 (by decide) ?_
                  refine q_calli w (q_runV X w 91 (c_X5_bad l k h_35 (nI 3)) (cwV 1 hts gX5_request_X5_bad rfl rfl rfl (by decide +kernel) ⟨Nat.le_of_ble_eq_true rfl, Nat.le_of_ble_eq_true rfl⟩) (by decide) rfl rfl rfl hl.1 rfl (Nat.le_of_ble_eq_true rfl) dX5_request_100 ⟨Nat.le_of_ble_eq_true rfl, Nat.le_of_ble_eq_true rfl⟩) (fun r_100 h_100 H locs hp w => ?_)
                  obtain ⟨er_100, eh_100⟩ := hp
                  have er_100 : r_100 = nI 0 := er_100
                  subst er_100
                  exact hret _ _ _ _ _ _ _ _ dX5_request_103 w rfl (Or.inr (Or.inl ⟨q, t, u, hq, ht, hu, rfl, rfl, rfl, c_27, (by subst eh_35; subst eh_3; first | exact Or.inl c_59 | exact Or.inr (Or.inl c_77) | exact Or.inr (Or.inr (Or.inl hd_84)) | exact Or.inr (Or.inr (Or.inr hf_92))), rfl, (by rw [eh_100, eh_35, eh_3, upI_upI, upI_upI])⟩)) (Nat.le_of_ble_eq_true rfl) (Nat.le_of_ble_eq_true rfl)
                · refine lv_aload_n hx hb dX5_request_81 rfl (lv_at hl 0 rfl) ?_
                  refine lv_iload_n hx hb dX5_request_82 rfl (lv_at hl 1 rfl) ?_
                  refine lv_iload_n hx hb dX5_request_83 rfl (lv_at hl 3 rfl) ?_
                  refine q_calli w (q_runV X w 91 (c_X5_isBelow l k h_35 (q := q) (t := u) (by omega) (by omega)) (cwV 2 hts gX5_request_X5_isBelow rfl rfl rfl (by decide +kernel) ⟨Nat.le_of_ble_eq_true rfl, Nat.le_of_ble_eq_true rfl⟩) (by decide) rfl rfl rfl hl.1 rfl (Nat.le_of_ble_eq_true rfl) dX5_request_84 ⟨Nat.le_of_ble_eq_true rfl, Nat.le_of_ble_eq_true rfl⟩) (fun r_84 h_84 H locs hp w => ?_)
                  obtain ⟨hp, eh_84⟩ := hp
                  rw [eh_84] at w
                  rcases hp with ⟨hd_84, er_84⟩ | ⟨hd_84, er_84⟩
                  · subst er_84
                    refine lv_if_eq (tgt := 98) hx hb dX5_request_87 (by decide) (fun c_87 => ?_) (fun c_87 => ?_)
                    · exact absurd c_87 (by decide)
                    · refine lv_aload_n hx hb dX5_request_90 rfl (lv_at hl 0 rfl) ?_
                      refine lv_iload_n hx hb dX5_request_91 rfl (lv_at hl 1 rfl) ?_
                      refine q_calli w (q_runV X w 91 (c_X5_inStepNow l k h_35 (q := q) (by omega)) (cwV 1 hts gX5_request_X5_inStepNow rfl rfl rfl (by decide +kernel) ⟨Nat.le_of_ble_eq_true rfl, Nat.le_of_ble_eq_true rfl⟩) (by decide) rfl rfl rfl hl.1 rfl (Nat.le_of_ble_eq_true rfl) dX5_request_92 ⟨Nat.le_of_ble_eq_true rfl, Nat.le_of_ble_eq_true rfl⟩) (fun r_92 h_92 H locs hp w => ?_)
                      obtain ⟨er_92, eh_92⟩ := hp
                      rw [eh_92] at w
                      have er_92 : r_92 = bI (mis (h_35.2.1 92) q 16) := er_92
                      rcases hf_92 : mis (h_35.2.1 92) q 16 with _ | _
                      · rw [hf_92] at er_92
                        have er_92 : r_92 = nI 0 := er_92
                        subst er_92
                        refine lv_if_ne (tgt := 104) hx hb dX5_request_95 (by decide) (fun c_95 => ?_) (fun c_95 => ?_)
                        · exact absurd (by decide) c_95
                        · refine lv_aload_n hx hb dX5_request_98 rfl (lv_at hl 0 rfl) ?_
                          refine lv_iconst (v := nI 3) hx hb dX5_request_99 (by decide) ?_
                          refine q_calli w (q_runV X w 91 (c_X5_bad l k h_35 (nI 3)) (cwV 1 hts gX5_request_X5_bad rfl rfl rfl (by decide +kernel) ⟨Nat.le_of_ble_eq_true rfl, Nat.le_of_ble_eq_true rfl⟩) (by decide) rfl rfl rfl hl.1 rfl (Nat.le_of_ble_eq_true rfl) dX5_request_100 ⟨Nat.le_of_ble_eq_true rfl, Nat.le_of_ble_eq_true rfl⟩) (fun r_100 h_100 H locs hp w => ?_)
                          obtain ⟨er_100, eh_100⟩ := hp
                          have er_100 : r_100 = nI 0 := er_100
                          subst er_100
                          exact hret _ _ _ _ _ _ _ _ dX5_request_103 w rfl (Or.inr (Or.inl ⟨q, t, u, hq, ht, hu, rfl, rfl, rfl, c_27, (by subst eh_35; subst eh_3; first | exact Or.inl c_59 | exact Or.inr (Or.inl c_77) | exact Or.inr (Or.inr (Or.inl hd_84)) | exact Or.inr (Or.inr (Or.inr hf_92))), rfl, (by rw [eh_100, eh_35, eh_3, upI_upI, upI_upI])⟩)) (Nat.le_of_ble_eq_true rfl) (Nat.le_of_ble_eq_true rfl)
                      · rw [hf_92] at er_92
                        have er_92 : r_92 = nI 1 := er_92
                        subst er_92
                        refine lv_if_ne (tgt := 104) hx hb dX5_request_95 (by decide) (fun c_95 => ?_) (fun c_95 => ?_)
                        · refine lv_aload_n hx hb dX5_request_104 rfl (lv_at hl 0 rfl) ?_
                          refine q_callv w (q_runV X w 91 (c_X5_save l k h_35 (b := b) (by rw [eh_35, upI_s, eh_3, upI_s]; exact hs0) hs4) (cwV 0 hts gX5_request_X5_save rfl rfl rfl (by decide +kernel) ⟨Nat.le_of_ble_eq_true rfl, Nat.le_of_ble_eq_true rfl⟩) (by decide) rfl rfl rfl hl.1 rfl (Nat.le_of_ble_eq_true rfl) dX5_request_105 ⟨Nat.le_of_ble_eq_true rfl, Nat.le_of_ble_eq_true rfl⟩) (fun h_105 H locs hp w => ?_)
                          have eh_105 := hp
                          refine lv_aload_n hx hb dX5_request_108 rfl (lv_at hl 0 rfl) ?_
                          refine q_get X w 91 0 (ci := 5) (by decide) rfl rfl hi5 (by decide) (by decide +kernel) rfl dX5_request_109 ?_
                          refine lv_iload_n hx hb dX5_request_112 rfl (lv_at hl 1 rfl) ?_
                          refine lv_bipush (v := nI 97) hx hb dX5_request_113 (by decide) ?_
                          refine q_calli w (q_runS X w (c_X5_at l k h_105 q 97) (va_cwS 2 hts gX5_request_X5_at rfl rfl rfl (by decide +kernel) ⟨Nat.le_of_ble_eq_true rfl, Nat.le_of_ble_eq_true rfl⟩) rfl hl.1 rfl (Nat.le_of_ble_eq_true rfl) dX5_request_115 ⟨Nat.le_of_ble_eq_true rfl, Nat.le_of_ble_eq_true rfl⟩) (fun r_115 h_115 H locs hp w => ?_)
                          obtain ⟨er_115, eh_115⟩ := hp
                          rw [eh_115] at w
                          have er_115 : r_115 = nI (1 + 116 * q + 97) := er_115
                          subst er_115
                          refine lv_lconst (v := 1) hx hb dX5_request_118 (by decide) ?_
                          refine q_last X w 92 (1 + 116 * q + 97) (by decide) (fun _ => rfl) rfl (show (1 + 116 * q + 97) < 233 by omega) (by decide) dX5_request_119 (fun H locs w => ?_)
                          obtain ⟨h_119, eh_119⟩ : ∃ z9, z9 = upL h_105 92 (1 + 116 * q + 97) 1 := ⟨_, rfl⟩
                          rw [← eh_119] at w
                          refine lv_aload_n hx hb dX5_request_120 rfl (lv_at hl 0 rfl) ?_
                          refine q_get X w 91 0 (ci := 5) (by decide) rfl rfl hi5 (by decide) (by decide +kernel) rfl dX5_request_121 ?_
                          refine lv_iload_n hx hb dX5_request_124 rfl (lv_at hl 1 rfl) ?_
                          refine lv_bipush (v := nI 98) hx hb dX5_request_125 (by decide) ?_
                          refine q_calli w (q_runS X w (c_X5_at l k h_119 q 98) (va_cwS 2 hts gX5_request_X5_at rfl rfl rfl (by decide +kernel) ⟨Nat.le_of_ble_eq_true rfl, Nat.le_of_ble_eq_true rfl⟩) rfl hl.1 rfl (Nat.le_of_ble_eq_true rfl) dX5_request_127 ⟨Nat.le_of_ble_eq_true rfl, Nat.le_of_ble_eq_true rfl⟩) (fun r_127 h_127 H locs hp w => ?_)
                          obtain ⟨er_127, eh_127⟩ := hp
                          rw [eh_127] at w
                          have er_127 : r_127 = nI (1 + 116 * q + 98) := er_127
                          subst er_127
                          refine lv_aload_n hx hb dX5_request_130 rfl (lv_at hl 0 rfl) ?_
                          refine q_get X w 91 0 (ci := 5) (by decide) rfl rfl hi5 (by decide) (by decide +kernel) rfl dX5_request_131 ?_
                          refine lv_iload_n hx hb dX5_request_134 rfl (lv_at hl 1 rfl) ?_
                          refine lv_bipush (v := nI 102) hx hb dX5_request_135 (by decide) ?_
                          refine q_calli w (q_runS X w (c_X5_at l k h_119 q 102) (va_cwS 2 hts gX5_request_X5_at rfl rfl rfl (by decide +kernel) ⟨Nat.le_of_ble_eq_true rfl, Nat.le_of_ble_eq_true rfl⟩) rfl hl.1 rfl (Nat.le_of_ble_eq_true rfl) dX5_request_137 ⟨Nat.le_of_ble_eq_true rfl, Nat.le_of_ble_eq_true rfl⟩) (fun r_137 h_137 H locs hp w => ?_)
                          obtain ⟨er_137, eh_137⟩ := hp
                          rw [eh_137] at w
                          have er_137 : r_137 = nI (1 + 116 * q + 102) := er_137
                          subst er_137
                          refine q_lald X w 92 (1 + 116 * q + 102) (by decide) (fun _ => rfl) rfl (show (1 + 116 * q + 102) < 233 by omega) (by decide) dX5_request_140 ?_
                          refine lv_topl (fun x_141 ex_141 => ?_)
                          refine q_last X w 92 (1 + 116 * q + 98) (by decide) (fun _ => rfl) rfl (show (1 + 116 * q + 98) < 233 by omega) (by decide) dX5_request_141 (fun H locs w => ?_)
                          obtain ⟨h_141, eh_141⟩ : ∃ z9, z9 = upL h_119 92 (1 + 116 * q + 98) x_141 := ⟨_, rfl⟩
                          rw [← eh_141] at w
                          refine lv_aload_n hx hb dX5_request_142 rfl (lv_at hl 0 rfl) ?_
                          refine q_get X w 91 0 (ci := 5) (by decide) rfl rfl hi5 (by decide) (by decide +kernel) rfl dX5_request_143 ?_
                          refine lv_iload_n hx hb dX5_request_146 rfl (lv_at hl 1 rfl) ?_
                          refine lv_bipush (v := nI 99) hx hb dX5_request_147 (by decide) ?_
                          refine q_calli w (q_runS X w (c_X5_at l k h_141 q 99) (va_cwS 2 hts gX5_request_X5_at rfl rfl rfl (by decide +kernel) ⟨Nat.le_of_ble_eq_true rfl, Nat.le_of_ble_eq_true rfl⟩) rfl hl.1 rfl (Nat.le_of_ble_eq_true rfl) dX5_request_149 ⟨Nat.le_of_ble_eq_true rfl, Nat.le_of_ble_eq_true rfl⟩) (fun r_149 h_149 H locs hp w => ?_)
                          obtain ⟨er_149, eh_149⟩ := hp
                          rw [eh_149] at w
                          have er_149 : r_149 = nI (1 + 116 * q + 99) := er_149
                          subst er_149
                          refine lv_iload_n hx hb dX5_request_152 rfl (lv_at hl 2 rfl) ?_
                          refine lv_i2l hx hb dX5_request_153 rfl ?_
                          refine lv_topl (fun x_154 ex_154 => ?_)
                          refine q_last X w 92 (1 + 116 * q + 99) (by decide) (fun _ => rfl) rfl (show (1 + 116 * q + 99) < 233 by omega) (by decide) dX5_request_154 (fun H locs w => ?_)
                          obtain ⟨h_154, eh_154⟩ : ∃ z9, z9 = upL h_141 92 (1 + 116 * q + 99) x_154 := ⟨_, rfl⟩
                          rw [← eh_154] at w
                          refine lv_aload_n hx hb dX5_request_155 rfl (lv_at hl 0 rfl) ?_
                          refine q_get X w 91 0 (ci := 5) (by decide) rfl rfl hi5 (by decide) (by decide +kernel) rfl dX5_request_156 ?_
                          refine lv_iload_n hx hb dX5_request_159 rfl (lv_at hl 1 rfl) ?_
                          refine lv_bipush (v := nI 100) hx hb dX5_request_160 (by decide) ?_
                          refine q_calli w (q_runS X w (c_X5_at l k h_154 q 100) (va_cwS 2 hts gX5_request_X5_at rfl rfl rfl (by decide +kernel) ⟨Nat.le_of_ble_eq_true rfl, Nat.le_of_ble_eq_true rfl⟩) rfl hl.1 rfl (Nat.le_of_ble_eq_true rfl) dX5_request_162 ⟨Nat.le_of_ble_eq_true rfl, Nat.le_of_ble_eq_true rfl⟩) (fun r_162 h_162 H locs hp w => ?_)
                          obtain ⟨er_162, eh_162⟩ := hp
                          rw [eh_162] at w
                          have er_162 : r_162 = nI (1 + 116 * q + 100) := er_162
                          subst er_162
                          refine lv_iload_n hx hb dX5_request_165 rfl (lv_at hl 3 rfl) ?_
                          refine lv_i2l hx hb dX5_request_166 rfl ?_
                          refine lv_topl (fun x_167 ex_167 => ?_)
                          refine q_last X w 92 (1 + 116 * q + 100) (by decide) (fun _ => rfl) rfl (show (1 + 116 * q + 100) < 233 by omega) (by decide) dX5_request_167 (fun H locs w => ?_)
                          obtain ⟨h_167, eh_167⟩ : ∃ z9, z9 = upL h_154 92 (1 + 116 * q + 100) x_167 := ⟨_, rfl⟩
                          rw [← eh_167] at w
                          refine lv_aload_n hx hb dX5_request_168 rfl (lv_at hl 0 rfl) ?_
                          refine q_get X w 91 0 (ci := 5) (by decide) rfl rfl hi5 (by decide) (by decide +kernel) rfl dX5_request_169 ?_
                          refine lv_iload_n hx hb dX5_request_172 rfl (lv_at hl 1 rfl) ?_
                          refine lv_bipush (v := nI 101) hx hb dX5_request_173 (by decide) ?_
                          refine q_calli w (q_runS X w (c_X5_at l k h_167 q 101) (va_cwS 2 hts gX5_request_X5_at rfl rfl rfl (by decide +kernel) ⟨Nat.le_of_ble_eq_true rfl, Nat.le_of_ble_eq_true rfl⟩) rfl hl.1 rfl (Nat.le_of_ble_eq_true rfl) dX5_request_175 ⟨Nat.le_of_ble_eq_true rfl, Nat.le_of_ble_eq_true rfl⟩) (fun r_175 h_175 H locs hp w => ?_)
                          obtain ⟨er_175, eh_175⟩ := hp
                          rw [eh_175] at w
                          have er_175 : r_175 = nI (1 + 116 * q + 101) := er_175
                          subst er_175
                          refine lv_ldc2 (v := (-1)) hx hb hown (hts (.constantLong RX5 94 (-1)) (by decide +kernel)) dX5_request_178 ?_
                          refine q_last X w 92 (1 + 116 * q + 101) (by decide) (fun _ => rfl) rfl (show (1 + 116 * q + 101) < 233 by omega) (by decide) dX5_request_181 (fun H locs w => ?_)
                          obtain ⟨h_181, eh_181⟩ : ∃ z9, z9 = upL h_167 92 (1 + 116 * q + 101) (-1) := ⟨_, rfl⟩
                          rw [← eh_181] at w
                          refine lv_aload_n hx hb dX5_request_182 rfl (lv_at hl 0 rfl) ?_
                          refine q_get X w 91 0 (ci := 5) (by decide) rfl rfl hi5 (by decide) (by decide +kernel) rfl dX5_request_183 ?_
                          refine lv_iload_n hx hb dX5_request_186 rfl (lv_at hl 1 rfl) ?_
                          refine lv_bipush (v := nI 102) hx hb dX5_request_187 (by decide) ?_
                          refine q_calli w (q_runS X w (c_X5_at l k h_181 q 102) (va_cwS 2 hts gX5_request_X5_at rfl rfl rfl (by decide +kernel) ⟨Nat.le_of_ble_eq_true rfl, Nat.le_of_ble_eq_true rfl⟩) rfl hl.1 rfl (Nat.le_of_ble_eq_true rfl) dX5_request_189 ⟨Nat.le_of_ble_eq_true rfl, Nat.le_of_ble_eq_true rfl⟩) (fun r_189 h_189 H locs hp w => ?_)
                          obtain ⟨er_189, eh_189⟩ := hp
                          rw [eh_189] at w
                          have er_189 : r_189 = nI (1 + 116 * q + 102) := er_189
                          subst er_189
                          refine lv_aload_n hx hb dX5_request_192 rfl (lv_at hl 0 rfl) ?_
                          refine q_get X w 91 0 (ci := 5) (by decide) rfl rfl hi5 (by decide) (by decide +kernel) rfl dX5_request_193 ?_
                          refine lv_iload_n hx hb dX5_request_196 rfl (lv_at hl 1 rfl) ?_
                          refine lv_bipush (v := nI 102) hx hb dX5_request_197 (by decide) ?_
                          refine q_calli w (q_runS X w (c_X5_at l k h_181 q 102) (va_cwS 2 hts gX5_request_X5_at rfl rfl rfl (by decide +kernel) ⟨Nat.le_of_ble_eq_true rfl, Nat.le_of_ble_eq_true rfl⟩) rfl hl.1 rfl (Nat.le_of_ble_eq_true rfl) dX5_request_199 ⟨Nat.le_of_ble_eq_true rfl, Nat.le_of_ble_eq_true rfl⟩) (fun r_199 h_199 H locs hp w => ?_)
                          obtain ⟨er_199, eh_199⟩ := hp
                          rw [eh_199] at w
                          have er_199 : r_199 = nI (1 + 116 * q + 102) := er_199
                          subst er_199
                          refine q_lald X w 92 (1 + 116 * q + 102) (by decide) (fun _ => rfl) rfl (show (1 + 116 * q + 102) < 233 by omega) (by decide) dX5_request_202 ?_
                          refine lv_lconst (v := 1) hx hb dX5_request_203 (by decide) ?_
                          refine lv_ladd hx hb dX5_request_204 ?_
                          refine lv_ldc2 (v := 8) hx hb hown (hts (.constantLong RX5 150 8) (by decide +kernel)) dX5_request_205 ?_
                          refine lv_lrem hx hb dX5_request_208 (by decide) ?_
                          refine lv_topl (fun x_209 ex_209 => ?_)
                          refine q_last X w 92 (1 + 116 * q + 102) (by decide) (fun _ => rfl) rfl (show (1 + 116 * q + 102) < 233 by omega) (by decide) dX5_request_209 (fun H locs w => ?_)
                          obtain ⟨h_209, eh_209⟩ : ∃ z9, z9 = upL h_181 92 (1 + 116 * q + 102) x_209 := ⟨_, rfl⟩
                          rw [← eh_209] at w
                          refine lv_aload_n hx hb dX5_request_210 rfl (lv_at hl 0 rfl) ?_
                          refine lv_iload_n hx hb dX5_request_211 rfl (lv_at hl 1 rfl) ?_
                          refine q_calli w (q_runV X w 91 (c_X5_send l k h_209 (q := q) (by omega)) (cwV 1 hts gX5_request_X5_send rfl rfl rfl (by decide +kernel) ⟨Nat.le_of_ble_eq_true rfl, Nat.le_of_ble_eq_true rfl⟩) (by decide) rfl rfl rfl hl.1 rfl (Nat.le_of_ble_eq_true rfl) dX5_request_212 ⟨Nat.le_of_ble_eq_true rfl, Nat.le_of_ble_eq_true rfl⟩) (fun r_212 h_212 H locs hp w => ?_)
                          obtain ⟨er_212, eh_212⟩ := hp
                          have e92 : h_105.2.1 92 = h.2.1 92 := by rw [eh_105, msv_92, eh_35, eh_3]; rfl
                          have e119 : h_119 = setL h_105 92 (va_up (h_105.2.1 92) (1 + 116 * q + 97) 1) := by rw [eh_119, upL_set]
                          have e141 : h_141 = setL h_105 92 (mr2 (h_105.2.1 92) q) := by rw [eh_141, ex_141, e119, setL_s, setL_up]; rfl
                          have e181 : h_181 = setL h_105 92 (mr5 (h_105.2.1 92) q t u) := by rw [eh_181, eh_167, ex_167, eh_154, ex_154, e141, setL_up, setL_up, setL_up]; rfl
                          have e209 : h_209 = setL h_105 92 (mrq (h_105.2.1 92) q t u) := by rw [eh_209, ex_209, e181, setL_s, setL_up]; rfl
                          rw [e92] at e209
                          have e105 : h_105 = msv (upI h 91 3 (nI 0)) b := by rw [eh_105, eh_35, eh_3, upI_upI]
                          exact hret _ _ _ _ _ _ _ _ dX5_request_215 w rfl (Or.inl ⟨q, t, u, hq, ht, hu, rfl, rfl, rfl, c_27, (by subst eh_35; subst eh_3; exact fun z9 => z9.elim c_59 (fun z9 => z9.elim c_77 (fun z9 => z9.elim (fun z9 => z9 hd_84) (fun z9 => Bool.noConfusion (z9.symm.trans hf_92))))), (by rw [er_212, e209, setL_s]), (by rw [eh_212, e209, setL_s, setL_setL, e105])⟩) (Nat.le_of_ble_eq_true rfl) (Nat.le_of_ble_eq_true rfl)
                        · exact absurd c_95 (by decide)
                  · subst er_84
                    refine lv_if_eq (tgt := 98) hx hb dX5_request_87 (by decide) (fun c_87 => ?_) (fun c_87 => ?_)
                    · refine lv_aload_n hx hb dX5_request_98 rfl (lv_at hl 0 rfl) ?_
                      refine lv_iconst (v := nI 3) hx hb dX5_request_99 (by decide) ?_
                      refine q_calli w (q_runV X w 91 (c_X5_bad l k h_35 (nI 3)) (cwV 1 hts gX5_request_X5_bad rfl rfl rfl (by decide +kernel) ⟨Nat.le_of_ble_eq_true rfl, Nat.le_of_ble_eq_true rfl⟩) (by decide) rfl rfl rfl hl.1 rfl (Nat.le_of_ble_eq_true rfl) dX5_request_100 ⟨Nat.le_of_ble_eq_true rfl, Nat.le_of_ble_eq_true rfl⟩) (fun r_100 h_100 H locs hp w => ?_)
                      obtain ⟨er_100, eh_100⟩ := hp
                      have er_100 : r_100 = nI 0 := er_100
                      subst er_100
                      exact hret _ _ _ _ _ _ _ _ dX5_request_103 w rfl (Or.inr (Or.inl ⟨q, t, u, hq, ht, hu, rfl, rfl, rfl, c_27, (by subst eh_35; subst eh_3; first | exact Or.inl c_59 | exact Or.inr (Or.inl c_77) | exact Or.inr (Or.inr (Or.inl hd_84)) | exact Or.inr (Or.inr (Or.inr hf_92))), rfl, (by rw [eh_100, eh_35, eh_3, upI_upI, upI_upI])⟩)) (Nat.le_of_ble_eq_true rfl) (Nat.le_of_ble_eq_true rfl)
                    · exact absurd (by decide) c_87
            · exact absurd (by decide) c_42
          · refine lv_iconst (v := nI 2) hx hb dX5_request_30 (by decide) ?_
            refine lv_goto (tgt := 35) hx hb dX5_request_31 (by decide) ?_
            refine q_put X w 91 3 .int (ci := 5) (by decide) rfl rfl rfl hi5 tyX5_ok nmX5 (by decide) (by decide +kernel) rfl (by decide +kernel) (rfl) (rfl) (Nat.le_of_ble_eq_true rfl) dX5_request_35 (fun H locs w => ?_)
            obtain ⟨h_35, eh_35⟩ : ∃ z9, z9 = upI h_3 91 3 (nI 2) := ⟨_, rfl⟩
            rw [← eh_35] at w
            have kT : h_35.1 91 3 = nI 2 := by rw [eh_35, upI_s]; rfl
            refine lv_aload_n hx hb dX5_request_38 rfl (lv_at hl 0 rfl) ?_
            refine q_get X w 91 3 (ci := 5) (by decide) rfl rfl hi5 (by decide) (by decide +kernel) rfl dX5_request_39 ?_
            rw [kT]
            refine lv_if_le (tgt := 47) hx hb dX5_request_42 (by decide) (fun c_42 => ?_) (fun c_42 => ?_)
            · exact absurd c_42 (by decide)
            · refine lv_iconst (v := nI 0) hx hb dX5_request_45 (by decide) ?_
              exact hret _ _ _ _ _ _ _ _ dX5_request_46 w rfl (Or.inr (Or.inr (Or.inl ⟨q, t, hq, ht, rfl, rfl, (by rw [c_27]), rfl, (by rw [eh_35, eh_3, upI_upI])⟩))) (Nat.le_of_ble_eq_true rfl) (Nat.le_of_ble_eq_true rfl)
        · exact absurd c_18 (by decide)
      · subst er_15
        refine lv_if_ne (tgt := 25) hx hb dX5_request_18 (by decide) (fun c_18 => ?_) (fun c_18 => ?_)
        · exact absurd (by decide) c_18
        · refine lv_iconst (v := nI 1) hx hb dX5_request_21 (by decide) ?_
          refine lv_goto (tgt := 35) hx hb dX5_request_22 (by decide) ?_
          refine q_put X w 91 3 .int (ci := 5) (by decide) rfl rfl rfl hi5 tyX5_ok nmX5 (by decide) (by decide +kernel) rfl (by decide +kernel) (rfl) (rfl) (Nat.le_of_ble_eq_true rfl) dX5_request_35 (fun H locs w => ?_)
          obtain ⟨h_35, eh_35⟩ : ∃ z9, z9 = upI h_3 91 3 (nI 1) := ⟨_, rfl⟩
          rw [← eh_35] at w
          have kT : h_35.1 91 3 = nI 1 := by rw [eh_35, upI_s]; rfl
          refine lv_aload_n hx hb dX5_request_38 rfl (lv_at hl 0 rfl) ?_
          refine q_get X w 91 3 (ci := 5) (by decide) rfl rfl hi5 (by decide) (by decide +kernel) rfl dX5_request_39 ?_
          rw [kT]
          refine lv_if_le (tgt := 47) hx hb dX5_request_42 (by decide) (fun c_42 => ?_) (fun c_42 => ?_)
          · exact absurd c_42 (by decide)
          · refine lv_iconst (v := nI 0) hx hb dX5_request_45 (by decide) ?_
            exact hret _ _ _ _ _ _ _ _ dX5_request_46 w rfl (Or.inr (Or.inr (Or.inr ⟨fun z9 => hd_15 z9.2.2, rfl, (by rw [eh_35, eh_3, upI_upI])⟩))) (Nat.le_of_ble_eq_true rfl) (Nat.le_of_ble_eq_true rfl)
  · have kT : h_3.1 91 3 = nI 1 := by rw [eh_3, upI_s]; rfl
    refine lv_aload_n hx hb dX5_request_6 rfl (lv_at hl 0 rfl) ?_
    refine lv_aload_n hx hb dX5_request_7 rfl (lv_at hl 0 rfl) ?_
    refine q_get X w 91 3 (ci := 5) (by decide) rfl rfl hi5 (by decide) (by decide +kernel) rfl dX5_request_8 ?_
    rw [kT]
    refine lv_if_gt (tgt := 21) hx hb dX5_request_11 (by decide) (fun c_11 => ?_) (fun c_11 => ?_)
    · refine lv_iconst (v := nI 1) hx hb dX5_request_21 (by decide) ?_
      refine lv_goto (tgt := 35) hx hb dX5_request_22 (by decide) ?_
      refine q_put X w 91 3 .int (ci := 5) (by decide) rfl rfl rfl hi5 tyX5_ok nmX5 (by decide) (by decide +kernel) rfl (by decide +kernel) (rfl) (rfl) (Nat.le_of_ble_eq_true rfl) dX5_request_35 (fun H locs w => ?_)
      obtain ⟨h_35, eh_35⟩ : ∃ z9, z9 = upI h_3 91 3 (nI 1) := ⟨_, rfl⟩
      rw [← eh_35] at w
      have kT : h_35.1 91 3 = nI 1 := by rw [eh_35, upI_s]; rfl
      refine lv_aload_n hx hb dX5_request_38 rfl (lv_at hl 0 rfl) ?_
      refine q_get X w 91 3 (ci := 5) (by decide) rfl rfl hi5 (by decide) (by decide +kernel) rfl dX5_request_39 ?_
      rw [kT]
      refine lv_if_le (tgt := 47) hx hb dX5_request_42 (by decide) (fun c_42 => ?_) (fun c_42 => ?_)
      · exact absurd c_42 (by decide)
      · refine lv_iconst (v := nI 0) hx hb dX5_request_45 (by decide) ?_
        exact hret _ _ _ _ _ _ _ _ dX5_request_46 w rfl (Or.inr (Or.inr (Or.inr ⟨fun z9 => hd_3 ⟨z9.1, z9.2.1⟩, rfl, (by rw [eh_35, eh_3, upI_upI])⟩))) (Nat.le_of_ble_eq_true rfl) (Nat.le_of_ble_eq_true rfl)
    · exact absurd (by decide) c_11
