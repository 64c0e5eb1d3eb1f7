abbrev rc_X4_request : Room := { frames := 7, cells := 5, slots := 30, locals := 111 }
set_option maxHeartbeats 4000000 in
set_option maxRecDepth 100000 in
theorem c_X4_request (l : Launch) (k : kY) (h : hS) (hst : l.stackTraces = false) (x y z : Int32) {a b : Nat} (hs : SI h a b) : CX l k yX4_request wsX4_request rc_X4_request [.ref (k.2.1 0), .int x, .int y, .int z] h (QI k (fun r h' => ∃ q t u : Nat, q < 2 ∧ t < 16 ∧ u < 16 ∧ x = nI q ∧ y = nI t ∧ z = nI u ∧ ¬ t = u ∧ ¬ (¬ h.1 (11 + 8 * q + 7) 1 = 0 ∨ ¬ h.1 (11 + 8 * q) 9 = 0 ∨ h.1 (11 + 8 * q + 4) t < nI 1 ∨ ¬ h.1 (11 + 8 * q + 4) u < h.1 (11 + 8 * q + 3) u) ∧ r = (svz h a b).1 (11 + 8 * q + 7) 0 ∧ h' = setI (svz h a b) (11 + 8 * q + 7) (rqT ((svz h a b).1 (11 + 8 * q + 7)) (nI t) (nI u)))) (fun E h' => h' = h ∧ ((E = xIO ∧ ¬ (isP x ∧ isT y ∧ isT z)) ∨ (E = xIA ∧ isP x ∧ isT y ∧ isT z ∧ y = z) ∨ (E = xIS ∧ ∃ q t u : Nat, q < 2 ∧ t < 16 ∧ u < 16 ∧ x = nI q ∧ y = nI t ∧ z = nI u ∧ ¬ t = u ∧ (¬ h.1 (11 + 8 * q + 7) 1 = 0 ∨ ¬ h.1 (11 + 8 * q) 9 = 0 ∨ h.1 (11 + 8 * q + 4) t < nI 1 ∨ ¬ h.1 (11 + 8 * q + 4) u < h.1 (11 + 8 * q + 3) u)))) 5 30 := by
  refine q_xmet (cc := cX4_request) (maxL := 5) (ret := (some .int)) (by decide) rfl (Nat.le_of_ble_eq_true rfl) ?_
  intro p e s m args below meth c Q ls X hnh hlocks hrt hQ w hl
  have hx := X.1
  have hb := X.2.1
  have hown := X.2.2.2.1
  have hts := X.2.2.2.2
  have hl : lv_has ls 5 [(0, .ref (k.2.1 0)), (1, .int x), (2, .int y), (3, .int z)] := hl
  have hi0 : ∀ w ∈ u_ws RX0 TX0 10, w ∈ wsX4_request := by decide +kernel
  have hi3 : ∀ w ∈ u_ws RX3 TX3 14, w ∈ wsX4_request := by decide +kernel
  have hin_IA : ∀ w ∈ (vx_atS RX4 151 xIA xN).filter goodWord, w ∈ wsX4_request := by decide +kernel
  have hin_IS : ∀ w ∈ (vx_atS RX4 68 xIS xN).filter goodWord, w ∈ wsX4_request := by decide +kernel
  refine lv_aload_n hx hb dX4_request_0 rfl (lv_at hl 0 rfl) ?_
  refine lv_iload_n hx hb dX4_request_1 rfl (lv_at hl 1 rfl) ?_
  refine q_xcallr w (q_xrunV X w 0 (c_X4_pairAt l k h hst x) (cwV 1 hts gX4_request_X4_pairAt rfl rfl rfl (by decide +kernel) ⟨Nat.le_of_ble_eq_true rfl, Nat.le_of_ble_eq_true rfl⟩) (by decide) rfl rfl rfl hl.1 rfl (Nat.le_of_ble_eq_true rfl) dX4_request_2 ⟨Nat.le_of_ble_eq_true rfl, Nat.le_of_ble_eq_true rfl⟩) (fun E ce q9 h9 H locs hp w h1 h2 h3 => q_out w hQ hnh hlocks ⟨hp.2.2, Or.inl ⟨hp.1, fun z => hp.2.1 z.1⟩⟩ h1 h2 h3 (Nat.le_of_ble_eq_true rfl) (Nat.le_of_ble_eq_true rfl)) (fun i_2 h_2 H locs hp w => ?_)
  obtain ⟨q, hq, ex_2, ei_2, eh_2⟩ := hp
  dsimp only at ei_2 eh_2
  subst ex_2
  subst ei_2
  rw [eh_2] at w
  have hP : pp (11 + 8 * q) := pp_i (by omega)
  have hP2 : pp (11 + 8 * (1 - q)) := pp_i (by omega)
  refine lv_astore (lv' := [(4, .ref (k.2.1 (11 + 8 * q))), (0, .ref (k.2.1 0)), (1, .int (nI q)), (2, .int y), (3, .int z)]) hx hb dX4_request_5 hl (by decide) rfl (fun ls hl => ?_)
  refine lv_iload_n hx hb dX4_request_7 rfl (lv_at hl 3 rfl) ?_
  refine q_xcallv w (q_xrunS X w (c_X4_checkTone l k h hst y) (va_cwS 1 hts gX4_request_X4_checkTone rfl rfl rfl (by decide +kernel) ⟨Nat.le_of_ble_eq_true rfl, Nat.le_of_ble_eq_true rfl⟩) rfl hl.1 rfl (Nat.le_of_ble_eq_true rfl) dX4_request_8 ⟨Nat.le_of_ble_eq_true rfl, Nat.le_of_ble_eq_true rfl⟩) (fun E ce q9 h9 H locs hp w h1 h2 h3 => q_out w hQ hnh hlocks ⟨hp.2.2, Or.inl ⟨hp.1, fun z => hp.2.1 z.2.1⟩⟩ h1 h2 h3 (Nat.le_of_ble_eq_true rfl) (Nat.le_of_ble_eq_true rfl)) (fun h_8 H locs hp w => ?_)
  obtain ⟨⟨t, ht, ex_8⟩, eh_8⟩ := hp
  subst ex_8
  rw [eh_8] at w
  refine lv_iload_n hx hb dX4_request_11 rfl (lv_at hl 4 rfl) ?_
  refine q_xcallv w (q_xrunS X w (c_X4_checkTone l k h hst z) (va_cwS 1 hts gX4_request_X4_checkTone rfl rfl rfl (by decide +kernel) ⟨Nat.le_of_ble_eq_true rfl, Nat.le_of_ble_eq_true rfl⟩) rfl hl.1 rfl (Nat.le_of_ble_eq_true rfl) dX4_request_12 ⟨Nat.le_of_ble_eq_true rfl, Nat.le_of_ble_eq_true rfl⟩) (fun E ce q9 h9 H locs hp w h1 h2 h3 => q_out w hQ hnh hlocks ⟨hp.2.2, Or.inl ⟨hp.1, fun z => hp.2.1 z.2.2⟩⟩ h1 h2 h3 (Nat.le_of_ble_eq_true rfl) (Nat.le_of_ble_eq_true rfl)) (fun h_12 H locs hp w => ?_)
  obtain ⟨⟨u, hu, ex_12⟩, eh_12⟩ := hp
  subst ex_12
  rw [eh_12] at w
  refine lv_iload_n hx hb dX4_request_15 rfl (lv_at hl 3 rfl) ?_
  refine lv_iload_n hx hb dX4_request_16 rfl (lv_at hl 4 rfl) ?_
  refine q_icne X (tgt := 30) (by omega) (by omega) dX4_request_17 (by decide) (fun c_17 => ?_) (fun c_17 => ?_)
  · refine lv_aload hx hb dX4_request_30 (lv_at hl 0 rfl) ?_
    refine q_get X w (11 + 8 * q) 6 (ci := 0) (pp_lt0 hP) (hE_p0 hP k _) rfl hi0 (by decide) (by decide +kernel) rfl dX4_request_32 ?_
    refine q_get X w ((11 + 8 * q) + 7) 1 (ci := 3) (pp_lt hP (c := 7) (by decide)) (hE_p7 hP k _) rfl hi3 (by decide) (by decide +kernel) rfl dX4_request_35 ?_
    refine lv_if_ne (tgt := 49) hx hb dX4_request_38 (by decide) (fun c_38 => ?_) (fun c_38 => ?_)
    · exact q_throw X w hst hQ hnh hlocks xF_IS (by decide +kernel) (by decide +kernel) (List.mem_of_getElem? (i := 6) rfl) hin_IS hl.1 dX4_request_49 dX4_request_52 dX4_request_53 dX4_request_55 dX4_request_58 (Nat.le_of_ble_eq_true rfl) (Nat.le_of_ble_eq_true rfl) (Nat.le_of_ble_eq_true rfl) (Nat.le_of_ble_eq_true rfl) ⟨rfl, Or.inr (Or.inr ⟨rfl, q, t, u, hq, ht, hu, rfl, rfl, rfl, c_17, (by first | exact Or.inl c_38 | exact Or.inr (Or.inl c_46))⟩)⟩ (Nat.le_of_ble_eq_true rfl) (Nat.le_of_ble_eq_true rfl)
    · refine lv_aload hx hb dX4_request_41 (lv_at hl 0 rfl) ?_
      refine q_get X w (11 + 8 * q) 9 (ci := 0) (pp_lt0 hP) (hE_p0 hP k _) rfl hi0 (by decide) (by decide +kernel) rfl dX4_request_43 ?_
      refine lv_if_eq (tgt := 59) hx hb dX4_request_46 (by decide) (fun c_46 => ?_) (fun c_46 => ?_)
      · refine lv_aload hx hb dX4_request_59 (lv_at hl 0 rfl) ?_
        refine q_get X w (11 + 8 * q) 3 (ci := 0) (pp_lt0 hP) (hE_p0 hP k _) rfl hi0 (by decide) (by decide +kernel) rfl dX4_request_61 ?_
        refine lv_iload_n hx hb dX4_request_64 rfl (lv_at hl 3 rfl) ?_
        refine q_iald X w ((11 + 8 * q) + 4) t (pp_lt hP (c := 4) (by decide)) (hE_pi hP 4 (by decide) (by decide) k) rfl (by omega) (by decide) dX4_request_65 ?_
        refine lv_iconst (v := nI 1) hx hb dX4_request_66 (by decide) ?_
        refine lv_icmp_lt (tgt := 87) hx hb dX4_request_67 (by decide) (fun c_67 => ?_) (fun c_67 => ?_)
        · exact q_throw X w hst hQ hnh hlocks xF_IS (by decide +kernel) (by decide +kernel) (List.mem_of_getElem? (i := 7) rfl) hin_IS hl.1 dX4_request_87 dX4_request_90 dX4_request_91 dX4_request_93 dX4_request_96 (Nat.le_of_ble_eq_true rfl) (Nat.le_of_ble_eq_true rfl) (Nat.le_of_ble_eq_true rfl) (Nat.le_of_ble_eq_true rfl) ⟨rfl, Or.inr (Or.inr ⟨rfl, q, t, u, hq, ht, hu, rfl, rfl, rfl, c_17, (by first | exact Or.inr (Or.inr (Or.inl c_67)) | exact Or.inr (Or.inr (Or.inr c_84)))⟩)⟩ (Nat.le_of_ble_eq_true rfl) (Nat.le_of_ble_eq_true rfl)
        · refine lv_aload hx hb dX4_request_70 (lv_at hl 0 rfl) ?_
          refine q_get X w (11 + 8 * q) 3 (ci := 0) (pp_lt0 hP) (hE_p0 hP k _) rfl hi0 (by decide) (by decide +kernel) rfl dX4_request_72 ?_
          refine lv_iload_n hx hb dX4_request_75 rfl (lv_at hl 4 rfl) ?_
          refine q_iald X w ((11 + 8 * q) + 4) u (pp_lt hP (c := 4) (by decide)) (hE_pi hP 4 (by decide) (by decide) k) rfl (by omega) (by decide) dX4_request_76 ?_
          refine lv_aload hx hb dX4_request_77 (lv_at hl 0 rfl) ?_
          refine q_get X w (11 + 8 * q) 2 (ci := 0) (pp_lt0 hP) (hE_p0 hP k _) rfl hi0 (by decide) (by decide +kernel) rfl dX4_request_79 ?_
          refine lv_iload_n hx hb dX4_request_82 rfl (lv_at hl 4 rfl) ?_
          refine q_iald X w ((11 + 8 * q) + 3) u (pp_lt hP (c := 3) (by decide)) (hE_pi hP 3 (by decide) (by decide) k) rfl (by omega) (by decide) dX4_request_83 ?_
          refine lv_icmp_lt (tgt := 97) hx hb dX4_request_84 (by decide) (fun c_84 => ?_) (fun c_84 => ?_)
          · refine lv_aload_n hx hb dX4_request_97 rfl (lv_at hl 1 rfl) ?_
            refine q_callv w (q_runV X w 0 (c_X4_saveState l k h hs) (cwV 0 hts gX4_request_X4_saveState rfl rfl rfl (by decide +kernel) ⟨Nat.le_of_ble_eq_true rfl, Nat.le_of_ble_eq_true rfl⟩) (by decide) rfl rfl rfl hl.1 rfl (Nat.le_of_ble_eq_true rfl) dX4_request_98 ⟨Nat.le_of_ble_eq_true rfl, Nat.le_of_ble_eq_true rfl⟩) (fun h_98 H locs hp w => ?_)
            have eh_98 := hp
            refine lv_aload hx hb dX4_request_101 (lv_at hl 0 rfl) ?_
            refine q_get X w (11 + 8 * q) 6 (ci := 0) (pp_lt0 hP) (hE_p0 hP k _) rfl hi0 (by decide) (by decide +kernel) rfl dX4_request_103 ?_
            refine lv_iload_n hx hb dX4_request_106 rfl (lv_at hl 3 rfl) ?_
            refine lv_iload_n hx hb dX4_request_107 rfl (lv_at hl 4 rfl) ?_
            refine q_calli w (q_runV X w ((11 + 8 * q) + 7) (c_X3_openRequest l k h_98 hP (nI t) (nI u)) (cwV 2 hts gX4_request_X3_openRequest rfl rfl rfl (by decide +kernel) ⟨Nat.le_of_ble_eq_true rfl, Nat.le_of_ble_eq_true rfl⟩) (pp_lt hP (c := 7) (by decide)) (hE_p7 hP k _) rfl rfl hl.1 rfl (Nat.le_of_ble_eq_true rfl) dX4_request_108 ⟨Nat.le_of_ble_eq_true rfl, Nat.le_of_ble_eq_true rfl⟩) (fun r_108 h_108 H locs hp w => ?_)
            obtain ⟨er_108, eh_108⟩ := hp
            exact q_xretI X w hlocks hrt hQ dX4_request_111 rfl ⟨q, t, u, hq, ht, hu, rfl, rfl, rfl, c_17, (fun z => z.elim (fun z => z c_38) (fun z => z.elim (fun z => z c_46) (fun z => z.elim c_67 (fun z => z c_84)))), by rw [er_108, eh_98], by rw [eh_108, eh_98]⟩ (Nat.le_of_ble_eq_true rfl) (Nat.le_of_ble_eq_true rfl)
          · exact q_throw X w hst hQ hnh hlocks xF_IS (by decide +kernel) (by decide +kernel) (List.mem_of_getElem? (i := 7) rfl) hin_IS hl.1 dX4_request_87 dX4_request_90 dX4_request_91 dX4_request_93 dX4_request_96 (Nat.le_of_ble_eq_true rfl) (Nat.le_of_ble_eq_true rfl) (Nat.le_of_ble_eq_true rfl) (Nat.le_of_ble_eq_true rfl) ⟨rfl, Or.inr (Or.inr ⟨rfl, q, t, u, hq, ht, hu, rfl, rfl, rfl, c_17, (by first | exact Or.inr (Or.inr (Or.inl c_67)) | exact Or.inr (Or.inr (Or.inr c_84)))⟩)⟩ (Nat.le_of_ble_eq_true rfl) (Nat.le_of_ble_eq_true rfl)
      · exact q_throw X w hst hQ hnh hlocks xF_IS (by decide +kernel) (by decide +kernel) (List.mem_of_getElem? (i := 6) rfl) hin_IS hl.1 dX4_request_49 dX4_request_52 dX4_request_53 dX4_request_55 dX4_request_58 (Nat.le_of_ble_eq_true rfl) (Nat.le_of_ble_eq_true rfl) (Nat.le_of_ble_eq_true rfl) (Nat.le_of_ble_eq_true rfl) ⟨rfl, Or.inr (Or.inr ⟨rfl, q, t, u, hq, ht, hu, rfl, rfl, rfl, c_17, (by first | exact Or.inl c_38 | exact Or.inr (Or.inl c_46))⟩)⟩ (Nat.le_of_ble_eq_true rfl) (Nat.le_of_ble_eq_true rfl)
  · exact q_throw X w hst hQ hnh hlocks xF_IA (by decide +kernel) (by decide +kernel) (List.mem_of_getElem? (i := 5) rfl) hin_IA hl.1 dX4_request_20 dX4_request_23 dX4_request_24 dX4_request_26 dX4_request_29 (Nat.le_of_ble_eq_true rfl) (Nat.le_of_ble_eq_true rfl) (Nat.le_of_ble_eq_true rfl) (Nat.le_of_ble_eq_true rfl) ⟨rfl, Or.inr (Or.inl ⟨rfl, ⟨q, hq, rfl⟩, ⟨t, ht, rfl⟩, ⟨u, hu, rfl⟩, by rw [c_17]⟩)⟩ (Nat.le_of_ble_eq_true rfl) (Nat.le_of_ble_eq_true rfl)

abbrev rc_X4_resend : Room := { frames := 7, cells := 5, slots := 30, locals := 111 }
set_option maxHeartbeats 4000000 in
set_option maxRecDepth 100000 in
theorem c_X4_resend (l : Launch) (k : kY) (h : hS) (hst : l.stackTraces = false) (x : Int32) {a b : Nat} (hs : SI h a b) : CX l k yX4_resend wsX4_resend rc_X4_resend [.ref (k.2.1 0), .int x] h (QI k (fun r h' => ∃ q : Nat, q < 2 ∧ x = nI q ∧ ¬ h.1 (11 + 8 * q + 7) 1 = 0 ∧ r = (upI (svz h a b) (11 + 8 * q + 7) 6 (nI 1)).1 (11 + 8 * q + 7) 2 ∧ h' = upI (svz h a b) (11 + 8 * q + 7) 6 (nI 1))) (fun E h' => h' = h ∧ ((E = xIO ∧ ¬ isP x) ∨ (E = xIS ∧ ∃ q : Nat, q < 2 ∧ x = nI q ∧ h.1 (11 + 8 * q + 7) 1 = 0))) 5 30 := by
  refine q_xmet (cc := cX4_resend) (maxL := 3) (ret := (some .int)) (by decide) rfl (Nat.le_of_ble_eq_true rfl) ?_
  intro p e s m args below meth c Q ls X hnh hlocks hrt hQ w hl
  have hx := X.1
  have hb := X.2.1
  have hown := X.2.2.2.1
  have hts := X.2.2.2.2
  have hl : lv_has ls 3 [(0, .ref (k.2.1 0)), (1, .int x)] := hl
  have hi0 : ∀ w ∈ u_ws RX0 TX0 10, w ∈ wsX4_resend := by decide +kernel
  have hi3 : ∀ w ∈ u_ws RX3 TX3 14, w ∈ wsX4_resend := by decide +kernel
  have hin_IS : ∀ w ∈ (vx_atS RX4 68 xIS xN).filter goodWord, w ∈ wsX4_resend := by decide +kernel
  refine lv_aload_n hx hb dX4_resend_0 rfl (lv_at hl 0 rfl) ?_
  refine lv_iload_n hx hb dX4_resend_1 rfl (lv_at hl 1 rfl) ?_
  refine q_xcallr w (q_xrunV X w 0 (c_X4_pairAt l k h hst x) (cwV 1 hts gX4_resend_X4_pairAt rfl rfl rfl (by decide +kernel) ⟨Nat.le_of_ble_eq_true rfl, Nat.le_of_ble_eq_true rfl⟩) (by decide) rfl rfl rfl hl.1 rfl (Nat.le_of_ble_eq_true rfl) dX4_resend_2 ⟨Nat.le_of_ble_eq_true rfl, Nat.le_of_ble_eq_true rfl⟩) (fun E ce q9 h9 H locs hp w h1 h2 h3 => q_out w hQ hnh hlocks ⟨hp.2.2, Or.inl ⟨hp.1, hp.2.1⟩⟩ h1 h2 h3 (Nat.le_of_ble_eq_true rfl) (Nat.le_of_ble_eq_true rfl)) (fun i_2 h_2 H locs hp w => ?_)
  obtain ⟨q, hq, ex_2, ei_2, eh_2⟩ := hp
  dsimp only at ei_2 eh_2
  subst ex_2
  subst ei_2
  rw [eh_2] at w
  have hP : pp (11 + 8 * q) := pp_i (by omega)
  have hP2 : pp (11 + 8 * (1 - q)) := pp_i (by omega)
  refine q_get X w (11 + 8 * q) 6 (ci := 0) (pp_lt0 hP) (hE_p0 hP k _) rfl hi0 (by decide) (by decide +kernel) rfl dX4_resend_5 ?_
  refine lv_astore_n (lv' := [(2, .ref (k.2.1 ((11 + 8 * q) + 7))), (0, .ref (k.2.1 0)), (1, .int (nI q))]) hx hb dX4_resend_8 rfl hl (by decide) rfl (fun ls hl => ?_)
  refine lv_aload_n hx hb dX4_resend_9 rfl (lv_at hl 0 rfl) ?_
  refine q_get X w ((11 + 8 * q) + 7) 1 (ci := 3) (pp_lt hP (c := 7) (by decide)) (hE_p7 hP k _) rfl hi3 (by decide) (by decide +kernel) rfl dX4_resend_10 ?_
  refine lv_if_ne (tgt := 26) hx hb dX4_resend_13 (by decide) (fun c_13 => ?_) (fun c_13 => ?_)
  · refine lv_aload_n hx hb dX4_resend_26 rfl (lv_at hl 1 rfl) ?_
    refine q_callv w (q_runV X w 0 (c_X4_saveState l k h hs) (cwV 0 hts gX4_resend_X4_saveState rfl rfl rfl (by decide +kernel) ⟨Nat.le_of_ble_eq_true rfl, Nat.le_of_ble_eq_true rfl⟩) (by decide) rfl rfl rfl hl.1 rfl (Nat.le_of_ble_eq_true rfl) dX4_resend_27 ⟨Nat.le_of_ble_eq_true rfl, Nat.le_of_ble_eq_true rfl⟩) (fun h_27 H locs hp w => ?_)
    have eh_27 := hp
    refine lv_aload_n hx hb dX4_resend_30 rfl (lv_at hl 0 rfl) ?_
    refine lv_iconst (v := nI 1) hx hb dX4_resend_31 (by decide) ?_
    refine q_put X w ((11 + 8 * q) + 7) 6 .boolean (ci := 3) (pp_lt hP (c := 7) (by decide)) (hE_p7 hP k _) (by rw [hE_p7 hP k, upI_s]; rfl) rfl hi3 tyX3_ok nmX3 (by decide) (by decide +kernel) rfl (by decide +kernel) (by decide) (by decide) (Nat.le_of_ble_eq_true rfl) dX4_resend_32 (fun H locs w => ?_)
    obtain ⟨h_32, eh_32⟩ : ∃ z9, z9 = upI h_27 ((11 + 8 * q) + 7) 6 (nI 1) := ⟨_, rfl⟩
    rw [← eh_32] at w
    refine lv_aload_n hx hb dX4_resend_35 rfl (lv_at hl 0 rfl) ?_
    refine q_get X w ((11 + 8 * q) + 7) 2 (ci := 3) (pp_lt hP (c := 7) (by decide)) (hE_p7 hP k _) rfl hi3 (by decide) (by decide +kernel) rfl dX4_resend_36 ?_
    exact q_xretI X w hlocks hrt hQ dX4_resend_39 rfl ⟨q, hq, rfl, c_13, by rw [eh_32, eh_27], by rw [eh_32, eh_27]⟩ (Nat.le_of_ble_eq_true rfl) (Nat.le_of_ble_eq_true rfl)
  · exact q_throw X w hst hQ hnh hlocks xF_IS (by decide +kernel) (by decide +kernel) (List.mem_of_getElem? (i := 8) rfl) hin_IS hl.1 dX4_resend_16 dX4_resend_19 dX4_resend_20 dX4_resend_22 dX4_resend_25 (Nat.le_of_ble_eq_true rfl) (Nat.le_of_ble_eq_true rfl) (Nat.le_of_ble_eq_true rfl) (Nat.le_of_ble_eq_true rfl) ⟨rfl, Or.inr ⟨rfl, q, hq, rfl, c_13⟩⟩ (Nat.le_of_ble_eq_true rfl) (Nat.le_of_ble_eq_true rfl)

abbrev rc_X4_deliver : Room := { frames := 7, cells := 5, slots := 30, locals := 112 }
set_option maxHeartbeats 4000000 in
set_option maxRecDepth 100000 in
theorem c_X4_deliver (l : Launch) (k : kY) (h : hS) (hst : l.stackTraces = false) (x y z : Int32) {a b : Nat} (hs : SI h a b) : CX l k yX4_deliver wsX4_deliver rc_X4_deliver [.ref (k.2.1 0), .int x, .int y, .int z] h (QI k (fun r h' => ∃ q : Nat, q < 2 ∧ x = nI q ∧ okR y (nI 0) (nI 1) ∧ ¬ (if y = 0 then h.1 (11 + 8 * q + 7) 6 else h.1 (11 + 8 * q + 7) 7) = 0 ∧ r = (dlz (svz h a b) (11 + 8 * q + 7) y z).1 ∧ h' = (dlz (svz h a b) (11 + 8 * q + 7) y z).2)) (fun E h' => h' = h ∧ ((E = xIO ∧ ¬ isP x) ∨ (E = xIA ∧ isP x ∧ ¬ okR y (nI 0) (nI 1)) ∨ (E = xIS ∧ ∃ q : Nat, q < 2 ∧ x = nI q ∧ okR y (nI 0) (nI 1) ∧ (if y = 0 then h.1 (11 + 8 * q + 7) 6 else h.1 (11 + 8 * q + 7) 7) = 0))) 5 30 := by
  refine q_xmet (cc := cX4_deliver) (maxL := 6) (ret := (some .int)) (by decide) rfl (Nat.le_of_ble_eq_true rfl) ?_
  intro p e s m args below meth c Q ls X hnh hlocks hrt hQ w hl
  have hx := X.1
  have hb := X.2.1
  have hown := X.2.2.2.1
  have hts := X.2.2.2.2
  have hl : lv_has ls 6 [(0, .ref (k.2.1 0)), (1, .int x), (2, .int y), (3, .int z)] := hl
  have hi0 : ∀ w ∈ u_ws RX0 TX0 10, w ∈ wsX4_deliver := by decide +kernel
  have hi2 : ∀ w ∈ u_ws RX2 TX2 3, w ∈ wsX4_deliver := by decide +kernel
  have hi3 : ∀ w ∈ u_ws RX3 TX3 14, w ∈ wsX4_deliver := by decide +kernel
  have hi4 : ∀ w ∈ u_ws RX4 TX4 5, w ∈ wsX4_deliver := by decide +kernel
  have hin_IS : ∀ w ∈ (vx_atS RX4 68 xIS xN).filter goodWord, w ∈ wsX4_deliver := by decide +kernel
  refine lv_aload_n hx hb dX4_deliver_0 rfl (lv_at hl 0 rfl) ?_
  refine lv_iload_n hx hb dX4_deliver_1 rfl (lv_at hl 1 rfl) ?_
  refine q_xcallr w (q_xrunV X w 0 (c_X4_pairAt l k h hst x) (cwV 1 hts gX4_deliver_X4_pairAt rfl rfl rfl (by decide +kernel) ⟨Nat.le_of_ble_eq_true rfl, Nat.le_of_ble_eq_true rfl⟩) (by decide) rfl rfl rfl hl.1 rfl (Nat.le_of_ble_eq_true rfl) dX4_deliver_2 ⟨Nat.le_of_ble_eq_true rfl, Nat.le_of_ble_eq_true rfl⟩) (fun E ce q9 h9 H locs hp w h1 h2 h3 => q_out w hQ hnh hlocks ⟨hp.2.2, Or.inl ⟨hp.1, hp.2.1⟩⟩ h1 h2 h3 (Nat.le_of_ble_eq_true rfl) (Nat.le_of_ble_eq_true rfl)) (fun i_2 h_2 H locs hp w => ?_)
  obtain ⟨q, hq, ex_2, ei_2, eh_2⟩ := hp
  dsimp only at ei_2 eh_2
  subst ex_2
  subst ei_2
  rw [eh_2] at w
  have hP : pp (11 + 8 * q) := pp_i (by omega)
  have hP2 : pp (11 + 8 * (1 - q)) := pp_i (by omega)
  refine q_get X w (11 + 8 * q) 6 (ci := 0) (pp_lt0 hP) (hE_p0 hP k _) rfl hi0 (by decide) (by decide +kernel) rfl dX4_deliver_5 ?_
  refine lv_astore (lv' := [(4, .ref (k.2.1 ((11 + 8 * q) + 7))), (0, .ref (k.2.1 0)), (1, .int (nI q)), (2, .int y), (3, .int z)]) hx hb dX4_deliver_8 hl (by decide) rfl (fun ls hl => ?_)
  refine lv_iload_n hx hb dX4_deliver_10 rfl (lv_at hl 3 rfl) ?_
  refine lv_iconst (v := nI 0) hx hb dX4_deliver_11 (by decide) ?_
  refine lv_iconst (v := nI 1) hx hb dX4_deliver_12 (by decide) ?_
  refine q_xcallv w (q_xrunS X w (c_X4_checkRange l k h hst y (nI 0) (nI 1)) (va_cwS 3 hts gX4_deliver_X4_checkRange rfl rfl rfl (by decide +kernel) ⟨Nat.le_of_ble_eq_true rfl, Nat.le_of_ble_eq_true rfl⟩) rfl hl.1 rfl (Nat.le_of_ble_eq_true rfl) dX4_deliver_13 ⟨Nat.le_of_ble_eq_true rfl, Nat.le_of_ble_eq_true rfl⟩) (fun E ce q9 h9 H locs hp w h1 h2 h3 => q_out w hQ hnh hlocks ⟨hp.2.2, Or.inr (Or.inl ⟨hp.1, ⟨q, hq, rfl⟩, hp.2.1⟩)⟩ h1 h2 h3 (Nat.le_of_ble_eq_true rfl) (Nat.le_of_ble_eq_true rfl)) (fun h_13 H locs hp w => ?_)
  obtain ⟨hrg_13, eh_13⟩ := hp
  rw [eh_13] at w
  refine lv_iload_n hx hb dX4_deliver_16 rfl (lv_at hl 3 rfl) ?_
  refine lv_if_ne (tgt := 28) hx hb dX4_deliver_17 (by decide) (fun c_17 => ?_) (fun c_17 => ?_)
  · refine lv_aload hx hb dX4_deliver_28 (lv_at hl 0 rfl) ?_
    refine q_get X w ((11 + 8 * q) + 7) 7 (ci := 3) (pp_lt hP (c := 7) (by decide)) (hE_p7 hP k _) rfl hi3 (by decide) (by decide +kernel) rfl dX4_deliver_30 ?_
    refine lv_istore (lv' := [(5, .int (h.1 ((11 + 8 * q) + 7) 7)), (4, .ref (k.2.1 ((11 + 8 * q) + 7))), (0, .ref (k.2.1 0)), (1, .int (nI q)), (2, .int y), (3, .int z)]) hx hb dX4_deliver_33 hl (by decide) rfl (fun ls hl => ?_)
    refine lv_iload hx hb dX4_deliver_35 (lv_at hl 0 rfl) ?_
    refine lv_if_ne (tgt := 50) hx hb dX4_deliver_37 (by decide) (fun c_37 => ?_) (fun c_37 => ?_)
    · refine lv_aload_n hx hb dX4_deliver_50 rfl (lv_at hl 2 rfl) ?_
      refine q_callv w (q_runV X w 0 (c_X4_saveState l k h hs) (cwV 0 hts gX4_deliver_X4_saveState rfl rfl rfl (by decide +kernel) ⟨Nat.le_of_ble_eq_true rfl, Nat.le_of_ble_eq_true rfl⟩) (by decide) rfl rfl rfl hl.1 rfl (Nat.le_of_ble_eq_true rfl) dX4_deliver_51 ⟨Nat.le_of_ble_eq_true rfl, Nat.le_of_ble_eq_true rfl⟩) (fun h_51 H locs hp w => ?_)
      have eh_51 := hp
      refine lv_iload_n hx hb dX4_deliver_54 rfl (lv_at hl 4 rfl) ?_
      refine lv_if_ne (tgt := 85) hx hb dX4_deliver_55 (by decide) (fun c_55 => ?_) (fun c_55 => ?_)
      · refine lv_aload hx hb dX4_deliver_85 (lv_at hl 1 rfl) ?_
        refine lv_iconst (v := nI 0) hx hb dX4_deliver_87 (by decide) ?_
        refine q_put X w ((11 + 8 * q) + 7) 7 .boolean (ci := 3) (pp_lt hP (c := 7) (by decide)) (hE_p7 hP k _) (by rw [hE_p7 hP k, upI_s]; rfl) rfl hi3 tyX3_ok nmX3 (by decide) (by decide +kernel) rfl (by decide +kernel) (by decide) (by decide) (Nat.le_of_ble_eq_true rfl) dX4_deliver_88 (fun H locs w => ?_)
        obtain ⟨h_88, eh_88⟩ : ∃ z9, z9 = upI h_51 ((11 + 8 * q) + 7) 7 (nI 0) := ⟨_, rfl⟩
        rw [← eh_88] at w
        refine lv_iload_n hx hb dX4_deliver_91 rfl (lv_at hl 5 rfl) ?_
        refine lv_if_eq (tgt := 99) hx hb dX4_deliver_92 (by decide) (fun c_92 => ?_) (fun c_92 => ?_)
        · refine lv_aload hx hb dX4_deliver_99 (lv_at hl 1 rfl) ?_
          refine q_calli w (q_runV X w ((11 + 8 * q) + 7) (c_X3_noteAnswer l k h_88 hP) (cwV 0 hts gX4_deliver_X3_noteAnswer rfl rfl rfl (by decide +kernel) ⟨Nat.le_of_ble_eq_true rfl, Nat.le_of_ble_eq_true rfl⟩) (pp_lt hP (c := 7) (by decide)) (hE_p7 hP k _) rfl rfl hl.1 rfl (Nat.le_of_ble_eq_true rfl) dX4_deliver_101 ⟨Nat.le_of_ble_eq_true rfl, Nat.le_of_ble_eq_true rfl⟩) (fun r_101 h_101 H locs hp w => ?_)
          obtain ⟨er_101, eh_101⟩ := hp
          exact q_xretI X w hlocks hrt hQ dX4_deliver_104 rfl ⟨q, hq, rfl, hrg_13, by rw [if_neg c_17]; exact c_37, by rw [dlz, if_neg c_17, if_pos c_92, er_101, eh_88, eh_51], by rw [dlz, if_neg c_17, if_pos c_92, eh_101, eh_88, eh_51]⟩ (Nat.le_of_ble_eq_true rfl) (Nat.le_of_ble_eq_true rfl)
        · refine lv_iconst (v := (-1)) hx hb dX4_deliver_95 (by decide) ?_
          refine lv_goto (tgt := 104) hx hb dX4_deliver_96 (by decide) ?_
          exact q_xretI X w hlocks hrt hQ dX4_deliver_104 rfl ⟨q, hq, rfl, hrg_13, by rw [if_neg c_17]; exact c_37, by rw [dlz, if_neg c_17, if_neg c_92], by rw [dlz, if_neg c_17, if_neg c_92, eh_88, eh_51]⟩ (Nat.le_of_ble_eq_true rfl) (Nat.le_of_ble_eq_true rfl)
      · exact absurd c_55 c_17
    · exact q_throw X w hst hQ hnh hlocks xF_IS (by decide +kernel) (by decide +kernel) (List.mem_of_getElem? (i := 9) rfl) hin_IS hl.1 dX4_deliver_40 dX4_deliver_43 dX4_deliver_44 dX4_deliver_46 dX4_deliver_49 (Nat.le_of_ble_eq_true rfl) (Nat.le_of_ble_eq_true rfl) (Nat.le_of_ble_eq_true rfl) (Nat.le_of_ble_eq_true rfl) ⟨rfl, Or.inr (Or.inr ⟨rfl, q, hq, rfl, hrg_13, by rw [if_neg c_17]; exact c_37⟩)⟩ (Nat.le_of_ble_eq_true rfl) (Nat.le_of_ble_eq_true rfl)
  · refine lv_aload hx hb dX4_deliver_20 (lv_at hl 0 rfl) ?_
    refine q_get X w ((11 + 8 * q) + 7) 6 (ci := 3) (pp_lt hP (c := 7) (by decide)) (hE_p7 hP k _) rfl hi3 (by decide) (by decide +kernel) rfl dX4_deliver_22 ?_
    refine lv_goto (tgt := 33) hx hb dX4_deliver_25 (by decide) ?_
    refine lv_istore (lv' := [(5, .int (h.1 ((11 + 8 * q) + 7) 6)), (4, .ref (k.2.1 ((11 + 8 * q) + 7))), (0, .ref (k.2.1 0)), (1, .int (nI q)), (2, .int y), (3, .int z)]) hx hb dX4_deliver_33 hl (by decide) rfl (fun ls hl => ?_)
    refine lv_iload hx hb dX4_deliver_35 (lv_at hl 0 rfl) ?_
    refine lv_if_ne (tgt := 50) hx hb dX4_deliver_37 (by decide) (fun c_37 => ?_) (fun c_37 => ?_)
    · refine lv_aload_n hx hb dX4_deliver_50 rfl (lv_at hl 2 rfl) ?_
      refine q_callv w (q_runV X w 0 (c_X4_saveState l k h hs) (cwV 0 hts gX4_deliver_X4_saveState rfl rfl rfl (by decide +kernel) ⟨Nat.le_of_ble_eq_true rfl, Nat.le_of_ble_eq_true rfl⟩) (by decide) rfl rfl rfl hl.1 rfl (Nat.le_of_ble_eq_true rfl) dX4_deliver_51 ⟨Nat.le_of_ble_eq_true rfl, Nat.le_of_ble_eq_true rfl⟩) (fun h_51 H locs hp w => ?_)
      have eh_51 := hp
      refine lv_iload_n hx hb dX4_deliver_54 rfl (lv_at hl 4 rfl) ?_
      refine lv_if_ne (tgt := 85) hx hb dX4_deliver_55 (by decide) (fun c_55 => ?_) (fun c_55 => ?_)
      · exact absurd c_17 c_55
      · refine lv_aload hx hb dX4_deliver_58 (lv_at hl 1 rfl) ?_
        refine lv_iconst (v := nI 0) hx hb dX4_deliver_60 (by decide) ?_
        refine q_put X w ((11 + 8 * q) + 7) 6 .boolean (ci := 3) (pp_lt hP (c := 7) (by decide)) (hE_p7 hP k _) (by rw [hE_p7 hP k, upI_s]; rfl) rfl hi3 tyX3_ok nmX3 (by decide) (by decide +kernel) rfl (by decide +kernel) (by decide) (by decide) (Nat.le_of_ble_eq_true rfl) dX4_deliver_61 (fun H locs w => ?_)
        obtain ⟨h_61, eh_61⟩ : ∃ z9, z9 = upI h_51 ((11 + 8 * q) + 7) 6 (nI 0) := ⟨_, rfl⟩
        rw [← eh_61] at w
        refine lv_iload_n hx hb dX4_deliver_64 rfl (lv_at hl 5 rfl) ?_
        refine lv_if_eq (tgt := 72) hx hb dX4_deliver_65 (by decide) (fun c_65 => ?_) (fun c_65 => ?_)
        · refine lv_aload hx hb dX4_deliver_72 (lv_at hl 1 rfl) ?_
          refine lv_aload_n hx hb dX4_deliver_74 rfl (lv_at hl 2 rfl) ?_
          refine q_get X w 0 0 (ci := 4) (by decide) rfl rfl hi4 (by decide) (by decide +kernel) rfl dX4_deliver_75 ?_
          refine q_get X w 6 0 (ci := 2) (by decide) rfl rfl hi2 (by decide) (by decide +kernel) rfl dX4_deliver_78 ?_
          refine q_calli w (q_runV X w ((11 + 8 * q) + 7) (c_X3_answerRequest l k h_61 hP (h_61.1 6 0)) (cwV 1 hts gX4_deliver_X3_answerRequest rfl rfl rfl (by decide +kernel) ⟨Nat.le_of_ble_eq_true rfl, Nat.le_of_ble_eq_true rfl⟩) (pp_lt hP (c := 7) (by decide)) (hE_p7 hP k _) rfl rfl hl.1 rfl (Nat.le_of_ble_eq_true rfl) dX4_deliver_81 ⟨Nat.le_of_ble_eq_true rfl, Nat.le_of_ble_eq_true rfl⟩) (fun r_81 h_81 H locs hp w => ?_)
          obtain ⟨er_81, eh_81⟩ := hp
          exact q_xretI X w hlocks hrt hQ dX4_deliver_84 rfl ⟨q, hq, rfl, hrg_13, by rw [if_pos c_17]; exact c_37, by rw [dlz, if_pos c_17, if_pos c_65, er_81, eh_61, eh_51], by rw [dlz, if_pos c_17, if_pos c_65, eh_81, eh_61, eh_51]⟩ (Nat.le_of_ble_eq_true rfl) (Nat.le_of_ble_eq_true rfl)
        · refine lv_iconst (v := (-1)) hx hb dX4_deliver_68 (by decide) ?_
          refine lv_goto (tgt := 84) hx hb dX4_deliver_69 (by decide) ?_
          exact q_xretI X w hlocks hrt hQ dX4_deliver_84 rfl ⟨q, hq, rfl, hrg_13, by rw [if_pos c_17]; exact c_37, by rw [dlz, if_pos c_17, if_neg c_65], by rw [dlz, if_pos c_17, if_neg c_65, eh_61, eh_51]⟩ (Nat.le_of_ble_eq_true rfl) (Nat.le_of_ble_eq_true rfl)
    · exact q_throw X w hst hQ hnh hlocks xF_IS (by decide +kernel) (by decide +kernel) (List.mem_of_getElem? (i := 9) rfl) hin_IS hl.1 dX4_deliver_40 dX4_deliver_43 dX4_deliver_44 dX4_deliver_46 dX4_deliver_49 (Nat.le_of_ble_eq_true rfl) (Nat.le_of_ble_eq_true rfl) (Nat.le_of_ble_eq_true rfl) (Nat.le_of_ble_eq_true rfl) ⟨rfl, Or.inr (Or.inr ⟨rfl, q, hq, rfl, hrg_13, by rw [if_pos c_17]; exact c_37⟩)⟩ (Nat.le_of_ble_eq_true rfl) (Nat.le_of_ble_eq_true rfl)

abbrev rc_X4_run : Room := { frames := 7, cells := 5, slots := 30, locals := 112 }
set_option maxHeartbeats 4000000 in
set_option maxRecDepth 100000 in
theorem c_X4_run (l : Launch) (k : kY) (h : hS) (hst : l.stackTraces = false) (x : Int32) {a b : Nat} (hs : SI h a b) (ok : ∀ i : Nat, i < 1000 → fOK (rnz (svz h a b) i)) : CX l k yX4_run wsX4_run rc_X4_run [.ref (k.2.1 0), .int x] h (QI k (fun r h' => ∃ n : Nat, n ≤ 1000 ∧ x = nI n ∧ r = (rnz (svz h a b) n).1 6 0 ∧ h' = rnz (svz h a b) n)) (fun E h' => h' = h ∧ E = xIA ∧ ¬ okR x (nI 0) (nI 1000)) 5 30 := by
  refine q_xmet (cc := cX4_run) (maxL := 3) (ret := (some .int)) (by decide) rfl (Nat.le_of_ble_eq_true rfl) ?_
  intro p e s m args below meth c Q ls X hnh hlocks hrt hQ w hl
  have hx := X.1
  have hb := X.2.1
  have hown := X.2.2.2.1
  have hts := X.2.2.2.2
  have hl : lv_has ls 3 [(0, .ref (k.2.1 0)), (1, .int x)] := hl
  have hi2 : ∀ w ∈ u_ws RX2 TX2 3, w ∈ wsX4_run := by decide +kernel
  have hi4 : ∀ w ∈ u_ws RX4 TX4 5, w ∈ wsX4_run := by decide +kernel
  refine lv_iload_n hx hb dX4_run_0 rfl (lv_at hl 1 rfl) ?_
  refine lv_iconst (v := nI 0) hx hb dX4_run_1 (by decide) ?_
  refine lv_sipush (v := nI 1000) hx hb dX4_run_2 (by decide) ?_
  refine q_xcallv w (q_xrunS X w (c_X4_checkRange l k h hst x (nI 0) (nI 1000)) (va_cwS 3 hts gX4_run_X4_checkRange rfl rfl rfl (by decide +kernel) ⟨Nat.le_of_ble_eq_true rfl, Nat.le_of_ble_eq_true rfl⟩) rfl hl.1 rfl (Nat.le_of_ble_eq_true rfl) dX4_run_5 ⟨Nat.le_of_ble_eq_true rfl, Nat.le_of_ble_eq_true rfl⟩) (fun E ce q9 h9 H locs hp w h1 h2 h3 => q_out w hQ hnh hlocks ⟨hp.2.2, hp.1, hp.2.1⟩ h1 h2 h3 (Nat.le_of_ble_eq_true rfl) (Nat.le_of_ble_eq_true rfl)) (fun h_5 H locs hp w => ?_)
  obtain ⟨hrg_5, eh_5⟩ := hp
  rw [eh_5] at w
  obtain ⟨n, hn, ex_5⟩ := okR_nat (by decide) hrg_5
  subst ex_5
  refine lv_aload_n hx hb dX4_run_8 rfl (lv_at hl 0 rfl) ?_
  refine q_callv w (q_runV X w 0 (c_X4_saveState l k h hs) (cwV 0 hts gX4_run_X4_saveState rfl rfl rfl (by decide +kernel) ⟨Nat.le_of_ble_eq_true rfl, Nat.le_of_ble_eq_true rfl⟩) (by decide) rfl rfl rfl hl.1 rfl (Nat.le_of_ble_eq_true rfl) dX4_run_9 ⟨Nat.le_of_ble_eq_true rfl, Nat.le_of_ble_eq_true rfl⟩) (fun h_9 H locs hp w => ?_)
  have eh_9 := hp
  refine lv_iconst (v := nI 0) hx hb dX4_run_12 (by decide) ?_
  refine lv_istore_n (lv' := [(2, .int (nI 0)), (0, .ref (k.2.1 0)), (1, .int (nI n))]) hx hb dX4_run_13 rfl hl (by decide) rfl (fun ls hl => ?_)
  have lp : ∀ (fu : Nat) (i : Nat), (i ≤ n) → (n - i) < fu → ∀ (H : Heap) (locs : List Loc) (ls : Array Slot), WX k s H locs (rnz h_9 i) → lv_has ls 3 [(0, .ref (k.2.1 0)), (1, .int (nI n)), (2, .int (nI i))] → W p l e rc_X4_run s m args below meth c H locs 1 6 Q (F0 m 14 ls []) := by
    intro fu
    induction fu with
    | zero => intro i _ hm; exact absurd hm (Nat.not_lt_zero _)
    | succ fu ih =>
      intro i hinv hm H locs ls w hl
      have hi := hinv
      refine lv_iload_n hx hb dX4_run_14 rfl (lv_at hl 2 rfl) ?_
      refine lv_iload_n hx hb dX4_run_15 rfl (lv_at hl 1 rfl) ?_
      refine q_icge X (tgt := 32) (by omega) (by omega) dX4_run_16 (by decide) (fun c_16 => ?_) (fun c_16 => ?_)
      · refine lv_aload_n hx hb dX4_run_32 rfl (lv_at hl 0 rfl) ?_
        refine q_get X w 0 0 (ci := 4) (by decide) rfl rfl hi4 (by decide) (by decide +kernel) rfl dX4_run_33 ?_
        refine q_get X w 6 0 (ci := 2) (by decide) rfl rfl hi2 (by decide) (by decide +kernel) rfl dX4_run_36 ?_
        obtain rfl : i = n := by omega
        exact q_xretI X w hlocks hrt hQ dX4_run_39 rfl ⟨i, hn, rfl, by rw [eh_9], by rw [eh_9]⟩ (Nat.le_of_ble_eq_true rfl) (Nat.le_of_ble_eq_true rfl)
      · refine lv_aload_n hx hb dX4_run_19 rfl (lv_at hl 0 rfl) ?_
        refine q_get X w 0 0 (ci := 4) (by decide) rfl rfl hi4 (by decide) (by decide +kernel) rfl dX4_run_20 ?_
        refine q_callv w (q_runV X w 6 (c_X2_passFrame l k (rnz h_9 i) (by rw [eh_9]; exact ok i (by omega))) (cwV 0 hts gX4_run_X2_passFrame rfl rfl rfl (by decide +kernel) ⟨Nat.le_of_ble_eq_true rfl, Nat.le_of_ble_eq_true rfl⟩) (by decide) rfl rfl rfl hl.1 rfl (Nat.le_of_ble_eq_true rfl) dX4_run_23 ⟨Nat.le_of_ble_eq_true rfl, Nat.le_of_ble_eq_true rfl⟩) (fun h_23 H locs hp w => ?_)
        have eh_23 := hp
        refine lv_iinc (v := nI (i + 1)) (lv' := [(2, .int (nI (i + 1))), (0, .ref (k.2.1 0)), (1, .int (nI n))]) hx hb dX4_run_26 hl (k := 2) rfl (nI_1 _) (by decide) rfl (fun ls hl => ?_)
        refine lv_goto (tgt := 14) hx hb dX4_run_29 (by decide) ?_
        rw [eh_23] at w
        exact ih (i + 1) (by omega) (by omega) _ _ _ w (lv_sub hl [1, 2, 0] rfl)
  exact lp (n + 1) 0 (by omega) (by omega) _ _ _ w (lv_sub hl [1, 2, 0] rfl)

abbrev rc_X4_undo : Room := { frames := 6, cells := 5, slots := 30, locals := 90 }
set_option maxHeartbeats 4000000 in
set_option maxRecDepth 100000 in
theorem c_X4_undo (l : Launch) (k : kY) (h : hS) (hst : l.stackTraces = false) {a b : Nat} (hs : SI h a b) (hf : 1 ≤ b → fgP h (16 * (7 + a) - 85) ∧ fgP h (16 * (7 + a) - 77)) : CX l k yX4_undo wsX4_undo rc_X4_undo [.ref (k.2.1 0)] h (QI k (fun r h' => 1 ≤ b ∧ r = nI (b - 1) ∧ h' = unz h a b)) (fun E h' => h' = h ∧ E = xIS ∧ b = 0) 5 30 := by
  refine q_xmet (cc := cX4_undo) (maxL := 1) (ret := (some .int)) (by decide) rfl (Nat.le_of_ble_eq_true rfl) ?_
  intro p e s m args below meth c Q ls X hnh hlocks hrt hQ w hl
  have hx := X.1
  have hb := X.2.1
  have hown := X.2.2.2.1
  have hts := X.2.2.2.2
  have hl : lv_has ls 1 [(0, .ref (k.2.1 0))] := hl
  have hi4 : ∀ w ∈ u_ws RX4 TX4 5, w ∈ wsX4_undo := by decide +kernel
  have hin_IS : ∀ w ∈ (vx_atS RX4 68 xIS xN).filter goodWord, w ∈ wsX4_undo := by decide +kernel
  have h4 := hs.2.1.2
  have ha4 := hs.1.2
  have u6 : 6 ≤ 7 + a := by omega
  have u10 : 7 + a ≤ 10 := by omega
  refine lv_aload_n hx hb dX4_undo_0 rfl (lv_at hl 0 rfl) ?_
  refine q_get X w 0 3 (ci := 4) (by decide) rfl rfl hi4 (by decide) (by decide +kernel) rfl dX4_undo_1 ?_
  rw [hs.2.1.1]
  refine lv_iconst (v := nI 1) hx hb dX4_undo_4 (by decide) ?_
  refine q_icge X (tgt := 18) (by omega) (by decide) dX4_undo_5 (by decide) (fun c_5 => ?_) (fun c_5 => ?_)
  · refine lv_aload_n hx hb dX4_undo_18 rfl (lv_at hl 0 rfl) ?_
    refine q_get X w 0 0 (ci := 4) (by decide) rfl rfl hi4 (by decide) (by decide +kernel) rfl dX4_undo_19 ?_
    refine lv_aload_n hx hb dX4_undo_22 rfl (lv_at hl 0 rfl) ?_
    refine q_get X w 0 1 (ci := 4) (by decide) rfl rfl hi4 (by decide) (by decide +kernel) rfl dX4_undo_23 ?_
    refine lv_aload_n hx hb dX4_undo_26 rfl (lv_at hl 0 rfl) ?_
    refine q_get X w 0 2 (ci := 4) (by decide) rfl rfl hi4 (by decide) (by decide +kernel) rfl dX4_undo_27 ?_
    rw [hs.1.1]
    refine lv_iconst (v := nI 4) hx hb dX4_undo_30 (by decide) ?_
    refine q_calli w (q_runS X w (c_J9_floorMod_7cf53 l k h (nI a) (nI 4) (by decide)) (va_cwS 2 hts gX4_undo_J9_floorMod_7cf53 rfl rfl rfl (by decide +kernel) ⟨Nat.le_of_ble_eq_true rfl, Nat.le_of_ble_eq_true rfl⟩) rfl hl.1 rfl (Nat.le_of_ble_eq_true rfl) dX4_undo_31 ⟨Nat.le_of_ble_eq_true rfl, Nat.le_of_ble_eq_true rfl⟩) (fun r_31 h_31 H locs hp w => ?_)
    obtain ⟨er_31, eh_31⟩ := hp
    rw [eh_31] at w
    rw [fmz4' a hs.1.2] at er_31
    subst er_31
    refine q_aald X w a rfl (by omega) dX4_undo_34 ?_
    refine q_callv w (q_runV X w 6 (c_X2_copyFrom l k h (S := 6) (S2 := 7 + a) (by decide) (by decide) u6 u10 (by omega) (hf (by omega)).1 (hf (by omega)).2) (cwV 1 hts gX4_undo_X2_copyFrom rfl rfl rfl (by decide +kernel) ⟨Nat.le_of_ble_eq_true rfl, Nat.le_of_ble_eq_true rfl⟩) (by decide) rfl rfl rfl hl.1 rfl (Nat.le_of_ble_eq_true rfl) dX4_undo_35 ⟨Nat.le_of_ble_eq_true rfl, Nat.le_of_ble_eq_true rfl⟩) (fun h_35 H locs hp w => ?_)
    have eh_35 := hp
    refine lv_aload_n hx hb dX4_undo_38 rfl (lv_at hl 0 rfl) ?_
    refine lv_aload_n hx hb dX4_undo_39 rfl (lv_at hl 0 rfl) ?_
    refine q_get X w 0 2 (ci := 4) (by decide) rfl rfl hi4 (by decide) (by decide +kernel) rfl dX4_undo_40 ?_
    have e40 : h_35.1 0 2 = nI a := by rw [eh_35, cpS_lo _ (by decide) (by decide)]; exact hs.1.1
    rw [e40]
    refine lv_iconst (v := nI 1) hx hb dX4_undo_43 (by decide) ?_
    refine lv_isub hx hb dX4_undo_44 ?_
    refine lv_iconst (v := nI 4) hx hb dX4_undo_45 (by decide) ?_
    refine q_calli w (q_runS X w (c_J9_floorMod_7cf53 l k h_35 ((nI a) - (nI 1)) (nI 4) (by decide)) (va_cwS 2 hts gX4_undo_J9_floorMod_7cf53 rfl rfl rfl (by decide +kernel) ⟨Nat.le_of_ble_eq_true rfl, Nat.le_of_ble_eq_true rfl⟩) rfl hl.1 rfl (Nat.le_of_ble_eq_true rfl) dX4_undo_46 ⟨Nat.le_of_ble_eq_true rfl, Nat.le_of_ble_eq_true rfl⟩) (fun r_46 h_46 H locs hp w => ?_)
    obtain ⟨er_46, eh_46⟩ := hp
    rw [eh_46] at w
    rw [fmz4m a hs.1.2] at er_46
    subst er_46
    refine q_put X w 0 2 .int (ci := 4) (by decide) rfl rfl rfl hi4 tyX4_ok nmX4 (by decide) (by decide +kernel) rfl (by decide +kernel) (rfl) (rfl) (Nat.le_of_ble_eq_true rfl) dX4_undo_49 (fun H locs w => ?_)
    obtain ⟨h_49, eh_49⟩ : ∃ z9, z9 = upI h_35 0 2 (nI ((a + 3) % 4)) := ⟨_, rfl⟩
    rw [← eh_49] at w
    refine lv_aload_n hx hb dX4_undo_52 rfl (lv_at hl 0 rfl) ?_
    refine lv_dup hx hb dX4_undo_53 rfl ?_
    refine q_get X w 0 3 (ci := 4) (by decide) rfl rfl hi4 (by decide) (by decide +kernel) rfl dX4_undo_54 ?_
    have e54 : h_49.1 0 3 = nI b := by rw [eh_49, upI_s]; show h_35.1 0 3 = _; rw [eh_35, cpS_lo _ (by decide) (by decide)]; exact hs.2.1.1
    rw [e54]
    refine lv_iconst (v := nI 1) hx hb dX4_undo_57 (by decide) ?_
    refine q_isubN X (by omega) dX4_undo_58 ?_
    refine q_put X w 0 3 .int (ci := 4) (by decide) rfl rfl rfl hi4 tyX4_ok nmX4 (by decide) (by decide +kernel) rfl (by decide +kernel) (rfl) (rfl) (Nat.le_of_ble_eq_true rfl) dX4_undo_59 (fun H locs w => ?_)
    obtain ⟨h_59, eh_59⟩ : ∃ z9, z9 = upI h_49 0 3 (nI (b - 1)) := ⟨_, rfl⟩
    rw [← eh_59] at w
    refine lv_aload_n hx hb dX4_undo_62 rfl (lv_at hl 0 rfl) ?_
    refine q_get X w 0 3 (ci := 4) (by decide) rfl rfl hi4 (by decide) (by decide +kernel) rfl dX4_undo_63 ?_
    have e63 : h_59.1 0 3 = nI (b - 1) := by rw [eh_59, upI_s]; rfl
    rw [e63]
    exact q_xretI X w hlocks hrt hQ dX4_undo_66 rfl ⟨by omega, rfl, by rw [eh_59, eh_49, eh_35]; rfl⟩ (Nat.le_of_ble_eq_true rfl) (Nat.le_of_ble_eq_true rfl)
  · exact q_throw X w hst hQ hnh hlocks xF_IS (by decide +kernel) (by decide +kernel) (List.mem_of_getElem? (i := 10) rfl) hin_IS hl.1 dX4_undo_8 dX4_undo_11 dX4_undo_12 dX4_undo_14 dX4_undo_17 (Nat.le_of_ble_eq_true rfl) (Nat.le_of_ble_eq_true rfl) (Nat.le_of_ble_eq_true rfl) (Nat.le_of_ble_eq_true rfl) ⟨rfl, rfl, by omega⟩ (Nat.le_of_ble_eq_true rfl) (Nat.le_of_ble_eq_true rfl)

abbrev rc_X4_loadForRate : Room := { frames := 3, cells := 0, slots := 0, locals := 74 }
set_option maxHeartbeats 4000000 in
set_option maxRecDepth 100000 in
theorem c_X4_loadForRate (l : Launch) (k : kY) (h : hS) {P P2 : Nat} (hP : pp P) (hP2 : pp P2) : CT l k yX4_loadForRate wsX4_loadForRate rc_X4_loadForRate [.ref (k.2.1 0), .ref (k.2.1 P), .ref (k.2.1 P2)] h (QI k (fun r h' => r = bI (cgz (lfB h P P2) P 16) ∧ h' = lfz h P P2)) 0 0 := by
  refine q_metI (cc := cX4_loadForRate) (maxL := 3) (ret := some .boolean) (ty := .boolean) (by decide) rfl rfl (Nat.le_of_ble_eq_true rfl) ?_
  intro p e s m args below meth c Q ls X w hl hret
  have hx := X.1
  have hb := X.2.1
  have hown := X.2.2.2.1
  have hts := X.2.2.2.2
  have hl : lv_has ls 3 [(0, .ref (k.2.1 0)), (1, .ref (k.2.1 P)), (2, .ref (k.2.1 P2))] := hl
  have hi0 : ∀ w ∈ u_ws RX0 TX0 10, w ∈ wsX4_loadForRate := by decide +kernel
  have hi4 : ∀ w ∈ u_ws RX4 TX4 5, w ∈ wsX4_loadForRate := by decide +kernel
  refine lv_aload_n hx hb dX4_loadForRate_0 rfl (lv_at hl 0 rfl) ?_
  refine q_get X w 0 4 (ci := 4) (by decide) rfl rfl hi4 (by decide) (by decide +kernel) rfl dX4_loadForRate_1 ?_
  refine lv_aload_n hx hb dX4_loadForRate_4 rfl (lv_at hl 1 rfl) ?_
  refine lv_aload_n hx hb dX4_loadForRate_5 rfl (lv_at hl 2 rfl) ?_
  refine q_callv w (q_runV X w 2 (c_X1_readLine l k h hP hP2) (cwV 2 hts gX4_loadForRate_X1_readLine rfl rfl rfl (by decide +kernel) ⟨Nat.le_of_ble_eq_true rfl, Nat.le_of_ble_eq_true rfl⟩) (by decide) rfl rfl rfl hl.1 rfl (Nat.le_of_ble_eq_true rfl) dX4_loadForRate_6 ⟨Nat.le_of_ble_eq_true rfl, Nat.le_of_ble_eq_true rfl⟩) (fun h_6 H locs hp w => ?_)
  have eh_6 := hp
  refine lv_aload_n hx hb dX4_loadForRate_9 rfl (lv_at hl 0 rfl) ?_
  refine q_get X w 0 4 (ci := 4) (by decide) rfl rfl hi4 (by decide) (by decide +kernel) rfl dX4_loadForRate_10 ?_
  refine q_callv w (q_runV X w 2 (c_X1_clearBits l k h_6) (cwV 0 hts gX4_loadForRate_X1_clearBits rfl rfl rfl (by decide +kernel) ⟨Nat.le_of_ble_eq_true rfl, Nat.le_of_ble_eq_true rfl⟩) (by decide) rfl rfl rfl hl.1 rfl (Nat.le_of_ble_eq_true rfl) dX4_loadForRate_13 ⟨Nat.le_of_ble_eq_true rfl, Nat.le_of_ble_eq_true rfl⟩) (fun h_13 H locs hp w => ?_)
  have eh_13 := hp
  refine lv_aload_n hx hb dX4_loadForRate_16 rfl (lv_at hl 0 rfl) ?_
  refine q_get X w 0 4 (ci := 4) (by decide) rfl rfl hi4 (by decide) (by decide +kernel) rfl dX4_loadForRate_17 ?_
  refine lv_aload_n hx hb dX4_loadForRate_20 rfl (lv_at hl 1 rfl) ?_
  refine q_get X w P 7 (ci := 0) (pp_lt0 hP) (hE_p0 hP k _) rfl hi0 (by decide) (by decide +kernel) rfl dX4_loadForRate_21 ?_
  refine lv_i2l hx hb dX4_loadForRate_24 rfl ?_
  refine q_callv w (q_runV X w 2 (c_X1_fillToBudget l k h_13 ((h_13.1 P 7).toInt64)) (cwV 1 hts gX4_loadForRate_X1_fillToBudget rfl rfl rfl (by decide +kernel) ⟨Nat.le_of_ble_eq_true rfl, Nat.le_of_ble_eq_true rfl⟩) (by decide) rfl rfl rfl hl.1 rfl (Nat.le_of_ble_eq_true rfl) dX4_loadForRate_25 ⟨Nat.le_of_ble_eq_true rfl, Nat.le_of_ble_eq_true rfl⟩) (fun h_25 H locs hp w => ?_)
  have eh_25 := hp
  refine lv_aload_n hx hb dX4_loadForRate_28 rfl (lv_at hl 0 rfl) ?_
  refine q_get X w 0 4 (ci := 4) (by decide) rfl rfl hi4 (by decide) (by decide +kernel) rfl dX4_loadForRate_29 ?_
  refine lv_aload_n hx hb dX4_loadForRate_32 rfl (lv_at hl 1 rfl) ?_
  refine q_calli w (q_runV X w 2 (c_X1_settle l k h_25 hP) (cwV 1 hts gX4_loadForRate_X1_settle rfl rfl rfl (by decide +kernel) ⟨Nat.le_of_ble_eq_true rfl, Nat.le_of_ble_eq_true rfl⟩) (by decide) rfl rfl rfl hl.1 rfl (Nat.le_of_ble_eq_true rfl) dX4_loadForRate_33 ⟨Nat.le_of_ble_eq_true rfl, Nat.le_of_ble_eq_true rfl⟩) (fun r_33 h_33 H locs hp w => ?_)
  obtain ⟨er_33, eh_33⟩ := hp
  have e25 : h_25 = lfB h P P2 := by rw [eh_25, eh_13, eh_6]; rfl
  exact hret _ _ _ _ _ _ _ _ dX4_loadForRate_36 w (by rw [er_33]; exact (bI_bz _).n) ⟨by rw [er_33, e25], by rw [eh_33, e25]; rfl⟩ (Nat.le_of_ble_eq_true rfl) (Nat.le_of_ble_eq_true rfl)

abbrev rc_X4_loadRate : Room := { frames := 7, cells := 5, slots := 30, locals := 111 }
set_option maxHeartbeats 4000000 in
set_option maxRecDepth 100000 in
theorem c_X4_loadRate (l : Launch) (k : kY) (h : hS) (hst : l.stackTraces = false) (x : Int32) {a b : Nat} (hs : SI h a b) : CX l k yX4_loadRate wsX4_loadRate rc_X4_loadRate [.ref (k.2.1 0), .int x] h (QI k (fun r h' => ∃ q : Nat, q < 2 ∧ x = nI q ∧ r = sumI ((lfz (svz h a b) (11 + 8 * q) (11 + 8 * (1 - q))).1 (11 + 8 * q + 4)) 16 ∧ h' = lfz (svz h a b) (11 + 8 * q) (11 + 8 * (1 - q)))) (fun E h' => E = xIO ∧ ¬ isP x ∧ h' = h) 5 30 := by
  refine q_xmet (cc := cX4_loadRate) (maxL := 3) (ret := (some .int)) (by decide) rfl (Nat.le_of_ble_eq_true rfl) ?_
  intro p e s m args below meth c Q ls X hnh hlocks hrt hQ w hl
  have hx := X.1
  have hb := X.2.1
  have hown := X.2.2.2.1
  have hts := X.2.2.2.2
  have hl : lv_has ls 3 [(0, .ref (k.2.1 0)), (1, .int x)] := hl
  refine lv_aload_n hx hb dX4_loadRate_0 rfl (lv_at hl 0 rfl) ?_
  refine lv_iload_n hx hb dX4_loadRate_1 rfl (lv_at hl 1 rfl) ?_
  refine q_xcallr w (q_xrunV X w 0 (c_X4_pairAt l k h hst x) (cwV 1 hts gX4_loadRate_X4_pairAt rfl rfl rfl (by decide +kernel) ⟨Nat.le_of_ble_eq_true rfl, Nat.le_of_ble_eq_true rfl⟩) (by decide) rfl rfl rfl hl.1 rfl (Nat.le_of_ble_eq_true rfl) dX4_loadRate_2 ⟨Nat.le_of_ble_eq_true rfl, Nat.le_of_ble_eq_true rfl⟩) (fun E ce q9 h9 H locs hp w h1 h2 h3 => q_out w hQ hnh hlocks hp h1 h2 h3 (Nat.le_of_ble_eq_true rfl) (Nat.le_of_ble_eq_true rfl)) (fun i_2 h_2 H locs hp w => ?_)
  obtain ⟨q, hq, ex_2, ei_2, eh_2⟩ := hp
  dsimp only at ei_2 eh_2
  subst ex_2
  subst ei_2
  rw [eh_2] at w
  have hP : pp (11 + 8 * q) := pp_i (by omega)
  have hP2 : pp (11 + 8 * (1 - q)) := pp_i (by omega)
  refine lv_astore_n (lv' := [(2, .ref (k.2.1 (11 + 8 * q))), (0, .ref (k.2.1 0)), (1, .int (nI q))]) hx hb dX4_loadRate_5 rfl hl (by decide) rfl (fun ls hl => ?_)
  refine lv_aload_n hx hb dX4_loadRate_6 rfl (lv_at hl 1 rfl) ?_
  refine q_callv w (q_runV X w 0 (c_X4_saveState l k h hs) (cwV 0 hts gX4_loadRate_X4_saveState rfl rfl rfl (by decide +kernel) ⟨Nat.le_of_ble_eq_true rfl, Nat.le_of_ble_eq_true rfl⟩) (by decide) rfl rfl rfl hl.1 rfl (Nat.le_of_ble_eq_true rfl) dX4_loadRate_7 ⟨Nat.le_of_ble_eq_true rfl, Nat.le_of_ble_eq_true rfl⟩) (fun h_7 H locs hp w => ?_)
  have eh_7 := hp
  refine lv_aload_n hx hb dX4_loadRate_10 rfl (lv_at hl 1 rfl) ?_
  refine lv_aload_n hx hb dX4_loadRate_11 rfl (lv_at hl 0 rfl) ?_
  refine lv_aload_n hx hb dX4_loadRate_12 rfl (lv_at hl 1 rfl) ?_
  refine lv_iload_n hx hb dX4_loadRate_13 rfl (lv_at hl 2 rfl) ?_
  refine q_callr w (q_runV X w 0 (c_X4_otherOf l k h_7 hq) (cwV 1 hts gX4_loadRate_X4_otherOf rfl rfl rfl (by decide +kernel) ⟨Nat.le_of_ble_eq_true rfl, Nat.le_of_ble_eq_true rfl⟩) (by decide) rfl rfl rfl hl.1 rfl (Nat.le_of_ble_eq_true rfl) dX4_loadRate_14 ⟨Nat.le_of_ble_eq_true rfl, Nat.le_of_ble_eq_true rfl⟩) (fun i_14 h_14 H locs hp w => ?_)
  obtain ⟨ei_14, eh_14⟩ := hp
  dsimp only at ei_14 eh_14
  subst ei_14
  rw [eh_14] at w
  refine q_calli w (q_runV X w 0 (c_X4_loadForRate l k h_7 hP hP2) (cwV 2 hts gX4_loadRate_X4_loadForRate rfl rfl rfl (by decide +kernel) ⟨Nat.le_of_ble_eq_true rfl, Nat.le_of_ble_eq_true rfl⟩) (by decide) rfl rfl rfl hl.1 rfl (Nat.le_of_ble_eq_true rfl) dX4_loadRate_17 ⟨Nat.le_of_ble_eq_true rfl, Nat.le_of_ble_eq_true rfl⟩) (fun r_17 h_17 H locs hp w => ?_)
  obtain ⟨er_17, eh_17⟩ := hp
  refine lv_pop hx hb dX4_loadRate_20 rfl ?_
  refine lv_aload_n hx hb dX4_loadRate_21 rfl (lv_at hl 0 rfl) ?_
  refine q_calli w (q_runV X w (11 + 8 * q) (c_X0_tableBits l k h_17 hP) (cwV 0 hts gX4_loadRate_X0_tableBits rfl rfl rfl (by decide +kernel) ⟨Nat.le_of_ble_eq_true rfl, Nat.le_of_ble_eq_true rfl⟩) (pp_lt0 hP) (hE_p0 hP k _) rfl rfl hl.1 rfl (Nat.le_of_ble_eq_true rfl) dX4_loadRate_22 ⟨Nat.le_of_ble_eq_true rfl, Nat.le_of_ble_eq_true rfl⟩) (fun r_22 h_22 H locs hp w => ?_)
  obtain ⟨er_22, eh_22⟩ := hp
  rw [eh_22] at w
  have er_22 : r_22 = sumI (h_17.1 ((11 + 8 * q) + 4)) 16 := er_22
  subst er_22
  exact q_xretI X w hlocks hrt hQ dX4_loadRate_25 rfl ⟨q, hq, rfl, by rw [eh_17, eh_7], by rw [eh_17, eh_7]⟩ (Nat.le_of_ble_eq_true rfl) (Nat.le_of_ble_eq_true rfl)

abbrev rc_X4_loadBits : Room := { frames := 7, cells := 5, slots := 30, locals := 112 }
set_option maxHeartbeats 4000000 in
set_option maxRecDepth 100000 in
theorem c_X4_loadBits (l : Launch) (k : kY) (h : hS) (hst : l.stackTraces = false) (x y : Int32) {a b : Nat} (hs : SI h a b) : CX l k yX4_loadBits wsX4_loadBits rc_X4_loadBits [.ref (k.2.1 0), .int x, .int y] h (QL k (fun r h' => ∃ q n : Nat, q < 2 ∧ n ≤ 192 ∧ x = nI q ∧ y = nI n ∧ ltB h (11 + 8 * q) (11 + 8 * (1 - q)) n = true ∧ r = sumL ((sez (svz (ltz h (11 + 8 * q) (11 + 8 * (1 - q)) n) a b) (11 + 8 * q)).2.1 (11 + 8 * q + 6)) 16 ∧ h' = sez (svz (ltz h (11 + 8 * q) (11 + 8 * (1 - q)) n) a b) (11 + 8 * q))) (fun E h' => (h' = h ∧ ((E = xIO ∧ ¬ isP x) ∨ (E = xIA ∧ isP x ∧ ¬ okR y (nI 0) (nI 192)))) ∨ (E = xIS ∧ ∃ q n : Nat, q < 2 ∧ n ≤ 192 ∧ x = nI q ∧ y = nI n ∧ ltB h (11 + 8 * q) (11 + 8 * (1 - q)) n = false ∧ h' = ltz h (11 + 8 * q) (11 + 8 * (1 - q)) n)) 5 30 := by
  refine q_xmet (cc := cX4_loadBits) (maxL := 4) (ret := (some .long)) (by decide) rfl (Nat.le_of_ble_eq_true rfl) ?_
  intro p e s m args below meth c Q ls X hnh hlocks hrt hQ w hl
  have hx := X.1
  have hb := X.2.1
  have hown := X.2.2.2.1
  have hts := X.2.2.2.2
  have hl : lv_has ls 4 [(0, .ref (k.2.1 0)), (1, .int x), (2, .int y)] := hl
  have hi4 : ∀ w ∈ u_ws RX4 TX4 5, w ∈ wsX4_loadBits := by decide +kernel
  have hin_IS : ∀ w ∈ (vx_atS RX4 68 xIS xN).filter goodWord, w ∈ wsX4_loadBits := by decide +kernel
  refine lv_aload_n hx hb dX4_loadBits_0 rfl (lv_at hl 0 rfl) ?_
  refine lv_iload_n hx hb dX4_loadBits_1 rfl (lv_at hl 1 rfl) ?_
  refine q_xcallr w (q_xrunV X w 0 (c_X4_pairAt l k h hst x) (cwV 1 hts gX4_loadBits_X4_pairAt rfl rfl rfl (by decide +kernel) ⟨Nat.le_of_ble_eq_true rfl, Nat.le_of_ble_eq_true rfl⟩) (by decide) rfl rfl rfl hl.1 rfl (Nat.le_of_ble_eq_true rfl) dX4_loadBits_2 ⟨Nat.le_of_ble_eq_true rfl, Nat.le_of_ble_eq_true rfl⟩) (fun E ce q9 h9 H locs hp w h1 h2 h3 => q_out w hQ hnh hlocks (Or.inl ⟨hp.2.2, Or.inl ⟨hp.1, hp.2.1⟩⟩) h1 h2 h3 (Nat.le_of_ble_eq_true rfl) (Nat.le_of_ble_eq_true rfl)) (fun i_2 h_2 H locs hp w => ?_)
  obtain ⟨q, hq, ex_2, ei_2, eh_2⟩ := hp
  dsimp only at ei_2 eh_2
  subst ex_2
  subst ei_2
  rw [eh_2] at w
  have hP : pp (11 + 8 * q) := pp_i (by omega)
  have hP2 : pp (11 + 8 * (1 - q)) := pp_i (by omega)
  refine lv_astore_n (lv' := [(3, .ref (k.2.1 (11 + 8 * q))), (0, .ref (k.2.1 0)), (1, .int (nI q)), (2, .int y)]) hx hb dX4_loadBits_5 rfl hl (by decide) rfl (fun ls hl => ?_)
  refine lv_iload_n hx hb dX4_loadBits_6 rfl (lv_at hl 3 rfl) ?_
  refine lv_iconst (v := nI 0) hx hb dX4_loadBits_7 (by decide) ?_
  refine lv_sipush (v := nI 192) hx hb dX4_loadBits_8 (by decide) ?_
  refine q_xcallv w (q_xrunS X w (c_X4_checkRange l k h hst y (nI 0) (nI 192)) (va_cwS 3 hts gX4_loadBits_X4_checkRange rfl rfl rfl (by decide +kernel) ⟨Nat.le_of_ble_eq_true rfl, Nat.le_of_ble_eq_true rfl⟩) rfl hl.1 rfl (Nat.le_of_ble_eq_true rfl) dX4_loadBits_11 ⟨Nat.le_of_ble_eq_true rfl, Nat.le_of_ble_eq_true rfl⟩) (fun E ce q9 h9 H locs hp w h1 h2 h3 => q_out w hQ hnh hlocks (Or.inl ⟨hp.2.2, Or.inr ⟨hp.1, ⟨q, hq, rfl⟩, hp.2.1⟩⟩) h1 h2 h3 (Nat.le_of_ble_eq_true rfl) (Nat.le_of_ble_eq_true rfl)) (fun h_11 H locs hp w => ?_)
  obtain ⟨hrg_11, eh_11⟩ := hp
  rw [eh_11] at w
  obtain ⟨n, hn, ex_11⟩ := okR_nat (by decide) hrg_11
  subst ex_11
  refine lv_aload_n hx hb dX4_loadBits_14 rfl (lv_at hl 1 rfl) ?_
  refine q_get X w 0 4 (ci := 4) (by decide) rfl rfl hi4 (by decide) (by decide +kernel) rfl dX4_loadBits_15 ?_
  refine lv_aload_n hx hb dX4_loadBits_18 rfl (lv_at hl 0 rfl) ?_
  refine lv_aload_n hx hb dX4_loadBits_19 rfl (lv_at hl 1 rfl) ?_
  refine lv_iload_n hx hb dX4_loadBits_20 rfl (lv_at hl 2 rfl) ?_
  refine q_callr w (q_runV X w 0 (c_X4_otherOf l k h hq) (cwV 1 hts gX4_loadBits_X4_otherOf rfl rfl rfl (by decide +kernel) ⟨Nat.le_of_ble_eq_true rfl, Nat.le_of_ble_eq_true rfl⟩) (by decide) rfl rfl rfl hl.1 rfl (Nat.le_of_ble_eq_true rfl) dX4_loadBits_21 ⟨Nat.le_of_ble_eq_true rfl, Nat.le_of_ble_eq_true rfl⟩) (fun i_21 h_21 H locs hp w => ?_)
  obtain ⟨ei_21, eh_21⟩ := hp
  dsimp only at ei_21 eh_21
  subst ei_21
  rw [eh_21] at w
  refine q_callv w (q_runV X w 2 (c_X1_readLine l k h hP hP2) (cwV 2 hts gX4_loadBits_X1_readLine rfl rfl rfl (by decide +kernel) ⟨Nat.le_of_ble_eq_true rfl, Nat.le_of_ble_eq_true rfl⟩) (by decide) rfl rfl rfl hl.1 rfl (Nat.le_of_ble_eq_true rfl) dX4_loadBits_24 ⟨Nat.le_of_ble_eq_true rfl, Nat.le_of_ble_eq_true rfl⟩) (fun h_24 H locs hp w => ?_)
  have eh_24 := hp
  refine lv_aload_n hx hb dX4_loadBits_27 rfl (lv_at hl 1 rfl) ?_
  refine q_get X w 0 4 (ci := 4) (by decide) rfl rfl hi4 (by decide) (by decide +kernel) rfl dX4_loadBits_28 ?_
  refine q_callv w (q_runV X w 2 (c_X1_clearBits l k h_24) (cwV 0 hts gX4_loadBits_X1_clearBits rfl rfl rfl (by decide +kernel) ⟨Nat.le_of_ble_eq_true rfl, Nat.le_of_ble_eq_true rfl⟩) (by decide) rfl rfl rfl hl.1 rfl (Nat.le_of_ble_eq_true rfl) dX4_loadBits_31 ⟨Nat.le_of_ble_eq_true rfl, Nat.le_of_ble_eq_true rfl⟩) (fun h_31 H locs hp w => ?_)
  have eh_31 := hp
  refine lv_aload_n hx hb dX4_loadBits_34 rfl (lv_at hl 1 rfl) ?_
  refine q_get X w 0 4 (ci := 4) (by decide) rfl rfl hi4 (by decide) (by decide +kernel) rfl dX4_loadBits_35 ?_
  refine lv_iload_n hx hb dX4_loadBits_38 rfl (lv_at hl 3 rfl) ?_
  refine q_calli w (q_runV X w 2 (c_X1_fillToTarget l k h_31 n hn) (cwV 1 hts gX4_loadBits_X1_fillToTarget rfl rfl rfl (by decide +kernel) ⟨Nat.le_of_ble_eq_true rfl, Nat.le_of_ble_eq_true rfl⟩) (by decide) rfl rfl rfl hl.1 rfl (Nat.le_of_ble_eq_true rfl) dX4_loadBits_39 ⟨Nat.le_of_ble_eq_true rfl, Nat.le_of_ble_eq_true rfl⟩) (fun r_39 h_39 H locs hp w => ?_)
  obtain ⟨er_39, eh_39⟩ := hp
  have er_39 : r_39 = bI ((ftz (h_31.2.1 3) (h_31.1 4) n (h_31.1 5)).2) := er_39
  rcases hf_39 : (ftz (h_31.2.1 3) (h_31.1 4) n (h_31.1 5)).2 with _ | _
  · rw [hf_39] at er_39
    have er_39 : r_39 = nI 0 := er_39
    subst er_39
    refine lv_if_ne (tgt := 55) hx hb dX4_loadBits_42 (by decide) (fun c_42 => ?_) (fun c_42 => ?_)
    · exact absurd (by decide) c_42
    · exact q_throw X w hst hQ hnh hlocks xF_IS (by decide +kernel) (by decide +kernel) (List.mem_of_getElem? (i := 4) rfl) hin_IS hl.1 dX4_loadBits_45 dX4_loadBits_48 dX4_loadBits_49 dX4_loadBits_51 dX4_loadBits_54 (Nat.le_of_ble_eq_true rfl) (Nat.le_of_ble_eq_true rfl) (Nat.le_of_ble_eq_true rfl) (Nat.le_of_ble_eq_true rfl) (Or.inr ⟨rfl, q, n, hq, hn, rfl, rfl, by rw [ltB, lfA, ← eh_24, ← eh_31]; exact hf_39, by rw [eh_39, eh_31, eh_24]; rfl⟩) (Nat.le_of_ble_eq_true rfl) (Nat.le_of_ble_eq_true rfl)
  · rw [hf_39] at er_39
    have er_39 : r_39 = nI 1 := er_39
    subst er_39
    refine lv_if_ne (tgt := 55) hx hb dX4_loadBits_42 (by decide) (fun c_42 => ?_) (fun c_42 => ?_)
    · have e39 : h_39 = ltz h (11 + 8 * q) (11 + 8 * (1 - q)) n := by rw [eh_39, eh_31, eh_24]; rfl
      have hs9 : SI h_39 a b := SI_of (h := h) (by rw [e39, ltz, lfA, setI_o _ _ (by decide), setI_o _ _ (by decide), rlz_o _ _ _ (by decide)]) (fun i hi => by rw [e39, ltz, lfA, setI_o _ _ (by omega), setI_o _ _ (by omega), rlz_o _ _ _ (by omega)]) hs
      refine lv_aload_n hx hb dX4_loadBits_55 rfl (lv_at hl 1 rfl) ?_
      refine q_callv w (q_runV X w 0 (c_X4_saveState l k h_39 hs9) (cwV 0 hts gX4_loadBits_X4_saveState rfl rfl rfl (by decide +kernel) ⟨Nat.le_of_ble_eq_true rfl, Nat.le_of_ble_eq_true rfl⟩) (by decide) rfl rfl rfl hl.1 rfl (Nat.le_of_ble_eq_true rfl) dX4_loadBits_56 ⟨Nat.le_of_ble_eq_true rfl, Nat.le_of_ble_eq_true rfl⟩) (fun h_56 H locs hp w => ?_)
      have eh_56 := hp
      refine lv_aload_n hx hb dX4_loadBits_59 rfl (lv_at hl 1 rfl) ?_
      refine q_get X w 0 4 (ci := 4) (by decide) rfl rfl hi4 (by decide) (by decide +kernel) rfl dX4_loadBits_60 ?_
      refine lv_aload_n hx hb dX4_loadBits_63 rfl (lv_at hl 0 rfl) ?_
      refine q_calli w (q_runV X w 2 (c_X1_settle l k h_56 hP) (cwV 1 hts gX4_loadBits_X1_settle rfl rfl rfl (by decide +kernel) ⟨Nat.le_of_ble_eq_true rfl, Nat.le_of_ble_eq_true rfl⟩) (by decide) rfl rfl rfl hl.1 rfl (Nat.le_of_ble_eq_true rfl) dX4_loadBits_64 ⟨Nat.le_of_ble_eq_true rfl, Nat.le_of_ble_eq_true rfl⟩) (fun r_64 h_64 H locs hp w => ?_)
      obtain ⟨er_64, eh_64⟩ := hp
      refine lv_pop hx hb dX4_loadBits_67 rfl ?_
      refine lv_aload_n hx hb dX4_loadBits_68 rfl (lv_at hl 0 rfl) ?_
      refine q_calll w (q_runV X w (11 + 8 * q) (c_X0_energySum l k h_64 hP) (cwV 0 hts gX4_loadBits_X0_energySum rfl rfl rfl (by decide +kernel) ⟨Nat.le_of_ble_eq_true rfl, Nat.le_of_ble_eq_true rfl⟩) (pp_lt0 hP) (hE_p0 hP k _) rfl rfl hl.1 rfl (Nat.le_of_ble_eq_true rfl) dX4_loadBits_69 ⟨Nat.le_of_ble_eq_true rfl, Nat.le_of_ble_eq_true rfl⟩) (fun r_69 h_69 H locs hp w => ?_)
      obtain ⟨er_69, eh_69⟩ := hp
      rw [eh_69] at w
      have er_69 : r_69 = sumL (h_64.2.1 ((11 + 8 * q) + 6)) 16 := er_69
      subst er_69
      exact q_xretL X w hlocks hrt hQ dX4_loadBits_72 ⟨q, n, hq, hn, rfl, rfl, by rw [ltB, lfA, ← eh_24, ← eh_31]; exact hf_39, by rw [eh_64, eh_56, e39], by rw [eh_64, eh_56, e39]⟩ (Nat.le_of_ble_eq_true rfl) (Nat.le_of_ble_eq_true rfl)
    · exact absurd c_42 (by decide)

abbrev rc_X4_repair : Room := { frames := 7, cells := 5, slots := 30, locals := 111 }
set_option maxHeartbeats 4000000 in
set_option maxRecDepth 100000 in
theorem c_X4_repair (l : Launch) (k : kY) (h : hS) (hst : l.stackTraces = false) (x : Int32) {a b : Nat} (hs : SI h a b) : CX l k yX4_repair wsX4_repair rc_X4_repair [.ref (k.2.1 0), .int x] h (QI k (fun r h' => ∃ q : Nat, q < 2 ∧ x = nI q ∧ r = nI (rpM (rtz (svz h a b) (11 + 8 * q) (11 + 8 * (1 - q)))).2 ∧ h' = rpz (svz h a b) (11 + 8 * q) (11 + 8 * (1 - q)))) (fun E h' => E = xIO ∧ ¬ isP x ∧ h' = h) 5 30 := by
  refine q_xmet (cc := cX4_repair) (maxL := 4) (ret := (some .int)) (by decide) rfl (Nat.le_of_ble_eq_true rfl) ?_
  intro p e s m args below meth c Q ls X hnh hlocks hrt hQ w hl
  have hx := X.1
  have hb := X.2.1
  have hown := X.2.2.2.1
  have hts := X.2.2.2.2
  have hl : lv_has ls 4 [(0, .ref (k.2.1 0)), (1, .int x)] := hl
  have hi4 : ∀ w ∈ u_ws RX4 TX4 5, w ∈ wsX4_repair := by decide +kernel
  refine lv_aload_n hx hb dX4_repair_0 rfl (lv_at hl 0 rfl) ?_
  refine lv_iload_n hx hb dX4_repair_1 rfl (lv_at hl 1 rfl) ?_
  refine q_xcallr w (q_xrunV X w 0 (c_X4_pairAt l k h hst x) (cwV 1 hts gX4_repair_X4_pairAt rfl rfl rfl (by decide +kernel) ⟨Nat.le_of_ble_eq_true rfl, Nat.le_of_ble_eq_true rfl⟩) (by decide) rfl rfl rfl hl.1 rfl (Nat.le_of_ble_eq_true rfl) dX4_repair_2 ⟨Nat.le_of_ble_eq_true rfl, Nat.le_of_ble_eq_true rfl⟩) (fun E ce q9 h9 H locs hp w h1 h2 h3 => q_out w hQ hnh hlocks hp h1 h2 h3 (Nat.le_of_ble_eq_true rfl) (Nat.le_of_ble_eq_true rfl)) (fun i_2 h_2 H locs hp w => ?_)
  obtain ⟨q, hq, ex_2, ei_2, eh_2⟩ := hp
  dsimp only at ei_2 eh_2
  subst ex_2
  subst ei_2
  rw [eh_2] at w
  have hP : pp (11 + 8 * q) := pp_i (by omega)
  have hP2 : pp (11 + 8 * (1 - q)) := pp_i (by omega)
  refine lv_astore_n (lv' := [(2, .ref (k.2.1 (11 + 8 * q))), (0, .ref (k.2.1 0)), (1, .int (nI q))]) hx hb dX4_repair_5 rfl hl (by decide) rfl (fun ls hl => ?_)
  refine lv_aload_n hx hb dX4_repair_6 rfl (lv_at hl 1 rfl) ?_
  refine q_callv w (q_runV X w 0 (c_X4_saveState l k h hs) (cwV 0 hts gX4_repair_X4_saveState rfl rfl rfl (by decide +kernel) ⟨Nat.le_of_ble_eq_true rfl, Nat.le_of_ble_eq_true rfl⟩) (by decide) rfl rfl rfl hl.1 rfl (Nat.le_of_ble_eq_true rfl) dX4_repair_7 ⟨Nat.le_of_ble_eq_true rfl, Nat.le_of_ble_eq_true rfl⟩) (fun h_7 H locs hp w => ?_)
  have eh_7 := hp
  refine lv_aload_n hx hb dX4_repair_10 rfl (lv_at hl 1 rfl) ?_
  refine q_get X w 0 4 (ci := 4) (by decide) rfl rfl hi4 (by decide) (by decide +kernel) rfl dX4_repair_11 ?_
  refine lv_aload_n hx hb dX4_repair_14 rfl (lv_at hl 0 rfl) ?_
  refine lv_aload_n hx hb dX4_repair_15 rfl (lv_at hl 1 rfl) ?_
  refine lv_iload_n hx hb dX4_repair_16 rfl (lv_at hl 2 rfl) ?_
  refine q_callr w (q_runV X w 0 (c_X4_otherOf l k h_7 hq) (cwV 1 hts gX4_repair_X4_otherOf rfl rfl rfl (by decide +kernel) ⟨Nat.le_of_ble_eq_true rfl, Nat.le_of_ble_eq_true rfl⟩) (by decide) rfl rfl rfl hl.1 rfl (Nat.le_of_ble_eq_true rfl) dX4_repair_17 ⟨Nat.le_of_ble_eq_true rfl, Nat.le_of_ble_eq_true rfl⟩) (fun i_17 h_17 H locs hp w => ?_)
  obtain ⟨ei_17, eh_17⟩ := hp
  dsimp only at ei_17 eh_17
  subst ei_17
  rw [eh_17] at w
  refine q_callv w (q_runV X w 2 (c_X1_readTable l k h_7 hP hP2) (cwV 2 hts gX4_repair_X1_readTable rfl rfl rfl (by decide +kernel) ⟨Nat.le_of_ble_eq_true rfl, Nat.le_of_ble_eq_true rfl⟩) (by decide) rfl rfl rfl hl.1 rfl (Nat.le_of_ble_eq_true rfl) dX4_repair_20 ⟨Nat.le_of_ble_eq_true rfl, Nat.le_of_ble_eq_true rfl⟩) (fun h_20 H locs hp w => ?_)
  have eh_20 := hp
  refine lv_aload_n hx hb dX4_repair_23 rfl (lv_at hl 1 rfl) ?_
  refine q_get X w 0 4 (ci := 4) (by decide) rfl rfl hi4 (by decide) (by decide +kernel) rfl dX4_repair_24 ?_
  refine q_calli w (q_runV X w 2 (c_X1_makeEfficient l k h_20) (cwV 0 hts gX4_repair_X1_makeEfficient rfl rfl rfl (by decide +kernel) ⟨Nat.le_of_ble_eq_true rfl, Nat.le_of_ble_eq_true rfl⟩) (by decide) rfl rfl rfl hl.1 rfl (Nat.le_of_ble_eq_true rfl) dX4_repair_27 ⟨Nat.le_of_ble_eq_true rfl, Nat.le_of_ble_eq_true rfl⟩) (fun r_27 h_27 H locs hp w => ?_)
  obtain ⟨er_27, eh_27⟩ := hp
  refine lv_istore_n (lv' := [(3, .int r_27), (2, .ref (k.2.1 (11 + 8 * q))), (0, .ref (k.2.1 0)), (1, .int (nI q))]) hx hb dX4_repair_30 rfl hl (by decide) rfl (fun ls hl => ?_)
  refine lv_aload_n hx hb dX4_repair_31 rfl (lv_at hl 2 rfl) ?_
  refine q_get X w 0 4 (ci := 4) (by decide) rfl rfl hi4 (by decide) (by decide +kernel) rfl dX4_repair_32 ?_
  refine lv_aload_n hx hb dX4_repair_35 rfl (lv_at hl 1 rfl) ?_
  refine q_calli w (q_runV X w 2 (c_X1_settle l k h_27 hP) (cwV 1 hts gX4_repair_X1_settle rfl rfl rfl (by decide +kernel) ⟨Nat.le_of_ble_eq_true rfl, Nat.le_of_ble_eq_true rfl⟩) (by decide) rfl rfl rfl hl.1 rfl (Nat.le_of_ble_eq_true rfl) dX4_repair_36 ⟨Nat.le_of_ble_eq_true rfl, Nat.le_of_ble_eq_true rfl⟩) (fun r_36 h_36 H locs hp w => ?_)
  obtain ⟨er_36, eh_36⟩ := hp
  refine lv_pop hx hb dX4_repair_39 rfl ?_
  refine lv_iload_n hx hb dX4_repair_40 rfl (lv_at hl 0 rfl) ?_
  exact q_xretI X w hlocks hrt hQ dX4_repair_41 rfl ⟨q, hq, rfl, by rw [er_27, eh_20, eh_7]; rfl, by rw [eh_36, eh_27, eh_20, eh_7]; rfl⟩ (Nat.le_of_ble_eq_true rfl) (Nat.le_of_ble_eq_true rfl)

abbrev rc_X4_balance : Room := { frames := 7, cells := 5, slots := 30, locals := 112 }
set_option maxHeartbeats 4000000 in
set_option maxRecDepth 100000 in
theorem c_X4_balance (l : Launch) (k : kY) (h : hS) (hst : l.stackTraces = false) (x : Int32) {a b : Nat} (hs : SI h a b) : CX l k yX4_balance wsX4_balance rc_X4_balance [.ref (k.2.1 0), .int x] h (QI k (fun r h' => ∃ n : Nat, 1 ≤ n ∧ n ≤ 20 ∧ x = nI n ∧ r = nI (blz n (svz h a b) 0).1 ∧ h' = (blz n (svz h a b) 0).2)) (fun E h' => h' = h ∧ E = xIA ∧ ¬ okR x (nI 1) (nI 20)) 5 30 := by
  refine q_xmet (cc := cX4_balance) (maxL := 6) (ret := (some .int)) (by decide) rfl (Nat.le_of_ble_eq_true rfl) ?_
  intro p e s m args below meth c Q ls X hnh hlocks hrt hQ w hl
  have hx := X.1
  have hb := X.2.1
  have hown := X.2.2.2.1
  have hts := X.2.2.2.2
  have hl : lv_has ls 6 [(0, .ref (k.2.1 0)), (1, .int x)] := hl
  have hi2 : ∀ w ∈ u_ws RX2 TX2 3, w ∈ wsX4_balance := by decide +kernel
  have hi4 : ∀ w ∈ u_ws RX4 TX4 5, w ∈ wsX4_balance := by decide +kernel
  refine lv_iload_n hx hb dX4_balance_0 rfl (lv_at hl 1 rfl) ?_
  refine lv_iconst (v := nI 1) hx hb dX4_balance_1 (by decide) ?_
  refine lv_bipush (v := nI 20) hx hb dX4_balance_2 (by decide) ?_
  refine q_xcallv w (q_xrunS X w (c_X4_checkRange l k h hst x (nI 1) (nI 20)) (va_cwS 3 hts gX4_balance_X4_checkRange rfl rfl rfl (by decide +kernel) ⟨Nat.le_of_ble_eq_true rfl, Nat.le_of_ble_eq_true rfl⟩) rfl hl.1 rfl (Nat.le_of_ble_eq_true rfl) dX4_balance_4 ⟨Nat.le_of_ble_eq_true rfl, Nat.le_of_ble_eq_true rfl⟩) (fun E ce q9 h9 H locs hp w h1 h2 h3 => q_out w hQ hnh hlocks ⟨hp.2.2, hp.1, hp.2.1⟩ h1 h2 h3 (Nat.le_of_ble_eq_true rfl) (Nat.le_of_ble_eq_true rfl)) (fun h_4 H locs hp w => ?_)
  obtain ⟨hrg_4, eh_4⟩ := hp
  rw [eh_4] at w
  obtain ⟨n, hn1, hn, ex_4⟩ := okR_nat1 (by decide) hrg_4
  subst ex_4
  refine lv_aload_n hx hb dX4_balance_7 rfl (lv_at hl 0 rfl) ?_
  refine q_callv w (q_runV X w 0 (c_X4_saveState l k h hs) (cwV 0 hts gX4_balance_X4_saveState rfl rfl rfl (by decide +kernel) ⟨Nat.le_of_ble_eq_true rfl, Nat.le_of_ble_eq_true rfl⟩) (by decide) rfl rfl rfl hl.1 rfl (Nat.le_of_ble_eq_true rfl) dX4_balance_8 ⟨Nat.le_of_ble_eq_true rfl, Nat.le_of_ble_eq_true rfl⟩) (fun h_8 H locs hp w => ?_)
  have eh_8 := hp
  refine lv_iconst (v := nI 0) hx hb dX4_balance_11 (by decide) ?_
  refine lv_istore_n (lv' := [(2, .int (nI 0)), (0, .ref (k.2.1 0)), (1, .int (nI n))]) hx hb dX4_balance_12 rfl hl (by decide) rfl (fun ls hl => ?_)
  refine lv_iconst (v := nI 1) hx hb dX4_balance_13 (by decide) ?_
  refine lv_istore_n (lv' := [(3, .int (nI 1)), (2, .int (nI 0)), (0, .ref (k.2.1 0)), (1, .int (nI n))]) hx hb dX4_balance_14 rfl hl (by decide) rfl (fun ls hl => ?_)
  have lp : ∀ (fu : Nat) (i : Nat) (u : Int32) (g : hS), (i ≤ n ∧ ((u = nI 1 ∧ blz (n - i) g i = blz n (svz h a b) 0) ∨ (u = nI 0 ∧ (i, g) = blz n (svz h a b) 0))) → (n - i) < fu → ∀ (H : Heap) (locs : List Loc) (ls : Array Slot), WX k s H locs g → lv_has ls 6 [(0, .ref (k.2.1 0)), (1, .int (nI n)), (2, .int (nI i)), (3, .int u)] → W p l e rc_X4_balance s m args below meth c H locs 1 6 Q (F0 m 15 ls []) := by
    intro fu
    induction fu with
    | zero => intro i u g _ hm; exact absurd hm (Nat.not_lt_zero _)
    | succ fu ih =>
      intro i u g hinv hm H locs ls w hl
      obtain ⟨hi, hu⟩ := hinv
      rcases hu with ⟨eu, hb9⟩ | ⟨eu, hb9⟩
      · subst eu
        refine lv_iload_n hx hb dX4_balance_15 rfl (lv_at hl 3 rfl) ?_
        refine lv_if_eq (tgt := 86) hx hb dX4_balance_16 (by decide) (fun c_16 => ?_) (fun c_16 => ?_)
        · exact absurd c_16 (by decide)
        · refine lv_iload_n hx hb dX4_balance_19 rfl (lv_at hl 2 rfl) ?_
          refine lv_iload_n hx hb dX4_balance_20 rfl (lv_at hl 1 rfl) ?_
          refine q_icge X (tgt := 86) (by omega) (by omega) dX4_balance_21 (by decide) (fun c_21 => ?_) (fun c_21 => ?_)
          · refine lv_iload_n hx hb dX4_balance_86 rfl (lv_at hl 2 rfl) ?_
            exact q_xretI X w hlocks hrt hQ dX4_balance_87 rfl ⟨n, hn1, hn, rfl, (by first | (obtain rfl : i = n := (by omega); rw [Nat.sub_self, blz] at hb9; rw [← hb9]; done) | rw [← hb9]), (by first | (obtain rfl : i = n := (by omega); rw [Nat.sub_self, blz] at hb9; rw [← hb9]; done) | rw [← hb9])⟩ (Nat.le_of_ble_eq_true rfl) (Nat.le_of_ble_eq_true rfl)
          · refine lv_aload_n hx hb dX4_balance_24 rfl (lv_at hl 0 rfl) ?_
            refine lv_aload_n hx hb dX4_balance_25 rfl (lv_at hl 0 rfl) ?_
            refine q_get X w 0 0 (ci := 4) (by decide) rfl rfl hi4 (by decide) (by decide +kernel) rfl dX4_balance_26 ?_
            refine q_get X w 6 1 (ci := 2) (by decide) rfl rfl hi2 (by decide) (by decide +kernel) rfl dX4_balance_29 ?_
            refine lv_aload_n hx hb dX4_balance_32 rfl (lv_at hl 0 rfl) ?_
            refine q_get X w 0 0 (ci := 4) (by decide) rfl rfl hi4 (by decide) (by decide +kernel) rfl dX4_balance_33 ?_
            refine q_get X w 6 2 (ci := 2) (by decide) rfl rfl hi2 (by decide) (by decide +kernel) rfl dX4_balance_36 ?_
            refine q_calli w (q_runV X w 0 (c_X4_loadForRate l k g pp11 pp19) (cwV 2 hts gX4_balance_X4_loadForRate rfl rfl rfl (by decide +kernel) ⟨Nat.le_of_ble_eq_true rfl, Nat.le_of_ble_eq_true rfl⟩) (by decide) rfl rfl rfl hl.1 rfl (Nat.le_of_ble_eq_true rfl) dX4_balance_39 ⟨Nat.le_of_ble_eq_true rfl, Nat.le_of_ble_eq_true rfl⟩) (fun r_39 h_39 H locs hp w => ?_)
            obtain ⟨er_39, eh_39⟩ := hp
            have er_39 : r_39 = bI (cgz (lfB g 11 19) 11 16) := er_39
            rcases hf_39 : cgz (lfB g 11 19) 11 16 with _ | _
            · rw [hf_39] at er_39
              have er_39 : r_39 = nI 0 := er_39
              subst er_39
              refine lv_istore (lv' := [(4, .int (nI 0)), (0, .ref (k.2.1 0)), (1, .int (nI n)), (2, .int (nI i)), (3, .int (nI 1))]) hx hb dX4_balance_42 hl (by decide) rfl (fun ls hl => ?_)
              refine lv_aload_n hx hb dX4_balance_44 rfl (lv_at hl 1 rfl) ?_
              refine lv_aload_n hx hb dX4_balance_45 rfl (lv_at hl 1 rfl) ?_
              refine q_get X w 0 0 (ci := 4) (by decide) rfl rfl hi4 (by decide) (by decide +kernel) rfl dX4_balance_46 ?_
              refine q_get X w 6 2 (ci := 2) (by decide) rfl rfl hi2 (by decide) (by decide +kernel) rfl dX4_balance_49 ?_
              refine lv_aload_n hx hb dX4_balance_52 rfl (lv_at hl 1 rfl) ?_
              refine q_get X w 0 0 (ci := 4) (by decide) rfl rfl hi4 (by decide) (by decide +kernel) rfl dX4_balance_53 ?_
              refine q_get X w 6 1 (ci := 2) (by decide) rfl rfl hi2 (by decide) (by decide +kernel) rfl dX4_balance_56 ?_
              refine q_calli w (q_runV X w 0 (c_X4_loadForRate l k h_39 pp19 pp11) (cwV 2 hts gX4_balance_X4_loadForRate rfl rfl rfl (by decide +kernel) ⟨Nat.le_of_ble_eq_true rfl, Nat.le_of_ble_eq_true rfl⟩) (by decide) rfl rfl rfl hl.1 rfl (Nat.le_of_ble_eq_true rfl) dX4_balance_59 ⟨Nat.le_of_ble_eq_true rfl, Nat.le_of_ble_eq_true rfl⟩) (fun r_59 h_59 H locs hp w => ?_)
              obtain ⟨er_59, eh_59⟩ := hp
              have er_59 : r_59 = bI (cgz (lfB h_39 19 11) 19 16) := er_59
              rcases hf_59 : cgz (lfB h_39 19 11) 19 16 with _ | _
              · rw [hf_59] at er_59
                have er_59 : r_59 = nI 0 := er_59
                subst er_59
                refine lv_istore (lv' := [(5, .int (nI 0)), (4, .int (nI 0)), (0, .ref (k.2.1 0)), (1, .int (nI n)), (2, .int (nI i)), (3, .int (nI 1))]) hx hb dX4_balance_62 hl (by decide) rfl (fun ls hl => ?_)
                refine lv_iload hx hb dX4_balance_64 (lv_at hl 1 rfl) ?_
                refine lv_if_ne (tgt := 74) hx hb dX4_balance_66 (by decide) (fun c_66 => ?_) (fun c_66 => ?_)
                · exact absurd (by decide) c_66
                · refine lv_iload hx hb dX4_balance_69 (lv_at hl 0 rfl) ?_
                  refine lv_if_eq (tgt := 78) hx hb dX4_balance_71 (by decide) (fun c_71 => ?_) (fun c_71 => ?_)
                  · refine lv_iconst (v := nI 0) hx hb dX4_balance_78 (by decide) ?_
                    refine lv_istore_n (lv' := [(3, .int (nI 0)), (5, .int (nI 0)), (4, .int (nI 0)), (0, .ref (k.2.1 0)), (1, .int (nI n)), (2, .int (nI i))]) hx hb dX4_balance_79 rfl hl (by decide) rfl (fun ls hl => ?_)
                    refine lv_iinc (v := nI (i + 1)) (lv' := [(2, .int (nI (i + 1))), (3, .int (nI 0)), (5, .int (nI 0)), (4, .int (nI 0)), (0, .ref (k.2.1 0)), (1, .int (nI n))]) hx hb dX4_balance_80 hl (k := 5) rfl (nI_1 _) (by decide) rfl (fun ls hl => ?_)
                    refine lv_goto (tgt := 15) hx hb dX4_balance_83 (by decide) ?_
                    rw [show n - i = (n - (i + 1)) + 1 by omega, blz] at hb9
                    have e59 : h_59 = bl1 g := by rw [eh_59, eh_39]; rfl
                    have ec : blc g = false := by rw [blc, hf_39, ← eh_39, hf_59]; rfl
                    rw [ec, ← e59] at hb9
                    exact ih (i + 1) (nI 0) h_59 ⟨by omega, Or.inr ⟨rfl, hb9⟩⟩ (by omega) _ _ _ w (lv_sub hl [4, 5, 0, 1] rfl)
                  · exact absurd (by decide) c_71
              · rw [hf_59] at er_59
                have er_59 : r_59 = nI 1 := er_59
                subst er_59
                refine lv_istore (lv' := [(5, .int (nI 1)), (4, .int (nI 0)), (0, .ref (k.2.1 0)), (1, .int (nI n)), (2, .int (nI i)), (3, .int (nI 1))]) hx hb dX4_balance_62 hl (by decide) rfl (fun ls hl => ?_)
                refine lv_iload hx hb dX4_balance_64 (lv_at hl 1 rfl) ?_
                refine lv_if_ne (tgt := 74) hx hb dX4_balance_66 (by decide) (fun c_66 => ?_) (fun c_66 => ?_)
                · exact absurd (by decide) c_66
                · refine lv_iload hx hb dX4_balance_69 (lv_at hl 0 rfl) ?_
                  refine lv_if_eq (tgt := 78) hx hb dX4_balance_71 (by decide) (fun c_71 => ?_) (fun c_71 => ?_)
                  · exact absurd c_71 (by decide)
                  · refine lv_iconst (v := nI 1) hx hb dX4_balance_74 (by decide) ?_
                    refine lv_goto (tgt := 79) hx hb dX4_balance_75 (by decide) ?_
                    refine lv_istore_n (lv' := [(3, .int (nI 1)), (5, .int (nI 1)), (4, .int (nI 0)), (0, .ref (k.2.1 0)), (1, .int (nI n)), (2, .int (nI i))]) hx hb dX4_balance_79 rfl hl (by decide) rfl (fun ls hl => ?_)
                    refine lv_iinc (v := nI (i + 1)) (lv' := [(2, .int (nI (i + 1))), (3, .int (nI 1)), (5, .int (nI 1)), (4, .int (nI 0)), (0, .ref (k.2.1 0)), (1, .int (nI n))]) hx hb dX4_balance_80 hl (k := 5) rfl (nI_1 _) (by decide) rfl (fun ls hl => ?_)
                    refine lv_goto (tgt := 15) hx hb dX4_balance_83 (by decide) ?_
                    rw [show n - i = (n - (i + 1)) + 1 by omega, blz] at hb9
                    have e59 : h_59 = bl1 g := by rw [eh_59, eh_39]; rfl
                    have ec : blc g = true := by rw [blc, hf_39, ← eh_39, hf_59]; rfl
                    rw [ec, ← e59] at hb9
                    exact ih (i + 1) (nI 1) h_59 ⟨by omega, Or.inl ⟨rfl, hb9⟩⟩ (by omega) _ _ _ w (lv_sub hl [4, 5, 0, 1] rfl)
            · rw [hf_39] at er_39
              have er_39 : r_39 = nI 1 := er_39
              subst er_39
              refine lv_istore (lv' := [(4, .int (nI 1)), (0, .ref (k.2.1 0)), (1, .int (nI n)), (2, .int (nI i)), (3, .int (nI 1))]) hx hb dX4_balance_42 hl (by decide) rfl (fun ls hl => ?_)
              refine lv_aload_n hx hb dX4_balance_44 rfl (lv_at hl 1 rfl) ?_
              refine lv_aload_n hx hb dX4_balance_45 rfl (lv_at hl 1 rfl) ?_
              refine q_get X w 0 0 (ci := 4) (by decide) rfl rfl hi4 (by decide) (by decide +kernel) rfl dX4_balance_46 ?_
              refine q_get X w 6 2 (ci := 2) (by decide) rfl rfl hi2 (by decide) (by decide +kernel) rfl dX4_balance_49 ?_
              refine lv_aload_n hx hb dX4_balance_52 rfl (lv_at hl 1 rfl) ?_
              refine q_get X w 0 0 (ci := 4) (by decide) rfl rfl hi4 (by decide) (by decide +kernel) rfl dX4_balance_53 ?_
              refine q_get X w 6 1 (ci := 2) (by decide) rfl rfl hi2 (by decide) (by decide +kernel) rfl dX4_balance_56 ?_
              refine q_calli w (q_runV X w 0 (c_X4_loadForRate l k h_39 pp19 pp11) (cwV 2 hts gX4_balance_X4_loadForRate rfl rfl rfl (by decide +kernel) ⟨Nat.le_of_ble_eq_true rfl, Nat.le_of_ble_eq_true rfl⟩) (by decide) rfl rfl rfl hl.1 rfl (Nat.le_of_ble_eq_true rfl) dX4_balance_59 ⟨Nat.le_of_ble_eq_true rfl, Nat.le_of_ble_eq_true rfl⟩) (fun r_59 h_59 H locs hp w => ?_)
              obtain ⟨er_59, eh_59⟩ := hp
              have er_59 : r_59 = bI (cgz (lfB h_39 19 11) 19 16) := er_59
              rcases hf_59 : cgz (lfB h_39 19 11) 19 16 with _ | _
              · rw [hf_59] at er_59
                have er_59 : r_59 = nI 0 := er_59
                subst er_59
                refine lv_istore (lv' := [(5, .int (nI 0)), (4, .int (nI 1)), (0, .ref (k.2.1 0)), (1, .int (nI n)), (2, .int (nI i)), (3, .int (nI 1))]) hx hb dX4_balance_62 hl (by decide) rfl (fun ls hl => ?_)
                refine lv_iload hx hb dX4_balance_64 (lv_at hl 1 rfl) ?_
                refine lv_if_ne (tgt := 74) hx hb dX4_balance_66 (by decide) (fun c_66 => ?_) (fun c_66 => ?_)
                · refine lv_iconst (v := nI 1) hx hb dX4_balance_74 (by decide) ?_
                  refine lv_goto (tgt := 79) hx hb dX4_balance_75 (by decide) ?_
                  refine lv_istore_n (lv' := [(3, .int (nI 1)), (5, .int (nI 0)), (4, .int (nI 1)), (0, .ref (k.2.1 0)), (1, .int (nI n)), (2, .int (nI i))]) hx hb dX4_balance_79 rfl hl (by decide) rfl (fun ls hl => ?_)
                  refine lv_iinc (v := nI (i + 1)) (lv' := [(2, .int (nI (i + 1))), (3, .int (nI 1)), (5, .int (nI 0)), (4, .int (nI 1)), (0, .ref (k.2.1 0)), (1, .int (nI n))]) hx hb dX4_balance_80 hl (k := 5) rfl (nI_1 _) (by decide) rfl (fun ls hl => ?_)
                  refine lv_goto (tgt := 15) hx hb dX4_balance_83 (by decide) ?_
                  rw [show n - i = (n - (i + 1)) + 1 by omega, blz] at hb9
                  have e59 : h_59 = bl1 g := by rw [eh_59, eh_39]; rfl
                  have ec : blc g = true := by rw [blc, hf_39, ← eh_39, hf_59]; rfl
                  rw [ec, ← e59] at hb9
                  exact ih (i + 1) (nI 1) h_59 ⟨by omega, Or.inl ⟨rfl, hb9⟩⟩ (by omega) _ _ _ w (lv_sub hl [4, 5, 0, 1] rfl)
                · exact absurd c_66 (by decide)
              · rw [hf_59] at er_59
                have er_59 : r_59 = nI 1 := er_59
                subst er_59
                refine lv_istore (lv' := [(5, .int (nI 1)), (4, .int (nI 1)), (0, .ref (k.2.1 0)), (1, .int (nI n)), (2, .int (nI i)), (3, .int (nI 1))]) hx hb dX4_balance_62 hl (by decide) rfl (fun ls hl => ?_)
                refine lv_iload hx hb dX4_balance_64 (lv_at hl 1 rfl) ?_
                refine lv_if_ne (tgt := 74) hx hb dX4_balance_66 (by decide) (fun c_66 => ?_) (fun c_66 => ?_)
                · refine lv_iconst (v := nI 1) hx hb dX4_balance_74 (by decide) ?_
                  refine lv_goto (tgt := 79) hx hb dX4_balance_75 (by decide) ?_
                  refine lv_istore_n (lv' := [(3, .int (nI 1)), (5, .int (nI 1)), (4, .int (nI 1)), (0, .ref (k.2.1 0)), (1, .int (nI n)), (2, .int (nI i))]) hx hb dX4_balance_79 rfl hl (by decide) rfl (fun ls hl => ?_)
                  refine lv_iinc (v := nI (i + 1)) (lv' := [(2, .int (nI (i + 1))), (3, .int (nI 1)), (5, .int (nI 1)), (4, .int (nI 1)), (0, .ref (k.2.1 0)), (1, .int (nI n))]) hx hb dX4_balance_80 hl (k := 5) rfl (nI_1 _) (by decide) rfl (fun ls hl => ?_)
                  refine lv_goto (tgt := 15) hx hb dX4_balance_83 (by decide) ?_
                  rw [show n - i = (n - (i + 1)) + 1 by omega, blz] at hb9
                  have e59 : h_59 = bl1 g := by rw [eh_59, eh_39]; rfl
                  have ec : blc g = true := by rw [blc, hf_39, ← eh_39, hf_59]; rfl
                  rw [ec, ← e59] at hb9
                  exact ih (i + 1) (nI 1) h_59 ⟨by omega, Or.inl ⟨rfl, hb9⟩⟩ (by omega) _ _ _ w (lv_sub hl [4, 5, 0, 1] rfl)
                · exact absurd c_66 (by decide)
      · subst eu
        refine lv_iload_n hx hb dX4_balance_15 rfl (lv_at hl 3 rfl) ?_
        refine lv_if_eq (tgt := 86) hx hb dX4_balance_16 (by decide) (fun c_16 => ?_) (fun c_16 => ?_)
        · refine lv_iload_n hx hb dX4_balance_86 rfl (lv_at hl 2 rfl) ?_
          exact q_xretI X w hlocks hrt hQ dX4_balance_87 rfl ⟨n, hn1, hn, rfl, (by first | (obtain rfl : i = n := (by omega); rw [Nat.sub_self, blz] at hb9; rw [← hb9]; done) | rw [← hb9]), (by first | (obtain rfl : i = n := (by omega); rw [Nat.sub_self, blz] at hb9; rw [← hb9]; done) | rw [← hb9])⟩ (Nat.le_of_ble_eq_true rfl) (Nat.le_of_ble_eq_true rfl)
        · exact absurd (by decide) c_16
  exact lp (n + 1) 0 (nI 1) h_8 ⟨by omega, Or.inl ⟨rfl, by rw [eh_8, Nat.sub_zero]⟩⟩ (by omega) _ _ _ w (lv_sub hl [2, 3, 1, 0] rfl)

abbrev rc_X4_hashTalk : Room := { frames := 0, cells := 0, slots := 0, locals := 0 }
set_option maxHeartbeats 4000000 in
set_option maxRecDepth 100000 in
theorem c_X4_hashTalk (l : Launch) (k : kY) (h : hS) {P : Nat} (hP : pp P) (s9 : Int64) : CT l k yX4_hashTalk wsX4_hashTalk rc_X4_hashTalk [.long s9, .ref (k.2.1 (P + 7))] h (QL k (fun r h' => r = htz s9 (h.1 (P + 7)) ∧ h' = h)) 0 0 := by
  refine q_metL (cc := cX4_hashTalk) (maxL := 5) (by decide) rfl (Nat.le_of_ble_eq_true rfl) ?_
  intro p e s m args below meth c Q ls X w hl hret
  have hx := X.1
  have hb := X.2.1
  have hown := X.2.2.2.1
  have hts := X.2.2.2.2
  have hl : lv_has ls 5 [(0, .long s9), (2, .ref (k.2.1 (P + 7)))] := hl
  have hi3 : ∀ w ∈ u_ws RX3 TX3 14, w ∈ wsX4_hashTalk := by decide +kernel
  refine lv_lload_n hx hb dX4_hashTalk_0 rfl (lv_at hl 0 rfl) ?_
  refine lv_ldc2 (v := 31) hx hb hown (hts (.constantLong RX4 222 31) (by decide +kernel)) dX4_hashTalk_1 ?_
  refine lv_lmul hx hb dX4_hashTalk_4 ?_
  refine lv_aload_n hx hb dX4_hashTalk_5 rfl (lv_at hl 1 rfl) ?_
  refine q_get X w (P + 7) 1 (ci := 3) (pp_lt hP (c := 7) (by decide)) (hE_p7 hP k _) rfl hi3 (by decide) (by decide +kernel) rfl dX4_hashTalk_6 ?_
  refine lv_if_eq (tgt := 16) hx hb dX4_hashTalk_9 (by decide) (fun c_9 => ?_) (fun c_9 => ?_)
  · refine lv_iconst (v := nI 0) hx hb dX4_hashTalk_16 (by decide) ?_
    refine lv_i2l hx hb dX4_hashTalk_17 rfl ?_
    refine lv_ladd hx hb dX4_hashTalk_18 ?_
    refine lv_lstore_n (lv' := [(3, .long ((s9 * 31) + ((nI 0).toInt64))), (0, .long s9), (2, .ref (k.2.1 (P + 7)))]) hx hb dX4_hashTalk_19 rfl hl (by decide) rfl (fun ls hl => ?_)
    refine lv_aload_n hx hb dX4_hashTalk_20 rfl (lv_at hl 2 rfl) ?_
    refine q_get X w (P + 7) 1 (ci := 3) (pp_lt hP (c := 7) (by decide)) (hE_p7 hP k _) rfl hi3 (by decide) (by decide +kernel) rfl dX4_hashTalk_21 ?_
    refine lv_if_eq (tgt := 75) hx hb dX4_hashTalk_24 (by decide) (fun c_24 => ?_) (fun c_24 => ?_)
    · refine lv_lload_n hx hb dX4_hashTalk_75 rfl (lv_at hl 0 rfl) ?_
      refine lv_ldc2 (v := 31) hx hb hown (hts (.constantLong RX4 222 31) (by decide +kernel)) dX4_hashTalk_76 ?_
      refine lv_lmul hx hb dX4_hashTalk_79 ?_
      refine lv_aload_n hx hb dX4_hashTalk_80 rfl (lv_at hl 2 rfl) ?_
      refine q_get X w (P + 7) 6 (ci := 3) (pp_lt hP (c := 7) (by decide)) (hE_p7 hP k _) rfl hi3 (by decide) (by decide +kernel) rfl dX4_hashTalk_81 ?_
      refine lv_if_eq (tgt := 91) hx hb dX4_hashTalk_84 (by decide) (fun c_84 => ?_) (fun c_84 => ?_)
      · refine lv_iconst (v := nI 0) hx hb dX4_hashTalk_91 (by decide) ?_
        refine lv_i2l hx hb dX4_hashTalk_92 rfl ?_
        refine lv_ladd hx hb dX4_hashTalk_93 ?_
        refine lv_lstore_n (lv' := [(3, .long ((((s9 * 31) + ((nI 0).toInt64)) * 31) + ((nI 0).toInt64))), (0, .long s9), (2, .ref (k.2.1 (P + 7)))]) hx hb dX4_hashTalk_94 rfl hl (by decide) rfl (fun ls hl => ?_)
        refine lv_lload_n hx hb dX4_hashTalk_95 rfl (lv_at hl 0 rfl) ?_
        refine lv_ldc2 (v := 31) hx hb hown (hts (.constantLong RX4 222 31) (by decide +kernel)) dX4_hashTalk_96 ?_
        refine lv_lmul hx hb dX4_hashTalk_99 ?_
        refine lv_aload_n hx hb dX4_hashTalk_100 rfl (lv_at hl 2 rfl) ?_
        refine q_get X w (P + 7) 7 (ci := 3) (pp_lt hP (c := 7) (by decide)) (hE_p7 hP k _) rfl hi3 (by decide) (by decide +kernel) rfl dX4_hashTalk_101 ?_
        refine lv_if_eq (tgt := 111) hx hb dX4_hashTalk_104 (by decide) (fun c_104 => ?_) (fun c_104 => ?_)
        · refine lv_iconst (v := nI 0) hx hb dX4_hashTalk_111 (by decide) ?_
          refine lv_i2l hx hb dX4_hashTalk_112 rfl ?_
          refine lv_ladd hx hb dX4_hashTalk_113 ?_
          exact hret _ _ _ _ _ _ _ _ dX4_hashTalk_114 w ⟨by rw [htz]; (first | rw [if_pos c_9] | rw [if_neg c_9]); (first | rw [if_pos c_84] | rw [if_neg c_84]); (first | rw [if_pos c_104] | rw [if_neg c_104]), rfl⟩ (Nat.le_of_ble_eq_true rfl) (Nat.le_of_ble_eq_true rfl)
        · refine lv_iconst (v := nI 1) hx hb dX4_hashTalk_107 (by decide) ?_
          refine lv_goto (tgt := 112) hx hb dX4_hashTalk_108 (by decide) ?_
          refine lv_i2l hx hb dX4_hashTalk_112 rfl ?_
          refine lv_ladd hx hb dX4_hashTalk_113 ?_
          exact hret _ _ _ _ _ _ _ _ dX4_hashTalk_114 w ⟨by rw [htz]; (first | rw [if_pos c_9] | rw [if_neg c_9]); (first | rw [if_pos c_84] | rw [if_neg c_84]); (first | rw [if_pos c_104] | rw [if_neg c_104]), rfl⟩ (Nat.le_of_ble_eq_true rfl) (Nat.le_of_ble_eq_true rfl)
      · refine lv_iconst (v := nI 1) hx hb dX4_hashTalk_87 (by decide) ?_
        refine lv_goto (tgt := 92) hx hb dX4_hashTalk_88 (by decide) ?_
        refine lv_i2l hx hb dX4_hashTalk_92 rfl ?_
        refine lv_ladd hx hb dX4_hashTalk_93 ?_
        refine lv_lstore_n (lv' := [(3, .long ((((s9 * 31) + ((nI 0).toInt64)) * 31) + ((nI 1).toInt64))), (0, .long s9), (2, .ref (k.2.1 (P + 7)))]) hx hb dX4_hashTalk_94 rfl hl (by decide) rfl (fun ls hl => ?_)
        refine lv_lload_n hx hb dX4_hashTalk_95 rfl (lv_at hl 0 rfl) ?_
        refine lv_ldc2 (v := 31) hx hb hown (hts (.constantLong RX4 222 31) (by decide +kernel)) dX4_hashTalk_96 ?_
        refine lv_lmul hx hb dX4_hashTalk_99 ?_
        refine lv_aload_n hx hb dX4_hashTalk_100 rfl (lv_at hl 2 rfl) ?_
        refine q_get X w (P + 7) 7 (ci := 3) (pp_lt hP (c := 7) (by decide)) (hE_p7 hP k _) rfl hi3 (by decide) (by decide +kernel) rfl dX4_hashTalk_101 ?_
        refine lv_if_eq (tgt := 111) hx hb dX4_hashTalk_104 (by decide) (fun c_104 => ?_) (fun c_104 => ?_)
        · refine lv_iconst (v := nI 0) hx hb dX4_hashTalk_111 (by decide) ?_
          refine lv_i2l hx hb dX4_hashTalk_112 rfl ?_
          refine lv_ladd hx hb dX4_hashTalk_113 ?_
          exact hret _ _ _ _ _ _ _ _ dX4_hashTalk_114 w ⟨by rw [htz]; (first | rw [if_pos c_9] | rw [if_neg c_9]); (first | rw [if_pos c_84] | rw [if_neg c_84]); (first | rw [if_pos c_104] | rw [if_neg c_104]), rfl⟩ (Nat.le_of_ble_eq_true rfl) (Nat.le_of_ble_eq_true rfl)
        · refine lv_iconst (v := nI 1) hx hb dX4_hashTalk_107 (by decide) ?_
          refine lv_goto (tgt := 112) hx hb dX4_hashTalk_108 (by decide) ?_
          refine lv_i2l hx hb dX4_hashTalk_112 rfl ?_
          refine lv_ladd hx hb dX4_hashTalk_113 ?_
          exact hret _ _ _ _ _ _ _ _ dX4_hashTalk_114 w ⟨by rw [htz]; (first | rw [if_pos c_9] | rw [if_neg c_9]); (first | rw [if_pos c_84] | rw [if_neg c_84]); (first | rw [if_pos c_104] | rw [if_neg c_104]), rfl⟩ (Nat.le_of_ble_eq_true rfl) (Nat.le_of_ble_eq_true rfl)
    · exact absurd c_9 c_24
  · refine lv_iconst (v := nI 1) hx hb dX4_hashTalk_12 (by decide) ?_
    refine lv_goto (tgt := 17) hx hb dX4_hashTalk_13 (by decide) ?_
    refine lv_i2l hx hb dX4_hashTalk_17 rfl ?_
    refine lv_ladd hx hb dX4_hashTalk_18 ?_
    refine lv_lstore_n (lv' := [(3, .long ((s9 * 31) + ((nI 1).toInt64))), (0, .long s9), (2, .ref (k.2.1 (P + 7)))]) hx hb dX4_hashTalk_19 rfl hl (by decide) rfl (fun ls hl => ?_)
    refine lv_aload_n hx hb dX4_hashTalk_20 rfl (lv_at hl 2 rfl) ?_
    refine q_get X w (P + 7) 1 (ci := 3) (pp_lt hP (c := 7) (by decide)) (hE_p7 hP k _) rfl hi3 (by decide) (by decide +kernel) rfl dX4_hashTalk_21 ?_
    refine lv_if_eq (tgt := 75) hx hb dX4_hashTalk_24 (by decide) (fun c_24 => ?_) (fun c_24 => ?_)
    · exact absurd c_24 c_9
    · refine lv_lload_n hx hb dX4_hashTalk_27 rfl (lv_at hl 0 rfl) ?_
      refine lv_ldc2 (v := 31) hx hb hown (hts (.constantLong RX4 222 31) (by decide +kernel)) dX4_hashTalk_28 ?_
      refine lv_lmul hx hb dX4_hashTalk_31 ?_
      refine lv_aload_n hx hb dX4_hashTalk_32 rfl (lv_at hl 2 rfl) ?_
      refine q_get X w (P + 7) 2 (ci := 3) (pp_lt hP (c := 7) (by decide)) (hE_p7 hP k _) rfl hi3 (by decide) (by decide +kernel) rfl dX4_hashTalk_33 ?_
      refine lv_i2l hx hb dX4_hashTalk_36 rfl ?_
      refine lv_ladd hx hb dX4_hashTalk_37 ?_
      refine lv_lstore_n (lv' := [(3, .long ((((s9 * 31) + ((nI 1).toInt64)) * 31) + ((h.1 (P + 7) 2).toInt64))), (0, .long s9), (2, .ref (k.2.1 (P + 7)))]) hx hb dX4_hashTalk_38 rfl hl (by decide) rfl (fun ls hl => ?_)
      refine lv_lload_n hx hb dX4_hashTalk_39 rfl (lv_at hl 0 rfl) ?_
      refine lv_ldc2 (v := 31) hx hb hown (hts (.constantLong RX4 222 31) (by decide +kernel)) dX4_hashTalk_40 ?_
      refine lv_lmul hx hb dX4_hashTalk_43 ?_
      refine lv_aload_n hx hb dX4_hashTalk_44 rfl (lv_at hl 2 rfl) ?_
      refine q_get X w (P + 7) 3 (ci := 3) (pp_lt hP (c := 7) (by decide)) (hE_p7 hP k _) rfl hi3 (by decide) (by decide +kernel) rfl dX4_hashTalk_45 ?_
      refine lv_i2l hx hb dX4_hashTalk_48 rfl ?_
      refine lv_ladd hx hb dX4_hashTalk_49 ?_
      refine lv_lstore_n (lv' := [(3, .long ((((((s9 * 31) + ((nI 1).toInt64)) * 31) + ((h.1 (P + 7) 2).toInt64)) * 31) + ((h.1 (P + 7) 3).toInt64))), (0, .long s9), (2, .ref (k.2.1 (P + 7)))]) hx hb dX4_hashTalk_50 rfl hl (by decide) rfl (fun ls hl => ?_)
      refine lv_lload_n hx hb dX4_hashTalk_51 rfl (lv_at hl 0 rfl) ?_
      refine lv_ldc2 (v := 31) hx hb hown (hts (.constantLong RX4 222 31) (by decide +kernel)) dX4_hashTalk_52 ?_
      refine lv_lmul hx hb dX4_hashTalk_55 ?_
      refine lv_aload_n hx hb dX4_hashTalk_56 rfl (lv_at hl 2 rfl) ?_
      refine q_get X w (P + 7) 4 (ci := 3) (pp_lt hP (c := 7) (by decide)) (hE_p7 hP k _) rfl hi3 (by decide) (by decide +kernel) rfl dX4_hashTalk_57 ?_
      refine lv_i2l hx hb dX4_hashTalk_60 rfl ?_
      refine lv_ladd hx hb dX4_hashTalk_61 ?_
      refine lv_lstore_n (lv' := [(3, .long ((((((((s9 * 31) + ((nI 1).toInt64)) * 31) + ((h.1 (P + 7) 2).toInt64)) * 31) + ((h.1 (P + 7) 3).toInt64)) * 31) + ((h.1 (P + 7) 4).toInt64))), (0, .long s9), (2, .ref (k.2.1 (P + 7)))]) hx hb dX4_hashTalk_62 rfl hl (by decide) rfl (fun ls hl => ?_)
      refine lv_lload_n hx hb dX4_hashTalk_63 rfl (lv_at hl 0 rfl) ?_
      refine lv_ldc2 (v := 31) hx hb hown (hts (.constantLong RX4 222 31) (by decide +kernel)) dX4_hashTalk_64 ?_
      refine lv_lmul hx hb dX4_hashTalk_67 ?_
      refine lv_aload_n hx hb dX4_hashTalk_68 rfl (lv_at hl 2 rfl) ?_
      refine q_get X w (P + 7) 5 (ci := 3) (pp_lt hP (c := 7) (by decide)) (hE_p7 hP k _) rfl hi3 (by decide) (by decide +kernel) rfl dX4_hashTalk_69 ?_
      refine lv_i2l hx hb dX4_hashTalk_72 rfl ?_
      refine lv_ladd hx hb dX4_hashTalk_73 ?_
      refine lv_lstore_n (lv' := [(3, .long ((((((((((s9 * 31) + ((nI 1).toInt64)) * 31) + ((h.1 (P + 7) 2).toInt64)) * 31) + ((h.1 (P + 7) 3).toInt64)) * 31) + ((h.1 (P + 7) 4).toInt64)) * 31) + ((h.1 (P + 7) 5).toInt64))), (0, .long s9), (2, .ref (k.2.1 (P + 7)))]) hx hb dX4_hashTalk_74 rfl hl (by decide) rfl (fun ls hl => ?_)
      refine lv_lload_n hx hb dX4_hashTalk_75 rfl (lv_at hl 0 rfl) ?_
      refine lv_ldc2 (v := 31) hx hb hown (hts (.constantLong RX4 222 31) (by decide +kernel)) dX4_hashTalk_76 ?_
      refine lv_lmul hx hb dX4_hashTalk_79 ?_
      refine lv_aload_n hx hb dX4_hashTalk_80 rfl (lv_at hl 2 rfl) ?_
      refine q_get X w (P + 7) 6 (ci := 3) (pp_lt hP (c := 7) (by decide)) (hE_p7 hP k _) rfl hi3 (by decide) (by decide +kernel) rfl dX4_hashTalk_81 ?_
      refine lv_if_eq (tgt := 91) hx hb dX4_hashTalk_84 (by decide) (fun c_84 => ?_) (fun c_84 => ?_)
      · refine lv_iconst (v := nI 0) hx hb dX4_hashTalk_91 (by decide) ?_
        refine lv_i2l hx hb dX4_hashTalk_92 rfl ?_
        refine lv_ladd hx hb dX4_hashTalk_93 ?_
        refine lv_lstore_n (lv' := [(3, .long ((((((((((((s9 * 31) + ((nI 1).toInt64)) * 31) + ((h.1 (P + 7) 2).toInt64)) * 31) + ((h.1 (P + 7) 3).toInt64)) * 31) + ((h.1 (P + 7) 4).toInt64)) * 31) + ((h.1 (P + 7) 5).toInt64)) * 31) + ((nI 0).toInt64))), (0, .long s9), (2, .ref (k.2.1 (P + 7)))]) hx hb dX4_hashTalk_94 rfl hl (by decide) rfl (fun ls hl => ?_)
        refine lv_lload_n hx hb dX4_hashTalk_95 rfl (lv_at hl 0 rfl) ?_
        refine lv_ldc2 (v := 31) hx hb hown (hts (.constantLong RX4 222 31) (by decide +kernel)) dX4_hashTalk_96 ?_
        refine lv_lmul hx hb dX4_hashTalk_99 ?_
        refine lv_aload_n hx hb dX4_hashTalk_100 rfl (lv_at hl 2 rfl) ?_
        refine q_get X w (P + 7) 7 (ci := 3) (pp_lt hP (c := 7) (by decide)) (hE_p7 hP k _) rfl hi3 (by decide) (by decide +kernel) rfl dX4_hashTalk_101 ?_
        refine lv_if_eq (tgt := 111) hx hb dX4_hashTalk_104 (by decide) (fun c_104 => ?_) (fun c_104 => ?_)
        · refine lv_iconst (v := nI 0) hx hb dX4_hashTalk_111 (by decide) ?_
          refine lv_i2l hx hb dX4_hashTalk_112 rfl ?_
          refine lv_ladd hx hb dX4_hashTalk_113 ?_
          exact hret _ _ _ _ _ _ _ _ dX4_hashTalk_114 w ⟨by rw [htz]; (first | rw [if_pos c_9] | rw [if_neg c_9]); (first | rw [if_pos c_84] | rw [if_neg c_84]); (first | rw [if_pos c_104] | rw [if_neg c_104]), rfl⟩ (Nat.le_of_ble_eq_true rfl) (Nat.le_of_ble_eq_true rfl)
        · refine lv_iconst (v := nI 1) hx hb dX4_hashTalk_107 (by decide) ?_
          refine lv_goto (tgt := 112) hx hb dX4_hashTalk_108 (by decide) ?_
          refine lv_i2l hx hb dX4_hashTalk_112 rfl ?_
          refine lv_ladd hx hb dX4_hashTalk_113 ?_
          exact hret _ _ _ _ _ _ _ _ dX4_hashTalk_114 w ⟨by rw [htz]; (first | rw [if_pos c_9] | rw [if_neg c_9]); (first | rw [if_pos c_84] | rw [if_neg c_84]); (first | rw [if_pos c_104] | rw [if_neg c_104]), rfl⟩ (Nat.le_of_ble_eq_true rfl) (Nat.le_of_ble_eq_true rfl)
      · refine lv_iconst (v := nI 1) hx hb dX4_hashTalk_87 (by decide) ?_
        refine lv_goto (tgt := 92) hx hb dX4_hashTalk_88 (by decide) ?_
        refine lv_i2l hx hb dX4_hashTalk_92 rfl ?_
        refine lv_ladd hx hb dX4_hashTalk_93 ?_
        refine lv_lstore_n (lv' := [(3, .long ((((((((((((s9 * 31) + ((nI 1).toInt64)) * 31) + ((h.1 (P + 7) 2).toInt64)) * 31) + ((h.1 (P + 7) 3).toInt64)) * 31) + ((h.1 (P + 7) 4).toInt64)) * 31) + ((h.1 (P + 7) 5).toInt64)) * 31) + ((nI 1).toInt64))), (0, .long s9), (2, .ref (k.2.1 (P + 7)))]) hx hb dX4_hashTalk_94 rfl hl (by decide) rfl (fun ls hl => ?_)
        refine lv_lload_n hx hb dX4_hashTalk_95 rfl (lv_at hl 0 rfl) ?_
        refine lv_ldc2 (v := 31) hx hb hown (hts (.constantLong RX4 222 31) (by decide +kernel)) dX4_hashTalk_96 ?_
        refine lv_lmul hx hb dX4_hashTalk_99 ?_
        refine lv_aload_n hx hb dX4_hashTalk_100 rfl (lv_at hl 2 rfl) ?_
        refine q_get X w (P + 7) 7 (ci := 3) (pp_lt hP (c := 7) (by decide)) (hE_p7 hP k _) rfl hi3 (by decide) (by decide +kernel) rfl dX4_hashTalk_101 ?_
        refine lv_if_eq (tgt := 111) hx hb dX4_hashTalk_104 (by decide) (fun c_104 => ?_) (fun c_104 => ?_)
        · refine lv_iconst (v := nI 0) hx hb dX4_hashTalk_111 (by decide) ?_
          refine lv_i2l hx hb dX4_hashTalk_112 rfl ?_
          refine lv_ladd hx hb dX4_hashTalk_113 ?_
          exact hret _ _ _ _ _ _ _ _ dX4_hashTalk_114 w ⟨by rw [htz]; (first | rw [if_pos c_9] | rw [if_neg c_9]); (first | rw [if_pos c_84] | rw [if_neg c_84]); (first | rw [if_pos c_104] | rw [if_neg c_104]), rfl⟩ (Nat.le_of_ble_eq_true rfl) (Nat.le_of_ble_eq_true rfl)
        · refine lv_iconst (v := nI 1) hx hb dX4_hashTalk_107 (by decide) ?_
          refine lv_goto (tgt := 112) hx hb dX4_hashTalk_108 (by decide) ?_
          refine lv_i2l hx hb dX4_hashTalk_112 rfl ?_
          refine lv_ladd hx hb dX4_hashTalk_113 ?_
          exact hret _ _ _ _ _ _ _ _ dX4_hashTalk_114 w ⟨by rw [htz]; (first | rw [if_pos c_9] | rw [if_neg c_9]); (first | rw [if_pos c_84] | rw [if_neg c_84]); (first | rw [if_pos c_104] | rw [if_neg c_104]), rfl⟩ (Nat.le_of_ble_eq_true rfl) (Nat.le_of_ble_eq_true rfl)

abbrev rc_X4_hashPair : Room := { frames := 4, cells := 0, slots := 0, locals := 97 }
set_option maxHeartbeats 4000000 in
set_option maxRecDepth 100000 in
theorem c_X4_hashPair (l : Launch) (k : kY) (h : hS) {P P2 : Nat} (hP : pp P) (hP2 : pp P2) (s9 : Int64) : CT l k yX4_hashPair wsX4_hashPair rc_X4_hashPair [.ref (k.2.1 0), .long s9, .ref (k.2.1 P), .ref (k.2.1 P2)] h (QL k (fun r h' => r = hpz h P P2 s9 ∧ h' = rtz h P P2)) 0 0 := by
  refine q_metL (cc := cX4_hashPair) (maxL := 8) (by decide) rfl (Nat.le_of_ble_eq_true rfl) ?_
  intro p e s m args below meth c Q ls X w hl hret
  have hx := X.1
  have hb := X.2.1
  have hown := X.2.2.2.1
  have hts := X.2.2.2.2
  have hl : lv_has ls 8 [(0, .ref (k.2.1 0)), (1, .long s9), (3, .ref (k.2.1 P)), (4, .ref (k.2.1 P2))] := hl
  have hi0 : ∀ w ∈ u_ws RX0 TX0 10, w ∈ wsX4_hashPair := by decide +kernel
  have hP1 := hP.1
  refine lv_lload_n hx hb dX4_hashPair_0 rfl (lv_at hl 1 rfl) ?_
  refine lv_ldc2 (v := 31) hx hb hown (hts (.constantLong RX4 222 31) (by decide +kernel)) dX4_hashPair_1 ?_
  refine lv_lmul hx hb dX4_hashPair_4 ?_
  refine lv_aload_n hx hb dX4_hashPair_5 rfl (lv_at hl 2 rfl) ?_
  refine q_get X w P 7 (ci := 0) (pp_lt0 hP) (hE_p0 hP k _) rfl hi0 (by decide) (by decide +kernel) rfl dX4_hashPair_6 ?_
  refine lv_i2l hx hb dX4_hashPair_9 rfl ?_
  refine lv_ladd hx hb dX4_hashPair_10 ?_
  refine lv_lstore (lv' := [(5, .long ((s9 * 31) + ((h.1 P 7).toInt64))), (0, .ref (k.2.1 0)), (1, .long s9), (3, .ref (k.2.1 P)), (4, .ref (k.2.1 P2))]) hx hb dX4_hashPair_11 hl (by decide) rfl (fun ls hl => ?_)
  refine lv_iconst (v := nI 0) hx hb dX4_hashPair_13 (by decide) ?_
  refine lv_istore (lv' := [(7, .int (nI 0)), (5, .long ((s9 * 31) + ((h.1 P 7).toInt64))), (0, .ref (k.2.1 0)), (1, .long s9), (3, .ref (k.2.1 P)), (4, .ref (k.2.1 P2))]) hx hb dX4_hashPair_14 hl (by decide) rfl (fun ls hl => ?_)
  have lp : ∀ (fu : Nat) (t : Nat) (v : Int64), (t ≤ 16 ∧ v = hpT h P P2 t (s9 * 31 + (h.1 P 7).toInt64)) → (16 - t) < fu → ∀ (H : Heap) (locs : List Loc) (ls : Array Slot), WX k s H locs h → lv_has ls 8 [(0, .ref (k.2.1 0)), (3, .ref (k.2.1 P)), (4, .ref (k.2.1 P2)), (5, .long v), (7, .int (nI t))] → W p l e rc_X4_hashPair s m args below meth c H locs 0 0 Q (F0 m 16 ls []) := by
    intro fu
    induction fu with
    | zero => intro t v _ hm; exact absurd hm (Nat.not_lt_zero _)
    | succ fu ih =>
      intro t v hinv hm H locs ls w hl
      have ht := hinv.1
      refine lv_iload hx hb dX4_hashPair_16 (lv_at hl 4 rfl) ?_
      refine lv_bipush (v := nI 16) hx hb dX4_hashPair_18 (by decide) ?_
      refine q_icge X (tgt := 147) (by omega) (by decide) dX4_hashPair_20 (by decide) (fun c_20 => ?_) (fun c_20 => ?_)
      · obtain rfl : t = 16 := by omega
        refine lv_lload hx hb dX4_hashPair_147 (lv_at hl 3 rfl) ?_
        refine lv_ldc2 (v := 31) hx hb hown (hts (.constantLong RX4 222 31) (by decide +kernel)) dX4_hashPair_149 ?_
        refine lv_lmul hx hb dX4_hashPair_152 ?_
        refine lv_aload_n hx hb dX4_hashPair_153 rfl (lv_at hl 0 rfl) ?_
        refine lv_aload_n hx hb dX4_hashPair_154 rfl (lv_at hl 1 rfl) ?_
        refine lv_aload hx hb dX4_hashPair_155 (lv_at hl 2 rfl) ?_
        refine q_calli w (q_runV X w 0 (c_X4_efficient l k h hP hP2) (cwV 2 hts gX4_hashPair_X4_efficient rfl rfl rfl (by decide +kernel) ⟨Nat.le_of_ble_eq_true rfl, Nat.le_of_ble_eq_true rfl⟩) (by decide) rfl rfl rfl hl.1 rfl (Nat.le_of_ble_eq_true rfl) dX4_hashPair_157 ⟨Nat.le_of_ble_eq_true rfl, Nat.le_of_ble_eq_true rfl⟩) (fun r_157 h_157 H locs hp w => ?_)
        obtain ⟨er_157, eh_157⟩ := hp
        have er_157 : r_157 = bI (effz (rtz h P P2)) := er_157
        rcases hf_157 : effz (rtz h P P2) with _ | _
        · rw [hf_157] at er_157
          have er_157 : r_157 = nI 0 := er_157
          subst er_157
          refine lv_if_eq (tgt := 167) hx hb dX4_hashPair_160 (by decide) (fun c_160 => ?_) (fun c_160 => ?_)
          · refine lv_iconst (v := nI 0) hx hb dX4_hashPair_167 (by decide) ?_
            refine lv_i2l hx hb dX4_hashPair_168 rfl ?_
            refine lv_ladd hx hb dX4_hashPair_169 ?_
            refine lv_lstore (lv' := [(5, .long ((v * 31) + ((nI 0).toInt64))), (0, .ref (k.2.1 0)), (3, .ref (k.2.1 P)), (4, .ref (k.2.1 P2)), (7, .int (nI 16))]) hx hb dX4_hashPair_170 hl (by decide) rfl (fun ls hl => ?_)
            refine lv_lload hx hb dX4_hashPair_172 (lv_at hl 0 rfl) ?_
            refine lv_aload_n hx hb dX4_hashPair_174 rfl (lv_at hl 2 rfl) ?_
            refine q_get X w P 6 (ci := 0) (pp_lt0 hP) (hE_p0 hP k _) rfl hi0 (by decide) (by decide +kernel) rfl dX4_hashPair_175 ?_
            refine q_calll w (q_runS X w (c_X4_hashTalk l k h_157 hP ((v * 31) + ((nI 0).toInt64))) (va_cwS 2 hts gX4_hashPair_X4_hashTalk rfl rfl rfl (by decide +kernel) ⟨Nat.le_of_ble_eq_true rfl, Nat.le_of_ble_eq_true rfl⟩) rfl hl.1 rfl (Nat.le_of_ble_eq_true rfl) dX4_hashPair_178 ⟨Nat.le_of_ble_eq_true rfl, Nat.le_of_ble_eq_true rfl⟩) (fun r_178 h_178 H locs hp w => ?_)
            obtain ⟨er_178, eh_178⟩ := hp
            rw [eh_178] at w
            have er_178 : r_178 = htz ((v * 31) + ((nI 0).toInt64)) (h_157.1 (P + 7)) := er_178
            subst er_178
            refine lv_lstore (lv' := [(5, .long (htz ((v * 31) + ((nI 0).toInt64)) (h_157.1 (P + 7)))), (0, .ref (k.2.1 0)), (3, .ref (k.2.1 P)), (4, .ref (k.2.1 P2)), (7, .int (nI 16))]) hx hb dX4_hashPair_181 hl (by decide) rfl (fun ls hl => ?_)
            refine lv_lload hx hb dX4_hashPair_183 (lv_at hl 0 rfl) ?_
            refine lv_ldc2 (v := 31) hx hb hown (hts (.constantLong RX4 222 31) (by decide +kernel)) dX4_hashPair_185 ?_
            refine lv_lmul hx hb dX4_hashPair_188 ?_
            refine lv_aload_n hx hb dX4_hashPair_189 rfl (lv_at hl 2 rfl) ?_
            refine q_get X w P 8 (ci := 0) (pp_lt0 hP) (hE_p0 hP k _) rfl hi0 (by decide) (by decide +kernel) rfl dX4_hashPair_190 ?_
            refine lv_i2l hx hb dX4_hashPair_193 rfl ?_
            refine lv_ladd hx hb dX4_hashPair_194 ?_
            exact hret _ _ _ _ _ _ _ _ dX4_hashPair_195 w ⟨by rw [hpz, hf_157, eh_157, rtz_o _ _ _ (by omega) (by omega), rtz_o _ _ _ (by omega) (by omega), ← hinv.2]; rfl, eh_157⟩ (Nat.le_of_ble_eq_true rfl) (Nat.le_of_ble_eq_true rfl)
          · exact absurd (by decide) c_160
        · rw [hf_157] at er_157
          have er_157 : r_157 = nI 1 := er_157
          subst er_157
          refine lv_if_eq (tgt := 167) hx hb dX4_hashPair_160 (by decide) (fun c_160 => ?_) (fun c_160 => ?_)
          · exact absurd c_160 (by decide)
          · refine lv_iconst (v := nI 1) hx hb dX4_hashPair_163 (by decide) ?_
            refine lv_goto (tgt := 168) hx hb dX4_hashPair_164 (by decide) ?_
            refine lv_i2l hx hb dX4_hashPair_168 rfl ?_
            refine lv_ladd hx hb dX4_hashPair_169 ?_
            refine lv_lstore (lv' := [(5, .long ((v * 31) + ((nI 1).toInt64))), (0, .ref (k.2.1 0)), (3, .ref (k.2.1 P)), (4, .ref (k.2.1 P2)), (7, .int (nI 16))]) hx hb dX4_hashPair_170 hl (by decide) rfl (fun ls hl => ?_)
            refine lv_lload hx hb dX4_hashPair_172 (lv_at hl 0 rfl) ?_
            refine lv_aload_n hx hb dX4_hashPair_174 rfl (lv_at hl 2 rfl) ?_
            refine q_get X w P 6 (ci := 0) (pp_lt0 hP) (hE_p0 hP k _) rfl hi0 (by decide) (by decide +kernel) rfl dX4_hashPair_175 ?_
            refine q_calll w (q_runS X w (c_X4_hashTalk l k h_157 hP ((v * 31) + ((nI 1).toInt64))) (va_cwS 2 hts gX4_hashPair_X4_hashTalk rfl rfl rfl (by decide +kernel) ⟨Nat.le_of_ble_eq_true rfl, Nat.le_of_ble_eq_true rfl⟩) rfl hl.1 rfl (Nat.le_of_ble_eq_true rfl) dX4_hashPair_178 ⟨Nat.le_of_ble_eq_true rfl, Nat.le_of_ble_eq_true rfl⟩) (fun r_178 h_178 H locs hp w => ?_)
            obtain ⟨er_178, eh_178⟩ := hp
            rw [eh_178] at w
            have er_178 : r_178 = htz ((v * 31) + ((nI 1).toInt64)) (h_157.1 (P + 7)) := er_178
            subst er_178
            refine lv_lstore (lv' := [(5, .long (htz ((v * 31) + ((nI 1).toInt64)) (h_157.1 (P + 7)))), (0, .ref (k.2.1 0)), (3, .ref (k.2.1 P)), (4, .ref (k.2.1 P2)), (7, .int (nI 16))]) hx hb dX4_hashPair_181 hl (by decide) rfl (fun ls hl => ?_)
            refine lv_lload hx hb dX4_hashPair_183 (lv_at hl 0 rfl) ?_
            refine lv_ldc2 (v := 31) hx hb hown (hts (.constantLong RX4 222 31) (by decide +kernel)) dX4_hashPair_185 ?_
            refine lv_lmul hx hb dX4_hashPair_188 ?_
            refine lv_aload_n hx hb dX4_hashPair_189 rfl (lv_at hl 2 rfl) ?_
            refine q_get X w P 8 (ci := 0) (pp_lt0 hP) (hE_p0 hP k _) rfl hi0 (by decide) (by decide +kernel) rfl dX4_hashPair_190 ?_
            refine lv_i2l hx hb dX4_hashPair_193 rfl ?_
            refine lv_ladd hx hb dX4_hashPair_194 ?_
            exact hret _ _ _ _ _ _ _ _ dX4_hashPair_195 w ⟨by rw [hpz, hf_157, eh_157, rtz_o _ _ _ (by omega) (by omega), rtz_o _ _ _ (by omega) (by omega), ← hinv.2]; rfl, eh_157⟩ (Nat.le_of_ble_eq_true rfl) (Nat.le_of_ble_eq_true rfl)
      · refine lv_lload hx hb dX4_hashPair_23 (lv_at hl 3 rfl) ?_
        refine lv_ldc2 (v := 31) hx hb hown (hts (.constantLong RX4 222 31) (by decide +kernel)) dX4_hashPair_25 ?_
        refine lv_lmul hx hb dX4_hashPair_28 ?_
        refine lv_aload_n hx hb dX4_hashPair_29 rfl (lv_at hl 1 rfl) ?_
        refine q_get X w P 0 (ci := 0) (pp_lt0 hP) (hE_p0 hP k _) rfl hi0 (by decide) (by decide +kernel) rfl dX4_hashPair_30 ?_
        refine lv_iload hx hb dX4_hashPair_33 (lv_at hl 4 rfl) ?_
        refine q_iald X w (P + 1) t (pp_lt hP (c := 1) (by decide)) (hE_pi hP 1 (by decide) (by decide) k) rfl (by omega) (by decide) dX4_hashPair_35 ?_
        refine lv_i2l hx hb dX4_hashPair_36 rfl ?_
        refine lv_ladd hx hb dX4_hashPair_37 ?_
        refine lv_lstore (lv' := [(5, .long ((v * 31) + ((h.1 (P + 1) t).toInt64))), (0, .ref (k.2.1 0)), (3, .ref (k.2.1 P)), (4, .ref (k.2.1 P2)), (7, .int (nI t))]) hx hb dX4_hashPair_38 hl (by decide) rfl (fun ls hl => ?_)
        refine lv_lload hx hb dX4_hashPair_40 (lv_at hl 0 rfl) ?_
        refine lv_ldc2 (v := 31) hx hb hown (hts (.constantLong RX4 222 31) (by decide +kernel)) dX4_hashPair_42 ?_
        refine lv_lmul hx hb dX4_hashPair_45 ?_
        refine lv_aload_n hx hb dX4_hashPair_46 rfl (lv_at hl 2 rfl) ?_
        refine q_get X w P 1 (ci := 0) (pp_lt0 hP) (hE_p0 hP k _) rfl hi0 (by decide) (by decide +kernel) rfl dX4_hashPair_47 ?_
        refine lv_iload hx hb dX4_hashPair_50 (lv_at hl 4 rfl) ?_
        refine q_iald X w (P + 2) t (pp_lt hP (c := 2) (by decide)) (hE_pi hP 2 (by decide) (by decide) k) rfl (by omega) (by decide) dX4_hashPair_52 ?_
        refine lv_i2l hx hb dX4_hashPair_53 rfl ?_
        refine lv_ladd hx hb dX4_hashPair_54 ?_
        refine lv_lstore (lv' := [(5, .long ((((v * 31) + ((h.1 (P + 1) t).toInt64)) * 31) + ((h.1 (P + 2) t).toInt64))), (0, .ref (k.2.1 0)), (3, .ref (k.2.1 P)), (4, .ref (k.2.1 P2)), (7, .int (nI t))]) hx hb dX4_hashPair_55 hl (by decide) rfl (fun ls hl => ?_)
        refine lv_lload hx hb dX4_hashPair_57 (lv_at hl 0 rfl) ?_
        refine lv_ldc2 (v := 31) hx hb hown (hts (.constantLong RX4 222 31) (by decide +kernel)) dX4_hashPair_59 ?_
        refine lv_lmul hx hb dX4_hashPair_62 ?_
        refine lv_aload_n hx hb dX4_hashPair_63 rfl (lv_at hl 2 rfl) ?_
        refine q_get X w P 2 (ci := 0) (pp_lt0 hP) (hE_p0 hP k _) rfl hi0 (by decide) (by decide +kernel) rfl dX4_hashPair_64 ?_
        refine lv_iload hx hb dX4_hashPair_67 (lv_at hl 4 rfl) ?_
        refine q_iald X w (P + 3) t (pp_lt hP (c := 3) (by decide)) (hE_pi hP 3 (by decide) (by decide) k) rfl (by omega) (by decide) dX4_hashPair_69 ?_
        refine lv_i2l hx hb dX4_hashPair_70 rfl ?_
        refine lv_ladd hx hb dX4_hashPair_71 ?_
        refine lv_lstore (lv' := [(5, .long ((((((v * 31) + ((h.1 (P + 1) t).toInt64)) * 31) + ((h.1 (P + 2) t).toInt64)) * 31) + ((h.1 (P + 3) t).toInt64))), (0, .ref (k.2.1 0)), (3, .ref (k.2.1 P)), (4, .ref (k.2.1 P2)), (7, .int (nI t))]) hx hb dX4_hashPair_72 hl (by decide) rfl (fun ls hl => ?_)
        refine lv_lload hx hb dX4_hashPair_74 (lv_at hl 0 rfl) ?_
        refine lv_ldc2 (v := 31) hx hb hown (hts (.constantLong RX4 222 31) (by decide +kernel)) dX4_hashPair_76 ?_
        refine lv_lmul hx hb dX4_hashPair_79 ?_
        refine lv_aload_n hx hb dX4_hashPair_80 rfl (lv_at hl 2 rfl) ?_
        refine q_get X w P 3 (ci := 0) (pp_lt0 hP) (hE_p0 hP k _) rfl hi0 (by decide) (by decide +kernel) rfl dX4_hashPair_81 ?_
        refine lv_iload hx hb dX4_hashPair_84 (lv_at hl 4 rfl) ?_
        refine q_iald X w (P + 4) t (pp_lt hP (c := 4) (by decide)) (hE_pi hP 4 (by decide) (by decide) k) rfl (by omega) (by decide) dX4_hashPair_86 ?_
        refine lv_i2l hx hb dX4_hashPair_87 rfl ?_
        refine lv_ladd hx hb dX4_hashPair_88 ?_
        refine lv_lstore (lv' := [(5, .long ((((((((v * 31) + ((h.1 (P + 1) t).toInt64)) * 31) + ((h.1 (P + 2) t).toInt64)) * 31) + ((h.1 (P + 3) t).toInt64)) * 31) + ((h.1 (P + 4) t).toInt64))), (0, .ref (k.2.1 0)), (3, .ref (k.2.1 P)), (4, .ref (k.2.1 P2)), (7, .int (nI t))]) hx hb dX4_hashPair_89 hl (by decide) rfl (fun ls hl => ?_)
        refine lv_lload hx hb dX4_hashPair_91 (lv_at hl 0 rfl) ?_
        refine lv_ldc2 (v := 31) hx hb hown (hts (.constantLong RX4 222 31) (by decide +kernel)) dX4_hashPair_93 ?_
        refine lv_lmul hx hb dX4_hashPair_96 ?_
        refine lv_aload_n hx hb dX4_hashPair_97 rfl (lv_at hl 2 rfl) ?_
        refine q_get X w P 4 (ci := 0) (pp_lt0 hP) (hE_p0 hP k _) rfl hi0 (by decide) (by decide +kernel) rfl dX4_hashPair_98 ?_
        refine lv_iload hx hb dX4_hashPair_101 (lv_at hl 4 rfl) ?_
        refine q_iald X w (P + 5) t (pp_lt hP (c := 5) (by decide)) (hE_pi hP 5 (by decide) (by decide) k) rfl (by omega) (by decide) dX4_hashPair_103 ?_
        refine lv_i2l hx hb dX4_hashPair_104 rfl ?_
        refine lv_ladd hx hb dX4_hashPair_105 ?_
        refine lv_lstore (lv' := [(5, .long ((((((((((v * 31) + ((h.1 (P + 1) t).toInt64)) * 31) + ((h.1 (P + 2) t).toInt64)) * 31) + ((h.1 (P + 3) t).toInt64)) * 31) + ((h.1 (P + 4) t).toInt64)) * 31) + ((h.1 (P + 5) t).toInt64))), (0, .ref (k.2.1 0)), (3, .ref (k.2.1 P)), (4, .ref (k.2.1 P2)), (7, .int (nI t))]) hx hb dX4_hashPair_106 hl (by decide) rfl (fun ls hl => ?_)
        refine lv_lload hx hb dX4_hashPair_108 (lv_at hl 0 rfl) ?_
        refine lv_ldc2 (v := 31) hx hb hown (hts (.constantLong RX4 222 31) (by decide +kernel)) dX4_hashPair_110 ?_
        refine lv_lmul hx hb dX4_hashPair_113 ?_
        refine lv_aload_n hx hb dX4_hashPair_114 rfl (lv_at hl 2 rfl) ?_
        refine q_get X w P 5 (ci := 0) (pp_lt0 hP) (hE_p0 hP k _) rfl hi0 (by decide) (by decide +kernel) rfl dX4_hashPair_115 ?_
        refine lv_iload hx hb dX4_hashPair_118 (lv_at hl 4 rfl) ?_
        refine q_lald X w (P + 6) t (pp_lt hP (c := 6) (by decide)) (hE_p6 hP k) rfl (by omega) (by decide) dX4_hashPair_120 ?_
        refine lv_ladd hx hb dX4_hashPair_121 ?_
        refine lv_lstore (lv' := [(5, .long ((((((((((((v * 31) + ((h.1 (P + 1) t).toInt64)) * 31) + ((h.1 (P + 2) t).toInt64)) * 31) + ((h.1 (P + 3) t).toInt64)) * 31) + ((h.1 (P + 4) t).toInt64)) * 31) + ((h.1 (P + 5) t).toInt64)) * 31) + (h.2.1 (P + 6) t))), (0, .ref (k.2.1 0)), (3, .ref (k.2.1 P)), (4, .ref (k.2.1 P2)), (7, .int (nI t))]) hx hb dX4_hashPair_122 hl (by decide) rfl (fun ls hl => ?_)
        refine lv_lload hx hb dX4_hashPair_124 (lv_at hl 0 rfl) ?_
        refine lv_ldc2 (v := 31) hx hb hown (hts (.constantLong RX4 222 31) (by decide +kernel)) dX4_hashPair_126 ?_
        refine lv_lmul hx hb dX4_hashPair_129 ?_
        refine lv_aload_n hx hb dX4_hashPair_130 rfl (lv_at hl 2 rfl) ?_
        refine lv_aload hx hb dX4_hashPair_131 (lv_at hl 3 rfl) ?_
        refine lv_iload hx hb dX4_hashPair_133 (lv_at hl 4 rfl) ?_
        refine q_calll w (q_runV X w P (c_X0_marginBeside l k h hP hP2 (t := t) (by omega)) (cwV 2 hts gX4_hashPair_X0_marginBeside rfl rfl rfl (by decide +kernel) ⟨Nat.le_of_ble_eq_true rfl, Nat.le_of_ble_eq_true rfl⟩) (pp_lt0 hP) (hE_p0 hP k _) rfl rfl hl.1 rfl (Nat.le_of_ble_eq_true rfl) dX4_hashPair_135 ⟨Nat.le_of_ble_eq_true rfl, Nat.le_of_ble_eq_true rfl⟩) (fun r_135 h_135 H locs hp w => ?_)
        obtain ⟨er_135, eh_135⟩ := hp
        rw [eh_135] at w
        have er_135 : r_135 = mgP h P P2 t := er_135
        subst er_135
        refine lv_ladd hx hb dX4_hashPair_138 ?_
        refine lv_lstore (lv' := [(5, .long ((((((((((((((v * 31) + ((h.1 (P + 1) t).toInt64)) * 31) + ((h.1 (P + 2) t).toInt64)) * 31) + ((h.1 (P + 3) t).toInt64)) * 31) + ((h.1 (P + 4) t).toInt64)) * 31) + ((h.1 (P + 5) t).toInt64)) * 31) + (h.2.1 (P + 6) t)) * 31) + (mgP h P P2 t))), (0, .ref (k.2.1 0)), (3, .ref (k.2.1 P)), (4, .ref (k.2.1 P2)), (7, .int (nI t))]) hx hb dX4_hashPair_139 hl (by decide) rfl (fun ls hl => ?_)
        refine lv_iinc (v := nI (t + 1)) (lv' := [(7, .int (nI (t + 1))), (5, .long ((((((((((((((v * 31) + ((h.1 (P + 1) t).toInt64)) * 31) + ((h.1 (P + 2) t).toInt64)) * 31) + ((h.1 (P + 3) t).toInt64)) * 31) + ((h.1 (P + 4) t).toInt64)) * 31) + ((h.1 (P + 5) t).toInt64)) * 31) + (h.2.1 (P + 6) t)) * 31) + (mgP h P P2 t))), (0, .ref (k.2.1 0)), (3, .ref (k.2.1 P)), (4, .ref (k.2.1 P2))]) hx hb dX4_hashPair_141 hl (k := 4) rfl (nI_1 _) (by decide) rfl (fun ls hl => ?_)
        refine lv_goto (tgt := 16) hx hb dX4_hashPair_144 (by decide) ?_
        exact ih (t + 1) ((((((((((((((v * 31) + ((h.1 (P + 1) t).toInt64)) * 31) + ((h.1 (P + 2) t).toInt64)) * 31) + ((h.1 (P + 3) t).toInt64)) * 31) + ((h.1 (P + 4) t).toInt64)) * 31) + ((h.1 (P + 5) t).toInt64)) * 31) + (h.2.1 (P + 6) t)) * 31) + (mgP h P P2 t)) ⟨by omega, by rw [hpT, ← hinv.2]⟩ (by omega) _ _ _ w (lv_sub hl [2, 3, 4, 1, 0] rfl)
  exact lp 17 0 ((s9 * 31) + ((h.1 P 7).toInt64)) ⟨by omega, rfl⟩ (by omega) _ _ _ w (lv_sub hl [2, 4, 5, 1, 0] rfl)

abbrev rc_X4_digest : Room := { frames := 5, cells := 0, slots := 0, locals := 124 }
set_option maxHeartbeats 4000000 in
set_option maxRecDepth 100000 in
theorem c_X4_digest (l : Launch) (k : kY) (h : hS)  : CT l k yX4_digest wsX4_digest rc_X4_digest [.ref (k.2.1 0)] h (QL k (fun r h' => r = dgz h ∧ h' = rt2 h)) 0 0 := by
  refine q_metL (cc := cX4_digest) (maxL := 3) (by decide) rfl (Nat.le_of_ble_eq_true rfl) ?_
  intro p e s m args below meth c Q ls X w hl hret
  have hx := X.1
  have hb := X.2.1
  have hown := X.2.2.2.1
  have hts := X.2.2.2.2
  have hl : lv_has ls 3 [(0, .ref (k.2.1 0))] := hl
  have hi2 : ∀ w ∈ u_ws RX2 TX2 3, w ∈ wsX4_digest := by decide +kernel
  have hi4 : ∀ w ∈ u_ws RX4 TX4 5, w ∈ wsX4_digest := by decide +kernel
  refine lv_ldc2 (v := 86459) hx hb hown (hts (.constantLong RX4 216 86459) (by decide +kernel)) dX4_digest_0 ?_
  refine lv_aload_n hx hb dX4_digest_3 rfl (lv_at hl 0 rfl) ?_
  refine q_get X w 0 0 (ci := 4) (by decide) rfl rfl hi4 (by decide) (by decide +kernel) rfl dX4_digest_4 ?_
  refine q_get X w 6 0 (ci := 2) (by decide) rfl rfl hi2 (by decide) (by decide +kernel) rfl dX4_digest_7 ?_
  refine lv_i2l hx hb dX4_digest_10 rfl ?_
  refine lv_ladd hx hb dX4_digest_11 ?_
  refine lv_lstore_n (lv' := [(1, .long (86459 + ((h.1 6 0).toInt64))), (0, .ref (k.2.1 0))]) hx hb dX4_digest_12 rfl hl (by decide) rfl (fun ls hl => ?_)
  refine lv_aload_n hx hb dX4_digest_13 rfl (lv_at hl 1 rfl) ?_
  refine lv_lload_n hx hb dX4_digest_14 rfl (lv_at hl 0 rfl) ?_
  refine lv_aload_n hx hb dX4_digest_15 rfl (lv_at hl 1 rfl) ?_
  refine q_get X w 0 0 (ci := 4) (by decide) rfl rfl hi4 (by decide) (by decide +kernel) rfl dX4_digest_16 ?_
  refine q_get X w 6 1 (ci := 2) (by decide) rfl rfl hi2 (by decide) (by decide +kernel) rfl dX4_digest_19 ?_
  refine lv_aload_n hx hb dX4_digest_22 rfl (lv_at hl 1 rfl) ?_
  refine q_get X w 0 0 (ci := 4) (by decide) rfl rfl hi4 (by decide) (by decide +kernel) rfl dX4_digest_23 ?_
  refine q_get X w 6 2 (ci := 2) (by decide) rfl rfl hi2 (by decide) (by decide +kernel) rfl dX4_digest_26 ?_
  refine q_calll w (q_runV X w 0 (c_X4_hashPair l k h pp11 pp19 (86459 + ((h.1 6 0).toInt64))) (cwV 3 hts gX4_digest_X4_hashPair rfl rfl rfl (by decide +kernel) ⟨Nat.le_of_ble_eq_true rfl, Nat.le_of_ble_eq_true rfl⟩) (by decide) rfl rfl rfl hl.1 rfl (Nat.le_of_ble_eq_true rfl) dX4_digest_29 ⟨Nat.le_of_ble_eq_true rfl, Nat.le_of_ble_eq_true rfl⟩) (fun r_29 h_29 H locs hp w => ?_)
  obtain ⟨er_29, eh_29⟩ := hp
  refine lv_lstore_n (lv' := [(1, .long r_29), (0, .ref (k.2.1 0))]) hx hb dX4_digest_32 rfl hl (by decide) rfl (fun ls hl => ?_)
  refine lv_aload_n hx hb dX4_digest_33 rfl (lv_at hl 1 rfl) ?_
  refine lv_lload_n hx hb dX4_digest_34 rfl (lv_at hl 0 rfl) ?_
  refine lv_aload_n hx hb dX4_digest_35 rfl (lv_at hl 1 rfl) ?_
  refine q_get X w 0 0 (ci := 4) (by decide) rfl rfl hi4 (by decide) (by decide +kernel) rfl dX4_digest_36 ?_
  refine q_get X w 6 2 (ci := 2) (by decide) rfl rfl hi2 (by decide) (by decide +kernel) rfl dX4_digest_39 ?_
  refine lv_aload_n hx hb dX4_digest_42 rfl (lv_at hl 1 rfl) ?_
  refine q_get X w 0 0 (ci := 4) (by decide) rfl rfl hi4 (by decide) (by decide +kernel) rfl dX4_digest_43 ?_
  refine q_get X w 6 1 (ci := 2) (by decide) rfl rfl hi2 (by decide) (by decide +kernel) rfl dX4_digest_46 ?_
  refine q_calll w (q_runV X w 0 (c_X4_hashPair l k h_29 pp19 pp11 r_29) (cwV 3 hts gX4_digest_X4_hashPair rfl rfl rfl (by decide +kernel) ⟨Nat.le_of_ble_eq_true rfl, Nat.le_of_ble_eq_true rfl⟩) (by decide) rfl rfl rfl hl.1 rfl (Nat.le_of_ble_eq_true rfl) dX4_digest_49 ⟨Nat.le_of_ble_eq_true rfl, Nat.le_of_ble_eq_true rfl⟩) (fun r_49 h_49 H locs hp w => ?_)
  obtain ⟨er_49, eh_49⟩ := hp
  refine lv_lstore_n (lv' := [(1, .long r_49), (0, .ref (k.2.1 0))]) hx hb dX4_digest_52 rfl hl (by decide) rfl (fun ls hl => ?_)
  refine lv_lload_n hx hb dX4_digest_53 rfl (lv_at hl 0 rfl) ?_
  refine lv_ldc2 (v := 31) hx hb hown (hts (.constantLong RX4 222 31) (by decide +kernel)) dX4_digest_54 ?_
  refine lv_lmul hx hb dX4_digest_57 ?_
  refine lv_aload_n hx hb dX4_digest_58 rfl (lv_at hl 1 rfl) ?_
  refine q_get X w 0 3 (ci := 4) (by decide) rfl rfl hi4 (by decide) (by decide +kernel) rfl dX4_digest_59 ?_
  refine lv_i2l hx hb dX4_digest_62 rfl ?_
  refine lv_ladd hx hb dX4_digest_63 ?_
  exact hret _ _ _ _ _ _ _ _ dX4_digest_64 w ⟨by rw [er_49, er_29, eh_49, eh_29]; rfl, by rw [eh_49, eh_29]; rfl⟩ (Nat.le_of_ble_eq_true rfl) (Nat.le_of_ble_eq_true rfl)
