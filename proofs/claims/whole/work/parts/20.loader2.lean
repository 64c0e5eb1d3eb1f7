abbrev rc_X4_setNoise : Room := { frames := 7, cells := 5, slots := 30, locals := 112 }
set_option maxHeartbeats 4000000 in
set_option maxRecDepth 100000 in
theorem c_X4_setNoise (l : Launch) (k : kY) (h : hS) (hst : l.stackTraces = false) (x y z : Int32) {a b : Nat} (hs : SI h a b) : CX l k yX4_setNoise wsX4_setNoise rc_X4_setNoise [.ref (k.2.1 0), .int x, .int y, .int z] h (QI k (fun r h' => ∃ q t : Nat, q < 2 ∧ t < 16 ∧ x = nI q ∧ y = nI t ∧ okR z (nI 1) (nI 10000) ∧ r = (svz h a b).1 (11 + 8 * q + 1) t ∧ h' = upI (svz h a b) (11 + 8 * q + 1) t z)) (fun E h' => h' = h ∧ ((E = xIO ∧ ¬ (isP x ∧ isT y)) ∨ (E = xIA ∧ isP x ∧ isT y ∧ ¬ okR z (nI 1) (nI 10000)))) 5 30 := by
  refine q_xmet (cc := cX4_setNoise) (maxL := 6) (ret := (some .int)) (by decide) rfl (Nat.le_of_ble_eq_true rfl) ?_
  intro p e s m args below meth c Q ls X hnh hlocks hrt hQ w hl
  have hx := X.1
  have hb := X.2.1
  have hown := X.2.2.2.1
  have hts := X.2.2.2.2
  have hl : lv_has ls 6 [(0, .ref (k.2.1 0)), (1, .int x), (2, .int y), (3, .int z)] := hl
  have hi0 : ∀ w ∈ u_ws RX0 TX0 10, w ∈ wsX4_setNoise := by decide +kernel
  refine lv_aload_n hx hb dX4_setNoise_0 rfl (lv_at hl 0 rfl) ?_
  refine lv_iload_n hx hb dX4_setNoise_1 rfl (lv_at hl 1 rfl) ?_
  refine q_xcallr w (q_xrunV X w 0 (c_X4_pairAt l k h hst x) (cwV 1 hts gX4_setNoise_X4_pairAt rfl rfl rfl (by decide +kernel) ⟨Nat.le_of_ble_eq_true rfl, Nat.le_of_ble_eq_true rfl⟩) (by decide) rfl rfl rfl hl.1 rfl (Nat.le_of_ble_eq_true rfl) dX4_setNoise_2 ⟨Nat.le_of_ble_eq_true rfl, Nat.le_of_ble_eq_true rfl⟩) (fun E ce q9 h9 H locs hp w h1 h2 h3 => q_out w hQ hnh hlocks ⟨hp.2.2, Or.inl ⟨hp.1, fun z => hp.2.1 z.1⟩⟩ h1 h2 h3 (Nat.le_of_ble_eq_true rfl) (Nat.le_of_ble_eq_true rfl)) (fun i_2 h_2 H locs hp w => ?_)
  obtain ⟨q, hq, ex_2, ei_2, eh_2⟩ := hp
  dsimp only at ei_2 eh_2
  subst ex_2
  subst ei_2
  rw [eh_2] at w
  have hP : pp (11 + 8 * q) := pp_i (by omega)
  have hP2 : pp (11 + 8 * (1 - q)) := pp_i (by omega)
  refine lv_astore (lv' := [(4, .ref (k.2.1 (11 + 8 * q))), (0, .ref (k.2.1 0)), (1, .int (nI q)), (2, .int y), (3, .int z)]) hx hb dX4_setNoise_5 hl (by decide) rfl (fun ls hl => ?_)
  refine lv_iload_n hx hb dX4_setNoise_7 rfl (lv_at hl 3 rfl) ?_
  refine q_xcallv w (q_xrunS X w (c_X4_checkTone l k h hst y) (va_cwS 1 hts gX4_setNoise_X4_checkTone rfl rfl rfl (by decide +kernel) ⟨Nat.le_of_ble_eq_true rfl, Nat.le_of_ble_eq_true rfl⟩) rfl hl.1 rfl (Nat.le_of_ble_eq_true rfl) dX4_setNoise_8 ⟨Nat.le_of_ble_eq_true rfl, Nat.le_of_ble_eq_true rfl⟩) (fun E ce q9 h9 H locs hp w h1 h2 h3 => q_out w hQ hnh hlocks ⟨hp.2.2, Or.inl ⟨hp.1, fun z => hp.2.1 z.2⟩⟩ h1 h2 h3 (Nat.le_of_ble_eq_true rfl) (Nat.le_of_ble_eq_true rfl)) (fun h_8 H locs hp w => ?_)
  obtain ⟨⟨t, ht, ex_8⟩, eh_8⟩ := hp
  subst ex_8
  rw [eh_8] at w
  refine lv_iload_n hx hb dX4_setNoise_11 rfl (lv_at hl 4 rfl) ?_
  refine lv_iconst (v := nI 1) hx hb dX4_setNoise_12 (by decide) ?_
  refine lv_sipush (v := nI 10000) hx hb dX4_setNoise_13 (by decide) ?_
  refine q_xcallv w (q_xrunS X w (c_X4_checkRange l k h hst z (nI 1) (nI 10000)) (va_cwS 3 hts gX4_setNoise_X4_checkRange rfl rfl rfl (by decide +kernel) ⟨Nat.le_of_ble_eq_true rfl, Nat.le_of_ble_eq_true rfl⟩) rfl hl.1 rfl (Nat.le_of_ble_eq_true rfl) dX4_setNoise_16 ⟨Nat.le_of_ble_eq_true rfl, Nat.le_of_ble_eq_true rfl⟩) (fun E ce q9 h9 H locs hp w h1 h2 h3 => q_out w hQ hnh hlocks ⟨hp.2.2, Or.inr ⟨hp.1, ⟨q, hq, rfl⟩, ⟨t, ht, rfl⟩, hp.2.1⟩⟩ h1 h2 h3 (Nat.le_of_ble_eq_true rfl) (Nat.le_of_ble_eq_true rfl)) (fun h_16 H locs hp w => ?_)
  obtain ⟨hrg_16, eh_16⟩ := hp
  rw [eh_16] at w
  refine lv_aload_n hx hb dX4_setNoise_19 rfl (lv_at hl 1 rfl) ?_
  refine q_callv w (q_runV X w 0 (c_X4_saveState l k h hs) (cwV 0 hts gX4_setNoise_X4_saveState rfl rfl rfl (by decide +kernel) ⟨Nat.le_of_ble_eq_true rfl, Nat.le_of_ble_eq_true rfl⟩) (by decide) rfl rfl rfl hl.1 rfl (Nat.le_of_ble_eq_true rfl) dX4_setNoise_20 ⟨Nat.le_of_ble_eq_true rfl, Nat.le_of_ble_eq_true rfl⟩) (fun h_20 H locs hp w => ?_)
  have eh_20 := hp
  refine lv_aload hx hb dX4_setNoise_23 (lv_at hl 0 rfl) ?_
  refine q_get X w (11 + 8 * q) 0 (ci := 0) (pp_lt0 hP) (hE_p0 hP k _) rfl hi0 (by decide) (by decide +kernel) rfl dX4_setNoise_25 ?_
  refine lv_iload_n hx hb dX4_setNoise_28 rfl (lv_at hl 3 rfl) ?_
  refine q_iald X w ((11 + 8 * q) + 1) t (pp_lt hP (c := 1) (by decide)) (hE_pi hP 1 (by decide) (by decide) k) rfl (by omega) (by decide) dX4_setNoise_29 ?_
  refine lv_topi (fun x_30 ex_30 => ?_)
  refine lv_istore (lv' := [(5, .int x_30), (4, .ref (k.2.1 (11 + 8 * q))), (0, .ref (k.2.1 0)), (1, .int (nI q)), (2, .int (nI t)), (3, .int z)]) hx hb dX4_setNoise_30 hl (by decide) rfl (fun ls hl => ?_)
  refine lv_aload hx hb dX4_setNoise_32 (lv_at hl 1 rfl) ?_
  refine q_get X w (11 + 8 * q) 0 (ci := 0) (pp_lt0 hP) (hE_p0 hP k _) rfl hi0 (by decide) (by decide +kernel) rfl dX4_setNoise_34 ?_
  refine lv_iload_n hx hb dX4_setNoise_37 rfl (lv_at hl 4 rfl) ?_
  refine lv_iload_n hx hb dX4_setNoise_38 rfl (lv_at hl 5 rfl) ?_
  refine q_iast X w ((11 + 8 * q) + 1) t (pp_lt hP (c := 1) (by decide)) (hE_pi hP 1 (by decide) (by decide) k) rfl (by omega) (by decide) dX4_setNoise_39 (fun H locs w => ?_)
  obtain ⟨h_39, eh_39⟩ : ∃ z9, z9 = upI h_20 ((11 + 8 * q) + 1) t z := ⟨_, rfl⟩
  rw [← eh_39] at w
  refine lv_iload hx hb dX4_setNoise_40 (lv_at hl 0 rfl) ?_
  exact q_xretI X w hlocks hrt hQ dX4_setNoise_42 rfl ⟨q, t, hq, ht, rfl, rfl, hrg_16, by rw [ex_30, eh_20], by rw [eh_39, eh_20]⟩ (Nat.le_of_ble_eq_true rfl) (Nat.le_of_ble_eq_true rfl)

abbrev rc_X4_setCoupling : Room := { frames := 7, cells := 5, slots := 30, locals := 112 }
set_option maxHeartbeats 4000000 in
set_option maxRecDepth 100000 in
theorem c_X4_setCoupling (l : Launch) (k : kY) (h : hS) (hst : l.stackTraces = false) (x y z : Int32) {a b : Nat} (hs : SI h a b) : CX l k yX4_setCoupling wsX4_setCoupling rc_X4_setCoupling [.ref (k.2.1 0), .int x, .int y, .int z] h (QI k (fun r h' => ∃ q t : Nat, q < 2 ∧ t < 16 ∧ x = nI q ∧ y = nI t ∧ okR z (nI 0) (nI 1000) ∧ r = (svz h a b).1 (11 + 8 * q + 2) t ∧ h' = upI (svz h a b) (11 + 8 * q + 2) t z)) (fun E h' => h' = h ∧ ((E = xIO ∧ ¬ (isP x ∧ isT y)) ∨ (E = xIA ∧ isP x ∧ isT y ∧ ¬ okR z (nI 0) (nI 1000)))) 5 30 := by
  refine q_xmet (cc := cX4_setCoupling) (maxL := 6) (ret := (some .int)) (by decide) rfl (Nat.le_of_ble_eq_true rfl) ?_
  intro p e s m args below meth c Q ls X hnh hlocks hrt hQ w hl
  have hx := X.1
  have hb := X.2.1
  have hown := X.2.2.2.1
  have hts := X.2.2.2.2
  have hl : lv_has ls 6 [(0, .ref (k.2.1 0)), (1, .int x), (2, .int y), (3, .int z)] := hl
  have hi0 : ∀ w ∈ u_ws RX0 TX0 10, w ∈ wsX4_setCoupling := by decide +kernel
  refine lv_aload_n hx hb dX4_setCoupling_0 rfl (lv_at hl 0 rfl) ?_
  refine lv_iload_n hx hb dX4_setCoupling_1 rfl (lv_at hl 1 rfl) ?_
  refine q_xcallr w (q_xrunV X w 0 (c_X4_pairAt l k h hst x) (cwV 1 hts gX4_setCoupling_X4_pairAt rfl rfl rfl (by decide +kernel) ⟨Nat.le_of_ble_eq_true rfl, Nat.le_of_ble_eq_true rfl⟩) (by decide) rfl rfl rfl hl.1 rfl (Nat.le_of_ble_eq_true rfl) dX4_setCoupling_2 ⟨Nat.le_of_ble_eq_true rfl, Nat.le_of_ble_eq_true rfl⟩) (fun E ce q9 h9 H locs hp w h1 h2 h3 => q_out w hQ hnh hlocks ⟨hp.2.2, Or.inl ⟨hp.1, fun z => hp.2.1 z.1⟩⟩ h1 h2 h3 (Nat.le_of_ble_eq_true rfl) (Nat.le_of_ble_eq_true rfl)) (fun i_2 h_2 H locs hp w => ?_)
  obtain ⟨q, hq, ex_2, ei_2, eh_2⟩ := hp
  dsimp only at ei_2 eh_2
  subst ex_2
  subst ei_2
  rw [eh_2] at w
  have hP : pp (11 + 8 * q) := pp_i (by omega)
  have hP2 : pp (11 + 8 * (1 - q)) := pp_i (by omega)
  refine lv_astore (lv' := [(4, .ref (k.2.1 (11 + 8 * q))), (0, .ref (k.2.1 0)), (1, .int (nI q)), (2, .int y), (3, .int z)]) hx hb dX4_setCoupling_5 hl (by decide) rfl (fun ls hl => ?_)
  refine lv_iload_n hx hb dX4_setCoupling_7 rfl (lv_at hl 3 rfl) ?_
  refine q_xcallv w (q_xrunS X w (c_X4_checkTone l k h hst y) (va_cwS 1 hts gX4_setCoupling_X4_checkTone rfl rfl rfl (by decide +kernel) ⟨Nat.le_of_ble_eq_true rfl, Nat.le_of_ble_eq_true rfl⟩) rfl hl.1 rfl (Nat.le_of_ble_eq_true rfl) dX4_setCoupling_8 ⟨Nat.le_of_ble_eq_true rfl, Nat.le_of_ble_eq_true rfl⟩) (fun E ce q9 h9 H locs hp w h1 h2 h3 => q_out w hQ hnh hlocks ⟨hp.2.2, Or.inl ⟨hp.1, fun z => hp.2.1 z.2⟩⟩ h1 h2 h3 (Nat.le_of_ble_eq_true rfl) (Nat.le_of_ble_eq_true rfl)) (fun h_8 H locs hp w => ?_)
  obtain ⟨⟨t, ht, ex_8⟩, eh_8⟩ := hp
  subst ex_8
  rw [eh_8] at w
  refine lv_iload_n hx hb dX4_setCoupling_11 rfl (lv_at hl 4 rfl) ?_
  refine lv_iconst (v := nI 0) hx hb dX4_setCoupling_12 (by decide) ?_
  refine lv_sipush (v := nI 1000) hx hb dX4_setCoupling_13 (by decide) ?_
  refine q_xcallv w (q_xrunS X w (c_X4_checkRange l k h hst z (nI 0) (nI 1000)) (va_cwS 3 hts gX4_setCoupling_X4_checkRange rfl rfl rfl (by decide +kernel) ⟨Nat.le_of_ble_eq_true rfl, Nat.le_of_ble_eq_true rfl⟩) rfl hl.1 rfl (Nat.le_of_ble_eq_true rfl) dX4_setCoupling_16 ⟨Nat.le_of_ble_eq_true rfl, Nat.le_of_ble_eq_true rfl⟩) (fun E ce q9 h9 H locs hp w h1 h2 h3 => q_out w hQ hnh hlocks ⟨hp.2.2, Or.inr ⟨hp.1, ⟨q, hq, rfl⟩, ⟨t, ht, rfl⟩, hp.2.1⟩⟩ h1 h2 h3 (Nat.le_of_ble_eq_true rfl) (Nat.le_of_ble_eq_true rfl)) (fun h_16 H locs hp w => ?_)
  obtain ⟨hrg_16, eh_16⟩ := hp
  rw [eh_16] at w
  refine lv_aload_n hx hb dX4_setCoupling_19 rfl (lv_at hl 1 rfl) ?_
  refine q_callv w (q_runV X w 0 (c_X4_saveState l k h hs) (cwV 0 hts gX4_setCoupling_X4_saveState rfl rfl rfl (by decide +kernel) ⟨Nat.le_of_ble_eq_true rfl, Nat.le_of_ble_eq_true rfl⟩) (by decide) rfl rfl rfl hl.1 rfl (Nat.le_of_ble_eq_true rfl) dX4_setCoupling_20 ⟨Nat.le_of_ble_eq_true rfl, Nat.le_of_ble_eq_true rfl⟩) (fun h_20 H locs hp w => ?_)
  have eh_20 := hp
  refine lv_aload hx hb dX4_setCoupling_23 (lv_at hl 0 rfl) ?_
  refine q_get X w (11 + 8 * q) 1 (ci := 0) (pp_lt0 hP) (hE_p0 hP k _) rfl hi0 (by decide) (by decide +kernel) rfl dX4_setCoupling_25 ?_
  refine lv_iload_n hx hb dX4_setCoupling_28 rfl (lv_at hl 3 rfl) ?_
  refine q_iald X w ((11 + 8 * q) + 2) t (pp_lt hP (c := 2) (by decide)) (hE_pi hP 2 (by decide) (by decide) k) rfl (by omega) (by decide) dX4_setCoupling_29 ?_
  refine lv_topi (fun x_30 ex_30 => ?_)
  refine lv_istore (lv' := [(5, .int x_30), (4, .ref (k.2.1 (11 + 8 * q))), (0, .ref (k.2.1 0)), (1, .int (nI q)), (2, .int (nI t)), (3, .int z)]) hx hb dX4_setCoupling_30 hl (by decide) rfl (fun ls hl => ?_)
  refine lv_aload hx hb dX4_setCoupling_32 (lv_at hl 1 rfl) ?_
  refine q_get X w (11 + 8 * q) 1 (ci := 0) (pp_lt0 hP) (hE_p0 hP k _) rfl hi0 (by decide) (by decide +kernel) rfl dX4_setCoupling_34 ?_
  refine lv_iload_n hx hb dX4_setCoupling_37 rfl (lv_at hl 4 rfl) ?_
  refine lv_iload_n hx hb dX4_setCoupling_38 rfl (lv_at hl 5 rfl) ?_
  refine q_iast X w ((11 + 8 * q) + 2) t (pp_lt hP (c := 2) (by decide)) (hE_pi hP 2 (by decide) (by decide) k) rfl (by omega) (by decide) dX4_setCoupling_39 (fun H locs w => ?_)
  obtain ⟨h_39, eh_39⟩ : ∃ z9, z9 = upI h_20 ((11 + 8 * q) + 2) t z := ⟨_, rfl⟩
  rw [← eh_39] at w
  refine lv_iload hx hb dX4_setCoupling_40 (lv_at hl 0 rfl) ?_
  exact q_xretI X w hlocks hrt hQ dX4_setCoupling_42 rfl ⟨q, t, hq, ht, rfl, rfl, hrg_16, by rw [ex_30, eh_20], by rw [eh_39, eh_20]⟩ (Nat.le_of_ble_eq_true rfl) (Nat.le_of_ble_eq_true rfl)

abbrev rc_X4_setLimit : Room := { frames := 7, cells := 5, slots := 30, locals := 112 }
set_option maxHeartbeats 4000000 in
set_option maxRecDepth 100000 in
theorem c_X4_setLimit (l : Launch) (k : kY) (h : hS) (hst : l.stackTraces = false) (x y z : Int32) {a b : Nat} (hs : SI h a b) : CX l k yX4_setLimit wsX4_setLimit rc_X4_setLimit [.ref (k.2.1 0), .int x, .int y, .int z] h (QI k (fun r h' => ∃ q t : Nat, q < 2 ∧ t < 16 ∧ x = nI q ∧ y = nI t ∧ okR z (nI 0) (nI 12) ∧ ¬ (z < h.1 (11 + 8 * q + 4) t ∨ z < h.1 (11 + 8 * q + 5) t) ∧ r = (svz h a b).1 (11 + 8 * q + 3) t ∧ h' = upI (svz h a b) (11 + 8 * q + 3) t z)) (fun E h' => h' = h ∧ ((E = xIO ∧ ¬ (isP x ∧ isT y)) ∨ (E = xIA ∧ isP x ∧ isT y ∧ ¬ okR z (nI 0) (nI 12)) ∨ (E = xIS ∧ ∃ q t : Nat, q < 2 ∧ t < 16 ∧ x = nI q ∧ y = nI t ∧ okR z (nI 0) (nI 12) ∧ (z < h.1 (11 + 8 * q + 4) t ∨ z < h.1 (11 + 8 * q + 5) t)))) 5 30 := by
  refine q_xmet (cc := cX4_setLimit) (maxL := 6) (ret := (some .int)) (by decide) rfl (Nat.le_of_ble_eq_true rfl) ?_
  intro p e s m args below meth c Q ls X hnh hlocks hrt hQ w hl
  have hx := X.1
  have hb := X.2.1
  have hown := X.2.2.2.1
  have hts := X.2.2.2.2
  have hl : lv_has ls 6 [(0, .ref (k.2.1 0)), (1, .int x), (2, .int y), (3, .int z)] := hl
  have hi0 : ∀ w ∈ u_ws RX0 TX0 10, w ∈ wsX4_setLimit := by decide +kernel
  have hin_IS : ∀ w ∈ (vx_atS RX4 68 xIS xN).filter goodWord, w ∈ wsX4_setLimit := by decide +kernel
  refine lv_aload_n hx hb dX4_setLimit_0 rfl (lv_at hl 0 rfl) ?_
  refine lv_iload_n hx hb dX4_setLimit_1 rfl (lv_at hl 1 rfl) ?_
  refine q_xcallr w (q_xrunV X w 0 (c_X4_pairAt l k h hst x) (cwV 1 hts gX4_setLimit_X4_pairAt rfl rfl rfl (by decide +kernel) ⟨Nat.le_of_ble_eq_true rfl, Nat.le_of_ble_eq_true rfl⟩) (by decide) rfl rfl rfl hl.1 rfl (Nat.le_of_ble_eq_true rfl) dX4_setLimit_2 ⟨Nat.le_of_ble_eq_true rfl, Nat.le_of_ble_eq_true rfl⟩) (fun E ce q9 h9 H locs hp w h1 h2 h3 => q_out w hQ hnh hlocks ⟨hp.2.2, Or.inl ⟨hp.1, fun z => hp.2.1 z.1⟩⟩ h1 h2 h3 (Nat.le_of_ble_eq_true rfl) (Nat.le_of_ble_eq_true rfl)) (fun i_2 h_2 H locs hp w => ?_)
  obtain ⟨q, hq, ex_2, ei_2, eh_2⟩ := hp
  dsimp only at ei_2 eh_2
  subst ex_2
  subst ei_2
  rw [eh_2] at w
  have hP : pp (11 + 8 * q) := pp_i (by omega)
  have hP2 : pp (11 + 8 * (1 - q)) := pp_i (by omega)
  refine lv_astore (lv' := [(4, .ref (k.2.1 (11 + 8 * q))), (0, .ref (k.2.1 0)), (1, .int (nI q)), (2, .int y), (3, .int z)]) hx hb dX4_setLimit_5 hl (by decide) rfl (fun ls hl => ?_)
  refine lv_iload_n hx hb dX4_setLimit_7 rfl (lv_at hl 3 rfl) ?_
  refine q_xcallv w (q_xrunS X w (c_X4_checkTone l k h hst y) (va_cwS 1 hts gX4_setLimit_X4_checkTone rfl rfl rfl (by decide +kernel) ⟨Nat.le_of_ble_eq_true rfl, Nat.le_of_ble_eq_true rfl⟩) rfl hl.1 rfl (Nat.le_of_ble_eq_true rfl) dX4_setLimit_8 ⟨Nat.le_of_ble_eq_true rfl, Nat.le_of_ble_eq_true rfl⟩) (fun E ce q9 h9 H locs hp w h1 h2 h3 => q_out w hQ hnh hlocks ⟨hp.2.2, Or.inl ⟨hp.1, fun z => hp.2.1 z.2⟩⟩ h1 h2 h3 (Nat.le_of_ble_eq_true rfl) (Nat.le_of_ble_eq_true rfl)) (fun h_8 H locs hp w => ?_)
  obtain ⟨⟨t, ht, ex_8⟩, eh_8⟩ := hp
  subst ex_8
  rw [eh_8] at w
  refine lv_iload_n hx hb dX4_setLimit_11 rfl (lv_at hl 4 rfl) ?_
  refine lv_iconst (v := nI 0) hx hb dX4_setLimit_12 (by decide) ?_
  refine lv_bipush (v := nI 12) hx hb dX4_setLimit_13 (by decide) ?_
  refine q_xcallv w (q_xrunS X w (c_X4_checkRange l k h hst z (nI 0) (nI 12)) (va_cwS 3 hts gX4_setLimit_X4_checkRange rfl rfl rfl (by decide +kernel) ⟨Nat.le_of_ble_eq_true rfl, Nat.le_of_ble_eq_true rfl⟩) rfl hl.1 rfl (Nat.le_of_ble_eq_true rfl) dX4_setLimit_15 ⟨Nat.le_of_ble_eq_true rfl, Nat.le_of_ble_eq_true rfl⟩) (fun E ce q9 h9 H locs hp w h1 h2 h3 => q_out w hQ hnh hlocks ⟨hp.2.2, Or.inr (Or.inl ⟨hp.1, ⟨q, hq, rfl⟩, ⟨t, ht, rfl⟩, hp.2.1⟩)⟩ h1 h2 h3 (Nat.le_of_ble_eq_true rfl) (Nat.le_of_ble_eq_true rfl)) (fun h_15 H locs hp w => ?_)
  obtain ⟨hrg_15, eh_15⟩ := hp
  rw [eh_15] at w
  refine lv_iload_n hx hb dX4_setLimit_18 rfl (lv_at hl 4 rfl) ?_
  refine lv_aload hx hb dX4_setLimit_19 (lv_at hl 0 rfl) ?_
  refine q_get X w (11 + 8 * q) 3 (ci := 0) (pp_lt0 hP) (hE_p0 hP k _) rfl hi0 (by decide) (by decide +kernel) rfl dX4_setLimit_21 ?_
  refine lv_iload_n hx hb dX4_setLimit_24 rfl (lv_at hl 3 rfl) ?_
  refine q_iald X w ((11 + 8 * q) + 4) t (pp_lt hP (c := 4) (by decide)) (hE_pi hP 4 (by decide) (by decide) k) rfl (by omega) (by decide) dX4_setLimit_25 ?_
  refine lv_icmp_lt (tgt := 40) hx hb dX4_setLimit_26 (by decide) (fun c_26 => ?_) (fun c_26 => ?_)
  · exact q_throw X w hst hQ hnh hlocks xF_IS (by decide +kernel) (by decide +kernel) (List.mem_of_getElem? (i := 3) rfl) hin_IS hl.1 dX4_setLimit_40 dX4_setLimit_43 dX4_setLimit_44 dX4_setLimit_46 dX4_setLimit_49 (Nat.le_of_ble_eq_true rfl) (Nat.le_of_ble_eq_true rfl) (Nat.le_of_ble_eq_true rfl) (Nat.le_of_ble_eq_true rfl) ⟨rfl, Or.inr (Or.inr ⟨rfl, q, t, hq, ht, rfl, rfl, hrg_15, (by first | exact Or.inl c_26 | exact Or.inr (Int32.not_le.mp c_37))⟩)⟩ (Nat.le_of_ble_eq_true rfl) (Nat.le_of_ble_eq_true rfl)
  · refine lv_iload_n hx hb dX4_setLimit_29 rfl (lv_at hl 4 rfl) ?_
    refine lv_aload hx hb dX4_setLimit_30 (lv_at hl 0 rfl) ?_
    refine q_get X w (11 + 8 * q) 4 (ci := 0) (pp_lt0 hP) (hE_p0 hP k _) rfl hi0 (by decide) (by decide +kernel) rfl dX4_setLimit_32 ?_
    refine lv_iload_n hx hb dX4_setLimit_35 rfl (lv_at hl 3 rfl) ?_
    refine q_iald X w ((11 + 8 * q) + 5) t (pp_lt hP (c := 5) (by decide)) (hE_pi hP 5 (by decide) (by decide) k) rfl (by omega) (by decide) dX4_setLimit_36 ?_
    refine lv_icmp_ge (tgt := 50) hx hb dX4_setLimit_37 (by decide) (fun c_37 => ?_) (fun c_37 => ?_)
    · refine lv_aload_n hx hb dX4_setLimit_50 rfl (lv_at hl 1 rfl) ?_
      refine q_callv w (q_runV X w 0 (c_X4_saveState l k h hs) (cwV 0 hts gX4_setLimit_X4_saveState rfl rfl rfl (by decide +kernel) ⟨Nat.le_of_ble_eq_true rfl, Nat.le_of_ble_eq_true rfl⟩) (by decide) rfl rfl rfl hl.1 rfl (Nat.le_of_ble_eq_true rfl) dX4_setLimit_51 ⟨Nat.le_of_ble_eq_true rfl, Nat.le_of_ble_eq_true rfl⟩) (fun h_51 H locs hp w => ?_)
      have eh_51 := hp
      refine lv_aload hx hb dX4_setLimit_54 (lv_at hl 0 rfl) ?_
      refine q_get X w (11 + 8 * q) 2 (ci := 0) (pp_lt0 hP) (hE_p0 hP k _) rfl hi0 (by decide) (by decide +kernel) rfl dX4_setLimit_56 ?_
      refine lv_iload_n hx hb dX4_setLimit_59 rfl (lv_at hl 3 rfl) ?_
      refine q_iald X w ((11 + 8 * q) + 3) t (pp_lt hP (c := 3) (by decide)) (hE_pi hP 3 (by decide) (by decide) k) rfl (by omega) (by decide) dX4_setLimit_60 ?_
      refine lv_topi (fun x_61 ex_61 => ?_)
      refine lv_istore (lv' := [(5, .int x_61), (4, .ref (k.2.1 (11 + 8 * q))), (0, .ref (k.2.1 0)), (1, .int (nI q)), (2, .int (nI t)), (3, .int z)]) hx hb dX4_setLimit_61 hl (by decide) rfl (fun ls hl => ?_)
      refine lv_aload hx hb dX4_setLimit_63 (lv_at hl 1 rfl) ?_
      refine q_get X w (11 + 8 * q) 2 (ci := 0) (pp_lt0 hP) (hE_p0 hP k _) rfl hi0 (by decide) (by decide +kernel) rfl dX4_setLimit_65 ?_
      refine lv_iload_n hx hb dX4_setLimit_68 rfl (lv_at hl 4 rfl) ?_
      refine lv_iload_n hx hb dX4_setLimit_69 rfl (lv_at hl 5 rfl) ?_
      refine q_iast X w ((11 + 8 * q) + 3) t (pp_lt hP (c := 3) (by decide)) (hE_pi hP 3 (by decide) (by decide) k) rfl (by omega) (by decide) dX4_setLimit_70 (fun H locs w => ?_)
      obtain ⟨h_70, eh_70⟩ : ∃ z9, z9 = upI h_51 ((11 + 8 * q) + 3) t z := ⟨_, rfl⟩
      rw [← eh_70] at w
      refine lv_iload hx hb dX4_setLimit_71 (lv_at hl 0 rfl) ?_
      exact q_xretI X w hlocks hrt hQ dX4_setLimit_73 rfl ⟨q, t, hq, ht, rfl, rfl, hrg_15, (fun z => z.elim c_26 (fun z => Int32.not_lt.mpr c_37 z)), by rw [ex_61, eh_51], by rw [eh_70, eh_51]⟩ (Nat.le_of_ble_eq_true rfl) (Nat.le_of_ble_eq_true rfl)
    · exact q_throw X w hst hQ hnh hlocks xF_IS (by decide +kernel) (by decide +kernel) (List.mem_of_getElem? (i := 3) rfl) hin_IS hl.1 dX4_setLimit_40 dX4_setLimit_43 dX4_setLimit_44 dX4_setLimit_46 dX4_setLimit_49 (Nat.le_of_ble_eq_true rfl) (Nat.le_of_ble_eq_true rfl) (Nat.le_of_ble_eq_true rfl) (Nat.le_of_ble_eq_true rfl) ⟨rfl, Or.inr (Or.inr ⟨rfl, q, t, hq, ht, rfl, rfl, hrg_15, (by first | exact Or.inl c_26 | exact Or.inr (Int32.not_le.mp c_37))⟩)⟩ (Nat.le_of_ble_eq_true rfl) (Nat.le_of_ble_eq_true rfl)

abbrev rc_X4_setBudget : Room := { frames := 7, cells := 5, slots := 30, locals := 112 }
set_option maxHeartbeats 4000000 in
set_option maxRecDepth 100000 in
theorem c_X4_setBudget (l : Launch) (k : kY) (h : hS) (hst : l.stackTraces = false) (x y : Int32) {a b : Nat} (hs : SI h a b) : CX l k yX4_setBudget wsX4_setBudget rc_X4_setBudget [.ref (k.2.1 0), .int x, .int y] h (QI k (fun r h' => ∃ q : Nat, q < 2 ∧ x = nI q ∧ okR y (nI 0) (nI 1000000000) ∧ r = (svz h a b).1 (11 + 8 * q) 7 ∧ h' = upI (svz h a b) (11 + 8 * q) 7 y)) (fun E h' => h' = h ∧ ((E = xIO ∧ ¬ isP x) ∨ (E = xIA ∧ isP x ∧ ¬ okR y (nI 0) (nI 1000000000)))) 5 30 := by
  refine q_xmet (cc := cX4_setBudget) (maxL := 5) (ret := (some .int)) (by decide) rfl (Nat.le_of_ble_eq_true rfl) ?_
  intro p e s m args below meth c Q ls X hnh hlocks hrt hQ w hl
  have hx := X.1
  have hb := X.2.1
  have hown := X.2.2.2.1
  have hts := X.2.2.2.2
  have hl : lv_has ls 5 [(0, .ref (k.2.1 0)), (1, .int x), (2, .int y)] := hl
  have hi0 : ∀ w ∈ u_ws RX0 TX0 10, w ∈ wsX4_setBudget := by decide +kernel
  refine lv_aload_n hx hb dX4_setBudget_0 rfl (lv_at hl 0 rfl) ?_
  refine lv_iload_n hx hb dX4_setBudget_1 rfl (lv_at hl 1 rfl) ?_
  refine q_xcallr w (q_xrunV X w 0 (c_X4_pairAt l k h hst x) (cwV 1 hts gX4_setBudget_X4_pairAt rfl rfl rfl (by decide +kernel) ⟨Nat.le_of_ble_eq_true rfl, Nat.le_of_ble_eq_true rfl⟩) (by decide) rfl rfl rfl hl.1 rfl (Nat.le_of_ble_eq_true rfl) dX4_setBudget_2 ⟨Nat.le_of_ble_eq_true rfl, Nat.le_of_ble_eq_true rfl⟩) (fun E ce q9 h9 H locs hp w h1 h2 h3 => q_out w hQ hnh hlocks ⟨hp.2.2, Or.inl ⟨hp.1, hp.2.1⟩⟩ h1 h2 h3 (Nat.le_of_ble_eq_true rfl) (Nat.le_of_ble_eq_true rfl)) (fun i_2 h_2 H locs hp w => ?_)
  obtain ⟨q, hq, ex_2, ei_2, eh_2⟩ := hp
  dsimp only at ei_2 eh_2
  subst ex_2
  subst ei_2
  rw [eh_2] at w
  have hP : pp (11 + 8 * q) := pp_i (by omega)
  have hP2 : pp (11 + 8 * (1 - q)) := pp_i (by omega)
  refine lv_astore_n (lv' := [(3, .ref (k.2.1 (11 + 8 * q))), (0, .ref (k.2.1 0)), (1, .int (nI q)), (2, .int y)]) hx hb dX4_setBudget_5 rfl hl (by decide) rfl (fun ls hl => ?_)
  refine lv_iload_n hx hb dX4_setBudget_6 rfl (lv_at hl 3 rfl) ?_
  refine lv_iconst (v := nI 0) hx hb dX4_setBudget_7 (by decide) ?_
  refine lv_ldc (v := 1000000000) hx hb hown (hts (.constant RX4 74 1000000000) (by decide +kernel)) dX4_setBudget_8 ?_
  refine q_xcallv w (q_xrunS X w (c_X4_checkRange l k h hst y (nI 0) (nI 1000000000)) (va_cwS 3 hts gX4_setBudget_X4_checkRange rfl rfl rfl (by decide +kernel) ⟨Nat.le_of_ble_eq_true rfl, Nat.le_of_ble_eq_true rfl⟩) rfl hl.1 rfl (Nat.le_of_ble_eq_true rfl) dX4_setBudget_10 ⟨Nat.le_of_ble_eq_true rfl, Nat.le_of_ble_eq_true rfl⟩) (fun E ce q9 h9 H locs hp w h1 h2 h3 => q_out w hQ hnh hlocks ⟨hp.2.2, Or.inr ⟨hp.1, ⟨q, hq, rfl⟩, hp.2.1⟩⟩ h1 h2 h3 (Nat.le_of_ble_eq_true rfl) (Nat.le_of_ble_eq_true rfl)) (fun h_10 H locs hp w => ?_)
  obtain ⟨hrg_10, eh_10⟩ := hp
  rw [eh_10] at w
  refine lv_aload_n hx hb dX4_setBudget_13 rfl (lv_at hl 1 rfl) ?_
  refine q_callv w (q_runV X w 0 (c_X4_saveState l k h hs) (cwV 0 hts gX4_setBudget_X4_saveState rfl rfl rfl (by decide +kernel) ⟨Nat.le_of_ble_eq_true rfl, Nat.le_of_ble_eq_true rfl⟩) (by decide) rfl rfl rfl hl.1 rfl (Nat.le_of_ble_eq_true rfl) dX4_setBudget_14 ⟨Nat.le_of_ble_eq_true rfl, Nat.le_of_ble_eq_true rfl⟩) (fun h_14 H locs hp w => ?_)
  have eh_14 := hp
  refine lv_aload_n hx hb dX4_setBudget_17 rfl (lv_at hl 0 rfl) ?_
  refine q_get X w (11 + 8 * q) 7 (ci := 0) (pp_lt0 hP) (hE_p0 hP k _) rfl hi0 (by decide) (by decide +kernel) rfl dX4_setBudget_18 ?_
  refine lv_topi (fun x_21 ex_21 => ?_)
  refine lv_istore (lv' := [(4, .int x_21), (3, .ref (k.2.1 (11 + 8 * q))), (0, .ref (k.2.1 0)), (1, .int (nI q)), (2, .int y)]) hx hb dX4_setBudget_21 hl (by decide) rfl (fun ls hl => ?_)
  refine lv_aload_n hx hb dX4_setBudget_23 rfl (lv_at hl 1 rfl) ?_
  refine lv_iload_n hx hb dX4_setBudget_24 rfl (lv_at hl 4 rfl) ?_
  refine q_put X w (11 + 8 * q) 7 .int (ci := 0) (pp_lt0 hP) (hE_p0 hP k _) (by rw [hE_p0 hP k, upI_s]; rfl) rfl hi0 tyX0_ok nmX0 (by decide) (by decide +kernel) rfl (by decide +kernel) (rfl) (rfl) (Nat.le_of_ble_eq_true rfl) dX4_setBudget_25 (fun H locs w => ?_)
  obtain ⟨h_25, eh_25⟩ : ∃ z9, z9 = upI h_14 (11 + 8 * q) 7 y := ⟨_, rfl⟩
  rw [← eh_25] at w
  refine lv_iload hx hb dX4_setBudget_28 (lv_at hl 0 rfl) ?_
  exact q_xretI X w hlocks hrt hQ dX4_setBudget_30 rfl ⟨q, hq, rfl, hrg_10, by rw [ex_21, eh_14], by rw [eh_25, eh_14]⟩ (Nat.le_of_ble_eq_true rfl) (Nat.le_of_ble_eq_true rfl)

abbrev rc_X4_bits : Room := { frames := 7, cells := 5, slots := 30, locals := 112 }
set_option maxHeartbeats 4000000 in
set_option maxRecDepth 100000 in
theorem c_X4_bits (l : Launch) (k : kY) (h : hS) (hst : l.stackTraces = false) (x y z : Int32) : CX l k yX4_bits wsX4_bits rc_X4_bits [.ref (k.2.1 0), .int x, .int y, .int z] h (QI k (fun r h' => ∃ q t : Nat, q < 2 ∧ t < 16 ∧ x = nI q ∧ y = nI t ∧ okR z (nI 0) (nI 1) ∧ (r = if z = 0 then h.1 (11 + 8 * q + 4) t else h.1 (11 + 8 * q + 5) t) ∧ h' = h)) (fun E h' => h' = h ∧ ((E = xIO ∧ ¬ (isP x ∧ isT y)) ∨ (E = xIA ∧ isP x ∧ isT y ∧ ¬ okR z (nI 0) (nI 1)))) 5 30 := by
  refine q_xmet (cc := cX4_bits) (maxL := 5) (ret := (some .int)) (by decide) rfl (Nat.le_of_ble_eq_true rfl) ?_
  intro p e s m args below meth c Q ls X hnh hlocks hrt hQ w hl
  have hx := X.1
  have hb := X.2.1
  have hown := X.2.2.2.1
  have hts := X.2.2.2.2
  have hl : lv_has ls 5 [(0, .ref (k.2.1 0)), (1, .int x), (2, .int y), (3, .int z)] := hl
  have hi0 : ∀ w ∈ u_ws RX0 TX0 10, w ∈ wsX4_bits := by decide +kernel
  refine lv_aload_n hx hb dX4_bits_0 rfl (lv_at hl 0 rfl) ?_
  refine lv_iload_n hx hb dX4_bits_1 rfl (lv_at hl 1 rfl) ?_
  refine q_xcallr w (q_xrunV X w 0 (c_X4_pairAt l k h hst x) (cwV 1 hts gX4_bits_X4_pairAt rfl rfl rfl (by decide +kernel) ⟨Nat.le_of_ble_eq_true rfl, Nat.le_of_ble_eq_true rfl⟩) (by decide) rfl rfl rfl hl.1 rfl (Nat.le_of_ble_eq_true rfl) dX4_bits_2 ⟨Nat.le_of_ble_eq_true rfl, Nat.le_of_ble_eq_true rfl⟩) (fun E ce q9 h9 H locs hp w h1 h2 h3 => q_out w hQ hnh hlocks ⟨hp.2.2, Or.inl ⟨hp.1, fun z => hp.2.1 z.1⟩⟩ h1 h2 h3 (Nat.le_of_ble_eq_true rfl) (Nat.le_of_ble_eq_true rfl)) (fun i_2 h_2 H locs hp w => ?_)
  obtain ⟨q, hq, ex_2, ei_2, eh_2⟩ := hp
  dsimp only at ei_2 eh_2
  subst ex_2
  subst ei_2
  rw [eh_2] at w
  have hP : pp (11 + 8 * q) := pp_i (by omega)
  have hP2 : pp (11 + 8 * (1 - q)) := pp_i (by omega)
  refine lv_astore (lv' := [(4, .ref (k.2.1 (11 + 8 * q))), (0, .ref (k.2.1 0)), (1, .int (nI q)), (2, .int y), (3, .int z)]) hx hb dX4_bits_5 hl (by decide) rfl (fun ls hl => ?_)
  refine lv_iload_n hx hb dX4_bits_7 rfl (lv_at hl 3 rfl) ?_
  refine q_xcallv w (q_xrunS X w (c_X4_checkTone l k h hst y) (va_cwS 1 hts gX4_bits_X4_checkTone rfl rfl rfl (by decide +kernel) ⟨Nat.le_of_ble_eq_true rfl, Nat.le_of_ble_eq_true rfl⟩) rfl hl.1 rfl (Nat.le_of_ble_eq_true rfl) dX4_bits_8 ⟨Nat.le_of_ble_eq_true rfl, Nat.le_of_ble_eq_true rfl⟩) (fun E ce q9 h9 H locs hp w h1 h2 h3 => q_out w hQ hnh hlocks ⟨hp.2.2, Or.inl ⟨hp.1, fun z => hp.2.1 z.2⟩⟩ h1 h2 h3 (Nat.le_of_ble_eq_true rfl) (Nat.le_of_ble_eq_true rfl)) (fun h_8 H locs hp w => ?_)
  obtain ⟨⟨t, ht, ex_8⟩, eh_8⟩ := hp
  subst ex_8
  rw [eh_8] at w
  refine lv_iload_n hx hb dX4_bits_11 rfl (lv_at hl 4 rfl) ?_
  refine lv_iconst (v := nI 0) hx hb dX4_bits_12 (by decide) ?_
  refine lv_iconst (v := nI 1) hx hb dX4_bits_13 (by decide) ?_
  refine q_xcallv w (q_xrunS X w (c_X4_checkRange l k h hst z (nI 0) (nI 1)) (va_cwS 3 hts gX4_bits_X4_checkRange rfl rfl rfl (by decide +kernel) ⟨Nat.le_of_ble_eq_true rfl, Nat.le_of_ble_eq_true rfl⟩) rfl hl.1 rfl (Nat.le_of_ble_eq_true rfl) dX4_bits_14 ⟨Nat.le_of_ble_eq_true rfl, Nat.le_of_ble_eq_true rfl⟩) (fun E ce q9 h9 H locs hp w h1 h2 h3 => q_out w hQ hnh hlocks ⟨hp.2.2, Or.inr ⟨hp.1, ⟨q, hq, rfl⟩, ⟨t, ht, rfl⟩, hp.2.1⟩⟩ h1 h2 h3 (Nat.le_of_ble_eq_true rfl) (Nat.le_of_ble_eq_true rfl)) (fun h_14 H locs hp w => ?_)
  obtain ⟨hrg_14, eh_14⟩ := hp
  rw [eh_14] at w
  refine lv_iload_n hx hb dX4_bits_17 rfl (lv_at hl 4 rfl) ?_
  refine lv_if_ne (tgt := 31) hx hb dX4_bits_18 (by decide) (fun c_18 => ?_) (fun c_18 => ?_)
  · refine lv_aload hx hb dX4_bits_31 (lv_at hl 0 rfl) ?_
    refine q_get X w (11 + 8 * q) 4 (ci := 0) (pp_lt0 hP) (hE_p0 hP k _) rfl hi0 (by decide) (by decide +kernel) rfl dX4_bits_33 ?_
    refine lv_iload_n hx hb dX4_bits_36 rfl (lv_at hl 3 rfl) ?_
    refine q_iald X w ((11 + 8 * q) + 5) t (pp_lt hP (c := 5) (by decide)) (hE_pi hP 5 (by decide) (by decide) k) rfl (by omega) (by decide) dX4_bits_37 ?_
    exact q_xretI X w hlocks hrt hQ dX4_bits_38 rfl ⟨q, t, hq, ht, rfl, rfl, hrg_14, (by first | exact (if_pos c_18).symm | exact (if_neg c_18).symm), rfl⟩ (Nat.le_of_ble_eq_true rfl) (Nat.le_of_ble_eq_true rfl)
  · refine lv_aload hx hb dX4_bits_21 (lv_at hl 0 rfl) ?_
    refine q_get X w (11 + 8 * q) 3 (ci := 0) (pp_lt0 hP) (hE_p0 hP k _) rfl hi0 (by decide) (by decide +kernel) rfl dX4_bits_23 ?_
    refine lv_iload_n hx hb dX4_bits_26 rfl (lv_at hl 3 rfl) ?_
    refine q_iald X w ((11 + 8 * q) + 4) t (pp_lt hP (c := 4) (by decide)) (hE_pi hP 4 (by decide) (by decide) k) rfl (by omega) (by decide) dX4_bits_27 ?_
    refine lv_goto (tgt := 38) hx hb dX4_bits_28 (by decide) ?_
    exact q_xretI X w hlocks hrt hQ dX4_bits_38 rfl ⟨q, t, hq, ht, rfl, rfl, hrg_14, (by first | exact (if_pos c_18).symm | exact (if_neg c_18).symm), rfl⟩ (Nat.le_of_ble_eq_true rfl) (Nat.le_of_ble_eq_true rfl)

abbrev rc_X4_rate : Room := { frames := 7, cells := 5, slots := 30, locals := 111 }
set_option maxHeartbeats 4000000 in
set_option maxRecDepth 100000 in
theorem c_X4_rate (l : Launch) (k : kY) (h : hS) (hst : l.stackTraces = false) (x : Int32) : CX l k yX4_rate wsX4_rate rc_X4_rate [.ref (k.2.1 0), .int x] h (QI k (fun r h' => ∃ q : Nat, q < 2 ∧ x = nI q ∧ r = sumI (h.1 (11 + 8 * q + 4)) 16 ∧ h' = h)) (fun E h' => E = xIO ∧ ¬ isP x ∧ h' = h) 5 30 := by
  refine q_xmet (cc := cX4_rate) (maxL := 2) (ret := (some .int)) (by decide) rfl (Nat.le_of_ble_eq_true rfl) ?_
  intro p e s m args below meth c Q ls X hnh hlocks hrt hQ w hl
  have hx := X.1
  have hb := X.2.1
  have hown := X.2.2.2.1
  have hts := X.2.2.2.2
  have hl : lv_has ls 2 [(0, .ref (k.2.1 0)), (1, .int x)] := hl
  refine lv_aload_n hx hb dX4_rate_0 rfl (lv_at hl 0 rfl) ?_
  refine lv_iload_n hx hb dX4_rate_1 rfl (lv_at hl 1 rfl) ?_
  refine q_xcallr w (q_xrunV X w 0 (c_X4_pairAt l k h hst x) (cwV 1 hts gX4_rate_X4_pairAt rfl rfl rfl (by decide +kernel) ⟨Nat.le_of_ble_eq_true rfl, Nat.le_of_ble_eq_true rfl⟩) (by decide) rfl rfl rfl hl.1 rfl (Nat.le_of_ble_eq_true rfl) dX4_rate_2 ⟨Nat.le_of_ble_eq_true rfl, Nat.le_of_ble_eq_true rfl⟩) (fun E ce q9 h9 H locs hp w h1 h2 h3 => q_out w hQ hnh hlocks hp h1 h2 h3 (Nat.le_of_ble_eq_true rfl) (Nat.le_of_ble_eq_true rfl)) (fun i_2 h_2 H locs hp w => ?_)
  obtain ⟨q, hq, ex_2, ei_2, eh_2⟩ := hp
  dsimp only at ei_2 eh_2
  subst ex_2
  subst ei_2
  rw [eh_2] at w
  have hP : pp (11 + 8 * q) := pp_i (by omega)
  have hP2 : pp (11 + 8 * (1 - q)) := pp_i (by omega)
  refine q_calli w (q_runV X w (11 + 8 * q) (c_X0_tableBits l k h hP) (cwV 0 hts gX4_rate_X0_tableBits rfl rfl rfl (by decide +kernel) ⟨Nat.le_of_ble_eq_true rfl, Nat.le_of_ble_eq_true rfl⟩) (pp_lt0 hP) (hE_p0 hP k _) rfl rfl hl.1 rfl (Nat.le_of_ble_eq_true rfl) dX4_rate_5 ⟨Nat.le_of_ble_eq_true rfl, Nat.le_of_ble_eq_true rfl⟩) (fun r_5 h_5 H locs hp w => ?_)
  obtain ⟨er_5, eh_5⟩ := hp
  rw [eh_5] at w
  have er_5 : r_5 = sumI (h.1 ((11 + 8 * q) + 4)) 16 := er_5
  subst er_5
  exact q_xretI X w hlocks hrt hQ dX4_rate_8 rfl ⟨q, hq, rfl, rfl, rfl⟩ (Nat.le_of_ble_eq_true rfl) (Nat.le_of_ble_eq_true rfl)

abbrev rc_X4_totalEnergy : Room := { frames := 7, cells := 5, slots := 30, locals := 111 }
set_option maxHeartbeats 4000000 in
set_option maxRecDepth 100000 in
theorem c_X4_totalEnergy (l : Launch) (k : kY) (h : hS) (hst : l.stackTraces = false) (x : Int32) : CX l k yX4_totalEnergy wsX4_totalEnergy rc_X4_totalEnergy [.ref (k.2.1 0), .int x] h (QL k (fun r h' => ∃ q : Nat, q < 2 ∧ x = nI q ∧ r = sumL (h.2.1 (11 + 8 * q + 6)) 16 ∧ h' = h)) (fun E h' => E = xIO ∧ ¬ isP x ∧ h' = h) 5 30 := by
  refine q_xmet (cc := cX4_totalEnergy) (maxL := 2) (ret := (some .long)) (by decide) rfl (Nat.le_of_ble_eq_true rfl) ?_
  intro p e s m args below meth c Q ls X hnh hlocks hrt hQ w hl
  have hx := X.1
  have hb := X.2.1
  have hown := X.2.2.2.1
  have hts := X.2.2.2.2
  have hl : lv_has ls 2 [(0, .ref (k.2.1 0)), (1, .int x)] := hl
  refine lv_aload_n hx hb dX4_totalEnergy_0 rfl (lv_at hl 0 rfl) ?_
  refine lv_iload_n hx hb dX4_totalEnergy_1 rfl (lv_at hl 1 rfl) ?_
  refine q_xcallr w (q_xrunV X w 0 (c_X4_pairAt l k h hst x) (cwV 1 hts gX4_totalEnergy_X4_pairAt rfl rfl rfl (by decide +kernel) ⟨Nat.le_of_ble_eq_true rfl, Nat.le_of_ble_eq_true rfl⟩) (by decide) rfl rfl rfl hl.1 rfl (Nat.le_of_ble_eq_true rfl) dX4_totalEnergy_2 ⟨Nat.le_of_ble_eq_true rfl, Nat.le_of_ble_eq_true rfl⟩) (fun E ce q9 h9 H locs hp w h1 h2 h3 => q_out w hQ hnh hlocks hp h1 h2 h3 (Nat.le_of_ble_eq_true rfl) (Nat.le_of_ble_eq_true rfl)) (fun i_2 h_2 H locs hp w => ?_)
  obtain ⟨q, hq, ex_2, ei_2, eh_2⟩ := hp
  dsimp only at ei_2 eh_2
  subst ex_2
  subst ei_2
  rw [eh_2] at w
  have hP : pp (11 + 8 * q) := pp_i (by omega)
  have hP2 : pp (11 + 8 * (1 - q)) := pp_i (by omega)
  refine q_calll w (q_runV X w (11 + 8 * q) (c_X0_energySum l k h hP) (cwV 0 hts gX4_totalEnergy_X0_energySum rfl rfl rfl (by decide +kernel) ⟨Nat.le_of_ble_eq_true rfl, Nat.le_of_ble_eq_true rfl⟩) (pp_lt0 hP) (hE_p0 hP k _) rfl rfl hl.1 rfl (Nat.le_of_ble_eq_true rfl) dX4_totalEnergy_5 ⟨Nat.le_of_ble_eq_true rfl, Nat.le_of_ble_eq_true rfl⟩) (fun r_5 h_5 H locs hp w => ?_)
  obtain ⟨er_5, eh_5⟩ := hp
  rw [eh_5] at w
  have er_5 : r_5 = sumL (h.2.1 ((11 + 8 * q) + 6)) 16 := er_5
  subst er_5
  exact q_xretL X w hlocks hrt hQ dX4_totalEnergy_8 ⟨q, hq, rfl, rfl, rfl⟩ (Nat.le_of_ble_eq_true rfl) (Nat.le_of_ble_eq_true rfl)

abbrev rc_X4_brokenFrames : Room := { frames := 7, cells := 5, slots := 30, locals := 111 }
set_option maxHeartbeats 4000000 in
set_option maxRecDepth 100000 in
theorem c_X4_brokenFrames (l : Launch) (k : kY) (h : hS) (hst : l.stackTraces = false) (x : Int32) : CX l k yX4_brokenFrames wsX4_brokenFrames rc_X4_brokenFrames [.ref (k.2.1 0), .int x] h (QI k (fun r h' => ∃ q : Nat, q < 2 ∧ x = nI q ∧ r = h.1 (11 + 8 * q) 8 ∧ h' = h)) (fun E h' => E = xIO ∧ ¬ isP x ∧ h' = h) 5 30 := by
  refine q_xmet (cc := cX4_brokenFrames) (maxL := 2) (ret := (some .int)) (by decide) rfl (Nat.le_of_ble_eq_true rfl) ?_
  intro p e s m args below meth c Q ls X hnh hlocks hrt hQ w hl
  have hx := X.1
  have hb := X.2.1
  have hown := X.2.2.2.1
  have hts := X.2.2.2.2
  have hl : lv_has ls 2 [(0, .ref (k.2.1 0)), (1, .int x)] := hl
  have hi0 : ∀ w ∈ u_ws RX0 TX0 10, w ∈ wsX4_brokenFrames := by decide +kernel
  refine lv_aload_n hx hb dX4_brokenFrames_0 rfl (lv_at hl 0 rfl) ?_
  refine lv_iload_n hx hb dX4_brokenFrames_1 rfl (lv_at hl 1 rfl) ?_
  refine q_xcallr w (q_xrunV X w 0 (c_X4_pairAt l k h hst x) (cwV 1 hts gX4_brokenFrames_X4_pairAt rfl rfl rfl (by decide +kernel) ⟨Nat.le_of_ble_eq_true rfl, Nat.le_of_ble_eq_true rfl⟩) (by decide) rfl rfl rfl hl.1 rfl (Nat.le_of_ble_eq_true rfl) dX4_brokenFrames_2 ⟨Nat.le_of_ble_eq_true rfl, Nat.le_of_ble_eq_true rfl⟩) (fun E ce q9 h9 H locs hp w h1 h2 h3 => q_out w hQ hnh hlocks hp h1 h2 h3 (Nat.le_of_ble_eq_true rfl) (Nat.le_of_ble_eq_true rfl)) (fun i_2 h_2 H locs hp w => ?_)
  obtain ⟨q, hq, ex_2, ei_2, eh_2⟩ := hp
  dsimp only at ei_2 eh_2
  subst ex_2
  subst ei_2
  rw [eh_2] at w
  have hP : pp (11 + 8 * q) := pp_i (by omega)
  have hP2 : pp (11 + 8 * (1 - q)) := pp_i (by omega)
  refine q_get X w (11 + 8 * q) 8 (ci := 0) (pp_lt0 hP) (hE_p0 hP k _) rfl hi0 (by decide) (by decide +kernel) rfl dX4_brokenFrames_5 ?_
  exact q_xretI X w hlocks hrt hQ dX4_brokenFrames_8 rfl ⟨q, hq, rfl, rfl, rfl⟩ (Nat.le_of_ble_eq_true rfl) (Nat.le_of_ble_eq_true rfl)

abbrev rc_X4_inStep : Room := { frames := 7, cells := 5, slots := 30, locals := 111 }
set_option maxHeartbeats 4000000 in
set_option maxRecDepth 100000 in
theorem c_X4_inStep (l : Launch) (k : kY) (h : hS) (hst : l.stackTraces = false) (x : Int32) : CX l k yX4_inStep wsX4_inStep rc_X4_inStep [.ref (k.2.1 0), .int x] h (QI k (fun r h' => ∃ q : Nat, q < 2 ∧ x = nI q ∧ r = bI (decide (h.1 (11 + 8 * q) 9 = 0)) ∧ h' = h)) (fun E h' => E = xIO ∧ ¬ isP x ∧ h' = h) 5 30 := by
  refine q_xmet (cc := cX4_inStep) (maxL := 2) (ret := (some .boolean)) (by decide) rfl (Nat.le_of_ble_eq_true rfl) ?_
  intro p e s m args below meth c Q ls X hnh hlocks hrt hQ w hl
  have hx := X.1
  have hb := X.2.1
  have hown := X.2.2.2.1
  have hts := X.2.2.2.2
  have hl : lv_has ls 2 [(0, .ref (k.2.1 0)), (1, .int x)] := hl
  have hi0 : ∀ w ∈ u_ws RX0 TX0 10, w ∈ wsX4_inStep := by decide +kernel
  refine lv_aload_n hx hb dX4_inStep_0 rfl (lv_at hl 0 rfl) ?_
  refine lv_iload_n hx hb dX4_inStep_1 rfl (lv_at hl 1 rfl) ?_
  refine q_xcallr w (q_xrunV X w 0 (c_X4_pairAt l k h hst x) (cwV 1 hts gX4_inStep_X4_pairAt rfl rfl rfl (by decide +kernel) ⟨Nat.le_of_ble_eq_true rfl, Nat.le_of_ble_eq_true rfl⟩) (by decide) rfl rfl rfl hl.1 rfl (Nat.le_of_ble_eq_true rfl) dX4_inStep_2 ⟨Nat.le_of_ble_eq_true rfl, Nat.le_of_ble_eq_true rfl⟩) (fun E ce q9 h9 H locs hp w h1 h2 h3 => q_out w hQ hnh hlocks hp h1 h2 h3 (Nat.le_of_ble_eq_true rfl) (Nat.le_of_ble_eq_true rfl)) (fun i_2 h_2 H locs hp w => ?_)
  obtain ⟨q, hq, ex_2, ei_2, eh_2⟩ := hp
  dsimp only at ei_2 eh_2
  subst ex_2
  subst ei_2
  rw [eh_2] at w
  have hP : pp (11 + 8 * q) := pp_i (by omega)
  have hP2 : pp (11 + 8 * (1 - q)) := pp_i (by omega)
  refine q_get X w (11 + 8 * q) 9 (ci := 0) (pp_lt0 hP) (hE_p0 hP k _) rfl hi0 (by decide) (by decide +kernel) rfl dX4_inStep_5 ?_
  refine lv_if_ne (tgt := 15) hx hb dX4_inStep_8 (by decide) (fun c_8 => ?_) (fun c_8 => ?_)
  · refine lv_iconst (v := nI 0) hx hb dX4_inStep_15 (by decide) ?_
    exact q_xretI X w hlocks hrt hQ dX4_inStep_16 (by decide) ⟨q, hq, rfl, (by first | (rw [decide_eq_true c_8]; rfl) | (rw [decide_eq_false c_8]; rfl)), rfl⟩ (Nat.le_of_ble_eq_true rfl) (Nat.le_of_ble_eq_true rfl)
  · refine lv_iconst (v := nI 1) hx hb dX4_inStep_11 (by decide) ?_
    refine lv_goto (tgt := 16) hx hb dX4_inStep_12 (by decide) ?_
    exact q_xretI X w hlocks hrt hQ dX4_inStep_16 (by decide) ⟨q, hq, rfl, (by first | (rw [decide_eq_true c_8]; rfl) | (rw [decide_eq_false c_8]; rfl)), rfl⟩ (Nat.le_of_ble_eq_true rfl) (Nat.le_of_ble_eq_true rfl)

abbrev rc_X4_energy : Room := { frames := 7, cells := 5, slots := 30, locals := 111 }
set_option maxHeartbeats 4000000 in
set_option maxRecDepth 100000 in
theorem c_X4_energy (l : Launch) (k : kY) (h : hS) (hst : l.stackTraces = false) (x y : Int32) : CX l k yX4_energy wsX4_energy rc_X4_energy [.ref (k.2.1 0), .int x, .int y] h (QL k (fun r h' => ∃ q t : Nat, q < 2 ∧ t < 16 ∧ x = nI q ∧ y = nI t ∧ r = h.2.1 (11 + 8 * q + 6) t ∧ h' = h)) (fun E h' => E = xIO ∧ ¬ (isP x ∧ isT y) ∧ h' = h) 5 30 := by
  refine q_xmet (cc := cX4_energy) (maxL := 4) (ret := (some .long)) (by decide) rfl (Nat.le_of_ble_eq_true rfl) ?_
  intro p e s m args below meth c Q ls X hnh hlocks hrt hQ w hl
  have hx := X.1
  have hb := X.2.1
  have hown := X.2.2.2.1
  have hts := X.2.2.2.2
  have hl : lv_has ls 4 [(0, .ref (k.2.1 0)), (1, .int x), (2, .int y)] := hl
  have hi0 : ∀ w ∈ u_ws RX0 TX0 10, w ∈ wsX4_energy := by decide +kernel
  refine lv_aload_n hx hb dX4_energy_0 rfl (lv_at hl 0 rfl) ?_
  refine lv_iload_n hx hb dX4_energy_1 rfl (lv_at hl 1 rfl) ?_
  refine q_xcallr w (q_xrunV X w 0 (c_X4_pairAt l k h hst x) (cwV 1 hts gX4_energy_X4_pairAt rfl rfl rfl (by decide +kernel) ⟨Nat.le_of_ble_eq_true rfl, Nat.le_of_ble_eq_true rfl⟩) (by decide) rfl rfl rfl hl.1 rfl (Nat.le_of_ble_eq_true rfl) dX4_energy_2 ⟨Nat.le_of_ble_eq_true rfl, Nat.le_of_ble_eq_true rfl⟩) (fun E ce q9 h9 H locs hp w h1 h2 h3 => q_out w hQ hnh hlocks ⟨hp.1, fun z => hp.2.1 z.1, hp.2.2⟩ h1 h2 h3 (Nat.le_of_ble_eq_true rfl) (Nat.le_of_ble_eq_true rfl)) (fun i_2 h_2 H locs hp w => ?_)
  obtain ⟨q, hq, ex_2, ei_2, eh_2⟩ := hp
  dsimp only at ei_2 eh_2
  subst ex_2
  subst ei_2
  rw [eh_2] at w
  have hP : pp (11 + 8 * q) := pp_i (by omega)
  have hP2 : pp (11 + 8 * (1 - q)) := pp_i (by omega)
  refine lv_astore_n (lv' := [(3, .ref (k.2.1 (11 + 8 * q))), (0, .ref (k.2.1 0)), (1, .int (nI q)), (2, .int y)]) hx hb dX4_energy_5 rfl hl (by decide) rfl (fun ls hl => ?_)
  refine lv_iload_n hx hb dX4_energy_6 rfl (lv_at hl 3 rfl) ?_
  refine q_xcallv w (q_xrunS X w (c_X4_checkTone l k h hst y) (va_cwS 1 hts gX4_energy_X4_checkTone rfl rfl rfl (by decide +kernel) ⟨Nat.le_of_ble_eq_true rfl, Nat.le_of_ble_eq_true rfl⟩) rfl hl.1 rfl (Nat.le_of_ble_eq_true rfl) dX4_energy_7 ⟨Nat.le_of_ble_eq_true rfl, Nat.le_of_ble_eq_true rfl⟩) (fun E ce q9 h9 H locs hp w h1 h2 h3 => q_out w hQ hnh hlocks ⟨hp.1, fun z => hp.2.1 z.2, hp.2.2⟩ h1 h2 h3 (Nat.le_of_ble_eq_true rfl) (Nat.le_of_ble_eq_true rfl)) (fun h_7 H locs hp w => ?_)
  obtain ⟨⟨t, ht, ex_7⟩, eh_7⟩ := hp
  subst ex_7
  rw [eh_7] at w
  refine lv_aload_n hx hb dX4_energy_10 rfl (lv_at hl 0 rfl) ?_
  refine q_get X w (11 + 8 * q) 5 (ci := 0) (pp_lt0 hP) (hE_p0 hP k _) rfl hi0 (by decide) (by decide +kernel) rfl dX4_energy_11 ?_
  refine lv_iload_n hx hb dX4_energy_14 rfl (lv_at hl 3 rfl) ?_
  refine q_lald X w ((11 + 8 * q) + 6) t (pp_lt hP (c := 6) (by decide)) (hE_p6 hP k) rfl (by omega) (by decide) dX4_energy_15 ?_
  exact q_xretL X w hlocks hrt hQ dX4_energy_16 ⟨q, t, hq, ht, rfl, rfl, rfl, rfl⟩ (Nat.le_of_ble_eq_true rfl) (Nat.le_of_ble_eq_true rfl)

abbrev rc_X4_disturbedNoise : Room := { frames := 7, cells := 5, slots := 30, locals := 111 }
set_option maxHeartbeats 4000000 in
set_option maxRecDepth 100000 in
theorem c_X4_disturbedNoise (l : Launch) (k : kY) (h : hS) (hst : l.stackTraces = false) (x y : Int32) : CX l k yX4_disturbedNoise wsX4_disturbedNoise rc_X4_disturbedNoise [.ref (k.2.1 0), .int x, .int y] h (QL k (fun r h' => ∃ q t : Nat, q < 2 ∧ t < 16 ∧ x = nI q ∧ y = nI t ∧ r = dnP h (11 + 8 * q) (11 + 8 * (1 - q)) t ∧ h' = h)) (fun E h' => E = xIO ∧ ¬ (isP x ∧ isT y) ∧ h' = h) 5 30 := by
  refine q_xmet (cc := cX4_disturbedNoise) (maxL := 4) (ret := (some .long)) (by decide) rfl (Nat.le_of_ble_eq_true rfl) ?_
  intro p e s m args below meth c Q ls X hnh hlocks hrt hQ w hl
  have hx := X.1
  have hb := X.2.1
  have hown := X.2.2.2.1
  have hts := X.2.2.2.2
  have hl : lv_has ls 4 [(0, .ref (k.2.1 0)), (1, .int x), (2, .int y)] := hl
  refine lv_aload_n hx hb dX4_disturbedNoise_0 rfl (lv_at hl 0 rfl) ?_
  refine lv_iload_n hx hb dX4_disturbedNoise_1 rfl (lv_at hl 1 rfl) ?_
  refine q_xcallr w (q_xrunV X w 0 (c_X4_pairAt l k h hst x) (cwV 1 hts gX4_disturbedNoise_X4_pairAt rfl rfl rfl (by decide +kernel) ⟨Nat.le_of_ble_eq_true rfl, Nat.le_of_ble_eq_true rfl⟩) (by decide) rfl rfl rfl hl.1 rfl (Nat.le_of_ble_eq_true rfl) dX4_disturbedNoise_2 ⟨Nat.le_of_ble_eq_true rfl, Nat.le_of_ble_eq_true rfl⟩) (fun E ce q9 h9 H locs hp w h1 h2 h3 => q_out w hQ hnh hlocks ⟨hp.1, fun z => hp.2.1 z.1, hp.2.2⟩ h1 h2 h3 (Nat.le_of_ble_eq_true rfl) (Nat.le_of_ble_eq_true rfl)) (fun i_2 h_2 H locs hp w => ?_)
  obtain ⟨q, hq, ex_2, ei_2, eh_2⟩ := hp
  dsimp only at ei_2 eh_2
  subst ex_2
  subst ei_2
  rw [eh_2] at w
  have hP : pp (11 + 8 * q) := pp_i (by omega)
  have hP2 : pp (11 + 8 * (1 - q)) := pp_i (by omega)
  refine lv_astore_n (lv' := [(3, .ref (k.2.1 (11 + 8 * q))), (0, .ref (k.2.1 0)), (1, .int (nI q)), (2, .int y)]) hx hb dX4_disturbedNoise_5 rfl hl (by decide) rfl (fun ls hl => ?_)
  refine lv_iload_n hx hb dX4_disturbedNoise_6 rfl (lv_at hl 3 rfl) ?_
  refine q_xcallv w (q_xrunS X w (c_X4_checkTone l k h hst y) (va_cwS 1 hts gX4_disturbedNoise_X4_checkTone rfl rfl rfl (by decide +kernel) ⟨Nat.le_of_ble_eq_true rfl, Nat.le_of_ble_eq_true rfl⟩) rfl hl.1 rfl (Nat.le_of_ble_eq_true rfl) dX4_disturbedNoise_7 ⟨Nat.le_of_ble_eq_true rfl, Nat.le_of_ble_eq_true rfl⟩) (fun E ce q9 h9 H locs hp w h1 h2 h3 => q_out w hQ hnh hlocks ⟨hp.1, fun z => hp.2.1 z.2, hp.2.2⟩ h1 h2 h3 (Nat.le_of_ble_eq_true rfl) (Nat.le_of_ble_eq_true rfl)) (fun h_7 H locs hp w => ?_)
  obtain ⟨⟨t, ht, ex_7⟩, eh_7⟩ := hp
  subst ex_7
  rw [eh_7] at w
  refine lv_aload_n hx hb dX4_disturbedNoise_10 rfl (lv_at hl 0 rfl) ?_
  refine lv_aload_n hx hb dX4_disturbedNoise_11 rfl (lv_at hl 1 rfl) ?_
  refine lv_iload_n hx hb dX4_disturbedNoise_12 rfl (lv_at hl 2 rfl) ?_
  refine q_callr w (q_runV X w 0 (c_X4_otherOf l k h hq) (cwV 1 hts gX4_disturbedNoise_X4_otherOf rfl rfl rfl (by decide +kernel) ⟨Nat.le_of_ble_eq_true rfl, Nat.le_of_ble_eq_true rfl⟩) (by decide) rfl rfl rfl hl.1 rfl (Nat.le_of_ble_eq_true rfl) dX4_disturbedNoise_13 ⟨Nat.le_of_ble_eq_true rfl, Nat.le_of_ble_eq_true rfl⟩) (fun i_13 h_13 H locs hp w => ?_)
  obtain ⟨ei_13, eh_13⟩ := hp
  dsimp only at ei_13 eh_13
  subst ei_13
  rw [eh_13] at w
  refine lv_iload_n hx hb dX4_disturbedNoise_16 rfl (lv_at hl 3 rfl) ?_
  refine q_calll w (q_runV X w (11 + 8 * q) (c_X0_noiseBeside l k h hP hP2 (t := t) (by omega)) (cwV 2 hts gX4_disturbedNoise_X0_noiseBeside rfl rfl rfl (by decide +kernel) ⟨Nat.le_of_ble_eq_true rfl, Nat.le_of_ble_eq_true rfl⟩) (pp_lt0 hP) (hE_p0 hP k _) rfl rfl hl.1 rfl (Nat.le_of_ble_eq_true rfl) dX4_disturbedNoise_17 ⟨Nat.le_of_ble_eq_true rfl, Nat.le_of_ble_eq_true rfl⟩) (fun r_17 h_17 H locs hp w => ?_)
  obtain ⟨er_17, eh_17⟩ := hp
  rw [eh_17] at w
  have er_17 : r_17 = dnP h (11 + 8 * q) (11 + 8 * (1 - q)) t := er_17
  subst er_17
  exact q_xretL X w hlocks hrt hQ dX4_disturbedNoise_20 ⟨q, t, hq, ht, rfl, rfl, rfl, rfl⟩ (Nat.le_of_ble_eq_true rfl) (Nat.le_of_ble_eq_true rfl)

abbrev rc_X4_margin : Room := { frames := 7, cells := 5, slots := 30, locals := 111 }
set_option maxHeartbeats 4000000 in
set_option maxRecDepth 100000 in
theorem c_X4_margin (l : Launch) (k : kY) (h : hS) (hst : l.stackTraces = false) (x y : Int32) : CX l k yX4_margin wsX4_margin rc_X4_margin [.ref (k.2.1 0), .int x, .int y] h (QL k (fun r h' => ∃ q t : Nat, q < 2 ∧ t < 16 ∧ x = nI q ∧ y = nI t ∧ r = mgP h (11 + 8 * q) (11 + 8 * (1 - q)) t ∧ h' = h)) (fun E h' => E = xIO ∧ ¬ (isP x ∧ isT y) ∧ h' = h) 5 30 := by
  refine q_xmet (cc := cX4_margin) (maxL := 4) (ret := (some .long)) (by decide) rfl (Nat.le_of_ble_eq_true rfl) ?_
  intro p e s m args below meth c Q ls X hnh hlocks hrt hQ w hl
  have hx := X.1
  have hb := X.2.1
  have hown := X.2.2.2.1
  have hts := X.2.2.2.2
  have hl : lv_has ls 4 [(0, .ref (k.2.1 0)), (1, .int x), (2, .int y)] := hl
  refine lv_aload_n hx hb dX4_margin_0 rfl (lv_at hl 0 rfl) ?_
  refine lv_iload_n hx hb dX4_margin_1 rfl (lv_at hl 1 rfl) ?_
  refine q_xcallr w (q_xrunV X w 0 (c_X4_pairAt l k h hst x) (cwV 1 hts gX4_margin_X4_pairAt rfl rfl rfl (by decide +kernel) ⟨Nat.le_of_ble_eq_true rfl, Nat.le_of_ble_eq_true rfl⟩) (by decide) rfl rfl rfl hl.1 rfl (Nat.le_of_ble_eq_true rfl) dX4_margin_2 ⟨Nat.le_of_ble_eq_true rfl, Nat.le_of_ble_eq_true rfl⟩) (fun E ce q9 h9 H locs hp w h1 h2 h3 => q_out w hQ hnh hlocks ⟨hp.1, fun z => hp.2.1 z.1, hp.2.2⟩ h1 h2 h3 (Nat.le_of_ble_eq_true rfl) (Nat.le_of_ble_eq_true rfl)) (fun i_2 h_2 H locs hp w => ?_)
  obtain ⟨q, hq, ex_2, ei_2, eh_2⟩ := hp
  dsimp only at ei_2 eh_2
  subst ex_2
  subst ei_2
  rw [eh_2] at w
  have hP : pp (11 + 8 * q) := pp_i (by omega)
  have hP2 : pp (11 + 8 * (1 - q)) := pp_i (by omega)
  refine lv_astore_n (lv' := [(3, .ref (k.2.1 (11 + 8 * q))), (0, .ref (k.2.1 0)), (1, .int (nI q)), (2, .int y)]) hx hb dX4_margin_5 rfl hl (by decide) rfl (fun ls hl => ?_)
  refine lv_iload_n hx hb dX4_margin_6 rfl (lv_at hl 3 rfl) ?_
  refine q_xcallv w (q_xrunS X w (c_X4_checkTone l k h hst y) (va_cwS 1 hts gX4_margin_X4_checkTone rfl rfl rfl (by decide +kernel) ⟨Nat.le_of_ble_eq_true rfl, Nat.le_of_ble_eq_true rfl⟩) rfl hl.1 rfl (Nat.le_of_ble_eq_true rfl) dX4_margin_7 ⟨Nat.le_of_ble_eq_true rfl, Nat.le_of_ble_eq_true rfl⟩) (fun E ce q9 h9 H locs hp w h1 h2 h3 => q_out w hQ hnh hlocks ⟨hp.1, fun z => hp.2.1 z.2, hp.2.2⟩ h1 h2 h3 (Nat.le_of_ble_eq_true rfl) (Nat.le_of_ble_eq_true rfl)) (fun h_7 H locs hp w => ?_)
  obtain ⟨⟨t, ht, ex_7⟩, eh_7⟩ := hp
  subst ex_7
  rw [eh_7] at w
  refine lv_aload_n hx hb dX4_margin_10 rfl (lv_at hl 0 rfl) ?_
  refine lv_aload_n hx hb dX4_margin_11 rfl (lv_at hl 1 rfl) ?_
  refine lv_iload_n hx hb dX4_margin_12 rfl (lv_at hl 2 rfl) ?_
  refine q_callr w (q_runV X w 0 (c_X4_otherOf l k h hq) (cwV 1 hts gX4_margin_X4_otherOf rfl rfl rfl (by decide +kernel) ⟨Nat.le_of_ble_eq_true rfl, Nat.le_of_ble_eq_true rfl⟩) (by decide) rfl rfl rfl hl.1 rfl (Nat.le_of_ble_eq_true rfl) dX4_margin_13 ⟨Nat.le_of_ble_eq_true rfl, Nat.le_of_ble_eq_true rfl⟩) (fun i_13 h_13 H locs hp w => ?_)
  obtain ⟨ei_13, eh_13⟩ := hp
  dsimp only at ei_13 eh_13
  subst ei_13
  rw [eh_13] at w
  refine lv_iload_n hx hb dX4_margin_16 rfl (lv_at hl 3 rfl) ?_
  refine q_calll w (q_runV X w (11 + 8 * q) (c_X0_marginBeside l k h hP hP2 (t := t) (by omega)) (cwV 2 hts gX4_margin_X0_marginBeside rfl rfl rfl (by decide +kernel) ⟨Nat.le_of_ble_eq_true rfl, Nat.le_of_ble_eq_true rfl⟩) (pp_lt0 hP) (hE_p0 hP k _) rfl rfl hl.1 rfl (Nat.le_of_ble_eq_true rfl) dX4_margin_17 ⟨Nat.le_of_ble_eq_true rfl, Nat.le_of_ble_eq_true rfl⟩) (fun r_17 h_17 H locs hp w => ?_)
  obtain ⟨er_17, eh_17⟩ := hp
  rw [eh_17] at w
  have er_17 : r_17 = mgP h (11 + 8 * q) (11 + 8 * (1 - q)) t := er_17
  subst er_17
  exact q_xretL X w hlocks hrt hQ dX4_margin_20 ⟨q, t, hq, ht, rfl, rfl, rfl, rfl⟩ (Nat.le_of_ble_eq_true rfl) (Nat.le_of_ble_eq_true rfl)

abbrev rc_X4_leastMargin : Room := { frames := 7, cells := 5, slots := 30, locals := 111 }
set_option maxHeartbeats 4000000 in
set_option maxRecDepth 100000 in
theorem c_X4_leastMargin (l : Launch) (k : kY) (h : hS) (hst : l.stackTraces = false) (x : Int32) : CX l k yX4_leastMargin wsX4_leastMargin rc_X4_leastMargin [.ref (k.2.1 0), .int x] h (QL k (fun r h' => ∃ q : Nat, q < 2 ∧ x = nI q ∧ r = lmz h (11 + 8 * q) (11 + 8 * (1 - q)) ∧ h' = h)) (fun E h' => E = xIO ∧ ¬ isP x ∧ h' = h) 5 30 := by
  refine q_xmet (cc := cX4_leastMargin) (maxL := 5) (ret := (some .long)) (by decide) rfl (Nat.le_of_ble_eq_true rfl) ?_
  intro p e s m args below meth c Q ls X hnh hlocks hrt hQ w hl
  have hx := X.1
  have hb := X.2.1
  have hown := X.2.2.2.1
  have hts := X.2.2.2.2
  have hl : lv_has ls 5 [(0, .ref (k.2.1 0)), (1, .int x)] := hl
  refine lv_aload_n hx hb dX4_leastMargin_0 rfl (lv_at hl 0 rfl) ?_
  refine lv_iload_n hx hb dX4_leastMargin_1 rfl (lv_at hl 1 rfl) ?_
  refine q_xcallr w (q_xrunV X w 0 (c_X4_pairAt l k h hst x) (cwV 1 hts gX4_leastMargin_X4_pairAt rfl rfl rfl (by decide +kernel) ⟨Nat.le_of_ble_eq_true rfl, Nat.le_of_ble_eq_true rfl⟩) (by decide) rfl rfl rfl hl.1 rfl (Nat.le_of_ble_eq_true rfl) dX4_leastMargin_2 ⟨Nat.le_of_ble_eq_true rfl, Nat.le_of_ble_eq_true rfl⟩) (fun E ce q9 h9 H locs hp w h1 h2 h3 => q_out w hQ hnh hlocks hp h1 h2 h3 (Nat.le_of_ble_eq_true rfl) (Nat.le_of_ble_eq_true rfl)) (fun i_2 h_2 H locs hp w => ?_)
  obtain ⟨q, hq, ex_2, ei_2, eh_2⟩ := hp
  dsimp only at ei_2 eh_2
  subst ex_2
  subst ei_2
  rw [eh_2] at w
  have hP : pp (11 + 8 * q) := pp_i (by omega)
  have hP2 : pp (11 + 8 * (1 - q)) := pp_i (by omega)
  refine lv_astore_n (lv' := [(2, .ref (k.2.1 (11 + 8 * q))), (0, .ref (k.2.1 0)), (1, .int (nI q))]) hx hb dX4_leastMargin_5 rfl hl (by decide) rfl (fun ls hl => ?_)
  refine lv_aload_n hx hb dX4_leastMargin_6 rfl (lv_at hl 1 rfl) ?_
  refine lv_iload_n hx hb dX4_leastMargin_7 rfl (lv_at hl 2 rfl) ?_
  refine q_callr w (q_runV X w 0 (c_X4_otherOf l k h hq) (cwV 1 hts gX4_leastMargin_X4_otherOf rfl rfl rfl (by decide +kernel) ⟨Nat.le_of_ble_eq_true rfl, Nat.le_of_ble_eq_true rfl⟩) (by decide) rfl rfl rfl hl.1 rfl (Nat.le_of_ble_eq_true rfl) dX4_leastMargin_8 ⟨Nat.le_of_ble_eq_true rfl, Nat.le_of_ble_eq_true rfl⟩) (fun i_8 h_8 H locs hp w => ?_)
  obtain ⟨ei_8, eh_8⟩ := hp
  dsimp only at ei_8 eh_8
  subst ei_8
  rw [eh_8] at w
  refine lv_astore_n (lv' := [(3, .ref (k.2.1 (11 + 8 * (1 - q)))), (2, .ref (k.2.1 (11 + 8 * q))), (0, .ref (k.2.1 0)), (1, .int (nI q))]) hx hb dX4_leastMargin_11 rfl hl (by decide) rfl (fun ls hl => ?_)
  refine lv_aload_n hx hb dX4_leastMargin_12 rfl (lv_at hl 1 rfl) ?_
  refine lv_aload_n hx hb dX4_leastMargin_13 rfl (lv_at hl 0 rfl) ?_
  refine q_calli w (q_runV X w (11 + 8 * q) (c_X0_weakestTone l k h hP hP2) (cwV 1 hts gX4_leastMargin_X0_weakestTone rfl rfl rfl (by decide +kernel) ⟨Nat.le_of_ble_eq_true rfl, Nat.le_of_ble_eq_true rfl⟩) (pp_lt0 hP) (hE_p0 hP k _) rfl rfl hl.1 rfl (Nat.le_of_ble_eq_true rfl) dX4_leastMargin_14 ⟨Nat.le_of_ble_eq_true rfl, Nat.le_of_ble_eq_true rfl⟩) (fun r_14 h_14 H locs hp w => ?_)
  obtain ⟨er_14, eh_14⟩ := hp
  rw [eh_14] at w
  have er_14 : r_14 = oI (wkz h (11 + 8 * q) (11 + 8 * (1 - q))) := er_14
  rcases ho_14 : wkz h (11 + 8 * q) (11 + 8 * (1 - q)) with _ | t_14
  · rw [ho_14] at er_14
    have er_14 : r_14 = (-1) := er_14
    subst er_14
    refine lv_istore (lv' := [(4, .int (-1)), (3, .ref (k.2.1 (11 + 8 * (1 - q)))), (2, .ref (k.2.1 (11 + 8 * q))), (0, .ref (k.2.1 0)), (1, .int (nI q))]) hx hb dX4_leastMargin_17 hl (by decide) rfl (fun ls hl => ?_)
    refine lv_iload hx hb dX4_leastMargin_19 (lv_at hl 0 rfl) ?_
    refine lv_if_ge (tgt := 30) hx hb dX4_leastMargin_21 (by decide) (fun c_21 => ?_) (fun c_21 => ?_)
    · exact absurd c_21 (by decide)
    · refine lv_ldc2 (v := (-1)) hx hb hown (hts (.constantLong RX4 138 (-1)) (by decide +kernel)) dX4_leastMargin_24 ?_
      refine lv_goto (tgt := 37) hx hb dX4_leastMargin_27 (by decide) ?_
      exact q_xretL X w hlocks hrt hQ dX4_leastMargin_37 ⟨q, hq, rfl, (by rw [lmz, ho_14]), rfl⟩ (Nat.le_of_ble_eq_true rfl) (Nat.le_of_ble_eq_true rfl)
  · rw [ho_14] at er_14
    have er_14 : r_14 = nI t_14 := er_14
    subst er_14
    have ht_14 : t_14 < 16 := (amin_bd ho_14).1
    refine lv_istore (lv' := [(4, .int (nI t_14)), (3, .ref (k.2.1 (11 + 8 * (1 - q)))), (2, .ref (k.2.1 (11 + 8 * q))), (0, .ref (k.2.1 0)), (1, .int (nI q))]) hx hb dX4_leastMargin_17 hl (by decide) rfl (fun ls hl => ?_)
    refine lv_iload hx hb dX4_leastMargin_19 (lv_at hl 0 rfl) ?_
    refine lv_if_ge (tgt := 30) hx hb dX4_leastMargin_21 (by decide) (fun c_21 => ?_) (fun c_21 => ?_)
    · refine lv_aload_n hx hb dX4_leastMargin_30 rfl (lv_at hl 2 rfl) ?_
      refine lv_aload_n hx hb dX4_leastMargin_31 rfl (lv_at hl 1 rfl) ?_
      refine lv_iload hx hb dX4_leastMargin_32 (lv_at hl 0 rfl) ?_
      refine q_calll w (q_runV X w (11 + 8 * q) (c_X0_marginBeside l k h hP hP2 (t := t_14) (by omega)) (cwV 2 hts gX4_leastMargin_X0_marginBeside rfl rfl rfl (by decide +kernel) ⟨Nat.le_of_ble_eq_true rfl, Nat.le_of_ble_eq_true rfl⟩) (pp_lt0 hP) (hE_p0 hP k _) rfl rfl hl.1 rfl (Nat.le_of_ble_eq_true rfl) dX4_leastMargin_34 ⟨Nat.le_of_ble_eq_true rfl, Nat.le_of_ble_eq_true rfl⟩) (fun r_34 h_34 H locs hp w => ?_)
      obtain ⟨er_34, eh_34⟩ := hp
      rw [eh_34] at w
      have er_34 : r_34 = mgP h (11 + 8 * q) (11 + 8 * (1 - q)) t_14 := er_34
      subst er_34
      exact q_xretL X w hlocks hrt hQ dX4_leastMargin_37 ⟨q, hq, rfl, (by rw [lmz, ho_14]), rfl⟩ (Nat.le_of_ble_eq_true rfl) (Nat.le_of_ble_eq_true rfl)
    · exact absurd (nI_pos' (by omega)) c_21

abbrev rc_X4_badTones : Room := { frames := 7, cells := 5, slots := 30, locals := 111 }
set_option maxHeartbeats 4000000 in
set_option maxRecDepth 100000 in
theorem c_X4_badTones (l : Launch) (k : kY) (h : hS) (hst : l.stackTraces = false) (x : Int32) : CX l k yX4_badTones wsX4_badTones rc_X4_badTones [.ref (k.2.1 0), .int x] h (QI k (fun r h' => ∃ q : Nat, q < 2 ∧ x = nI q ∧ r = btz h (11 + 8 * q) (11 + 8 * (1 - q)) 16 ∧ h' = h)) (fun E h' => E = xIO ∧ ¬ isP x ∧ h' = h) 5 30 := by
  refine q_xmet (cc := cX4_badTones) (maxL := 8) (ret := (some .int)) (by decide) rfl (Nat.le_of_ble_eq_true rfl) ?_
  intro p e s m args below meth c Q ls X hnh hlocks hrt hQ w hl
  have hx := X.1
  have hb := X.2.1
  have hown := X.2.2.2.1
  have hts := X.2.2.2.2
  have hl : lv_has ls 8 [(0, .ref (k.2.1 0)), (1, .int x)] := hl
  refine lv_aload_n hx hb dX4_badTones_0 rfl (lv_at hl 0 rfl) ?_
  refine lv_iload_n hx hb dX4_badTones_1 rfl (lv_at hl 1 rfl) ?_
  refine q_xcallr w (q_xrunV X w 0 (c_X4_pairAt l k h hst x) (cwV 1 hts gX4_badTones_X4_pairAt rfl rfl rfl (by decide +kernel) ⟨Nat.le_of_ble_eq_true rfl, Nat.le_of_ble_eq_true rfl⟩) (by decide) rfl rfl rfl hl.1 rfl (Nat.le_of_ble_eq_true rfl) dX4_badTones_2 ⟨Nat.le_of_ble_eq_true rfl, Nat.le_of_ble_eq_true rfl⟩) (fun E ce q9 h9 H locs hp w h1 h2 h3 => q_out w hQ hnh hlocks hp h1 h2 h3 (Nat.le_of_ble_eq_true rfl) (Nat.le_of_ble_eq_true rfl)) (fun i_2 h_2 H locs hp w => ?_)
  obtain ⟨q, hq, ex_2, ei_2, eh_2⟩ := hp
  dsimp only at ei_2 eh_2
  subst ex_2
  subst ei_2
  rw [eh_2] at w
  have hP : pp (11 + 8 * q) := pp_i (by omega)
  have hP2 : pp (11 + 8 * (1 - q)) := pp_i (by omega)
  refine lv_astore_n (lv' := [(2, .ref (k.2.1 (11 + 8 * q))), (0, .ref (k.2.1 0)), (1, .int (nI q))]) hx hb dX4_badTones_5 rfl hl (by decide) rfl (fun ls hl => ?_)
  refine lv_aload_n hx hb dX4_badTones_6 rfl (lv_at hl 1 rfl) ?_
  refine lv_iload_n hx hb dX4_badTones_7 rfl (lv_at hl 2 rfl) ?_
  refine q_callr w (q_runV X w 0 (c_X4_otherOf l k h hq) (cwV 1 hts gX4_badTones_X4_otherOf rfl rfl rfl (by decide +kernel) ⟨Nat.le_of_ble_eq_true rfl, Nat.le_of_ble_eq_true rfl⟩) (by decide) rfl rfl rfl hl.1 rfl (Nat.le_of_ble_eq_true rfl) dX4_badTones_8 ⟨Nat.le_of_ble_eq_true rfl, Nat.le_of_ble_eq_true rfl⟩) (fun i_8 h_8 H locs hp w => ?_)
  obtain ⟨ei_8, eh_8⟩ := hp
  dsimp only at ei_8 eh_8
  subst ei_8
  rw [eh_8] at w
  refine lv_astore_n (lv' := [(3, .ref (k.2.1 (11 + 8 * (1 - q)))), (2, .ref (k.2.1 (11 + 8 * q))), (0, .ref (k.2.1 0)), (1, .int (nI q))]) hx hb dX4_badTones_11 rfl hl (by decide) rfl (fun ls hl => ?_)
  refine lv_iconst (v := nI 0) hx hb dX4_badTones_12 (by decide) ?_
  refine lv_istore (lv' := [(4, .int (nI 0)), (3, .ref (k.2.1 (11 + 8 * (1 - q)))), (2, .ref (k.2.1 (11 + 8 * q))), (0, .ref (k.2.1 0)), (1, .int (nI q))]) hx hb dX4_badTones_13 hl (by decide) rfl (fun ls hl => ?_)
  refine lv_iconst (v := nI 0) hx hb dX4_badTones_15 (by decide) ?_
  refine lv_istore (lv' := [(5, .int (nI 0)), (4, .int (nI 0)), (3, .ref (k.2.1 (11 + 8 * (1 - q)))), (2, .ref (k.2.1 (11 + 8 * q))), (0, .ref (k.2.1 0)), (1, .int (nI q))]) hx hb dX4_badTones_16 hl (by decide) rfl (fun ls hl => ?_)
  have lp : ∀ (n : Nat) (t : Nat) (u : Int32), (t ≤ 16 ∧ u = btz h (11 + 8 * q) (11 + 8 * (1 - q)) t) → (16 - t) < n → ∀ (H : Heap) (locs : List Loc) (ls : Array Slot), WX k s H locs h → lv_has ls 8 [(0, .ref (k.2.1 0)), (1, .int (nI q)), (2, .ref (k.2.1 (11 + 8 * q))), (3, .ref (k.2.1 (11 + 8 * (1 - q)))), (4, .int u), (5, .int (nI t))] → W p l e rc_X4_badTones s m args below meth c H locs 1 6 Q (F0 m 18 ls []) := by
    intro n
    induction n with
    | zero => intro t u _ hm; exact absurd hm (Nat.not_lt_zero _)
    | succ n ih =>
      intro t u hinv hm H locs ls w hl
      have ht := hinv.1
      refine lv_iload hx hb dX4_badTones_18 (lv_at hl 5 rfl) ?_
      refine lv_bipush (v := nI 16) hx hb dX4_badTones_20 (by decide) ?_
      refine q_icge X (tgt := 67) (by omega) (by decide) dX4_badTones_22 (by decide) (fun c_22 => ?_) (fun c_22 => ?_)
      · refine lv_iload hx hb dX4_badTones_67 (lv_at hl 4 rfl) ?_
        obtain rfl : t = 16 := by omega
        exact q_xretI X w hlocks hrt hQ dX4_badTones_69 rfl ⟨q, hq, rfl, hinv.2, rfl⟩ (Nat.le_of_ble_eq_true rfl) (Nat.le_of_ble_eq_true rfl)
      · refine lv_aload_n hx hb dX4_badTones_25 rfl (lv_at hl 2 rfl) ?_
        refine lv_aload_n hx hb dX4_badTones_26 rfl (lv_at hl 3 rfl) ?_
        refine lv_iload hx hb dX4_badTones_27 (lv_at hl 5 rfl) ?_
        refine q_calll w (q_runV X w (11 + 8 * q) (c_X0_marginBeside l k h hP hP2 (t := t) (by omega)) (cwV 2 hts gX4_badTones_X0_marginBeside rfl rfl rfl (by decide +kernel) ⟨Nat.le_of_ble_eq_true rfl, Nat.le_of_ble_eq_true rfl⟩) (pp_lt0 hP) (hE_p0 hP k _) rfl rfl hl.1 rfl (Nat.le_of_ble_eq_true rfl) dX4_badTones_29 ⟨Nat.le_of_ble_eq_true rfl, Nat.le_of_ble_eq_true rfl⟩) (fun r_29 h_29 H locs hp w => ?_)
        obtain ⟨er_29, eh_29⟩ := hp
        rw [eh_29] at w
        have er_29 : r_29 = mgP h (11 + 8 * q) (11 + 8 * (1 - q)) t := er_29
        subst er_29
        refine lv_lstore (lv' := [(6, .long (mgP h (11 + 8 * q) (11 + 8 * (1 - q)) t)), (0, .ref (k.2.1 0)), (1, .int (nI q)), (2, .ref (k.2.1 (11 + 8 * q))), (3, .ref (k.2.1 (11 + 8 * (1 - q)))), (4, .int u), (5, .int (nI t))]) hx hb dX4_badTones_32 hl (by decide) rfl (fun ls hl => ?_)
        refine lv_lload hx hb dX4_badTones_34 (lv_at hl 0 rfl) ?_
        refine lv_ldc2 (v := (-1)) hx hb hown (hts (.constantLong RX4 138 (-1)) (by decide +kernel)) dX4_badTones_36 ?_
        refine q_lif_eq X (tgt := 61) dX4_badTones_39 dX4_badTones_40 (by decide) (fun c_39 => ?_) (fun c_39 => ?_)
        · refine lv_iinc (v := nI (t + 1)) (lv' := [(5, .int (nI (t + 1))), (6, .long (mgP h (11 + 8 * q) (11 + 8 * (1 - q)) t)), (0, .ref (k.2.1 0)), (1, .int (nI q)), (2, .ref (k.2.1 (11 + 8 * q))), (3, .ref (k.2.1 (11 + 8 * (1 - q)))), (4, .int u)]) hx hb dX4_badTones_61 hl (k := 6) rfl (nI_1 _) (by decide) rfl (fun ls hl => ?_)
          refine lv_goto (tgt := 18) hx hb dX4_badTones_64 (by decide) ?_
          exact ih (t + 1) u ⟨by omega, by first | exact btz_1 c_39 hinv.2 | exact btz_2 c_48 hinv.2 | exact btz_3 c_39 c_48 hinv.2 ex_59⟩ (by omega) _ _ _ w (lv_sub hl [2, 3, 4, 5, 6, 0] rfl)
        · refine lv_lload hx hb dX4_badTones_43 (lv_at hl 0 rfl) ?_
          refine lv_ldc2 (v := 100) hx hb hown (hts (.constantLong RX4 140 100) (by decide +kernel)) dX4_badTones_45 ?_
          refine q_lif_ge X (tgt := 61) dX4_badTones_48 dX4_badTones_49 (by decide) (fun c_48 => ?_) (fun c_48 => ?_)
          · refine lv_iinc (v := nI (t + 1)) (lv' := [(5, .int (nI (t + 1))), (6, .long (mgP h (11 + 8 * q) (11 + 8 * (1 - q)) t)), (0, .ref (k.2.1 0)), (1, .int (nI q)), (2, .ref (k.2.1 (11 + 8 * q))), (3, .ref (k.2.1 (11 + 8 * (1 - q)))), (4, .int u)]) hx hb dX4_badTones_61 hl (k := 6) rfl (nI_1 _) (by decide) rfl (fun ls hl => ?_)
            refine lv_goto (tgt := 18) hx hb dX4_badTones_64 (by decide) ?_
            exact ih (t + 1) u ⟨by omega, by first | exact btz_1 c_39 hinv.2 | exact btz_2 c_48 hinv.2 | exact btz_3 c_39 c_48 hinv.2 ex_59⟩ (by omega) _ _ _ w (lv_sub hl [2, 3, 4, 5, 6, 0] rfl)
          · refine lv_iload hx hb dX4_badTones_52 (lv_at hl 5 rfl) ?_
            refine lv_iconst (v := nI 1) hx hb dX4_badTones_54 (by decide) ?_
            refine lv_iload hx hb dX4_badTones_55 (lv_at hl 6 rfl) ?_
            refine lv_ishl hx hb dX4_badTones_57 ?_
            refine lv_ior hx hb dX4_badTones_58 ?_
            refine lv_topi (fun x_59 ex_59 => ?_)
            refine lv_istore (lv' := [(4, .int x_59), (6, .long (mgP h (11 + 8 * q) (11 + 8 * (1 - q)) t)), (0, .ref (k.2.1 0)), (1, .int (nI q)), (2, .ref (k.2.1 (11 + 8 * q))), (3, .ref (k.2.1 (11 + 8 * (1 - q)))), (5, .int (nI t))]) hx hb dX4_badTones_59 hl (by decide) rfl (fun ls hl => ?_)
            refine lv_iinc (v := nI (t + 1)) (lv' := [(5, .int (nI (t + 1))), (4, .int x_59), (6, .long (mgP h (11 + 8 * q) (11 + 8 * (1 - q)) t)), (0, .ref (k.2.1 0)), (1, .int (nI q)), (2, .ref (k.2.1 (11 + 8 * q))), (3, .ref (k.2.1 (11 + 8 * (1 - q))))]) hx hb dX4_badTones_61 hl (k := 6) rfl (nI_1 _) (by decide) rfl (fun ls hl => ?_)
            refine lv_goto (tgt := 18) hx hb dX4_badTones_64 (by decide) ?_
            exact ih (t + 1) x_59 ⟨by omega, by first | exact btz_1 c_39 hinv.2 | exact btz_2 c_48 hinv.2 | exact btz_3 c_39 c_48 hinv.2 ex_59⟩ (by omega) _ _ _ w (lv_sub hl [3, 4, 5, 6, 1, 0] rfl)
  exact lp 17 0 (nI 0) ⟨by omega, rfl⟩ (by omega) _ _ _ w (lv_sub hl [4, 5, 3, 2, 1, 0] rfl)

abbrev rc_X4_efficient : Room := { frames := 3, cells := 0, slots := 0, locals := 75 }
set_option maxHeartbeats 4000000 in
set_option maxRecDepth 100000 in
theorem c_X4_efficient (l : Launch) (k : kY) (h : hS) {P P2 : Nat} (hP : pp P) (hP2 : pp P2) : CT l k yX4_efficient wsX4_efficient rc_X4_efficient [.ref (k.2.1 0), .ref (k.2.1 P), .ref (k.2.1 P2)] h (QI k (fun r h' => r = bI (effz (rtz h P P2)) ∧ h' = rtz h P P2)) 0 0 := by
  refine q_metI (cc := cX4_efficient) (maxL := 3) (ret := some .boolean) (ty := .boolean) (by decide) rfl rfl (Nat.le_of_ble_eq_true rfl) ?_
  intro p e s m args below meth c Q ls X w hl hret
  have hx := X.1
  have hb := X.2.1
  have hown := X.2.2.2.1
  have hts := X.2.2.2.2
  have hl : lv_has ls 3 [(0, .ref (k.2.1 0)), (1, .ref (k.2.1 P)), (2, .ref (k.2.1 P2))] := hl
  have hi4 : ∀ w ∈ u_ws RX4 TX4 5, w ∈ wsX4_efficient := by decide +kernel
  refine lv_aload_n hx hb dX4_efficient_0 rfl (lv_at hl 0 rfl) ?_
  refine q_get X w 0 4 (ci := 4) (by decide) rfl rfl hi4 (by decide) (by decide +kernel) rfl dX4_efficient_1 ?_
  refine lv_aload_n hx hb dX4_efficient_4 rfl (lv_at hl 1 rfl) ?_
  refine lv_aload_n hx hb dX4_efficient_5 rfl (lv_at hl 2 rfl) ?_
  refine q_callv w (q_runV X w 2 (c_X1_readTable l k h hP hP2) (cwV 2 hts gX4_efficient_X1_readTable rfl rfl rfl (by decide +kernel) ⟨Nat.le_of_ble_eq_true rfl, Nat.le_of_ble_eq_true rfl⟩) (by decide) rfl rfl rfl hl.1 rfl (Nat.le_of_ble_eq_true rfl) dX4_efficient_6 ⟨Nat.le_of_ble_eq_true rfl, Nat.le_of_ble_eq_true rfl⟩) (fun h_6 H locs hp w => ?_)
  have eh_6 := hp
  refine lv_aload_n hx hb dX4_efficient_9 rfl (lv_at hl 0 rfl) ?_
  refine q_get X w 0 4 (ci := 4) (by decide) rfl rfl hi4 (by decide) (by decide +kernel) rfl dX4_efficient_10 ?_
  refine lv_aload_n hx hb dX4_efficient_13 rfl (lv_at hl 0 rfl) ?_
  refine q_get X w 0 4 (ci := 4) (by decide) rfl rfl hi4 (by decide) (by decide +kernel) rfl dX4_efficient_14 ?_
  refine q_calli w (q_runV X w 2 (c_X1_dearestTone l k h_6) (cwV 0 hts gX4_efficient_X1_dearestTone rfl rfl rfl (by decide +kernel) ⟨Nat.le_of_ble_eq_true rfl, Nat.le_of_ble_eq_true rfl⟩) (by decide) rfl rfl rfl hl.1 rfl (Nat.le_of_ble_eq_true rfl) dX4_efficient_17 ⟨Nat.le_of_ble_eq_true rfl, Nat.le_of_ble_eq_true rfl⟩) (fun r_17 h_17 H locs hp w => ?_)
  obtain ⟨er_17, eh_17⟩ := hp
  rw [eh_17] at w
  have er_17 : r_17 = oI (dez (h_6.2.1 3) (h_6.1 5)) := er_17
  rcases ho_17 : dez (h_6.2.1 3) (h_6.1 5) with _ | t_17
  · rw [ho_17] at er_17
    have er_17 : r_17 = (-1) := er_17
    subst er_17
    refine lv_aload_n hx hb dX4_efficient_20 rfl (lv_at hl 0 rfl) ?_
    refine q_get X w 0 4 (ci := 4) (by decide) rfl rfl hi4 (by decide) (by decide +kernel) rfl dX4_efficient_21 ?_
    refine lv_iconst (v := (-1)) hx hb dX4_efficient_24 (by decide) ?_
    refine q_calli w (q_runV X w 2 (c_X1_cheapestTone l k h_6 (-1)) (cwV 1 hts gX4_efficient_X1_cheapestTone rfl rfl rfl (by decide +kernel) ⟨Nat.le_of_ble_eq_true rfl, Nat.le_of_ble_eq_true rfl⟩) (by decide) rfl rfl rfl hl.1 rfl (Nat.le_of_ble_eq_true rfl) dX4_efficient_25 ⟨Nat.le_of_ble_eq_true rfl, Nat.le_of_ble_eq_true rfl⟩) (fun r_25 h_25 H locs hp w => ?_)
    obtain ⟨er_25, eh_25⟩ := hp
    rw [eh_25] at w
    have er_25 : r_25 = oI (chz (h_6.2.1 3) (h_6.1 4) (h_6.1 5) (-1)) := er_25
    rcases ho_25 : chz (h_6.2.1 3) (h_6.1 4) (h_6.1 5) (-1) with _ | t_25
    · rw [ho_25] at er_25
      have er_25 : r_25 = (-1) := er_25
      subst er_25
      refine q_calli w (q_runV X w 2 (c_X1_canSave0 l k h_6 (-1)) (cwV 2 hts gX4_efficient_X1_canSave rfl rfl rfl (by decide +kernel) ⟨Nat.le_of_ble_eq_true rfl, Nat.le_of_ble_eq_true rfl⟩) (by decide) rfl rfl rfl hl.1 rfl (Nat.le_of_ble_eq_true rfl) dX4_efficient_28 ⟨Nat.le_of_ble_eq_true rfl, Nat.le_of_ble_eq_true rfl⟩) (fun r_28 h_28 H locs hp w => ?_)
      obtain ⟨er_28, eh_28⟩ := hp
      rw [eh_28] at w
      have er_28 : r_28 = nI 0 := er_28
      subst er_28
      refine lv_if_ne (tgt := 38) hx hb dX4_efficient_31 (by decide) (fun c_31 => ?_) (fun c_31 => ?_)
      · exact absurd (by decide) c_31
      · refine lv_iconst (v := nI 1) hx hb dX4_efficient_34 (by decide) ?_
        refine lv_goto (tgt := 39) hx hb dX4_efficient_35 (by decide) ?_
        exact hret _ _ _ _ _ _ _ _ dX4_efficient_39 w (by decide) ⟨by rw [← eh_6, effz, ho_17, ho_25]; first | rfl | (rw [csz, decide_eq_true hd_28]; rfl) | (rw [csz, decide_eq_false hd_28]; rfl), eh_6⟩ (Nat.le_of_ble_eq_true rfl) (Nat.le_of_ble_eq_true rfl)
    · rw [ho_25] at er_25
      have er_25 : r_25 = nI t_25 := er_25
      subst er_25
      have ht_25 : t_25 < 16 := (amin_bd ho_25).1
      refine q_calli w (q_runV X w 2 (c_X1_canSave0 l k h_6 (nI t_25)) (cwV 2 hts gX4_efficient_X1_canSave rfl rfl rfl (by decide +kernel) ⟨Nat.le_of_ble_eq_true rfl, Nat.le_of_ble_eq_true rfl⟩) (by decide) rfl rfl rfl hl.1 rfl (Nat.le_of_ble_eq_true rfl) dX4_efficient_28 ⟨Nat.le_of_ble_eq_true rfl, Nat.le_of_ble_eq_true rfl⟩) (fun r_28 h_28 H locs hp w => ?_)
      obtain ⟨er_28, eh_28⟩ := hp
      rw [eh_28] at w
      have er_28 : r_28 = nI 0 := er_28
      subst er_28
      refine lv_if_ne (tgt := 38) hx hb dX4_efficient_31 (by decide) (fun c_31 => ?_) (fun c_31 => ?_)
      · exact absurd (by decide) c_31
      · refine lv_iconst (v := nI 1) hx hb dX4_efficient_34 (by decide) ?_
        refine lv_goto (tgt := 39) hx hb dX4_efficient_35 (by decide) ?_
        exact hret _ _ _ _ _ _ _ _ dX4_efficient_39 w (by decide) ⟨by rw [← eh_6, effz, ho_17, ho_25]; first | rfl | (rw [csz, decide_eq_true hd_28]; rfl) | (rw [csz, decide_eq_false hd_28]; rfl), eh_6⟩ (Nat.le_of_ble_eq_true rfl) (Nat.le_of_ble_eq_true rfl)
  · rw [ho_17] at er_17
    have er_17 : r_17 = nI t_17 := er_17
    subst er_17
    have ht_17 : t_17 < 16 := (amaxC_bd ho_17).1
    refine lv_aload_n hx hb dX4_efficient_20 rfl (lv_at hl 0 rfl) ?_
    refine q_get X w 0 4 (ci := 4) (by decide) rfl rfl hi4 (by decide) (by decide +kernel) rfl dX4_efficient_21 ?_
    refine lv_iconst (v := (-1)) hx hb dX4_efficient_24 (by decide) ?_
    refine q_calli w (q_runV X w 2 (c_X1_cheapestTone l k h_6 (-1)) (cwV 1 hts gX4_efficient_X1_cheapestTone rfl rfl rfl (by decide +kernel) ⟨Nat.le_of_ble_eq_true rfl, Nat.le_of_ble_eq_true rfl⟩) (by decide) rfl rfl rfl hl.1 rfl (Nat.le_of_ble_eq_true rfl) dX4_efficient_25 ⟨Nat.le_of_ble_eq_true rfl, Nat.le_of_ble_eq_true rfl⟩) (fun r_25 h_25 H locs hp w => ?_)
    obtain ⟨er_25, eh_25⟩ := hp
    rw [eh_25] at w
    have er_25 : r_25 = oI (chz (h_6.2.1 3) (h_6.1 4) (h_6.1 5) (-1)) := er_25
    rcases ho_25 : chz (h_6.2.1 3) (h_6.1 4) (h_6.1 5) (-1) with _ | t_25
    · rw [ho_25] at er_25
      have er_25 : r_25 = (-1) := er_25
      subst er_25
      refine q_calli w (q_runV X w 2 (c_X1_canSave1 l k h_6 (a := t_17) (by omega)) (cwV 2 hts gX4_efficient_X1_canSave rfl rfl rfl (by decide +kernel) ⟨Nat.le_of_ble_eq_true rfl, Nat.le_of_ble_eq_true rfl⟩) (by decide) rfl rfl rfl hl.1 rfl (Nat.le_of_ble_eq_true rfl) dX4_efficient_28 ⟨Nat.le_of_ble_eq_true rfl, Nat.le_of_ble_eq_true rfl⟩) (fun r_28 h_28 H locs hp w => ?_)
      obtain ⟨er_28, eh_28⟩ := hp
      rw [eh_28] at w
      have er_28 : r_28 = nI 0 := er_28
      subst er_28
      refine lv_if_ne (tgt := 38) hx hb dX4_efficient_31 (by decide) (fun c_31 => ?_) (fun c_31 => ?_)
      · exact absurd (by decide) c_31
      · refine lv_iconst (v := nI 1) hx hb dX4_efficient_34 (by decide) ?_
        refine lv_goto (tgt := 39) hx hb dX4_efficient_35 (by decide) ?_
        exact hret _ _ _ _ _ _ _ _ dX4_efficient_39 w (by decide) ⟨by rw [← eh_6, effz, ho_17, ho_25]; first | rfl | (rw [csz, decide_eq_true hd_28]; rfl) | (rw [csz, decide_eq_false hd_28]; rfl), eh_6⟩ (Nat.le_of_ble_eq_true rfl) (Nat.le_of_ble_eq_true rfl)
    · rw [ho_25] at er_25
      have er_25 : r_25 = nI t_25 := er_25
      subst er_25
      have ht_25 : t_25 < 16 := (amin_bd ho_25).1
      refine q_calli w (q_runV X w 2 (c_X1_canSave l k h_6 (a := t_17) (b := t_25) (by omega) (by omega)) (cwV 2 hts gX4_efficient_X1_canSave rfl rfl rfl (by decide +kernel) ⟨Nat.le_of_ble_eq_true rfl, Nat.le_of_ble_eq_true rfl⟩) (by decide) rfl rfl rfl hl.1 rfl (Nat.le_of_ble_eq_true rfl) dX4_efficient_28 ⟨Nat.le_of_ble_eq_true rfl, Nat.le_of_ble_eq_true rfl⟩) (fun r_28 h_28 H locs hp w => ?_)
      obtain ⟨hp, eh_28⟩ := hp
      rw [eh_28] at w
      rcases hp with ⟨hd_28, er_28⟩ | ⟨hd_28, er_28⟩
      · subst er_28
        refine lv_if_ne (tgt := 38) hx hb dX4_efficient_31 (by decide) (fun c_31 => ?_) (fun c_31 => ?_)
        · refine lv_iconst (v := nI 0) hx hb dX4_efficient_38 (by decide) ?_
          exact hret _ _ _ _ _ _ _ _ dX4_efficient_39 w (by decide) ⟨by rw [← eh_6, effz, ho_17, ho_25]; first | rfl | (rw [csz, decide_eq_true hd_28]; rfl) | (rw [csz, decide_eq_false hd_28]; rfl), eh_6⟩ (Nat.le_of_ble_eq_true rfl) (Nat.le_of_ble_eq_true rfl)
        · exact absurd c_31 (by decide)
      · subst er_28
        refine lv_if_ne (tgt := 38) hx hb dX4_efficient_31 (by decide) (fun c_31 => ?_) (fun c_31 => ?_)
        · exact absurd (by decide) c_31
        · refine lv_iconst (v := nI 1) hx hb dX4_efficient_34 (by decide) ?_
          refine lv_goto (tgt := 39) hx hb dX4_efficient_35 (by decide) ?_
          exact hret _ _ _ _ _ _ _ _ dX4_efficient_39 w (by decide) ⟨by rw [← eh_6, effz, ho_17, ho_25]; first | rfl | (rw [csz, decide_eq_true hd_28]; rfl) | (rw [csz, decide_eq_false hd_28]; rfl), eh_6⟩ (Nat.le_of_ble_eq_true rfl) (Nat.le_of_ble_eq_true rfl)

abbrev rc_X4_isEfficient : Room := { frames := 7, cells := 5, slots := 30, locals := 111 }
set_option maxHeartbeats 4000000 in
set_option maxRecDepth 100000 in
theorem c_X4_isEfficient (l : Launch) (k : kY) (h : hS) (hst : l.stackTraces = false) (x : Int32) : CX l k yX4_isEfficient wsX4_isEfficient rc_X4_isEfficient [.ref (k.2.1 0), .int x] h (QI k (fun r h' => ∃ q : Nat, q < 2 ∧ x = nI q ∧ r = bI (effz (rtz h (11 + 8 * q) (11 + 8 * (1 - q)))) ∧ h' = rtz h (11 + 8 * q) (11 + 8 * (1 - q)))) (fun E h' => E = xIO ∧ ¬ isP x ∧ h' = h) 5 30 := by
  refine q_xmet (cc := cX4_isEfficient) (maxL := 3) (ret := (some .boolean)) (by decide) rfl (Nat.le_of_ble_eq_true rfl) ?_
  intro p e s m args below meth c Q ls X hnh hlocks hrt hQ w hl
  have hx := X.1
  have hb := X.2.1
  have hown := X.2.2.2.1
  have hts := X.2.2.2.2
  have hl : lv_has ls 3 [(0, .ref (k.2.1 0)), (1, .int x)] := hl
  refine lv_aload_n hx hb dX4_isEfficient_0 rfl (lv_at hl 0 rfl) ?_
  refine lv_iload_n hx hb dX4_isEfficient_1 rfl (lv_at hl 1 rfl) ?_
  refine q_xcallr w (q_xrunV X w 0 (c_X4_pairAt l k h hst x) (cwV 1 hts gX4_isEfficient_X4_pairAt rfl rfl rfl (by decide +kernel) ⟨Nat.le_of_ble_eq_true rfl, Nat.le_of_ble_eq_true rfl⟩) (by decide) rfl rfl rfl hl.1 rfl (Nat.le_of_ble_eq_true rfl) dX4_isEfficient_2 ⟨Nat.le_of_ble_eq_true rfl, Nat.le_of_ble_eq_true rfl⟩) (fun E ce q9 h9 H locs hp w h1 h2 h3 => q_out w hQ hnh hlocks hp h1 h2 h3 (Nat.le_of_ble_eq_true rfl) (Nat.le_of_ble_eq_true rfl)) (fun i_2 h_2 H locs hp w => ?_)
  obtain ⟨q, hq, ex_2, ei_2, eh_2⟩ := hp
  dsimp only at ei_2 eh_2
  subst ex_2
  subst ei_2
  rw [eh_2] at w
  have hP : pp (11 + 8 * q) := pp_i (by omega)
  have hP2 : pp (11 + 8 * (1 - q)) := pp_i (by omega)
  refine lv_astore_n (lv' := [(2, .ref (k.2.1 (11 + 8 * q))), (0, .ref (k.2.1 0)), (1, .int (nI q))]) hx hb dX4_isEfficient_5 rfl hl (by decide) rfl (fun ls hl => ?_)
  refine lv_aload_n hx hb dX4_isEfficient_6 rfl (lv_at hl 1 rfl) ?_
  refine lv_aload_n hx hb dX4_isEfficient_7 rfl (lv_at hl 0 rfl) ?_
  refine lv_aload_n hx hb dX4_isEfficient_8 rfl (lv_at hl 1 rfl) ?_
  refine lv_iload_n hx hb dX4_isEfficient_9 rfl (lv_at hl 2 rfl) ?_
  refine q_callr w (q_runV X w 0 (c_X4_otherOf l k h hq) (cwV 1 hts gX4_isEfficient_X4_otherOf rfl rfl rfl (by decide +kernel) ⟨Nat.le_of_ble_eq_true rfl, Nat.le_of_ble_eq_true rfl⟩) (by decide) rfl rfl rfl hl.1 rfl (Nat.le_of_ble_eq_true rfl) dX4_isEfficient_10 ⟨Nat.le_of_ble_eq_true rfl, Nat.le_of_ble_eq_true rfl⟩) (fun i_10 h_10 H locs hp w => ?_)
  obtain ⟨ei_10, eh_10⟩ := hp
  dsimp only at ei_10 eh_10
  subst ei_10
  rw [eh_10] at w
  refine q_calli w (q_runV X w 0 (c_X4_efficient l k h hP hP2) (cwV 2 hts gX4_isEfficient_X4_efficient rfl rfl rfl (by decide +kernel) ⟨Nat.le_of_ble_eq_true rfl, Nat.le_of_ble_eq_true rfl⟩) (by decide) rfl rfl rfl hl.1 rfl (Nat.le_of_ble_eq_true rfl) dX4_isEfficient_13 ⟨Nat.le_of_ble_eq_true rfl, Nat.le_of_ble_eq_true rfl⟩) (fun r_13 h_13 H locs hp w => ?_)
  obtain ⟨er_13, eh_13⟩ := hp
  exact q_xretI X w hlocks hrt hQ dX4_isEfficient_16 (by rw [er_13]; exact (bI_bz _).n) ⟨q, hq, rfl, er_13, eh_13⟩ (Nat.le_of_ble_eq_true rfl) (Nat.le_of_ble_eq_true rfl)

abbrev rc_X4_meanBits : Room := { frames := 7, cells := 5, slots := 30, locals := 111 }
set_option maxHeartbeats 4000000 in
set_option maxRecDepth 100000 in
theorem c_X4_meanBits (l : Launch) (k : kY) (h : hS) (hst : l.stackTraces = false) (x : Int32) (hn : ∀ q : Nat, q < 2 → ∃ n : Nat, n < 193 ∧ sumI (h.1 (11 + 8 * q + 4)) 16 = nI n) : CX l k yX4_meanBits wsX4_meanBits rc_X4_meanBits [.ref (k.2.1 0), .int x] h (QD k (fun r h' => ∃ q : Nat, q < 2 ∧ x = nI q ∧ r = FP.ddiv (FP.i2d (sumI (h.1 (11 + 8 * q + 4)) 16)) 4625196817309499392 ∧ h' = h)) (fun E h' => E = xIO ∧ ¬ isP x ∧ h' = h) 5 30 := by
  refine q_xmet (cc := cX4_meanBits) (maxL := 2) (ret := (some .double)) (by decide) rfl (Nat.le_of_ble_eq_true rfl) ?_
  intro p e s m args below meth c Q ls X hnh hlocks hrt hQ w hl
  have hx := X.1
  have hb := X.2.1
  have hown := X.2.2.2.1
  have hts := X.2.2.2.2
  have hl : lv_has ls 2 [(0, .ref (k.2.1 0)), (1, .int x)] := hl
  refine lv_aload_n hx hb dX4_meanBits_0 rfl (lv_at hl 0 rfl) ?_
  refine lv_iload_n hx hb dX4_meanBits_1 rfl (lv_at hl 1 rfl) ?_
  refine q_xcallr w (q_xrunV X w 0 (c_X4_pairAt l k h hst x) (cwV 1 hts gX4_meanBits_X4_pairAt rfl rfl rfl (by decide +kernel) ⟨Nat.le_of_ble_eq_true rfl, Nat.le_of_ble_eq_true rfl⟩) (by decide) rfl rfl rfl hl.1 rfl (Nat.le_of_ble_eq_true rfl) dX4_meanBits_2 ⟨Nat.le_of_ble_eq_true rfl, Nat.le_of_ble_eq_true rfl⟩) (fun E ce q9 h9 H locs hp w h1 h2 h3 => q_out w hQ hnh hlocks hp h1 h2 h3 (Nat.le_of_ble_eq_true rfl) (Nat.le_of_ble_eq_true rfl)) (fun i_2 h_2 H locs hp w => ?_)
  obtain ⟨q, hq, ex_2, ei_2, eh_2⟩ := hp
  dsimp only at ei_2 eh_2
  subst ex_2
  subst ei_2
  rw [eh_2] at w
  have hP : pp (11 + 8 * q) := pp_i (by omega)
  have hP2 : pp (11 + 8 * (1 - q)) := pp_i (by omega)
  refine q_calli w (q_runV X w (11 + 8 * q) (c_X0_tableBits l k h hP) (cwV 0 hts gX4_meanBits_X0_tableBits rfl rfl rfl (by decide +kernel) ⟨Nat.le_of_ble_eq_true rfl, Nat.le_of_ble_eq_true rfl⟩) (pp_lt0 hP) (hE_p0 hP k _) rfl rfl hl.1 rfl (Nat.le_of_ble_eq_true rfl) dX4_meanBits_5 ⟨Nat.le_of_ble_eq_true rfl, Nat.le_of_ble_eq_true rfl⟩) (fun r_5 h_5 H locs hp w => ?_)
  obtain ⟨er_5, eh_5⟩ := hp
  rw [eh_5] at w
  have er_5 : r_5 = sumI (h.1 ((11 + 8 * q) + 4)) 16 := er_5
  subst er_5
  refine lv_i2d hx hb dX4_meanBits_8 ?_
  refine lv_ldc2d (v := 4625196817309499392) hx hb hown (hts (.constantDouble RX4 145 4625196817309499392) (by decide +kernel)) dX4_meanBits_9 ?_
  refine lv_ddiv hx hb dX4_meanBits_12 (by obtain ⟨n, h1, h2⟩ := hn q hq; rw [h2]; exact nan16 n h1) ?_
  exact q_xretD X w hlocks hrt hQ dX4_meanBits_13 ⟨q, hq, rfl, rfl, rfl⟩ (Nat.le_of_ble_eq_true rfl) (Nat.le_of_ble_eq_true rfl)

abbrev rc_X4_suggest : Room := { frames := 7, cells := 5, slots := 30, locals := 111 }
set_option maxHeartbeats 4000000 in
set_option maxRecDepth 100000 in
theorem c_X4_suggest (l : Launch) (k : kY) (h : hS) (hst : l.stackTraces = false) (x : Int32) : CX l k yX4_suggest wsX4_suggest rc_X4_suggest [.ref (k.2.1 0), .int x] h (QI k (fun r h' => ∃ q : Nat, q < 2 ∧ x = nI q ∧ r = sgz h (11 + 8 * q) (11 + 8 * (1 - q)) ∧ (h' = h ∨ h' = rtz h (11 + 8 * q) (11 + 8 * (1 - q))))) (fun E h' => E = xIO ∧ ¬ isP x ∧ h' = h) 5 30 := by
  refine q_xmet (cc := cX4_suggest) (maxL := 6) (ret := (some .int)) (by decide) rfl (Nat.le_of_ble_eq_true rfl) ?_
  intro p e s m args below meth c Q ls X hnh hlocks hrt hQ w hl
  have hx := X.1
  have hb := X.2.1
  have hown := X.2.2.2.1
  have hts := X.2.2.2.2
  have hl : lv_has ls 6 [(0, .ref (k.2.1 0)), (1, .int x)] := hl
  have hi4 : ∀ w ∈ u_ws RX4 TX4 5, w ∈ wsX4_suggest := by decide +kernel
  refine lv_aload_n hx hb dX4_suggest_0 rfl (lv_at hl 0 rfl) ?_
  refine lv_iload_n hx hb dX4_suggest_1 rfl (lv_at hl 1 rfl) ?_
  refine q_xcallr w (q_xrunV X w 0 (c_X4_pairAt l k h hst x) (cwV 1 hts gX4_suggest_X4_pairAt rfl rfl rfl (by decide +kernel) ⟨Nat.le_of_ble_eq_true rfl, Nat.le_of_ble_eq_true rfl⟩) (by decide) rfl rfl rfl hl.1 rfl (Nat.le_of_ble_eq_true rfl) dX4_suggest_2 ⟨Nat.le_of_ble_eq_true rfl, Nat.le_of_ble_eq_true rfl⟩) (fun E ce q9 h9 H locs hp w h1 h2 h3 => q_out w hQ hnh hlocks hp h1 h2 h3 (Nat.le_of_ble_eq_true rfl) (Nat.le_of_ble_eq_true rfl)) (fun i_2 h_2 H locs hp w => ?_)
  obtain ⟨q, hq, ex_2, ei_2, eh_2⟩ := hp
  dsimp only at ei_2 eh_2
  subst ex_2
  subst ei_2
  rw [eh_2] at w
  have hP : pp (11 + 8 * q) := pp_i (by omega)
  have hP2 : pp (11 + 8 * (1 - q)) := pp_i (by omega)
  refine lv_astore_n (lv' := [(2, .ref (k.2.1 (11 + 8 * q))), (0, .ref (k.2.1 0)), (1, .int (nI q))]) hx hb dX4_suggest_5 rfl hl (by decide) rfl (fun ls hl => ?_)
  refine lv_aload_n hx hb dX4_suggest_6 rfl (lv_at hl 1 rfl) ?_
  refine lv_iload_n hx hb dX4_suggest_7 rfl (lv_at hl 2 rfl) ?_
  refine q_callr w (q_runV X w 0 (c_X4_otherOf l k h hq) (cwV 1 hts gX4_suggest_X4_otherOf rfl rfl rfl (by decide +kernel) ⟨Nat.le_of_ble_eq_true rfl, Nat.le_of_ble_eq_true rfl⟩) (by decide) rfl rfl rfl hl.1 rfl (Nat.le_of_ble_eq_true rfl) dX4_suggest_8 ⟨Nat.le_of_ble_eq_true rfl, Nat.le_of_ble_eq_true rfl⟩) (fun i_8 h_8 H locs hp w => ?_)
  obtain ⟨ei_8, eh_8⟩ := hp
  dsimp only at ei_8 eh_8
  subst ei_8
  rw [eh_8] at w
  refine lv_astore_n (lv' := [(3, .ref (k.2.1 (11 + 8 * (1 - q)))), (2, .ref (k.2.1 (11 + 8 * q))), (0, .ref (k.2.1 0)), (1, .int (nI q))]) hx hb dX4_suggest_11 rfl hl (by decide) rfl (fun ls hl => ?_)
  refine lv_aload_n hx hb dX4_suggest_12 rfl (lv_at hl 1 rfl) ?_
  refine lv_aload_n hx hb dX4_suggest_13 rfl (lv_at hl 0 rfl) ?_
  refine q_calli w (q_runV X w (11 + 8 * q) (c_X0_weakestTone l k h hP hP2) (cwV 1 hts gX4_suggest_X0_weakestTone rfl rfl rfl (by decide +kernel) ⟨Nat.le_of_ble_eq_true rfl, Nat.le_of_ble_eq_true rfl⟩) (pp_lt0 hP) (hE_p0 hP k _) rfl rfl hl.1 rfl (Nat.le_of_ble_eq_true rfl) dX4_suggest_14 ⟨Nat.le_of_ble_eq_true rfl, Nat.le_of_ble_eq_true rfl⟩) (fun r_14 h_14 H locs hp w => ?_)
  obtain ⟨er_14, eh_14⟩ := hp
  rw [eh_14] at w
  have er_14 : r_14 = oI (wkz h (11 + 8 * q) (11 + 8 * (1 - q))) := er_14
  rcases ho_14 : wkz h (11 + 8 * q) (11 + 8 * (1 - q)) with _ | t_14
  · rw [ho_14] at er_14
    have er_14 : r_14 = (-1) := er_14
    subst er_14
    refine lv_istore (lv' := [(4, .int (-1)), (3, .ref (k.2.1 (11 + 8 * (1 - q)))), (2, .ref (k.2.1 (11 + 8 * q))), (0, .ref (k.2.1 0)), (1, .int (nI q))]) hx hb dX4_suggest_17 hl (by decide) rfl (fun ls hl => ?_)
    refine lv_iload hx hb dX4_suggest_19 (lv_at hl 0 rfl) ?_
    refine lv_if_ge (tgt := 26) hx hb dX4_suggest_21 (by decide) (fun c_21 => ?_) (fun c_21 => ?_)
    · exact absurd c_21 (by decide)
    · refine lv_iconst (v := (-1)) hx hb dX4_suggest_24 (by decide) ?_
      exact q_xretI X w hlocks hrt hQ dX4_suggest_25 rfl ⟨q, hq, rfl, by rw [sgz, ho_14], Or.inl rfl⟩ (Nat.le_of_ble_eq_true rfl) (Nat.le_of_ble_eq_true rfl)
  · rw [ho_14] at er_14
    have er_14 : r_14 = nI t_14 := er_14
    subst er_14
    have ht_14 : t_14 < 16 := (amin_bd ho_14).1
    refine lv_istore (lv' := [(4, .int (nI t_14)), (3, .ref (k.2.1 (11 + 8 * (1 - q)))), (2, .ref (k.2.1 (11 + 8 * q))), (0, .ref (k.2.1 0)), (1, .int (nI q))]) hx hb dX4_suggest_17 hl (by decide) rfl (fun ls hl => ?_)
    refine lv_iload hx hb dX4_suggest_19 (lv_at hl 0 rfl) ?_
    refine lv_if_ge (tgt := 26) hx hb dX4_suggest_21 (by decide) (fun c_21 => ?_) (fun c_21 => ?_)
    · refine lv_aload_n hx hb dX4_suggest_26 rfl (lv_at hl 3 rfl) ?_
      refine q_get X w 0 4 (ci := 4) (by decide) rfl rfl hi4 (by decide) (by decide +kernel) rfl dX4_suggest_27 ?_
      refine lv_aload_n hx hb dX4_suggest_30 rfl (lv_at hl 2 rfl) ?_
      refine lv_aload_n hx hb dX4_suggest_31 rfl (lv_at hl 1 rfl) ?_
      refine q_callv w (q_runV X w 2 (c_X1_readTable l k h hP hP2) (cwV 2 hts gX4_suggest_X1_readTable rfl rfl rfl (by decide +kernel) ⟨Nat.le_of_ble_eq_true rfl, Nat.le_of_ble_eq_true rfl⟩) (by decide) rfl rfl rfl hl.1 rfl (Nat.le_of_ble_eq_true rfl) dX4_suggest_32 ⟨Nat.le_of_ble_eq_true rfl, Nat.le_of_ble_eq_true rfl⟩) (fun h_32 H locs hp w => ?_)
      have eh_32 := hp
      refine lv_aload_n hx hb dX4_suggest_35 rfl (lv_at hl 3 rfl) ?_
      refine q_get X w 0 4 (ci := 4) (by decide) rfl rfl hi4 (by decide) (by decide +kernel) rfl dX4_suggest_36 ?_
      refine lv_iload hx hb dX4_suggest_39 (lv_at hl 0 rfl) ?_
      refine q_calli w (q_runV X w 2 (c_X1_cheapestTone l k h_32 (nI t_14)) (cwV 1 hts gX4_suggest_X1_cheapestTone rfl rfl rfl (by decide +kernel) ⟨Nat.le_of_ble_eq_true rfl, Nat.le_of_ble_eq_true rfl⟩) (by decide) rfl rfl rfl hl.1 rfl (Nat.le_of_ble_eq_true rfl) dX4_suggest_41 ⟨Nat.le_of_ble_eq_true rfl, Nat.le_of_ble_eq_true rfl⟩) (fun r_41 h_41 H locs hp w => ?_)
      obtain ⟨er_41, eh_41⟩ := hp
      rw [eh_41] at w
      have er_41 : r_41 = oI (chz (h_32.2.1 3) (h_32.1 4) (h_32.1 5) (nI t_14)) := er_41
      rcases ho_41 : chz (h_32.2.1 3) (h_32.1 4) (h_32.1 5) (nI t_14) with _ | t_41
      · rw [ho_41] at er_41
        have er_41 : r_41 = (-1) := er_41
        subst er_41
        refine lv_istore (lv' := [(5, .int (-1)), (4, .int (nI t_14)), (3, .ref (k.2.1 (11 + 8 * (1 - q)))), (2, .ref (k.2.1 (11 + 8 * q))), (0, .ref (k.2.1 0)), (1, .int (nI q))]) hx hb dX4_suggest_44 hl (by decide) rfl (fun ls hl => ?_)
        refine lv_iload hx hb dX4_suggest_46 (lv_at hl 0 rfl) ?_
        refine lv_if_ge (tgt := 55) hx hb dX4_suggest_48 (by decide) (fun c_48 => ?_) (fun c_48 => ?_)
        · exact absurd c_48 (by decide)
        · refine lv_iconst (v := (-1)) hx hb dX4_suggest_51 (by decide) ?_
          refine lv_goto (tgt := 63) hx hb dX4_suggest_52 (by decide) ?_
          exact q_xretI X w hlocks hrt hQ dX4_suggest_63 rfl ⟨q, hq, rfl, by rw [sgz, ho_14]; dsimp only; rw [← eh_32, ho_41], Or.inr eh_32⟩ (Nat.le_of_ble_eq_true rfl) (Nat.le_of_ble_eq_true rfl)
      · rw [ho_41] at er_41
        have er_41 : r_41 = nI t_41 := er_41
        subst er_41
        have ht_41 : t_41 < 16 := (amin_bd ho_41).1
        refine lv_istore (lv' := [(5, .int (nI t_41)), (4, .int (nI t_14)), (3, .ref (k.2.1 (11 + 8 * (1 - q)))), (2, .ref (k.2.1 (11 + 8 * q))), (0, .ref (k.2.1 0)), (1, .int (nI q))]) hx hb dX4_suggest_44 hl (by decide) rfl (fun ls hl => ?_)
        refine lv_iload hx hb dX4_suggest_46 (lv_at hl 0 rfl) ?_
        refine lv_if_ge (tgt := 55) hx hb dX4_suggest_48 (by decide) (fun c_48 => ?_) (fun c_48 => ?_)
        · refine lv_bipush (v := nI 16) hx hb dX4_suggest_55 (by decide) ?_
          refine lv_iload hx hb dX4_suggest_57 (lv_at hl 1 rfl) ?_
          refine q_imulN X dX4_suggest_59 ?_
          refine lv_iload hx hb dX4_suggest_60 (lv_at hl 0 rfl) ?_
          refine q_iaddN X dX4_suggest_62 ?_
          exact q_xretI X w hlocks hrt hQ dX4_suggest_63 rfl ⟨q, hq, rfl, by rw [sgz, ho_14]; dsimp only; rw [← eh_32, ho_41], Or.inr eh_32⟩ (Nat.le_of_ble_eq_true rfl) (Nat.le_of_ble_eq_true rfl)
        · exact absurd (nI_pos' (by omega)) c_48
    · exact absurd (nI_pos' (by omega)) c_21
