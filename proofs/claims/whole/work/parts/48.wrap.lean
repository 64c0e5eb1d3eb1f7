abbrev rw_L_setNoise : Room := { frames := 8, cells := 5, slots := 30, locals := 137 }
set_option maxHeartbeats 4000000 in
set_option maxRecDepth 100000 in
theorem w_L_setNoise (l : Launch) (k : kY) (h : hS) (x y z : Int32) {post : Int32 → hS → Prop} {postX : String → hS → Prop} (hM : CX l k yX4_setNoise wsX4_setNoise rc_X4_setNoise [.ref (k.2.1 0), .int x, .int y, .int z] h (QI k post) postX 5 30) (hE : ∀ (E : String) (h' : hS), postX E h' → E = xIO ∨ E = xIA) : CT l k yL_setNoise wsL_setNoise rw_L_setNoise [.ref (k.2.1 0), .int x, .int y, .int z, .ref (k.2.1 95)] h (QI k (fun r h' => (∃ (v : Int32) (h1 : hS), post v h1 ∧ r = nI 0 ∧ h' = upL h1 95 0 v.toInt64) ∨ (postX xIO h' ∧ r = nI 1) ∨ (postX xIA h' ∧ r = nI 2))) 5 30 := by
  refine q_metIW (cc := cL_setNoise) (maxL := 6) (by decide) rfl (Nat.le_of_ble_eq_true rfl) ?_
  intro p e s m args below meth c Q ls X hT w hl hret
  have hx := X.1
  have hb := X.2.1
  have hown := X.2.2.2.1
  have hts := X.2.2.2.2
  have hl : lv_has ls 6 [(0, .ref (k.2.1 0)), (1, .int x), (2, .int y), (3, .int z), (4, .ref (k.2.1 95))] := hl
  refine lv_aload hx hb dL_setNoise_0 (lv_at hl 4 rfl) ?_
  refine lv_iconst (v := nI 0) hx hb dL_setNoise_2 (by decide) ?_
  refine lv_aload_n hx hb dL_setNoise_3 rfl (lv_at hl 0 rfl) ?_
  refine lv_iload_n hx hb dL_setNoise_4 rfl (lv_at hl 1 rfl) ?_
  refine lv_iload_n hx hb dL_setNoise_5 rfl (lv_at hl 2 rfl) ?_
  refine lv_iload_n hx hb dL_setNoise_6 rfl (lv_at hl 3 rfl) ?_
  refine q_xcalli w (q_xrunV X w 0 hM (cwV 3 hts gL_setNoise_X4_setNoise rfl rfl rfl (by decide +kernel) ⟨Nat.le_of_ble_eq_true rfl, Nat.le_of_ble_eq_true rfl⟩) (by decide) rfl rfl rfl hl.1 rfl (Nat.le_of_ble_eq_true rfl) dL_setNoise_7 ⟨Nat.le_of_ble_eq_true rfl, Nat.le_of_ble_eq_true rfl⟩) (fun E ce q9 h9 H locs hp w h1 h2 h3 => ?_) (fun r_7 h_7 H locs hp w => ?_)
  · rcases hE E h9 hp with rfl | rfl
    · refine vx_catch (own := RL) (name := xIO) hown [] ⟨0, 12, 15, 13⟩ [⟨0, 12, 19, 15⟩] (hT.trans rfl) (fun _ hz => absurd hz List.not_mem_nil) (by decide) (by decide) (hts (.classLink RL 13 xIO) (by decide +kernel)) (va_Nw.use rfl (w.2.2.2.2.2.2.2.2.1 xIO (by decide +kernel))) h1 h2 h3 ?_
      refine lv_astore (lv' := [(5, .ref q9), (0, .ref (k.2.1 0)), (1, .int x), (2, .int y), (3, .int z), (4, .ref (k.2.1 95))]) hx hb dL_setNoise_15 hl (by decide) rfl (fun ls hl => ?_)
      refine lv_iconst (v := nI 1) hx hb dL_setNoise_17 (by decide) ?_
      exact hret _ _ _ _ _ _ _ _ dL_setNoise_18 w rfl (Or.inr (Or.inl ⟨hp, rfl⟩)) (Nat.le_of_ble_eq_true rfl) (Nat.le_of_ble_eq_true rfl)
    · refine vx_catch (own := RL) (name := xIA) hown [⟨0, 12, 15, 13⟩] ⟨0, 12, 19, 15⟩ [] (hT.trans rfl) (fun z hz => by obtain rfl := List.mem_singleton.mp hz; exact Or.inr ⟨by decide, xIO, hts (.classLink RL 13 xIO) (by decide +kernel), w.2.2.2.2.2.2.2.2.2.2 (xIA, xIO) (by decide +kernel)⟩) (by decide) (by decide) (hts (.classLink RL 15 xIA) (by decide +kernel)) (va_Nw.use rfl (w.2.2.2.2.2.2.2.2.1 xIA (by decide +kernel))) h1 h2 h3 ?_
      refine lv_astore (lv' := [(5, .ref q9), (0, .ref (k.2.1 0)), (1, .int x), (2, .int y), (3, .int z), (4, .ref (k.2.1 95))]) hx hb dL_setNoise_19 hl (by decide) rfl (fun ls hl => ?_)
      refine lv_iconst (v := nI 2) hx hb dL_setNoise_21 (by decide) ?_
      exact hret _ _ _ _ _ _ _ _ dL_setNoise_22 w rfl (Or.inr (Or.inr ⟨hp, rfl⟩)) (Nat.le_of_ble_eq_true rfl) (Nat.le_of_ble_eq_true rfl)
  · refine lv_i2l hx hb dL_setNoise_10 rfl ?_
    refine q_last X w 95 0 (by decide) (fun _ => rfl) rfl (show 0 < 1 by decide) (by decide) dL_setNoise_11 (fun H locs w => ?_)
    obtain ⟨h_11, eh_11⟩ : ∃ z9, z9 = upL h_7 95 0 r_7.toInt64 := ⟨_, rfl⟩
    rw [← eh_11] at w
    refine lv_goto (tgt := 23) hx hb dL_setNoise_12 (by decide) ?_
    refine lv_iconst (v := nI 0) hx hb dL_setNoise_23 (by decide) ?_
    exact hret _ _ _ _ _ _ _ _ dL_setNoise_24 w rfl (Or.inl ⟨r_7, h_7, hp, rfl, eh_11⟩) (Nat.le_of_ble_eq_true rfl) (Nat.le_of_ble_eq_true rfl)

abbrev rw_L_setCoupling : Room := { frames := 8, cells := 5, slots := 30, locals := 137 }
set_option maxHeartbeats 4000000 in
set_option maxRecDepth 100000 in
theorem w_L_setCoupling (l : Launch) (k : kY) (h : hS) (x y z : Int32) {post : Int32 → hS → Prop} {postX : String → hS → Prop} (hM : CX l k yX4_setCoupling wsX4_setCoupling rc_X4_setCoupling [.ref (k.2.1 0), .int x, .int y, .int z] h (QI k post) postX 5 30) (hE : ∀ (E : String) (h' : hS), postX E h' → E = xIO ∨ E = xIA) : CT l k yL_setCoupling wsL_setCoupling rw_L_setCoupling [.ref (k.2.1 0), .int x, .int y, .int z, .ref (k.2.1 95)] h (QI k (fun r h' => (∃ (v : Int32) (h1 : hS), post v h1 ∧ r = nI 0 ∧ h' = upL h1 95 0 v.toInt64) ∨ (postX xIO h' ∧ r = nI 1) ∨ (postX xIA h' ∧ r = nI 2))) 5 30 := by
  refine q_metIW (cc := cL_setCoupling) (maxL := 6) (by decide) rfl (Nat.le_of_ble_eq_true rfl) ?_
  intro p e s m args below meth c Q ls X hT w hl hret
  have hx := X.1
  have hb := X.2.1
  have hown := X.2.2.2.1
  have hts := X.2.2.2.2
  have hl : lv_has ls 6 [(0, .ref (k.2.1 0)), (1, .int x), (2, .int y), (3, .int z), (4, .ref (k.2.1 95))] := hl
  refine lv_aload hx hb dL_setCoupling_0 (lv_at hl 4 rfl) ?_
  refine lv_iconst (v := nI 0) hx hb dL_setCoupling_2 (by decide) ?_
  refine lv_aload_n hx hb dL_setCoupling_3 rfl (lv_at hl 0 rfl) ?_
  refine lv_iload_n hx hb dL_setCoupling_4 rfl (lv_at hl 1 rfl) ?_
  refine lv_iload_n hx hb dL_setCoupling_5 rfl (lv_at hl 2 rfl) ?_
  refine lv_iload_n hx hb dL_setCoupling_6 rfl (lv_at hl 3 rfl) ?_
  refine q_xcalli w (q_xrunV X w 0 hM (cwV 3 hts gL_setCoupling_X4_setCoupling rfl rfl rfl (by decide +kernel) ⟨Nat.le_of_ble_eq_true rfl, Nat.le_of_ble_eq_true rfl⟩) (by decide) rfl rfl rfl hl.1 rfl (Nat.le_of_ble_eq_true rfl) dL_setCoupling_7 ⟨Nat.le_of_ble_eq_true rfl, Nat.le_of_ble_eq_true rfl⟩) (fun E ce q9 h9 H locs hp w h1 h2 h3 => ?_) (fun r_7 h_7 H locs hp w => ?_)
  · rcases hE E h9 hp with rfl | rfl
    · refine vx_catch (own := RL) (name := xIO) hown [] ⟨0, 12, 15, 13⟩ [⟨0, 12, 19, 15⟩] (hT.trans rfl) (fun _ hz => absurd hz List.not_mem_nil) (by decide) (by decide) (hts (.classLink RL 13 xIO) (by decide +kernel)) (va_Nw.use rfl (w.2.2.2.2.2.2.2.2.1 xIO (by decide +kernel))) h1 h2 h3 ?_
      refine lv_astore (lv' := [(5, .ref q9), (0, .ref (k.2.1 0)), (1, .int x), (2, .int y), (3, .int z), (4, .ref (k.2.1 95))]) hx hb dL_setCoupling_15 hl (by decide) rfl (fun ls hl => ?_)
      refine lv_iconst (v := nI 1) hx hb dL_setCoupling_17 (by decide) ?_
      exact hret _ _ _ _ _ _ _ _ dL_setCoupling_18 w rfl (Or.inr (Or.inl ⟨hp, rfl⟩)) (Nat.le_of_ble_eq_true rfl) (Nat.le_of_ble_eq_true rfl)
    · refine vx_catch (own := RL) (name := xIA) hown [⟨0, 12, 15, 13⟩] ⟨0, 12, 19, 15⟩ [] (hT.trans rfl) (fun z hz => by obtain rfl := List.mem_singleton.mp hz; exact Or.inr ⟨by decide, xIO, hts (.classLink RL 13 xIO) (by decide +kernel), w.2.2.2.2.2.2.2.2.2.2 (xIA, xIO) (by decide +kernel)⟩) (by decide) (by decide) (hts (.classLink RL 15 xIA) (by decide +kernel)) (va_Nw.use rfl (w.2.2.2.2.2.2.2.2.1 xIA (by decide +kernel))) h1 h2 h3 ?_
      refine lv_astore (lv' := [(5, .ref q9), (0, .ref (k.2.1 0)), (1, .int x), (2, .int y), (3, .int z), (4, .ref (k.2.1 95))]) hx hb dL_setCoupling_19 hl (by decide) rfl (fun ls hl => ?_)
      refine lv_iconst (v := nI 2) hx hb dL_setCoupling_21 (by decide) ?_
      exact hret _ _ _ _ _ _ _ _ dL_setCoupling_22 w rfl (Or.inr (Or.inr ⟨hp, rfl⟩)) (Nat.le_of_ble_eq_true rfl) (Nat.le_of_ble_eq_true rfl)
  · refine lv_i2l hx hb dL_setCoupling_10 rfl ?_
    refine q_last X w 95 0 (by decide) (fun _ => rfl) rfl (show 0 < 1 by decide) (by decide) dL_setCoupling_11 (fun H locs w => ?_)
    obtain ⟨h_11, eh_11⟩ : ∃ z9, z9 = upL h_7 95 0 r_7.toInt64 := ⟨_, rfl⟩
    rw [← eh_11] at w
    refine lv_goto (tgt := 23) hx hb dL_setCoupling_12 (by decide) ?_
    refine lv_iconst (v := nI 0) hx hb dL_setCoupling_23 (by decide) ?_
    exact hret _ _ _ _ _ _ _ _ dL_setCoupling_24 w rfl (Or.inl ⟨r_7, h_7, hp, rfl, eh_11⟩) (Nat.le_of_ble_eq_true rfl) (Nat.le_of_ble_eq_true rfl)

abbrev rw_L_setLimit : Room := { frames := 8, cells := 5, slots := 30, locals := 137 }
set_option maxHeartbeats 4000000 in
set_option maxRecDepth 100000 in
theorem w_L_setLimit (l : Launch) (k : kY) (h : hS) (x y z : Int32) {post : Int32 → hS → Prop} {postX : String → hS → Prop} (hM : CX l k yX4_setLimit wsX4_setLimit rc_X4_setLimit [.ref (k.2.1 0), .int x, .int y, .int z] h (QI k post) postX 5 30) (hE : ∀ (E : String) (h' : hS), postX E h' → E = xIO ∨ E = xIA ∨ E = xIS) : CT l k yL_setLimit wsL_setLimit rw_L_setLimit [.ref (k.2.1 0), .int x, .int y, .int z, .ref (k.2.1 95)] h (QI k (fun r h' => (∃ (v : Int32) (h1 : hS), post v h1 ∧ r = nI 0 ∧ h' = upL h1 95 0 v.toInt64) ∨ (postX xIO h' ∧ r = nI 1) ∨ (postX xIA h' ∧ r = nI 2) ∨ (postX xIS h' ∧ r = nI 3))) 5 30 := by
  refine q_metIW (cc := cL_setLimit) (maxL := 6) (by decide) rfl (Nat.le_of_ble_eq_true rfl) ?_
  intro p e s m args below meth c Q ls X hT w hl hret
  have hx := X.1
  have hb := X.2.1
  have hown := X.2.2.2.1
  have hts := X.2.2.2.2
  have hl : lv_has ls 6 [(0, .ref (k.2.1 0)), (1, .int x), (2, .int y), (3, .int z), (4, .ref (k.2.1 95))] := hl
  refine lv_aload hx hb dL_setLimit_0 (lv_at hl 4 rfl) ?_
  refine lv_iconst (v := nI 0) hx hb dL_setLimit_2 (by decide) ?_
  refine lv_aload_n hx hb dL_setLimit_3 rfl (lv_at hl 0 rfl) ?_
  refine lv_iload_n hx hb dL_setLimit_4 rfl (lv_at hl 1 rfl) ?_
  refine lv_iload_n hx hb dL_setLimit_5 rfl (lv_at hl 2 rfl) ?_
  refine lv_iload_n hx hb dL_setLimit_6 rfl (lv_at hl 3 rfl) ?_
  refine q_xcalli w (q_xrunV X w 0 hM (cwV 3 hts gL_setLimit_X4_setLimit rfl rfl rfl (by decide +kernel) ⟨Nat.le_of_ble_eq_true rfl, Nat.le_of_ble_eq_true rfl⟩) (by decide) rfl rfl rfl hl.1 rfl (Nat.le_of_ble_eq_true rfl) dL_setLimit_7 ⟨Nat.le_of_ble_eq_true rfl, Nat.le_of_ble_eq_true rfl⟩) (fun E ce q9 h9 H locs hp w h1 h2 h3 => ?_) (fun r_7 h_7 H locs hp w => ?_)
  · rcases hE E h9 hp with rfl | rfl | rfl
    · refine vx_catch (own := RL) (name := xIO) hown [] ⟨0, 12, 15, 13⟩ [⟨0, 12, 19, 15⟩, ⟨0, 12, 23, 23⟩] (hT.trans rfl) (fun _ hz => absurd hz List.not_mem_nil) (by decide) (by decide) (hts (.classLink RL 13 xIO) (by decide +kernel)) (va_Nw.use rfl (w.2.2.2.2.2.2.2.2.1 xIO (by decide +kernel))) h1 h2 h3 ?_
      refine lv_astore (lv' := [(5, .ref q9), (0, .ref (k.2.1 0)), (1, .int x), (2, .int y), (3, .int z), (4, .ref (k.2.1 95))]) hx hb dL_setLimit_15 hl (by decide) rfl (fun ls hl => ?_)
      refine lv_iconst (v := nI 1) hx hb dL_setLimit_17 (by decide) ?_
      exact hret _ _ _ _ _ _ _ _ dL_setLimit_18 w rfl (Or.inr (Or.inl ⟨hp, rfl⟩)) (Nat.le_of_ble_eq_true rfl) (Nat.le_of_ble_eq_true rfl)
    · refine vx_catch (own := RL) (name := xIA) hown [⟨0, 12, 15, 13⟩] ⟨0, 12, 19, 15⟩ [⟨0, 12, 23, 23⟩] (hT.trans rfl) (fun z hz => by obtain rfl := List.mem_singleton.mp hz; exact Or.inr ⟨by decide, xIO, hts (.classLink RL 13 xIO) (by decide +kernel), w.2.2.2.2.2.2.2.2.2.2 (xIA, xIO) (by decide +kernel)⟩) (by decide) (by decide) (hts (.classLink RL 15 xIA) (by decide +kernel)) (va_Nw.use rfl (w.2.2.2.2.2.2.2.2.1 xIA (by decide +kernel))) h1 h2 h3 ?_
      refine lv_astore (lv' := [(5, .ref q9), (0, .ref (k.2.1 0)), (1, .int x), (2, .int y), (3, .int z), (4, .ref (k.2.1 95))]) hx hb dL_setLimit_19 hl (by decide) rfl (fun ls hl => ?_)
      refine lv_iconst (v := nI 2) hx hb dL_setLimit_21 (by decide) ?_
      exact hret _ _ _ _ _ _ _ _ dL_setLimit_22 w rfl (Or.inr (Or.inr (Or.inl ⟨hp, rfl⟩))) (Nat.le_of_ble_eq_true rfl) (Nat.le_of_ble_eq_true rfl)
    · refine vx_catch (own := RL) (name := xIS) hown [⟨0, 12, 15, 13⟩, ⟨0, 12, 19, 15⟩] ⟨0, 12, 23, 23⟩ [] (hT.trans rfl) (fun z hz => (List.mem_cons.mp hz).elim (fun e => by subst e; exact Or.inr ⟨by decide, xIO, hts (.classLink RL 13 xIO) (by decide +kernel), w.2.2.2.2.2.2.2.2.2.2 (xIS, xIO) (by decide +kernel)⟩) (fun hz => by obtain rfl := List.mem_singleton.mp hz; exact Or.inr ⟨by decide, xIA, hts (.classLink RL 15 xIA) (by decide +kernel), w.2.2.2.2.2.2.2.2.2.2 (xIS, xIA) (by decide +kernel)⟩)) (by decide) (by decide) (hts (.classLink RL 23 xIS) (by decide +kernel)) (va_Nw.use rfl (w.2.2.2.2.2.2.2.2.1 xIS (by decide +kernel))) h1 h2 h3 ?_
      refine lv_astore (lv' := [(5, .ref q9), (0, .ref (k.2.1 0)), (1, .int x), (2, .int y), (3, .int z), (4, .ref (k.2.1 95))]) hx hb dL_setLimit_23 hl (by decide) rfl (fun ls hl => ?_)
      refine lv_iconst (v := nI 3) hx hb dL_setLimit_25 (by decide) ?_
      exact hret _ _ _ _ _ _ _ _ dL_setLimit_26 w rfl (Or.inr (Or.inr (Or.inr ⟨hp, rfl⟩))) (Nat.le_of_ble_eq_true rfl) (Nat.le_of_ble_eq_true rfl)
  · refine lv_i2l hx hb dL_setLimit_10 rfl ?_
    refine q_last X w 95 0 (by decide) (fun _ => rfl) rfl (show 0 < 1 by decide) (by decide) dL_setLimit_11 (fun H locs w => ?_)
    obtain ⟨h_11, eh_11⟩ : ∃ z9, z9 = upL h_7 95 0 r_7.toInt64 := ⟨_, rfl⟩
    rw [← eh_11] at w
    refine lv_goto (tgt := 27) hx hb dL_setLimit_12 (by decide) ?_
    refine lv_iconst (v := nI 0) hx hb dL_setLimit_27 (by decide) ?_
    exact hret _ _ _ _ _ _ _ _ dL_setLimit_28 w rfl (Or.inl ⟨r_7, h_7, hp, rfl, eh_11⟩) (Nat.le_of_ble_eq_true rfl) (Nat.le_of_ble_eq_true rfl)

abbrev rw_L_setBudget : Room := { frames := 8, cells := 5, slots := 30, locals := 136 }
set_option maxHeartbeats 4000000 in
set_option maxRecDepth 100000 in
theorem w_L_setBudget (l : Launch) (k : kY) (h : hS) (x y : Int32) {post : Int32 → hS → Prop} {postX : String → hS → Prop} (hM : CX l k yX4_setBudget wsX4_setBudget rc_X4_setBudget [.ref (k.2.1 0), .int x, .int y] h (QI k post) postX 5 30) (hE : ∀ (E : String) (h' : hS), postX E h' → E = xIO ∨ E = xIA) : CT l k yL_setBudget wsL_setBudget rw_L_setBudget [.ref (k.2.1 0), .int x, .int y, .ref (k.2.1 95)] h (QI k (fun r h' => (∃ (v : Int32) (h1 : hS), post v h1 ∧ r = nI 0 ∧ h' = upL h1 95 0 v.toInt64) ∨ (postX xIO h' ∧ r = nI 1) ∨ (postX xIA h' ∧ r = nI 2))) 5 30 := by
  refine q_metIW (cc := cL_setBudget) (maxL := 5) (by decide) rfl (Nat.le_of_ble_eq_true rfl) ?_
  intro p e s m args below meth c Q ls X hT w hl hret
  have hx := X.1
  have hb := X.2.1
  have hown := X.2.2.2.1
  have hts := X.2.2.2.2
  have hl : lv_has ls 5 [(0, .ref (k.2.1 0)), (1, .int x), (2, .int y), (3, .ref (k.2.1 95))] := hl
  refine lv_aload_n hx hb dL_setBudget_0 rfl (lv_at hl 3 rfl) ?_
  refine lv_iconst (v := nI 0) hx hb dL_setBudget_1 (by decide) ?_
  refine lv_aload_n hx hb dL_setBudget_2 rfl (lv_at hl 0 rfl) ?_
  refine lv_iload_n hx hb dL_setBudget_3 rfl (lv_at hl 1 rfl) ?_
  refine lv_iload_n hx hb dL_setBudget_4 rfl (lv_at hl 2 rfl) ?_
  refine q_xcalli w (q_xrunV X w 0 hM (cwV 2 hts gL_setBudget_X4_setBudget rfl rfl rfl (by decide +kernel) ⟨Nat.le_of_ble_eq_true rfl, Nat.le_of_ble_eq_true rfl⟩) (by decide) rfl rfl rfl hl.1 rfl (Nat.le_of_ble_eq_true rfl) dL_setBudget_5 ⟨Nat.le_of_ble_eq_true rfl, Nat.le_of_ble_eq_true rfl⟩) (fun E ce q9 h9 H locs hp w h1 h2 h3 => ?_) (fun r_5 h_5 H locs hp w => ?_)
  · rcases hE E h9 hp with rfl | rfl
    · refine vx_catch (own := RL) (name := xIO) hown [] ⟨0, 10, 13, 13⟩ [⟨0, 10, 17, 15⟩] (hT.trans rfl) (fun _ hz => absurd hz List.not_mem_nil) (by decide) (by decide) (hts (.classLink RL 13 xIO) (by decide +kernel)) (va_Nw.use rfl (w.2.2.2.2.2.2.2.2.1 xIO (by decide +kernel))) h1 h2 h3 ?_
      refine lv_astore (lv' := [(4, .ref q9), (0, .ref (k.2.1 0)), (1, .int x), (2, .int y), (3, .ref (k.2.1 95))]) hx hb dL_setBudget_13 hl (by decide) rfl (fun ls hl => ?_)
      refine lv_iconst (v := nI 1) hx hb dL_setBudget_15 (by decide) ?_
      exact hret _ _ _ _ _ _ _ _ dL_setBudget_16 w rfl (Or.inr (Or.inl ⟨hp, rfl⟩)) (Nat.le_of_ble_eq_true rfl) (Nat.le_of_ble_eq_true rfl)
    · refine vx_catch (own := RL) (name := xIA) hown [⟨0, 10, 13, 13⟩] ⟨0, 10, 17, 15⟩ [] (hT.trans rfl) (fun z hz => by obtain rfl := List.mem_singleton.mp hz; exact Or.inr ⟨by decide, xIO, hts (.classLink RL 13 xIO) (by decide +kernel), w.2.2.2.2.2.2.2.2.2.2 (xIA, xIO) (by decide +kernel)⟩) (by decide) (by decide) (hts (.classLink RL 15 xIA) (by decide +kernel)) (va_Nw.use rfl (w.2.2.2.2.2.2.2.2.1 xIA (by decide +kernel))) h1 h2 h3 ?_
      refine lv_astore (lv' := [(4, .ref q9), (0, .ref (k.2.1 0)), (1, .int x), (2, .int y), (3, .ref (k.2.1 95))]) hx hb dL_setBudget_17 hl (by decide) rfl (fun ls hl => ?_)
      refine lv_iconst (v := nI 2) hx hb dL_setBudget_19 (by decide) ?_
      exact hret _ _ _ _ _ _ _ _ dL_setBudget_20 w rfl (Or.inr (Or.inr ⟨hp, rfl⟩)) (Nat.le_of_ble_eq_true rfl) (Nat.le_of_ble_eq_true rfl)
  · refine lv_i2l hx hb dL_setBudget_8 rfl ?_
    refine q_last X w 95 0 (by decide) (fun _ => rfl) rfl (show 0 < 1 by decide) (by decide) dL_setBudget_9 (fun H locs w => ?_)
    obtain ⟨h_9, eh_9⟩ : ∃ z9, z9 = upL h_5 95 0 r_5.toInt64 := ⟨_, rfl⟩
    rw [← eh_9] at w
    refine lv_goto (tgt := 21) hx hb dL_setBudget_10 (by decide) ?_
    refine lv_iconst (v := nI 0) hx hb dL_setBudget_21 (by decide) ?_
    exact hret _ _ _ _ _ _ _ _ dL_setBudget_22 w rfl (Or.inl ⟨r_5, h_5, hp, rfl, eh_9⟩) (Nat.le_of_ble_eq_true rfl) (Nat.le_of_ble_eq_true rfl)

abbrev rw_L_loadRate : Room := { frames := 8, cells := 5, slots := 30, locals := 133 }
set_option maxHeartbeats 4000000 in
set_option maxRecDepth 100000 in
theorem w_L_loadRate (l : Launch) (k : kY) (h : hS) (x : Int32) {post : Int32 → hS → Prop} {postX : String → hS → Prop} (hM : CX l k yX4_loadRate wsX4_loadRate rc_X4_loadRate [.ref (k.2.1 0), .int x] h (QI k post) postX 5 30) (hE : ∀ (E : String) (h' : hS), postX E h' → E = xIO) : CT l k yL_loadRate wsL_loadRate rw_L_loadRate [.ref (k.2.1 0), .int x, .ref (k.2.1 95)] h (QI k (fun r h' => (∃ (v : Int32) (h1 : hS), post v h1 ∧ r = nI 0 ∧ h' = upL h1 95 0 v.toInt64) ∨ (postX xIO h' ∧ r = nI 1))) 5 30 := by
  refine q_metIW (cc := cL_loadRate) (maxL := 4) (by decide) rfl (Nat.le_of_ble_eq_true rfl) ?_
  intro p e s m args below meth c Q ls X hT w hl hret
  have hx := X.1
  have hb := X.2.1
  have hown := X.2.2.2.1
  have hts := X.2.2.2.2
  have hl : lv_has ls 4 [(0, .ref (k.2.1 0)), (1, .int x), (2, .ref (k.2.1 95))] := hl
  refine lv_aload_n hx hb dL_loadRate_0 rfl (lv_at hl 2 rfl) ?_
  refine lv_iconst (v := nI 0) hx hb dL_loadRate_1 (by decide) ?_
  refine lv_aload_n hx hb dL_loadRate_2 rfl (lv_at hl 0 rfl) ?_
  refine lv_iload_n hx hb dL_loadRate_3 rfl (lv_at hl 1 rfl) ?_
  refine q_xcalli w (q_xrunV X w 0 hM (cwV 1 hts gL_loadRate_X4_loadRate rfl rfl rfl (by decide +kernel) ⟨Nat.le_of_ble_eq_true rfl, Nat.le_of_ble_eq_true rfl⟩) (by decide) rfl rfl rfl hl.1 rfl (Nat.le_of_ble_eq_true rfl) dL_loadRate_4 ⟨Nat.le_of_ble_eq_true rfl, Nat.le_of_ble_eq_true rfl⟩) (fun E ce q9 h9 H locs hp w h1 h2 h3 => ?_) (fun r_4 h_4 H locs hp w => ?_)
  · obtain rfl := hE E h9 hp
    refine vx_catch (own := RL) (name := xIO) hown [] ⟨0, 9, 12, 13⟩ [] (hT.trans rfl) (fun _ hz => absurd hz List.not_mem_nil) (by decide) (by decide) (hts (.classLink RL 13 xIO) (by decide +kernel)) (va_Nw.use rfl (w.2.2.2.2.2.2.2.2.1 xIO (by decide +kernel))) h1 h2 h3 ?_
    refine lv_astore_n (lv' := [(3, .ref q9), (0, .ref (k.2.1 0)), (1, .int x), (2, .ref (k.2.1 95))]) hx hb dL_loadRate_12 rfl hl (by decide) rfl (fun ls hl => ?_)
    refine lv_iconst (v := nI 1) hx hb dL_loadRate_13 (by decide) ?_
    exact hret _ _ _ _ _ _ _ _ dL_loadRate_14 w rfl (Or.inr ⟨hp, rfl⟩) (Nat.le_of_ble_eq_true rfl) (Nat.le_of_ble_eq_true rfl)
  · refine lv_i2l hx hb dL_loadRate_7 rfl ?_
    refine q_last X w 95 0 (by decide) (fun _ => rfl) rfl (show 0 < 1 by decide) (by decide) dL_loadRate_8 (fun H locs w => ?_)
    obtain ⟨h_8, eh_8⟩ : ∃ z9, z9 = upL h_4 95 0 r_4.toInt64 := ⟨_, rfl⟩
    rw [← eh_8] at w
    refine lv_goto (tgt := 15) hx hb dL_loadRate_9 (by decide) ?_
    refine lv_iconst (v := nI 0) hx hb dL_loadRate_15 (by decide) ?_
    exact hret _ _ _ _ _ _ _ _ dL_loadRate_16 w rfl (Or.inl ⟨r_4, h_4, hp, rfl, eh_8⟩) (Nat.le_of_ble_eq_true rfl) (Nat.le_of_ble_eq_true rfl)

abbrev rw_L_loadBits : Room := { frames := 8, cells := 5, slots := 30, locals := 135 }
set_option maxHeartbeats 4000000 in
set_option maxRecDepth 100000 in
theorem w_L_loadBits (l : Launch) (k : kY) (h : hS) (x y : Int32) {post : Int64 → hS → Prop} {postX : String → hS → Prop} (hM : CX l k yX4_loadBits wsX4_loadBits rc_X4_loadBits [.ref (k.2.1 0), .int x, .int y] h (QL k post) postX 5 30) (hE : ∀ (E : String) (h' : hS), postX E h' → E = xIO ∨ E = xIA ∨ E = xIS) : CT l k yL_loadBits wsL_loadBits rw_L_loadBits [.ref (k.2.1 0), .int x, .int y, .ref (k.2.1 95)] h (QI k (fun r h' => (∃ (v : Int64) (h1 : hS), post v h1 ∧ r = nI 0 ∧ h' = upL h1 95 0 v) ∨ (postX xIO h' ∧ r = nI 1) ∨ (postX xIA h' ∧ r = nI 2) ∨ (postX xIS h' ∧ r = nI 3))) 5 30 := by
  refine q_metIW (cc := cL_loadBits) (maxL := 5) (by decide) rfl (Nat.le_of_ble_eq_true rfl) ?_
  intro p e s m args below meth c Q ls X hT w hl hret
  have hx := X.1
  have hb := X.2.1
  have hown := X.2.2.2.1
  have hts := X.2.2.2.2
  have hl : lv_has ls 5 [(0, .ref (k.2.1 0)), (1, .int x), (2, .int y), (3, .ref (k.2.1 95))] := hl
  refine lv_aload_n hx hb dL_loadBits_0 rfl (lv_at hl 3 rfl) ?_
  refine lv_iconst (v := nI 0) hx hb dL_loadBits_1 (by decide) ?_
  refine lv_aload_n hx hb dL_loadBits_2 rfl (lv_at hl 0 rfl) ?_
  refine lv_iload_n hx hb dL_loadBits_3 rfl (lv_at hl 1 rfl) ?_
  refine lv_iload_n hx hb dL_loadBits_4 rfl (lv_at hl 2 rfl) ?_
  refine q_xcalll w (q_xrunV X w 0 hM (cwV 2 hts gL_loadBits_X4_loadBits rfl rfl rfl (by decide +kernel) ⟨Nat.le_of_ble_eq_true rfl, Nat.le_of_ble_eq_true rfl⟩) (by decide) rfl rfl rfl hl.1 rfl (Nat.le_of_ble_eq_true rfl) dL_loadBits_5 ⟨Nat.le_of_ble_eq_true rfl, Nat.le_of_ble_eq_true rfl⟩) (fun E ce q9 h9 H locs hp w h1 h2 h3 => ?_) (fun r_5 h_5 H locs hp w => ?_)
  · rcases hE E h9 hp with rfl | rfl | rfl
    · refine vx_catch (own := RL) (name := xIO) hown [] ⟨0, 9, 12, 13⟩ [⟨0, 9, 16, 15⟩, ⟨0, 9, 20, 23⟩] (hT.trans rfl) (fun _ hz => absurd hz List.not_mem_nil) (by decide) (by decide) (hts (.classLink RL 13 xIO) (by decide +kernel)) (va_Nw.use rfl (w.2.2.2.2.2.2.2.2.1 xIO (by decide +kernel))) h1 h2 h3 ?_
      refine lv_astore (lv' := [(4, .ref q9), (0, .ref (k.2.1 0)), (1, .int x), (2, .int y), (3, .ref (k.2.1 95))]) hx hb dL_loadBits_12 hl (by decide) rfl (fun ls hl => ?_)
      refine lv_iconst (v := nI 1) hx hb dL_loadBits_14 (by decide) ?_
      exact hret _ _ _ _ _ _ _ _ dL_loadBits_15 w rfl (Or.inr (Or.inl ⟨hp, rfl⟩)) (Nat.le_of_ble_eq_true rfl) (Nat.le_of_ble_eq_true rfl)
    · refine vx_catch (own := RL) (name := xIA) hown [⟨0, 9, 12, 13⟩] ⟨0, 9, 16, 15⟩ [⟨0, 9, 20, 23⟩] (hT.trans rfl) (fun z hz => by obtain rfl := List.mem_singleton.mp hz; exact Or.inr ⟨by decide, xIO, hts (.classLink RL 13 xIO) (by decide +kernel), w.2.2.2.2.2.2.2.2.2.2 (xIA, xIO) (by decide +kernel)⟩) (by decide) (by decide) (hts (.classLink RL 15 xIA) (by decide +kernel)) (va_Nw.use rfl (w.2.2.2.2.2.2.2.2.1 xIA (by decide +kernel))) h1 h2 h3 ?_
      refine lv_astore (lv' := [(4, .ref q9), (0, .ref (k.2.1 0)), (1, .int x), (2, .int y), (3, .ref (k.2.1 95))]) hx hb dL_loadBits_16 hl (by decide) rfl (fun ls hl => ?_)
      refine lv_iconst (v := nI 2) hx hb dL_loadBits_18 (by decide) ?_
      exact hret _ _ _ _ _ _ _ _ dL_loadBits_19 w rfl (Or.inr (Or.inr (Or.inl ⟨hp, rfl⟩))) (Nat.le_of_ble_eq_true rfl) (Nat.le_of_ble_eq_true rfl)
    · refine vx_catch (own := RL) (name := xIS) hown [⟨0, 9, 12, 13⟩, ⟨0, 9, 16, 15⟩] ⟨0, 9, 20, 23⟩ [] (hT.trans rfl) (fun z hz => (List.mem_cons.mp hz).elim (fun e => by subst e; exact Or.inr ⟨by decide, xIO, hts (.classLink RL 13 xIO) (by decide +kernel), w.2.2.2.2.2.2.2.2.2.2 (xIS, xIO) (by decide +kernel)⟩) (fun hz => by obtain rfl := List.mem_singleton.mp hz; exact Or.inr ⟨by decide, xIA, hts (.classLink RL 15 xIA) (by decide +kernel), w.2.2.2.2.2.2.2.2.2.2 (xIS, xIA) (by decide +kernel)⟩)) (by decide) (by decide) (hts (.classLink RL 23 xIS) (by decide +kernel)) (va_Nw.use rfl (w.2.2.2.2.2.2.2.2.1 xIS (by decide +kernel))) h1 h2 h3 ?_
      refine lv_astore (lv' := [(4, .ref q9), (0, .ref (k.2.1 0)), (1, .int x), (2, .int y), (3, .ref (k.2.1 95))]) hx hb dL_loadBits_20 hl (by decide) rfl (fun ls hl => ?_)
      refine lv_iconst (v := nI 3) hx hb dL_loadBits_22 (by decide) ?_
      exact hret _ _ _ _ _ _ _ _ dL_loadBits_23 w rfl (Or.inr (Or.inr (Or.inr ⟨hp, rfl⟩))) (Nat.le_of_ble_eq_true rfl) (Nat.le_of_ble_eq_true rfl)
  · refine q_last X w 95 0 (by decide) (fun _ => rfl) rfl (show 0 < 1 by decide) (by decide) dL_loadBits_8 (fun H locs w => ?_)
    obtain ⟨h_8, eh_8⟩ : ∃ z9, z9 = upL h_5 95 0 r_5 := ⟨_, rfl⟩
    rw [← eh_8] at w
    refine lv_goto (tgt := 24) hx hb dL_loadBits_9 (by decide) ?_
    refine lv_iconst (v := nI 0) hx hb dL_loadBits_24 (by decide) ?_
    exact hret _ _ _ _ _ _ _ _ dL_loadBits_25 w rfl (Or.inl ⟨r_5, h_5, hp, rfl, eh_8⟩) (Nat.le_of_ble_eq_true rfl) (Nat.le_of_ble_eq_true rfl)

abbrev rw_L_repair : Room := { frames := 8, cells := 5, slots := 30, locals := 134 }
set_option maxHeartbeats 4000000 in
set_option maxRecDepth 100000 in
theorem w_L_repair (l : Launch) (k : kY) (h : hS) (x : Int32) {post : Int32 → hS → Prop} {postX : String → hS → Prop} (hM : CX l k yX4_repair wsX4_repair rc_X4_repair [.ref (k.2.1 0), .int x] h (QI k post) postX 5 30) (hE : ∀ (E : String) (h' : hS), postX E h' → E = xIO) : CT l k yL_repair wsL_repair rw_L_repair [.ref (k.2.1 0), .int x, .ref (k.2.1 95)] h (QI k (fun r h' => (∃ (v : Int32) (h1 : hS), post v h1 ∧ r = nI 0 ∧ h' = upL h1 95 0 v.toInt64) ∨ (postX xIO h' ∧ r = nI 1))) 5 30 := by
  refine q_metIW (cc := cL_repair) (maxL := 4) (by decide) rfl (Nat.le_of_ble_eq_true rfl) ?_
  intro p e s m args below meth c Q ls X hT w hl hret
  have hx := X.1
  have hb := X.2.1
  have hown := X.2.2.2.1
  have hts := X.2.2.2.2
  have hl : lv_has ls 4 [(0, .ref (k.2.1 0)), (1, .int x), (2, .ref (k.2.1 95))] := hl
  refine lv_aload_n hx hb dL_repair_0 rfl (lv_at hl 2 rfl) ?_
  refine lv_iconst (v := nI 0) hx hb dL_repair_1 (by decide) ?_
  refine lv_aload_n hx hb dL_repair_2 rfl (lv_at hl 0 rfl) ?_
  refine lv_iload_n hx hb dL_repair_3 rfl (lv_at hl 1 rfl) ?_
  refine q_xcalli w (q_xrunV X w 0 hM (cwV 1 hts gL_repair_X4_repair rfl rfl rfl (by decide +kernel) ⟨Nat.le_of_ble_eq_true rfl, Nat.le_of_ble_eq_true rfl⟩) (by decide) rfl rfl rfl hl.1 rfl (Nat.le_of_ble_eq_true rfl) dL_repair_4 ⟨Nat.le_of_ble_eq_true rfl, Nat.le_of_ble_eq_true rfl⟩) (fun E ce q9 h9 H locs hp w h1 h2 h3 => ?_) (fun r_4 h_4 H locs hp w => ?_)
  · obtain rfl := hE E h9 hp
    refine vx_catch (own := RL) (name := xIO) hown [] ⟨0, 9, 12, 13⟩ [] (hT.trans rfl) (fun _ hz => absurd hz List.not_mem_nil) (by decide) (by decide) (hts (.classLink RL 13 xIO) (by decide +kernel)) (va_Nw.use rfl (w.2.2.2.2.2.2.2.2.1 xIO (by decide +kernel))) h1 h2 h3 ?_
    refine lv_astore_n (lv' := [(3, .ref q9), (0, .ref (k.2.1 0)), (1, .int x), (2, .ref (k.2.1 95))]) hx hb dL_repair_12 rfl hl (by decide) rfl (fun ls hl => ?_)
    refine lv_iconst (v := nI 1) hx hb dL_repair_13 (by decide) ?_
    exact hret _ _ _ _ _ _ _ _ dL_repair_14 w rfl (Or.inr ⟨hp, rfl⟩) (Nat.le_of_ble_eq_true rfl) (Nat.le_of_ble_eq_true rfl)
  · refine lv_i2l hx hb dL_repair_7 rfl ?_
    refine q_last X w 95 0 (by decide) (fun _ => rfl) rfl (show 0 < 1 by decide) (by decide) dL_repair_8 (fun H locs w => ?_)
    obtain ⟨h_8, eh_8⟩ : ∃ z9, z9 = upL h_4 95 0 r_4.toInt64 := ⟨_, rfl⟩
    rw [← eh_8] at w
    refine lv_goto (tgt := 15) hx hb dL_repair_9 (by decide) ?_
    refine lv_iconst (v := nI 0) hx hb dL_repair_15 (by decide) ?_
    exact hret _ _ _ _ _ _ _ _ dL_repair_16 w rfl (Or.inl ⟨r_4, h_4, hp, rfl, eh_8⟩) (Nat.le_of_ble_eq_true rfl) (Nat.le_of_ble_eq_true rfl)

abbrev rw_L_balance : Room := { frames := 8, cells := 5, slots := 30, locals := 137 }
set_option maxHeartbeats 4000000 in
set_option maxRecDepth 100000 in
theorem w_L_balance (l : Launch) (k : kY) (h : hS) (x : Int32) {post : Int32 → hS → Prop} {postX : String → hS → Prop} (hM : CX l k yX4_balance wsX4_balance rc_X4_balance [.ref (k.2.1 0), .int x] h (QI k post) postX 5 30) (hE : ∀ (E : String) (h' : hS), postX E h' → E = xIA) : CT l k yL_balance wsL_balance rw_L_balance [.ref (k.2.1 0), .int x, .ref (k.2.1 95)] h (QI k (fun r h' => (∃ (v : Int32) (h1 : hS), post v h1 ∧ r = nI 0 ∧ h' = upL h1 95 0 v.toInt64) ∨ (postX xIA h' ∧ r = nI 1))) 5 30 := by
  refine q_metIW (cc := cL_balance) (maxL := 4) (by decide) rfl (Nat.le_of_ble_eq_true rfl) ?_
  intro p e s m args below meth c Q ls X hT w hl hret
  have hx := X.1
  have hb := X.2.1
  have hown := X.2.2.2.1
  have hts := X.2.2.2.2
  have hl : lv_has ls 4 [(0, .ref (k.2.1 0)), (1, .int x), (2, .ref (k.2.1 95))] := hl
  refine lv_aload_n hx hb dL_balance_0 rfl (lv_at hl 2 rfl) ?_
  refine lv_iconst (v := nI 0) hx hb dL_balance_1 (by decide) ?_
  refine lv_aload_n hx hb dL_balance_2 rfl (lv_at hl 0 rfl) ?_
  refine lv_iload_n hx hb dL_balance_3 rfl (lv_at hl 1 rfl) ?_
  refine q_xcalli w (q_xrunV X w 0 hM (cwV 1 hts gL_balance_X4_balance rfl rfl rfl (by decide +kernel) ⟨Nat.le_of_ble_eq_true rfl, Nat.le_of_ble_eq_true rfl⟩) (by decide) rfl rfl rfl hl.1 rfl (Nat.le_of_ble_eq_true rfl) dL_balance_4 ⟨Nat.le_of_ble_eq_true rfl, Nat.le_of_ble_eq_true rfl⟩) (fun E ce q9 h9 H locs hp w h1 h2 h3 => ?_) (fun r_4 h_4 H locs hp w => ?_)
  · obtain rfl := hE E h9 hp
    refine vx_catch (own := RL) (name := xIA) hown [] ⟨0, 9, 12, 15⟩ [] (hT.trans rfl) (fun _ hz => absurd hz List.not_mem_nil) (by decide) (by decide) (hts (.classLink RL 15 xIA) (by decide +kernel)) (va_Nw.use rfl (w.2.2.2.2.2.2.2.2.1 xIA (by decide +kernel))) h1 h2 h3 ?_
    refine lv_astore_n (lv' := [(3, .ref q9), (0, .ref (k.2.1 0)), (1, .int x), (2, .ref (k.2.1 95))]) hx hb dL_balance_12 rfl hl (by decide) rfl (fun ls hl => ?_)
    refine lv_iconst (v := nI 1) hx hb dL_balance_13 (by decide) ?_
    exact hret _ _ _ _ _ _ _ _ dL_balance_14 w rfl (Or.inr ⟨hp, rfl⟩) (Nat.le_of_ble_eq_true rfl) (Nat.le_of_ble_eq_true rfl)
  · refine lv_i2l hx hb dL_balance_7 rfl ?_
    refine q_last X w 95 0 (by decide) (fun _ => rfl) rfl (show 0 < 1 by decide) (by decide) dL_balance_8 (fun H locs w => ?_)
    obtain ⟨h_8, eh_8⟩ : ∃ z9, z9 = upL h_4 95 0 r_4.toInt64 := ⟨_, rfl⟩
    rw [← eh_8] at w
    refine lv_goto (tgt := 15) hx hb dL_balance_9 (by decide) ?_
    refine lv_iconst (v := nI 0) hx hb dL_balance_15 (by decide) ?_
    exact hret _ _ _ _ _ _ _ _ dL_balance_16 w rfl (Or.inl ⟨r_4, h_4, hp, rfl, eh_8⟩) (Nat.le_of_ble_eq_true rfl) (Nat.le_of_ble_eq_true rfl)

abbrev rw_L_bits : Room := { frames := 8, cells := 5, slots := 30, locals := 136 }
set_option maxHeartbeats 4000000 in
set_option maxRecDepth 100000 in
theorem w_L_bits (l : Launch) (k : kY) (h : hS) (x y z : Int32) {post : Int32 → hS → Prop} {postX : String → hS → Prop} (hM : CX l k yX4_bits wsX4_bits rc_X4_bits [.ref (k.2.1 0), .int x, .int y, .int z] h (QI k post) postX 5 30) (hE : ∀ (E : String) (h' : hS), postX E h' → E = xIO ∨ E = xIA) : CT l k yL_bits wsL_bits rw_L_bits [.ref (k.2.1 0), .int x, .int y, .int z, .ref (k.2.1 95)] h (QI k (fun r h' => (∃ (v : Int32) (h1 : hS), post v h1 ∧ r = nI 0 ∧ h' = upL h1 95 0 v.toInt64) ∨ (postX xIO h' ∧ r = nI 1) ∨ (postX xIA h' ∧ r = nI 2))) 5 30 := by
  refine q_metIW (cc := cL_bits) (maxL := 6) (by decide) rfl (Nat.le_of_ble_eq_true rfl) ?_
  intro p e s m args below meth c Q ls X hT w hl hret
  have hx := X.1
  have hb := X.2.1
  have hown := X.2.2.2.1
  have hts := X.2.2.2.2
  have hl : lv_has ls 6 [(0, .ref (k.2.1 0)), (1, .int x), (2, .int y), (3, .int z), (4, .ref (k.2.1 95))] := hl
  refine lv_aload hx hb dL_bits_0 (lv_at hl 4 rfl) ?_
  refine lv_iconst (v := nI 0) hx hb dL_bits_2 (by decide) ?_
  refine lv_aload_n hx hb dL_bits_3 rfl (lv_at hl 0 rfl) ?_
  refine lv_iload_n hx hb dL_bits_4 rfl (lv_at hl 1 rfl) ?_
  refine lv_iload_n hx hb dL_bits_5 rfl (lv_at hl 2 rfl) ?_
  refine lv_iload_n hx hb dL_bits_6 rfl (lv_at hl 3 rfl) ?_
  refine q_xcalli w (q_xrunV X w 0 hM (cwV 3 hts gL_bits_X4_bits rfl rfl rfl (by decide +kernel) ⟨Nat.le_of_ble_eq_true rfl, Nat.le_of_ble_eq_true rfl⟩) (by decide) rfl rfl rfl hl.1 rfl (Nat.le_of_ble_eq_true rfl) dL_bits_7 ⟨Nat.le_of_ble_eq_true rfl, Nat.le_of_ble_eq_true rfl⟩) (fun E ce q9 h9 H locs hp w h1 h2 h3 => ?_) (fun r_7 h_7 H locs hp w => ?_)
  · rcases hE E h9 hp with rfl | rfl
    · refine vx_catch (own := RL) (name := xIO) hown [] ⟨0, 12, 15, 13⟩ [⟨0, 12, 19, 15⟩] (hT.trans rfl) (fun _ hz => absurd hz List.not_mem_nil) (by decide) (by decide) (hts (.classLink RL 13 xIO) (by decide +kernel)) (va_Nw.use rfl (w.2.2.2.2.2.2.2.2.1 xIO (by decide +kernel))) h1 h2 h3 ?_
      refine lv_astore (lv' := [(5, .ref q9), (0, .ref (k.2.1 0)), (1, .int x), (2, .int y), (3, .int z), (4, .ref (k.2.1 95))]) hx hb dL_bits_15 hl (by decide) rfl (fun ls hl => ?_)
      refine lv_iconst (v := nI 1) hx hb dL_bits_17 (by decide) ?_
      exact hret _ _ _ _ _ _ _ _ dL_bits_18 w rfl (Or.inr (Or.inl ⟨hp, rfl⟩)) (Nat.le_of_ble_eq_true rfl) (Nat.le_of_ble_eq_true rfl)
    · refine vx_catch (own := RL) (name := xIA) hown [⟨0, 12, 15, 13⟩] ⟨0, 12, 19, 15⟩ [] (hT.trans rfl) (fun z hz => by obtain rfl := List.mem_singleton.mp hz; exact Or.inr ⟨by decide, xIO, hts (.classLink RL 13 xIO) (by decide +kernel), w.2.2.2.2.2.2.2.2.2.2 (xIA, xIO) (by decide +kernel)⟩) (by decide) (by decide) (hts (.classLink RL 15 xIA) (by decide +kernel)) (va_Nw.use rfl (w.2.2.2.2.2.2.2.2.1 xIA (by decide +kernel))) h1 h2 h3 ?_
      refine lv_astore (lv' := [(5, .ref q9), (0, .ref (k.2.1 0)), (1, .int x), (2, .int y), (3, .int z), (4, .ref (k.2.1 95))]) hx hb dL_bits_19 hl (by decide) rfl (fun ls hl => ?_)
      refine lv_iconst (v := nI 2) hx hb dL_bits_21 (by decide) ?_
      exact hret _ _ _ _ _ _ _ _ dL_bits_22 w rfl (Or.inr (Or.inr ⟨hp, rfl⟩)) (Nat.le_of_ble_eq_true rfl) (Nat.le_of_ble_eq_true rfl)
  · refine lv_i2l hx hb dL_bits_10 rfl ?_
    refine q_last X w 95 0 (by decide) (fun _ => rfl) rfl (show 0 < 1 by decide) (by decide) dL_bits_11 (fun H locs w => ?_)
    obtain ⟨h_11, eh_11⟩ : ∃ z9, z9 = upL h_7 95 0 r_7.toInt64 := ⟨_, rfl⟩
    rw [← eh_11] at w
    refine lv_goto (tgt := 23) hx hb dL_bits_12 (by decide) ?_
    refine lv_iconst (v := nI 0) hx hb dL_bits_23 (by decide) ?_
    exact hret _ _ _ _ _ _ _ _ dL_bits_24 w rfl (Or.inl ⟨r_7, h_7, hp, rfl, eh_11⟩) (Nat.le_of_ble_eq_true rfl) (Nat.le_of_ble_eq_true rfl)

abbrev rw_L_rate : Room := { frames := 8, cells := 5, slots := 30, locals := 132 }
set_option maxHeartbeats 4000000 in
set_option maxRecDepth 100000 in
theorem w_L_rate (l : Launch) (k : kY) (h : hS) (x : Int32) {post : Int32 → hS → Prop} {postX : String → hS → Prop} (hM : CX l k yX4_rate wsX4_rate rc_X4_rate [.ref (k.2.1 0), .int x] h (QI k post) postX 5 30) (hE : ∀ (E : String) (h' : hS), postX E h' → E = xIO) : CT l k yL_rate wsL_rate rw_L_rate [.ref (k.2.1 0), .int x, .ref (k.2.1 95)] h (QI k (fun r h' => (∃ (v : Int32) (h1 : hS), post v h1 ∧ r = nI 0 ∧ h' = upL h1 95 0 v.toInt64) ∨ (postX xIO h' ∧ r = nI 1))) 5 30 := by
  refine q_metIW (cc := cL_rate) (maxL := 4) (by decide) rfl (Nat.le_of_ble_eq_true rfl) ?_
  intro p e s m args below meth c Q ls X hT w hl hret
  have hx := X.1
  have hb := X.2.1
  have hown := X.2.2.2.1
  have hts := X.2.2.2.2
  have hl : lv_has ls 4 [(0, .ref (k.2.1 0)), (1, .int x), (2, .ref (k.2.1 95))] := hl
  refine lv_aload_n hx hb dL_rate_0 rfl (lv_at hl 2 rfl) ?_
  refine lv_iconst (v := nI 0) hx hb dL_rate_1 (by decide) ?_
  refine lv_aload_n hx hb dL_rate_2 rfl (lv_at hl 0 rfl) ?_
  refine lv_iload_n hx hb dL_rate_3 rfl (lv_at hl 1 rfl) ?_
  refine q_xcalli w (q_xrunV X w 0 hM (cwV 1 hts gL_rate_X4_rate rfl rfl rfl (by decide +kernel) ⟨Nat.le_of_ble_eq_true rfl, Nat.le_of_ble_eq_true rfl⟩) (by decide) rfl rfl rfl hl.1 rfl (Nat.le_of_ble_eq_true rfl) dL_rate_4 ⟨Nat.le_of_ble_eq_true rfl, Nat.le_of_ble_eq_true rfl⟩) (fun E ce q9 h9 H locs hp w h1 h2 h3 => ?_) (fun r_4 h_4 H locs hp w => ?_)
  · obtain rfl := hE E h9 hp
    refine vx_catch (own := RL) (name := xIO) hown [] ⟨0, 9, 12, 13⟩ [] (hT.trans rfl) (fun _ hz => absurd hz List.not_mem_nil) (by decide) (by decide) (hts (.classLink RL 13 xIO) (by decide +kernel)) (va_Nw.use rfl (w.2.2.2.2.2.2.2.2.1 xIO (by decide +kernel))) h1 h2 h3 ?_
    refine lv_astore_n (lv' := [(3, .ref q9), (0, .ref (k.2.1 0)), (1, .int x), (2, .ref (k.2.1 95))]) hx hb dL_rate_12 rfl hl (by decide) rfl (fun ls hl => ?_)
    refine lv_iconst (v := nI 1) hx hb dL_rate_13 (by decide) ?_
    exact hret _ _ _ _ _ _ _ _ dL_rate_14 w rfl (Or.inr ⟨hp, rfl⟩) (Nat.le_of_ble_eq_true rfl) (Nat.le_of_ble_eq_true rfl)
  · refine lv_i2l hx hb dL_rate_7 rfl ?_
    refine q_last X w 95 0 (by decide) (fun _ => rfl) rfl (show 0 < 1 by decide) (by decide) dL_rate_8 (fun H locs w => ?_)
    obtain ⟨h_8, eh_8⟩ : ∃ z9, z9 = upL h_4 95 0 r_4.toInt64 := ⟨_, rfl⟩
    rw [← eh_8] at w
    refine lv_goto (tgt := 15) hx hb dL_rate_9 (by decide) ?_
    refine lv_iconst (v := nI 0) hx hb dL_rate_15 (by decide) ?_
    exact hret _ _ _ _ _ _ _ _ dL_rate_16 w rfl (Or.inl ⟨r_4, h_4, hp, rfl, eh_8⟩) (Nat.le_of_ble_eq_true rfl) (Nat.le_of_ble_eq_true rfl)

abbrev rw_L_energy : Room := { frames := 8, cells := 5, slots := 30, locals := 134 }
set_option maxHeartbeats 4000000 in
set_option maxRecDepth 100000 in
theorem w_L_energy (l : Launch) (k : kY) (h : hS) (x y : Int32) {post : Int64 → hS → Prop} {postX : String → hS → Prop} (hM : CX l k yX4_energy wsX4_energy rc_X4_energy [.ref (k.2.1 0), .int x, .int y] h (QL k post) postX 5 30) (hE : ∀ (E : String) (h' : hS), postX E h' → E = xIO) : CT l k yL_energy wsL_energy rw_L_energy [.ref (k.2.1 0), .int x, .int y, .ref (k.2.1 95)] h (QI k (fun r h' => (∃ (v : Int64) (h1 : hS), post v h1 ∧ r = nI 0 ∧ h' = upL h1 95 0 v) ∨ (postX xIO h' ∧ r = nI 1))) 5 30 := by
  refine q_metIW (cc := cL_energy) (maxL := 5) (by decide) rfl (Nat.le_of_ble_eq_true rfl) ?_
  intro p e s m args below meth c Q ls X hT w hl hret
  have hx := X.1
  have hb := X.2.1
  have hown := X.2.2.2.1
  have hts := X.2.2.2.2
  have hl : lv_has ls 5 [(0, .ref (k.2.1 0)), (1, .int x), (2, .int y), (3, .ref (k.2.1 95))] := hl
  refine lv_aload_n hx hb dL_energy_0 rfl (lv_at hl 3 rfl) ?_
  refine lv_iconst (v := nI 0) hx hb dL_energy_1 (by decide) ?_
  refine lv_aload_n hx hb dL_energy_2 rfl (lv_at hl 0 rfl) ?_
  refine lv_iload_n hx hb dL_energy_3 rfl (lv_at hl 1 rfl) ?_
  refine lv_iload_n hx hb dL_energy_4 rfl (lv_at hl 2 rfl) ?_
  refine q_xcalll w (q_xrunV X w 0 hM (cwV 2 hts gL_energy_X4_energy rfl rfl rfl (by decide +kernel) ⟨Nat.le_of_ble_eq_true rfl, Nat.le_of_ble_eq_true rfl⟩) (by decide) rfl rfl rfl hl.1 rfl (Nat.le_of_ble_eq_true rfl) dL_energy_5 ⟨Nat.le_of_ble_eq_true rfl, Nat.le_of_ble_eq_true rfl⟩) (fun E ce q9 h9 H locs hp w h1 h2 h3 => ?_) (fun r_5 h_5 H locs hp w => ?_)
  · obtain rfl := hE E h9 hp
    refine vx_catch (own := RL) (name := xIO) hown [] ⟨0, 9, 12, 13⟩ [] (hT.trans rfl) (fun _ hz => absurd hz List.not_mem_nil) (by decide) (by decide) (hts (.classLink RL 13 xIO) (by decide +kernel)) (va_Nw.use rfl (w.2.2.2.2.2.2.2.2.1 xIO (by decide +kernel))) h1 h2 h3 ?_
    refine lv_astore (lv' := [(4, .ref q9), (0, .ref (k.2.1 0)), (1, .int x), (2, .int y), (3, .ref (k.2.1 95))]) hx hb dL_energy_12 hl (by decide) rfl (fun ls hl => ?_)
    refine lv_iconst (v := nI 1) hx hb dL_energy_14 (by decide) ?_
    exact hret _ _ _ _ _ _ _ _ dL_energy_15 w rfl (Or.inr ⟨hp, rfl⟩) (Nat.le_of_ble_eq_true rfl) (Nat.le_of_ble_eq_true rfl)
  · refine q_last X w 95 0 (by decide) (fun _ => rfl) rfl (show 0 < 1 by decide) (by decide) dL_energy_8 (fun H locs w => ?_)
    obtain ⟨h_8, eh_8⟩ : ∃ z9, z9 = upL h_5 95 0 r_5 := ⟨_, rfl⟩
    rw [← eh_8] at w
    refine lv_goto (tgt := 16) hx hb dL_energy_9 (by decide) ?_
    refine lv_iconst (v := nI 0) hx hb dL_energy_16 (by decide) ?_
    exact hret _ _ _ _ _ _ _ _ dL_energy_17 w rfl (Or.inl ⟨r_5, h_5, hp, rfl, eh_8⟩) (Nat.le_of_ble_eq_true rfl) (Nat.le_of_ble_eq_true rfl)

abbrev rw_L_totalEnergy : Room := { frames := 8, cells := 5, slots := 30, locals := 132 }
set_option maxHeartbeats 4000000 in
set_option maxRecDepth 100000 in
theorem w_L_totalEnergy (l : Launch) (k : kY) (h : hS) (x : Int32) {post : Int64 → hS → Prop} {postX : String → hS → Prop} (hM : CX l k yX4_totalEnergy wsX4_totalEnergy rc_X4_totalEnergy [.ref (k.2.1 0), .int x] h (QL k post) postX 5 30) (hE : ∀ (E : String) (h' : hS), postX E h' → E = xIO) : CT l k yL_totalEnergy wsL_totalEnergy rw_L_totalEnergy [.ref (k.2.1 0), .int x, .ref (k.2.1 95)] h (QI k (fun r h' => (∃ (v : Int64) (h1 : hS), post v h1 ∧ r = nI 0 ∧ h' = upL h1 95 0 v) ∨ (postX xIO h' ∧ r = nI 1))) 5 30 := by
  refine q_metIW (cc := cL_totalEnergy) (maxL := 4) (by decide) rfl (Nat.le_of_ble_eq_true rfl) ?_
  intro p e s m args below meth c Q ls X hT w hl hret
  have hx := X.1
  have hb := X.2.1
  have hown := X.2.2.2.1
  have hts := X.2.2.2.2
  have hl : lv_has ls 4 [(0, .ref (k.2.1 0)), (1, .int x), (2, .ref (k.2.1 95))] := hl
  refine lv_aload_n hx hb dL_totalEnergy_0 rfl (lv_at hl 2 rfl) ?_
  refine lv_iconst (v := nI 0) hx hb dL_totalEnergy_1 (by decide) ?_
  refine lv_aload_n hx hb dL_totalEnergy_2 rfl (lv_at hl 0 rfl) ?_
  refine lv_iload_n hx hb dL_totalEnergy_3 rfl (lv_at hl 1 rfl) ?_
  refine q_xcalll w (q_xrunV X w 0 hM (cwV 1 hts gL_totalEnergy_X4_totalEnergy rfl rfl rfl (by decide +kernel) ⟨Nat.le_of_ble_eq_true rfl, Nat.le_of_ble_eq_true rfl⟩) (by decide) rfl rfl rfl hl.1 rfl (Nat.le_of_ble_eq_true rfl) dL_totalEnergy_4 ⟨Nat.le_of_ble_eq_true rfl, Nat.le_of_ble_eq_true rfl⟩) (fun E ce q9 h9 H locs hp w h1 h2 h3 => ?_) (fun r_4 h_4 H locs hp w => ?_)
  · obtain rfl := hE E h9 hp
    refine vx_catch (own := RL) (name := xIO) hown [] ⟨0, 8, 11, 13⟩ [] (hT.trans rfl) (fun _ hz => absurd hz List.not_mem_nil) (by decide) (by decide) (hts (.classLink RL 13 xIO) (by decide +kernel)) (va_Nw.use rfl (w.2.2.2.2.2.2.2.2.1 xIO (by decide +kernel))) h1 h2 h3 ?_
    refine lv_astore_n (lv' := [(3, .ref q9), (0, .ref (k.2.1 0)), (1, .int x), (2, .ref (k.2.1 95))]) hx hb dL_totalEnergy_11 rfl hl (by decide) rfl (fun ls hl => ?_)
    refine lv_iconst (v := nI 1) hx hb dL_totalEnergy_12 (by decide) ?_
    exact hret _ _ _ _ _ _ _ _ dL_totalEnergy_13 w rfl (Or.inr ⟨hp, rfl⟩) (Nat.le_of_ble_eq_true rfl) (Nat.le_of_ble_eq_true rfl)
  · refine q_last X w 95 0 (by decide) (fun _ => rfl) rfl (show 0 < 1 by decide) (by decide) dL_totalEnergy_7 (fun H locs w => ?_)
    obtain ⟨h_7, eh_7⟩ : ∃ z9, z9 = upL h_4 95 0 r_4 := ⟨_, rfl⟩
    rw [← eh_7] at w
    refine lv_goto (tgt := 14) hx hb dL_totalEnergy_8 (by decide) ?_
    refine lv_iconst (v := nI 0) hx hb dL_totalEnergy_14 (by decide) ?_
    exact hret _ _ _ _ _ _ _ _ dL_totalEnergy_15 w rfl (Or.inl ⟨r_4, h_4, hp, rfl, eh_7⟩) (Nat.le_of_ble_eq_true rfl) (Nat.le_of_ble_eq_true rfl)

abbrev rw_L_disturbedNoise : Room := { frames := 8, cells := 5, slots := 30, locals := 134 }
set_option maxHeartbeats 4000000 in
set_option maxRecDepth 100000 in
theorem w_L_disturbedNoise (l : Launch) (k : kY) (h : hS) (x y : Int32) {post : Int64 → hS → Prop} {postX : String → hS → Prop} (hM : CX l k yX4_disturbedNoise wsX4_disturbedNoise rc_X4_disturbedNoise [.ref (k.2.1 0), .int x, .int y] h (QL k post) postX 5 30) (hE : ∀ (E : String) (h' : hS), postX E h' → E = xIO) : CT l k yL_disturbedNoise wsL_disturbedNoise rw_L_disturbedNoise [.ref (k.2.1 0), .int x, .int y, .ref (k.2.1 95)] h (QI k (fun r h' => (∃ (v : Int64) (h1 : hS), post v h1 ∧ r = nI 0 ∧ h' = upL h1 95 0 v) ∨ (postX xIO h' ∧ r = nI 1))) 5 30 := by
  refine q_metIW (cc := cL_disturbedNoise) (maxL := 5) (by decide) rfl (Nat.le_of_ble_eq_true rfl) ?_
  intro p e s m args below meth c Q ls X hT w hl hret
  have hx := X.1
  have hb := X.2.1
  have hown := X.2.2.2.1
  have hts := X.2.2.2.2
  have hl : lv_has ls 5 [(0, .ref (k.2.1 0)), (1, .int x), (2, .int y), (3, .ref (k.2.1 95))] := hl
  refine lv_aload_n hx hb dL_disturbedNoise_0 rfl (lv_at hl 3 rfl) ?_
  refine lv_iconst (v := nI 0) hx hb dL_disturbedNoise_1 (by decide) ?_
  refine lv_aload_n hx hb dL_disturbedNoise_2 rfl (lv_at hl 0 rfl) ?_
  refine lv_iload_n hx hb dL_disturbedNoise_3 rfl (lv_at hl 1 rfl) ?_
  refine lv_iload_n hx hb dL_disturbedNoise_4 rfl (lv_at hl 2 rfl) ?_
  refine q_xcalll w (q_xrunV X w 0 hM (cwV 2 hts gL_disturbedNoise_X4_disturbedNoise rfl rfl rfl (by decide +kernel) ⟨Nat.le_of_ble_eq_true rfl, Nat.le_of_ble_eq_true rfl⟩) (by decide) rfl rfl rfl hl.1 rfl (Nat.le_of_ble_eq_true rfl) dL_disturbedNoise_5 ⟨Nat.le_of_ble_eq_true rfl, Nat.le_of_ble_eq_true rfl⟩) (fun E ce q9 h9 H locs hp w h1 h2 h3 => ?_) (fun r_5 h_5 H locs hp w => ?_)
  · obtain rfl := hE E h9 hp
    refine vx_catch (own := RL) (name := xIO) hown [] ⟨0, 9, 12, 13⟩ [] (hT.trans rfl) (fun _ hz => absurd hz List.not_mem_nil) (by decide) (by decide) (hts (.classLink RL 13 xIO) (by decide +kernel)) (va_Nw.use rfl (w.2.2.2.2.2.2.2.2.1 xIO (by decide +kernel))) h1 h2 h3 ?_
    refine lv_astore (lv' := [(4, .ref q9), (0, .ref (k.2.1 0)), (1, .int x), (2, .int y), (3, .ref (k.2.1 95))]) hx hb dL_disturbedNoise_12 hl (by decide) rfl (fun ls hl => ?_)
    refine lv_iconst (v := nI 1) hx hb dL_disturbedNoise_14 (by decide) ?_
    exact hret _ _ _ _ _ _ _ _ dL_disturbedNoise_15 w rfl (Or.inr ⟨hp, rfl⟩) (Nat.le_of_ble_eq_true rfl) (Nat.le_of_ble_eq_true rfl)
  · refine q_last X w 95 0 (by decide) (fun _ => rfl) rfl (show 0 < 1 by decide) (by decide) dL_disturbedNoise_8 (fun H locs w => ?_)
    obtain ⟨h_8, eh_8⟩ : ∃ z9, z9 = upL h_5 95 0 r_5 := ⟨_, rfl⟩
    rw [← eh_8] at w
    refine lv_goto (tgt := 16) hx hb dL_disturbedNoise_9 (by decide) ?_
    refine lv_iconst (v := nI 0) hx hb dL_disturbedNoise_16 (by decide) ?_
    exact hret _ _ _ _ _ _ _ _ dL_disturbedNoise_17 w rfl (Or.inl ⟨r_5, h_5, hp, rfl, eh_8⟩) (Nat.le_of_ble_eq_true rfl) (Nat.le_of_ble_eq_true rfl)

abbrev rw_L_margin : Room := { frames := 8, cells := 5, slots := 30, locals := 134 }
set_option maxHeartbeats 4000000 in
set_option maxRecDepth 100000 in
theorem w_L_margin (l : Launch) (k : kY) (h : hS) (x y : Int32) {post : Int64 → hS → Prop} {postX : String → hS → Prop} (hM : CX l k yX4_margin wsX4_margin rc_X4_margin [.ref (k.2.1 0), .int x, .int y] h (QL k post) postX 5 30) (hE : ∀ (E : String) (h' : hS), postX E h' → E = xIO) : CT l k yL_margin wsL_margin rw_L_margin [.ref (k.2.1 0), .int x, .int y, .ref (k.2.1 95)] h (QI k (fun r h' => (∃ (v : Int64) (h1 : hS), post v h1 ∧ r = nI 0 ∧ h' = upL h1 95 0 v) ∨ (postX xIO h' ∧ r = nI 1))) 5 30 := by
  refine q_metIW (cc := cL_margin) (maxL := 5) (by decide) rfl (Nat.le_of_ble_eq_true rfl) ?_
  intro p e s m args below meth c Q ls X hT w hl hret
  have hx := X.1
  have hb := X.2.1
  have hown := X.2.2.2.1
  have hts := X.2.2.2.2
  have hl : lv_has ls 5 [(0, .ref (k.2.1 0)), (1, .int x), (2, .int y), (3, .ref (k.2.1 95))] := hl
  refine lv_aload_n hx hb dL_margin_0 rfl (lv_at hl 3 rfl) ?_
  refine lv_iconst (v := nI 0) hx hb dL_margin_1 (by decide) ?_
  refine lv_aload_n hx hb dL_margin_2 rfl (lv_at hl 0 rfl) ?_
  refine lv_iload_n hx hb dL_margin_3 rfl (lv_at hl 1 rfl) ?_
  refine lv_iload_n hx hb dL_margin_4 rfl (lv_at hl 2 rfl) ?_
  refine q_xcalll w (q_xrunV X w 0 hM (cwV 2 hts gL_margin_X4_margin rfl rfl rfl (by decide +kernel) ⟨Nat.le_of_ble_eq_true rfl, Nat.le_of_ble_eq_true rfl⟩) (by decide) rfl rfl rfl hl.1 rfl (Nat.le_of_ble_eq_true rfl) dL_margin_5 ⟨Nat.le_of_ble_eq_true rfl, Nat.le_of_ble_eq_true rfl⟩) (fun E ce q9 h9 H locs hp w h1 h2 h3 => ?_) (fun r_5 h_5 H locs hp w => ?_)
  · obtain rfl := hE E h9 hp
    refine vx_catch (own := RL) (name := xIO) hown [] ⟨0, 9, 12, 13⟩ [] (hT.trans rfl) (fun _ hz => absurd hz List.not_mem_nil) (by decide) (by decide) (hts (.classLink RL 13 xIO) (by decide +kernel)) (va_Nw.use rfl (w.2.2.2.2.2.2.2.2.1 xIO (by decide +kernel))) h1 h2 h3 ?_
    refine lv_astore (lv' := [(4, .ref q9), (0, .ref (k.2.1 0)), (1, .int x), (2, .int y), (3, .ref (k.2.1 95))]) hx hb dL_margin_12 hl (by decide) rfl (fun ls hl => ?_)
    refine lv_iconst (v := nI 1) hx hb dL_margin_14 (by decide) ?_
    exact hret _ _ _ _ _ _ _ _ dL_margin_15 w rfl (Or.inr ⟨hp, rfl⟩) (Nat.le_of_ble_eq_true rfl) (Nat.le_of_ble_eq_true rfl)
  · refine q_last X w 95 0 (by decide) (fun _ => rfl) rfl (show 0 < 1 by decide) (by decide) dL_margin_8 (fun H locs w => ?_)
    obtain ⟨h_8, eh_8⟩ : ∃ z9, z9 = upL h_5 95 0 r_5 := ⟨_, rfl⟩
    rw [← eh_8] at w
    refine lv_goto (tgt := 16) hx hb dL_margin_9 (by decide) ?_
    refine lv_iconst (v := nI 0) hx hb dL_margin_16 (by decide) ?_
    exact hret _ _ _ _ _ _ _ _ dL_margin_17 w rfl (Or.inl ⟨r_5, h_5, hp, rfl, eh_8⟩) (Nat.le_of_ble_eq_true rfl) (Nat.le_of_ble_eq_true rfl)

abbrev rw_L_leastMargin : Room := { frames := 8, cells := 5, slots := 30, locals := 135 }
set_option maxHeartbeats 4000000 in
set_option maxRecDepth 100000 in
theorem w_L_leastMargin (l : Launch) (k : kY) (h : hS) (x : Int32) {post : Int64 → hS → Prop} {postX : String → hS → Prop} (hM : CX l k yX4_leastMargin wsX4_leastMargin rc_X4_leastMargin [.ref (k.2.1 0), .int x] h (QL k post) postX 5 30) (hE : ∀ (E : String) (h' : hS), postX E h' → E = xIO) : CT l k yL_leastMargin wsL_leastMargin rw_L_leastMargin [.ref (k.2.1 0), .int x, .ref (k.2.1 95)] h (QI k (fun r h' => (∃ (v : Int64) (h1 : hS), post v h1 ∧ r = nI 0 ∧ h' = upL h1 95 0 v) ∨ (postX xIO h' ∧ r = nI 1))) 5 30 := by
  refine q_metIW (cc := cL_leastMargin) (maxL := 4) (by decide) rfl (Nat.le_of_ble_eq_true rfl) ?_
  intro p e s m args below meth c Q ls X hT w hl hret
  have hx := X.1
  have hb := X.2.1
  have hown := X.2.2.2.1
  have hts := X.2.2.2.2
  have hl : lv_has ls 4 [(0, .ref (k.2.1 0)), (1, .int x), (2, .ref (k.2.1 95))] := hl
  refine lv_aload_n hx hb dL_leastMargin_0 rfl (lv_at hl 2 rfl) ?_
  refine lv_iconst (v := nI 0) hx hb dL_leastMargin_1 (by decide) ?_
  refine lv_aload_n hx hb dL_leastMargin_2 rfl (lv_at hl 0 rfl) ?_
  refine lv_iload_n hx hb dL_leastMargin_3 rfl (lv_at hl 1 rfl) ?_
  refine q_xcalll w (q_xrunV X w 0 hM (cwV 1 hts gL_leastMargin_X4_leastMargin rfl rfl rfl (by decide +kernel) ⟨Nat.le_of_ble_eq_true rfl, Nat.le_of_ble_eq_true rfl⟩) (by decide) rfl rfl rfl hl.1 rfl (Nat.le_of_ble_eq_true rfl) dL_leastMargin_4 ⟨Nat.le_of_ble_eq_true rfl, Nat.le_of_ble_eq_true rfl⟩) (fun E ce q9 h9 H locs hp w h1 h2 h3 => ?_) (fun r_4 h_4 H locs hp w => ?_)
  · obtain rfl := hE E h9 hp
    refine vx_catch (own := RL) (name := xIO) hown [] ⟨0, 8, 11, 13⟩ [] (hT.trans rfl) (fun _ hz => absurd hz List.not_mem_nil) (by decide) (by decide) (hts (.classLink RL 13 xIO) (by decide +kernel)) (va_Nw.use rfl (w.2.2.2.2.2.2.2.2.1 xIO (by decide +kernel))) h1 h2 h3 ?_
    refine lv_astore_n (lv' := [(3, .ref q9), (0, .ref (k.2.1 0)), (1, .int x), (2, .ref (k.2.1 95))]) hx hb dL_leastMargin_11 rfl hl (by decide) rfl (fun ls hl => ?_)
    refine lv_iconst (v := nI 1) hx hb dL_leastMargin_12 (by decide) ?_
    exact hret _ _ _ _ _ _ _ _ dL_leastMargin_13 w rfl (Or.inr ⟨hp, rfl⟩) (Nat.le_of_ble_eq_true rfl) (Nat.le_of_ble_eq_true rfl)
  · refine q_last X w 95 0 (by decide) (fun _ => rfl) rfl (show 0 < 1 by decide) (by decide) dL_leastMargin_7 (fun H locs w => ?_)
    obtain ⟨h_7, eh_7⟩ : ∃ z9, z9 = upL h_4 95 0 r_4 := ⟨_, rfl⟩
    rw [← eh_7] at w
    refine lv_goto (tgt := 14) hx hb dL_leastMargin_8 (by decide) ?_
    refine lv_iconst (v := nI 0) hx hb dL_leastMargin_14 (by decide) ?_
    exact hret _ _ _ _ _ _ _ _ dL_leastMargin_15 w rfl (Or.inl ⟨r_4, h_4, hp, rfl, eh_7⟩) (Nat.le_of_ble_eq_true rfl) (Nat.le_of_ble_eq_true rfl)

abbrev rw_L_badTones : Room := { frames := 8, cells := 5, slots := 30, locals := 138 }
set_option maxHeartbeats 4000000 in
set_option maxRecDepth 100000 in
theorem w_L_badTones (l : Launch) (k : kY) (h : hS) (x : Int32) {post : Int32 → hS → Prop} {postX : String → hS → Prop} (hM : CX l k yX4_badTones wsX4_badTones rc_X4_badTones [.ref (k.2.1 0), .int x] h (QI k post) postX 5 30) (hE : ∀ (E : String) (h' : hS), postX E h' → E = xIO) : CT l k yL_badTones wsL_badTones rw_L_badTones [.ref (k.2.1 0), .int x, .ref (k.2.1 95)] h (QI k (fun r h' => (∃ (v : Int32) (h1 : hS), post v h1 ∧ r = nI 0 ∧ h' = upL h1 95 0 v.toInt64) ∨ (postX xIO h' ∧ r = nI 1))) 5 30 := by
  refine q_metIW (cc := cL_badTones) (maxL := 4) (by decide) rfl (Nat.le_of_ble_eq_true rfl) ?_
  intro p e s m args below meth c Q ls X hT w hl hret
  have hx := X.1
  have hb := X.2.1
  have hown := X.2.2.2.1
  have hts := X.2.2.2.2
  have hl : lv_has ls 4 [(0, .ref (k.2.1 0)), (1, .int x), (2, .ref (k.2.1 95))] := hl
  refine lv_aload_n hx hb dL_badTones_0 rfl (lv_at hl 2 rfl) ?_
  refine lv_iconst (v := nI 0) hx hb dL_badTones_1 (by decide) ?_
  refine lv_aload_n hx hb dL_badTones_2 rfl (lv_at hl 0 rfl) ?_
  refine lv_iload_n hx hb dL_badTones_3 rfl (lv_at hl 1 rfl) ?_
  refine q_xcalli w (q_xrunV X w 0 hM (cwV 1 hts gL_badTones_X4_badTones rfl rfl rfl (by decide +kernel) ⟨Nat.le_of_ble_eq_true rfl, Nat.le_of_ble_eq_true rfl⟩) (by decide) rfl rfl rfl hl.1 rfl (Nat.le_of_ble_eq_true rfl) dL_badTones_4 ⟨Nat.le_of_ble_eq_true rfl, Nat.le_of_ble_eq_true rfl⟩) (fun E ce q9 h9 H locs hp w h1 h2 h3 => ?_) (fun r_4 h_4 H locs hp w => ?_)
  · obtain rfl := hE E h9 hp
    refine vx_catch (own := RL) (name := xIO) hown [] ⟨0, 9, 12, 13⟩ [] (hT.trans rfl) (fun _ hz => absurd hz List.not_mem_nil) (by decide) (by decide) (hts (.classLink RL 13 xIO) (by decide +kernel)) (va_Nw.use rfl (w.2.2.2.2.2.2.2.2.1 xIO (by decide +kernel))) h1 h2 h3 ?_
    refine lv_astore_n (lv' := [(3, .ref q9), (0, .ref (k.2.1 0)), (1, .int x), (2, .ref (k.2.1 95))]) hx hb dL_badTones_12 rfl hl (by decide) rfl (fun ls hl => ?_)
    refine lv_iconst (v := nI 1) hx hb dL_badTones_13 (by decide) ?_
    exact hret _ _ _ _ _ _ _ _ dL_badTones_14 w rfl (Or.inr ⟨hp, rfl⟩) (Nat.le_of_ble_eq_true rfl) (Nat.le_of_ble_eq_true rfl)
  · refine lv_i2l hx hb dL_badTones_7 rfl ?_
    refine q_last X w 95 0 (by decide) (fun _ => rfl) rfl (show 0 < 1 by decide) (by decide) dL_badTones_8 (fun H locs w => ?_)
    obtain ⟨h_8, eh_8⟩ : ∃ z9, z9 = upL h_4 95 0 r_4.toInt64 := ⟨_, rfl⟩
    rw [← eh_8] at w
    refine lv_goto (tgt := 15) hx hb dL_badTones_9 (by decide) ?_
    refine lv_iconst (v := nI 0) hx hb dL_badTones_15 (by decide) ?_
    exact hret _ _ _ _ _ _ _ _ dL_badTones_16 w rfl (Or.inl ⟨r_4, h_4, hp, rfl, eh_8⟩) (Nat.le_of_ble_eq_true rfl) (Nat.le_of_ble_eq_true rfl)

abbrev rw_L_isEfficient : Room := { frames := 8, cells := 5, slots := 30, locals := 133 }
set_option maxHeartbeats 4000000 in
set_option maxRecDepth 100000 in
theorem w_L_isEfficient (l : Launch) (k : kY) (h : hS) (x : Int32) {post : Int32 → hS → Prop} {postX : String → hS → Prop} (hM : CX l k yX4_isEfficient wsX4_isEfficient rc_X4_isEfficient [.ref (k.2.1 0), .int x] h (QI k post) postX 5 30) (hE : ∀ (E : String) (h' : hS), postX E h' → E = xIO) : CT l k yL_isEfficient wsL_isEfficient rw_L_isEfficient [.ref (k.2.1 0), .int x, .ref (k.2.1 95)] h (QI k (fun r h' => (∃ (v : Int32) (h1 : hS), post v h1 ∧ r = nI 0 ∧ h' = upL h1 95 0 (if v = 0 then 0 else 1)) ∨ (postX xIO h' ∧ r = nI 1))) 5 30 := by
  refine q_metIW (cc := cL_isEfficient) (maxL := 4) (by decide) rfl (Nat.le_of_ble_eq_true rfl) ?_
  intro p e s m args below meth c Q ls X hT w hl hret
  have hx := X.1
  have hb := X.2.1
  have hown := X.2.2.2.1
  have hts := X.2.2.2.2
  have hl : lv_has ls 4 [(0, .ref (k.2.1 0)), (1, .int x), (2, .ref (k.2.1 95))] := hl
  refine lv_aload_n hx hb dL_isEfficient_0 rfl (lv_at hl 2 rfl) ?_
  refine lv_iconst (v := nI 0) hx hb dL_isEfficient_1 (by decide) ?_
  refine lv_aload_n hx hb dL_isEfficient_2 rfl (lv_at hl 0 rfl) ?_
  refine lv_iload_n hx hb dL_isEfficient_3 rfl (lv_at hl 1 rfl) ?_
  refine q_xcalli w (q_xrunV X w 0 hM (cwV 1 hts gL_isEfficient_X4_isEfficient rfl rfl rfl (by decide +kernel) ⟨Nat.le_of_ble_eq_true rfl, Nat.le_of_ble_eq_true rfl⟩) (by decide) rfl rfl rfl hl.1 rfl (Nat.le_of_ble_eq_true rfl) dL_isEfficient_4 ⟨Nat.le_of_ble_eq_true rfl, Nat.le_of_ble_eq_true rfl⟩) (fun E ce q9 h9 H locs hp w h1 h2 h3 => ?_) (fun r_4 h_4 H locs hp w => ?_)
  · obtain rfl := hE E h9 hp
    refine vx_catch (own := RL) (name := xIO) hown [] ⟨0, 16, 19, 13⟩ [] (hT.trans rfl) (fun _ hz => absurd hz List.not_mem_nil) (by decide) (by decide) (hts (.classLink RL 13 xIO) (by decide +kernel)) (va_Nw.use rfl (w.2.2.2.2.2.2.2.2.1 xIO (by decide +kernel))) h1 h2 h3 ?_
    refine lv_astore_n (lv' := [(3, .ref q9), (0, .ref (k.2.1 0)), (1, .int x), (2, .ref (k.2.1 95))]) hx hb dL_isEfficient_19 rfl hl (by decide) rfl (fun ls hl => ?_)
    refine lv_iconst (v := nI 1) hx hb dL_isEfficient_20 (by decide) ?_
    exact hret _ _ _ _ _ _ _ _ dL_isEfficient_21 w rfl (Or.inr ⟨hp, rfl⟩) (Nat.le_of_ble_eq_true rfl) (Nat.le_of_ble_eq_true rfl)
  · refine lv_if_eq (tgt := 14) hx hb dL_isEfficient_7 (by decide) (fun c_7 => ?_) (fun c_7 => ?_)
    · refine lv_lconst (v := 0) hx hb dL_isEfficient_14 (by decide) ?_
      refine q_last X w 95 0 (by decide) (fun _ => rfl) rfl (show 0 < 1 by decide) (by decide) dL_isEfficient_15 (fun H locs w => ?_)
      obtain ⟨h_15, eh_15⟩ : ∃ z9, z9 = upL h_4 95 0 0 := ⟨_, rfl⟩
      rw [← eh_15] at w
      refine lv_goto (tgt := 22) hx hb dL_isEfficient_16 (by decide) ?_
      refine lv_iconst (v := nI 0) hx hb dL_isEfficient_22 (by decide) ?_
      exact hret _ _ _ _ _ _ _ _ dL_isEfficient_23 w rfl (Or.inl ⟨r_4, h_4, hp, rfl, by rw [eh_15]; first | rw [if_pos c_7] | rw [if_neg c_7]⟩) (Nat.le_of_ble_eq_true rfl) (Nat.le_of_ble_eq_true rfl)
    · refine lv_lconst (v := 1) hx hb dL_isEfficient_10 (by decide) ?_
      refine lv_goto (tgt := 15) hx hb dL_isEfficient_11 (by decide) ?_
      refine q_last X w 95 0 (by decide) (fun _ => rfl) rfl (show 0 < 1 by decide) (by decide) dL_isEfficient_15 (fun H locs w => ?_)
      obtain ⟨h_15, eh_15⟩ : ∃ z9, z9 = upL h_4 95 0 1 := ⟨_, rfl⟩
      rw [← eh_15] at w
      refine lv_goto (tgt := 22) hx hb dL_isEfficient_16 (by decide) ?_
      refine lv_iconst (v := nI 0) hx hb dL_isEfficient_22 (by decide) ?_
      exact hret _ _ _ _ _ _ _ _ dL_isEfficient_23 w rfl (Or.inl ⟨r_4, h_4, hp, rfl, by rw [eh_15]; first | rw [if_pos c_7] | rw [if_neg c_7]⟩) (Nat.le_of_ble_eq_true rfl) (Nat.le_of_ble_eq_true rfl)

abbrev rw_L_meanBits : Room := { frames := 8, cells := 5, slots := 30, locals := 132 }
set_option maxHeartbeats 4000000 in
set_option maxRecDepth 100000 in
theorem w_L_meanBits (l : Launch) (k : kY) (h : hS) (x : Int32) {post : UInt64 → hS → Prop} {postX : String → hS → Prop} (hM : CX l k yX4_meanBits wsX4_meanBits rc_X4_meanBits [.ref (k.2.1 0), .int x] h (QD k post) postX 5 30) (hE : ∀ (E : String) (h' : hS), postX E h' → E = xIO) : CT l k yL_meanBits wsL_meanBits rw_L_meanBits [.ref (k.2.1 0), .int x, .ref (k.2.1 96)] h (QI k (fun r h' => (∃ (v : UInt64) (h1 : hS), post v h1 ∧ r = nI 0 ∧ h' = upD h1 0 v) ∨ (postX xIO h' ∧ r = nI 1))) 5 30 := by
  refine q_metIW (cc := cL_meanBits) (maxL := 4) (by decide) rfl (Nat.le_of_ble_eq_true rfl) ?_
  intro p e s m args below meth c Q ls X hT w hl hret
  have hx := X.1
  have hb := X.2.1
  have hown := X.2.2.2.1
  have hts := X.2.2.2.2
  have hl : lv_has ls 4 [(0, .ref (k.2.1 0)), (1, .int x), (2, .ref (k.2.1 96))] := hl
  refine lv_aload_n hx hb dL_meanBits_0 rfl (lv_at hl 2 rfl) ?_
  refine lv_iconst (v := nI 0) hx hb dL_meanBits_1 (by decide) ?_
  refine lv_aload_n hx hb dL_meanBits_2 rfl (lv_at hl 0 rfl) ?_
  refine lv_iload_n hx hb dL_meanBits_3 rfl (lv_at hl 1 rfl) ?_
  refine q_xcalld w (q_xrunV X w 0 hM (cwV 1 hts gL_meanBits_X4_meanBits rfl rfl rfl (by decide +kernel) ⟨Nat.le_of_ble_eq_true rfl, Nat.le_of_ble_eq_true rfl⟩) (by decide) rfl rfl rfl hl.1 rfl (Nat.le_of_ble_eq_true rfl) dL_meanBits_4 ⟨Nat.le_of_ble_eq_true rfl, Nat.le_of_ble_eq_true rfl⟩) (fun E ce q9 h9 H locs hp w h1 h2 h3 => ?_) (fun r_4 h_4 H locs hp w => ?_)
  · obtain rfl := hE E h9 hp
    refine vx_catch (own := RL) (name := xIO) hown [] ⟨0, 8, 11, 13⟩ [] (hT.trans rfl) (fun _ hz => absurd hz List.not_mem_nil) (by decide) (by decide) (hts (.classLink RL 13 xIO) (by decide +kernel)) (va_Nw.use rfl (w.2.2.2.2.2.2.2.2.1 xIO (by decide +kernel))) h1 h2 h3 ?_
    refine lv_astore_n (lv' := [(3, .ref q9), (0, .ref (k.2.1 0)), (1, .int x), (2, .ref (k.2.1 96))]) hx hb dL_meanBits_11 rfl hl (by decide) rfl (fun ls hl => ?_)
    refine lv_iconst (v := nI 1) hx hb dL_meanBits_12 (by decide) ?_
    exact hret _ _ _ _ _ _ _ _ dL_meanBits_13 w rfl (Or.inr ⟨hp, rfl⟩) (Nat.le_of_ble_eq_true rfl) (Nat.le_of_ble_eq_true rfl)
  · refine q_dast X w rfl dL_meanBits_7 (fun H locs w => ?_)
    obtain ⟨h_7, eh_7⟩ : ∃ z9, z9 = upD h_4 0 r_4 := ⟨_, rfl⟩
    rw [← eh_7] at w
    refine lv_goto (tgt := 14) hx hb dL_meanBits_8 (by decide) ?_
    refine lv_iconst (v := nI 0) hx hb dL_meanBits_14 (by decide) ?_
    exact hret _ _ _ _ _ _ _ _ dL_meanBits_15 w rfl (Or.inl ⟨r_4, h_4, hp, rfl, eh_7⟩) (Nat.le_of_ble_eq_true rfl) (Nat.le_of_ble_eq_true rfl)

abbrev rw_L_request : Room := { frames := 8, cells := 5, slots := 30, locals := 135 }
set_option maxHeartbeats 4000000 in
set_option maxRecDepth 100000 in
theorem w_L_request (l : Launch) (k : kY) (h : hS) (x y z : Int32) {post : Int32 → hS → Prop} {postX : String → hS → Prop} (hM : CX l k yX4_request wsX4_request rc_X4_request [.ref (k.2.1 0), .int x, .int y, .int z] h (QI k post) postX 5 30) (hE : ∀ (E : String) (h' : hS), postX E h' → E = xIO ∨ E = xIA ∨ E = xIS) : CT l k yL_request wsL_request rw_L_request [.ref (k.2.1 0), .int x, .int y, .int z, .ref (k.2.1 95)] h (QI k (fun r h' => (∃ (v : Int32) (h1 : hS), post v h1 ∧ r = nI 0 ∧ h' = upL h1 95 0 v.toInt64) ∨ (postX xIO h' ∧ r = nI 1) ∨ (postX xIA h' ∧ r = nI 2) ∨ (postX xIS h' ∧ r = nI 3))) 5 30 := by
  refine q_metIW (cc := cL_request) (maxL := 6) (by decide) rfl (Nat.le_of_ble_eq_true rfl) ?_
  intro p e s m args below meth c Q ls X hT w hl hret
  have hx := X.1
  have hb := X.2.1
  have hown := X.2.2.2.1
  have hts := X.2.2.2.2
  have hl : lv_has ls 6 [(0, .ref (k.2.1 0)), (1, .int x), (2, .int y), (3, .int z), (4, .ref (k.2.1 95))] := hl
  refine lv_aload hx hb dL_request_0 (lv_at hl 4 rfl) ?_
  refine lv_iconst (v := nI 0) hx hb dL_request_2 (by decide) ?_
  refine lv_aload_n hx hb dL_request_3 rfl (lv_at hl 0 rfl) ?_
  refine lv_iload_n hx hb dL_request_4 rfl (lv_at hl 1 rfl) ?_
  refine lv_iload_n hx hb dL_request_5 rfl (lv_at hl 2 rfl) ?_
  refine lv_iload_n hx hb dL_request_6 rfl (lv_at hl 3 rfl) ?_
  refine q_xcalli w (q_xrunV X w 0 hM (cwV 3 hts gL_request_X4_request rfl rfl rfl (by decide +kernel) ⟨Nat.le_of_ble_eq_true rfl, Nat.le_of_ble_eq_true rfl⟩) (by decide) rfl rfl rfl hl.1 rfl (Nat.le_of_ble_eq_true rfl) dL_request_7 ⟨Nat.le_of_ble_eq_true rfl, Nat.le_of_ble_eq_true rfl⟩) (fun E ce q9 h9 H locs hp w h1 h2 h3 => ?_) (fun r_7 h_7 H locs hp w => ?_)
  · rcases hE E h9 hp with rfl | rfl | rfl
    · refine vx_catch (own := RL) (name := xIO) hown [] ⟨0, 12, 15, 13⟩ [⟨0, 12, 19, 15⟩, ⟨0, 12, 23, 23⟩] (hT.trans rfl) (fun _ hz => absurd hz List.not_mem_nil) (by decide) (by decide) (hts (.classLink RL 13 xIO) (by decide +kernel)) (va_Nw.use rfl (w.2.2.2.2.2.2.2.2.1 xIO (by decide +kernel))) h1 h2 h3 ?_
      refine lv_astore (lv' := [(5, .ref q9), (0, .ref (k.2.1 0)), (1, .int x), (2, .int y), (3, .int z), (4, .ref (k.2.1 95))]) hx hb dL_request_15 hl (by decide) rfl (fun ls hl => ?_)
      refine lv_iconst (v := nI 1) hx hb dL_request_17 (by decide) ?_
      exact hret _ _ _ _ _ _ _ _ dL_request_18 w rfl (Or.inr (Or.inl ⟨hp, rfl⟩)) (Nat.le_of_ble_eq_true rfl) (Nat.le_of_ble_eq_true rfl)
    · refine vx_catch (own := RL) (name := xIA) hown [⟨0, 12, 15, 13⟩] ⟨0, 12, 19, 15⟩ [⟨0, 12, 23, 23⟩] (hT.trans rfl) (fun z hz => by obtain rfl := List.mem_singleton.mp hz; exact Or.inr ⟨by decide, xIO, hts (.classLink RL 13 xIO) (by decide +kernel), w.2.2.2.2.2.2.2.2.2.2 (xIA, xIO) (by decide +kernel)⟩) (by decide) (by decide) (hts (.classLink RL 15 xIA) (by decide +kernel)) (va_Nw.use rfl (w.2.2.2.2.2.2.2.2.1 xIA (by decide +kernel))) h1 h2 h3 ?_
      refine lv_astore (lv' := [(5, .ref q9), (0, .ref (k.2.1 0)), (1, .int x), (2, .int y), (3, .int z), (4, .ref (k.2.1 95))]) hx hb dL_request_19 hl (by decide) rfl (fun ls hl => ?_)
      refine lv_iconst (v := nI 2) hx hb dL_request_21 (by decide) ?_
      exact hret _ _ _ _ _ _ _ _ dL_request_22 w rfl (Or.inr (Or.inr (Or.inl ⟨hp, rfl⟩))) (Nat.le_of_ble_eq_true rfl) (Nat.le_of_ble_eq_true rfl)
    · refine vx_catch (own := RL) (name := xIS) hown [⟨0, 12, 15, 13⟩, ⟨0, 12, 19, 15⟩] ⟨0, 12, 23, 23⟩ [] (hT.trans rfl) (fun z hz => (List.mem_cons.mp hz).elim (fun e => by subst e; exact Or.inr ⟨by decide, xIO, hts (.classLink RL 13 xIO) (by decide +kernel), w.2.2.2.2.2.2.2.2.2.2 (xIS, xIO) (by decide +kernel)⟩) (fun hz => by obtain rfl := List.mem_singleton.mp hz; exact Or.inr ⟨by decide, xIA, hts (.classLink RL 15 xIA) (by decide +kernel), w.2.2.2.2.2.2.2.2.2.2 (xIS, xIA) (by decide +kernel)⟩)) (by decide) (by decide) (hts (.classLink RL 23 xIS) (by decide +kernel)) (va_Nw.use rfl (w.2.2.2.2.2.2.2.2.1 xIS (by decide +kernel))) h1 h2 h3 ?_
      refine lv_astore (lv' := [(5, .ref q9), (0, .ref (k.2.1 0)), (1, .int x), (2, .int y), (3, .int z), (4, .ref (k.2.1 95))]) hx hb dL_request_23 hl (by decide) rfl (fun ls hl => ?_)
      refine lv_iconst (v := nI 3) hx hb dL_request_25 (by decide) ?_
      exact hret _ _ _ _ _ _ _ _ dL_request_26 w rfl (Or.inr (Or.inr (Or.inr ⟨hp, rfl⟩))) (Nat.le_of_ble_eq_true rfl) (Nat.le_of_ble_eq_true rfl)
  · refine lv_i2l hx hb dL_request_10 rfl ?_
    refine q_last X w 95 0 (by decide) (fun _ => rfl) rfl (show 0 < 1 by decide) (by decide) dL_request_11 (fun H locs w => ?_)
    obtain ⟨h_11, eh_11⟩ : ∃ z9, z9 = upL h_7 95 0 r_7.toInt64 := ⟨_, rfl⟩
    rw [← eh_11] at w
    refine lv_goto (tgt := 27) hx hb dL_request_12 (by decide) ?_
    refine lv_iconst (v := nI 0) hx hb dL_request_27 (by decide) ?_
    exact hret _ _ _ _ _ _ _ _ dL_request_28 w rfl (Or.inl ⟨r_7, h_7, hp, rfl, eh_11⟩) (Nat.le_of_ble_eq_true rfl) (Nat.le_of_ble_eq_true rfl)

abbrev rw_L_suggest : Room := { frames := 8, cells := 5, slots := 30, locals := 136 }
set_option maxHeartbeats 4000000 in
set_option maxRecDepth 100000 in
theorem w_L_suggest (l : Launch) (k : kY) (h : hS) (x : Int32) {post : Int32 → hS → Prop} {postX : String → hS → Prop} (hM : CX l k yX4_suggest wsX4_suggest rc_X4_suggest [.ref (k.2.1 0), .int x] h (QI k post) postX 5 30) (hE : ∀ (E : String) (h' : hS), postX E h' → E = xIO) : CT l k yL_suggest wsL_suggest rw_L_suggest [.ref (k.2.1 0), .int x, .ref (k.2.1 95)] h (QI k (fun r h' => (∃ (v : Int32) (h1 : hS), post v h1 ∧ r = nI 0 ∧ h' = upL h1 95 0 v.toInt64) ∨ (postX xIO h' ∧ r = nI 1))) 5 30 := by
  refine q_metIW (cc := cL_suggest) (maxL := 4) (by decide) rfl (Nat.le_of_ble_eq_true rfl) ?_
  intro p e s m args below meth c Q ls X hT w hl hret
  have hx := X.1
  have hb := X.2.1
  have hown := X.2.2.2.1
  have hts := X.2.2.2.2
  have hl : lv_has ls 4 [(0, .ref (k.2.1 0)), (1, .int x), (2, .ref (k.2.1 95))] := hl
  refine lv_aload_n hx hb dL_suggest_0 rfl (lv_at hl 2 rfl) ?_
  refine lv_iconst (v := nI 0) hx hb dL_suggest_1 (by decide) ?_
  refine lv_aload_n hx hb dL_suggest_2 rfl (lv_at hl 0 rfl) ?_
  refine lv_iload_n hx hb dL_suggest_3 rfl (lv_at hl 1 rfl) ?_
  refine q_xcalli w (q_xrunV X w 0 hM (cwV 1 hts gL_suggest_X4_suggest rfl rfl rfl (by decide +kernel) ⟨Nat.le_of_ble_eq_true rfl, Nat.le_of_ble_eq_true rfl⟩) (by decide) rfl rfl rfl hl.1 rfl (Nat.le_of_ble_eq_true rfl) dL_suggest_4 ⟨Nat.le_of_ble_eq_true rfl, Nat.le_of_ble_eq_true rfl⟩) (fun E ce q9 h9 H locs hp w h1 h2 h3 => ?_) (fun r_4 h_4 H locs hp w => ?_)
  · obtain rfl := hE E h9 hp
    refine vx_catch (own := RL) (name := xIO) hown [] ⟨0, 9, 12, 13⟩ [] (hT.trans rfl) (fun _ hz => absurd hz List.not_mem_nil) (by decide) (by decide) (hts (.classLink RL 13 xIO) (by decide +kernel)) (va_Nw.use rfl (w.2.2.2.2.2.2.2.2.1 xIO (by decide +kernel))) h1 h2 h3 ?_
    refine lv_astore_n (lv' := [(3, .ref q9), (0, .ref (k.2.1 0)), (1, .int x), (2, .ref (k.2.1 95))]) hx hb dL_suggest_12 rfl hl (by decide) rfl (fun ls hl => ?_)
    refine lv_iconst (v := nI 1) hx hb dL_suggest_13 (by decide) ?_
    exact hret _ _ _ _ _ _ _ _ dL_suggest_14 w rfl (Or.inr ⟨hp, rfl⟩) (Nat.le_of_ble_eq_true rfl) (Nat.le_of_ble_eq_true rfl)
  · refine lv_i2l hx hb dL_suggest_7 rfl ?_
    refine q_last X w 95 0 (by decide) (fun _ => rfl) rfl (show 0 < 1 by decide) (by decide) dL_suggest_8 (fun H locs w => ?_)
    obtain ⟨h_8, eh_8⟩ : ∃ z9, z9 = upL h_4 95 0 r_4.toInt64 := ⟨_, rfl⟩
    rw [← eh_8] at w
    refine lv_goto (tgt := 15) hx hb dL_suggest_9 (by decide) ?_
    refine lv_iconst (v := nI 0) hx hb dL_suggest_15 (by decide) ?_
    exact hret _ _ _ _ _ _ _ _ dL_suggest_16 w rfl (Or.inl ⟨r_4, h_4, hp, rfl, eh_8⟩) (Nat.le_of_ble_eq_true rfl) (Nat.le_of_ble_eq_true rfl)

abbrev rw_L_resend : Room := { frames := 8, cells := 5, slots := 30, locals := 133 }
set_option maxHeartbeats 4000000 in
set_option maxRecDepth 100000 in
theorem w_L_resend (l : Launch) (k : kY) (h : hS) (x : Int32) {post : Int32 → hS → Prop} {postX : String → hS → Prop} (hM : CX l k yX4_resend wsX4_resend rc_X4_resend [.ref (k.2.1 0), .int x] h (QI k post) postX 5 30) (hE : ∀ (E : String) (h' : hS), postX E h' → E = xIO ∨ E = xIS) : CT l k yL_resend wsL_resend rw_L_resend [.ref (k.2.1 0), .int x, .ref (k.2.1 95)] h (QI k (fun r h' => (∃ (v : Int32) (h1 : hS), post v h1 ∧ r = nI 0 ∧ h' = upL h1 95 0 v.toInt64) ∨ (postX xIO h' ∧ r = nI 1) ∨ (postX xIS h' ∧ r = nI 2))) 5 30 := by
  refine q_metIW (cc := cL_resend) (maxL := 4) (by decide) rfl (Nat.le_of_ble_eq_true rfl) ?_
  intro p e s m args below meth c Q ls X hT w hl hret
  have hx := X.1
  have hb := X.2.1
  have hown := X.2.2.2.1
  have hts := X.2.2.2.2
  have hl : lv_has ls 4 [(0, .ref (k.2.1 0)), (1, .int x), (2, .ref (k.2.1 95))] := hl
  refine lv_aload_n hx hb dL_resend_0 rfl (lv_at hl 2 rfl) ?_
  refine lv_iconst (v := nI 0) hx hb dL_resend_1 (by decide) ?_
  refine lv_aload_n hx hb dL_resend_2 rfl (lv_at hl 0 rfl) ?_
  refine lv_iload_n hx hb dL_resend_3 rfl (lv_at hl 1 rfl) ?_
  refine q_xcalli w (q_xrunV X w 0 hM (cwV 1 hts gL_resend_X4_resend rfl rfl rfl (by decide +kernel) ⟨Nat.le_of_ble_eq_true rfl, Nat.le_of_ble_eq_true rfl⟩) (by decide) rfl rfl rfl hl.1 rfl (Nat.le_of_ble_eq_true rfl) dL_resend_4 ⟨Nat.le_of_ble_eq_true rfl, Nat.le_of_ble_eq_true rfl⟩) (fun E ce q9 h9 H locs hp w h1 h2 h3 => ?_) (fun r_4 h_4 H locs hp w => ?_)
  · rcases hE E h9 hp with rfl | rfl
    · refine vx_catch (own := RL) (name := xIO) hown [] ⟨0, 9, 12, 13⟩ [⟨0, 9, 15, 23⟩] (hT.trans rfl) (fun _ hz => absurd hz List.not_mem_nil) (by decide) (by decide) (hts (.classLink RL 13 xIO) (by decide +kernel)) (va_Nw.use rfl (w.2.2.2.2.2.2.2.2.1 xIO (by decide +kernel))) h1 h2 h3 ?_
      refine lv_astore_n (lv' := [(3, .ref q9), (0, .ref (k.2.1 0)), (1, .int x), (2, .ref (k.2.1 95))]) hx hb dL_resend_12 rfl hl (by decide) rfl (fun ls hl => ?_)
      refine lv_iconst (v := nI 1) hx hb dL_resend_13 (by decide) ?_
      exact hret _ _ _ _ _ _ _ _ dL_resend_14 w rfl (Or.inr (Or.inl ⟨hp, rfl⟩)) (Nat.le_of_ble_eq_true rfl) (Nat.le_of_ble_eq_true rfl)
    · refine vx_catch (own := RL) (name := xIS) hown [⟨0, 9, 12, 13⟩] ⟨0, 9, 15, 23⟩ [] (hT.trans rfl) (fun z hz => by obtain rfl := List.mem_singleton.mp hz; exact Or.inr ⟨by decide, xIO, hts (.classLink RL 13 xIO) (by decide +kernel), w.2.2.2.2.2.2.2.2.2.2 (xIS, xIO) (by decide +kernel)⟩) (by decide) (by decide) (hts (.classLink RL 23 xIS) (by decide +kernel)) (va_Nw.use rfl (w.2.2.2.2.2.2.2.2.1 xIS (by decide +kernel))) h1 h2 h3 ?_
      refine lv_astore_n (lv' := [(3, .ref q9), (0, .ref (k.2.1 0)), (1, .int x), (2, .ref (k.2.1 95))]) hx hb dL_resend_15 rfl hl (by decide) rfl (fun ls hl => ?_)
      refine lv_iconst (v := nI 2) hx hb dL_resend_16 (by decide) ?_
      exact hret _ _ _ _ _ _ _ _ dL_resend_17 w rfl (Or.inr (Or.inr ⟨hp, rfl⟩)) (Nat.le_of_ble_eq_true rfl) (Nat.le_of_ble_eq_true rfl)
  · refine lv_i2l hx hb dL_resend_7 rfl ?_
    refine q_last X w 95 0 (by decide) (fun _ => rfl) rfl (show 0 < 1 by decide) (by decide) dL_resend_8 (fun H locs w => ?_)
    obtain ⟨h_8, eh_8⟩ : ∃ z9, z9 = upL h_4 95 0 r_4.toInt64 := ⟨_, rfl⟩
    rw [← eh_8] at w
    refine lv_goto (tgt := 18) hx hb dL_resend_9 (by decide) ?_
    refine lv_iconst (v := nI 0) hx hb dL_resend_18 (by decide) ?_
    exact hret _ _ _ _ _ _ _ _ dL_resend_19 w rfl (Or.inl ⟨r_4, h_4, hp, rfl, eh_8⟩) (Nat.le_of_ble_eq_true rfl) (Nat.le_of_ble_eq_true rfl)

abbrev rw_L_deliver : Room := { frames := 8, cells := 5, slots := 30, locals := 137 }
set_option maxHeartbeats 4000000 in
set_option maxRecDepth 100000 in
theorem w_L_deliver (l : Launch) (k : kY) (h : hS) (x y z : Int32) {post : Int32 → hS → Prop} {postX : String → hS → Prop} (hM : CX l k yX4_deliver wsX4_deliver rc_X4_deliver [.ref (k.2.1 0), .int x, .int y, .int z] h (QI k post) postX 5 30) (hE : ∀ (E : String) (h' : hS), postX E h' → E = xIO ∨ E = xIA ∨ E = xIS) : CT l k yL_deliver wsL_deliver rw_L_deliver [.ref (k.2.1 0), .int x, .int y, .int z, .ref (k.2.1 95)] h (QI k (fun r h' => (∃ (v : Int32) (h1 : hS), post v h1 ∧ r = nI 0 ∧ h' = upL h1 95 0 v.toInt64) ∨ (postX xIO h' ∧ r = nI 1) ∨ (postX xIA h' ∧ r = nI 2) ∨ (postX xIS h' ∧ r = nI 3))) 5 30 := by
  refine q_metIW (cc := cL_deliver) (maxL := 6) (by decide) rfl (Nat.le_of_ble_eq_true rfl) ?_
  intro p e s m args below meth c Q ls X hT w hl hret
  have hx := X.1
  have hb := X.2.1
  have hown := X.2.2.2.1
  have hts := X.2.2.2.2
  have hl : lv_has ls 6 [(0, .ref (k.2.1 0)), (1, .int x), (2, .int y), (3, .int z), (4, .ref (k.2.1 95))] := hl
  refine lv_aload hx hb dL_deliver_0 (lv_at hl 4 rfl) ?_
  refine lv_iconst (v := nI 0) hx hb dL_deliver_2 (by decide) ?_
  refine lv_aload_n hx hb dL_deliver_3 rfl (lv_at hl 0 rfl) ?_
  refine lv_iload_n hx hb dL_deliver_4 rfl (lv_at hl 1 rfl) ?_
  refine lv_iload_n hx hb dL_deliver_5 rfl (lv_at hl 2 rfl) ?_
  refine lv_iload_n hx hb dL_deliver_6 rfl (lv_at hl 3 rfl) ?_
  refine q_xcalli w (q_xrunV X w 0 hM (cwV 3 hts gL_deliver_X4_deliver rfl rfl rfl (by decide +kernel) ⟨Nat.le_of_ble_eq_true rfl, Nat.le_of_ble_eq_true rfl⟩) (by decide) rfl rfl rfl hl.1 rfl (Nat.le_of_ble_eq_true rfl) dL_deliver_7 ⟨Nat.le_of_ble_eq_true rfl, Nat.le_of_ble_eq_true rfl⟩) (fun E ce q9 h9 H locs hp w h1 h2 h3 => ?_) (fun r_7 h_7 H locs hp w => ?_)
  · rcases hE E h9 hp with rfl | rfl | rfl
    · refine vx_catch (own := RL) (name := xIO) hown [] ⟨0, 12, 15, 13⟩ [⟨0, 12, 19, 15⟩, ⟨0, 12, 23, 23⟩] (hT.trans rfl) (fun _ hz => absurd hz List.not_mem_nil) (by decide) (by decide) (hts (.classLink RL 13 xIO) (by decide +kernel)) (va_Nw.use rfl (w.2.2.2.2.2.2.2.2.1 xIO (by decide +kernel))) h1 h2 h3 ?_
      refine lv_astore (lv' := [(5, .ref q9), (0, .ref (k.2.1 0)), (1, .int x), (2, .int y), (3, .int z), (4, .ref (k.2.1 95))]) hx hb dL_deliver_15 hl (by decide) rfl (fun ls hl => ?_)
      refine lv_iconst (v := nI 1) hx hb dL_deliver_17 (by decide) ?_
      exact hret _ _ _ _ _ _ _ _ dL_deliver_18 w rfl (Or.inr (Or.inl ⟨hp, rfl⟩)) (Nat.le_of_ble_eq_true rfl) (Nat.le_of_ble_eq_true rfl)
    · refine vx_catch (own := RL) (name := xIA) hown [⟨0, 12, 15, 13⟩] ⟨0, 12, 19, 15⟩ [⟨0, 12, 23, 23⟩] (hT.trans rfl) (fun z hz => by obtain rfl := List.mem_singleton.mp hz; exact Or.inr ⟨by decide, xIO, hts (.classLink RL 13 xIO) (by decide +kernel), w.2.2.2.2.2.2.2.2.2.2 (xIA, xIO) (by decide +kernel)⟩) (by decide) (by decide) (hts (.classLink RL 15 xIA) (by decide +kernel)) (va_Nw.use rfl (w.2.2.2.2.2.2.2.2.1 xIA (by decide +kernel))) h1 h2 h3 ?_
      refine lv_astore (lv' := [(5, .ref q9), (0, .ref (k.2.1 0)), (1, .int x), (2, .int y), (3, .int z), (4, .ref (k.2.1 95))]) hx hb dL_deliver_19 hl (by decide) rfl (fun ls hl => ?_)
      refine lv_iconst (v := nI 2) hx hb dL_deliver_21 (by decide) ?_
      exact hret _ _ _ _ _ _ _ _ dL_deliver_22 w rfl (Or.inr (Or.inr (Or.inl ⟨hp, rfl⟩))) (Nat.le_of_ble_eq_true rfl) (Nat.le_of_ble_eq_true rfl)
    · refine vx_catch (own := RL) (name := xIS) hown [⟨0, 12, 15, 13⟩, ⟨0, 12, 19, 15⟩] ⟨0, 12, 23, 23⟩ [] (hT.trans rfl) (fun z hz => (List.mem_cons.mp hz).elim (fun e => by subst e; exact Or.inr ⟨by decide, xIO, hts (.classLink RL 13 xIO) (by decide +kernel), w.2.2.2.2.2.2.2.2.2.2 (xIS, xIO) (by decide +kernel)⟩) (fun hz => by obtain rfl := List.mem_singleton.mp hz; exact Or.inr ⟨by decide, xIA, hts (.classLink RL 15 xIA) (by decide +kernel), w.2.2.2.2.2.2.2.2.2.2 (xIS, xIA) (by decide +kernel)⟩)) (by decide) (by decide) (hts (.classLink RL 23 xIS) (by decide +kernel)) (va_Nw.use rfl (w.2.2.2.2.2.2.2.2.1 xIS (by decide +kernel))) h1 h2 h3 ?_
      refine lv_astore (lv' := [(5, .ref q9), (0, .ref (k.2.1 0)), (1, .int x), (2, .int y), (3, .int z), (4, .ref (k.2.1 95))]) hx hb dL_deliver_23 hl (by decide) rfl (fun ls hl => ?_)
      refine lv_iconst (v := nI 3) hx hb dL_deliver_25 (by decide) ?_
      exact hret _ _ _ _ _ _ _ _ dL_deliver_26 w rfl (Or.inr (Or.inr (Or.inr ⟨hp, rfl⟩))) (Nat.le_of_ble_eq_true rfl) (Nat.le_of_ble_eq_true rfl)
  · refine lv_i2l hx hb dL_deliver_10 rfl ?_
    refine q_last X w 95 0 (by decide) (fun _ => rfl) rfl (show 0 < 1 by decide) (by decide) dL_deliver_11 (fun H locs w => ?_)
    obtain ⟨h_11, eh_11⟩ : ∃ z9, z9 = upL h_7 95 0 r_7.toInt64 := ⟨_, rfl⟩
    rw [← eh_11] at w
    refine lv_goto (tgt := 27) hx hb dL_deliver_12 (by decide) ?_
    refine lv_iconst (v := nI 0) hx hb dL_deliver_27 (by decide) ?_
    exact hret _ _ _ _ _ _ _ _ dL_deliver_28 w rfl (Or.inl ⟨r_7, h_7, hp, rfl, eh_11⟩) (Nat.le_of_ble_eq_true rfl) (Nat.le_of_ble_eq_true rfl)

abbrev rw_L_run : Room := { frames := 8, cells := 5, slots := 30, locals := 134 }
set_option maxHeartbeats 4000000 in
set_option maxRecDepth 100000 in
theorem w_L_run (l : Launch) (k : kY) (h : hS) (x : Int32) {post : Int32 → hS → Prop} {postX : String → hS → Prop} (hM : CX l k yX4_run wsX4_run rc_X4_run [.ref (k.2.1 0), .int x] h (QI k post) postX 5 30) (hE : ∀ (E : String) (h' : hS), postX E h' → E = xIA) : CT l k yL_run wsL_run rw_L_run [.ref (k.2.1 0), .int x, .ref (k.2.1 95)] h (QI k (fun r h' => (∃ (v : Int32) (h1 : hS), post v h1 ∧ r = nI 0 ∧ h' = upL h1 95 0 v.toInt64) ∨ (postX xIA h' ∧ r = nI 1))) 5 30 := by
  refine q_metIW (cc := cL_run) (maxL := 4) (by decide) rfl (Nat.le_of_ble_eq_true rfl) ?_
  intro p e s m args below meth c Q ls X hT w hl hret
  have hx := X.1
  have hb := X.2.1
  have hown := X.2.2.2.1
  have hts := X.2.2.2.2
  have hl : lv_has ls 4 [(0, .ref (k.2.1 0)), (1, .int x), (2, .ref (k.2.1 95))] := hl
  refine lv_aload_n hx hb dL_run_0 rfl (lv_at hl 2 rfl) ?_
  refine lv_iconst (v := nI 0) hx hb dL_run_1 (by decide) ?_
  refine lv_aload_n hx hb dL_run_2 rfl (lv_at hl 0 rfl) ?_
  refine lv_iload_n hx hb dL_run_3 rfl (lv_at hl 1 rfl) ?_
  refine q_xcalli w (q_xrunV X w 0 hM (cwV 1 hts gL_run_X4_run rfl rfl rfl (by decide +kernel) ⟨Nat.le_of_ble_eq_true rfl, Nat.le_of_ble_eq_true rfl⟩) (by decide) rfl rfl rfl hl.1 rfl (Nat.le_of_ble_eq_true rfl) dL_run_4 ⟨Nat.le_of_ble_eq_true rfl, Nat.le_of_ble_eq_true rfl⟩) (fun E ce q9 h9 H locs hp w h1 h2 h3 => ?_) (fun r_4 h_4 H locs hp w => ?_)
  · obtain rfl := hE E h9 hp
    refine vx_catch (own := RL) (name := xIA) hown [] ⟨0, 9, 12, 15⟩ [] (hT.trans rfl) (fun _ hz => absurd hz List.not_mem_nil) (by decide) (by decide) (hts (.classLink RL 15 xIA) (by decide +kernel)) (va_Nw.use rfl (w.2.2.2.2.2.2.2.2.1 xIA (by decide +kernel))) h1 h2 h3 ?_
    refine lv_astore_n (lv' := [(3, .ref q9), (0, .ref (k.2.1 0)), (1, .int x), (2, .ref (k.2.1 95))]) hx hb dL_run_12 rfl hl (by decide) rfl (fun ls hl => ?_)
    refine lv_iconst (v := nI 1) hx hb dL_run_13 (by decide) ?_
    exact hret _ _ _ _ _ _ _ _ dL_run_14 w rfl (Or.inr ⟨hp, rfl⟩) (Nat.le_of_ble_eq_true rfl) (Nat.le_of_ble_eq_true rfl)
  · refine lv_i2l hx hb dL_run_7 rfl ?_
    refine q_last X w 95 0 (by decide) (fun _ => rfl) rfl (show 0 < 1 by decide) (by decide) dL_run_8 (fun H locs w => ?_)
    obtain ⟨h_8, eh_8⟩ : ∃ z9, z9 = upL h_4 95 0 r_4.toInt64 := ⟨_, rfl⟩
    rw [← eh_8] at w
    refine lv_goto (tgt := 15) hx hb dL_run_9 (by decide) ?_
    refine lv_iconst (v := nI 0) hx hb dL_run_15 (by decide) ?_
    exact hret _ _ _ _ _ _ _ _ dL_run_16 w rfl (Or.inl ⟨r_4, h_4, hp, rfl, eh_8⟩) (Nat.le_of_ble_eq_true rfl) (Nat.le_of_ble_eq_true rfl)

abbrev rw_L_inStep : Room := { frames := 8, cells := 5, slots := 30, locals := 132 }
set_option maxHeartbeats 4000000 in
set_option maxRecDepth 100000 in
theorem w_L_inStep (l : Launch) (k : kY) (h : hS) (x : Int32) {post : Int32 → hS → Prop} {postX : String → hS → Prop} (hM : CX l k yX4_inStep wsX4_inStep rc_X4_inStep [.ref (k.2.1 0), .int x] h (QI k post) postX 5 30) (hE : ∀ (E : String) (h' : hS), postX E h' → E = xIO) : CT l k yL_inStep wsL_inStep rw_L_inStep [.ref (k.2.1 0), .int x, .ref (k.2.1 95)] h (QI k (fun r h' => (∃ (v : Int32) (h1 : hS), post v h1 ∧ r = nI 0 ∧ h' = upL h1 95 0 (if v = 0 then 0 else 1)) ∨ (postX xIO h' ∧ r = nI 1))) 5 30 := by
  refine q_metIW (cc := cL_inStep) (maxL := 4) (by decide) rfl (Nat.le_of_ble_eq_true rfl) ?_
  intro p e s m args below meth c Q ls X hT w hl hret
  have hx := X.1
  have hb := X.2.1
  have hown := X.2.2.2.1
  have hts := X.2.2.2.2
  have hl : lv_has ls 4 [(0, .ref (k.2.1 0)), (1, .int x), (2, .ref (k.2.1 95))] := hl
  refine lv_aload_n hx hb dL_inStep_0 rfl (lv_at hl 2 rfl) ?_
  refine lv_iconst (v := nI 0) hx hb dL_inStep_1 (by decide) ?_
  refine lv_aload_n hx hb dL_inStep_2 rfl (lv_at hl 0 rfl) ?_
  refine lv_iload_n hx hb dL_inStep_3 rfl (lv_at hl 1 rfl) ?_
  refine q_xcalli w (q_xrunV X w 0 hM (cwV 1 hts gL_inStep_X4_inStep rfl rfl rfl (by decide +kernel) ⟨Nat.le_of_ble_eq_true rfl, Nat.le_of_ble_eq_true rfl⟩) (by decide) rfl rfl rfl hl.1 rfl (Nat.le_of_ble_eq_true rfl) dL_inStep_4 ⟨Nat.le_of_ble_eq_true rfl, Nat.le_of_ble_eq_true rfl⟩) (fun E ce q9 h9 H locs hp w h1 h2 h3 => ?_) (fun r_4 h_4 H locs hp w => ?_)
  · obtain rfl := hE E h9 hp
    refine vx_catch (own := RL) (name := xIO) hown [] ⟨0, 16, 19, 13⟩ [] (hT.trans rfl) (fun _ hz => absurd hz List.not_mem_nil) (by decide) (by decide) (hts (.classLink RL 13 xIO) (by decide +kernel)) (va_Nw.use rfl (w.2.2.2.2.2.2.2.2.1 xIO (by decide +kernel))) h1 h2 h3 ?_
    refine lv_astore_n (lv' := [(3, .ref q9), (0, .ref (k.2.1 0)), (1, .int x), (2, .ref (k.2.1 95))]) hx hb dL_inStep_19 rfl hl (by decide) rfl (fun ls hl => ?_)
    refine lv_iconst (v := nI 1) hx hb dL_inStep_20 (by decide) ?_
    exact hret _ _ _ _ _ _ _ _ dL_inStep_21 w rfl (Or.inr ⟨hp, rfl⟩) (Nat.le_of_ble_eq_true rfl) (Nat.le_of_ble_eq_true rfl)
  · refine lv_if_eq (tgt := 14) hx hb dL_inStep_7 (by decide) (fun c_7 => ?_) (fun c_7 => ?_)
    · refine lv_lconst (v := 0) hx hb dL_inStep_14 (by decide) ?_
      refine q_last X w 95 0 (by decide) (fun _ => rfl) rfl (show 0 < 1 by decide) (by decide) dL_inStep_15 (fun H locs w => ?_)
      obtain ⟨h_15, eh_15⟩ : ∃ z9, z9 = upL h_4 95 0 0 := ⟨_, rfl⟩
      rw [← eh_15] at w
      refine lv_goto (tgt := 22) hx hb dL_inStep_16 (by decide) ?_
      refine lv_iconst (v := nI 0) hx hb dL_inStep_22 (by decide) ?_
      exact hret _ _ _ _ _ _ _ _ dL_inStep_23 w rfl (Or.inl ⟨r_4, h_4, hp, rfl, by rw [eh_15]; first | rw [if_pos c_7] | rw [if_neg c_7]⟩) (Nat.le_of_ble_eq_true rfl) (Nat.le_of_ble_eq_true rfl)
    · refine lv_lconst (v := 1) hx hb dL_inStep_10 (by decide) ?_
      refine lv_goto (tgt := 15) hx hb dL_inStep_11 (by decide) ?_
      refine q_last X w 95 0 (by decide) (fun _ => rfl) rfl (show 0 < 1 by decide) (by decide) dL_inStep_15 (fun H locs w => ?_)
      obtain ⟨h_15, eh_15⟩ : ∃ z9, z9 = upL h_4 95 0 1 := ⟨_, rfl⟩
      rw [← eh_15] at w
      refine lv_goto (tgt := 22) hx hb dL_inStep_16 (by decide) ?_
      refine lv_iconst (v := nI 0) hx hb dL_inStep_22 (by decide) ?_
      exact hret _ _ _ _ _ _ _ _ dL_inStep_23 w rfl (Or.inl ⟨r_4, h_4, hp, rfl, by rw [eh_15]; first | rw [if_pos c_7] | rw [if_neg c_7]⟩) (Nat.le_of_ble_eq_true rfl) (Nat.le_of_ble_eq_true rfl)

abbrev rw_L_brokenFrames : Room := { frames := 8, cells := 5, slots := 30, locals := 132 }
set_option maxHeartbeats 4000000 in
set_option maxRecDepth 100000 in
theorem w_L_brokenFrames (l : Launch) (k : kY) (h : hS) (x : Int32) {post : Int32 → hS → Prop} {postX : String → hS → Prop} (hM : CX l k yX4_brokenFrames wsX4_brokenFrames rc_X4_brokenFrames [.ref (k.2.1 0), .int x] h (QI k post) postX 5 30) (hE : ∀ (E : String) (h' : hS), postX E h' → E = xIO) : CT l k yL_brokenFrames wsL_brokenFrames rw_L_brokenFrames [.ref (k.2.1 0), .int x, .ref (k.2.1 95)] h (QI k (fun r h' => (∃ (v : Int32) (h1 : hS), post v h1 ∧ r = nI 0 ∧ h' = upL h1 95 0 v.toInt64) ∨ (postX xIO h' ∧ r = nI 1))) 5 30 := by
  refine q_metIW (cc := cL_brokenFrames) (maxL := 4) (by decide) rfl (Nat.le_of_ble_eq_true rfl) ?_
  intro p e s m args below meth c Q ls X hT w hl hret
  have hx := X.1
  have hb := X.2.1
  have hown := X.2.2.2.1
  have hts := X.2.2.2.2
  have hl : lv_has ls 4 [(0, .ref (k.2.1 0)), (1, .int x), (2, .ref (k.2.1 95))] := hl
  refine lv_aload_n hx hb dL_brokenFrames_0 rfl (lv_at hl 2 rfl) ?_
  refine lv_iconst (v := nI 0) hx hb dL_brokenFrames_1 (by decide) ?_
  refine lv_aload_n hx hb dL_brokenFrames_2 rfl (lv_at hl 0 rfl) ?_
  refine lv_iload_n hx hb dL_brokenFrames_3 rfl (lv_at hl 1 rfl) ?_
  refine q_xcalli w (q_xrunV X w 0 hM (cwV 1 hts gL_brokenFrames_X4_brokenFrames rfl rfl rfl (by decide +kernel) ⟨Nat.le_of_ble_eq_true rfl, Nat.le_of_ble_eq_true rfl⟩) (by decide) rfl rfl rfl hl.1 rfl (Nat.le_of_ble_eq_true rfl) dL_brokenFrames_4 ⟨Nat.le_of_ble_eq_true rfl, Nat.le_of_ble_eq_true rfl⟩) (fun E ce q9 h9 H locs hp w h1 h2 h3 => ?_) (fun r_4 h_4 H locs hp w => ?_)
  · obtain rfl := hE E h9 hp
    refine vx_catch (own := RL) (name := xIO) hown [] ⟨0, 9, 12, 13⟩ [] (hT.trans rfl) (fun _ hz => absurd hz List.not_mem_nil) (by decide) (by decide) (hts (.classLink RL 13 xIO) (by decide +kernel)) (va_Nw.use rfl (w.2.2.2.2.2.2.2.2.1 xIO (by decide +kernel))) h1 h2 h3 ?_
    refine lv_astore_n (lv' := [(3, .ref q9), (0, .ref (k.2.1 0)), (1, .int x), (2, .ref (k.2.1 95))]) hx hb dL_brokenFrames_12 rfl hl (by decide) rfl (fun ls hl => ?_)
    refine lv_iconst (v := nI 1) hx hb dL_brokenFrames_13 (by decide) ?_
    exact hret _ _ _ _ _ _ _ _ dL_brokenFrames_14 w rfl (Or.inr ⟨hp, rfl⟩) (Nat.le_of_ble_eq_true rfl) (Nat.le_of_ble_eq_true rfl)
  · refine lv_i2l hx hb dL_brokenFrames_7 rfl ?_
    refine q_last X w 95 0 (by decide) (fun _ => rfl) rfl (show 0 < 1 by decide) (by decide) dL_brokenFrames_8 (fun H locs w => ?_)
    obtain ⟨h_8, eh_8⟩ : ∃ z9, z9 = upL h_4 95 0 r_4.toInt64 := ⟨_, rfl⟩
    rw [← eh_8] at w
    refine lv_goto (tgt := 15) hx hb dL_brokenFrames_9 (by decide) ?_
    refine lv_iconst (v := nI 0) hx hb dL_brokenFrames_15 (by decide) ?_
    exact hret _ _ _ _ _ _ _ _ dL_brokenFrames_16 w rfl (Or.inl ⟨r_4, h_4, hp, rfl, eh_8⟩) (Nat.le_of_ble_eq_true rfl) (Nat.le_of_ble_eq_true rfl)

abbrev rw_L_undo : Room := { frames := 7, cells := 5, slots := 30, locals := 110 }
set_option maxHeartbeats 4000000 in
set_option maxRecDepth 100000 in
theorem w_L_undo (l : Launch) (k : kY) (h : hS) {post : Int32 → hS → Prop} {postX : String → hS → Prop} (hM : CX l k yX4_undo wsX4_undo rc_X4_undo [.ref (k.2.1 0)] h (QI k post) postX 5 30) (hE : ∀ (E : String) (h' : hS), postX E h' → E = xIS) : CT l k yL_undo wsL_undo rw_L_undo [.ref (k.2.1 0), .ref (k.2.1 95)] h (QI k (fun r h' => (∃ (v : Int32) (h1 : hS), post v h1 ∧ r = nI 0 ∧ h' = upL h1 95 0 v.toInt64) ∨ (postX xIS h' ∧ r = nI 1))) 5 30 := by
  refine q_metIW (cc := cL_undo) (maxL := 3) (by decide) rfl (Nat.le_of_ble_eq_true rfl) ?_
  intro p e s m args below meth c Q ls X hT w hl hret
  have hx := X.1
  have hb := X.2.1
  have hown := X.2.2.2.1
  have hts := X.2.2.2.2
  have hl : lv_has ls 3 [(0, .ref (k.2.1 0)), (1, .ref (k.2.1 95))] := hl
  refine lv_aload_n hx hb dL_undo_0 rfl (lv_at hl 1 rfl) ?_
  refine lv_iconst (v := nI 0) hx hb dL_undo_1 (by decide) ?_
  refine lv_aload_n hx hb dL_undo_2 rfl (lv_at hl 0 rfl) ?_
  refine q_xcalli w (q_xrunV X w 0 hM (cwV 0 hts gL_undo_X4_undo rfl rfl rfl (by decide +kernel) ⟨Nat.le_of_ble_eq_true rfl, Nat.le_of_ble_eq_true rfl⟩) (by decide) rfl rfl rfl hl.1 rfl (Nat.le_of_ble_eq_true rfl) dL_undo_3 ⟨Nat.le_of_ble_eq_true rfl, Nat.le_of_ble_eq_true rfl⟩) (fun E ce q9 h9 H locs hp w h1 h2 h3 => ?_) (fun r_3 h_3 H locs hp w => ?_)
  · obtain rfl := hE E h9 hp
    refine vx_catch (own := RL) (name := xIS) hown [] ⟨0, 8, 11, 23⟩ [] (hT.trans rfl) (fun _ hz => absurd hz List.not_mem_nil) (by decide) (by decide) (hts (.classLink RL 23 xIS) (by decide +kernel)) (va_Nw.use rfl (w.2.2.2.2.2.2.2.2.1 xIS (by decide +kernel))) h1 h2 h3 ?_
    refine lv_astore_n (lv' := [(2, .ref q9), (0, .ref (k.2.1 0)), (1, .ref (k.2.1 95))]) hx hb dL_undo_11 rfl hl (by decide) rfl (fun ls hl => ?_)
    refine lv_iconst (v := nI 1) hx hb dL_undo_12 (by decide) ?_
    exact hret _ _ _ _ _ _ _ _ dL_undo_13 w rfl (Or.inr ⟨hp, rfl⟩) (Nat.le_of_ble_eq_true rfl) (Nat.le_of_ble_eq_true rfl)
  · refine lv_i2l hx hb dL_undo_6 rfl ?_
    refine q_last X w 95 0 (by decide) (fun _ => rfl) rfl (show 0 < 1 by decide) (by decide) dL_undo_7 (fun H locs w => ?_)
    obtain ⟨h_7, eh_7⟩ : ∃ z9, z9 = upL h_3 95 0 r_3.toInt64 := ⟨_, rfl⟩
    rw [← eh_7] at w
    refine lv_goto (tgt := 14) hx hb dL_undo_8 (by decide) ?_
    refine lv_iconst (v := nI 0) hx hb dL_undo_14 (by decide) ?_
    exact hret _ _ _ _ _ _ _ _ dL_undo_15 w rfl (Or.inl ⟨r_3, h_3, hp, rfl, eh_7⟩) (Nat.le_of_ble_eq_true rfl) (Nat.le_of_ble_eq_true rfl)
