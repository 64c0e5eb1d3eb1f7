/-! THE LAW'S CASES -/
theorem mb_cmp {n a b : Nat} {h h1 h2 : hS} {x r9 : Int32} {v9 : UInt64} (I : IAB n h a b) (e9 : h1.2.1 92 = h.2.1 92) (h0 : r9 = 0) (hm : (fun (h : hS) (r : UInt64) (h' : hS) => (∃ q : Nat, q < 2 ∧ x = nI q ∧ r = FP.ddiv (FP.i2d ((sumL (fun t => h.2.1 92 (1 + 116 * q + (49 + t))) 16).toInt32)) 4625196817309499392 ∧ h' = upI h 91 3 (nI 0)) ∨ (¬ isP x ∧ r = 0 ∧ h' = upI h 91 3 (nI 1))) h1 v9 h2) (s1 : h2.1 91 3 = r9) : Op.cmpValue (FP.dcmp v9 v9) CmpOp.l = nI 0 := by
  rcases hm with ⟨q, hq, ex, ev, e2⟩ | ⟨hno, ev, e2⟩
  · obtain ⟨m, hm, em⟩ := I.nM q hq
    rw [e9, em] at ev
    rw [ev]; exact dc16 m hm
  · rw [e2, upI_s, va_s9, h0] at s1
    exact absurd s1 (by decide)
section LC
variable {p : Program} {l : Launch} {e : Env} {s : State} {m : MethodId} {below : List Frame} {meth : Method} {c : Code} {H : Heap} {locs : List Loc} {Q : State → Prop} {k : kY} {h : hS} {ls : Array Slot} {b0 L n a b i cl sl : Nat} {xs : Nat → Int32}
set_option maxHeartbeats 4000000 in
set_option maxRecDepth 100000 in
theorem lc_setNoise (hst : l.stackTraces = false) (X : CallFix p m c cL_law 9 s #[.ref b0] wsL_law RL) (w : WX k s H locs h) (I : IAB n h a b) (hn : n < 512) (hX : va_X b0 L xs s s.heap) (hbl : b0 < s.heap.size) (hbA : ¬ AA k s.heap.size b0) (hL : L ≤ 2048) (hi : i + 4 ≤ L) (hcl : cl + 5 ≤ 601024) (hsl : sl + 30 ≤ 7293034) (hl : lv_has ls 9 [(0, .ref b0), (1, .ref (k.2.1 0)), (2, .ref (k.2.1 91)), (3, .ref (k.2.1 95)), (4, .ref (k.2.1 96)), (5, .int (nI i))]) (hK : ∀ (H : Heap) (locs : List Loc) (ls : Array Slot) (g : hS) (a b : Nat), IAB (n + 1) g a b → WX k s H locs g → lv_has ls 9 [(0, .ref b0), (1, .ref (k.2.1 0)), (2, .ref (k.2.1 91)), (3, .ref (k.2.1 95)), (4, .ref (k.2.1 96)), (5, .int (nI i))] → W p l e room_1 s m #[.ref b0] below meth c H locs (cl + 5) (sl + 30) Q (F0 m 1875 ls [])) : W p l e room_1 s m #[.ref b0] below meth c H locs cl sl Q (F0 m 168 ls []) := by
  have hx := X.1
  have hb := X.2.1
  have hown := X.2.2.2.1
  have hts := X.2.2.2.2
  refine lv_aload_n hx hb dL_law_168 rfl (lv_at hl 1 rfl) ?_
  refine lv_aload_n hx hb dL_law_169 rfl (lv_at hl 0 rfl) ?_
  refine lv_iload hx hb dL_law_170 (lv_at hl 5 rfl) ?_
  refine lv_iconst (v := nI 1) hx hb dL_law_172 (by decide) ?_
  refine q_iaddN X dL_law_173 ?_
  refine q_sld X w hX hbl hbA hL (j := (i + 1)) (by omega) dL_law_174 ?_
  refine lv_aload_n hx hb dL_law_175 rfl (lv_at hl 0 rfl) ?_
  refine lv_iload hx hb dL_law_176 (lv_at hl 5 rfl) ?_
  refine lv_iconst (v := nI 2) hx hb dL_law_178 (by decide) ?_
  refine q_iaddN X dL_law_179 ?_
  refine q_sld X w hX hbl hbA hL (j := (i + 2)) (by omega) dL_law_180 ?_
  refine lv_aload_n hx hb dL_law_181 rfl (lv_at hl 0 rfl) ?_
  refine lv_iload hx hb dL_law_182 (lv_at hl 5 rfl) ?_
  refine lv_iconst (v := nI 3) hx hb dL_law_184 (by decide) ?_
  refine q_iaddN X dL_law_185 ?_
  refine q_sld X w hX hbl hbA hL (j := (i + 3)) (by omega) dL_law_186 ?_
  refine lv_aload_n hx hb dL_law_187 rfl (lv_at hl 3 rfl) ?_
  refine q_calli w (q_runSW X w (w_L_setNoise l k h (xs (i + 1)) (xs (i + 2)) (xs (i + 3)) (c_X4_setNoise l k h hst (xs (i + 1)) (xs (i + 2)) (xs (i + 3)) I.SI) (fun _ _ hp => hp.2.elim (fun z9 => Or.inl z9.1) (fun z9 => Or.inr z9.1))) (vx_cwSW 5 hts gL_law_L_setNoise rfl rfl rfl (by decide +kernel) ⟨Nat.le_of_ble_eq_true rfl, Nat.le_of_ble_eq_true rfl⟩) rfl hl.1 rfl (Nat.le_of_ble_eq_true rfl) dL_law_188 ⟨hcl, hsl⟩) (fun r9 h1 H locs hw w => ?_)
  have km := k_setNoise I hw
  refine lv_istore (lv' := [(6, .int r9), (0, .ref b0), (1, .ref (k.2.1 0)), (2, .ref (k.2.1 91)), (3, .ref (k.2.1 95)), (4, .ref (k.2.1 96)), (5, .int (nI i))]) hx hb dL_law_191 hl (by decide) rfl (fun ls hl => ?_)
  refine lv_aload_n hx hb dL_law_193 rfl (lv_at hl 3 rfl) ?_
  refine lv_aload_n hx hb dL_law_194 rfl (lv_at hl 1 rfl) ?_
  refine lv_iload hx hb dL_law_195 (lv_at hl 6 rfl) ?_
  refine lv_iconst (v := nI 1) hx hb dL_law_197 (by decide) ?_
  refine q_iaddN X dL_law_198 ?_
  refine q_sld X w hX hbl hbA hL (j := (i + 1)) (by omega) dL_law_199 ?_
  refine lv_aload_n hx hb dL_law_200 rfl (lv_at hl 1 rfl) ?_
  refine lv_iload hx hb dL_law_201 (lv_at hl 6 rfl) ?_
  refine lv_iconst (v := nI 2) hx hb dL_law_203 (by decide) ?_
  refine q_iaddN X dL_law_204 ?_
  refine q_sld X w hX hbl hbA hL (j := (i + 2)) (by omega) dL_law_205 ?_
  refine lv_aload_n hx hb dL_law_206 rfl (lv_at hl 1 rfl) ?_
  refine lv_iload hx hb dL_law_207 (lv_at hl 6 rfl) ?_
  refine lv_iconst (v := nI 3) hx hb dL_law_209 (by decide) ?_
  refine q_iaddN X dL_law_210 ?_
  refine q_sld X w hX hbl hbA hL (j := (i + 3)) (by omega) dL_law_211 ?_
  refine q_calli w (q_runV X w 91 (c_X5_setNoise l k h1 (xs (i + 1)) (xs (i + 2)) (xs (i + 3)) (b := b) km.2 I.1.2) (cwV 3 hts gL_law_X5_setNoise rfl rfl rfl (by decide +kernel) ⟨Nat.le_of_ble_eq_true rfl, Nat.le_of_ble_eq_true rfl⟩) (by decide) rfl rfl rfl hl.1 rfl (Nat.le_of_ble_eq_true rfl) dL_law_212 ⟨hcl, hsl⟩) (fun v9 h2 H locs hm w => ?_)
  obtain ⟨s1, s2, a', b', I'⟩ := s_setNoise I hn hw hm
  refine lv_istore (lv' := [(7, .int v9), (6, .int r9), (0, .ref b0), (1, .ref (k.2.1 0)), (2, .ref (k.2.1 91)), (3, .ref (k.2.1 95)), (4, .ref (k.2.1 96)), (5, .int (nI i))]) hx hb dL_law_215 hl (by decide) rfl (fun ls hl => ?_)
  refine lv_aload_n hx hb dL_law_217 rfl (lv_at hl 4 rfl) ?_
  refine q_calli w (q_runV X w 91 (c_X5_thrown l k h2) (cwV 0 hts gL_law_X5_thrown rfl rfl rfl (by decide +kernel) ⟨Nat.le_of_ble_eq_true rfl, Nat.le_of_ble_eq_true rfl⟩) (by decide) rfl rfl rfl hl.1 rfl (Nat.le_of_ble_eq_true rfl) dL_law_218 ⟨hcl, hsl⟩) (fun r8 h3 H locs hp w => ?_)
  obtain ⟨er8, eh3⟩ := hp
  rw [eh3] at w
  rw [er8, s1]
  refine lv_iload hx hb dL_law_221 (lv_at hl 1 rfl) ?_
  refine lv_icmp_eq (tgt := 228) hx hb dL_law_223 (by decide) (fun c_223 => ?_) (fun c_223 => ?_)
  · refine lv_iload hx hb dL_law_228 (lv_at hl 1 rfl) ?_
    refine lv_if_ne (tgt := 245) hx hb dL_law_230 (by decide) (fun c_230 => ?_) (fun c_230 => ?_)
    · refine lv_goto (tgt := 1875) hx hb dL_law_245 (by decide) ?_
      exact hK _ _ _ _ a' b' I' w (lv_sub hl [2, 3, 4, 5, 6, 7] rfl)
    · refine lv_aload_n hx hb dL_law_233 rfl (lv_at hl 5 rfl) ?_
      refine lv_iconst (v := nI 0) hx hb dL_law_234 (by decide) ?_
      refine q_lald X w 95 0 (by decide) (fun _ => rfl) rfl (show 0 < 1 by decide) (by decide) dL_law_235 ?_
      refine lv_iload hx hb dL_law_236 (lv_at hl 0 rfl) ?_
      refine lv_i2l hx hb dL_law_238 rfl ?_
      refine q_lif_eq X (tgt := 245) dL_law_239 dL_law_240 (by decide) (fun c_239 => ?_) (fun c_239 => ?_)
      · refine lv_goto (tgt := 1875) hx hb dL_law_245 (by decide) ?_
        exact hK _ _ _ _ a' b' I' w (lv_sub hl [2, 3, 4, 5, 6, 7] rfl)
      · exact absurd (s2 c_230) c_239
  · exact absurd rfl c_223

set_option maxHeartbeats 4000000 in
set_option maxRecDepth 100000 in
theorem lc_setCoupling (hst : l.stackTraces = false) (X : CallFix p m c cL_law 9 s #[.ref b0] wsL_law RL) (w : WX k s H locs h) (I : IAB n h a b) (hn : n < 512) (hX : va_X b0 L xs s s.heap) (hbl : b0 < s.heap.size) (hbA : ¬ AA k s.heap.size b0) (hL : L ≤ 2048) (hi : i + 4 ≤ L) (hcl : cl + 5 ≤ 601024) (hsl : sl + 30 ≤ 7293034) (hl : lv_has ls 9 [(0, .ref b0), (1, .ref (k.2.1 0)), (2, .ref (k.2.1 91)), (3, .ref (k.2.1 95)), (4, .ref (k.2.1 96)), (5, .int (nI i))]) (hK : ∀ (H : Heap) (locs : List Loc) (ls : Array Slot) (g : hS) (a b : Nat), IAB (n + 1) g a b → WX k s H locs g → lv_has ls 9 [(0, .ref b0), (1, .ref (k.2.1 0)), (2, .ref (k.2.1 91)), (3, .ref (k.2.1 95)), (4, .ref (k.2.1 96)), (5, .int (nI i))] → W p l e room_1 s m #[.ref b0] below meth c H locs (cl + 5) (sl + 30) Q (F0 m 1875 ls [])) : W p l e room_1 s m #[.ref b0] below meth c H locs cl sl Q (F0 m 248 ls []) := by
  have hx := X.1
  have hb := X.2.1
  have hown := X.2.2.2.1
  have hts := X.2.2.2.2
  refine lv_aload_n hx hb dL_law_248 rfl (lv_at hl 1 rfl) ?_
  refine lv_aload_n hx hb dL_law_249 rfl (lv_at hl 0 rfl) ?_
  refine lv_iload hx hb dL_law_250 (lv_at hl 5 rfl) ?_
  refine lv_iconst (v := nI 1) hx hb dL_law_252 (by decide) ?_
  refine q_iaddN X dL_law_253 ?_
  refine q_sld X w hX hbl hbA hL (j := (i + 1)) (by omega) dL_law_254 ?_
  refine lv_aload_n hx hb dL_law_255 rfl (lv_at hl 0 rfl) ?_
  refine lv_iload hx hb dL_law_256 (lv_at hl 5 rfl) ?_
  refine lv_iconst (v := nI 2) hx hb dL_law_258 (by decide) ?_
  refine q_iaddN X dL_law_259 ?_
  refine q_sld X w hX hbl hbA hL (j := (i + 2)) (by omega) dL_law_260 ?_
  refine lv_aload_n hx hb dL_law_261 rfl (lv_at hl 0 rfl) ?_
  refine lv_iload hx hb dL_law_262 (lv_at hl 5 rfl) ?_
  refine lv_iconst (v := nI 3) hx hb dL_law_264 (by decide) ?_
  refine q_iaddN X dL_law_265 ?_
  refine q_sld X w hX hbl hbA hL (j := (i + 3)) (by omega) dL_law_266 ?_
  refine lv_aload_n hx hb dL_law_267 rfl (lv_at hl 3 rfl) ?_
  refine q_calli w (q_runSW X w (w_L_setCoupling l k h (xs (i + 1)) (xs (i + 2)) (xs (i + 3)) (c_X4_setCoupling l k h hst (xs (i + 1)) (xs (i + 2)) (xs (i + 3)) I.SI) (fun _ _ hp => hp.2.elim (fun z9 => Or.inl z9.1) (fun z9 => Or.inr z9.1))) (vx_cwSW 5 hts gL_law_L_setCoupling rfl rfl rfl (by decide +kernel) ⟨Nat.le_of_ble_eq_true rfl, Nat.le_of_ble_eq_true rfl⟩) rfl hl.1 rfl (Nat.le_of_ble_eq_true rfl) dL_law_268 ⟨hcl, hsl⟩) (fun r9 h1 H locs hw w => ?_)
  have km := k_setCoupling I hw
  refine lv_istore (lv' := [(6, .int r9), (0, .ref b0), (1, .ref (k.2.1 0)), (2, .ref (k.2.1 91)), (3, .ref (k.2.1 95)), (4, .ref (k.2.1 96)), (5, .int (nI i))]) hx hb dL_law_271 hl (by decide) rfl (fun ls hl => ?_)
  refine lv_aload_n hx hb dL_law_273 rfl (lv_at hl 3 rfl) ?_
  refine lv_aload_n hx hb dL_law_274 rfl (lv_at hl 1 rfl) ?_
  refine lv_iload hx hb dL_law_275 (lv_at hl 6 rfl) ?_
  refine lv_iconst (v := nI 1) hx hb dL_law_277 (by decide) ?_
  refine q_iaddN X dL_law_278 ?_
  refine q_sld X w hX hbl hbA hL (j := (i + 1)) (by omega) dL_law_279 ?_
  refine lv_aload_n hx hb dL_law_280 rfl (lv_at hl 1 rfl) ?_
  refine lv_iload hx hb dL_law_281 (lv_at hl 6 rfl) ?_
  refine lv_iconst (v := nI 2) hx hb dL_law_283 (by decide) ?_
  refine q_iaddN X dL_law_284 ?_
  refine q_sld X w hX hbl hbA hL (j := (i + 2)) (by omega) dL_law_285 ?_
  refine lv_aload_n hx hb dL_law_286 rfl (lv_at hl 1 rfl) ?_
  refine lv_iload hx hb dL_law_287 (lv_at hl 6 rfl) ?_
  refine lv_iconst (v := nI 3) hx hb dL_law_289 (by decide) ?_
  refine q_iaddN X dL_law_290 ?_
  refine q_sld X w hX hbl hbA hL (j := (i + 3)) (by omega) dL_law_291 ?_
  refine q_calli w (q_runV X w 91 (c_X5_setCoupling l k h1 (xs (i + 1)) (xs (i + 2)) (xs (i + 3)) (b := b) km.2 I.1.2) (cwV 3 hts gL_law_X5_setCoupling rfl rfl rfl (by decide +kernel) ⟨Nat.le_of_ble_eq_true rfl, Nat.le_of_ble_eq_true rfl⟩) (by decide) rfl rfl rfl hl.1 rfl (Nat.le_of_ble_eq_true rfl) dL_law_292 ⟨hcl, hsl⟩) (fun v9 h2 H locs hm w => ?_)
  obtain ⟨s1, s2, a', b', I'⟩ := s_setCoupling I hn hw hm
  refine lv_istore (lv' := [(7, .int v9), (6, .int r9), (0, .ref b0), (1, .ref (k.2.1 0)), (2, .ref (k.2.1 91)), (3, .ref (k.2.1 95)), (4, .ref (k.2.1 96)), (5, .int (nI i))]) hx hb dL_law_295 hl (by decide) rfl (fun ls hl => ?_)
  refine lv_aload_n hx hb dL_law_297 rfl (lv_at hl 4 rfl) ?_
  refine q_calli w (q_runV X w 91 (c_X5_thrown l k h2) (cwV 0 hts gL_law_X5_thrown rfl rfl rfl (by decide +kernel) ⟨Nat.le_of_ble_eq_true rfl, Nat.le_of_ble_eq_true rfl⟩) (by decide) rfl rfl rfl hl.1 rfl (Nat.le_of_ble_eq_true rfl) dL_law_298 ⟨hcl, hsl⟩) (fun r8 h3 H locs hp w => ?_)
  obtain ⟨er8, eh3⟩ := hp
  rw [eh3] at w
  rw [er8, s1]
  refine lv_iload hx hb dL_law_301 (lv_at hl 1 rfl) ?_
  refine lv_icmp_eq (tgt := 308) hx hb dL_law_303 (by decide) (fun c_303 => ?_) (fun c_303 => ?_)
  · refine lv_iload hx hb dL_law_308 (lv_at hl 1 rfl) ?_
    refine lv_if_ne (tgt := 325) hx hb dL_law_310 (by decide) (fun c_310 => ?_) (fun c_310 => ?_)
    · refine lv_goto (tgt := 1875) hx hb dL_law_325 (by decide) ?_
      exact hK _ _ _ _ a' b' I' w (lv_sub hl [2, 3, 4, 5, 6, 7] rfl)
    · refine lv_aload_n hx hb dL_law_313 rfl (lv_at hl 5 rfl) ?_
      refine lv_iconst (v := nI 0) hx hb dL_law_314 (by decide) ?_
      refine q_lald X w 95 0 (by decide) (fun _ => rfl) rfl (show 0 < 1 by decide) (by decide) dL_law_315 ?_
      refine lv_iload hx hb dL_law_316 (lv_at hl 0 rfl) ?_
      refine lv_i2l hx hb dL_law_318 rfl ?_
      refine q_lif_eq X (tgt := 325) dL_law_319 dL_law_320 (by decide) (fun c_319 => ?_) (fun c_319 => ?_)
      · refine lv_goto (tgt := 1875) hx hb dL_law_325 (by decide) ?_
        exact hK _ _ _ _ a' b' I' w (lv_sub hl [2, 3, 4, 5, 6, 7] rfl)
      · exact absurd (s2 c_310) c_319
  · exact absurd rfl c_303

set_option maxHeartbeats 4000000 in
set_option maxRecDepth 100000 in
theorem lc_setLimit (hst : l.stackTraces = false) (X : CallFix p m c cL_law 9 s #[.ref b0] wsL_law RL) (w : WX k s H locs h) (I : IAB n h a b) (hn : n < 512) (hX : va_X b0 L xs s s.heap) (hbl : b0 < s.heap.size) (hbA : ¬ AA k s.heap.size b0) (hL : L ≤ 2048) (hi : i + 4 ≤ L) (hcl : cl + 5 ≤ 601024) (hsl : sl + 30 ≤ 7293034) (hl : lv_has ls 9 [(0, .ref b0), (1, .ref (k.2.1 0)), (2, .ref (k.2.1 91)), (3, .ref (k.2.1 95)), (4, .ref (k.2.1 96)), (5, .int (nI i))]) (hK : ∀ (H : Heap) (locs : List Loc) (ls : Array Slot) (g : hS) (a b : Nat), IAB (n + 1) g a b → WX k s H locs g → lv_has ls 9 [(0, .ref b0), (1, .ref (k.2.1 0)), (2, .ref (k.2.1 91)), (3, .ref (k.2.1 95)), (4, .ref (k.2.1 96)), (5, .int (nI i))] → W p l e room_1 s m #[.ref b0] below meth c H locs (cl + 5) (sl + 30) Q (F0 m 1875 ls [])) : W p l e room_1 s m #[.ref b0] below meth c H locs cl sl Q (F0 m 328 ls []) := by
  have hx := X.1
  have hb := X.2.1
  have hown := X.2.2.2.1
  have hts := X.2.2.2.2
  refine lv_aload_n hx hb dL_law_328 rfl (lv_at hl 1 rfl) ?_
  refine lv_aload_n hx hb dL_law_329 rfl (lv_at hl 0 rfl) ?_
  refine lv_iload hx hb dL_law_330 (lv_at hl 5 rfl) ?_
  refine lv_iconst (v := nI 1) hx hb dL_law_332 (by decide) ?_
  refine q_iaddN X dL_law_333 ?_
  refine q_sld X w hX hbl hbA hL (j := (i + 1)) (by omega) dL_law_334 ?_
  refine lv_aload_n hx hb dL_law_335 rfl (lv_at hl 0 rfl) ?_
  refine lv_iload hx hb dL_law_336 (lv_at hl 5 rfl) ?_
  refine lv_iconst (v := nI 2) hx hb dL_law_338 (by decide) ?_
  refine q_iaddN X dL_law_339 ?_
  refine q_sld X w hX hbl hbA hL (j := (i + 2)) (by omega) dL_law_340 ?_
  refine lv_aload_n hx hb dL_law_341 rfl (lv_at hl 0 rfl) ?_
  refine lv_iload hx hb dL_law_342 (lv_at hl 5 rfl) ?_
  refine lv_iconst (v := nI 3) hx hb dL_law_344 (by decide) ?_
  refine q_iaddN X dL_law_345 ?_
  refine q_sld X w hX hbl hbA hL (j := (i + 3)) (by omega) dL_law_346 ?_
  refine lv_aload_n hx hb dL_law_347 rfl (lv_at hl 3 rfl) ?_
  refine q_calli w (q_runSW X w (w_L_setLimit l k h (xs (i + 1)) (xs (i + 2)) (xs (i + 3)) (c_X4_setLimit l k h hst (xs (i + 1)) (xs (i + 2)) (xs (i + 3)) I.SI) (fun _ _ hp => hp.2.elim (fun z9 => Or.inl z9.1) (fun z9 => z9.elim (fun z9 => Or.inr (Or.inl z9.1)) (fun z9 => Or.inr (Or.inr z9.1))))) (vx_cwSW 5 hts gL_law_L_setLimit rfl rfl rfl (by decide +kernel) ⟨Nat.le_of_ble_eq_true rfl, Nat.le_of_ble_eq_true rfl⟩) rfl hl.1 rfl (Nat.le_of_ble_eq_true rfl) dL_law_348 ⟨hcl, hsl⟩) (fun r9 h1 H locs hw w => ?_)
  have km := k_setLimit I hw
  refine lv_istore (lv' := [(6, .int r9), (0, .ref b0), (1, .ref (k.2.1 0)), (2, .ref (k.2.1 91)), (3, .ref (k.2.1 95)), (4, .ref (k.2.1 96)), (5, .int (nI i))]) hx hb dL_law_351 hl (by decide) rfl (fun ls hl => ?_)
  refine lv_aload_n hx hb dL_law_353 rfl (lv_at hl 3 rfl) ?_
  refine lv_aload_n hx hb dL_law_354 rfl (lv_at hl 1 rfl) ?_
  refine lv_iload hx hb dL_law_355 (lv_at hl 6 rfl) ?_
  refine lv_iconst (v := nI 1) hx hb dL_law_357 (by decide) ?_
  refine q_iaddN X dL_law_358 ?_
  refine q_sld X w hX hbl hbA hL (j := (i + 1)) (by omega) dL_law_359 ?_
  refine lv_aload_n hx hb dL_law_360 rfl (lv_at hl 1 rfl) ?_
  refine lv_iload hx hb dL_law_361 (lv_at hl 6 rfl) ?_
  refine lv_iconst (v := nI 2) hx hb dL_law_363 (by decide) ?_
  refine q_iaddN X dL_law_364 ?_
  refine q_sld X w hX hbl hbA hL (j := (i + 2)) (by omega) dL_law_365 ?_
  refine lv_aload_n hx hb dL_law_366 rfl (lv_at hl 1 rfl) ?_
  refine lv_iload hx hb dL_law_367 (lv_at hl 6 rfl) ?_
  refine lv_iconst (v := nI 3) hx hb dL_law_369 (by decide) ?_
  refine q_iaddN X dL_law_370 ?_
  refine q_sld X w hX hbl hbA hL (j := (i + 3)) (by omega) dL_law_371 ?_
  refine q_calli w (q_runV X w 91 (c_X5_setLimit l k h1 (xs (i + 1)) (xs (i + 2)) (xs (i + 3)) (b := b) km.2 I.1.2) (cwV 3 hts gL_law_X5_setLimit rfl rfl rfl (by decide +kernel) ⟨Nat.le_of_ble_eq_true rfl, Nat.le_of_ble_eq_true rfl⟩) (by decide) rfl rfl rfl hl.1 rfl (Nat.le_of_ble_eq_true rfl) dL_law_372 ⟨hcl, hsl⟩) (fun v9 h2 H locs hm w => ?_)
  obtain ⟨s1, s2, a', b', I'⟩ := s_setLimit I hn hw hm
  refine lv_istore (lv' := [(7, .int v9), (6, .int r9), (0, .ref b0), (1, .ref (k.2.1 0)), (2, .ref (k.2.1 91)), (3, .ref (k.2.1 95)), (4, .ref (k.2.1 96)), (5, .int (nI i))]) hx hb dL_law_375 hl (by decide) rfl (fun ls hl => ?_)
  refine lv_aload_n hx hb dL_law_377 rfl (lv_at hl 4 rfl) ?_
  refine q_calli w (q_runV X w 91 (c_X5_thrown l k h2) (cwV 0 hts gL_law_X5_thrown rfl rfl rfl (by decide +kernel) ⟨Nat.le_of_ble_eq_true rfl, Nat.le_of_ble_eq_true rfl⟩) (by decide) rfl rfl rfl hl.1 rfl (Nat.le_of_ble_eq_true rfl) dL_law_378 ⟨hcl, hsl⟩) (fun r8 h3 H locs hp w => ?_)
  obtain ⟨er8, eh3⟩ := hp
  rw [eh3] at w
  rw [er8, s1]
  refine lv_iload hx hb dL_law_381 (lv_at hl 1 rfl) ?_
  refine lv_icmp_eq (tgt := 388) hx hb dL_law_383 (by decide) (fun c_383 => ?_) (fun c_383 => ?_)
  · refine lv_iload hx hb dL_law_388 (lv_at hl 1 rfl) ?_
    refine lv_if_ne (tgt := 405) hx hb dL_law_390 (by decide) (fun c_390 => ?_) (fun c_390 => ?_)
    · refine lv_goto (tgt := 1875) hx hb dL_law_405 (by decide) ?_
      exact hK _ _ _ _ a' b' I' w (lv_sub hl [2, 3, 4, 5, 6, 7] rfl)
    · refine lv_aload_n hx hb dL_law_393 rfl (lv_at hl 5 rfl) ?_
      refine lv_iconst (v := nI 0) hx hb dL_law_394 (by decide) ?_
      refine q_lald X w 95 0 (by decide) (fun _ => rfl) rfl (show 0 < 1 by decide) (by decide) dL_law_395 ?_
      refine lv_iload hx hb dL_law_396 (lv_at hl 0 rfl) ?_
      refine lv_i2l hx hb dL_law_398 rfl ?_
      refine q_lif_eq X (tgt := 405) dL_law_399 dL_law_400 (by decide) (fun c_399 => ?_) (fun c_399 => ?_)
      · refine lv_goto (tgt := 1875) hx hb dL_law_405 (by decide) ?_
        exact hK _ _ _ _ a' b' I' w (lv_sub hl [2, 3, 4, 5, 6, 7] rfl)
      · exact absurd (s2 c_390) c_399
  · exact absurd rfl c_383

set_option maxHeartbeats 4000000 in
set_option maxRecDepth 100000 in
theorem lc_setBudget (hst : l.stackTraces = false) (X : CallFix p m c cL_law 9 s #[.ref b0] wsL_law RL) (w : WX k s H locs h) (I : IAB n h a b) (hn : n < 512) (hX : va_X b0 L xs s s.heap) (hbl : b0 < s.heap.size) (hbA : ¬ AA k s.heap.size b0) (hL : L ≤ 2048) (hi : i + 4 ≤ L) (hcl : cl + 5 ≤ 601024) (hsl : sl + 30 ≤ 7293034) (hl : lv_has ls 9 [(0, .ref b0), (1, .ref (k.2.1 0)), (2, .ref (k.2.1 91)), (3, .ref (k.2.1 95)), (4, .ref (k.2.1 96)), (5, .int (nI i))]) (hK : ∀ (H : Heap) (locs : List Loc) (ls : Array Slot) (g : hS) (a b : Nat), IAB (n + 1) g a b → WX k s H locs g → lv_has ls 9 [(0, .ref b0), (1, .ref (k.2.1 0)), (2, .ref (k.2.1 91)), (3, .ref (k.2.1 95)), (4, .ref (k.2.1 96)), (5, .int (nI i))] → W p l e room_1 s m #[.ref b0] below meth c H locs (cl + 5) (sl + 30) Q (F0 m 1875 ls [])) : W p l e room_1 s m #[.ref b0] below meth c H locs cl sl Q (F0 m 408 ls []) := by
  have hx := X.1
  have hb := X.2.1
  have hown := X.2.2.2.1
  have hts := X.2.2.2.2
  refine lv_aload_n hx hb dL_law_408 rfl (lv_at hl 1 rfl) ?_
  refine lv_aload_n hx hb dL_law_409 rfl (lv_at hl 0 rfl) ?_
  refine lv_iload hx hb dL_law_410 (lv_at hl 5 rfl) ?_
  refine lv_iconst (v := nI 1) hx hb dL_law_412 (by decide) ?_
  refine q_iaddN X dL_law_413 ?_
  refine q_sld X w hX hbl hbA hL (j := (i + 1)) (by omega) dL_law_414 ?_
  refine lv_aload_n hx hb dL_law_415 rfl (lv_at hl 0 rfl) ?_
  refine lv_iload hx hb dL_law_416 (lv_at hl 5 rfl) ?_
  refine lv_iconst (v := nI 2) hx hb dL_law_418 (by decide) ?_
  refine q_iaddN X dL_law_419 ?_
  refine q_sld X w hX hbl hbA hL (j := (i + 2)) (by omega) dL_law_420 ?_
  refine lv_aload_n hx hb dL_law_421 rfl (lv_at hl 3 rfl) ?_
  refine q_calli w (q_runSW X w (w_L_setBudget l k h (xs (i + 1)) (xs (i + 2)) (c_X4_setBudget l k h hst (xs (i + 1)) (xs (i + 2)) I.SI) (fun _ _ hp => hp.2.elim (fun z9 => Or.inl z9.1) (fun z9 => Or.inr z9.1))) (vx_cwSW 4 hts gL_law_L_setBudget rfl rfl rfl (by decide +kernel) ⟨Nat.le_of_ble_eq_true rfl, Nat.le_of_ble_eq_true rfl⟩) rfl hl.1 rfl (Nat.le_of_ble_eq_true rfl) dL_law_422 ⟨hcl, hsl⟩) (fun r9 h1 H locs hw w => ?_)
  have km := k_setBudget I hw
  refine lv_istore (lv' := [(6, .int r9), (0, .ref b0), (1, .ref (k.2.1 0)), (2, .ref (k.2.1 91)), (3, .ref (k.2.1 95)), (4, .ref (k.2.1 96)), (5, .int (nI i))]) hx hb dL_law_425 hl (by decide) rfl (fun ls hl => ?_)
  refine lv_aload_n hx hb dL_law_427 rfl (lv_at hl 3 rfl) ?_
  refine lv_aload_n hx hb dL_law_428 rfl (lv_at hl 1 rfl) ?_
  refine lv_iload hx hb dL_law_429 (lv_at hl 6 rfl) ?_
  refine lv_iconst (v := nI 1) hx hb dL_law_431 (by decide) ?_
  refine q_iaddN X dL_law_432 ?_
  refine q_sld X w hX hbl hbA hL (j := (i + 1)) (by omega) dL_law_433 ?_
  refine lv_aload_n hx hb dL_law_434 rfl (lv_at hl 1 rfl) ?_
  refine lv_iload hx hb dL_law_435 (lv_at hl 6 rfl) ?_
  refine lv_iconst (v := nI 2) hx hb dL_law_437 (by decide) ?_
  refine q_iaddN X dL_law_438 ?_
  refine q_sld X w hX hbl hbA hL (j := (i + 2)) (by omega) dL_law_439 ?_
  refine q_calli w (q_runV X w 91 (c_X5_setBudget l k h1 (xs (i + 1)) (xs (i + 2)) (b := b) km.2 I.1.2) (cwV 2 hts gL_law_X5_setBudget rfl rfl rfl (by decide +kernel) ⟨Nat.le_of_ble_eq_true rfl, Nat.le_of_ble_eq_true rfl⟩) (by decide) rfl rfl rfl hl.1 rfl (Nat.le_of_ble_eq_true rfl) dL_law_440 ⟨hcl, hsl⟩) (fun v9 h2 H locs hm w => ?_)
  obtain ⟨s1, s2, a', b', I'⟩ := s_setBudget I hn hw hm
  refine lv_istore (lv' := [(7, .int v9), (6, .int r9), (0, .ref b0), (1, .ref (k.2.1 0)), (2, .ref (k.2.1 91)), (3, .ref (k.2.1 95)), (4, .ref (k.2.1 96)), (5, .int (nI i))]) hx hb dL_law_443 hl (by decide) rfl (fun ls hl => ?_)
  refine lv_aload_n hx hb dL_law_445 rfl (lv_at hl 4 rfl) ?_
  refine q_calli w (q_runV X w 91 (c_X5_thrown l k h2) (cwV 0 hts gL_law_X5_thrown rfl rfl rfl (by decide +kernel) ⟨Nat.le_of_ble_eq_true rfl, Nat.le_of_ble_eq_true rfl⟩) (by decide) rfl rfl rfl hl.1 rfl (Nat.le_of_ble_eq_true rfl) dL_law_446 ⟨hcl, hsl⟩) (fun r8 h3 H locs hp w => ?_)
  obtain ⟨er8, eh3⟩ := hp
  rw [eh3] at w
  rw [er8, s1]
  refine lv_iload hx hb dL_law_449 (lv_at hl 1 rfl) ?_
  refine lv_icmp_eq (tgt := 456) hx hb dL_law_451 (by decide) (fun c_451 => ?_) (fun c_451 => ?_)
  · refine lv_iload hx hb dL_law_456 (lv_at hl 1 rfl) ?_
    refine lv_if_ne (tgt := 473) hx hb dL_law_458 (by decide) (fun c_458 => ?_) (fun c_458 => ?_)
    · refine lv_goto (tgt := 1875) hx hb dL_law_473 (by decide) ?_
      exact hK _ _ _ _ a' b' I' w (lv_sub hl [2, 3, 4, 5, 6, 7] rfl)
    · refine lv_aload_n hx hb dL_law_461 rfl (lv_at hl 5 rfl) ?_
      refine lv_iconst (v := nI 0) hx hb dL_law_462 (by decide) ?_
      refine q_lald X w 95 0 (by decide) (fun _ => rfl) rfl (show 0 < 1 by decide) (by decide) dL_law_463 ?_
      refine lv_iload hx hb dL_law_464 (lv_at hl 0 rfl) ?_
      refine lv_i2l hx hb dL_law_466 rfl ?_
      refine q_lif_eq X (tgt := 473) dL_law_467 dL_law_468 (by decide) (fun c_467 => ?_) (fun c_467 => ?_)
      · refine lv_goto (tgt := 1875) hx hb dL_law_473 (by decide) ?_
        exact hK _ _ _ _ a' b' I' w (lv_sub hl [2, 3, 4, 5, 6, 7] rfl)
      · exact absurd (s2 c_458) c_467
  · exact absurd rfl c_451

set_option maxHeartbeats 4000000 in
set_option maxRecDepth 100000 in
theorem lc_loadRate (hst : l.stackTraces = false) (X : CallFix p m c cL_law 9 s #[.ref b0] wsL_law RL) (w : WX k s H locs h) (I : IAB n h a b) (hn : n < 512) (hX : va_X b0 L xs s s.heap) (hbl : b0 < s.heap.size) (hbA : ¬ AA k s.heap.size b0) (hL : L ≤ 2048) (hi : i + 4 ≤ L) (hcl : cl + 5 ≤ 601024) (hsl : sl + 30 ≤ 7293034) (hl : lv_has ls 9 [(0, .ref b0), (1, .ref (k.2.1 0)), (2, .ref (k.2.1 91)), (3, .ref (k.2.1 95)), (4, .ref (k.2.1 96)), (5, .int (nI i))]) (hK : ∀ (H : Heap) (locs : List Loc) (ls : Array Slot) (g : hS) (a b : Nat), IAB (n + 1) g a b → WX k s H locs g → lv_has ls 9 [(0, .ref b0), (1, .ref (k.2.1 0)), (2, .ref (k.2.1 91)), (3, .ref (k.2.1 95)), (4, .ref (k.2.1 96)), (5, .int (nI i))] → W p l e room_1 s m #[.ref b0] below meth c H locs (cl + 5) (sl + 30) Q (F0 m 1875 ls [])) : W p l e room_1 s m #[.ref b0] below meth c H locs cl sl Q (F0 m 476 ls []) := by
  have hx := X.1
  have hb := X.2.1
  have hown := X.2.2.2.1
  have hts := X.2.2.2.2
  refine lv_aload_n hx hb dL_law_476 rfl (lv_at hl 1 rfl) ?_
  refine lv_aload_n hx hb dL_law_477 rfl (lv_at hl 0 rfl) ?_
  refine lv_iload hx hb dL_law_478 (lv_at hl 5 rfl) ?_
  refine lv_iconst (v := nI 1) hx hb dL_law_480 (by decide) ?_
  refine q_iaddN X dL_law_481 ?_
  refine q_sld X w hX hbl hbA hL (j := (i + 1)) (by omega) dL_law_482 ?_
  refine lv_aload_n hx hb dL_law_483 rfl (lv_at hl 3 rfl) ?_
  refine q_calli w (q_runSW X w (w_L_loadRate l k h (xs (i + 1)) (c_X4_loadRate l k h hst (xs (i + 1)) I.SI) (fun _ _ hp => hp.1)) (vx_cwSW 3 hts gL_law_L_loadRate rfl rfl rfl (by decide +kernel) ⟨Nat.le_of_ble_eq_true rfl, Nat.le_of_ble_eq_true rfl⟩) rfl hl.1 rfl (Nat.le_of_ble_eq_true rfl) dL_law_484 ⟨hcl, hsl⟩) (fun r9 h1 H locs hw w => ?_)
  have km := k_loadRate I hw
  refine lv_istore (lv' := [(6, .int r9), (0, .ref b0), (1, .ref (k.2.1 0)), (2, .ref (k.2.1 91)), (3, .ref (k.2.1 95)), (4, .ref (k.2.1 96)), (5, .int (nI i))]) hx hb dL_law_487 hl (by decide) rfl (fun ls hl => ?_)
  refine lv_aload_n hx hb dL_law_489 rfl (lv_at hl 3 rfl) ?_
  refine lv_aload_n hx hb dL_law_490 rfl (lv_at hl 1 rfl) ?_
  refine lv_iload hx hb dL_law_491 (lv_at hl 6 rfl) ?_
  refine lv_iconst (v := nI 1) hx hb dL_law_493 (by decide) ?_
  refine q_iaddN X dL_law_494 ?_
  refine q_sld X w hX hbl hbA hL (j := (i + 1)) (by omega) dL_law_495 ?_
  refine q_calli w (q_runV X w 91 (c_X5_loadRate l k h1 (xs (i + 1)) (b := b) km.2 I.1.2 (F := 193) (R2 := fun q => (mld q 193 (mcl (h.2.1 92) q) 0).getD (h.2.1 92)) (by rw [km.1]; exact I.fl)) (cwV 1 hts gL_law_X5_loadRate rfl rfl rfl (by decide +kernel) ⟨Nat.le_of_ble_eq_true rfl, Nat.le_of_ble_eq_true rfl⟩) (by decide) rfl rfl rfl hl.1 rfl (Nat.le_of_ble_eq_true rfl) dL_law_496 ⟨hcl, hsl⟩) (fun v9 h2 H locs hm w => ?_)
  obtain ⟨s1, s2, a', b', I'⟩ := s_loadRate I hn hw I.fl hm
  refine lv_istore (lv' := [(7, .int v9), (6, .int r9), (0, .ref b0), (1, .ref (k.2.1 0)), (2, .ref (k.2.1 91)), (3, .ref (k.2.1 95)), (4, .ref (k.2.1 96)), (5, .int (nI i))]) hx hb dL_law_499 hl (by decide) rfl (fun ls hl => ?_)
  refine lv_aload_n hx hb dL_law_501 rfl (lv_at hl 4 rfl) ?_
  refine q_calli w (q_runV X w 91 (c_X5_thrown l k h2) (cwV 0 hts gL_law_X5_thrown rfl rfl rfl (by decide +kernel) ⟨Nat.le_of_ble_eq_true rfl, Nat.le_of_ble_eq_true rfl⟩) (by decide) rfl rfl rfl hl.1 rfl (Nat.le_of_ble_eq_true rfl) dL_law_502 ⟨hcl, hsl⟩) (fun r8 h3 H locs hp w => ?_)
  obtain ⟨er8, eh3⟩ := hp
  rw [eh3] at w
  rw [er8, s1]
  refine lv_iload hx hb dL_law_505 (lv_at hl 1 rfl) ?_
  refine lv_icmp_eq (tgt := 512) hx hb dL_law_507 (by decide) (fun c_507 => ?_) (fun c_507 => ?_)
  · refine lv_iload hx hb dL_law_512 (lv_at hl 1 rfl) ?_
    refine lv_if_ne (tgt := 529) hx hb dL_law_514 (by decide) (fun c_514 => ?_) (fun c_514 => ?_)
    · refine lv_goto (tgt := 1875) hx hb dL_law_529 (by decide) ?_
      exact hK _ _ _ _ a' b' I' w (lv_sub hl [2, 3, 4, 5, 6, 7] rfl)
    · refine lv_aload_n hx hb dL_law_517 rfl (lv_at hl 5 rfl) ?_
      refine lv_iconst (v := nI 0) hx hb dL_law_518 (by decide) ?_
      refine q_lald X w 95 0 (by decide) (fun _ => rfl) rfl (show 0 < 1 by decide) (by decide) dL_law_519 ?_
      refine lv_iload hx hb dL_law_520 (lv_at hl 0 rfl) ?_
      refine lv_i2l hx hb dL_law_522 rfl ?_
      refine q_lif_eq X (tgt := 529) dL_law_523 dL_law_524 (by decide) (fun c_523 => ?_) (fun c_523 => ?_)
      · refine lv_goto (tgt := 1875) hx hb dL_law_529 (by decide) ?_
        exact hK _ _ _ _ a' b' I' w (lv_sub hl [2, 3, 4, 5, 6, 7] rfl)
      · exact absurd (s2 c_514) c_523
  · exact absurd rfl c_507

set_option maxHeartbeats 4000000 in
set_option maxRecDepth 100000 in
theorem lc_loadBits (hst : l.stackTraces = false) (X : CallFix p m c cL_law 9 s #[.ref b0] wsL_law RL) (w : WX k s H locs h) (I : IAB n h a b) (hn : n < 512) (hX : va_X b0 L xs s s.heap) (hbl : b0 < s.heap.size) (hbA : ¬ AA k s.heap.size b0) (hL : L ≤ 2048) (hi : i + 4 ≤ L) (hcl : cl + 5 ≤ 601024) (hsl : sl + 30 ≤ 7293034) (hl : lv_has ls 9 [(0, .ref b0), (1, .ref (k.2.1 0)), (2, .ref (k.2.1 91)), (3, .ref (k.2.1 95)), (4, .ref (k.2.1 96)), (5, .int (nI i))]) (hK : ∀ (H : Heap) (locs : List Loc) (ls : Array Slot) (g : hS) (a b : Nat), IAB (n + 1) g a b → WX k s H locs g → lv_has ls 9 [(0, .ref b0), (1, .ref (k.2.1 0)), (2, .ref (k.2.1 91)), (3, .ref (k.2.1 95)), (4, .ref (k.2.1 96)), (5, .int (nI i))] → W p l e room_1 s m #[.ref b0] below meth c H locs (cl + 5) (sl + 30) Q (F0 m 1875 ls [])) : W p l e room_1 s m #[.ref b0] below meth c H locs cl sl Q (F0 m 532 ls []) := by
  have hx := X.1
  have hb := X.2.1
  have hown := X.2.2.2.1
  have hts := X.2.2.2.2
  refine lv_aload_n hx hb dL_law_532 rfl (lv_at hl 1 rfl) ?_
  refine lv_aload_n hx hb dL_law_533 rfl (lv_at hl 0 rfl) ?_
  refine lv_iload hx hb dL_law_534 (lv_at hl 5 rfl) ?_
  refine lv_iconst (v := nI 1) hx hb dL_law_536 (by decide) ?_
  refine q_iaddN X dL_law_537 ?_
  refine q_sld X w hX hbl hbA hL (j := (i + 1)) (by omega) dL_law_538 ?_
  refine lv_aload_n hx hb dL_law_539 rfl (lv_at hl 0 rfl) ?_
  refine lv_iload hx hb dL_law_540 (lv_at hl 5 rfl) ?_
  refine lv_iconst (v := nI 2) hx hb dL_law_542 (by decide) ?_
  refine q_iaddN X dL_law_543 ?_
  refine q_sld X w hX hbl hbA hL (j := (i + 2)) (by omega) dL_law_544 ?_
  refine lv_aload_n hx hb dL_law_545 rfl (lv_at hl 3 rfl) ?_
  refine q_calli w (q_runSW X w (w_L_loadBits l k h (xs (i + 1)) (xs (i + 2)) (c_X4_loadBits l k h hst (xs (i + 1)) (xs (i + 2)) I.SI) (fun _ _ hp => hp.elim (fun z9 => z9.2.elim (fun z9 => Or.inl z9.1) (fun z9 => Or.inr (Or.inl z9.1))) (fun z9 => Or.inr (Or.inr z9.1)))) (vx_cwSW 4 hts gL_law_L_loadBits rfl rfl rfl (by decide +kernel) ⟨Nat.le_of_ble_eq_true rfl, Nat.le_of_ble_eq_true rfl⟩) rfl hl.1 rfl (Nat.le_of_ble_eq_true rfl) dL_law_546 ⟨hcl, hsl⟩) (fun r9 h1 H locs hw w => ?_)
  have km := k_loadBits I hw
  refine lv_istore (lv' := [(6, .int r9), (0, .ref b0), (1, .ref (k.2.1 0)), (2, .ref (k.2.1 91)), (3, .ref (k.2.1 95)), (4, .ref (k.2.1 96)), (5, .int (nI i))]) hx hb dL_law_549 hl (by decide) rfl (fun ls hl => ?_)
  refine lv_aload_n hx hb dL_law_551 rfl (lv_at hl 3 rfl) ?_
  refine lv_aload_n hx hb dL_law_552 rfl (lv_at hl 1 rfl) ?_
  refine lv_iload hx hb dL_law_553 (lv_at hl 6 rfl) ?_
  refine lv_iconst (v := nI 1) hx hb dL_law_555 (by decide) ?_
  refine q_iaddN X dL_law_556 ?_
  refine q_sld X w hX hbl hbA hL (j := (i + 1)) (by omega) dL_law_557 ?_
  refine lv_aload_n hx hb dL_law_558 rfl (lv_at hl 1 rfl) ?_
  refine lv_iload hx hb dL_law_559 (lv_at hl 6 rfl) ?_
  refine lv_iconst (v := nI 2) hx hb dL_law_561 (by decide) ?_
  refine q_iaddN X dL_law_562 ?_
  refine q_sld X w hX hbl hbA hL (j := (i + 2)) (by omega) dL_law_563 ?_
  refine q_calll w (q_runV X w 91 (c_X5_loadBits l k h1 (xs (i + 1)) (xs (i + 2)) (b := b) km.2 I.1.2 (R2 := fun q m => (mfk q m (mcl (h.2.1 92) q)).getD (h.2.1 92)) (by rw [km.1]; exact I.ft)) (cwV 2 hts gL_law_X5_loadBits rfl rfl rfl (by decide +kernel) ⟨Nat.le_of_ble_eq_true rfl, Nat.le_of_ble_eq_true rfl⟩) (by decide) rfl rfl rfl hl.1 rfl (Nat.le_of_ble_eq_true rfl) dL_law_564 ⟨hcl, hsl⟩) (fun v9 h2 H locs hm w => ?_)
  obtain ⟨s1, s2, a', b', I'⟩ := s_loadBits I hn hw I.ft hm
  refine lv_lstore (lv' := [(7, .long v9), (6, .int r9), (0, .ref b0), (1, .ref (k.2.1 0)), (2, .ref (k.2.1 91)), (3, .ref (k.2.1 95)), (4, .ref (k.2.1 96)), (5, .int (nI i))]) hx hb dL_law_567 hl (by decide) rfl (fun ls hl => ?_)
  refine lv_aload_n hx hb dL_law_569 rfl (lv_at hl 4 rfl) ?_
  refine q_calli w (q_runV X w 91 (c_X5_thrown l k h2) (cwV 0 hts gL_law_X5_thrown rfl rfl rfl (by decide +kernel) ⟨Nat.le_of_ble_eq_true rfl, Nat.le_of_ble_eq_true rfl⟩) (by decide) rfl rfl rfl hl.1 rfl (Nat.le_of_ble_eq_true rfl) dL_law_570 ⟨hcl, hsl⟩) (fun r8 h3 H locs hp w => ?_)
  obtain ⟨er8, eh3⟩ := hp
  rw [eh3] at w
  rw [er8, s1]
  refine lv_iload hx hb dL_law_573 (lv_at hl 1 rfl) ?_
  refine lv_icmp_eq (tgt := 580) hx hb dL_law_575 (by decide) (fun c_575 => ?_) (fun c_575 => ?_)
  · refine lv_iload hx hb dL_law_580 (lv_at hl 1 rfl) ?_
    refine lv_if_ne (tgt := 596) hx hb dL_law_582 (by decide) (fun c_582 => ?_) (fun c_582 => ?_)
    · refine lv_goto (tgt := 1875) hx hb dL_law_596 (by decide) ?_
      exact hK _ _ _ _ a' b' I' w (lv_sub hl [2, 3, 4, 5, 6, 7] rfl)
    · refine lv_aload_n hx hb dL_law_585 rfl (lv_at hl 5 rfl) ?_
      refine lv_iconst (v := nI 0) hx hb dL_law_586 (by decide) ?_
      refine q_lald X w 95 0 (by decide) (fun _ => rfl) rfl (show 0 < 1 by decide) (by decide) dL_law_587 ?_
      refine lv_lload hx hb dL_law_588 (lv_at hl 0 rfl) ?_
      refine q_lif_eq X (tgt := 596) dL_law_590 dL_law_591 (by decide) (fun c_590 => ?_) (fun c_590 => ?_)
      · refine lv_goto (tgt := 1875) hx hb dL_law_596 (by decide) ?_
        exact hK _ _ _ _ a' b' I' w (lv_sub hl [2, 3, 4, 5, 6, 7] rfl)
      · exact absurd (s2 c_582) c_590
  · exact absurd rfl c_575

set_option maxHeartbeats 4000000 in
set_option maxRecDepth 100000 in
theorem lc_repair (hst : l.stackTraces = false) (X : CallFix p m c cL_law 9 s #[.ref b0] wsL_law RL) (w : WX k s H locs h) (I : IAB n h a b) (hn : n < 512) (hX : va_X b0 L xs s s.heap) (hbl : b0 < s.heap.size) (hbA : ¬ AA k s.heap.size b0) (hL : L ≤ 2048) (hi : i + 4 ≤ L) (hcl : cl + 5 ≤ 601024) (hsl : sl + 30 ≤ 7293034) (hl : lv_has ls 9 [(0, .ref b0), (1, .ref (k.2.1 0)), (2, .ref (k.2.1 91)), (3, .ref (k.2.1 95)), (4, .ref (k.2.1 96)), (5, .int (nI i))]) (hK : ∀ (H : Heap) (locs : List Loc) (ls : Array Slot) (g : hS) (a b : Nat), IAB (n + 1) g a b → WX k s H locs g → lv_has ls 9 [(0, .ref b0), (1, .ref (k.2.1 0)), (2, .ref (k.2.1 91)), (3, .ref (k.2.1 95)), (4, .ref (k.2.1 96)), (5, .int (nI i))] → W p l e room_1 s m #[.ref b0] below meth c H locs (cl + 5) (sl + 30) Q (F0 m 1875 ls [])) : W p l e room_1 s m #[.ref b0] below meth c H locs cl sl Q (F0 m 599 ls []) := by
  have hx := X.1
  have hb := X.2.1
  have hown := X.2.2.2.1
  have hts := X.2.2.2.2
  refine lv_aload_n hx hb dL_law_599 rfl (lv_at hl 1 rfl) ?_
  refine lv_aload_n hx hb dL_law_600 rfl (lv_at hl 0 rfl) ?_
  refine lv_iload hx hb dL_law_601 (lv_at hl 5 rfl) ?_
  refine lv_iconst (v := nI 1) hx hb dL_law_603 (by decide) ?_
  refine q_iaddN X dL_law_604 ?_
  refine q_sld X w hX hbl hbA hL (j := (i + 1)) (by omega) dL_law_605 ?_
  refine lv_aload_n hx hb dL_law_606 rfl (lv_at hl 3 rfl) ?_
  refine q_calli w (q_runSW X w (w_L_repair l k h (xs (i + 1)) (c_X4_repair l k h hst (xs (i + 1)) I.SI) (fun _ _ hp => hp.1)) (vx_cwSW 3 hts gL_law_L_repair rfl rfl rfl (by decide +kernel) ⟨Nat.le_of_ble_eq_true rfl, Nat.le_of_ble_eq_true rfl⟩) rfl hl.1 rfl (Nat.le_of_ble_eq_true rfl) dL_law_607 ⟨hcl, hsl⟩) (fun r9 h1 H locs hw w => ?_)
  have km := k_repair I hw
  refine lv_istore (lv' := [(6, .int r9), (0, .ref b0), (1, .ref (k.2.1 0)), (2, .ref (k.2.1 91)), (3, .ref (k.2.1 95)), (4, .ref (k.2.1 96)), (5, .int (nI i))]) hx hb dL_law_610 hl (by decide) rfl (fun ls hl => ?_)
  refine lv_aload_n hx hb dL_law_612 rfl (lv_at hl 3 rfl) ?_
  refine lv_aload_n hx hb dL_law_613 rfl (lv_at hl 1 rfl) ?_
  refine lv_iload hx hb dL_law_614 (lv_at hl 6 rfl) ?_
  refine lv_iconst (v := nI 1) hx hb dL_law_616 (by decide) ?_
  refine q_iaddN X dL_law_617 ?_
  refine q_sld X w hX hbl hbA hL (j := (i + 1)) (by omega) dL_law_618 ?_
  refine q_calli w (q_runV X w 91 (c_X5_repair l k h1 (xs (i + 1)) (b := b) km.2 I.1.2 (F := 193) (P2 := fun q => (mrp q 193 (h.2.1 92) 0).getD (h.2.1 92, 0)) (by rw [km.1]; exact I.fr)) (cwV 1 hts gL_law_X5_repair rfl rfl rfl (by decide +kernel) ⟨Nat.le_of_ble_eq_true rfl, Nat.le_of_ble_eq_true rfl⟩) (by decide) rfl rfl rfl hl.1 rfl (Nat.le_of_ble_eq_true rfl) dL_law_619 ⟨hcl, hsl⟩) (fun v9 h2 H locs hm w => ?_)
  obtain ⟨s1, s2, a', b', I'⟩ := s_repair I hn hw I.fr hm
  refine lv_istore (lv' := [(7, .int v9), (6, .int r9), (0, .ref b0), (1, .ref (k.2.1 0)), (2, .ref (k.2.1 91)), (3, .ref (k.2.1 95)), (4, .ref (k.2.1 96)), (5, .int (nI i))]) hx hb dL_law_622 hl (by decide) rfl (fun ls hl => ?_)
  refine lv_aload_n hx hb dL_law_624 rfl (lv_at hl 4 rfl) ?_
  refine q_calli w (q_runV X w 91 (c_X5_thrown l k h2) (cwV 0 hts gL_law_X5_thrown rfl rfl rfl (by decide +kernel) ⟨Nat.le_of_ble_eq_true rfl, Nat.le_of_ble_eq_true rfl⟩) (by decide) rfl rfl rfl hl.1 rfl (Nat.le_of_ble_eq_true rfl) dL_law_625 ⟨hcl, hsl⟩) (fun r8 h3 H locs hp w => ?_)
  obtain ⟨er8, eh3⟩ := hp
  rw [eh3] at w
  rw [er8, s1]
  refine lv_iload hx hb dL_law_628 (lv_at hl 1 rfl) ?_
  refine lv_icmp_eq (tgt := 635) hx hb dL_law_630 (by decide) (fun c_630 => ?_) (fun c_630 => ?_)
  · refine lv_iload hx hb dL_law_635 (lv_at hl 1 rfl) ?_
    refine lv_if_ne (tgt := 652) hx hb dL_law_637 (by decide) (fun c_637 => ?_) (fun c_637 => ?_)
    · refine lv_goto (tgt := 1875) hx hb dL_law_652 (by decide) ?_
      exact hK _ _ _ _ a' b' I' w (lv_sub hl [2, 3, 4, 5, 6, 7] rfl)
    · refine lv_aload_n hx hb dL_law_640 rfl (lv_at hl 5 rfl) ?_
      refine lv_iconst (v := nI 0) hx hb dL_law_641 (by decide) ?_
      refine q_lald X w 95 0 (by decide) (fun _ => rfl) rfl (show 0 < 1 by decide) (by decide) dL_law_642 ?_
      refine lv_iload hx hb dL_law_643 (lv_at hl 0 rfl) ?_
      refine lv_i2l hx hb dL_law_645 rfl ?_
      refine q_lif_eq X (tgt := 652) dL_law_646 dL_law_647 (by decide) (fun c_646 => ?_) (fun c_646 => ?_)
      · refine lv_goto (tgt := 1875) hx hb dL_law_652 (by decide) ?_
        exact hK _ _ _ _ a' b' I' w (lv_sub hl [2, 3, 4, 5, 6, 7] rfl)
      · exact absurd (s2 c_637) c_646
  · exact absurd rfl c_630

set_option maxHeartbeats 4000000 in
set_option maxRecDepth 100000 in
theorem lc_balance (hst : l.stackTraces = false) (X : CallFix p m c cL_law 9 s #[.ref b0] wsL_law RL) (w : WX k s H locs h) (I : IAB n h a b) (hn : n < 512) (hX : va_X b0 L xs s s.heap) (hbl : b0 < s.heap.size) (hbA : ¬ AA k s.heap.size b0) (hL : L ≤ 2048) (hi : i + 4 ≤ L) (hcl : cl + 5 ≤ 601024) (hsl : sl + 30 ≤ 7293034) (hl : lv_has ls 9 [(0, .ref b0), (1, .ref (k.2.1 0)), (2, .ref (k.2.1 91)), (3, .ref (k.2.1 95)), (4, .ref (k.2.1 96)), (5, .int (nI i))]) (hK : ∀ (H : Heap) (locs : List Loc) (ls : Array Slot) (g : hS) (a b : Nat), IAB (n + 1) g a b → WX k s H locs g → lv_has ls 9 [(0, .ref b0), (1, .ref (k.2.1 0)), (2, .ref (k.2.1 91)), (3, .ref (k.2.1 95)), (4, .ref (k.2.1 96)), (5, .int (nI i))] → W p l e room_1 s m #[.ref b0] below meth c H locs (cl + 5) (sl + 30) Q (F0 m 1875 ls [])) : W p l e room_1 s m #[.ref b0] below meth c H locs cl sl Q (F0 m 655 ls []) := by
  have hx := X.1
  have hb := X.2.1
  have hown := X.2.2.2.1
  have hts := X.2.2.2.2
  refine lv_aload_n hx hb dL_law_655 rfl (lv_at hl 1 rfl) ?_
  refine lv_aload_n hx hb dL_law_656 rfl (lv_at hl 0 rfl) ?_
  refine lv_iload hx hb dL_law_657 (lv_at hl 5 rfl) ?_
  refine lv_iconst (v := nI 1) hx hb dL_law_659 (by decide) ?_
  refine q_iaddN X dL_law_660 ?_
  refine q_sld X w hX hbl hbA hL (j := (i + 1)) (by omega) dL_law_661 ?_
  refine lv_aload_n hx hb dL_law_662 rfl (lv_at hl 3 rfl) ?_
  refine q_calli w (q_runSW X w (w_L_balance l k h (xs (i + 1)) (c_X4_balance l k h hst (xs (i + 1)) I.SI) (fun _ _ hp => hp.2.1)) (vx_cwSW 3 hts gL_law_L_balance rfl rfl rfl (by decide +kernel) ⟨Nat.le_of_ble_eq_true rfl, Nat.le_of_ble_eq_true rfl⟩) rfl hl.1 rfl (Nat.le_of_ble_eq_true rfl) dL_law_663 ⟨hcl, hsl⟩) (fun r9 h1 H locs hw w => ?_)
  have km := k_balance I hw
  refine lv_istore (lv' := [(6, .int r9), (0, .ref b0), (1, .ref (k.2.1 0)), (2, .ref (k.2.1 91)), (3, .ref (k.2.1 95)), (4, .ref (k.2.1 96)), (5, .int (nI i))]) hx hb dL_law_666 hl (by decide) rfl (fun ls hl => ?_)
  refine lv_aload_n hx hb dL_law_668 rfl (lv_at hl 3 rfl) ?_
  refine lv_aload_n hx hb dL_law_669 rfl (lv_at hl 1 rfl) ?_
  refine lv_iload hx hb dL_law_670 (lv_at hl 6 rfl) ?_
  refine lv_iconst (v := nI 1) hx hb dL_law_672 (by decide) ?_
  refine q_iaddN X dL_law_673 ?_
  refine q_sld X w hX hbl hbA hL (j := (i + 1)) (by omega) dL_law_674 ?_
  refine q_calli w (q_runV X w 91 (c_X5_balance l k h1 (xs (i + 1)) (b := b) km.2 I.1.2 (F := 193) (V := fun m => (mbl 193 m (h.2.1 92) (pfz (mnow (h.2.1 92)) (h1.2.1 94) 64) 0).getD (0, h.2.1 92, h1.2.1 94)) (by rw [km.1]; exact I.fb _)) (cwV 1 hts gL_law_X5_balance rfl rfl rfl (by decide +kernel) ⟨Nat.le_of_ble_eq_true rfl, Nat.le_of_ble_eq_true rfl⟩) (by decide) rfl rfl rfl hl.1 rfl (Nat.le_of_ble_eq_true rfl) dL_law_675 ⟨hcl, hsl⟩) (fun v9 h2 H locs hm w => ?_)
  obtain ⟨s1, s2, a', b', I'⟩ := s_balance I hn hw (I.fb _) hm
  refine lv_istore (lv' := [(7, .int v9), (6, .int r9), (0, .ref b0), (1, .ref (k.2.1 0)), (2, .ref (k.2.1 91)), (3, .ref (k.2.1 95)), (4, .ref (k.2.1 96)), (5, .int (nI i))]) hx hb dL_law_678 hl (by decide) rfl (fun ls hl => ?_)
  refine lv_aload_n hx hb dL_law_680 rfl (lv_at hl 4 rfl) ?_
  refine q_calli w (q_runV X w 91 (c_X5_thrown l k h2) (cwV 0 hts gL_law_X5_thrown rfl rfl rfl (by decide +kernel) ⟨Nat.le_of_ble_eq_true rfl, Nat.le_of_ble_eq_true rfl⟩) (by decide) rfl rfl rfl hl.1 rfl (Nat.le_of_ble_eq_true rfl) dL_law_681 ⟨hcl, hsl⟩) (fun r8 h3 H locs hp w => ?_)
  obtain ⟨er8, eh3⟩ := hp
  rw [eh3] at w
  rw [er8, s1]
  refine lv_iload hx hb dL_law_684 (lv_at hl 1 rfl) ?_
  refine lv_icmp_eq (tgt := 691) hx hb dL_law_686 (by decide) (fun c_686 => ?_) (fun c_686 => ?_)
  · refine lv_iload hx hb dL_law_691 (lv_at hl 1 rfl) ?_
    refine lv_if_ne (tgt := 708) hx hb dL_law_693 (by decide) (fun c_693 => ?_) (fun c_693 => ?_)
    · refine lv_goto (tgt := 1875) hx hb dL_law_708 (by decide) ?_
      exact hK _ _ _ _ a' b' I' w (lv_sub hl [2, 3, 4, 5, 6, 7] rfl)
    · refine lv_aload_n hx hb dL_law_696 rfl (lv_at hl 5 rfl) ?_
      refine lv_iconst (v := nI 0) hx hb dL_law_697 (by decide) ?_
      refine q_lald X w 95 0 (by decide) (fun _ => rfl) rfl (show 0 < 1 by decide) (by decide) dL_law_698 ?_
      refine lv_iload hx hb dL_law_699 (lv_at hl 0 rfl) ?_
      refine lv_i2l hx hb dL_law_701 rfl ?_
      refine q_lif_eq X (tgt := 708) dL_law_702 dL_law_703 (by decide) (fun c_702 => ?_) (fun c_702 => ?_)
      · refine lv_goto (tgt := 1875) hx hb dL_law_708 (by decide) ?_
        exact hK _ _ _ _ a' b' I' w (lv_sub hl [2, 3, 4, 5, 6, 7] rfl)
      · exact absurd (s2 c_693) c_702
  · exact absurd rfl c_686

set_option maxHeartbeats 4000000 in
set_option maxRecDepth 100000 in
theorem lc_bits (hst : l.stackTraces = false) (X : CallFix p m c cL_law 9 s #[.ref b0] wsL_law RL) (w : WX k s H locs h) (I : IAB n h a b) (hn : n < 512) (hX : va_X b0 L xs s s.heap) (hbl : b0 < s.heap.size) (hbA : ¬ AA k s.heap.size b0) (hL : L ≤ 2048) (hi : i + 4 ≤ L) (hcl : cl + 5 ≤ 601024) (hsl : sl + 30 ≤ 7293034) (hl : lv_has ls 9 [(0, .ref b0), (1, .ref (k.2.1 0)), (2, .ref (k.2.1 91)), (3, .ref (k.2.1 95)), (4, .ref (k.2.1 96)), (5, .int (nI i))]) (hK : ∀ (H : Heap) (locs : List Loc) (ls : Array Slot) (g : hS) (a b : Nat), IAB (n + 1) g a b → WX k s H locs g → lv_has ls 9 [(0, .ref b0), (1, .ref (k.2.1 0)), (2, .ref (k.2.1 91)), (3, .ref (k.2.1 95)), (4, .ref (k.2.1 96)), (5, .int (nI i))] → W p l e room_1 s m #[.ref b0] below meth c H locs (cl + 5) (sl + 30) Q (F0 m 1875 ls [])) : W p l e room_1 s m #[.ref b0] below meth c H locs cl sl Q (F0 m 711 ls []) := by
  have hx := X.1
  have hb := X.2.1
  have hown := X.2.2.2.1
  have hts := X.2.2.2.2
  refine lv_aload_n hx hb dL_law_711 rfl (lv_at hl 1 rfl) ?_
  refine lv_aload_n hx hb dL_law_712 rfl (lv_at hl 0 rfl) ?_
  refine lv_iload hx hb dL_law_713 (lv_at hl 5 rfl) ?_
  refine lv_iconst (v := nI 1) hx hb dL_law_715 (by decide) ?_
  refine q_iaddN X dL_law_716 ?_
  refine q_sld X w hX hbl hbA hL (j := (i + 1)) (by omega) dL_law_717 ?_
  refine lv_aload_n hx hb dL_law_718 rfl (lv_at hl 0 rfl) ?_
  refine lv_iload hx hb dL_law_719 (lv_at hl 5 rfl) ?_
  refine lv_iconst (v := nI 2) hx hb dL_law_721 (by decide) ?_
  refine q_iaddN X dL_law_722 ?_
  refine q_sld X w hX hbl hbA hL (j := (i + 2)) (by omega) dL_law_723 ?_
  refine lv_aload_n hx hb dL_law_724 rfl (lv_at hl 0 rfl) ?_
  refine lv_iload hx hb dL_law_725 (lv_at hl 5 rfl) ?_
  refine lv_iconst (v := nI 3) hx hb dL_law_727 (by decide) ?_
  refine q_iaddN X dL_law_728 ?_
  refine q_sld X w hX hbl hbA hL (j := (i + 3)) (by omega) dL_law_729 ?_
  refine lv_aload_n hx hb dL_law_730 rfl (lv_at hl 3 rfl) ?_
  refine q_calli w (q_runSW X w (w_L_bits l k h (xs (i + 1)) (xs (i + 2)) (xs (i + 3)) (c_X4_bits l k h hst (xs (i + 1)) (xs (i + 2)) (xs (i + 3))) (fun _ _ hp => hp.2.elim (fun z9 => Or.inl z9.1) (fun z9 => Or.inr z9.1))) (vx_cwSW 5 hts gL_law_L_bits rfl rfl rfl (by decide +kernel) ⟨Nat.le_of_ble_eq_true rfl, Nat.le_of_ble_eq_true rfl⟩) rfl hl.1 rfl (Nat.le_of_ble_eq_true rfl) dL_law_731 ⟨hcl, hsl⟩) (fun r9 h1 H locs hw w => ?_)
  have km := k_bits I hw
  refine lv_istore (lv' := [(6, .int r9), (0, .ref b0), (1, .ref (k.2.1 0)), (2, .ref (k.2.1 91)), (3, .ref (k.2.1 95)), (4, .ref (k.2.1 96)), (5, .int (nI i))]) hx hb dL_law_734 hl (by decide) rfl (fun ls hl => ?_)
  refine lv_aload_n hx hb dL_law_736 rfl (lv_at hl 3 rfl) ?_
  refine lv_aload_n hx hb dL_law_737 rfl (lv_at hl 1 rfl) ?_
  refine lv_iload hx hb dL_law_738 (lv_at hl 6 rfl) ?_
  refine lv_iconst (v := nI 1) hx hb dL_law_740 (by decide) ?_
  refine q_iaddN X dL_law_741 ?_
  refine q_sld X w hX hbl hbA hL (j := (i + 1)) (by omega) dL_law_742 ?_
  refine lv_aload_n hx hb dL_law_743 rfl (lv_at hl 1 rfl) ?_
  refine lv_iload hx hb dL_law_744 (lv_at hl 6 rfl) ?_
  refine lv_iconst (v := nI 2) hx hb dL_law_746 (by decide) ?_
  refine q_iaddN X dL_law_747 ?_
  refine q_sld X w hX hbl hbA hL (j := (i + 2)) (by omega) dL_law_748 ?_
  refine lv_aload_n hx hb dL_law_749 rfl (lv_at hl 1 rfl) ?_
  refine lv_iload hx hb dL_law_750 (lv_at hl 6 rfl) ?_
  refine lv_iconst (v := nI 3) hx hb dL_law_752 (by decide) ?_
  refine q_iaddN X dL_law_753 ?_
  refine q_sld X w hX hbl hbA hL (j := (i + 3)) (by omega) dL_law_754 ?_
  refine q_calli w (q_runV X w 91 (c_X5_bits l k h1 (xs (i + 1)) (xs (i + 2)) (xs (i + 3))) (cwV 3 hts gL_law_X5_bits rfl rfl rfl (by decide +kernel) ⟨Nat.le_of_ble_eq_true rfl, Nat.le_of_ble_eq_true rfl⟩) (by decide) rfl rfl rfl hl.1 rfl (Nat.le_of_ble_eq_true rfl) dL_law_755 ⟨hcl, hsl⟩) (fun v9 h2 H locs hm w => ?_)
  obtain ⟨s1, s2, a', b', I'⟩ := s_bits I hn hw hm
  refine lv_istore (lv' := [(7, .int v9), (6, .int r9), (0, .ref b0), (1, .ref (k.2.1 0)), (2, .ref (k.2.1 91)), (3, .ref (k.2.1 95)), (4, .ref (k.2.1 96)), (5, .int (nI i))]) hx hb dL_law_758 hl (by decide) rfl (fun ls hl => ?_)
  refine lv_aload_n hx hb dL_law_760 rfl (lv_at hl 4 rfl) ?_
  refine q_calli w (q_runV X w 91 (c_X5_thrown l k h2) (cwV 0 hts gL_law_X5_thrown rfl rfl rfl (by decide +kernel) ⟨Nat.le_of_ble_eq_true rfl, Nat.le_of_ble_eq_true rfl⟩) (by decide) rfl rfl rfl hl.1 rfl (Nat.le_of_ble_eq_true rfl) dL_law_761 ⟨hcl, hsl⟩) (fun r8 h3 H locs hp w => ?_)
  obtain ⟨er8, eh3⟩ := hp
  rw [eh3] at w
  rw [er8, s1]
  refine lv_iload hx hb dL_law_764 (lv_at hl 1 rfl) ?_
  refine lv_icmp_eq (tgt := 771) hx hb dL_law_766 (by decide) (fun c_766 => ?_) (fun c_766 => ?_)
  · refine lv_iload hx hb dL_law_771 (lv_at hl 1 rfl) ?_
    refine lv_if_ne (tgt := 788) hx hb dL_law_773 (by decide) (fun c_773 => ?_) (fun c_773 => ?_)
    · refine lv_goto (tgt := 1875) hx hb dL_law_788 (by decide) ?_
      exact hK _ _ _ _ a' b' I' w (lv_sub hl [2, 3, 4, 5, 6, 7] rfl)
    · refine lv_aload_n hx hb dL_law_776 rfl (lv_at hl 5 rfl) ?_
      refine lv_iconst (v := nI 0) hx hb dL_law_777 (by decide) ?_
      refine q_lald X w 95 0 (by decide) (fun _ => rfl) rfl (show 0 < 1 by decide) (by decide) dL_law_778 ?_
      refine lv_iload hx hb dL_law_779 (lv_at hl 0 rfl) ?_
      refine lv_i2l hx hb dL_law_781 rfl ?_
      refine q_lif_eq X (tgt := 788) dL_law_782 dL_law_783 (by decide) (fun c_782 => ?_) (fun c_782 => ?_)
      · refine lv_goto (tgt := 1875) hx hb dL_law_788 (by decide) ?_
        exact hK _ _ _ _ a' b' I' w (lv_sub hl [2, 3, 4, 5, 6, 7] rfl)
      · exact absurd (s2 c_773) c_782
  · exact absurd rfl c_766

end LC
