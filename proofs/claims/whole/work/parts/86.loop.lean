/-! THE LAW'S LOOP -/
section LL
variable {p : Program} {l : Launch} {e : Env} {s : State} {m : MethodId} {below : List Frame} {meth : Method} {c : Code} {H : Heap} {locs : List Loc} {Q : State → Prop} {k : kY} {h : hS} {ls : Array Slot} {b0 L i : Nat} {xs : Nat → Int32}
set_option maxHeartbeats 4000000 in
set_option maxRecDepth 100000 in
theorem law_loop (hst : l.stackTraces = false) (X : CallFix p m c cL_law 9 s #[.ref b0] wsL_law RL) (hX : va_X b0 L xs s s.heap) (hbl : b0 < s.heap.size) (hbA : ¬ AA k s.heap.size b0) (hL : L ≤ 2048) {c0 s0 : Nat} (hc0 : c0 + 2565 ≤ 601024) (hs0 : s0 + 15390 ≤ 7293034)
    (hE : ∀ (H : Heap) (locs : List Loc) (ls : Array Slot) (cl sl : Nat), cl ≤ 601024 → sl ≤ 7293034 → va_S (AA k s.heap.size) s.heap H locs → W p l e room_1 s m #[.ref b0] below meth c H locs cl sl Q (F0 m 1882 ls [.int (nI 1)])) :
    ∀ (fu n : Nat), 4 * n ≤ L → L < 4 * (n + fu) → ∀ (H : Heap) (locs : List Loc) (ls : Array Slot) (g : hS) (a b : Nat), IAB n g a b → WX k s H locs g → lv_has ls 9 [(0, .ref b0), (1, .ref (k.2.1 0)), (2, .ref (k.2.1 91)), (3, .ref (k.2.1 95)), (4, .ref (k.2.1 96)), (5, .int (nI (4 * n)))] → W p l e room_1 s m #[.ref b0] below meth c H locs (c0 + 5 * n) (s0 + 30 * n) Q (F0 m 28 ls []) := by
  intro fu
  induction fu with
  | zero => intro n h1 h2; omega
  | succ fu ih =>
    intro n h1 h2 H locs ls g a b I w hl
    have hx := X.1
    have hb := X.2.1
    have hn9 : n < 513 := by omega
    refine lv_iload hx hb dL_law_28 (lv_at hl 5 rfl) ?_
    refine lv_aload_n hx hb dL_law_30 rfl (lv_at hl 0 rfl) ?_
    refine va_slen hx hb hX hbl hbA w.2.2.2.1 dL_law_31 ?_
    refine lv_iconst (v := nI 4) hx hb dL_law_32 (by decide) ?_
    refine lv_isub hx hb dL_law_33 ?_
    refine lv_icmp_gt (tgt := 1881) hx hb dL_law_34 (by decide) (fun c_34 => ?_) (fun c_34 => ?_)
    · refine lv_iconst (v := nI 1) hx hb dL_law_1881 (by decide) ?_
      exact hE _ _ _ _ _ (by omega) (by omega) w.2.2.2.1
    · have hi : 4 * n + 4 ≤ L := by
        have e4 : (nI 4).toInt = 4 := rfl
        rw [Int32.lt_iff_toInt_lt, Int32.toInt_sub, e4, nI_toInt (by omega), show (Int32.ofNat L).toInt = (L : Int) from nI_toInt (n := L) (by omega), bm32 (by omega) (by omega)] at c_34
        omega
      have hK : ∀ (H : Heap) (locs : List Loc) (ls : Array Slot) (g : hS) (a b : Nat), IAB (n + 1) g a b → WX k s H locs g → lv_has ls 9 [(0, .ref b0), (1, .ref (k.2.1 0)), (2, .ref (k.2.1 91)), (3, .ref (k.2.1 95)), (4, .ref (k.2.1 96)), (5, .int (nI (4 * n)))] → W p l e room_1 s m #[.ref b0] below meth c H locs (c0 + 5 * n + 5) (s0 + 30 * n + 30) Q (F0 m 1875 ls []) := by
        intro H locs ls g a b I w hl
        refine lv_iinc (v := nI (4 * (n + 1))) (lv' := [(5, .int (nI (4 * (n + 1)))), (0, .ref b0), (1, .ref (k.2.1 0)), (2, .ref (k.2.1 91)), (3, .ref (k.2.1 95)), (4, .ref (k.2.1 96))]) hx hb dL_law_1875 hl (k := 5) rfl (nI_add (4 * n) 4) (by decide) rfl (fun ls hl => ?_)
        refine lv_goto (tgt := 28) hx hb dL_law_1878 (by decide) ?_
        have z := ih (n + 1) (by omega) (by omega) H locs ls g a b I w (lv_sub hl [1, 2, 3, 4, 5, 0] rfl)
        rw [show c0 + 5 * (n + 1) = c0 + 5 * n + 5 by omega, show s0 + 30 * (n + 1) = s0 + 30 * n + 30 by omega] at z
        exact z
      have hcl : c0 + 5 * n + 5 ≤ 601024 := by omega
      have hsl : s0 + 30 * n + 30 ≤ 7293034 := by omega
      have hn : n < 512 := by omega
      refine lv_aload_n hx hb dL_law_37 rfl (lv_at hl 0 rfl) ?_
      refine lv_iload hx hb dL_law_38 (lv_at hl 5 rfl) ?_
      refine q_sld X w hX hbl hbA hL (j := 4 * n) (by omega) dL_law_40 ?_
      refine lv_bipush (v := nI 31) hx hb dL_law_41 (by decide) ?_
      refine lv_iand hx hb dL_law_43 ?_
      obtain ⟨t, ht, et⟩ := and31 (xs (4 * n))
      rw [et]
      by_cases h26 : t < 27
      · rcases (by omega : t = 0 ∨ t = 1 ∨ t = 2 ∨ t = 3 ∨ t = 4 ∨ t = 5 ∨ t = 6 ∨ t = 7 ∨ t = 8 ∨ t = 9 ∨ t = 10 ∨ t = 11 ∨ t = 12 ∨ t = 13 ∨ t = 14 ∨ t = 15 ∨ t = 16 ∨ t = 17 ∨ t = 18 ∨ t = 19 ∨ t = 20 ∨ t = 21 ∨ t = 22 ∨ t = 23 ∨ t = 24 ∨ t = 25 ∨ t = 26) with rfl | rfl | rfl | rfl | rfl | rfl | rfl | rfl | rfl | rfl | rfl | rfl | rfl | rfl | rfl | rfl | rfl | rfl | rfl | rfl | rfl | rfl | rfl | rfl | rfl | rfl | rfl
        · exact lv_tableIn (off := 124) (tgt := 168) hx hb dL_law_44 (by decide) (by decide) (by decide +kernel) (by decide) (lc_setNoise hst X w I hn hX hbl hbA hL hi hcl hsl hl hK)
        · exact lv_tableIn (off := 204) (tgt := 248) hx hb dL_law_44 (by decide) (by decide) (by decide +kernel) (by decide) (lc_setCoupling hst X w I hn hX hbl hbA hL hi hcl hsl hl hK)
        · exact lv_tableIn (off := 284) (tgt := 328) hx hb dL_law_44 (by decide) (by decide) (by decide +kernel) (by decide) (lc_setLimit hst X w I hn hX hbl hbA hL hi hcl hsl hl hK)
        · exact lv_tableIn (off := 364) (tgt := 408) hx hb dL_law_44 (by decide) (by decide) (by decide +kernel) (by decide) (lc_setBudget hst X w I hn hX hbl hbA hL hi hcl hsl hl hK)
        · exact lv_tableIn (off := 432) (tgt := 476) hx hb dL_law_44 (by decide) (by decide) (by decide +kernel) (by decide) (lc_loadRate hst X w I hn hX hbl hbA hL hi hcl hsl hl hK)
        · exact lv_tableIn (off := 488) (tgt := 532) hx hb dL_law_44 (by decide) (by decide) (by decide +kernel) (by decide) (lc_loadBits hst X w I hn hX hbl hbA hL hi hcl hsl hl hK)
        · exact lv_tableIn (off := 555) (tgt := 599) hx hb dL_law_44 (by decide) (by decide) (by decide +kernel) (by decide) (lc_repair hst X w I hn hX hbl hbA hL hi hcl hsl hl hK)
        · exact lv_tableIn (off := 611) (tgt := 655) hx hb dL_law_44 (by decide) (by decide) (by decide +kernel) (by decide) (lc_balance hst X w I hn hX hbl hbA hL hi hcl hsl hl hK)
        · exact lv_tableIn (off := 667) (tgt := 711) hx hb dL_law_44 (by decide) (by decide) (by decide +kernel) (by decide) (lc_bits hst X w I hn hX hbl hbA hL hi hcl hsl hl hK)
        · exact lv_tableIn (off := 747) (tgt := 791) hx hb dL_law_44 (by decide) (by decide) (by decide +kernel) (by decide) (lc_rate hst X w I hn hX hbl hbA hL hi hcl hsl hl hK)
        · exact lv_tableIn (off := 803) (tgt := 847) hx hb dL_law_44 (by decide) (by decide) (by decide +kernel) (by decide) (lc_energy hst X w I hn hX hbl hbA hL hi hcl hsl hl hK)
        · exact lv_tableIn (off := 870) (tgt := 914) hx hb dL_law_44 (by decide) (by decide) (by decide +kernel) (by decide) (lc_totalEnergy hst X w I hn hX hbl hbA hL hi hcl hsl hl hK)
        · exact lv_tableIn (off := 925) (tgt := 969) hx hb dL_law_44 (by decide) (by decide) (by decide +kernel) (by decide) (lc_disturbedNoise hst X w I hn hX hbl hbA hL hi hcl hsl hl hK)
        · exact lv_tableIn (off := 992) (tgt := 1036) hx hb dL_law_44 (by decide) (by decide) (by decide +kernel) (by decide) (lc_margin hst X w I hn hX hbl hbA hL hi hcl hsl hl hK)
        · exact lv_tableIn (off := 1059) (tgt := 1103) hx hb dL_law_44 (by decide) (by decide) (by decide +kernel) (by decide) (lc_leastMargin hst X w I hn hX hbl hbA hL hi hcl hsl hl hK)
        · exact lv_tableIn (off := 1114) (tgt := 1158) hx hb dL_law_44 (by decide) (by decide) (by decide +kernel) (by decide) (lc_badTones hst X w I hn hX hbl hbA hL hi hcl hsl hl hK)
        · exact lv_tableIn (off := 1170) (tgt := 1214) hx hb dL_law_44 (by decide) (by decide) (by decide +kernel) (by decide) (lc_isEfficient hst X w I hn hX hbl hbA hL hi hcl hsl hl hK)
        · exact lv_tableIn (off := 1233) (tgt := 1277) hx hb dL_law_44 (by decide) (by decide) (by decide +kernel) (by decide) (lc_meanBits hst X w I hn hX hbl hbA hL hi hcl hsl hl hK)
        · exact lv_tableIn (off := 1310) (tgt := 1354) hx hb dL_law_44 (by decide) (by decide) (by decide +kernel) (by decide) (lc_request hst X w I hn hX hbl hbA hL hi hcl hsl hl hK)
        · exact lv_tableIn (off := 1390) (tgt := 1434) hx hb dL_law_44 (by decide) (by decide) (by decide +kernel) (by decide) (lc_suggest hst X w I hn hX hbl hbA hL hi hcl hsl hl hK)
        · exact lv_tableIn (off := 1446) (tgt := 1490) hx hb dL_law_44 (by decide) (by decide) (by decide +kernel) (by decide) (lc_resend hst X w I hn hX hbl hbA hL hi hcl hsl hl hK)
        · exact lv_tableIn (off := 1502) (tgt := 1546) hx hb dL_law_44 (by decide) (by decide) (by decide +kernel) (by decide) (lc_deliver hst X w I hn hX hbl hbA hL hi hcl hsl hl hK)
        · exact lv_tableIn (off := 1598) (tgt := 1642) hx hb dL_law_44 (by decide) (by decide) (by decide +kernel) (by decide) (lc_run hst X w I hn hX hbl hbA hL hi hcl hsl hl hK)
        · exact lv_tableIn (off := 1654) (tgt := 1698) hx hb dL_law_44 (by decide) (by decide) (by decide +kernel) (by decide) (lc_inStep hst X w I hn hX hbl hbA hL hi hcl hsl hl hK)
        · exact lv_tableIn (off := 1717) (tgt := 1761) hx hb dL_law_44 (by decide) (by decide) (by decide +kernel) (by decide) (lc_brokenFrames hst X w I hn hX hbl hbA hL hi hcl hsl hl hK)
        · exact lv_tableIn (off := 1773) (tgt := 1817) hx hb dL_law_44 (by decide) (by decide) (by decide +kernel) (by decide) (lc_undo hst X w I hn hX hbl hbA hL hi hcl hsl hl hK)
        · exact lv_tableIn (off := 1817) (tgt := 1861) hx hb dL_law_44 (by decide) (by decide) (by decide +kernel) (by decide) (lc_digest hst X w I hn hX hbl hbA hL hi hcl hsl hl hK)
      · refine lv_tableOut (tgt := 1875) hx hb dL_law_44 (Or.inr (by rw [nI_toInt (by omega)]; omega)) (by decide) ?_
        refine W.widen (k := c0 + 5 * n + 5) (n := s0 + 30 * n + 30) (by omega) (by omega) ?_
        exact hK _ _ _ g a b (I.keep (by omega) (AG.rf g)) w hl
end LL
