/-! THE START: what the tables and the Statement give, and the walk to the loop -/
theorem st_str {s : State} {b n : Nat} {tx : String} (h1 : (Cond.stringRef RX4 n tx).before #[Value.ref b] s = true) (h2 : (Cond.exactly (Term.string RX4 n) "java/lang/String").before #[Value.ref b] s = true) : ∃ sa : Nat, vk_R RX4 n tx sa s := by
  obtain ⟨a, c, cell, k, h, -⟩ := Cond.exactly_spec h2
  exact ⟨a, vk_R.of h1 h⟩
set_option maxHeartbeats 4000000 in
set_option maxRecDepth 100000 in
theorem start_EV {s : State} {b : Nat} (ht : ∀ w ∈ tables_1, w.before #[Value.ref b] s = true) (hgv : (Jvm.Cond.and given_1 narrow_1).before #[Value.ref b] s = true) : ∀ A : Nat → Prop, (∀ q, A q → s.heap.size ≤ q) → EV A s s.heap := by
  intro A hA
  have hg := flat_of_before _ hgv
  have hA2 : ∀ a : Nat, a < s.heap.size → ¬ A a := fun a h1 h2 => by have := hA a h2; omega
  have hini : (Cond.initialized Bundle.tN).before #[Value.ref b] s = true := (ht _ (List.mem_of_getElem? (i := 8) (by decide +kernel)))
  refine ⟨fun q hq => ?_, fun q hq => ?_, vx_Zqof (args := #[Value.ref b]) (ht _ (List.mem_of_getElem? (i := 304) (by decide +kernel))) hini (hg _ (by decide +kernel)) hA2, vx_Zqof (args := #[Value.ref b]) (ht _ (List.mem_of_getElem? (i := 306) (by decide +kernel))) hini (hg _ (by decide +kernel)) hA2, fun q hq => ?_, fun q hq => ?_, fun q hq => ?_⟩
  · simp only [nLk, List.mem_cons, List.not_mem_nil, or_false] at hq
    rcases hq with rfl | rfl | rfl | rfl | rfl
    · exact va_Nw.of (A := #[Value.ref b]) rfl (ht _ (List.mem_of_getElem? (i := 220) (by decide +kernel)))
    · exact va_Nw.of (A := #[Value.ref b]) rfl (ht _ (List.mem_of_getElem? (i := 656) (by decide +kernel)))
    · exact va_Nw.of (A := #[Value.ref b]) rfl (ht _ (List.mem_of_getElem? (i := 661) (by decide +kernel)))
    · exact va_Nw.of (A := #[Value.ref b]) rfl (ht _ (List.mem_of_getElem? (i := 460) (by decide +kernel)))
    · exact va_Nw.of (A := #[Value.ref b]) rfl (ht _ (List.mem_of_getElem? (i := 461) (by decide +kernel)))
  · simp only [sLk, List.mem_cons, List.not_mem_nil, or_false] at hq
    rcases hq with rfl | rfl | rfl | rfl | rfl | rfl | rfl | rfl | rfl | rfl | rfl
    · exact st_str (b := b) (ht _ (List.mem_of_getElem? (i := 318) (by decide +kernel))) (hg _ (by decide +kernel))
    · exact st_str (b := b) (ht _ (List.mem_of_getElem? (i := 351) (by decide +kernel))) (hg _ (by decide +kernel))
    · exact st_str (b := b) (ht _ (List.mem_of_getElem? (i := 364) (by decide +kernel))) (hg _ (by decide +kernel))
    · exact st_str (b := b) (ht _ (List.mem_of_getElem? (i := 415) (by decide +kernel))) (hg _ (by decide +kernel))
    · exact st_str (b := b) (ht _ (List.mem_of_getElem? (i := 484) (by decide +kernel))) (hg _ (by decide +kernel))
    · exact st_str (b := b) (ht _ (List.mem_of_getElem? (i := 595) (by decide +kernel))) (hg _ (by decide +kernel))
    · exact st_str (b := b) (ht _ (List.mem_of_getElem? (i := 596) (by decide +kernel))) (hg _ (by decide +kernel))
    · exact st_str (b := b) (ht _ (List.mem_of_getElem? (i := 597) (by decide +kernel))) (hg _ (by decide +kernel))
    · exact st_str (b := b) (ht _ (List.mem_of_getElem? (i := 617) (by decide +kernel))) (hg _ (by decide +kernel))
    · exact st_str (b := b) (ht _ (List.mem_of_getElem? (i := 625) (by decide +kernel))) (hg _ (by decide +kernel))
    · exact st_str (b := b) (ht _ (List.mem_of_getElem? (i := 691) (by decide +kernel))) (hg _ (by decide +kernel))
  · simp only [cLk, List.mem_cons, List.not_mem_nil, or_false] at hq
    rcases hq with rfl | rfl | rfl
    · exact va_Nw.of (A := #[Value.ref b]) rfl (ht _ (List.mem_of_getElem? (i := 279) (by decide +kernel)))
    · exact va_Nw.of (A := #[Value.ref b]) rfl (ht _ (List.mem_of_getElem? (i := 357) (by decide +kernel)))
    · exact va_Nw.of (A := #[Value.ref b]) rfl (ht _ (List.mem_of_getElem? (i := 408) (by decide +kernel)))
  · simp only [dLk, List.mem_cons, List.not_mem_nil, or_false] at hq
    rcases hq with rfl | rfl | rfl
    · exact va_Nw.of (A := #[Value.ref b]) rfl (ht _ (List.mem_of_getElem? (i := 281) (by decide +kernel)))
    · exact va_Nw.of (A := #[Value.ref b]) rfl (ht _ (List.mem_of_getElem? (i := 283) (by decide +kernel)))
    · exact va_Nw.of (A := #[Value.ref b]) rfl (ht _ (List.mem_of_getElem? (i := 285) (by decide +kernel)))
  · simp only [oLk, List.mem_cons, List.not_mem_nil, or_false] at hq
    rcases hq with rfl | rfl | rfl
    · exact va_Nc.of (args := #[Value.ref b]) (hg _ (by decide +kernel))
    · exact va_Nc.of (args := #[Value.ref b]) (hg _ (by decide +kernel))
    · exact va_Nc.of (args := #[Value.ref b]) (hg _ (by decide +kernel))
set_option maxHeartbeats 4000000 in
set_option maxRecDepth 100000 in
theorem start_K {s : State} {b : Nat} (hw : ∀ w ∈ wsL_law, w.before #[Value.ref b] s = true) (ht : ∀ w ∈ tables_1, w.before #[Value.ref b] s = true) : ∃ k : kY, va_K k.1 vwCl (tyK k) s ∧ va_AO sN s := by
  obtain ⟨c0, i0, h0⟩ := u_known (C := RX0) (T := TX0) (N := 10) (n := 10) hw inlX0 (ht _ (List.mem_of_getElem? (i := 31) (by decide +kernel)))
  obtain ⟨c1, i1, h1⟩ := u_known (C := RX1) (T := TX1) (N := 3) (n := 3) hw inlX1 (ht _ (List.mem_of_getElem? (i := 166) (by decide +kernel)))
  obtain ⟨c2, i2, h2⟩ := u_known (C := RX2) (T := TX2) (N := 3) (n := 3) hw inlX2 (ht _ (List.mem_of_getElem? (i := 25) (by decide +kernel)))
  obtain ⟨c3, i3, h3⟩ := u_known (C := RX3) (T := TX3) (N := 14) (n := 14) hw inlX3 (ht _ (List.mem_of_getElem? (i := 37) (by decide +kernel)))
  obtain ⟨c4, i4, h4⟩ := u_known (C := RX4) (T := TX4) (N := 5) (n := 5) hw inlX4 (ht _ (List.mem_of_getElem? (i := 17) (by decide +kernel)))
  obtain ⟨c5, i5, h5⟩ := u_known (C := RX5) (T := TX5) (N := 6) (n := 6) hw inlX5 (ht _ (List.mem_of_getElem? (i := 693) (by decide +kernel)))
  obtain ⟨a1, a2, a3, a4, a5, a6⟩ := Cond.arrayClass_spec (show (Cond.arrayClass .int).before #[Value.ref b] s = true from (ht _ (List.mem_of_getElem? (i := 98) (by decide +kernel))))
  obtain ⟨b1, b2, b3, b4, b5, b6⟩ := Cond.arrayClass_spec (show (Cond.arrayClass .long).before #[Value.ref b] s = true from (ht _ (List.mem_of_getElem? (i := 99) (by decide +kernel))))
  obtain ⟨d1, d2, d3, d4, d5, d6⟩ := Cond.arrayClass_spec (show (Cond.arrayClass .double).before #[Value.ref b] s = true from (ht _ (List.mem_of_getElem? (i := 980) (by decide +kernel))))
  have hao : (Cond.arrayOver (.object sN)).before #[Value.ref b] s = true := (ht _ (List.mem_of_getElem? (i := 164) (by decide +kernel)))
  obtain ⟨e3, e1, e2, e4, -, e5, e6, e7⟩ := Cond.arrayOver_spec hao
  refine ⟨((fun j => if j = 0 then c0 else if j = 1 then c1 else if j = 2 then c2 else if j = 3 then c3 else if j = 4 then c4 else c5, fun j => if j = 0 then i0 else if j = 1 then i1 else if j = 2 then i2 else if j = 3 then i3 else if j = 4 then i4 else i5), (fun _ => 0), fun j => if j = 0 then a1 else if j = 1 then b1 else if j = 2 then d1 else e1), ⟨fun c q hq => ?_, fun t q hq => ?_⟩, va_AO.of hao⟩
  · match c, hq with
    | 0, hq => obtain rfl := Option.some.inj (show some (RX0, TX0, 10) = some q from hq); exact h0
    | 1, hq => obtain rfl := Option.some.inj (show some (RX1, TX1, 3) = some q from hq); exact h1
    | 2, hq => obtain rfl := Option.some.inj (show some (RX2, TX2, 3) = some q from hq); exact h2
    | 3, hq => obtain rfl := Option.some.inj (show some (RX3, TX3, 14) = some q from hq); exact h3
    | 4, hq => obtain rfl := Option.some.inj (show some (RX4, TX4, 5) = some q from hq); exact h4
    | 5, hq => obtain rfl := Option.some.inj (show some (RX5, TX5, 6) = some q from hq); exact h5
    | n + 6, hq => rw [List.getElem?_eq_none (by show 6 ≤ n + 6; omega)] at hq; cases hq
  · match t, hq with
    | 0, hq => obtain rfl := Option.some.inj (show some ((a1, .int) : ClassId × FieldType) = some q from hq); exact ⟨fun n z => ⟨fun k h => (by cases h), a2, a5, a3, a6⟩, a4⟩
    | 1, hq => obtain rfl := Option.some.inj (show some ((b1, .long) : ClassId × FieldType) = some q from hq); exact ⟨fun n z => ⟨fun k h => (by cases h), b2, b5, b3, b6⟩, b4⟩
    | 2, hq => obtain rfl := Option.some.inj (show some ((d1, .double) : ClassId × FieldType) = some q from hq); exact ⟨fun n z => ⟨fun k h => (by cases h), d2, d5, d3, d6⟩, d4⟩
    | 3, hq => obtain rfl := Option.some.inj (show some ((e1, .object "ToneLoader$State") : ClassId × FieldType) = some q from hq); exact ⟨fun n z => ⟨fun k h => (by cases h), e2, e5, e3, e6⟩, e2, e3, e5, e6, e4, e7⟩
    | n + 4, hq => rw [List.getElem?_eq_none (by show 4 ≤ n + 4; omega)] at hq; cases hq
theorem lE_c {k : kY} {al al' : Nat → Nat} (h : ∀ j, j < 91 → al j = al' j) {j : Nat} (hj : j < 91) : lE k al j = lE k al' j := by
  unfold lE
  rw [h 1 (by omega), h 18 (by omega), h 87 (by omega)]
  by_cases c0 : j = 0
  · rw [if_pos c0, if_pos c0]
  · rw [if_neg c0, if_neg c0]
    by_cases c1 : j < 87
    · rw [if_pos c1, if_pos c1]
      exact LE_c (by omega) (fun t ht => h _ (by omega)) (by omega)
    · rw [if_neg c1, if_neg c1]
      exact plE_c (fun t ht => h _ (by omega)) _
theorem ME_c {k : kY} {al al' : Nat → Nat} {f : Nat → Int64} (h : ∀ j, j < 4 → al j = al' j) (j : Nat) : ME k al f j = ME k al' f j := by
  unfold ME
  rw [h 1 (by omega), h 2 (by omega), h 3 (by omega)]

set_option maxHeartbeats 4000000 in
set_option maxRecDepth 100000 in
theorem whole_start {p : Program} {e : Env} {s : State} {m : MethodId} {below : List Frame} {meth : Method} {c : Code} (l : Launch) (hflags : l.flags = flags0) {b L : Nat} {xs : Nat → Int32} (hL : L ≤ 2048) (C0 : lw_At p s m meth c b L xs) : W p l e room_1 s m #[Value.ref b] below meth c s.heap [] 0 0 (lw_Z below #[Value.ref b] s) (entryFrame m ([Value.ref b] : List Value).toArray 9) := by
  obtain ⟨hx, hb, hr, hml, hown, hts0, hX, hbl, hlocks, hgv⟩ := id C0
  have hst : l.stackTraces = false := by
    unfold Launch.stackTraces
    rw [hflags]
    decide +kernel
  have X : CallFix p m c cL_law 9 s #[Value.ref b] wsL_law RL := ⟨hx, hb, hml, hown, fun w h => hts0 w (wsL_law_in w h)⟩
  have hts := X.2.2.2.2
  have hts9 : ∀ w : Cond, w ∈ wsL_law → w ∈ wsL_law := fun _ h => h
  have ht : ∀ w ∈ tables_1, w.before #[Value.ref b] s = true := fun w h => hts0 w (List.mem_append_right _ h)
  have hev := start_EV ht hgv
  obtain ⟨k, hK, hO⟩ := start_K hts ht
  have w : UX k (fun _ => 0) 0 s s.heap [] (fun _ => 0) 0 (fun _ => tkE) := ⟨fun i q hq => absurd (uW_lt hq).1 (Nat.not_lt_zero _), ⟨fun i j q1 q2 h1 _ _ => absurd (uW_lt h1).1 (Nat.not_lt_zero _), fun i q hq => absurd (uW_lt hq).1 (Nat.not_lt_zero _)⟩, hK, hO, va_S.rf⟩
  have hl := lv_entry ([Value.ref b]) (n := 9) (Nat.le_of_ble_eq_true rfl)
  rw [lg_entry_eq]
  generalize (lg_sl ([Value.ref b]) ++ List.replicate (9 - (lg_sl ([Value.ref b])).length) Slot.unset).toArray = ls at hl ⊢
  have hl : lv_has ls 9 [(0, .ref b)] := hl
  refine u_new X w (ci := 4) (fs := [.null, .null, .int 0, .int 0, .null]) tyX4 rfl inlX4 tyX4_ok (hts9 (.classLink RL 8 RX4) (by decide +kernel)) (hts9 (.instantiable RX4 5) (by decide +kernel)) (hts9 (.initialized RX4) (by decide +kernel)) (fun j hj => by rcases (show j = 0 ∨ j = 1 ∨ j = 2 ∨ j = 3 ∨ j = 4 by omega) with rfl | rfl | rfl | rfl | rfl <;> rfl) (Nat.le_of_ble_eq_true rfl) (Nat.le_of_ble_eq_true rfl) dL_law_0 (fun q0 H w => ?_)
  refine lv_dup hx hb dL_law_3 rfl ?_
  refine u_callI X w (i := 0) rfl rfl (cc_X4 l k q0) (by decide) (cwI 0 hts gL_law_X4_init rfl rfl rfl (hts (.initialized RX4) (by decide +kernel)) (hts (.methodLink RL 102 yX4_init) (by decide +kernel)) (hts (.instanceMethod yX4_init) (by decide +kernel)) rfl (by decide +kernel) ⟨(Nat.le_of_ble_eq_true rfl), (Nat.le_of_ble_eq_true rfl)⟩) hl.1 (Nat.le_of_ble_eq_true rfl) dL_law_4 ⟨Nat.le_of_ble_eq_true rfl, Nat.le_of_ble_eq_true rfl⟩ (fun be4 H locs hbe4 w => ?_)
  refine lv_astore_n (lv' := [(1, .ref q0), (0, .ref b)]) hx hb dL_law_7 rfl hl (by decide) rfl (fun ls hl => ?_)
  refine u_new X w (ci := 5) (fs := [.null, .null, .int 0, .int 0, .null, .long 0]) tyX5 rfl inlX5 tyX5_ok (hts9 (.classLink RL 103 RX5) (by decide +kernel)) (hts9 (.instantiable RX5 6) (by decide +kernel)) (hts9 (.initialized RX5) (by decide +kernel)) (fun j hj => by rcases (show j = 0 ∨ j = 1 ∨ j = 2 ∨ j = 3 ∨ j = 4 ∨ j = 5 by omega) with rfl | rfl | rfl | rfl | rfl | rfl <;> rfl) (Nat.le_of_ble_eq_true rfl) (Nat.le_of_ble_eq_true rfl) dL_law_8 (fun q8 H w => ?_)
  refine lv_dup hx hb dL_law_11 rfl ?_
  refine u_callI X w (i := 0 + 91) rfl rfl (cc_X5 l k q8) (by decide) (cwI 0 hts gL_law_X5_init rfl rfl rfl (hts (.initialized RX5) (by decide +kernel)) (hts (.methodLink RL 105 yX5_init) (by decide +kernel)) (hts (.instanceMethod yX5_init) (by decide +kernel)) rfl (by decide +kernel) ⟨(Nat.le_of_ble_eq_true rfl), (Nat.le_of_ble_eq_true rfl)⟩) hl.1 (Nat.le_of_ble_eq_true rfl) dL_law_12 ⟨Nat.le_of_ble_eq_true rfl, Nat.le_of_ble_eq_true rfl⟩ (fun be12 H locs hbe12 w => ?_)
  refine lv_astore_n (lv' := [(2, .ref q8), (1, .ref q0), (0, .ref b)]) hx hb dL_law_15 rfl hl (by decide) rfl (fun ls hl => ?_)
  refine lv_iconst (v := nI 1) hx hb dL_law_16 (by decide) ?_
  refine u_newL X w (hts9 (.arrayClass .long) (by decide +kernel)) (by decide) (Nat.le_of_ble_eq_true rfl) (Nat.le_of_ble_eq_true rfl) dL_law_17 (fun q17 H w => ?_)
  refine lv_astore_n (lv' := [(3, .ref q17), (2, .ref q8), (1, .ref q0), (0, .ref b)]) hx hb dL_law_19 rfl hl (by decide) rfl (fun ls hl => ?_)
  refine lv_iconst (v := nI 1) hx hb dL_law_20 (by decide) ?_
  refine u_newD X w (hts9 (.arrayClass .double) (by decide +kernel)) (by decide) (Nat.le_of_ble_eq_true rfl) (Nat.le_of_ble_eq_true rfl) dL_law_21 (fun q21 H w => ?_)
  refine lv_astore (lv' := [(4, .ref q21), (3, .ref q17), (2, .ref q8), (1, .ref q0), (0, .ref b)]) hx hb dL_law_23 hl (by decide) rfl (fun ls hl => ?_)
  refine lv_iconst (v := nI 0) hx hb dL_law_25 (by decide) ?_
  refine lv_istore (lv' := [(5, .int (nI 0)), (4, .ref q21), (3, .ref q17), (2, .ref q8), (1, .ref q0), (0, .ref b)]) hx hb dL_law_26 hl (by decide) rfl (fun ls hl => ?_)
  obtain ⟨al, hal⟩ : ∃ al : Nat → Nat, al = fun j => if j < 91 then be4 j else if j < 95 then be12 (j - 91) else if j = 95 then q17 else q21 := ⟨_, rfl⟩
  have lo : ∀ j, j < 91 → al j = be4 j := fun j hj => by rw [hal]; exact if_pos hj
  have mi : ∀ t, t < 4 → al (91 + t) = be12 t := fun t h4 => by
    rw [hal]
    show (if 91 + t < 91 then be4 (91 + t) else if 91 + t < 95 then be12 (91 + t - 91) else if 91 + t = 95 then q17 else q21) = _
    rw [if_neg (by omega), if_pos (by omega), Nat.add_sub_cancel_left]
  have e95 : al 95 = q17 := by rw [hal]; rfl
  have e96 : al 96 = q21 := by rw [hal]; rfl
  have w2 : UX k (fun _ => 0) 0 s H locs al 97 (fE k al) := by
    refine UX.cong w (fun j hj => ?_) (fun j hj => ?_)
    · by_cases c1 : j < 91
      · rw [lo j c1, va_o9 _ _ (by omega), va_o9 _ _ (by omega)]
        show be4 j = if j < 0 + 91 then va_up (fun j => if j < 0 then va_up (fun _ => 0) 0 q0 j else be4 (j - 0)) (0 + 91) q8 j else be12 (j - (0 + 91))
        rw [if_pos (by omega), va_o9 _ _ (by omega)]
        show be4 j = if j < 0 then va_up (fun _ => 0) 0 q0 j else be4 (j - 0)
        rw [if_neg (by omega), Nat.sub_zero]
      · by_cases c2 : j < 95
        · obtain ⟨t, rfl⟩ : ∃ t, j = 91 + t := ⟨j - 91, by omega⟩
          rw [mi t (by omega), va_o9 _ _ (by omega), va_o9 _ _ (by omega)]
          show be12 t = if 91 + t < 0 + 91 then va_up (fun j => if j < 0 then va_up (fun _ => 0) 0 q0 j else be4 (j - 0)) (0 + 91) q8 (91 + t) else be12 (91 + t - (0 + 91))
          rw [if_neg (by omega), show 91 + t - (0 + 91) = t by omega]
        · rcases (show j = 95 ∨ j = 96 by omega) with rfl | rfl
          · exact e95
          · exact e96
    · by_cases c1 : j < 91
      · rw [va_o9 _ _ (by omega), va_o9 _ _ (by omega), fE, if_pos c1, lE_c lo c1]
        show lE k be4 j = if j < 0 + 91 then va_up (fun j => if j < 0 then va_up (fun _ => tkE) 0 _ j else lE k be4 (j - 0)) (0 + 91) _ j else ME k be12 (miP 2) (j - (0 + 91))
        rw [if_pos (by omega), va_o9 _ _ (by omega)]
        show lE k be4 j = if j < 0 then _ else lE k be4 (j - 0)
        rw [if_neg (by omega), Nat.sub_zero]
      · by_cases c2 : j < 95
        · rw [va_o9 _ _ (by omega), va_o9 _ _ (by omega), fE, if_neg c1, if_pos c2, ME_c mi]
          show ME k be12 (miP 2) (j - 91) = if j < 0 + 91 then _ else ME k be12 (miP 2) (j - (0 + 91))
          rw [if_neg (by omega)]
        · rcases (show j = 95 ∨ j = 96 by omega) with rfl | rfl <;> rfl
  have e0 : al 0 = q0 := (lo 0 (by omega)).trans hbe4
  have e91 : al 91 = q8 := (mi 0 (by omega)).trans hbe12
  obtain ⟨wx, hi⟩ := start_WX w2 (fun _ _ => rfl) hev
  have hbA : ¬ AA (kf k al) s.heap.size b := fun z => by have := hi b z; omega
  have hd0 := Drawn.sameBut.refl s.drawn lw_cs
  have z := law_loop (p := p) (e := e) (below := below) (meth := meth) (Q := lw_Z below #[Value.ref b] s) (k := kf k al) hst X hX hbl hbA hL (c0 := 97) (s0 := 2512) (by omega) (by omega) (fun H locs ls cl sl hc hs hS => va_forget (fun q hq => hi _ (hS.2.2 q hq)) (W.widen hc hs (lw_ret hd0 hx hb hr hlocks dL_law_1882)))
  have z1 := z (L / 4 + 1) 0 (by omega) (by omega) H locs ls h0 0 0 start_IAB wx (by
    show lv_has ls 9 [(0, .ref b), (1, .ref (al 0)), (2, .ref (al 91)), (3, .ref (al 95)), (4, .ref (al 96)), (5, .int (nI 0))]
    rw [e0, e91, e95, e96]
    exact lv_sub hl [5, 4, 3, 2, 1, 0] rfl)
  exact W.widen (Nat.le_of_ble_eq_true rfl) (Nat.le_of_ble_eq_true rfl) z1
