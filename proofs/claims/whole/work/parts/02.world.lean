/-! THE WORLD: one fixed layout of 97 cells, by their numbers: 0 the loader, 1 its row of saved states, 2 its plan, 3 4 5 the plan's rows (noise, limit, count),
6 to 10 the states (6: now; 7 to 10: saved), 11 + 8 r + c the cells of pair r = 0 .. 9 (of state s the pairs 2 s, 2 s + 1; c = 0 the pair, 1 to 5 its int rows, 6 its energies, 7 its talk),
91 the reference, 92 93 94 its rows, 95 the law's row of longs, 96 its row of doubles. All references are fixed; what changes is h: ints (rows and fields), longs, doubles, by cell and place. -/
abbrev hS : Type := (Nat → Nat → Int32) × (Nat → Nat → Int64) × (Nat → UInt64)
abbrev kY : Type := va_G × (Nat → Nat) × (Nat → ClassId)
def fX0 (k : kY) (i : Nat) (f : Nat → Int32) : List Value := [.ref (k.2.1 (i + 1)), .ref (k.2.1 (i + 2)), .ref (k.2.1 (i + 3)), .ref (k.2.1 (i + 4)), .ref (k.2.1 (i + 5)), .ref (k.2.1 (i + 6)), .ref (k.2.1 (i + 7)), .int (f 7), .int (f 8), .int (f 9)]
def fX1 (k : kY) (_ : Nat → Int32) : List Value := [.ref (k.2.1 3), .ref (k.2.1 4), .ref (k.2.1 5)]
def fX2 (k : kY) (i : Nat) (f : Nat → Int32) : List Value := [.int (f 0), .ref (k.2.1 (16 * i - 85)), .ref (k.2.1 (16 * i - 77))]
def fX3 (f : Nat → Int32) : List Value := [.int (f 0), .int (f 1), .int (f 2), .int (f 3), .int (f 4), .int (f 5), .int (f 6), .int (f 7), .int (f 8), .int (f 9), .int (f 10), .int (f 11), .int (f 12), .int (f 13)]
def fX4 (k : kY) (f : Nat → Int32) : List Value := [.ref (k.2.1 6), .ref (k.2.1 1), .int (f 2), .int (f 3), .ref (k.2.1 2)]
def fX5 (k : kY) (f : Nat → Int32) (g : Nat → Int64) : List Value := [.ref (k.2.1 92), .ref (k.2.1 93), .int (f 2), .int (f 3), .ref (k.2.1 94), .long (g 5)]
def nX5 (i : Nat) : Nat := if i = 92 then 233 else if i = 93 then 932 else if i = 94 then 64 else 1
def hE (k : kY) (h : hS) (i : Nat) : va_E :=
  if i < 11 then
    if i = 0 then .inr (4, fX4 k (h.1 i))
    else if i = 1 then .inl (k.2.2 3, 4, .inr (.inr (.inr (.inr (fun j => some (k.2.1 (7 + j)))))))
    else if i = 2 then .inr (1, fX1 k (h.1 i))
    else if i = 3 then .inl (k.2.2 1, 16, .inr (.inl (h.2.1 i)))
    else if i < 6 then .inl (k.2.2 0, 16, .inl (h.1 i))
    else .inr (2, fX2 k i (h.1 i))
  else if i < 91 then
    if (i - 11) % 8 = 0 then .inr (0, fX0 k i (h.1 i))
    else if (i - 11) % 8 = 6 then .inl (k.2.2 1, 16, .inr (.inl (h.2.1 i)))
    else if (i - 11) % 8 = 7 then .inr (3, fX3 (h.1 i))
    else .inl (k.2.2 0, 16, .inl (h.1 i))
  else if i = 91 then .inr (5, fX5 k (h.1 i) (h.2.1 i))
  else if i < 96 then .inl (k.2.2 1, nX5 i, .inr (.inl (h.2.1 i)))
  else .inl (k.2.2 2, 1, .inr (.inr (.inr (.inl h.2.2))))
def hW (k : kY) (h : hS) : va_W := (List.range 97).map (fun i => (k.2.1 i, hE k h i))
def AA (k : kY) (sz : Nat) : Nat → Prop := fun q => (∃ i : Nat, i < 97 ∧ q = k.2.1 i) ∨ sz ≤ q
abbrev tyK (k : kY) : List (ClassId × FieldType) := [(k.2.2 0, .int), (k.2.2 1, .long), (k.2.2 2, .double), (k.2.2 3, .object "ToneLoader$State")]
/-- the cells are apart -/
def dJ (k : kY) : Prop := ∀ i j : Nat, i < 97 → j < 97 → k.2.1 i = k.2.1 j → i = j
theorem hW_len (k : kY) (h : hS) : (hW k h).length = 97 := by simp [hW]
theorem hW_at (k : kY) (h : hS) {i : Nat} (hi : i < 97) : (hW k h)[i]? = some (k.2.1 i, hE k h i) := by
  rw [hW, List.getElem?_map, List.getElem?_range hi]; rfl
theorem hW_out (k : kY) (h : hS) {i : Nat} (hi : ¬ i < 97) : (hW k h)[i]? = none := List.getElem?_eq_none (by rw [hW_len]; omega)
theorem hW_lt {k : kY} {h : hS} {i : Nat} {q : Nat × va_E} (hq : (hW k h)[i]? = some q) : i < 97 ∧ q = (k.2.1 i, hE k h i) := by
  by_cases hi : i < 97
  · rw [hW_at k h hi] at hq; exact ⟨hi, (Option.some.inj hq).symm⟩
  · rw [hW_out k h hi] at hq; cases hq
theorem hW_set {k : kY} {h h' : hS} {i : Nat} {e : va_E} (hi : i < 97) (he : hE k h' i = e) (ho : ∀ j, j ≠ i → hE k h' j = hE k h j) : (hW k h).set i (k.2.1 i, e) = hW k h' := by
  apply List.ext_getElem?
  intro j
  rw [List.getElem?_set]
  by_cases hj : j < 97
  · rw [hW_at k h' hj]
    by_cases hij : i = j
    · subst hij
      rw [if_pos rfl, if_pos (by rw [hW_len]; exact hi), he]
    · rw [if_neg hij, hW_at k h hj, ho j (fun q => hij q.symm)]
  · rw [hW_out k h' hj, if_neg (by omega), hW_out k h hj]
theorem hW_ext {k : kY} {h h' : hS} (ho : ∀ j, j < 97 → hE k h' j = hE k h j) : hW k h' = hW k h := by
  apply List.ext_getElem?
  intro j
  by_cases hj : j < 97
  · rw [hW_at k h' hj, hW_at k h hj, ho j hj]
  · rw [hW_out k h' hj, hW_out k h hj]
theorem hE_congr {k : kY} {h h' : hS} {i : Nat} (h1 : h'.1 i = h.1 i) (h2 : h'.2.1 i = h.2.1 i) (h3 : h'.2.2 = h.2.2) : hE k h' i = hE k h i := by
  simp only [hE, h1, h2, h3]
theorem dJ.D {k : kY} (hd : dJ k) (h : hS) (sz : Nat) : va_D (AA k sz) (hW k h) := by
  refine ⟨fun i j p q hp hq e => ?_, fun i q hq => ?_⟩
  · obtain ⟨h1, rfl⟩ := hW_lt hp
    obtain ⟨h2, rfl⟩ := hW_lt hq
    exact hd i j h1 h2 e
  · obtain ⟨h1, rfl⟩ := hW_lt hq
    exact Or.inl ⟨i, h1, rfl⟩
-- the pairs and states by their numbers
def pp (P : Nat) : Prop := 11 ≤ P ∧ P + 8 ≤ 91 ∧ (P - 11) % 8 = 0
theorem pp_i {i : Nat} (h : i < 10) : pp (11 + 8 * i) := by unfold pp; omega
theorem hE_p0 {P : Nat} (hP : pp P) (k : kY) (h : hS) : hE k h P = .inr (0, fX0 k P (h.1 P)) := by
  obtain ⟨h1, h2, h3⟩ := hP
  rw [hE, if_neg (by omega), if_pos (by omega), if_pos h3]
theorem hE_pi {P : Nat} (hP : pp P) (c : Nat) (h0 : 1 ≤ c) (h5 : c ≤ 5) (k : kY) (h : hS) : hE k h (P + c) = .inl (k.2.2 0, 16, .inl (h.1 (P + c))) := by
  obtain ⟨h1, h2, h3⟩ := hP
  rw [hE, if_neg (by omega), if_pos (by omega), if_neg (by omega), if_neg (by omega), if_neg (by omega)]
theorem hE_p6 {P : Nat} (hP : pp P) (k : kY) (h : hS) : hE k h (P + 6) = .inl (k.2.2 1, 16, .inr (.inl (h.2.1 (P + 6)))) := by
  obtain ⟨h1, h2, h3⟩ := hP
  rw [hE, if_neg (by omega), if_pos (by omega), if_neg (by omega), if_pos (by omega)]
theorem hE_p7 {P : Nat} (hP : pp P) (k : kY) (h : hS) : hE k h (P + 7) = .inr (3, fX3 (h.1 (P + 7))) := by
  obtain ⟨h1, h2, h3⟩ := hP
  rw [hE, if_neg (by omega), if_pos (by omega), if_neg (by omega), if_neg (by omega), if_pos (by omega)]
theorem hE_st {S : Nat} (h6 : 6 ≤ S) (h10 : S ≤ 10) (k : kY) (h : hS) : hE k h S = .inr (2, fX2 k S (h.1 S)) := by
  rw [hE, if_pos (by omega), if_neg (by omega), if_neg (by omega), if_neg (by omega), if_neg (by omega), if_neg (by omega)]
theorem pp_lt {P : Nat} (hP : pp P) {c : Nat} (hc : c ≤ 7) : P + c < 97 := by have := hP.2.1; omega
theorem pp_lt0 {P : Nat} (hP : pp P) : P < 97 := by have := hP.2.1; omega
-- one place written
def upI (h : hS) (i j : Nat) (x : Int32) : hS := (va_up h.1 i (va_up (h.1 i) j x), h.2)
def upL (h : hS) (i j : Nat) (x : Int64) : hS := (h.1, va_up h.2.1 i (va_up (h.2.1 i) j x), h.2.2)
def upD (h : hS) (j : Nat) (x : UInt64) : hS := (h.1, h.2.1, va_up h.2.2 j x)
theorem upI_s (h : hS) (i j : Nat) (x : Int32) : (upI h i j x).1 i = va_up (h.1 i) j x := by simp [upI, va_up]
theorem upL_s (h : hS) (i j : Nat) (x : Int64) : (upL h i j x).2.1 i = va_up (h.2.1 i) j x := by simp [upL, va_up]
theorem upI_o (h : hS) {i a : Nat} (j : Nat) (x : Int32) (ha : a ≠ i) : (upI h i j x).1 a = h.1 a := by simp [upI, va_up, ha]
theorem upL_o (h : hS) {i a : Nat} (j : Nat) (x : Int64) (ha : a ≠ i) : (upL h i j x).2.1 a = h.2.1 a := by simp [upL, va_up, ha]
theorem hE_upI (k : kY) (h : hS) {i a : Nat} (j : Nat) (x : Int32) (ha : a ≠ i) : hE k (upI h i j x) a = hE k h a := hE_congr (upI_o h j x ha) rfl rfl
theorem hE_upL (k : kY) (h : hS) {i a : Nat} (j : Nat) (x : Int64) (ha : a ≠ i) : hE k (upL h i j x) a = hE k h a := hE_congr rfl (upL_o h j x ha) rfl
theorem hE_upD (k : kY) (h : hS) {a : Nat} (j : Nat) (x : UInt64) (ha : a < 96) : hE k (upD h j x) a = hE k h a := by
  simp only [hE, upD, ha, if_true]
-- what the machine must know beside the cells
def nLk : List (String × Nat × MethodName) := [(RX0, 72, yX4_needFor), (RX0, 120, yX4_isTone), (RX0, 123, yX4_cappedEnergy), (RX1, 67, yX4_needFor), (RX1, 71, yX4_cappedEnergy)]
def sLk : List (Nat × String) := [(226, "no such pair"), (232, "no such tone"), (234, "out of range"), (66, "the tone has more bits than that"), (100, "the limits leave no room for so many bits"), (149, "a swap needs two tones"), (165, "a swap is under way"), (167, "no bit to take, or no room for it"), (177, "no request is open"), (188, "no such message is on its way"), (205, "there is no saved state")]
abbrev xIO : String := "java/lang/IndexOutOfBoundsException"
abbrev xIA : String := "java/lang/IllegalArgumentException"
abbrev xIS : String := "java/lang/IllegalStateException"
def cLk : List String := [xIO, xIA, xIS]
def dLk : List String := ["java/lang/RuntimeException", "java/lang/Exception", Bundle.tN]
def oLk : List (String × String) := [(xIA, xIO), (xIS, xIO), (xIS, xIA)]
def EV (A : Nat → Prop) (U : State) (H : Heap) : Prop := (∀ q ∈ nLk, va_Nw (.methodLinkNest q.1 q.2.1 q.2.2 RX4) U) ∧ (∀ q ∈ sLk, ∃ sa : Nat, vk_R RX4 q.1 q.2 sa U) ∧ vx_Zq Bundle.tN "UNASSIGNED_STACK" Bundle.steD A U H ∧ vx_Zq Bundle.tN "SUPPRESSED_SENTINEL" Bundle.listD A U H ∧ (∀ q ∈ cLk, va_Nw (.castable q q) U) ∧ (∀ q ∈ dLk, va_Nw (.declares (Bundle.initS q)) U) ∧ (∀ q ∈ oLk, va_Nc q.1 q.2 U)
theorem EV.warm {A B : Nat → Prop} {s U : State} {H : Heap} {locs : List Loc} (h : EV A s s.heap) (hW : s.WarmedH U.vm) (hS : va_S A s.heap H locs) (hH : U.heap = H) (hAB : ∀ q, B q → A q) : EV B U U.heap := by
  subst hH
  exact ⟨fun q hq => (h.1 q hq).warmM hW, fun q hq => ⟨_, (h.2.1 q hq).choose_spec.warm hW⟩, (vx_Zq.moved hW.alike (h.2.2.1.kept hS.2.1)).narrow hAB, (vx_Zq.moved hW.alike (h.2.2.2.1.kept hS.2.1)).narrow hAB, fun q hq => (h.2.2.2.2.1 q hq).warmC hW, fun q hq => (h.2.2.2.2.2.1 q hq).warmD hW, fun q hq => (h.2.2.2.2.2.2 q hq).moved hW.alike⟩
theorem EV.calling {A : Nat → Prop} {U : State} {g : JFrame} {mk : MethodId} {a : Array Value} (h : EV A U U.heap) : EV A (U.calling g mk a) (U.calling g mk a).heap :=
  ⟨fun q hq => (h.1 q hq).same rfl rfl, fun q hq => ⟨_, (h.2.1 q hq).choose_spec.same rfl⟩, vx_Zq.moved (Vm.Alike.refl U.vm) h.2.2.1, vx_Zq.moved (Vm.Alike.refl U.vm) h.2.2.2.1, fun q hq => (h.2.2.2.2.1 q hq).same rfl rfl, fun q hq => (h.2.2.2.2.2.1 q hq).same rfl rfl, fun q hq => (h.2.2.2.2.2.2 q hq).moved (Vm.Alike.refl U.vm)⟩
/-- a method's start: the world h -/
def WP (k : kY) (sz : Nat) (h : hS) (U : State) : Prop := U.heap.size = sz ∧ va_P k.1 vwCl (hW k h) U.heap ∧ va_K k.1 vwCl (tyK k) U ∧ dJ k ∧ EV (AA k sz) U U.heap
/-- within a method that began at s: the heap H holds the world h -/
def WX (k : kY) (s : State) (H : Heap) (locs : List Loc) (h : hS) : Prop := va_P k.1 vwCl (hW k h) H ∧ va_K k.1 vwCl (tyK k) s ∧ dJ k ∧ va_S (AA k s.heap.size) s.heap H locs ∧ EV (AA k s.heap.size) s s.heap
theorem WP.start {k : kY} {sz : Nat} {h : hS} {s : State} (w : WP k sz h s) : WX k s s.heap [] h := ⟨w.2.1, w.2.2.1, w.2.2.2.1, va_S.rf, by rw [w.1]; exact w.2.2.2.2⟩
theorem WX.AA {k : kY} {s : State} {H : Heap} {locs : List Loc} {h : hS} (w : WX k s H locs h) : ∀ q, AA k H.size q → _root_.Jvm.Pilot.CToneLoaderLaw_law_r4001_9fe608.AA k s.heap.size q := fun q hq => hq.elim (fun a => Or.inl a) (fun a => Or.inr (Nat.le_trans w.2.2.2.1.1 a))
theorem WX.call {k : kY} {s : State} {H : Heap} {locs : List Loc} {h : hS} (w : WX k s H locs h) (U : State) (hU : U.heap = H) (hW : s.WarmedH U.vm) : WP k H.size h U :=
  ⟨by rw [hU], by rw [hU]; exact w.1, va_K.moved hW.alike w.2.1, w.2.2.1, w.2.2.2.2.warm hW w.2.2.2.1 hU w.AA⟩
theorem WP.calling {k : kY} {sz : Nat} {h : hS} {U : State} {g : JFrame} {mk : MethodId} {a : Array Value} (w : WP k sz h U) : WP k sz h (U.calling g mk a) :=
  ⟨w.1, w.2.1, va_K.moved (Vm.Alike.refl U.vm) w.2.2.1, w.2.2.2.1, w.2.2.2.2.calling⟩
theorem WX.eq {k : kY} {s : State} {H : Heap} {locs : List Loc} {h h' : hS} (w : WX k s H locs h) (ho : ∀ j, j < 97 → hE k h' j = hE k h j) : WX k s H locs h' := ⟨by rw [hW_ext ho]; exact w.1, w.2⟩
-- contracts
abbrev Pq (k : kY) (av : List Value) (h : hS) (sz : Nat) : Array Value → State → Prop := va_Pc av (WP k sz h)
abbrev Bq (k : kY) (h : hS) (t : State) : Prop := va_P k.1 vwCl (hW k h) t.heap
abbrev QI (k : kY) (post : Int32 → hS → Prop) (sz : Nat) : Array Value → State → Outcome → State → Prop := va_Qi post (Bq k) (AA k sz)
abbrev QL (k : kY) (post : Int64 → hS → Prop) (sz : Nat) : Array Value → State → Outcome → State → Prop := va_Ql post (Bq k) (AA k sz)
abbrev QD (k : kY) (post : UInt64 → hS → Prop) (sz : Nat) : Array Value → State → Outcome → State → Prop := va_Qd post (Bq k) (AA k sz)
abbrev QV (k : kY) (post : hS → Prop) (sz : Nat) : Array Value → State → Outcome → State → Prop := va_Qv post (Bq k) (AA k sz)
abbrev QR (k : kY) (post : Nat × hS → Prop) (sz : Nat) : Array Value → State → Outcome → State → Prop := va_Qr post (fun (u : Nat × hS) (a : Nat) (t : State) => a = k.2.1 u.1 ∧ Bq k u.2 t) (AA k sz)
def CT (l : Launch) (k : kY) (y : MethodName) (ws : List Cond) (rm : Room) (av : List Value) (h : hS) (Qf : Nat → Array Value → State → Outcome → State → Prop) (mc ms : Nat) : Prop := ∀ sz : Nat, Met l y ws rm (Pq k av h sz) (Qf sz) mc ms (AA k sz)
