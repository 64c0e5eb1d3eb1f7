/-! THE CONSTRUCTORS: a world in the making: n cells, at the addresses al 0, al 1 .. -/
def uW (al : Nat → Nat) (n : Nat) (E : Nat → va_E) : va_W := (List.range n).map (fun j => (al j, E j))
theorem uW_len (al : Nat → Nat) (n : Nat) (E : Nat → va_E) : (uW al n E).length = n := by simp [uW]
theorem uW_at {al : Nat → Nat} {n : Nat} {E : Nat → va_E} {i : Nat} (hi : i < n) : (uW al n E)[i]? = some (al i, E i) := by
  rw [uW, List.getElem?_map, List.getElem?_range hi]; rfl
theorem uW_in {al : Nat → Nat} {n : Nat} {E : Nat → va_E} {i a : Nat} {x : va_E} (hi : i < n) (ha : al i = a) (he : E i = x) : (uW al n E)[i]? = some (a, x) := by rw [uW_at hi, ha, he]
theorem uW_lt {al : Nat → Nat} {n : Nat} {E : Nat → va_E} {i : Nat} {q : Nat × va_E} (h : (uW al n E)[i]? = some q) : i < n ∧ q = (al i, E i) := by
  have hi : i < n := by have := (List.getElem?_eq_some_iff.mp h).1; rw [uW_len] at this; exact this
  rw [uW_at hi] at h
  exact ⟨hi, (Option.some.inj h).symm⟩
theorem uW_ext {al al' : Nat → Nat} {n : Nat} {E E' : Nat → va_E} (h1 : ∀ j, j < n → al' j = al j) (h2 : ∀ j, j < n → E' j = E j) : uW al' n E' = uW al n E := by
  apply List.ext_getElem?
  intro i
  by_cases hi : i < n
  · rw [uW_at hi, uW_at hi, h1 i hi, h2 i hi]
  · rw [List.getElem?_eq_none (by rw [uW_len]; omega), List.getElem?_eq_none (by rw [uW_len]; omega)]
theorem uW_set {al : Nat → Nat} {n : Nat} {E : Nat → va_E} {i a : Nat} {x : va_E} (hi : i < n) (ha : al i = a) : (uW al n E).set i (a, x) = uW al n (va_up E i x) := by
  apply List.ext_getElem?
  intro j
  rw [List.getElem?_set]
  by_cases hj : j < n
  · rw [show (uW al n (va_up E i x))[j]? = some (al j, va_up E i x j) from uW_at hj]
    by_cases e : i = j
    · subst e; rw [if_pos rfl, if_pos (by rw [uW_len]; exact hi), va_s9, ha]
    · rw [if_neg e, uW_at hj, va_o9 _ _ (fun z => e z.symm)]
  · rw [List.getElem?_eq_none (by rw [uW_len]; omega : (uW al n (va_up E i x)).length ≤ j), if_neg (by omega), List.getElem?_eq_none (by rw [uW_len]; omega)]
theorem uW_push {al : Nat → Nat} {n : Nat} {E : Nat → va_E} (q : Nat) (x : va_E) : uW al n E ++ [(q, x)] = uW (va_up al n q) (n + 1) (va_up E n x) := by
  apply List.ext_getElem?
  intro j
  by_cases hj : j < n
  · rw [List.getElem?_append_left (by rw [uW_len]; exact hj), uW_at hj, uW_at (by omega), va_o9 _ _ (by omega), va_o9 _ _ (by omega)]
  · rw [List.getElem?_append_right (by rw [uW_len]; omega), uW_len]
    by_cases e : j = n
    · subst e; rw [uW_at (by omega), Nat.sub_self, va_s9, va_s9]; rfl
    · rw [List.getElem?_eq_none (by simp; omega), List.getElem?_eq_none (by rw [uW_len]; omega)]
abbrev sN : String := "ToneLoader$State"
/-- what a method may write: the cells that it was given, and new ones -/
def UA (al : Nat → Nat) (n sz q : Nat) : Prop := (∃ j : Nat, j < n ∧ q = al j) ∨ sz ≤ q
def UP (k : kY) (al : Nat → Nat) (n : Nat) (E : Nat → va_E) (sz : Nat) (U : State) : Prop := U.heap.size = sz ∧ va_P k.1 vwCl (uW al n E) U.heap ∧ va_K k.1 vwCl (tyK k) U ∧ va_AO sN U ∧ va_D (fun _ => True) (uW al n E)
def UX (k : kY) (a0 : Nat → Nat) (n0 : Nat) (s : State) (H : Heap) (locs : List Loc) (al : Nat → Nat) (n : Nat) (E : Nat → va_E) : Prop := va_P k.1 vwCl (uW al n E) H ∧ va_D (UA a0 n0 s.heap.size) (uW al n E) ∧ va_K k.1 vwCl (tyK k) s ∧ va_AO sN s ∧ va_S (UA a0 n0 s.heap.size) s.heap H locs
abbrev QU (k : kY) (al : Nat → Nat) (n n' : Nat) (Ef : (Nat → Nat) → Nat → va_E) (sz : Nat) : Array Value → State → Outcome → State → Prop := va_Qv (fun (be : Nat → Nat) => ∀ j, j < n → be j = al j) (fun be t => va_P k.1 vwCl (uW be n' (Ef be)) t.heap ∧ va_D (UA al n sz) (uW be n' (Ef be))) (UA al n sz)
def CU (l : Launch) (k : kY) (y : MethodName) (ws : List Cond) (rm : Room) (av : List Value) (al : Nat → Nat) (n : Nat) (E : Nat → va_E) (n' : Nat) (Ef : (Nat → Nat) → Nat → va_E) (mc ms : Nat) : Prop := ∀ sz : Nat, Met l y ws rm (va_Pc av (UP k al n E sz)) (QU k al n n' Ef sz) mc ms (UA al n sz)
theorem UX.cong {k : kY} {a0 al al' : Nat → Nat} {n0 n : Nat} {s : State} {H : Heap} {locs : List Loc} {E E' : Nat → va_E} (w : UX k a0 n0 s H locs al n E) (h1 : ∀ j, j < n → al' j = al j) (h2 : ∀ j, j < n → E' j = E j) : UX k a0 n0 s H locs al' n E' := by
  unfold UX; rw [uW_ext h1 h2]; exact w
section UROWS
variable {p : Program} {l : Launch} {e : Env} {R : Room} {s : State} {m : MethodId} {args : Array Value} {below : List Frame} {meth : Method} {c : Code} {H : Heap} {locs : List Loc} {cells slots : Nat} {Q : State → Prop} {k : kY} {cc : ByteArray} {nL pc : Nat} {Ts : List Cond} {own : String} {ls : Array Slot} {rest st0 : List Value} {a0 al : Nat → Nat} {n0 n : Nat} {E : Nat → va_E}
variable {y : MethodName} {bytes : ByteArray} {maxL mc ms nA index : Nat} {ret : Option FieldType} {ws : List Cond} {rm : Room} {As : List Value}
theorem u_get (X : CallFix p m c cc nL s args Ts own) (w : UX k a0 n0 s H locs al n E) (i j : Nat) {a ci N index : Nat} {C : String} {T : u_T} {fs : List Value} (hi : i < n) (ha : al i = a) (he : E i = .inr (ci, fs)) (hc : vwCl[ci]? = some (C, T, N)) (hin : ∀ w ∈ u_ws C T N, w ∈ Ts) (hj : j < N) (hl : Cond.fieldLink own index (T j).1 (T j).2.1 (T j).2.2.1 ∈ Ts) {v : Value} (hv : fs[j]? = some v) (hdg : decode cc pc = .ok (.getfield index, 3))
    (kk : W p l e R s m args below meth c H locs cells slots Q (F0 m (pc + 3) ls (v :: rest))) : W p l e R s m args below meth c H locs cells slots Q (F0 m pc ls (.ref a :: rest)) :=
  va_get X.1 X.2.1 X.2.2.2.2 hin X.2.2.2.1 w.2.2.1 w.1 i (uW_in hi ha he) hc j hj (X.2.2.2.2 _ hl) (fun _ q => q) hv hdg kk
theorem u_put (X : CallFix p m c cc nL s args Ts own) (w : UX k a0 n0 s H locs al n E) (i j : Nat) {a ci N index : Nat} {C : String} {T : u_T} {fs : List Value} {ty0 : Nat → FieldType} (ty : FieldType) {v : Value} (hi : i < n) (ha : al i = a) (he : E i = .inr (ci, fs)) (hc : vwCl[ci]? = some (C, T, N)) (hin : ∀ w ∈ u_ws C T N, w ∈ Ts) (hty : ∀ k, k < N → parseFieldDescriptor (T k).2.2.1 = some (ty0 k)) (hnm : ∀ a, a < N → ∀ b, b < N → a ≠ b → (T a).2.1 ≠ (T b).2.1) (hj : j < N) (hl : Cond.fieldLink own index (T j).1 (T j).2.1 (T j).2.2.1 ∈ Ts) (hfin : (T j).2.2.2 = false) (hd : parseFieldDescriptor (T j).2.2.1 = some ty) (hn : narrow ty v = v) (hfit : fits ty v = true) (hlen : j < fs.length) (hdg : decode cc pc = .ok (.putfield index, 3))
    (kk : ∀ (H : Heap) (locs : List Loc), UX k a0 n0 s H locs al n (va_up E i (.inr (ci, fs.set j v))) → W p l e R s m args below meth c H locs cells slots Q (F0 m (pc + 3) ls rest)) : W p l e R s m args below meth c H locs cells slots Q (F0 m pc ls (v :: .ref a :: rest)) :=
  va_put X.1 X.2.1 X.2.2.2.2 hin ty0 hty hnm X.2.2.2.1 w.2.2.1 w.1 w.2.1 w.2.2.2.2 i (uW_in hi ha he) hc j hj (X.2.2.2.2 _ hl) (fun _ q => q) hfin hd hn hfit hlen hdg
    (fun H1 l1 hP hD hS => kk H1 l1 ⟨by rw [uW_set hi ha] at hP; exact hP, by rw [uW_set hi ha] at hD; exact hD, w.2.2.1, w.2.2.2.1, hS⟩)
theorem u_putF (X : CallFix p m c cc nL s args Ts own) (w : UX k a0 n0 s H locs al n E) (i j : Nat) {a ci N index : Nat} {C : String} {T : u_T} {fs : List Value} {ty0 : Nat → FieldType} (ty : FieldType) {v : Value} (hi : i < n) (ha : al i = a) (he : E i = .inr (ci, fs)) (hc : vwCl[ci]? = some (C, T, N)) (hin : ∀ w ∈ u_ws C T N, w ∈ Ts) (hty : ∀ k, k < N → parseFieldDescriptor (T k).2.2.1 = some (ty0 k)) (hnm : ∀ a, a < N → ∀ b, b < N → a ≠ b → (T a).2.1 ≠ (T b).2.1) (hj : j < N) (hl : Cond.fieldLink own index (T j).1 (T j).2.1 (T j).2.2.1 ∈ Ts) (hfin : (T j).2.2.2 = true) (hin2 : meth.name = "<init>") (hdecl : (T j).1 = own) (hd : parseFieldDescriptor (T j).2.2.1 = some ty) (hn : narrow ty v = v) (hfit : fits ty v = true) (hlen : j < fs.length) (hdg : decode cc pc = .ok (.putfield index, 3))
    (kk : ∀ (H : Heap) (locs : List Loc), UX k a0 n0 s H locs al n (va_up E i (.inr (ci, fs.set j v))) → W p l e R s m args below meth c H locs cells slots Q (F0 m (pc + 3) ls rest)) : W p l e R s m args below meth c H locs cells slots Q (F0 m pc ls (v :: .ref a :: rest)) :=
  va_putF X.1 X.2.1 X.2.2.2.2 hin ty0 hty hnm X.2.2.2.1 w.2.2.1 w.1 w.2.1 w.2.2.2.2 i (uW_in hi ha he) hc j hj (X.2.2.2.2 _ hl) (fun _ q => q) hfin hin2 hdecl hd hn hfit hlen hdg
    (fun H1 l1 hP hD hS => kk H1 l1 ⟨by rw [uW_set hi ha] at hP; exact hP, by rw [uW_set hi ha] at hD; exact hD, w.2.2.1, w.2.2.2.1, hS⟩)
theorem u_new (X : CallFix p m c cc nL s args Ts own) (w : UX k a0 n0 s H locs al n E) {ci N index : Nat} {C : String} {T : u_T} {fs : List Value} (ty : Nat → FieldType) (hc : vwCl[ci]? = some (C, T, N)) (hin : ∀ w ∈ u_ws C T N, w ∈ Ts) (hty : ∀ k, k < N → parseFieldDescriptor (T k).2.2.1 = some (ty k)) (h1 : Cond.classLink own index C ∈ Ts) (h2 : Cond.instantiable C N ∈ Ts) (h3 : Cond.initialized C ∈ Ts) (hfs : ∀ j, j < N → defaultValue (ty j) = vp_V fs j) (hcells : cells + 1 ≤ R.cells) (hslots : slots + N ≤ R.slots) (hdg : decode cc pc = .ok (.new index, 3))
    (kk : ∀ (q : Nat) (H : Heap), UX k a0 n0 s H locs (va_up al n q) (n + 1) (va_up E n (.inr (ci, fs))) → W p l e R s m args below meth c H locs (cells + 1) (slots + N) Q (F0 m (pc + 3) ls (.ref q :: rest))) : W p l e R s m args below meth c H locs cells slots Q (F0 m pc ls rest) :=
  va_new X.1 X.2.1 X.2.2.2.2 hin ty hty X.2.2.2.1 (X.2.2.2.2 _ h1) (X.2.2.2.2 _ h2) (X.2.2.2.2 _ h3) w.2.2.1 w.1 w.2.1 w.2.2.2.2 (fun q hq => Or.inr hq) hc hfs hcells hslots hdg
    (fun q H1 hP hD hS => kk q H1 ⟨by rw [uW_push] at hP; exact hP, by rw [uW_push] at hD; exact hD, w.2.2.1, w.2.2.2.1, hS⟩)
/-- a class of arrays has one number -/
theorem uc_same {cA : ClassId} {t0 : Nat} {ty : FieldType} {D : va_G} {tys : List (ClassId × FieldType)} {c1 : ClassId} (hK : va_K D vwCl (tys ++ [(cA, ty)]) s) (h0 : tys[t0]? = some (c1, ty)) (hr : ∀ z : ClassId, va_RA s z ty → s.vm.findClass ("[" ++ ty.toString) = some z) : cA = c1 := by
  have e1 := hr cA (hK.2 tys.length (cA, ty) (by rw [List.getElem?_append_right (Nat.le_refl _), Nat.sub_self]; rfl)).2
  have e2 := hr c1 (hK.2 t0 (c1, ty) (by rw [List.getElem?_append_left (List.getElem?_eq_some_iff.mp h0).1]; exact h0)).2
  exact Option.some.inj (e1.symm.trans e2)
theorem u_newI (X : CallFix p m c cc nL s args Ts own) (w : UX k a0 n0 s H locs al n E) (h1 : Cond.arrayClass .int ∈ Ts) {N' : Nat} (hN : N' < 100000) (hcells : cells + 1 ≤ R.cells) (hslots : slots + N' ≤ R.slots) (hdg : decode cc pc = .ok (.newarray .int, 2))
    (kk : ∀ (q : Nat) (H : Heap), UX k a0 n0 s H locs (va_up al n q) (n + 1) (va_up E n (.inl (k.2.2 0, N', .inl (fun _ => 0)))) → W p l e R s m args below meth c H locs (cells + 1) (slots + N') Q (F0 m (pc + 2) ls (.ref q :: rest))) : W p l e R s m args below meth c H locs cells slots Q (F0 m pc ls (.int (nI N') :: rest)) :=
  va_newa (atype := .int) (ty := .int) (a0 := (N', .inl (fun _ => 0))) X.1 X.2.1 (X.2.2.2.2 _ h1) rfl w.2.2.1 w.1 w.2.1 w.2.2.2.2 (fun q hq => Or.inr hq) (fun _ => rfl) (nI_pos (by omega)) (nI_clamp (by omega)) (by show N' * 4 ≤ _; omega) hcells hslots hdg
    (fun q cA H1 hK hP hD hS => by
      obtain rfl := uc_same (t0 := 0) hK rfl (fun z hz => hz)
      exact kk q H1 ⟨by rw [uW_push] at hP; exact hP, by rw [uW_push] at hD; exact hD, w.2.2.1, w.2.2.2.1, hS⟩)
theorem u_newL (X : CallFix p m c cc nL s args Ts own) (w : UX k a0 n0 s H locs al n E) (h1 : Cond.arrayClass .long ∈ Ts) {N' : Nat} (hN : N' < 100000) (hcells : cells + 1 ≤ R.cells) (hslots : slots + N' ≤ R.slots) (hdg : decode cc pc = .ok (.newarray .long, 2))
    (kk : ∀ (q : Nat) (H : Heap), UX k a0 n0 s H locs (va_up al n q) (n + 1) (va_up E n (.inl (k.2.2 1, N', .inr (.inl (fun _ => 0))))) → W p l e R s m args below meth c H locs (cells + 1) (slots + N') Q (F0 m (pc + 2) ls (.ref q :: rest))) : W p l e R s m args below meth c H locs cells slots Q (F0 m pc ls (.int (nI N') :: rest)) :=
  va_newa (atype := .long) (ty := .long) (a0 := (N', .inr (.inl (fun _ => 0)))) X.1 X.2.1 (X.2.2.2.2 _ h1) rfl w.2.2.1 w.1 w.2.1 w.2.2.2.2 (fun q hq => Or.inr hq) (fun _ => rfl) (nI_pos (by omega)) (nI_clamp (by omega)) (by show N' * 8 ≤ _; omega) hcells hslots hdg
    (fun q cA H1 hK hP hD hS => by
      obtain rfl := uc_same (t0 := 1) hK rfl (fun z hz => hz)
      exact kk q H1 ⟨by rw [uW_push] at hP; exact hP, by rw [uW_push] at hD; exact hD, w.2.2.1, w.2.2.2.1, hS⟩)
theorem u_newD (X : CallFix p m c cc nL s args Ts own) (w : UX k a0 n0 s H locs al n E) (h1 : Cond.arrayClass .double ∈ Ts) {N' : Nat} (hN : N' < 100000) (hcells : cells + 1 ≤ R.cells) (hslots : slots + N' ≤ R.slots) (hdg : decode cc pc = .ok (.newarray .double, 2))
    (kk : ∀ (q : Nat) (H : Heap), UX k a0 n0 s H locs (va_up al n q) (n + 1) (va_up E n (.inl (k.2.2 2, N', .inr (.inr (.inr (.inl (fun _ => 0))))))) → W p l e R s m args below meth c H locs (cells + 1) (slots + N') Q (F0 m (pc + 2) ls (.ref q :: rest))) : W p l e R s m args below meth c H locs cells slots Q (F0 m pc ls (.int (nI N') :: rest)) :=
  va_newa (atype := .double) (ty := .double) (a0 := (N', .inr (.inr (.inr (.inl (fun _ => 0)))))) X.1 X.2.1 (X.2.2.2.2 _ h1) rfl w.2.2.1 w.1 w.2.1 w.2.2.2.2 (fun q hq => Or.inr hq) (fun _ => rfl) (nI_pos (by omega)) (nI_clamp (by omega)) (by show N' * 8 ≤ _; omega) hcells hslots hdg
    (fun q cA H1 hK hP hD hS => by
      obtain rfl := uc_same (t0 := 2) hK rfl (fun z hz => hz)
      exact kk q H1 ⟨by rw [uW_push] at hP; exact hP, by rw [uW_push] at hD; exact hD, w.2.2.1, w.2.2.2.1, hS⟩)
theorem u_newQ (X : CallFix p m c cc nL s args Ts own) (w : UX k a0 n0 s H locs al n E) {index : Nat} (h1 : Cond.classLink own index sN ∈ Ts) {N' : Nat} (hN : N' < 100000) (hcells : cells + 1 ≤ R.cells) (hslots : slots + N' ≤ R.slots) (hdg : decode cc pc = .ok (.anewarray index, 3))
    (kk : ∀ (q : Nat) (H : Heap), UX k a0 n0 s H locs (va_up al n q) (n + 1) (va_up E n (.inl (k.2.2 3, N', .inr (.inr (.inr (.inr (fun _ => none))))))) → W p l e R s m args below meth c H locs (cells + 1) (slots + N') Q (F0 m (pc + 3) ls (.ref q :: rest))) : W p l e R s m args below meth c H locs cells slots Q (F0 m pc ls (.int (nI N') :: rest)) :=
  va_newq (C := sN) X.1 X.2.1 X.2.2.2.1 (X.2.2.2.2 _ h1) w.2.2.2.1 w.2.2.1 w.1 w.2.1 w.2.2.2.2 (fun q hq => Or.inr hq) (nI_pos (by omega)) (nI_clamp (by omega)) (by omega) hcells hslots hdg
    (fun q cA H1 hK hP hD hS => by
      obtain rfl := uc_same (t0 := 3) hK rfl (fun z hz => by obtain ⟨_, _, _, _, _, h9⟩ := hz; exact h9)
      exact kk q H1 ⟨by rw [uW_push] at hP; exact hP, by rw [uW_push] at hD; exact hD, w.2.2.1, w.2.2.2.1, hS⟩)
theorem u_last (X : CallFix p m c cc nL s args Ts own) (w : UX k a0 n0 s H locs al n E) (i j : Nat) {a N' : Nat} {f : Nat → Int64} {x : Int64} (hi : i < n) (ha : al i = a) (he : E i = .inl (k.2.2 1, N', .inr (.inl f))) (hj : j < N') (hN : N' < 100000) (hdg : decode cc pc = .ok (.lastore, 1))
    (kk : ∀ (H : Heap) (locs : List Loc), UX k a0 n0 s H locs al n (va_up E i (.inl (k.2.2 1, N', .inr (.inl (va_up f j x))))) → W p l e R s m args below meth c H locs cells slots Q (F0 m (pc + 1) ls rest)) : W p l e R s m args below meth c H locs cells slots Q (F0 m pc ls (.long x :: .int (nI j) :: .ref a :: rest)) :=
  va_last X.1 X.2.1 w.2.2.1 w.1 w.2.1 w.2.2.2.2 i 1 (uW_in hi ha he) rfl (vp_in_nI hj (by omega)) hdg
    (fun H1 l1 hP hD hS => kk H1 l1 (by
      rw [nI_clamp (by omega)] at hP hD
      exact ⟨by rw [uW_set hi ha] at hP; exact hP, by rw [uW_set hi ha] at hD; exact hD, w.2.2.1, w.2.2.2.1, hS⟩))
theorem u_iast (X : CallFix p m c cc nL s args Ts own) (w : UX k a0 n0 s H locs al n E) (i j : Nat) {a N' : Nat} {f : Nat → Int32} {x : Int32} (hi : i < n) (ha : al i = a) (he : E i = .inl (k.2.2 0, N', .inl f)) (hj : j < N') (hN : N' < 100000) (hdg : decode cc pc = .ok (.iastore, 1))
    (kk : ∀ (H : Heap) (locs : List Loc), UX k a0 n0 s H locs al n (va_up E i (.inl (k.2.2 0, N', .inl (va_up f j x)))) → W p l e R s m args below meth c H locs cells slots Q (F0 m (pc + 1) ls rest)) : W p l e R s m args below meth c H locs cells slots Q (F0 m pc ls (.int x :: .int (nI j) :: .ref a :: rest)) :=
  va_iast X.1 X.2.1 w.2.2.1 w.1 w.2.1 w.2.2.2.2 i 0 (uW_in hi ha he) rfl (vp_in_nI hj (by omega)) hdg
    (fun H1 l1 hP hD hS => kk H1 l1 (by
      rw [nI_clamp (by omega)] at hP hD
      exact ⟨by rw [uW_set hi ha] at hP; exact hP, by rw [uW_set hi ha] at hD; exact hD, w.2.2.1, w.2.2.2.1, hS⟩))
theorem u_alen (X : CallFix p m c cc nL s args Ts own) (w : UX k a0 n0 s H locs al n E) (i : Nat) {a N' : Nat} {f : Nat → Int32} (hi : i < n) (ha : al i = a) (he : E i = .inl (k.2.2 0, N', .inl f)) (hdg : decode cc pc = .ok (.arraylength, 1))
    (kk : W p l e R s m args below meth c H locs cells slots Q (F0 m (pc + 1) ls (.int (nI N') :: rest))) : W p l e R s m args below meth c H locs cells slots Q (F0 m pc ls (.ref a :: rest)) :=
  va_alen X.1 X.2.1 w.2.2.1 w.1 i 0 (uW_in hi ha he) rfl rfl hdg kk
theorem u_aast (X : CallFix p m c cc nL s args Ts own) (w : UX k a0 n0 s H locs al n E) (i i2 j : Nat) {a v N' : Nat} {f : Nat → Option Nat} {vs : List Value} (hi : i < n) (ha : al i = a) (he : E i = .inl (k.2.2 3, N', .inr (.inr (.inr (.inr f))))) (hi2 : i2 < n) (ha2 : al i2 = v) (he2 : E i2 = .inr (2, vs)) (hj : j < N') (hN : N' < 100000) (hdg : decode cc pc = .ok (.aastore, 1))
    (kk : ∀ (H : Heap) (locs : List Loc), UX k a0 n0 s H locs al n (va_up E i (.inl (k.2.2 3, N', .inr (.inr (.inr (.inr (va_up f j (some v)))))))) → W p l e R s m args below meth c H locs cells slots Q (F0 m (pc + 1) ls rest)) : W p l e R s m args below meth c H locs cells slots Q (F0 m pc ls (.ref v :: .int (nI j) :: .ref a :: rest)) :=
  va_astq (r := (RX2, TX2, 3)) X.1 X.2.1 w.2.2.1 w.1 w.2.1 w.2.2.2.2 i 3 i2 2 (uW_in hi ha he) rfl (uW_in hi2 ha2 he2) rfl (vp_in_nI hj (by omega)) hdg
    (fun H1 l1 hP hD hS => kk H1 l1 (by
      rw [nI_clamp (by omega)] at hP hD
      exact ⟨by rw [uW_set hi ha] at hP; exact hP, by rw [uW_set hi ha] at hD; exact hD, w.2.2.1, w.2.2.2.1, hS⟩))
theorem u_preS {E1 : Nat → va_E} {b1 : Nat → Nat} {n1 : Nat} (w : UX k a0 n0 s H locs al n E) (av : List Value) (hP : va_P k.1 vwCl (uW b1 n1 E1) H) (hD : va_D (fun _ => True) (uW b1 n1 E1)) : PreS s H (va_Pc av (UP k b1 n1 E1 H.size)) av :=
  ⟨fun a U g mk q => ⟨q.1, q.2.1, q.2.2.1, va_K.moved (u := U) (U := U.calling g mk a) (Vm.Alike.refl U.vm) q.2.2.2.1, va_AO.moved (u := U) (U := U.calling g mk a) (Vm.Alike.refl U.vm) q.2.2.2.2.1, q.2.2.2.2.2⟩, fun U hU hW => ⟨rfl, by rw [hU], by rw [hU]; exact hP, va_K.moved hW.alike w.2.2.1, va_AO.moved hW.alike w.2.2.2.1, hD⟩⟩
/-- what a callee leaves, beside the caller's other cells: the callee was given the cell i, the last one -/
theorem u_joinI {H1 : Heap} {locs1 : List Loc} {i n' : Nat} {be : Nat → Nat} {F : Nat → va_E} (w : UX k a0 n0 s H locs al (i + 1) E) (hb0 : be 0 = al i) (hn' : 0 < n') (hP1 : va_P k.1 vwCl (uW be n' F) H1) (hD1 : va_D (UA (fun _ => al i) 1 H.size) (uW be n' F)) (hk : ∀ q : Nat, q < H.size → ¬ UA (fun _ => al i) 1 H.size q → H1[q]? = H[q]?) (hS : va_S (UA a0 n0 s.heap.size) s.heap H1 locs1) (hsz : s.heap.size ≤ H.size) :
    UX k a0 n0 s H1 locs1 (fun j => if j < i then al j else be (j - i)) (i + n') (fun j => if j < i then E j else F (j - i)) := by
  have lt : ∀ j, j < i + 1 → al j < H.size := fun j hj => vx_lt w.1 (uW_at hj)
  have ne : ∀ j, j < i → al j ≠ al i := fun j hj z => by
    have := w.2.1.1 j i _ _ (uW_at (by omega)) (uW_at (by omega)) z
    omega
  have nU : ∀ j, j < i → ¬ UA (fun _ => al i) 1 H.size (al j) := fun j hj z => by
    rcases z with ⟨_, _, z⟩ | z
    · exact ne j hj z
    · have := lt j (by omega); omega
  have inU : ∀ t, t < n' → UA (fun _ => al i) 1 H.size (be t) := fun t ht => hD1.2 t _ (uW_at ht)
  refine ⟨fun j q hq => ?_, ⟨fun j1 j2 q1 q2 h1 h2 he => ?_, fun j q hq => ?_⟩, w.2.2.1, w.2.2.2.1, hS⟩
  · obtain ⟨hj, rfl⟩ := uW_lt hq
    by_cases c : j < i
    · have := w.1 j _ (uW_at (by omega))
      show va_at k.1 vwCl (if j < i then al j else be (j - i), if j < i then E j else F (j - i)) H1
      rw [if_pos c, if_pos c]
      exact this.kept (hk _ (lt j (by omega)) (nU j c))
    · show va_at k.1 vwCl (if j < i then al j else be (j - i), if j < i then E j else F (j - i)) H1
      rw [if_neg c, if_neg c]
      exact hP1 (j - i) _ (uW_at (by omega))
  · obtain ⟨hj1, rfl⟩ := uW_lt h1
    obtain ⟨hj2, rfl⟩ := uW_lt h2
    dsimp only at he
    by_cases c1 : j1 < i
    · rw [if_pos c1] at he
      by_cases c2 : j2 < i
      · rw [if_pos c2] at he
        exact w.2.1.1 j1 j2 _ _ (uW_at (by omega)) (uW_at (by omega)) he
      · rw [if_neg c2] at he
        exact absurd (show UA (fun _ => al i) 1 H.size (al j1) by rw [he]; exact inU _ (by omega)) (nU j1 c1)
    · rw [if_neg c1] at he
      by_cases c2 : j2 < i
      · rw [if_pos c2] at he
        exact absurd (show UA (fun _ => al i) 1 H.size (al j2) by rw [← he]; exact inU _ (by omega)) (nU j2 c2)
      · rw [if_neg c2] at he
        have := hD1.1 (j1 - i) (j2 - i) _ _ (uW_at (by omega)) (uW_at (by omega)) he
        omega
  · obtain ⟨hj, rfl⟩ := uW_lt hq
    dsimp only
    by_cases c : j < i
    · rw [if_pos c]; exact w.2.1.2 j _ (uW_at (by omega))
    · rw [if_neg c]
      rcases inU (j - i) (by omega) with ⟨_, _, z⟩ | z
      · rw [z]; exact w.2.1.2 i _ (uW_at (by omega))
      · exact Or.inr (by omega)
end UROWS
