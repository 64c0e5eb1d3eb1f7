/-! MORE ROWS: whole rows set, copied, measured -/
def setI (h : hS) (i : Nat) (f : Nat → Int32) : hS := (va_up h.1 i f, h.2)
def setL (h : hS) (i : Nat) (f : Nat → Int64) : hS := (h.1, va_up h.2.1 i f, h.2.2)
theorem setI_s (h : hS) (i : Nat) (f : Nat → Int32) : (setI h i f).1 i = f := by simp [setI, va_up]
theorem setL_s (h : hS) (i : Nat) (f : Nat → Int64) : (setL h i f).2.1 i = f := by simp [setL, va_up]
theorem setI_o (h : hS) {i a : Nat} (f : Nat → Int32) (ha : a ≠ i) : (setI h i f).1 a = h.1 a := by simp [setI, va_up, ha]
theorem setL_o (h : hS) {i a : Nat} (f : Nat → Int64) (ha : a ≠ i) : (setL h i f).2.1 a = h.2.1 a := by simp [setL, va_up, ha]
theorem setI_L (h : hS) (i : Nat) (f : Nat → Int32) : (setI h i f).2 = h.2 := rfl
theorem setL_I (h : hS) (i : Nat) (f : Nat → Int64) : (setL h i f).1 = h.1 := rfl
theorem upI_set (h : hS) (i j : Nat) (x : Int32) : upI h i j x = setI h i (va_up (h.1 i) j x) := rfl
theorem upL_set (h : hS) (i j : Nat) (x : Int64) : upL h i j x = setL h i (va_up (h.2.1 i) j x) := rfl
theorem setI_self (h : hS) (i : Nat) : setI h i (h.1 i) = h := by
  apply Prod.ext
  · funext a; by_cases ha : a = i
    · subst ha; simp [setI, va_up]
    · simp [setI, va_up, ha]
  · rfl
theorem setI_setI (h : hS) (i : Nat) (f g : Nat → Int32) : setI (setI h i f) i g = setI h i g := by
  apply Prod.ext
  · funext a; by_cases ha : a = i
    · subst ha; simp [setI, va_up]
    · simp [setI, va_up, ha]
  · rfl
theorem setL_setL (h : hS) (i : Nat) (f g : Nat → Int64) : setL (setL h i f) i g = setL h i g := by
  apply Prod.ext
  · rfl
  · apply Prod.ext
    · funext a; by_cases ha : a = i
      · subst ha; simp [setL, va_up]
      · simp [setL, va_up, ha]
    · rfl
theorem hE_setI (k : kY) (h : hS) {i a : Nat} (f : Nat → Int32) (ha : a ≠ i) : hE k (setI h i f) a = hE k h a := hE_congr (setI_o h f ha) rfl rfl
theorem hE_setL (k : kY) (h : hS) {i a : Nat} (f : Nat → Int64) (ha : a ≠ i) : hE k (setL h i f) a = hE k h a := hE_congr rfl (setL_o h f ha) rfl
theorem arrV_ext {c : ClassId} {n : Nat} {f g : Nat → Value} (h : ∀ j, j < n → f j = g j) : arrV c n f = arrV c n g := by
  unfold arrV
  congr 2
  funext j
  exact h j.val j.isLt
/-- a cell told otherwise, its contents the same -/
theorem WX.eqv {k : kY} {s : State} {H : Heap} {locs : List Loc} {h h' : hS} (w : WX k s H locs h) (ho : ∀ j, j < 97 → va_at k.1 vwCl (k.2.1 j, hE k h j) H → va_at k.1 vwCl (k.2.1 j, hE k h' j) H) : WX k s H locs h' := by
  refine ⟨fun i q hq => ?_, w.2⟩
  obtain ⟨hi, rfl⟩ := hW_lt hq
  exact ho i hi (w.1 i _ (hW_at k h hi))
theorem WX.nI {k : kY} {s : State} {H : Heap} {locs : List Loc} {h : hS} (w : WX k s H locs h) (i : Nat) {n : Nat} (f : Nat → Int32) (he : ∀ h : hS, hE k h i = .inl (k.2.2 0, n, .inl (h.1 i))) (hf : ∀ j, j < n → f j = h.1 i j) : WX k s H locs (setI h i f) := by
  refine w.eqv (fun j _ hj => ?_)
  by_cases hji : j = i
  · subst hji
    rw [he, setI_s]
    rw [he] at hj
    show H[_]? = some (vp_cell _ _)
    have hj : H[k.2.1 j]? = some (vp_cell (k.2.2 0) (n, .inl (h.1 j))) := hj
    rw [hj, vp_cell_i, vp_cell_i]
    exact congrArg some (arrV_ext (fun a ha => by rw [hf a ha]))
  · rw [hE_setI k h f hji]; exact hj
theorem WX.nL {k : kY} {s : State} {H : Heap} {locs : List Loc} {h : hS} (w : WX k s H locs h) (i : Nat) {n : Nat} (f : Nat → Int64) (he : ∀ h : hS, hE k h i = .inl (k.2.2 1, n, .inr (.inl (h.2.1 i)))) (hf : ∀ j, j < n → f j = h.2.1 i j) : WX k s H locs (setL h i f) := by
  refine w.eqv (fun j _ hj => ?_)
  by_cases hji : j = i
  · subst hji
    rw [he, setL_s]
    rw [he] at hj
    show H[_]? = some (vp_cell _ _)
    have hj : H[k.2.1 j]? = some (vp_cell (k.2.2 1) (n, .inr (.inl (h.2.1 j)))) := hj
    rw [hj, vp_cell_l, vp_cell_l]
    exact congrArg some (arrV_ext (fun a ha => by rw [hf a ha]))
  · rw [hE_setL k h f hji]; exact hj
/-- an object's int fields told otherwise -/
theorem WX.nO {k : kY} {s : State} {H : Heap} {locs : List Loc} {h : hS} (w : WX k s H locs h) (i : Nat) (f : Nat → Int32) (he : hE k (setI h i f) i = hE k h i) : WX k s H locs (setI h i f) := by
  refine w.eq (fun j _ => ?_)
  by_cases hji : j = i
  · subst hji; exact he
  · exact hE_setI k h f hji
/-- a flag -/
def bz (x : Int32) : Prop := x = nI 0 ∨ x = nI 1
theorem bz.n {x : Int32} (h : bz x) : narrow .boolean (.int x) = .int x := by rcases h with rfl | rfl <;> decide
theorem bz.f {x : Int32} (h : bz x) : fits .boolean (.int x) = true := by rcases h with rfl | rfl <;> decide
section QMORE
variable {p : Program} {l : Launch} {e : Env} {R : Room} {s : State} {m : MethodId} {args : Array Value} {below : List Frame} {meth : Method} {c : Code} {H : Heap} {locs : List Loc} {cells slots : Nat} {Q : State → Prop} {k : kY} {h : hS} {cc : ByteArray} {nL pc : Nat} {Ts : List Cond} {own : String} {ls : Array Slot} {rest : List Value}
theorem q_alen (X : CallFix p m c cc nL s args Ts own) (w : WX k s H locs h) (i : Nat) {n : Nat} (hi : i < 97) (he : ∀ h : hS, hE k h i = .inl (k.2.2 0, n, .inl (h.1 i))) (hdg : decode cc pc = .ok (.arraylength, 1))
    (kk : W p l e R s m args below meth c H locs cells slots Q (F0 m (pc + 1) ls (.int (nI n) :: rest))) : W p l e R s m args below meth c H locs cells slots Q (F0 m pc ls (.ref (k.2.1 i) :: rest)) :=
  va_alen (x := (n, .inl (h.1 i))) X.1 X.2.1 w.2.1 w.1 i 0 (by rw [hW_at k h hi, he]) rfl rfl hdg kk
theorem q_copyI (X : CallFix p m c cc nL s args Ts own) (w : WX k s H locs h) (i0 i1 : Nat) {index : Nat} (hi0 : i0 < 97) (hi1 : i1 < 97) (he0 : ∀ h : hS, hE k h i0 = .inl (k.2.2 0, 16, .inl (h.1 i0))) (he1 : ∀ h : hS, hE k h i1 = .inl (k.2.2 0, 16, .inl (h.1 i1))) (hsz : ls.size = nL) (l1 : Cond.methodLink own index arraycopyName ∈ Ts) (l2 : Cond.native arraycopyName ∈ Ts) (l3 : Cond.static arraycopyName ∈ Ts) (l4 : Cond.initialized "java/lang/System" ∈ Ts) (hf : 1 ≤ R.frames) (hlo : (rest.map fun v => v.category).sum + 18 ≤ R.locals) (hdg : decode cc pc = .ok (.invokestatic index, 3))
    (kk : ∀ (H : Heap) (locs : List Loc), WX k s H locs (setI h i1 (h.1 i0)) → W p l e R s m args below meth c H locs cells slots Q (F0 m (pc + 3) ls rest)) : W p l e R s m args below meth c H locs cells slots Q (F0 m pc ls (.int (nI 16) :: .int (nI 0) :: .ref (k.2.1 i1) :: .int (nI 0) :: .ref (k.2.1 i0) :: rest)) := by
  refine va_copyi (ty := .int) X.1 X.2.1 (X.2.2.1.trans hsz.symm) X.2.2.2.1 (X.2.2.2.2 _ l1) (X.2.2.2.2 _ l2) (X.2.2.2.2 _ l3) (X.2.2.2.2 _ l4) w.2.1 w.1 (w.2.2.1.D h s.heap.size) w.2.2.2.1 i0 i1 0 0 (by rw [hW_at k h hi0, he0]) (by rw [hW_at k h hi1, he1]) rfl rfl rfl (by decide) (by decide) (by decide) (by decide) (by decide) (fun _ _ => rfl) hf hlo hdg (fun H1 l1 hP _ hS => ?_)
  have w1 : WX k s H1 l1 (setI h i1 (va_cpy (h.1 i0) (h.1 i1) 0 0 16)) := by
    refine ⟨?_, w.2.1, w.2.2.1, hS, w.2.2.2.2⟩
    rw [hW_set (h' := setI h i1 (va_cpy (h.1 i0) (h.1 i1) 0 0 16)) hi1 (by rw [he1, setI_s]; rfl) (fun a ha => hE_setI k h _ ha)] at hP
    exact hP
  have w2 := w1.nI i1 (h.1 i0) he1 (fun j hj => by rw [setI_s]; simp [va_cpy, hj])
  rw [setI_setI] at w2
  exact kk H1 l1 w2
theorem q_copyL (X : CallFix p m c cc nL s args Ts own) (w : WX k s H locs h) (i0 i1 : Nat) {index : Nat} (hi0 : i0 < 97) (hi1 : i1 < 97) (he0 : ∀ h : hS, hE k h i0 = .inl (k.2.2 1, 16, .inr (.inl (h.2.1 i0)))) (he1 : ∀ h : hS, hE k h i1 = .inl (k.2.2 1, 16, .inr (.inl (h.2.1 i1)))) (hsz : ls.size = nL) (l1 : Cond.methodLink own index arraycopyName ∈ Ts) (l2 : Cond.native arraycopyName ∈ Ts) (l3 : Cond.static arraycopyName ∈ Ts) (l4 : Cond.initialized "java/lang/System" ∈ Ts) (hf : 1 ≤ R.frames) (hlo : (rest.map fun v => v.category).sum + 18 ≤ R.locals) (hdg : decode cc pc = .ok (.invokestatic index, 3))
    (kk : ∀ (H : Heap) (locs : List Loc), WX k s H locs (setL h i1 (h.2.1 i0)) → W p l e R s m args below meth c H locs cells slots Q (F0 m (pc + 3) ls rest)) : W p l e R s m args below meth c H locs cells slots Q (F0 m pc ls (.int (nI 16) :: .int (nI 0) :: .ref (k.2.1 i1) :: .int (nI 0) :: .ref (k.2.1 i0) :: rest)) := by
  refine va_copyl (ty := .long) X.1 X.2.1 (X.2.2.1.trans hsz.symm) X.2.2.2.1 (X.2.2.2.2 _ l1) (X.2.2.2.2 _ l2) (X.2.2.2.2 _ l3) (X.2.2.2.2 _ l4) w.2.1 w.1 (w.2.2.1.D h s.heap.size) w.2.2.2.1 i0 i1 1 1 (by rw [hW_at k h hi0, he0]) (by rw [hW_at k h hi1, he1]) rfl rfl rfl (by decide) (by decide) (by decide) (by decide) (by decide) (fun _ _ => rfl) hf hlo hdg (fun H1 l1 hP _ hS => ?_)
  have w1 : WX k s H1 l1 (setL h i1 (va_cpy (h.2.1 i0) (h.2.1 i1) 0 0 16)) := by
    refine ⟨?_, w.2.1, w.2.2.1, hS, w.2.2.2.2⟩
    rw [hW_set (h' := setL h i1 (va_cpy (h.2.1 i0) (h.2.1 i1) 0 0 16)) hi1 (by rw [he1, setL_s]; rfl) (fun a ha => hE_setL k h _ ha)] at hP
    exact hP
  have w2 := w1.nL i1 (h.2.1 i0) he1 (fun j hj => by rw [setL_s]; simp [va_cpy, hj])
  rw [setL_setL] at w2
  exact kk H1 l1 w2
end QMORE
theorem tz_of {x : Int32} (h0 : ¬ x < 0) (h1 : ¬ nI 16 ≤ x) : ∃ t : Nat, t < 16 ∧ x = nI t := by
  obtain ⟨j, hj, rfl⟩ := nI_of h0
  exact ⟨j, Nat.not_le.mp (fun q => h1 (nI_le q hj)), rfl⟩
theorem tz_neg {x : Int32} (h0 : x < 0) : ¬ ∃ t : Nat, t < 16 ∧ x = nI t := by
  rintro ⟨t, ht, rfl⟩
  exact nI_pos (by omega) h0
theorem tz_ge {x : Int32} (h1 : nI 16 ≤ x) : ¬ ∃ t : Nat, t < 16 ∧ x = nI t := by
  rintro ⟨t, ht, rfl⟩
  exact nI_ge ht (by decide) h1
/-- a start of a method of a class some of whose methods the machine runs by itself, but not this one -/
theorem q_ofWF {l : Launch} {y : MethodName} {ws ws' : List Cond} {rm : Room} {Pc : Array Value → State → Prop} {Qc : Array Value → State → Outcome → State → Prop} {mc ms : Nat} {free : Addr → Prop} {cc : ByteArray} {maxL : Nat} {ret : Option FieldType}
    (hy : plainFor y = true) (hw : ws = Cond.code y cc maxL ret :: ws')
    (body : ∀ p e s m args below meth c s₁, BodyLoose p l y (headSpec ws rm) cc maxL ret e s m args below meth c s₁ → c.maxLocals = maxL → Pc args s →
      W p l e (headSpec ws rm).room s m args below meth c s.heap [] 0 0 (MQ below Qc args s mc ms free) (entryFrame m args maxL)) : Met l y ws rm Pc Qc mc ms free := by
  refine MetFree.of_bodySF (code := cc) (maxLocals := maxL) (ret := ret) hy ?_ ?_
  · intro args s m h hn
    obtain ⟨meth, c, h1, h2, h3, h4, h5, h6, -, -⟩ := Cond.code_spec hn (atoms_spec (ws := ws) h _ (by rw [hw]; exact List.mem_cons_self))
    exact ⟨meth, c, h1, h2, h3, h4, h5, h6⟩
  · intro p e s m args below meth c s₁ B hml hP _
    have hh0 : s₁.heap = s.heap := by rw [B.state]; rfl
    obtain ⟨t, a1, o, b1, b2, b3⟩ := body p e s m args below meth c s₁ B hml hP s₁ hh0 (Stand.of_body B)
    exact ⟨t, o, a1, b1, b2, ⟨b3.1, b3.2⟩⟩
theorem q_metIF {l : Launch} {k : kY} {y : MethodName} {ws ws' : List Cond} {rm : Room} {av : List Value} {h : hS} {mc ms : Nat} {cc : ByteArray} {maxL : Nat} {ret : Option FieldType} {ty : FieldType} {post : Int32 → hS → Prop} (hy : plainFor y = true) (hw : ws = Cond.code y cc maxL ret :: ws') (hret : ret = some ty) (hav : (lg_sl av).length ≤ maxL)
    (body : ∀ (p : Program) (e : Env) (s : State) (m : MethodId) (args : Array Value) (below : List Frame) (meth : Method) (c : Code) (Q : State → Prop) (ls : Array Slot), CallFix p m c cc maxL s args ws y.cls → WX k s s.heap [] h → lv_has ls maxL (lv_args 0 av) →
      (∀ (pc : Nat) (ls : Array Slot) (H : Heap) (locs : List Loc) (r : Int32) (h' : hS) (cells slots : Nat), decode cc pc = .ok (.ireturn, 1) → WX k s H locs h' → narrow ty (.int r) = .int r → post r h' → cells ≤ mc → slots ≤ ms → W p l e rm s m args below meth c H locs cells slots Q (F0 m pc ls [.int r])) →
      W p l e rm s m args below meth c s.heap [] 0 0 Q (F0 m 0 ls [])) : CT l k y ws rm av h (QI k post) mc ms := by
  intro sz
  refine q_ofWF (cc := cc) (maxL := maxL) (ret := ret) hy hw ?_
  intro p e s m args below meth c s₁ B hml hv
  obtain ⟨rfl, hwp⟩ := hv
  obtain ⟨hsz, -⟩ := id hwp
  subst hsz
  rw [lg_entry_eq]
  refine body p e s m _ below meth c _ _ ⟨B.exec, B.bytes, hml, findClass_of_methodNamed B.named, atoms_spec (ws := ws) B.pre⟩ hwp.start (lv_entry av hav) ?_
  intro pc ls H locs r h' cells slots hd w hn hp hc hs
  exact W.widen hc hs (W.zret B.exec B.bytes (B.returns.trans hret) hn (fun t ht _ => ⟨⟨r, h', rfl, hp, by show va_P _ _ _ t.heap; rw [ht]; exact w.1⟩, w.2.2.2.1.F ht⟩) w.2.2.2.1.2.2 hd B.notSynchronized)
theorem setL_self (h : hS) (i : Nat) : setL h i (h.2.1 i) = h := by
  apply Prod.ext
  · rfl
  · apply Prod.ext
    · funext a; by_cases ha : a = i
      · subst ha; simp [setL, va_up]
      · simp [setL, va_up, ha]
    · rfl
