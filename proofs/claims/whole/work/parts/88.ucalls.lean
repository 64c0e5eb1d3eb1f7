/-! CALLS, STARTS AND ENDS of constructors -/
section UCALLS
variable {p : Program} {l : Launch} {e : Env} {R : Room} {s : State} {m : MethodId} {args : Array Value} {below : List Frame} {meth : Method} {c : Code} {H : Heap} {locs : List Loc} {cells slots : Nat} {Q : State → Prop} {k : kY} {cc : ByteArray} {nL pc : Nat} {Ts : List Cond} {own : String} {ls : Array Slot} {rest st0 : List Value} {a0 al : Nat → Nat} {n0 n : Nat} {E : Nat → va_E}
variable {y : MethodName} {bytes : ByteArray} {maxL mc ms nA index n' : Nat} {ret : Option FieldType} {ws : List Cond} {rm : Room} {As : List Value} {Ef : (Nat → Nat) → Nat → va_E}
theorem u_one {i : Nat} (w : UX k a0 n0 s H locs al n E) (hi : i < n) : va_P k.1 vwCl (uW (fun _ => al i) 1 (fun _ => E i)) H ∧ va_D (fun _ => True) (uW (fun _ => al i) 1 (fun _ => E i)) ∧ ∀ q : Nat, UA (fun _ => al i) 1 H.size q → UA a0 n0 s.heap.size q := by
  refine ⟨fun j q hq => ?_, ⟨fun j1 j2 q1 q2 h1 h2 _ => ?_, fun _ _ _ => trivial⟩, fun q hq => ?_⟩
  · obtain ⟨hj, rfl⟩ := uW_lt hq
    exact w.1 i _ (uW_at hi)
  · have := (uW_lt h1).1
    have := (uW_lt h2).1
    omega
  · rcases hq with ⟨_, _, z⟩ | z
    · rw [z]; exact w.2.1.2 i _ (uW_at hi)
    · exact Or.inr (Nat.le_trans w.2.2.2.2.1 z)
/-- the callee was given one cell, and made none -/
theorem u_joinF {H1 : Heap} {locs1 : List Loc} {i : Nat} {be : Nat → Nat} {F : Nat → va_E} (w : UX k a0 n0 s H locs al n E) (hi : i < n) (hb0 : be 0 = al i) (hP1 : va_P k.1 vwCl (uW be 1 F) H1) (hk : ∀ q : Nat, q < H.size → ¬ UA (fun _ => al i) 1 H.size q → H1[q]? = H[q]?) (hS : va_S (UA a0 n0 s.heap.size) s.heap H1 locs1) :
    UX k a0 n0 s H1 locs1 al n (va_up E i (F 0)) := by
  have lt : ∀ j, j < n → al j < H.size := fun j hj => vx_lt w.1 (uW_at hj)
  refine ⟨fun j q hq => ?_, ⟨fun j1 j2 q1 q2 h1 h2 he => ?_, fun j q hq => ?_⟩, w.2.2.1, w.2.2.2.1, hS⟩
  · obtain ⟨hj, rfl⟩ := uW_lt hq
    by_cases c : j = i
    · subst c
      rw [va_s9]
      have := hP1 0 _ (uW_at (by omega))
      rw [hb0] at this; exact this
    · rw [va_o9 _ _ c]
      refine (w.1 j _ (uW_at hj)).kept (hk _ (lt j hj) (fun z => ?_))
      rcases z with ⟨_, _, z⟩ | z
      · exact c (w.2.1.1 j i _ _ (uW_at hj) (uW_at hi) z)
      · have := lt j hj
        have z : H.size ≤ al j := z
        omega
  · obtain ⟨hj1, rfl⟩ := uW_lt h1
    obtain ⟨hj2, rfl⟩ := uW_lt h2
    exact w.2.1.1 j1 j2 _ _ (uW_at hj1) (uW_at hj2) he
  · obtain ⟨hj, rfl⟩ := uW_lt hq
    exact w.2.1.2 j (al j, E j) (uW_at hj)
theorem u_callI {i a : Nat} {E1 : va_E} (X : CallFix p m c cc nL s args Ts own) (w : UX k a0 n0 s H locs al (i + 1) E) (ha : al i = a) (he : E i = E1) (hM : CU l k y ws rm [.ref a] (fun _ => a) 1 (fun _ => E1) n' Ef mc ms) (hn' : 0 < n') (cw : CallB R s args own index y bytes maxL none ws rm mc ms 0 ∧ y.name = "<init>" ∧ (Cond.instanceMethod y).before args s = true) (hsz : ls.size = nL) (hW : (rest.map fun v => v.category).sum ≤ 8) (hdg : decode cc pc = .ok (.invokespecial index, 3)) (hf : cells + mc ≤ R.cells ∧ slots + ms ≤ R.slots)
    (kk : ∀ (be : Nat → Nat) (H : Heap) (locs : List Loc), be 0 = a → UX k a0 n0 s H locs (fun j => if j < i then al j else be (j - i)) (i + n') (fun j => if j < i then E j else Ef be (j - i)) → W p l e R s m args below meth c H locs (cells + mc) (slots + ms) Q (F0 m (pc + 3) ls rest)) : W p l e R s m args below meth c H locs cells slots Q (F0 m pc ls (.ref a :: rest)) := by
  subst ha
  subst he
  obtain ⟨o1, o2, o3⟩ := u_one (i := i) w (by omega)
  exact va_callv (va_runI (As := []) (b := al i) X (hM H.size) cw (u_preS w [.ref (al i)] o1 o2) rfl rfl hsz rfl (lv_room hW) hdg hf) w.2.2.2.2 (fun q _ hq => o3 q hq) o3
    (fun be t H1 l1 ht _ hp hB _ hk hS => kk be H1 l1 (hp 0 (by omega)) (u_joinI w (hp 0 (by omega)) hn' (by rw [← ht]; exact hB.1) hB.2 hk hS w.2.2.2.2.1))
theorem u_callJ {i a : Nat} {E1 : va_E} (X : CallFix p m c cc nL s args Ts own) (w : UX k a0 n0 s H locs al n E) (hi : i < n) (ha : al i = a) (he : E i = E1) (hM : CU l k y ws rm [.ref a] (fun _ => a) 1 (fun _ => E1) 1 Ef mc ms) (cw : CallB R s args own index y bytes maxL none ws rm mc ms 0 ∧ y.name = "<init>" ∧ (Cond.instanceMethod y).before args s = true) (hsz : ls.size = nL) (hW : (rest.map fun v => v.category).sum ≤ 8) (hdg : decode cc pc = .ok (.invokespecial index, 3)) (hf : cells + mc ≤ R.cells ∧ slots + ms ≤ R.slots)
    (kk : ∀ (be : Nat → Nat) (H : Heap) (locs : List Loc), UX k a0 n0 s H locs al n (va_up E i (Ef be 0)) → W p l e R s m args below meth c H locs (cells + mc) (slots + ms) Q (F0 m (pc + 3) ls rest)) : W p l e R s m args below meth c H locs cells slots Q (F0 m pc ls (.ref a :: rest)) := by
  subst ha
  subst he
  obtain ⟨o1, o2, o3⟩ := u_one (i := i) w hi
  exact va_callv (va_runI (As := []) (b := al i) X (hM H.size) cw (u_preS w [.ref (al i)] o1 o2) rfl rfl hsz rfl (lv_room hW) hdg hf) w.2.2.2.2 (fun q _ hq => o3 q hq) o3
    (fun be t H1 l1 ht _ hp hB _ hk hS => kk be H1 l1 (u_joinF w hi (hp 0 (by omega)) (by rw [← ht]; exact hB.1) hk hS))
theorem u_callF {i a : Nat} {E1 : va_E} (X : CallFix p m c cc nL s args Ts own) (w : UX k a0 n0 s H locs al n E) (hi : i < n) (ha : al i = a) (he : E i = E1) (hM : CU l k y ws rm As (fun _ => a) 1 (fun _ => E1) 1 Ef mc ms) (cw : CallB R s args own index y bytes maxL ret ws rm mc ms nA ∧ (Cond.static y).before args s = true) (hn : As.length = nA) (hsz : ls.size = nL) (hst : st0 = As.reverse ++ rest) (hW : (rest.map fun v => v.category).sum ≤ 8) (hdg : decode cc pc = .ok (.invokestatic index, 3)) (hf : cells + mc ≤ R.cells ∧ slots + ms ≤ R.slots)
    (kk : ∀ (be : Nat → Nat) (H : Heap) (locs : List Loc), UX k a0 n0 s H locs al n (va_up E i (Ef be 0)) → W p l e R s m args below meth c H locs (cells + mc) (slots + ms) Q (F0 m (pc + 3) ls rest)) : W p l e R s m args below meth c H locs cells slots Q (F0 m pc ls st0) := by
  subst ha
  subst he
  obtain ⟨o1, o2, o3⟩ := u_one (i := i) w hi
  exact va_callv (va_runS X (hM H.size) cw (u_preS w As o1 o2) rfl hn hsz hst (lv_room (rest := st0) hW) hdg hf) w.2.2.2.2 (fun q _ hq => o3 q hq) o3
    (fun be t H1 l1 ht _ hp hB _ hk hS => kk be H1 l1 (u_joinF w hi (hp 0 (by omega)) (by rw [← ht]; exact hB.1) hk hS))
/-- a virtual call that is given the whole world, and makes no cell -/
theorem u_callD {a ci N : Nat} {fs : List Value} {C : String} {T : u_T} {Ef' : Nat → va_E} (X : CallFix p m c cc nL s args Ts own) (w : UX k a0 n0 s H locs al n E) (hn0 : 0 < n) (ha : al 0 = a) (he : E 0 = .inr (ci, fs)) (hc : vwCl[ci]? = some (C, T, N)) (hM : CU l k y ws rm (.ref a :: As) al n E n (fun _ => Ef') mc ms) (cw : CallW R s args own C index y bytes maxL ret ws rm mc ms nA) (hn : As.length = nA) (hsz : ls.size = nL) (hst : st0 = As.reverse ++ .ref a :: rest) (hW : (rest.map fun v => v.category).sum ≤ 8) (hdg : decode cc pc = .ok (.invokevirtual index, 3)) (hf : cells + mc ≤ R.cells ∧ slots + ms ≤ R.slots)
    (kk : ∀ (H : Heap) (locs : List Loc), UX k a0 n0 s H locs al n Ef' → W p l e R s m args below meth c H locs (cells + mc) (slots + ms) Q (F0 m (pc + 3) ls rest)) : W p l e R s m args below meth c H locs cells slots Q (F0 m pc ls st0) := by
  have o3 : ∀ q : Nat, UA al n H.size q → UA a0 n0 s.heap.size q := fun q hq => by
    rcases hq with ⟨j, hj, z⟩ | z
    · rw [z]; exact w.2.1.2 j _ (uW_at hj)
    · exact Or.inr (Nat.le_trans w.2.2.2.2.1 z)
  have pre := u_preS (b1 := al) (n1 := n) (E1 := E) w (.ref a :: As) w.1 ⟨w.2.1.1, fun _ _ _ => trivial⟩
  exact va_callv (va_runV X (hM H.size) cw ⟨pre.1, va_recv w.2.2.1 w.1 (q0 := 0) hc (uW_in hn0 ha he), pre.2⟩ rfl hn hsz hst (lv_room (rest := st0) hW) hdg hf) w.2.2.2.2 (fun q _ hq => o3 q hq) o3
    (fun be t H1 l1 ht _ hp hB _ hk hS => kk H1 l1 (by
      have hP : va_P k.1 vwCl (uW be n Ef') H1 := by rw [← ht]; exact hB.1
      rw [uW_ext (al := al) (al' := be) (E := Ef') (E' := Ef') hp (fun _ _ => rfl)] at hP
      refine ⟨hP, ⟨fun j1 j2 q1 q2 h1 h2 he => ?_, fun j q hq => ?_⟩, w.2.2.1, w.2.2.2.1, hS⟩
      · obtain ⟨hj1, rfl⟩ := uW_lt h1
        obtain ⟨hj2, rfl⟩ := uW_lt h2
        exact w.2.1.1 j1 j2 _ _ (uW_at hj1) (uW_at hj2) he
      · obtain ⟨hj, rfl⟩ := uW_lt hq
        exact w.2.1.2 j (al j, E j) (uW_at hj)))
/-- a static call that touches no cell -/
theorem u_calla {post : Int32 → Prop} (X : CallFix p m c cc nL s args Ts own) (w : UX k a0 n0 s H locs al n E) (hM : Met l y ws rm (va_Pc As (fun _ => True)) (va_Qi (fun r (_ : Unit) => post r) (fun _ _ => True) (fun _ => False)) mc ms (fun _ => False)) (cw : CallB R s args own index y bytes maxL ret ws rm mc ms nA ∧ (Cond.static y).before args s = true) (hn : As.length = nA) (hsz : ls.size = nL) (hst : st0 = As.reverse ++ rest) (hW : (rest.map fun v => v.category).sum ≤ 8) (hdg : decode cc pc = .ok (.invokestatic index, 3)) (hf : cells + mc ≤ R.cells ∧ slots + ms ≤ R.slots)
    (kk : ∀ (r : Int32) (H : Heap) (locs : List Loc), post r → UX k a0 n0 s H locs al n E → W p l e R s m args below meth c H locs (cells + mc) (slots + ms) Q (F0 m (pc + 3) ls (.int r :: rest))) : W p l e R s m args below meth c H locs cells slots Q (F0 m pc ls st0) :=
  va_calli (va_runS X hM cw ⟨fun a U g mk q => q, fun U hU hW => ⟨rfl, trivial⟩⟩ rfl hn hsz hst (lv_room (rest := st0) hW) hdg hf) w.2.2.2.2 (fun q _ hq => hq.elim) (fun q hq => hq.elim)
    (fun r u t H1 l1 ht _ hp _ _ hk hS => kk r H1 l1 hp ⟨w.1.kept (fun j q hq => hk _ (vx_lt w.1 hq) (fun z => z)), w.2.1, w.2.2.1, w.2.2.2.1, hS⟩)
end UCALLS
theorem u_met {l : Launch} {k : kY} {y : MethodName} {ws ws' : List Cond} {rm : Room} {av : List Value} {al : Nat → Nat} {n n' : Nat} {E : Nat → va_E} {Ef : (Nat → Nat) → Nat → va_E} {mc ms : Nat} {cc : ByteArray} {maxL : Nat} (hy : plainName y.cls = true) (hw : ws = Cond.code y cc maxL none :: ws') (hav : (lg_sl av).length ≤ maxL)
    (body : ∀ (p : Program) (e : Env) (s : State) (m : MethodId) (args : Array Value) (below : List Frame) (meth : Method) (c : Code) (Q : State → Prop) (ls : Array Slot), CallFix p m c cc maxL s args ws y.cls → meth.name = y.name → UX k al n s s.heap [] al n E → lv_has ls maxL (lv_args 0 av) →
      (∀ (pc : Nat) (ls : Array Slot) (H : Heap) (locs : List Loc) (be : Nat → Nat) (E2 : Nat → va_E) (cells slots : Nat), decode cc pc = .ok (.return_, 1) → UX k al n s H locs be n' E2 → (∀ j, j < n → be j = al j) → (∀ j, j < n' → Ef be j = E2 j) → cells ≤ mc → slots ≤ ms → W p l e rm s m args below meth c H locs cells slots Q (F0 m pc ls [])) →
      W p l e rm s m args below meth c s.heap [] 0 0 Q (F0 m 0 ls [])) : CU l k y ws rm av al n E n' Ef mc ms := by
  intro sz
  refine Met.ofW (cc := cc) (maxL := maxL) (ret := none) hy hw ?_
  intro p e s m args below meth c s₁ B hml hv
  obtain ⟨rfl, hwp⟩ := hv
  obtain ⟨hsz, hP, hK, hO, hD⟩ := hwp
  subst hsz
  rw [lg_entry_eq]
  refine body p e s m _ below meth c _ _ ⟨B.exec, B.bytes, hml, findClass_of_methodNamed B.named, atoms_spec (ws := ws) B.pre⟩ (name_of_methodNamed B.named B.method).1 ⟨hP, ⟨hD.1, fun j q hq => by obtain ⟨hj, rfl⟩ := uW_lt hq; exact Or.inl ⟨j, hj, rfl⟩⟩, hK, hO, va_S.rf⟩ (lv_entry av hav) ?_
  intro pc ls H locs be E2 cells slots hd w hbe hE hc hs
  have e1 : uW be n' (Ef be) = uW be n' E2 := uW_ext (fun _ _ => rfl) hE
  exact W.widen hc hs (W.vret B.exec B.bytes B.returns (fun t ht _ => ⟨⟨be, rfl, hbe, by rw [e1, ht]; exact w.1, by rw [e1]; exact w.2.1⟩, w.2.2.2.2.F ht⟩) w.2.2.2.2.2.2 hd B.notSynchronized)
