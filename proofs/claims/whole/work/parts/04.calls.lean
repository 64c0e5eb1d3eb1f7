/-! CALLS, STARTS AND ENDS in the words of part 02 -/
abbrev XQ (k : kY) (postX : String → hS → Prop) (sz : Nat) : String → State → State → Prop := vx_X (S := hS) (fun _ => True) (fun E h' t => postX E h' ∧ Bq k h' t) (AA k sz)
def CX (l : Launch) (k : kY) (y : MethodName) (ws : List Cond) (rm : Room) (av : List Value) (h : hS) (Qf : Nat → Array Value → State → Outcome → State → Prop) (postX : String → hS → Prop) (mc ms : Nat) : Prop := ∀ sz : Nat, vx_Met l y ws rm (Pq k av h sz) (Qf sz) (XQ k postX sz) mc ms (AA k sz)
section QCALLS
variable {p : Program} {l : Launch} {e : Env} {R : Room} {s : State} {m : MethodId} {args : Array Value} {below : List Frame} {meth : Method} {c : Code} {H : Heap} {locs : List Loc} {cells slots : Nat} {Q : State → Prop} {k : kY} {h : hS} {cc : ByteArray} {nL pc : Nat} {Ts : List Cond} {own : String} {ls : Array Slot} {rest st0 : List Value}
variable {y : MethodName} {bytes : ByteArray} {maxL mc ms n index : Nat} {ret : Option FieldType} {ws : List Cond} {rm : Room} {Qf : Nat → Array Value → State → Outcome → State → Prop} {postX : String → hS → Prop} {As : List Value} {a : Array Value} {host : String}
theorem q_preS (w : WX k s H locs h) (av : List Value) : PreS s H (Pq k av h H.size) av := ⟨fun _ _ _ _ q => ⟨q.1, q.2.calling⟩, fun U hU hW => ⟨rfl, w.call U hU hW⟩⟩
theorem q_preV (w : WX k s H locs h) {i ci N : Nat} {fs : List Value} {C : String} {T : u_T} (hi : i < 97) (he : hE k h i = .inr (ci, fs)) (hc : vwCl[ci]? = some (C, T, N)) : PreV s H C (k.2.1 i) (Pq k (.ref (k.2.1 i) :: As) h H.size) As :=
  ⟨fun _ _ _ _ q => ⟨q.1, q.2.calling⟩, va_recv w.2.1 w.1 (q0 := i) hc (by rw [hW_at k h hi, he]), fun U hU hW => ⟨rfl, w.call U hU hW⟩⟩
theorem q_runV (X : CallFix p m c cc nL s args Ts own) (w : WX k s H locs h) (i : Nat) {ci N : Nat} {fs : List Value} {C : String} {T : u_T} (hM : CT l k y ws rm (.ref (k.2.1 i) :: As) h Qf mc ms) (cw : CallW R s args own C index y bytes maxL ret ws rm mc ms n) (hi : i < 97) (he : hE k h i = .inr (ci, fs)) (hc : vwCl[ci]? = some (C, T, N)) (hn : As.length = n) (hsz : ls.size = nL) (hst : st0 = As.reverse ++ .ref (k.2.1 i) :: rest) (hW : (rest.map fun v => v.category).sum ≤ 8) (hdg : decode cc pc = .ok (.invokevirtual index, 3)) (hf : cells + mc ≤ R.cells ∧ slots + ms ≤ R.slots) :
    va_Run p l e R s m args below meth c H locs cells slots mc ms (F0 m pc ls st0) rest (Qf H.size (Value.ref (k.2.1 i) :: As).toArray) (AA k H.size) :=
  va_runV X (hM H.size) cw (q_preV w hi he hc) rfl hn hsz hst (lv_room (rest := st0) hW) hdg hf
theorem q_runS (X : CallFix p m c cc nL s args Ts own) (w : WX k s H locs h) (hM : CT l k y ws rm As h Qf mc ms) (cw : CallB R s args own index y bytes maxL ret ws rm mc ms n ∧ (Cond.static y).before args s = true) (hn : As.length = n) (hsz : ls.size = nL) (hst : st0 = As.reverse ++ rest) (hW : (rest.map fun v => v.category).sum ≤ 8) (hdg : decode cc pc = .ok (.invokestatic index, 3)) (hf : cells + mc ≤ R.cells ∧ slots + ms ≤ R.slots) :
    va_Run p l e R s m args below meth c H locs cells slots mc ms (F0 m pc ls st0) rest (Qf H.size As.toArray) (AA k H.size) :=
  va_runS X (hM H.size) cw (q_preS w As) rfl hn hsz hst (lv_room (rest := st0) hW) hdg hf
theorem q_runN (X : CallFix p m c cc nL s args Ts own) (w : WX k s H locs h) (hM : CT l k y ws rm As h Qf mc ms) (cw : va_CN R s args own index y host bytes maxL ret ws rm mc ms n ∧ (Cond.static y).before args s = true ∧ True) (hn : As.length = n) (hsz : ls.size = nL) (hst : st0 = As.reverse ++ rest) (hW : (rest.map fun v => v.category).sum ≤ 8) (hdg : decode cc pc = .ok (.invokestatic index, 3)) (hf : cells + mc ≤ R.cells ∧ slots + ms ≤ R.slots) :
    va_Run p l e R s m args below meth c H locs cells slots mc ms (F0 m pc ls st0) rest (Qf H.size As.toArray) (AA k H.size) :=
  va_runSN X (hM H.size) cw (q_preS w As) rfl hn hsz hst (lv_room (rest := st0) hW) hdg hf
theorem q_calli {post : Int32 → hS → Prop} (w : WX k s H locs h) (hr : va_Run p l e R s m args below meth c H locs cells slots mc ms (F0 m pc ls st0) rest (QI k post H.size a) (AA k H.size))
    (kk : ∀ (r : Int32) (h' : hS) (H : Heap) (locs : List Loc), post r h' → WX k s H locs h' → W p l e R s m args below meth c H locs (cells + mc) (slots + ms) Q (F0 m (pc + 3) ls (.int r :: rest))) : W p l e R s m args below meth c H locs cells slots Q (F0 m pc ls st0) :=
  va_calli hr w.2.2.2.1 (fun q _ hq => w.AA q hq) (fun q hq => w.AA q hq) (fun r u t H1 l1 ht _ hp hB _ _ hS => kk r u H1 l1 hp ⟨by rw [← ht]; exact hB, w.2.1, w.2.2.1, hS, w.2.2.2.2⟩)
theorem q_calll {post : Int64 → hS → Prop} (w : WX k s H locs h) (hr : va_Run p l e R s m args below meth c H locs cells slots mc ms (F0 m pc ls st0) rest (QL k post H.size a) (AA k H.size))
    (kk : ∀ (r : Int64) (h' : hS) (H : Heap) (locs : List Loc), post r h' → WX k s H locs h' → W p l e R s m args below meth c H locs (cells + mc) (slots + ms) Q (F0 m (pc + 3) ls (.long r :: rest))) : W p l e R s m args below meth c H locs cells slots Q (F0 m pc ls st0) :=
  va_calll hr w.2.2.2.1 (fun q _ hq => w.AA q hq) (fun q hq => w.AA q hq) (fun r u t H1 l1 ht _ hp hB _ _ hS => kk r u H1 l1 hp ⟨by rw [← ht]; exact hB, w.2.1, w.2.2.1, hS, w.2.2.2.2⟩)
theorem q_calld {post : UInt64 → hS → Prop} (w : WX k s H locs h) (hr : va_Run p l e R s m args below meth c H locs cells slots mc ms (F0 m pc ls st0) rest (QD k post H.size a) (AA k H.size))
    (kk : ∀ (r : UInt64) (h' : hS) (H : Heap) (locs : List Loc), post r h' → WX k s H locs h' → W p l e R s m args below meth c H locs (cells + mc) (slots + ms) Q (F0 m (pc + 3) ls (.double r :: rest))) : W p l e R s m args below meth c H locs cells slots Q (F0 m pc ls st0) :=
  va_calld hr w.2.2.2.1 (fun q _ hq => w.AA q hq) (fun q hq => w.AA q hq) (fun r u t H1 l1 ht _ hp hB _ _ hS => kk r u H1 l1 hp ⟨by rw [← ht]; exact hB, w.2.1, w.2.2.1, hS, w.2.2.2.2⟩)
theorem q_callv {post : hS → Prop} (w : WX k s H locs h) (hr : va_Run p l e R s m args below meth c H locs cells slots mc ms (F0 m pc ls st0) rest (QV k post H.size a) (AA k H.size))
    (kk : ∀ (h' : hS) (H : Heap) (locs : List Loc), post h' → WX k s H locs h' → W p l e R s m args below meth c H locs (cells + mc) (slots + ms) Q (F0 m (pc + 3) ls rest)) : W p l e R s m args below meth c H locs cells slots Q (F0 m pc ls st0) :=
  va_callv hr w.2.2.2.1 (fun q _ hq => w.AA q hq) (fun q hq => w.AA q hq) (fun u t H1 l1 ht _ hp hB _ _ hS => kk u H1 l1 hp ⟨by rw [← ht]; exact hB, w.2.1, w.2.2.1, hS, w.2.2.2.2⟩)
theorem q_callr {post : Nat × hS → Prop} (w : WX k s H locs h) (hr : va_Run p l e R s m args below meth c H locs cells slots mc ms (F0 m pc ls st0) rest (QR k post H.size a) (AA k H.size))
    (kk : ∀ (i : Nat) (h' : hS) (H : Heap) (locs : List Loc), post (i, h') → WX k s H locs h' → W p l e R s m args below meth c H locs (cells + mc) (slots + ms) Q (F0 m (pc + 3) ls (.ref (k.2.1 i) :: rest))) : W p l e R s m args below meth c H locs cells slots Q (F0 m pc ls st0) :=
  va_callr hr w.2.2.2.1 (fun q _ hq => w.AA q hq) (fun q hq => w.AA q hq) (fun u ra t H1 l1 ht _ hp hB _ _ hS => by
    obtain ⟨i, h'⟩ := u
    obtain ⟨e1, hB⟩ := hB
    subst e1
    exact kk i h' H1 l1 hp ⟨by rw [← ht]; exact hB, w.2.1, w.2.2.1, hS, w.2.2.2.2⟩)
end QCALLS
section QSTARTS
variable {l : Launch} {k : kY} {y : MethodName} {ws ws' : List Cond} {rm : Room} {av : List Value} {h : hS} {mc ms : Nat} {cc : ByteArray} {maxL : Nat} {ret : Option FieldType} {ty : FieldType} {postX : String → hS → Prop}
theorem q_metI {post : Int32 → hS → Prop} (hy : plainName y.cls = true) (hw : ws = Cond.code y cc maxL ret :: ws') (hret : ret = some ty) (hav : (lg_sl av).length ≤ maxL)
    (body : ∀ (p : Program) (e : Env) (s : State) (m : MethodId) (args : Array Value) (below : List Frame) (meth : Method) (c : Code) (Q : State → Prop) (ls : Array Slot), CallFix p m c cc maxL s args ws y.cls → WX k s s.heap [] h → lv_has ls maxL (lv_args 0 av) →
      (∀ (pc : Nat) (ls : Array Slot) (H : Heap) (locs : List Loc) (r : Int32) (h' : hS) (cells slots : Nat), decode cc pc = .ok (.ireturn, 1) → WX k s H locs h' → narrow ty (.int r) = .int r → post r h' → cells ≤ mc → slots ≤ ms → W p l e rm s m args below meth c H locs cells slots Q (F0 m pc ls [.int r])) →
      W p l e rm s m args below meth c s.heap [] 0 0 Q (F0 m 0 ls [])) : CT l k y ws rm av h (QI k post) mc ms := by
  intro sz
  refine Met.ofW (cc := cc) (maxL := maxL) (ret := ret) hy hw ?_
  intro p e s m args below meth c s₁ B hml hv
  obtain ⟨rfl, hwp⟩ := hv
  obtain ⟨hsz, -⟩ := id hwp
  subst hsz
  rw [lg_entry_eq]
  refine body p e s m _ below meth c _ _ ⟨B.exec, B.bytes, hml, findClass_of_methodNamed B.named, atoms_spec (ws := ws) B.pre⟩ hwp.start (lv_entry av hav) ?_
  intro pc ls H locs r h' cells slots hd w hn hp hc hs
  exact W.widen hc hs (W.zret B.exec B.bytes (B.returns.trans hret) hn (fun t ht _ => ⟨⟨r, h', rfl, hp, by show va_P _ _ _ t.heap; rw [ht]; exact w.1⟩, w.2.2.2.1.F ht⟩) w.2.2.2.1.2.2 hd B.notSynchronized)
theorem q_metL {post : Int64 → hS → Prop} (hy : plainName y.cls = true) (hw : ws = Cond.code y cc maxL (some .long) :: ws') (hav : (lg_sl av).length ≤ maxL)
    (body : ∀ (p : Program) (e : Env) (s : State) (m : MethodId) (args : Array Value) (below : List Frame) (meth : Method) (c : Code) (Q : State → Prop) (ls : Array Slot), CallFix p m c cc maxL s args ws y.cls → WX k s s.heap [] h → lv_has ls maxL (lv_args 0 av) →
      (∀ (pc : Nat) (ls : Array Slot) (H : Heap) (locs : List Loc) (r : Int64) (h' : hS) (cells slots : Nat), decode cc pc = .ok (.lreturn, 1) → WX k s H locs h' → post r h' → cells ≤ mc → slots ≤ ms → W p l e rm s m args below meth c H locs cells slots Q (F0 m pc ls [.long r])) →
      W p l e rm s m args below meth c s.heap [] 0 0 Q (F0 m 0 ls [])) : CT l k y ws rm av h (QL k post) mc ms := by
  intro sz
  refine Met.ofW (cc := cc) (maxL := maxL) (ret := some .long) hy hw ?_
  intro p e s m args below meth c s₁ B hml hv
  obtain ⟨rfl, hwp⟩ := hv
  obtain ⟨hsz, -⟩ := id hwp
  subst hsz
  rw [lg_entry_eq]
  refine body p e s m _ below meth c _ _ ⟨B.exec, B.bytes, hml, findClass_of_methodNamed B.named, atoms_spec (ws := ws) B.pre⟩ hwp.start (lv_entry av hav) ?_
  intro pc ls H locs r h' cells slots hd w hp hc hs
  exact W.widen hc hs (W.lret B.exec B.bytes B.returns (fun t ht _ => ⟨⟨r, h', rfl, hp, by show va_P _ _ _ t.heap; rw [ht]; exact w.1⟩, w.2.2.2.1.F ht⟩) w.2.2.2.1.2.2 hd B.notSynchronized)
theorem q_metV {post : hS → Prop} (hy : plainName y.cls = true) (hw : ws = Cond.code y cc maxL none :: ws') (hav : (lg_sl av).length ≤ maxL)
    (body : ∀ (p : Program) (e : Env) (s : State) (m : MethodId) (args : Array Value) (below : List Frame) (meth : Method) (c : Code) (Q : State → Prop) (ls : Array Slot), CallFix p m c cc maxL s args ws y.cls → WX k s s.heap [] h → lv_has ls maxL (lv_args 0 av) →
      (∀ (pc : Nat) (ls : Array Slot) (H : Heap) (locs : List Loc) (h' : hS) (cells slots : Nat), decode cc pc = .ok (.return_, 1) → WX k s H locs h' → post h' → cells ≤ mc → slots ≤ ms → W p l e rm s m args below meth c H locs cells slots Q (F0 m pc ls [])) →
      W p l e rm s m args below meth c s.heap [] 0 0 Q (F0 m 0 ls [])) : CT l k y ws rm av h (QV k post) mc ms := by
  intro sz
  refine Met.ofW (cc := cc) (maxL := maxL) (ret := none) hy hw ?_
  intro p e s m args below meth c s₁ B hml hv
  obtain ⟨rfl, hwp⟩ := hv
  obtain ⟨hsz, -⟩ := id hwp
  subst hsz
  rw [lg_entry_eq]
  refine body p e s m _ below meth c _ _ ⟨B.exec, B.bytes, hml, findClass_of_methodNamed B.named, atoms_spec (ws := ws) B.pre⟩ hwp.start (lv_entry av hav) ?_
  intro pc ls H locs h' cells slots hd w hp hc hs
  exact W.widen hc hs (W.vret B.exec B.bytes B.returns (fun t ht _ => ⟨⟨h', rfl, hp, by show va_P _ _ _ t.heap; rw [ht]; exact w.1⟩, w.2.2.2.1.F ht⟩) w.2.2.2.1.2.2 hd B.notSynchronized)
theorem q_metD {post : UInt64 → hS → Prop} (hy : plainName y.cls = true) (hw : ws = Cond.code y cc maxL (some .double) :: ws') (hav : (lg_sl av).length ≤ maxL)
    (body : ∀ (p : Program) (e : Env) (s : State) (m : MethodId) (args : Array Value) (below : List Frame) (meth : Method) (c : Code) (Q : State → Prop) (ls : Array Slot), CallFix p m c cc maxL s args ws y.cls → WX k s s.heap [] h → lv_has ls maxL (lv_args 0 av) →
      (∀ (pc : Nat) (ls : Array Slot) (H : Heap) (locs : List Loc) (r : UInt64) (h' : hS) (cells slots : Nat), decode cc pc = .ok (.dreturn, 1) → WX k s H locs h' → post r h' → cells ≤ mc → slots ≤ ms → W p l e rm s m args below meth c H locs cells slots Q (F0 m pc ls [.double r])) →
      W p l e rm s m args below meth c s.heap [] 0 0 Q (F0 m 0 ls [])) : CT l k y ws rm av h (QD k post) mc ms := by
  intro sz
  refine Met.ofW (cc := cc) (maxL := maxL) (ret := some .double) hy hw ?_
  intro p e s m args below meth c s₁ B hml hv
  obtain ⟨rfl, hwp⟩ := hv
  obtain ⟨hsz, -⟩ := id hwp
  subst hsz
  rw [lg_entry_eq]
  refine body p e s m _ below meth c _ _ ⟨B.exec, B.bytes, hml, findClass_of_methodNamed B.named, atoms_spec (ws := ws) B.pre⟩ hwp.start (lv_entry av hav) ?_
  intro pc ls H locs r h' cells slots hd w hp hc hs
  exact W.widen hc hs (W.dret B.exec B.bytes B.returns (fun t ht _ => ⟨⟨r, h', rfl, hp, by show va_P _ _ _ t.heap; rw [ht]; exact w.1⟩, w.2.2.2.1.F ht⟩) w.2.2.2.1.2.2 hd B.notSynchronized)
theorem q_metR {post : Nat × hS → Prop} {cn : String} (hy : plainName y.cls = true) (hw : ws = Cond.code y cc maxL (some (.object cn)) :: ws') (hav : (lg_sl av).length ≤ maxL)
    (body : ∀ (p : Program) (e : Env) (s : State) (m : MethodId) (args : Array Value) (below : List Frame) (meth : Method) (c : Code) (Q : State → Prop) (ls : Array Slot), CallFix p m c cc maxL s args ws y.cls → WX k s s.heap [] h → lv_has ls maxL (lv_args 0 av) →
      (∀ (pc : Nat) (ls : Array Slot) (H : Heap) (locs : List Loc) (i : Nat) (h' : hS) (cells slots : Nat), decode cc pc = .ok (.areturn, 1) → WX k s H locs h' → post (i, h') → cells ≤ mc → slots ≤ ms → W p l e rm s m args below meth c H locs cells slots Q (F0 m pc ls [.ref (k.2.1 i)])) →
      W p l e rm s m args below meth c s.heap [] 0 0 Q (F0 m 0 ls [])) : CT l k y ws rm av h (QR k post) mc ms := by
  intro sz
  refine Met.ofW (cc := cc) (maxL := maxL) (ret := some (.object cn)) hy hw ?_
  intro p e s m args below meth c s₁ B hml hv
  obtain ⟨rfl, hwp⟩ := hv
  obtain ⟨hsz, -⟩ := id hwp
  subst hsz
  rw [lg_entry_eq]
  refine body p e s m _ below meth c _ _ ⟨B.exec, B.bytes, hml, findClass_of_methodNamed B.named, atoms_spec (ws := ws) B.pre⟩ hwp.start (lv_entry av hav) ?_
  intro pc ls H locs i h' cells slots hd w hp hc hs
  exact W.widen hc hs (W.aret B.exec B.bytes B.returns (Or.inl ⟨cn, rfl⟩) (Or.inr ⟨_, rfl⟩) (fun t ht _ => ⟨⟨(i, h'), k.2.1 i, rfl, hp, rfl, by show va_P _ _ _ t.heap; rw [ht]; exact w.1⟩, w.2.2.2.1.F ht⟩) w.2.2.2.1.2.2 hd B.notSynchronized)
end QSTARTS
