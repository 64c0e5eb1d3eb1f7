/-! METHODS THAT THROW, in the words of part 02 -/
abbrev xN : List String := ["java/lang/RuntimeException", "java/lang/Exception"]
def xB (X : String) : List Cond := [.castable X X, .declares (Bundle.initS "java/lang/RuntimeException"), .declares (Bundle.initS "java/lang/Exception"), .declares (Bundle.initS Bundle.tN)]
/-- what a throw of X by way of the entries ik, ic asks of the words -/
def xF (ik ic : Nat) (X : String) : Prop := Bundle.fit X = true ∧ (∀ n ∈ xN, Bundle.fit n = true) ∧ (∀ w ∈ (vx_atS RX4 ic X xN).filter (fun w => !goodWord w), w ∈ xB X) ∧ (∀ w ∈ Cond.classLink RX4 ik X :: Cond.initialized X :: vx_atS RX4 ic X xN, vx_ot w = true) ∧ X ∈ cLk
theorem xF_IO : xF 224 228 xIO := ⟨by decide +kernel, by decide +kernel, by decide +kernel, by decide +kernel, by decide +kernel⟩
theorem xF_IA : xF 147 151 xIA := ⟨by decide +kernel, by decide +kernel, by decide +kernel, by decide +kernel, by decide +kernel⟩
theorem xF_IS : xF 64 68 xIS := ⟨by decide +kernel, by decide +kernel, by decide +kernel, by decide +kernel, by decide +kernel⟩
section QX
variable {p : Program} {l : Launch} {e : Env} {R : Room} {s : State} {m : MethodId} {args : Array Value} {below : List Frame} {meth : Method} {c : Code} {H : Heap} {locs : List Loc} {cells slots : Nat} {Q : State → Prop} {k : kY} {h : hS} {cc : ByteArray} {nL pc : Nat} {Ts : List Cond} {own : String} {ls : Array Slot} {rest st0 : List Value}
variable {y : MethodName} {bytes : ByteArray} {maxL mc ms mcA msA n index : Nat} {ret : Option FieldType} {ws : List Cond} {rm : Room} {Qf : Nat → Array Value → State → Outcome → State → Prop} {Qc : Array Value → State → Outcome → State → Prop} {postX postX1 : String → hS → Prop} {As : List Value} {a : Array Value}
theorem WX.keep {H1 : Heap} {t : State} (w : WX k s H locs h) (ht : H.size ≤ t.heap.size) (hk : ∀ q : Nat, q < H.size → t.heap[q]? = H[q]?) : va_P k.1 vwCl (hW k h) t.heap := by
  refine w.1.kept (fun i q hq => ?_)
  exact hk q.1 (w.1 i q hq).lt
theorem q_throw (X : CallFix p m c cc nL s args Ts RX4) (w : WX k s H locs h) (hl : l.stackTraces = false) (hQ : vx_MQ below Qc (XQ k postX s.heap.size) args s mc ms (AA k s.heap.size) = Q) (hnh : ∀ x ∈ c.exceptionTable.toList, False) (hlocks : meth.locks = false)
    {cls text : String} {ik is ic : Nat} (hf : xF ik ic cls) (hk : Cond.classLink RX4 ik cls ∈ Ts) (hini : Cond.initialized cls ∈ Ts) (hstr : (is, text) ∈ sLk) (hin : ∀ w ∈ (vx_atS RX4 ic cls xN).filter goodWord, w ∈ Ts) (hsz : ls.size = nL)
    (d0 : decode cc pc = .ok (.new ik, 3)) (d3 : decode cc (pc + 3) = .ok (.dup, 1)) (d4 : decode cc (pc + 4) = .ok (.ldc is, 2)) (d6 : decode cc (pc + 6) = .ok (.invokespecial ic, 3)) (d9 : decode cc (pc + 9) = .ok (.athrow, 1))
    (hRf : 5 < R.frames) (hRl : (rest.map fun v => v.category).sum + 82 ≤ R.locals) (hRc : cells + 1 ≤ R.cells) (hRs : slots + 6 ≤ R.slots) (hp : postX cls h) (hc : cells + 1 ≤ mc) (hs : slots + 6 ≤ ms) :
    W p l e R s m args below meth c H locs cells slots Q (F0 m pc ls rest) := by
  obtain ⟨f1, f2, f3, f4, f5⟩ := hf
  obtain ⟨sa, hsa⟩ := w.2.2.2.2.2.1 (is, text) hstr
  rw [← hQ]
  have hat : ∀ w ∈ vx_atS RX4 ic cls xN, w.before args s = true := by
    refine vx_hat (B := xB cls) (fun v hv => X.2.2.2.2 v (hin v hv)) f3 ?_
    exact vx_c (va_Nw.use rfl (w.2.2.2.2.2.2.2.2.1 cls f5)) (vx_c (va_Nw.use rfl (w.2.2.2.2.2.2.2.2.2.1 _ (by decide +kernel))) (vx_c (va_Nw.use rfl (w.2.2.2.2.2.2.2.2.2.1 _ (by decide +kernel))) (vx_c (va_Nw.use rfl (w.2.2.2.2.2.2.2.2.2.1 _ (by decide +kernel))) vx_n)))
  exact vx_throwS (names := xN) (A := AA k s.heap.size) X.1 X.2.1 hl X.2.2.2.1 f1 f2 (X.2.2.2.2 _ hk) (X.2.2.2.2 _ hini) hsa hat f4 w.2.2.2.2.2.2.1 w.2.2.2.2.2.2.2.1 w.2.2.2.1 (hsz.trans X.2.2.1.symm) d0 d3 d4 d6 d9 (fun x hx => (hnh x hx).elim) hRf hRl hRc hRs hlocks
    (fun t _ ht hq => ⟨h, trivial, ⟨hp, WX.keep (H1 := H) w ht hq⟩, Nat.le_trans w.2.2.2.1.1 ht, fun q hq1 hq2 => by rw [hq q (Nat.lt_of_lt_of_le hq1 w.2.2.2.1.1)]; exact w.2.2.2.1.2.1 q hq1 hq2⟩)
    w.2.2.2.1.2.2 hc hs
theorem q_xrunV (X : CallFix p m c cc nL s args Ts own) (w : WX k s H locs h) (i : Nat) {ci N : Nat} {fs : List Value} {C : String} {T : u_T} (hM : CX l k y ws rm (.ref (k.2.1 i) :: As) h Qf postX1 mc ms) (cw : CallW R s args own C index y bytes maxL ret ws rm mc ms n) (hi : i < 97) (he : hE k h i = .inr (ci, fs)) (hc : vwCl[ci]? = some (C, T, N)) (hn : As.length = n) (hsz : ls.size = nL) (hst : st0 = As.reverse ++ .ref (k.2.1 i) :: rest) (hW : (rest.map fun v => v.category).sum ≤ 8) (hdg : decode cc pc = .ok (.invokevirtual index, 3)) (hf : cells + mc ≤ R.cells ∧ slots + ms ≤ R.slots) :
    vx_Run p l e R s m args below meth c H locs cells slots mc ms (F0 m pc ls st0) rest (Qf H.size (Value.ref (k.2.1 i) :: As).toArray) (XQ k postX1 H.size) (AA k H.size) :=
  vx_runV X (hM H.size) cw (q_preV w hi he hc) rfl hn hsz hst (lv_room (rest := st0) hW) hdg hf
theorem q_xrunS (X : CallFix p m c cc nL s args Ts own) (w : WX k s H locs h) (hM : CX l k y ws rm As h Qf postX1 mc ms) (cw : CallB R s args own index y bytes maxL ret ws rm mc ms n ∧ (Cond.static y).before args s = true) (hn : As.length = n) (hsz : ls.size = nL) (hst : st0 = As.reverse ++ rest) (hW : (rest.map fun v => v.category).sum ≤ 8) (hdg : decode cc pc = .ok (.invokestatic index, 3)) (hf : cells + mc ≤ R.cells ∧ slots + ms ≤ R.slots) :
    vx_Run p l e R s m args below meth c H locs cells slots mc ms (F0 m pc ls st0) rest (Qf H.size As.toArray) (XQ k postX1 H.size) (AA k H.size) :=
  vx_runS X (hM H.size) cw (q_preS w As) rfl hn hsz hst (lv_room (rest := st0) hW) hdg hf
/-- an exception that a callee throws goes on to the caller -/
theorem q_out (w : WX k s H locs h) (hQ : vx_MQ below Qc (XQ k postX s.heap.size) args s mcA msA (AA k s.heap.size) = Q) (hnh : ∀ x ∈ c.exceptionTable.toList, False) (hlocks : meth.locks = false) {E : String} {ce : Cell} {q : Addr} (hp : postX E h) (hcell : H[q]? = some ce) (hv : ce.vm = .none) (hcl : s.vm.findClass E = some ce.cls) (hc : cells ≤ mcA) (hs : slots ≤ msA) :
    vx_W p l e R s m args below meth c H locs cells slots Q (F0 m pc ls rest) q := by
  rw [← hQ]
  exact vx_out (fun x hx => (hnh x hx).elim) hlocks hcell hv hcl (fun t ht _ => ⟨h, trivial, ⟨hp, by show va_P _ _ _ t.heap; rw [ht]; exact w.1⟩, w.2.2.2.1.F ht⟩) w.2.2.2.1.2.2 hc hs
theorem q_xcallv {post : hS → Prop} (w : WX k s H locs h) (hr : vx_Run p l e R s m args below meth c H locs cells slots mc ms (F0 m pc ls st0) rest (QV k post H.size a) (XQ k postX1 H.size) (AA k H.size))
    (kx : ∀ (E : String) (ce : Cell) (q : Addr) (h' : hS) (H : Heap) (locs : List Loc), postX1 E h' → WX k s H locs h' → H[q]? = some ce → ce.vm = .none → s.vm.findClass E = some ce.cls → vx_W p l e R s m args below meth c H locs (cells + mc) (slots + ms) Q (F0 m pc ls rest) q)
    (kk : ∀ (h' : hS) (H : Heap) (locs : List Loc), post h' → WX k s H locs h' → W p l e R s m args below meth c H locs (cells + mc) (slots + ms) Q (F0 m (pc + 3) ls rest)) : W p l e R s m args below meth c H locs cells slots Q (F0 m pc ls st0) :=
  vx_callv hr w.2.2.2.1 (fun q _ hq => w.AA q hq) (fun q hq => w.AA q hq) (fun q _ hq => w.AA q hq)
    (fun E ce q9 u t H1 l1 ht _ _ hB _ _ hS h1 h2 h3 => kx E ce q9 u H1 l1 hB.1 ⟨by rw [← ht]; exact hB.2, w.2.1, w.2.2.1, hS, w.2.2.2.2⟩ h1 h2 h3)
    (fun u t H1 l1 ht _ hp hB _ _ hS => kk u H1 l1 hp ⟨by rw [← ht]; exact hB, w.2.1, w.2.2.1, hS, w.2.2.2.2⟩)
theorem q_xcalli {post : Int32 → hS → Prop} (w : WX k s H locs h) (hr : vx_Run p l e R s m args below meth c H locs cells slots mc ms (F0 m pc ls st0) rest (QI k post H.size a) (XQ k postX1 H.size) (AA k H.size))
    (kx : ∀ (E : String) (ce : Cell) (q : Addr) (h' : hS) (H : Heap) (locs : List Loc), postX1 E h' → WX k s H locs h' → H[q]? = some ce → ce.vm = .none → s.vm.findClass E = some ce.cls → vx_W p l e R s m args below meth c H locs (cells + mc) (slots + ms) Q (F0 m pc ls rest) q)
    (kk : ∀ (r : Int32) (h' : hS) (H : Heap) (locs : List Loc), post r h' → WX k s H locs h' → W p l e R s m args below meth c H locs (cells + mc) (slots + ms) Q (F0 m (pc + 3) ls (.int r :: rest))) : W p l e R s m args below meth c H locs cells slots Q (F0 m pc ls st0) :=
  vx_calli hr w.2.2.2.1 (fun q _ hq => w.AA q hq) (fun q hq => w.AA q hq) (fun q _ hq => w.AA q hq)
    (fun E ce q9 u t H1 l1 ht _ _ hB _ _ hS h1 h2 h3 => kx E ce q9 u H1 l1 hB.1 ⟨by rw [← ht]; exact hB.2, w.2.1, w.2.2.1, hS, w.2.2.2.2⟩ h1 h2 h3)
    (fun r u t H1 l1 ht _ hp hB _ _ hS => kk r u H1 l1 hp ⟨by rw [← ht]; exact hB, w.2.1, w.2.2.1, hS, w.2.2.2.2⟩)
theorem q_xcalll {post : Int64 → hS → Prop} (w : WX k s H locs h) (hr : vx_Run p l e R s m args below meth c H locs cells slots mc ms (F0 m pc ls st0) rest (QL k post H.size a) (XQ k postX1 H.size) (AA k H.size))
    (kx : ∀ (E : String) (ce : Cell) (q : Addr) (h' : hS) (H : Heap) (locs : List Loc), postX1 E h' → WX k s H locs h' → H[q]? = some ce → ce.vm = .none → s.vm.findClass E = some ce.cls → vx_W p l e R s m args below meth c H locs (cells + mc) (slots + ms) Q (F0 m pc ls rest) q)
    (kk : ∀ (r : Int64) (h' : hS) (H : Heap) (locs : List Loc), post r h' → WX k s H locs h' → W p l e R s m args below meth c H locs (cells + mc) (slots + ms) Q (F0 m (pc + 3) ls (.long r :: rest))) : W p l e R s m args below meth c H locs cells slots Q (F0 m pc ls st0) :=
  vx_calll hr w.2.2.2.1 (fun q _ hq => w.AA q hq) (fun q hq => w.AA q hq) (fun q _ hq => w.AA q hq)
    (fun E ce q9 u t H1 l1 ht _ _ hB _ _ hS h1 h2 h3 => kx E ce q9 u H1 l1 hB.1 ⟨by rw [← ht]; exact hB.2, w.2.1, w.2.2.1, hS, w.2.2.2.2⟩ h1 h2 h3)
    (fun r u t H1 l1 ht _ hp hB _ _ hS => kk r u H1 l1 hp ⟨by rw [← ht]; exact hB, w.2.1, w.2.2.1, hS, w.2.2.2.2⟩)
theorem q_xcalld {post : UInt64 → hS → Prop} (w : WX k s H locs h) (hr : vx_Run p l e R s m args below meth c H locs cells slots mc ms (F0 m pc ls st0) rest (QD k post H.size a) (XQ k postX1 H.size) (AA k H.size))
    (kx : ∀ (E : String) (ce : Cell) (q : Addr) (h' : hS) (H : Heap) (locs : List Loc), postX1 E h' → WX k s H locs h' → H[q]? = some ce → ce.vm = .none → s.vm.findClass E = some ce.cls → vx_W p l e R s m args below meth c H locs (cells + mc) (slots + ms) Q (F0 m pc ls rest) q)
    (kk : ∀ (r : UInt64) (h' : hS) (H : Heap) (locs : List Loc), post r h' → WX k s H locs h' → W p l e R s m args below meth c H locs (cells + mc) (slots + ms) Q (F0 m (pc + 3) ls (.double r :: rest))) : W p l e R s m args below meth c H locs cells slots Q (F0 m pc ls st0) :=
  vx_calld hr w.2.2.2.1 (fun q _ hq => w.AA q hq) (fun q hq => w.AA q hq) (fun q _ hq => w.AA q hq)
    (fun E ce q9 u t H1 l1 ht _ _ hB _ _ hS h1 h2 h3 => kx E ce q9 u H1 l1 hB.1 ⟨by rw [← ht]; exact hB.2, w.2.1, w.2.2.1, hS, w.2.2.2.2⟩ h1 h2 h3)
    (fun r u t H1 l1 ht _ hp hB _ _ hS => kk r u H1 l1 hp ⟨by rw [← ht]; exact hB, w.2.1, w.2.2.1, hS, w.2.2.2.2⟩)
theorem q_xcallr {post : Nat × hS → Prop} (w : WX k s H locs h) (hr : vx_Run p l e R s m args below meth c H locs cells slots mc ms (F0 m pc ls st0) rest (QR k post H.size a) (XQ k postX1 H.size) (AA k H.size))
    (kx : ∀ (E : String) (ce : Cell) (q : Addr) (h' : hS) (H : Heap) (locs : List Loc), postX1 E h' → WX k s H locs h' → H[q]? = some ce → ce.vm = .none → s.vm.findClass E = some ce.cls → vx_W p l e R s m args below meth c H locs (cells + mc) (slots + ms) Q (F0 m pc ls rest) q)
    (kk : ∀ (i : Nat) (h' : hS) (H : Heap) (locs : List Loc), post (i, h') → WX k s H locs h' → W p l e R s m args below meth c H locs (cells + mc) (slots + ms) Q (F0 m (pc + 3) ls (.ref (k.2.1 i) :: rest))) : W p l e R s m args below meth c H locs cells slots Q (F0 m pc ls st0) := by
  intro T hT X
  rcases hr T hT X with ⟨v, st₀, t, T', L, h0, X', hL, e1, e2, ⟨⟨u, ra, hv, hp, hb⟩, hF⟩, st⟩ | ⟨q, st₀, t, T', L, E, ce, h0, X', hL, e1, e2, ⟨u, hp, hb, hF⟩, hce, hcv, hcl, st⟩
  · cases hv
    obtain ⟨i, h'⟩ := u
    obtain ⟨e9, hb⟩ := hb
    subst e9
    obtain ⟨k1, k2, k3⟩ := vx_keep h0 e1 w.2.2.2.1 (fun q _ hq => w.AA q hq) (fun q hq => w.AA q hq) hL hF
    obtain ⟨t2, a1, b1⟩ := kk i h' T'.heap (locs ++ L) hp ⟨by rw [e1]; exact hb, w.2.1, w.2.2.1, k3, w.2.2.2.2⟩ T' rfl X'
    exact ⟨t2, st t2 a1, b1⟩
  · obtain ⟨k1, k2, k3⟩ := vx_keep h0 e1 w.2.2.2.1 (fun q _ hq => w.AA q hq) (fun q hq => w.AA q hq) hL hF
    obtain ⟨t2, a1, b1⟩ := kx E ce q u T'.heap (locs ++ L) hb.1 ⟨by rw [e1]; exact hb.2, w.2.1, w.2.2.1, k3, w.2.2.2.2⟩ (by rw [e1]; exact hce) hcv hcl T' rfl X'
    exact ⟨t2, st.trans a1, b1⟩
end QX
section QXS
variable {l : Launch} {k : kY} {y : MethodName} {ws ws' : List Cond} {rm : Room} {av : List Value} {h : hS} {mc ms : Nat} {cc : ByteArray} {maxL : Nat} {ret : Option FieldType} {ty : FieldType} {postX : String → hS → Prop}
/-- the start of a method that may throw; its ends come as one word 'ends' -/
theorem q_xmet {Qf : Nat → Array Value → State → Outcome → State → Prop} (hy : plainName y.cls = true) (hw : ws = Cond.code y cc maxL ret :: ws') (hav : (lg_sl av).length ≤ maxL)
    (body : ∀ (p : Program) (e : Env) (s : State) (m : MethodId) (args : Array Value) (below : List Frame) (meth : Method) (c : Code) (Q : State → Prop) (ls : Array Slot), CallFix p m c cc maxL s args ws y.cls → (∀ x ∈ c.exceptionTable.toList, False) → meth.locks = false → meth.sig.returnType = ret → vx_MQ below (Qf s.heap.size) (XQ k postX s.heap.size) args s mc ms (AA k s.heap.size) = Q → WX k s s.heap [] h → lv_has ls maxL (lv_args 0 av) →
      W p l e rm s m args below meth c s.heap [] 0 0 Q (F0 m 0 ls [])) : CX l k y ws rm av h Qf postX mc ms := by
  intro sz
  refine vx_ofW (cc := cc) (maxL := maxL) (ret := ret) hy hw ?_
  intro p e s m args below meth c s₁ B hml hnh hv
  obtain ⟨rfl, hwp⟩ := hv
  obtain ⟨hsz, -⟩ := id hwp
  subst hsz
  rw [lg_entry_eq]
  exact body p e s m _ below meth c _ _ ⟨B.exec, B.bytes, hml, findClass_of_methodNamed B.named, atoms_spec (ws := ws) B.pre⟩ hnh B.notSynchronized B.returns rfl hwp.start (lv_entry av hav)
end QXS
section QXE
variable {p : Program} {l : Launch} {e : Env} {R : Room} {s : State} {m : MethodId} {args : Array Value} {below : List Frame} {meth : Method} {c : Code} {H : Heap} {locs : List Loc} {cells slots mc ms : Nat} {Q : State → Prop} {k : kY} {h : hS} {cc : ByteArray} {nL pc : Nat} {Ts : List Cond} {own : String} {ls : Array Slot} {postX : String → hS → Prop}
theorem q_xretI {post : Int32 → hS → Prop} {ty : FieldType} {r : Int32} (X : CallFix p m c cc nL s args Ts own) (w : WX k s H locs h) (hlocks : meth.locks = false) (hr : meth.sig.returnType = some ty) (hQ : vx_MQ below (QI k post s.heap.size) (XQ k postX s.heap.size) args s mc ms (AA k s.heap.size) = Q) (hd : decode cc pc = .ok (.ireturn, 1)) (hn : narrow ty (.int r) = .int r) (hp : post r h) (hc : cells ≤ mc) (hs : slots ≤ ms) : W p l e R s m args below meth c H locs cells slots Q (F0 m pc ls [.int r]) := by
  rw [← hQ]
  exact vx_ret (W.widen hc hs (W.zret X.1 X.2.1 hr hn (fun t ht _ => ⟨⟨r, h, rfl, hp, by show va_P _ _ _ t.heap; rw [ht]; exact w.1⟩, w.2.2.2.1.F ht⟩) w.2.2.2.1.2.2 hd hlocks))
theorem q_xretL {post : Int64 → hS → Prop} {r : Int64} (X : CallFix p m c cc nL s args Ts own) (w : WX k s H locs h) (hlocks : meth.locks = false) (hr : meth.sig.returnType = some .long) (hQ : vx_MQ below (QL k post s.heap.size) (XQ k postX s.heap.size) args s mc ms (AA k s.heap.size) = Q) (hd : decode cc pc = .ok (.lreturn, 1)) (hp : post r h) (hc : cells ≤ mc) (hs : slots ≤ ms) : W p l e R s m args below meth c H locs cells slots Q (F0 m pc ls [.long r]) := by
  rw [← hQ]
  exact vx_ret (W.widen hc hs (W.lret X.1 X.2.1 hr (fun t ht _ => ⟨⟨r, h, rfl, hp, by show va_P _ _ _ t.heap; rw [ht]; exact w.1⟩, w.2.2.2.1.F ht⟩) w.2.2.2.1.2.2 hd hlocks))
theorem q_xretD {post : UInt64 → hS → Prop} {r : UInt64} (X : CallFix p m c cc nL s args Ts own) (w : WX k s H locs h) (hlocks : meth.locks = false) (hr : meth.sig.returnType = some .double) (hQ : vx_MQ below (QD k post s.heap.size) (XQ k postX s.heap.size) args s mc ms (AA k s.heap.size) = Q) (hd : decode cc pc = .ok (.dreturn, 1)) (hp : post r h) (hc : cells ≤ mc) (hs : slots ≤ ms) : W p l e R s m args below meth c H locs cells slots Q (F0 m pc ls [.double r]) := by
  rw [← hQ]
  exact vx_ret (W.widen hc hs (W.dret X.1 X.2.1 hr (fun t ht _ => ⟨⟨r, h, rfl, hp, by show va_P _ _ _ t.heap; rw [ht]; exact w.1⟩, w.2.2.2.1.F ht⟩) w.2.2.2.1.2.2 hd hlocks))
theorem q_xretV {post : hS → Prop} (X : CallFix p m c cc nL s args Ts own) (w : WX k s H locs h) (hlocks : meth.locks = false) (hr : meth.sig.returnType = none) (hQ : vx_MQ below (QV k post s.heap.size) (XQ k postX s.heap.size) args s mc ms (AA k s.heap.size) = Q) (hd : decode cc pc = .ok (.return_, 1)) (hp : post h) (hc : cells ≤ mc) (hs : slots ≤ ms) : W p l e R s m args below meth c H locs cells slots Q (F0 m pc ls []) := by
  rw [← hQ]
  exact vx_ret (W.widen hc hs (W.vret X.1 X.2.1 hr (fun t ht _ => ⟨⟨h, rfl, hp, by show va_P _ _ _ t.heap; rw [ht]; exact w.1⟩, w.2.2.2.1.F ht⟩) w.2.2.2.1.2.2 hd hlocks))
theorem q_xretR {post : Nat × hS → Prop} {i : Nat} {cn : String} (X : CallFix p m c cc nL s args Ts own) (w : WX k s H locs h) (hlocks : meth.locks = false) (hr : meth.sig.returnType = some (.object cn)) (hQ : vx_MQ below (QR k post s.heap.size) (XQ k postX s.heap.size) args s mc ms (AA k s.heap.size) = Q) (hd : decode cc pc = .ok (.areturn, 1)) (hp : post (i, h)) (hc : cells ≤ mc) (hs : slots ≤ ms) : W p l e R s m args below meth c H locs cells slots Q (F0 m pc ls [.ref (k.2.1 i)]) := by
  rw [← hQ]
  exact vx_ret (W.widen hc hs (W.aret X.1 X.2.1 hr (Or.inl ⟨cn, rfl⟩) (Or.inr ⟨_, rfl⟩) (fun t ht _ => ⟨⟨(i, h), k.2.1 i, rfl, hp, rfl, by show va_P _ _ _ t.heap; rw [ht]; exact w.1⟩, w.2.2.2.1.F ht⟩) w.2.2.2.1.2.2 hd hlocks))
end QXE
