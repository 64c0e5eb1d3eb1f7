/-! ROWS OVER THE WORLD: an instruction, a call, a method's start and end, in the words of part 02 -/
section QROWS
variable {p : Program} {l : Launch} {e : Env} {R : Room} {s : State} {m : MethodId} {args : Array Value} {below : List Frame} {meth : Method} {c : Code} {H : Heap} {locs : List Loc} {cells slots : Nat} {Q : State → Prop} {k : kY} {h : hS} {cc : ByteArray} {nL pc : Nat} {Ts : List Cond} {own : String} {ls : Array Slot} {rest : List Value}
theorem q_get (X : CallFix p m c cc nL s args Ts own) (w : WX k s H locs h) (i j : Nat) {ci N index : Nat} {C : String} {T : u_T} {fs : List Value} (hi : i < 97) (he : hE k h i = .inr (ci, fs)) (hc : vwCl[ci]? = some (C, T, N)) (hin : ∀ w ∈ u_ws C T N, w ∈ Ts) (hj : j < N) (hl : Cond.fieldLink own index (T j).1 (T j).2.1 (T j).2.2.1 ∈ Ts) {v : Value} (hv : fs[j]? = some v) (hdg : decode cc pc = .ok (.getfield index, 3))
    (kk : W p l e R s m args below meth c H locs cells slots Q (F0 m (pc + 3) ls (v :: rest))) : W p l e R s m args below meth c H locs cells slots Q (F0 m pc ls (.ref (k.2.1 i) :: rest)) :=
  va_get X.1 X.2.1 X.2.2.2.2 hin X.2.2.2.1 w.2.1 w.1 i (by rw [hW_at k h hi, he]) hc j hj (X.2.2.2.2 _ hl) (fun _ q => q) hv hdg kk
theorem q_put (X : CallFix p m c cc nL s args Ts own) (w : WX k s H locs h) (i j : Nat) {ci N index : Nat} {C : String} {T : u_T} {fs : List Value} {ty0 : Nat → FieldType} (ty : FieldType) {x : Int32} (hi : i < 97) (he : hE k h i = .inr (ci, fs)) (he2 : hE k (upI h i j x) i = .inr (ci, fs.set j (.int x))) (hc : vwCl[ci]? = some (C, T, N)) (hin : ∀ w ∈ u_ws C T N, w ∈ Ts) (hty : ∀ k, k < N → parseFieldDescriptor (T k).2.2.1 = some (ty0 k)) (hnm : ∀ a, a < N → ∀ b, b < N → a ≠ b → (T a).2.1 ≠ (T b).2.1) (hj : j < N) (hl : Cond.fieldLink own index (T j).1 (T j).2.1 (T j).2.2.1 ∈ Ts) (hfin : (T j).2.2.2 = false) (hd : parseFieldDescriptor (T j).2.2.1 = some ty) (hn : narrow ty (.int x) = .int x) (hfit : fits ty (.int x) = true) (hlen : j < fs.length) (hdg : decode cc pc = .ok (.putfield index, 3))
    (kk : ∀ (H : Heap) (locs : List Loc), WX k s H locs (upI h i j x) → W p l e R s m args below meth c H locs cells slots Q (F0 m (pc + 3) ls rest)) : W p l e R s m args below meth c H locs cells slots Q (F0 m pc ls (.int x :: .ref (k.2.1 i) :: rest)) :=
  va_put X.1 X.2.1 X.2.2.2.2 hin ty0 hty hnm X.2.2.2.1 w.2.1 w.1 (w.2.2.1.D h s.heap.size) w.2.2.2.1 i (by rw [hW_at k h hi, he]) hc j hj (X.2.2.2.2 _ hl) (fun _ q => q) hfin hd hn hfit hlen hdg
    (fun H1 l1 hP _ hS => kk H1 l1 ⟨by rw [hW_set (h' := upI h i j x) hi he2 (fun a ha => hE_upI k h j x ha)] at hP; exact hP, w.2.1, w.2.2.1, hS, w.2.2.2.2⟩)
theorem q_putL (X : CallFix p m c cc nL s args Ts own) (w : WX k s H locs h) {index : Nat} {x : Int64} (hin : ∀ w ∈ u_ws RX5 TX5 6, w ∈ Ts) (hl : Cond.fieldLink own index (TX5 5).1 (TX5 5).2.1 (TX5 5).2.2.1 ∈ Ts) (hdg : decode cc pc = .ok (.putfield index, 3))
    (kk : ∀ (H : Heap) (locs : List Loc), WX k s H locs (upL h 91 5 x) → W p l e R s m args below meth c H locs cells slots Q (F0 m (pc + 3) ls rest)) : W p l e R s m args below meth c H locs cells slots Q (F0 m pc ls (.long x :: .ref (k.2.1 91) :: rest)) :=
  va_put (ci := 5) (ty := .long) (fs := fX5 k (h.1 91) (h.2.1 91)) X.1 X.2.1 X.2.2.2.2 hin tyX5 tyX5_ok nmX5 X.2.2.2.1 w.2.1 w.1 (w.2.2.1.D h s.heap.size) w.2.2.2.1 91 (hW_at k h (by decide)) rfl 5 (by decide) (X.2.2.2.2 _ hl) (fun _ q => q) rfl (by decide +kernel) rfl rfl (Nat.le_of_ble_eq_true rfl) hdg
    (fun H1 l1 hP _ hS => kk H1 l1 ⟨by rw [hW_set (h' := upL h 91 5 x) (by decide) (by show Sum.inr (5, fX5 k (h.1 91) ((upL h 91 5 x).2.1 91)) = _; rw [upL_s]; rfl) (fun a ha => hE_upL k h 5 x ha)] at hP; exact hP, w.2.1, w.2.2.1, hS, w.2.2.2.2⟩)
theorem q_iald (X : CallFix p m c cc nL s args Ts own) (w : WX k s H locs h) (i j : Nat) {n : Nat} {x : Int32} (hi : i < 97) (he : ∀ h : hS, hE k h i = .inl (k.2.2 0, n, .inl (h.1 i))) (hx : x = nI j) (hj : j < n) (hn : n ≤ 65536) (hdg : decode cc pc = .ok (.iaload, 1))
    (kk : W p l e R s m args below meth c H locs cells slots Q (F0 m (pc + 1) ls (.int (h.1 i j) :: rest))) : W p l e R s m args below meth c H locs cells slots Q (F0 m pc ls (.int x :: .ref (k.2.1 i) :: rest)) := by
  subst hx
  refine va_iald X.1 X.2.1 w.2.1 w.1 i 0 (by rw [hW_at k h hi, he]) rfl (vp_in_nI hj (by omega)) hdg ?_
  rw [nI_clamp (by omega)]
  exact kk
theorem q_lald (X : CallFix p m c cc nL s args Ts own) (w : WX k s H locs h) (i j : Nat) {n : Nat} {x : Int32} (hi : i < 97) (he : ∀ h : hS, hE k h i = .inl (k.2.2 1, n, .inr (.inl (h.2.1 i)))) (hx : x = nI j) (hj : j < n) (hn : n ≤ 65536) (hdg : decode cc pc = .ok (.laload, 1))
    (kk : W p l e R s m args below meth c H locs cells slots Q (F0 m (pc + 1) ls (.long (h.2.1 i j) :: rest))) : W p l e R s m args below meth c H locs cells slots Q (F0 m pc ls (.int x :: .ref (k.2.1 i) :: rest)) := by
  subst hx
  refine va_lald X.1 X.2.1 w.2.1 w.1 i 1 (by rw [hW_at k h hi, he]) rfl (vp_in_nI hj (by omega)) hdg ?_
  rw [nI_clamp (by omega)]
  exact kk
theorem q_dald (X : CallFix p m c cc nL s args Ts own) (w : WX k s H locs h) {x : Int32} (hx : x = nI 0) (hdg : decode cc pc = .ok (.daload, 1))
    (kk : W p l e R s m args below meth c H locs cells slots Q (F0 m (pc + 1) ls (.double (h.2.2 0) :: rest))) : W p l e R s m args below meth c H locs cells slots Q (F0 m pc ls (.int x :: .ref (k.2.1 96) :: rest)) := by
  subst hx
  refine va_dald (n := 1) (f := h.2.2) X.1 X.2.1 w.2.1 w.1 96 2 (hW_at k h (by decide)) rfl (vp_in_nI (by decide) (by decide)) hdg ?_
  rw [nI_clamp (by decide)]
  exact kk
theorem q_aald (X : CallFix p m c cc nL s args Ts own) (w : WX k s H locs h) (j : Nat) {x : Int32} (hx : x = nI j) (hj : j < 4) (hdg : decode cc pc = .ok (.aaload, 1))
    (kk : W p l e R s m args below meth c H locs cells slots Q (F0 m (pc + 1) ls (.ref (k.2.1 (7 + j)) :: rest))) : W p l e R s m args below meth c H locs cells slots Q (F0 m pc ls (.int x :: .ref (k.2.1 1) :: rest)) := by
  subst hx
  refine va_aldq (n := 4) (f := fun j => some (k.2.1 (7 + j))) X.1 X.2.1 w.2.1 w.1 1 3 (hW_at k h (by decide)) rfl (vp_in_nI hj (by decide)) hdg ?_
  rw [nI_clamp (by omega)]
  exact kk
theorem q_iast (X : CallFix p m c cc nL s args Ts own) (w : WX k s H locs h) (i j : Nat) {n : Nat} {x y : Int32} (hi : i < 97) (he : ∀ h : hS, hE k h i = .inl (k.2.2 0, n, .inl (h.1 i))) (hx : y = nI j) (hj : j < n) (hn : n ≤ 65536) (hdg : decode cc pc = .ok (.iastore, 1))
    (kk : ∀ (H : Heap) (locs : List Loc), WX k s H locs (upI h i j x) → W p l e R s m args below meth c H locs cells slots Q (F0 m (pc + 1) ls rest)) : W p l e R s m args below meth c H locs cells slots Q (F0 m pc ls (.int x :: .int y :: .ref (k.2.1 i) :: rest)) := by
  subst hx
  refine va_iast X.1 X.2.1 w.2.1 w.1 (w.2.2.1.D h s.heap.size) w.2.2.2.1 i 0 (by rw [hW_at k h hi, he]) rfl (vp_in_nI hj (by omega)) hdg (fun H1 l1 hP _ hS => kk H1 l1 ⟨?_, w.2.1, w.2.2.1, hS, w.2.2.2.2⟩)
  rw [nI_clamp (by omega), hW_set (h' := upI h i j x) hi (by rw [he, upI_s]; rfl) (fun a ha => hE_upI k h j x ha)] at hP
  exact hP
theorem q_last (X : CallFix p m c cc nL s args Ts own) (w : WX k s H locs h) (i j : Nat) {n : Nat} {x : Int64} {y : Int32} (hi : i < 97) (he : ∀ h : hS, hE k h i = .inl (k.2.2 1, n, .inr (.inl (h.2.1 i)))) (hx : y = nI j) (hj : j < n) (hn : n ≤ 65536) (hdg : decode cc pc = .ok (.lastore, 1))
    (kk : ∀ (H : Heap) (locs : List Loc), WX k s H locs (upL h i j x) → W p l e R s m args below meth c H locs cells slots Q (F0 m (pc + 1) ls rest)) : W p l e R s m args below meth c H locs cells slots Q (F0 m pc ls (.long x :: .int y :: .ref (k.2.1 i) :: rest)) := by
  subst hx
  refine va_last X.1 X.2.1 w.2.1 w.1 (w.2.2.1.D h s.heap.size) w.2.2.2.1 i 1 (by rw [hW_at k h hi, he]) rfl (vp_in_nI hj (by omega)) hdg (fun H1 l1 hP _ hS => kk H1 l1 ⟨?_, w.2.1, w.2.2.1, hS, w.2.2.2.2⟩)
  rw [nI_clamp (by omega), hW_set (h' := upL h i j x) hi (by rw [he, upL_s]; rfl) (fun a ha => hE_upL k h j x ha)] at hP
  exact hP
theorem q_dast (X : CallFix p m c cc nL s args Ts own) (w : WX k s H locs h) {x : UInt64} {y : Int32} (hx : y = nI 0) (hdg : decode cc pc = .ok (.dastore, 1))
    (kk : ∀ (H : Heap) (locs : List Loc), WX k s H locs (upD h 0 x) → W p l e R s m args below meth c H locs cells slots Q (F0 m (pc + 1) ls rest)) : W p l e R s m args below meth c H locs cells slots Q (F0 m pc ls (.double x :: .int y :: .ref (k.2.1 96) :: rest)) := by
  subst hx
  refine va_dast (n := 1) (f := h.2.2) X.1 X.2.1 w.2.1 w.1 (w.2.2.1.D h s.heap.size) w.2.2.2.1 96 2 (hW_at k h (by decide)) rfl (vp_in_nI (by decide) (by decide)) hdg (fun H1 l1 hP _ hS => kk H1 l1 ⟨?_, w.2.1, w.2.2.1, hS, w.2.2.2.2⟩)
  rw [nI_clamp (by decide)] at hP
  have e1 : (hW k h).set 96 (k.2.1 96, .inl (k.2.2 2, 1, .inr (.inr (.inr (.inl (vf_upd h.2.2 0 x)))))) = hW k (upD h 0 x) := by
    apply List.ext_getElem?
    intro a
    rw [List.getElem?_set]
    by_cases ha : a < 97
    · rw [hW_at k (upD h 0 x) ha]
      by_cases h6 : 96 = a
      · subst h6
        rw [if_pos rfl, if_pos (by rw [hW_len]; exact ha)]
        rfl
      · rw [if_neg h6, hW_at k h ha, hE_upD k h 0 x (by omega)]
    · rw [hW_out k (upD h 0 x) ha, if_neg (by omega), hW_out k h ha]
  rw [e1] at hP
  exact hP
-- longs compared and a branch
theorem lc_case (x y : Int64) : (y < x ∧ lg_cmp x y = 1) ∨ (x = y ∧ lg_cmp x y = 0) ∨ (x < y ∧ lg_cmp x y = -1) := by
  by_cases h1 : y < x
  · exact Or.inl ⟨h1, by simp [lg_cmp, h1]⟩
  · by_cases h2 : x = y
    · subst h2; exact Or.inr (Or.inl ⟨rfl, by simp [lg_cmp]⟩)
    · refine Or.inr (Or.inr ⟨?_, by simp [lg_cmp, h1, h2]⟩)
      rw [Int64.lt_iff_toInt_lt] at h1 ⊢
      have : x.toInt ≠ y.toInt := fun q => h2 (Int64.toInt_inj.mp q)
      omega
theorem lc_lt (x y : Int64) : lg_cmp x y < 0 ↔ x < y := by
  rcases lc_case x y with ⟨a, b⟩ | ⟨a, b⟩ | ⟨a, b⟩
  · rw [b]; exact ⟨fun q => absurd q (by decide), fun q => by rw [Int64.lt_iff_toInt_lt] at a q; omega⟩
  · rw [b]; exact ⟨fun q => absurd q (by decide), fun q => by rw [Int64.lt_iff_toInt_lt, a] at q; omega⟩
  · rw [b]; exact ⟨fun _ => a, fun _ => by decide⟩
theorem lc_gt (x y : Int64) : 0 < lg_cmp x y ↔ y < x := by
  rcases lc_case x y with ⟨a, b⟩ | ⟨a, b⟩ | ⟨a, b⟩
  · rw [b]; exact ⟨fun _ => a, fun _ => by decide⟩
  · rw [b]; exact ⟨fun q => absurd q (by decide), fun q => by rw [Int64.lt_iff_toInt_lt, a] at q; omega⟩
  · rw [b]; exact ⟨fun q => absurd q (by decide), fun q => by rw [Int64.lt_iff_toInt_lt] at a q; omega⟩
theorem lc_eq (x y : Int64) : lg_cmp x y = 0 ↔ x = y := by
  rcases lc_case x y with ⟨a, b⟩ | ⟨a, b⟩ | ⟨a, b⟩
  · rw [b]; exact ⟨fun q => absurd q (by decide), fun q => by rw [Int64.lt_iff_toInt_lt, q] at a; omega⟩
  · rw [b]; exact ⟨fun _ => a, fun _ => rfl⟩
  · rw [b]; exact ⟨fun q => absurd q (by decide), fun q => by rw [Int64.lt_iff_toInt_lt, q] at a; omega⟩
theorem i32_le0 (z : Int32) : z ≤ 0 ↔ ¬ 0 < z := by rw [Int32.le_iff_toInt_le, Int32.lt_iff_toInt_lt]; omega
theorem i32_ge0 (z : Int32) : 0 ≤ z ↔ ¬ z < 0 := by rw [Int32.le_iff_toInt_le, Int32.lt_iff_toInt_lt]; omega
theorem q_lif_lt (X : CallFix p m c cc nL s args Ts own) {x y : Int64} {off : Int} {tgt : Nat} (d1 : decode cc pc = .ok (.lcmp, 1)) (d2 : decode cc (pc + 1) = .ok (.ifCond .lt off, 3)) (ht : ((pc + 1 : Nat) : Int) + off = (tgt : Int)) (kt : x < y → W p l e R s m args below meth c H locs cells slots Q (F0 m tgt ls rest)) (kf : ¬ x < y → W p l e R s m args below meth c H locs cells slots Q (F0 m (pc + 1 + 3) ls rest)) : W p l e R s m args below meth c H locs cells slots Q (F0 m pc ls (.long y :: .long x :: rest)) :=
  W.lcmp X.1 X.2.1 d1 (lv_if_lt X.1 X.2.1 d2 ht (fun q => kt ((lc_lt x y).mp q)) (fun q => kf (fun z => q ((lc_lt x y).mpr z))))
theorem q_lif_ge (X : CallFix p m c cc nL s args Ts own) {x y : Int64} {off : Int} {tgt : Nat} (d1 : decode cc pc = .ok (.lcmp, 1)) (d2 : decode cc (pc + 1) = .ok (.ifCond .ge off, 3)) (ht : ((pc + 1 : Nat) : Int) + off = (tgt : Int)) (kt : ¬ x < y → W p l e R s m args below meth c H locs cells slots Q (F0 m tgt ls rest)) (kf : x < y → W p l e R s m args below meth c H locs cells slots Q (F0 m (pc + 1 + 3) ls rest)) : W p l e R s m args below meth c H locs cells slots Q (F0 m pc ls (.long y :: .long x :: rest)) :=
  W.lcmp X.1 X.2.1 d1 (lv_if_ge X.1 X.2.1 d2 ht (fun q => kt (fun z => (i32_ge0 _).mp q ((lc_lt x y).mpr z))) (fun q => kf ((lc_lt x y).mp (Classical.byContradiction (fun z => q ((i32_ge0 _).mpr z))))))
theorem q_lif_gt (X : CallFix p m c cc nL s args Ts own) {x y : Int64} {off : Int} {tgt : Nat} (d1 : decode cc pc = .ok (.lcmp, 1)) (d2 : decode cc (pc + 1) = .ok (.ifCond .gt off, 3)) (ht : ((pc + 1 : Nat) : Int) + off = (tgt : Int)) (kt : y < x → W p l e R s m args below meth c H locs cells slots Q (F0 m tgt ls rest)) (kf : ¬ y < x → W p l e R s m args below meth c H locs cells slots Q (F0 m (pc + 1 + 3) ls rest)) : W p l e R s m args below meth c H locs cells slots Q (F0 m pc ls (.long y :: .long x :: rest)) :=
  W.lcmp X.1 X.2.1 d1 (lv_if_gt X.1 X.2.1 d2 ht (fun q => kt ((lc_gt x y).mp q)) (fun q => kf (fun z => q ((lc_gt x y).mpr z))))
theorem q_lif_le (X : CallFix p m c cc nL s args Ts own) {x y : Int64} {off : Int} {tgt : Nat} (d1 : decode cc pc = .ok (.lcmp, 1)) (d2 : decode cc (pc + 1) = .ok (.ifCond .le off, 3)) (ht : ((pc + 1 : Nat) : Int) + off = (tgt : Int)) (kt : ¬ y < x → W p l e R s m args below meth c H locs cells slots Q (F0 m tgt ls rest)) (kf : y < x → W p l e R s m args below meth c H locs cells slots Q (F0 m (pc + 1 + 3) ls rest)) : W p l e R s m args below meth c H locs cells slots Q (F0 m pc ls (.long y :: .long x :: rest)) :=
  W.lcmp X.1 X.2.1 d1 (lv_if_le X.1 X.2.1 d2 ht (fun q => kt (fun z => (i32_le0 _).mp q ((lc_gt x y).mpr z))) (fun q => kf ((lc_gt x y).mp (Classical.byContradiction (fun z => q ((i32_le0 _).mpr z))))))
theorem q_lif_eq (X : CallFix p m c cc nL s args Ts own) {x y : Int64} {off : Int} {tgt : Nat} (d1 : decode cc pc = .ok (.lcmp, 1)) (d2 : decode cc (pc + 1) = .ok (.ifCond .eq off, 3)) (ht : ((pc + 1 : Nat) : Int) + off = (tgt : Int)) (kt : x = y → W p l e R s m args below meth c H locs cells slots Q (F0 m tgt ls rest)) (kf : ¬ x = y → W p l e R s m args below meth c H locs cells slots Q (F0 m (pc + 1 + 3) ls rest)) : W p l e R s m args below meth c H locs cells slots Q (F0 m pc ls (.long y :: .long x :: rest)) :=
  W.lcmp X.1 X.2.1 d1 (lv_if_eq X.1 X.2.1 d2 ht (fun q => kt ((lc_eq x y).mp q)) (fun q => kf (fun z => q ((lc_eq x y).mpr z))))
theorem q_lif_ne (X : CallFix p m c cc nL s args Ts own) {x y : Int64} {off : Int} {tgt : Nat} (d1 : decode cc pc = .ok (.lcmp, 1)) (d2 : decode cc (pc + 1) = .ok (.ifCond .ne off, 3)) (ht : ((pc + 1 : Nat) : Int) + off = (tgt : Int)) (kt : ¬ x = y → W p l e R s m args below meth c H locs cells slots Q (F0 m tgt ls rest)) (kf : x = y → W p l e R s m args below meth c H locs cells slots Q (F0 m (pc + 1 + 3) ls rest)) : W p l e R s m args below meth c H locs cells slots Q (F0 m pc ls (.long y :: .long x :: rest)) :=
  W.lcmp X.1 X.2.1 d1 (lv_if_ne X.1 X.2.1 d2 ht (fun q => kt (fun z => q ((lc_eq x y).mpr z))) (fun q => kf ((lc_eq x y).mp q)))
end QROWS
