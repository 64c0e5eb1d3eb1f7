/-! ROWS FOR THE LAW'S OWN BODY -/
section QLAW
variable {p : Program} {l : Launch} {e : Env} {R : Room} {s : State} {m : MethodId} {args : Array Value} {below : List Frame} {meth : Method} {c : Code} {H : Heap} {locs : List Loc} {cells slots : Nat} {Q : State → Prop} {k : kY} {h : hS} {cc : ByteArray} {nL pc : Nat} {Ts : List Cond} {own : String} {ls : Array Slot} {rest st0 : List Value}
variable {y : MethodName} {bytes : ByteArray} {maxL mc ms n index : Nat} {ret : Option FieldType} {ws : List Cond} {rm : Room} {Qf : Nat → Array Value → State → Outcome → State → Prop} {As : List Value} {hh : List (Nat × Nat × Nat × Nat)}
theorem q_runSW (X : CallFix p m c cc nL s args Ts own) (w : WX k s H locs h) (hM : CT l k y ws rm As h Qf mc ms) (cw : vx_CSW R s args own index y bytes maxL ret hh ws rm mc ms n) (hn : As.length = n) (hsz : ls.size = nL) (hst : st0 = As.reverse ++ rest) (hW : (rest.map fun v => v.category).sum ≤ 8) (hdg : decode cc pc = .ok (.invokestatic index, 3)) (hf : cells + mc ≤ R.cells ∧ slots + ms ≤ R.slots) :
    va_Run p l e R s m args below meth c H locs cells slots mc ms (F0 m pc ls st0) rest (Qf H.size As.toArray) (AA k H.size) :=
  vx_runSW X (hM H.size) cw (q_preS w As) rfl hn hsz hst (lv_room (rest := st0) hW) hdg hf
theorem q_sld (X : CallFix p m c cc nL s args Ts own) (w : WX k s H locs h) {b0 L : Nat} {xs : Nat → Int32} (hX : va_X b0 L xs s s.heap) (hbl : b0 < s.heap.size) (hbA : ¬ AA k s.heap.size b0) (hL : L ≤ 2048) {j : Nat} (hj : j < L) (hdg : decode cc pc = .ok (.iaload, 1))
    (kk : W p l e R s m args below meth c H locs cells slots Q (F0 m (pc + 1) ls (.int (xs j) :: rest))) : W p l e R s m args below meth c H locs cells slots Q (F0 m pc ls (.int (nI j) :: .ref b0 :: rest)) := by
  refine va_sld X.1 X.2.1 hX hbl hbA w.2.2.2.1 (vp_in_nI hj (by omega)) hdg ?_
  rw [nI_clamp (by omega)]
  exact kk
end QLAW
theorem and31 (x : Int32) : ∃ t : Nat, t < 32 ∧ x &&& nI 31 = nI t := by
  refine ⟨(x.toBitVec &&& 31#32).toNat, ?_, ?_⟩
  · rw [BitVec.toNat_and]; exact Nat.lt_of_le_of_lt Nat.and_le_right (by decide)
  · apply Int32.toBitVec_inj.mp
    show x.toBitVec &&& 31#32 = BitVec.ofNat 32 (x.toBitVec &&& 31#32).toNat
    rw [BitVec.ofNat_toNat, BitVec.setWidth_eq]
theorem dc16 : ∀ n : Nat, n < 193 → Op.cmpValue (FP.dcmp (FP.ddiv (FP.i2d (nI n)) 4625196817309499392) (FP.ddiv (FP.i2d (nI n)) 4625196817309499392)) CmpOp.l = 0 := by
  have h : ((List.range 193).all fun n => decide (Op.cmpValue (FP.dcmp (FP.ddiv (FP.i2d (nI n)) 4625196817309499392) (FP.ddiv (FP.i2d (nI n)) 4625196817309499392)) CmpOp.l = 0)) = true := by decide +kernel
  intro n hn
  exact of_decide_eq_true (List.all_eq_true.mp h n (List.mem_range.mpr hn))
section LAWP
variable {n a b : Nat} {h : hS}
theorem IAB.fl (I : IAB n h a b) : ∀ q : Nat, q < 2 → mld q 193 (mcl (h.2.1 92) q) 0 = some ((mld q 193 (mcl (h.2.1 92) q) 0).getD (h.2.1 92)) := fun q hq => by
  obtain ⟨R2, r1, -⟩ := I.rc.lf hq
  rw [r1]; rfl
theorem IAB.fr (I : IAB n h a b) : ∀ q : Nat, q < 2 → mrp q 193 (h.2.1 92) 0 = some ((mrp q 193 (h.2.1 92) 0).getD (h.2.1 92, 0)) := fun q hq => by
  obtain ⟨R2, r1, -⟩ := I.rc.rp hq
  rw [r1]; rfl
theorem IAB.ft (I : IAB n h a b) : ∀ q m : Nat, q < 2 → m ≤ 192 → nI m ≤ mlS (h.2.1 92) q 16 → mfk q m (mcl (h.2.1 92) q) = some ((mfk q m (mcl (h.2.1 92) q)).getD (h.2.1 92)) := fun q m hq hm hle => by
  obtain ⟨R2, r1, -⟩ := (I.rc.lt hq m).1 ((ml_iff I hq hm).mp hle)
  rw [r1]; rfl
theorem IAB.fb (I : IAB n h a b) (B : Nat → Int64) : ∀ m : Nat, m ≤ 20 → mbl 193 m (h.2.1 92) (pfz (mnow (h.2.1 92)) B 64) 0 = some ((mbl 193 m (h.2.1 92) (pfz (mnow (h.2.1 92)) B 64) 0).getD (0, h.2.1 92, B)) := fun m _ => by
  obtain ⟨v, w1, -⟩ := bl_eq m h (h.2.1 92) (pfz (mnow (h.2.1 92)) B 64) 0 I.rc (fun i hi => pfz_in hi)
  rw [w1]; rfl
theorem IAB.nC (I : IAB n h a b) : ∀ q : Nat, q < 2 → ∃ m : Nat, m < 193 ∧ sumI (h.1 (11 + 8 * q + 4)) 16 = nI m := fun q hq =>
  rate_n (fun t ht => ((I.rc.2.2.2 q hq).2.2.2.2.1 t ht).2.1) (fun t ht => ((I.rc.2.2.2 q hq).2.2.2.2.1 t ht).2.2)
theorem IAB.nM (I : IAB n h a b) : ∀ q : Nat, q < 2 → ∃ m : Nat, m < 193 ∧ (sumL (fun t => h.2.1 92 (1 + 116 * q + (49 + t))) 16).toInt32 = nI m := fun q hq => by
  obtain ⟨m, hm, e⟩ := I.nC q hq
  exact ⟨m, hm, by rw [rate_eq (c := h.1 (11 + 8 * q + 4)) (I.rc.2.2.2 q hq).2.2.2.2.1, e]⟩
end LAWP
