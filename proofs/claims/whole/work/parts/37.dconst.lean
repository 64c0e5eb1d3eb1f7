section QD0
variable {p : Program} {l : Launch} {e : Env} {R : Room} {s : State} {m : MethodId} {args : Array Value} {below : List Frame} {meth : Method} {c : Code} {H : Heap} {locs : List Loc} {cells slots : Nat} {Q : State → Prop} {cc : ByteArray} {nL pc : Nat} {Ts : List Cond} {own : String} {ls : Array Slot} {rest : List Value}
theorem q_dconst (X : CallFix p m c cc nL s args Ts own) (hdg : decode cc pc = .ok (.dconst 0, 1)) (kk : W p l e R s m args below meth c H locs cells slots Q (F0 m (pc + 1) ls (.double 0 :: rest))) : W p l e R s m args below meth c H locs cells slots Q (F0 m pc ls rest) := by
  intro T hT Y
  obtain ⟨v9, a, b⟩ := kk T hT Y
  refine ⟨v9, ?_, b⟩
  have hexec := X.1
  have hb := X.2.1
  jvm_step Y.here [Y.here.top, hexec, hb, hdg]
  exact a
end QD0
