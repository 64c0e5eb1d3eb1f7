/-! PURE WORDS: the reference's delivery -/
abbrev mtC (R : Nat → Int64) (q : Nat) : Prop := R (1 + 116 * q + 97) = 0 ∨ ¬ R (1 + 116 * q + 98) = R (1 + 116 * q + 113)
def mtl (R : Nat → Int64) (q : Nat) : Int32 × (Nat → Int64) := if mtC R q then (-1, R) else ((R (1 + 116 * q + 114)).toInt32, va_up R (1 + 116 * q + 101) (R (1 + 116 * q + 114)))
def mdl (R : Nat → Int64) (q : Nat) (y z : Int32) : Int32 × (Nat → Int64) :=
  if y = 0 then (if z = 0 then ((ma4 (mak (va_up R (1 + 116 * q + 108) 0) q) q (1 + 116 * q + 107)).toInt32, ma4 (mak (va_up R (1 + 116 * q + 108) 0) q) q) else (-1, va_up R (1 + 116 * q + 108) 0))
  else (if z = 0 then mtl (va_up R (1 + 116 * q + 112) 0) q else (-1, va_up R (1 + 116 * q + 112) 0))
theorem mdl_l0 {R : Nat → Int64} {q : Nat} {y z : Int32} (e : y = 0) (e2 : ¬ z = 0) : mdl R q y z = (-1, va_up R (1 + 116 * q + 108) 0) := by unfold mdl; rw [if_pos e, if_neg e2]
theorem mdl_l1 {R : Nat → Int64} {q : Nat} {y z : Int32} (e : ¬ y = 0) (e2 : ¬ z = 0) : mdl R q y z = (-1, va_up R (1 + 116 * q + 112) 0) := by unfold mdl; rw [if_neg e, if_neg e2]
theorem mdl_a {R : Nat → Int64} {q : Nat} {y z : Int32} (e : y = 0) (e2 : z = 0) : mdl R q y z = ((ma4 (mak (va_up R (1 + 116 * q + 108) 0) q) q (1 + 116 * q + 107)).toInt32, ma4 (mak (va_up R (1 + 116 * q + 108) 0) q) q) := by unfold mdl; rw [if_pos e, if_pos e2]
theorem mdl_t1 {R : Nat → Int64} {q : Nat} {y z : Int32} (e : ¬ y = 0) (e2 : z = 0) (e3 : mtC (va_up R (1 + 116 * q + 112) 0) q) : mdl R q y z = (-1, va_up R (1 + 116 * q + 112) 0) := by unfold mdl mtl; rw [if_neg e, if_pos e2, if_pos e3]
theorem mdl_t2 {R : Nat → Int64} {q : Nat} {y z : Int32} (e : ¬ y = 0) (e2 : z = 0) (e3 : ¬ mtC (va_up R (1 + 116 * q + 112) 0) q) : mdl R q y z = ((va_up R (1 + 116 * q + 112) 0 (1 + 116 * q + 114)).toInt32, va_up (va_up R (1 + 116 * q + 112) 0) (1 + 116 * q + 101) (va_up R (1 + 116 * q + 112) 0 (1 + 116 * q + 114))) := by unfold mdl mtl; rw [if_neg e, if_pos e2, if_neg e3]
/-- the place of the message on its way -/
def mwy (q : Nat) (y : Int32) : Nat := if y = 0 then 1 + 116 * q + 108 else 1 + 116 * q + 112
