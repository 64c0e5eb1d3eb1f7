/-! PURE WORDS: the reference's load to a target -/
def mfk (q : Nat) : Nat → (Nat → Int64) → Option (Nat → Int64)
  | 0, R => some R
  | m + 1, R => match mch R q (-1) with
    | none => none
    | some a => mfk q m (mp1 R (1 + 116 * q + (49 + a)))
theorem mfk_n {q m : Nat} {R R2 : Nat → Int64} (e : mch R q (-1) = none) (h : mfk q (m + 1) R = some R2) : False := by
  rw [mfk, e] at h
  cases h
theorem mfk_s {q m a : Nat} {R R2 : Nat → Int64} (e : mch R q (-1) = some a) (h : mfk q (m + 1) R = some R2) : mfk q m (mp1 R (1 + 116 * q + (49 + a))) = some R2 := by
  rw [mfk, e] at h
  exact h
def mlS (R : Nat → Int64) (q : Nat) : Nat → Int32 := sumI (fun j => (R (1 + 116 * q + (33 + j))).toInt32)
