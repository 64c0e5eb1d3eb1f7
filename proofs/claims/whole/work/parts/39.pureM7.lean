/-! PURE WORDS: the reference's frames -/
def frO (R : Nat → Int64) (q : Nat) : Prop := (R (1 + 116 * q + 103) = 1 → tnO (R (1 + 116 * q + 105)) ∧ tnO (R (1 + 116 * q + 106))) ∧ (mfA R q (1 + 116 * q + 97) = 1 → tnO (mfA R q (1 + 116 * q + 99)) ∧ tnO (mfA R q (1 + 116 * q + 100)))
def mfr (R : Nat → Int64) (q : Nat) : Nat → Int64 := mfB (mfA R q) q
def mbr (R : Nat → Int64) (q : Nat) : Nat → Int64 := va_up R (1 + 116 * q + 115) (R (1 + 116 * q + 115) + (if mis R q 16 = true then 0 else 1))
theorem mbr_t {R : Nat → Int64} {q : Nat} (e : mis R q 16 = true) : va_up R (1 + 116 * q + 115) (R (1 + 116 * q + 115) + 0) = mbr R q := by unfold mbr; rw [if_pos e]
theorem mbr_f {R : Nat → Int64} {q : Nat} (e : mis R q 16 = false) : va_up R (1 + 116 * q + 115) (R (1 + 116 * q + 115) + 1) = mbr R q := by unfold mbr; rw [if_neg (by rw [e]; decide)]
def mr0 (R : Nat → Int64) : Nat → Int64 := va_up R 0 (R 0 + 1)
def mrn (R : Nat → Int64) : Nat → (Nat → Int64)
  | 0 => R
  | n + 1 => mbr (mbr (mfr (mfr (mr0 (mrn R n)) 0) 1) 0) 1
/-- the requests that a frame carries out name tones -/
def mrO (R : Nat → Int64) : Prop := ∀ i : Nat, i < 1000 → frO (mr0 (mrn R i)) 0 ∧ frO (mfr (mr0 (mrn R i)) 0) 1
