/-! PURE WORDS: the reference's comparison -/
theorem isd1 : ∀ i : Nat, i < 64 → nI i / nI 32 = nI (i / 32) := by decide +kernel
theorem isd2 : ∀ i : Nat, i < 64 → nI i - nI i / nI 32 * nI 32 = nI (i % 32) := by decide +kernel
theorem isd3 : ∀ i : Nat, i < 64 → nI i - nI i / nI 16 * nI 16 = nI (i % 16) := by decide +kernel
def mnow (R : Nat → Int64) (i : Nat) : Int64 := if 16 ≤ i % 32 then R (1 + 116 * (i / 32) + (81 + i % 16)) else R (1 + 116 * (i / 32) + (49 + i % 16))
def mss (B R : Nat → Int64) : Nat → Bool
  | 0 => true
  | n + 1 => mss B R n && decide (B n = mnow R n)
theorem ms_f {B R : Nat → Int64} {n : Nat} (e : mss B R n = false) : nI 0 = bI (mss B R (n + 1)) := by rw [mss, e]; rfl
theorem ms_t {B R : Nat → Int64} {n : Nat} (e : mss B R n = true) (e2 : B n = mnow R n) : nI 1 = bI (mss B R (n + 1)) := by rw [mss, e, decide_eq_true e2]; rfl
theorem ms_n {B R : Nat → Int64} {n : Nat} (e : mss B R n = true) (e2 : ¬ B n = mnow R n) : nI 0 = bI (mss B R (n + 1)) := by rw [mss, e, decide_eq_false e2]; rfl
