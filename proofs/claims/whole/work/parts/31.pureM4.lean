/-! PURE WORDS: the reference's reads and requests -/
def mlm (R : Nat → Int64) (q : Nat) : Int64 := match mwk R q with
  | none => -1
  | some n => mmg R q n
theorem mlm_n {R : Nat → Int64} {q : Nat} (e : mwk R q = none) : -1 = mlm R q := by unfold mlm; rw [e]
theorem mlm_s {R : Nat → Int64} {q n : Nat} (e : mwk R q = some n) : mmg R q n = mlm R q := by unfold mlm; rw [e]
def msg (R : Nat → Int64) (q : Nat) : Option Nat := match mwk R q with
  | none => none
  | some a => match mch R q (nI a) with
    | none => none
    | some b => some (16 * a + b)
theorem msg_n {R : Nat → Int64} {q : Nat} (e : mwk R q = none) : -1 = oI (msg R q) := by unfold msg; rw [e]; rfl
theorem msg_1 {R : Nat → Int64} {q a : Nat} (e : mwk R q = some a) (e2 : mch R q (nI a) = none) : -1 = oI (msg R q) := by
  unfold msg; rw [e]; dsimp only; rw [e2]; rfl
theorem msg_2 {R : Nat → Int64} {q a b : Nat} (e : mwk R q = some a) (e2 : mch R q (nI a) = some b) : nI (16 * a + b) = oI (msg R q) := by
  unfold msg; rw [e]; dsimp only; rw [e2]; rfl
def mbt (R : Nat → Int64) (q : Nat) : Nat → Int32
  | 0 => nI 0
  | n + 1 => mbt R q n ||| (if ¬ mmg R q n = -1 ∧ mmg R q n < 100 then nI 1 <<< (nI n &&& 31) else nI 0)
theorem mbt_1 {R : Nat → Int64} {q n : Nat} (e : mmg R q n = -1) : mbt R q n ||| nI 0 = mbt R q (n + 1) := by rw [mbt, if_neg (fun z => z.1 e)]
theorem mbt_2 {R : Nat → Int64} {q n : Nat} (e : ¬ mmg R q n < 100) : mbt R q n ||| nI 0 = mbt R q (n + 1) := by rw [mbt, if_neg (fun z => e z.2)]
theorem mbt_3 {R : Nat → Int64} {q n : Nat} (e : ¬ mmg R q n = -1) (e2 : mmg R q n < 100) : mbt R q n ||| (nI 1 <<< (nI n &&& 31)) = mbt R q (n + 1) := by rw [mbt, if_pos ⟨e, e2⟩]
def mr2 (R : Nat → Int64) (q : Nat) : Nat → Int64 := va_up (va_up R (1 + 116 * q + 97) 1) (1 + 116 * q + 98) (va_up R (1 + 116 * q + 97) 1 (1 + 116 * q + 102))
def mr5 (R : Nat → Int64) (q t u : Nat) : Nat → Int64 := va_up (va_up (va_up (mr2 R q) (1 + 116 * q + 99) (nI t).toInt64) (1 + 116 * q + 100) (nI u).toInt64) (1 + 116 * q + 101) (-1)
def mrq (R : Nat → Int64) (q t u : Nat) : Nat → Int64 := va_up (mr5 R q t u) (1 + 116 * q + 102) ((mr5 R q t u (1 + 116 * q + 102) + 1) - (mr5 R q t u (1 + 116 * q + 102) + 1) / 8 * 8)
/-- the request may not be opened -/
def mrB (R : Nat → Int64) (q t u : Nat) : Prop := R (1 + 116 * q + 97) = 1 ∨ R (1 + 116 * q + (49 + t)) = 0 ∨ ¬ R (1 + 116 * q + (49 + u)) < R (1 + 116 * q + (33 + u)) ∨ mis R q 16 = false
