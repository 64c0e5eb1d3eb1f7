/-! PURE WORDS: the reference's talk and frames -/
theorem va_s9 {α : Type} (f : Nat → α) (j : Nat) (x : α) : va_up f j x j = x := if_pos rfl
theorem va_o9 {α : Type} (f : Nat → α) {i j : Nat} (x : α) (hij : ¬ i = j) : va_up f j x i = f i := if_neg hij
def makT (R : Nat → Int64) (q : Nat) : Nat → Int64 := wfz (fun j => va_up R (1 + 116 * q + 103) 1 (1 + 116 * q + (109 + j))) (va_up R (1 + 116 * q + 103) 1) (1 + 116 * q + 104) 3
def mak (R : Nat → Int64) (q : Nat) : Nat → Int64 := if R (1 + 116 * q + 103) = 1 ∧ R (1 + 116 * q + 104) = R (1 + 116 * q + 109) then R else va_up (makT R q) (1 + 116 * q + 107) (makT R q 0 + 8)
theorem mak_p {R : Nat → Int64} {q : Nat} (e1 : R (1 + 116 * q + 103) = 1) (e2 : R (1 + 116 * q + 104) = R (1 + 116 * q + 109)) : mak R q = R := if_pos ⟨e1, e2⟩
theorem mak_1 {R : Nat → Int64} {q : Nat} (e1 : ¬ R (1 + 116 * q + 103) = 1) : va_up (makT R q) (1 + 116 * q + 107) (makT R q 0 + 8) = mak R q := (if_neg (fun z => e1 z.1)).symm
theorem mak_2 {R : Nat → Int64} {q : Nat} (e1 : ¬ R (1 + 116 * q + 104) = R (1 + 116 * q + 109)) : va_up (makT R q) (1 + 116 * q + 107) (makT R q 0 + 8) = mak R q := (if_neg (fun z => e1 z.2)).symm
def ma2 (R : Nat → Int64) (q : Nat) : Nat → Int64 := va_up R (1 + 116 * q + 112) 1
def ma3 (R : Nat → Int64) (q : Nat) : Nat → Int64 := va_up (ma2 R q) (1 + 116 * q + 113) (ma2 R q (1 + 116 * q + 104))
def ma4 (R : Nat → Int64) (q : Nat) : Nat → Int64 := va_up (ma3 R q) (1 + 116 * q + 114) (ma3 R q (1 + 116 * q + 107))
/-- the tone that a place holds -/
def tn (x : Int64) : Nat := x.toInt32.toInt.toNat
def tnO (x : Int64) : Prop := x.toInt32 = nI (tn x) ∧ tn x < 16
def mm1 (R : Nat → Int64) (i : Nat) : Nat → Int64 := va_up R i (R i - 1)
def mp1 (R : Nat → Int64) (i : Nat) : Nat → Int64 := va_up R i (R i + 1)
def mfA (R : Nat → Int64) (q : Nat) : Nat → Int64 := if R (1 + 116 * q + 103) = 1 ∧ R (1 + 116 * q + 107) = R 0 then mp1 (mm1 R (1 + 116 * q + 65 + tn (R (1 + 116 * q + 105)))) (1 + 116 * q + 65 + tn (R (1 + 116 * q + 106))) else R
theorem mfA_p {R : Nat → Int64} {q : Nat} (e1 : R (1 + 116 * q + 103) = 1) (e2 : R (1 + 116 * q + 107) = R 0) : mp1 (mm1 R (1 + 116 * q + 65 + tn (R (1 + 116 * q + 105)))) (1 + 116 * q + 65 + tn (R (1 + 116 * q + 106))) = mfA R q := (if_pos ⟨e1, e2⟩).symm
theorem mfA_1 {R : Nat → Int64} {q : Nat} (e1 : ¬ R (1 + 116 * q + 103) = 1) : mfA R q = R := if_neg (fun z => e1 z.1)
theorem mfA_2 {R : Nat → Int64} {q : Nat} (e1 : ¬ R (1 + 116 * q + 107) = R 0) : mfA R q = R := if_neg (fun z => e1 z.2)
def mfX (R : Nat → Int64) (q a b : Nat) : Nat → Int64 := va_up (va_up (mfd (mfd (mp1 (mm1 R (1 + 116 * q + (49 + a))) (1 + 116 * q + (49 + b))) q a) q b) (1 + 116 * q + 97) 0) (1 + 116 * q + 101) (-1)
def mfB (R : Nat → Int64) (q : Nat) : Nat → Int64 := if R (1 + 116 * q + 97) = 1 ∧ ¬ R (1 + 116 * q + 101) = -1 ∧ ¬ R 0 < R (1 + 116 * q + 101) then mfX R q (tn (R (1 + 116 * q + 99))) (tn (R (1 + 116 * q + 100))) else R
theorem mfB_p {R : Nat → Int64} {q : Nat} (e1 : R (1 + 116 * q + 97) = 1) (e2 : ¬ R (1 + 116 * q + 101) = -1) (e3 : ¬ R 0 < R (1 + 116 * q + 101)) : mfX R q (tn (R (1 + 116 * q + 99))) (tn (R (1 + 116 * q + 100))) = mfB R q := (if_pos ⟨e1, e2, e3⟩).symm
theorem mfB_1 {R : Nat → Int64} {q : Nat} (e1 : ¬ R (1 + 116 * q + 97) = 1) : mfB R q = R := if_neg (fun z => e1 z.1)
theorem mfB_2 {R : Nat → Int64} {q : Nat} (e1 : R (1 + 116 * q + 101) = -1) : mfB R q = R := if_neg (fun z => z.2.1 e1)
theorem mfB_3 {R : Nat → Int64} {q : Nat} (e1 : R 0 < R (1 + 116 * q + 101)) : mfB R q = R := if_neg (fun z => z.2.2 e1)
