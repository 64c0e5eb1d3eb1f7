/-! PURE WORDS: the reference's balancing and digest -/
def mbl (F : Nat) : Nat → (Nat → Int64) → (Nat → Int64) → Nat → Option (Nat × (Nat → Int64) × (Nat → Int64))
  | 0, R, B, m => some (m, R, B)
  | f + 1, R, B, m => match mld 0 F (mcl R 0) 0 with
    | none => none
    | some A => match mld 1 F (mcl (mfi A 0) 1) 0 with
      | none => none
      | some C => if mss B (mfi C 1) 64 = true then some (m + 1, mfi C 1, pfz (mnow (mfi C 1)) B 64) else mbl F f (mfi C 1) (pfz (mnow (mfi C 1)) B 64) (m + 1)
theorem mbl_s {F f m : Nat} {R B : Nat → Int64} {v : Nat × (Nat → Int64) × (Nat → Int64)} (h : mbl F (f + 1) R B m = some v) : ∃ A C : Nat → Int64, mld 0 F (mcl R 0) 0 = some A ∧ mld 1 F (mcl (mfi A 0) 1) 0 = some C ∧ (mss B (mfi C 1) 64 = true → (m + 1, mfi C 1, pfz (mnow (mfi C 1)) B 64) = v) ∧ (mss B (mfi C 1) 64 = false → mbl F f (mfi C 1) (pfz (mnow (mfi C 1)) B 64) (m + 1) = some v) := by
  rw [mbl] at h
  rcases eA : mld 0 F (mcl R 0) 0 with _ | A
  · rw [eA] at h; cases h
  · rw [eA] at h
    dsimp only at h
    rcases eC : mld 1 F (mcl (mfi A 0) 1) 0 with _ | C
    · rw [eC] at h; cases h
    · rw [eC] at h
      dsimp only at h
      refine ⟨A, C, rfl, eC, fun q => ?_, fun q => ?_⟩
      · rw [if_pos q] at h; exact Option.some.inj h
      · rw [if_neg (by rw [q]; decide)] at h; exact h
theorem upLL (h : hS) (i j : Nat) (x y : Int64) : upL (upL h i j x) i j y = upL h i j y := by
  rw [upL_set (upL h i j x), upL_s, va_up_up, upL_set h i j x, setL_setL, ← upL_set]
theorem upL92 (h : hS) (j : Nat) (x : Int64) : (upL h 91 j x).2.1 92 = h.2.1 92 := upL_o h j x (by decide)
theorem upLs5 (h : hS) (x : Int64) : (upL h 91 5 x).2.1 91 5 = x := by rw [upL_s, va_s9]
def mxK (R : Nat → Int64) (q n : Nat) : Nat → Int64 → Int64
  | 0, v => v
  | j + 1, v => 31 * mxK R q n j v + R (1 + 116 * q + (1 + 16 * j + n))
def mxT (R : Nat → Int64) (q : Nat) : Nat → Int64 → Int64
  | 0, v => v
  | n + 1, v => 31 * mxK R q n 6 (mxT R q n v) + mmg R q n
def mxO (R : Nat → Int64) (q : Nat) : Nat → Int64 → Int64
  | 0, v => v
  | j + 1, v => 31 * mxO R q j v + R (1 + 116 * q + (98 + j))
def mxA (R : Nat → Int64) (q : Nat) (v : Int64) : Int64 := 31 * (31 * mxT R q 16 (31 * v + R (1 + 116 * q + 0)) + (if mef R q = true then 1 else 0)) + R (1 + 116 * q + 97)
def mxB (R : Nat → Int64) (q : Nat) (v : Int64) : Int64 := if R (1 + 116 * q + 97) = 1 then mxO R q 4 (mxA R q v) else mxA R q v
def mxP (R : Nat → Int64) (q : Nat) (v : Int64) : Int64 := 31 * (31 * (31 * mxB R q v + R (1 + 116 * q + 108)) + R (1 + 116 * q + 112)) + R (1 + 116 * q + 115)
def mdg (R : Nat → Int64) (b : Nat) : Int64 := 31 * mxP R 1 (mxP R 0 (31 * 2789 + R 0)) + (nI b).toInt64
