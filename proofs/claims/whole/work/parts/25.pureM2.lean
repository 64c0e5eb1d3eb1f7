/-! PURE WORDS: the reference's loading and saving -/
theorem setL_up (h : hS) (i : Nat) (f : Nat → Int64) (j : Nat) (x : Int64) : upL (setL h i f) i j x = setL h i (va_up f j x) := by rw [upL_set, setL_s, setL_setL]
theorem va_up_up {α : Type} (f : Nat → α) (j : Nat) (x y : α) : va_up (va_up f j x) j y = va_up f j y := by
  funext a
  show (if a = j then y else (if a = j then x else f a)) = (if a = j then y else f a)
  by_cases h : a = j
  · rw [if_pos h, if_pos h]
  · rw [if_neg h, if_neg h, if_neg h]
theorem upI_upI (h : hS) (i j : Nat) (x y : Int32) : upI (upI h i j x) i j y = upI h i j y := by
  rw [upI_set (upI h i j x), upI_s, va_up_up, upI_set h i j x, setI_setI, ← upI_set]
theorem mld_pos {q f : Nat} {R R2 : Nat → Int64} {s9 : Int64} (h : mld q f R s9 = some R2) : ∃ f1, f = f1 + 1 := by
  rcases f with _ | f1
  · rw [mld] at h; cases h
  · exact ⟨f1, rfl⟩
theorem mld_n {q f : Nat} {R R2 : Nat → Int64} {s9 : Int64} (ho : mch R q (-1) = none) (h : mld q (f + 1) R s9 = some R2) : R = R2 := by
  rw [mld, ho] at h
  exact Option.some.inj h
theorem mld_g {q f t : Nat} {R R2 : Nat → Int64} {s9 : Int64} (ho : mch R q (-1) = some t) (hc : R (1 + 116 * q + 0) < s9 + mst R q t) (h : mld q (f + 1) R s9 = some R2) : R = R2 := by
  rw [mld, ho] at h
  dsimp only at h
  rw [if_pos hc] at h
  exact Option.some.inj h
theorem mld_s {q f t : Nat} {R R2 : Nat → Int64} {s9 : Int64} (ho : mch R q (-1) = some t) (hc : ¬ R (1 + 116 * q + 0) < s9 + mst R q t) (h : mld q (f + 1) R s9 = some R2) : mld q f (va_up R (1 + 116 * q + (49 + t)) (R (1 + 116 * q + (49 + t)) + 1)) (s9 + mst R q t) = some R2 := by
  rw [mld, ho] at h
  dsimp only at h
  rw [if_neg hc] at h
  exact h
/-- the number of kept states before the next is kept -/
def ms3 (b : Nat) : Nat := if b = 4 then 3 else b
def msS (P : Nat → Int64) (b : Nat) : Nat → Int64 := if b = 4 then pfz (fun j => P (j + 233)) P 699 else P
def msv (h : hS) (b : Nat) : hS := upI (setL h 93 (wfz (h.2.1 92) (msS (h.2.1 93) b) (233 * ms3 b) 233)) 91 2 (nI (ms3 b + 1))
theorem msv_n {h : hS} {b : Nat} (hn : ¬ b = 4) : msv h b = upI (setL h 93 (wfz (h.2.1 92) (h.2.1 93) (233 * b) 233)) 91 2 (nI (b + 1)) := by
  unfold msv msS ms3
  rw [if_neg hn, if_neg hn]
theorem msv_4 (h : hS) (x : Int32) : upI (setL (upI (setL h 93 (pfz (fun j => h.2.1 93 (j + 233)) (h.2.1 93) 699)) 91 2 x) 93 (wfz (h.2.1 92) (pfz (fun j => h.2.1 93 (j + 233)) (h.2.1 93) 699) (233 * 3) 233)) 91 2 (nI 4) = msv h 4 := by
  show upI (upI (setL (setL h 93 _) 93 _) 91 2 x) 91 2 (nI 4) = _
  rw [upI_upI, setL_setL]
  rfl
def mbk (h : hS) (b : Nat) : hS := setL (upI h 91 2 (nI (b - 1))) 92 (pfz (fun j => h.2.1 93 (233 * (b - 1) + j)) (h.2.1 92) 233)
def msd (R : Nat → Int64) (q : Nat) : Nat → Int64 := wfz (fun j => va_up R (1 + 116 * q + 108) 1 (1 + 116 * q + (98 + j))) (va_up R (1 + 116 * q + 108) 1) (1 + 116 * q + 109) 3
