/-! PURE WORDS: the reference's repair -/
def mrp (q : Nat) : Nat → (Nat → Int64) → Nat → Option ((Nat → Int64) × Nat)
  | 0, _, _ => none
  | f + 1, R, n => if mef R q = true then some (R, n) else match mde R q, mch R q (-1) with
    | some a, some b => mrp q f (mp1 (mm1 R (1 + 116 * q + (49 + a))) (1 + 116 * q + (49 + b))) (n + 1)
    | _, _ => none
theorem mrp_pos {q f n : Nat} {R : Nat → Int64} {v : (Nat → Int64) × Nat} (h : mrp q f R n = some v) : ∃ f1, f = f1 + 1 := by
  rcases f with _ | f1
  · rw [mrp] at h; cases h
  · exact ⟨f1, rfl⟩
theorem mrp_t {q f n : Nat} {R : Nat → Int64} {v : (Nat → Int64) × Nat} (e : mef R q = true) (h : mrp q (f + 1) R n = some v) : (R, n) = v := by
  rw [mrp, if_pos e] at h
  exact Option.some.inj h
theorem mrp_s {q f n a b : Nat} {R : Nat → Int64} {v : (Nat → Int64) × Nat} (e : mef R q = false) (e1 : mde R q = some a) (e2 : mch R q (-1) = some b) (h : mrp q (f + 1) R n = some v) : mrp q f (mp1 (mm1 R (1 + 116 * q + (49 + a))) (1 + 116 * q + (49 + b))) (n + 1) = some v := by
  rw [mrp, if_neg (by rw [e]; decide), e1, e2] at h
  exact h
theorem mef_n1 {R : Nat → Int64} {q : Nat} (e : mde R q = none) : mef R q = true := by unfold mef; rw [e]
theorem mef_n2 {R : Nat → Int64} {q : Nat} (e : mch R q (-1) = none) : mef R q = true := by
  unfold mef; rw [e]
  rcases mde R q with _ | a <;> rfl
