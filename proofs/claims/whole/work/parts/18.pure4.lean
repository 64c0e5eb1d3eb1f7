abbrev isP (x : Int32) : Prop := ∃ q : Nat, q < 2 ∧ x = nI q
abbrev isT (x : Int32) : Prop := ∃ t : Nat, t < 16 ∧ x = nI t
abbrev okR (x a b : Int32) : Prop := ¬ x < a ∧ x ≤ b
theorem isP_of {x : Int32} (h : x = 0 ∨ x = nI 1) : isP x := by
  rcases h with rfl | rfl
  · exact ⟨0, by decide, rfl⟩
  · exact ⟨1, by decide, rfl⟩
theorem isP_no {x : Int32} (h0 : ¬ x = 0) (h1 : ¬ x = nI 1) : ¬ isP x := by
  rintro ⟨q, hq, rfl⟩
  rcases (by omega : q = 0 ∨ q = 1) with rfl | rfl
  · exact h0 rfl
  · exact h1 rfl
theorem fmz4 : ∀ a, a < 4 → fmz (nI (a + 1)) (nI 4) = nI ((a + 1) % 4) := by decide +kernel
theorem fmz4' : ∀ a, a < 4 → fmz (nI a) (nI 4) = nI a := by decide +kernel
theorem fmz4m : ∀ a, a < 4 → fmz (nI a - nI 1) (nI 4) = nI ((a + 3) % 4) := by decide +kernel
theorem fmz8 : ∀ a, a < 8 → fmz (nI a + nI 1) (nI 8) = nI ((a + 1) % 8) := by decide +kernel
/-- the ring of saved states: the newest at a, b of them; the flags of the present pairs -/
def SI (h : hS) (a b : Nat) : Prop := (h.1 0 2 = nI a ∧ a < 4) ∧ (h.1 0 3 = nI b ∧ b ≤ 4) ∧ fgP h 11 ∧ fgP h 19
def svz (h : hS) (a b : Nat) : hS := if b < 4 then upI (cpS (upI h 0 2 (nI ((a + 1) % 4))) (7 + (a + 1) % 4) 6) 0 3 (nI (b + 1)) else cpS (upI h 0 2 (nI ((a + 1) % 4))) (7 + (a + 1) % 4) 6
theorem cpS_lo (h : hS) {S S2 i : Nat} (hS : 6 ≤ S) (hi : i < 6) : (cpS h S S2).1 i = h.1 i := by
  unfold cpS
  rw [cpP_o1 _ _ _ _ (by omega), cpP_o1 _ _ _ _ (by omega), setI_o _ _ (by omega)]
