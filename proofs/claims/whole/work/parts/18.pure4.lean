abbrev isP (x : Int32) : Prop := ∃ q : Nat, q < 2 ∧ x = nI q
abbrev isT (x : Int32) : Prop := ∃ t : Nat, t < 16 ∧ x = nI t
abbrev okR (x a b : Int32) : Prop := ¬ x < a ∧ x ≤ b
theorem isP_of {x : Int32} (h : x = 0 ∨ x = nI 1) : isP x := by
  rcases h with rfl | rfl
  · exact ⟨0, by decide, rfl⟩
  · exact ⟨1, by decide, rfl⟩
theorem isP_no {x : Int32} (h0 : ¬ x = 0) (h1 : ¬ x = nI 1) : ¬ isP x := by
  rintro ⟨q, hq, rfl⟩
  rcases (by omega : q = 0 ∨ q = 1) with rfl | rfl
  · exact h0 rfl
  · exact h1 rfl
theorem fmz4 : ∀ a, a < 4 → fmz (nI (a + 1)) (nI 4) = nI ((a + 1) % 4) := by decide +kernel
theorem fmz4' : ∀ a, a < 4 → fmz (nI a) (nI 4) = nI a := by decide +kernel
theorem fmz4m : ∀ a, a < 4 → fmz (nI a - nI 1) (nI 4) = nI ((a + 3) % 4) := by decide +kernel
theorem fmz8 : ∀ a, a < 8 → fmz (nI a + nI 1) (nI 8) = nI ((a + 1) % 8) := by decide +kernel
/-- the ring of saved states: the newest at a, b of them; the flags of the present pairs -/
def SI (h : hS) (a b : Nat) : Prop := (h.1 0 2 = nI a ∧ a < 4) ∧ (h.1 0 3 = nI b ∧ b ≤ 4) ∧ fgP h 11 ∧ fgP h 19
def svz (h : hS) (a b : Nat) : hS := if b < 4 then upI (cpS (upI h 0 2 (nI ((a + 1) % 4))) (7 + (a + 1) % 4) 6) 0 3 (nI (b + 1)) else cpS (upI h 0 2 (nI ((a + 1) % 4))) (7 + (a + 1) % 4) 6
theorem cpS_lo (h : hS) {S S2 i : Nat} (hS : 6 ≤ S) (hi : i < 6) : (cpS h S S2).1 i = h.1 i := by
  unfold cpS
  rw [cpP_o1 _ _ _ _ (by omega), cpP_o1 _ _ _ _ (by omega), setI_o _ _ (by omega)]
def lmz (h : hS) (P P2 : Nat) : Int64 := match wkz h P P2 with
  | none => -1
  | some t => mgP h P P2 t
def btz (h : hS) (P P2 : Nat) : Nat → Int32
  | 0 => nI 0
  | n + 1 => if ¬ mgP h P P2 n = -1 ∧ mgP h P P2 n < 100 then btz h P P2 n ||| (nI 1 <<< (nI n &&& 31)) else btz h P P2 n
def effz (g : hS) : Bool := !csz (g.2.1 3) (g.1 5) (dez (g.2.1 3) (g.1 5)) (chz (g.2.1 3) (g.1 4) (g.1 5) (-1))
theorem nan16 : ∀ n : Nat, n < 193 → vf_n64 (FP.ddiv (FP.i2d (nI n)) 4625196817309499392) := by
  have h : ((List.range 193).all fun n => decide (FP.ddiv (FP.i2d (nI n)) 4625196817309499392 &&& 0x7fffffffffffffff ≤ 0x7ff0000000000000)) = true := by decide +kernel
  intro n hn
  have h2 := List.all_eq_true.mp h n (List.mem_range.mpr hn)
  exact (decide_eq_true_iff.mp h2 : FP.ddiv (FP.i2d (nI n)) 4625196817309499392 &&& 0x7fffffffffffffff ≤ 0x7ff0000000000000)
def sgz (h : hS) (P P2 : Nat) : Int32 := match wkz h P P2 with
  | none => -1
  | some a => match chz ((rtz h P P2).2.1 3) ((rtz h P P2).1 4) ((rtz h P P2).1 5) (nI a) with
    | none => -1
    | some b => nI (16 * a + b)
/-- a pair loaded for rate -/
def lfA (h : hS) (P P2 : Nat) : hS := setI (rlz h P P2) 5 (fun _ => nI 0)
def lfB (h : hS) (P P2 : Nat) : hS := setI (lfA h P P2) 5 (fbz ((lfA h P P2).2.1 3) ((lfA h P P2).1 4) ((lfA h P P2).1 P 7).toInt64 192 ((lfA h P P2).1 5) 0)
def lfz (h : hS) (P P2 : Nat) : hS := sez (lfB h P P2) P
theorem btz_1 {h : hS} {P P2 n : Nat} {u : Int32} (c : mgP h P P2 n = -1) (hu : u = btz h P P2 n) : u = btz h P P2 (n + 1) := by rw [btz, if_neg (fun z => z.1 c)]; exact hu
theorem btz_2 {h : hS} {P P2 n : Nat} {u : Int32} (c : ¬ mgP h P P2 n < 100) (hu : u = btz h P P2 n) : u = btz h P P2 (n + 1) := by rw [btz, if_neg (fun z => c z.2)]; exact hu
theorem btz_3 {h : hS} {P P2 n : Nat} {u v : Int32} (c1 : ¬ mgP h P P2 n = -1) (c2 : mgP h P P2 n < 100) (hu : u = btz h P P2 n) (hv : v = u ||| (nI 1 <<< (nI n &&& 31))) : v = btz h P P2 (n + 1) := by rw [btz, if_pos ⟨c1, c2⟩, ← hu]; exact hv
