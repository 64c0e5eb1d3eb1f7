theorem okR_nat {x : Int32} {N : Nat} (hN : N < 2 ^ 31) (h : okR x (nI 0) (nI N)) : ∃ n : Nat, n ≤ N ∧ x = nI n := by
  obtain ⟨n, hn, rfl⟩ := nI_of (show ¬ x < 0 from h.1)
  exact ⟨n, (nI_leI hn hN).mp h.2, rfl⟩
theorem okR_nat1 {x : Int32} {N : Nat} (hN : N < 2 ^ 31) (h : okR x (nI 1) (nI N)) : ∃ n : Nat, 1 ≤ n ∧ n ≤ N ∧ x = nI n := by
  have h0 : ¬ x < 0 := fun q => h.1 (by rw [Int32.lt_iff_toInt_lt] at q ⊢; have e0 : (0 : Int32).toInt = 0 := rfl; have e1 : (nI 1).toInt = 1 := rfl; omega)
  obtain ⟨n, hn, rfl⟩ := nI_of h0
  refine ⟨n, ?_, (nI_leI hn hN).mp h.2, rfl⟩
  rcases Nat.eq_zero_or_pos n with z | z
  · subst z; exact absurd (by decide : nI 0 < nI 1) h.1
  · exact z
theorem SI_of {h g : hS} {a b : Nat} (h0 : g.1 0 = h.1 0) (h1 : ∀ i, 11 ≤ i → g.1 i = h.1 i) (hs : SI h a b) : SI g a b :=
  ⟨by rw [h0]; exact hs.1, by rw [h0]; exact hs.2.1, fgP_of (h1 11 (by decide)) (h1 (11 + 7) (by decide)) hs.2.2.1, fgP_of (h1 19 (by decide)) (h1 (19 + 7) (by decide)) hs.2.2.2⟩
def dlz (h : hS) (K : Nat) (y z : Int32) : Int32 × hS := if y = 0 then (if z = 0 then (agT ((upI h K 6 (nI 0)).1 K) ((upI h K 6 (nI 0)).1 6 0) 11, setI (upI h K 6 (nI 0)) K (anT ((upI h K 6 (nI 0)).1 K) ((upI h K 6 (nI 0)).1 6 0))) else (-1, upI h K 6 (nI 0))) else (if z = 0 then (if (upI h K 7 (nI 0)).1 K 1 = 0 ∨ ¬ (upI h K 7 (nI 0)).1 K 8 = (upI h K 7 (nI 0)).1 K 2 then -1 else (upI h K 7 (nI 0)).1 K 9, if (upI h K 7 (nI 0)).1 K 1 = 0 ∨ ¬ (upI h K 7 (nI 0)).1 K 8 = (upI h K 7 (nI 0)).1 K 2 then upI h K 7 (nI 0) else upI (upI h K 7 (nI 0)) K 5 ((upI h K 7 (nI 0)).1 K 9)) else (-1, upI h K 7 (nI 0)))
def unz (h : hS) (a b : Nat) : hS := upI (upI (cpS h 6 (7 + a)) 0 2 (nI ((a + 3) % 4))) 0 3 (nI (b - 1))
def ltz (h : hS) (P P2 n : Nat) : hS := setI (lfA h P P2) 5 (ftz ((lfA h P P2).2.1 3) ((lfA h P P2).1 4) n ((lfA h P P2).1 5)).1
def ltB (h : hS) (P P2 n : Nat) : Bool := (ftz ((lfA h P P2).2.1 3) ((lfA h P P2).1 4) n ((lfA h P P2).1 5)).2
def rpM (g : hS) : (Nat → Int32) × Nat := mez (g.2.1 3) (g.1 4) 10000 (g.1 5) 0
def rpz (g : hS) (P P2 : Nat) : hS := sez (setI (rtz g P P2) 5 (rpM (rtz g P P2)).1) P
def bl1 (g : hS) : hS := lfz (lfz g 11 19) 19 11
def blc (g : hS) : Bool := cgz (lfB g 11 19) 11 16 || cgz (lfB (lfz g 11 19) 19 11) 19 16
def blz : Nat → hS → Nat → Nat × hS
  | 0, g, m => (m, g)
  | f + 1, g, m => if blc g = true then blz f (bl1 g) (m + 1) else (m + 1, bl1 g)
def htz (s : Int64) (f : Nat → Int32) : Int64 := ((if f 1 = 0 then s * 31 + (nI 0).toInt64 else ((((s * 31 + (nI 1).toInt64) * 31 + (f 2).toInt64) * 31 + (f 3).toInt64) * 31 + (f 4).toInt64) * 31 + (f 5).toInt64) * 31 + (if f 6 = 0 then nI 0 else nI 1).toInt64) * 31 + (if f 7 = 0 then nI 0 else nI 1).toInt64
def hpT (h : hS) (P P2 : Nat) : Nat → Int64 → Int64
  | 0, s => s
  | n + 1, s => ((((((hpT h P P2 n s * 31 + (h.1 (P + 1) n).toInt64) * 31 + (h.1 (P + 2) n).toInt64) * 31 + (h.1 (P + 3) n).toInt64) * 31 + (h.1 (P + 4) n).toInt64) * 31 + (h.1 (P + 5) n).toInt64) * 31 + h.2.1 (P + 6) n) * 31 + mgP h P P2 n
def hpz (h : hS) (P P2 : Nat) (s : Int64) : Int64 := htz (hpT h P P2 16 (s * 31 + (h.1 P 7).toInt64) * 31 + (bI (effz (rtz h P P2))).toInt64) (h.1 (P + 7)) * 31 + (h.1 P 8).toInt64
def rt2 (h : hS) : hS := rtz (rtz h 11 19) 19 11
def dgz (h : hS) : Int64 := hpz (rtz h 11 19) 19 11 (hpz h 11 19 (86459 + (h.1 6 0).toInt64)) * 31 + ((rt2 h).1 0 3).toInt64
theorem rlz_o (h : hS) (P P2 : Nat) {i : Nat} (hi : i ≠ 4) : (rlz h P P2).1 i = h.1 i := by unfold rlz; rw [setI_o _ _ hi]; rfl
theorem rtz_o (h : hS) (P P2 : Nat) {i : Nat} (h4 : i ≠ 4) (h5 : i ≠ 5) : (rtz h P P2).1 i = h.1 i := by unfold rtz; rw [setI_o _ _ h5, rlz_o _ _ _ h4]
theorem rlz_oL (h : hS) (P P2 : Nat) {i : Nat} (hi : i ≠ 3) : (rlz h P P2).2.1 i = h.2.1 i := by unfold rlz; show (setL h 3 _).2.1 i = _; rw [setL_o _ _ hi]
theorem rtz_oL (h : hS) (P P2 : Nat) {i : Nat} (hi : i ≠ 3) : (rtz h P P2).2.1 i = h.2.1 i := by unfold rtz; show (rlz h P P2).2.1 i = _; rw [rlz_oL _ _ _ hi]
