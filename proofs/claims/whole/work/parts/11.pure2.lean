/-! PURE WORDS: talks, pairs, states as the class has them -/
theorem ppne {P P2 : Nat} (hP : pp P) (hP2 : pp P2) (hn : P ≠ P2) {a b : Nat} (ha : a < 8) (hb : b < 8) : P2 + a ≠ P + b := by
  obtain ⟨h1, h2, h3⟩ := hP
  obtain ⟨g1, g2, g3⟩ := hP2
  omega
/-- the cells of pair P become those of pair P2 -/
def cpP (h : hS) (P P2 : Nat) : hS := (fun i => if P ≤ i ∧ i < P + 8 then h.1 (P2 + (i - P)) else h.1 i, fun i => if P ≤ i ∧ i < P + 8 then h.2.1 (P2 + (i - P)) else h.2.1 i, h.2.2)
theorem cpP_1 (h : hS) (P P2 c : Nat) (hc : c < 8) : (cpP h P P2).1 (P + c) = h.1 (P2 + c) := by
  show (if P ≤ P + c ∧ P + c < P + 8 then h.1 (P2 + (P + c - P)) else h.1 (P + c)) = _
  rw [if_pos ⟨by omega, by omega⟩, Nat.add_sub_cancel_left]
theorem cpP_2 (h : hS) (P P2 c : Nat) (hc : c < 8) : (cpP h P P2).2.1 (P + c) = h.2.1 (P2 + c) := by
  show (if P ≤ P + c ∧ P + c < P + 8 then h.2.1 (P2 + (P + c - P)) else h.2.1 (P + c)) = _
  rw [if_pos ⟨by omega, by omega⟩, Nat.add_sub_cancel_left]
theorem cpP_o1 (h : hS) (P P2 i : Nat) (hi : i < P ∨ P + 8 ≤ i) : (cpP h P P2).1 i = h.1 i := by
  show (if P ≤ i ∧ i < P + 8 then h.1 (P2 + (i - P)) else h.1 i) = _
  rw [if_neg (by omega)]
theorem cpP_o2 (h : hS) (P P2 i : Nat) (hi : i < P ∨ P + 8 ≤ i) : (cpP h P P2).2.1 i = h.2.1 i := by
  show (if P ≤ i ∧ i < P + 8 then h.2.1 (P2 + (i - P)) else h.2.1 i) = _
  rw [if_neg (by omega)]
theorem cpP_ok {k : kY} {h g : hS} {P P2 : Nat} (hP : pp P) (ho1 : ∀ i, i < P ∨ P + 8 ≤ i → g.1 i = h.1 i) (ho2 : ∀ i, i < P ∨ P + 8 ≤ i → g.2.1 i = h.2.1 i) (h22 : g.2.2 = h.2.2)
    (h7 : g.1 P 7 = h.1 P2 7) (h8 : g.1 P 8 = h.1 P2 8) (h9 : g.1 P 9 = h.1 P2 9) (hc : ∀ c, 1 ≤ c → c < 8 → c ≠ 6 → g.1 (P + c) = h.1 (P2 + c)) (h6 : g.2.1 (P + 6) = h.2.1 (P2 + 6)) : ∀ j, j < 97 → hE k (cpP h P P2) j = hE k g j := by
  intro j _
  by_cases hj : j < P ∨ P + 8 ≤ j
  · exact hE_congr (by rw [cpP_o1 _ _ _ _ hj, ho1 j hj]) (by rw [cpP_o2 _ _ _ _ hj, ho2 j hj]) h22.symm
  · obtain ⟨c, hc8, rfl⟩ : ∃ c, c < 8 ∧ j = P + c := ⟨j - P, by omega, by omega⟩
    rcases (by omega : c = 0 ∨ (1 ≤ c ∧ c ≤ 5) ∨ c = 6 ∨ c = 7) with rfl | ⟨q1, q2⟩ | rfl | rfl
    · rw [Nat.add_zero, hE_p0 hP, hE_p0 hP]
      have e1 := cpP_1 h P P2 0 (by omega)
      rw [Nat.add_zero, Nat.add_zero] at e1
      rw [e1]
      unfold fX0
      rw [h7, h8, h9]
    · rw [hE_pi hP c q1 q2, hE_pi hP c q1 q2, cpP_1 _ _ _ _ hc8, hc c q1 hc8 (by omega)]
    · rw [hE_p6 hP, hE_p6 hP, cpP_2 _ _ _ _ hc8, h6]
    · rw [hE_p7 hP, hE_p7 hP, cpP_1 _ _ _ _ hc8, hc 7 (by omega) hc8 (by omega)]
/-- flags of a pair are flags -/
def fgP (h : hS) (P : Nat) : Prop := bz (h.1 P 9) ∧ bz (h.1 (P + 7) 1) ∧ bz (h.1 (P + 7) 6) ∧ bz (h.1 (P + 7) 7)
def drT (f : Nat → Int32) : Nat → Int32 := va_up (va_up (va_up (va_up (va_up (va_up f 0 (nI 0)) 1 (nI 0)) 6 (nI 0)) 7 (nI 0)) 10 (-1)) 11 (-1)
def rqT (f : Nat → Int32) (a b : Int32) : Nat → Int32 := va_up (va_up (va_up (va_up (va_up (va_up (va_up f 1 (nI 1)) 2 (f 0)) 3 a) 4 b) 5 (-1)) 6 (nI 1)) 0 (fmz (f 0 + nI 1) (nI 8))
def agT (f : Nat → Int32) (n : Int32) : Nat → Int32 := if f 10 = f 2 then f else va_up (va_up (va_up (va_up f 10 (f 2)) 11 (n + nI 8)) 12 (f 3)) 13 (f 4)
def anT (f : Nat → Int32) (n : Int32) : Nat → Int32 := va_up (va_up (va_up (agT f n) 7 (nI 1)) 8 (agT f n 10)) 9 (agT f n 11)
theorem mvz_o (h : hS) {C a b i : Nat} (hi : i ≠ C) : (mvz h C a b).1 i = h.1 i := by unfold mvz; rw [upI_o _ _ _ hi, upI_o _ _ _ hi]
theorem mvz_L (h : hS) (C a b : Nat) : (mvz h C a b).2 = h.2 := rfl
def tN (x : Int32) : Nat := x.toNatClampNeg
theorem tN_nI {a : Nat} (h : a < 2 ^ 31) : tN (nI a) = a := nI_clamp h
def efA (h : hS) (P : Nat) (f : Int32) : hS := if h.1 (P + 7) 11 = f then mvz h (P + 5) (tN (h.1 (P + 7) 12)) (tN (h.1 (P + 7) 13)) else h
/-- the receiver carries out the swap a, b -/
def rcv (h : hS) (P P2 a b : Nat) : hS := upI (upL (upL (mvz h (P + 4) a b) (P + 6) a (capz (ndP (mvz h (P + 4) a b) P P2 a))) (P + 6) b (capz (ndP (upL (mvz h (P + 4) a b) (P + 6) a (capz (ndP (mvz h (P + 4) a b) P P2 a))) P P2 b))) (P + 7) 1 (nI 0)
def efB (h : hS) (P P2 : Nat) (f : Int32) : hS := if duz h (P + 7) f then rcv (efA h P f) P P2 (tN (h.1 (P + 7) 3)) (tN (h.1 (P + 7) 4)) else efA h P f
def efz (h : hS) (P P2 : Nat) (f : Int32) : hS := if h.1 (P + 7) 11 = f ∨ duz h (P + 7) f then upI (efB h P P2 f) P 9 (bI (dfz ((efB h P P2 f).1 (P + 4)) ((efB h P P2 f).1 (P + 5)) 16)) else efB h P P2 f
def cfz (h : hS) (P : Nat) : hS := if h.1 P 9 = 0 then h else upI h P 8 (h.1 P 8 + nI 1)
/-- two places of a talk are tones -/
def swT (h : hS) (K i j : Nat) : Prop := ∃ a b : Nat, a < 16 ∧ b < 16 ∧ h.1 K i = nI a ∧ h.1 K j = nI b
def cpS (h : hS) (S S2 : Nat) : hS := cpP (cpP (setI h S (h.1 S2)) (16 * S - 85) (16 * S2 - 85)) (16 * S - 77) (16 * S2 - 77)
/-- one frame -/
def pfA (h : hS) : hS := upI h 6 0 (h.1 6 0 + nI 1)
def pfB (h : hS) : hS := efz (pfA h) 11 19 (h.1 6 0 + nI 1)
def pfC (h : hS) : hS := efz (pfB h) 19 11 (h.1 6 0 + nI 1)
def psz (h : hS) : hS := cfz (cfz (pfC h) 11) 19
def rnz (h : hS) : Nat → hS
  | 0 => h
  | n + 1 => psz (rnz h n)
