theorem fgP_of {h g : hS} {P : Nat} (h1 : g.1 P = h.1 P) (h2 : g.1 (P + 7) = h.1 (P + 7)) (hf : fgP h P) : fgP g P := by unfold fgP; rw [h1, h2]; exact hf
theorem efA_o (h : hS) (P : Nat) (f : Int32) {i : Nat} (hi : i ≠ P + 5) : (efA h P f).1 i = h.1 i := by
  unfold efA
  by_cases c : h.1 (P + 7) 11 = f
  · rw [if_pos c, mvz_o _ hi]
  · rw [if_neg c]
theorem rcv_o (h : hS) (P P2 a b : Nat) {i : Nat} (h4 : i ≠ P + 4) (h7 : i ≠ P + 7) : (rcv h P P2 a b).1 i = h.1 i := by
  unfold rcv
  rw [upI_o _ _ _ h7]
  show (mvz h (P + 4) a b).1 i = h.1 i
  rw [mvz_o _ h4]
theorem efB_o (h : hS) (P P2 : Nat) (f : Int32) {i : Nat} (h4 : i ≠ P + 4) (h5 : i ≠ P + 5) (h7 : i ≠ P + 7) : (efB h P P2 f).1 i = h.1 i := by
  unfold efB
  by_cases c : duz h (P + 7) f
  · rw [if_pos c, rcv_o _ _ _ _ _ h4 h7, efA_o _ _ _ h5]
  · rw [if_neg c, efA_o _ _ _ h5]
theorem efz_o (h : hS) (P P2 : Nat) (f : Int32) {i : Nat} (h0 : i ≠ P) (h4 : i ≠ P + 4) (h5 : i ≠ P + 5) (h7 : i ≠ P + 7) : (efz h P P2 f).1 i = h.1 i := by
  unfold efz
  by_cases c : h.1 (P + 7) 11 = f ∨ duz h (P + 7) f
  · rw [if_pos c, upI_o _ _ _ h0, efB_o _ _ _ _ h4 h5 h7]
  · rw [if_neg c, efB_o _ _ _ _ h4 h5 h7]
theorem efA_L (h : hS) (P : Nat) (f : Int32) : (efA h P f).2 = h.2 := by
  unfold efA
  by_cases c : h.1 (P + 7) 11 = f
  · rw [if_pos c]; rfl
  · rw [if_neg c]
theorem efz_oL (h : hS) (P P2 : Nat) (f : Int32) {i : Nat} (h6 : i ≠ P + 6) : (efz h P P2 f).2.1 i = h.2.1 i := by
  have e1 : (efz h P P2 f).2 = (efB h P P2 f).2 := by
    unfold efz
    by_cases c : h.1 (P + 7) 11 = f ∨ duz h (P + 7) f
    · rw [if_pos c]; rfl
    · rw [if_neg c]
  rw [e1]
  unfold efB
  by_cases c : duz h (P + 7) f
  · rw [if_pos c]
    unfold rcv
    show (upL (upL (mvz (efA h P f) _ _ _) _ _ _) _ _ _).2.1 i = _
    rw [upL_o _ _ _ h6, upL_o _ _ _ h6]
    show (efA h P f).2.1 i = _
    rw [efA_L]
  · rw [if_neg c, efA_L]
/-- what a frame asks of the talks -/
def fOK (h : hS) : Prop := ((pfA h).1 (11 + 7) 11 = h.1 6 0 + nI 1 → swT (pfA h) (11 + 7) 12 13) ∧ (duz (pfA h) (11 + 7) (h.1 6 0 + nI 1) → swT (pfA h) (11 + 7) 3 4) ∧ ((pfB h).1 (19 + 7) 11 = h.1 6 0 + nI 1 → swT (pfB h) (19 + 7) 12 13) ∧ (duz (pfB h) (19 + 7) (h.1 6 0 + nI 1) → swT (pfB h) (19 + 7) 3 4)
-- the plan: noise n, limits lim, counts c
def stz (n : Int64) (b : Int32) : Int64 := n <<< (b.toInt64 &&& 63)
def lcz (n : Int64) (b : Int32) : Int64 := n <<< ((b - nI 1).toInt64 &&& 63)
def chA (lim c : Nat → Int32) (ex : Int32) (t : Nat) : Bool := decide (¬ nI t = ex ∧ ¬ lim t ≤ c t)
def chz (n : Nat → Int64) (lim c : Nat → Int32) (ex : Int32) : Option Nat := amin (chA lim c ex) (fun t => stz (n t) (c t)) 16
def dez (n : Nat → Int64) (c : Nat → Int32) : Option Nat := (amaxC (fun t => decide (¬ c t ≤ 0)) (fun t => lcz (n t) (c t)) 16).1
def csz (n : Nat → Int64) (c : Nat → Int32) : Option Nat → Option Nat → Bool
  | some a, some b => decide (stz (n b) (c b) < lcz (n a) (c a))
  | _, _ => false
def fbz (n : Nat → Int64) (lim : Nat → Int32) (bud : Int64) : Nat → (Nat → Int32) → Int64 → (Nat → Int32)
  | 0, c, _ => c
  | f + 1, c, s => match chz n lim c (-1) with
    | none => c
    | some t => if bud < s + stz (n t) (c t) then c else fbz n lim bud f (va_up c t (c t + nI 1)) (s + stz (n t) (c t))
def ftz (n : Nat → Int64) (lim : Nat → Int32) : Nat → (Nat → Int32) → (Nat → Int32) × Bool
  | 0, c => (c, true)
  | f + 1, c => match chz n lim c (-1) with
    | none => (c, false)
    | some t => ftz n lim f (va_up c t (c t + nI 1))
/-- the repair: counts and the number of moves -/
def mvC (c : Nat → Int32) (a b : Nat) : Nat → Int32 := va_up (va_up c a (c a - nI 1)) b ((va_up c a (c a - nI 1)) b + nI 1)
def mez (n : Nat → Int64) (lim : Nat → Int32) : Nat → (Nat → Int32) → Nat → (Nat → Int32) × Nat
  | 0, c, m => (c, m)
  | f + 1, c, m => match dez n c, chz n lim c (-1) with
    | some a, some b => if stz (n b) (c b) < lcz (n a) (c a) then mez n lim f (mvC c a b) (m + 1) else (c, m)
    | _, _ => (c, m)
def rlz (h : hS) (P P2 : Nat) : hS := setI (setL h 3 (dnP h P P2)) 4 (h.1 (P + 3))
def rtz (h : hS) (P P2 : Nat) : hS := setI (rlz h P P2) 5 (h.1 (P + 4))
def enz (h : hS) (t : Nat) : Int64 := capz (ndz (h.1 5 t) (h.2.1 3 t))
/-- the plan's table laid into pair P, the first t tones -/
def slz (h : hS) (P t : Nat) : hS := setL (setI (setI h (P + 4) (pfz (h.1 5) (h.1 (P + 4)) t)) (P + 5) (pfz (h.1 5) (h.1 (P + 5)) t)) (P + 6) (pfz (enz h) (h.2.1 (P + 6)) t)
def cgz (h : hS) (P : Nat) : Nat → Bool
  | 0 => false
  | n + 1 => cgz h P n || decide (¬ h.1 (P + 4) n = h.1 5 n ∨ ¬ h.2.1 (P + 6) n = enz h n)
def sez (h : hS) (P : Nat) : hS := setI (upI (setL (setI (setI h (P + 4) (h.1 5)) (P + 5) (h.1 5)) (P + 6) (enz h)) P 9 (nI 0)) (P + 7) (drT (h.1 (P + 7)))
theorem slz_0 (h : hS) (P : Nat) : slz h P 0 = h := by
  unfold slz
  rw [pfz_0, pfz_0, pfz_0, setI_self]
  have e1 : setI h (P + 5) (h.1 (P + 5)) = h := setI_self h _
  rw [e1]
  apply Prod.ext
  · rfl
  · apply Prod.ext
    · funext a; by_cases ha : a = P + 6
      · subst ha; simp [setL, va_up]
      · simp [setL, va_up, ha]
    · rfl
theorem slz_o (h : hS) {P t i : Nat} (h4 : i ≠ P + 4) (h5 : i ≠ P + 5) : (slz h P t).1 i = h.1 i := by
  unfold slz; rw [setL_I, setI_o _ _ h5, setI_o _ _ h4]
theorem slz_4 (h : hS) (P t : Nat) : (slz h P t).1 (P + 4) = pfz (h.1 5) (h.1 (P + 4)) t := by
  unfold slz; rw [setL_I, setI_o _ _ (by omega), setI_s]
theorem slz_5 (h : hS) (P t : Nat) : (slz h P t).1 (P + 5) = pfz (h.1 5) (h.1 (P + 5)) t := by
  unfold slz; rw [setL_I, setI_s]
theorem slz_oL (h : hS) {P t i : Nat} (h6 : i ≠ P + 6) : (slz h P t).2.1 i = h.2.1 i := by
  unfold slz; rw [setL_o _ _ h6]; rfl
theorem slz_6 (h : hS) (P t : Nat) : (slz h P t).2.1 (P + 6) = pfz (enz h) (h.2.1 (P + 6)) t := by
  unfold slz; rw [setL_s]
theorem slz_up (h : hS) (P t : Nat) : upL (upI (upI (slz h P t) (P + 4) t (h.1 5 t)) (P + 5) t (h.1 5 t)) (P + 6) t (enz h t) = slz h P (t + 1) := by
  apply Prod.ext
  · funext i
    show (upI (upI (slz h P t) (P + 4) t (h.1 5 t)) (P + 5) t (h.1 5 t)).1 i = _
    by_cases h5 : i = P + 5
    · subst h5
      rw [upI_s, upI_o _ _ _ (by omega), slz_5, slz_5, pfz_up]
    · rw [upI_o _ _ _ h5]
      by_cases h4 : i = P + 4
      · subst h4; rw [upI_s, slz_4, slz_4, pfz_up]
      · rw [upI_o _ _ _ h4, slz_o _ h4 h5, slz_o _ h4 h5]
  · apply Prod.ext
    · funext i
      by_cases h6 : i = P + 6
      · subst h6
        rw [upL_s]
        show va_up ((slz h P t).2.1 (P + 6)) t (enz h t) = _
        rw [slz_6, slz_6, pfz_up]
      · rw [upL_o _ _ _ h6, slz_oL _ h6]
        show (slz h P t).2.1 i = _
        rw [slz_oL _ h6]
    · rfl
theorem setI_comm (h : hS) {i j : Nat} (f g : Nat → Int32) (hij : i ≠ j) : setI (setI h i f) j g = setI (setI h j g) i f := by
  apply Prod.ext
  · funext a
    show va_up (va_up h.1 i f) j g a = va_up (va_up h.1 j g) i f a
    unfold va_up
    by_cases h1 : a = j
    · subst h1; simp [Ne.symm hij]
    · simp [h1]
  · rfl
theorem dnP_setL3 (h : hS) (f : Nat → Int64) {P P2 : Nat} (hP2 : pp P2) (t : Nat) : dnP (setL h 3 f) P P2 t = dnP h P P2 t := by
  obtain ⟨g1, g2, g3⟩ := hP2
  unfold dnP
  rw [setL_I, setL_o _ _ (by omega)]
theorem slz_fin (h : hS) (P t : Nat) (F G : Nat → Int32) (E : Nat → Int64) : setL (setI (setI (slz h P t) (P + 4) F) (P + 5) G) (P + 6) E = setL (setI (setI h (P + 4) F) (P + 5) G) (P + 6) E := by
  apply Prod.ext
  · funext i
    show (setI (setI (slz h P t) (P + 4) F) (P + 5) G).1 i = (setI (setI h (P + 4) F) (P + 5) G).1 i
    by_cases h5 : i = P + 5
    · subst h5; rw [setI_s, setI_s]
    · rw [setI_o _ _ h5, setI_o _ _ h5]
      by_cases h4 : i = P + 4
      · subst h4; rw [setI_s, setI_s]
      · rw [setI_o _ _ h4, setI_o _ _ h4, slz_o _ h4 h5]
  · apply Prod.ext
    · funext i
      by_cases h6 : i = P + 6
      · subst h6; rw [setL_s, setL_s]
      · rw [setL_o _ _ h6, setL_o _ _ h6]
        show (slz h P t).2.1 i = h.2.1 i
        rw [slz_oL _ h6]
    · rfl
