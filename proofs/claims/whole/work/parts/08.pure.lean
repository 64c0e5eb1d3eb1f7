/-! PURE WORDS for both sides -/
def dnz (a b : Int32) (e : Int64) : Int64 := a.toInt64 + b.toInt64 * e / 1000
def ndz (b : Int32) (n : Int64) : Int64 := ((1 : Int64) <<< (b.toInt64 &&& 63) - 1) * n
def capz (n : Int64) : Int64 := if 1000000000000 < n then 1000000000000 else n
def mgz (e nd : Int64) : Int64 := if nd < 1 then -1 else 100 * e / nd
def sumI (f : Nat → Int32) : Nat → Int32
  | 0 => 0
  | n + 1 => sumI f n + f n
def sumL (f : Nat → Int64) : Nat → Int64
  | 0 => 0
  | n + 1 => sumL f n + f n
/-- the disturbed noise of tone t of the pair P beside the pair P2 -/
def dnP (h : hS) (P P2 t : Nat) : Int64 := dnz (h.1 (P + 1) t) (h.1 (P + 2) t) (h.2.1 (P2 + 6) t)
def ndP (h : hS) (P P2 t : Nat) : Int64 := ndz (h.1 (P + 4) t) (dnP h P P2 t)
def mgP (h : hS) (P P2 t : Nat) : Int64 := mgz (h.2.1 (P + 6) t) (ndP h P P2 t)
def oI : Option Nat → Int32
  | none => -1
  | some t => nI t
def oL (st : Nat → Int64) : Option Nat → Int64
  | none => 0
  | some b => st b
def amin (av : Nat → Bool) (st : Nat → Int64) : Nat → Option Nat
  | 0 => none
  | n + 1 => if av n = true then (match amin av st n with | none => some n | some b => if st n < st b then some n else some b) else amin av st n
theorem amin_bd {av : Nat → Bool} {st : Nat → Int64} : ∀ {n b : Nat}, amin av st n = some b → b < n ∧ av b = true
  | 0, b, h => by simp [amin] at h
  | n + 1, b, h => by
    rw [amin] at h
    by_cases ha : av n = true
    · rw [if_pos ha] at h
      rcases hm : amin av st n with _ | b0
      · rw [hm] at h; cases h; exact ⟨Nat.lt_succ_self n, ha⟩
      · rw [hm] at h
        dsimp only at h
        by_cases hc : st n < st b0
        · rw [if_pos hc] at h; cases h; exact ⟨Nat.lt_succ_self n, ha⟩
        · rw [if_neg hc] at h; cases h
          have := amin_bd hm
          exact ⟨Nat.lt_succ_of_lt this.1, this.2⟩
    · rw [if_neg ha] at h
      have := amin_bd h
      exact ⟨Nat.lt_succ_of_lt this.1, this.2⟩
def aminC (av : Nat → Bool) (st : Nat → Int64) : Nat → Int32 × Int64
  | 0 => (-1, 0)
  | n + 1 => if av n = true then (if (aminC av st n).1 < 0 then (nI n, st n) else if st n < (aminC av st n).2 then (nI n, st n) else aminC av st n) else aminC av st n
theorem aminC_no {av : Nat → Bool} {st : Nat → Int64} {n : Nat} {z : Int32 × Int64} (ha : ¬ av n = true) (h : z = aminC av st n) : z = aminC av st (n + 1) := by rw [aminC, if_neg ha]; exact h
theorem aminC_neg {av : Nat → Bool} {st : Nat → Int64} {n : Nat} {x : Int32} {y : Int64} (ha : av n = true) (h : (x, y) = aminC av st n) (c : x < 0) : (nI n, st n) = aminC av st (n + 1) := by rw [aminC, if_pos ha, ← h, if_pos c]
theorem aminC_lt {av : Nat → Bool} {st : Nat → Int64} {n : Nat} {x : Int32} {y : Int64} (ha : av n = true) (h : (x, y) = aminC av st n) (c : ¬ x < 0) (d : st n < y) : (nI n, st n) = aminC av st (n + 1) := by rw [aminC, if_pos ha, ← h, if_neg c, if_pos d]
theorem aminC_ge {av : Nat → Bool} {st : Nat → Int64} {n : Nat} {x : Int32} {y : Int64} (ha : av n = true) (h : (x, y) = aminC av st n) (c : ¬ x < 0) (d : ¬ st n < y) : (x, y) = aminC av st (n + 1) := by rw [aminC, if_pos ha, ← h, if_neg c, if_neg d]
theorem aminC_eq (av : Nat → Bool) (st : Nat → Int64) : ∀ n : Nat, n ≤ 2 ^ 31 → aminC av st n = (oI (amin av st n), oL st (amin av st n))
  | 0, _ => rfl
  | n + 1, hn => by
    have ih := aminC_eq av st n (by omega)
    rw [aminC, amin, ih]
    by_cases ha : av n = true
    · rw [if_pos ha, if_pos ha]
      rcases hm : amin av st n with _ | b
      · rw [if_pos (show (oI none, oL st none).1 < 0 from (by decide : (-1 : Int32) < 0))]
        rfl
      · have hb := (amin_bd hm).1
        rw [if_neg (show ¬ (oI (some b), oL st (some b)).1 < 0 from nI_pos (by omega))]
        show _ = (oI (if st n < st b then some n else some b), oL st (if st n < st b then some n else some b))
        by_cases hc : st n < st b
        · rw [if_pos (show st n < (oI (some b), oL st (some b)).2 from hc), if_pos hc]; rfl
        · rw [if_neg (show ¬ st n < (oI (some b), oL st (some b)).2 from hc), if_neg hc]
    · rw [if_neg ha, if_neg ha]
def amaxC (av : Nat → Bool) (st : Nat → Int64) : Nat → Option Nat × Int64
  | 0 => (none, 0)
  | n + 1 => if av n = true then (if st n < (amaxC av st n).2 then amaxC av st n else (some n, st n)) else amaxC av st n
theorem amaxC_bd {av : Nat → Bool} {st : Nat → Int64} : ∀ {n b : Nat}, (amaxC av st n).1 = some b → b < n ∧ av b = true
  | 0, b, h => by simp [amaxC] at h
  | n + 1, b, h => by
    rw [amaxC] at h
    by_cases ha : av n = true
    · rw [if_pos ha] at h
      by_cases hc : st n < (amaxC av st n).2
      · rw [if_pos hc] at h
        have := amaxC_bd h
        exact ⟨Nat.lt_succ_of_lt this.1, this.2⟩
      · rw [if_neg hc] at h; cases h; exact ⟨Nat.lt_succ_self n, ha⟩
    · rw [if_neg ha] at h
      have := amaxC_bd h
      exact ⟨Nat.lt_succ_of_lt this.1, this.2⟩
theorem amaxC_no {av : Nat → Bool} {st : Nat → Int64} {n : Nat} {x : Int32} {y : Int64} (ha : ¬ av n = true) (h : x = oI (amaxC av st n).1 ∧ y = (amaxC av st n).2) : x = oI (amaxC av st (n + 1)).1 ∧ y = (amaxC av st (n + 1)).2 := by rw [amaxC, if_neg ha]; exact h
theorem amaxC_lt {av : Nat → Bool} {st : Nat → Int64} {n : Nat} {x : Int32} {y : Int64} (ha : av n = true) (h : x = oI (amaxC av st n).1 ∧ y = (amaxC av st n).2) (d : st n < y) : x = oI (amaxC av st (n + 1)).1 ∧ y = (amaxC av st (n + 1)).2 := by rw [amaxC, if_pos ha, ← h.2, if_pos d]; exact h
theorem amaxC_ge {av : Nat → Bool} {st : Nat → Int64} {n : Nat} {x : Int32} {y : Int64} (ha : av n = true) (h : x = oI (amaxC av st n).1 ∧ y = (amaxC av st n).2) (d : ¬ st n < y) : nI n = oI (amaxC av st (n + 1)).1 ∧ st n = (amaxC av st (n + 1)).2 := by rw [amaxC, if_pos ha, ← h.2, if_neg d]; exact ⟨rfl, rfl⟩
def bI (b : Bool) : Int32 := if b = true then nI 1 else nI 0
theorem bI_bz (b : Bool) : bz (bI b) := by cases b; exact Or.inl rfl; exact Or.inr rfl
/-- two rows differ below n -/
def dfz (f g : Nat → Int32) : Nat → Bool
  | 0 => false
  | n + 1 => dfz f g n || decide (¬ f n = g n)
theorem dfz_up {f g : Nat → Int32} : ∀ {n m : Nat}, dfz f g n = true → n ≤ m → dfz f g m = true
  | n, 0, h, hm => by cases Nat.le_zero.mp hm; exact h
  | n, m + 1, h, hm => by
    rcases Nat.lt_or_ge n (m + 1) with q | q
    · rw [dfz, dfz_up h (Nat.le_of_lt_succ q)]; rfl
    · have : n = m + 1 := by omega
      subst this; exact h
theorem dfz_iff {f g : Nat → Int32} : ∀ {n : Nat}, dfz f g n = true ↔ ∃ t, t < n ∧ f t ≠ g t
  | 0 => by simp [dfz]
  | n + 1 => by
    rw [dfz, Bool.or_eq_true, dfz_iff (n := n), decide_eq_true_iff]
    constructor
    · rintro (⟨t, h1, h2⟩ | h)
      · exact ⟨t, by omega, h2⟩
      · exact ⟨n, by omega, h⟩
    · rintro ⟨t, h1, h2⟩
      rcases Nat.lt_or_ge t n with q | q
      · exact Or.inl ⟨t, q, h2⟩
      · have : t = n := by omega
        subst this; exact Or.inr h2
/-- the first t places of f, then g -/
def pfz {α : Type} (f g : Nat → α) (t : Nat) : Nat → α := fun j => if j < t then f j else g j
theorem pfz_0 {α : Type} (f g : Nat → α) : pfz f g 0 = g := by funext j; simp [pfz]
theorem pfz_up {α : Type} (f g : Nat → α) (t : Nat) : va_up (pfz f g t) t (f t) = pfz f g (t + 1) := by
  funext j
  by_cases h : j = t
  · subst h; simp [va_up, pfz]
  · by_cases h2 : j < t
    · simp [va_up, pfz, h, h2, Nat.lt_succ_of_lt h2]
    · have : ¬ j < t + 1 := by omega
      simp [va_up, pfz, h, h2, this]
theorem pfz_in {α : Type} {f g : Nat → α} {t j : Nat} (h : j < t) : pfz f g t j = f j := by simp [pfz, h]
theorem pfz_out {α : Type} {f g : Nat → α} {t j : Nat} (h : t ≤ j) : pfz f g t j = g j := by simp [pfz, Nat.not_lt.mpr h]
/-- Math.floorMod as its code has it -/
def fmz (x y : Int32) : Int32 := if 0 ≤ x ^^^ y then x - x / y * y else if x - x / y * y = 0 then x - x / y * y else x - x / y * y + y
/-- a bit moved within a row -/
def mvz (h : hS) (C a b : Nat) : hS := upI (upI h C a (h.1 C a - nI 1)) C b ((upI h C a (h.1 C a - nI 1)).1 C b + nI 1)
def wkz (h : hS) (P P2 : Nat) : Option Nat := amin (fun t => decide (¬ mgP h P P2 t = -1)) (mgP h P P2) 16
abbrev duz (h : hS) (K : Nat) (f : Int32) : Prop := ¬ h.1 K 1 = 0 ∧ ¬ h.1 K 5 = -1 ∧ ¬ f < h.1 K 5
