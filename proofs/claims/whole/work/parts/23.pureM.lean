/-! PURE WORDS: the reference on its row R -/
theorem nI_m1 {n : Nat} (h : n < 2 ^ 31) : ¬ nI n = -1 := fun q => by
  have h1 : (nI n).toInt = (-1 : Int32).toInt := by rw [q]
  rw [nI_toInt h] at h1
  have h2 : (-1 : Int32).toInt = -1 := rfl
  omega
theorem isT_in {x : Int32} : (¬ x.toInt64 < 0 ∧ ¬ 15 < x.toInt64) ↔ isT x := by
  have e0 : (0 : Int64).toInt = 0 := rfl
  have e1 : (15 : Int64).toInt = 15 := rfl
  rw [Int64.lt_iff_toInt_lt, Int64.lt_iff_toInt_lt, e0, e1, Int32.toInt_toInt64]
  constructor
  · intro h
    have h0 : ¬ x < 0 := by rw [Int32.lt_iff_toInt_lt]; exact h.1
    obtain ⟨n, hn, rfl⟩ := nI_of h0
    rw [nI_toInt hn] at h
    exact ⟨n, by omega, rfl⟩
  · rintro ⟨n, hn, rfl⟩
    rw [nI_toInt (by omega)]
    omega
theorem isP_in {x : Int32} : (¬ x.toInt64 < 0 ∧ ¬ 1 < x.toInt64) ↔ isP x := by
  have e0 : (0 : Int64).toInt = 0 := rfl
  have e1 : (1 : Int64).toInt = 1 := rfl
  rw [Int64.lt_iff_toInt_lt, Int64.lt_iff_toInt_lt, e0, e1, Int32.toInt_toInt64]
  constructor
  · intro h
    have h0 : ¬ x < 0 := by rw [Int32.lt_iff_toInt_lt]; exact h.1
    obtain ⟨n, hn, rfl⟩ := nI_of h0
    rw [nI_toInt hn] at h
    exact ⟨n, by omega, rfl⟩
  · rintro ⟨n, hn, rfl⟩
    rw [nI_toInt (by omega)]
    omega
theorem okR_in {z : Int32} {a b : Nat} (ha : a < 2 ^ 31) (hb : b < 2 ^ 31) {A B : Int64} (hA : A.toInt = a) (hB : B.toInt = b) : (¬ z.toInt64 < A ∧ ¬ B < z.toInt64) ↔ okR z (nI a) (nI b) := by
  rw [Int64.lt_iff_toInt_lt, Int64.lt_iff_toInt_lt, hA, hB, Int32.toInt_toInt64]
  show _ ↔ ¬ z < nI a ∧ z ≤ nI b
  rw [Int32.lt_iff_toInt_lt, Int32.le_iff_toInt_le, nI_toInt ha, nI_toInt hb]
  omega
def mdn (R : Nat → Int64) (q t : Nat) : Int64 := R (1 + 116 * q + (1 + t)) + R (1 + 116 * q + (17 + t)) * R (1 + 116 * (1 - q) + (81 + t)) / 1000
def ndl (b n : Int64) : Int64 := ((1 : Int64) <<< (b.toInt32.toInt64 &&& 63) - 1) * n
def mst (R : Nat → Int64) (q t : Nat) : Int64 := ((1 : Int64) <<< ((R (1 + 116 * q + (49 + t))).toInt32.toInt64 &&& 63)) * mdn R q t
def mls (R : Nat → Int64) (q t : Nat) : Int64 := mst R q t / 2
def mnd (R : Nat → Int64) (q t : Nat) : Int64 := ndl (R (1 + 116 * q + (49 + t))) (mdn R q t)
def mmg (R : Nat → Int64) (q t : Nat) : Int64 := if R (1 + 116 * q + (49 + t)) = 0 then -1 else 100 * R (1 + 116 * q + (81 + t)) / mnd R q t
/-- where a tone has bits its need is not 0 -/
def mOK (R : Nat → Int64) : Prop := ∀ q t : Nat, q < 2 → t < 16 → ¬ R (1 + 116 * q + (49 + t)) = 0 → ¬ mnd R q t = 0
def mcA (R : Nat → Int64) (q : Nat) (but : Int32) (t : Nat) : Bool := decide (¬ nI t = but ∧ R (1 + 116 * q + (49 + t)) < R (1 + 116 * q + (33 + t)))
def mch (R : Nat → Int64) (q : Nat) (but : Int32) : Option Nat := amin (mcA R q but) (mst R q) 16
def amax (av : Nat → Bool) (st : Nat → Int64) : Nat → Option Nat
  | 0 => none
  | n + 1 => if av n = true then (match amax av st n with | none => some n | some b => if st n < st b then some b else some n) else amax av st n
theorem amax_bd {av : Nat → Bool} {st : Nat → Int64} : ∀ {n b : Nat}, amax av st n = some b → b < n ∧ av b = true
  | 0, b, h => by simp [amax] at h
  | n + 1, b, h => by
    rw [amax] at h
    by_cases ha : av n = true
    · rw [if_pos ha] at h
      rcases hm : amax av st n with _ | b0
      · rw [hm] at h; cases h; exact ⟨Nat.lt_succ_self n, ha⟩
      · rw [hm] at h
        dsimp only at h
        by_cases hc : st n < st b0
        · rw [if_pos hc] at h; cases h
          have := amax_bd hm
          exact ⟨Nat.lt_succ_of_lt this.1, this.2⟩
        · rw [if_neg hc] at h; cases h; exact ⟨Nat.lt_succ_self n, ha⟩
    · rw [if_neg ha] at h
      have := amax_bd h
      exact ⟨Nat.lt_succ_of_lt this.1, this.2⟩
def mdA (R : Nat → Int64) (q t : Nat) : Bool := decide (0 < R (1 + 116 * q + (49 + t)))
def mde (R : Nat → Int64) (q : Nat) : Option Nat := amax (mdA R q) (mls R q) 16
def mwk (R : Nat → Int64) (q : Nat) : Option Nat := amin (mdA R q) (mmg R q) 16
theorem ax0 {av : Nat → Bool} {st : Nat → Int64} {n : Nat} {o : Option Nat} (ha : ¬ av n = true) (ho : amin av st n = o) : oI o = oI (amin av st (n + 1)) := by rw [amin, if_neg ha, ho]
theorem ax1 {av : Nat → Bool} {st : Nat → Int64} {n : Nat} (ha : av n = true) (ho : amin av st n = none) : nI n = oI (amin av st (n + 1)) := by rw [amin, if_pos ha, ho]; rfl
theorem ax2 {av : Nat → Bool} {st : Nat → Int64} {n b : Nat} (ha : av n = true) (ho : amin av st n = some b) (hc : st n < st b) : nI n = oI (amin av st (n + 1)) := by
  rw [amin, if_pos ha, ho]
  show _ = oI (if st n < st b then some n else some b)
  rw [if_pos hc]; rfl
theorem ax3 {av : Nat → Bool} {st : Nat → Int64} {n b : Nat} (ha : av n = true) (ho : amin av st n = some b) (hc : ¬ st n < st b) : nI b = oI (amin av st (n + 1)) := by
  rw [amin, if_pos ha, ho]
  show _ = oI (if st n < st b then some n else some b)
  rw [if_neg hc]; rfl
theorem ay0 {av : Nat → Bool} {st : Nat → Int64} {n : Nat} {o : Option Nat} (ha : ¬ av n = true) (ho : amax av st n = o) : oI o = oI (amax av st (n + 1)) := by rw [amax, if_neg ha, ho]
theorem ay1 {av : Nat → Bool} {st : Nat → Int64} {n : Nat} (ha : av n = true) (ho : amax av st n = none) : nI n = oI (amax av st (n + 1)) := by rw [amax, if_pos ha, ho]; rfl
theorem ay2 {av : Nat → Bool} {st : Nat → Int64} {n b : Nat} (ha : av n = true) (ho : amax av st n = some b) (hc : st n < st b) : nI b = oI (amax av st (n + 1)) := by
  rw [amax, if_pos ha, ho]
  show _ = oI (if st n < st b then some b else some n)
  rw [if_pos hc]; rfl
theorem ay3 {av : Nat → Bool} {st : Nat → Int64} {n b : Nat} (ha : av n = true) (ho : amax av st n = some b) (hc : ¬ st n < st b) : nI n = oI (amax av st (n + 1)) := by
  rw [amax, if_pos ha, ho]
  show _ = oI (if st n < st b then some b else some n)
  rw [if_neg hc]; rfl
/-- the table is efficient, in the reference's words -/
def mef (R : Nat → Int64) (q : Nat) : Bool := match mde R q, mch R q (-1) with
  | some a, some b => !decide (mst R q b < mls R q a)
  | _, _ => true
/-- places o .. o + n become f, the rest g -/
def wfz (f g : Nat → Int64) (o n : Nat) : Nat → Int64 := fun j => if o ≤ j ∧ j < o + n then f (j - o) else g j
theorem wfz_0 (f g : Nat → Int64) (o : Nat) : wfz f g o 0 = g := by
  funext j
  show (if o ≤ j ∧ j < o + 0 then f (j - o) else g j) = g j
  rw [if_neg (by omega)]
theorem wfz_up (f g : Nat → Int64) (o n : Nat) : va_up (wfz f g o n) (o + n) (f n) = wfz f g o (n + 1) := by
  funext j
  show (if j = o + n then f n else (if o ≤ j ∧ j < o + n then f (j - o) else g j)) = (if o ≤ j ∧ j < o + (n + 1) then f (j - o) else g j)
  by_cases h : j = o + n
  · subst h; rw [if_pos rfl, if_pos (by omega), Nat.add_sub_cancel_left]
  · rw [if_neg h]
    by_cases h2 : o ≤ j ∧ j < o + n
    · rw [if_pos h2, if_pos (by omega)]
    · rw [if_neg h2, if_neg (by omega)]
theorem wfz_in (f g : Nat → Int64) (o : Nat) {n i : Nat} (h : i < n) : wfz f g o n (o + i) = f i := by
  show (if o ≤ o + i ∧ o + i < o + n then f (o + i - o) else g (o + i)) = f i
  rw [if_pos (by omega), Nat.add_sub_cancel_left]
theorem wfz_out (f g : Nat → Int64) {o n j : Nat} (h : j < o ∨ o + n ≤ j) : wfz f g o n j = g j := by
  show (if o ≤ j ∧ j < o + n then f (j - o) else g j) = g j
  rw [if_neg (by omega)]
def mfd (R : Nat → Int64) (q t : Nat) : Nat → Int64 := va_up R (1 + 116 * q + (81 + t)) (capz (mnd R q t))
def mfn (R : Nat → Int64) (q : Nat) : Nat → (Nat → Int64)
  | 0 => R
  | n + 1 => va_up (mfd (mfn R q n) q n) (1 + 116 * q + (65 + n)) (mfd (mfn R q n) q n (1 + 116 * q + (49 + n)))
def mdr (R : Nat → Int64) (q : Nat) : Nat → Int64 := va_up (wfz (fun _ => 0) R (1 + 116 * q + 97) 18) (1 + 116 * q + 101) (-1)
def mfi (R : Nat → Int64) (q : Nat) : Nat → Int64 := mdr (mfn R q 16) q
def mcl (R : Nat → Int64) (q : Nat) : Nat → Int64 := wfz (fun _ => 0) R (1 + 116 * q + 49) 16
def mld (q : Nat) : Nat → (Nat → Int64) → Int64 → Option (Nat → Int64)
  | 0, _, _ => none
  | f + 1, R, s => match mch R q (-1) with
    | none => some R
    | some t => if R (1 + 116 * q + 0) < s + mst R q t then some R else mld q f (va_up R (1 + 116 * q + (49 + t)) (R (1 + 116 * q + (49 + t)) + 1)) (s + mst R q t)
def mlo (q F : Nat) (R : Nat → Int64) : Option (Nat → Int64) := (mld q F (mcl R q) 0).map (fun R => mfi R q)
def mis (R : Nat → Int64) (q : Nat) : Nat → Bool
  | 0 => true
  | n + 1 => mis R q n && decide (R (1 + 116 * q + (49 + n)) = R (1 + 116 * q + (65 + n)))
