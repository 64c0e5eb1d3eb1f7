/-! ARITHMETIC: ints and longs by their numbers; the tone that is taken, on both sides -/
theorem bm64 {x : Int} (h1 : -4611686018427387904 ≤ x) (h2 : x ≤ 4611686018427387904) : x.bmod (2 ^ 64) = x := Int.bmod_eq_of_le (by omega) (by omega)
theorem bm32 {x : Int} (h1 : -1073741824 ≤ x) (h2 : x ≤ 1073741824) : x.bmod (2 ^ 32) = x := Int.bmod_eq_of_le (by omega) (by omega)
theorem n1_i : (nI 1).toInt = 1 := rfl
theorem i32_p1 {x : Int32} (h1 : -1000000000 ≤ x.toInt) (h2 : x.toInt ≤ 1000000000) : (x + nI 1).toInt = x.toInt + 1 := by
  rw [Int32.toInt_add, n1_i, bm32 (by omega) (by omega)]
theorem i32_m1 {x : Int32} (h1 : -1000000000 ≤ x.toInt) (h2 : x.toInt ≤ 1000000000) : (x - nI 1).toInt = x.toInt - 1 := by
  rw [Int32.toInt_sub, n1_i, bm32 (by omega) (by omega)]
theorem tl_inj {x y : Int32} : x.toInt64 = y.toInt64 ↔ x = y := by
  constructor
  · intro h
    have h1 := congrArg Int64.toInt h
    rw [Int32.toInt_toInt64, Int32.toInt_toInt64] at h1
    exact Int32.toInt_inj.mp h1
  · intro h; rw [h]
theorem l1_i : (1 : Int64).toInt = 1 := rfl
theorem l0_i : (0 : Int64).toInt = 0 := rfl
theorem tl_p1 {x : Int32} (h1 : -1000000000 ≤ x.toInt) (h2 : x.toInt ≤ 1000000000) : (x + nI 1).toInt64 = x.toInt64 + 1 := by
  apply Int64.toInt_inj.mp
  rw [Int32.toInt_toInt64, i32_p1 h1 h2, Int64.toInt_add, Int32.toInt_toInt64, l1_i, bm64 (by omega) (by omega)]
theorem tl_m1 {x : Int32} (h1 : -1000000000 ≤ x.toInt) (h2 : x.toInt ≤ 1000000000) : (x - nI 1).toInt64 = x.toInt64 - 1 := by
  apply Int64.toInt_inj.mp
  rw [Int32.toInt_toInt64, i32_m1 h1 h2, Int64.toInt_sub, Int32.toInt_toInt64, l1_i, bm64 (by omega) (by omega)]
theorem tl_lt {x y : Int32} : x.toInt64 < y.toInt64 ↔ x < y := by
  rw [Int64.lt_iff_toInt_lt, Int32.lt_iff_toInt_lt, Int32.toInt_toInt64, Int32.toInt_toInt64]
theorem tl_0 {x : Int32} : x.toInt64 = 0 ↔ x = 0 := by
  have h : (0 : Int64) = (0 : Int32).toInt64 := rfl
  rw [h]; exact tl_inj
theorem tl_n1 {x : Int32} : x.toInt64 = 1 ↔ x = nI 1 := by
  have h : (1 : Int64) = (nI 1).toInt64 := rfl
  rw [h]; exact tl_inj
theorem tl_neg {x : Int32} : x.toInt64 = -1 ↔ x = -1 := by
  have h : (-1 : Int64) = (-1 : Int32).toInt64 := rfl
  rw [h]; exact tl_inj
theorem nI_rng {x : Int32} {hi : Nat} (hh : hi < 2 ^ 31) (h0 : 0 ≤ x.toInt) (h1 : x.toInt ≤ hi) : ∃ m : Nat, m ≤ hi ∧ x = nI m := by
  refine ⟨x.toInt.toNat, by omega, ?_⟩
  apply Int32.toInt_inj.mp
  rw [nI_toInt (by omega)]
  omega
/-- a shift is a product -/
theorem shl_mul (n k : Int64) : n <<< k = ((1 : Int64) <<< k) * n := by
  apply Int64.toBitVec_inj.mp
  show n.toBitVec <<< (k.toBitVec.smod 64).toNat = ((1#64) <<< (k.toBitVec.smod 64).toNat) * n.toBitVec
  rw [BitVec.shiftLeft_eq_mul_twoPow, BitVec.shiftLeft_eq_mul_twoPow, BitVec.one_mul, BitVec.mul_comm]
theorem pw_i : ∀ m : Nat, m < 13 → ((1 : Int64) <<< ((nI m).toInt64 &&& 63)).toInt = ((2 ^ m : Nat) : Int) := by decide +kernel
theorem pw_b : ∀ m : Nat, m < 13 → 2 ^ m ≤ 4096 := by decide +kernel
/-- the product of a small power and a noise -/
theorem pw_mul {m : Nat} (hm : m < 13) {n : Int64} (h0 : 0 ≤ n.toInt) (h1 : n.toInt ≤ 2000000000000) : (((1 : Int64) <<< ((nI m).toInt64 &&& 63)) * n).toInt = ((2 ^ m : Nat) : Int) * n.toInt := by
  have hb := pw_b m hm
  have h2 : ((2 ^ m : Nat) : Int) * n.toInt ≤ 4096 * 2000000000000 := Int.mul_le_mul (by omega) h1 h0 (by omega)
  have h3 : 0 ≤ ((2 ^ m : Nat) : Int) * n.toInt := Int.mul_nonneg (Int.natCast_nonneg _) h0
  rw [Int64.toInt_mul, pw_i m hm, bm64 (by omega) (by omega)]
theorem stz_i {m : Nat} (hm : m < 13) {n : Int64} (h0 : 0 ≤ n.toInt) (h1 : n.toInt ≤ 2000000000000) : (stz n (nI m)).toInt = ((2 ^ m : Nat) : Int) * n.toInt := by
  unfold stz
  rw [shl_mul, pw_mul hm h0 h1]
theorem lcz_i {m : Nat} (hm : m < 12) {n : Int64} (h0 : 0 ≤ n.toInt) (h1 : n.toInt ≤ 2000000000000) : (lcz n (nI (m + 1))).toInt = ((2 ^ m : Nat) : Int) * n.toInt := by
  unfold lcz
  rw [show nI (m + 1) - nI 1 = nI m from nI_pred m, shl_mul, pw_mul (by omega) h0 h1]
theorem st_half {m : Nat} (hm : m < 12) {n : Int64} (h0 : 0 ≤ n.toInt) (h1 : n.toInt ≤ 2000000000000) : (((1 : Int64) <<< ((nI (m + 1)).toInt64 &&& 63)) * n) / 2 = lcz n (nI (m + 1)) := by
  apply Int64.toInt_inj.mp
  rw [lcz_i hm h0 h1, Int64.toInt_div_of_ne_right _ _ (by decide), pw_mul (by omega) h0 h1]
  have e2 : (2 : Int64).toInt = 2 := rfl
  have h3 : 0 ≤ ((2 ^ m : Nat) : Int) * n.toInt := Int.mul_nonneg (Int.natCast_nonneg _) h0
  have h4 : ((2 ^ (m + 1) : Nat) : Int) * n.toInt = 2 * (((2 ^ m : Nat) : Int) * n.toInt) := by
    rw [Nat.pow_succ, Int.natCast_mul, Int.mul_comm ((2 ^ m : Nat) : Int) _, Int.mul_assoc]; rfl
  rw [e2, h4, Int.tdiv_eq_ediv_of_nonneg (by omega)]
  omega
theorem amin_congr {av av' : Nat → Bool} {st st' : Nat → Int64} : ∀ n : Nat, (∀ t, t < n → av t = av' t) → (∀ t, t < n → st t = st' t) → amin av st n = amin av' st' n
  | 0, _, _ => rfl
  | n + 1, h1, h2 => by
    have ih := amin_congr (av := av) (av' := av') (st := st) (st' := st') n (fun t ht => h1 t (by omega)) (fun t ht => h2 t (by omega))
    rw [amin, amin, h1 n (by omega), ih]
    rcases hm : amin av' st' n with _ | b
    · rfl
    · have hb := (amin_bd hm).1
      dsimp only
      rw [h2 n (by omega), h2 b (by omega)]
theorem amax_congr {av av' : Nat → Bool} {st st' : Nat → Int64} : ∀ n : Nat, (∀ t, t < n → av t = av' t) → (∀ t, t < n → av t = true → st t = st' t) → amax av st n = amax av' st' n
  | 0, _, _ => rfl
  | n + 1, h1, h2 => by
    have ih := amax_congr (av := av) (av' := av') (st := st) (st' := st') n (fun t ht => h1 t (by omega)) (fun t ht => h2 t (by omega))
    rw [amax, amax, ← h1 n (by omega), ← ih]
    by_cases ha : av n = true
    · rw [if_pos ha, if_pos ha]
      rcases hm : amax av st n with _ | b
      · rfl
      · have hb := amax_bd hm
        dsimp only
        rw [h2 n (by omega) ha, h2 b (by omega) hb.2]
    · rw [if_neg ha, if_neg ha]
theorem amaxC_eq {av : Nat → Bool} {st : Nat → Int64} : ∀ n : Nat, (∀ t, t < n → av t = true → ¬ st t < 0) → (amaxC av st n).1 = amax av st n ∧ (amaxC av st n).2 = oL st (amax av st n)
  | 0, _ => ⟨rfl, rfl⟩
  | n + 1, h0 => by
    obtain ⟨ih1, ih2⟩ := amaxC_eq (av := av) (st := st) n (fun t ht => h0 t (by omega))
    rw [amaxC, amax]
    by_cases ha : av n = true
    · rw [if_pos ha, if_pos ha]
      rcases hm : amax av st n with _ | b
      · rw [hm] at ih2
        rw [if_neg (by rw [ih2]; exact h0 n (by omega) ha)]
        exact ⟨rfl, rfl⟩
      · rw [hm] at ih1 ih2
        dsimp only
        by_cases hc : st n < st b
        · rw [if_pos (by rw [ih2]; exact hc), if_pos hc]
          exact ⟨ih1, ih2⟩
        · rw [if_neg (by rw [ih2]; exact hc), if_neg hc]
          exact ⟨rfl, rfl⟩
    · rw [if_neg ha, if_neg ha]
      exact ⟨ih1, ih2⟩
theorem amin_none {av : Nat → Bool} {st : Nat → Int64} : ∀ {n : Nat}, amin av st n = none → ∀ t, t < n → av t = false
  | 0, _ => by intro t ht; omega
  | n + 1, h => by
    intro t ht
    rw [amin] at h
    by_cases han : av n = true
    · rw [if_pos han] at h
      rcases hm : amin av st n with _ | b0
      · rw [hm] at h; cases h
      · rw [hm] at h
        dsimp only at h
        by_cases hc : st n < st b0
        · rw [if_pos hc] at h; cases h
        · rw [if_neg hc] at h; cases h
    · rw [if_neg han] at h
      rcases Nat.lt_or_ge t n with q | q
      · exact amin_none h t q
      · obtain rfl : t = n := by omega
        exact Bool.eq_false_iff.mpr han
theorem amax_none {av : Nat → Bool} {st : Nat → Int64} : ∀ {n : Nat}, amax av st n = none → ∀ t, t < n → av t = false
  | 0, _ => by intro t ht; omega
  | n + 1, h => by
    intro t ht
    rw [amax] at h
    by_cases han : av n = true
    · rw [if_pos han] at h
      rcases hm : amax av st n with _ | b0
      · rw [hm] at h; cases h
      · rw [hm] at h
        dsimp only at h
        by_cases hc : st n < st b0
        · rw [if_pos hc] at h; cases h
        · rw [if_neg hc] at h; cases h
    · rw [if_neg han] at h
      rcases Nat.lt_or_ge t n with q | q
      · exact amax_none h t q
      · obtain rfl : t = n := by omega
        exact Bool.eq_false_iff.mpr han
/-- of the smallest: none below it -/
theorem amin_le {av : Nat → Bool} {st : Nat → Int64} : ∀ {n b : Nat}, amin av st n = some b → ∀ t, t < n → av t = true → ¬ st t < st b
  | 0, _, h => by cases h
  | n + 1, b, h => by
    intro t ht ha
    rw [amin] at h
    by_cases han : av n = true
    · rw [if_pos han] at h
      rcases hm : amin av st n with _ | b0
      · rw [hm] at h; cases h
        rcases Nat.lt_or_ge t n with q | q
        · exact absurd (amin_none hm t q) (by rw [ha]; decide)
        · obtain rfl : t = n := by omega
          rw [Int64.lt_iff_toInt_lt]; omega
      · rw [hm] at h
        dsimp only at h
        have ih := amin_le hm
        by_cases hc : st n < st b0
        · rw [if_pos hc] at h; cases h
          rcases Nat.lt_or_ge t n with q | q
          · have := ih t q ha
            rw [Int64.lt_iff_toInt_lt] at this hc ⊢; omega
          · obtain rfl : t = n := by omega
            rw [Int64.lt_iff_toInt_lt]; omega
        · rw [if_neg hc] at h; cases h
          rcases Nat.lt_or_ge t n with q | q
          · exact ih t q ha
          · obtain rfl : t = n := by omega
            exact hc
    · rw [if_neg han] at h
      rcases Nat.lt_or_ge t n with q | q
      · exact amin_le h t q ha
      · obtain rfl : t = n := by omega
        exact absurd ha han
