/-! BALANCING -/
theorem cgz_f {h : hS} {P : Nat} : ∀ {k : Nat}, cgz h P k = false ↔ ∀ t, t < k → h.1 (P + 4) t = h.1 5 t ∧ h.2.1 (P + 6) t = enz h t
  | 0 => ⟨fun _ t ht => absurd ht (Nat.not_lt_zero t), fun _ => rfl⟩
  | k + 1 => by
    rw [cgz, Bool.or_eq_false_iff, cgz_f (k := k), decide_eq_false_iff_not]
    constructor
    · rintro ⟨h1, h2⟩ t ht
      rcases Nat.lt_or_ge t k with z | z
      · exact h1 t z
      · obtain rfl : t = k := by omega
        exact ⟨Classical.byContradiction (fun w => h2 (Or.inl w)), Classical.byContradiction (fun w => h2 (Or.inr w))⟩
    · intro h1
      refine ⟨fun t ht => h1 t (by omega), fun w => ?_⟩
      have h2 := h1 k (by omega)
      exact w.elim (fun w => w h2.1) (fun w => w h2.2)
theorem mss_t {B R : Nat → Int64} : ∀ {k : Nat}, mss B R k = true ↔ ∀ i, i < k → B i = mnow R i
  | 0 => ⟨fun _ t ht => absurd ht (Nat.not_lt_zero t), fun _ => rfl⟩
  | k + 1 => by
    rw [mss, Bool.and_eq_true, mss_t (k := k), decide_eq_true_iff]
    constructor
    · rintro ⟨h1, h2⟩ t ht
      rcases Nat.lt_or_ge t k with z | z
      · exact h1 t z
      · obtain rfl : t = k := by omega
        exact h2
    · intro h1
      exact ⟨fun t ht => h1 t (by omega), h1 k (by omega)⟩
/-- the tables of two states are the same -/
def DD (g g2 : hS) : Prop := ∀ q : Nat, q < 2 → ∀ t : Nat, t < 16 → g.1 (11 + 8 * q + 4) t = g2.1 (11 + 8 * q + 4) t ∧ g.2.1 (11 + 8 * q + 6) t = g2.2.1 (11 + 8 * q + 6) t
theorem mss_D {n : Nat} {g g2 : hS} {R R2 B : Nat → Int64} (x : RC n g R) (y : RC n g2 R2) (hB : ∀ i, i < 64 → B i = mnow R i) : mss B R2 64 = true ↔ DD g g2 := by
  rw [mss_t]
  have r4 : ∀ q t : Nat, q < 2 → t < 16 → R (1 + 116 * q + (49 + t)) = (g.1 (11 + 8 * q + 4) t).toInt64 := fun q t hq ht => ((x.2.2.2 q hq).2.2.2.2.1 t ht).1
  have r6 : ∀ q t : Nat, q < 2 → t < 16 → R (1 + 116 * q + (81 + t)) = g.2.1 (11 + 8 * q + 6) t := fun q t hq ht => ((x.2.2.2 q hq).2.2.2.2.2.2.1 t ht).1
  have s4 : ∀ q t : Nat, q < 2 → t < 16 → R2 (1 + 116 * q + (49 + t)) = (g2.1 (11 + 8 * q + 4) t).toInt64 := fun q t hq ht => ((y.2.2.2 q hq).2.2.2.2.1 t ht).1
  have s6 : ∀ q t : Nat, q < 2 → t < 16 → R2 (1 + 116 * q + (81 + t)) = g2.2.1 (11 + 8 * q + 6) t := fun q t hq ht => ((y.2.2.2 q hq).2.2.2.2.2.2.1 t ht).1
  constructor
  · intro h q hq t ht
    have h1 := h (32 * q + t) (by omega)
    have h2 := h (32 * q + 16 + t) (by omega)
    rw [hB _ (by omega)] at h1 h2
    unfold mnow at h1 h2
    rw [if_neg (by omega), if_neg (by omega), show (32 * q + t) / 32 = q by omega, show (32 * q + t) % 16 = t by omega, r4 q t hq ht, s4 q t hq ht] at h1
    rw [if_pos (by omega), if_pos (by omega), show (32 * q + 16 + t) / 32 = q by omega, show (32 * q + 16 + t) % 16 = t by omega, r6 q t hq ht, s6 q t hq ht] at h2
    exact ⟨tl_inj.mp h1, h2⟩
  · intro h i hi
    rw [hB i hi]
    have h1 := h (i / 32) (by omega) (i % 16) (by omega)
    unfold mnow
    by_cases e : 16 ≤ i % 32
    · rw [if_pos e, if_pos e, r6 _ _ (by omega) (by omega), s6 _ _ (by omega) (by omega)]; exact h1.2
    · rw [if_neg e, if_neg e, r4 _ _ (by omega) (by omega), s4 _ _ (by omega) (by omega), h1.1]
theorem lfz_o (g : hS) {P P2 i : Nat} (h5 : i ≠ 0) (h6 : 6 ≤ i) (h7 : i < 91) (h0 : i < P ∨ P + 8 ≤ i) : (lfz g P P2).1 i = g.1 i := by
  unfold lfz
  rw [sez_o _ (by omega) (by omega) (by omega) (by omega), (AG.lfB g P P2).2.1 i h6 h7]
theorem lfz_oL (g : hS) {P P2 i : Nat} (h6 : 11 ≤ i) (h7 : i < 91) (h0 : i ≠ P + 6) : (lfz g P P2).2.1 i = g.2.1 i := by
  unfold lfz
  rw [sez_oL _ h0, (AG.lfB g P P2).2.2.1 i h6 h7]
theorem cg_lf (g : hS) {P P2 : Nat} (h1 : 11 ≤ P) (h2 : P + 8 ≤ 91) : cgz (lfB g P P2) P 16 = false ↔ ∀ t, t < 16 → g.1 (P + 4) t = (lfz g P P2).1 (P + 4) t ∧ g.2.1 (P + 6) t = (lfz g P P2).2.1 (P + 6) t := by
  rw [cgz_f, (AG.lfB g P P2).2.1 (P + 4) (by omega) (by omega), (AG.lfB g P P2).2.2.1 (P + 6) (by omega) (by omega)]
  unfold lfz
  rw [sez_4, sez_6L]
theorem blc_D (g : hS) : blc g = false ↔ DD g (bl1 g) := by
  unfold blc
  rw [Bool.or_eq_false_iff, cg_lf g (by omega) (by omega), cg_lf (lfz g 11 19) (by omega) (by omega)]
  have a4 : (lfz g 11 19).1 (19 + 4) = g.1 (19 + 4) := lfz_o _ (by omega) (by omega) (by omega) (by omega)
  have a6 : (lfz g 11 19).2.1 (19 + 6) = g.2.1 (19 + 6) := lfz_oL _ (by omega) (by omega) (by omega)
  have b4 : (bl1 g).1 (11 + 4) = (lfz g 11 19).1 (11 + 4) := lfz_o _ (by omega) (by omega) (by omega) (by omega)
  have b6 : (bl1 g).2.1 (11 + 6) = (lfz g 11 19).2.1 (11 + 6) := lfz_oL _ (by omega) (by omega) (by omega)
  rw [a4, a6]
  constructor
  · rintro ⟨h1, h2⟩ q hq t ht
    rcases (by omega : q = 0 ∨ q = 1) with rfl | rfl
    · show g.1 (11 + 4) t = (bl1 g).1 (11 + 4) t ∧ g.2.1 (11 + 6) t = (bl1 g).2.1 (11 + 6) t
      rw [b4, b6]; exact h1 t ht
    · exact h2 t ht
  · intro h
    refine ⟨fun t ht => ?_, fun t ht => ?_⟩
    · have := h 0 (by omega) t ht
      have k : g.1 (11 + 4) t = (bl1 g).1 (11 + 4) t ∧ g.2.1 (11 + 6) t = (bl1 g).2.1 (11 + 6) t := this
      rw [b4, b6] at k; exact k
    · exact h 1 (by omega) t ht
theorem bl_eq {n : Nat} : ∀ (f : Nat) (g : hS) (R B : Nat → Int64) (m : Nat), RC n g R → (∀ i, i < 64 → B i = mnow R i) → ∃ v, mbl 193 f R B m = some v ∧ v.1 = (blz f g m).1 ∧ RC n (blz f g m).2 v.2.1
  | 0, g, R, B, m, x, hB => ⟨(m, R, B), rfl, rfl, x⟩
  | f + 1, g, R, B, m, x, hB => by
    obtain ⟨A, a1, a2⟩ := x.lf (q := 0) (by omega)
    have a2 : RC n (lfz g 11 19) (mfi A 0) := a2
    obtain ⟨C, c1, c2⟩ := RC.lf (q := 1) a2 (by omega)
    have c2 : RC n (bl1 g) (mfi C 1) := c2
    have hs := mss_D x c2 hB
    rw [mbl, a1]
    dsimp only
    rw [c1]
    dsimp only
    rw [blz]
    rcases hb : blc g with _ | _
    · rw [if_pos (hs.mpr ((blc_D g).mp hb)), if_neg (by decide)]
      exact ⟨_, rfl, rfl, c2⟩
    · have hn : ¬ mss B (mfi C 1) 64 = true := fun w => by
        have := (blc_D g).mpr (hs.mp w)
        rw [hb] at this; cases this
      rw [if_neg hn, if_pos rfl]
      exact bl_eq f (bl1 g) (mfi C 1) _ (m + 1) c2 (fun i hi => pfz_in hi)
