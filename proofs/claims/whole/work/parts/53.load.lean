/-! LOADING, on both sides -/
theorem mnd_c {R R' : Nat → Int64} {q t : Nat} (h0 : R' (1 + 116 * q + (49 + t)) = R (1 + 116 * q + (49 + t))) (h1 : R' (1 + 116 * q + (1 + t)) = R (1 + 116 * q + (1 + t))) (h2 : R' (1 + 116 * q + (17 + t)) = R (1 + 116 * q + (17 + t))) (h3 : R' (1 + 116 * (1 - q) + (81 + t)) = R (1 + 116 * (1 - q) + (81 + t))) : mnd R' q t = mnd R q t := by
  unfold mnd mdn
  rw [h0, h1, h2, h3]
theorem mfn_at {R : Nat → Int64} {q : Nat} (hq : q < 2) : ∀ n : Nat, n ≤ 16 → (∀ t : Nat, t < n → mfn R q n (1 + 116 * q + (81 + t)) = capz (mnd R q t)) ∧ (∀ t : Nat, t < n → mfn R q n (1 + 116 * q + (65 + t)) = R (1 + 116 * q + (49 + t))) ∧ (∀ j : Nat, j < 1 + 116 * q + 65 ∨ 1 + 116 * q + 97 ≤ j → mfn R q n j = R j)
  | 0, _ => ⟨fun t ht => absurd ht (Nat.not_lt_zero t), fun t ht => absurd ht (Nat.not_lt_zero t), fun _ _ => rfl⟩
  | n + 1, hn => by
    obtain ⟨i1, i2, i3⟩ := mfn_at (R := R) hq n (by omega)
    have em : mnd (mfn R q n) q n = mnd R q n := mnd_c (i3 _ (by omega)) (i3 _ (by omega)) (i3 _ (by omega)) (i3 _ (by omega))
    have ef : ∀ j, mfd (mfn R q n) q n j = if j = 1 + 116 * q + (81 + n) then capz (mnd R q n) else mfn R q n j := fun j => by
      unfold mfd; rw [em]; rfl
    have en : ∀ j, mfn R q (n + 1) j = if j = 1 + 116 * q + (65 + n) then mfd (mfn R q n) q n (1 + 116 * q + (49 + n)) else mfd (mfn R q n) q n j := fun j => by
      rw [mfn]; rfl
    refine ⟨fun t ht => ?_, fun t ht => ?_, fun j hj => ?_⟩
    · rw [en, if_neg (by omega), ef]
      rcases Nat.lt_or_ge t n with z | z
      · rw [if_neg (by omega)]; exact i1 t z
      · obtain rfl : t = n := by omega
        rw [if_pos rfl]
    · rw [en]
      rcases Nat.lt_or_ge t n with z | z
      · rw [if_neg (by omega), ef, if_neg (by omega)]; exact i2 t z
      · obtain rfl : t = n := by omega
        rw [if_pos rfl, ef, if_neg (by omega)]; exact i3 _ (by omega)
    · rw [en, if_neg (by omega), ef, if_neg (by omega)]; exact i3 j hj
theorem mdr_o (R : Nat → Int64) (q : Nat) {j : Nat} (hj : j < 1 + 116 * q + 97 ∨ 1 + 116 * q + 115 ≤ j) : mdr R q j = R j := by
  unfold mdr
  rw [va_o9 _ _ (by omega), wfz_out _ _ (by omega)]
theorem mdr_z (R : Nat → Int64) (q : Nat) {j : Nat} (h1 : 97 ≤ j) (h2 : j < 115) (h3 : j ≠ 101) : mdr R q (1 + 116 * q + j) = 0 := by
  unfold mdr
  rw [va_o9 _ _ (by omega), show 1 + 116 * q + j = 1 + 116 * q + 97 + (j - 97) by omega, wfz_in _ _ _ (by omega)]
theorem mfi_E {R : Nat → Int64} {q t : Nat} (hq : q < 2) (ht : t < 16) : mfi R q (1 + 116 * q + (81 + t)) = capz (mnd R q t) := by
  unfold mfi; rw [mdr_o _ _ (by omega)]; exact (mfn_at hq 16 (by omega)).1 t ht
theorem mfi_S {R : Nat → Int64} {q t : Nat} (hq : q < 2) (ht : t < 16) : mfi R q (1 + 116 * q + (65 + t)) = R (1 + 116 * q + (49 + t)) := by
  unfold mfi; rw [mdr_o _ _ (by omega)]; exact (mfn_at hq 16 (by omega)).2.1 t ht
theorem mfi_z {R : Nat → Int64} {q j : Nat} (h1 : 97 ≤ j) (h2 : j < 115) (h3 : j ≠ 101) : mfi R q (1 + 116 * q + j) = 0 := mdr_z _ _ h1 h2 h3
theorem mfi_o {R : Nat → Int64} {q j : Nat} (hq : q < 2) (hj : j < 1 + 116 * q + 65 ∨ 1 + 116 * q + 115 ≤ j) : mfi R q j = R j := by
  unfold mfi; rw [mdr_o _ _ (by omega)]; exact (mfn_at hq 16 (by omega)).2.2 j (by omega)
theorem dfz_self (f : Nat → Int32) : ∀ n : Nat, dfz f f n = false
  | 0 => rfl
  | n + 1 => by rw [dfz, dfz_self f n]; simp
theorem nI01 : ¬ nI 0 = nI 1 := by decide
/-- a pair loaded, with the counts c and the noises n -/
theorem RP.load {f : Int} {R R2 : Nat → Int64} {q : Nat} {a a' : Nat → Nat → Int32} {E E' : Nat → Int64} {n : Nat → Int64} {c : Nat → Int32} (x : RP f R q a E) (hf : 0 ≤ f) (hq : q < 2) (v : PV R q n) (hc : rI R2 q 49 c 0 12) (hR : ∀ j : Nat, j < 1 + 116 * q + 49 ∨ 1 + 116 * q + 65 ≤ j → R2 j = R j)
    (h07 : a' 0 7 = a 0 7) (h08 : a' 0 8 = a 0 8) (h09 : a' 0 9 = nI 0) (h1 : a' 1 = a 1) (h2 : a' 2 = a 2) (h3 : a' 3 = a 3) (h4 : a' 4 = c) (h5 : a' 5 = c) (h7 : a' 7 = drT (a 7)) (hE : ∀ t : Nat, t < 16 → E' t = capz (ndz (c t) (n t))) : RP f (mfi R2 q) q a' E' := by
  obtain ⟨e0, e1, e2, e3, e4, e5, e6, e7, e8, e9⟩ := x
  have v2 : PV R2 q n := v.c (fun t ht => hR _ (by omega)) (fun t ht => hR _ (by omega)) (fun t ht => hR _ (by omega))
  have k : ∀ j : Nat, j < 49 ∨ j = 115 → mfi R2 q (1 + 116 * q + j) = R (1 + 116 * q + j) := fun j hj => by rw [mfi_o hq (by omega), hR _ (by omega)]
  refine ⟨?_, ?_, ?_, ?_, ?_, ?_, ?_, ?_, ?_, ?_⟩
  · rw [h07, k 0 (by omega)]; exact e0
  · rw [h1]; exact e1.c (fun t ht => k _ (by omega)) (by omega) (by omega)
  · rw [h2]; exact e2.c (fun t ht => k _ (by omega)) (by omega) (by omega)
  · rw [h3]; exact e3.c (fun t ht => k _ (by omega)) (by omega) (by omega)
  · rw [h4]; exact hc.c (fun t ht => mfi_o hq (by omega)) (by omega) (by omega)
  · rw [h5]
    intro t ht
    obtain ⟨z1, z2, z3⟩ := hc t ht
    exact ⟨(mfi_S hq ht).trans z1, by omega, by omega⟩
  · intro t ht
    have hr := nd_rng v2 hc ht
    rw [hE t ht]
    exact ⟨by rw [mfi_E hq ht, nd_eq v2 hc ht], cap_rng hr.1⟩
  · rw [h08]; exact e7.c (k 115 (by omega)) (Int.le_refl _)
  · rw [h09, h4, h5, dfz_self]; rfl
  · rw [h7]
    refine ⟨⟨⟨Or.inl rfl, Or.inl rfl, Or.inl rfl⟩, ?_, ?_, ?_, ?_, 0, by omega, rfl⟩, fun z => absurd z nI01, fun z => absurd z nI01, fun z => absurd z nI01, Or.inl ⟨?_, rfl, rfl⟩⟩
    · rw [mfi_z (by omega) (by omega) (by omega)]; rfl
    · rw [mfi_z (by omega) (by omega) (by omega)]; rfl
    · rw [mfi_z (by omega) (by omega) (by omega)]; rfl
    · rw [mfi_z (by omega) (by omega) (by omega)]; rfl
    · rw [mfi_z (by omega) (by omega) (by omega)]
-- sums
def sI (c : Nat → Int32) : Nat → Int
  | 0 => 0
  | k + 1 => sI c k + (c k).toInt
theorem sI_le {c : Nat → Int32} : ∀ {k : Nat}, (∀ t, t < k → (c t).toInt ≤ 12) → sI c k ≤ 12 * (k : Int)
  | 0, _ => by simp [sI]
  | k + 1, h => by
    have ih := sI_le (c := c) (k := k) (fun t ht => h t (by omega))
    have := h k (by omega)
    rw [sI]; omega
theorem sI_lt {c : Nat → Int32} : ∀ {k a : Nat}, (∀ t, t < k → (c t).toInt ≤ 12) → a < k → (c a).toInt < 12 → sI c k < 12 * (k : Int)
  | 0, a, _, ha, _ => by omega
  | k + 1, a, h, ha, hl => by
    rw [sI]
    have h9 := h k (by omega)
    rcases Nat.lt_or_ge a k with z | z
    · have ih := sI_lt (c := c) (k := k) (fun t ht => h t (by omega)) z hl
      omega
    · obtain rfl : a = k := by omega
      have ih := sI_le (c := c) (k := a) (fun t ht => h t (by omega))
      omega
theorem sI_nn {c : Nat → Int32} : ∀ {k : Nat}, (∀ t, t < k → 0 ≤ (c t).toInt) → 0 ≤ sI c k
  | 0, _ => by simp [sI]
  | k + 1, h => by
    have ih := sI_nn (c := c) (k := k) (fun t ht => h t (by omega))
    have := h k (by omega)
    rw [sI]; omega
theorem sI_out {c : Nat → Int32} {a : Nat} {x : Int32} : ∀ {k : Nat}, k ≤ a → sI (va_up c a x) k = sI c k
  | 0, _ => rfl
  | k + 1, h => by rw [sI, sI, sI_out (by omega), va_o9 _ _ (by omega)]
theorem sI_up {c : Nat → Int32} {a : Nat} {x : Int32} : ∀ {k : Nat}, a < k → sI (va_up c a x) k = sI c k + x.toInt - (c a).toInt
  | 0, h => by omega
  | k + 1, h => by
    rw [sI, sI]
    rcases Nat.lt_or_ge a k with z | z
    · rw [sI_up z, va_o9 _ _ (by omega)]; omega
    · obtain rfl : a = k := by omega
      rw [sI_out (Nat.le_refl _), va_s9]; omega
theorem sI_mono {c d : Nat → Int32} : ∀ {k : Nat}, (∀ t, t < k → (c t).toInt ≤ (d t).toInt) → sI c k ≤ sI d k
  | 0, _ => by simp [sI]
  | k + 1, h => by
    have ih := sI_mono (c := c) (d := d) (k := k) (fun t ht => h t (by omega))
    have := h k (by omega)
    rw [sI, sI]; omega
theorem sumI_i {c : Nat → Int32} : ∀ {k : Nat}, k ≤ 16 → (∀ t, t < k → 0 ≤ (c t).toInt) → (∀ t, t < k → (c t).toInt ≤ 12) → (sumI c k).toInt = sI c k
  | 0, _, _, _ => rfl
  | k + 1, hk, h0, h => by
    have ih := sumI_i (c := c) (k := k) (by omega) (fun t ht => h0 t (by omega)) (fun t ht => h t (by omega))
    have h1 := sI_le (c := c) (k := k) (fun t ht => h t (by omega))
    have h2 := sI_nn (c := c) (k := k) (fun t ht => h0 t (by omega))
    have h3 := h k (by omega)
    have h4 := h0 k (by omega)
    rw [sumI, sI, Int32.toInt_add, ih, bm32 (by omega) (by omega)]
theorem sumL_i {c : Nat → Int32} {G : Nat → Int64} : ∀ {k : Nat}, k ≤ 16 → (∀ t, t < k → 0 ≤ (c t).toInt) → (∀ t, t < k → (c t).toInt ≤ 12) → (∀ t, t < k → G t = (c t).toInt64) → (sumL G k).toInt = sI c k
  | 0, _, _, _, _ => rfl
  | k + 1, hk, h0, h, hG => by
    have ih := sumL_i (c := c) (G := G) (k := k) (by omega) (fun t ht => h0 t (by omega)) (fun t ht => h t (by omega)) (fun t ht => hG t (by omega))
    have h1 := sI_le (c := c) (k := k) (fun t ht => h t (by omega))
    have h2 := sI_nn (c := c) (k := k) (fun t ht => h0 t (by omega))
    have h3 := h k (by omega)
    have h4 := h0 k (by omega)
    rw [sumL, sI, Int64.toInt_add, ih, hG k (by omega), Int32.toInt_toInt64, bm64 (by omega) (by omega)]
theorem rate_eq {R : Nat → Int64} {q : Nat} {c : Nat → Int32} (x : rI R q 49 c 0 12) : (sumL (fun t => R (1 + 116 * q + (49 + t))) 16).toInt32 = sumI c 16 := by
  apply Int32.toInt_inj.mp
  have h1 := sI_le (c := c) (k := 16) (fun t ht => (x t ht).2.2)
  have h2 := sI_nn (c := c) (k := 16) (fun t ht => (x t ht).2.1)
  rw [Int64.toInt_toInt32, sumL_i (c := c) (by omega) (fun t ht => (x t ht).2.1) (fun t ht => (x t ht).2.2) (fun t ht => (x t ht).1), sumI_i (by omega) (fun t ht => (x t ht).2.1) (fun t ht => (x t ht).2.2), bm32 (by omega) (by omega)]
theorem rate_n {c : Nat → Int32} (h0 : ∀ t, t < 16 → 0 ≤ (c t).toInt) (h : ∀ t, t < 16 → (c t).toInt ≤ 12) : ∃ n : Nat, n < 193 ∧ sumI c 16 = nI n := by
  have h1 := sI_le (c := c) (k := 16) h
  have h2 := sI_nn (c := c) (k := 16) h0
  have h3 := sumI_i (c := c) (k := 16) (by omega) h0 h
  obtain ⟨m, hm, e⟩ := nI_rng (x := sumI c 16) (hi := 192) (by decide) (by omega) (by omega)
  exact ⟨m, by omega, e⟩
theorem sumL_c {f g : Nat → Int64} : ∀ {k : Nat}, (∀ t, t < k → f t = g t) → sumL f k = sumL g k
  | 0, _ => rfl
  | k + 1, h => by rw [sumL, sumL, sumL_c (fun t ht => h t (by omega)), h k (by omega)]
-- the filling
theorem rI.inc {R : Nat → Int64} {q t : Nat} {c : Nat → Int32} (x : rI R q 49 c 0 12) (ht : t < 16) (h : (c t).toInt ≤ 11) : rI (va_up R (1 + 116 * q + (49 + t)) (R (1 + 116 * q + (49 + t)) + 1)) q 49 (va_up c t (c t + nI 1)) 0 12 := by
  intro j hj
  by_cases e : j = t
  · subst e
    obtain ⟨z1, z2, z3⟩ := x j hj
    rw [va_s9, va_s9, z1, tl_p1 (by omega) (by omega), i32_p1 (by omega) (by omega)]
    exact ⟨rfl, by omega, by omega⟩
  · rw [va_o9 _ _ (by omega), va_o9 _ _ e]
    exact x j hj
theorem rI.dec {R : Nat → Int64} {q t : Nat} {c : Nat → Int32} (x : rI R q 49 c 0 12) (ht : t < 16) (h : 1 ≤ (c t).toInt) : rI (va_up R (1 + 116 * q + (49 + t)) (R (1 + 116 * q + (49 + t)) - 1)) q 49 (va_up c t (c t - nI 1)) 0 12 := by
  intro j hj
  by_cases e : j = t
  · subst e
    obtain ⟨z1, z2, z3⟩ := x j hj
    rw [va_s9, va_s9, z1, tl_m1 (by omega) (by omega), i32_m1 (by omega) (by omega)]
    exact ⟨rfl, by omega, by omega⟩
  · rw [va_o9 _ _ (by omega), va_o9 _ _ e]
    exact x j hj
theorem fb_eq {q : Nat} {n : Nat → Int64} {lim : Nat → Int32} {bud : Int64} : ∀ (f : Nat) (c : Nat → Int32) (R : Nat → Int64) (s : Int64), PV R q n → rI R q 49 c 0 12 → rI R q 33 lim 0 12 → R (1 + 116 * q + 0) = bud → 192 ≤ sI c 16 + (f : Int) → ∃ R2, mld q (f + 1) R s = some R2 ∧ rI R2 q 49 (fbz n lim bud f c s) 0 12 ∧ ∀ j : Nat, j < 1 + 116 * q + 49 ∨ 1 + 116 * q + 65 ≤ j → R2 j = R j
  | 0, c, R, s, v, x, y, hb, hs => by
    refine ⟨R, ?_, x, fun _ _ => rfl⟩
    rw [mld, ch_eq v x y]
    rcases hc : chz n lim c (-1) with _ | t
    · rfl
    · obtain ⟨h1, h2⟩ := ch_bd hc
      have h3 := (y t h1).2.2
      have h4 := sI_lt (c := c) (k := 16) (fun t ht => (x t ht).2.2) h1 (by omega)
      omega
  | f + 1, c, R, s, v, x, y, hb, hs => by
    rw [mld, ch_eq v x y, fbz]
    rcases hc : chz n lim c (-1) with _ | t
    · exact ⟨R, rfl, x, fun _ _ => rfl⟩
    · obtain ⟨h1, h2⟩ := ch_bd hc
      have h3 := (y t h1).2.2
      have hx := x t h1
      dsimp only
      rw [st_eq v x h1, hb]
      by_cases hd : bud < s + stz (n t) (c t)
      · rw [if_pos hd, if_pos hd]
        exact ⟨R, rfl, x, fun _ _ => rfl⟩
      · rw [if_neg hd, if_neg hd]
        have x2 := x.inc h1 (by omega)
        have v2 : PV (va_up R (1 + 116 * q + (49 + t)) (R (1 + 116 * q + (49 + t)) + 1)) q n := v.c (fun j hj => va_o9 _ _ (by omega)) (fun j hj => va_o9 _ _ (by omega)) (fun j hj => va_o9 _ _ (by omega))
        have y2 : rI (va_up R (1 + 116 * q + (49 + t)) (R (1 + 116 * q + (49 + t)) + 1)) q 33 lim 0 12 := y.c (fun j hj => va_o9 _ _ (by omega)) (by omega) (by omega)
        obtain ⟨R2, r1, r2, r3⟩ := fb_eq (bud := bud) f _ _ (s + stz (n t) (c t)) v2 x2 y2 ((va_o9 _ _ (by omega)).trans hb) (by rw [sI_up h1, i32_p1 (by omega) (by omega)]; omega)
        exact ⟨R2, r1, r2, fun j hj => by rw [r3 j hj, va_o9 _ _ (by omega)]⟩
theorem ft_eq {q : Nat} {n : Nat → Int64} {lim : Nat → Int32} : ∀ (f : Nat) (c : Nat → Int32) (R : Nat → Int64), PV R q n → rI R q 49 c 0 12 → rI R q 33 lim 0 12 → (∀ t, t < 16 → (c t).toInt ≤ (lim t).toInt) → (sI c 16 + (f : Int) ≤ sI lim 16 → ∃ R2, mfk q f R = some R2 ∧ (ftz n lim f c).2 = true ∧ rI R2 q 49 (ftz n lim f c).1 0 12 ∧ ∀ j : Nat, j < 1 + 116 * q + 49 ∨ 1 + 116 * q + 65 ≤ j → R2 j = R j) ∧ (sI lim 16 < sI c 16 + (f : Int) → (ftz n lim f c).2 = false)
  | 0, c, R, v, x, y, hl => ⟨fun _ => ⟨R, rfl, rfl, x, fun _ _ => rfl⟩, fun h => by have := sI_mono (c := c) (d := lim) (k := 16) hl; omega⟩
  | f + 1, c, R, v, x, y, hl => by
    rw [mfk, ch_eq v x y, ftz]
    rcases hc : chz n lim c (-1) with _ | t
    · have hn := amin_none hc
      have h1 : sI lim 16 ≤ sI c 16 := sI_mono (fun t ht => by
        have h2 := of_decide_eq_false (hn t ht)
        have h3 : lim t ≤ c t := Classical.byContradiction (fun z => h2 ⟨nI_m1 (by omega), z⟩)
        rw [Int32.le_iff_toInt_le] at h3; exact h3)
      exact ⟨fun h => by omega, fun _ => rfl⟩
    · obtain ⟨h1, h2⟩ := ch_bd hc
      have h3 := (y t h1).2.2
      have hx := x t h1
      dsimp only
      have x2 := x.inc h1 (by omega)
      have v2 : PV (mp1 R (1 + 116 * q + (49 + t))) q n := v.c (fun j hj => va_o9 _ _ (by omega)) (fun j hj => va_o9 _ _ (by omega)) (fun j hj => va_o9 _ _ (by omega))
      have y2 : rI (mp1 R (1 + 116 * q + (49 + t))) q 33 lim 0 12 := y.c (fun j hj => va_o9 _ _ (by omega)) (by omega) (by omega)
      have hl2 : ∀ j, j < 16 → (va_up c t (c t + nI 1) j).toInt ≤ (lim j).toInt := fun j hj => by
        by_cases e : j = t
        · subst e; rw [va_s9, i32_p1 (by omega) (by omega)]; omega
        · rw [va_o9 _ _ e]; exact hl j hj
      have ih := ft_eq f _ _ v2 x2 y2 hl2
      rw [sI_up h1, i32_p1 (by omega) (by omega)] at ih
      refine ⟨fun h => ?_, fun h => ih.2 (by omega)⟩
      obtain ⟨R2, r1, r2, r3, r4⟩ := ih.1 (by omega)
      exact ⟨R2, r1, r2, r3, fun j hj => by rw [r4 j hj]; exact va_o9 _ _ (by omega)⟩
