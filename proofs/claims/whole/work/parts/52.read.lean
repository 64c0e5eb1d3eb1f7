/-! WHAT BOTH SIDES READ -/
theorem dnz_i {a b : Int32} {e : Int64} (a1 : 1 ≤ a.toInt) (a2 : a.toInt ≤ 10000) (b1 : 0 ≤ b.toInt) (b2 : b.toInt ≤ 1000) (e1 : 0 ≤ e.toInt) (e2 : e.toInt ≤ 1000000000000) : 1 ≤ (dnz a b e).toInt ∧ (dnz a b e).toInt ≤ 1000000010000 := by
  unfold dnz
  have h1 : b.toInt * e.toInt ≤ 1000 * 1000000000000 := Int.mul_le_mul b2 e2 e1 (by omega)
  have h2 : 0 ≤ b.toInt * e.toInt := Int.mul_nonneg b1 e1
  have e3 : (1000 : Int64).toInt = 1000 := rfl
  have h3 : (b.toInt64 * e / 1000).toInt = b.toInt * e.toInt / 1000 := by
    rw [Int64.toInt_div_of_ne_right _ _ (by decide), Int64.toInt_mul, Int32.toInt_toInt64, bm64 (by omega) (by omega), e3, Int.tdiv_eq_ediv_of_nonneg h2]
  rw [Int64.toInt_add, h3, Int32.toInt_toInt64, bm64 (by omega) (by omega)]
  omega
/-- the noises that the plan has are the reference's -/
def PV (R : Nat → Int64) (q : Nat) (n : Nat → Int64) : Prop := ∀ t : Nat, t < 16 → mdn R q t = n t ∧ 1 ≤ (n t).toInt ∧ (n t).toInt ≤ 1000000010000
theorem PV.of {f f2 : Int} {R : Nat → Int64} {q : Nat} {a a2 : Nat → Nat → Int32} {E E2 : Nat → Int64} (x : RP f R q a E) (y : RP f2 R (1 - q) a2 E2) : PV R q (fun t => dnz (a 1 t) (a 2 t) (E2 t)) := by
  intro t ht
  obtain ⟨-, e1, e2, -⟩ := x
  obtain ⟨-, -, -, -, -, -, z6, -⟩ := y
  obtain ⟨r1, r2, r3⟩ := e1 t ht
  obtain ⟨s1, s2, s3⟩ := e2 t ht
  obtain ⟨u1, u2, u3⟩ := z6 t ht
  refine ⟨?_, dnz_i r2 r3 s2 s3 u2 u3⟩
  unfold mdn dnz
  rw [r1, s1, u1]
theorem PV.c {R R' : Nat → Int64} {q : Nat} {n : Nat → Int64} (x : PV R q n) (h1 : ∀ t : Nat, t < 16 → R' (1 + 116 * q + (1 + t)) = R (1 + 116 * q + (1 + t))) (h2 : ∀ t : Nat, t < 16 → R' (1 + 116 * q + (17 + t)) = R (1 + 116 * q + (17 + t))) (h3 : ∀ t : Nat, t < 16 → R' (1 + 116 * (1 - q) + (81 + t)) = R (1 + 116 * (1 - q) + (81 + t))) : PV R' q n := by
  intro t ht
  refine ⟨?_, (x t ht).2⟩
  rw [← (x t ht).1]
  unfold mdn
  rw [h1 t ht, h2 t ht, h3 t ht]
section RD
variable {R : Nat → Int64} {q : Nat} {n : Nat → Int64} {lim c : Nat → Int32}
theorem st_eq (v : PV R q n) (x : rI R q 49 c 0 12) {t : Nat} (ht : t < 16) : mst R q t = stz (n t) (c t) := by
  unfold mst stz
  rw [(v t ht).1, (x t ht).1, Int32.toInt32_toInt64, shl_mul (n t)]
theorem ch_eq (v : PV R q n) (x : rI R q 49 c 0 12) (y : rI R q 33 lim 0 12) (but : Int32) : mch R q but = chz n lim c but := by
  unfold mch chz
  refine amin_congr 16 (fun t ht => ?_) (fun t ht => st_eq v x ht)
  unfold mcA chA
  rw [(x t ht).1, (y t ht).1]
  have e : (c t).toInt64 < (lim t).toInt64 ↔ ¬ lim t ≤ c t := by
    rw [tl_lt, Int32.lt_iff_toInt_lt, Int32.le_iff_toInt_le]; omega
  exact decide_eq_decide.mpr (and_congr Iff.rfl e)
theorem cm {x : Int32} (h0 : 0 ≤ x.toInt) (h1 : x.toInt ≤ 12) : ∃ m : Nat, m < 13 ∧ x = nI m := by
  obtain ⟨m, hm, e⟩ := nI_rng (hi := 12) (by decide) h0 h1
  exact ⟨m, by omega, e⟩
theorem cm1 {x : Int32} (h0 : 1 ≤ x.toInt) (h1 : x.toInt ≤ 12) : ∃ m : Nat, m < 12 ∧ x = nI (m + 1) := by
  obtain ⟨m, hm, e⟩ := cm (x := x) (by omega) h1
  subst e
  rw [nI_toInt (by omega)] at h0
  exact ⟨m - 1, by omega, congrArg nI (by omega)⟩
theorem ls_eq (v : PV R q n) (x : rI R q 49 c 0 12) {t : Nat} (ht : t < 16) (hc : 1 ≤ (c t).toInt) : mls R q t = lcz (n t) (c t) := by
  obtain ⟨m, hm, e⟩ := cm1 hc (x t ht).2.2
  have hv := v t ht
  unfold mls mst
  rw [hv.1, (x t ht).1, Int32.toInt32_toInt64, e]
  exact st_half hm (by omega) (by omega)
theorem mdA_eq (x : rI R q 49 c 0 12) {t : Nat} (ht : t < 16) : mdA R q t = decide (¬ c t ≤ 0) := by
  unfold mdA
  rw [(x t ht).1]
  have e : (0 : Int64) < (c t).toInt64 ↔ ¬ c t ≤ 0 := by
    rw [Int64.lt_iff_toInt_lt, Int32.toInt_toInt64, Int32.le_iff_toInt_le, l0_i]
    have : (0 : Int32).toInt = 0 := rfl
    omega
  exact decide_eq_decide.mpr e
theorem pos_of {x : Int32} (h : decide (¬ x ≤ 0) = true) : 1 ≤ x.toInt := by
  have h1 := of_decide_eq_true h
  rw [Int32.le_iff_toInt_le] at h1
  have : (0 : Int32).toInt = 0 := rfl
  omega
theorem lc_nn (v : PV R q n) (x : rI R q 49 c 0 12) {t : Nat} (ht : t < 16) (hc : 1 ≤ (c t).toInt) : ¬ lcz (n t) (c t) < 0 := by
  obtain ⟨m, hm, e⟩ := cm1 hc (x t ht).2.2
  have hv := v t ht
  rw [e, Int64.lt_iff_toInt_lt, lcz_i hm (by omega) (by omega), l0_i]
  have := Int.mul_nonneg (Int.natCast_nonneg (2 ^ m)) (show 0 ≤ (n t).toInt by omega)
  omega
theorem de_eq (v : PV R q n) (x : rI R q 49 c 0 12) : mde R q = dez n c := by
  unfold mde dez
  rw [(amaxC_eq 16 (fun t ht ha => lc_nn v x ht (pos_of ha))).1]
  exact amax_congr 16 (fun t ht => mdA_eq x ht) (fun t ht ha => ls_eq v x ht (by rw [mdA_eq x ht] at ha; exact pos_of ha))
theorem de_bd {a : Nat} (h : dez n c = some a) : a < 16 ∧ 1 ≤ (c a).toInt := by
  have := amaxC_bd h
  exact ⟨this.1, pos_of this.2⟩
theorem ch_bd {a : Nat} {but : Int32} (h : chz n lim c but = some a) : a < 16 ∧ (c a).toInt < (lim a).toInt := by
  have h1 := amin_bd h
  refine ⟨h1.1, ?_⟩
  have h2 := (of_decide_eq_true h1.2).2
  rw [Int32.le_iff_toInt_le] at h2
  omega
theorem ef_eq (v : PV R q n) (x : rI R q 49 c 0 12) (y : rI R q 33 lim 0 12) : mef R q = !csz n c (dez n c) (chz n lim c (-1)) := by
  unfold mef
  rw [de_eq v x, ch_eq v x y]
  rcases hd : dez n c with _ | a
  · rfl
  · rcases hc : chz n lim c (-1) with _ | b
    · rfl
    · have h1 := de_bd hd
      have h2 := ch_bd hc
      dsimp only [csz]
      rw [st_eq v x h2.1, ls_eq v x h1.1 h1.2]
theorem nd_eq (v : PV R q n) (x : rI R q 49 c 0 12) {t : Nat} (ht : t < 16) : mnd R q t = ndz (c t) (n t) := by
  unfold mnd ndl ndz
  rw [(v t ht).1, (x t ht).1, Int32.toInt32_toInt64]
theorem ndz_i {m : Nat} (hm : m < 13) {n : Int64} (h0 : 0 ≤ n.toInt) (h1 : n.toInt ≤ 2000000000000) : (ndz (nI m) n).toInt = (((2 ^ m : Nat) : Int) - 1) * n.toInt := by
  unfold ndz
  have hb := pw_b m hm
  have hb1 : 1 ≤ 2 ^ m := Nat.one_le_two_pow
  have h2 : (((2 ^ m : Nat) : Int) - 1) * n.toInt ≤ 4096 * 2000000000000 := Int.mul_le_mul (by omega) h1 h0 (by omega)
  have h3 : 0 ≤ (((2 ^ m : Nat) : Int) - 1) * n.toInt := Int.mul_nonneg (by omega) h0
  have h4 : ((1 : Int64) <<< ((nI m).toInt64 &&& 63) - 1).toInt = ((2 ^ m : Nat) : Int) - 1 := by
    rw [Int64.toInt_sub, pw_i m hm, l1_i, bm64 (by omega) (by omega)]
  rw [Int64.toInt_mul, h4, bm64 (by omega) (by omega)]
theorem nd_rng (v : PV R q n) (x : rI R q 49 c 0 12) {t : Nat} (ht : t < 16) : 0 ≤ (ndz (c t) (n t)).toInt ∧ (ndz (c t) (n t)).toInt ≤ 8192000000000000 ∧ (1 ≤ (c t).toInt → 1 ≤ (ndz (c t) (n t)).toInt) ∧ ((c t).toInt = 0 → (ndz (c t) (n t)).toInt = 0) := by
  obtain ⟨m, hm, e⟩ := cm (x t ht).2.1 (x t ht).2.2
  have hv := v t ht
  rw [e, ndz_i hm (by omega) (by omega), nI_toInt (by omega)]
  have hb := pw_b m hm
  have hb1 : 1 ≤ 2 ^ m := Nat.one_le_two_pow
  have h2 : (((2 ^ m : Nat) : Int) - 1) * (n t).toInt ≤ 4096 * 2000000000000 := Int.mul_le_mul (by omega) (by omega) (by omega) (by omega)
  have h3 : 0 ≤ (((2 ^ m : Nat) : Int) - 1) * (n t).toInt := Int.mul_nonneg (by omega) (by omega)
  refine ⟨h3, by omega, fun h => ?_, fun h => ?_⟩
  · have h5 : 2 ≤ 2 ^ m := by
      obtain ⟨m1, rfl⟩ : ∃ m1, m = m1 + 1 := ⟨m - 1, by omega⟩
      have : 1 ≤ 2 ^ m1 := Nat.one_le_two_pow
      rw [Nat.pow_succ]; omega
    have h6 : 1 * 1 ≤ (((2 ^ m : Nat) : Int) - 1) * (n t).toInt := Int.mul_le_mul (by omega) (by omega) (by omega) (by omega)
    omega
  · obtain rfl : m = 0 := by omega
    rw [show ((2 ^ 0 : Nat) : Int) - 1 = 0 from rfl, Int.zero_mul]
theorem c0_iff {x : Int32} : x.toInt64 = 0 ↔ x.toInt = 0 := by
  rw [tl_0]
  have e : (0 : Int32).toInt = 0 := rfl
  exact ⟨fun h => by rw [h]; rfl, fun h => Int32.toInt_inj.mp (h.trans e.symm)⟩
theorem mg_eq {E : Nat → Int64} (v : PV R q n) (x : rI R q 49 c 0 12) (z : rL R q E) {t : Nat} (ht : t < 16) : mmg R q t = mgz (E t) (ndz (c t) (n t)) := by
  unfold mmg mgz
  have hr := nd_rng v x ht
  rw [nd_eq v x ht, (x t ht).1, (z t ht).1]
  have hx := x t ht
  by_cases h : (c t).toInt = 0
  · rw [if_pos (c0_iff.mpr h), if_pos]
    rw [Int64.lt_iff_toInt_lt, hr.2.2.2 h, l1_i]; omega
  · rw [if_neg (fun w => h (c0_iff.mp w)), if_neg]
    rw [Int64.lt_iff_toInt_lt, l1_i]
    have := hr.2.2.1 (by omega)
    omega
theorem nd_ne (v : PV R q n) (x : rI R q 49 c 0 12) {t : Nat} (ht : t < 16) (h : ¬ R (1 + 116 * q + (49 + t)) = 0) : ¬ mnd R q t = 0 := by
  rw [nd_eq v x ht]
  rw [(x t ht).1] at h
  have hx := x t ht
  have hr := nd_rng v x ht
  intro w
  have w2 := congrArg Int64.toInt w
  rw [l0_i] at w2
  have : ¬ (c t).toInt = 0 := fun z => h (c0_iff.mpr z)
  have := hr.2.2.1 (by omega)
  omega
/-- a margin is no -1 where there are bits -/
theorem mg_ne {E : Nat → Int64} (v : PV R q n) (x : rI R q 49 c 0 12) (z : rL R q E) {t : Nat} (ht : t < 16) : decide (¬ mgz (E t) (ndz (c t) (n t)) = -1) = mdA R q t := by
  rw [mdA_eq x ht]
  have hx := x t ht
  have hr := nd_rng v x ht
  have hz := z t ht
  apply decide_eq_decide.mpr
  unfold mgz
  by_cases h : (c t).toInt = 0
  · rw [if_pos (by rw [Int64.lt_iff_toInt_lt, hr.2.2.2 h, l1_i]; omega), Int32.le_iff_toInt_le]
    have e : (0 : Int32).toInt = 0 := rfl
    constructor
    · intro w; exact absurd rfl w
    · intro w; omega
  · have h1 := hr.2.2.1 (by omega)
    rw [if_neg (by rw [Int64.lt_iff_toInt_lt, l1_i]; omega), Int32.le_iff_toInt_le]
    have e : (0 : Int32).toInt = 0 := rfl
    refine ⟨fun _ => by omega, fun _ w => ?_⟩
    have w2 := congrArg Int64.toInt w
    have e1 : (-1 : Int64).toInt = -1 := rfl
    have e100 : (100 : Int64).toInt = 100 := rfl
    have ne : ndz (c t) (n t) ≠ -1 := fun w3 => by rw [w3, e1] at h1; omega
    rw [e1, Int64.toInt_div_of_ne_right _ _ ne, Int64.toInt_mul, e100, bm64 (by omega) (by omega), Int.tdiv_eq_ediv_of_nonneg (by omega)] at w2
    have := Int.ediv_nonneg (show 0 ≤ 100 * (E t).toInt by omega) (show 0 ≤ (ndz (c t) (n t)).toInt by omega)
    omega
theorem cap_rng {x : Int64} (h0 : 0 ≤ x.toInt) : 0 ≤ (capz x).toInt ∧ (capz x).toInt ≤ 1000000000000 := by
  unfold capz
  have e : (1000000000000 : Int64).toInt = 1000000000000 := rfl
  by_cases h : 1000000000000 < x
  · rw [if_pos h, e]; omega
  · rw [if_neg h]
    rw [Int64.lt_iff_toInt_lt, e] at h
    omega
end RD
