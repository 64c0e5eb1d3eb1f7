/-! LOADING, REPAIR AND BALANCING over the present state -/
def RC (n : Nat) (h : hS) (R : Nat → Int64) : Prop := RS n R (h.1 6 0) (fun q c => h.1 (11 + 8 * q + c)) (fun q => h.2.1 (11 + 8 * q + 6))
/-- the present state's cells are the same -/
def AC (h g : hS) : Prop := (∀ i : Nat, i = 6 ∨ (11 ≤ i ∧ i < 27) → g.1 i = h.1 i) ∧ ∀ i : Nat, 11 ≤ i → i < 27 → g.2.1 i = h.2.1 i
theorem RC.ac {n : Nat} {h g : hS} {R : Nat → Int64} (x : RC n h R) (y : AC h g) : RC n g R :=
  RS.same x (Nat.le_refl n) (fun _ _ => rfl) (by rw [y.1 6 (Or.inl rfl)]) (fun q c hq hc => y.1 _ (by omega)) (fun q hq => y.2 _ (by omega) (by omega))
theorem AC.of {h g : hS} (x : AG h g) : AC h g := ⟨fun i hi => x.2.1 i (by omega) (by omega), fun i h1 h2 => x.2.2.1 i h1 (by omega)⟩
theorem AC.tr {h g z : hS} (x : AC h g) (y : AC g z) : AC h z := ⟨fun i a => (y.1 i a).trans (x.1 i a), fun i a b => (y.2 i a b).trans (x.2 i a b)⟩
theorem AC.sv (h : hS) (a b : Nat) : AC h (svz h a b) := ⟨fun i hi => svz_lo _ _ _ (by omega) (by omega), fun i h1 h2 => svz_loL _ _ _ (by omega)⟩
theorem sez_7 (g : hS) (P : Nat) : (sez g P).1 (P + 7) = drT (g.1 (P + 7)) := by unfold sez; rw [setI_s]
theorem sez_0 (g : hS) (P : Nat) : (sez g P).1 P = va_up (g.1 P) 9 (nI 0) := by
  unfold sez; rw [setI_o _ _ (by omega), upI_s]
  show va_up ((setI (setI g (P + 4) (g.1 5)) (P + 5) (g.1 5)).1 P) 9 (nI 0) = _
  rw [setI_o _ _ (by omega), setI_o _ _ (by omega)]
theorem sez_5 (g : hS) (P : Nat) : (sez g P).1 (P + 5) = g.1 5 := by
  unfold sez; rw [setI_o _ _ (by omega), upI_o _ _ _ (by omega)]
  show (setI (setI g (P + 4) (g.1 5)) (P + 5) (g.1 5)).1 (P + 5) = _
  rw [setI_s]
theorem sez_4 (g : hS) (P : Nat) : (sez g P).1 (P + 4) = g.1 5 := by
  unfold sez; rw [setI_o _ _ (by omega), upI_o _ _ _ (by omega)]
  show (setI (setI g (P + 4) (g.1 5)) (P + 5) (g.1 5)).1 (P + 4) = _
  rw [setI_o _ _ (by omega), setI_s]
theorem sez_o (g : hS) {P i : Nat} (h0 : i ≠ P) (h4 : i ≠ P + 4) (h5 : i ≠ P + 5) (h7 : i ≠ P + 7) : (sez g P).1 i = g.1 i := by
  unfold sez; rw [setI_o _ _ h7, upI_o _ _ _ h0]
  show (setI (setI g (P + 4) (g.1 5)) (P + 5) (g.1 5)).1 i = _
  rw [setI_o _ _ h5, setI_o _ _ h4]
theorem sez_6L (g : hS) (P : Nat) : (sez g P).2.1 (P + 6) = enz g := by
  unfold sez
  show (setL (setI (setI g (P + 4) (g.1 5)) (P + 5) (g.1 5)) (P + 6) (enz g)).2.1 (P + 6) = _
  rw [setL_s]
theorem sez_oL (g : hS) {P i : Nat} (h6 : i ≠ P + 6) : (sez g P).2.1 i = g.2.1 i := by
  unfold sez
  show (setL (setI (setI g (P + 4) (g.1 5)) (P + 5) (g.1 5)) (P + 6) (enz g)).2.1 i = _
  rw [setL_o _ _ h6]; rfl
theorem RC.v {n q : Nat} {h : hS} {R : Nat → Int64} (x : RC n h R) (hq : q < 2) : PV R q (dnP h (11 + 8 * q) (11 + 8 * (1 - q))) := by
  have k := PV.of (a := fun c => h.1 (11 + 8 * q + c)) (a2 := fun c => h.1 (11 + 8 * (1 - q) + c)) (E := h.2.1 (11 + 8 * q + 6)) (E2 := h.2.1 (11 + 8 * (1 - q) + 6)) (x.2.2.2 q hq) (x.2.2.2 (1 - q) (by omega))
  intro t ht
  have k2 := k t ht
  unfold dnP
  exact k2
theorem RC.load {n q : Nat} {h g : hS} {R R2 : Nat → Int64} {c : Nat → Int32} (x : RC n h R) (hq : q < 2) (hc : rI R2 q 49 c 0 12) (hR : ∀ j : Nat, j < 1 + 116 * q + 49 ∨ 1 + 116 * q + 65 ≤ j → R2 j = R j) (g3 : g.2.1 3 = dnP h (11 + 8 * q) (11 + 8 * (1 - q))) (g5 : g.1 5 = c) (y : AC h g) : RC n (sez g (11 + 8 * q)) (mfi R2 q) := by
  obtain ⟨x0, x1, x2, xP⟩ := id x
  have e6 : (sez g (11 + 8 * q)).1 6 0 = h.1 6 0 := by rw [sez_o _ (by omega) (by omega) (by omega) (by omega), y.1 6 (Or.inl rfl)]
  refine ⟨by rw [e6, mfi_o hq (by omega), hR 0 (by omega)]; exact x0, by rw [e6]; exact x1, by rw [e6]; exact x2, fun p hp => ?_⟩
  rw [e6]
  by_cases e : p = q
  · subst e
    refine (xP p hp).load x1 hp (x.v hp) hc hR ?_ ?_ ?_ ?_ ?_ ?_ ?_ ?_ ?_ (fun t ht => ?_)
    · show (sez g (11 + 8 * p)).1 (11 + 8 * p + 0) 7 = h.1 (11 + 8 * p + 0) 7
      rw [Nat.add_zero, sez_0, va_o9 _ _ (by decide), y.1 _ (by omega)]
    · show (sez g (11 + 8 * p)).1 (11 + 8 * p + 0) 8 = h.1 (11 + 8 * p + 0) 8
      rw [Nat.add_zero, sez_0, va_o9 _ _ (by decide), y.1 _ (by omega)]
    · show (sez g (11 + 8 * p)).1 (11 + 8 * p + 0) 9 = nI 0
      rw [Nat.add_zero, sez_0, va_s9]
    · show (sez g (11 + 8 * p)).1 (11 + 8 * p + 1) = h.1 (11 + 8 * p + 1)
      rw [sez_o _ (by omega) (by omega) (by omega) (by omega), y.1 _ (by omega)]
    · show (sez g (11 + 8 * p)).1 (11 + 8 * p + 2) = h.1 (11 + 8 * p + 2)
      rw [sez_o _ (by omega) (by omega) (by omega) (by omega), y.1 _ (by omega)]
    · show (sez g (11 + 8 * p)).1 (11 + 8 * p + 3) = h.1 (11 + 8 * p + 3)
      rw [sez_o _ (by omega) (by omega) (by omega) (by omega), y.1 _ (by omega)]
    · show (sez g (11 + 8 * p)).1 (11 + 8 * p + 4) = c
      rw [sez_4, g5]
    · show (sez g (11 + 8 * p)).1 (11 + 8 * p + 5) = c
      rw [sez_5, g5]
    · show (sez g (11 + 8 * p)).1 (11 + 8 * p + 7) = drT (h.1 (11 + 8 * p + 7))
      rw [sez_7, y.1 _ (by omega)]
    · show (sez g (11 + 8 * p)).2.1 (11 + 8 * p + 6) t = _
      rw [sez_6L, enz, g5, g3]
  · refine (xP p hp).same (Int.le_refl _) (fun j hj => ?_) (fun c hc => ?_) ?_
    · rw [mfi_o hq (by omega), hR _ (by omega)]
    · show (sez g (11 + 8 * q)).1 (11 + 8 * p + c) = h.1 (11 + 8 * p + c)
      rw [sez_o _ (by omega) (by omega) (by omega) (by omega), y.1 _ (by omega)]
    · show (sez g (11 + 8 * q)).2.1 (11 + 8 * p + 6) = h.2.1 (11 + 8 * p + 6)
      rw [sez_oL _ (by omega), y.2 _ (by omega) (by omega)]
theorem rlz_3 (h : hS) (P P2 : Nat) : (rlz h P P2).2.1 3 = dnP h P P2 := by unfold rlz; show (setL h 3 _).2.1 3 = _; rw [setL_s]
theorem rlz_4 (h : hS) (P P2 : Nat) : (rlz h P P2).1 4 = h.1 (P + 3) := by unfold rlz; rw [setI_s]
theorem lfB_5 (h : hS) {P P2 : Nat} (hP : 11 ≤ P) : (lfB h P P2).1 5 = fbz (dnP h P P2) (h.1 (P + 3)) (h.1 P 7).toInt64 192 (fun _ => nI 0) 0 := by
  have e3 : (lfA h P P2).2.1 3 = dnP h P P2 := rlz_3 h P P2
  have e4 : (lfA h P P2).1 4 = h.1 (P + 3) := by unfold lfA; rw [setI_o _ _ (by decide), rlz_4]
  have eP : (lfA h P P2).1 P = h.1 P := by unfold lfA; rw [setI_o _ _ (by omega), rlz_o _ _ _ (by omega)]
  have e5 : (lfA h P P2).1 5 = fun _ => nI 0 := by unfold lfA; rw [setI_s]
  unfold lfB
  rw [setI_s, e3, e4, eP, e5]
theorem lfB_3 (h : hS) (P P2 : Nat) : (lfB h P P2).2.1 3 = dnP h P P2 := rlz_3 h P P2
theorem AG.lfB (h : hS) (P P2 : Nat) : AG h (lfB h P P2) := ((AG.rl h P P2).tr (AG.s5 _ _)).tr (AG.s5 _ _)
theorem mcl_o (R : Nat → Int64) (q : Nat) {j : Nat} (hj : j < 1 + 116 * q + 49 ∨ 1 + 116 * q + 65 ≤ j) : mcl R q j = R j := wfz_out _ _ (by omega)
theorem mcl_rI (R : Nat → Int64) (q : Nat) : rI (mcl R q) q 49 (fun _ => nI 0) 0 12 := fun t ht => by
  refine ⟨?_, show (0 : Int) ≤ (nI 0).toInt by decide, show (nI 0).toInt ≤ 12 by decide⟩
  rw [show 1 + 116 * q + (49 + t) = 1 + 116 * q + 49 + t by omega]
  unfold mcl
  rw [wfz_in _ _ _ ht]; rfl
theorem sI_0 : ∀ k : Nat, sI (fun _ => nI 0) k = 0
  | 0 => rfl
  | k + 1 => by rw [sI, sI_0 k]; rfl
theorem RC.lf {n q : Nat} {h : hS} {R : Nat → Int64} (x : RC n h R) (hq : q < 2) : ∃ R2, mld q 193 (mcl R q) 0 = some R2 ∧ RC n (lfz h (11 + 8 * q) (11 + 8 * (1 - q))) (mfi R2 q) := by
  obtain ⟨e0, e1, e2, e3, -⟩ := x.2.2.2 q hq
  have v := x.v hq
  obtain ⟨R2, r1, r2, r3⟩ := fb_eq (q := q) (n := dnP h (11 + 8 * q) (11 + 8 * (1 - q))) (lim := h.1 (11 + 8 * q + 3)) (bud := (h.1 (11 + 8 * q) 7).toInt64) 192 (fun _ => nI 0) (mcl R q) 0
    (v.c (fun t ht => mcl_o _ _ (by omega)) (fun t ht => mcl_o _ _ (by omega)) (fun t ht => mcl_o _ _ (by omega))) (mcl_rI R q) (e3.c (fun t ht => mcl_o _ _ (by omega)) (by omega) (by omega)) (by rw [mcl_o _ _ (by omega)]; exact e0) (by rw [sI_0]; omega)
  refine ⟨R2, r1, ?_⟩
  exact x.load (g := lfB h (11 + 8 * q) (11 + 8 * (1 - q))) hq r2 (fun j hj => by rw [r3 j hj, mcl_o _ _ hj]) (lfB_3 _ _ _) (lfB_5 _ (by omega)) (AC.of (AG.lfB _ _ _))
/-- loaded to a target -/
theorem RC.lt {n q : Nat} {h : hS} {R : Nat → Int64} (x : RC n h R) (hq : q < 2) (m : Nat) : ((m : Int) ≤ sI (h.1 (11 + 8 * q + 3)) 16 → ∃ R2, mfk q m (mcl R q) = some R2 ∧ ltB h (11 + 8 * q) (11 + 8 * (1 - q)) m = true ∧ ∀ a b : Nat, RC n (sez (svz (ltz h (11 + 8 * q) (11 + 8 * (1 - q)) m) a b) (11 + 8 * q)) (mfi R2 q)) ∧ (sI (h.1 (11 + 8 * q + 3)) 16 < (m : Int) → ltB h (11 + 8 * q) (11 + 8 * (1 - q)) m = false) := by
  obtain ⟨e0, e1, e2, e3, -⟩ := x.2.2.2 q hq
  have v := x.v hq
  have k := ft_eq (q := q) (n := dnP h (11 + 8 * q) (11 + 8 * (1 - q))) (lim := h.1 (11 + 8 * q + 3)) m (fun _ => nI 0) (mcl R q)
    (v.c (fun t ht => mcl_o _ _ (by omega)) (fun t ht => mcl_o _ _ (by omega)) (fun t ht => mcl_o _ _ (by omega))) (mcl_rI R q) (e3.c (fun t ht => mcl_o _ _ (by omega)) (by omega) (by omega)) (fun t ht => (e3 t ht).2.1)
  rw [sI_0, Int.zero_add] at k
  have a3 : (lfA h (11 + 8 * q) (11 + 8 * (1 - q))).2.1 3 = dnP h (11 + 8 * q) (11 + 8 * (1 - q)) := rlz_3 h _ _
  have a4 : (lfA h (11 + 8 * q) (11 + 8 * (1 - q))).1 4 = h.1 (11 + 8 * q + 3) := by unfold lfA; rw [setI_o _ _ (by decide), rlz_4]
  have a5 : (lfA h (11 + 8 * q) (11 + 8 * (1 - q))).1 5 = fun _ => nI 0 := by unfold lfA; rw [setI_s]
  unfold ltB
  rw [a3, a4, a5]
  refine ⟨fun hm => ?_, k.2⟩
  obtain ⟨R2, r1, r2, r3, r4⟩ := k.1 hm
  refine ⟨R2, r1, r2, fun a b => ?_⟩
  refine x.load hq r3 (fun j hj => by rw [r4 j hj, mcl_o _ _ hj]) ?_ ?_ ((AC.of (AG.lt h _ _ _)).tr (AC.sv _ _ _))
  · rw [svz_loL _ _ _ (by omega)]
    exact rlz_3 h _ _
  · rw [svz_lo _ _ _ (by omega) (by omega)]
    unfold ltz
    rw [setI_s, a3, a4, a5]
-- the repair
def cn (d th : Int) : Nat → Nat
  | 0 => 0
  | j + 1 => cn d th j + (if th < ((2 ^ j : Nat) : Int) * d then 1 else 0)
def nC (n : Nat → Int64) (c : Nat → Int32) (th : Int) : Nat → Nat
  | 0 => 0
  | k + 1 => nC n c th k + cn (n k).toInt th (c k).toInt.toNat
theorem cn_mono {d th th' : Int} (h : th ≤ th') : ∀ j : Nat, cn d th' j ≤ cn d th j
  | 0 => Nat.le_refl _
  | j + 1 => by
    have ih := cn_mono (d := d) h j
    rw [cn, cn]
    by_cases h1 : th' < ((2 ^ j : Nat) : Int) * d
    · rw [if_pos h1, if_pos (by omega)]; omega
    · rw [if_neg h1]; omega
theorem cn_le {d th : Int} : ∀ j : Nat, cn d th j ≤ j
  | 0 => Nat.le_refl _
  | j + 1 => by
    have ih := cn_le (d := d) (th := th) j
    rw [cn]
    by_cases h1 : th < ((2 ^ j : Nat) : Int) * d
    · rw [if_pos h1]; omega
    · rw [if_neg h1]; omega
theorem nC_mono {n : Nat → Int64} {c : Nat → Int32} {th th' : Int} (h : th ≤ th') : ∀ k : Nat, nC n c th' k ≤ nC n c th k
  | 0 => Nat.le_refl _
  | k + 1 => by
    have ih := nC_mono (n := n) (c := c) h k
    have := cn_mono (d := (n k).toInt) h (c k).toInt.toNat
    rw [nC, nC]; omega
theorem nC_le {n : Nat → Int64} {c : Nat → Int32} {th : Int} : ∀ {k : Nat}, (∀ t, t < k → (c t).toInt ≤ 12) → nC n c th k ≤ 12 * k
  | 0, _ => by simp [nC]
  | k + 1, h => by
    have ih := nC_le (n := n) (c := c) (th := th) (k := k) (fun t ht => h t (by omega))
    have h1 := cn_le (d := (n k).toInt) (th := th) (c k).toInt.toNat
    have h2 := h k (by omega)
    rw [nC]; omega
theorem nC_out {n : Nat → Int64} {c : Nat → Int32} {th : Int} {a : Nat} {x : Int32} : ∀ {k : Nat}, k ≤ a → nC n (va_up c a x) th k = nC n c th k
  | 0, _ => rfl
  | k + 1, h => by rw [nC, nC, nC_out (by omega), va_o9 _ _ (by omega)]
theorem nC_up {n : Nat → Int64} {c : Nat → Int32} {th : Int} {a : Nat} {x : Int32} : ∀ {k : Nat}, a < k → nC n (va_up c a x) th k + cn (n a).toInt th (c a).toInt.toNat = nC n c th k + cn (n a).toInt th x.toInt.toNat
  | 0, h => by omega
  | k + 1, h => by
    rw [nC, nC]
    rcases Nat.lt_or_ge a k with z | z
    · have ih := nC_up (n := n) (c := c) (th := th) (x := x) z
      rw [va_o9 _ _ (by omega)]; omega
    · obtain rfl : a = k := by omega
      rw [nC_out (Nat.le_refl _), va_s9]; omega
section RPR
variable {q : Nat} {n : Nat → Int64} {lim : Nat → Int32}
theorem stz_c {R : Nat → Int64} {c : Nat → Int32} (v : PV R q n) (x : rI R q 49 c 0 12) {t : Nat} (ht : t < 16) : (stz (n t) (c t)).toInt = ((2 ^ (c t).toInt.toNat : Nat) : Int) * (n t).toInt := by
  obtain ⟨m, hm, e⟩ := cm (x t ht).2.1 (x t ht).2.2
  have hv := v t ht
  rw [e, stz_i hm (by omega) (by omega), nI_toInt (by omega)]; rfl
theorem lcz_c {R : Nat → Int64} {c : Nat → Int32} (v : PV R q n) (x : rI R q 49 c 0 12) {t : Nat} (ht : t < 16) (hc : 1 ≤ (c t).toInt) : (lcz (n t) (c t)).toInt = ((2 ^ ((c t).toInt.toNat - 1) : Nat) : Int) * (n t).toInt := by
  obtain ⟨m, hm, e⟩ := cm1 hc (x t ht).2.2
  have hv := v t ht
  rw [e, lcz_i hm (by omega) (by omega), nI_toInt (by omega)]
  rw [show ((m + 1 : Nat) : Int).toNat - 1 = m by omega]
theorem mez_st {c : Nat → Int32} (h : csz n c (dez n c) (chz n lim c (-1)) = false) (g m : Nat) : mez n lim g c m = (c, m) := by
  rcases g with _ | g
  · rfl
  · rw [mez]
    rcases hd : dez n c with _ | a
    · rfl
    · rcases hc : chz n lim c (-1) with _ | b
      · rfl
      · rw [hd, hc] at h
        dsimp only [csz] at h
        dsimp only
        rw [if_neg (of_decide_eq_false h)]
theorem rp_eq : ∀ (f : Nat) (c : Nat → Int32) (R : Nat → Int64) (m g : Nat), PV R q n → rI R q 49 c 0 12 → rI R q 33 lim 0 12 → (∀ b : Nat, chz n lim c (-1) = some b → nC n c (stz (n b) (c b)).toInt 16 ≤ f) → f ≤ g → ∃ R2, mrp q (f + 1) R m = some (R2, (mez n lim g c m).2) ∧ rI R2 q 49 (mez n lim g c m).1 0 12 ∧ ∀ j : Nat, j < 1 + 116 * q + 49 ∨ 1 + 116 * q + 65 ≤ j → R2 j = R j := by
  intro f
  induction f with
  | zero =>
    intro c R m g v x y hN hg
    have hst : csz n c (dez n c) (chz n lim c (-1)) = false := by
      rcases hd : dez n c with _ | a
      · rfl
      · rcases hc : chz n lim c (-1) with _ | b
        · rfl
        · dsimp only [csz]
          apply decide_eq_false
          intro hlt
          obtain ⟨a1, a2⟩ := de_bd hd
          have h0 := hN b hc
          have h1 := nC_up (n := n) (c := c) (th := (stz (n b) (c b)).toInt) (x := c a - nI 1) (k := 16) a1
          have ha := (x a a1).2
          rw [i32_m1 (by omega) (by omega)] at h1
          rw [Int64.lt_iff_toInt_lt, lcz_c v x a1 a2] at hlt
          obtain ⟨j, hj⟩ : ∃ j, (c a).toInt.toNat = j + 1 := ⟨(c a).toInt.toNat - 1, by omega⟩
          rw [hj, Nat.add_sub_cancel] at hlt
          rw [hj, show ((c a).toInt - 1).toNat = j by omega, cn, if_pos hlt] at h1
          omega
    rw [mez_st hst]
    refine ⟨R, ?_, x, fun _ _ => rfl⟩
    rw [mrp, ef_eq v x y, hst]; rfl
  | succ f ih =>
    intro c R m g v x y hN hg
    rcases hst : csz n c (dez n c) (chz n lim c (-1)) with _ | _
    · rw [mez_st hst]
      refine ⟨R, ?_, x, fun _ _ => rfl⟩
      rw [mrp, ef_eq v x y, hst]; rfl
    · rcases hd : dez n c with _ | a
      · rw [hd] at hst; cases hst
      · rcases hc : chz n lim c (-1) with _ | b
        · rw [hd, hc] at hst; cases hst
        · have hst2 := hst
          rw [hd, hc] at hst
          dsimp only [csz] at hst
          have hlt := of_decide_eq_true hst
          obtain ⟨g, rfl⟩ : ∃ g1, g = g1 + 1 := ⟨g - 1, by omega⟩
          obtain ⟨a1, a2⟩ := de_bd hd
          obtain ⟨b1, b2⟩ := ch_bd hc
          have hl := (y b b1).2.2
          have ha := (x a a1).2
          have hb := (x b b1).2
          have hva := (v a a1).2
          have hvb := (v b b1).2
          have hlt2 := hlt
          rw [Int64.lt_iff_toInt_lt, lcz_c v x a1 a2, stz_c v x b1] at hlt2
          have hab : ¬ b = a := by
            intro e
            subst e
            have h2 : 2 ^ ((c b).toInt.toNat - 1) ≤ 2 ^ (c b).toInt.toNat := Nat.pow_le_pow_right (by omega) (by omega)
            have h3 : ((2 ^ ((c b).toInt.toNat - 1) : Nat) : Int) * (n b).toInt ≤ ((2 ^ (c b).toInt.toNat : Nat) : Int) * (n b).toInt := Int.mul_le_mul_of_nonneg_right (by omega) (by omega)
            omega
          have x1 := x.dec a1 a2
          have x2 : rI (mp1 (mm1 R (1 + 116 * q + (49 + a))) (1 + 116 * q + (49 + b))) q 49 (mvC c a b) 0 12 := x1.inc b1 (by rw [va_o9 _ _ hab]; omega)
          have v2 : PV (mp1 (mm1 R (1 + 116 * q + (49 + a))) (1 + 116 * q + (49 + b))) q n := (v.c (R' := mm1 R (1 + 116 * q + (49 + a))) (fun j hj => va_o9 _ _ (by omega)) (fun j hj => va_o9 _ _ (by omega)) (fun j hj => va_o9 _ _ (by omega))).c (fun j hj => va_o9 _ _ (by omega)) (fun j hj => va_o9 _ _ (by omega)) (fun j hj => va_o9 _ _ (by omega))
          have y2 : rI (mp1 (mm1 R (1 + 116 * q + (49 + a))) (1 + 116 * q + (49 + b))) q 33 lim 0 12 := (y.c (R' := mm1 R (1 + 116 * q + (49 + a))) (lo' := 0) (hi' := 12) (fun j hj => va_o9 _ _ (by omega)) (by omega) (by omega)).c (fun j hj => va_o9 _ _ (by omega)) (by omega) (by omega)
          have cb : mvC c a b b = c b + nI 1 := by unfold mvC; rw [va_s9, va_o9 _ _ hab]
          have ca : mvC c a b a = c a - nI 1 := by unfold mvC; rw [va_o9 _ _ (fun z => hab z.symm), va_s9]
          have co : ∀ j, j ≠ a → j ≠ b → mvC c a b j = c j := fun j h1 h2 => by unfold mvC; rw [va_o9 _ _ h2, va_o9 _ _ h1]
          have hN2 : ∀ b' : Nat, chz n lim (mvC c a b) (-1) = some b' → nC n (mvC c a b) (stz (n b') (mvC c a b b')).toInt 16 ≤ f := by
            intro b' hc'
            obtain ⟨d1, d2⟩ := ch_bd hc'
            have hth : (stz (n b) (c b)).toInt ≤ (stz (n b') (mvC c a b b')).toInt := by
              rw [stz_c v x b1, stz_c v2 x2 d1]
              show _ ≤ ((2 ^ (mvC c a b b').toInt.toNat : Nat) : Int) * (n b').toInt
              by_cases e1 : b' = b
              · subst e1
                rw [cb, i32_p1 (by omega) (by omega)]
                have h2 : 2 ^ (c b').toInt.toNat ≤ 2 ^ ((c b').toInt + 1).toNat := Nat.pow_le_pow_right (by omega) (by omega)
                exact Int.mul_le_mul_of_nonneg_right (by omega) (by omega)
              · by_cases e2 : b' = a
                · subst e2
                  rw [ca, i32_m1 (by omega) (by omega), show ((c b').toInt - 1).toNat = (c b').toInt.toNat - 1 by omega]
                  omega
                · rw [co b' e2 e1]
                  rw [co b' e2 e1] at d2
                  have h3 := amin_le hc b' d1 (decide_eq_true ⟨nI_m1 (by omega), by rw [Int32.le_iff_toInt_le]; omega⟩)
                  rw [Int64.lt_iff_toInt_lt, stz_c v x b1, stz_c v x d1] at h3
                  omega
            have k0 := nC_mono (n := n) (c := mvC c a b) hth 16
            have k1 := nC_up (n := n) (c := c) (th := (stz (n b) (c b)).toInt) (x := c a - nI 1) (k := 16) a1
            have k2 := nC_up (n := n) (c := va_up c a (c a - nI 1)) (th := (stz (n b) (c b)).toInt) (x := va_up c a (c a - nI 1) b + nI 1) (k := 16) b1
            rw [va_o9 _ _ hab, i32_p1 (by omega) (by omega), show ((c b).toInt + 1).toNat = (c b).toInt.toNat + 1 by omega, cn, if_neg (by rw [stz_c v x b1]; omega)] at k2
            rw [i32_m1 (by omega) (by omega)] at k1
            obtain ⟨j, hj⟩ : ∃ j, (c a).toInt.toNat = j + 1 := ⟨(c a).toInt.toNat - 1, by omega⟩
            rw [hj, Nat.add_sub_cancel, ← stz_c v x b1] at hlt2
            rw [hj, show ((c a).toInt - 1).toNat = j by omega, cn, if_pos hlt2] at k1
            have k3 := hN b hc
            have k4 : nC n (mvC c a b) (stz (n b) (c b)).toInt 16 = nC n (va_up (va_up c a (c a - nI 1)) b (c b + nI 1)) (stz (n b) (c b)).toInt 16 := by
              unfold mvC; rw [va_o9 _ _ hab]
            omega
          obtain ⟨R2, r1, r2, r3⟩ := ih (mvC c a b) _ (m + 1) g v2 x2 y2 hN2 (by omega)
          have em : mez n lim (g + 1) c m = mez n lim g (mvC c a b) (m + 1) := by
            rw [mez, hd, hc]
            dsimp only
            rw [if_pos hlt]
          rw [em]
          refine ⟨R2, ?_, r2, fun j hj => by rw [r3 j hj]; exact (va_o9 _ _ (by omega)).trans (va_o9 _ _ (by omega))⟩
          rw [mrp, ef_eq v x y, hst2, if_neg (by decide), de_eq v x, ch_eq v x y, hd, hc]
          exact r1
end RPR
theorem rtz_3 (h : hS) (P P2 : Nat) : (rtz h P P2).2.1 3 = dnP h P P2 := rlz_3 h P P2
theorem rtz_4 (h : hS) (P P2 : Nat) : (rtz h P P2).1 4 = h.1 (P + 3) := by unfold rtz; rw [setI_o _ _ (by decide), rlz_4]
theorem rtz_5 (h : hS) (P P2 : Nat) : (rtz h P P2).1 5 = h.1 (P + 4) := by unfold rtz; rw [setI_s]
theorem RC.rp {n q : Nat} {h : hS} {R : Nat → Int64} (x : RC n h R) (hq : q < 2) : ∃ R2, mrp q 193 R 0 = some (R2, (rpM (rtz h (11 + 8 * q) (11 + 8 * (1 - q)))).2) ∧ RC n (rpz h (11 + 8 * q) (11 + 8 * (1 - q))) (mfi R2 q) := by
  obtain ⟨e0, e1, e2, e3, e4, -⟩ := x.2.2.2 q hq
  have v := x.v hq
  obtain ⟨R2, r1, r2, r3⟩ := rp_eq (q := q) (n := dnP h (11 + 8 * q) (11 + 8 * (1 - q))) (lim := h.1 (11 + 8 * q + 3)) 192 (h.1 (11 + 8 * q + 4)) R 0 10000 v e4 e3 (fun b _ => nC_le (fun t ht => (e4 t ht).2.2)) (by decide)
  have eM : rpM (rtz h (11 + 8 * q) (11 + 8 * (1 - q))) = mez (dnP h (11 + 8 * q) (11 + 8 * (1 - q))) (h.1 (11 + 8 * q + 3)) 10000 (h.1 (11 + 8 * q + 4)) 0 := by
    unfold rpM; rw [rtz_3, rtz_4, rtz_5]
  rw [← eM] at r1 r2
  refine ⟨R2, r1, ?_⟩
  unfold rpz
  exact x.load hq r2 r3 (rtz_3 _ _ _) (setI_s _ _ _) (AC.of ((AG.rt h _ _).tr (AG.s5 _ _)))
