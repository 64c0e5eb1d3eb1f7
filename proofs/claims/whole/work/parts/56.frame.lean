/-! FRAMES, on both sides -/
def RPx (f g : Int) (R : Nat → Int64) (q : Nat) (a : Nat → Nat → Int32) (E : Nat → Int64) : Prop := R (1 + 116 * q + 0) = (a 0 7).toInt64 ∧ rI R q 1 (a 1) 1 10000 ∧ rI R q 17 (a 2) 0 1000 ∧ rI R q 33 (a 3) 0 12 ∧ rI R q 49 (a 4) 0 12 ∧ rI R q 65 (a 5) (-(f + 12)) (f + 12) ∧ rL R q E ∧ rB R q (a 0 8) g ∧ a 0 9 = bI (dfz (a 4) (a 5) 16) ∧ TK R q (a 7) (a 4)
theorem RPx.same {f f' g : Int} {R R' : Nat → Int64} {q : Nat} {a a' : Nat → Nat → Int32} {E E' : Nat → Int64} (h : RPx f g R q a E) (hf : f ≤ f') (hR : ∀ j : Nat, j < 116 → R' (1 + 116 * q + j) = R (1 + 116 * q + j)) (ha : ∀ c : Nat, c < 8 → a' c = a c) (hE : E' = E) : RPx f' g R' q a' E' := by
  obtain ⟨e0, e1, e2, e3, e4, e5, e6, e7, e8, e9⟩ := h
  subst hE
  refine ⟨?_, ?_, ?_, ?_, ?_, ?_, e6.c (fun t ht => hR _ (by omega)), ?_, ?_, ?_⟩
  · rw [hR 0 (by omega), ha 0 (by omega)]; exact e0
  · rw [ha 1 (by omega)]; exact e1.c (fun t ht => hR _ (by omega)) (by omega) (by omega)
  · rw [ha 2 (by omega)]; exact e2.c (fun t ht => hR _ (by omega)) (by omega) (by omega)
  · rw [ha 3 (by omega)]; exact e3.c (fun t ht => hR _ (by omega)) (by omega) (by omega)
  · rw [ha 4 (by omega)]; exact e4.c (fun t ht => hR _ (by omega)) (by omega) (by omega)
  · rw [ha 5 (by omega)]; exact e5.c (fun t ht => hR _ (by omega)) (by omega) (by omega)
  · rw [ha 0 (by omega)]; exact e7.c (hR _ (by omega)) (Int.le_refl _)
  · rw [ha 0 (by omega), ha 4 (by omega), ha 5 (by omega)]; exact e8
  · rw [ha 7 (by omega), ha 4 (by omega)]; exact e9.c (fun j _ hj => hR j (by omega)) (fun _ _ => rfl)
theorem PV.ofx {f f2 g g2 : Int} {R : Nat → Int64} {q : Nat} {a a2 : Nat → Nat → Int32} {E E2 : Nat → Int64} (x : RPx f g R q a E) (y : RPx f2 g2 R (1 - q) a2 E2) : PV R q (fun t => dnz (a 1 t) (a 2 t) (E2 t)) := by
  intro t ht
  obtain ⟨-, e1, e2, -⟩ := x
  obtain ⟨-, -, -, -, -, -, z6, -⟩ := y
  obtain ⟨r1, r2, r3⟩ := e1 t ht
  obtain ⟨s1, s2, s3⟩ := e2 t ht
  obtain ⟨u1, u2, u3⟩ := z6 t ht
  refine ⟨?_, dnz_i r2 r3 s2 s3 u2 u3⟩
  unfold mdn dnz
  rw [r1, s1, u1]
theorem rI.inc2 {R : Nat → Int64} {q o t : Nat} {c : Nat → Int32} {lo hi : Int} (x : rI R q o c lo hi) (ht : t < 16) (hl : -1000000000 ≤ lo) (hh : hi ≤ 1000000000) : rI (va_up R (1 + 116 * q + (o + t)) (R (1 + 116 * q + (o + t)) + 1)) q o (va_up c t (c t + nI 1)) lo (hi + 1) := by
  intro j hj
  by_cases e : j = t
  · subst e
    obtain ⟨z1, z2, z3⟩ := x j hj
    rw [va_s9, va_s9, z1, tl_p1 (by omega) (by omega), i32_p1 (by omega) (by omega)]
    exact ⟨rfl, by omega, by omega⟩
  · rw [va_o9 _ _ (by omega), va_o9 _ _ e]
    obtain ⟨z1, z2, z3⟩ := x j hj
    exact ⟨z1, z2, by omega⟩
theorem rI.dec2 {R : Nat → Int64} {q o t : Nat} {c : Nat → Int32} {lo hi : Int} (x : rI R q o c lo hi) (ht : t < 16) (hl : -1000000000 ≤ lo) (hh : hi ≤ 1000000000) : rI (va_up R (1 + 116 * q + (o + t)) (R (1 + 116 * q + (o + t)) - 1)) q o (va_up c t (c t - nI 1)) (lo - 1) hi := by
  intro j hj
  by_cases e : j = t
  · subst e
    obtain ⟨z1, z2, z3⟩ := x j hj
    rw [va_s9, va_s9, z1, tl_m1 (by omega) (by omega), i32_m1 (by omega) (by omega)]
    exact ⟨rfl, by omega, by omega⟩
  · rw [va_o9 _ _ (by omega), va_o9 _ _ e]
    obtain ⟨z1, z2, z3⟩ := x j hj
    exact ⟨z1, by omega, z3⟩
theorem tn_nI {x : Nat} (h : x < 16) : tn (nI x).toInt64 = x := by
  unfold tn
  rw [Int32.toInt32_toInt64, nI_toInt (by omega)]; rfl
theorem tnO_nI {x : Nat} (h : x < 16) : tnO (nI x).toInt64 := by
  unfold tnO
  rw [tn_nI h, Int32.toInt32_toInt64]
  exact ⟨rfl, h⟩
theorem mvz_s (h : hS) (C a b : Nat) : (mvz h C a b).1 C = mvC (h.1 C) a b := by
  unfold mvz mvC
  rw [upI_s, upI_s]
/-- the sender's side of a frame -/
theorem fr_A {f g : Int} {R : Nat → Int64} {q : Nat} {h : hS} {F : Int32} (x : RPx f g R q (fun c => h.1 (11 + 8 * q + c)) (h.2.1 (11 + 8 * q + 6))) (hR : R 0 = F.toInt64) (hF : 0 ≤ F.toInt) (f0 : 0 ≤ f) (f1 : f ≤ 1000000) :
    (h.1 (11 + 8 * q + 7) 11 = F ↔ R (1 + 116 * q + 103) = 1 ∧ R (1 + 116 * q + 107) = R 0) ∧ rI (mfA R q) q 65 ((efA h (11 + 8 * q) F).1 (11 + 8 * q + 5)) (-(f + 1 + 12)) (f + 1 + 12) ∧ (∀ j : Nat, j < 1 + 116 * q + 65 ∨ 1 + 116 * q + 81 ≤ j → mfA R q j = R j) ∧ (h.1 (11 + 8 * q + 7) 11 = F → swT h (11 + 8 * q + 7) 12 13) := by
  obtain ⟨-, -, -, -, -, e5, -, -, -, -, -, -, -, eG⟩ := x
  have e5 : rI R q 65 (h.1 (11 + 8 * q + 5)) (-(f + 12)) (f + 12) := e5
  have eG : tkG R q (h.1 (11 + 8 * q + 7)) := eG
  have k1 : h.1 (11 + 8 * q + 7) 11 = F ↔ R (1 + 116 * q + 103) = 1 ∧ R (1 + 116 * q + 107) = R 0 := by
    rcases eG with ⟨g1, g2, g3⟩ | ⟨g1, g2, g3, g4, g5, g6, g7⟩
    · rw [g3, g1]
      refine ⟨fun w => ?_, fun w => absurd w.1 (by decide)⟩
      have : (-1 : Int32).toInt = -1 := rfl
      rw [← w, this] at hF; omega
    · rw [g1, g6, hR, tl_inj]
      exact ⟨fun w => ⟨rfl, w⟩, fun w => w.2⟩
  refine ⟨k1, ?_, ?_, ?_⟩
  · by_cases c : h.1 (11 + 8 * q + 7) 11 = F
    · have c2 := k1.mp c
      rcases eG with ⟨g1, g2, g3⟩ | ⟨g1, g2, g3, g4, g5, g6, X, Y, hX, hY, g7, g8⟩
      · rw [g1] at c2; exact absurd c2.1 (by decide)
      · rw [← mfA_p c2.1 c2.2, g4, g5, g7, g8, tn_nI hX, tn_nI hY]
        unfold efA
        rw [if_pos c, mvz_s, g7, g8, tN_nI (by omega), tN_nI (by omega)]
        have z1 := (e5.dec2 hX (by omega) (by omega)).inc2 hY (by omega) (by omega)
        unfold mp1 mm1 mvC
        rw [show 1 + 116 * q + 65 + X = 1 + 116 * q + (65 + X) by omega, show 1 + 116 * q + 65 + Y = 1 + 116 * q + (65 + Y) by omega]
        exact z1.c (fun _ _ => rfl) (by omega) (by omega)
    · have c2 : ¬ (R (1 + 116 * q + 103) = 1 ∧ R (1 + 116 * q + 107) = R 0) := fun w => c (k1.mpr w)
      have ea : mfA R q = R := if_neg c2
      rw [ea]
      unfold efA
      rw [if_neg c]
      exact e5.c (fun _ _ => rfl) (by omega) (by omega)
  · intro j hj
    by_cases c2 : R (1 + 116 * q + 103) = 1 ∧ R (1 + 116 * q + 107) = R 0
    · rcases eG with ⟨g1, g2, g3⟩ | ⟨g1, g2, g3, g4, g5, g6, X, Y, hX, hY, g7, g8⟩
      · rw [g1] at c2; exact absurd c2.1 (by decide)
      · rw [← mfA_p c2.1 c2.2, g4, g5, g7, g8, tn_nI hX, tn_nI hY]
        unfold mp1 mm1
        rw [va_o9 _ _ (by omega), va_o9 _ _ (by omega)]
    · rw [show mfA R q = R from if_neg c2]
  · intro c
    have c2 := k1.mp c
    rcases eG with ⟨g1, g2, g3⟩ | ⟨g1, g2, g3, g4, g5, g6, X, Y, hX, hY, g7, g8⟩
    · rw [g1] at c2; exact absurd c2.1 (by decide)
    · exact ⟨X, Y, hX, hY, g7, g8⟩
theorem dz0 {x : Int32} (h : bz x) : ¬ x = 0 ↔ x = nI 1 := by
  rcases h with rfl | rfl
  · exact ⟨fun w => absurd rfl w, fun w => absurd w nI01⟩
  · exact ⟨fun _ => rfl, fun _ => by decide⟩
/-- one frame of one pair -/
theorem fr_1 {f g : Int} {R : Nat → Int64} {q : Nat} {h : hS} {F : Int32} (x : RPx f g R q (fun c => h.1 (11 + 8 * q + c)) (h.2.1 (11 + 8 * q + 6))) (v : PV R q (dnP h (11 + 8 * q) (11 + 8 * (1 - q)))) (hq : q < 2) (hR : R 0 = F.toInt64) (hF : 0 ≤ F.toInt) (f0 : 0 ≤ f) (f1 : f ≤ 1000000) :
    RPx (f + 1) g (mfr R q) q (fun c => (efz h (11 + 8 * q) (11 + 8 * (1 - q)) F).1 (11 + 8 * q + c)) ((efz h (11 + 8 * q) (11 + 8 * (1 - q)) F).2.1 (11 + 8 * q + 6)) ∧ (∀ j : Nat, j < 1 + 116 * q + 49 ∨ 1 + 116 * q + 102 ≤ j → mfr R q j = R j) ∧ (duz h (11 + 8 * q + 7) F → swT h (11 + 8 * q + 7) 3 4) ∧ frO R q := by
  obtain ⟨kA, kI, kO, kS⟩ := fr_A x hR hF f0 f1
  obtain ⟨e0, e1, e2, e3, e4, e5, e6, e7, e8, ⟨⟨b1, b6, b7⟩, t97, t108, t112, t102, tv⟩, eO, eA, eW, eG⟩ := id x
  have e0 : R (1 + 116 * q + 0) = (h.1 (11 + 8 * q) 7).toInt64 := e0
  have e1 : rI R q 1 (h.1 (11 + 8 * q + 1)) 1 10000 := e1
  have e2 : rI R q 17 (h.1 (11 + 8 * q + 2)) 0 1000 := e2
  have e3 : rI R q 33 (h.1 (11 + 8 * q + 3)) 0 12 := e3
  have e4 : rI R q 49 (h.1 (11 + 8 * q + 4)) 0 12 := e4
  have e7 : rB R q (h.1 (11 + 8 * q) 8) g := e7
  have e8 : h.1 (11 + 8 * q) 9 = bI (dfz (h.1 (11 + 8 * q + 4)) (h.1 (11 + 8 * q + 5)) 16) := e8
  have b1 : bz (h.1 (11 + 8 * q + 7) 1) := b1
  have t97 : R (1 + 116 * q + 97) = (h.1 (11 + 8 * q + 7) 1).toInt64 := t97
  have eO : tkO R q (h.1 (11 + 8 * q + 7)) (h.1 (11 + 8 * q + 4)) := eO
  have kD : duz h (11 + 8 * q + 7) F ↔ mfA R q (1 + 116 * q + 97) = 1 ∧ ¬ mfA R q (1 + 116 * q + 101) = -1 ∧ ¬ mfA R q 0 < mfA R q (1 + 116 * q + 101) := by
    rw [kO _ (by omega), kO _ (by omega), kO 0 (by omega), t97, hR, tl_n1]
    constructor
    · rintro ⟨w1, w2, w3⟩
      have w1 := (dz0 b1).mp w1
      obtain ⟨o1, o2, o3, o4, -⟩ := eO w1
      exact ⟨w1, by rw [o4, tl_neg]; exact w2, by rw [o4, tl_lt]; exact w3⟩
    · rintro ⟨w1, w2, w3⟩
      obtain ⟨o1, o2, o3, o4, -⟩ := eO w1
      rw [o4, tl_neg] at w2
      rw [o4, tl_lt] at w3
      exact ⟨(dz0 b1).mpr w1, w2, w3⟩
  have kF : frO R q := by
    refine ⟨fun w => ?_, fun w => ?_⟩
    · rcases eG with ⟨g1, g2, g3⟩ | ⟨g1, g2, g3, g4, g5, g6, X, Y, hX, hY, g7, g8⟩
      · rw [g1] at w; exact absurd w (by decide)
      · rw [g4, g5, g7, g8]; exact ⟨tnO_nI hX, tnO_nI hY⟩
    · rw [kO _ (by omega), t97, tl_n1] at w
      obtain ⟨o1, o2, o3, o4, o5, X, Y, hX, hY, o6, o7, o8, -⟩ := eO w
      rw [kO _ (by omega), kO _ (by omega), o2, o3, o7, o8]
      exact ⟨tnO_nI hX, tnO_nI hY⟩
  by_cases d : duz h (11 + 8 * q + 7) F
  · -- the receiver moves
    have d2 := kD.mp d
    have w1 := (dz0 b1).mp d.1
    obtain ⟨o1, o2, o3, o4, o5, X, Y, hX, hY, oN, o7, o8, o9, o10⟩ := eO w1
    have emf : mfr R q = mfX (mfA R q) q X Y := by
      unfold mfr
      rw [← mfB_p d2.1 d2.2.1 d2.2.2, kO _ (by omega), kO _ (by omega), o2, o3, o7, o8, tn_nI hX, tn_nI hY]
    have eB : efB h (11 + 8 * q) (11 + 8 * (1 - q)) F = rcv (efA h (11 + 8 * q) F) (11 + 8 * q) (11 + 8 * (1 - q)) X Y := by
      unfold efB
      rw [if_pos d, o7, o8, tN_nI (by omega), tN_nI (by omega)]
    have eZ : efz h (11 + 8 * q) (11 + 8 * (1 - q)) F = upI (efB h (11 + 8 * q) (11 + 8 * (1 - q)) F) (11 + 8 * q) 9 (bI (dfz ((efB h (11 + 8 * q) (11 + 8 * (1 - q)) F).1 (11 + 8 * q + 4)) ((efB h (11 + 8 * q) (11 + 8 * (1 - q)) F).1 (11 + 8 * q + 5)) 16)) := by
      unfold efz; rw [if_pos (Or.inr d)]
    -- the table
    have xA : rI (mfA R q) q 49 (h.1 (11 + 8 * q + 4)) 0 12 := e4.c (fun t ht => kO _ (by omega)) (by omega) (by omega)
    have x1 := xA.dec hX o9
    have x2 : rI (mp1 (mm1 (mfA R q) (1 + 116 * q + (49 + X))) (1 + 116 * q + (49 + Y))) q 49 (mvC (h.1 (11 + 8 * q + 4)) X Y) 0 12 := x1.inc hY (by rw [va_o9 _ _ (fun w => oN w.symm)]; exact o10)
    have vA : PV (mp1 (mm1 (mfA R q) (1 + 116 * q + (49 + X))) (1 + 116 * q + (49 + Y))) q (dnP h (11 + 8 * q) (11 + 8 * (1 - q))) := by
      refine v.c (fun t ht => ?_) (fun t ht => ?_) (fun t ht => ?_) <;> (unfold mp1 mm1; rw [va_o9 _ _ (by omega), va_o9 _ _ (by omega), kO _ (by omega)])
    obtain ⟨R3, hR3⟩ : ∃ R3, R3 = mp1 (mm1 (mfA R q) (1 + 116 * q + (49 + X))) (1 + 116 * q + (49 + Y)) := ⟨_, rfl⟩
    rw [← hR3] at x2 vA
    have r3o : ∀ j : Nat, j < 1 + 116 * q + 49 ∨ 1 + 116 * q + 65 ≤ j → R3 j = mfA R q j := fun j hj => by rw [hR3]; unfold mp1 mm1; rw [va_o9 _ _ (by omega), va_o9 _ _ (by omega)]
    have em : mfr R q = va_up (va_up (mfd (mfd R3 q X) q Y) (1 + 116 * q + 97) 0) (1 + 116 * q + 101) (-1) := by rw [emf, hR3]; rfl
    have n1 : mnd (mfd R3 q X) q Y = mnd R3 q Y := by
      refine mnd_c ?_ ?_ ?_ ?_ <;> exact va_o9 _ _ (by omega)
    have em2 : ∀ j : Nat, mfr R q j = if j = 1 + 116 * q + 101 then -1 else if j = 1 + 116 * q + 97 then 0 else if j = 1 + 116 * q + (81 + Y) then capz (mnd R3 q Y) else if j = 1 + 116 * q + (81 + X) then capz (mnd R3 q X) else R3 j := fun j => by
      rw [em]; unfold mfd at n1 ⊢; rw [n1]; rfl
    -- the class's cells
    have c4 : (efB h (11 + 8 * q) (11 + 8 * (1 - q)) F).1 (11 + 8 * q + 4) = mvC (h.1 (11 + 8 * q + 4)) X Y := by
      rw [eB]; unfold rcv
      rw [upI_o _ _ _ (by omega)]
      show (mvz (efA h (11 + 8 * q) F) (11 + 8 * q + 4) X Y).1 (11 + 8 * q + 4) = _
      rw [mvz_s, efA_o _ _ _ (by omega)]
    have c5 : (efB h (11 + 8 * q) (11 + 8 * (1 - q)) F).1 (11 + 8 * q + 5) = (efA h (11 + 8 * q) F).1 (11 + 8 * q + 5) := by
      rw [eB, rcv_o _ _ _ _ _ (by omega) (by omega)]
    have c7 : (efB h (11 + 8 * q) (11 + 8 * (1 - q)) F).1 (11 + 8 * q + 7) = va_up (h.1 (11 + 8 * q + 7)) 1 (nI 0) := by
      rw [eB]; unfold rcv
      rw [upI_s]
      show va_up ((mvz (efA h (11 + 8 * q) F) (11 + 8 * q + 4) X Y).1 (11 + 8 * q + 7)) 1 (nI 0) = _
      rw [mvz_o _ (by omega), efA_o _ _ _ (by omega)]
    have cn1 : ∀ (g1 : hS) (t : Nat), g1.1 (11 + 8 * q + 1) = h.1 (11 + 8 * q + 1) → g1.1 (11 + 8 * q + 2) = h.1 (11 + 8 * q + 2) → g1.2.1 (11 + 8 * (1 - q) + 6) = h.2.1 (11 + 8 * (1 - q) + 6) → g1.1 (11 + 8 * q + 4) = mvC (h.1 (11 + 8 * q + 4)) X Y → ndP g1 (11 + 8 * q) (11 + 8 * (1 - q)) t = ndz (mvC (h.1 (11 + 8 * q + 4)) X Y t) (dnP h (11 + 8 * q) (11 + 8 * (1 - q)) t) := by
      intro g1 t z1 z2 z3 z4
      unfold ndP dnP
      rw [z1, z2, z3, z4]
    have c6 : (efB h (11 + 8 * q) (11 + 8 * (1 - q)) F).2.1 (11 + 8 * q + 6) = va_up (va_up (h.2.1 (11 + 8 * q + 6)) X (capz (ndz (mvC (h.1 (11 + 8 * q + 4)) X Y X) (dnP h (11 + 8 * q) (11 + 8 * (1 - q)) X)))) Y (capz (ndz (mvC (h.1 (11 + 8 * q + 4)) X Y Y) (dnP h (11 + 8 * q) (11 + 8 * (1 - q)) Y))) := by
      rw [eB]; unfold rcv
      show (upL (upL (mvz (efA h (11 + 8 * q) F) (11 + 8 * q + 4) X Y) (11 + 8 * q + 6) X _) (11 + 8 * q + 6) Y _).2.1 (11 + 8 * q + 6) = _
      rw [upL_s, upL_s]
      have y1 : (mvz (efA h (11 + 8 * q) F) (11 + 8 * q + 4) X Y).1 (11 + 8 * q + 1) = h.1 (11 + 8 * q + 1) := by rw [mvz_o _ (by omega), efA_o _ _ _ (by omega)]
      have y2 : (mvz (efA h (11 + 8 * q) F) (11 + 8 * q + 4) X Y).1 (11 + 8 * q + 2) = h.1 (11 + 8 * q + 2) := by rw [mvz_o _ (by omega), efA_o _ _ _ (by omega)]
      have y4 : (mvz (efA h (11 + 8 * q) F) (11 + 8 * q + 4) X Y).1 (11 + 8 * q + 4) = mvC (h.1 (11 + 8 * q + 4)) X Y := by rw [mvz_s, efA_o _ _ _ (by omega)]
      have y3 : (mvz (efA h (11 + 8 * q) F) (11 + 8 * q + 4) X Y).2 = h.2 := by rw [mvz_L, efA_L]
      rw [cn1 _ X y1 y2 (by rw [y3]) y4, cn1 (upL (mvz (efA h (11 + 8 * q) F) (11 + 8 * q + 4) X Y) (11 + 8 * q + 6) X _) Y y1 y2 (by rw [upL_o _ _ _ (by omega), y3]) y4, y3]
    have z0 : (efz h (11 + 8 * q) (11 + 8 * (1 - q)) F).1 (11 + 8 * q) = va_up (h.1 (11 + 8 * q)) 9 (bI (dfz ((efB h (11 + 8 * q) (11 + 8 * (1 - q)) F).1 (11 + 8 * q + 4)) ((efB h (11 + 8 * q) (11 + 8 * (1 - q)) F).1 (11 + 8 * q + 5)) 16)) := by
      rw [eZ, upI_s, efB_o _ _ _ _ (by omega) (by omega) (by omega)]
    have zo : ∀ i : Nat, i ≠ 11 + 8 * q → (efz h (11 + 8 * q) (11 + 8 * (1 - q)) F).1 i = (efB h (11 + 8 * q) (11 + 8 * (1 - q)) F).1 i := fun i hi => by rw [eZ, upI_o _ _ _ hi]
    have zL : (efz h (11 + 8 * q) (11 + 8 * (1 - q)) F).2 = (efB h (11 + 8 * q) (11 + 8 * (1 - q)) F).2 := by rw [eZ]; rfl
    have hr : ∀ j : Nat, j < 49 ∨ (65 ≤ j ∧ j < 81) ∨ (98 ≤ j ∧ j < 101) ∨ 102 ≤ j → j < 116 → mfr R q (1 + 116 * q + j) = mfA R q (1 + 116 * q + j) := fun j hj hj2 => by
      rw [em2, if_neg (by omega), if_neg (by omega), if_neg (by omega), if_neg (by omega), r3o _ (by omega)]
    have hr2 : ∀ j : Nat, j < 49 ∨ (98 ≤ j ∧ j < 101) ∨ 102 ≤ j → j < 116 → mfr R q (1 + 116 * q + j) = R (1 + 116 * q + j) := fun j hj hj2 => by rw [hr j (by omega) hj2, kO _ (by omega)]
    refine ⟨⟨?_, ?_, ?_, ?_, ?_, ?_, ?_, ?_, ?_, ?_⟩, ?_, fun _ => ⟨X, Y, hX, hY, o7, o8⟩, kF⟩
    · show _ = ((efz h (11 + 8 * q) (11 + 8 * (1 - q)) F).1 (11 + 8 * q) 7).toInt64
      rw [hr2 0 (by omega) (by omega), z0, va_o9 _ _ (by decide)]; exact e0
    · show rI _ q 1 ((efz h (11 + 8 * q) (11 + 8 * (1 - q)) F).1 (11 + 8 * q + 1)) 1 10000
      rw [zo _ (by omega), efB_o _ _ _ _ (by omega) (by omega) (by omega)]
      exact e1.c (fun t ht => hr2 _ (by omega) (by omega)) (by omega) (by omega)
    · show rI _ q 17 ((efz h (11 + 8 * q) (11 + 8 * (1 - q)) F).1 (11 + 8 * q + 2)) 0 1000
      rw [zo _ (by omega), efB_o _ _ _ _ (by omega) (by omega) (by omega)]
      exact e2.c (fun t ht => hr2 _ (by omega) (by omega)) (by omega) (by omega)
    · show rI _ q 33 ((efz h (11 + 8 * q) (11 + 8 * (1 - q)) F).1 (11 + 8 * q + 3)) 0 12
      rw [zo _ (by omega), efB_o _ _ _ _ (by omega) (by omega) (by omega)]
      exact e3.c (fun t ht => hr2 _ (by omega) (by omega)) (by omega) (by omega)
    · show rI _ q 49 ((efz h (11 + 8 * q) (11 + 8 * (1 - q)) F).1 (11 + 8 * q + 4)) 0 12
      rw [zo _ (by omega), c4]
      exact x2.c (fun t ht => by rw [em2, if_neg (by omega), if_neg (by omega), if_neg (by omega), if_neg (by omega)]) (by omega) (by omega)
    · show rI _ q 65 ((efz h (11 + 8 * q) (11 + 8 * (1 - q)) F).1 (11 + 8 * q + 5)) _ _
      rw [zo _ (by omega), c5]
      exact kI.c (fun t ht => hr _ (by omega) (by omega)) (by omega) (by omega)
    · show rL _ q ((efz h (11 + 8 * q) (11 + 8 * (1 - q)) F).2.1 (11 + 8 * q + 6))
      rw [zL, c6]
      intro t ht
      have kX := nd_rng vA x2 hX
      have kY := nd_rng vA x2 hY
      rw [em2, if_neg (by omega), if_neg (by omega)]
      by_cases tY : t = Y
      · subst tY
        rw [if_pos rfl, va_s9, nd_eq vA x2 hY]
        exact ⟨rfl, cap_rng kY.1⟩
      · rw [if_neg (by omega), va_o9 _ _ tY]
        by_cases tX : t = X
        · subst tX
          rw [if_pos rfl, va_s9, nd_eq vA x2 hX]
          exact ⟨rfl, cap_rng kX.1⟩
        · rw [if_neg (by omega), va_o9 _ _ tX, r3o _ (by omega), kO _ (by omega)]
          exact e6 t ht
    · show rB _ q ((efz h (11 + 8 * q) (11 + 8 * (1 - q)) F).1 (11 + 8 * q) 8) g
      rw [z0, va_o9 _ _ (by decide)]
      exact e7.c (hr2 115 (by omega) (by omega)) (Int.le_refl _)
    · show (efz h (11 + 8 * q) (11 + 8 * (1 - q)) F).1 (11 + 8 * q) 9 = bI (dfz ((efz h (11 + 8 * q) (11 + 8 * (1 - q)) F).1 (11 + 8 * q + 4)) ((efz h (11 + 8 * q) (11 + 8 * (1 - q)) F).1 (11 + 8 * q + 5)) 16)
      rw [z0, va_s9, zo _ (by omega), zo _ (by omega)]
    · show TK _ q ((efz h (11 + 8 * q) (11 + 8 * (1 - q)) F).1 (11 + 8 * q + 7)) _
      rw [zo (11 + 8 * q + 7) (by omega), c7]
      refine ⟨⟨⟨Or.inl rfl, b6, b7⟩, ?_, ?_, ?_, ?_, tv⟩, fun w => absurd w nI01, fun w => ?_, fun w => ?_, ?_⟩
      · rw [em2, if_neg (by omega), if_pos rfl]; rfl
      · rw [hr2 _ (by omega) (by omega)]; exact t108
      · rw [hr2 _ (by omega) (by omega)]; exact t112
      · rw [hr2 _ (by omega) (by omega)]; exact t102
      · rw [hr2 _ (by omega) (by omega), hr2 _ (by omega) (by omega), hr2 _ (by omega) (by omega)]; exact eA w
      · rw [hr2 _ (by omega) (by omega), hr2 _ (by omega) (by omega)]; exact eW w
      · unfold tkG
        rw [hr2 _ (by omega) (by omega), hr2 _ (by omega) (by omega), hr2 _ (by omega) (by omega), hr2 _ (by omega) (by omega), hr2 _ (by omega) (by omega)]
        exact eG
    · intro j hj
      rw [em2, if_neg (by omega), if_neg (by omega), if_neg (by omega), if_neg (by omega), r3o _ (by omega), kO _ (by omega)]
  · -- the receiver does not move
    have d2 : ¬ (mfA R q (1 + 116 * q + 97) = 1 ∧ ¬ mfA R q (1 + 116 * q + 101) = -1 ∧ ¬ mfA R q 0 < mfA R q (1 + 116 * q + 101)) := fun w => d (kD.mpr w)
    have emf : mfr R q = mfA R q := by unfold mfr mfB; rw [if_neg d2]
    have eB : efB h (11 + 8 * q) (11 + 8 * (1 - q)) F = efA h (11 + 8 * q) F := by unfold efB; rw [if_neg d]
    have zo : ∀ i : Nat, i ≠ 11 + 8 * q → (efz h (11 + 8 * q) (11 + 8 * (1 - q)) F).1 i = (efA h (11 + 8 * q) F).1 i := fun i hi => by
      unfold efz
      by_cases c : h.1 (11 + 8 * q + 7) 11 = F ∨ duz h (11 + 8 * q + 7) F
      · rw [if_pos c, upI_o _ _ _ hi, eB]
      · rw [if_neg c, eB]
    have zL : (efz h (11 + 8 * q) (11 + 8 * (1 - q)) F).2 = h.2 := by
      unfold efz
      by_cases c : h.1 (11 + 8 * q + 7) 11 = F ∨ duz h (11 + 8 * q + 7) F
      · rw [if_pos c, eB]; show (efA h (11 + 8 * q) F).2 = _; rw [efA_L]
      · rw [if_neg c, eB, efA_L]
    have z0 : ∀ j : Nat, j ≠ 9 → (efz h (11 + 8 * q) (11 + 8 * (1 - q)) F).1 (11 + 8 * q) j = h.1 (11 + 8 * q) j := fun j hj => by
      unfold efz
      by_cases c : h.1 (11 + 8 * q + 7) 11 = F ∨ duz h (11 + 8 * q + 7) F
      · rw [if_pos c, eB, upI_s, va_o9 _ _ hj, efA_o _ _ _ (by omega)]
      · rw [if_neg c, eB, efA_o _ _ _ (by omega)]
    have z9 : (efz h (11 + 8 * q) (11 + 8 * (1 - q)) F).1 (11 + 8 * q) 9 = bI (dfz ((efA h (11 + 8 * q) F).1 (11 + 8 * q + 4)) ((efA h (11 + 8 * q) F).1 (11 + 8 * q + 5)) 16) := by
      unfold efz
      by_cases c : h.1 (11 + 8 * q + 7) 11 = F ∨ duz h (11 + 8 * q + 7) F
      · rw [if_pos c, eB, upI_s, va_s9]
      · have c1 : ¬ h.1 (11 + 8 * q + 7) 11 = F := fun w => c (Or.inl w)
        rw [if_neg c, eB]
        unfold efA
        rw [if_neg c1]; exact e8
    rw [emf]
    refine ⟨⟨?_, ?_, ?_, ?_, ?_, ?_, ?_, ?_, ?_, ?_⟩, fun j hj => kO j (by omega), fun w => absurd w d, kF⟩
    · show _ = ((efz h (11 + 8 * q) (11 + 8 * (1 - q)) F).1 (11 + 8 * q) 7).toInt64
      rw [kO _ (by omega), z0 7 (by decide)]; exact e0
    · show rI _ q 1 ((efz h (11 + 8 * q) (11 + 8 * (1 - q)) F).1 (11 + 8 * q + 1)) 1 10000
      rw [zo _ (by omega), efA_o _ _ _ (by omega)]
      exact e1.c (fun t ht => kO _ (by omega)) (by omega) (by omega)
    · show rI _ q 17 ((efz h (11 + 8 * q) (11 + 8 * (1 - q)) F).1 (11 + 8 * q + 2)) 0 1000
      rw [zo _ (by omega), efA_o _ _ _ (by omega)]
      exact e2.c (fun t ht => kO _ (by omega)) (by omega) (by omega)
    · show rI _ q 33 ((efz h (11 + 8 * q) (11 + 8 * (1 - q)) F).1 (11 + 8 * q + 3)) 0 12
      rw [zo _ (by omega), efA_o _ _ _ (by omega)]
      exact e3.c (fun t ht => kO _ (by omega)) (by omega) (by omega)
    · show rI _ q 49 ((efz h (11 + 8 * q) (11 + 8 * (1 - q)) F).1 (11 + 8 * q + 4)) 0 12
      rw [zo _ (by omega), efA_o _ _ _ (by omega)]
      exact e4.c (fun t ht => kO _ (by omega)) (by omega) (by omega)
    · show rI _ q 65 ((efz h (11 + 8 * q) (11 + 8 * (1 - q)) F).1 (11 + 8 * q + 5)) _ _
      rw [zo _ (by omega)]
      exact kI
    · show rL _ q ((efz h (11 + 8 * q) (11 + 8 * (1 - q)) F).2.1 (11 + 8 * q + 6))
      rw [zL]
      exact e6.c (fun t ht => kO _ (by omega))
    · show rB _ q ((efz h (11 + 8 * q) (11 + 8 * (1 - q)) F).1 (11 + 8 * q) 8) g
      rw [z0 8 (by decide)]
      exact e7.c (kO _ (by omega)) (Int.le_refl _)
    · show (efz h (11 + 8 * q) (11 + 8 * (1 - q)) F).1 (11 + 8 * q) 9 = bI (dfz ((efz h (11 + 8 * q) (11 + 8 * (1 - q)) F).1 (11 + 8 * q + 4)) ((efz h (11 + 8 * q) (11 + 8 * (1 - q)) F).1 (11 + 8 * q + 5)) 16)
      rw [z9, zo _ (by omega), zo _ (by omega)]
    · show TK _ q ((efz h (11 + 8 * q) (11 + 8 * (1 - q)) F).1 (11 + 8 * q + 7)) ((efz h (11 + 8 * q) (11 + 8 * (1 - q)) F).1 (11 + 8 * q + 4))
      rw [zo _ (by omega), zo _ (by omega), efA_o _ _ _ (by omega), efA_o _ _ _ (by omega)]
      exact TK.c (T := h.1 (11 + 8 * q + 7)) (B := h.1 (11 + 8 * q + 4)) x.2.2.2.2.2.2.2.2.2 (fun j h1 h2 => kO _ (by omega)) (fun _ _ => rfl)

theorem mis_eq {R : Nat → Int64} {q : Nat} {x y : Nat → Int32} {lo hi : Int} (h4 : rI R q 49 x 0 12) (h5 : rI R q 65 y lo hi) : ∀ k : Nat, k ≤ 16 → mis R q k = !dfz x y k
  | 0, _ => rfl
  | k + 1, hk => by
    rw [mis, dfz, mis_eq h4 h5 k (by omega), (h4 k (by omega)).1, (h5 k (by omega)).1, Bool.not_or]
    congr 1
    by_cases e : x k = y k
    · rw [decide_eq_true (tl_inj.mpr e), decide_eq_false (fun w => w e)]; rfl
    · rw [decide_eq_false (fun w => e (tl_inj.mp w)), decide_eq_true e]; rfl
/-- both pairs of the present state, with bounds of their own -/
def RX (f g : Int) (h : hS) (R : Nat → Int64) (p : Nat) : Prop := RPx f g R p (fun c => h.1 (11 + 8 * p + c)) (h.2.1 (11 + 8 * p + 6))
theorem RX.v {f g f2 g2 : Int} {q : Nat} {h : hS} {R : Nat → Int64} (x : RX f g h R q) (y : RX f2 g2 h R (1 - q)) : PV R q (dnP h (11 + 8 * q) (11 + 8 * (1 - q))) := by
  have k := PV.ofx (a := fun c => h.1 (11 + 8 * q + c)) (a2 := fun c => h.1 (11 + 8 * (1 - q) + c)) (E := h.2.1 (11 + 8 * q + 6)) (E2 := h.2.1 (11 + 8 * (1 - q) + 6)) x y
  intro t ht
  have k2 := k t ht
  unfold dnP
  exact k2
theorem RX.c {f g f' : Int} {p : Nat} {h h' : hS} {R R' : Nat → Int64} (x : RX f g h R p) (hf : f ≤ f') (hR : ∀ j : Nat, j < 116 → R' (1 + 116 * p + j) = R (1 + 116 * p + j)) (ha : ∀ c : Nat, c < 8 → h'.1 (11 + 8 * p + c) = h.1 (11 + 8 * p + c)) (hE : h'.2.1 (11 + 8 * p + 6) = h.2.1 (11 + 8 * p + 6)) : RX f' g h' R' p := RPx.same x hf hR ha hE
/-- the count of broken frames -/
theorem RX.br {f g : Int} {p : Nat} {h : hS} {R : Nat → Int64} (x : RX f g h R p) (h0 : 0 ≤ g) (h1 : g ≤ 1000000) : RX f (g + 1) (cfz h (11 + 8 * p)) (mbr R p) p ∧ (∀ j : Nat, j ≠ 1 + 116 * p + 115 → mbr R p j = R j) ∧ (∀ i : Nat, i ≠ 11 + 8 * p → (cfz h (11 + 8 * p)).1 i = h.1 i) ∧ (cfz h (11 + 8 * p)).2 = h.2 := by
  obtain ⟨e0, e1, e2, e3, e4, e5, e6, e7, e8, e9⟩ := id x
  have e4 : rI R p 49 (h.1 (11 + 8 * p + 4)) 0 12 := e4
  have e5 : rI R p 65 (h.1 (11 + 8 * p + 5)) (-(f + 12)) (f + 12) := e5
  have e7 : rB R p (h.1 (11 + 8 * p) 8) g := e7
  have e8 : h.1 (11 + 8 * p) 9 = bI (dfz (h.1 (11 + 8 * p + 4)) (h.1 (11 + 8 * p + 5)) 16) := e8
  have em := mis_eq e4 e5 16 (by omega)
  have mo : ∀ j : Nat, j ≠ 1 + 116 * p + 115 → mbr R p j = R j := fun j hj => va_o9 _ _ hj
  have co : ∀ i : Nat, i ≠ 11 + 8 * p → (cfz h (11 + 8 * p)).1 i = h.1 i := fun i hi => by
    unfold cfz
    by_cases c : h.1 (11 + 8 * p) 9 = 0
    · rw [if_pos c]
    · rw [if_neg c, upI_o _ _ _ hi]
  have cL : (cfz h (11 + 8 * p)).2 = h.2 := by
    unfold cfz
    by_cases c : h.1 (11 + 8 * p) 9 = 0
    · rw [if_pos c]
    · rw [if_neg c]; rfl
  have c0 : ∀ j : Nat, j ≠ 8 → (cfz h (11 + 8 * p)).1 (11 + 8 * p) j = h.1 (11 + 8 * p) j := fun j hj => by
    unfold cfz
    by_cases c : h.1 (11 + 8 * p) 9 = 0
    · rw [if_pos c]
    · rw [if_neg c, upI_s, va_o9 _ _ hj]
  refine ⟨⟨?_, ?_, ?_, ?_, ?_, ?_, ?_, ?_, ?_, ?_⟩, mo, co, cL⟩
  · show _ = ((cfz h (11 + 8 * p)).1 (11 + 8 * p) 7).toInt64
    rw [mo _ (by omega), c0 7 (by decide)]; exact e0
  · show rI _ p 1 ((cfz h (11 + 8 * p)).1 (11 + 8 * p + 1)) 1 10000
    rw [co _ (by omega)]; exact e1.c (fun t ht => mo _ (by omega)) (by omega) (by omega)
  · show rI _ p 17 ((cfz h (11 + 8 * p)).1 (11 + 8 * p + 2)) 0 1000
    rw [co _ (by omega)]; exact e2.c (fun t ht => mo _ (by omega)) (by omega) (by omega)
  · show rI _ p 33 ((cfz h (11 + 8 * p)).1 (11 + 8 * p + 3)) 0 12
    rw [co _ (by omega)]; exact e3.c (fun t ht => mo _ (by omega)) (by omega) (by omega)
  · show rI _ p 49 ((cfz h (11 + 8 * p)).1 (11 + 8 * p + 4)) 0 12
    rw [co _ (by omega)]; exact e4.c (fun t ht => mo _ (by omega)) (by omega) (by omega)
  · show rI _ p 65 ((cfz h (11 + 8 * p)).1 (11 + 8 * p + 5)) _ _
    rw [co _ (by omega)]; exact e5.c (fun t ht => mo _ (by omega)) (by omega) (by omega)
  · show rL _ p ((cfz h (11 + 8 * p)).2.1 (11 + 8 * p + 6))
    rw [cL]; exact e6.c (fun t ht => mo _ (by omega))
  · show rB _ p ((cfz h (11 + 8 * p)).1 (11 + 8 * p) 8) (g + 1)
    obtain ⟨z1, z2, z3⟩ := e7
    rcases hd : dfz (h.1 (11 + 8 * p + 4)) (h.1 (11 + 8 * p + 5)) 16 with _ | _
    · rw [hd] at em e8
      have c : h.1 (11 + 8 * p) 9 = 0 := e8
      refine ⟨?_, ?_⟩
      · unfold mbr cfz
        rw [va_s9, if_pos c, if_pos (show mis R p 16 = true from em), z1]
        exact Int64.add_zero _
      · unfold cfz; rw [if_pos c]; omega
    · rw [hd] at em e8
      have c : ¬ h.1 (11 + 8 * p) 9 = 0 := fun w => by rw [e8] at w; exact absurd w (by decide)
      refine ⟨?_, ?_⟩
      · unfold mbr cfz
        rw [va_s9, if_neg c, upI_s, va_s9, if_neg (by rw [em]; decide), z1, tl_p1 (by omega) (by omega)]
      · unfold cfz; rw [if_neg c, upI_s, va_s9, i32_p1 (by omega) (by omega)]; omega
  · show (cfz h (11 + 8 * p)).1 (11 + 8 * p) 9 = bI (dfz ((cfz h (11 + 8 * p)).1 (11 + 8 * p + 4)) ((cfz h (11 + 8 * p)).1 (11 + 8 * p + 5)) 16)
    rw [c0 9 (by decide), co _ (by omega), co _ (by omega)]; exact e8
  · show TK _ p ((cfz h (11 + 8 * p)).1 (11 + 8 * p + 7)) ((cfz h (11 + 8 * p)).1 (11 + 8 * p + 4))
    rw [co _ (by omega), co _ (by omega)]
    exact TK.c (T := h.1 (11 + 8 * p + 7)) (B := h.1 (11 + 8 * p + 4)) e9 (fun j h1 h2 => mo _ (by omega)) (fun _ _ => rfl)
/-- one frame of both pairs -/
theorem fr_2 {f : Int} {R : Nat → Int64} {h : hS} (x : ∀ p : Nat, p < 2 → RX f f h R p) (hR : R 0 = (h.1 6 0).toInt64) (hF : (h.1 6 0).toInt = f) (f0 : 0 ≤ f) (f1 : f ≤ 999999) :
    (∀ p : Nat, p < 2 → RX (f + 1) (f + 1) (psz h) (mbr (mbr (mfr (mfr (mr0 R) 0) 1) 0) 1) p) ∧ (psz h).1 6 0 = h.1 6 0 + nI 1 ∧ mbr (mbr (mfr (mfr (mr0 R) 0) 1) 0) 1 0 = (h.1 6 0 + nI 1).toInt64 ∧ fOK h ∧ frO (mr0 R) 0 ∧ frO (mfr (mr0 R) 0) 1 := by
  have eF : (h.1 6 0 + nI 1).toInt = f + 1 := by rw [i32_p1 (by omega) (by omega)]; omega
  have r0 : mr0 R 0 = (h.1 6 0 + nI 1).toInt64 := by unfold mr0; rw [va_s9, hR, tl_p1 (by omega) (by omega)]
  have a6 : (pfA h).1 6 0 = h.1 6 0 + nI 1 := by unfold pfA; rw [upI_s, va_s9]
  have xA : ∀ p : Nat, p < 2 → RX f f (pfA h) (mr0 R) p := fun p hp => (x p hp).c (Int.le_refl _) (fun j hj => va_o9 _ _ (by omega)) (fun c hc => upI_o _ _ _ (by omega)) rfl
  obtain ⟨y0, o0, s0, k0⟩ := fr_1 (q := 0) (h := pfA h) (F := h.1 6 0 + nI 1) (xA 0 (by omega)) (RX.v (q := 0) (xA 0 (by omega)) (xA 1 (by omega))) (by omega) r0 (by omega) f0 (by omega)
  have y0 : RX (f + 1) f (pfB h) (mfr (mr0 R) 0) 0 := y0
  have y1 : RX f f (pfB h) (mfr (mr0 R) 0) 1 := (xA 1 (by omega)).c (Int.le_refl _) (fun j hj => o0 _ (by omega)) (fun c hc => efz_o _ _ _ _ (by omega) (by omega) (by omega) (by omega)) (efz_oL _ _ _ _ (by omega))
  have b6 : (pfB h).1 6 0 = h.1 6 0 + nI 1 := by unfold pfB; rw [efz_o _ _ _ _ (by omega) (by omega) (by omega) (by omega)]; exact a6
  obtain ⟨z1, o1, s1, k1⟩ := fr_1 (q := 1) (h := pfB h) (F := h.1 6 0 + nI 1) y1 (RX.v (q := 1) y1 y0) (by omega) ((o0 0 (by omega)).trans r0) (by omega) f0 (by omega)
  have z1 : RX (f + 1) f (pfC h) (mfr (mfr (mr0 R) 0) 1) 1 := z1
  have z0 : RX (f + 1) f (pfC h) (mfr (mfr (mr0 R) 0) 1) 0 := y0.c (Int.le_refl _) (fun j hj => o1 _ (by omega)) (fun c hc => efz_o _ _ _ _ (by omega) (by omega) (by omega) (by omega)) (efz_oL _ _ _ _ (by omega))
  have c6 : (pfC h).1 6 0 = h.1 6 0 + nI 1 := by unfold pfC; rw [efz_o _ _ _ _ (by omega) (by omega) (by omega) (by omega)]; exact b6
  obtain ⟨w0, m0, p0, l0⟩ := z0.br f0 (by omega)
  have w0 : RX (f + 1) (f + 1) (cfz (pfC h) 11) (mbr (mfr (mfr (mr0 R) 0) 1) 0) 0 := w0
  have w1 : RX (f + 1) f (cfz (pfC h) 11) (mbr (mfr (mfr (mr0 R) 0) 1) 0) 1 := z1.c (Int.le_refl _) (fun j hj => m0 _ (by omega)) (fun c hc => p0 _ (by omega)) (congrArg (fun z => z.1 (11 + 8 * 1 + 6)) l0)
  obtain ⟨u1, m1, p1, l1⟩ := w1.br f0 (by omega)
  have u1 : RX (f + 1) (f + 1) (psz h) (mbr (mbr (mfr (mfr (mr0 R) 0) 1) 0) 1) 1 := u1
  have u0 : RX (f + 1) (f + 1) (psz h) (mbr (mbr (mfr (mfr (mr0 R) 0) 1) 0) 1) 0 := w0.c (Int.le_refl _) (fun j hj => m1 _ (by omega)) (fun c hc => p1 _ (by omega)) (congrArg (fun z => z.1 (11 + 8 * 0 + 6)) l1)
  refine ⟨fun p hp => ?_, ?_, ?_, ⟨?_, s0, ?_, s1⟩, k0, k1⟩
  · rcases (by omega : p = 0 ∨ p = 1) with rfl | rfl
    · exact u0
    · exact u1
  · have e1 : (psz h).1 6 = (cfz (pfC h) 11).1 6 := p1 6 (by omega)
    rw [e1, p0 6 (by omega)]; exact c6
  · rw [m1 0 (by omega), m0 0 (by omega), o1 0 (by omega), o0 0 (by omega)]; exact r0
  · exact (fr_A (q := 0) (h := pfA h) (F := h.1 6 0 + nI 1) (xA 0 (by omega)) r0 (by omega) f0 (by omega)).2.2.2
  · exact (fr_A (q := 1) (h := pfB h) (F := h.1 6 0 + nI 1) y1 ((o0 0 (by omega)).trans r0) (by omega) f0 (by omega)).2.2.2
theorem rn_eq {n : Nat} {h : hS} {R : Nat → Int64} (x : RC n h R) (hn : n < 512) : ∀ i : Nat, i ≤ 1000 → (∀ p : Nat, p < 2 → RX ((h.1 6 0).toInt + i) ((h.1 6 0).toInt + i) (rnz h i) (mrn R i) p) ∧ ((rnz h i).1 6 0).toInt = (h.1 6 0).toInt + i ∧ mrn R i 0 = ((rnz h i).1 6 0).toInt64
  | 0, _ => ⟨fun p hp => by
      have k : RPx (h.1 6 0).toInt (h.1 6 0).toInt R p (fun c => h.1 (11 + 8 * p + c)) (h.2.1 (11 + 8 * p + 6)) := x.2.2.2 p hp
      rw [show (h.1 6 0).toInt + ((0 : Nat) : Int) = (h.1 6 0).toInt by omega]
      exact k, by show (h.1 6 0).toInt = _; omega, x.1⟩
  | i + 1, hi => by
    obtain ⟨i1, i2, i3⟩ := rn_eq x hn i (by omega)
    obtain ⟨h1, h2, h3, h4⟩ := x
    obtain ⟨k1, k2, k3, -⟩ := fr_2 i1 i3 i2 (by omega) (by omega)
    refine ⟨fun p hp => ?_, ?_, ?_⟩
    · rw [show (h.1 6 0).toInt + ((i + 1 : Nat) : Int) = (h.1 6 0).toInt + (i : Int) + 1 by omega]
      exact k1 p hp
    · show ((psz (rnz h i)).1 6 0).toInt = _
      rw [k2, i32_p1 (by omega) (by omega)]; omega
    · show mbr _ 1 0 = ((psz (rnz h i)).1 6 0).toInt64
      rw [k3, k2]
theorem RC.ok {n : Nat} {h : hS} {R : Nat → Int64} (x : RC n h R) (hn : n < 512) : (∀ i : Nat, i < 1000 → fOK (rnz h i)) ∧ mrO R := by
  refine ⟨fun i hi => ?_, fun i hi => ?_⟩
  · obtain ⟨i1, i2, i3⟩ := rn_eq x hn i (by omega)
    obtain ⟨h1, h2, h3, h4⟩ := x
    exact (fr_2 i1 i3 i2 (by omega) (by omega)).2.2.2.1
  · obtain ⟨i1, i2, i3⟩ := rn_eq x hn i (by omega)
    obtain ⟨h1, h2, h3, h4⟩ := x
    exact (fr_2 i1 i3 i2 (by omega) (by omega)).2.2.2.2
theorem RC.rn {n : Nat} {h : hS} {R : Nat → Int64} (x : RC n h R) (hn : n < 512) {i : Nat} (hi : i ≤ 1000) : RC (n + 1) (rnz h i) (mrn R i) := by
  obtain ⟨i1, i2, i3⟩ := rn_eq x hn i hi
  obtain ⟨h1, h2, h3, h4⟩ := x
  refine ⟨i3, by omega, by omega, fun p hp => ?_⟩
  have k := i1 p hp
  rw [← i2] at k
  exact k
