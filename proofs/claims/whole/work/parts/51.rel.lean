/-! THE RELATION between the class's cells and the reference's rows -/
def rI (R : Nat → Int64) (q o : Nat) (x : Nat → Int32) (lo hi : Int) : Prop := ∀ t : Nat, t < 16 → R (1 + 116 * q + (o + t)) = (x t).toInt64 ∧ lo ≤ (x t).toInt ∧ (x t).toInt ≤ hi
def rL (R : Nat → Int64) (q : Nat) (E : Nat → Int64) : Prop := ∀ t : Nat, t < 16 → R (1 + 116 * q + (81 + t)) = E t ∧ 0 ≤ (E t).toInt ∧ (E t).toInt ≤ 1000000000000
def tkF (R : Nat → Int64) (q : Nat) (T : Nat → Int32) : Prop := (bz (T 1) ∧ bz (T 6) ∧ bz (T 7)) ∧ R (1 + 116 * q + 97) = (T 1).toInt64 ∧ R (1 + 116 * q + 108) = (T 6).toInt64 ∧ R (1 + 116 * q + 112) = (T 7).toInt64 ∧ R (1 + 116 * q + 102) = (T 0).toInt64 ∧ ∃ v : Nat, v < 8 ∧ T 0 = nI v
/-- the open request -/
def tkO (R : Nat → Int64) (q : Nat) (T B : Nat → Int32) : Prop := T 1 = nI 1 → R (1 + 116 * q + 98) = (T 2).toInt64 ∧ R (1 + 116 * q + 99) = (T 3).toInt64 ∧ R (1 + 116 * q + 100) = (T 4).toInt64 ∧ R (1 + 116 * q + 101) = (T 5).toInt64 ∧ 0 ≤ (T 2).toInt ∧ ∃ x y : Nat, x < 16 ∧ y < 16 ∧ ¬ x = y ∧ T 3 = nI x ∧ T 4 = nI y ∧ 1 ≤ (B x).toInt ∧ (B y).toInt ≤ 11
/-- the request message on its way -/
def tkA (R : Nat → Int64) (q : Nat) (T : Nat → Int32) : Prop := T 6 = nI 1 → R (1 + 116 * q + 109) = (T 2).toInt64 ∧ R (1 + 116 * q + 110) = (T 3).toInt64 ∧ R (1 + 116 * q + 111) = (T 4).toInt64 ∧ 0 ≤ (T 2).toInt ∧ ∃ x y : Nat, x < 16 ∧ y < 16 ∧ T 3 = nI x ∧ T 4 = nI y
/-- the answer on its way -/
def tkW (R : Nat → Int64) (q : Nat) (T : Nat → Int32) : Prop := T 7 = nI 1 → R (1 + 116 * q + 113) = (T 8).toInt64 ∧ R (1 + 116 * q + 114) = (T 9).toInt64
/-- the agreement -/
def tkG (R : Nat → Int64) (q : Nat) (T : Nat → Int32) : Prop := (R (1 + 116 * q + 103) = 0 ∧ T 10 = -1 ∧ T 11 = -1) ∨ (R (1 + 116 * q + 103) = 1 ∧ R (1 + 116 * q + 104) = (T 10).toInt64 ∧ 0 ≤ (T 10).toInt ∧ R (1 + 116 * q + 105) = (T 12).toInt64 ∧ R (1 + 116 * q + 106) = (T 13).toInt64 ∧ R (1 + 116 * q + 107) = (T 11).toInt64 ∧ ∃ x y : Nat, x < 16 ∧ y < 16 ∧ T 12 = nI x ∧ T 13 = nI y)
def TK (R : Nat → Int64) (q : Nat) (T B : Nat → Int32) : Prop := tkF R q T ∧ tkO R q T B ∧ tkA R q T ∧ tkW R q T ∧ tkG R q T
/-- the frames that were broken -/
def rB (R : Nat → Int64) (q : Nat) (x : Int32) (f : Int) : Prop := R (1 + 116 * q + 115) = x.toInt64 ∧ 0 ≤ x.toInt ∧ x.toInt ≤ f
def RP (f : Int) (R : Nat → Int64) (q : Nat) (a : Nat → Nat → Int32) (E : Nat → Int64) : Prop := R (1 + 116 * q + 0) = (a 0 7).toInt64 ∧ rI R q 1 (a 1) 1 10000 ∧ rI R q 17 (a 2) 0 1000 ∧ rI R q 33 (a 3) 0 12 ∧ rI R q 49 (a 4) 0 12 ∧ rI R q 65 (a 5) (-(f + 12)) (f + 12) ∧ rL R q E ∧ rB R q (a 0 8) f ∧ a 0 9 = bI (dfz (a 4) (a 5) 16) ∧ TK R q (a 7) (a 4)
def RS (n : Nat) (R : Nat → Int64) (F : Int32) (A : Nat → Nat → Nat → Int32) (E : Nat → Nat → Int64) : Prop := R 0 = F.toInt64 ∧ 0 ≤ F.toInt ∧ F.toInt ≤ 1000 * (n : Int) ∧ ∀ q : Nat, q < 2 → RP F.toInt R q (A q) (E q)
def RV (n : Nat) (h : hS) (S : Nat) (R : Nat → Int64) : Prop := RS n R (h.1 S 0) (fun q c => h.1 (16 * S - 85 + 8 * q + c)) (fun q => h.2.1 (16 * S - 85 + 8 * q + 6))
def RN (n : Nat) (h : hS) : Prop := RS n (h.2.1 92) (h.1 6 0) (fun q c => h.1 (11 + 8 * q + c)) (fun q => h.2.1 (11 + 8 * q + 6))
def IAB (n : Nat) (h : hS) (a b : Nat) : Prop := (a < 4 ∧ b ≤ 4) ∧ h.1 0 2 = nI a ∧ h.1 0 3 = nI b ∧ h.1 91 2 = nI b ∧ RN n h ∧ ∀ i : Nat, i < b → RV n h (7 + (a + 4 - i) % 4) (fun j => h.2.1 93 (233 * (b - 1 - i) + j))
theorem rI.c {R R' : Nat → Int64} {q o : Nat} {x : Nat → Int32} {lo hi lo' hi' : Int} (h : rI R q o x lo hi) (hR : ∀ t : Nat, t < 16 → R' (1 + 116 * q + (o + t)) = R (1 + 116 * q + (o + t))) (h1 : lo' ≤ lo) (h2 : hi ≤ hi') : rI R' q o x lo' hi' := fun t ht => by
  obtain ⟨a, b, c⟩ := h t ht
  exact ⟨(hR t ht).trans a, by omega, by omega⟩
theorem rL.c {R R' : Nat → Int64} {q : Nat} {E : Nat → Int64} (h : rL R q E) (hR : ∀ t : Nat, t < 16 → R' (1 + 116 * q + (81 + t)) = R (1 + 116 * q + (81 + t))) : rL R' q E := fun t ht => ⟨(hR t ht).trans (h t ht).1, (h t ht).2⟩
theorem rB.c {R R' : Nat → Int64} {q : Nat} {x : Int32} {f f' : Int} (h : rB R q x f) (hR : R' (1 + 116 * q + 115) = R (1 + 116 * q + 115)) (hf : f ≤ f') : rB R' q x f' := ⟨hR.trans h.1, h.2.1, by have := h.2.2; omega⟩
theorem TK.c {R R' : Nat → Int64} {q : Nat} {T B B' : Nat → Int32} (h : TK R q T B) (hR : ∀ j : Nat, 97 ≤ j → j < 115 → R' (1 + 116 * q + j) = R (1 + 116 * q + j)) (hB : ∀ j : Nat, j < 16 → B' j = B j) : TK R' q T B' := by
  obtain ⟨⟨f0, f1, f2, f3, f4, f5⟩, o, a, w, g⟩ := h
  refine ⟨⟨f0, (hR 97 (by omega) (by omega)).trans f1, (hR 108 (by omega) (by omega)).trans f2, (hR 112 (by omega) (by omega)).trans f3, (hR 102 (by omega) (by omega)).trans f4, f5⟩, fun z => ?_, fun z => ?_, fun z => ?_, ?_⟩
  · obtain ⟨o1, o2, o3, o4, o5, x, y, hx, hy, o6, o7, o8, o9, o10⟩ := o z
    exact ⟨(hR 98 (by omega) (by omega)).trans o1, (hR 99 (by omega) (by omega)).trans o2, (hR 100 (by omega) (by omega)).trans o3, (hR 101 (by omega) (by omega)).trans o4, o5, x, y, hx, hy, o6, o7, o8, by rw [hB x hx]; exact o9, by rw [hB y hy]; exact o10⟩
  · obtain ⟨o1, o2, o3, o4⟩ := a z
    exact ⟨(hR 109 (by omega) (by omega)).trans o1, (hR 110 (by omega) (by omega)).trans o2, (hR 111 (by omega) (by omega)).trans o3, o4⟩
  · obtain ⟨o1, o2⟩ := w z
    exact ⟨(hR 113 (by omega) (by omega)).trans o1, (hR 114 (by omega) (by omega)).trans o2⟩
  · rcases g with ⟨g1, g2⟩ | ⟨g1, g2, g3, g4, g5, g6, g7⟩
    · exact Or.inl ⟨(hR 103 (by omega) (by omega)).trans g1, g2⟩
    · exact Or.inr ⟨(hR 103 (by omega) (by omega)).trans g1, (hR 104 (by omega) (by omega)).trans g2, g3, (hR 105 (by omega) (by omega)).trans g4, (hR 106 (by omega) (by omega)).trans g5, (hR 107 (by omega) (by omega)).trans g6, g7⟩
theorem RP.same {f f' : Int} {R R' : Nat → Int64} {q : Nat} {a a' : Nat → Nat → Int32} {E E' : Nat → Int64} (h : RP f R q a E) (hf : f ≤ f') (hR : ∀ j : Nat, j < 116 → R' (1 + 116 * q + j) = R (1 + 116 * q + j)) (ha : ∀ c : Nat, c < 8 → a' c = a c) (hE : E' = E) : RP f' R' q a' E' := by
  obtain ⟨e0, e1, e2, e3, e4, e5, e6, e7, e8, e9⟩ := h
  subst hE
  refine ⟨?_, ?_, ?_, ?_, ?_, ?_, e6.c (fun t ht => hR _ (by omega)), ?_, ?_, ?_⟩
  · rw [hR 0 (by omega), ha 0 (by omega)]; exact e0
  · rw [ha 1 (by omega)]; exact e1.c (fun t ht => hR _ (by omega)) (by omega) (by omega)
  · rw [ha 2 (by omega)]; exact e2.c (fun t ht => hR _ (by omega)) (by omega) (by omega)
  · rw [ha 3 (by omega)]; exact e3.c (fun t ht => hR _ (by omega)) (by omega) (by omega)
  · rw [ha 4 (by omega)]; exact e4.c (fun t ht => hR _ (by omega)) (by omega) (by omega)
  · rw [ha 5 (by omega)]; exact e5.c (fun t ht => hR _ (by omega)) (by omega) (by omega)
  · rw [ha 0 (by omega)]; exact e7.c (hR _ (by omega)) hf
  · rw [ha 0 (by omega), ha 4 (by omega), ha 5 (by omega)]; exact e8
  · rw [ha 7 (by omega), ha 4 (by omega)]; exact e9.c (fun j _ hj => hR j (by omega)) (fun _ _ => rfl)
theorem RS.same {n n' : Nat} {R R' : Nat → Int64} {F F' : Int32} {A A' : Nat → Nat → Nat → Int32} {E E' : Nat → Nat → Int64} (h : RS n R F A E) (hn : n ≤ n') (hR : ∀ j : Nat, j < 233 → R' j = R j) (hF : F' = F) (hA : ∀ q c : Nat, q < 2 → c < 8 → A' q c = A q c) (hE : ∀ q : Nat, q < 2 → E' q = E q) : RS n' R' F' A' E' := by
  obtain ⟨h1, h2, h3, h4⟩ := h
  subst hF
  exact ⟨(hR 0 (by omega)).trans h1, h2, by omega, fun q hq => (h4 q hq).same (Int.le_refl _) (fun j hj => hR _ (by omega)) (fun c hc => hA q c hq hc) (hE q hq)⟩
/-- nothing that lasts has changed -/
def AG (h g : hS) : Prop := g.1 0 = h.1 0 ∧ (∀ i : Nat, 6 ≤ i → i < 91 → g.1 i = h.1 i) ∧ (∀ i : Nat, 11 ≤ i → i < 91 → g.2.1 i = h.2.1 i) ∧ g.1 91 2 = h.1 91 2 ∧ g.2.1 92 = h.2.1 92 ∧ g.2.1 93 = h.2.1 93
theorem AG.rf (h : hS) : AG h h := ⟨rfl, fun _ _ _ => rfl, fun _ _ _ => rfl, rfl, rfl, rfl⟩
theorem AG.tr {h g z : hS} (x : AG h g) (y : AG g z) : AG h z := ⟨y.1.trans x.1, fun i a b => (y.2.1 i a b).trans (x.2.1 i a b), fun i a b => (y.2.2.1 i a b).trans (x.2.2.1 i a b), y.2.2.2.1.trans x.2.2.2.1, y.2.2.2.2.1.trans x.2.2.2.2.1, y.2.2.2.2.2.trans x.2.2.2.2.2⟩
theorem AG.t3 (h : hS) (v : Int32) : AG h (upI h 91 3 v) := ⟨upI_o _ _ _ (by decide), fun i _ hi => upI_o _ _ _ (by omega), fun _ _ _ => rfl, by rw [upI_s]; rfl, rfl, rfl⟩
theorem AG.o95 (h : hS) (v : Int64) : AG h (upL h 95 0 v) := ⟨rfl, fun _ _ _ => rfl, fun i _ hi => upL_o _ _ _ (by omega), rfl, upL_o _ _ _ (by decide), upL_o _ _ _ (by decide)⟩
theorem AG.oD (h : hS) (v : UInt64) : AG h (upD h 0 v) := ⟨rfl, fun _ _ _ => rfl, fun _ _ _ => rfl, rfl, rfl, rfl⟩
theorem AG.hash (h : hS) (v : Int64) : AG h (upL h 91 5 v) := ⟨rfl, fun _ _ _ => rfl, fun i _ hi => upL_o _ _ _ (by omega), rfl, upL_o _ _ _ (by decide), upL_o _ _ _ (by decide)⟩
theorem AG.b94 (h : hS) (f : Nat → Int64) : AG h (setL h 94 f) := ⟨rfl, fun _ _ _ => rfl, fun i _ hi => setL_o _ _ (by omega), rfl, setL_o _ _ (by decide), setL_o _ _ (by decide)⟩
theorem AG.rl (h : hS) (P P2 : Nat) : AG h (rlz h P P2) := ⟨rlz_o _ _ _ (by decide), fun i _ hi => rlz_o _ _ _ (by omega), fun i _ hi => rlz_oL _ _ _ (by omega), by rw [rlz_o _ _ _ (by decide)], rlz_oL _ _ _ (by decide), rlz_oL _ _ _ (by decide)⟩
theorem AG.s5 (h : hS) (f : Nat → Int32) : AG h (setI h 5 f) := ⟨setI_o _ _ (by decide), fun i _ hi => setI_o _ _ (by omega), fun _ _ _ => rfl, by rw [setI_o _ _ (by decide)], rfl, rfl⟩
theorem AG.rt (h : hS) (P P2 : Nat) : AG h (rtz h P P2) := (AG.rl h P P2).tr (AG.s5 _ _)
theorem AG.lt (h : hS) (P P2 n : Nat) : AG h (ltz h P P2 n) := ((AG.rl h P P2).tr (AG.s5 _ _)).tr (AG.s5 _ _)
theorem IAB.keep {n n' a b : Nat} {h g : hS} (I : IAB n h a b) (hn : n ≤ n') (x : AG h g) : IAB n' g a b := by
  obtain ⟨⟨ha, hb⟩, i2, i3, i4, iN, iV⟩ := I
  obtain ⟨x0, xS, xL, x91, x92, x93⟩ := x
  refine ⟨⟨ha, hb⟩, by rw [x0]; exact i2, by rw [x0]; exact i3, by rw [x91]; exact i4, ?_, fun i hi => ?_⟩
  · exact iN.same hn (fun j _ => by rw [x92]) (by rw [xS 6 (by omega) (by omega)]) (fun q c hq hc => xS _ (by omega) (by omega)) (fun q hq => xL _ (by omega) (by omega))
  · exact (iV i hi).same hn (fun j _ => by show g.2.1 93 _ = h.2.1 93 _; rw [x93]) (by rw [xS _ (by omega) (by omega)]) (fun q c hq hc => xS _ (by omega) (by omega)) (fun q hq => xL _ (by omega) (by omega))
-- what is saved
theorem svz_i (h : hS) (a b : Nat) {i : Nat} (hi : i ≠ 0) : (svz h a b).1 i = (cpS (upI h 0 2 (nI ((a + 1) % 4))) (7 + (a + 1) % 4) 6).1 i := by
  unfold svz
  by_cases hb : b < 4
  · rw [if_pos hb, upI_o _ _ _ hi]
  · rw [if_neg hb]
theorem svz_L (h : hS) (a b : Nat) : (svz h a b).2 = (cpS (upI h 0 2 (nI ((a + 1) % 4))) (7 + (a + 1) % 4) 6).2 := by
  unfold svz
  by_cases hb : b < 4
  · rw [if_pos hb]; rfl
  · rw [if_neg hb]
theorem cpS_S (h : hS) {S S2 : Nat} (h1 : 6 ≤ S) (h2 : S ≤ 10) : (cpS h S S2).1 S = h.1 S2 := by
  unfold cpS
  rw [cpP_o1 _ _ _ _ (by omega), cpP_o1 _ _ _ _ (by omega), setI_s]
theorem cpS_o {h : hS} {S S2 i : Nat} (h1 : 6 ≤ S) (h2 : S ≤ 10) (hi : i ≠ S) (hj : i < 16 * S - 85 ∨ 16 * S - 69 ≤ i) : (cpS h S S2).1 i = h.1 i := by
  unfold cpS
  rw [cpP_o1 _ _ _ _ (by omega), cpP_o1 _ _ _ _ (by omega), setI_o _ _ hi]
theorem cpS_oL {h : hS} {S S2 i : Nat} (h1 : 6 ≤ S) (h2 : S ≤ 10) (hj : i < 16 * S - 85 ∨ 16 * S - 69 ≤ i) : (cpS h S S2).2.1 i = h.2.1 i := by
  unfold cpS
  rw [cpP_o2 _ _ _ _ (by omega), cpP_o2 _ _ _ _ (by omega)]; rfl
theorem cpS_c (h : hS) {S S2 q c : Nat} (h1 : 6 ≤ S) (h2 : S ≤ 10) (h3 : 6 ≤ S2) (h4 : S2 ≤ 10) (hn : S ≠ S2) (hq : q < 2) (hc : c < 8) : (cpS h S S2).1 (16 * S - 85 + 8 * q + c) = h.1 (16 * S2 - 85 + 8 * q + c) := by
  unfold cpS
  rcases (by omega : q = 0 ∨ q = 1) with rfl | rfl
  · rw [show 16 * S - 85 + 8 * 0 + c = 16 * S - 85 + c by omega, show 16 * S2 - 85 + 8 * 0 + c = 16 * S2 - 85 + c by omega, cpP_o1 _ _ _ _ (by omega), cpP_1 _ _ _ _ hc, setI_o _ _ (by omega)]
  · rw [show 16 * S - 85 + 8 * 1 + c = 16 * S - 77 + c by omega, show 16 * S2 - 85 + 8 * 1 + c = 16 * S2 - 77 + c by omega, cpP_1 _ _ _ _ hc, cpP_o1 _ _ _ _ (by omega), setI_o _ _ (by omega)]
theorem cpS_cL (h : hS) {S S2 q c : Nat} (h1 : 6 ≤ S) (h2 : S ≤ 10) (h3 : 6 ≤ S2) (h4 : S2 ≤ 10) (hn : S ≠ S2) (hq : q < 2) (hc : c < 8) : (cpS h S S2).2.1 (16 * S - 85 + 8 * q + c) = h.2.1 (16 * S2 - 85 + 8 * q + c) := by
  unfold cpS
  rcases (by omega : q = 0 ∨ q = 1) with rfl | rfl
  · rw [show 16 * S - 85 + 8 * 0 + c = 16 * S - 85 + c by omega, show 16 * S2 - 85 + 8 * 0 + c = 16 * S2 - 85 + c by omega, cpP_o2 _ _ _ _ (by omega), cpP_2 _ _ _ _ hc]; rfl
  · rw [show 16 * S - 85 + 8 * 1 + c = 16 * S - 77 + c by omega, show 16 * S2 - 85 + 8 * 1 + c = 16 * S2 - 77 + c by omega, cpP_2 _ _ _ _ hc, cpP_o2 _ _ _ _ (by omega)]; rfl
/-- what a saving leaves as it was -/
theorem svz_lo (h : hS) (a b : Nat) {i : Nat} (h1 : i ≠ 0) (h2 : i < 7 ∨ (11 ≤ i ∧ i < 27) ∨ 91 ≤ i) : (svz h a b).1 i = h.1 i := by
  rw [svz_i h a b h1, cpS_o (by omega) (by omega) (by omega) (by omega), upI_o _ _ _ h1]
theorem svz_loL (h : hS) (a b : Nat) {i : Nat} (h2 : i < 27 ∨ 91 ≤ i) : (svz h a b).2.1 i = h.2.1 i := by
  rw [svz_L, cpS_oL (by omega) (by omega) (by omega)]; rfl
theorem svz_02 (h : hS) {a b : Nat} : (svz h a b).1 0 2 = nI ((a + 1) % 4) := by
  unfold svz
  by_cases hb : b < 4
  · rw [if_pos hb, upI_s]
    show (if (2 : Nat) = 3 then _ else (cpS _ _ 6).1 0 2) = _
    rw [if_neg (by decide), cpS_o (by omega) (by omega) (by omega) (by omega), upI_s]; rfl
  · rw [if_neg hb, cpS_o (by omega) (by omega) (by omega) (by omega), upI_s]; rfl
theorem svz_03 {h : hS} {a b : Nat} (hb4 : b ≤ 4) (h3 : h.1 0 3 = nI b) : (svz h a b).1 0 3 = nI (ms3 b + 1) := by
  unfold svz ms3
  by_cases hb : b < 4
  · rw [if_pos hb, upI_s, if_neg (by omega)]; rfl
  · obtain rfl : b = 4 := by omega
    rw [if_neg hb, cpS_o (by omega) (by omega) (by omega) (by omega), upI_s]
    show h.1 0 3 = _
    rw [h3]; rfl
theorem IAB.push {n n' a b : Nat} {h g : hS} (I : IAB n h a b) (hn : n ≤ n') (h02 : g.1 0 2 = (svz h a b).1 0 2) (h03 : g.1 0 3 = (svz h a b).1 0 3) (h91 : g.1 91 2 = nI (ms3 b + 1)) (hS : ∀ i : Nat, (7 ≤ i ∧ i ≤ 10) ∨ (27 ≤ i ∧ i < 91) → g.1 i = (svz h a b).1 i) (hL : ∀ i : Nat, 27 ≤ i → i < 91 → g.2.1 i = (svz h a b).2.1 i)
    (h93 : g.2.1 93 = wfz (h.2.1 92) (msS (h.2.1 93) b) (233 * ms3 b) 233) (hN : RN n' g) : IAB n' g ((a + 1) % 4) (ms3 b + 1) := by
  obtain ⟨⟨ha, hb⟩, i2, i3, i4, iN, iV⟩ := I
  have hm : ms3 b ≤ 3 ∧ (b = 4 → ms3 b = 3) ∧ (b < 4 → ms3 b = b) := by unfold ms3; by_cases q : b = 4 <;> simp [q] <;> omega
  refine ⟨⟨by omega, by omega⟩, by rw [h02, svz_02], by rw [h03, svz_03 hb i3], h91, hN, fun i hi => ?_⟩
  rcases Nat.eq_zero_or_pos i with z | z
  · subst z
    have e1 : (((a + 1) % 4 + 4 - 0) % 4) = (a + 1) % 4 := by omega
    rw [e1]
    refine RS.same iN hn (fun j hj => ?_) ?_ (fun q c hq hc => ?_) (fun q hq => ?_)
    · show g.2.1 93 (233 * (ms3 b + 1 - 1 - 0) + j) = h.2.1 92 j
      rw [h93, show ms3 b + 1 - 1 - 0 = ms3 b by omega, wfz_in _ _ _ hj]
    · rw [hS _ (by omega), svz_i _ _ _ (by omega), cpS_S _ (by omega) (by omega), upI_o _ _ _ (by decide)]
    · show g.1 (16 * (7 + (a + 1) % 4) - 85 + 8 * q + c) = h.1 (11 + 8 * q + c)
      rw [hS _ (by omega), svz_i _ _ _ (by omega), cpS_c _ (by omega) (by omega) (by omega) (by omega) (by omega) hq hc, upI_o _ _ _ (by omega)]
    · show g.2.1 (16 * (7 + (a + 1) % 4) - 85 + 8 * q + 6) = h.2.1 (11 + 8 * q + 6)
      rw [hL _ (by omega) (by omega), svz_L, cpS_cL _ (by omega) (by omega) (by omega) (by omega) (by omega) hq (by omega)]; rfl
  · have e1 : 7 + ((a + 1) % 4 + 4 - i) % 4 = 7 + (a + 4 - (i - 1)) % 4 := by omega
    rw [e1]
    refine RS.same (iV (i - 1) (by omega)) hn (fun j hj => ?_) ?_ (fun q c hq hc => ?_) (fun q hq => ?_)
    · show g.2.1 93 (233 * (ms3 b + 1 - 1 - i) + j) = h.2.1 93 (233 * (b - 1 - (i - 1)) + j)
      rw [h93, wfz_out _ _ (by omega)]
      unfold msS
      by_cases q : b = 4
      · rw [if_pos q]
        have := hm.2.1 q
        rw [pfz_in (by omega)]
        exact congrArg (h.2.1 93) (by omega)
      · rw [if_neg q]
        have := hm.2.2 (by omega)
        exact congrArg (h.2.1 93) (by omega)
    · rw [hS _ (by omega), svz_i _ _ _ (by omega), cpS_o (by omega) (by omega) (by omega) (by omega), upI_o _ _ _ (by omega)]
    · show g.1 _ = h.1 _
      rw [hS _ (by omega), svz_i _ _ _ (by omega), cpS_o (by omega) (by omega) (by omega) (by omega), upI_o _ _ _ (by omega)]
    · show g.2.1 _ = h.2.1 _
      rw [hL _ (by omega) (by omega), svz_L, cpS_oL (by omega) (by omega) (by omega)]; rfl
theorem IAB.pop {n n' a b : Nat} {h g : hS} (I : IAB n h a b) (hb1 : 1 ≤ b) (hn : n ≤ n') (h02 : g.1 0 2 = nI ((a + 3) % 4)) (h03 : g.1 0 3 = nI (b - 1)) (h91 : g.1 91 2 = nI (b - 1)) (hS : ∀ i : Nat, 6 ≤ i → i < 91 → g.1 i = (cpS h 6 (7 + a)).1 i) (hL : ∀ i : Nat, 11 ≤ i → i < 91 → g.2.1 i = (cpS h 6 (7 + a)).2.1 i)
    (h92 : g.2.1 92 = pfz (fun j => h.2.1 93 (233 * (b - 1) + j)) (h.2.1 92) 233) (h93 : g.2.1 93 = h.2.1 93) : IAB n' g ((a + 3) % 4) (b - 1) := by
  obtain ⟨⟨ha, hb⟩, i2, i3, i4, iN, iV⟩ := I
  refine ⟨⟨by omega, by omega⟩, h02, h03, h91, ?_, fun i hi => ?_⟩
  · have e0 := iV 0 (by omega)
    rw [show 7 + (a + 4 - 0) % 4 = 7 + a by omega] at e0
    refine RS.same e0 hn (fun j hj => ?_) ?_ (fun q c hq hc => ?_) (fun q hq => ?_)
    · rw [h92, pfz_in hj]; rfl
    · rw [hS 6 (by omega) (by omega), cpS_S _ (by omega) (by omega)]
    · show g.1 (11 + 8 * q + c) = h.1 _
      rw [hS _ (by omega) (by omega)]
      exact cpS_c h (S := 6) (by omega) (by omega) (by omega) (by omega) (by omega) hq hc
    · show g.2.1 (11 + 8 * q + 6) = h.2.1 _
      rw [hL _ (by omega) (by omega)]
      exact cpS_cL h (S := 6) (by omega) (by omega) (by omega) (by omega) (by omega) hq (by omega)
  · have e1 : 7 + ((a + 3) % 4 + 4 - i) % 4 = 7 + (a + 4 - (i + 1)) % 4 := by omega
    rw [e1]
    refine RS.same (iV (i + 1) (by omega)) hn (fun j hj => ?_) ?_ (fun q c hq hc => ?_) (fun q hq => ?_)
    · show g.2.1 93 (233 * (b - 1 - 1 - i) + j) = h.2.1 93 (233 * (b - 1 - (i + 1)) + j)
      rw [h93, show b - 1 - 1 - i = b - 1 - (i + 1) by omega]
    · rw [hS _ (by omega) (by omega), cpS_o (by omega) (by omega) (by omega) (by omega)]
    · show g.1 _ = h.1 _
      rw [hS _ (by omega) (by omega), cpS_o (by omega) (by omega) (by omega) (by omega)]
    · show g.2.1 _ = h.2.1 _
      rw [hL _ (by omega) (by omega), cpS_oL (by omega) (by omega) (by omega)]
-- flags
theorem RP.fg {f : Int} {R : Nat → Int64} {q P : Nat} {h : hS} {E : Nat → Int64} {a : Nat → Nat → Int32} (x : RP f R q a E) (h0 : a 0 = h.1 P) (h7 : a 7 = h.1 (P + 7)) : fgP h P := by
  obtain ⟨e0, e1, e2, e3, e4, e5, e6, e7, e8, ⟨f0, -⟩, -⟩ := x
  rw [h0] at e8
  rw [h7] at f0
  exact ⟨by rw [e8]; exact bI_bz _, f0⟩
theorem IAB.SI {n a b : Nat} {h : hS} (I : IAB n h a b) : SI h a b := by
  obtain ⟨⟨ha, hb⟩, i2, i3, i4, iN, iV⟩ := I
  exact ⟨⟨i2, ha⟩, ⟨i3, hb⟩, (iN.2.2.2 0 (by omega)).fg rfl rfl, (iN.2.2.2 1 (by omega)).fg rfl rfl⟩
theorem IAB.fu {n a b : Nat} {h : hS} (I : IAB n h a b) : 1 ≤ b → fgP h (16 * (7 + a) - 85) ∧ fgP h (16 * (7 + a) - 77) := by
  obtain ⟨⟨ha, hb⟩, i2, i3, i4, iN, iV⟩ := I
  intro h1
  have e0 := iV 0 (by omega)
  rw [show 7 + (a + 4 - 0) % 4 = 7 + a by omega] at e0
  exact ⟨(e0.2.2.2 0 (by omega)).fg rfl rfl, (e0.2.2.2 1 (by omega)).fg (congrArg h.1 (by omega)) (congrArg h.1 (by omega))⟩
