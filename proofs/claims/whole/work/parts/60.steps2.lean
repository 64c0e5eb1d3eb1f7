/-! THE STEPS, second part -/
theorem k_loadRate {n a b : Nat} {h h1 : hS} {x : Int32} {r9 : Int32} (I : IAB n h a b) (hw : (∃ (v7 : Int32) (g7 : hS), (fun r h' => ∃ q : Nat, q < 2 ∧ x = nI q ∧ r = sumI ((lfz (svz h a b) (11 + 8 * q) (11 + 8 * (1 - q))).1 (11 + 8 * q + 4)) 16 ∧ h' = lfz (svz h a b) (11 + 8 * q) (11 + 8 * (1 - q))) v7 g7 ∧ r9 = nI 0 ∧ h1 = upL g7 95 0 v7.toInt64) ∨ ((fun (E : String) (h' : hS) => E = xIO ∧ ¬ isP x ∧ h' = h) xIO h1 ∧ r9 = nI 1)) : KM h b h1 := by
  rcases hw with ⟨v7, g7, ⟨q, hq, ex, ev, eg⟩, er, eh⟩ | ⟨⟨-, hno, eg⟩, er⟩
  · rw [eh]; exact (km_lo I (by rw [eg]; exact LO.lf _ hq _)).o95 _
  · rw [eg]; exact km_ag I (AG.rf h)
theorem s_loadRate {n a b : Nat} {h h1 h2 : hS} {x : Int32} {r9 : Int32} {v9 : Int32} {R2 : Nat → Nat → Int64} (I : IAB n h a b) (hn : n < 512) (hw : (∃ (v7 : Int32) (g7 : hS), (fun r h' => ∃ q : Nat, q < 2 ∧ x = nI q ∧ r = sumI ((lfz (svz h a b) (11 + 8 * q) (11 + 8 * (1 - q))).1 (11 + 8 * q + 4)) 16 ∧ h' = lfz (svz h a b) (11 + 8 * q) (11 + 8 * (1 - q))) v7 g7 ∧ r9 = nI 0 ∧ h1 = upL g7 95 0 v7.toInt64) ∨ ((fun (E : String) (h' : hS) => E = xIO ∧ ¬ isP x ∧ h' = h) xIO h1 ∧ r9 = nI 1)) (hF : ∀ q : Nat, q < 2 → mld q 193 (mcl (h.2.1 92) q) 0 = some (R2 q)) (hm : (fun (h : hS) (r : Int32) (h' : hS) => (∃ q : Nat, q < 2 ∧ x = nI q ∧ r = (sumL (fun t => mfi (R2 q) q (1 + 116 * q + (49 + t))) 16).toInt32 ∧ h' = setL (msv (upI h 91 3 (nI 0)) b) 92 (mfi (R2 q) q)) ∨ (¬ isP x ∧ r = nI 0 ∧ h' = upI h 91 3 (nI 1))) h1 v9 h2) : OKs (n + 1) r9 v9.toInt64 h2 := by
  have km := k_loadRate I hw
  rcases hw with ⟨v7, g7, ⟨q, hq, ex, ev, eg⟩, er, eh⟩ | ⟨⟨-, hno, eg⟩, er⟩
  · rcases hm with ⟨p, hp, fx, ew, e2⟩ | ⟨hno, -⟩
    · have epq : p = q := nI2 hp hq (fx.symm.trans ex)
      rw [epq] at ew e2
      obtain ⟨R3, r1, r2⟩ := I.rs.lf hq
      obtain rfl : R3 = R2 q := Option.some.inj (r1.symm.trans (hF q hq))
      have hv : v7.toInt64 = v9.toInt64 := by
        rw [ev, ew, rate_eq (c := (lfz (svz h a b) (11 + 8 * q) (11 + 8 * (1 - q))).1 (11 + 8 * q + 4)) (r2.2.2.2 q hq).2.2.2.2.1]
      rw [e2, eh, er, ← hv, eg]
      exact ok_push I (by omega) (LO.lf _ hq _) (r2.up (by omega))
    · exact absurd ⟨q, hq, ex⟩ hno
  · rcases hm with ⟨p, hp, fx, -⟩ | ⟨-, -, e2⟩
    · exact absurd ⟨p, hp, fx⟩ hno
    · rw [e2, er, eg]; exact ok_bad I (AG.rf h) (by decide) (by decide)
theorem k_repair {n a b : Nat} {h h1 : hS} {x : Int32} {r9 : Int32} (I : IAB n h a b) (hw : (∃ (v7 : Int32) (g7 : hS), (fun r h' => ∃ q : Nat, q < 2 ∧ x = nI q ∧ r = nI (rpM (rtz (svz h a b) (11 + 8 * q) (11 + 8 * (1 - q)))).2 ∧ h' = rpz (svz h a b) (11 + 8 * q) (11 + 8 * (1 - q))) v7 g7 ∧ r9 = nI 0 ∧ h1 = upL g7 95 0 v7.toInt64) ∨ ((fun (E : String) (h' : hS) => E = xIO ∧ ¬ isP x ∧ h' = h) xIO h1 ∧ r9 = nI 1)) : KM h b h1 := by
  rcases hw with ⟨v7, g7, ⟨q, hq, ex, ev, eg⟩, er, eh⟩ | ⟨⟨-, hno, eg⟩, er⟩
  · rw [eh]; exact (km_lo I (by rw [eg]; exact LO.rp _ hq _)).o95 _
  · rw [eg]; exact km_ag I (AG.rf h)
theorem s_repair {n a b : Nat} {h h1 h2 : hS} {x : Int32} {r9 : Int32} {v9 : Int32} {P2 : Nat → (Nat → Int64) × Nat} (I : IAB n h a b) (hn : n < 512) (hw : (∃ (v7 : Int32) (g7 : hS), (fun r h' => ∃ q : Nat, q < 2 ∧ x = nI q ∧ r = nI (rpM (rtz (svz h a b) (11 + 8 * q) (11 + 8 * (1 - q)))).2 ∧ h' = rpz (svz h a b) (11 + 8 * q) (11 + 8 * (1 - q))) v7 g7 ∧ r9 = nI 0 ∧ h1 = upL g7 95 0 v7.toInt64) ∨ ((fun (E : String) (h' : hS) => E = xIO ∧ ¬ isP x ∧ h' = h) xIO h1 ∧ r9 = nI 1)) (hF : ∀ q : Nat, q < 2 → mrp q 193 (h.2.1 92) 0 = some (P2 q)) (hm : (fun (h : hS) (r : Int32) (h' : hS) => (∃ q : Nat, q < 2 ∧ x = nI q ∧ r = nI (P2 q).2 ∧ h' = setL (msv (upI h 91 3 (nI 0)) b) 92 (mfi (P2 q).1 q)) ∨ (¬ isP x ∧ r = nI 0 ∧ h' = upI h 91 3 (nI 1))) h1 v9 h2) : OKs (n + 1) r9 v9.toInt64 h2 := by
  have km := k_repair I hw
  rcases hw with ⟨v7, g7, ⟨q, hq, ex, ev, eg⟩, er, eh⟩ | ⟨⟨-, hno, eg⟩, er⟩
  · rcases hm with ⟨p, hp, fx, ew, e2⟩ | ⟨hno, -⟩
    · have epq : p = q := nI2 hp hq (fx.symm.trans ex)
      rw [epq] at ew e2
      obtain ⟨R3, r1, r2⟩ := I.rs.rp hq
      have e3 : (R3, (rpM (rtz (svz h a b) (11 + 8 * q) (11 + 8 * (1 - q)))).2) = P2 q := Option.some.inj (r1.symm.trans (hF q hq))
      rw [← e3] at ew e2
      have hv : v7.toInt64 = v9.toInt64 := by rw [ev, ew]
      rw [e2, eh, er, ← hv, eg]
      exact ok_push I (by omega) (LO.rp _ hq _) (r2.up (by omega))
    · exact absurd ⟨q, hq, ex⟩ hno
  · rcases hm with ⟨p, hp, fx, -⟩ | ⟨-, -, e2⟩
    · exact absurd ⟨p, hp, fx⟩ hno
    · rw [e2, er, eg]; exact ok_bad I (AG.rf h) (by decide) (by decide)
theorem svz_lt {h : hS} {a b P P2 m : Nat} : LO (svz h a b) (svz (ltz h P P2 m) a b) := by
  have x := AG.lt h P P2 m
  have x3 : ∀ i : Nat, i = 92 ∨ i = 93 → (ltz h P P2 m).2.1 i = h.2.1 i := fun i hi => by rcases hi with rfl | rfl; exact x.2.2.2.2.1; exact x.2.2.2.2.2
  have x9 : (ltz h P P2 m).1 91 = h.1 91 := by unfold ltz lfA; rw [setI_o _ _ (by decide), setI_o _ _ (by decide), rlz_o _ _ _ (by decide)]
  have c0 : (svz (ltz h P P2 m) a b).1 0 = (svz h a b).1 0 := by
    unfold svz
    by_cases hb : b < 4
    · rw [if_pos hb, if_pos hb, upI_s, upI_s, cpS_o (by omega) (by omega) (by omega) (by omega), cpS_o (by omega) (by omega) (by omega) (by omega), upI_s, upI_s, x.1]
    · rw [if_neg hb, if_neg hb, cpS_o (by omega) (by omega) (by omega) (by omega), cpS_o (by omega) (by omega) (by omega) (by omega), upI_s, upI_s, x.1]
  have u : ∀ i : Nat, 6 ≤ i → i < 91 → (upI (ltz h P P2 m) 0 2 (nI ((a + 1) % 4))).1 i = (upI h 0 2 (nI ((a + 1) % 4))).1 i := fun i h1 h2 => by rw [upI_o _ _ _ (by omega), upI_o _ _ _ (by omega), x.2.1 i h1 h2]
  have hS : 6 ≤ 7 + (a + 1) % 4 ∧ 7 + (a + 1) % 4 ≤ 10 := by omega
  obtain ⟨S, eS⟩ : ∃ S, S = 7 + (a + 1) % 4 := ⟨_, rfl⟩
  refine ⟨fun i hi => ?_, fun i hi => ?_⟩
  · rcases (by omega : i = 0 ∨ i = 91 ∨ (6 ≤ i ∧ i < 91)) with rfl | rfl | h9
    · exact c0
    · rw [svz_lo _ _ _ (by omega) (by omega), svz_lo _ _ _ (by omega) (by omega), x9]
    · rw [svz_i _ _ _ (by omega), svz_i _ _ _ (by omega), ← eS]
      rw [← eS] at hS
      by_cases e1 : i = S
      · rw [e1, cpS_S _ hS.1 hS.2, cpS_S _ hS.1 hS.2]; exact u 6 (by omega) (by omega)
      · by_cases e2 : i < 16 * S - 85 ∨ 16 * S - 69 ≤ i
        · rw [cpS_o hS.1 hS.2 e1 e2, cpS_o hS.1 hS.2 e1 e2]; exact u i (by omega) (by omega)
        · obtain ⟨q, c, hq, hc, rfl⟩ : ∃ q c : Nat, q < 2 ∧ c < 8 ∧ i = 16 * S - 85 + 8 * q + c := ⟨(i - (16 * S - 85)) / 8, (i - (16 * S - 85)) % 8, by omega, by omega, by omega⟩
          rw [cpS_c _ hS.1 hS.2 (by omega) (by omega) (by omega) hq hc, cpS_c _ hS.1 hS.2 (by omega) (by omega) (by omega) hq hc]
          exact u _ (by omega) (by omega)
  · rcases (by omega : (27 ≤ i ∧ i < 91) ∨ i = 92 ∨ i = 93) with h9 | h9
    · rw [svz_L, svz_L, ← eS]
      rw [← eS] at hS
      by_cases e2 : i < 16 * S - 85 ∨ 16 * S - 69 ≤ i
      · rw [cpS_oL hS.1 hS.2 e2, cpS_oL hS.1 hS.2 e2]; exact x.2.2.1 i (by omega) (by omega)
      · obtain ⟨q, c, hq, hc, rfl⟩ : ∃ q c : Nat, q < 2 ∧ c < 8 ∧ i = 16 * S - 85 + 8 * q + c := ⟨(i - (16 * S - 85)) / 8, (i - (16 * S - 85)) % 8, by omega, by omega, by omega⟩
        rw [cpS_cL _ hS.1 hS.2 (by omega) (by omega) (by omega) hq hc, cpS_cL _ hS.1 hS.2 (by omega) (by omega) (by omega) hq hc]
        exact x.2.2.1 _ (by omega) (by omega)
    · rw [svz_loL _ _ _ (by omega), svz_loL _ _ _ (by omega)]; exact x3 i h9
theorem ml_iff {n a b q m : Nat} {h : hS} (I : IAB n h a b) (hq : q < 2) (hm : m ≤ 192) : nI m ≤ mlS (h.2.1 92) q 16 ↔ (m : Int) ≤ sI (h.1 (11 + 8 * q + 3)) 16 := by
  have e3 : rI (h.2.1 92) q 33 (h.1 (11 + 8 * q + 3)) 0 12 := (I.rc.2.2.2 q hq).2.2.2.1
  have es : mlS (h.2.1 92) q 16 = sumI (h.1 (11 + 8 * q + 3)) 16 := by
    unfold mlS
    have k : ∀ j : Nat, j ≤ 16 → sumI (fun j => (h.2.1 92 (1 + 116 * q + (33 + j))).toInt32) j = sumI (h.1 (11 + 8 * q + 3)) j := by
      intro j
      induction j with
      | zero => intro _; rfl
      | succ j ih =>
        intro hj
        rw [sumI, sumI, ih (by omega), (e3 j (by omega)).1, tt]
    exact k 16 (by omega)
  rw [es, Int32.le_iff_toInt_le, nI_toInt (by omega), sumI_i (by omega) (fun t ht => (e3 t ht).2.1) (fun t ht => (e3 t ht).2.2)]
theorem k_loadBits {n a b : Nat} {h h1 : hS} {x y : Int32} {r9 : Int32} (I : IAB n h a b) (hw : (∃ (v7 : Int64) (g7 : hS), (fun r h' => ∃ q n : Nat, q < 2 ∧ n ≤ 192 ∧ x = nI q ∧ y = nI n ∧ ltB h (11 + 8 * q) (11 + 8 * (1 - q)) n = true ∧ r = sumL ((sez (svz (ltz h (11 + 8 * q) (11 + 8 * (1 - q)) n) a b) (11 + 8 * q)).2.1 (11 + 8 * q + 6)) 16 ∧ h' = sez (svz (ltz h (11 + 8 * q) (11 + 8 * (1 - q)) n) a b) (11 + 8 * q)) v7 g7 ∧ r9 = nI 0 ∧ h1 = upL g7 95 0 v7) ∨ ((fun (E : String) (h' : hS) => (h' = h ∧ ((E = xIO ∧ ¬ isP x) ∨ (E = xIA ∧ isP x ∧ ¬ okR y (nI 0) (nI 192)))) ∨ (E = xIS ∧ ∃ q n : Nat, q < 2 ∧ n ≤ 192 ∧ x = nI q ∧ y = nI n ∧ ltB h (11 + 8 * q) (11 + 8 * (1 - q)) n = false ∧ h' = ltz h (11 + 8 * q) (11 + 8 * (1 - q)) n)) xIO h1 ∧ r9 = nI 1) ∨ ((fun (E : String) (h' : hS) => (h' = h ∧ ((E = xIO ∧ ¬ isP x) ∨ (E = xIA ∧ isP x ∧ ¬ okR y (nI 0) (nI 192)))) ∨ (E = xIS ∧ ∃ q n : Nat, q < 2 ∧ n ≤ 192 ∧ x = nI q ∧ y = nI n ∧ ltB h (11 + 8 * q) (11 + 8 * (1 - q)) n = false ∧ h' = ltz h (11 + 8 * q) (11 + 8 * (1 - q)) n)) xIA h1 ∧ r9 = nI 2) ∨ ((fun (E : String) (h' : hS) => (h' = h ∧ ((E = xIO ∧ ¬ isP x) ∨ (E = xIA ∧ isP x ∧ ¬ okR y (nI 0) (nI 192)))) ∨ (E = xIS ∧ ∃ q n : Nat, q < 2 ∧ n ≤ 192 ∧ x = nI q ∧ y = nI n ∧ ltB h (11 + 8 * q) (11 + 8 * (1 - q)) n = false ∧ h' = ltz h (11 + 8 * q) (11 + 8 * (1 - q)) n)) xIS h1 ∧ r9 = nI 3)) : KM h b h1 := by
  rcases hw with ⟨v7, g7, ⟨q, m, hq, hm, ex, ey, hb, ev, eg⟩, er, eh⟩ | ⟨hE, er⟩ | ⟨hE, er⟩ | ⟨hE, er⟩
  · rw [eh]; exact (km_lo I (by rw [eg]; exact svz_lt.tr (LO.se _ hq))).o95 _
  all_goals
    rcases hE with ⟨eg, -⟩ | ⟨-, q, m, hq, hm, ex, ey, hb, eg⟩
    · rw [eg]; exact km_ag I (AG.rf h)
    · rw [eg]; exact km_ag I (AG.lt h _ _ _)
theorem s_loadBits {n a b : Nat} {h h1 h2 : hS} {x y : Int32} {r9 : Int32} {v9 : Int64} {R2 : Nat → Nat → Nat → Int64} (I : IAB n h a b) (hn : n < 512) (hw : (∃ (v7 : Int64) (g7 : hS), (fun r h' => ∃ q n : Nat, q < 2 ∧ n ≤ 192 ∧ x = nI q ∧ y = nI n ∧ ltB h (11 + 8 * q) (11 + 8 * (1 - q)) n = true ∧ r = sumL ((sez (svz (ltz h (11 + 8 * q) (11 + 8 * (1 - q)) n) a b) (11 + 8 * q)).2.1 (11 + 8 * q + 6)) 16 ∧ h' = sez (svz (ltz h (11 + 8 * q) (11 + 8 * (1 - q)) n) a b) (11 + 8 * q)) v7 g7 ∧ r9 = nI 0 ∧ h1 = upL g7 95 0 v7) ∨ ((fun (E : String) (h' : hS) => (h' = h ∧ ((E = xIO ∧ ¬ isP x) ∨ (E = xIA ∧ isP x ∧ ¬ okR y (nI 0) (nI 192)))) ∨ (E = xIS ∧ ∃ q n : Nat, q < 2 ∧ n ≤ 192 ∧ x = nI q ∧ y = nI n ∧ ltB h (11 + 8 * q) (11 + 8 * (1 - q)) n = false ∧ h' = ltz h (11 + 8 * q) (11 + 8 * (1 - q)) n)) xIO h1 ∧ r9 = nI 1) ∨ ((fun (E : String) (h' : hS) => (h' = h ∧ ((E = xIO ∧ ¬ isP x) ∨ (E = xIA ∧ isP x ∧ ¬ okR y (nI 0) (nI 192)))) ∨ (E = xIS ∧ ∃ q n : Nat, q < 2 ∧ n ≤ 192 ∧ x = nI q ∧ y = nI n ∧ ltB h (11 + 8 * q) (11 + 8 * (1 - q)) n = false ∧ h' = ltz h (11 + 8 * q) (11 + 8 * (1 - q)) n)) xIA h1 ∧ r9 = nI 2) ∨ ((fun (E : String) (h' : hS) => (h' = h ∧ ((E = xIO ∧ ¬ isP x) ∨ (E = xIA ∧ isP x ∧ ¬ okR y (nI 0) (nI 192)))) ∨ (E = xIS ∧ ∃ q n : Nat, q < 2 ∧ n ≤ 192 ∧ x = nI q ∧ y = nI n ∧ ltB h (11 + 8 * q) (11 + 8 * (1 - q)) n = false ∧ h' = ltz h (11 + 8 * q) (11 + 8 * (1 - q)) n)) xIS h1 ∧ r9 = nI 3)) (hF : ∀ q n : Nat, q < 2 → n ≤ 192 → nI n ≤ mlS (h.2.1 92) q 16 → mfk q n (mcl (h.2.1 92) q) = some (R2 q n)) (hm : (fun (h : hS) (r : Int64) (h' : hS) => (∃ q n : Nat, q < 2 ∧ n ≤ 192 ∧ x = nI q ∧ y = nI n ∧ nI n ≤ mlS (h.2.1 92) q 16 ∧ r = sumL (fun t => mfi (R2 q n) q (1 + 116 * q + (81 + t))) 16 ∧ h' = setL (msv (upI h 91 3 (nI 0)) b) 92 (mfi (R2 q n) q)) ∨ (∃ q n : Nat, q < 2 ∧ n ≤ 192 ∧ x = nI q ∧ y = nI n ∧ ¬ nI n ≤ mlS (h.2.1 92) q 16 ∧ r = 0 ∧ h' = upI h 91 3 (nI 3)) ∨ (isP x ∧ ¬ (¬ y.toInt64 < 0 ∧ ¬ 192 < y.toInt64) ∧ r = 0 ∧ h' = upI h 91 3 (nI 2)) ∨ (¬ isP x ∧ r = 0 ∧ h' = upI h 91 3 (nI 1))) h1 v9 h2) : OKs (n + 1) r9 v9 h2 := by
  have km := k_loadBits I hw
  have nN : ∀ p m : Nat, p ≤ 192 → m ≤ 192 → nI p = nI m → p = m := fun p m h1 h2 h3 => (nI_eq (by omega) (by omega)).mp h3
  have okm : ∀ m : Nat, m ≤ 192 → y = nI m → okR y (nI 0) (nI 192) := fun m h1 h2 => by
    rw [h2]; exact ⟨nI_pos (by omega), nI_le h1 (by decide)⟩
  rcases hw with ⟨v7, g7, ⟨q, m, hq, hm9, ex, ey, hb, ev, eg⟩, er, eh⟩ | ⟨hE, er⟩ | ⟨hE, er⟩ | ⟨hE, er⟩
  · rcases hm with ⟨p, u, hp, hu, fx, fy, -, ew, e2⟩ | ⟨p, u, hp, hu, fx, fy, hno, -⟩ | ⟨-, hno, -⟩ | ⟨hno, -⟩
    · have epq : p = q := nI2 hp hq (fx.symm.trans ex)
      have eum : u = m := nN u m hu hm9 (fy.symm.trans ey)
      rw [epq, eum] at ew e2
      have k := I.rc.lt hq m
      rcases Int.lt_or_le (sI (h.1 (11 + 8 * q + 3)) 16) (m : Int) with z9 | z9
      · rw [k.2 z9] at hb; cases hb
      · obtain ⟨R3, r1, -, r2⟩ := k.1 z9
        obtain rfl : R3 = R2 q m := Option.some.inj (r1.symm.trans (hF q m hq hm9 ((ml_iff I hq hm9).mpr z9)))
        have r2 := r2 a b
        have hv : v7 = v9 := by
          rw [ev, ew]
          exact (sumL_c (fun t ht => ((r2.2.2.2 q hq).2.2.2.2.2.2.1 t ht).1)).symm
        rw [e2, eh, er, ← hv, eg]
        exact ok_push I (by omega) (svz_lt.tr (LO.se _ hq)) (r2.up (by omega))
    · have epq : p = q := nI2 hp hq (fx.symm.trans ex)
      have eum : u = m := nN u m hu hm9 (fy.symm.trans ey)
      rw [epq, eum, km.1, ml_iff I hq hm9] at hno
      rw [(I.rc.lt hq m).2 (by omega)] at hb; cases hb
    · exact absurd ((okR_in (z := y) (a := 0) (b := 192) (by decide) (by decide) rfl rfl).mpr (okm m hm9 ey)) hno
    · exact absurd ⟨q, hq, ex⟩ hno
  · rcases hE with ⟨eg, ⟨-, hno⟩ | ⟨e, -⟩⟩ | ⟨e, -⟩
    · rcases hm with ⟨p, u, hp, hu, fx, -⟩ | ⟨p, u, hp, hu, fx, -⟩ | ⟨f1, -⟩ | ⟨-, -, e2⟩
      · exact absurd ⟨p, hp, fx⟩ hno
      · exact absurd ⟨p, hp, fx⟩ hno
      · exact absurd f1 hno
      · rw [e2, er, eg]; exact ok_bad I (AG.rf h) (by decide) (by decide)
    · exact absurd e (by decide)
    · exact absurd e (by decide)
  · rcases hE with ⟨eg, ⟨e, -⟩ | ⟨-, k1, k3⟩⟩ | ⟨e, -⟩
    · exact absurd e (by decide)
    · rcases hm with ⟨p, u, hp, hu, fx, fy, -⟩ | ⟨p, u, hp, hu, fx, fy, -⟩ | ⟨-, -, -, e2⟩ | ⟨hno, -⟩
      · exact absurd (okm u hu fy) k3
      · exact absurd (okm u hu fy) k3
      · rw [e2, er, eg]; exact ok_bad I (AG.rf h) (by decide) (by decide)
      · exact absurd k1 hno
    · exact absurd e (by decide)
  · rcases hE with ⟨eg, ⟨e, -⟩ | ⟨e, -⟩⟩ | ⟨-, q, m, hq, hm9, ex, ey, hb, eg⟩
    · exact absurd e (by decide)
    · exact absurd e (by decide)
    · rcases hm with ⟨p, u, hp, hu, fx, fy, hle, -⟩ | ⟨p, u, hp, hu, fx, fy, -, -, e2⟩ | ⟨-, hno, -⟩ | ⟨hno, -⟩
      · have epq : p = q := nI2 hp hq (fx.symm.trans ex)
        have eum : u = m := nN u m hu hm9 (fy.symm.trans ey)
        rw [epq, eum, km.1, ml_iff I hq hm9] at hle
        obtain ⟨R3, r1, r2, -⟩ := (I.rc.lt hq m).1 hle
        rw [hb] at r2; cases r2
      · rw [e2, er, eg]; exact ok_bad I (AG.lt h _ _ _) (by decide) (by decide)
      · exact absurd ((okR_in (z := y) (a := 0) (b := 192) (by decide) (by decide) rfl rfl).mpr (okm m hm9 ey)) hno
      · exact absurd ⟨q, hq, ex⟩ hno
theorem k_balance {n a b : Nat} {h h1 : hS} {x : Int32} {r9 : Int32} (I : IAB n h a b) (hw : (∃ (v7 : Int32) (g7 : hS), (fun r h' => ∃ n : Nat, 1 ≤ n ∧ n ≤ 20 ∧ x = nI n ∧ r = nI (blz n (svz h a b) 0).1 ∧ h' = (blz n (svz h a b) 0).2) v7 g7 ∧ r9 = nI 0 ∧ h1 = upL g7 95 0 v7.toInt64) ∨ ((fun (E : String) (h' : hS) => h' = h ∧ E = xIA ∧ ¬ okR x (nI 1) (nI 20)) xIA h1 ∧ r9 = nI 1)) : KM h b h1 := by
  rcases hw with ⟨v7, g7, ⟨m, h1m, hm, ex, ev, eg⟩, er, eh⟩ | ⟨⟨eg, -⟩, er⟩
  · rw [eh]; exact (km_lo I (by rw [eg]; exact LO.bl _ _ _)).o95 _
  · rw [eg]; exact km_ag I (AG.rf h)
theorem s_balance {n a b : Nat} {h h1 h2 : hS} {x : Int32} {r9 : Int32} {v9 : Int32} {V : Nat → Nat × (Nat → Int64) × (Nat → Int64)} (I : IAB n h a b) (hn : n < 512) (hw : (∃ (v7 : Int32) (g7 : hS), (fun r h' => ∃ n : Nat, 1 ≤ n ∧ n ≤ 20 ∧ x = nI n ∧ r = nI (blz n (svz h a b) 0).1 ∧ h' = (blz n (svz h a b) 0).2) v7 g7 ∧ r9 = nI 0 ∧ h1 = upL g7 95 0 v7.toInt64) ∨ ((fun (E : String) (h' : hS) => h' = h ∧ E = xIA ∧ ¬ okR x (nI 1) (nI 20)) xIA h1 ∧ r9 = nI 1)) (hF : ∀ n : Nat, n ≤ 20 → mbl 193 n (h.2.1 92) (pfz (mnow (h.2.1 92)) (h1.2.1 94) 64) 0 = some (V n)) (hm : (fun (h : hS) (r : Int32) (h' : hS) => (∃ n : Nat, 1 ≤ n ∧ n ≤ 20 ∧ x = nI n ∧ r = nI (V n).1 ∧ h' = setL (setL (msv (upI h 91 3 (nI 0)) b) 92 (V n).2.1) 94 (V n).2.2) ∨ (¬ (¬ x.toInt64 < 1 ∧ ¬ 20 < x.toInt64) ∧ r = nI 0 ∧ h' = upI h 91 3 (nI 1))) h1 v9 h2) : OKs (n + 1) r9 v9.toInt64 h2 := by
  have km := k_balance I hw
  have okm : ∀ m : Nat, 1 ≤ m → m ≤ 20 → x = nI m → okR x (nI 1) (nI 20) := fun m h0 h1 h2 => by
    rw [h2]; exact ⟨nI_nlt h0 (by omega), nI_le h1 (by decide)⟩
  rcases hw with ⟨v7, g7, ⟨m, h1m, hm9, ex, ev, eg⟩, er, eh⟩ | ⟨⟨eg, -, hno⟩, er⟩
  · rcases hm with ⟨u, h1u, hu, fx, ew, e2⟩ | ⟨hno, -⟩
    · have eum : u = m := (nI_eq (by omega) (by omega)).mp (fx.symm.trans ex)
      rw [eum] at ew e2
      obtain ⟨w, w1, w2, w3⟩ := bl_eq m (svz h a b) (h.2.1 92) (pfz (mnow (h.2.1 92)) (h1.2.1 94) 64) 0 I.rs (fun i hi => pfz_in hi)
      obtain rfl : w = V m := Option.some.inj (w1.symm.trans (hF m hm9))
      have hv : v7.toInt64 = v9.toInt64 := by rw [ev, ew, w2]
      rw [e2, er, ← hv]
      have k : OKs (n + 1) (nI 0) v7.toInt64 (setL (msv (upI h1 91 3 (nI 0)) b) 92 (V m).2.1) := by
        rw [eh, eg]; exact ok_push I (by omega) (LO.bl _ _ _) (w3.up (by omega))
      obtain ⟨k1, k2, a', b', k3⟩ := k
      refine ⟨k1, fun w => ?_, a', b', k3.keep (Nat.le_refl _) (AG.b94 _ _)⟩
      rw [setL_o _ _ (by decide)]; exact k2 w
    · exact absurd ((okR_in (z := x) (a := 1) (b := 20) (by decide) (by decide) rfl rfl).mpr (okm m h1m hm9 ex)) hno
  · rcases hm with ⟨u, h1u, hu, fx, -⟩ | ⟨-, -, e2⟩
    · exact absurd (okm u h1u hu fx) hno
    · rw [e2, er, eg]; exact ok_bad I (AG.rf h) (by decide) (by decide)
theorem k_run {n a b : Nat} {h h1 : hS} {x : Int32} {r9 : Int32} (I : IAB n h a b) (hw : (∃ (v7 : Int32) (g7 : hS), (fun r h' => ∃ n : Nat, n ≤ 1000 ∧ x = nI n ∧ r = (rnz (svz h a b) n).1 6 0 ∧ h' = rnz (svz h a b) n) v7 g7 ∧ r9 = nI 0 ∧ h1 = upL g7 95 0 v7.toInt64) ∨ ((fun (E : String) (h' : hS) => h' = h ∧ E = xIA ∧ ¬ okR x (nI 0) (nI 1000)) xIA h1 ∧ r9 = nI 1)) : KM h b h1 := by
  rcases hw with ⟨v7, g7, ⟨m, hm, ex, ev, eg⟩, er, eh⟩ | ⟨⟨eg, -⟩, er⟩
  · rw [eh]; exact (km_lo I (by rw [eg]; exact LO.rn _ _)).o95 _
  · rw [eg]; exact km_ag I (AG.rf h)
theorem s_run {n a b : Nat} {h h1 h2 : hS} {x : Int32} {r9 : Int32} {v9 : Int32}  (I : IAB n h a b) (hn : n < 512) (hw : (∃ (v7 : Int32) (g7 : hS), (fun r h' => ∃ n : Nat, n ≤ 1000 ∧ x = nI n ∧ r = (rnz (svz h a b) n).1 6 0 ∧ h' = rnz (svz h a b) n) v7 g7 ∧ r9 = nI 0 ∧ h1 = upL g7 95 0 v7.toInt64) ∨ ((fun (E : String) (h' : hS) => h' = h ∧ E = xIA ∧ ¬ okR x (nI 0) (nI 1000)) xIA h1 ∧ r9 = nI 1)) (hm : (fun (h : hS) (r : Int32) (h' : hS) => (∃ n : Nat, n ≤ 1000 ∧ x = nI n ∧ r = (mrn (h.2.1 92) n 0).toInt32 ∧ h' = setL (msv (upI h 91 3 (nI 0)) b) 92 (mrn (h.2.1 92) n)) ∨ (¬ (¬ x.toInt64 < 0 ∧ ¬ 1000 < x.toInt64) ∧ r = nI 0 ∧ h' = upI h 91 3 (nI 1))) h1 v9 h2) : OKs (n + 1) r9 v9.toInt64 h2 := by
  have km := k_run I hw
  have okm : ∀ m : Nat, m ≤ 1000 → x = nI m → okR x (nI 0) (nI 1000) := fun m h1 h2 => by
    rw [h2]; exact ⟨nI_pos (by omega), nI_le h1 (by decide)⟩
  rcases hw with ⟨v7, g7, ⟨m, hm9, ex, ev, eg⟩, er, eh⟩ | ⟨⟨eg, -, hno⟩, er⟩
  · rcases hm with ⟨u, hu, fx, ew, e2⟩ | ⟨hno, -⟩
    · have eum : u = m := (nI_eq (by omega) (by omega)).mp (fx.symm.trans ex)
      rw [eum, km.1] at ew
      rw [eum] at e2
      have k := I.rs.rn hn hm9
      have hv : v7.toInt64 = v9.toInt64 := by rw [ev, ew, k.1, tt]
      rw [e2, eh, er, ← hv, eg]
      have e9 : (upL (rnz (svz h a b) m) 95 0 v7.toInt64).2.1 92 = h.2.1 92 := by rw [← eg, ← eh]; exact km.1
      rw [e9]
      exact ok_push I (by omega) (LO.rn _ _) k
    · exact absurd ((okR_in (z := x) (a := 0) (b := 1000) (by decide) (by decide) rfl rfl).mpr (okm m hm9 ex)) hno
  · rcases hm with ⟨u, hu, fx, -⟩ | ⟨-, -, e2⟩
    · exact absurd (okm u hu fx) hno
    · rw [e2, er, eg]; exact ok_bad I (AG.rf h) (by decide) (by decide)
theorem k_undo {n a b : Nat} {h h1 : hS} {r9 : Int32} (I : IAB n h a b) (hw : (∃ (v7 : Int32) (g7 : hS), (fun r h' => 1 ≤ b ∧ r = nI (b - 1) ∧ h' = unz h a b) v7 g7 ∧ r9 = nI 0 ∧ h1 = upL g7 95 0 v7.toInt64) ∨ ((fun (E : String) (h' : hS) => h' = h ∧ E = xIS ∧ b = 0) xIS h1 ∧ r9 = nI 1)) : KM h b h1 := by
  rcases hw with ⟨v7, g7, ⟨h1b, ev, eg⟩, er, eh⟩ | ⟨⟨eg, -⟩, er⟩
  · rw [eh]
    refine KM.o95 ?_ _
    rw [eg]
    have hS := I.1
    refine ⟨?_, ?_⟩
    · show (cpS h 6 (7 + a)).2.1 92 = _
      rw [cpS_oL (by omega) (by omega) (by omega)]
    · unfold unz
      rw [upI_o _ _ _ (by decide), upI_o _ _ _ (by decide), cpS_o (by omega) (by omega) (by omega) (by omega)]
      exact I.2.2.2.1
  · rw [eg]; exact km_ag I (AG.rf h)
theorem s_undo {n a b : Nat} {h h1 h2 : hS} {r9 : Int32} {v9 : Int32}  (I : IAB n h a b) (hn : n < 512) (hw : (∃ (v7 : Int32) (g7 : hS), (fun r h' => 1 ≤ b ∧ r = nI (b - 1) ∧ h' = unz h a b) v7 g7 ∧ r9 = nI 0 ∧ h1 = upL g7 95 0 v7.toInt64) ∨ ((fun (E : String) (h' : hS) => h' = h ∧ E = xIS ∧ b = 0) xIS h1 ∧ r9 = nI 1)) (hm : (fun (h : hS) (r : Int32) (h' : hS) => (b = 0 ∧ r = nI 0 ∧ h' = upI h 91 3 (nI 1)) ∨ (1 ≤ b ∧ r = nI (b - 1) ∧ h' = mbk (upI h 91 3 (nI 0)) b)) h1 v9 h2) : OKs (n + 1) r9 v9.toInt64 h2 := by
  rcases hw with ⟨v7, g7, ⟨h1b, ev, eg⟩, er, eh⟩ | ⟨⟨eg, -, hb⟩, er⟩
  · rcases hm with ⟨hb, -⟩ | ⟨-, ew, e2⟩
    · omega
    · have hv : v7.toInt64 = v9.toInt64 := by rw [ev, ew]
      rw [er, ← hv]
      have hS := I.1
      obtain ⟨G, hG⟩ : ∃ G, G = h2 := ⟨_, rfl⟩
      rw [← hG]
      rw [← hG] at e2
      have gi : ∀ i : Nat, 6 ≤ i → i < 91 → G.1 i = (cpS h 6 (7 + a)).1 i := fun i h1 h2 => by
        rw [e2, eh, eg]
        show (upI (upI (upL (unz h a b) 95 0 v7.toInt64) 91 3 (nI 0)) 91 2 (nI (b - 1))).1 i = _
        rw [upI_o _ _ _ (by omega), upI_o _ _ _ (by omega)]
        show (unz h a b).1 i = _
        unfold unz
        rw [upI_o _ _ _ (by omega), upI_o _ _ _ (by omega)]
      have gl : ∀ i : Nat, i ≠ 92 → i ≠ 95 → G.2.1 i = (cpS h 6 (7 + a)).2.1 i := fun i h1 h2 => by
        rw [e2, eh, eg]
        unfold mbk
        rw [setL_o _ _ h1]
        show (upL (unz h a b) 95 0 v7.toInt64).2.1 i = _
        rw [upL_o _ _ _ h2]; rfl
      have g0 : G.1 0 = (unz h a b).1 0 := by
        rw [e2, eh, eg]
        show (upI (upI (upL (unz h a b) 95 0 v7.toInt64) 91 3 (nI 0)) 91 2 (nI (b - 1))).1 0 = _
        rw [upI_o _ _ _ (by omega), upI_o _ _ _ (by omega)]; rfl
      have g92 : G.2.1 92 = pfz (fun j => h.2.1 93 (233 * (b - 1) + j)) (h.2.1 92) 233 := by
        rw [e2, eh, eg]
        unfold mbk
        rw [setL_s]
        show pfz (fun j => (upL (unz h a b) 95 0 v7.toInt64).2.1 93 (233 * (b - 1) + j)) ((upL (unz h a b) 95 0 v7.toInt64).2.1 92) 233 = _
        rw [upL_o _ _ _ (by decide), upL_o _ _ _ (by decide)]
        show pfz (fun j => (cpS h 6 (7 + a)).2.1 93 (233 * (b - 1) + j)) ((cpS h 6 (7 + a)).2.1 92) 233 = _
        rw [cpS_oL (by omega) (by omega) (by omega), cpS_oL (by omega) (by omega) (by omega)]
      have g2 : G.1 91 2 = nI (b - 1) := by
        rw [e2]
        show (upI (upI h1 91 3 (nI 0)) 91 2 (nI (b - 1))).1 91 2 = _
        rw [upI_s, va_s9]
      have g3 : G.1 91 3 = nI 0 := by
        rw [e2]
        show (upI (upI h1 91 3 (nI 0)) 91 2 (nI (b - 1))).1 91 3 = _
        rw [upI_s, va_o9 _ _ (by decide), upI_s, va_s9]
      have g95 : G.2.1 95 0 = v7.toInt64 := by
        rw [e2, eh]
        unfold mbk
        rw [setL_o _ _ (by decide)]
        show (upL g7 95 0 v7.toInt64).2.1 95 0 = _
        rw [upL_s, va_s9]
      refine ⟨g3, fun _ => g95, (a + 3) % 4, b - 1, I.pop h1b (by omega) ?_ ?_ g2 gi (fun i h1 h2 => gl i (by omega) (by omega)) g92 ?_⟩
      · rw [g0]; unfold unz; rw [upI_s, va_o9 _ _ (by decide), upI_s, va_s9]
      · rw [g0]; unfold unz; rw [upI_s, va_s9]
      · rw [gl 93 (by omega) (by omega), cpS_oL (by omega) (by omega) (by omega)]
  · rcases hm with ⟨-, -, e2⟩ | ⟨h1b, -⟩
    · rw [e2, er, eg]; exact ok_bad I (AG.rf h) (by decide) (by decide)
    · omega
theorem rq_iff {n a b q t u : Nat} {h : hS} (I : IAB n h a b) (hq : q < 2) (ht : t < 16) (hu : u < 16) : mrB (h.2.1 92) q t u ↔ (¬ h.1 (11 + 8 * q + 7) 1 = 0 ∨ ¬ h.1 (11 + 8 * q) 9 = 0 ∨ h.1 (11 + 8 * q + 4) t < nI 1 ∨ ¬ h.1 (11 + 8 * q + 4) u < h.1 (11 + 8 * q + 3) u) := by
  have e3 := ((I.rc.2.2.2 q hq).2.2.2.1 u hu).1
  have e4 := (I.rc.2.2.2 q hq).2.2.2.2.1 t ht
  have e4u := ((I.rc.2.2.2 q hq).2.2.2.2.1 u hu).1
  obtain ⟨⟨⟨b1, -⟩, t97, -⟩, -⟩ : TK (h.2.1 92) q (h.1 (11 + 8 * q + 7)) (h.1 (11 + 8 * q + 4)) := (I.rc.2.2.2 q hq).2.2.2.2.2.2.2.2.2
  have k1 : h.2.1 92 (1 + 116 * q + 97) = 1 ↔ ¬ h.1 (11 + 8 * q + 7) 1 = 0 := by rw [t97, tl_n1, dz0 b1]
  have k2 : h.2.1 92 (1 + 116 * q + (49 + t)) = 0 ↔ h.1 (11 + 8 * q + 4) t < nI 1 := by
    have e4a : h.2.1 92 (1 + 116 * q + (49 + t)) = (h.1 (11 + 8 * q + 4) t).toInt64 := e4.1
    have e4b : 0 ≤ (h.1 (11 + 8 * q + 4) t).toInt := e4.2.1
    rw [e4a, c0_iff, Int32.lt_iff_toInt_lt, n1_i]; omega
  have k3 : h.2.1 92 (1 + 116 * q + (49 + u)) < h.2.1 92 (1 + 116 * q + (33 + u)) ↔ h.1 (11 + 8 * q + 4) u < h.1 (11 + 8 * q + 3) u := by
    rw [e4u, e3, tl_lt]
  have k4 : mis (h.2.1 92) q 16 = false ↔ ¬ h.1 (11 + 8 * q) 9 = 0 := by rw [is_eq I.rc hq, decide_eq_false_iff_not]
  unfold mrB
  rw [k1, k2, k3, k4]
  constructor
  · rintro (w | w | w | w)
    · exact Or.inl w
    · exact Or.inr (Or.inr (Or.inl w))
    · exact Or.inr (Or.inr (Or.inr w))
    · exact Or.inr (Or.inl w)
  · rintro (w | w | w | w)
    · exact Or.inl w
    · exact Or.inr (Or.inr (Or.inr w))
    · exact Or.inr (Or.inl w)
    · exact Or.inr (Or.inr (Or.inl w))
theorem k_request {n a b : Nat} {h h1 : hS} {x y z : Int32} {r9 : Int32} (I : IAB n h a b) (hw : (∃ (v7 : Int32) (g7 : hS), (fun r h' => ∃ q t u : Nat, q < 2 ∧ t < 16 ∧ u < 16 ∧ x = nI q ∧ y = nI t ∧ z = nI u ∧ ¬ t = u ∧ ¬ (¬ h.1 (11 + 8 * q + 7) 1 = 0 ∨ ¬ h.1 (11 + 8 * q) 9 = 0 ∨ h.1 (11 + 8 * q + 4) t < nI 1 ∨ ¬ h.1 (11 + 8 * q + 4) u < h.1 (11 + 8 * q + 3) u) ∧ r = (svz h a b).1 (11 + 8 * q + 7) 0 ∧ h' = setI (svz h a b) (11 + 8 * q + 7) (rqT ((svz h a b).1 (11 + 8 * q + 7)) (nI t) (nI u))) v7 g7 ∧ r9 = nI 0 ∧ h1 = upL g7 95 0 v7.toInt64) ∨ ((fun (E : String) (h' : hS) => h' = h ∧ ((E = xIO ∧ ¬ (isP x ∧ isT y ∧ isT z)) ∨ (E = xIA ∧ isP x ∧ isT y ∧ isT z ∧ y = z) ∨ (E = xIS ∧ ∃ q t u : Nat, q < 2 ∧ t < 16 ∧ u < 16 ∧ x = nI q ∧ y = nI t ∧ z = nI u ∧ ¬ t = u ∧ (¬ h.1 (11 + 8 * q + 7) 1 = 0 ∨ ¬ h.1 (11 + 8 * q) 9 = 0 ∨ h.1 (11 + 8 * q + 4) t < nI 1 ∨ ¬ h.1 (11 + 8 * q + 4) u < h.1 (11 + 8 * q + 3) u)))) xIO h1 ∧ r9 = nI 1) ∨ ((fun (E : String) (h' : hS) => h' = h ∧ ((E = xIO ∧ ¬ (isP x ∧ isT y ∧ isT z)) ∨ (E = xIA ∧ isP x ∧ isT y ∧ isT z ∧ y = z) ∨ (E = xIS ∧ ∃ q t u : Nat, q < 2 ∧ t < 16 ∧ u < 16 ∧ x = nI q ∧ y = nI t ∧ z = nI u ∧ ¬ t = u ∧ (¬ h.1 (11 + 8 * q + 7) 1 = 0 ∨ ¬ h.1 (11 + 8 * q) 9 = 0 ∨ h.1 (11 + 8 * q + 4) t < nI 1 ∨ ¬ h.1 (11 + 8 * q + 4) u < h.1 (11 + 8 * q + 3) u)))) xIA h1 ∧ r9 = nI 2) ∨ ((fun (E : String) (h' : hS) => h' = h ∧ ((E = xIO ∧ ¬ (isP x ∧ isT y ∧ isT z)) ∨ (E = xIA ∧ isP x ∧ isT y ∧ isT z ∧ y = z) ∨ (E = xIS ∧ ∃ q t u : Nat, q < 2 ∧ t < 16 ∧ u < 16 ∧ x = nI q ∧ y = nI t ∧ z = nI u ∧ ¬ t = u ∧ (¬ h.1 (11 + 8 * q + 7) 1 = 0 ∨ ¬ h.1 (11 + 8 * q) 9 = 0 ∨ h.1 (11 + 8 * q + 4) t < nI 1 ∨ ¬ h.1 (11 + 8 * q + 4) u < h.1 (11 + 8 * q + 3) u)))) xIS h1 ∧ r9 = nI 3)) : KM h b h1 := by
  rcases hw with ⟨v7, g7, ⟨q, t, u, hq, ht, hu, ex, ey, ez, htu, hb, ev, eg⟩, er, eh⟩ | ⟨⟨eg, -⟩, er⟩ | ⟨⟨eg, -⟩, er⟩ | ⟨⟨eg, -⟩, er⟩
  · rw [eh]; exact (km_lo I (by rw [eg]; exact LO.sI _ _ (by omega))).o95 _
  · rw [eg]; exact km_ag I (AG.rf h)
  · rw [eg]; exact km_ag I (AG.rf h)
  · rw [eg]; exact km_ag I (AG.rf h)
theorem s_request {n a b : Nat} {h h1 h2 : hS} {x y z : Int32} {r9 : Int32} {v9 : Int32}  (I : IAB n h a b) (hn : n < 512) (hw : (∃ (v7 : Int32) (g7 : hS), (fun r h' => ∃ q t u : Nat, q < 2 ∧ t < 16 ∧ u < 16 ∧ x = nI q ∧ y = nI t ∧ z = nI u ∧ ¬ t = u ∧ ¬ (¬ h.1 (11 + 8 * q + 7) 1 = 0 ∨ ¬ h.1 (11 + 8 * q) 9 = 0 ∨ h.1 (11 + 8 * q + 4) t < nI 1 ∨ ¬ h.1 (11 + 8 * q + 4) u < h.1 (11 + 8 * q + 3) u) ∧ r = (svz h a b).1 (11 + 8 * q + 7) 0 ∧ h' = setI (svz h a b) (11 + 8 * q + 7) (rqT ((svz h a b).1 (11 + 8 * q + 7)) (nI t) (nI u))) v7 g7 ∧ r9 = nI 0 ∧ h1 = upL g7 95 0 v7.toInt64) ∨ ((fun (E : String) (h' : hS) => h' = h ∧ ((E = xIO ∧ ¬ (isP x ∧ isT y ∧ isT z)) ∨ (E = xIA ∧ isP x ∧ isT y ∧ isT z ∧ y = z) ∨ (E = xIS ∧ ∃ q t u : Nat, q < 2 ∧ t < 16 ∧ u < 16 ∧ x = nI q ∧ y = nI t ∧ z = nI u ∧ ¬ t = u ∧ (¬ h.1 (11 + 8 * q + 7) 1 = 0 ∨ ¬ h.1 (11 + 8 * q) 9 = 0 ∨ h.1 (11 + 8 * q + 4) t < nI 1 ∨ ¬ h.1 (11 + 8 * q + 4) u < h.1 (11 + 8 * q + 3) u)))) xIO h1 ∧ r9 = nI 1) ∨ ((fun (E : String) (h' : hS) => h' = h ∧ ((E = xIO ∧ ¬ (isP x ∧ isT y ∧ isT z)) ∨ (E = xIA ∧ isP x ∧ isT y ∧ isT z ∧ y = z) ∨ (E = xIS ∧ ∃ q t u : Nat, q < 2 ∧ t < 16 ∧ u < 16 ∧ x = nI q ∧ y = nI t ∧ z = nI u ∧ ¬ t = u ∧ (¬ h.1 (11 + 8 * q + 7) 1 = 0 ∨ ¬ h.1 (11 + 8 * q) 9 = 0 ∨ h.1 (11 + 8 * q + 4) t < nI 1 ∨ ¬ h.1 (11 + 8 * q + 4) u < h.1 (11 + 8 * q + 3) u)))) xIA h1 ∧ r9 = nI 2) ∨ ((fun (E : String) (h' : hS) => h' = h ∧ ((E = xIO ∧ ¬ (isP x ∧ isT y ∧ isT z)) ∨ (E = xIA ∧ isP x ∧ isT y ∧ isT z ∧ y = z) ∨ (E = xIS ∧ ∃ q t u : Nat, q < 2 ∧ t < 16 ∧ u < 16 ∧ x = nI q ∧ y = nI t ∧ z = nI u ∧ ¬ t = u ∧ (¬ h.1 (11 + 8 * q + 7) 1 = 0 ∨ ¬ h.1 (11 + 8 * q) 9 = 0 ∨ h.1 (11 + 8 * q + 4) t < nI 1 ∨ ¬ h.1 (11 + 8 * q + 4) u < h.1 (11 + 8 * q + 3) u)))) xIS h1 ∧ r9 = nI 3)) (hm : (fun (h : hS) (r : Int32) (h' : hS) => (∃ q t u : Nat, q < 2 ∧ t < 16 ∧ u < 16 ∧ x = nI q ∧ y = nI t ∧ z = nI u ∧ ¬ t = u ∧ ¬ mrB (h.2.1 92) q t u ∧ r = (mrq (h.2.1 92) q t u (1 + 116 * q + 98)).toInt32 ∧ h' = setL (msv (upI h 91 3 (nI 0)) b) 92 (msd (mrq (h.2.1 92) q t u) q)) ∨ (∃ q t u : Nat, q < 2 ∧ t < 16 ∧ u < 16 ∧ x = nI q ∧ y = nI t ∧ z = nI u ∧ ¬ t = u ∧ mrB (h.2.1 92) q t u ∧ r = nI 0 ∧ h' = upI h 91 3 (nI 3)) ∨ (∃ q t : Nat, q < 2 ∧ t < 16 ∧ x = nI q ∧ y = nI t ∧ y = z ∧ r = nI 0 ∧ h' = upI h 91 3 (nI 2)) ∨ (¬ (isP x ∧ isT y ∧ isT z) ∧ r = nI 0 ∧ h' = upI h 91 3 (nI 1))) h1 v9 h2) : OKs (n + 1) r9 v9.toInt64 h2 := by
  have km := k_request I hw
  rcases hw with ⟨v7, g7, ⟨q, t, u, hq, ht, hu, ex, ey, ez, htu, hb, ev, eg⟩, er, eh⟩ | ⟨⟨eg, hE⟩, er⟩ | ⟨⟨eg, hE⟩, er⟩ | ⟨⟨eg, hE⟩, er⟩
  · rcases hm with ⟨p, t', u', hp, ht', hu', fx, fy, fz, -, -, ew, e2⟩ | ⟨p, t', u', hp, ht', hu', fx, fy, fz, -, hno, -⟩ | ⟨p, t', hp, ht', fx, fy, fz, -⟩ | ⟨hno, -⟩
    · have epq : p = q := nI2 hp hq (fx.symm.trans ex)
      have et : t' = t := nI16 ht' ht (fy.symm.trans ey)
      have eu : u' = u := nI16 hu' hu (fz.symm.trans ez)
      rw [epq, et, eu, km.1] at ew e2
      have xT : TK (h.2.1 92) q (h.1 (11 + 8 * q + 7)) (h.1 (11 + 8 * q + 4)) := (I.rc.2.2.2 q hq).2.2.2.2.2.2.2.2.2
      have e3 := ((I.rc.2.2.2 q hq).2.2.2.1 u hu).2.2
      have e3 : (h.1 (11 + 8 * q + 3) u).toInt ≤ 12 := e3
      have n1 : 1 ≤ (h.1 (11 + 8 * q + 4) t).toInt := by
        have w : ¬ h.1 (11 + 8 * q + 4) t < nI 1 := fun w => hb (Or.inr (Or.inr (Or.inl w)))
        rw [Int32.lt_iff_toInt_lt, n1_i] at w; omega
      have n2 : (h.1 (11 + 8 * q + 4) u).toInt ≤ 11 := by
        have w : h.1 (11 + 8 * q + 4) u < h.1 (11 + 8 * q + 3) u := Classical.byContradiction (fun w => hb (Or.inr (Or.inr (Or.inr w))))
        rw [Int32.lt_iff_toInt_lt] at w; omega
      obtain ⟨k1, k2⟩ := xT.rq ht hu htu n1 n2
      have hv : v7.toInt64 = v9.toInt64 := by
        rw [ev, ew, k2, tt, svz_lo _ _ _ (by omega) (by omega)]
      rw [e2, eh, er, ← hv, eg]
      refine ok_push I (by omega) (LO.sI _ _ (by omega)) ?_
      refine (I.rs.talk hq (fun j hj => ?_) ?_).up (by omega)
      · rw [msd_o _ _ (by omega), mrq_o _ _ _ _ (by omega)]
      · rw [svz_lo _ _ _ (by omega) (by omega), svz_lo _ _ _ (by omega) (by omega)]
        exact k1
    · have epq : p = q := nI2 hp hq (fx.symm.trans ex)
      have et : t' = t := nI16 ht' ht (fy.symm.trans ey)
      have eu : u' = u := nI16 hu' hu (fz.symm.trans ez)
      rw [epq, et, eu, km.1] at hno
      exact absurd ((rq_iff I hq ht hu).mp hno) hb
    · exact absurd (nI16 ht hu (ey.symm.trans (fz.trans ez))) htu
    · exact absurd ⟨⟨q, hq, ex⟩, ⟨t, ht, ey⟩, u, hu, ez⟩ hno
  · rcases hE with ⟨-, hno⟩ | ⟨e, -⟩ | ⟨e, -⟩
    · rcases hm with ⟨p, t', u', hp, ht', hu', fx, fy, fz, -⟩ | ⟨p, t', u', hp, ht', hu', fx, fy, fz, -⟩ | ⟨p, t', hp, ht', fx, fy, fz, -⟩ | ⟨-, -, e2⟩
      · exact absurd ⟨⟨p, hp, fx⟩, ⟨t', ht', fy⟩, u', hu', fz⟩ hno
      · exact absurd ⟨⟨p, hp, fx⟩, ⟨t', ht', fy⟩, u', hu', fz⟩ hno
      · exact absurd ⟨⟨p, hp, fx⟩, ⟨t', ht', fy⟩, t', ht', fz.symm.trans fy⟩ hno
      · rw [e2, er, eg]; exact ok_bad I (AG.rf h) (by decide) (by decide)
    · exact absurd e (by decide)
    · exact absurd e (by decide)
  · rcases hE with ⟨e, -⟩ | ⟨-, k1, k2, k3, k4⟩ | ⟨e, -⟩
    · exact absurd e (by decide)
    · rcases hm with ⟨p, t', u', hp, ht', hu', fx, fy, fz, hn9, -⟩ | ⟨p, t', u', hp, ht', hu', fx, fy, fz, hn9, -⟩ | ⟨p, t', hp, ht', fx, fy, fz, -, e2⟩ | ⟨hno, -⟩
      · exact absurd (nI16 ht' hu' (fy.symm.trans (k4.trans fz))) hn9
      · exact absurd (nI16 ht' hu' (fy.symm.trans (k4.trans fz))) hn9
      · rw [e2, er, eg]; exact ok_bad I (AG.rf h) (by decide) (by decide)
      · exact absurd ⟨k1, k2, k3⟩ hno
    · exact absurd e (by decide)
  · rcases hE with ⟨e, -⟩ | ⟨e, -⟩ | ⟨-, q, t, u, hq, ht, hu, ex, ey, ez, htu, hb⟩
    · exact absurd e (by decide)
    · exact absurd e (by decide)
    · rcases hm with ⟨p, t', u', hp, ht', hu', fx, fy, fz, -, hno, -⟩ | ⟨p, t', u', hp, ht', hu', fx, fy, fz, -, -, -, e2⟩ | ⟨p, t', hp, ht', fx, fy, fz, -⟩ | ⟨hno, -⟩
      · have epq : p = q := nI2 hp hq (fx.symm.trans ex)
        have et : t' = t := nI16 ht' ht (fy.symm.trans ey)
        have eu : u' = u := nI16 hu' hu (fz.symm.trans ez)
        rw [epq, et, eu, km.1] at hno
        exact absurd ((rq_iff I hq ht hu).mpr hb) hno
      · rw [e2, er, eg]; exact ok_bad I (AG.rf h) (by decide) (by decide)
      · exact absurd (nI16 ht hu (ey.symm.trans (fz.trans ez))) htu
      · exact absurd ⟨⟨q, hq, ex⟩, ⟨t, ht, ey⟩, u, hu, ez⟩ hno
theorem k_resend {n a b : Nat} {h h1 : hS} {x : Int32} {r9 : Int32} (I : IAB n h a b) (hw : (∃ (v7 : Int32) (g7 : hS), (fun r h' => ∃ q : Nat, q < 2 ∧ x = nI q ∧ ¬ h.1 (11 + 8 * q + 7) 1 = 0 ∧ r = (upI (svz h a b) (11 + 8 * q + 7) 6 (nI 1)).1 (11 + 8 * q + 7) 2 ∧ h' = upI (svz h a b) (11 + 8 * q + 7) 6 (nI 1)) v7 g7 ∧ r9 = nI 0 ∧ h1 = upL g7 95 0 v7.toInt64) ∨ ((fun (E : String) (h' : hS) => h' = h ∧ ((E = xIO ∧ ¬ isP x) ∨ (E = xIS ∧ ∃ q : Nat, q < 2 ∧ x = nI q ∧ h.1 (11 + 8 * q + 7) 1 = 0))) xIO h1 ∧ r9 = nI 1) ∨ ((fun (E : String) (h' : hS) => h' = h ∧ ((E = xIO ∧ ¬ isP x) ∨ (E = xIS ∧ ∃ q : Nat, q < 2 ∧ x = nI q ∧ h.1 (11 + 8 * q + 7) 1 = 0))) xIS h1 ∧ r9 = nI 2)) : KM h b h1 := by
  rcases hw with ⟨v7, g7, ⟨q, hq, ex, hb, ev, eg⟩, er, eh⟩ | ⟨⟨eg, -⟩, er⟩ | ⟨⟨eg, -⟩, er⟩
  · rw [eh]; exact (km_lo I (by rw [eg]; exact LO.uI _ _ _ (by omega))).o95 _
  · rw [eg]; exact km_ag I (AG.rf h)
  · rw [eg]; exact km_ag I (AG.rf h)
theorem s_resend {n a b : Nat} {h h1 h2 : hS} {x : Int32} {r9 : Int32} {v9 : Int32}  (I : IAB n h a b) (hn : n < 512) (hw : (∃ (v7 : Int32) (g7 : hS), (fun r h' => ∃ q : Nat, q < 2 ∧ x = nI q ∧ ¬ h.1 (11 + 8 * q + 7) 1 = 0 ∧ r = (upI (svz h a b) (11 + 8 * q + 7) 6 (nI 1)).1 (11 + 8 * q + 7) 2 ∧ h' = upI (svz h a b) (11 + 8 * q + 7) 6 (nI 1)) v7 g7 ∧ r9 = nI 0 ∧ h1 = upL g7 95 0 v7.toInt64) ∨ ((fun (E : String) (h' : hS) => h' = h ∧ ((E = xIO ∧ ¬ isP x) ∨ (E = xIS ∧ ∃ q : Nat, q < 2 ∧ x = nI q ∧ h.1 (11 + 8 * q + 7) 1 = 0))) xIO h1 ∧ r9 = nI 1) ∨ ((fun (E : String) (h' : hS) => h' = h ∧ ((E = xIO ∧ ¬ isP x) ∨ (E = xIS ∧ ∃ q : Nat, q < 2 ∧ x = nI q ∧ h.1 (11 + 8 * q + 7) 1 = 0))) xIS h1 ∧ r9 = nI 2)) (hm : (fun (h : hS) (r : Int32) (h' : hS) => (∃ q : Nat, q < 2 ∧ x = nI q ∧ ¬ h.2.1 92 (1 + 116 * q + 97) = 0 ∧ r = (h.2.1 92 (1 + 116 * q + 98)).toInt32 ∧ h' = setL (msv (upI h 91 3 (nI 0)) b) 92 (msd (h.2.1 92) q)) ∨ (∃ q : Nat, q < 2 ∧ x = nI q ∧ h.2.1 92 (1 + 116 * q + 97) = 0 ∧ r = nI 0 ∧ h' = upI h 91 3 (nI 2)) ∨ (¬ isP x ∧ r = nI 0 ∧ h' = upI h 91 3 (nI 1))) h1 v9 h2) : OKs (n + 1) r9 v9.toInt64 h2 := by
  have km := k_resend I hw
  have k97 : ∀ q : Nat, q < 2 → (h.2.1 92 (1 + 116 * q + 97) = 0 ↔ h.1 (11 + 8 * q + 7) 1 = 0) := fun q hq => by
    obtain ⟨⟨-, t97, -⟩, -⟩ : TK (h.2.1 92) q (h.1 (11 + 8 * q + 7)) (h.1 (11 + 8 * q + 4)) := (I.rc.2.2.2 q hq).2.2.2.2.2.2.2.2.2
    rw [t97, tl_0]
  rcases hw with ⟨v7, g7, ⟨q, hq, ex, hb, ev, eg⟩, er, eh⟩ | ⟨⟨eg, hE⟩, er⟩ | ⟨⟨eg, hE⟩, er⟩
  · rcases hm with ⟨p, hp, fx, -, ew, e2⟩ | ⟨p, hp, fx, hno, -⟩ | ⟨hno, -⟩
    · have epq : p = q := nI2 hp hq (fx.symm.trans ex)
      rw [epq, km.1] at ew e2
      have xT : TK (h.2.1 92) q (h.1 (11 + 8 * q + 7)) (h.1 (11 + 8 * q + 4)) := (I.rc.2.2.2 q hq).2.2.2.2.2.2.2.2.2
      have b1 : h.1 (11 + 8 * q + 7) 1 = nI 1 := (dz0 xT.1.1.1).mp hb
      have hv : v7.toInt64 = v9.toInt64 := by
        rw [ev, ew, (xT.2.1 b1).1, tt, upI_s, va_o9 _ _ (by decide), svz_lo _ _ _ (by omega) (by omega)]
      rw [e2, eh, er, ← hv, eg]
      refine ok_push I (by omega) (LO.uI _ _ _ (by omega)) ?_
      rw [upI_set]
      refine (I.rs.talk hq (fun j hj => msd_o _ _ (by omega)) ?_).up (by omega)
      rw [svz_lo _ _ _ (by omega) (by omega), svz_lo _ _ _ (by omega) (by omega)]
      exact xT.rs b1
    · have epq : p = q := nI2 hp hq (fx.symm.trans ex)
      rw [epq, km.1, k97 q hq] at hno
      exact absurd hno hb
    · exact absurd ⟨q, hq, ex⟩ hno
  · rcases hE with ⟨-, hno⟩ | ⟨e, -⟩
    · rcases hm with ⟨p, hp, fx, -⟩ | ⟨p, hp, fx, -⟩ | ⟨-, -, e2⟩
      · exact absurd ⟨p, hp, fx⟩ hno
      · exact absurd ⟨p, hp, fx⟩ hno
      · rw [e2, er, eg]; exact ok_bad I (AG.rf h) (by decide) (by decide)
    · exact absurd e (by decide)
  · rcases hE with ⟨e, -⟩ | ⟨-, q, hq, ex, hb⟩
    · exact absurd e (by decide)
    · rcases hm with ⟨p, hp, fx, hno, -⟩ | ⟨p, hp, fx, -, -, e2⟩ | ⟨hno, -⟩
      · have epq : p = q := nI2 hp hq (fx.symm.trans ex)
        rw [epq, km.1, k97 q hq] at hno
        exact absurd hb hno
      · rw [e2, er, eg]; exact ok_bad I (AG.rf h) (by decide) (by decide)
      · exact absurd ⟨q, hq, ex⟩ hno
theorem dl_lo {h : hS} {q : Nat} (hq : q < 2) (y z : Int32) : LO h (dlz h (11 + 8 * q + 7) y z).2 := by
  unfold dlz
  by_cases c1 : y = 0
  · rw [if_pos c1]
    by_cases c2 : z = 0
    · rw [if_pos c2]; exact (LO.uI _ _ _ (by omega)).tr (LO.sI _ _ (by omega))
    · rw [if_neg c2]; exact LO.uI _ _ _ (by omega)
  · rw [if_neg c1]
    by_cases c2 : z = 0
    · rw [if_pos c2]
      dsimp only
      by_cases c3 : (upI h (11 + 8 * q + 7) 7 (nI 0)).1 (11 + 8 * q + 7) 1 = 0 ∨ ¬ (upI h (11 + 8 * q + 7) 7 (nI 0)).1 (11 + 8 * q + 7) 8 = (upI h (11 + 8 * q + 7) 7 (nI 0)).1 (11 + 8 * q + 7) 2
      · rw [if_pos c3]; exact LO.uI _ _ _ (by omega)
      · rw [if_neg c3]; exact (LO.uI _ _ _ (by omega)).tr (LO.uI _ _ _ (by omega))
    · rw [if_neg c2]; exact LO.uI _ _ _ (by omega)
theorem dl_eq {n q : Nat} {h : hS} {R : Nat → Int64} (x : RC n h R) (hn : n ≤ 512) (hq : q < 2) {y z : Int32} (hb : ¬ (if y = 0 then h.1 (11 + 8 * q + 7) 6 else h.1 (11 + 8 * q + 7) 7) = 0) : RC n (dlz h (11 + 8 * q + 7) y z).2 (mdl R q y z).2 ∧ (dlz h (11 + 8 * q + 7) y z).1 = (mdl R q y z).1 := by
  have xT : TK R q (h.1 (11 + 8 * q + 7)) (h.1 (11 + 8 * q + 4)) := (x.2.2.2 q hq).2.2.2.2.2.2.2.2.2
  by_cases c1 : y = 0
  · rw [if_pos c1] at hb
    have b6 := (dz0 xT.1.1.2.1).mp hb
    by_cases c2 : z = 0
    · obtain ⟨F, hF⟩ : ∃ F, F = h.1 6 0 := ⟨_, rfl⟩
      have x1 := x.1
      have x2 := x.2.1
      have x3 := x.2.2.1
      obtain ⟨k1, k2, k3⟩ := xT.an b6 (F := h.1 6 0) x1 x2 (by omega)
      have ed : dlz h (11 + 8 * q + 7) y z = (agT (va_up (h.1 (11 + 8 * q + 7)) 6 (nI 0)) (h.1 6 0) 11, setI h (11 + 8 * q + 7) (anT (va_up (h.1 (11 + 8 * q + 7)) 6 (nI 0)) (h.1 6 0))) := by
        unfold dlz
        rw [if_pos c1, if_pos c2, upI_s, upI_o _ _ _ (by omega), upI_set, setI_setI]
      rw [ed, mdl_a c1 c2]
      refine ⟨x.talk hq k3 k1, ?_⟩
      show _ = (ma4 (mak (va_up R (1 + 116 * q + 108) 0) q) q (1 + 116 * q + 107)).toInt32
      rw [k2, tt]
    · have ed : dlz h (11 + 8 * q + 7) y z = (-1, setI h (11 + 8 * q + 7) (va_up (h.1 (11 + 8 * q + 7)) 6 (nI 0))) := by
        unfold dlz
        rw [if_pos c1, if_neg c2, upI_set]
      rw [ed, mdl_l0 c1 c2]
      exact ⟨x.talk hq (fun j hj => va_o9 _ _ (by omega)) xT.g6, rfl⟩
  · rw [if_neg c1] at hb
    have b7 := (dz0 xT.1.1.2.2).mp hb
    by_cases c2 : z = 0
    · obtain ⟨k1, k2, k3⟩ := xT.tl b7
      have u1 : (upI h (11 + 8 * q + 7) 7 (nI 0)).1 (11 + 8 * q + 7) 1 = h.1 (11 + 8 * q + 7) 1 := by rw [upI_s, va_o9 _ _ (by decide)]
      have u2 : (upI h (11 + 8 * q + 7) 7 (nI 0)).1 (11 + 8 * q + 7) 2 = h.1 (11 + 8 * q + 7) 2 := by rw [upI_s, va_o9 _ _ (by decide)]
      have u8 : (upI h (11 + 8 * q + 7) 7 (nI 0)).1 (11 + 8 * q + 7) 8 = h.1 (11 + 8 * q + 7) 8 := by rw [upI_s, va_o9 _ _ (by decide)]
      have u9 : (upI h (11 + 8 * q + 7) 7 (nI 0)).1 (11 + 8 * q + 7) 9 = h.1 (11 + 8 * q + 7) 9 := by rw [upI_s, va_o9 _ _ (by decide)]
      by_cases c3 : h.1 (11 + 8 * q + 7) 1 = 0 ∨ ¬ h.1 (11 + 8 * q + 7) 8 = h.1 (11 + 8 * q + 7) 2
      · have ed : dlz h (11 + 8 * q + 7) y z = (-1, setI h (11 + 8 * q + 7) (va_up (h.1 (11 + 8 * q + 7)) 7 (nI 0))) := by
          unfold dlz
          rw [if_neg c1, if_pos c2, u1, u2, u8, if_pos c3, if_pos c3, upI_set]
        rw [ed, mdl_t1 c1 c2 (k1.mpr c3)]
        exact ⟨x.talk hq (fun j hj => va_o9 _ _ (by omega)) xT.g7, rfl⟩
      · have ed : dlz h (11 + 8 * q + 7) y z = (h.1 (11 + 8 * q + 7) 9, setI h (11 + 8 * q + 7) (va_up (va_up (h.1 (11 + 8 * q + 7)) 7 (nI 0)) 5 (h.1 (11 + 8 * q + 7) 9))) := by
          unfold dlz
          rw [if_neg c1, if_pos c2, u1, u2, u8, u9, if_neg c3, if_neg c3, upI_set (upI h _ _ _), upI_s, upI_set, setI_setI]
        rw [ed, mdl_t2 c1 c2 (fun w => c3 (k1.mp w)), va_o9 _ _ (by omega)]
        refine ⟨x.talk hq (fun j hj => ?_) (k3 c3), ?_⟩
        · exact (va_o9 _ _ (by omega)).trans (va_o9 _ _ (by omega))
        · rw [k2, tt]
    · have ed : dlz h (11 + 8 * q + 7) y z = (-1, setI h (11 + 8 * q + 7) (va_up (h.1 (11 + 8 * q + 7)) 7 (nI 0))) := by
        unfold dlz
        rw [if_neg c1, if_neg c2, upI_set]
      rw [ed, mdl_l1 c1 c2]
      exact ⟨x.talk hq (fun j hj => va_o9 _ _ (by omega)) xT.g7, rfl⟩
theorem wy_iff {n a b q : Nat} {h : hS} {y : Int32} (I : IAB n h a b) (hq : q < 2) : h.2.1 92 (mwy q y) = 0 ↔ (if y = 0 then h.1 (11 + 8 * q + 7) 6 else h.1 (11 + 8 * q + 7) 7) = 0 := by
  obtain ⟨⟨-, -, t108, t112, -⟩, -⟩ : TK (h.2.1 92) q (h.1 (11 + 8 * q + 7)) (h.1 (11 + 8 * q + 4)) := (I.rc.2.2.2 q hq).2.2.2.2.2.2.2.2.2
  unfold mwy
  by_cases c1 : y = 0
  · rw [if_pos c1, if_pos c1, t108, tl_0]
  · rw [if_neg c1, if_neg c1, t112, tl_0]
theorem k_deliver {n a b : Nat} {h h1 : hS} {x y z : Int32} {r9 : Int32} (I : IAB n h a b) (hw : (∃ (v7 : Int32) (g7 : hS), (fun r h' => ∃ q : Nat, q < 2 ∧ x = nI q ∧ okR y (nI 0) (nI 1) ∧ ¬ (if y = 0 then h.1 (11 + 8 * q + 7) 6 else h.1 (11 + 8 * q + 7) 7) = 0 ∧ r = (dlz (svz h a b) (11 + 8 * q + 7) y z).1 ∧ h' = (dlz (svz h a b) (11 + 8 * q + 7) y z).2) v7 g7 ∧ r9 = nI 0 ∧ h1 = upL g7 95 0 v7.toInt64) ∨ ((fun (E : String) (h' : hS) => h' = h ∧ ((E = xIO ∧ ¬ isP x) ∨ (E = xIA ∧ isP x ∧ ¬ okR y (nI 0) (nI 1)) ∨ (E = xIS ∧ ∃ q : Nat, q < 2 ∧ x = nI q ∧ okR y (nI 0) (nI 1) ∧ (if y = 0 then h.1 (11 + 8 * q + 7) 6 else h.1 (11 + 8 * q + 7) 7) = 0))) xIO h1 ∧ r9 = nI 1) ∨ ((fun (E : String) (h' : hS) => h' = h ∧ ((E = xIO ∧ ¬ isP x) ∨ (E = xIA ∧ isP x ∧ ¬ okR y (nI 0) (nI 1)) ∨ (E = xIS ∧ ∃ q : Nat, q < 2 ∧ x = nI q ∧ okR y (nI 0) (nI 1) ∧ (if y = 0 then h.1 (11 + 8 * q + 7) 6 else h.1 (11 + 8 * q + 7) 7) = 0))) xIA h1 ∧ r9 = nI 2) ∨ ((fun (E : String) (h' : hS) => h' = h ∧ ((E = xIO ∧ ¬ isP x) ∨ (E = xIA ∧ isP x ∧ ¬ okR y (nI 0) (nI 1)) ∨ (E = xIS ∧ ∃ q : Nat, q < 2 ∧ x = nI q ∧ okR y (nI 0) (nI 1) ∧ (if y = 0 then h.1 (11 + 8 * q + 7) 6 else h.1 (11 + 8 * q + 7) 7) = 0))) xIS h1 ∧ r9 = nI 3)) : KM h b h1 := by
  rcases hw with ⟨v7, g7, ⟨q, hq, ex, hy, hb, ev, eg⟩, er, eh⟩ | ⟨⟨eg, -⟩, er⟩ | ⟨⟨eg, -⟩, er⟩ | ⟨⟨eg, -⟩, er⟩
  · rw [eh]; exact (km_lo I (by rw [eg]; exact dl_lo hq _ _)).o95 _
  · rw [eg]; exact km_ag I (AG.rf h)
  · rw [eg]; exact km_ag I (AG.rf h)
  · rw [eg]; exact km_ag I (AG.rf h)
theorem s_deliver {n a b : Nat} {h h1 h2 : hS} {x y z : Int32} {r9 : Int32} {v9 : Int32}  (I : IAB n h a b) (hn : n < 512) (hw : (∃ (v7 : Int32) (g7 : hS), (fun r h' => ∃ q : Nat, q < 2 ∧ x = nI q ∧ okR y (nI 0) (nI 1) ∧ ¬ (if y = 0 then h.1 (11 + 8 * q + 7) 6 else h.1 (11 + 8 * q + 7) 7) = 0 ∧ r = (dlz (svz h a b) (11 + 8 * q + 7) y z).1 ∧ h' = (dlz (svz h a b) (11 + 8 * q + 7) y z).2) v7 g7 ∧ r9 = nI 0 ∧ h1 = upL g7 95 0 v7.toInt64) ∨ ((fun (E : String) (h' : hS) => h' = h ∧ ((E = xIO ∧ ¬ isP x) ∨ (E = xIA ∧ isP x ∧ ¬ okR y (nI 0) (nI 1)) ∨ (E = xIS ∧ ∃ q : Nat, q < 2 ∧ x = nI q ∧ okR y (nI 0) (nI 1) ∧ (if y = 0 then h.1 (11 + 8 * q + 7) 6 else h.1 (11 + 8 * q + 7) 7) = 0))) xIO h1 ∧ r9 = nI 1) ∨ ((fun (E : String) (h' : hS) => h' = h ∧ ((E = xIO ∧ ¬ isP x) ∨ (E = xIA ∧ isP x ∧ ¬ okR y (nI 0) (nI 1)) ∨ (E = xIS ∧ ∃ q : Nat, q < 2 ∧ x = nI q ∧ okR y (nI 0) (nI 1) ∧ (if y = 0 then h.1 (11 + 8 * q + 7) 6 else h.1 (11 + 8 * q + 7) 7) = 0))) xIA h1 ∧ r9 = nI 2) ∨ ((fun (E : String) (h' : hS) => h' = h ∧ ((E = xIO ∧ ¬ isP x) ∨ (E = xIA ∧ isP x ∧ ¬ okR y (nI 0) (nI 1)) ∨ (E = xIS ∧ ∃ q : Nat, q < 2 ∧ x = nI q ∧ okR y (nI 0) (nI 1) ∧ (if y = 0 then h.1 (11 + 8 * q + 7) 6 else h.1 (11 + 8 * q + 7) 7) = 0))) xIS h1 ∧ r9 = nI 3)) (hm : (fun (h : hS) (r : Int32) (h' : hS) => (∃ q : Nat, q < 2 ∧ x = nI q ∧ (¬ y.toInt64 < 0 ∧ ¬ 1 < y.toInt64) ∧ ¬ h.2.1 92 (mwy q y) = 0 ∧ r = (mdl (h.2.1 92) q y z).1 ∧ h' = setL (msv (upI h 91 3 (nI 0)) b) 92 (mdl (h.2.1 92) q y z).2) ∨ (∃ q : Nat, q < 2 ∧ x = nI q ∧ (¬ y.toInt64 < 0 ∧ ¬ 1 < y.toInt64) ∧ h.2.1 92 (mwy q y) = 0 ∧ r = nI 0 ∧ h' = upI h 91 3 (nI 3)) ∨ (isP x ∧ ¬ (¬ y.toInt64 < 0 ∧ ¬ 1 < y.toInt64) ∧ r = nI 0 ∧ h' = upI h 91 3 (nI 2)) ∨ (¬ isP x ∧ r = nI 0 ∧ h' = upI h 91 3 (nI 1))) h1 v9 h2) : OKs (n + 1) r9 v9.toInt64 h2 := by
  have km := k_deliver I hw
  rcases hw with ⟨v7, g7, ⟨q, hq, ex, hy, hb, ev, eg⟩, er, eh⟩ | ⟨⟨eg, hE⟩, er⟩ | ⟨⟨eg, hE⟩, er⟩ | ⟨⟨eg, hE⟩, er⟩
  · rcases hm with ⟨p, hp, fx, -, -, ew, e2⟩ | ⟨p, hp, fx, -, hno, -⟩ | ⟨-, hno, -⟩ | ⟨hno, -⟩
    · have epq : p = q := nI2 hp hq (fx.symm.trans ex)
      rw [epq, km.1] at ew e2
      have hb2 : ¬ (if y = 0 then (svz h a b).1 (11 + 8 * q + 7) 6 else (svz h a b).1 (11 + 8 * q + 7) 7) = 0 := by
        rw [svz_lo _ _ _ (by omega) (by omega)]; exact hb
      obtain ⟨k1, k2⟩ := dl_eq I.rs (by omega) hq (z := z) hb2
      have hv : v7.toInt64 = v9.toInt64 := by rw [ev, ew, k2]
      rw [e2, eh, er, ← hv, eg]
      exact ok_push I (by omega) (dl_lo hq _ _) (k1.up (by omega))
    · have epq : p = q := nI2 hp hq (fx.symm.trans ex)
      rw [epq, km.1, wy_iff I hq] at hno
      exact absurd hno hb
    · exact absurd ((okR_in (z := y) (a := 0) (b := 1) (by decide) (by decide) rfl rfl).mpr hy) hno
    · exact absurd ⟨q, hq, ex⟩ hno
  · rcases hE with ⟨-, hno⟩ | ⟨e, -⟩ | ⟨e, -⟩
    · rcases hm with ⟨p, hp, fx, -⟩ | ⟨p, hp, fx, -⟩ | ⟨f1, -⟩ | ⟨-, -, e2⟩
      · exact absurd ⟨p, hp, fx⟩ hno
      · exact absurd ⟨p, hp, fx⟩ hno
      · exact absurd f1 hno
      · rw [e2, er, eg]; exact ok_bad I (AG.rf h) (by decide) (by decide)
    · exact absurd e (by decide)
    · exact absurd e (by decide)
  · rcases hE with ⟨e, -⟩ | ⟨-, k1, k3⟩ | ⟨e, -⟩
    · exact absurd e (by decide)
    · rcases hm with ⟨p, hp, fx, hin, -⟩ | ⟨p, hp, fx, hin, -⟩ | ⟨-, -, -, e2⟩ | ⟨hno, -⟩
      · exact absurd ((okR_in (z := y) (a := 0) (b := 1) (by decide) (by decide) rfl rfl).mp hin) k3
      · exact absurd ((okR_in (z := y) (a := 0) (b := 1) (by decide) (by decide) rfl rfl).mp hin) k3
      · rw [e2, er, eg]; exact ok_bad I (AG.rf h) (by decide) (by decide)
      · exact absurd k1 hno
    · exact absurd e (by decide)
  · rcases hE with ⟨e, -⟩ | ⟨e, -⟩ | ⟨-, q, hq, ex, hy, hb⟩
    · exact absurd e (by decide)
    · exact absurd e (by decide)
    · rcases hm with ⟨p, hp, fx, -, hno, -⟩ | ⟨p, hp, fx, -, -, -, e2⟩ | ⟨-, hno, -⟩ | ⟨hno, -⟩
      · have epq : p = q := nI2 hp hq (fx.symm.trans ex)
        rw [epq, km.1, wy_iff I hq] at hno
        exact absurd hb hno
      · rw [e2, er, eg]; exact ok_bad I (AG.rf h) (by decide) (by decide)
      · exact absurd ((okR_in (z := y) (a := 0) (b := 1) (by decide) (by decide) rfl rfl).mpr hy) hno
      · exact absurd ⟨q, hq, ex⟩ hno
theorem s_digest {n a b : Nat} {h h1 h2 : hS} {v7 v9 : Int64} (I : IAB n h a b) (hw : v7 = dgz h ∧ h1 = rt2 h) (hm : v9 = mdg (h1.2.1 92) b ∧ h2 = upL (upI h1 91 3 (nI 0)) 91 5 (mdg (h1.2.1 92) b)) : v7 = v9 ∧ ∃ a b : Nat, IAB (n + 1) h2 a b := by
  have x : AG h (rt2 h) := (AG.rt h 11 19).tr (AG.rt _ 19 11)
  obtain ⟨ev, eg⟩ := hw
  obtain ⟨ew, e2⟩ := hm
  have e9 : h1.2.1 92 = h.2.1 92 := by rw [eg]; exact x.2.2.2.2.1
  refine ⟨?_, a, b, ?_⟩
  · rw [ev, ew, e9]; exact dg_eq I.rc I.2.2.1
  · rw [e2, eg]; exact I.keep (by omega) ((x.tr (AG.t3 _ _)).tr (AG.hash _ _))
theorem k_digest {n a b : Nat} {h h1 : hS} {v7 : Int64} (I : IAB n h a b) (hw : v7 = dgz h ∧ h1 = rt2 h) : KM h b h1 := by
  rw [hw.2]; exact km_ag I ((AG.rt h 11 19).tr (AG.rt _ 19 11))
