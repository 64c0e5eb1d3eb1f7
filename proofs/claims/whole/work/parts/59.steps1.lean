/-! THE STEPS: a call of the class, then the same call of the reference -/
/-- the reference has not been touched -/
def KM (h : hS) (b : Nat) (g : hS) : Prop := g.2.1 92 = h.2.1 92 ∧ g.1 91 2 = nI b
theorem km_ag {n a b : Nat} {h g : hS} (I : IAB n h a b) (x : AG h g) : KM h b g := ⟨x.2.2.2.2.1, x.2.2.2.1.trans I.2.2.2.1⟩
theorem km_lo {n a b : Nat} {h g : hS} (I : IAB n h a b) (x : LO (svz h a b) g) : KM h b g := ⟨(x.2 92 (by omega)).trans (svz_loL _ _ _ (by omega)), by rw [x.1 91 (by omega), svz_lo _ _ _ (by omega) (by omega)]; exact I.2.2.2.1⟩
theorem KM.o95 {h g : hS} {b : Nat} (x : KM h b g) (v : Int64) : KM h b (upL g 95 0 v) := ⟨(upL_o _ _ _ (by decide)).trans x.1, x.2⟩
theorem KM.oD {h g : hS} {b : Nat} (x : KM h b g) (v : UInt64) : KM h b (upD g 0 v) := x
def OKd (n : Nat) (r : Int32) (v : UInt64) (g : hS) : Prop := g.1 91 3 = r ∧ (r = nI 0 → g.2.2 0 = v) ∧ ∃ a b : Nat, IAB n g a b
theorem wk_eq {n q : Nat} {h : hS} {R : Nat → Int64} (x : RC n h R) (hq : q < 2) : mwk R q = wkz h (11 + 8 * q) (11 + 8 * (1 - q)) := by
  obtain ⟨e0, e1, e2, e3, e4, e5, e6, -⟩ := x.2.2.2 q hq
  exact amin_congr 16 (fun t ht => (mg_ne (x.v hq) e4 e6 ht).symm) (fun t ht => mgP_eq x hq ht)
theorem lm_eq {n q : Nat} {h : hS} {R : Nat → Int64} (x : RC n h R) (hq : q < 2) : mlm R q = lmz h (11 + 8 * q) (11 + 8 * (1 - q)) := by
  unfold mlm lmz
  rw [wk_eq x hq]
  rcases hw : wkz h (11 + 8 * q) (11 + 8 * (1 - q)) with _ | t
  · rfl
  · exact mgP_eq x hq (amin_bd hw).1
theorem sg_eq {n q : Nat} {h : hS} {R : Nat → Int64} (x : RC n h R) (hq : q < 2) : oI (msg R q) = sgz h (11 + 8 * q) (11 + 8 * (1 - q)) := by
  obtain ⟨e0, e1, e2, e3, e4, e5, e6, -⟩ := x.2.2.2 q hq
  unfold msg sgz
  rw [wk_eq x hq, rtz_3, rtz_4, rtz_5]
  rcases wkz h (11 + 8 * q) (11 + 8 * (1 - q)) with _ | t
  · rfl
  · dsimp only
    rw [ch_eq (x.v hq) e4 e3 (nI t)]
    show _ = match chz (dnP h (11 + 8 * q) (11 + 8 * (1 - q))) (h.1 (11 + 8 * q + 3)) (h.1 (11 + 8 * q + 4)) (nI t) with
      | none => -1
      | some b => nI (16 * t + b)
    rcases chz (dnP h (11 + 8 * q) (11 + 8 * (1 - q))) (h.1 (11 + 8 * q + 3)) (h.1 (11 + 8 * q + 4)) (nI t) with _ | u <;> rfl
theorem bt_eq {n q : Nat} {h : hS} {R : Nat → Int64} (x : RC n h R) (hq : q < 2) : ∀ k : Nat, k ≤ 16 → mbt R q k = btz h (11 + 8 * q) (11 + 8 * (1 - q)) k
  | 0, _ => rfl
  | k + 1, hk => by
    rw [mbt, btz, bt_eq x hq k (by omega), mgP_eq x hq (by omega)]
    by_cases c : ¬ mgP h (11 + 8 * q) (11 + 8 * (1 - q)) k = -1 ∧ mgP h (11 + 8 * q) (11 + 8 * (1 - q)) k < 100
    · rw [if_pos c, if_pos c]
    · rw [if_neg c, if_neg c]
      exact Int32.or_zero
theorem is_eq {n q : Nat} {h : hS} {R : Nat → Int64} (x : RC n h R) (hq : q < 2) : mis R q 16 = decide (h.1 (11 + 8 * q) 9 = 0) := by
  obtain ⟨e0, e1, e2, e3, e4, e5, e6, e7, e8, -⟩ := x.2.2.2 q hq
  have e8 : h.1 (11 + 8 * q) 9 = bI (dfz (h.1 (11 + 8 * q + 4)) (h.1 (11 + 8 * q + 5)) 16) := e8
  rw [mis_eq e4 e5 16 (by omega), e8]
  show (!dfz (h.1 (11 + 8 * q + 4)) (h.1 (11 + 8 * q + 5)) 16) = _
  rcases dfz (h.1 (11 + 8 * q + 4)) (h.1 (11 + 8 * q + 5)) 16 with _ | _ <;> rfl
theorem tt (x : Int32) : x.toInt64.toInt32 = x := Int32.toInt32_toInt64 x

theorem k_rate {n a b : Nat} {h h1 : hS} {x : Int32} {r9 : Int32} (I : IAB n h a b) (hw : (∃ (v7 : Int32) (g7 : hS), (fun r h' => ∃ q : Nat, q < 2 ∧ x = nI q ∧ r = sumI (h.1 (11 + 8 * q + 4)) 16 ∧ h' = h) v7 g7 ∧ r9 = nI 0 ∧ h1 = upL g7 95 0 v7.toInt64) ∨ ((fun (E : String) (h' : hS) => E = xIO ∧ ¬ isP x ∧ h' = h) xIO h1 ∧ r9 = nI 1)) : KM h b h1 := by
  rcases hw with ⟨v7, g7, ⟨q, hq, ex, ev, eg⟩, er, eh⟩ | ⟨⟨-, hno, eg⟩, er⟩
  · rw [eh]; exact (km_ag I (by rw [eg]; exact AG.rf h)).o95 _
  · rw [eg]; exact km_ag I (AG.rf h)
theorem s_rate {n a b : Nat} {h h1 h2 : hS} {x : Int32} {r9 : Int32} {v9 : Int32}  (I : IAB n h a b) (hn : n < 512) (hw : (∃ (v7 : Int32) (g7 : hS), (fun r h' => ∃ q : Nat, q < 2 ∧ x = nI q ∧ r = sumI (h.1 (11 + 8 * q + 4)) 16 ∧ h' = h) v7 g7 ∧ r9 = nI 0 ∧ h1 = upL g7 95 0 v7.toInt64) ∨ ((fun (E : String) (h' : hS) => E = xIO ∧ ¬ isP x ∧ h' = h) xIO h1 ∧ r9 = nI 1)) (hm : (fun (h : hS) (r : Int32) (h' : hS) => (∃ q : Nat, q < 2 ∧ x = nI q ∧ r = (sumL (fun t => h.2.1 92 (1 + 116 * q + (49 + t))) 16).toInt32 ∧ h' = upI h 91 3 (nI 0)) ∨ (¬ isP x ∧ r = nI 0 ∧ h' = upI h 91 3 (nI 1))) h1 v9 h2) : OKs (n + 1) r9 v9.toInt64 h2 := by
  have km := k_rate I hw
  rcases hw with ⟨v7, g7, ⟨q, hq, ex, ev, eg⟩, er, eh⟩ | ⟨⟨-, hno, eg⟩, er⟩
  · rcases hm with ⟨p, hp, ey, ew, e2⟩ | ⟨hno, -⟩
    · have epq : p = q := nI2 hp hq (ey.symm.trans ex)
      rw [epq, km.1] at ew
      have hv : v7.toInt64 = v9.toInt64 := by
        rw [ev, ew]
        rw [rate_eq (c := h.1 (11 + 8 * q + 4)) (I.rc.2.2.2 q hq).2.2.2.2.1]
      rw [e2, eh, er, ← hv]
      exact ok_read I (by rw [eg]; exact AG.rf h)
    · exact absurd ⟨q, hq, ex⟩ hno
  · rcases hm with ⟨p, hp, ey, -⟩ | ⟨-, -, e2⟩
    · exact absurd ⟨p, hp, ey⟩ hno
    · rw [e2, er, eg]; exact ok_bad I (AG.rf h) (by decide) (by decide)
theorem k_totalEnergy {n a b : Nat} {h h1 : hS} {x : Int32} {r9 : Int32} (I : IAB n h a b) (hw : (∃ (v7 : Int64) (g7 : hS), (fun r h' => ∃ q : Nat, q < 2 ∧ x = nI q ∧ r = sumL (h.2.1 (11 + 8 * q + 6)) 16 ∧ h' = h) v7 g7 ∧ r9 = nI 0 ∧ h1 = upL g7 95 0 v7) ∨ ((fun (E : String) (h' : hS) => E = xIO ∧ ¬ isP x ∧ h' = h) xIO h1 ∧ r9 = nI 1)) : KM h b h1 := by
  rcases hw with ⟨v7, g7, ⟨q, hq, ex, ev, eg⟩, er, eh⟩ | ⟨⟨-, hno, eg⟩, er⟩
  · rw [eh]; exact (km_ag I (by rw [eg]; exact AG.rf h)).o95 _
  · rw [eg]; exact km_ag I (AG.rf h)
theorem s_totalEnergy {n a b : Nat} {h h1 h2 : hS} {x : Int32} {r9 : Int32} {v9 : Int64}  (I : IAB n h a b) (hn : n < 512) (hw : (∃ (v7 : Int64) (g7 : hS), (fun r h' => ∃ q : Nat, q < 2 ∧ x = nI q ∧ r = sumL (h.2.1 (11 + 8 * q + 6)) 16 ∧ h' = h) v7 g7 ∧ r9 = nI 0 ∧ h1 = upL g7 95 0 v7) ∨ ((fun (E : String) (h' : hS) => E = xIO ∧ ¬ isP x ∧ h' = h) xIO h1 ∧ r9 = nI 1)) (hm : (fun (h : hS) (r : Int64) (h' : hS) => (∃ q : Nat, q < 2 ∧ x = nI q ∧ r = sumL (fun t => h.2.1 92 (1 + 116 * q + (81 + t))) 16 ∧ h' = upI h 91 3 (nI 0)) ∨ (¬ isP x ∧ r = 0 ∧ h' = upI h 91 3 (nI 1))) h1 v9 h2) : OKs (n + 1) r9 v9 h2 := by
  have km := k_totalEnergy I hw
  rcases hw with ⟨v7, g7, ⟨q, hq, ex, ev, eg⟩, er, eh⟩ | ⟨⟨-, hno, eg⟩, er⟩
  · rcases hm with ⟨p, hp, ey, ew, e2⟩ | ⟨hno, -⟩
    · have epq : p = q := nI2 hp hq (ey.symm.trans ex)
      rw [epq, km.1] at ew
      have hv : v7 = v9 := by
        rw [ev, ew]
        exact (sumL_c (fun t ht => ((I.rc.2.2.2 q hq).2.2.2.2.2.2.1 t ht).1)).symm
      rw [e2, eh, er, ← hv]
      exact ok_read I (by rw [eg]; exact AG.rf h)
    · exact absurd ⟨q, hq, ex⟩ hno
  · rcases hm with ⟨p, hp, ey, -⟩ | ⟨-, -, e2⟩
    · exact absurd ⟨p, hp, ey⟩ hno
    · rw [e2, er, eg]; exact ok_bad I (AG.rf h) (by decide) (by decide)
theorem k_leastMargin {n a b : Nat} {h h1 : hS} {x : Int32} {r9 : Int32} (I : IAB n h a b) (hw : (∃ (v7 : Int64) (g7 : hS), (fun r h' => ∃ q : Nat, q < 2 ∧ x = nI q ∧ r = lmz h (11 + 8 * q) (11 + 8 * (1 - q)) ∧ h' = h) v7 g7 ∧ r9 = nI 0 ∧ h1 = upL g7 95 0 v7) ∨ ((fun (E : String) (h' : hS) => E = xIO ∧ ¬ isP x ∧ h' = h) xIO h1 ∧ r9 = nI 1)) : KM h b h1 := by
  rcases hw with ⟨v7, g7, ⟨q, hq, ex, ev, eg⟩, er, eh⟩ | ⟨⟨-, hno, eg⟩, er⟩
  · rw [eh]; exact (km_ag I (by rw [eg]; exact AG.rf h)).o95 _
  · rw [eg]; exact km_ag I (AG.rf h)
theorem s_leastMargin {n a b : Nat} {h h1 h2 : hS} {x : Int32} {r9 : Int32} {v9 : Int64}  (I : IAB n h a b) (hn : n < 512) (hw : (∃ (v7 : Int64) (g7 : hS), (fun r h' => ∃ q : Nat, q < 2 ∧ x = nI q ∧ r = lmz h (11 + 8 * q) (11 + 8 * (1 - q)) ∧ h' = h) v7 g7 ∧ r9 = nI 0 ∧ h1 = upL g7 95 0 v7) ∨ ((fun (E : String) (h' : hS) => E = xIO ∧ ¬ isP x ∧ h' = h) xIO h1 ∧ r9 = nI 1)) (hm : (fun (h : hS) (r : Int64) (h' : hS) => (∃ q : Nat, q < 2 ∧ x = nI q ∧ r = mlm (h.2.1 92) q ∧ h' = upI h 91 3 (nI 0)) ∨ (¬ isP x ∧ r = 0 ∧ h' = upI h 91 3 (nI 1))) h1 v9 h2) : OKs (n + 1) r9 v9 h2 := by
  have km := k_leastMargin I hw
  rcases hw with ⟨v7, g7, ⟨q, hq, ex, ev, eg⟩, er, eh⟩ | ⟨⟨-, hno, eg⟩, er⟩
  · rcases hm with ⟨p, hp, ey, ew, e2⟩ | ⟨hno, -⟩
    · have epq : p = q := nI2 hp hq (ey.symm.trans ex)
      rw [epq, km.1] at ew
      have hv : v7 = v9 := by
        rw [ev, ew]
        exact (lm_eq I.rc hq).symm
      rw [e2, eh, er, ← hv]
      exact ok_read I (by rw [eg]; exact AG.rf h)
    · exact absurd ⟨q, hq, ex⟩ hno
  · rcases hm with ⟨p, hp, ey, -⟩ | ⟨-, -, e2⟩
    · exact absurd ⟨p, hp, ey⟩ hno
    · rw [e2, er, eg]; exact ok_bad I (AG.rf h) (by decide) (by decide)
theorem k_badTones {n a b : Nat} {h h1 : hS} {x : Int32} {r9 : Int32} (I : IAB n h a b) (hw : (∃ (v7 : Int32) (g7 : hS), (fun r h' => ∃ q : Nat, q < 2 ∧ x = nI q ∧ r = btz h (11 + 8 * q) (11 + 8 * (1 - q)) 16 ∧ h' = h) v7 g7 ∧ r9 = nI 0 ∧ h1 = upL g7 95 0 v7.toInt64) ∨ ((fun (E : String) (h' : hS) => E = xIO ∧ ¬ isP x ∧ h' = h) xIO h1 ∧ r9 = nI 1)) : KM h b h1 := by
  rcases hw with ⟨v7, g7, ⟨q, hq, ex, ev, eg⟩, er, eh⟩ | ⟨⟨-, hno, eg⟩, er⟩
  · rw [eh]; exact (km_ag I (by rw [eg]; exact AG.rf h)).o95 _
  · rw [eg]; exact km_ag I (AG.rf h)
theorem s_badTones {n a b : Nat} {h h1 h2 : hS} {x : Int32} {r9 : Int32} {v9 : Int32}  (I : IAB n h a b) (hn : n < 512) (hw : (∃ (v7 : Int32) (g7 : hS), (fun r h' => ∃ q : Nat, q < 2 ∧ x = nI q ∧ r = btz h (11 + 8 * q) (11 + 8 * (1 - q)) 16 ∧ h' = h) v7 g7 ∧ r9 = nI 0 ∧ h1 = upL g7 95 0 v7.toInt64) ∨ ((fun (E : String) (h' : hS) => E = xIO ∧ ¬ isP x ∧ h' = h) xIO h1 ∧ r9 = nI 1)) (hm : (fun (h : hS) (r : Int32) (h' : hS) => (∃ q : Nat, q < 2 ∧ x = nI q ∧ r = mbt (h.2.1 92) q 16 ∧ h' = upI h 91 3 (nI 0)) ∨ (¬ isP x ∧ r = nI 0 ∧ h' = upI h 91 3 (nI 1))) h1 v9 h2) : OKs (n + 1) r9 v9.toInt64 h2 := by
  have km := k_badTones I hw
  rcases hw with ⟨v7, g7, ⟨q, hq, ex, ev, eg⟩, er, eh⟩ | ⟨⟨-, hno, eg⟩, er⟩
  · rcases hm with ⟨p, hp, ey, ew, e2⟩ | ⟨hno, -⟩
    · have epq : p = q := nI2 hp hq (ey.symm.trans ex)
      rw [epq, km.1] at ew
      have hv : v7.toInt64 = v9.toInt64 := by
        rw [ev, ew]
        rw [bt_eq I.rc hq 16 (by omega)]
      rw [e2, eh, er, ← hv]
      exact ok_read I (by rw [eg]; exact AG.rf h)
    · exact absurd ⟨q, hq, ex⟩ hno
  · rcases hm with ⟨p, hp, ey, -⟩ | ⟨-, -, e2⟩
    · exact absurd ⟨p, hp, ey⟩ hno
    · rw [e2, er, eg]; exact ok_bad I (AG.rf h) (by decide) (by decide)
theorem k_isEfficient {n a b : Nat} {h h1 : hS} {x : Int32} {r9 : Int32} (I : IAB n h a b) (hw : (∃ (v7 : Int32) (g7 : hS), (fun r h' => ∃ q : Nat, q < 2 ∧ x = nI q ∧ r = bI (effz (rtz h (11 + 8 * q) (11 + 8 * (1 - q)))) ∧ h' = rtz h (11 + 8 * q) (11 + 8 * (1 - q))) v7 g7 ∧ r9 = nI 0 ∧ h1 = upL g7 95 0 (if v7 = 0 then 0 else 1)) ∨ ((fun (E : String) (h' : hS) => E = xIO ∧ ¬ isP x ∧ h' = h) xIO h1 ∧ r9 = nI 1)) : KM h b h1 := by
  rcases hw with ⟨v7, g7, ⟨q, hq, ex, ev, eg⟩, er, eh⟩ | ⟨⟨-, hno, eg⟩, er⟩
  · rw [eh]; exact (km_ag I (by rw [eg]; exact AG.rt h _ _)).o95 _
  · rw [eg]; exact km_ag I (AG.rf h)
theorem s_isEfficient {n a b : Nat} {h h1 h2 : hS} {x : Int32} {r9 : Int32} {v9 : Int32}  (I : IAB n h a b) (hn : n < 512) (hw : (∃ (v7 : Int32) (g7 : hS), (fun r h' => ∃ q : Nat, q < 2 ∧ x = nI q ∧ r = bI (effz (rtz h (11 + 8 * q) (11 + 8 * (1 - q)))) ∧ h' = rtz h (11 + 8 * q) (11 + 8 * (1 - q))) v7 g7 ∧ r9 = nI 0 ∧ h1 = upL g7 95 0 (if v7 = 0 then 0 else 1)) ∨ ((fun (E : String) (h' : hS) => E = xIO ∧ ¬ isP x ∧ h' = h) xIO h1 ∧ r9 = nI 1)) (hm : (fun (h : hS) (r : Int32) (h' : hS) => (∃ q : Nat, q < 2 ∧ x = nI q ∧ r = bI (mef (h.2.1 92) q) ∧ h' = upI h 91 3 (nI 0)) ∨ (¬ isP x ∧ r = nI 0 ∧ h' = upI h 91 3 (nI 1))) h1 v9 h2) : OKs (n + 1) r9 (if v9 = 0 then 0 else 1) h2 := by
  have km := k_isEfficient I hw
  rcases hw with ⟨v7, g7, ⟨q, hq, ex, ev, eg⟩, er, eh⟩ | ⟨⟨-, hno, eg⟩, er⟩
  · rcases hm with ⟨p, hp, ey, ew, e2⟩ | ⟨hno, -⟩
    · have epq : p = q := nI2 hp hq (ey.symm.trans ex)
      rw [epq, km.1] at ew
      have hv : (if v7 = 0 then (0 : Int64) else 1) = (if v9 = 0 then (0 : Int64) else 1) := by
        rw [ev, ew]
        rw [eff_eq I.rc hq]
      rw [e2, eh, er, ← hv]
      exact ok_read I (by rw [eg]; exact AG.rt h _ _)
    · exact absurd ⟨q, hq, ex⟩ hno
  · rcases hm with ⟨p, hp, ey, -⟩ | ⟨-, -, e2⟩
    · exact absurd ⟨p, hp, ey⟩ hno
    · rw [e2, er, eg]; exact ok_bad I (AG.rf h) (by decide) (by decide)
theorem k_suggest {n a b : Nat} {h h1 : hS} {x : Int32} {r9 : Int32} (I : IAB n h a b) (hw : (∃ (v7 : Int32) (g7 : hS), (fun r h' => ∃ q : Nat, q < 2 ∧ x = nI q ∧ r = sgz h (11 + 8 * q) (11 + 8 * (1 - q)) ∧ (h' = h ∨ h' = rtz h (11 + 8 * q) (11 + 8 * (1 - q)))) v7 g7 ∧ r9 = nI 0 ∧ h1 = upL g7 95 0 v7.toInt64) ∨ ((fun (E : String) (h' : hS) => E = xIO ∧ ¬ isP x ∧ h' = h) xIO h1 ∧ r9 = nI 1)) : KM h b h1 := by
  rcases hw with ⟨v7, g7, ⟨q, hq, ex, ev, eg⟩, er, eh⟩ | ⟨⟨-, hno, eg⟩, er⟩
  · rw [eh]; exact (km_ag I (show AG h g7 from eg.elim (fun e => by rw [e]; exact AG.rf h) (fun e => by rw [e]; exact AG.rt h _ _))).o95 _
  · rw [eg]; exact km_ag I (AG.rf h)
theorem s_suggest {n a b : Nat} {h h1 h2 : hS} {x : Int32} {r9 : Int32} {v9 : Int32}  (I : IAB n h a b) (hn : n < 512) (hw : (∃ (v7 : Int32) (g7 : hS), (fun r h' => ∃ q : Nat, q < 2 ∧ x = nI q ∧ r = sgz h (11 + 8 * q) (11 + 8 * (1 - q)) ∧ (h' = h ∨ h' = rtz h (11 + 8 * q) (11 + 8 * (1 - q)))) v7 g7 ∧ r9 = nI 0 ∧ h1 = upL g7 95 0 v7.toInt64) ∨ ((fun (E : String) (h' : hS) => E = xIO ∧ ¬ isP x ∧ h' = h) xIO h1 ∧ r9 = nI 1)) (hm : (fun (h : hS) (r : Int32) (h' : hS) => (∃ q : Nat, q < 2 ∧ x = nI q ∧ r = oI (msg (h.2.1 92) q) ∧ h' = upI h 91 3 (nI 0)) ∨ (¬ isP x ∧ r = nI 0 ∧ h' = upI h 91 3 (nI 1))) h1 v9 h2) : OKs (n + 1) r9 v9.toInt64 h2 := by
  have km := k_suggest I hw
  rcases hw with ⟨v7, g7, ⟨q, hq, ex, ev, eg⟩, er, eh⟩ | ⟨⟨-, hno, eg⟩, er⟩
  · rcases hm with ⟨p, hp, ey, ew, e2⟩ | ⟨hno, -⟩
    · have epq : p = q := nI2 hp hq (ey.symm.trans ex)
      rw [epq, km.1] at ew
      have hv : v7.toInt64 = v9.toInt64 := by
        rw [ev, ew]
        rw [sg_eq I.rc hq]
      rw [e2, eh, er, ← hv]
      exact ok_read I (show AG h g7 from eg.elim (fun e => by rw [e]; exact AG.rf h) (fun e => by rw [e]; exact AG.rt h _ _))
    · exact absurd ⟨q, hq, ex⟩ hno
  · rcases hm with ⟨p, hp, ey, -⟩ | ⟨-, -, e2⟩
    · exact absurd ⟨p, hp, ey⟩ hno
    · rw [e2, er, eg]; exact ok_bad I (AG.rf h) (by decide) (by decide)
theorem k_inStep {n a b : Nat} {h h1 : hS} {x : Int32} {r9 : Int32} (I : IAB n h a b) (hw : (∃ (v7 : Int32) (g7 : hS), (fun r h' => ∃ q : Nat, q < 2 ∧ x = nI q ∧ r = bI (decide (h.1 (11 + 8 * q) 9 = 0)) ∧ h' = h) v7 g7 ∧ r9 = nI 0 ∧ h1 = upL g7 95 0 (if v7 = 0 then 0 else 1)) ∨ ((fun (E : String) (h' : hS) => E = xIO ∧ ¬ isP x ∧ h' = h) xIO h1 ∧ r9 = nI 1)) : KM h b h1 := by
  rcases hw with ⟨v7, g7, ⟨q, hq, ex, ev, eg⟩, er, eh⟩ | ⟨⟨-, hno, eg⟩, er⟩
  · rw [eh]; exact (km_ag I (by rw [eg]; exact AG.rf h)).o95 _
  · rw [eg]; exact km_ag I (AG.rf h)
theorem s_inStep {n a b : Nat} {h h1 h2 : hS} {x : Int32} {r9 : Int32} {v9 : Int32}  (I : IAB n h a b) (hn : n < 512) (hw : (∃ (v7 : Int32) (g7 : hS), (fun r h' => ∃ q : Nat, q < 2 ∧ x = nI q ∧ r = bI (decide (h.1 (11 + 8 * q) 9 = 0)) ∧ h' = h) v7 g7 ∧ r9 = nI 0 ∧ h1 = upL g7 95 0 (if v7 = 0 then 0 else 1)) ∨ ((fun (E : String) (h' : hS) => E = xIO ∧ ¬ isP x ∧ h' = h) xIO h1 ∧ r9 = nI 1)) (hm : (fun (h : hS) (r : Int32) (h' : hS) => (∃ q : Nat, q < 2 ∧ x = nI q ∧ r = bI (mis (h.2.1 92) q 16) ∧ h' = upI h 91 3 (nI 0)) ∨ (¬ isP x ∧ r = nI 0 ∧ h' = upI h 91 3 (nI 1))) h1 v9 h2) : OKs (n + 1) r9 (if v9 = 0 then 0 else 1) h2 := by
  have km := k_inStep I hw
  rcases hw with ⟨v7, g7, ⟨q, hq, ex, ev, eg⟩, er, eh⟩ | ⟨⟨-, hno, eg⟩, er⟩
  · rcases hm with ⟨p, hp, ey, ew, e2⟩ | ⟨hno, -⟩
    · have epq : p = q := nI2 hp hq (ey.symm.trans ex)
      rw [epq, km.1] at ew
      have hv : (if v7 = 0 then (0 : Int64) else 1) = (if v9 = 0 then (0 : Int64) else 1) := by
        rw [ev, ew]
        rw [is_eq I.rc hq]
      rw [e2, eh, er, ← hv]
      exact ok_read I (by rw [eg]; exact AG.rf h)
    · exact absurd ⟨q, hq, ex⟩ hno
  · rcases hm with ⟨p, hp, ey, -⟩ | ⟨-, -, e2⟩
    · exact absurd ⟨p, hp, ey⟩ hno
    · rw [e2, er, eg]; exact ok_bad I (AG.rf h) (by decide) (by decide)
theorem k_brokenFrames {n a b : Nat} {h h1 : hS} {x : Int32} {r9 : Int32} (I : IAB n h a b) (hw : (∃ (v7 : Int32) (g7 : hS), (fun r h' => ∃ q : Nat, q < 2 ∧ x = nI q ∧ r = h.1 (11 + 8 * q) 8 ∧ h' = h) v7 g7 ∧ r9 = nI 0 ∧ h1 = upL g7 95 0 v7.toInt64) ∨ ((fun (E : String) (h' : hS) => E = xIO ∧ ¬ isP x ∧ h' = h) xIO h1 ∧ r9 = nI 1)) : KM h b h1 := by
  rcases hw with ⟨v7, g7, ⟨q, hq, ex, ev, eg⟩, er, eh⟩ | ⟨⟨-, hno, eg⟩, er⟩
  · rw [eh]; exact (km_ag I (by rw [eg]; exact AG.rf h)).o95 _
  · rw [eg]; exact km_ag I (AG.rf h)
theorem s_brokenFrames {n a b : Nat} {h h1 h2 : hS} {x : Int32} {r9 : Int32} {v9 : Int32}  (I : IAB n h a b) (hn : n < 512) (hw : (∃ (v7 : Int32) (g7 : hS), (fun r h' => ∃ q : Nat, q < 2 ∧ x = nI q ∧ r = h.1 (11 + 8 * q) 8 ∧ h' = h) v7 g7 ∧ r9 = nI 0 ∧ h1 = upL g7 95 0 v7.toInt64) ∨ ((fun (E : String) (h' : hS) => E = xIO ∧ ¬ isP x ∧ h' = h) xIO h1 ∧ r9 = nI 1)) (hm : (fun (h : hS) (r : Int32) (h' : hS) => (∃ q : Nat, q < 2 ∧ x = nI q ∧ r = (h.2.1 92 (1 + 116 * q + 115)).toInt32 ∧ h' = upI h 91 3 (nI 0)) ∨ (¬ isP x ∧ r = nI 0 ∧ h' = upI h 91 3 (nI 1))) h1 v9 h2) : OKs (n + 1) r9 v9.toInt64 h2 := by
  have km := k_brokenFrames I hw
  rcases hw with ⟨v7, g7, ⟨q, hq, ex, ev, eg⟩, er, eh⟩ | ⟨⟨-, hno, eg⟩, er⟩
  · rcases hm with ⟨p, hp, ey, ew, e2⟩ | ⟨hno, -⟩
    · have epq : p = q := nI2 hp hq (ey.symm.trans ex)
      rw [epq, km.1] at ew
      have hv : v7.toInt64 = v9.toInt64 := by
        rw [ev, ew]
        rw [(show h.2.1 92 (1 + 116 * q + 115) = (h.1 (11 + 8 * q) 8).toInt64 from (I.rc.2.2.2 q hq).2.2.2.2.2.2.2.1.1), tt]
      rw [e2, eh, er, ← hv]
      exact ok_read I (by rw [eg]; exact AG.rf h)
    · exact absurd ⟨q, hq, ex⟩ hno
  · rcases hm with ⟨p, hp, ey, -⟩ | ⟨-, -, e2⟩
    · exact absurd ⟨p, hp, ey⟩ hno
    · rw [e2, er, eg]; exact ok_bad I (AG.rf h) (by decide) (by decide)
theorem k_meanBits {n a b : Nat} {h h1 : hS} {x : Int32} {r9 : Int32} (I : IAB n h a b) (hw : (∃ (v7 : UInt64) (g7 : hS), (fun r h' => ∃ q : Nat, q < 2 ∧ x = nI q ∧ r = FP.ddiv (FP.i2d (sumI (h.1 (11 + 8 * q + 4)) 16)) 4625196817309499392 ∧ h' = h) v7 g7 ∧ r9 = nI 0 ∧ h1 = upD g7 0 v7) ∨ ((fun (E : String) (h' : hS) => E = xIO ∧ ¬ isP x ∧ h' = h) xIO h1 ∧ r9 = nI 1)) : KM h b h1 := by
  rcases hw with ⟨v7, g7, ⟨q, hq, ex, ev, eg⟩, er, eh⟩ | ⟨⟨-, hno, eg⟩, er⟩
  · rw [eh]; exact (km_ag I (by rw [eg]; exact AG.rf h)).oD _
  · rw [eg]; exact km_ag I (AG.rf h)
theorem s_meanBits {n a b : Nat} {h h1 h2 : hS} {x : Int32} {r9 : Int32} {v9 : UInt64}  (I : IAB n h a b) (hn : n < 512) (hw : (∃ (v7 : UInt64) (g7 : hS), (fun r h' => ∃ q : Nat, q < 2 ∧ x = nI q ∧ r = FP.ddiv (FP.i2d (sumI (h.1 (11 + 8 * q + 4)) 16)) 4625196817309499392 ∧ h' = h) v7 g7 ∧ r9 = nI 0 ∧ h1 = upD g7 0 v7) ∨ ((fun (E : String) (h' : hS) => E = xIO ∧ ¬ isP x ∧ h' = h) xIO h1 ∧ r9 = nI 1)) (hm : (fun (h : hS) (r : UInt64) (h' : hS) => (∃ q : Nat, q < 2 ∧ x = nI q ∧ r = FP.ddiv (FP.i2d ((sumL (fun t => h.2.1 92 (1 + 116 * q + (49 + t))) 16).toInt32)) 4625196817309499392 ∧ h' = upI h 91 3 (nI 0)) ∨ (¬ isP x ∧ r = 0 ∧ h' = upI h 91 3 (nI 1))) h1 v9 h2) : OKd (n + 1) r9 v9 h2 := by
  have km := k_meanBits I hw
  rcases hw with ⟨v7, g7, ⟨q, hq, ex, ev, eg⟩, er, eh⟩ | ⟨⟨-, hno, eg⟩, er⟩
  · rcases hm with ⟨p, hp, ey, ew, e2⟩ | ⟨hno, -⟩
    · have epq : p = q := nI2 hp hq (ey.symm.trans ex)
      rw [epq, km.1] at ew
      have hv : v7 = v9 := by
        rw [ev, ew]
        rw [rate_eq (c := h.1 (11 + 8 * q + 4)) (I.rc.2.2.2 q hq).2.2.2.2.1]
      rw [e2, eh, er, ← hv]
      exact ⟨up3_s _ _, fun _ => rfl, a, b, I.keep (by omega) (((show AG h g7 from by rw [eg]; exact AG.rf h).tr (AG.oD _ _)).tr (AG.t3 _ _))⟩
    · exact absurd ⟨q, hq, ex⟩ hno
  · rcases hm with ⟨p, hp, ey, -⟩ | ⟨-, -, e2⟩
    · exact absurd ⟨p, hp, ey⟩ hno
    · rw [e2, er, eg]; exact ⟨up3_s _ _, fun w => absurd w (by decide), a, b, I.keep (by omega) (AG.t3 _ _)⟩
theorem k_energy {n a b : Nat} {h h1 : hS} {x y : Int32} {r9 : Int32} (I : IAB n h a b) (hw : (∃ (v7 : Int64) (g7 : hS), (fun r h' => ∃ q t : Nat, q < 2 ∧ t < 16 ∧ x = nI q ∧ y = nI t ∧ r = h.2.1 (11 + 8 * q + 6) t ∧ h' = h) v7 g7 ∧ r9 = nI 0 ∧ h1 = upL g7 95 0 v7) ∨ ((fun (E : String) (h' : hS) => E = xIO ∧ ¬ (isP x ∧ isT y) ∧ h' = h) xIO h1 ∧ r9 = nI 1)) : KM h b h1 := by
  rcases hw with ⟨v7, g7, ⟨q, t, hq, ht, ex, ey, ev, eg⟩, er, eh⟩ | ⟨⟨-, hno, eg⟩, er⟩
  · rw [eh]; exact (km_ag I (by rw [eg]; exact AG.rf h)).o95 _
  · rw [eg]; exact km_ag I (AG.rf h)
theorem s_energy {n a b : Nat} {h h1 h2 : hS} {x y : Int32} {r9 : Int32} {v9 : Int64}  (I : IAB n h a b) (hn : n < 512) (hw : (∃ (v7 : Int64) (g7 : hS), (fun r h' => ∃ q t : Nat, q < 2 ∧ t < 16 ∧ x = nI q ∧ y = nI t ∧ r = h.2.1 (11 + 8 * q + 6) t ∧ h' = h) v7 g7 ∧ r9 = nI 0 ∧ h1 = upL g7 95 0 v7) ∨ ((fun (E : String) (h' : hS) => E = xIO ∧ ¬ (isP x ∧ isT y) ∧ h' = h) xIO h1 ∧ r9 = nI 1)) (hm : (fun (h : hS) (r : Int64) (h' : hS) => (∃ q t : Nat, q < 2 ∧ t < 16 ∧ x = nI q ∧ y = nI t ∧ r = h.2.1 92 (1 + 116 * q + (81 + t)) ∧ h' = upI h 91 3 (nI 0)) ∨ (¬ (isP x ∧ isT y) ∧ r = 0 ∧ h' = upI h 91 3 (nI 1))) h1 v9 h2) : OKs (n + 1) r9 v9 h2 := by
  have km := k_energy I hw
  rcases hw with ⟨v7, g7, ⟨q, t, hq, ht, ex, ey, ev, eg⟩, er, eh⟩ | ⟨⟨-, hno, eg⟩, er⟩
  · rcases hm with ⟨p, u, hp, hu, fx, fy, ew, e2⟩ | ⟨hno, -⟩
    · have epq : p = q := nI2 hp hq (fx.symm.trans ex)
      have eut : u = t := nI16 hu ht (fy.symm.trans ey)
      rw [epq, eut, km.1] at ew
      have hv : v7 = v9 := by
        rw [ev, ew]
        exact ((I.rc.2.2.2 q hq).2.2.2.2.2.2.1 t ht).1.symm
      rw [e2, eh, er, ← hv]
      exact ok_read I (by rw [eg]; exact AG.rf h)
    · exact absurd ⟨⟨q, hq, ex⟩, t, ht, ey⟩ hno
  · rcases hm with ⟨p, u, hp, hu, fx, fy, -⟩ | ⟨-, -, e2⟩
    · exact absurd ⟨⟨p, hp, fx⟩, u, hu, fy⟩ hno
    · rw [e2, er, eg]; exact ok_bad I (AG.rf h) (by decide) (by decide)
theorem k_disturbedNoise {n a b : Nat} {h h1 : hS} {x y : Int32} {r9 : Int32} (I : IAB n h a b) (hw : (∃ (v7 : Int64) (g7 : hS), (fun r h' => ∃ q t : Nat, q < 2 ∧ t < 16 ∧ x = nI q ∧ y = nI t ∧ r = dnP h (11 + 8 * q) (11 + 8 * (1 - q)) t ∧ h' = h) v7 g7 ∧ r9 = nI 0 ∧ h1 = upL g7 95 0 v7) ∨ ((fun (E : String) (h' : hS) => E = xIO ∧ ¬ (isP x ∧ isT y) ∧ h' = h) xIO h1 ∧ r9 = nI 1)) : KM h b h1 := by
  rcases hw with ⟨v7, g7, ⟨q, t, hq, ht, ex, ey, ev, eg⟩, er, eh⟩ | ⟨⟨-, hno, eg⟩, er⟩
  · rw [eh]; exact (km_ag I (by rw [eg]; exact AG.rf h)).o95 _
  · rw [eg]; exact km_ag I (AG.rf h)
theorem s_disturbedNoise {n a b : Nat} {h h1 h2 : hS} {x y : Int32} {r9 : Int32} {v9 : Int64}  (I : IAB n h a b) (hn : n < 512) (hw : (∃ (v7 : Int64) (g7 : hS), (fun r h' => ∃ q t : Nat, q < 2 ∧ t < 16 ∧ x = nI q ∧ y = nI t ∧ r = dnP h (11 + 8 * q) (11 + 8 * (1 - q)) t ∧ h' = h) v7 g7 ∧ r9 = nI 0 ∧ h1 = upL g7 95 0 v7) ∨ ((fun (E : String) (h' : hS) => E = xIO ∧ ¬ (isP x ∧ isT y) ∧ h' = h) xIO h1 ∧ r9 = nI 1)) (hm : (fun (h : hS) (r : Int64) (h' : hS) => (∃ q t : Nat, q < 2 ∧ t < 16 ∧ x = nI q ∧ y = nI t ∧ r = mdn (h.2.1 92) q t ∧ h' = upI h 91 3 (nI 0)) ∨ (¬ (isP x ∧ isT y) ∧ r = 0 ∧ h' = upI h 91 3 (nI 1))) h1 v9 h2) : OKs (n + 1) r9 v9 h2 := by
  have km := k_disturbedNoise I hw
  rcases hw with ⟨v7, g7, ⟨q, t, hq, ht, ex, ey, ev, eg⟩, er, eh⟩ | ⟨⟨-, hno, eg⟩, er⟩
  · rcases hm with ⟨p, u, hp, hu, fx, fy, ew, e2⟩ | ⟨hno, -⟩
    · have epq : p = q := nI2 hp hq (fx.symm.trans ex)
      have eut : u = t := nI16 hu ht (fy.symm.trans ey)
      rw [epq, eut, km.1] at ew
      have hv : v7 = v9 := by
        rw [ev, ew]
        exact (I.rc.v hq t ht).1.symm
      rw [e2, eh, er, ← hv]
      exact ok_read I (by rw [eg]; exact AG.rf h)
    · exact absurd ⟨⟨q, hq, ex⟩, t, ht, ey⟩ hno
  · rcases hm with ⟨p, u, hp, hu, fx, fy, -⟩ | ⟨-, -, e2⟩
    · exact absurd ⟨⟨p, hp, fx⟩, u, hu, fy⟩ hno
    · rw [e2, er, eg]; exact ok_bad I (AG.rf h) (by decide) (by decide)
theorem k_margin {n a b : Nat} {h h1 : hS} {x y : Int32} {r9 : Int32} (I : IAB n h a b) (hw : (∃ (v7 : Int64) (g7 : hS), (fun r h' => ∃ q t : Nat, q < 2 ∧ t < 16 ∧ x = nI q ∧ y = nI t ∧ r = mgP h (11 + 8 * q) (11 + 8 * (1 - q)) t ∧ h' = h) v7 g7 ∧ r9 = nI 0 ∧ h1 = upL g7 95 0 v7) ∨ ((fun (E : String) (h' : hS) => E = xIO ∧ ¬ (isP x ∧ isT y) ∧ h' = h) xIO h1 ∧ r9 = nI 1)) : KM h b h1 := by
  rcases hw with ⟨v7, g7, ⟨q, t, hq, ht, ex, ey, ev, eg⟩, er, eh⟩ | ⟨⟨-, hno, eg⟩, er⟩
  · rw [eh]; exact (km_ag I (by rw [eg]; exact AG.rf h)).o95 _
  · rw [eg]; exact km_ag I (AG.rf h)
theorem s_margin {n a b : Nat} {h h1 h2 : hS} {x y : Int32} {r9 : Int32} {v9 : Int64}  (I : IAB n h a b) (hn : n < 512) (hw : (∃ (v7 : Int64) (g7 : hS), (fun r h' => ∃ q t : Nat, q < 2 ∧ t < 16 ∧ x = nI q ∧ y = nI t ∧ r = mgP h (11 + 8 * q) (11 + 8 * (1 - q)) t ∧ h' = h) v7 g7 ∧ r9 = nI 0 ∧ h1 = upL g7 95 0 v7) ∨ ((fun (E : String) (h' : hS) => E = xIO ∧ ¬ (isP x ∧ isT y) ∧ h' = h) xIO h1 ∧ r9 = nI 1)) (hm : (fun (h : hS) (r : Int64) (h' : hS) => (∃ q t : Nat, q < 2 ∧ t < 16 ∧ x = nI q ∧ y = nI t ∧ r = mmg (h.2.1 92) q t ∧ h' = upI h 91 3 (nI 0)) ∨ (¬ (isP x ∧ isT y) ∧ r = 0 ∧ h' = upI h 91 3 (nI 1))) h1 v9 h2) : OKs (n + 1) r9 v9 h2 := by
  have km := k_margin I hw
  rcases hw with ⟨v7, g7, ⟨q, t, hq, ht, ex, ey, ev, eg⟩, er, eh⟩ | ⟨⟨-, hno, eg⟩, er⟩
  · rcases hm with ⟨p, u, hp, hu, fx, fy, ew, e2⟩ | ⟨hno, -⟩
    · have epq : p = q := nI2 hp hq (fx.symm.trans ex)
      have eut : u = t := nI16 hu ht (fy.symm.trans ey)
      rw [epq, eut, km.1] at ew
      have hv : v7 = v9 := by
        rw [ev, ew]
        exact (mgP_eq I.rc hq ht).symm
      rw [e2, eh, er, ← hv]
      exact ok_read I (by rw [eg]; exact AG.rf h)
    · exact absurd ⟨⟨q, hq, ex⟩, t, ht, ey⟩ hno
  · rcases hm with ⟨p, u, hp, hu, fx, fy, -⟩ | ⟨-, -, e2⟩
    · exact absurd ⟨⟨p, hp, fx⟩, u, hu, fy⟩ hno
    · rw [e2, er, eg]; exact ok_bad I (AG.rf h) (by decide) (by decide)
theorem k_bits {n a b : Nat} {h h1 : hS} {x y z : Int32} {r9 : Int32} (I : IAB n h a b) (hw : (∃ (v7 : Int32) (g7 : hS), (fun r h' => ∃ q t : Nat, q < 2 ∧ t < 16 ∧ x = nI q ∧ y = nI t ∧ okR z (nI 0) (nI 1) ∧ (r = if z = 0 then h.1 (11 + 8 * q + 4) t else h.1 (11 + 8 * q + 5) t) ∧ h' = h) v7 g7 ∧ r9 = nI 0 ∧ h1 = upL g7 95 0 v7.toInt64) ∨ ((fun (E : String) (h' : hS) => h' = h ∧ ((E = xIO ∧ ¬ (isP x ∧ isT y)) ∨ (E = xIA ∧ isP x ∧ isT y ∧ ¬ okR z (nI 0) (nI 1)))) xIO h1 ∧ r9 = nI 1) ∨ ((fun (E : String) (h' : hS) => h' = h ∧ ((E = xIO ∧ ¬ (isP x ∧ isT y)) ∨ (E = xIA ∧ isP x ∧ isT y ∧ ¬ okR z (nI 0) (nI 1)))) xIA h1 ∧ r9 = nI 2)) : KM h b h1 := by
  rcases hw with ⟨v7, g7, ⟨q, t, hq, ht, ex, ey, hz, ev, eg⟩, er, eh⟩ | ⟨⟨eg, hE⟩, er⟩ | ⟨⟨eg, hE⟩, er⟩
  · rw [eh]; exact (km_ag I (by rw [eg]; exact AG.rf h)).o95 _
  · rw [eg]; exact km_ag I (AG.rf h)
  · rw [eg]; exact km_ag I (AG.rf h)
theorem isP_ok {z : Int32} : okR z (nI 0) (nI 1) ↔ isP z := by
  rw [← isP_in]
  exact (okR_in (a := 0) (b := 1) (by decide) (by decide) rfl rfl).symm
theorem s_bits {n a b : Nat} {h h1 h2 : hS} {x y z : Int32} {r9 : Int32} {v9 : Int32}  (I : IAB n h a b) (hn : n < 512) (hw : (∃ (v7 : Int32) (g7 : hS), (fun r h' => ∃ q t : Nat, q < 2 ∧ t < 16 ∧ x = nI q ∧ y = nI t ∧ okR z (nI 0) (nI 1) ∧ (r = if z = 0 then h.1 (11 + 8 * q + 4) t else h.1 (11 + 8 * q + 5) t) ∧ h' = h) v7 g7 ∧ r9 = nI 0 ∧ h1 = upL g7 95 0 v7.toInt64) ∨ ((fun (E : String) (h' : hS) => h' = h ∧ ((E = xIO ∧ ¬ (isP x ∧ isT y)) ∨ (E = xIA ∧ isP x ∧ isT y ∧ ¬ okR z (nI 0) (nI 1)))) xIO h1 ∧ r9 = nI 1) ∨ ((fun (E : String) (h' : hS) => h' = h ∧ ((E = xIO ∧ ¬ (isP x ∧ isT y)) ∨ (E = xIA ∧ isP x ∧ isT y ∧ ¬ okR z (nI 0) (nI 1)))) xIA h1 ∧ r9 = nI 2)) (hm : (fun (h : hS) (r : Int32) (h' : hS) => (∃ q t v : Nat, q < 2 ∧ t < 16 ∧ v < 2 ∧ x = nI q ∧ y = nI t ∧ z = nI v ∧ r = (h.2.1 92 (1 + 116 * q + (49 + 16 * v + t))).toInt32 ∧ h' = upI h 91 3 (nI 0)) ∨ (isP x ∧ isT y ∧ ¬ isP z ∧ r = nI 0 ∧ h' = upI h 91 3 (nI 2)) ∨ (¬ (isP x ∧ isT y) ∧ r = nI 0 ∧ h' = upI h 91 3 (nI 1))) h1 v9 h2) : OKs (n + 1) r9 v9.toInt64 h2 := by
  have km := k_bits I hw
  rcases hw with ⟨v7, g7, ⟨q, t, hq, ht, ex, ey, hz, ev, eg⟩, er, eh⟩ | ⟨⟨eg, hE⟩, er⟩ | ⟨⟨eg, hE⟩, er⟩
  · rcases hm with ⟨p, u, w, hp, hu, hw, fx, fy, fz, ew, e2⟩ | ⟨-, -, hno, -⟩ | ⟨hno, -⟩
    · have epq : p = q := nI2 hp hq (fx.symm.trans ex)
      have eut : u = t := nI16 hu ht (fy.symm.trans ey)
      rw [epq, eut, km.1] at ew
      have hv : v7.toInt64 = v9.toInt64 := by
        rw [ev, ew, fz]
        rcases (by omega : w = 0 ∨ w = 1) with rfl | rfl
        · rw [if_pos (by decide), show 1 + 116 * q + (49 + 16 * 0 + t) = 1 + 116 * q + (49 + t) by omega, ((I.rc.2.2.2 q hq).2.2.2.2.1 t ht).1, tt]
        · rw [if_neg (by decide), show 1 + 116 * q + (49 + 16 * 1 + t) = 1 + 116 * q + (65 + t) by omega, ((I.rc.2.2.2 q hq).2.2.2.2.2.1 t ht).1, tt]
      rw [e2, eh, er, ← hv]
      exact ok_read I (by rw [eg]; exact AG.rf h)
    · exact absurd (isP_ok.mp hz) hno
    · exact absurd ⟨⟨q, hq, ex⟩, t, ht, ey⟩ hno
  · rcases hE with ⟨-, hno⟩ | ⟨e, -⟩
    · rcases hm with ⟨p, u, w, hp, hu, hw, fx, fy, -⟩ | ⟨f1, f2, -⟩ | ⟨-, -, e2⟩
      · exact absurd ⟨⟨p, hp, fx⟩, u, hu, fy⟩ hno
      · exact absurd ⟨f1, f2⟩ hno
      · rw [e2, er, eg]; exact ok_bad I (AG.rf h) (by decide) (by decide)
    · exact absurd e (by decide)
  · rcases hE with ⟨e, -⟩ | ⟨-, k1, k2, k3⟩
    · exact absurd e (by decide)
    · rcases hm with ⟨p, u, w, hp, hu, hw, fx, fy, fz, -⟩ | ⟨-, -, -, -, e2⟩ | ⟨hno, -⟩
      · exact absurd (isP_ok.mpr ⟨w, hw, fz⟩) k3
      · rw [e2, er, eg]; exact ok_bad I (AG.rf h) (by decide) (by decide)
      · exact absurd ⟨k1, k2⟩ hno
theorem k_setNoise {n a b : Nat} {h h1 : hS} {x y z : Int32} {r9 : Int32} (I : IAB n h a b) (hw : (∃ (v7 : Int32) (g7 : hS), (fun r h' => ∃ q t : Nat, q < 2 ∧ t < 16 ∧ x = nI q ∧ y = nI t ∧ okR z (nI 1) (nI 10000) ∧ r = (svz h a b).1 (11 + 8 * q + 1) t ∧ h' = upI (svz h a b) (11 + 8 * q + 1) t z) v7 g7 ∧ r9 = nI 0 ∧ h1 = upL g7 95 0 v7.toInt64) ∨ ((fun (E : String) (h' : hS) => h' = h ∧ ((E = xIO ∧ ¬ (isP x ∧ isT y)) ∨ (E = xIA ∧ isP x ∧ isT y ∧ ¬ okR z (nI 1) (nI 10000)))) xIO h1 ∧ r9 = nI 1) ∨ ((fun (E : String) (h' : hS) => h' = h ∧ ((E = xIO ∧ ¬ (isP x ∧ isT y)) ∨ (E = xIA ∧ isP x ∧ isT y ∧ ¬ okR z (nI 1) (nI 10000)))) xIA h1 ∧ r9 = nI 2)) : KM h b h1 := by
  rcases hw with ⟨v7, g7, ⟨q, t, hq, ht, ex, ey, hz, ev, eg⟩, er, eh⟩ | ⟨⟨eg, hE⟩, er⟩ | ⟨⟨eg, hE⟩, er⟩
  · rw [eh]; exact (km_lo I (by rw [eg]; exact LO.uI _ _ _ (by omega))).o95 _
  · rw [eg]; exact km_ag I (AG.rf h)
  · rw [eg]; exact km_ag I (AG.rf h)
theorem s_setNoise {n a b : Nat} {h h1 h2 : hS} {x y z : Int32} {r9 : Int32} {v9 : Int32}  (I : IAB n h a b) (hn : n < 512) (hw : (∃ (v7 : Int32) (g7 : hS), (fun r h' => ∃ q t : Nat, q < 2 ∧ t < 16 ∧ x = nI q ∧ y = nI t ∧ okR z (nI 1) (nI 10000) ∧ r = (svz h a b).1 (11 + 8 * q + 1) t ∧ h' = upI (svz h a b) (11 + 8 * q + 1) t z) v7 g7 ∧ r9 = nI 0 ∧ h1 = upL g7 95 0 v7.toInt64) ∨ ((fun (E : String) (h' : hS) => h' = h ∧ ((E = xIO ∧ ¬ (isP x ∧ isT y)) ∨ (E = xIA ∧ isP x ∧ isT y ∧ ¬ okR z (nI 1) (nI 10000)))) xIO h1 ∧ r9 = nI 1) ∨ ((fun (E : String) (h' : hS) => h' = h ∧ ((E = xIO ∧ ¬ (isP x ∧ isT y)) ∨ (E = xIA ∧ isP x ∧ isT y ∧ ¬ okR z (nI 1) (nI 10000)))) xIA h1 ∧ r9 = nI 2)) (hm : (fun (h : hS) (r : Int32) (h' : hS) => (∃ q t : Nat, q < 2 ∧ t < 16 ∧ x = nI q ∧ y = nI t ∧ (¬ z.toInt64 < 1 ∧ ¬ 10000 < z.toInt64) ∧ r = (h.2.1 92 (1 + 116 * q + (1 + t))).toInt32 ∧ h' = upL (msv (upI h 91 3 (nI 0)) b) 92 (1 + 116 * q + (1 + t)) z.toInt64) ∨ (isP x ∧ isT y ∧ ¬ (¬ z.toInt64 < 1 ∧ ¬ 10000 < z.toInt64) ∧ r = nI 0 ∧ h' = upI h 91 3 (nI 2)) ∨ (¬ (isP x ∧ isT y) ∧ r = nI 0 ∧ h' = upI h 91 3 (nI 1))) h1 v9 h2) : OKs (n + 1) r9 v9.toInt64 h2 := by
  have km := k_setNoise I hw
  rcases hw with ⟨v7, g7, ⟨q, t, hq, ht, ex, ey, hz, ev, eg⟩, er, eh⟩ | ⟨⟨eg, hE⟩, er⟩ | ⟨⟨eg, hE⟩, er⟩
  · rcases hm with ⟨p, u, hp, hu, fx, fy, -, ew, e2⟩ | ⟨-, -, hno, -⟩ | ⟨hno, -⟩
    · have epq : p = q := nI2 hp hq (fx.symm.trans ex)
      have eut : u = t := nI16 hu ht (fy.symm.trans ey)
      rw [epq, eut, km.1] at ew
      rw [epq, eut] at e2
      have hv : v7.toInt64 = v9.toInt64 := by
        rw [ev, ew, svz_lo _ _ _ (by omega) (by omega), ((I.rc.2.2.2 q hq).2.1 t ht).1, tt]
      rw [e2, eh, er, ← hv, eg]
      obtain ⟨m, m1, m2⟩ : ∃ m : Int, z.toInt = m ∧ 1 ≤ m ∧ m ≤ 10000 := by
        obtain ⟨z1, z2⟩ := hz
        rw [Int32.lt_iff_toInt_lt, nI_toInt (by decide)] at z1
        rw [Int32.le_iff_toInt_le, nI_toInt (by decide)] at z2
        exact ⟨_, rfl, by omega, by omega⟩
      exact ok_set I (by omega) (by omega) ((I.rs.setN hq ht (by omega) (by omega)).up (by omega))
    · exact absurd ((okR_in (z := z) (a := 1) (b := 10000) (by decide) (by decide) rfl rfl).mpr hz) hno
    · exact absurd ⟨⟨q, hq, ex⟩, t, ht, ey⟩ hno
  · rcases hE with ⟨-, hno⟩ | ⟨e, -⟩
    · rcases hm with ⟨p, u, hp, hu, fx, fy, -⟩ | ⟨f1, f2, -⟩ | ⟨-, -, e2⟩
      · exact absurd ⟨⟨p, hp, fx⟩, u, hu, fy⟩ hno
      · exact absurd ⟨f1, f2⟩ hno
      · rw [e2, er, eg]; exact ok_bad I (AG.rf h) (by decide) (by decide)
    · exact absurd e (by decide)
  · rcases hE with ⟨e, -⟩ | ⟨-, k1, k2, k3⟩
    · exact absurd e (by decide)
    · rcases hm with ⟨p, u, hp, hu, fx, fy, hin, -⟩ | ⟨-, -, -, -, e2⟩ | ⟨hno, -⟩
      · exact absurd ((okR_in (z := z) (a := 1) (b := 10000) (by decide) (by decide) rfl rfl).mp hin) k3
      · rw [e2, er, eg]; exact ok_bad I (AG.rf h) (by decide) (by decide)
      · exact absurd ⟨k1, k2⟩ hno
theorem k_setCoupling {n a b : Nat} {h h1 : hS} {x y z : Int32} {r9 : Int32} (I : IAB n h a b) (hw : (∃ (v7 : Int32) (g7 : hS), (fun r h' => ∃ q t : Nat, q < 2 ∧ t < 16 ∧ x = nI q ∧ y = nI t ∧ okR z (nI 0) (nI 1000) ∧ r = (svz h a b).1 (11 + 8 * q + 2) t ∧ h' = upI (svz h a b) (11 + 8 * q + 2) t z) v7 g7 ∧ r9 = nI 0 ∧ h1 = upL g7 95 0 v7.toInt64) ∨ ((fun (E : String) (h' : hS) => h' = h ∧ ((E = xIO ∧ ¬ (isP x ∧ isT y)) ∨ (E = xIA ∧ isP x ∧ isT y ∧ ¬ okR z (nI 0) (nI 1000)))) xIO h1 ∧ r9 = nI 1) ∨ ((fun (E : String) (h' : hS) => h' = h ∧ ((E = xIO ∧ ¬ (isP x ∧ isT y)) ∨ (E = xIA ∧ isP x ∧ isT y ∧ ¬ okR z (nI 0) (nI 1000)))) xIA h1 ∧ r9 = nI 2)) : KM h b h1 := by
  rcases hw with ⟨v7, g7, ⟨q, t, hq, ht, ex, ey, hz, ev, eg⟩, er, eh⟩ | ⟨⟨eg, hE⟩, er⟩ | ⟨⟨eg, hE⟩, er⟩
  · rw [eh]; exact (km_lo I (by rw [eg]; exact LO.uI _ _ _ (by omega))).o95 _
  · rw [eg]; exact km_ag I (AG.rf h)
  · rw [eg]; exact km_ag I (AG.rf h)
theorem s_setCoupling {n a b : Nat} {h h1 h2 : hS} {x y z : Int32} {r9 : Int32} {v9 : Int32}  (I : IAB n h a b) (hn : n < 512) (hw : (∃ (v7 : Int32) (g7 : hS), (fun r h' => ∃ q t : Nat, q < 2 ∧ t < 16 ∧ x = nI q ∧ y = nI t ∧ okR z (nI 0) (nI 1000) ∧ r = (svz h a b).1 (11 + 8 * q + 2) t ∧ h' = upI (svz h a b) (11 + 8 * q + 2) t z) v7 g7 ∧ r9 = nI 0 ∧ h1 = upL g7 95 0 v7.toInt64) ∨ ((fun (E : String) (h' : hS) => h' = h ∧ ((E = xIO ∧ ¬ (isP x ∧ isT y)) ∨ (E = xIA ∧ isP x ∧ isT y ∧ ¬ okR z (nI 0) (nI 1000)))) xIO h1 ∧ r9 = nI 1) ∨ ((fun (E : String) (h' : hS) => h' = h ∧ ((E = xIO ∧ ¬ (isP x ∧ isT y)) ∨ (E = xIA ∧ isP x ∧ isT y ∧ ¬ okR z (nI 0) (nI 1000)))) xIA h1 ∧ r9 = nI 2)) (hm : (fun (h : hS) (r : Int32) (h' : hS) => (∃ q t : Nat, q < 2 ∧ t < 16 ∧ x = nI q ∧ y = nI t ∧ (¬ z.toInt64 < 0 ∧ ¬ 1000 < z.toInt64) ∧ r = (h.2.1 92 (1 + 116 * q + (17 + t))).toInt32 ∧ h' = upL (msv (upI h 91 3 (nI 0)) b) 92 (1 + 116 * q + (17 + t)) z.toInt64) ∨ (isP x ∧ isT y ∧ ¬ (¬ z.toInt64 < 0 ∧ ¬ 1000 < z.toInt64) ∧ r = nI 0 ∧ h' = upI h 91 3 (nI 2)) ∨ (¬ (isP x ∧ isT y) ∧ r = nI 0 ∧ h' = upI h 91 3 (nI 1))) h1 v9 h2) : OKs (n + 1) r9 v9.toInt64 h2 := by
  have km := k_setCoupling I hw
  rcases hw with ⟨v7, g7, ⟨q, t, hq, ht, ex, ey, hz, ev, eg⟩, er, eh⟩ | ⟨⟨eg, hE⟩, er⟩ | ⟨⟨eg, hE⟩, er⟩
  · rcases hm with ⟨p, u, hp, hu, fx, fy, -, ew, e2⟩ | ⟨-, -, hno, -⟩ | ⟨hno, -⟩
    · have epq : p = q := nI2 hp hq (fx.symm.trans ex)
      have eut : u = t := nI16 hu ht (fy.symm.trans ey)
      rw [epq, eut, km.1] at ew
      rw [epq, eut] at e2
      have hv : v7.toInt64 = v9.toInt64 := by
        rw [ev, ew, svz_lo _ _ _ (by omega) (by omega), ((I.rc.2.2.2 q hq).2.2.1 t ht).1, tt]
      rw [e2, eh, er, ← hv, eg]
      obtain ⟨m, m1, m2⟩ : ∃ m : Int, z.toInt = m ∧ 0 ≤ m ∧ m ≤ 1000 := by
        obtain ⟨z1, z2⟩ := hz
        rw [Int32.lt_iff_toInt_lt, nI_toInt (by decide)] at z1
        rw [Int32.le_iff_toInt_le, nI_toInt (by decide)] at z2
        exact ⟨_, rfl, by omega, by omega⟩
      exact ok_set I (by omega) (by omega) ((I.rs.setC hq ht (by omega) (by omega)).up (by omega))
    · exact absurd ((okR_in (z := z) (a := 0) (b := 1000) (by decide) (by decide) rfl rfl).mpr hz) hno
    · exact absurd ⟨⟨q, hq, ex⟩, t, ht, ey⟩ hno
  · rcases hE with ⟨-, hno⟩ | ⟨e, -⟩
    · rcases hm with ⟨p, u, hp, hu, fx, fy, -⟩ | ⟨f1, f2, -⟩ | ⟨-, -, e2⟩
      · exact absurd ⟨⟨p, hp, fx⟩, u, hu, fy⟩ hno
      · exact absurd ⟨f1, f2⟩ hno
      · rw [e2, er, eg]; exact ok_bad I (AG.rf h) (by decide) (by decide)
    · exact absurd e (by decide)
  · rcases hE with ⟨e, -⟩ | ⟨-, k1, k2, k3⟩
    · exact absurd e (by decide)
    · rcases hm with ⟨p, u, hp, hu, fx, fy, hin, -⟩ | ⟨-, -, -, -, e2⟩ | ⟨hno, -⟩
      · exact absurd ((okR_in (z := z) (a := 0) (b := 1000) (by decide) (by decide) rfl rfl).mp hin) k3
      · rw [e2, er, eg]; exact ok_bad I (AG.rf h) (by decide) (by decide)
      · exact absurd ⟨k1, k2⟩ hno
theorem k_setBudget {n a b : Nat} {h h1 : hS} {x y : Int32} {r9 : Int32} (I : IAB n h a b) (hw : (∃ (v7 : Int32) (g7 : hS), (fun r h' => ∃ q : Nat, q < 2 ∧ x = nI q ∧ okR y (nI 0) (nI 1000000000) ∧ r = (svz h a b).1 (11 + 8 * q) 7 ∧ h' = upI (svz h a b) (11 + 8 * q) 7 y) v7 g7 ∧ r9 = nI 0 ∧ h1 = upL g7 95 0 v7.toInt64) ∨ ((fun (E : String) (h' : hS) => h' = h ∧ ((E = xIO ∧ ¬ isP x) ∨ (E = xIA ∧ isP x ∧ ¬ okR y (nI 0) (nI 1000000000)))) xIO h1 ∧ r9 = nI 1) ∨ ((fun (E : String) (h' : hS) => h' = h ∧ ((E = xIO ∧ ¬ isP x) ∨ (E = xIA ∧ isP x ∧ ¬ okR y (nI 0) (nI 1000000000)))) xIA h1 ∧ r9 = nI 2)) : KM h b h1 := by
  rcases hw with ⟨v7, g7, ⟨q, hq, ex, hz, ev, eg⟩, er, eh⟩ | ⟨⟨eg, hE⟩, er⟩ | ⟨⟨eg, hE⟩, er⟩
  · rw [eh]; exact (km_lo I (by rw [eg]; exact LO.uI _ _ _ (by omega))).o95 _
  · rw [eg]; exact km_ag I (AG.rf h)
  · rw [eg]; exact km_ag I (AG.rf h)
theorem s_setBudget {n a b : Nat} {h h1 h2 : hS} {x y : Int32} {r9 : Int32} {v9 : Int32}  (I : IAB n h a b) (hn : n < 512) (hw : (∃ (v7 : Int32) (g7 : hS), (fun r h' => ∃ q : Nat, q < 2 ∧ x = nI q ∧ okR y (nI 0) (nI 1000000000) ∧ r = (svz h a b).1 (11 + 8 * q) 7 ∧ h' = upI (svz h a b) (11 + 8 * q) 7 y) v7 g7 ∧ r9 = nI 0 ∧ h1 = upL g7 95 0 v7.toInt64) ∨ ((fun (E : String) (h' : hS) => h' = h ∧ ((E = xIO ∧ ¬ isP x) ∨ (E = xIA ∧ isP x ∧ ¬ okR y (nI 0) (nI 1000000000)))) xIO h1 ∧ r9 = nI 1) ∨ ((fun (E : String) (h' : hS) => h' = h ∧ ((E = xIO ∧ ¬ isP x) ∨ (E = xIA ∧ isP x ∧ ¬ okR y (nI 0) (nI 1000000000)))) xIA h1 ∧ r9 = nI 2)) (hm : (fun (h : hS) (r : Int32) (h' : hS) => (∃ q : Nat, q < 2 ∧ x = nI q ∧ (¬ y.toInt64 < 0 ∧ ¬ 1000000000 < y.toInt64) ∧ r = (h.2.1 92 (1 + 116 * q + 0)).toInt32 ∧ h' = upL (msv (upI h 91 3 (nI 0)) b) 92 (1 + 116 * q + 0) y.toInt64) ∨ (isP x ∧ ¬ (¬ y.toInt64 < 0 ∧ ¬ 1000000000 < y.toInt64) ∧ r = nI 0 ∧ h' = upI h 91 3 (nI 2)) ∨ (¬ isP x ∧ r = nI 0 ∧ h' = upI h 91 3 (nI 1))) h1 v9 h2) : OKs (n + 1) r9 v9.toInt64 h2 := by
  have km := k_setBudget I hw
  rcases hw with ⟨v7, g7, ⟨q, hq, ex, hz, ev, eg⟩, er, eh⟩ | ⟨⟨eg, hE⟩, er⟩ | ⟨⟨eg, hE⟩, er⟩
  · rcases hm with ⟨p, hp, fx, -, ew, e2⟩ | ⟨-, hno, -⟩ | ⟨hno, -⟩
    · have epq : p = q := nI2 hp hq (fx.symm.trans ex)
      rw [epq, km.1] at ew
      rw [epq] at e2
      have hv : v7.toInt64 = v9.toInt64 := by
        rw [ev, ew, svz_lo _ _ _ (by omega) (by omega), (show h.2.1 92 (1 + 116 * q + 0) = (h.1 (11 + 8 * q) 7).toInt64 from (I.rc.2.2.2 q hq).1), tt]
      rw [e2, eh, er, ← hv, eg]
      exact ok_set I (by omega) (by omega) ((I.rs.setB hq).up (by omega))
    · exact absurd ((okR_in (z := y) (a := 0) (b := 1000000000) (by decide) (by decide) rfl rfl).mpr hz) hno
    · exact absurd ⟨q, hq, ex⟩ hno
  · rcases hE with ⟨-, hno⟩ | ⟨e, -⟩
    · rcases hm with ⟨p, hp, fx, -⟩ | ⟨f1, -⟩ | ⟨-, -, e2⟩
      · exact absurd ⟨p, hp, fx⟩ hno
      · exact absurd f1 hno
      · rw [e2, er, eg]; exact ok_bad I (AG.rf h) (by decide) (by decide)
    · exact absurd e (by decide)
  · rcases hE with ⟨e, -⟩ | ⟨-, k1, k3⟩
    · exact absurd e (by decide)
    · rcases hm with ⟨p, hp, fx, hin, -⟩ | ⟨-, -, -, e2⟩ | ⟨hno, -⟩
      · exact absurd ((okR_in (z := y) (a := 0) (b := 1000000000) (by decide) (by decide) rfl rfl).mp hin) k3
      · rw [e2, er, eg]; exact ok_bad I (AG.rf h) (by decide) (by decide)
      · exact absurd k1 hno
theorem k_setLimit {n a b : Nat} {h h1 : hS} {x y z : Int32} {r9 : Int32} (I : IAB n h a b) (hw : (∃ (v7 : Int32) (g7 : hS), (fun r h' => ∃ q t : Nat, q < 2 ∧ t < 16 ∧ x = nI q ∧ y = nI t ∧ okR z (nI 0) (nI 12) ∧ ¬ (z < h.1 (11 + 8 * q + 4) t ∨ z < h.1 (11 + 8 * q + 5) t) ∧ r = (svz h a b).1 (11 + 8 * q + 3) t ∧ h' = upI (svz h a b) (11 + 8 * q + 3) t z) v7 g7 ∧ r9 = nI 0 ∧ h1 = upL g7 95 0 v7.toInt64) ∨ ((fun (E : String) (h' : hS) => h' = h ∧ ((E = xIO ∧ ¬ (isP x ∧ isT y)) ∨ (E = xIA ∧ isP x ∧ isT y ∧ ¬ okR z (nI 0) (nI 12)) ∨ (E = xIS ∧ ∃ q t : Nat, q < 2 ∧ t < 16 ∧ x = nI q ∧ y = nI t ∧ okR z (nI 0) (nI 12) ∧ (z < h.1 (11 + 8 * q + 4) t ∨ z < h.1 (11 + 8 * q + 5) t)))) xIO h1 ∧ r9 = nI 1) ∨ ((fun (E : String) (h' : hS) => h' = h ∧ ((E = xIO ∧ ¬ (isP x ∧ isT y)) ∨ (E = xIA ∧ isP x ∧ isT y ∧ ¬ okR z (nI 0) (nI 12)) ∨ (E = xIS ∧ ∃ q t : Nat, q < 2 ∧ t < 16 ∧ x = nI q ∧ y = nI t ∧ okR z (nI 0) (nI 12) ∧ (z < h.1 (11 + 8 * q + 4) t ∨ z < h.1 (11 + 8 * q + 5) t)))) xIA h1 ∧ r9 = nI 2) ∨ ((fun (E : String) (h' : hS) => h' = h ∧ ((E = xIO ∧ ¬ (isP x ∧ isT y)) ∨ (E = xIA ∧ isP x ∧ isT y ∧ ¬ okR z (nI 0) (nI 12)) ∨ (E = xIS ∧ ∃ q t : Nat, q < 2 ∧ t < 16 ∧ x = nI q ∧ y = nI t ∧ okR z (nI 0) (nI 12) ∧ (z < h.1 (11 + 8 * q + 4) t ∨ z < h.1 (11 + 8 * q + 5) t)))) xIS h1 ∧ r9 = nI 3)) : KM h b h1 := by
  rcases hw with ⟨v7, g7, ⟨q, t, hq, ht, ex, ey, hz, hl, ev, eg⟩, er, eh⟩ | ⟨⟨eg, hE⟩, er⟩ | ⟨⟨eg, hE⟩, er⟩ | ⟨⟨eg, hE⟩, er⟩
  · rw [eh]; exact (km_lo I (by rw [eg]; exact LO.uI _ _ _ (by omega))).o95 _
  · rw [eg]; exact km_ag I (AG.rf h)
  · rw [eg]; exact km_ag I (AG.rf h)
  · rw [eg]; exact km_ag I (AG.rf h)
theorem lim_iff {n a b q t : Nat} {h : hS} {z : Int32} (I : IAB n h a b) (hq : q < 2) (ht : t < 16) : (z.toInt64 < h.2.1 92 (1 + 116 * q + (49 + t)) ∨ z.toInt64 < h.2.1 92 (1 + 116 * q + (65 + t))) ↔ (z < h.1 (11 + 8 * q + 4) t ∨ z < h.1 (11 + 8 * q + 5) t) := by
  rw [((I.rc.2.2.2 q hq).2.2.2.2.1 t ht).1, ((I.rc.2.2.2 q hq).2.2.2.2.2.1 t ht).1, tl_lt, tl_lt]
theorem s_setLimit {n a b : Nat} {h h1 h2 : hS} {x y z : Int32} {r9 : Int32} {v9 : Int32}  (I : IAB n h a b) (hn : n < 512) (hw : (∃ (v7 : Int32) (g7 : hS), (fun r h' => ∃ q t : Nat, q < 2 ∧ t < 16 ∧ x = nI q ∧ y = nI t ∧ okR z (nI 0) (nI 12) ∧ ¬ (z < h.1 (11 + 8 * q + 4) t ∨ z < h.1 (11 + 8 * q + 5) t) ∧ r = (svz h a b).1 (11 + 8 * q + 3) t ∧ h' = upI (svz h a b) (11 + 8 * q + 3) t z) v7 g7 ∧ r9 = nI 0 ∧ h1 = upL g7 95 0 v7.toInt64) ∨ ((fun (E : String) (h' : hS) => h' = h ∧ ((E = xIO ∧ ¬ (isP x ∧ isT y)) ∨ (E = xIA ∧ isP x ∧ isT y ∧ ¬ okR z (nI 0) (nI 12)) ∨ (E = xIS ∧ ∃ q t : Nat, q < 2 ∧ t < 16 ∧ x = nI q ∧ y = nI t ∧ okR z (nI 0) (nI 12) ∧ (z < h.1 (11 + 8 * q + 4) t ∨ z < h.1 (11 + 8 * q + 5) t)))) xIO h1 ∧ r9 = nI 1) ∨ ((fun (E : String) (h' : hS) => h' = h ∧ ((E = xIO ∧ ¬ (isP x ∧ isT y)) ∨ (E = xIA ∧ isP x ∧ isT y ∧ ¬ okR z (nI 0) (nI 12)) ∨ (E = xIS ∧ ∃ q t : Nat, q < 2 ∧ t < 16 ∧ x = nI q ∧ y = nI t ∧ okR z (nI 0) (nI 12) ∧ (z < h.1 (11 + 8 * q + 4) t ∨ z < h.1 (11 + 8 * q + 5) t)))) xIA h1 ∧ r9 = nI 2) ∨ ((fun (E : String) (h' : hS) => h' = h ∧ ((E = xIO ∧ ¬ (isP x ∧ isT y)) ∨ (E = xIA ∧ isP x ∧ isT y ∧ ¬ okR z (nI 0) (nI 12)) ∨ (E = xIS ∧ ∃ q t : Nat, q < 2 ∧ t < 16 ∧ x = nI q ∧ y = nI t ∧ okR z (nI 0) (nI 12) ∧ (z < h.1 (11 + 8 * q + 4) t ∨ z < h.1 (11 + 8 * q + 5) t)))) xIS h1 ∧ r9 = nI 3)) (hm : (fun (h : hS) (r : Int32) (h' : hS) => (∃ q t : Nat, q < 2 ∧ t < 16 ∧ x = nI q ∧ y = nI t ∧ (¬ z.toInt64 < 0 ∧ ¬ 12 < z.toInt64) ∧ ¬ (z.toInt64 < h.2.1 92 (1 + 116 * q + (49 + t)) ∨ z.toInt64 < h.2.1 92 (1 + 116 * q + (65 + t))) ∧ r = (h.2.1 92 (1 + 116 * q + (33 + t))).toInt32 ∧ h' = upL (msv (upI h 91 3 (nI 0)) b) 92 (1 + 116 * q + (33 + t)) z.toInt64) ∨ (∃ q t : Nat, q < 2 ∧ t < 16 ∧ x = nI q ∧ y = nI t ∧ (¬ z.toInt64 < 0 ∧ ¬ 12 < z.toInt64) ∧ (z.toInt64 < h.2.1 92 (1 + 116 * q + (49 + t)) ∨ z.toInt64 < h.2.1 92 (1 + 116 * q + (65 + t))) ∧ r = nI 0 ∧ h' = upI h 91 3 (nI 3)) ∨ (isP x ∧ isT y ∧ ¬ (¬ z.toInt64 < 0 ∧ ¬ 12 < z.toInt64) ∧ r = nI 0 ∧ h' = upI h 91 3 (nI 2)) ∨ (¬ (isP x ∧ isT y) ∧ r = nI 0 ∧ h' = upI h 91 3 (nI 1))) h1 v9 h2) : OKs (n + 1) r9 v9.toInt64 h2 := by
  have km := k_setLimit I hw
  rcases hw with ⟨v7, g7, ⟨q, t, hq, ht, ex, ey, hz, hl, ev, eg⟩, er, eh⟩ | ⟨⟨eg, hE⟩, er⟩ | ⟨⟨eg, hE⟩, er⟩ | ⟨⟨eg, hE⟩, er⟩
  · rcases hm with ⟨p, u, hp, hu, fx, fy, -, -, ew, e2⟩ | ⟨p, u, hp, hu, fx, fy, -, hno, -⟩ | ⟨-, -, hno, -⟩ | ⟨hno, -⟩
    · have epq : p = q := nI2 hp hq (fx.symm.trans ex)
      have eut : u = t := nI16 hu ht (fy.symm.trans ey)
      rw [epq, eut, km.1] at ew
      rw [epq, eut] at e2
      have hv : v7.toInt64 = v9.toInt64 := by
        rw [ev, ew, svz_lo _ _ _ (by omega) (by omega), ((I.rc.2.2.2 q hq).2.2.2.1 t ht).1, tt]
      rw [e2, eh, er, ← hv, eg]
      obtain ⟨m, m1, m2⟩ : ∃ m : Int, z.toInt = m ∧ 0 ≤ m ∧ m ≤ 12 := by
        obtain ⟨z1, z2⟩ := hz
        rw [Int32.lt_iff_toInt_lt, nI_toInt (by decide)] at z1
        rw [Int32.le_iff_toInt_le, nI_toInt (by decide)] at z2
        exact ⟨_, rfl, by omega, by omega⟩
      exact ok_set I (by omega) (by omega) ((I.rs.setL hq ht (by omega) (by omega)).up (by omega))
    · have epq : p = q := nI2 hp hq (fx.symm.trans ex)
      have eut : u = t := nI16 hu ht (fy.symm.trans ey)
      rw [epq, eut, km.1] at hno
      exact absurd ((lim_iff I hq ht).mp hno) hl
    · exact absurd ((okR_in (z := z) (a := 0) (b := 12) (by decide) (by decide) rfl rfl).mpr hz) hno
    · exact absurd ⟨⟨q, hq, ex⟩, t, ht, ey⟩ hno
  · rcases hE with ⟨-, hno⟩ | ⟨e, -⟩ | ⟨e, -⟩
    · rcases hm with ⟨p, u, hp, hu, fx, fy, -⟩ | ⟨p, u, hp, hu, fx, fy, -⟩ | ⟨f1, f2, -⟩ | ⟨-, -, e2⟩
      · exact absurd ⟨⟨p, hp, fx⟩, u, hu, fy⟩ hno
      · exact absurd ⟨⟨p, hp, fx⟩, u, hu, fy⟩ hno
      · exact absurd ⟨f1, f2⟩ hno
      · rw [e2, er, eg]; exact ok_bad I (AG.rf h) (by decide) (by decide)
    · exact absurd e (by decide)
    · exact absurd e (by decide)
  · rcases hE with ⟨e, -⟩ | ⟨-, k1, k2, k3⟩ | ⟨e, -⟩
    · exact absurd e (by decide)
    · rcases hm with ⟨p, u, hp, hu, fx, fy, hin, -⟩ | ⟨p, u, hp, hu, fx, fy, hin, -⟩ | ⟨-, -, -, -, e2⟩ | ⟨hno, -⟩
      · exact absurd ((okR_in (z := z) (a := 0) (b := 12) (by decide) (by decide) rfl rfl).mp hin) k3
      · exact absurd ((okR_in (z := z) (a := 0) (b := 12) (by decide) (by decide) rfl rfl).mp hin) k3
      · rw [e2, er, eg]; exact ok_bad I (AG.rf h) (by decide) (by decide)
      · exact absurd ⟨k1, k2⟩ hno
    · exact absurd e (by decide)
  · rcases hE with ⟨e, -⟩ | ⟨e, -⟩ | ⟨-, q, t, hq, ht, ex, ey, hz, hl⟩
    · exact absurd e (by decide)
    · exact absurd e (by decide)
    · rcases hm with ⟨p, u, hp, hu, fx, fy, -, hno, -⟩ | ⟨p, u, hp, hu, fx, fy, -, -, -, e2⟩ | ⟨-, -, hno, -⟩ | ⟨hno, -⟩
      · have epq : p = q := nI2 hp hq (fx.symm.trans ex)
        have eut : u = t := nI16 hu ht (fy.symm.trans ey)
        rw [epq, eut, km.1] at hno
        exact absurd ((lim_iff I hq ht).mpr hl) hno
      · rw [e2, er, eg]; exact ok_bad I (AG.rf h) (by decide) (by decide)
      · exact absurd ((okR_in (z := z) (a := 0) (b := 12) (by decide) (by decide) rfl rfl).mpr hz) hno
      · exact absurd ⟨⟨q, hq, ex⟩, t, ht, ey⟩ hno
