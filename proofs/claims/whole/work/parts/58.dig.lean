/-! THE DIGEST, and what a call must show -/
theorem eff_eq {n q : Nat} {h : hS} {R : Nat → Int64} (x : RC n h R) (hq : q < 2) : effz (rtz h (11 + 8 * q) (11 + 8 * (1 - q))) = mef R q := by
  obtain ⟨e0, e1, e2, e3, e4, -⟩ := x.2.2.2 q hq
  unfold effz
  rw [rtz_3, rtz_4, rtz_5, ef_eq (x.v hq) e4 e3]
theorem mgP_eq {n q t : Nat} {h : hS} {R : Nat → Int64} (x : RC n h R) (hq : q < 2) (ht : t < 16) : mmg R q t = mgP h (11 + 8 * q) (11 + 8 * (1 - q)) t := by
  obtain ⟨e0, e1, e2, e3, e4, e5, e6, -⟩ := x.2.2.2 q hq
  exact mg_eq (x.v hq) e4 e6 ht
theorem bz_if {x : Int32} (h : bz x) : (if x = 0 then nI 0 else nI 1) = x := by
  rcases h with rfl | rfl
  · rfl
  · rfl
theorem hpT_eq {n q : Nat} {h : hS} {R : Nat → Int64} (x : RC n h R) (hq : q < 2) (v : Int64) : ∀ k : Nat, k ≤ 16 → hpT h (11 + 8 * q) (11 + 8 * (1 - q)) k v = mxT R q k v
  | 0, _ => rfl
  | k + 1, hk => by
    have ih := hpT_eq x hq v k (by omega)
    obtain ⟨e0, e1, e2, e3, e4, e5, e6, -⟩ := x.2.2.2 q hq
    have r1 : R (1 + 116 * q + (1 + 16 * 0 + k)) = (h.1 (11 + 8 * q + 1) k).toInt64 := (e1 k (by omega)).1
    have r2 : R (1 + 116 * q + (1 + 16 * 1 + k)) = (h.1 (11 + 8 * q + 2) k).toInt64 := (e2 k (by omega)).1
    have r3 : R (1 + 116 * q + (1 + 16 * 2 + k)) = (h.1 (11 + 8 * q + 3) k).toInt64 := (e3 k (by omega)).1
    have r4 : R (1 + 116 * q + (1 + 16 * 3 + k)) = (h.1 (11 + 8 * q + 4) k).toInt64 := (e4 k (by omega)).1
    have r5 : R (1 + 116 * q + (1 + 16 * 4 + k)) = (h.1 (11 + 8 * q + 5) k).toInt64 := (e5 k (by omega)).1
    have r6 : R (1 + 116 * q + (1 + 16 * 5 + k)) = h.2.1 (11 + 8 * q + 6) k := (e6 k (by omega)).1
    have em : mxK R q k 6 (mxT R q k v) = 31 * (31 * (31 * (31 * (31 * (31 * mxT R q k v + R (1 + 116 * q + (1 + 16 * 0 + k))) + R (1 + 116 * q + (1 + 16 * 1 + k))) + R (1 + 116 * q + (1 + 16 * 2 + k))) + R (1 + 116 * q + (1 + 16 * 3 + k))) + R (1 + 116 * q + (1 + 16 * 4 + k))) + R (1 + 116 * q + (1 + 16 * 5 + k)) := rfl
    rw [hpT, mxT, em, r1, r2, r3, r4, r5, r6, mgP_eq x hq (by omega), ih]
    simp only [Int64.mul_comm _ 31]
theorem hp_eq {n q : Nat} {h : hS} {R : Nat → Int64} (x : RC n h R) (hq : q < 2) (v : Int64) : hpz h (11 + 8 * q) (11 + 8 * (1 - q)) v = mxP R q v := by
  have e0 : R (1 + 116 * q + 0) = (h.1 (11 + 8 * q) 7).toInt64 := (x.2.2.2 q hq).1
  have eb : R (1 + 116 * q + 115) = (h.1 (11 + 8 * q) 8).toInt64 := (x.2.2.2 q hq).2.2.2.2.2.2.2.1.1
  have eT : TK R q (h.1 (11 + 8 * q + 7)) (h.1 (11 + 8 * q + 4)) := (x.2.2.2 q hq).2.2.2.2.2.2.2.2.2
  obtain ⟨⟨⟨b1, b6, b7⟩, t97, t108, t112, t102, tv⟩, eO, eA, eW, eG⟩ := eT
  unfold hpz htz mxP mxB
  have ea : mxA R q v = 31 * (31 * hpT h (11 + 8 * q) (11 + 8 * (1 - q)) 16 (31 * v + (h.1 (11 + 8 * q) 7).toInt64) + (bI (mef R q)).toInt64) + R (1 + 116 * q + 97) := by
    unfold mxA
    rw [hpT_eq x hq _ 16 (by omega), e0]
    rcases mef R q with _ | _ <;> rfl
  rw [ea, eff_eq x hq, bz_if b6, bz_if b7, t97, t108, t112, eb]
  rcases b1 with h1 | h1
  · rw [h1, if_pos (by decide), if_neg (by decide)]
    simp only [Int64.mul_comm _ 31]
  · obtain ⟨o1, o2, o3, o4, -⟩ := eO h1
    have em : ∀ w : Int64, mxO R q 4 w = 31 * (31 * (31 * (31 * w + R (1 + 116 * q + 98)) + R (1 + 116 * q + 99)) + R (1 + 116 * q + 100)) + R (1 + 116 * q + 101) := fun w => rfl
    rw [h1, if_neg (by decide), if_pos (by decide), em, o1, o2, o3, o4]
    simp only [Int64.mul_comm _ 31]
theorem dg_eq {n b : Nat} {h : hS} {R : Nat → Int64} (x : RC n h R) (h3 : h.1 0 3 = nI b) : dgz h = mdg R b := by
  unfold dgz mdg
  have e0 : hpz h 11 19 (86459 + (h.1 6 0).toInt64) = mxP R 0 (31 * 2789 + R 0) := by
    rw [x.1]; exact hp_eq (q := 0) x (by omega) _
  have x2 : RC n (rtz h 11 19) R := x.ac (AC.of (AG.rt h 11 19))
  have e1 : ∀ w : Int64, hpz (rtz h 11 19) 19 11 w = mxP R 1 w := fun w => hp_eq (q := 1) x2 (by omega) w
  have e3 : (rt2 h).1 0 3 = nI b := by rw [((AG.rt h 11 19).tr (AG.rt _ 19 11)).1 |> (fun z => show (rt2 h).1 0 = h.1 0 from z)]; exact h3
  rw [e1, e0, e3, Int64.mul_comm]
/-- what stands behind a call: the exception's number, the answer, the relation -/
def OKs (n : Nat) (r : Int32) (v : Int64) (g : hS) : Prop := g.1 91 3 = r ∧ (r = nI 0 → g.2.1 95 0 = v) ∧ ∃ a b : Nat, IAB n g a b
theorem up3_s (g : hS) (r : Int32) : (upI g 91 3 r).1 91 3 = r := by rw [upI_s, va_s9]
theorem ok_read {n a b : Nat} {h g : hS} {v : Int64} (I : IAB n h a b) (x : AG h g) : OKs (n + 1) (nI 0) v (upI (upL g 95 0 v) 91 3 (nI 0)) :=
  ⟨up3_s _ _, fun _ => by show (upL g 95 0 v).2.1 95 0 = v; rw [upL_s, va_s9], a, b, I.keep (by omega) ((x.tr (AG.o95 _ _)).tr (AG.t3 _ _))⟩
theorem ok_bad {n a b : Nat} {h g : hS} {v : Int64} (I : IAB n h a b) (x : AG h g) {r : Nat} (h0 : 0 < r) (hr : r < 100) : OKs (n + 1) (nI r) v (upI g 91 3 (nI r)) :=
  ⟨up3_s _ _, fun w => absurd w (nI_ne0 h0 (by omega)), a, b, I.keep (by omega) (x.tr (AG.t3 _ _))⟩
/-- what lies beside the present state is the same -/
def LO (h g : hS) : Prop := (∀ i : Nat, i = 0 ∨ (7 ≤ i ∧ i ≤ 10) ∨ (27 ≤ i ∧ i ≤ 91) → g.1 i = h.1 i) ∧ ∀ i : Nat, (27 ≤ i ∧ i < 91) ∨ i = 92 ∨ i = 93 → g.2.1 i = h.2.1 i
theorem LO.rf (h : hS) : LO h h := ⟨fun _ _ => rfl, fun _ _ => rfl⟩
theorem LO.tr {h g z : hS} (x : LO h g) (y : LO g z) : LO h z := ⟨fun i a => (y.1 i a).trans (x.1 i a), fun i a => (y.2 i a).trans (x.2 i a)⟩
theorem LO.sI (h : hS) {i : Nat} (f : Nat → Int32) (hi : (1 ≤ i ∧ i ≤ 6) ∨ (11 ≤ i ∧ i < 27)) : LO h (setI h i f) := ⟨fun j hj => setI_o _ _ (by omega), fun _ _ => rfl⟩
theorem LO.uI (h : hS) {i : Nat} (j : Nat) (x : Int32) (hi : (1 ≤ i ∧ i ≤ 6) ∨ (11 ≤ i ∧ i < 27)) : LO h (upI h i j x) := ⟨fun j hj => upI_o _ _ _ (by omega), fun _ _ => rfl⟩
theorem LO.sL (h : hS) {i : Nat} (f : Nat → Int64) (hi : i < 27) : LO h (setL h i f) := ⟨fun _ _ => rfl, fun j hj => setL_o _ _ (by omega)⟩
theorem LO.se (g : hS) {q : Nat} (hq : q < 2) : LO g (sez g (11 + 8 * q)) := ⟨fun i hi => sez_o _ (by omega) (by omega) (by omega) (by omega), fun i hi => sez_oL _ (by omega)⟩
theorem LO.rl (h : hS) (P P2 : Nat) : LO h (rlz h P P2) := (LO.sL h _ (by omega)).tr (LO.sI _ _ (by omega))
theorem LO.lfB (h : hS) (P P2 : Nat) : LO h (lfB h P P2) := ((LO.rl h P P2).tr (LO.sI _ _ (by omega))).tr (LO.sI _ _ (by omega))
theorem LO.lf (h : hS) {q : Nat} (hq : q < 2) (P2 : Nat) : LO h (lfz h (11 + 8 * q) P2) := (LO.lfB h _ P2).tr (LO.se _ hq)
theorem LO.rp (h : hS) {q : Nat} (hq : q < 2) (P2 : Nat) : LO h (rpz h (11 + 8 * q) P2) := (((LO.rl h _ P2).tr (LO.sI _ _ (by omega))).tr (LO.sI _ _ (by omega))).tr (LO.se _ hq)
theorem LO.bl : ∀ (f : Nat) (g : hS) (m : Nat), LO g (blz f g m).2
  | 0, g, m => LO.rf g
  | f + 1, g, m => by
    have k : LO g (bl1 g) := (LO.lf g (q := 0) (by omega) 19).tr (LO.lf _ (q := 1) (by omega) 11)
    rw [blz]
    by_cases c : blc g = true
    · rw [if_pos c]; exact k.tr (LO.bl f (bl1 g) (m + 1))
    · rw [if_neg c]; exact k
theorem LO.ef (h : hS) {q : Nat} (hq : q < 2) (P2 : Nat) (F : Int32) : LO h (efz h (11 + 8 * q) P2 F) := ⟨fun i hi => efz_o _ _ _ _ (by omega) (by omega) (by omega) (by omega), fun i hi => efz_oL _ _ _ _ (by omega)⟩
theorem LO.cf (h : hS) {q : Nat} (hq : q < 2) : LO h (cfz h (11 + 8 * q)) := by
  unfold cfz
  by_cases c : h.1 (11 + 8 * q) 9 = 0
  · rw [if_pos c]; exact LO.rf h
  · rw [if_neg c]; exact LO.uI _ _ _ (by omega)
theorem LO.rn (h : hS) : ∀ n : Nat, LO h (rnz h n)
  | 0 => LO.rf h
  | n + 1 => (LO.rn h n).tr (((((LO.uI _ 0 _ (by omega)).tr (LO.ef _ (q := 0) (by omega) 19 _)).tr (LO.ef _ (q := 1) (by omega) 11 _)).tr (LO.cf _ (q := 0) (by omega))).tr (LO.cf _ (q := 1) (by omega)))
theorem msv_t (h : hS) (b : Nat) : (msv h b).1 91 3 = h.1 91 3 := by unfold msv; rw [upI_s, va_o9 _ _ (by decide)]; rfl
theorem ok_push {n n' a b : Nat} {h h1 : hS} {v : Int64} {R : Nat → Int64} (I : IAB n h a b) (hn : n ≤ n') (x : LO (svz h a b) h1) (k : RC n' h1 R) : OKs n' (nI 0) v (setL (msv (upI (upL h1 95 0 v) 91 3 (nI 0)) b) 92 R) := by
  obtain ⟨G, hG⟩ : ∃ G, G = setL (msv (upI (upL h1 95 0 v) 91 3 (nI 0)) b) 92 R := ⟨_, rfl⟩
  rw [← hG]
  have s92 : h1.2.1 92 = h.2.1 92 := by rw [x.2 92 (by omega), svz_loL _ _ _ (by omega)]
  have s93 : h1.2.1 93 = h.2.1 93 := by rw [x.2 93 (by omega), svz_loL _ _ _ (by omega)]
  have gi : ∀ i : Nat, i ≠ 91 → G.1 i = h1.1 i := fun i hi => by
    rw [hG]
    show (upI (setL (upI (upL h1 95 0 v) 91 3 (nI 0)) 93 _) 91 2 _).1 i = _
    rw [upI_o _ _ _ hi]
    show (upI (upL h1 95 0 v) 91 3 (nI 0)).1 i = _
    rw [upI_o _ _ _ hi]; rfl
  have gl : ∀ i : Nat, i < 91 → G.2.1 i = h1.2.1 i := fun i hi => by
    rw [hG, setL_o _ _ (by omega)]
    show (setL (upI (upL h1 95 0 v) 91 3 (nI 0)) 93 _).2.1 i = _
    rw [setL_o _ _ (by omega)]
    show (upL h1 95 0 v).2.1 i = _
    rw [upL_o _ _ _ (by omega)]
  have g92 : G.2.1 92 = R := by rw [hG, setL_s]
  have g93 : G.2.1 93 = wfz (h.2.1 92) (msS (h.2.1 93) b) (233 * ms3 b) 233 := by
    rw [hG, setL_o _ _ (by omega)]
    show (setL (upI (upL h1 95 0 v) 91 3 (nI 0)) 93 _).2.1 93 = _
    rw [setL_s]
    show wfz ((upL h1 95 0 v).2.1 92) (msS ((upL h1 95 0 v).2.1 93) b) _ _ = _
    rw [upL_o _ _ _ (by decide), upL_o _ _ _ (by decide), s92, s93]
  have g95 : G.2.1 95 0 = v := by
    rw [hG, setL_o _ _ (by omega)]
    show (setL (upI (upL h1 95 0 v) 91 3 (nI 0)) 93 _).2.1 95 0 = _
    rw [setL_o _ _ (by omega)]
    show (upL h1 95 0 v).2.1 95 0 = _
    rw [upL_s, va_s9]
  have g2 : G.1 91 2 = nI (ms3 b + 1) := by
    rw [hG]
    exact msv_st (upI (upL h1 95 0 v) 91 3 (nI 0)) b
  have g3 : G.1 91 3 = nI 0 := by
    rw [hG]
    show (msv (upI (upL h1 95 0 v) 91 3 (nI 0)) b).1 91 3 = _
    rw [msv_t, upI_s, va_s9]
  refine ⟨g3, fun _ => g95, (a + 1) % 4, ms3 b + 1, I.push hn ?_ ?_ g2 (fun i hi => ?_) (fun i h1 h2 => ?_) g93 ?_⟩
  · rw [gi 0 (by omega), x.1 0 (by omega)]
  · rw [gi 0 (by omega), x.1 0 (by omega)]
  · rw [gi i (by omega), x.1 i (by omega)]
  · rw [gl i (by omega), x.2 i (by omega)]
  · have y : RC n' G R := k.ac ⟨fun i hi => gi i (by omega), fun i h1 h2 => gl i (by omega)⟩
    unfold RN
    rw [g92]; exact y
theorem ok_set {n n' a b c t j : Nat} {h : hS} {z : Int32} {v : Int64} (I : IAB n h a b) (hn : n ≤ n') (hc : 11 ≤ c ∧ c < 27) (k : RC n' (upI (svz h a b) c t z) (va_up (h.2.1 92) j z.toInt64)) : OKs n' (nI 0) v (upL (msv (upI (upL (upI (svz h a b) c t z) 95 0 v) 91 3 (nI 0)) b) 92 j z.toInt64) := by
  rw [upL_set, msv_92]
  have e : (upI (upL (upI (svz h a b) c t z) 95 0 v) 91 3 (nI 0)).2.1 92 = h.2.1 92 := by
    show (upL (upI (svz h a b) c t z) 95 0 v).2.1 92 = _
    rw [upL_o _ _ _ (by decide)]
    show (svz h a b).2.1 92 = _
    rw [svz_loL _ _ _ (by omega)]
  rw [e]
  exact ok_push I hn (LO.uI _ _ _ (by omega)) k
theorem IAB.rc {n a b : Nat} {h : hS} (I : IAB n h a b) : RC n h (h.2.1 92) := I.2.2.2.2.1
theorem IAB.rs {n a b : Nat} {h : hS} (I : IAB n h a b) : RC n (svz h a b) (h.2.1 92) := I.rc.ac (AC.sv h a b)
theorem RC.up {n n' : Nat} {h : hS} {R : Nat → Int64} (x : RC n h R) (hn : n ≤ n') : RC n' h R := RS.same x hn (fun _ _ => rfl) rfl (fun _ _ _ _ => rfl) (fun _ _ => rfl)
theorem RC.ok1 {n : Nat} {h : hS} {R : Nat → Int64} (x : RC n h R) : mOK R := fun q t hq ht hb => by
  obtain ⟨e0, e1, e2, e3, e4, -⟩ := x.2.2.2 q hq
  exact nd_ne (x.v hq) e4 ht hb
theorem nI2 {p q : Nat} (hp : p < 2) (hq : q < 2) (h : nI p = nI q) : p = q := (nI_eq (by omega) (by omega)).mp h
theorem nI16 {p q : Nat} (hp : p < 16) (hq : q < 16) (h : nI p = nI q) : p = q := (nI_eq (by omega) (by omega)).mp h
