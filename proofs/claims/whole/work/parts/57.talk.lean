/-! SETTERS AND THE TALK, on both sides -/
theorem RC.pair {n q : Nat} {h g : hS} {R R' : Nat → Int64} (x : RC n h R) (hq : q < 2) (g6 : g.1 6 0 = h.1 6 0) (ho : ∀ j : Nat, j < 1 + 116 * q ∨ 1 + 116 * q + 116 ≤ j → R' j = R j) (gc : ∀ p c : Nat, p < 2 → p ≠ q → c < 8 → g.1 (11 + 8 * p + c) = h.1 (11 + 8 * p + c)) (gE : ∀ p : Nat, p < 2 → p ≠ q → g.2.1 (11 + 8 * p + 6) = h.2.1 (11 + 8 * p + 6))
    (y : RP (h.1 6 0).toInt R' q (fun c => g.1 (11 + 8 * q + c)) (g.2.1 (11 + 8 * q + 6))) : RC n g R' := by
  obtain ⟨x0, x1, x2, xP⟩ := x
  refine ⟨by rw [ho 0 (by omega), g6]; exact x0, by rw [g6]; exact x1, by rw [g6]; exact x2, fun p hp => ?_⟩
  rw [g6]
  by_cases e : p = q
  · subst e; exact y
  · exact (xP p hp).same (Int.le_refl _) (fun j hj => ho _ (by omega)) (fun c hc => gc p c hp e hc) (gE p hp e)
theorem rI.up {R : Nat → Int64} {q o t : Nat} {c : Nat → Int32} {lo hi : Int} {z : Int32} (x : rI R q o c lo hi) (h1 : lo ≤ z.toInt) (h2 : z.toInt ≤ hi) : rI (va_up R (1 + 116 * q + (o + t)) z.toInt64) q o (va_up c t z) lo hi := by
  intro j hj
  by_cases e : j = t
  · subst e; rw [va_s9, va_s9]; exact ⟨rfl, h1, h2⟩
  · rw [va_o9 _ _ (by omega), va_o9 _ _ e]; exact x j hj
section ST
variable {n q t : Nat} {h : hS} {R : Nat → Int64} {z : Int32}
theorem RC.setN (x : RC n h R) (hq : q < 2) (ht : t < 16) (h1 : 1 ≤ z.toInt) (h2 : z.toInt ≤ 10000) : RC n (upI h (11 + 8 * q + 1) t z) (va_up R (1 + 116 * q + (1 + t)) z.toInt64) := by
  refine x.pair hq (by rw [upI_o _ _ _ (by omega)]) (fun j hj => va_o9 _ _ (by omega)) (fun p c hp hn hc => upI_o _ _ _ (by omega)) (fun p hp hn => rfl) ?_
  obtain ⟨e0, e1, e2, e3, e4, e5, e6, e7, e8, e9⟩ := x.2.2.2 q hq
  have u : ∀ c : Nat, c ≠ 1 → (upI h (11 + 8 * q + 1) t z).1 (11 + 8 * q + c) = h.1 (11 + 8 * q + c) := fun c hc => upI_o _ _ _ (by omega)
  have r : ∀ j : Nat, j ≠ 1 + t → va_up R (1 + 116 * q + (1 + t)) z.toInt64 (1 + 116 * q + j) = R (1 + 116 * q + j) := fun j hj => va_o9 _ _ (by omega)
  dsimp only [RP]
  rw [u 0 (by omega), u 2 (by omega), u 3 (by omega), u 4 (by omega), u 5 (by omega), u 7 (by omega), upI_s]
  exact ⟨by rw [r 0 (by omega)]; exact e0, e1.up h1 h2, e2.c (fun t ht => r _ (by omega)) (by omega) (by omega), e3.c (fun t ht => r _ (by omega)) (by omega) (by omega), e4.c (fun t ht => r _ (by omega)) (by omega) (by omega), e5.c (fun t ht => r _ (by omega)) (by omega) (by omega), e6.c (fun t ht => r _ (by omega)), e7.c (r _ (by omega)) (Int.le_refl _), e8, e9.c (fun j h1 h2 => r _ (by omega)) (fun _ _ => rfl)⟩
theorem RC.setC (x : RC n h R) (hq : q < 2) (ht : t < 16) (h1 : 0 ≤ z.toInt) (h2 : z.toInt ≤ 1000) : RC n (upI h (11 + 8 * q + 2) t z) (va_up R (1 + 116 * q + (17 + t)) z.toInt64) := by
  refine x.pair hq (by rw [upI_o _ _ _ (by omega)]) (fun j hj => va_o9 _ _ (by omega)) (fun p c hp hn hc => upI_o _ _ _ (by omega)) (fun p hp hn => rfl) ?_
  obtain ⟨e0, e1, e2, e3, e4, e5, e6, e7, e8, e9⟩ := x.2.2.2 q hq
  have u : ∀ c : Nat, c ≠ 2 → (upI h (11 + 8 * q + 2) t z).1 (11 + 8 * q + c) = h.1 (11 + 8 * q + c) := fun c hc => upI_o _ _ _ (by omega)
  have r : ∀ j : Nat, j ≠ 17 + t → va_up R (1 + 116 * q + (17 + t)) z.toInt64 (1 + 116 * q + j) = R (1 + 116 * q + j) := fun j hj => va_o9 _ _ (by omega)
  dsimp only [RP]
  rw [u 0 (by omega), u 1 (by omega), u 3 (by omega), u 4 (by omega), u 5 (by omega), u 7 (by omega), upI_s]
  exact ⟨by rw [r 0 (by omega)]; exact e0, e1.c (fun t ht => r _ (by omega)) (by omega) (by omega), e2.up h1 h2, e3.c (fun t ht => r _ (by omega)) (by omega) (by omega), e4.c (fun t ht => r _ (by omega)) (by omega) (by omega), e5.c (fun t ht => r _ (by omega)) (by omega) (by omega), e6.c (fun t ht => r _ (by omega)), e7.c (r _ (by omega)) (Int.le_refl _), e8, e9.c (fun j h1 h2 => r _ (by omega)) (fun _ _ => rfl)⟩
theorem RC.setL (x : RC n h R) (hq : q < 2) (ht : t < 16) (h1 : 0 ≤ z.toInt) (h2 : z.toInt ≤ 12) : RC n (upI h (11 + 8 * q + 3) t z) (va_up R (1 + 116 * q + (33 + t)) z.toInt64) := by
  refine x.pair hq (by rw [upI_o _ _ _ (by omega)]) (fun j hj => va_o9 _ _ (by omega)) (fun p c hp hn hc => upI_o _ _ _ (by omega)) (fun p hp hn => rfl) ?_
  obtain ⟨e0, e1, e2, e3, e4, e5, e6, e7, e8, e9⟩ := x.2.2.2 q hq
  have u : ∀ c : Nat, c ≠ 3 → (upI h (11 + 8 * q + 3) t z).1 (11 + 8 * q + c) = h.1 (11 + 8 * q + c) := fun c hc => upI_o _ _ _ (by omega)
  have r : ∀ j : Nat, j ≠ 33 + t → va_up R (1 + 116 * q + (33 + t)) z.toInt64 (1 + 116 * q + j) = R (1 + 116 * q + j) := fun j hj => va_o9 _ _ (by omega)
  dsimp only [RP]
  rw [u 0 (by omega), u 1 (by omega), u 2 (by omega), u 4 (by omega), u 5 (by omega), u 7 (by omega), upI_s]
  exact ⟨by rw [r 0 (by omega)]; exact e0, e1.c (fun t ht => r _ (by omega)) (by omega) (by omega), e2.c (fun t ht => r _ (by omega)) (by omega) (by omega), e3.up h1 h2, e4.c (fun t ht => r _ (by omega)) (by omega) (by omega), e5.c (fun t ht => r _ (by omega)) (by omega) (by omega), e6.c (fun t ht => r _ (by omega)), e7.c (r _ (by omega)) (Int.le_refl _), e8, e9.c (fun j h1 h2 => r _ (by omega)) (fun _ _ => rfl)⟩
theorem RC.setB (x : RC n h R) (hq : q < 2) : RC n (upI h (11 + 8 * q) 7 z) (va_up R (1 + 116 * q + 0) z.toInt64) := by
  refine x.pair hq (by rw [upI_o _ _ _ (by omega)]) (fun j hj => va_o9 _ _ (by omega)) (fun p c hp hn hc => upI_o _ _ _ (by omega)) (fun p hp hn => rfl) ?_
  obtain ⟨e0, e1, e2, e3, e4, e5, e6, e7, e8, e9⟩ := x.2.2.2 q hq
  have u : ∀ c : Nat, c ≠ 0 → (upI h (11 + 8 * q) 7 z).1 (11 + 8 * q + c) = h.1 (11 + 8 * q + c) := fun c hc => upI_o _ _ _ (by omega)
  have u0 : ∀ j : Nat, j ≠ 7 → (upI h (11 + 8 * q) 7 z).1 (11 + 8 * q + 0) j = h.1 (11 + 8 * q + 0) j := fun j hj => by rw [Nat.add_zero, upI_s, va_o9 _ _ hj]
  have u7 : (upI h (11 + 8 * q) 7 z).1 (11 + 8 * q + 0) 7 = z := by rw [Nat.add_zero, upI_s, va_s9]
  have r : ∀ j : Nat, j ≠ 0 → va_up R (1 + 116 * q + 0) z.toInt64 (1 + 116 * q + j) = R (1 + 116 * q + j) := fun j hj => va_o9 _ _ (by omega)
  dsimp only [RP]
  rw [u 1 (by omega), u 2 (by omega), u 3 (by omega), u 4 (by omega), u 5 (by omega), u 7 (by omega), u0 8 (by omega), u0 9 (by omega), u7]
  exact ⟨by rw [va_s9], e1.c (fun t ht => r _ (by omega)) (by omega) (by omega), e2.c (fun t ht => r _ (by omega)) (by omega) (by omega), e3.c (fun t ht => r _ (by omega)) (by omega) (by omega), e4.c (fun t ht => r _ (by omega)) (by omega) (by omega), e5.c (fun t ht => r _ (by omega)) (by omega) (by omega), e6.c (fun t ht => r _ (by omega)), e7.c (r _ (by omega)) (Int.le_refl _), e8, e9.c (fun j h1 h2 => r _ (by omega)) (fun _ _ => rfl)⟩
/-- only the talk changes -/
theorem RC.talk {R' : Nat → Int64} {T : Nat → Int32} (x : RC n h R) (hq : q < 2) (ho : ∀ j : Nat, j < 1 + 116 * q + 97 ∨ 1 + 116 * q + 115 ≤ j → R' j = R j) (y : TK R' q T (h.1 (11 + 8 * q + 4))) : RC n (setI h (11 + 8 * q + 7) T) R' := by
  refine x.pair hq (by rw [setI_o _ _ (by omega)]) (fun j hj => ho j (by omega)) (fun p c hp hn hc => setI_o _ _ (by omega)) (fun p hp hn => rfl) ?_
  obtain ⟨e0, e1, e2, e3, e4, e5, e6, e7, e8, e9⟩ := x.2.2.2 q hq
  have u : ∀ c : Nat, c ≠ 7 → (setI h (11 + 8 * q + 7) T).1 (11 + 8 * q + c) = h.1 (11 + 8 * q + c) := fun c hc => setI_o _ _ (by omega)
  have r : ∀ j : Nat, j < 97 ∨ j = 115 → R' (1 + 116 * q + j) = R (1 + 116 * q + j) := fun j hj => ho _ (by omega)
  dsimp only [RP]
  rw [u 0 (by omega), u 1 (by omega), u 2 (by omega), u 3 (by omega), u 4 (by omega), u 5 (by omega), setI_s]
  exact ⟨by rw [r 0 (by omega)]; exact e0, e1.c (fun t ht => r _ (by omega)) (by omega) (by omega), e2.c (fun t ht => r _ (by omega)) (by omega) (by omega), e3.c (fun t ht => r _ (by omega)) (by omega) (by omega), e4.c (fun t ht => r _ (by omega)) (by omega) (by omega), e5.c (fun t ht => r _ (by omega)) (by omega) (by omega), e6.c (fun t ht => r _ (by omega)), e7.c (r _ (by omega)) (Int.le_refl _), e8, y⟩
end ST
theorem msd_at (R : Nat → Int64) (q j : Nat) : msd R q (1 + 116 * q + j) = if 109 ≤ j ∧ j < 112 then R (1 + 116 * q + (j - 11)) else if j = 108 then 1 else R (1 + 116 * q + j) := by
  unfold msd
  by_cases h : 109 ≤ j ∧ j < 112
  · rw [if_pos h, show 1 + 116 * q + j = 1 + 116 * q + 109 + (j - 109) by omega, wfz_in _ _ _ (by omega), va_o9 _ _ (by omega)]
    exact congrArg R (by omega)
  · rw [if_neg h, wfz_out _ _ (by omega)]
    by_cases h2 : j = 108
    · subst h2; rw [if_pos rfl, va_s9]
    · rw [if_neg h2, va_o9 _ _ (by omega)]
theorem msd_o (R : Nat → Int64) (q : Nat) {j : Nat} (h : j < 1 + 116 * q + 108 ∨ 1 + 116 * q + 112 ≤ j) : msd R q j = R j := by
  unfold msd
  rw [wfz_out _ _ (by omega), va_o9 _ _ (by omega)]
theorem mrq_at (R : Nat → Int64) (q t u j : Nat) : mrq R q t u (1 + 116 * q + j) = if j = 102 then (R (1 + 116 * q + 102) + 1) - (R (1 + 116 * q + 102) + 1) / 8 * 8 else if j = 101 then -1 else if j = 100 then (nI u).toInt64 else if j = 99 then (nI t).toInt64 else if j = 98 then R (1 + 116 * q + 102) else if j = 97 then 1 else R (1 + 116 * q + j) := by
  have e2 : ∀ i : Nat, mr2 R q (1 + 116 * q + i) = if i = 98 then R (1 + 116 * q + 102) else if i = 97 then 1 else R (1 + 116 * q + i) := fun i => by
    unfold mr2
    by_cases h1 : i = 98
    · subst h1; rw [va_s9, if_pos rfl, va_o9 _ _ (by omega)]
    · rw [va_o9 _ _ (by omega), if_neg h1]
      by_cases h2 : i = 97
      · subst h2; rw [va_s9, if_pos rfl]
      · rw [va_o9 _ _ (by omega), if_neg h2]
  have e5 : ∀ i : Nat, mr5 R q t u (1 + 116 * q + i) = if i = 101 then -1 else if i = 100 then (nI u).toInt64 else if i = 99 then (nI t).toInt64 else mr2 R q (1 + 116 * q + i) := fun i => by
    unfold mr5
    by_cases h1 : i = 101
    · subst h1; rw [va_s9, if_pos rfl]
    · rw [va_o9 _ _ (by omega), if_neg h1]
      by_cases h2 : i = 100
      · subst h2; rw [va_s9, if_pos rfl]
      · rw [va_o9 _ _ (by omega), if_neg h2]
        by_cases h3 : i = 99
        · subst h3; rw [va_s9, if_pos rfl]
        · rw [va_o9 _ _ (by omega), if_neg h3]
  unfold mrq
  by_cases h1 : j = 102
  · subst h1
    rw [va_s9, if_pos rfl, e5, if_neg (by decide), if_neg (by decide), if_neg (by decide), e2, if_neg (by decide), if_neg (by decide)]
  · rw [va_o9 _ _ (by omega), if_neg h1, e5, e2]
theorem mrq_o (R : Nat → Int64) (q t u : Nat) {j : Nat} (h : j < 1 + 116 * q + 97 ∨ 1 + 116 * q + 103 ≤ j) : mrq R q t u j = R j := by
  unfold mrq mr5 mr2
  rw [va_o9 _ _ (by omega), va_o9 _ _ (by omega), va_o9 _ _ (by omega), va_o9 _ _ (by omega), va_o9 _ _ (by omega), va_o9 _ _ (by omega)]
theorem rq8 : ∀ v : Nat, v < 8 → ((nI v).toInt64 + 1) - ((nI v).toInt64 + 1) / 8 * 8 = (nI ((v + 1) % 8)).toInt64 := by decide +kernel
section TLK
variable {R : Nat → Int64} {q : Nat} {T B : Nat → Int32}
/-- a request is opened -/
theorem TK.rq (x : TK R q T B) {t u : Nat} (ht : t < 16) (hu : u < 16) (hn : ¬ t = u) (h1 : 1 ≤ (B t).toInt) (h2 : (B u).toInt ≤ 11) : TK (msd (mrq R q t u) q) q (rqT T (nI t) (nI u)) B ∧ mrq R q t u (1 + 116 * q + 98) = (T 0).toInt64 := by
  obtain ⟨⟨⟨b1, b6, b7⟩, t97, t108, t112, t102, v, hv, ev⟩, eO, eA, eW, eG⟩ := x
  have m : ∀ j : Nat, j < 108 ∨ 112 ≤ j → msd (mrq R q t u) q (1 + 116 * q + j) = mrq R q t u (1 + 116 * q + j) := fun j hj => msd_o _ _ (by omega)
  have o : ∀ j : Nat, 103 ≤ j → mrq R q t u (1 + 116 * q + j) = R (1 + 116 * q + j) := fun j hj => mrq_o _ _ _ _ (by omega)
  have e97 : mrq R q t u (1 + 116 * q + 97) = 1 := by rw [mrq_at]; rfl
  have e98 : mrq R q t u (1 + 116 * q + 98) = (T 0).toInt64 := by rw [mrq_at]; exact t102
  have e99 : mrq R q t u (1 + 116 * q + 99) = (nI t).toInt64 := by rw [mrq_at]; rfl
  have e100 : mrq R q t u (1 + 116 * q + 100) = (nI u).toInt64 := by rw [mrq_at]; rfl
  have e101 : mrq R q t u (1 + 116 * q + 101) = -1 := by rw [mrq_at]; rfl
  have e102 : mrq R q t u (1 + 116 * q + 102) = (nI ((v + 1) % 8)).toInt64 := by rw [mrq_at, if_pos rfl, t102, ev]; exact rq8 v hv
  have n0 : 0 ≤ (T 0).toInt := by rw [ev, nI_toInt (by omega)]; omega
  refine ⟨⟨⟨⟨Or.inr rfl, Or.inr rfl, b7⟩, ?_, ?_, ?_, ?_, (v + 1) % 8, by omega, ?_⟩, fun _ => ⟨?_, ?_, ?_, ?_, n0, t, u, ht, hu, hn, rfl, rfl, h1, h2⟩, fun _ => ⟨?_, ?_, ?_, n0, t, u, ht, hu, rfl, rfl⟩, fun w => ?_, ?_⟩, e98⟩
  · rw [m 97 (by omega), e97]; rfl
  · rw [msd_at]; rfl
  · rw [m 112 (by omega), o 112 (by omega)]; exact t112
  · rw [m 102 (by omega), e102]
    show _ = (fmz (T 0 + nI 1) (nI 8)).toInt64
    rw [ev, fmz8 v hv]
  · show fmz (T 0 + nI 1) (nI 8) = _
    rw [ev, fmz8 v hv]
  · rw [m 98 (by omega)]; exact e98
  · rw [m 99 (by omega)]; exact e99
  · rw [m 100 (by omega)]; exact e100
  · rw [m 101 (by omega), e101]; rfl
  · rw [msd_at, if_pos (by decide)]; exact e98
  · rw [msd_at, if_pos (by decide)]; exact e99
  · rw [msd_at, if_pos (by decide)]; exact e100
  · rw [m 113 (by omega), o 113 (by omega), m 114 (by omega), o 114 (by omega)]; exact eW w
  · unfold tkG
    rw [m 103 (by omega), o 103 (by omega), m 104 (by omega), o 104 (by omega), m 105 (by omega), o 105 (by omega), m 106 (by omega), o 106 (by omega), m 107 (by omega), o 107 (by omega)]
    exact eG
/-- the request is sent again -/
theorem TK.rs (x : TK R q T B) (h1 : T 1 = nI 1) : TK (msd R q) q (va_up T 6 (nI 1)) B := by
  obtain ⟨⟨⟨b1, b6, b7⟩, t97, t108, t112, t102, tv⟩, eO, eA, eW, eG⟩ := x
  have m : ∀ j : Nat, j < 108 ∨ 112 ≤ j → msd R q (1 + 116 * q + j) = R (1 + 116 * q + j) := fun j hj => msd_o _ _ (by omega)
  obtain ⟨o1, o2, o3, o4, o5, X, Y, hX, hY, oN, o7, o8, o9, o10⟩ := eO h1
  refine ⟨⟨⟨b1, Or.inr rfl, b7⟩, ?_, ?_, ?_, ?_, tv⟩, fun _ => ⟨?_, ?_, ?_, ?_, o5, X, Y, hX, hY, oN, o7, o8, o9, o10⟩, fun _ => ⟨?_, ?_, ?_, o5, X, Y, hX, hY, o7, o8⟩, fun w => ?_, ?_⟩
  · rw [m 97 (by omega)]; exact t97
  · rw [msd_at]; rfl
  · rw [m 112 (by omega)]; exact t112
  · rw [m 102 (by omega)]; exact t102
  · rw [m 98 (by omega)]; exact o1
  · rw [m 99 (by omega)]; exact o2
  · rw [m 100 (by omega)]; exact o3
  · rw [m 101 (by omega)]; exact o4
  · rw [msd_at, if_pos (by decide)]; exact o1
  · rw [msd_at, if_pos (by decide)]; exact o2
  · rw [msd_at, if_pos (by decide)]; exact o3
  · rw [m 113 (by omega), m 114 (by omega)]; exact eW w
  · unfold tkG
    rw [m 103 (by omega), m 104 (by omega), m 105 (by omega), m 106 (by omega), m 107 (by omega)]
    exact eG
/-- the request message is gone -/
theorem TK.g6 (x : TK R q T B) : TK (va_up R (1 + 116 * q + 108) 0) q (va_up T 6 (nI 0)) B := by
  obtain ⟨⟨⟨b1, b6, b7⟩, t97, t108, t112, t102, tv⟩, eO, eA, eW, eG⟩ := x
  have m : ∀ j : Nat, j ≠ 108 → va_up R (1 + 116 * q + 108) 0 (1 + 116 * q + j) = R (1 + 116 * q + j) := fun j hj => va_o9 _ _ (by omega)
  refine ⟨⟨⟨b1, Or.inl rfl, b7⟩, ?_, ?_, ?_, ?_, tv⟩, fun w => ?_, fun w => absurd w nI01, fun w => ?_, ?_⟩
  · rw [m 97 (by omega)]; exact t97
  · rw [va_s9]; rfl
  · rw [m 112 (by omega)]; exact t112
  · rw [m 102 (by omega)]; exact t102
  · rw [m 98 (by omega), m 99 (by omega), m 100 (by omega), m 101 (by omega)]; exact eO w
  · rw [m 113 (by omega), m 114 (by omega)]; exact eW w
  · unfold tkG
    rw [m 103 (by omega), m 104 (by omega), m 105 (by omega), m 106 (by omega), m 107 (by omega)]
    exact eG
/-- the answer message is gone -/
theorem TK.g7 (x : TK R q T B) : TK (va_up R (1 + 116 * q + 112) 0) q (va_up T 7 (nI 0)) B := by
  obtain ⟨⟨⟨b1, b6, b7⟩, t97, t108, t112, t102, tv⟩, eO, eA, eW, eG⟩ := x
  have m : ∀ j : Nat, j ≠ 112 → va_up R (1 + 116 * q + 112) 0 (1 + 116 * q + j) = R (1 + 116 * q + j) := fun j hj => va_o9 _ _ (by omega)
  refine ⟨⟨⟨b1, b6, Or.inl rfl⟩, ?_, ?_, ?_, ?_, tv⟩, fun w => ?_, fun w => ?_, fun w => absurd w nI01, ?_⟩
  · rw [m 97 (by omega)]; exact t97
  · rw [m 108 (by omega)]; exact t108
  · rw [va_s9]; rfl
  · rw [m 102 (by omega)]; exact t102
  · rw [m 98 (by omega), m 99 (by omega), m 100 (by omega), m 101 (by omega)]; exact eO w
  · rw [m 109 (by omega), m 110 (by omega), m 111 (by omega)]; exact eA w
  · unfold tkG
    rw [m 103 (by omega), m 104 (by omega), m 105 (by omega), m 106 (by omega), m 107 (by omega)]
    exact eG
/-- the sender gets the request message -/
theorem TK.an (x : TK R q T B) (h6 : T 6 = nI 1) {F : Int32} (hR : R 0 = F.toInt64) (hF0 : 0 ≤ F.toInt) (hF : F.toInt ≤ 1000000) : TK (ma4 (mak (va_up R (1 + 116 * q + 108) 0) q) q) q (anT (va_up T 6 (nI 0)) F) B ∧ ma4 (mak (va_up R (1 + 116 * q + 108) 0) q) q (1 + 116 * q + 107) = (agT (va_up T 6 (nI 0)) F 11).toInt64 ∧ (∀ j : Nat, j < 1 + 116 * q + 97 ∨ 1 + 116 * q + 115 ≤ j → ma4 (mak (va_up R (1 + 116 * q + 108) 0) q) q j = R j) := by
  obtain ⟨a1, a2, a3, a4, X, Y, hX, hY, a5, a6⟩ := x.2.2.1 h6
  have y := x.g6
  obtain ⟨R1, hR1⟩ : ∃ R1, R1 = va_up R (1 + 116 * q + 108) 0 := ⟨_, rfl⟩
  obtain ⟨T1, hT1⟩ : ∃ T1, T1 = va_up T 6 (nI 0) := ⟨_, rfl⟩
  rw [← hR1, ← hT1] at y ⊢
  have m1 : ∀ j : Nat, j ≠ 108 → R1 (1 + 116 * q + j) = R (1 + 116 * q + j) := fun j hj => by rw [hR1]; exact va_o9 _ _ (by omega)
  have R10 : R1 0 = F.toInt64 := by rw [hR1, va_o9 _ _ (by omega)]; exact hR
  have q2 : T1 2 = T 2 := by rw [hT1]; exact va_o9 _ _ (by decide)
  have q3 : T1 3 = T 3 := by rw [hT1]; exact va_o9 _ _ (by decide)
  have q4 : T1 4 = T 4 := by rw [hT1]; exact va_o9 _ _ (by decide)
  have s9 : R1 (1 + 116 * q + 109) = (T1 2).toInt64 := by rw [m1 109 (by omega), q2]; exact a1
  have s10 : R1 (1 + 116 * q + 110) = (T1 3).toInt64 := by rw [m1 110 (by omega), q3]; exact a2
  have s11 : R1 (1 + 116 * q + 111) = (T1 4).toInt64 := by rw [m1 111 (by omega), q4]; exact a3
  have n2 : 0 ≤ (T1 2).toInt := by rw [q2]; exact a4
  obtain ⟨⟨⟨b1, b6, b7⟩, t97, t108, t112, t102, tv⟩, eO, eA, eW, eG⟩ := y
  have kc : T1 10 = T1 2 ↔ R1 (1 + 116 * q + 103) = 1 ∧ R1 (1 + 116 * q + 104) = R1 (1 + 116 * q + 109) := by
    rcases eG with ⟨g1, g2, g3⟩ | ⟨g1, g2, g3, g4, g5, g6, g7⟩
    · rw [g1, g2]
      refine ⟨fun w => ?_, fun w => absurd w.1 (by decide)⟩
      have : (-1 : Int32).toInt = -1 := rfl
      rw [← w, this] at n2; omega
    · rw [g1, g2, s9, tl_inj]
      exact ⟨fun w => ⟨rfl, w⟩, fun w => w.2⟩
  -- the agreement as it then stands
  have f8 : (F + nI 8).toInt64 = F.toInt64 + 8 := by
    apply Int64.toInt_inj.mp
    have e8 : (nI 8).toInt = 8 := rfl
    have l8 : (8 : Int64).toInt = 8 := rfl
    rw [Int32.toInt_toInt64, Int32.toInt_add, e8, bm32 (by omega) (by omega), Int64.toInt_add, Int32.toInt_toInt64, l8, bm64 (by omega) (by omega)]
  obtain ⟨R2, hR2⟩ : ∃ R2, R2 = mak R1 q := ⟨_, rfl⟩
  obtain ⟨T2, hT2⟩ : ∃ T2, T2 = agT T1 F := ⟨_, rfl⟩
  have kT : ∀ j : Nat, j < 10 → T2 j = T1 j := fun j hj => by
    rw [hT2]; unfold agT
    by_cases c : T1 10 = T1 2
    · rw [if_pos c]
    · rw [if_neg c, va_o9 _ _ (by omega), va_o9 _ _ (by omega), va_o9 _ _ (by omega), va_o9 _ _ (by omega)]
  have kR : ∀ j : Nat, j < 1 + 116 * q + 103 ∨ 1 + 116 * q + 108 ≤ j → R2 j = R1 j := fun j hj => by
    rw [hR2]; unfold mak
    by_cases c : R1 (1 + 116 * q + 103) = 1 ∧ R1 (1 + 116 * q + 104) = R1 (1 + 116 * q + 109)
    · rw [if_pos c]
    · rw [if_neg c, va_o9 _ _ (by omega)]
      unfold makT
      rw [wfz_out _ _ (by omega), va_o9 _ _ (by omega)]
  have kG : R2 (1 + 116 * q + 103) = 1 ∧ R2 (1 + 116 * q + 104) = (T2 10).toInt64 ∧ 0 ≤ (T2 10).toInt ∧ R2 (1 + 116 * q + 105) = (T2 12).toInt64 ∧ R2 (1 + 116 * q + 106) = (T2 13).toInt64 ∧ R2 (1 + 116 * q + 107) = (T2 11).toInt64 ∧ ∃ x y : Nat, x < 16 ∧ y < 16 ∧ T2 12 = nI x ∧ T2 13 = nI y := by
    by_cases c : T1 10 = T1 2
    · have c2 := kc.mp c
      have e1 : R2 = R1 := by rw [hR2]; exact mak_p c2.1 c2.2
      have e2 : T2 = T1 := by rw [hT2]; unfold agT; rw [if_pos c]
      rw [e1, e2]
      rcases eG with ⟨g1, g2, g3⟩ | g
      · rw [g1] at c2; exact absurd c2.1 (by decide)
      · exact g
    · have c2 : ¬ (R1 (1 + 116 * q + 103) = 1 ∧ R1 (1 + 116 * q + 104) = R1 (1 + 116 * q + 109)) := fun w => c (kc.mpr w)
      have e2 : T2 = va_up (va_up (va_up (va_up T1 10 (T1 2)) 11 (F + nI 8)) 12 (T1 3)) 13 (T1 4) := by rw [hT2]; unfold agT; rw [if_neg c]
      have e1 : R2 = va_up (makT R1 q) (1 + 116 * q + 107) (makT R1 q 0 + 8) := by rw [hR2]; exact if_neg c2
      have mi : ∀ i : Nat, i < 3 → makT R1 q (1 + 116 * q + (104 + i)) = R1 (1 + 116 * q + (109 + i)) := fun i hi => by
        unfold makT
        rw [show 1 + 116 * q + (104 + i) = 1 + 116 * q + 104 + i by omega, wfz_in _ _ _ hi, va_o9 _ _ (by omega)]
      have m0 : makT R1 q 0 = F.toInt64 := by
        unfold makT
        rw [wfz_out _ _ (by omega), va_o9 _ _ (by omega)]; exact R10
      have m3 : makT R1 q (1 + 116 * q + 103) = 1 := by
        unfold makT
        rw [wfz_out _ _ (by omega), va_s9]
      refine ⟨?_, ?_, ?_, ?_, ?_, ?_, X, Y, hX, hY, ?_, ?_⟩
      · rw [e1, va_o9 _ _ (by omega)]; exact m3
      · rw [e1, va_o9 _ _ (by omega), e2]; exact (mi 0 (by omega)).trans s9
      · rw [e2]; exact n2
      · rw [e1, va_o9 _ _ (by omega), e2]; exact (mi 1 (by omega)).trans s10
      · rw [e1, va_o9 _ _ (by omega), e2]; exact (mi 2 (by omega)).trans s11
      · rw [e1, va_s9, e2, m0]; exact f8.symm
      · rw [e2]; show T1 3 = _; rw [q3]; exact a5
      · rw [e2]; show T1 4 = _; rw [q4]; exact a6
  rw [← hR2]
  have eT : anT T1 F = va_up (va_up (va_up T2 7 (nI 1)) 8 (T2 10)) 9 (T2 11) := by unfold anT; rw [hT2]
  have em : ∀ j : Nat, ma4 R2 q (1 + 116 * q + j) = if j = 114 then R2 (1 + 116 * q + 107) else if j = 113 then R2 (1 + 116 * q + 104) else if j = 112 then 1 else R2 (1 + 116 * q + j) := fun j => by
    have x2 : ∀ i : Nat, ma2 R2 q (1 + 116 * q + i) = if i = 112 then 1 else R2 (1 + 116 * q + i) := fun i => by
      unfold ma2
      by_cases h1 : i = 112
      · subst h1; rw [va_s9, if_pos rfl]
      · rw [va_o9 _ _ (by omega), if_neg h1]
    have x3 : ∀ i : Nat, ma3 R2 q (1 + 116 * q + i) = if i = 113 then R2 (1 + 116 * q + 104) else if i = 112 then 1 else R2 (1 + 116 * q + i) := fun i => by
      unfold ma3
      by_cases h1 : i = 113
      · subst h1; rw [va_s9, if_pos rfl, x2, if_neg (by decide)]
      · rw [va_o9 _ _ (by omega), if_neg h1, x2]
    unfold ma4
    by_cases h1 : j = 114
    · subst h1; rw [va_s9, if_pos rfl, x3, if_neg (by decide), if_neg (by decide)]
    · rw [va_o9 _ _ (by omega), if_neg h1, x3]
  have eo : ∀ j : Nat, j < 1 + 116 * q + 112 ∨ 1 + 116 * q + 115 ≤ j → ma4 R2 q j = R2 j := fun j hj => by
    unfold ma4 ma3 ma2
    rw [va_o9 _ _ (by omega), va_o9 _ _ (by omega), va_o9 _ _ (by omega)]
  have es : ∀ j : Nat, j < 103 → ma4 R2 q (1 + 116 * q + j) = R1 (1 + 116 * q + j) := fun j hj => by rw [eo _ (by omega), kR _ (by omega)]
  have ea : ∀ j : Nat, 108 ≤ j → j < 112 → ma4 R2 q (1 + 116 * q + j) = R1 (1 + 116 * q + j) := fun j h1 h2 => by rw [eo _ (by omega), kR _ (by omega)]
  have tj : ∀ j : Nat, j < 7 → anT T1 F j = T1 j := fun j hj => by rw [eT, va_o9 _ _ (by omega), va_o9 _ _ (by omega), va_o9 _ _ (by omega), kT j (by omega)]
  have th : ∀ j : Nat, 10 ≤ j → anT T1 F j = T2 j := fun j hj => by rw [eT, va_o9 _ _ (by omega), va_o9 _ _ (by omega), va_o9 _ _ (by omega)]
  have t7 : anT T1 F 7 = nI 1 := by rw [eT]; rfl
  have t8 : anT T1 F 8 = T2 10 := by rw [eT]; rfl
  have t9 : anT T1 F 9 = T2 11 := by rw [eT]; rfl
  obtain ⟨g1, g2, g3, g4, g5, g6, g7⟩ := kG
  refine ⟨⟨⟨⟨?_, ?_, ?_⟩, ?_, ?_, ?_, ?_, ?_⟩, fun w => ?_, fun w => ?_, fun _ => ?_, Or.inr ?_⟩, ?_, fun j hj => ?_⟩
  · rw [tj 1 (by omega)]; exact b1
  · rw [tj 6 (by omega)]; exact b6
  · rw [t7]; exact Or.inr rfl
  · rw [es 97 (by omega), tj 1 (by omega)]; exact t97
  · rw [ea 108 (by omega) (by omega), tj 6 (by omega)]; exact t108
  · rw [em, t7]; rfl
  · rw [es 102 (by omega), tj 0 (by omega)]; exact t102
  · rw [tj 0 (by omega)]; exact tv
  · rw [tj 1 (by omega)] at w
    rw [es 98 (by omega), es 99 (by omega), es 100 (by omega), es 101 (by omega), tj 2 (by omega), tj 3 (by omega), tj 4 (by omega), tj 5 (by omega)]
    exact eO w
  · rw [tj 6 (by omega), hT1, va_s9] at w
    exact absurd w nI01
  · rw [em, if_neg (by decide), if_pos rfl, em, if_pos rfl, t8, t9]
    exact ⟨g2, g6⟩
  · rw [eo _ (by omega), eo _ (by omega), eo _ (by omega), eo _ (by omega), eo _ (by omega), th 10 (by omega), th 11 (by omega), th 12 (by omega), th 13 (by omega)]
    exact ⟨g1, g2, g3, g4, g5, g6, g7⟩
  · rw [← hT2, eo _ (by omega)]; exact g6
  · rw [eo _ (by omega), kR _ (by omega), hR1, va_o9 _ _ (by omega)]
/-- the receiver gets the answer message -/
theorem TK.tl (x : TK R q T B) (h7 : T 7 = nI 1) : (mtC (va_up R (1 + 116 * q + 112) 0) q ↔ T 1 = 0 ∨ ¬ T 8 = T 2) ∧ R (1 + 116 * q + 114) = (T 9).toInt64 ∧ (¬ (T 1 = 0 ∨ ¬ T 8 = T 2) → TK (va_up (va_up R (1 + 116 * q + 112) 0) (1 + 116 * q + 101) (R (1 + 116 * q + 114))) q (va_up (va_up T 7 (nI 0)) 5 (T 9)) B) := by
  have y := x.g7
  obtain ⟨⟨⟨b1, b6, b7⟩, t97, t108, t112, t102, tv⟩, eO, eA, eW, eG⟩ := x
  obtain ⟨w1, w2⟩ := eW h7
  have kc : mtC (va_up R (1 + 116 * q + 112) 0) q ↔ T 1 = 0 ∨ ¬ T 8 = T 2 := by
    unfold mtC
    rw [va_o9 _ _ (by omega), va_o9 _ _ (by omega), va_o9 _ _ (by omega), t97, w1, tl_0]
    by_cases h1 : T 1 = 0
    · exact ⟨fun _ => Or.inl h1, fun _ => Or.inl h1⟩
    · obtain ⟨o1, -⟩ := eO ((dz0 b1).mp h1)
      rw [o1, tl_inj]
      exact or_congr Iff.rfl (not_congr ⟨fun w => w.symm, fun w => w.symm⟩)
  refine ⟨kc, w2, fun hc => ?_⟩
  have h1 : T 1 = nI 1 := (dz0 b1).mp (fun w => hc (Or.inl w))
  obtain ⟨⟨⟨c1, c6, c7⟩, u97, u108, u112, u102, uv⟩, yO, yA, yW, yG⟩ := y
  have m : ∀ j : Nat, j ≠ 101 → va_up (va_up R (1 + 116 * q + 112) 0) (1 + 116 * q + 101) (R (1 + 116 * q + 114)) (1 + 116 * q + j) = va_up R (1 + 116 * q + 112) 0 (1 + 116 * q + j) := fun j hj => va_o9 _ _ (by omega)
  refine ⟨⟨⟨c1, c6, c7⟩, ?_, ?_, ?_, ?_, uv⟩, fun w => ?_, fun w => ?_, fun w => absurd w nI01, ?_⟩
  · rw [m 97 (by omega)]; exact u97
  · rw [m 108 (by omega)]; exact u108
  · rw [m 112 (by omega)]; exact u112
  · rw [m 102 (by omega)]; exact u102
  · obtain ⟨o1, o2, o3, o4, o5⟩ := yO w
    rw [m 98 (by omega), m 99 (by omega), m 100 (by omega), va_s9, w2]
    exact ⟨o1, o2, o3, rfl, o5⟩
  · rw [m 109 (by omega), m 110 (by omega), m 111 (by omega)]; exact yA w
  · unfold tkG
    rw [m 103 (by omega), m 104 (by omega), m 105 (by omega), m 106 (by omega), m 107 (by omega)]
    exact yG
end TLK
