/-! THE CONSTRUCTORS' CONTRACTS: states and the loader -/
theorem pE_c {k : kY} {al al' : Nat → Nat} (h : ∀ i, i < 8 → al i = al' i) (j : Nat) : pE k al j = pE k al' j := by
  unfold pE
  rw [h 1 (by omega), h 2 (by omega), h 3 (by omega), h 4 (by omega), h 5 (by omega), h 6 (by omega), h 7 (by omega)]
theorem plE_c {k : kY} {al al' : Nat → Nat} (h : ∀ i, i < 4 → al i = al' i) (j : Nat) : plE k al j = plE k al' j := by
  unfold plE
  rw [h 1 (by omega), h 2 (by omega), h 3 (by omega)]
theorem sE_c {k : kY} {al al' : Nat → Nat} (h : ∀ i, i < 17 → al i = al' i) (j : Nat) : sE k al j = sE k al' j := by
  unfold sE
  rw [h 1 (by omega), h 9 (by omega), pE_c (al := fun i => al (1 + i)) (al' := fun i => al' (1 + i)) (fun i hi => h _ (by omega)), pE_c (al := fun i => al (9 + i)) (al' := fun i => al' (9 + i)) (fun i hi => h _ (by omega))]

abbrev rcc_X2 : Room := { frames := 3, cells := 16, slots := 240, locals := 100 }
set_option maxHeartbeats 4000000 in
set_option maxRecDepth 100000 in
theorem cc_X2 (l : Launch) (k : kY) (a : Nat) : CU l k yX2_init wsX2_init rcc_X2 [.ref a] (fun _ => a) 1 (fun _ => .inr (2, [.int 0, .null, .null])) 17 (sE k) 16 240 := by
  refine u_met (cc := cX2_init) (maxL := 1) (by decide) rfl (Nat.le_of_ble_eq_true rfl) ?_
  intro p e s m args below meth c Q ls X hnm w hl hret
  have hx := X.1
  have hb := X.2.1
  have hown := X.2.2.2.1
  have hts := X.2.2.2.2
  have hts9 : ∀ w : Cond, w ∈ wsX2_init → w ∈ wsX2_init := fun _ h => h
  have hl : lv_has ls 1 [(0, .ref a)] := hl
  have hi0 : ∀ w ∈ u_ws RX0 TX0 10, w ∈ wsX2_init := by decide +kernel
  have hi2 : ∀ w ∈ u_ws RX2 TX2 3, w ∈ wsX2_init := by decide +kernel
  refine lv_aload_n hx hb dX2_init_0 rfl (lv_at hl 0 rfl) ?_
  refine W.objInit hx hb hown (hts (.methodLink RX2 1 objectInit) (by decide +kernel)) (hts (.instanceMethod objectInit) (by decide +kernel)) (hts (.code objectInit ⟨#[0xb1]⟩ 1 none) (by decide +kernel)) rfl (by rw [X.2.2.1]; exact hl.1) rfl dX2_init_1 (Nat.le_of_ble_eq_true rfl) (Nat.le_of_ble_eq_true rfl) ?_
  refine W.eq (g2 := F0 m 4 ls []) rfl ?_
  refine lv_aload_n hx hb dX2_init_4 rfl (lv_at hl 0 rfl) ?_
  refine lv_iconst (v := nI 0) hx hb dX2_init_5 (by decide) ?_
  refine u_put X w 0 0 .int (ci := 2) (by omega) rfl rfl rfl hi2 tyX2_ok nmX2 (by decide) (by decide +kernel) rfl (by decide +kernel) rfl rfl (Nat.le_of_ble_eq_true rfl) dX2_init_6 (fun H locs w => ?_)
  refine lv_aload_n hx hb dX2_init_9 rfl (lv_at hl 0 rfl) ?_
  refine u_new X w (ci := 0) (fs := [.null, .null, .null, .null, .null, .null, .null, .int 0, .int 0, .int 0]) tyX0 rfl hi0 tyX0_ok (hts9 (.classLink RX2 13 RX0) (by decide +kernel)) (hts9 (.instantiable RX0 10) (by decide +kernel)) (hts9 (.initialized RX0) (by decide +kernel)) (fun j hj => by rcases (show j = 0 ∨ j = 1 ∨ j = 2 ∨ j = 3 ∨ j = 4 ∨ j = 5 ∨ j = 6 ∨ j = 7 ∨ j = 8 ∨ j = 9 by omega) with rfl | rfl | rfl | rfl | rfl | rfl | rfl | rfl | rfl | rfl <;> rfl) (Nat.le_of_ble_eq_true rfl) (Nat.le_of_ble_eq_true rfl) dX2_init_10 (fun q10 H w => ?_)
  refine lv_dup hx hb dX2_init_13 rfl ?_
  refine u_callI X w (i := 1) rfl rfl (cc_X0 l k q10) (by decide) (cwI 0 hts gX2_init_X0_init rfl rfl rfl (hts (.initialized RX0) (by decide +kernel)) (hts (.methodLink RX2 15 yX0_init) (by decide +kernel)) (hts (.instanceMethod yX0_init) (by decide +kernel)) rfl (by decide +kernel) ⟨(Nat.le_of_ble_eq_true rfl), (Nat.le_of_ble_eq_true rfl)⟩) hl.1 (Nat.le_of_ble_eq_true rfl) dX2_init_14 ⟨Nat.le_of_ble_eq_true rfl, Nat.le_of_ble_eq_true rfl⟩ (fun be14 H locs hbe14 w => ?_)
  refine u_putF X w 0 1 (.object "ToneLoader$Pair") (ci := 2) (by omega) rfl rfl rfl hi2 tyX2_ok nmX2 (by decide) (by decide +kernel) rfl hnm rfl (by decide +kernel) rfl rfl (Nat.le_of_ble_eq_true rfl) dX2_init_17 (fun H locs w => ?_)
  refine lv_aload_n hx hb dX2_init_20 rfl (lv_at hl 0 rfl) ?_
  refine u_new X w (ci := 0) (fs := [.null, .null, .null, .null, .null, .null, .null, .int 0, .int 0, .int 0]) tyX0 rfl hi0 tyX0_ok (hts9 (.classLink RX2 13 RX0) (by decide +kernel)) (hts9 (.instantiable RX0 10) (by decide +kernel)) (hts9 (.initialized RX0) (by decide +kernel)) (fun j hj => by rcases (show j = 0 ∨ j = 1 ∨ j = 2 ∨ j = 3 ∨ j = 4 ∨ j = 5 ∨ j = 6 ∨ j = 7 ∨ j = 8 ∨ j = 9 by omega) with rfl | rfl | rfl | rfl | rfl | rfl | rfl | rfl | rfl | rfl <;> rfl) (Nat.le_of_ble_eq_true rfl) (Nat.le_of_ble_eq_true rfl) dX2_init_21 (fun q21 H w => ?_)
  refine lv_dup hx hb dX2_init_24 rfl ?_
  refine u_callI X w (i := 1 + 8) rfl rfl (cc_X0 l k q21) (by decide) (cwI 0 hts gX2_init_X0_init rfl rfl rfl (hts (.initialized RX0) (by decide +kernel)) (hts (.methodLink RX2 15 yX0_init) (by decide +kernel)) (hts (.instanceMethod yX0_init) (by decide +kernel)) rfl (by decide +kernel) ⟨(Nat.le_of_ble_eq_true rfl), (Nat.le_of_ble_eq_true rfl)⟩) hl.1 (Nat.le_of_ble_eq_true rfl) dX2_init_25 ⟨Nat.le_of_ble_eq_true rfl, Nat.le_of_ble_eq_true rfl⟩ (fun be25 H locs hbe25 w => ?_)
  refine u_putF X w 0 2 (.object "ToneLoader$Pair") (ci := 2) (by omega) rfl rfl rfl hi2 tyX2_ok nmX2 (by decide) (by decide +kernel) rfl hnm rfl (by decide +kernel) rfl rfl (Nat.le_of_ble_eq_true rfl) dX2_init_28 (fun H locs w => ?_)
  refine hret _ _ _ _ _ _ _ _ dX2_init_31 w (fun j hj => by obtain rfl : j = 0 := (by omega); rfl) (fun j hj => ?_) (Nat.le_of_ble_eq_true rfl) (Nat.le_of_ble_eq_true rfl)
  rcases (show j = 0 ∨ (1 ≤ j ∧ j < 9) ∨ (9 ≤ j ∧ j < 17) by omega) with rfl | ⟨h1, h2⟩ | ⟨h1, h2⟩
  · show Sum.inr (2, [Value.int 0, .ref (be14 0), .ref (be25 0)]) = _
    rw [hbe14, hbe25]; rfl
  · rw [va_o9 _ _ (by omega), if_pos (by omega), va_o9 _ _ (by omega), va_o9 _ _ (by omega), if_neg (by omega)]
    unfold sE
    rw [if_neg (by omega), if_pos h2]
    exact pE_c (fun i hi => by dsimp only; rw [if_pos (by omega), va_o9 _ _ (by omega), if_neg (by omega), Nat.add_sub_cancel_left]) _
  · rw [va_o9 _ _ (by omega), if_neg (by omega)]
    unfold sE
    rw [if_neg (by omega), if_neg (by omega)]
    exact pE_c (fun i hi => by dsimp only; rw [if_neg (by omega)]; exact congrArg be25 (by omega)) _

/-- the loader when i of its saved states are made -/
def LE (k : kY) (al : Nat → Nat) (i j : Nat) : va_E :=
  if j = 0 then .inr (4, [.ref (al 1), .ref (al 18), .int 0, .int 0, .null])
  else if j < 18 then sE k (fun t => al (1 + t)) (j - 1)
  else if j = 18 then .inl (k.2.2 3, 4, .inr (.inr (.inr (.inr (fun t => if t < i then some (al (19 + 17 * t)) else none)))))
  else sE k (fun t => al (19 + 17 * ((j - 19) / 17) + t)) ((j - 19) % 17)
def lE (k : kY) (al : Nat → Nat) (j : Nat) : va_E :=
  if j = 0 then .inr (4, [.ref (al 1), .ref (al 18), .int 0, .int 0, .ref (al 87)])
  else if j < 87 then LE k al 4 j
  else plE k (fun t => al (87 + t)) (j - 87)
theorem LE_c {k : kY} {al al' : Nat → Nat} {i : Nat} (hi : i ≤ 4) (h : ∀ j, j < 19 + 17 * i → al j = al' j) {j : Nat} (hj : j < 19 + 17 * i) : LE k al i j = LE k al' i j := by
  unfold LE
  rw [h 1 (by omega), h 18 (by omega)]
  by_cases c0 : j = 0
  · rw [if_pos c0, if_pos c0]
  · rw [if_neg c0, if_neg c0]
    by_cases c1 : j < 18
    · rw [if_pos c1, if_pos c1]
      exact sE_c (fun t ht => h _ (by omega)) _
    · rw [if_neg c1, if_neg c1]
      by_cases c2 : j = 18
      · rw [if_pos c2, if_pos c2]
        have e : (fun t => if t < i then some (al (19 + 17 * t)) else none) = (fun t => if t < i then some (al' (19 + 17 * t)) else none) := by
          funext t
          by_cases c3 : t < i
          · rw [if_pos c3, if_pos c3, h _ (by omega)]
          · rw [if_neg c3, if_neg c3]
        rw [e]
      · rw [if_neg c2, if_neg c2]
        exact sE_c (fun t ht => h _ (by omega)) _
/-- one saved state more -/
theorem LE_up {k : kY} {al be : Nat → Nat} {i q : Nat} {D : va_E} (hi : i < 4) (hbe : be 0 = q) {j : Nat} (hj : j < 19 + 17 * i + 17) :
    LE k (fun t => if t < 19 + 17 * i then va_up al (19 + 17 * i) q t else be (t - (19 + 17 * i))) (i + 1) j = va_up (fun t => if t < 19 + 17 * i then va_up (LE k al i) (19 + 17 * i) D t else sE k be (t - (19 + 17 * i))) 18 (.inl (k.2.2 3, 4, .inr (.inr (.inr (.inr (va_up (fun t => if t < i then some (al (19 + 17 * t)) else none) i (some q))))))) j := by
  obtain ⟨al2, h2⟩ : ∃ al2, al2 = (fun t => if t < 19 + 17 * i then va_up al (19 + 17 * i) q t else be (t - (19 + 17 * i))) := ⟨_, rfl⟩
  rw [← h2]
  have lo : ∀ t, t < 19 + 17 * i → al2 t = al t := fun t ht => by
    rw [h2]; show (if t < 19 + 17 * i then va_up al (19 + 17 * i) q t else be (t - (19 + 17 * i))) = _
    rw [if_pos ht, va_o9 _ _ (by omega)]
  have hi2 : ∀ t, al2 (19 + 17 * i + t) = be t := fun t => by
    rw [h2]; show (if 19 + 17 * i + t < 19 + 17 * i then va_up al (19 + 17 * i) q (19 + 17 * i + t) else be (19 + 17 * i + t - (19 + 17 * i))) = _
    rw [if_neg (by omega), Nat.add_sub_cancel_left]
  by_cases c2 : j = 18
  · subst c2
    rw [va_s9]
    unfold LE
    rw [if_neg (by decide), if_neg (by decide), if_pos rfl]
    have e : (fun t => if t < i + 1 then some (al2 (19 + 17 * t)) else none) = va_up (fun t => if t < i then some (al (19 + 17 * t)) else none) i (some q) := by
      funext t
      by_cases c3 : t = i
      · subst c3
        rw [va_s9, if_pos (by omega), show 19 + 17 * t = 19 + 17 * t + 0 by omega, hi2, hbe]
      · rw [va_o9 _ _ c3]
        by_cases c4 : t < i
        · rw [if_pos c4, if_pos (by omega), lo _ (by omega)]
        · rw [if_neg c4, if_neg (by omega)]
    rw [e]
  · rw [va_o9 _ _ c2]
    show _ = if j < 19 + 17 * i then va_up (LE k al i) (19 + 17 * i) D j else sE k be (j - (19 + 17 * i))
    by_cases c3 : j < 19 + 17 * i
    · rw [if_pos c3, va_o9 _ _ (by omega), ← LE_c (by omega) lo c3]
      unfold LE
      rw [if_neg c2, if_neg c2]
    · rw [if_neg c3]
      unfold LE
      rw [if_neg (by omega), if_neg (by omega), if_neg c2, show (j - 19) / 17 = i by omega, show (j - 19) % 17 = j - (19 + 17 * i) by omega]
      exact sE_c (fun t _ => hi2 t) _

abbrev rcc_X4 : Room := { frames := 4, cells := 90, slots := 1270, locals := 150 }
set_option maxHeartbeats 4000000 in
set_option maxRecDepth 100000 in
theorem cc_X4 (l : Launch) (k : kY) (a : Nat) : CU l k yX4_init wsX4_init rcc_X4 [.ref a] (fun _ => a) 1 (fun _ => .inr (4, [.null, .null, .int 0, .int 0, .null])) 91 (lE k) 90 1270 := by
  refine u_met (cc := cX4_init) (maxL := 2) (by decide) rfl (Nat.le_of_ble_eq_true rfl) ?_
  intro p e s m args below meth c Q ls X hnm w hl hret
  have hx := X.1
  have hb := X.2.1
  have hown := X.2.2.2.1
  have hts := X.2.2.2.2
  have hts9 : ∀ w : Cond, w ∈ wsX4_init → w ∈ wsX4_init := fun _ h => h
  have hl : lv_has ls 2 [(0, .ref a)] := hl
  have hi1 : ∀ w ∈ u_ws RX1 TX1 3, w ∈ wsX4_init := by decide +kernel
  have hi2 : ∀ w ∈ u_ws RX2 TX2 3, w ∈ wsX4_init := by decide +kernel
  have hi4 : ∀ w ∈ u_ws RX4 TX4 5, w ∈ wsX4_init := by decide +kernel
  refine lv_aload_n hx hb dX4_init_0 rfl (lv_at hl 0 rfl) ?_
  refine W.objInit hx hb hown (hts (.methodLink RX4 3 objectInit) (by decide +kernel)) (hts (.instanceMethod objectInit) (by decide +kernel)) (hts (.code objectInit ⟨#[0xb1]⟩ 1 none) (by decide +kernel)) rfl (by rw [X.2.2.1]; exact hl.1) rfl dX4_init_1 (Nat.le_of_ble_eq_true rfl) (Nat.le_of_ble_eq_true rfl) ?_
  refine W.eq (g2 := F0 m 4 ls []) rfl ?_
  refine lv_aload_n hx hb dX4_init_4 rfl (lv_at hl 0 rfl) ?_
  refine u_new X w (ci := 2) (fs := [.int 0, .null, .null]) tyX2 rfl hi2 tyX2_ok (hts9 (.classLink RX4 9 RX2) (by decide +kernel)) (hts9 (.instantiable RX2 3) (by decide +kernel)) (hts9 (.initialized RX2) (by decide +kernel)) (fun j hj => by rcases (show j = 0 ∨ j = 1 ∨ j = 2 by omega) with rfl | rfl | rfl <;> rfl) (Nat.le_of_ble_eq_true rfl) (Nat.le_of_ble_eq_true rfl) dX4_init_5 (fun q5 H w => ?_)
  refine lv_dup hx hb dX4_init_8 rfl ?_
  refine u_callI X w (i := 1) rfl rfl (cc_X2 l k q5) (by decide) (cwI 0 hts gX4_init_X2_init rfl rfl rfl (hts (.initialized RX2) (by decide +kernel)) (hts (.methodLink RX4 11 yX2_init) (by decide +kernel)) (hts (.instanceMethod yX2_init) (by decide +kernel)) rfl (by decide +kernel) ⟨(Nat.le_of_ble_eq_true rfl), (Nat.le_of_ble_eq_true rfl)⟩) hl.1 (Nat.le_of_ble_eq_true rfl) dX4_init_9 ⟨Nat.le_of_ble_eq_true rfl, Nat.le_of_ble_eq_true rfl⟩ (fun be9 H locs hbe9 w => ?_)
  refine u_putF X w 0 0 (.object "ToneLoader$State") (ci := 4) (by omega) rfl rfl rfl hi4 tyX4_ok nmX4 (by decide) (by decide +kernel) rfl hnm rfl (by decide +kernel) rfl rfl (Nat.le_of_ble_eq_true rfl) dX4_init_12 (fun H locs w => ?_)
  refine lv_aload_n hx hb dX4_init_15 rfl (lv_at hl 0 rfl) ?_
  refine lv_iconst (v := nI 4) hx hb dX4_init_16 (by decide) ?_
  refine u_newQ X w (hts9 (.classLink RX4 9 sN) (by decide +kernel)) (by decide) (Nat.le_of_ble_eq_true rfl) (Nat.le_of_ble_eq_true rfl) dX4_init_17 (fun q17 H w => ?_)
  refine u_putF X w 0 1 (.array (.object "ToneLoader$State")) (ci := 4) (by omega) rfl rfl rfl hi4 tyX4_ok nmX4 (by decide) (by decide +kernel) rfl hnm rfl (by decide +kernel) rfl rfl (Nat.le_of_ble_eq_true rfl) dX4_init_20 (fun H locs w => ?_)
  refine lv_iconst (v := nI 0) hx hb dX4_init_23 (by decide) ?_
  refine lv_istore_n (lv' := [(1, .int (nI 0)), (0, .ref a)]) hx hb dX4_init_24 rfl hl (by decide) rfl (fun ls hl => ?_)
  have lp : ∀ (fu i : Nat), i ≤ 4 → 4 - i < fu → ∀ (al : Nat → Nat) (H : Heap) (locs : List Loc) (ls : Array Slot), al 0 = a → UX k (fun _ => a) 1 s H locs al (19 + 17 * i) (LE k al i) → lv_has ls 2 [(0, .ref a), (1, .int (nI i))] → W p l e rcc_X4 s m args below meth c H locs (18 + 17 * i) (247 + 243 * i) Q (F0 m 25 ls []) := by
    intro fu
    induction fu with
    | zero => intro i _ hm; exact absurd hm (Nat.not_lt_zero _)
    | succ fu ih =>
      intro i hi hm al H locs ls hal w hl
      refine lv_iload_n hx hb dX4_init_25 rfl (lv_at hl 1 rfl) ?_
      refine lv_iconst (v := nI 4) hx hb dX4_init_26 (by decide) ?_
      refine q_icge X (tgt := 49) (by omega) (by decide) dX4_init_27 (by decide) (fun c_27 => ?_) (fun c_27 => ?_)
      · obtain rfl : i = 4 := by omega
        refine lv_aload_n hx hb dX4_init_49 rfl (lv_at hl 0 rfl) ?_
        refine lv_iconst (v := nI 0) hx hb dX4_init_50 (by decide) ?_
        refine u_put X w 0 2 .int (ci := 4) (by omega) hal rfl rfl hi4 tyX4_ok nmX4 (by decide) (by decide +kernel) rfl (by decide +kernel) rfl rfl (Nat.le_of_ble_eq_true rfl) dX4_init_51 (fun H locs w => ?_)
        refine lv_aload_n hx hb dX4_init_54 rfl (lv_at hl 0 rfl) ?_
        refine lv_iconst (v := nI 0) hx hb dX4_init_55 (by decide) ?_
        refine u_put X w 0 3 .int (ci := 4) (by omega) hal rfl rfl hi4 tyX4_ok nmX4 (by decide) (by decide +kernel) rfl (by decide +kernel) rfl rfl (Nat.le_of_ble_eq_true rfl) dX4_init_56 (fun H locs w => ?_)
        refine lv_aload_n hx hb dX4_init_59 rfl (lv_at hl 0 rfl) ?_
        refine u_new X w (ci := 1) (fs := [.null, .null, .null]) tyX1 rfl hi1 tyX1_ok (hts9 (.classLink RX4 27 RX1) (by decide +kernel)) (hts9 (.instantiable RX1 3) (by decide +kernel)) (hts9 (.initialized RX1) (by decide +kernel)) (fun j hj => by rcases (show j = 0 ∨ j = 1 ∨ j = 2 by omega) with rfl | rfl | rfl <;> rfl) (Nat.le_of_ble_eq_true rfl) (Nat.le_of_ble_eq_true rfl) dX4_init_60 (fun q60 H w => ?_)
        refine lv_dup hx hb dX4_init_63 rfl ?_
        refine u_callI X w (i := 87) rfl rfl (cc_X1 l k q60) (by decide) (cwI 0 hts gX4_init_X1_init rfl rfl rfl (hts (.initialized RX1) (by decide +kernel)) (hts (.methodLink RX4 29 yX1_init) (by decide +kernel)) (hts (.instanceMethod yX1_init) (by decide +kernel)) rfl (by decide +kernel) ⟨(Nat.le_of_ble_eq_true rfl), (Nat.le_of_ble_eq_true rfl)⟩) hl.1 (Nat.le_of_ble_eq_true rfl) dX4_init_64 ⟨Nat.le_of_ble_eq_true rfl, Nat.le_of_ble_eq_true rfl⟩ (fun be64 H locs hbe64 w => ?_)
        refine u_putF X w 0 4 (.object "ToneLoader$Plan") (ci := 4) (by omega) hal rfl rfl hi4 tyX4_ok nmX4 (by decide) (by decide +kernel) rfl hnm rfl (by decide +kernel) rfl rfl (Nat.le_of_ble_eq_true rfl) dX4_init_67 (fun H locs w => ?_)
        refine hret _ _ _ _ _ _ _ _ dX4_init_70 w (fun j hj => by obtain rfl : j = 0 := (by omega); exact hal) (fun j hj => ?_) (Nat.le_of_ble_eq_true rfl) (Nat.le_of_ble_eq_true rfl)
        rcases (show j = 0 ∨ (1 ≤ j ∧ j < 87) ∨ (87 ≤ j ∧ j < 91) by omega) with rfl | ⟨h1, h2⟩ | ⟨h1, h2⟩
        · show Sum.inr (4, [Value.ref (al 1), .ref (al 18), .int 0, .int 0, .ref (be64 0)]) = _
          rw [hbe64]; rfl
        · rw [va_o9 _ _ (by omega), if_pos h2, va_o9 _ _ (by omega), va_o9 _ _ (by omega), va_o9 _ _ (by omega)]
          unfold lE
          rw [if_neg (by omega), if_pos h2]
          exact LE_c (by omega) (fun t ht => by rw [if_pos (by omega), va_o9 _ _ (by omega)]) (by omega)
        · rw [va_o9 _ _ (by omega), if_neg (by omega)]
          unfold lE
          rw [if_neg (by omega), if_neg (by omega)]
          exact plE_c (fun t ht => by dsimp only; rw [if_neg (by omega)]; exact congrArg be64 (by omega)) _
      · refine lv_aload_n hx hb dX4_init_30 rfl (lv_at hl 0 rfl) ?_
        refine u_get X w 0 1 (ci := 4) (by omega) hal rfl rfl hi4 (by decide) (by decide +kernel) rfl dX4_init_31 ?_
        refine lv_iload_n hx hb dX4_init_34 rfl (lv_at hl 1 rfl) ?_
        refine u_new X w (ci := 2) (fs := [.int 0, .null, .null]) tyX2 rfl hi2 tyX2_ok (hts9 (.classLink RX4 9 RX2) (by decide +kernel)) (hts9 (.instantiable RX2 3) (by decide +kernel)) (hts9 (.initialized RX2) (by decide +kernel)) (fun j hj => by rcases (show j = 0 ∨ j = 1 ∨ j = 2 by omega) with rfl | rfl | rfl <;> rfl) (show _ ≤ 90 by omega) (show _ ≤ 1270 by omega) dX4_init_35 (fun q35 H w => ?_)
        refine lv_dup hx hb dX4_init_38 rfl ?_
        refine u_callI X w (i := 19 + 17 * i) (va_s9 _ _ _) (va_s9 _ _ _) (cc_X2 l k q35) (by decide) (cwI 0 hts gX4_init_X2_init rfl rfl rfl (hts (.initialized RX2) (by decide +kernel)) (hts (.methodLink RX4 11 yX2_init) (by decide +kernel)) (hts (.instanceMethod yX2_init) (by decide +kernel)) rfl (by decide +kernel) ⟨(Nat.le_of_ble_eq_true rfl), (Nat.le_of_ble_eq_true rfl)⟩) hl.1 (Nat.le_of_ble_eq_true rfl) dX4_init_39 ⟨show _ ≤ 90 by omega, show _ ≤ 1270 by omega⟩ (fun be39 H locs hbe39 w => ?_)
        refine u_aast X w 18 (19 + 17 * i) i (by omega) (by rw [if_pos (by omega), va_o9 _ _ (by omega)]) (by rw [if_pos (by omega), va_o9 _ _ (by omega)]; rfl) (by omega) (by rw [if_neg (by omega), Nat.sub_self, hbe39]) (by rw [if_neg (by omega), Nat.sub_self]; rfl) (by omega) (by decide) dX4_init_42 (fun H locs w => ?_)
        refine lv_iinc (v := nI (i + 1)) (lv' := [(1, .int (nI (i + 1))), (0, .ref a)]) hx hb dX4_init_43 hl (k := 1) rfl (nI_1 _) (by decide) rfl (fun ls hl => ?_)
        refine lv_goto (tgt := 25) hx hb dX4_init_46 (by decide) ?_
        have z := ih (i + 1) (by omega) (by omega) _ _ _ ls (by rw [if_pos (by omega), va_o9 _ _ (by omega)]; exact hal) (w.cong (fun _ _ => rfl) (fun j hj => LE_up (by omega) hbe39 hj)) (lv_sub hl [1, 0] rfl)
        rw [show 18 + 17 * (i + 1) = 18 + 17 * i + 1 + 16 by omega, show 247 + 243 * (i + 1) = 247 + 243 * i + 3 + 240 by omega] at z
        exact z
  refine lp 5 0 (by omega) (by omega) _ _ _ ls ?_ (w.cong (fun _ _ => rfl) (fun j hj => ?_)) (lv_sub hl [1, 0] rfl)
  · rfl
  · rcases (show j = 0 ∨ (1 ≤ j ∧ j < 18) ∨ j = 18 by omega) with rfl | ⟨h1, h2⟩ | rfl
    · show Sum.inr (4, [Value.ref (be9 0), .ref q17, .int 0, .int 0, .null]) = _
      rw [hbe9]; rfl
    · rw [va_o9 _ _ (by omega), va_o9 _ _ (by omega), va_o9 _ _ (by omega), if_neg (by omega)]
      unfold LE
      rw [if_neg (by omega), if_pos h2]
      exact sE_c (fun t ht => by rw [va_o9 _ _ (by omega), if_neg (by omega)]; exact congrArg be9 (by omega)) _
    · rfl

