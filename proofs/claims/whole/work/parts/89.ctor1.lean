/-! THE CONSTRUCTORS' CONTRACTS -/
def tkE : va_E := .inr (3, [.int 0, .int 0, .int 0, .int 0, .int 0, .int (-1), .int 0, .int 0, .int 0, .int (-1), .int (-1), .int (-1), .int 0, .int 0])
/-- a pair as its constructor leaves it -/
def pE (k : kY) (al : Nat → Nat) (j : Nat) : va_E :=
  if j = 0 then .inr (0, [.ref (al 1), .ref (al 2), .ref (al 3), .ref (al 4), .ref (al 5), .ref (al 6), .ref (al 7), .int 1000000, .int 0, .int 0])
  else if j = 1 then .inl (k.2.2 0, 16, .inl (pfz (fun _ => nI 100) (fun _ => 0) 16))
  else if j = 3 then .inl (k.2.2 0, 16, .inl (pfz (fun _ => nI 12) (fun _ => 0) 16))
  else if j = 6 then .inl (k.2.2 1, 16, .inr (.inl (fun _ => 0)))
  else if j = 7 then tkE
  else .inl (k.2.2 0, 16, .inl (fun _ => 0))
def plE (k : kY) (al : Nat → Nat) (j : Nat) : va_E :=
  if j = 0 then .inr (1, [.ref (al 1), .ref (al 2), .ref (al 3)])
  else if j = 1 then .inl (k.2.2 1, 16, .inr (.inl (fun _ => 0)))
  else .inl (k.2.2 0, 16, .inl (fun _ => 0))
def sE (k : kY) (al : Nat → Nat) (j : Nat) : va_E :=
  if j = 0 then .inr (2, [.int 0, .ref (al 1), .ref (al 9)])
  else if j < 9 then pE k (fun i => al (1 + i)) (j - 1)
  else pE k (fun i => al (9 + i)) (j - 9)

abbrev rcc_X3 : Room := { frames := 1, cells := 0, slots := 0, locals := 30 }
set_option maxHeartbeats 4000000 in
set_option maxRecDepth 100000 in
theorem cc_X3 (l : Launch) (k : kY) (a : Nat) : CU l k yX3_init wsX3_init rcc_X3 [.ref a] (fun _ => a) 1 (fun _ => .inr (3, [.int 0, .int 0, .int 0, .int 0, .int 0, .int 0, .int 0, .int 0, .int 0, .int 0, .int 0, .int 0, .int 0, .int 0])) 1 (fun _ _ => tkE) 0 0 := by
  refine u_met (cc := cX3_init) (maxL := 1) (by decide) rfl (Nat.le_of_ble_eq_true rfl) ?_
  intro p e s m args below meth c Q ls X hnm w hl hret
  have hx := X.1
  have hb := X.2.1
  have hown := X.2.2.2.1
  have hts := X.2.2.2.2
  have hts9 : ∀ w : Cond, w ∈ wsX3_init → w ∈ wsX3_init := fun _ h => h
  have hl : lv_has ls 1 [(0, .ref a)] := hl
  have hi3 : ∀ w ∈ u_ws RX3 TX3 14, w ∈ wsX3_init := by decide +kernel
  refine lv_aload_n hx hb dX3_init_0 rfl (lv_at hl 0 rfl) ?_
  refine W.objInit hx hb hown (hts (.methodLink RX3 3 objectInit) (by decide +kernel)) (hts (.instanceMethod objectInit) (by decide +kernel)) (hts (.code objectInit ⟨#[0xb1]⟩ 1 none) (by decide +kernel)) rfl (by rw [X.2.2.1]; exact hl.1) rfl dX3_init_1 (Nat.le_of_ble_eq_true rfl) (Nat.le_of_ble_eq_true rfl) ?_
  refine W.eq (g2 := F0 m 4 ls []) rfl ?_
  refine lv_aload_n hx hb dX3_init_4 rfl (lv_at hl 0 rfl) ?_
  refine lv_iconst (v := (-1)) hx hb dX3_init_5 (by decide) ?_
  refine u_put X w 0 5 .int (ci := 3) (by omega) rfl rfl rfl hi3 tyX3_ok nmX3 (by decide) (by decide +kernel) rfl (by decide +kernel) rfl rfl (Nat.le_of_ble_eq_true rfl) dX3_init_6 (fun H locs w => ?_)
  refine lv_aload_n hx hb dX3_init_9 rfl (lv_at hl 0 rfl) ?_
  refine lv_iconst (v := (-1)) hx hb dX3_init_10 (by decide) ?_
  refine u_put X w 0 9 .int (ci := 3) (by omega) rfl rfl rfl hi3 tyX3_ok nmX3 (by decide) (by decide +kernel) rfl (by decide +kernel) rfl rfl (Nat.le_of_ble_eq_true rfl) dX3_init_11 (fun H locs w => ?_)
  refine lv_aload_n hx hb dX3_init_14 rfl (lv_at hl 0 rfl) ?_
  refine lv_iconst (v := (-1)) hx hb dX3_init_15 (by decide) ?_
  refine u_put X w 0 10 .int (ci := 3) (by omega) rfl rfl rfl hi3 tyX3_ok nmX3 (by decide) (by decide +kernel) rfl (by decide +kernel) rfl rfl (Nat.le_of_ble_eq_true rfl) dX3_init_16 (fun H locs w => ?_)
  refine lv_aload_n hx hb dX3_init_19 rfl (lv_at hl 0 rfl) ?_
  refine lv_iconst (v := (-1)) hx hb dX3_init_20 (by decide) ?_
  refine u_put X w 0 11 .int (ci := 3) (by omega) rfl rfl rfl hi3 tyX3_ok nmX3 (by decide) (by decide +kernel) rfl (by decide +kernel) rfl rfl (Nat.le_of_ble_eq_true rfl) dX3_init_21 (fun H locs w => ?_)
  exact hret _ _ _ _ _ _ _ _ dX3_init_24 w (fun _ _ => rfl) (fun j hj => by obtain rfl : j = 0 := (by omega); rfl) (Nat.le_of_ble_eq_true rfl) (Nat.le_of_ble_eq_true rfl)

abbrev rcc_fill : Room := { frames := 0, cells := 0, slots := 0, locals := 0 }
set_option maxHeartbeats 4000000 in
set_option maxRecDepth 100000 in
theorem cc_fill (l : Launch) (k : kY) (a : Nat) (v : Int32) (f : Nat → Int32) : CU l k yJ7_fill_53178 wsJ7_fill_53178 rcc_fill [.ref a, .int v] (fun _ => a) 1 (fun _ => .inl (k.2.2 0, 16, .inl f)) 1 (fun _ _ => .inl (k.2.2 0, 16, .inl (pfz (fun _ => v) f 16))) 0 0 := by
  refine u_met (cc := cJ7_fill_53178) (maxL := 4) (by decide +kernel) rfl (Nat.le_of_ble_eq_true rfl) ?_
  intro p e s m args below meth c Q ls X hnm w hl hret
  have hx := X.1
  have hb := X.2.1
  have hown := X.2.2.2.1
  have hts := X.2.2.2.2
  have hts9 : ∀ w : Cond, w ∈ wsJ7_fill_53178 → w ∈ wsJ7_fill_53178 := fun _ h => h
  have hl : lv_has ls 4 [(0, .ref a), (1, .int v)] := hl
  refine lv_iconst (v := nI 0) hx hb dJ7_fill_53178_0 (by decide) ?_
  refine lv_istore_n (lv' := [(2, .int (nI 0)), (0, .ref a), (1, .int v)]) hx hb dJ7_fill_53178_1 rfl hl (by decide) rfl (fun ls hl => ?_)
  refine lv_aload_n hx hb dJ7_fill_53178_2 rfl (lv_at hl 1 rfl) ?_
  refine u_alen X w 0 (by decide) rfl rfl dJ7_fill_53178_3 ?_
  refine lv_istore_n (lv' := [(3, .int (nI 16)), (2, .int (nI 0)), (0, .ref a), (1, .int v)]) hx hb dJ7_fill_53178_4 rfl hl (by decide) rfl (fun ls hl => ?_)
  have lp : ∀ (fu t : Nat), t ≤ 16 → 16 - t < fu → ∀ (H : Heap) (locs : List Loc) (ls : Array Slot), UX k (fun _ => a) 1 s H locs (fun _ => a) 1 (fun _ => .inl (k.2.2 0, 16, .inl (pfz (fun _ => v) f t))) → lv_has ls 4 [(0, .ref a), (1, .int v), (2, .int (nI t)), (3, .int (nI 16))] → W p l e rcc_fill s m args below meth c H locs 0 0 Q (F0 m 5 ls []) := by
    intro fu
    induction fu with
    | zero => intro t _ hm; exact absurd hm (Nat.not_lt_zero _)
    | succ fu ih =>
      intro t ht hm H locs ls w hl
      refine lv_iload_n hx hb dJ7_fill_53178_5 rfl (lv_at hl 2 rfl) ?_
      refine lv_iload_n hx hb dJ7_fill_53178_6 rfl (lv_at hl 3 rfl) ?_
      refine q_icge X (tgt := 20) (by omega) (by decide) dJ7_fill_53178_7 (by decide) (fun c_7 => ?_) (fun c_7 => ?_)
      · obtain rfl : t = 16 := by omega
        exact hret _ _ _ _ _ _ _ _ dJ7_fill_53178_20 w (fun _ _ => rfl) (fun _ _ => rfl) (Nat.le_of_ble_eq_true rfl) (Nat.le_of_ble_eq_true rfl)
      · refine lv_aload_n hx hb dJ7_fill_53178_10 rfl (lv_at hl 0 rfl) ?_
        refine lv_iload_n hx hb dJ7_fill_53178_11 rfl (lv_at hl 2 rfl) ?_
        refine lv_iload_n hx hb dJ7_fill_53178_12 rfl (lv_at hl 1 rfl) ?_
        refine u_iast X w 0 t (by decide) rfl rfl (by omega) (by decide) dJ7_fill_53178_13 (fun H locs w => ?_)
        refine lv_iinc (v := nI (t + 1)) (lv' := [(2, .int (nI (t + 1))), (0, .ref a), (1, .int v), (3, .int (nI 16))]) hx hb dJ7_fill_53178_14 hl (k := 2) rfl (nI_1 _) (by decide) rfl (fun ls hl => ?_)
        refine lv_goto (tgt := 5) hx hb dJ7_fill_53178_17 (by decide) ?_
        exact ih (t + 1) (by omega) (by omega) _ _ _ (w.cong (fun _ _ => rfl) (fun j hj => by obtain rfl : j = 0 := (by omega); rw [va_s9, pfz_up (fun _ => v)])) (lv_sub hl [1, 2, 0, 3] rfl)
  exact lp 17 0 (by omega) (by omega) _ _ _ (w.cong (fun _ _ => rfl) (fun j hj => by rw [pfz_0])) (lv_sub hl [2, 3, 1, 0] rfl)

abbrev rcc_X0 : Room := { frames := 2, cells := 7, slots := 110, locals := 60 }
set_option maxHeartbeats 4000000 in
set_option maxRecDepth 100000 in
theorem cc_X0 (l : Launch) (k : kY) (a : Nat) : CU l k yX0_init wsX0_init rcc_X0 [.ref a] (fun _ => a) 1 (fun _ => .inr (0, [.null, .null, .null, .null, .null, .null, .null, .int 0, .int 0, .int 0])) 8 (pE k) 7 110 := by
  refine u_met (cc := cX0_init) (maxL := 1) (by decide) rfl (Nat.le_of_ble_eq_true rfl) ?_
  intro p e s m args below meth c Q ls X hnm w hl hret
  have hx := X.1
  have hb := X.2.1
  have hown := X.2.2.2.1
  have hts := X.2.2.2.2
  have hts9 : ∀ w : Cond, w ∈ wsX0_init → w ∈ wsX0_init := fun _ h => h
  have hl : lv_has ls 1 [(0, .ref a)] := hl
  have hi0 : ∀ w ∈ u_ws RX0 TX0 10, w ∈ wsX0_init := by decide +kernel
  have hi3 : ∀ w ∈ u_ws RX3 TX3 14, w ∈ wsX0_init := by decide +kernel
  refine lv_aload_n hx hb dX0_init_0 rfl (lv_at hl 0 rfl) ?_
  refine W.objInit hx hb hown (hts (.methodLink RX0 3 objectInit) (by decide +kernel)) (hts (.instanceMethod objectInit) (by decide +kernel)) (hts (.code objectInit ⟨#[0xb1]⟩ 1 none) (by decide +kernel)) rfl (by rw [X.2.2.1]; exact hl.1) rfl dX0_init_1 (Nat.le_of_ble_eq_true rfl) (Nat.le_of_ble_eq_true rfl) ?_
  refine W.eq (g2 := F0 m 4 ls []) rfl ?_
  refine lv_aload_n hx hb dX0_init_4 rfl (lv_at hl 0 rfl) ?_
  refine lv_bipush (v := nI 16) hx hb dX0_init_5 (by decide) ?_
  refine u_newI X w (hts9 (.arrayClass .int) (by decide +kernel)) (by decide) (Nat.le_of_ble_eq_true rfl) (Nat.le_of_ble_eq_true rfl) dX0_init_7 (fun q1 H w => ?_)
  refine u_putF X w 0 0 (.array .int) (ci := 0) (by omega) rfl rfl rfl hi0 tyX0_ok nmX0 (by decide) (by decide +kernel) rfl hnm rfl (by decide +kernel) rfl rfl (Nat.le_of_ble_eq_true rfl) dX0_init_9 (fun H locs w => ?_)
  refine lv_aload_n hx hb dX0_init_12 rfl (lv_at hl 0 rfl) ?_
  refine lv_bipush (v := nI 16) hx hb dX0_init_13 (by decide) ?_
  refine u_newI X w (hts9 (.arrayClass .int) (by decide +kernel)) (by decide) (Nat.le_of_ble_eq_true rfl) (Nat.le_of_ble_eq_true rfl) dX0_init_15 (fun q2 H w => ?_)
  refine u_putF X w 0 1 (.array .int) (ci := 0) (by omega) rfl rfl rfl hi0 tyX0_ok nmX0 (by decide) (by decide +kernel) rfl hnm rfl (by decide +kernel) rfl rfl (Nat.le_of_ble_eq_true rfl) dX0_init_17 (fun H locs w => ?_)
  refine lv_aload_n hx hb dX0_init_20 rfl (lv_at hl 0 rfl) ?_
  refine lv_bipush (v := nI 16) hx hb dX0_init_21 (by decide) ?_
  refine u_newI X w (hts9 (.arrayClass .int) (by decide +kernel)) (by decide) (Nat.le_of_ble_eq_true rfl) (Nat.le_of_ble_eq_true rfl) dX0_init_23 (fun q3 H w => ?_)
  refine u_putF X w 0 2 (.array .int) (ci := 0) (by omega) rfl rfl rfl hi0 tyX0_ok nmX0 (by decide) (by decide +kernel) rfl hnm rfl (by decide +kernel) rfl rfl (Nat.le_of_ble_eq_true rfl) dX0_init_25 (fun H locs w => ?_)
  refine lv_aload_n hx hb dX0_init_28 rfl (lv_at hl 0 rfl) ?_
  refine lv_bipush (v := nI 16) hx hb dX0_init_29 (by decide) ?_
  refine u_newI X w (hts9 (.arrayClass .int) (by decide +kernel)) (by decide) (Nat.le_of_ble_eq_true rfl) (Nat.le_of_ble_eq_true rfl) dX0_init_31 (fun q4 H w => ?_)
  refine u_putF X w 0 3 (.array .int) (ci := 0) (by omega) rfl rfl rfl hi0 tyX0_ok nmX0 (by decide) (by decide +kernel) rfl hnm rfl (by decide +kernel) rfl rfl (Nat.le_of_ble_eq_true rfl) dX0_init_33 (fun H locs w => ?_)
  refine lv_aload_n hx hb dX0_init_36 rfl (lv_at hl 0 rfl) ?_
  refine lv_bipush (v := nI 16) hx hb dX0_init_37 (by decide) ?_
  refine u_newI X w (hts9 (.arrayClass .int) (by decide +kernel)) (by decide) (Nat.le_of_ble_eq_true rfl) (Nat.le_of_ble_eq_true rfl) dX0_init_39 (fun q5 H w => ?_)
  refine u_putF X w 0 4 (.array .int) (ci := 0) (by omega) rfl rfl rfl hi0 tyX0_ok nmX0 (by decide) (by decide +kernel) rfl hnm rfl (by decide +kernel) rfl rfl (Nat.le_of_ble_eq_true rfl) dX0_init_41 (fun H locs w => ?_)
  refine lv_aload_n hx hb dX0_init_44 rfl (lv_at hl 0 rfl) ?_
  refine lv_bipush (v := nI 16) hx hb dX0_init_45 (by decide) ?_
  refine u_newL X w (hts9 (.arrayClass .long) (by decide +kernel)) (by decide) (Nat.le_of_ble_eq_true rfl) (Nat.le_of_ble_eq_true rfl) dX0_init_47 (fun q6 H w => ?_)
  refine u_putF X w 0 5 (.array .long) (ci := 0) (by omega) rfl rfl rfl hi0 tyX0_ok nmX0 (by decide) (by decide +kernel) rfl hnm rfl (by decide +kernel) rfl rfl (Nat.le_of_ble_eq_true rfl) dX0_init_49 (fun H locs w => ?_)
  refine lv_aload_n hx hb dX0_init_52 rfl (lv_at hl 0 rfl) ?_
  refine u_new X w (ci := 3) (fs := [.int 0, .int 0, .int 0, .int 0, .int 0, .int 0, .int 0, .int 0, .int 0, .int 0, .int 0, .int 0, .int 0, .int 0]) tyX3 rfl hi3 tyX3_ok (hts9 (.classLink RX0 31 RX3) (by decide +kernel)) (hts9 (.instantiable RX3 14) (by decide +kernel)) (hts9 (.initialized RX3) (by decide +kernel)) (fun j hj => by rcases (show j = 0 ∨ j = 1 ∨ j = 2 ∨ j = 3 ∨ j = 4 ∨ j = 5 ∨ j = 6 ∨ j = 7 ∨ j = 8 ∨ j = 9 ∨ j = 10 ∨ j = 11 ∨ j = 12 ∨ j = 13 by omega) with rfl | rfl | rfl | rfl | rfl | rfl | rfl | rfl | rfl | rfl | rfl | rfl | rfl | rfl <;> rfl) (Nat.le_of_ble_eq_true rfl) (Nat.le_of_ble_eq_true rfl) dX0_init_53 (fun q7 H w => ?_)
  refine lv_dup hx hb dX0_init_56 rfl ?_
  refine u_callJ X w (i := 7) (by omega) rfl rfl (cc_X3 l k q7) (cwI 0 hts gX0_init_X3_init rfl rfl rfl (hts (.initialized RX3) (by decide +kernel)) (hts (.methodLink RX0 33 yX3_init) (by decide +kernel)) (hts (.instanceMethod yX3_init) (by decide +kernel)) rfl (by decide +kernel) ⟨(Nat.le_of_ble_eq_true rfl), (Nat.le_of_ble_eq_true rfl)⟩) hl.1 (Nat.le_of_ble_eq_true rfl) dX0_init_57 ⟨Nat.le_of_ble_eq_true rfl, Nat.le_of_ble_eq_true rfl⟩ (fun be H locs w => ?_)
  refine u_putF X w 0 6 (.object "ToneLoader$Talk") (ci := 0) (by omega) rfl rfl rfl hi0 tyX0_ok nmX0 (by decide) (by decide +kernel) rfl hnm rfl (by decide +kernel) rfl rfl (Nat.le_of_ble_eq_true rfl) dX0_init_60 (fun H locs w => ?_)
  refine lv_aload_n hx hb dX0_init_63 rfl (lv_at hl 0 rfl) ?_
  refine u_get X w 0 0 (ci := 0) (by omega) rfl rfl rfl hi0 (by decide) (by decide +kernel) rfl dX0_init_64 ?_
  refine lv_bipush (v := nI 100) hx hb dX0_init_67 (by decide) ?_
  refine u_callF X w (i := 1) (by omega) rfl rfl (cc_fill l k q1 (nI 100) (fun _ => 0)) (va_cwS 2 hts gX0_init_J7_fill_53178 rfl rfl rfl (by decide +kernel) ⟨Nat.le_of_ble_eq_true rfl, Nat.le_of_ble_eq_true rfl⟩) rfl hl.1 rfl (Nat.le_of_ble_eq_true rfl) dX0_init_69 ⟨Nat.le_of_ble_eq_true rfl, Nat.le_of_ble_eq_true rfl⟩ (fun be H locs w => ?_)
  refine lv_aload_n hx hb dX0_init_72 rfl (lv_at hl 0 rfl) ?_
  refine u_get X w 0 2 (ci := 0) (by omega) rfl rfl rfl hi0 (by decide) (by decide +kernel) rfl dX0_init_73 ?_
  refine lv_bipush (v := nI 12) hx hb dX0_init_76 (by decide) ?_
  refine u_callF X w (i := 3) (by omega) rfl rfl (cc_fill l k q3 (nI 12) (fun _ => 0)) (va_cwS 2 hts gX0_init_J7_fill_53178 rfl rfl rfl (by decide +kernel) ⟨Nat.le_of_ble_eq_true rfl, Nat.le_of_ble_eq_true rfl⟩) rfl hl.1 rfl (Nat.le_of_ble_eq_true rfl) dX0_init_78 ⟨Nat.le_of_ble_eq_true rfl, Nat.le_of_ble_eq_true rfl⟩ (fun be H locs w => ?_)
  refine lv_aload_n hx hb dX0_init_81 rfl (lv_at hl 0 rfl) ?_
  refine lv_ldc (v := 1000000) hx hb hown (hts (.constant RX0 44 1000000) (by decide +kernel)) dX0_init_82 ?_
  refine u_put X w 0 7 .int (ci := 0) (by omega) rfl rfl rfl hi0 tyX0_ok nmX0 (by decide) (by decide +kernel) rfl (by decide +kernel) rfl rfl (Nat.le_of_ble_eq_true rfl) dX0_init_84 (fun H locs w => ?_)
  refine lv_aload_n hx hb dX0_init_87 rfl (lv_at hl 0 rfl) ?_
  refine lv_iconst (v := nI 0) hx hb dX0_init_88 (by decide) ?_
  refine u_put X w 0 8 .int (ci := 0) (by omega) rfl rfl rfl hi0 tyX0_ok nmX0 (by decide) (by decide +kernel) rfl (by decide +kernel) rfl rfl (Nat.le_of_ble_eq_true rfl) dX0_init_89 (fun H locs w => ?_)
  refine lv_aload_n hx hb dX0_init_92 rfl (lv_at hl 0 rfl) ?_
  refine lv_iconst (v := nI 0) hx hb dX0_init_93 (by decide) ?_
  refine u_put X w 0 9 .boolean (ci := 0) (by omega) rfl rfl rfl hi0 tyX0_ok nmX0 (by decide) (by decide +kernel) rfl (by decide +kernel) rfl rfl (Nat.le_of_ble_eq_true rfl) dX0_init_94 (fun H locs w => ?_)
  exact hret _ _ _ _ _ _ _ _ dX0_init_97 w (fun j hj => by obtain rfl : j = 0 := (by omega); rfl) (fun j hj => by rcases (show j = 0 ∨ j = 1 ∨ j = 2 ∨ j = 3 ∨ j = 4 ∨ j = 5 ∨ j = 6 ∨ j = 7 by omega) with rfl | rfl | rfl | rfl | rfl | rfl | rfl | rfl <;> rfl) (Nat.le_of_ble_eq_true rfl) (Nat.le_of_ble_eq_true rfl)

abbrev rcc_X1 : Room := { frames := 1, cells := 3, slots := 48, locals := 30 }
set_option maxHeartbeats 4000000 in
set_option maxRecDepth 100000 in
theorem cc_X1 (l : Launch) (k : kY) (a : Nat) : CU l k yX1_init wsX1_init rcc_X1 [.ref a] (fun _ => a) 1 (fun _ => .inr (1, [.null, .null, .null])) 4 (plE k) 3 48 := by
  refine u_met (cc := cX1_init) (maxL := 1) (by decide) rfl (Nat.le_of_ble_eq_true rfl) ?_
  intro p e s m args below meth c Q ls X hnm w hl hret
  have hx := X.1
  have hb := X.2.1
  have hown := X.2.2.2.1
  have hts := X.2.2.2.2
  have hts9 : ∀ w : Cond, w ∈ wsX1_init → w ∈ wsX1_init := fun _ h => h
  have hl : lv_has ls 1 [(0, .ref a)] := hl
  have hi1 : ∀ w ∈ u_ws RX1 TX1 3, w ∈ wsX1_init := by decide +kernel
  refine lv_aload_n hx hb dX1_init_0 rfl (lv_at hl 0 rfl) ?_
  refine W.objInit hx hb hown (hts (.methodLink RX1 3 objectInit) (by decide +kernel)) (hts (.instanceMethod objectInit) (by decide +kernel)) (hts (.code objectInit ⟨#[0xb1]⟩ 1 none) (by decide +kernel)) rfl (by rw [X.2.2.1]; exact hl.1) rfl dX1_init_1 (Nat.le_of_ble_eq_true rfl) (Nat.le_of_ble_eq_true rfl) ?_
  refine W.eq (g2 := F0 m 4 ls []) rfl ?_
  refine lv_aload_n hx hb dX1_init_4 rfl (lv_at hl 0 rfl) ?_
  refine lv_bipush (v := nI 16) hx hb dX1_init_5 (by decide) ?_
  refine u_newL X w (hts9 (.arrayClass .long) (by decide +kernel)) (by decide) (Nat.le_of_ble_eq_true rfl) (Nat.le_of_ble_eq_true rfl) dX1_init_7 (fun q1 H w => ?_)
  refine u_putF X w 0 0 (.array .long) (ci := 1) (by omega) rfl rfl rfl hi1 tyX1_ok nmX1 (by decide) (by decide +kernel) rfl hnm rfl (by decide +kernel) rfl rfl (Nat.le_of_ble_eq_true rfl) dX1_init_9 (fun H locs w => ?_)
  refine lv_aload_n hx hb dX1_init_12 rfl (lv_at hl 0 rfl) ?_
  refine lv_bipush (v := nI 16) hx hb dX1_init_13 (by decide) ?_
  refine u_newI X w (hts9 (.arrayClass .int) (by decide +kernel)) (by decide) (Nat.le_of_ble_eq_true rfl) (Nat.le_of_ble_eq_true rfl) dX1_init_15 (fun q2 H w => ?_)
  refine u_putF X w 0 1 (.array .int) (ci := 1) (by omega) rfl rfl rfl hi1 tyX1_ok nmX1 (by decide) (by decide +kernel) rfl hnm rfl (by decide +kernel) rfl rfl (Nat.le_of_ble_eq_true rfl) dX1_init_17 (fun H locs w => ?_)
  refine lv_aload_n hx hb dX1_init_20 rfl (lv_at hl 0 rfl) ?_
  refine lv_bipush (v := nI 16) hx hb dX1_init_21 (by decide) ?_
  refine u_newI X w (hts9 (.arrayClass .int) (by decide +kernel)) (by decide) (Nat.le_of_ble_eq_true rfl) (Nat.le_of_ble_eq_true rfl) dX1_init_23 (fun q3 H w => ?_)
  refine u_putF X w 0 2 (.array .int) (ci := 1) (by omega) rfl rfl rfl hi1 tyX1_ok nmX1 (by decide) (by decide +kernel) rfl hnm rfl (by decide +kernel) rfl rfl (Nat.le_of_ble_eq_true rfl) dX1_init_25 (fun H locs w => ?_)
  exact hret _ _ _ _ _ _ _ _ dX1_init_28 w (fun j hj => by obtain rfl : j = 0 := (by omega); rfl) (fun j hj => by rcases (show j = 0 ∨ j = 1 ∨ j = 2 ∨ j = 3 by omega) with rfl | rfl | rfl | rfl <;> rfl) (Nat.le_of_ble_eq_true rfl) (Nat.le_of_ble_eq_true rfl)

