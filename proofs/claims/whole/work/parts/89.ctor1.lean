/-! THE CONSTRUCTORS' CONTRACTS -/
def tkE : va_E := .inr (3, [.int 0, .int 0, .int 0, .int 0, .int 0, .int (-1), .int 0, .int 0, .int 0, .int (-1), .int (-1), .int (-1), .int 0, .int 0])
/-- a pair as its constructor leaves it -/
def pE (k : kY) (al : Nat → Nat) (j : Nat) : va_E :=
  if j = 0 then .inr (0, [.ref (al 1), .ref (al 2), .ref (al 3), .ref (al 4), .ref (al 5), .ref (al 6), .ref (al 7), .int 1000000, .int 0, .int 0])
  else if j = 1 then .inl (k.2.2 0, 16, .inl (fun _ => nI 100))
  else if j = 3 then .inl (k.2.2 0, 16, .inl (fun _ => nI 12))
  else if j = 6 then .inl (k.2.2 1, 16, .inr (.inl (fun _ => 0)))
  else if j = 7 then tkE
  else .inl (k.2.2 0, 16, .inl (fun _ => 0))
def plE (k : kY) (al : Nat → Nat) (j : Nat) : va_E :=
  if j = 0 then .inr (1, [.ref (al 1), .ref (al 2), .ref (al 3)])
  else if j = 1 then .inl (k.2.2 1, 16, .inr (.inl (fun _ => 0)))
  else .inl (k.2.2 0, 16, .inl (fun _ => 0))
def sE (k : kY) (al : Nat → Nat) (j : Nat) : va_E :=
  if j = 0 then .inr (2, [.int 0, .ref (al 1), .ref (al 9)])
  else if j < 9 then pE k (fun i => al (1 + i)) (j - 1)
  else pE k (fun i => al (9 + i)) (j - 9)

abbrev rcc_X3 : Room := { frames := 1, cells := 0, slots := 0, locals := 30 }
set_option maxHeartbeats 4000000 in
set_option maxRecDepth 100000 in
theorem cc_X3 (l : Launch) (k : kY) (a : Nat) : CU l k yX3_init wsX3_init rcc_X3 [.ref a] (fun _ => a) 1 (fun _ => .inr (3, [.int 0, .int 0, .int 0, .int 0, .int 0, .int 0, .int 0, .int 0, .int 0, .int 0, .int 0, .int 0, .int 0, .int 0])) 1 (fun _ _ => tkE) 0 0 := by
  refine u_met (cc := cX3_init) (maxL := 1) (by decide) rfl (Nat.le_of_ble_eq_true rfl) ?_
  intro p e s m args below meth c Q ls X hnm w hl hret
  have hx := X.1
  have hb := X.2.1
  have hown := X.2.2.2.1
  have hts := X.2.2.2.2
  have hts9 : ∀ w : Cond, w ∈ wsX3_init → w ∈ wsX3_init := fun _ h => h
  have hl : lv_has ls 1 [(0, .ref a)] := hl
  have hi3 : ∀ w ∈ u_ws RX3 TX3 14, w ∈ wsX3_init := by decide +kernel
  refine lv_aload_n hx hb dX3_init_0 rfl (lv_at hl 0 rfl) ?_
  refine W.objInit hx hb hown (hts (.methodLink RX3 3 objectInit) (by decide +kernel)) (hts (.instanceMethod objectInit) (by decide +kernel)) (hts (.code objectInit ⟨#[0xb1]⟩ 1 none) (by decide +kernel)) rfl (by rw [X.2.2.1]; exact hl.1) rfl dX3_init_1 (Nat.le_of_ble_eq_true rfl) (Nat.le_of_ble_eq_true rfl) ?_
  refine W.eq (g2 := F0 m 4 ls []) rfl ?_
  refine lv_aload_n hx hb dX3_init_4 rfl (lv_at hl 0 rfl) ?_
  refine lv_iconst (v := (-1)) hx hb dX3_init_5 (by decide) ?_
  refine u_put X w 0 5 .int (ci := 3) (by omega) rfl rfl rfl hi3 tyX3_ok nmX3 (by decide) (by decide +kernel) rfl (by decide +kernel) rfl rfl (Nat.le_of_ble_eq_true rfl) dX3_init_6 (fun H locs w => ?_)
  refine lv_aload_n hx hb dX3_init_9 rfl (lv_at hl 0 rfl) ?_
  refine lv_iconst (v := (-1)) hx hb dX3_init_10 (by decide) ?_
  refine u_put X w 0 9 .int (ci := 3) (by omega) rfl rfl rfl hi3 tyX3_ok nmX3 (by decide) (by decide +kernel) rfl (by decide +kernel) rfl rfl (Nat.le_of_ble_eq_true rfl) dX3_init_11 (fun H locs w => ?_)
  refine lv_aload_n hx hb dX3_init_14 rfl (lv_at hl 0 rfl) ?_
  refine lv_iconst (v := (-1)) hx hb dX3_init_15 (by decide) ?_
  refine u_put X w 0 10 .int (ci := 3) (by omega) rfl rfl rfl hi3 tyX3_ok nmX3 (by decide) (by decide +kernel) rfl (by decide +kernel) rfl rfl (Nat.le_of_ble_eq_true rfl) dX3_init_16 (fun H locs w => ?_)
  refine lv_aload_n hx hb dX3_init_19 rfl (lv_at hl 0 rfl) ?_
  refine lv_iconst (v := (-1)) hx hb dX3_init_20 (by decide) ?_
  refine u_put X w 0 11 .int (ci := 3) (by omega) rfl rfl rfl hi3 tyX3_ok nmX3 (by decide) (by decide +kernel) rfl (by decide +kernel) rfl rfl (Nat.le_of_ble_eq_true rfl) dX3_init_21 (fun H locs w => ?_)
  exact hret _ _ _ _ _ _ _ _ dX3_init_24 w (fun _ _ => rfl) (fun j hj => by obtain rfl : j = 0 := (by omega); rfl) (Nat.le_of_ble_eq_true rfl) (Nat.le_of_ble_eq_true rfl)

