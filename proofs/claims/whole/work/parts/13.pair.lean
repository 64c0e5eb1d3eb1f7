abbrev rc_X0_copyFrom : Room := { frames := 1, cells := 0, slots := 0, locals := 30 }
set_option maxHeartbeats 4000000 in
set_option maxRecDepth 100000 in
theorem c_X0_copyFrom (l : Launch) (k : kY) (h : hS) {P P2 : Nat} (hP : pp P) (hP2 : pp P2) (hne : P ≠ P2) (hf : fgP h P2) : CT l k yX0_copyFrom wsX0_copyFrom rc_X0_copyFrom [.ref (k.2.1 P), .ref (k.2.1 P2)] h (QV k (fun h' => h' = cpP h P P2)) 0 0 := by
  refine q_metV (cc := cX0_copyFrom) (maxL := 2) (by decide) rfl (Nat.le_of_ble_eq_true rfl) ?_
  intro p e s m args below meth c Q ls X w hl hret
  have hx := X.1
  have hb := X.2.1
  have hown := X.2.2.2.1
  have hts := X.2.2.2.2
  have hl : lv_has ls 2 [(0, .ref (k.2.1 P)), (1, .ref (k.2.1 P2))] := hl
  have hi0 : ∀ w ∈ u_ws RX0 TX0 10, w ∈ wsX0_copyFrom := by decide +kernel
  have n0 : ∀ a b : Nat, a < 8 → b < 8 → P2 + a ≠ P + b := fun a b ha hb => ppne hP hP2 hne ha hb
  have n1 : ∀ a b : Nat, a ≠ b → P + a ≠ P + b := fun a b hab q => hab (Nat.add_left_cancel q)
  refine lv_aload_n hx hb dX0_copyFrom_0 rfl (lv_at hl 1 rfl) ?_
  refine q_get X w P2 0 (ci := 0) (pp_lt0 hP2) (hE_p0 hP2 k _) rfl hi0 (by decide) (by decide +kernel) rfl dX0_copyFrom_1 ?_
  refine lv_iconst (v := nI 0) hx hb dX0_copyFrom_4 (by decide) ?_
  refine lv_aload_n hx hb dX0_copyFrom_5 rfl (lv_at hl 0 rfl) ?_
  refine q_get X w P 0 (ci := 0) (pp_lt0 hP) (hE_p0 hP k _) rfl hi0 (by decide) (by decide +kernel) rfl dX0_copyFrom_6 ?_
  refine lv_iconst (v := nI 0) hx hb dX0_copyFrom_9 (by decide) ?_
  refine lv_bipush (v := nI 16) hx hb dX0_copyFrom_10 (by decide) ?_
  refine q_copyI X w (P2 + 1) (P + 1) (pp_lt hP2 (c := 1) (by decide)) (pp_lt hP (c := 1) (by decide)) (hE_pi hP2 1 (by decide) (by decide) k) (hE_pi hP 1 (by decide) (by decide) k) hl.1 (by decide +kernel) (by decide +kernel) (by decide +kernel) (by decide +kernel) (Nat.le_of_ble_eq_true rfl) (Nat.le_of_ble_eq_true rfl) dX0_copyFrom_12 (fun H locs w => ?_)
  obtain ⟨h_12, eh_12⟩ : ∃ z, z = setI h (P + 1) (h.1 (P2 + 1)) := ⟨_, rfl⟩
  rw [← eh_12] at w
  refine lv_aload_n hx hb dX0_copyFrom_15 rfl (lv_at hl 1 rfl) ?_
  refine q_get X w P2 1 (ci := 0) (pp_lt0 hP2) (hE_p0 hP2 k _) rfl hi0 (by decide) (by decide +kernel) rfl dX0_copyFrom_16 ?_
  refine lv_iconst (v := nI 0) hx hb dX0_copyFrom_19 (by decide) ?_
  refine lv_aload_n hx hb dX0_copyFrom_20 rfl (lv_at hl 0 rfl) ?_
  refine q_get X w P 1 (ci := 0) (pp_lt0 hP) (hE_p0 hP k _) rfl hi0 (by decide) (by decide +kernel) rfl dX0_copyFrom_21 ?_
  refine lv_iconst (v := nI 0) hx hb dX0_copyFrom_24 (by decide) ?_
  refine lv_bipush (v := nI 16) hx hb dX0_copyFrom_25 (by decide) ?_
  refine q_copyI X w (P2 + 2) (P + 2) (pp_lt hP2 (c := 2) (by decide)) (pp_lt hP (c := 2) (by decide)) (hE_pi hP2 2 (by decide) (by decide) k) (hE_pi hP 2 (by decide) (by decide) k) hl.1 (by decide +kernel) (by decide +kernel) (by decide +kernel) (by decide +kernel) (Nat.le_of_ble_eq_true rfl) (Nat.le_of_ble_eq_true rfl) dX0_copyFrom_27 (fun H locs w => ?_)
  obtain ⟨h_27, eh_27⟩ : ∃ z, z = setI h_12 (P + 2) (h_12.1 (P2 + 2)) := ⟨_, rfl⟩
  rw [← eh_27] at w
  refine lv_aload_n hx hb dX0_copyFrom_30 rfl (lv_at hl 1 rfl) ?_
  refine q_get X w P2 2 (ci := 0) (pp_lt0 hP2) (hE_p0 hP2 k _) rfl hi0 (by decide) (by decide +kernel) rfl dX0_copyFrom_31 ?_
  refine lv_iconst (v := nI 0) hx hb dX0_copyFrom_34 (by decide) ?_
  refine lv_aload_n hx hb dX0_copyFrom_35 rfl (lv_at hl 0 rfl) ?_
  refine q_get X w P 2 (ci := 0) (pp_lt0 hP) (hE_p0 hP k _) rfl hi0 (by decide) (by decide +kernel) rfl dX0_copyFrom_36 ?_
  refine lv_iconst (v := nI 0) hx hb dX0_copyFrom_39 (by decide) ?_
  refine lv_bipush (v := nI 16) hx hb dX0_copyFrom_40 (by decide) ?_
  refine q_copyI X w (P2 + 3) (P + 3) (pp_lt hP2 (c := 3) (by decide)) (pp_lt hP (c := 3) (by decide)) (hE_pi hP2 3 (by decide) (by decide) k) (hE_pi hP 3 (by decide) (by decide) k) hl.1 (by decide +kernel) (by decide +kernel) (by decide +kernel) (by decide +kernel) (Nat.le_of_ble_eq_true rfl) (Nat.le_of_ble_eq_true rfl) dX0_copyFrom_42 (fun H locs w => ?_)
  obtain ⟨h_42, eh_42⟩ : ∃ z, z = setI h_27 (P + 3) (h_27.1 (P2 + 3)) := ⟨_, rfl⟩
  rw [← eh_42] at w
  refine lv_aload_n hx hb dX0_copyFrom_45 rfl (lv_at hl 1 rfl) ?_
  refine q_get X w P2 3 (ci := 0) (pp_lt0 hP2) (hE_p0 hP2 k _) rfl hi0 (by decide) (by decide +kernel) rfl dX0_copyFrom_46 ?_
  refine lv_iconst (v := nI 0) hx hb dX0_copyFrom_49 (by decide) ?_
  refine lv_aload_n hx hb dX0_copyFrom_50 rfl (lv_at hl 0 rfl) ?_
  refine q_get X w P 3 (ci := 0) (pp_lt0 hP) (hE_p0 hP k _) rfl hi0 (by decide) (by decide +kernel) rfl dX0_copyFrom_51 ?_
  refine lv_iconst (v := nI 0) hx hb dX0_copyFrom_54 (by decide) ?_
  refine lv_bipush (v := nI 16) hx hb dX0_copyFrom_55 (by decide) ?_
  refine q_copyI X w (P2 + 4) (P + 4) (pp_lt hP2 (c := 4) (by decide)) (pp_lt hP (c := 4) (by decide)) (hE_pi hP2 4 (by decide) (by decide) k) (hE_pi hP 4 (by decide) (by decide) k) hl.1 (by decide +kernel) (by decide +kernel) (by decide +kernel) (by decide +kernel) (Nat.le_of_ble_eq_true rfl) (Nat.le_of_ble_eq_true rfl) dX0_copyFrom_57 (fun H locs w => ?_)
  obtain ⟨h_57, eh_57⟩ : ∃ z, z = setI h_42 (P + 4) (h_42.1 (P2 + 4)) := ⟨_, rfl⟩
  rw [← eh_57] at w
  refine lv_aload_n hx hb dX0_copyFrom_60 rfl (lv_at hl 1 rfl) ?_
  refine q_get X w P2 4 (ci := 0) (pp_lt0 hP2) (hE_p0 hP2 k _) rfl hi0 (by decide) (by decide +kernel) rfl dX0_copyFrom_61 ?_
  refine lv_iconst (v := nI 0) hx hb dX0_copyFrom_64 (by decide) ?_
  refine lv_aload_n hx hb dX0_copyFrom_65 rfl (lv_at hl 0 rfl) ?_
  refine q_get X w P 4 (ci := 0) (pp_lt0 hP) (hE_p0 hP k _) rfl hi0 (by decide) (by decide +kernel) rfl dX0_copyFrom_66 ?_
  refine lv_iconst (v := nI 0) hx hb dX0_copyFrom_69 (by decide) ?_
  refine lv_bipush (v := nI 16) hx hb dX0_copyFrom_70 (by decide) ?_
  refine q_copyI X w (P2 + 5) (P + 5) (pp_lt hP2 (c := 5) (by decide)) (pp_lt hP (c := 5) (by decide)) (hE_pi hP2 5 (by decide) (by decide) k) (hE_pi hP 5 (by decide) (by decide) k) hl.1 (by decide +kernel) (by decide +kernel) (by decide +kernel) (by decide +kernel) (Nat.le_of_ble_eq_true rfl) (Nat.le_of_ble_eq_true rfl) dX0_copyFrom_72 (fun H locs w => ?_)
  obtain ⟨h_72, eh_72⟩ : ∃ z, z = setI h_57 (P + 5) (h_57.1 (P2 + 5)) := ⟨_, rfl⟩
  rw [← eh_72] at w
  refine lv_aload_n hx hb dX0_copyFrom_75 rfl (lv_at hl 1 rfl) ?_
  refine q_get X w P2 5 (ci := 0) (pp_lt0 hP2) (hE_p0 hP2 k _) rfl hi0 (by decide) (by decide +kernel) rfl dX0_copyFrom_76 ?_
  refine lv_iconst (v := nI 0) hx hb dX0_copyFrom_79 (by decide) ?_
  refine lv_aload_n hx hb dX0_copyFrom_80 rfl (lv_at hl 0 rfl) ?_
  refine q_get X w P 5 (ci := 0) (pp_lt0 hP) (hE_p0 hP k _) rfl hi0 (by decide) (by decide +kernel) rfl dX0_copyFrom_81 ?_
  refine lv_iconst (v := nI 0) hx hb dX0_copyFrom_84 (by decide) ?_
  refine lv_bipush (v := nI 16) hx hb dX0_copyFrom_85 (by decide) ?_
  refine q_copyL X w (P2 + 6) (P + 6) (pp_lt hP2 (c := 6) (by decide)) (pp_lt hP (c := 6) (by decide)) (hE_p6 hP2 k) (hE_p6 hP k) hl.1 (by decide +kernel) (by decide +kernel) (by decide +kernel) (by decide +kernel) (Nat.le_of_ble_eq_true rfl) (Nat.le_of_ble_eq_true rfl) dX0_copyFrom_87 (fun H locs w => ?_)
  obtain ⟨h_87, eh_87⟩ : ∃ z, z = setL h_72 (P + 6) (h_72.2.1 (P2 + 6)) := ⟨_, rfl⟩
  rw [← eh_87] at w
  have eT : h_87.1 (P2 + 7) = h.1 (P2 + 7) := by rw [eh_87, setL_I, eh_72, setI_o _ _ (n0 7 5 (by decide) (by decide)), eh_57, setI_o _ _ (n0 7 4 (by decide) (by decide)), eh_42, setI_o _ _ (n0 7 3 (by decide) (by decide)), eh_27, setI_o _ _ (n0 7 2 (by decide) (by decide)), eh_12, setI_o _ _ (n0 7 1 (by decide) (by decide))]
  refine lv_aload_n hx hb dX0_copyFrom_90 rfl (lv_at hl 0 rfl) ?_
  refine q_get X w P 6 (ci := 0) (pp_lt0 hP) (hE_p0 hP k _) rfl hi0 (by decide) (by decide +kernel) rfl dX0_copyFrom_91 ?_
  refine lv_aload_n hx hb dX0_copyFrom_94 rfl (lv_at hl 1 rfl) ?_
  refine q_get X w P2 6 (ci := 0) (pp_lt0 hP2) (hE_p0 hP2 k _) rfl hi0 (by decide) (by decide +kernel) rfl dX0_copyFrom_95 ?_
  refine q_callv w (q_runV X w (P + 7) (c_X3_copyFrom l k h_87 hP hP2 (n0 7 7 (by decide) (by decide)) (by rw [eT]; exact hf.2.1) (by rw [eT]; exact hf.2.2.1) (by rw [eT]; exact hf.2.2.2)) (cwV 1 hts gX0_copyFrom_X3_copyFrom rfl rfl rfl (by decide +kernel) ⟨Nat.le_of_ble_eq_true rfl, Nat.le_of_ble_eq_true rfl⟩) (pp_lt hP (c := 7) (by decide)) (hE_p7 hP k _) rfl rfl hl.1 rfl (Nat.le_of_ble_eq_true rfl) dX0_copyFrom_98 ⟨Nat.le_of_ble_eq_true rfl, Nat.le_of_ble_eq_true rfl⟩) (fun h_98 H locs hp w => ?_)
  have eh_98 := hp
  refine lv_aload_n hx hb dX0_copyFrom_101 rfl (lv_at hl 0 rfl) ?_
  refine lv_aload_n hx hb dX0_copyFrom_102 rfl (lv_at hl 1 rfl) ?_
  refine q_get X w P2 7 (ci := 0) (pp_lt0 hP2) (hE_p0 hP2 k _) rfl hi0 (by decide) (by decide +kernel) rfl dX0_copyFrom_103 ?_
  refine q_put X w P 7 .int (ci := 0) (pp_lt0 hP) (hE_p0 hP k _) (by rw [hE_p0 hP k, upI_s]; rfl) rfl hi0 tyX0_ok nmX0 (by decide) (by decide +kernel) rfl (by decide +kernel) (rfl) (rfl) (Nat.le_of_ble_eq_true rfl) dX0_copyFrom_106 (fun H locs w => ?_)
  obtain ⟨h_106, eh_106⟩ : ∃ z, z = upI h_98 P 7 (h_98.1 P2 7) := ⟨_, rfl⟩
  rw [← eh_106] at w
  refine lv_aload_n hx hb dX0_copyFrom_109 rfl (lv_at hl 0 rfl) ?_
  refine lv_aload_n hx hb dX0_copyFrom_110 rfl (lv_at hl 1 rfl) ?_
  refine q_get X w P2 8 (ci := 0) (pp_lt0 hP2) (hE_p0 hP2 k _) rfl hi0 (by decide) (by decide +kernel) rfl dX0_copyFrom_111 ?_
  refine q_put X w P 8 .int (ci := 0) (pp_lt0 hP) (hE_p0 hP k _) (by rw [hE_p0 hP k, upI_s]; rfl) rfl hi0 tyX0_ok nmX0 (by decide) (by decide +kernel) rfl (by decide +kernel) (rfl) (rfl) (Nat.le_of_ble_eq_true rfl) dX0_copyFrom_114 (fun H locs w => ?_)
  obtain ⟨h_114, eh_114⟩ : ∃ z, z = upI h_106 P 8 (h_106.1 P2 8) := ⟨_, rfl⟩
  rw [← eh_114] at w
  refine lv_aload_n hx hb dX0_copyFrom_117 rfl (lv_at hl 0 rfl) ?_
  refine lv_aload_n hx hb dX0_copyFrom_118 rfl (lv_at hl 1 rfl) ?_
  refine q_get X w P2 9 (ci := 0) (pp_lt0 hP2) (hE_p0 hP2 k _) rfl hi0 (by decide) (by decide +kernel) rfl dX0_copyFrom_119 ?_
  have e122 : h_114.1 P2 9 = h.1 P2 9 := by rw [eh_114, upI_o _ _ _ (show P2 ≠ P from n0 0 0 (by decide) (by decide)), eh_106, upI_o _ _ _ (show P2 ≠ P from n0 0 0 (by decide) (by decide)), eh_98, setI_o _ _ (show P2 ≠ P + 7 from n0 0 7 (by decide) (by decide)), eh_87, setL_I, eh_72, setI_o _ _ (show P2 ≠ P + 5 from n0 0 5 (by decide) (by decide)), eh_57, setI_o _ _ (show P2 ≠ P + 4 from n0 0 4 (by decide) (by decide)), eh_42, setI_o _ _ (show P2 ≠ P + 3 from n0 0 3 (by decide) (by decide)), eh_27, setI_o _ _ (show P2 ≠ P + 2 from n0 0 2 (by decide) (by decide)), eh_12, setI_o _ _ (show P2 ≠ P + 1 from n0 0 1 (by decide) (by decide))]
  refine q_put X w P 9 .boolean (ci := 0) (pp_lt0 hP) (hE_p0 hP k _) (by rw [hE_p0 hP k, upI_s]; rfl) rfl hi0 tyX0_ok nmX0 (by decide) (by decide +kernel) rfl (by decide +kernel) (by rw [e122]; exact hf.1.n) (by rw [e122]; exact hf.1.f) (Nat.le_of_ble_eq_true rfl) dX0_copyFrom_122 (fun H locs w => ?_)
  obtain ⟨h_122, eh_122⟩ : ∃ z, z = upI h_114 P 9 (h_114.1 P2 9) := ⟨_, rfl⟩
  rw [← eh_122] at w
  have m0 : ∀ a b : Nat, a < 8 → b < 8 → ¬ P2 + a = P + b := n0
  have m1 : ∀ b : Nat, b < 8 → ¬ P2 = P + b := fun b hb => n0 0 b (by decide) hb
  have m2 : ∀ a : Nat, a < 8 → ¬ P2 + a = P := fun a ha => n0 a 0 ha (by decide)
  have m3 : ¬ P2 = P := fun q => hne q.symm
  have o1 : ∀ i, i < P ∨ P + 8 ≤ i → h_122.1 i = h.1 i := fun i hi => by
    have z : ∀ b, b < 8 → i ≠ P + b := fun b hb => by omega
    rw [eh_122, upI_o _ _ _ (show i ≠ P from z 0 (by decide)), eh_114, upI_o _ _ _ (show i ≠ P from z 0 (by decide)), eh_106, upI_o _ _ _ (show i ≠ P from z 0 (by decide)), eh_98, setI_o _ _ (z 7 (by decide)), eh_87, setL_I, eh_72, setI_o _ _ (z 5 (by decide)), eh_57, setI_o _ _ (z 4 (by decide)), eh_42, setI_o _ _ (z 3 (by decide)), eh_27, setI_o _ _ (z 2 (by decide)), eh_12, setI_o _ _ (z 1 (by decide))]
  have o2 : ∀ i, i ≠ P + 6 → h_122.2.1 i = h.2.1 i := fun i hi => by
    have e1 : h_122.2 = h_87.2 := by rw [eh_122, eh_114, eh_106, eh_98]; rfl
    rw [e1, eh_87, setL_o _ _ hi, eh_72, eh_57, eh_42, eh_27, eh_12]; rfl
  have o3 : h_122.2.1 (P + 6) = h.2.1 (P2 + 6) := by
    have e1 : h_122.2 = h_87.2 := by rw [eh_122, eh_114, eh_106, eh_98]; rfl
    rw [e1, eh_87, setL_s, eh_72, eh_57, eh_42, eh_27, eh_12]; rfl
  have o4 : h_122.2.2 = h.2.2 := by rw [eh_122, eh_114, eh_106, eh_98, eh_87, eh_72, eh_57, eh_42, eh_27, eh_12]; rfl
  have g98 : ∀ j, h_98.1 P2 j = h.1 P2 j := fun j => by
    have z : ∀ b, b < 8 → P2 ≠ P + b := fun b hb => n0 0 b (by decide) hb
    rw [eh_98, setI_o _ _ (z 7 (by decide)), eh_87, setL_I, eh_72, setI_o _ _ (z 5 (by decide)), eh_57, setI_o _ _ (z 4 (by decide)), eh_42, setI_o _ _ (z 3 (by decide)), eh_27, setI_o _ _ (z 2 (by decide)), eh_12, setI_o _ _ (z 1 (by decide))]
  have m4 : P2 ≠ P := fun q => hne q.symm
  have p7 : h_122.1 P 7 = h.1 P2 7 := by
    rw [eh_122, upI_s, eh_114, upI_s, eh_106, upI_s]; show h_98.1 P2 7 = _; exact g98 7
  have p8 : h_122.1 P 8 = h.1 P2 8 := by
    rw [eh_122, upI_s, eh_114, upI_s, eh_106]; show (upI h_98 P 7 _).1 P2 8 = _; rw [upI_o _ _ _ m4]; exact g98 8
  have p9 : h_122.1 P 9 = h.1 P2 9 := by
    rw [eh_122, upI_s]; show h_114.1 P2 9 = _; exact e122
  have q0 : ∀ c, 1 ≤ c → c < 8 → h_122.1 (P + c) = h_98.1 (P + c) := fun c h1 h8 => by
    have z : P + c ≠ P := by omega
    rw [eh_122, upI_o _ _ _ z, eh_114, upI_o _ _ _ z, eh_106, upI_o _ _ _ z]
  have qs : ∀ c, 1 ≤ c → c < 8 → c ≠ 6 → h_122.1 (P + c) = h.1 (P2 + c) := fun c h1 h8 h6 => by
    rw [q0 c h1 h8]
    rcases (by omega : c = 1 ∨ c = 2 ∨ c = 3 ∨ c = 4 ∨ c = 5 ∨ c = 7) with rfl | rfl | rfl | rfl | rfl | rfl
    · rw [eh_98, setI_o _ _ (n1 1 7 (by decide)), eh_87, setL_I, eh_72, setI_o _ _ (n1 1 5 (by decide)), eh_57, setI_o _ _ (n1 1 4 (by decide)), eh_42, setI_o _ _ (n1 1 3 (by decide)), eh_27, setI_o _ _ (n1 1 2 (by decide)), eh_12, setI_s]
    · rw [eh_98, setI_o _ _ (n1 2 7 (by decide)), eh_87, setL_I, eh_72, setI_o _ _ (n1 2 5 (by decide)), eh_57, setI_o _ _ (n1 2 4 (by decide)), eh_42, setI_o _ _ (n1 2 3 (by decide)), eh_27, setI_s, eh_12, setI_o _ _ (n0 2 1 (by decide) (by decide))]
    · rw [eh_98, setI_o _ _ (n1 3 7 (by decide)), eh_87, setL_I, eh_72, setI_o _ _ (n1 3 5 (by decide)), eh_57, setI_o _ _ (n1 3 4 (by decide)), eh_42, setI_s, eh_27, setI_o _ _ (n0 3 2 (by decide) (by decide)), eh_12, setI_o _ _ (n0 3 1 (by decide) (by decide))]
    · rw [eh_98, setI_o _ _ (n1 4 7 (by decide)), eh_87, setL_I, eh_72, setI_o _ _ (n1 4 5 (by decide)), eh_57, setI_s, eh_42, setI_o _ _ (n0 4 3 (by decide) (by decide)), eh_27, setI_o _ _ (n0 4 2 (by decide) (by decide)), eh_12, setI_o _ _ (n0 4 1 (by decide) (by decide))]
    · rw [eh_98, setI_o _ _ (n1 5 7 (by decide)), eh_87, setL_I, eh_72, setI_s, eh_57, setI_o _ _ (n0 5 4 (by decide) (by decide)), eh_42, setI_o _ _ (n0 5 3 (by decide) (by decide)), eh_27, setI_o _ _ (n0 5 2 (by decide) (by decide)), eh_12, setI_o _ _ (n0 5 1 (by decide) (by decide))]
    · rw [eh_98, setI_s]; exact eT
  have w := w.eq (cpP_ok (h := h) (P2 := P2) hP o1 (fun i hi => o2 i (by omega)) o4 p7 p8 p9 qs o3)
  exact hret _ _ _ _ _ _ _ dX0_copyFrom_125 w rfl (Nat.le_of_ble_eq_true rfl) (Nat.le_of_ble_eq_true rfl)

abbrev rc_X0_enterFrame : Room := { frames := 3, cells := 0, slots := 0, locals := 66 }
set_option maxHeartbeats 4000000 in
set_option maxRecDepth 100000 in
theorem c_X0_enterFrame (l : Launch) (k : kY) (h : hS) {P P2 : Nat} (hP : pp P) (hP2 : pp P2) (f : Int32) (hs : h.1 (P + 7) 11 = f → swT h (P + 7) 12 13) (hd : duz h (P + 7) f → swT h (P + 7) 3 4) : CT l k yX0_enterFrame wsX0_enterFrame rc_X0_enterFrame [.ref (k.2.1 P), .int f, .ref (k.2.1 P2)] h (QV k (fun h' => h' = efz h P P2 f)) 0 0 := by
  refine q_metV (cc := cX0_enterFrame) (maxL := 5) (by decide) rfl (Nat.le_of_ble_eq_true rfl) ?_
  intro p e s m args below meth c Q ls X w hl hret
  have hx := X.1
  have hb := X.2.1
  have hown := X.2.2.2.1
  have hts := X.2.2.2.2
  have hl : lv_has ls 5 [(0, .ref (k.2.1 P)), (1, .int f), (2, .ref (k.2.1 P2))] := hl
  have hi0 : ∀ w ∈ u_ws RX0 TX0 10, w ∈ wsX0_enterFrame := by decide +kernel
  have hi3 : ∀ w ∈ u_ws RX3 TX3 14, w ∈ wsX0_enterFrame := by decide +kernel
  refine lv_aload_n hx hb dX0_enterFrame_0 rfl (lv_at hl 0 rfl) ?_
  refine q_get X w P 6 (ci := 0) (pp_lt0 hP) (hE_p0 hP k _) rfl hi0 (by decide) (by decide +kernel) rfl dX0_enterFrame_1 ?_
  refine q_get X w (P + 7) 11 (ci := 3) (pp_lt hP (c := 7) (by decide)) (hE_p7 hP k _) rfl hi3 (by decide) (by decide +kernel) rfl dX0_enterFrame_4 ?_
  refine lv_iload_n hx hb dX0_enterFrame_7 rfl (lv_at hl 1 rfl) ?_
  refine lv_icmp_ne (tgt := 15) hx hb dX0_enterFrame_8 (by decide) (fun c_8 => ?_) (fun c_8 => ?_)
  · refine lv_iconst (v := nI 0) hx hb dX0_enterFrame_15 (by decide) ?_
    refine lv_istore_n (lv' := [(3, .int (nI 0)), (0, .ref (k.2.1 P)), (1, .int f), (2, .ref (k.2.1 P2))]) hx hb dX0_enterFrame_16 rfl hl (by decide) rfl (fun ls hl => ?_)
    refine lv_aload_n hx hb dX0_enterFrame_17 rfl (lv_at hl 1 rfl) ?_
    refine q_get X w P 6 (ci := 0) (pp_lt0 hP) (hE_p0 hP k _) rfl hi0 (by decide) (by decide +kernel) rfl dX0_enterFrame_18 ?_
    refine lv_iload_n hx hb dX0_enterFrame_21 rfl (lv_at hl 2 rfl) ?_
    refine q_calli w (q_runV X w (P + 7) (c_X3_isDue l k h hP f) (cwV 1 hts gX0_enterFrame_X3_isDue rfl rfl rfl (by decide +kernel) ⟨Nat.le_of_ble_eq_true rfl, Nat.le_of_ble_eq_true rfl⟩) (pp_lt hP (c := 7) (by decide)) (hE_p7 hP k _) rfl rfl hl.1 rfl (Nat.le_of_ble_eq_true rfl) dX0_enterFrame_22 ⟨Nat.le_of_ble_eq_true rfl, Nat.le_of_ble_eq_true rfl⟩) (fun r_22 h_22 H locs hp w => ?_)
    obtain ⟨hp, eh_22⟩ := hp
    rw [eh_22] at w
    rcases hp with ⟨hd_22, er_22⟩ | ⟨hd_22, er_22⟩
    · subst er_22
      refine lv_istore (lv' := [(4, .int (nI 1)), (3, .int (nI 0)), (0, .ref (k.2.1 P)), (1, .int f), (2, .ref (k.2.1 P2))]) hx hb dX0_enterFrame_25 hl (by decide) rfl (fun ls hl => ?_)
      refine lv_iload_n hx hb dX0_enterFrame_27 rfl (lv_at hl 1 rfl) ?_
      refine lv_if_eq (tgt := 52) hx hb dX0_enterFrame_28 (by decide) (fun c_28 => ?_) (fun c_28 => ?_)
      · refine lv_iload hx hb dX0_enterFrame_52 (lv_at hl 0 rfl) ?_
        refine lv_if_eq (tgt := 110) hx hb dX0_enterFrame_54 (by decide) (fun c_54 => ?_) (fun c_54 => ?_)
        · exact absurd c_54 (by decide)
        · obtain ⟨ra, rb, hra, hrb, e3, e4⟩ := hd hd_22
          have et : h.1 (P + 7) = h.1 (P + 7) := rfl
          refine lv_aload_n hx hb dX0_enterFrame_57 rfl (lv_at hl 2 rfl) ?_
          refine q_get X w P 3 (ci := 0) (pp_lt0 hP) (hE_p0 hP k _) rfl hi0 (by decide) (by decide +kernel) rfl dX0_enterFrame_58 ?_
          refine lv_aload_n hx hb dX0_enterFrame_61 rfl (lv_at hl 2 rfl) ?_
          refine q_get X w P 6 (ci := 0) (pp_lt0 hP) (hE_p0 hP k _) rfl hi0 (by decide) (by decide +kernel) rfl dX0_enterFrame_62 ?_
          refine q_get X w (P + 7) 3 (ci := 3) (pp_lt hP (c := 7) (by decide)) (hE_p7 hP k _) rfl hi3 (by decide) (by decide +kernel) rfl dX0_enterFrame_65 ?_
          rw [et, e3]
          refine lv_aload_n hx hb dX0_enterFrame_68 rfl (lv_at hl 2 rfl) ?_
          refine q_get X w P 6 (ci := 0) (pp_lt0 hP) (hE_p0 hP k _) rfl hi0 (by decide) (by decide +kernel) rfl dX0_enterFrame_69 ?_
          refine q_get X w (P + 7) 4 (ci := 3) (pp_lt hP (c := 7) (by decide)) (hE_p7 hP k _) rfl hi3 (by decide) (by decide +kernel) rfl dX0_enterFrame_72 ?_
          rw [et, e4]
          refine q_callv w (q_runS X w (c_X0_moveBit4 l k h hP (a := ra) (b := rb) (by omega) (by omega)) (va_cwS 3 hts gX0_enterFrame_X0_moveBit rfl rfl rfl (by decide +kernel) ⟨Nat.le_of_ble_eq_true rfl, Nat.le_of_ble_eq_true rfl⟩) rfl hl.1 rfl (Nat.le_of_ble_eq_true rfl) dX0_enterFrame_75 ⟨Nat.le_of_ble_eq_true rfl, Nat.le_of_ble_eq_true rfl⟩) (fun h_75 H locs hp w => ?_)
          have eh_75 := hp
          have et : h_75.1 (P + 7) = h.1 (P + 7) := by rw [eh_75, mvz_o _ (by omega), et]
          refine lv_aload_n hx hb dX0_enterFrame_78 rfl (lv_at hl 2 rfl) ?_
          refine lv_aload_n hx hb dX0_enterFrame_79 rfl (lv_at hl 2 rfl) ?_
          refine q_get X w P 6 (ci := 0) (pp_lt0 hP) (hE_p0 hP k _) rfl hi0 (by decide) (by decide +kernel) rfl dX0_enterFrame_80 ?_
          refine q_get X w (P + 7) 3 (ci := 3) (pp_lt hP (c := 7) (by decide)) (hE_p7 hP k _) rfl hi3 (by decide) (by decide +kernel) rfl dX0_enterFrame_83 ?_
          rw [et, e3]
          refine lv_aload_n hx hb dX0_enterFrame_86 rfl (lv_at hl 4 rfl) ?_
          refine q_callv w (q_runV X w P (c_X0_renewEnergy l k h_75 hP hP2 (t := ra) (by omega)) (cwV 2 hts gX0_enterFrame_X0_renewEnergy rfl rfl rfl (by decide +kernel) ⟨Nat.le_of_ble_eq_true rfl, Nat.le_of_ble_eq_true rfl⟩) (pp_lt0 hP) (hE_p0 hP k _) rfl rfl hl.1 rfl (Nat.le_of_ble_eq_true rfl) dX0_enterFrame_87 ⟨Nat.le_of_ble_eq_true rfl, Nat.le_of_ble_eq_true rfl⟩) (fun h_87 H locs hp w => ?_)
          have eh_87 := hp
          have et : h_87.1 (P + 7) = h.1 (P + 7) := by rw [eh_87]; exact et
          refine lv_aload_n hx hb dX0_enterFrame_90 rfl (lv_at hl 2 rfl) ?_
          refine lv_aload_n hx hb dX0_enterFrame_91 rfl (lv_at hl 2 rfl) ?_
          refine q_get X w P 6 (ci := 0) (pp_lt0 hP) (hE_p0 hP k _) rfl hi0 (by decide) (by decide +kernel) rfl dX0_enterFrame_92 ?_
          refine q_get X w (P + 7) 4 (ci := 3) (pp_lt hP (c := 7) (by decide)) (hE_p7 hP k _) rfl hi3 (by decide) (by decide +kernel) rfl dX0_enterFrame_95 ?_
          rw [et, e4]
          refine lv_aload_n hx hb dX0_enterFrame_98 rfl (lv_at hl 4 rfl) ?_
          refine q_callv w (q_runV X w P (c_X0_renewEnergy l k h_87 hP hP2 (t := rb) (by omega)) (cwV 2 hts gX0_enterFrame_X0_renewEnergy rfl rfl rfl (by decide +kernel) ⟨Nat.le_of_ble_eq_true rfl, Nat.le_of_ble_eq_true rfl⟩) (pp_lt0 hP) (hE_p0 hP k _) rfl rfl hl.1 rfl (Nat.le_of_ble_eq_true rfl) dX0_enterFrame_99 ⟨Nat.le_of_ble_eq_true rfl, Nat.le_of_ble_eq_true rfl⟩) (fun h_99 H locs hp w => ?_)
          have eh_99 := hp
          refine lv_aload_n hx hb dX0_enterFrame_102 rfl (lv_at hl 2 rfl) ?_
          refine q_get X w P 6 (ci := 0) (pp_lt0 hP) (hE_p0 hP k _) rfl hi0 (by decide) (by decide +kernel) rfl dX0_enterFrame_103 ?_
          refine lv_iconst (v := nI 0) hx hb dX0_enterFrame_106 (by decide) ?_
          refine q_put X w (P + 7) 1 .boolean (ci := 3) (pp_lt hP (c := 7) (by decide)) (hE_p7 hP k _) (by rw [hE_p7 hP k, upI_s]; rfl) rfl hi3 tyX3_ok nmX3 (by decide) (by decide +kernel) rfl (by decide +kernel) (by decide) (by decide) (Nat.le_of_ble_eq_true rfl) dX0_enterFrame_107 (fun H locs w => ?_)
          obtain ⟨h_107, eh_107⟩ : ∃ z, z = upI h_99 (P + 7) 1 (nI 0) := ⟨_, rfl⟩
          rw [← eh_107] at w
          refine lv_iload_n hx hb dX0_enterFrame_110 rfl (lv_at hl 1 rfl) ?_
          refine lv_if_ne (tgt := 119) hx hb dX0_enterFrame_111 (by decide) (fun c_111 => ?_) (fun c_111 => ?_)
          · exact absurd (by decide) c_111
          · refine lv_iload hx hb dX0_enterFrame_114 (lv_at hl 0 rfl) ?_
            refine lv_if_eq (tgt := 127) hx hb dX0_enterFrame_116 (by decide) (fun c_116 => ?_) (fun c_116 => ?_)
            · exact absurd c_116 (by decide)
            · refine lv_aload_n hx hb dX0_enterFrame_119 rfl (lv_at hl 2 rfl) ?_
              refine lv_aload_n hx hb dX0_enterFrame_120 rfl (lv_at hl 2 rfl) ?_
              refine q_calli w (q_runV X w P (c_X0_endsDiffer l k h_107 hP) (cwV 0 hts gX0_enterFrame_X0_endsDiffer rfl rfl rfl (by decide +kernel) ⟨Nat.le_of_ble_eq_true rfl, Nat.le_of_ble_eq_true rfl⟩) (pp_lt0 hP) (hE_p0 hP k _) rfl rfl hl.1 rfl (Nat.le_of_ble_eq_true rfl) dX0_enterFrame_121 ⟨Nat.le_of_ble_eq_true rfl, Nat.le_of_ble_eq_true rfl⟩) (fun r_121 h_121 H locs hp w => ?_)
              obtain ⟨er_121, eh_121⟩ := hp
              rw [eh_121] at w
              have er_121 : r_121 = bI (dfz (h_107.1 (P + 4)) (h_107.1 (P + 5)) 16) := er_121
              subst er_121
              refine q_put X w P 9 .boolean (ci := 0) (pp_lt0 hP) (hE_p0 hP k _) (by rw [hE_p0 hP k, upI_s]; rfl) rfl hi0 tyX0_ok nmX0 (by decide) (by decide +kernel) rfl (by decide +kernel) (bI_bz _).n (bI_bz _).f (Nat.le_of_ble_eq_true rfl) dX0_enterFrame_124 (fun H locs w => ?_)
              obtain ⟨h_124, eh_124⟩ : ∃ z, z = upI h_107 P 9 (bI (dfz (h_107.1 (P + 4)) (h_107.1 (P + 5)) 16)) := ⟨_, rfl⟩
              rw [← eh_124] at w
              have eA : efA h P f = h := by rw [efA, if_neg c_8]
              have eB : efB h P P2 f = h_107 := by rw [efB, if_pos hd_22, eA, e3, e4, tN_nI (by omega), tN_nI (by omega), rcv, eh_107, eh_99, eh_87, eh_75]
              have e9 : h_124 = efz h P P2 f := by rw [efz, if_pos (Or.inr hd_22), eB]; exact eh_124
              exact hret _ _ _ _ _ _ _ dX0_enterFrame_127 w e9 (Nat.le_of_ble_eq_true rfl) (Nat.le_of_ble_eq_true rfl)
      · exact absurd (by decide) c_28
    · subst er_22
      refine lv_istore (lv' := [(4, .int (nI 0)), (3, .int (nI 0)), (0, .ref (k.2.1 P)), (1, .int f), (2, .ref (k.2.1 P2))]) hx hb dX0_enterFrame_25 hl (by decide) rfl (fun ls hl => ?_)
      refine lv_iload_n hx hb dX0_enterFrame_27 rfl (lv_at hl 1 rfl) ?_
      refine lv_if_eq (tgt := 52) hx hb dX0_enterFrame_28 (by decide) (fun c_28 => ?_) (fun c_28 => ?_)
      · refine lv_iload hx hb dX0_enterFrame_52 (lv_at hl 0 rfl) ?_
        refine lv_if_eq (tgt := 110) hx hb dX0_enterFrame_54 (by decide) (fun c_54 => ?_) (fun c_54 => ?_)
        · refine lv_iload_n hx hb dX0_enterFrame_110 rfl (lv_at hl 1 rfl) ?_
          refine lv_if_ne (tgt := 119) hx hb dX0_enterFrame_111 (by decide) (fun c_111 => ?_) (fun c_111 => ?_)
          · exact absurd (by decide) c_111
          · refine lv_iload hx hb dX0_enterFrame_114 (lv_at hl 0 rfl) ?_
            refine lv_if_eq (tgt := 127) hx hb dX0_enterFrame_116 (by decide) (fun c_116 => ?_) (fun c_116 => ?_)
            · have eA : efA h P f = h := by rw [efA, if_neg c_8]
              have eB : efB h P P2 f = h := by rw [efB, if_neg hd_22, eA]
              have e9 : h = efz h P P2 f := by rw [efz, if_neg (fun q => q.elim c_8 hd_22), eB]
              exact hret _ _ _ _ _ _ _ dX0_enterFrame_127 w e9 (Nat.le_of_ble_eq_true rfl) (Nat.le_of_ble_eq_true rfl)
            · exact absurd (by decide) c_116
        · exact absurd (by decide) c_54
      · exact absurd (by decide) c_28
  · refine lv_iconst (v := nI 1) hx hb dX0_enterFrame_11 (by decide) ?_
    refine lv_goto (tgt := 16) hx hb dX0_enterFrame_12 (by decide) ?_
    refine lv_istore_n (lv' := [(3, .int (nI 1)), (0, .ref (k.2.1 P)), (1, .int f), (2, .ref (k.2.1 P2))]) hx hb dX0_enterFrame_16 rfl hl (by decide) rfl (fun ls hl => ?_)
    refine lv_aload_n hx hb dX0_enterFrame_17 rfl (lv_at hl 1 rfl) ?_
    refine q_get X w P 6 (ci := 0) (pp_lt0 hP) (hE_p0 hP k _) rfl hi0 (by decide) (by decide +kernel) rfl dX0_enterFrame_18 ?_
    refine lv_iload_n hx hb dX0_enterFrame_21 rfl (lv_at hl 2 rfl) ?_
    refine q_calli w (q_runV X w (P + 7) (c_X3_isDue l k h hP f) (cwV 1 hts gX0_enterFrame_X3_isDue rfl rfl rfl (by decide +kernel) ⟨Nat.le_of_ble_eq_true rfl, Nat.le_of_ble_eq_true rfl⟩) (pp_lt hP (c := 7) (by decide)) (hE_p7 hP k _) rfl rfl hl.1 rfl (Nat.le_of_ble_eq_true rfl) dX0_enterFrame_22 ⟨Nat.le_of_ble_eq_true rfl, Nat.le_of_ble_eq_true rfl⟩) (fun r_22 h_22 H locs hp w => ?_)
    obtain ⟨hp, eh_22⟩ := hp
    rw [eh_22] at w
    rcases hp with ⟨hd_22, er_22⟩ | ⟨hd_22, er_22⟩
    · subst er_22
      refine lv_istore (lv' := [(4, .int (nI 1)), (3, .int (nI 1)), (0, .ref (k.2.1 P)), (1, .int f), (2, .ref (k.2.1 P2))]) hx hb dX0_enterFrame_25 hl (by decide) rfl (fun ls hl => ?_)
      refine lv_iload_n hx hb dX0_enterFrame_27 rfl (lv_at hl 1 rfl) ?_
      refine lv_if_eq (tgt := 52) hx hb dX0_enterFrame_28 (by decide) (fun c_28 => ?_) (fun c_28 => ?_)
      · exact absurd c_28 (by decide)
      · obtain ⟨sa, sb, hsa, hsb, e12, e13⟩ := hs c_8
        refine lv_aload_n hx hb dX0_enterFrame_31 rfl (lv_at hl 2 rfl) ?_
        refine q_get X w P 4 (ci := 0) (pp_lt0 hP) (hE_p0 hP k _) rfl hi0 (by decide) (by decide +kernel) rfl dX0_enterFrame_32 ?_
        refine lv_aload_n hx hb dX0_enterFrame_35 rfl (lv_at hl 2 rfl) ?_
        refine q_get X w P 6 (ci := 0) (pp_lt0 hP) (hE_p0 hP k _) rfl hi0 (by decide) (by decide +kernel) rfl dX0_enterFrame_36 ?_
        refine q_get X w (P + 7) 12 (ci := 3) (pp_lt hP (c := 7) (by decide)) (hE_p7 hP k _) rfl hi3 (by decide) (by decide +kernel) rfl dX0_enterFrame_39 ?_
        rw [e12]
        refine lv_aload_n hx hb dX0_enterFrame_42 rfl (lv_at hl 2 rfl) ?_
        refine q_get X w P 6 (ci := 0) (pp_lt0 hP) (hE_p0 hP k _) rfl hi0 (by decide) (by decide +kernel) rfl dX0_enterFrame_43 ?_
        refine q_get X w (P + 7) 13 (ci := 3) (pp_lt hP (c := 7) (by decide)) (hE_p7 hP k _) rfl hi3 (by decide) (by decide +kernel) rfl dX0_enterFrame_46 ?_
        rw [e13]
        refine q_callv w (q_runS X w (c_X0_moveBit5 l k h hP (a := sa) (b := sb) (by omega) (by omega)) (va_cwS 3 hts gX0_enterFrame_X0_moveBit rfl rfl rfl (by decide +kernel) ⟨Nat.le_of_ble_eq_true rfl, Nat.le_of_ble_eq_true rfl⟩) rfl hl.1 rfl (Nat.le_of_ble_eq_true rfl) dX0_enterFrame_49 ⟨Nat.le_of_ble_eq_true rfl, Nat.le_of_ble_eq_true rfl⟩) (fun h_49 H locs hp w => ?_)
        have eh_49 := hp
        refine lv_iload hx hb dX0_enterFrame_52 (lv_at hl 0 rfl) ?_
        refine lv_if_eq (tgt := 110) hx hb dX0_enterFrame_54 (by decide) (fun c_54 => ?_) (fun c_54 => ?_)
        · exact absurd c_54 (by decide)
        · obtain ⟨ra, rb, hra, hrb, e3, e4⟩ := hd hd_22
          have et : h_49.1 (P + 7) = h.1 (P + 7) := by rw [eh_49, mvz_o _ (by omega)]
          refine lv_aload_n hx hb dX0_enterFrame_57 rfl (lv_at hl 2 rfl) ?_
          refine q_get X w P 3 (ci := 0) (pp_lt0 hP) (hE_p0 hP k _) rfl hi0 (by decide) (by decide +kernel) rfl dX0_enterFrame_58 ?_
          refine lv_aload_n hx hb dX0_enterFrame_61 rfl (lv_at hl 2 rfl) ?_
          refine q_get X w P 6 (ci := 0) (pp_lt0 hP) (hE_p0 hP k _) rfl hi0 (by decide) (by decide +kernel) rfl dX0_enterFrame_62 ?_
          refine q_get X w (P + 7) 3 (ci := 3) (pp_lt hP (c := 7) (by decide)) (hE_p7 hP k _) rfl hi3 (by decide) (by decide +kernel) rfl dX0_enterFrame_65 ?_
          rw [et, e3]
          refine lv_aload_n hx hb dX0_enterFrame_68 rfl (lv_at hl 2 rfl) ?_
          refine q_get X w P 6 (ci := 0) (pp_lt0 hP) (hE_p0 hP k _) rfl hi0 (by decide) (by decide +kernel) rfl dX0_enterFrame_69 ?_
          refine q_get X w (P + 7) 4 (ci := 3) (pp_lt hP (c := 7) (by decide)) (hE_p7 hP k _) rfl hi3 (by decide) (by decide +kernel) rfl dX0_enterFrame_72 ?_
          rw [et, e4]
          refine q_callv w (q_runS X w (c_X0_moveBit4 l k h_49 hP (a := ra) (b := rb) (by omega) (by omega)) (va_cwS 3 hts gX0_enterFrame_X0_moveBit rfl rfl rfl (by decide +kernel) ⟨Nat.le_of_ble_eq_true rfl, Nat.le_of_ble_eq_true rfl⟩) rfl hl.1 rfl (Nat.le_of_ble_eq_true rfl) dX0_enterFrame_75 ⟨Nat.le_of_ble_eq_true rfl, Nat.le_of_ble_eq_true rfl⟩) (fun h_75 H locs hp w => ?_)
          have eh_75 := hp
          have et : h_75.1 (P + 7) = h.1 (P + 7) := by rw [eh_75, mvz_o _ (by omega), et]
          refine lv_aload_n hx hb dX0_enterFrame_78 rfl (lv_at hl 2 rfl) ?_
          refine lv_aload_n hx hb dX0_enterFrame_79 rfl (lv_at hl 2 rfl) ?_
          refine q_get X w P 6 (ci := 0) (pp_lt0 hP) (hE_p0 hP k _) rfl hi0 (by decide) (by decide +kernel) rfl dX0_enterFrame_80 ?_
          refine q_get X w (P + 7) 3 (ci := 3) (pp_lt hP (c := 7) (by decide)) (hE_p7 hP k _) rfl hi3 (by decide) (by decide +kernel) rfl dX0_enterFrame_83 ?_
          rw [et, e3]
          refine lv_aload_n hx hb dX0_enterFrame_86 rfl (lv_at hl 4 rfl) ?_
          refine q_callv w (q_runV X w P (c_X0_renewEnergy l k h_75 hP hP2 (t := ra) (by omega)) (cwV 2 hts gX0_enterFrame_X0_renewEnergy rfl rfl rfl (by decide +kernel) ⟨Nat.le_of_ble_eq_true rfl, Nat.le_of_ble_eq_true rfl⟩) (pp_lt0 hP) (hE_p0 hP k _) rfl rfl hl.1 rfl (Nat.le_of_ble_eq_true rfl) dX0_enterFrame_87 ⟨Nat.le_of_ble_eq_true rfl, Nat.le_of_ble_eq_true rfl⟩) (fun h_87 H locs hp w => ?_)
          have eh_87 := hp
          have et : h_87.1 (P + 7) = h.1 (P + 7) := by rw [eh_87]; exact et
          refine lv_aload_n hx hb dX0_enterFrame_90 rfl (lv_at hl 2 rfl) ?_
          refine lv_aload_n hx hb dX0_enterFrame_91 rfl (lv_at hl 2 rfl) ?_
          refine q_get X w P 6 (ci := 0) (pp_lt0 hP) (hE_p0 hP k _) rfl hi0 (by decide) (by decide +kernel) rfl dX0_enterFrame_92 ?_
          refine q_get X w (P + 7) 4 (ci := 3) (pp_lt hP (c := 7) (by decide)) (hE_p7 hP k _) rfl hi3 (by decide) (by decide +kernel) rfl dX0_enterFrame_95 ?_
          rw [et, e4]
          refine lv_aload_n hx hb dX0_enterFrame_98 rfl (lv_at hl 4 rfl) ?_
          refine q_callv w (q_runV X w P (c_X0_renewEnergy l k h_87 hP hP2 (t := rb) (by omega)) (cwV 2 hts gX0_enterFrame_X0_renewEnergy rfl rfl rfl (by decide +kernel) ⟨Nat.le_of_ble_eq_true rfl, Nat.le_of_ble_eq_true rfl⟩) (pp_lt0 hP) (hE_p0 hP k _) rfl rfl hl.1 rfl (Nat.le_of_ble_eq_true rfl) dX0_enterFrame_99 ⟨Nat.le_of_ble_eq_true rfl, Nat.le_of_ble_eq_true rfl⟩) (fun h_99 H locs hp w => ?_)
          have eh_99 := hp
          refine lv_aload_n hx hb dX0_enterFrame_102 rfl (lv_at hl 2 rfl) ?_
          refine q_get X w P 6 (ci := 0) (pp_lt0 hP) (hE_p0 hP k _) rfl hi0 (by decide) (by decide +kernel) rfl dX0_enterFrame_103 ?_
          refine lv_iconst (v := nI 0) hx hb dX0_enterFrame_106 (by decide) ?_
          refine q_put X w (P + 7) 1 .boolean (ci := 3) (pp_lt hP (c := 7) (by decide)) (hE_p7 hP k _) (by rw [hE_p7 hP k, upI_s]; rfl) rfl hi3 tyX3_ok nmX3 (by decide) (by decide +kernel) rfl (by decide +kernel) (by decide) (by decide) (Nat.le_of_ble_eq_true rfl) dX0_enterFrame_107 (fun H locs w => ?_)
          obtain ⟨h_107, eh_107⟩ : ∃ z, z = upI h_99 (P + 7) 1 (nI 0) := ⟨_, rfl⟩
          rw [← eh_107] at w
          refine lv_iload_n hx hb dX0_enterFrame_110 rfl (lv_at hl 1 rfl) ?_
          refine lv_if_ne (tgt := 119) hx hb dX0_enterFrame_111 (by decide) (fun c_111 => ?_) (fun c_111 => ?_)
          · refine lv_aload_n hx hb dX0_enterFrame_119 rfl (lv_at hl 2 rfl) ?_
            refine lv_aload_n hx hb dX0_enterFrame_120 rfl (lv_at hl 2 rfl) ?_
            refine q_calli w (q_runV X w P (c_X0_endsDiffer l k h_107 hP) (cwV 0 hts gX0_enterFrame_X0_endsDiffer rfl rfl rfl (by decide +kernel) ⟨Nat.le_of_ble_eq_true rfl, Nat.le_of_ble_eq_true rfl⟩) (pp_lt0 hP) (hE_p0 hP k _) rfl rfl hl.1 rfl (Nat.le_of_ble_eq_true rfl) dX0_enterFrame_121 ⟨Nat.le_of_ble_eq_true rfl, Nat.le_of_ble_eq_true rfl⟩) (fun r_121 h_121 H locs hp w => ?_)
            obtain ⟨er_121, eh_121⟩ := hp
            rw [eh_121] at w
            have er_121 : r_121 = bI (dfz (h_107.1 (P + 4)) (h_107.1 (P + 5)) 16) := er_121
            subst er_121
            refine q_put X w P 9 .boolean (ci := 0) (pp_lt0 hP) (hE_p0 hP k _) (by rw [hE_p0 hP k, upI_s]; rfl) rfl hi0 tyX0_ok nmX0 (by decide) (by decide +kernel) rfl (by decide +kernel) (bI_bz _).n (bI_bz _).f (Nat.le_of_ble_eq_true rfl) dX0_enterFrame_124 (fun H locs w => ?_)
            obtain ⟨h_124, eh_124⟩ : ∃ z, z = upI h_107 P 9 (bI (dfz (h_107.1 (P + 4)) (h_107.1 (P + 5)) 16)) := ⟨_, rfl⟩
            rw [← eh_124] at w
            have eA : efA h P f = h_49 := by rw [efA, if_pos c_8, eh_49, e12, e13, tN_nI (by omega), tN_nI (by omega)]
            have eB : efB h P P2 f = h_107 := by rw [efB, if_pos hd_22, eA, e3, e4, tN_nI (by omega), tN_nI (by omega), rcv, eh_107, eh_99, eh_87, eh_75]
            have e9 : h_124 = efz h P P2 f := by rw [efz, if_pos (Or.inl c_8), eB]; exact eh_124
            exact hret _ _ _ _ _ _ _ dX0_enterFrame_127 w e9 (Nat.le_of_ble_eq_true rfl) (Nat.le_of_ble_eq_true rfl)
          · exact absurd c_111 (by decide)
    · subst er_22
      refine lv_istore (lv' := [(4, .int (nI 0)), (3, .int (nI 1)), (0, .ref (k.2.1 P)), (1, .int f), (2, .ref (k.2.1 P2))]) hx hb dX0_enterFrame_25 hl (by decide) rfl (fun ls hl => ?_)
      refine lv_iload_n hx hb dX0_enterFrame_27 rfl (lv_at hl 1 rfl) ?_
      refine lv_if_eq (tgt := 52) hx hb dX0_enterFrame_28 (by decide) (fun c_28 => ?_) (fun c_28 => ?_)
      · exact absurd c_28 (by decide)
      · obtain ⟨sa, sb, hsa, hsb, e12, e13⟩ := hs c_8
        refine lv_aload_n hx hb dX0_enterFrame_31 rfl (lv_at hl 2 rfl) ?_
        refine q_get X w P 4 (ci := 0) (pp_lt0 hP) (hE_p0 hP k _) rfl hi0 (by decide) (by decide +kernel) rfl dX0_enterFrame_32 ?_
        refine lv_aload_n hx hb dX0_enterFrame_35 rfl (lv_at hl 2 rfl) ?_
        refine q_get X w P 6 (ci := 0) (pp_lt0 hP) (hE_p0 hP k _) rfl hi0 (by decide) (by decide +kernel) rfl dX0_enterFrame_36 ?_
        refine q_get X w (P + 7) 12 (ci := 3) (pp_lt hP (c := 7) (by decide)) (hE_p7 hP k _) rfl hi3 (by decide) (by decide +kernel) rfl dX0_enterFrame_39 ?_
        rw [e12]
        refine lv_aload_n hx hb dX0_enterFrame_42 rfl (lv_at hl 2 rfl) ?_
        refine q_get X w P 6 (ci := 0) (pp_lt0 hP) (hE_p0 hP k _) rfl hi0 (by decide) (by decide +kernel) rfl dX0_enterFrame_43 ?_
        refine q_get X w (P + 7) 13 (ci := 3) (pp_lt hP (c := 7) (by decide)) (hE_p7 hP k _) rfl hi3 (by decide) (by decide +kernel) rfl dX0_enterFrame_46 ?_
        rw [e13]
        refine q_callv w (q_runS X w (c_X0_moveBit5 l k h hP (a := sa) (b := sb) (by omega) (by omega)) (va_cwS 3 hts gX0_enterFrame_X0_moveBit rfl rfl rfl (by decide +kernel) ⟨Nat.le_of_ble_eq_true rfl, Nat.le_of_ble_eq_true rfl⟩) rfl hl.1 rfl (Nat.le_of_ble_eq_true rfl) dX0_enterFrame_49 ⟨Nat.le_of_ble_eq_true rfl, Nat.le_of_ble_eq_true rfl⟩) (fun h_49 H locs hp w => ?_)
        have eh_49 := hp
        refine lv_iload hx hb dX0_enterFrame_52 (lv_at hl 0 rfl) ?_
        refine lv_if_eq (tgt := 110) hx hb dX0_enterFrame_54 (by decide) (fun c_54 => ?_) (fun c_54 => ?_)
        · refine lv_iload_n hx hb dX0_enterFrame_110 rfl (lv_at hl 1 rfl) ?_
          refine lv_if_ne (tgt := 119) hx hb dX0_enterFrame_111 (by decide) (fun c_111 => ?_) (fun c_111 => ?_)
          · refine lv_aload_n hx hb dX0_enterFrame_119 rfl (lv_at hl 2 rfl) ?_
            refine lv_aload_n hx hb dX0_enterFrame_120 rfl (lv_at hl 2 rfl) ?_
            refine q_calli w (q_runV X w P (c_X0_endsDiffer l k h_49 hP) (cwV 0 hts gX0_enterFrame_X0_endsDiffer rfl rfl rfl (by decide +kernel) ⟨Nat.le_of_ble_eq_true rfl, Nat.le_of_ble_eq_true rfl⟩) (pp_lt0 hP) (hE_p0 hP k _) rfl rfl hl.1 rfl (Nat.le_of_ble_eq_true rfl) dX0_enterFrame_121 ⟨Nat.le_of_ble_eq_true rfl, Nat.le_of_ble_eq_true rfl⟩) (fun r_121 h_121 H locs hp w => ?_)
            obtain ⟨er_121, eh_121⟩ := hp
            rw [eh_121] at w
            have er_121 : r_121 = bI (dfz (h_49.1 (P + 4)) (h_49.1 (P + 5)) 16) := er_121
            subst er_121
            refine q_put X w P 9 .boolean (ci := 0) (pp_lt0 hP) (hE_p0 hP k _) (by rw [hE_p0 hP k, upI_s]; rfl) rfl hi0 tyX0_ok nmX0 (by decide) (by decide +kernel) rfl (by decide +kernel) (bI_bz _).n (bI_bz _).f (Nat.le_of_ble_eq_true rfl) dX0_enterFrame_124 (fun H locs w => ?_)
            obtain ⟨h_124, eh_124⟩ : ∃ z, z = upI h_49 P 9 (bI (dfz (h_49.1 (P + 4)) (h_49.1 (P + 5)) 16)) := ⟨_, rfl⟩
            rw [← eh_124] at w
            have eA : efA h P f = h_49 := by rw [efA, if_pos c_8, eh_49, e12, e13, tN_nI (by omega), tN_nI (by omega)]
            have eB : efB h P P2 f = h_49 := by rw [efB, if_neg hd_22, eA]
            have e9 : h_124 = efz h P P2 f := by rw [efz, if_pos (Or.inl c_8), eB]; exact eh_124
            exact hret _ _ _ _ _ _ _ dX0_enterFrame_127 w e9 (Nat.le_of_ble_eq_true rfl) (Nat.le_of_ble_eq_true rfl)
          · exact absurd c_111 (by decide)
        · exact absurd (by decide) c_54
