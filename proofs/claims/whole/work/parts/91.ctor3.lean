/-! THE CONSTRUCTORS' CONTRACTS: the reference -/
def ME (k : kY) (al : Nat → Nat) (f : Nat → Int64) (j : Nat) : va_E :=
  if j = 0 then .inr (5, [.ref (al 1), .ref (al 2), .int 0, .int 0, .ref (al 3), .long 0])
  else if j = 1 then .inl (k.2.2 1, 233, .inr (.inl f))
  else if j = 2 then .inl (k.2.2 1, 932, .inr (.inl (fun _ => 0)))
  else .inl (k.2.2 1, 64, .inr (.inl (fun _ => 0)))
theorem ME_up {k : kY} {al : Nat → Nat} {F G : Nat → Int64} (j : Nat) : ME k al G j = va_up (ME k al F) 1 (.inl (k.2.2 1, 233, .inr (.inl G))) j := by
  by_cases c : j = 1
  · subst c; rw [va_s9]; rfl
  · rw [va_o9 _ _ c]
    unfold ME
    rw [if_neg c, if_neg c]
def miT (f : Nat → Int64) (p : Nat) : Nat → (Nat → Int64)
  | 0 => va_up f (1 + 116 * p + 0) 1000000
  | t + 1 => va_up (va_up (miT f p t) (1 + 116 * p + (1 + t)) 100) (1 + 116 * p + (33 + t)) 12
def miP : Nat → (Nat → Int64)
  | 0 => fun _ => 0
  | p + 1 => mdr (miT (miP p) p 16) p
set_option maxHeartbeats 4000000 in
set_option maxRecDepth 100000 in
theorem c_at0 (l : Launch) (q u : Nat) : Met l yX5_at wsX5_at rc_X5_at (va_Pc [.int (nI q), .int (nI u)] (fun _ => True)) (va_Qi (fun r (_ : Unit) => r = nI (1 + 116 * q + u)) (fun _ _ => True) (fun _ => False)) 0 0 (fun _ => False) := by
  refine Met.ofW (cc := cX5_at) (maxL := 2) (ret := some .int) (by decide) rfl ?_
  intro p e s m args below meth c s₁ B hml hv
  obtain ⟨rfl, -⟩ := hv
  have X : CallFix p m c cX5_at 2 s _ wsX5_at RX5 := ⟨B.exec, B.bytes, hml, findClass_of_methodNamed B.named, atoms_spec (ws := wsX5_at) B.pre⟩
  have hx := X.1
  have hb := X.2.1
  have hl := lv_entry ([.int (nI q), .int (nI u)]) (n := 2) (Nat.le_of_ble_eq_true rfl)
  rw [lg_entry_eq]
  generalize (lg_sl ([.int (nI q), .int (nI u)]) ++ List.replicate (2 - (lg_sl ([.int (nI q), .int (nI u)])).length) Slot.unset).toArray = ls at hl ⊢
  have hl : lv_has ls 2 [(0, .int (nI q)), (1, .int (nI u))] := hl
  refine lv_iconst (v := nI 1) hx hb dX5_at_0 (by decide) ?_
  refine lv_bipush (v := nI 116) hx hb dX5_at_1 (by decide) ?_
  refine lv_iload_n hx hb dX5_at_3 rfl (lv_at hl 0 rfl) ?_
  refine q_imulN X dX5_at_4 ?_
  refine q_iaddN X dX5_at_5 ?_
  refine lv_iload_n hx hb dX5_at_6 rfl (lv_at hl 1 rfl) ?_
  refine q_iaddN X dX5_at_7 ?_
  exact W.iret hx hb B.returns (fun t ht _ => ⟨⟨_, (), rfl, rfl, trivial⟩, (va_S.rf (A := fun _ => False) (H0 := s.heap)).F ht⟩) (fun q hq => absurd hq List.not_mem_nil) dX5_at_8 B.notSynchronized

abbrev rcc_drop : Room := { frames := 1, cells := 0, slots := 0, locals := 21 }
set_option maxHeartbeats 4000000 in
set_option maxRecDepth 100000 in
theorem cc_drop (l : Launch) (k : kY) {a q : Nat} (al : Nat → Nat) (f : Nat → Int64) (ha : al 0 = a) (hq : q < 2) : CU l k yX5_drop wsX5_drop rcc_drop [.ref a, .int (nI q)] al 4 (ME k al f) 4 (fun _ => ME k al (mdr f q)) 0 0 := by
  refine u_met (cc := cX5_drop) (maxL := 3) (by decide) rfl (Nat.le_of_ble_eq_true rfl) ?_
  intro p e s m args below meth c Q ls X hnm w hl hret
  have hx := X.1
  have hb := X.2.1
  have hown := X.2.2.2.1
  have hts := X.2.2.2.2
  have hts9 : ∀ w : Cond, w ∈ wsX5_drop → w ∈ wsX5_drop := fun _ h => h
  have hl : lv_has ls 3 [(0, .ref a), (1, .int (nI q))] := hl
  have hi5 : ∀ w ∈ u_ws RX5 TX5 6, w ∈ wsX5_drop := by decide +kernel
  refine lv_bipush (v := nI 97) hx hb dX5_drop_0 (by decide) ?_
  refine lv_istore_n (lv' := [(2, .int (nI 97)), (0, .ref a), (1, .int (nI q))]) hx hb dX5_drop_2 rfl hl (by decide) rfl (fun ls hl => ?_)
  have lp : ∀ (fu i : Nat), 97 ≤ i → i ≤ 115 → 115 - i < fu → ∀ (H : Heap) (locs : List Loc) (ls : Array Slot), UX k al 4 s H locs al 4 (ME k al (wfz (fun _ => 0) f (1 + 116 * q + 97) (i - 97))) → lv_has ls 3 [(0, .ref a), (1, .int (nI q)), (2, .int (nI i))] → W p l e rcc_drop s m args below meth c H locs 0 0 Q (F0 m 3 ls []) := by
    intro fu
    induction fu with
    | zero => intro i _ _ hm; exact absurd hm (Nat.not_lt_zero _)
    | succ fu ih =>
      intro i hi1 hi2 hm H locs ls w hl
      refine lv_iload_n hx hb dX5_drop_3 rfl (lv_at hl 2 rfl) ?_
      refine lv_bipush (v := nI 115) hx hb dX5_drop_4 (by decide) ?_
      refine q_icge X (tgt := 26) (by omega) (by decide) dX5_drop_6 (by decide) (fun c_6 => ?_) (fun c_6 => ?_)
      · obtain rfl : i = 115 := by omega
        refine lv_aload_n hx hb dX5_drop_26 rfl (lv_at hl 0 rfl) ?_
        refine u_get X w 0 0 (ci := 5) (by omega) ha rfl rfl hi5 (by decide) (by decide +kernel) rfl dX5_drop_27 ?_
        refine lv_iload_n hx hb dX5_drop_30 rfl (lv_at hl 1 rfl) ?_
        refine lv_bipush (v := nI 101) hx hb dX5_drop_31 (by decide) ?_
        refine u_calla X w (c_at0 l q 101) (va_cwS 2 hts gX5_drop_X5_at rfl rfl rfl (by decide +kernel) ⟨Nat.le_of_ble_eq_true rfl, Nat.le_of_ble_eq_true rfl⟩) rfl hl.1 rfl (Nat.le_of_ble_eq_true rfl) dX5_drop_33 ⟨Nat.le_of_ble_eq_true rfl, Nat.le_of_ble_eq_true rfl⟩ (fun r33 H locs er33 w => ?_)
        subst er33
        refine lv_ldc2 (v := (-1)) hx hb hown (hts (.constantLong RX5 94 (-1)) (by decide +kernel)) dX5_drop_36 ?_
        refine u_last X w 1 (1 + 116 * q + 101) (by omega) rfl rfl (by omega) (by decide) dX5_drop_39 (fun H locs w => ?_)
        exact hret _ _ _ _ _ _ _ _ dX5_drop_40 w (fun _ _ => rfl) (fun j hj => ME_up j) (Nat.le_of_ble_eq_true rfl) (Nat.le_of_ble_eq_true rfl)
      · refine lv_aload_n hx hb dX5_drop_9 rfl (lv_at hl 0 rfl) ?_
        refine u_get X w 0 0 (ci := 5) (by omega) ha rfl rfl hi5 (by decide) (by decide +kernel) rfl dX5_drop_10 ?_
        refine lv_iload_n hx hb dX5_drop_13 rfl (lv_at hl 1 rfl) ?_
        refine lv_iload_n hx hb dX5_drop_14 rfl (lv_at hl 2 rfl) ?_
        refine u_calla X w (c_at0 l q i) (va_cwS 2 hts gX5_drop_X5_at rfl rfl rfl (by decide +kernel) ⟨Nat.le_of_ble_eq_true rfl, Nat.le_of_ble_eq_true rfl⟩) rfl hl.1 rfl (Nat.le_of_ble_eq_true rfl) dX5_drop_15 ⟨Nat.le_of_ble_eq_true rfl, Nat.le_of_ble_eq_true rfl⟩ (fun r15 H locs er15 w => ?_)
        subst er15
        refine lv_lconst (v := 0) hx hb dX5_drop_18 (by decide) ?_
        refine u_last X w 1 (1 + 116 * q + i) (by omega) rfl rfl (by omega) (by decide) dX5_drop_19 (fun H locs w => ?_)
        refine lv_iinc (v := nI (i + 1)) (lv' := [(2, .int (nI (i + 1))), (0, .ref a), (1, .int (nI q))]) hx hb dX5_drop_20 hl (k := 2) rfl (nI_1 _) (by decide) rfl (fun ls hl => ?_)
        refine lv_goto (tgt := 3) hx hb dX5_drop_23 (by decide) ?_
        exact ih (i + 1) (by omega) (by omega) (by omega) _ _ ls (w.cong (fun _ _ => rfl) (fun j hj => by rw [show 1 + 116 * q + i = 1 + 116 * q + 97 + (i - 97) by omega, wfz_up (fun _ => 0) f, show i - 97 + 1 = i + 1 - 97 by omega]; exact ME_up j)) (lv_sub hl [1, 2, 0] rfl)
  exact lp 19 97 (by omega) (by omega) (by omega) _ _ ls (w.cong (fun _ _ => rfl) (fun j hj => by rw [Nat.sub_self, wfz_0])) (lv_sub hl [1, 2, 0] rfl)

abbrev rcc_X5 : Room := { frames := 3, cells := 3, slots := 1229, locals := 100 }
set_option maxHeartbeats 4000000 in
set_option maxRecDepth 100000 in
theorem cc_X5 (l : Launch) (k : kY) (a : Nat) : CU l k yX5_init wsX5_init rcc_X5 [.ref a] (fun _ => a) 1 (fun _ => .inr (5, [.null, .null, .int 0, .int 0, .null, .long 0])) 4 (fun al => ME k al (miP 2)) 3 1229 := by
  refine u_met (cc := cX5_init) (maxL := 3) (by decide) rfl (Nat.le_of_ble_eq_true rfl) ?_
  intro p e s m args below meth c Q ls X hnm w hl hret
  have hx := X.1
  have hb := X.2.1
  have hown := X.2.2.2.1
  have hts := X.2.2.2.2
  have hts9 : ∀ w : Cond, w ∈ wsX5_init → w ∈ wsX5_init := fun _ h => h
  have hl : lv_has ls 3 [(0, .ref a)] := hl
  have hi5 : ∀ w ∈ u_ws RX5 TX5 6, w ∈ wsX5_init := by decide +kernel
  refine lv_aload_n hx hb dX5_init_0 rfl (lv_at hl 0 rfl) ?_
  refine W.objInit hx hb hown (hts (.methodLink RX5 1 objectInit) (by decide +kernel)) (hts (.instanceMethod objectInit) (by decide +kernel)) (hts (.code objectInit ⟨#[0xb1]⟩ 1 none) (by decide +kernel)) rfl (by rw [X.2.2.1]; exact hl.1) rfl dX5_init_1 (Nat.le_of_ble_eq_true rfl) (Nat.le_of_ble_eq_true rfl) ?_
  refine W.eq (g2 := F0 m 4 ls []) rfl ?_
  refine lv_aload_n hx hb dX5_init_4 rfl (lv_at hl 0 rfl) ?_
  refine lv_sipush (v := nI 233) hx hb dX5_init_5 (by decide) ?_
  refine u_newL X w (hts9 (.arrayClass .long) (by decide +kernel)) (by decide) (Nat.le_of_ble_eq_true rfl) (Nat.le_of_ble_eq_true rfl) dX5_init_8 (fun q1 H w => ?_)
  refine u_putF X w 0 0 (.array .long) (ci := 5) (by omega) rfl rfl rfl hi5 tyX5_ok nmX5 (by decide) (by decide +kernel) rfl hnm rfl (by decide +kernel) rfl rfl (Nat.le_of_ble_eq_true rfl) dX5_init_10 (fun H locs w => ?_)
  refine lv_aload_n hx hb dX5_init_13 rfl (lv_at hl 0 rfl) ?_
  refine lv_sipush (v := nI 932) hx hb dX5_init_14 (by decide) ?_
  refine u_newL X w (hts9 (.arrayClass .long) (by decide +kernel)) (by decide) (Nat.le_of_ble_eq_true rfl) (Nat.le_of_ble_eq_true rfl) dX5_init_17 (fun q2 H w => ?_)
  refine u_putF X w 0 1 (.array .long) (ci := 5) (by omega) rfl rfl rfl hi5 tyX5_ok nmX5 (by decide) (by decide +kernel) rfl hnm rfl (by decide +kernel) rfl rfl (Nat.le_of_ble_eq_true rfl) dX5_init_19 (fun H locs w => ?_)
  refine lv_aload_n hx hb dX5_init_22 rfl (lv_at hl 0 rfl) ?_
  refine lv_bipush (v := nI 64) hx hb dX5_init_23 (by decide) ?_
  refine u_newL X w (hts9 (.arrayClass .long) (by decide +kernel)) (by decide) (Nat.le_of_ble_eq_true rfl) (Nat.le_of_ble_eq_true rfl) dX5_init_25 (fun q3 H w => ?_)
  refine u_putF X w 0 4 (.array .long) (ci := 5) (by omega) rfl rfl rfl hi5 tyX5_ok nmX5 (by decide) (by decide +kernel) rfl hnm rfl (by decide +kernel) rfl rfl (Nat.le_of_ble_eq_true rfl) dX5_init_27 (fun H locs w => ?_)
  refine lv_iconst (v := nI 0) hx hb dX5_init_30 (by decide) ?_
  refine lv_istore_n (lv' := [(1, .int (nI 0)), (0, .ref a)]) hx hb dX5_init_31 rfl hl (by decide) rfl (fun ls hl => ?_)
  have lp : ∀ (fu q : Nat), q ≤ 2 → 2 - q < fu → ∀ (al : Nat → Nat) (H : Heap) (locs : List Loc) (ls : Array Slot), al 0 = a → UX k (fun _ => a) 1 s H locs al 4 (ME k al (miP q)) → lv_has ls 3 [(0, .ref a), (1, .int (nI q))] → W p l e rcc_X5 s m args below meth c H locs 3 1229 Q (F0 m 32 ls []) := by
    intro fu
    induction fu with
    | zero => intro q _ hm; exact absurd hm (Nat.not_lt_zero _)
    | succ fu ih =>
      intro q hq hm al H locs ls ha w hl
      refine lv_iload_n hx hb dX5_init_32 rfl (lv_at hl 1 rfl) ?_
      refine lv_iconst (v := nI 2) hx hb dX5_init_33 (by decide) ?_
      refine q_icge X (tgt := 106) (by omega) (by decide) dX5_init_34 (by decide) (fun c_34 => ?_) (fun c_34 => ?_)
      · obtain rfl : q = 2 := by omega
        exact hret _ _ _ _ _ _ _ _ dX5_init_106 w (fun j hj => by obtain rfl : j = 0 := (by omega); exact ha) (fun _ _ => rfl) (Nat.le_of_ble_eq_true rfl) (Nat.le_of_ble_eq_true rfl)
      · refine lv_aload_n hx hb dX5_init_37 rfl (lv_at hl 0 rfl) ?_
        refine u_get X w 0 0 (ci := 5) (by omega) ha rfl rfl hi5 (by decide) (by decide +kernel) rfl dX5_init_38 ?_
        refine lv_iload_n hx hb dX5_init_41 rfl (lv_at hl 1 rfl) ?_
        refine lv_iconst (v := nI 0) hx hb dX5_init_42 (by decide) ?_
        refine u_calla X w (c_at0 l q 0) (va_cwS 2 hts gX5_init_X5_at rfl rfl rfl (by decide +kernel) ⟨Nat.le_of_ble_eq_true rfl, Nat.le_of_ble_eq_true rfl⟩) rfl hl.1 rfl (Nat.le_of_ble_eq_true rfl) dX5_init_43 ⟨Nat.le_of_ble_eq_true rfl, Nat.le_of_ble_eq_true rfl⟩ (fun r43 H locs er43 w => ?_)
        subst er43
        refine lv_ldc2 (v := 1000000) hx hb hown (hts (.constantLong RX5 23 1000000) (by decide +kernel)) dX5_init_46 ?_
        refine u_last X w 1 (1 + 116 * q + 0) (by omega) rfl rfl (by omega) (by decide) dX5_init_49 (fun H locs w => ?_)
        refine lv_iconst (v := nI 0) hx hb dX5_init_50 (by decide) ?_
        refine lv_istore_n (lv' := [(2, .int (nI 0)), (0, .ref a), (1, .int (nI q))]) hx hb dX5_init_51 rfl hl (by decide) rfl (fun ls hl => ?_)
        have lp2 : ∀ (fu2 t : Nat), t ≤ 16 → 16 - t < fu2 → ∀ (H : Heap) (locs : List Loc) (ls : Array Slot), UX k (fun _ => a) 1 s H locs al 4 (ME k al (miT (miP q) q t)) → lv_has ls 3 [(0, .ref a), (1, .int (nI q)), (2, .int (nI t))] → W p l e rcc_X5 s m args below meth c H locs 3 1229 Q (F0 m 52 ls []) := by
          intro fu2
          induction fu2 with
          | zero => intro t _ hm; exact absurd hm (Nat.not_lt_zero _)
          | succ fu2 ih2 =>
            intro t ht hm2 H locs ls w hl
            refine lv_iload_n hx hb dX5_init_52 rfl (lv_at hl 2 rfl) ?_
            refine lv_bipush (v := nI 16) hx hb dX5_init_53 (by decide) ?_
            refine q_icge X (tgt := 95) (by omega) (by decide) dX5_init_55 (by decide) (fun c_55 => ?_) (fun c_55 => ?_)
            · obtain rfl : t = 16 := by omega
              refine lv_aload_n hx hb dX5_init_95 rfl (lv_at hl 0 rfl) ?_
              refine lv_iload_n hx hb dX5_init_96 rfl (lv_at hl 1 rfl) ?_
              refine u_callD X w (ci := 5) (by decide) ha rfl rfl (cc_drop l k al (miT (miP q) q 16) ha (by omega)) (cwV 1 hts gX5_init_X5_drop rfl rfl rfl (by decide +kernel) ⟨Nat.le_of_ble_eq_true rfl, Nat.le_of_ble_eq_true rfl⟩) rfl hl.1 rfl (Nat.le_of_ble_eq_true rfl) dX5_init_97 ⟨Nat.le_of_ble_eq_true rfl, Nat.le_of_ble_eq_true rfl⟩ (fun H locs w => ?_)
              refine lv_iinc (v := nI (q + 1)) (lv' := [(1, .int (nI (q + 1))), (0, .ref a)]) hx hb dX5_init_100 (lv_sub hl [0, 1] rfl) (k := 1) rfl (nI_1 _) (by decide) rfl (fun ls hl => ?_)
              refine lv_goto (tgt := 32) hx hb dX5_init_103 (by decide) ?_
              exact ih (q + 1) (by omega) (by omega) al _ _ ls ha w (lv_sub hl [1, 0] rfl)
            · refine lv_aload_n hx hb dX5_init_58 rfl (lv_at hl 0 rfl) ?_
              refine u_get X w 0 0 (ci := 5) (by omega) ha rfl rfl hi5 (by decide) (by decide +kernel) rfl dX5_init_59 ?_
              refine lv_iload_n hx hb dX5_init_62 rfl (lv_at hl 1 rfl) ?_
              refine lv_iconst (v := nI 1) hx hb dX5_init_63 (by decide) ?_
              refine lv_iload_n hx hb dX5_init_64 rfl (lv_at hl 2 rfl) ?_
              refine q_iaddN X dX5_init_65 ?_
              refine u_calla X w (c_at0 l q (1 + t)) (va_cwS 2 hts gX5_init_X5_at rfl rfl rfl (by decide +kernel) ⟨Nat.le_of_ble_eq_true rfl, Nat.le_of_ble_eq_true rfl⟩) rfl hl.1 rfl (Nat.le_of_ble_eq_true rfl) dX5_init_66 ⟨Nat.le_of_ble_eq_true rfl, Nat.le_of_ble_eq_true rfl⟩ (fun r66 H locs er66 w => ?_)
              subst er66
              refine lv_ldc2 (v := 100) hx hb hown (hts (.constantLong RX5 25 100) (by decide +kernel)) dX5_init_69 ?_
              refine u_last X w 1 (1 + 116 * q + (1 + t)) (by omega) rfl rfl (by omega) (by decide) dX5_init_72 (fun H locs w => ?_)
              refine lv_aload_n hx hb dX5_init_73 rfl (lv_at hl 0 rfl) ?_
              refine u_get X w 0 0 (ci := 5) (by omega) ha rfl rfl hi5 (by decide) (by decide +kernel) rfl dX5_init_74 ?_
              refine lv_iload_n hx hb dX5_init_77 rfl (lv_at hl 1 rfl) ?_
              refine lv_bipush (v := nI 33) hx hb dX5_init_78 (by decide) ?_
              refine lv_iload_n hx hb dX5_init_80 rfl (lv_at hl 2 rfl) ?_
              refine q_iaddN X dX5_init_81 ?_
              refine u_calla X w (c_at0 l q (33 + t)) (va_cwS 2 hts gX5_init_X5_at rfl rfl rfl (by decide +kernel) ⟨Nat.le_of_ble_eq_true rfl, Nat.le_of_ble_eq_true rfl⟩) rfl hl.1 rfl (Nat.le_of_ble_eq_true rfl) dX5_init_82 ⟨Nat.le_of_ble_eq_true rfl, Nat.le_of_ble_eq_true rfl⟩ (fun r82 H locs er82 w => ?_)
              subst er82
              refine lv_ldc2 (v := 12) hx hb hown (hts (.constantLong RX5 27 12) (by decide +kernel)) dX5_init_85 ?_
              refine u_last X w 1 (1 + 116 * q + (33 + t)) (by omega) rfl rfl (by omega) (by decide) dX5_init_88 (fun H locs w => ?_)
              refine lv_iinc (v := nI (t + 1)) (lv' := [(2, .int (nI (t + 1))), (0, .ref a), (1, .int (nI q))]) hx hb dX5_init_89 hl (k := 2) rfl (nI_1 _) (by decide) rfl (fun ls hl => ?_)
              refine lv_goto (tgt := 52) hx hb dX5_init_92 (by decide) ?_
              exact ih2 (t + 1) (by omega) (by omega) _ _ ls (w.cong (fun _ _ => rfl) (fun j hj => (ME_up (F := miT (miP q) q t) j).trans (by rw [va_up_up]; rfl))) (lv_sub hl [1, 2, 0] rfl)
        exact lp2 17 0 (by omega) (by omega) _ _ ls (w.cong (fun _ _ => rfl) (fun j hj => ME_up j)) (lv_sub hl [1, 2, 0] rfl)
  refine lp 3 0 (by omega) (by omega) _ _ _ ls ?_ (w.cong (fun _ _ => rfl) (fun j hj => ?_)) (lv_sub hl [1, 0] rfl)
  · rfl
  · rcases (show j = 0 ∨ j = 1 ∨ j = 2 ∨ j = 3 by omega) with rfl | rfl | rfl | rfl <;> rfl

