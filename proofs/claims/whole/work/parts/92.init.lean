/-! THE BEGINNING: what the constructors leave is the world of part 02, and the relation holds -/
def oo (i : Nat) : Nat := if i = 0 then 0 else if i = 1 then 18 else if i = 2 then 87 else if i < 6 then 85 + i else if i = 6 then 1 else if i < 11 then 19 + 17 * (i - 7) else if i < 27 then i - 9 else if i < 91 then 20 + 17 * ((i - 27) / 16) + (i - 27) % 16 else i
theorem oo_lt : ∀ i : Nat, i < 97 → oo i < 97 := by decide +kernel
theorem oo_inj : ∀ i : Nat, i < 97 → ∀ j : Nat, j < 97 → oo i = oo j → i = j := by decide +kernel
def h0I (i : Nat) : Nat → Int32 :=
  if i < 11 then fun _ => 0
  else if i < 91 then
    if (i - 11) % 8 = 0 then fun j => if j = 7 then 1000000 else 0
    else if (i - 11) % 8 = 1 then pfz (fun _ => nI 100) (fun _ => 0) 16
    else if (i - 11) % 8 = 3 then pfz (fun _ => nI 12) (fun _ => 0) 16
    else if (i - 11) % 8 = 7 then fun j => if j = 5 then -1 else if j = 9 then -1 else if j = 10 then -1 else if j = 11 then -1 else 0
    else fun _ => 0
  else fun _ => 0
def h0 : hS := (h0I, (fun i => if i = 92 then miP 2 else fun _ => 0), fun _ => 0)
def fE (k : kY) (al : Nat → Nat) (j : Nat) : va_E :=
  if j < 91 then lE k al j
  else if j < 95 then ME k (fun t => al (91 + t)) (miP 2) (j - 91)
  else if j = 95 then .inl (k.2.2 1, 1, .inr (.inl (fun _ => 0)))
  else .inl (k.2.2 2, 1, .inr (.inr (.inr (.inl (fun _ => 0)))))
def kf (k : kY) (al : Nat → Nat) : kY := (k.1, (fun i => al (oo i)), k.2.2)
theorem fE_0 (k : kY) (al : Nat → Nat) : fE k al (oo 0) = hE (kf k al) h0 0 := rfl
theorem fE_2 (k : kY) (al : Nat → Nat) : fE k al (oo 2) = hE (kf k al) h0 2 := rfl
theorem fE_3 (k : kY) (al : Nat → Nat) : fE k al (oo 3) = hE (kf k al) h0 3 := rfl
theorem fE_4 (k : kY) (al : Nat → Nat) : fE k al (oo 4) = hE (kf k al) h0 4 := rfl
theorem fE_5 (k : kY) (al : Nat → Nat) : fE k al (oo 5) = hE (kf k al) h0 5 := rfl
theorem fE_6 (k : kY) (al : Nat → Nat) : fE k al (oo 6) = hE (kf k al) h0 6 := rfl
theorem fE_7 (k : kY) (al : Nat → Nat) : fE k al (oo 7) = hE (kf k al) h0 7 := rfl
theorem fE_8 (k : kY) (al : Nat → Nat) : fE k al (oo 8) = hE (kf k al) h0 8 := rfl
theorem fE_9 (k : kY) (al : Nat → Nat) : fE k al (oo 9) = hE (kf k al) h0 9 := rfl
theorem fE_10 (k : kY) (al : Nat → Nat) : fE k al (oo 10) = hE (kf k al) h0 10 := rfl
theorem fE_11 (k : kY) (al : Nat → Nat) : fE k al (oo 11) = hE (kf k al) h0 11 := rfl
theorem fE_12 (k : kY) (al : Nat → Nat) : fE k al (oo 12) = hE (kf k al) h0 12 := rfl
theorem fE_13 (k : kY) (al : Nat → Nat) : fE k al (oo 13) = hE (kf k al) h0 13 := rfl
theorem fE_14 (k : kY) (al : Nat → Nat) : fE k al (oo 14) = hE (kf k al) h0 14 := rfl
theorem fE_15 (k : kY) (al : Nat → Nat) : fE k al (oo 15) = hE (kf k al) h0 15 := rfl
theorem fE_16 (k : kY) (al : Nat → Nat) : fE k al (oo 16) = hE (kf k al) h0 16 := rfl
theorem fE_17 (k : kY) (al : Nat → Nat) : fE k al (oo 17) = hE (kf k al) h0 17 := rfl
theorem fE_18 (k : kY) (al : Nat → Nat) : fE k al (oo 18) = hE (kf k al) h0 18 := rfl
theorem fE_19 (k : kY) (al : Nat → Nat) : fE k al (oo 19) = hE (kf k al) h0 19 := rfl
theorem fE_20 (k : kY) (al : Nat → Nat) : fE k al (oo 20) = hE (kf k al) h0 20 := rfl
theorem fE_21 (k : kY) (al : Nat → Nat) : fE k al (oo 21) = hE (kf k al) h0 21 := rfl
theorem fE_22 (k : kY) (al : Nat → Nat) : fE k al (oo 22) = hE (kf k al) h0 22 := rfl
theorem fE_23 (k : kY) (al : Nat → Nat) : fE k al (oo 23) = hE (kf k al) h0 23 := rfl
theorem fE_24 (k : kY) (al : Nat → Nat) : fE k al (oo 24) = hE (kf k al) h0 24 := rfl
theorem fE_25 (k : kY) (al : Nat → Nat) : fE k al (oo 25) = hE (kf k al) h0 25 := rfl
theorem fE_26 (k : kY) (al : Nat → Nat) : fE k al (oo 26) = hE (kf k al) h0 26 := rfl
theorem fE_27 (k : kY) (al : Nat → Nat) : fE k al (oo 27) = hE (kf k al) h0 27 := rfl
theorem fE_28 (k : kY) (al : Nat → Nat) : fE k al (oo 28) = hE (kf k al) h0 28 := rfl
theorem fE_29 (k : kY) (al : Nat → Nat) : fE k al (oo 29) = hE (kf k al) h0 29 := rfl
theorem fE_30 (k : kY) (al : Nat → Nat) : fE k al (oo 30) = hE (kf k al) h0 30 := rfl
theorem fE_31 (k : kY) (al : Nat → Nat) : fE k al (oo 31) = hE (kf k al) h0 31 := rfl
theorem fE_32 (k : kY) (al : Nat → Nat) : fE k al (oo 32) = hE (kf k al) h0 32 := rfl
theorem fE_33 (k : kY) (al : Nat → Nat) : fE k al (oo 33) = hE (kf k al) h0 33 := rfl
theorem fE_34 (k : kY) (al : Nat → Nat) : fE k al (oo 34) = hE (kf k al) h0 34 := rfl
theorem fE_35 (k : kY) (al : Nat → Nat) : fE k al (oo 35) = hE (kf k al) h0 35 := rfl
theorem fE_36 (k : kY) (al : Nat → Nat) : fE k al (oo 36) = hE (kf k al) h0 36 := rfl
theorem fE_37 (k : kY) (al : Nat → Nat) : fE k al (oo 37) = hE (kf k al) h0 37 := rfl
theorem fE_38 (k : kY) (al : Nat → Nat) : fE k al (oo 38) = hE (kf k al) h0 38 := rfl
theorem fE_39 (k : kY) (al : Nat → Nat) : fE k al (oo 39) = hE (kf k al) h0 39 := rfl
theorem fE_40 (k : kY) (al : Nat → Nat) : fE k al (oo 40) = hE (kf k al) h0 40 := rfl
theorem fE_41 (k : kY) (al : Nat → Nat) : fE k al (oo 41) = hE (kf k al) h0 41 := rfl
theorem fE_42 (k : kY) (al : Nat → Nat) : fE k al (oo 42) = hE (kf k al) h0 42 := rfl
theorem fE_43 (k : kY) (al : Nat → Nat) : fE k al (oo 43) = hE (kf k al) h0 43 := rfl
theorem fE_44 (k : kY) (al : Nat → Nat) : fE k al (oo 44) = hE (kf k al) h0 44 := rfl
theorem fE_45 (k : kY) (al : Nat → Nat) : fE k al (oo 45) = hE (kf k al) h0 45 := rfl
theorem fE_46 (k : kY) (al : Nat → Nat) : fE k al (oo 46) = hE (kf k al) h0 46 := rfl
theorem fE_47 (k : kY) (al : Nat → Nat) : fE k al (oo 47) = hE (kf k al) h0 47 := rfl
theorem fE_48 (k : kY) (al : Nat → Nat) : fE k al (oo 48) = hE (kf k al) h0 48 := rfl
theorem fE_49 (k : kY) (al : Nat → Nat) : fE k al (oo 49) = hE (kf k al) h0 49 := rfl
theorem fE_50 (k : kY) (al : Nat → Nat) : fE k al (oo 50) = hE (kf k al) h0 50 := rfl
theorem fE_51 (k : kY) (al : Nat → Nat) : fE k al (oo 51) = hE (kf k al) h0 51 := rfl
theorem fE_52 (k : kY) (al : Nat → Nat) : fE k al (oo 52) = hE (kf k al) h0 52 := rfl
theorem fE_53 (k : kY) (al : Nat → Nat) : fE k al (oo 53) = hE (kf k al) h0 53 := rfl
theorem fE_54 (k : kY) (al : Nat → Nat) : fE k al (oo 54) = hE (kf k al) h0 54 := rfl
theorem fE_55 (k : kY) (al : Nat → Nat) : fE k al (oo 55) = hE (kf k al) h0 55 := rfl
theorem fE_56 (k : kY) (al : Nat → Nat) : fE k al (oo 56) = hE (kf k al) h0 56 := rfl
theorem fE_57 (k : kY) (al : Nat → Nat) : fE k al (oo 57) = hE (kf k al) h0 57 := rfl
theorem fE_58 (k : kY) (al : Nat → Nat) : fE k al (oo 58) = hE (kf k al) h0 58 := rfl
theorem fE_59 (k : kY) (al : Nat → Nat) : fE k al (oo 59) = hE (kf k al) h0 59 := rfl
theorem fE_60 (k : kY) (al : Nat → Nat) : fE k al (oo 60) = hE (kf k al) h0 60 := rfl
theorem fE_61 (k : kY) (al : Nat → Nat) : fE k al (oo 61) = hE (kf k al) h0 61 := rfl
theorem fE_62 (k : kY) (al : Nat → Nat) : fE k al (oo 62) = hE (kf k al) h0 62 := rfl
theorem fE_63 (k : kY) (al : Nat → Nat) : fE k al (oo 63) = hE (kf k al) h0 63 := rfl
theorem fE_64 (k : kY) (al : Nat → Nat) : fE k al (oo 64) = hE (kf k al) h0 64 := rfl
theorem fE_65 (k : kY) (al : Nat → Nat) : fE k al (oo 65) = hE (kf k al) h0 65 := rfl
theorem fE_66 (k : kY) (al : Nat → Nat) : fE k al (oo 66) = hE (kf k al) h0 66 := rfl
theorem fE_67 (k : kY) (al : Nat → Nat) : fE k al (oo 67) = hE (kf k al) h0 67 := rfl
theorem fE_68 (k : kY) (al : Nat → Nat) : fE k al (oo 68) = hE (kf k al) h0 68 := rfl
theorem fE_69 (k : kY) (al : Nat → Nat) : fE k al (oo 69) = hE (kf k al) h0 69 := rfl
theorem fE_70 (k : kY) (al : Nat → Nat) : fE k al (oo 70) = hE (kf k al) h0 70 := rfl
theorem fE_71 (k : kY) (al : Nat → Nat) : fE k al (oo 71) = hE (kf k al) h0 71 := rfl
theorem fE_72 (k : kY) (al : Nat → Nat) : fE k al (oo 72) = hE (kf k al) h0 72 := rfl
theorem fE_73 (k : kY) (al : Nat → Nat) : fE k al (oo 73) = hE (kf k al) h0 73 := rfl
theorem fE_74 (k : kY) (al : Nat → Nat) : fE k al (oo 74) = hE (kf k al) h0 74 := rfl
theorem fE_75 (k : kY) (al : Nat → Nat) : fE k al (oo 75) = hE (kf k al) h0 75 := rfl
theorem fE_76 (k : kY) (al : Nat → Nat) : fE k al (oo 76) = hE (kf k al) h0 76 := rfl
theorem fE_77 (k : kY) (al : Nat → Nat) : fE k al (oo 77) = hE (kf k al) h0 77 := rfl
theorem fE_78 (k : kY) (al : Nat → Nat) : fE k al (oo 78) = hE (kf k al) h0 78 := rfl
theorem fE_79 (k : kY) (al : Nat → Nat) : fE k al (oo 79) = hE (kf k al) h0 79 := rfl
theorem fE_80 (k : kY) (al : Nat → Nat) : fE k al (oo 80) = hE (kf k al) h0 80 := rfl
theorem fE_81 (k : kY) (al : Nat → Nat) : fE k al (oo 81) = hE (kf k al) h0 81 := rfl
theorem fE_82 (k : kY) (al : Nat → Nat) : fE k al (oo 82) = hE (kf k al) h0 82 := rfl
theorem fE_83 (k : kY) (al : Nat → Nat) : fE k al (oo 83) = hE (kf k al) h0 83 := rfl
theorem fE_84 (k : kY) (al : Nat → Nat) : fE k al (oo 84) = hE (kf k al) h0 84 := rfl
theorem fE_85 (k : kY) (al : Nat → Nat) : fE k al (oo 85) = hE (kf k al) h0 85 := rfl
theorem fE_86 (k : kY) (al : Nat → Nat) : fE k al (oo 86) = hE (kf k al) h0 86 := rfl
theorem fE_87 (k : kY) (al : Nat → Nat) : fE k al (oo 87) = hE (kf k al) h0 87 := rfl
theorem fE_88 (k : kY) (al : Nat → Nat) : fE k al (oo 88) = hE (kf k al) h0 88 := rfl
theorem fE_89 (k : kY) (al : Nat → Nat) : fE k al (oo 89) = hE (kf k al) h0 89 := rfl
theorem fE_90 (k : kY) (al : Nat → Nat) : fE k al (oo 90) = hE (kf k al) h0 90 := rfl
theorem fE_91 (k : kY) (al : Nat → Nat) : fE k al (oo 91) = hE (kf k al) h0 91 := rfl
theorem fE_92 (k : kY) (al : Nat → Nat) : fE k al (oo 92) = hE (kf k al) h0 92 := rfl
theorem fE_93 (k : kY) (al : Nat → Nat) : fE k al (oo 93) = hE (kf k al) h0 93 := rfl
theorem fE_94 (k : kY) (al : Nat → Nat) : fE k al (oo 94) = hE (kf k al) h0 94 := rfl
theorem fE_95 (k : kY) (al : Nat → Nat) : fE k al (oo 95) = hE (kf k al) h0 95 := rfl
theorem fE_96 (k : kY) (al : Nat → Nat) : fE k al (oo 96) = hE (kf k al) h0 96 := rfl
theorem fE_all (k : kY) (al : Nat → Nat) : ∀ i : Nat, i < 97 → i ≠ 1 → fE k al (oo i) = hE (kf k al) h0 i := by
  intro i hi h1
  match i, hi, h1 with
  | 0, _, _ => exact fE_0 k al
  | 1, _, h => exact absurd rfl h
  | 2, _, _ => exact fE_2 k al
  | 3, _, _ => exact fE_3 k al
  | 4, _, _ => exact fE_4 k al
  | 5, _, _ => exact fE_5 k al
  | 6, _, _ => exact fE_6 k al
  | 7, _, _ => exact fE_7 k al
  | 8, _, _ => exact fE_8 k al
  | 9, _, _ => exact fE_9 k al
  | 10, _, _ => exact fE_10 k al
  | 11, _, _ => exact fE_11 k al
  | 12, _, _ => exact fE_12 k al
  | 13, _, _ => exact fE_13 k al
  | 14, _, _ => exact fE_14 k al
  | 15, _, _ => exact fE_15 k al
  | 16, _, _ => exact fE_16 k al
  | 17, _, _ => exact fE_17 k al
  | 18, _, _ => exact fE_18 k al
  | 19, _, _ => exact fE_19 k al
  | 20, _, _ => exact fE_20 k al
  | 21, _, _ => exact fE_21 k al
  | 22, _, _ => exact fE_22 k al
  | 23, _, _ => exact fE_23 k al
  | 24, _, _ => exact fE_24 k al
  | 25, _, _ => exact fE_25 k al
  | 26, _, _ => exact fE_26 k al
  | 27, _, _ => exact fE_27 k al
  | 28, _, _ => exact fE_28 k al
  | 29, _, _ => exact fE_29 k al
  | 30, _, _ => exact fE_30 k al
  | 31, _, _ => exact fE_31 k al
  | 32, _, _ => exact fE_32 k al
  | 33, _, _ => exact fE_33 k al
  | 34, _, _ => exact fE_34 k al
  | 35, _, _ => exact fE_35 k al
  | 36, _, _ => exact fE_36 k al
  | 37, _, _ => exact fE_37 k al
  | 38, _, _ => exact fE_38 k al
  | 39, _, _ => exact fE_39 k al
  | 40, _, _ => exact fE_40 k al
  | 41, _, _ => exact fE_41 k al
  | 42, _, _ => exact fE_42 k al
  | 43, _, _ => exact fE_43 k al
  | 44, _, _ => exact fE_44 k al
  | 45, _, _ => exact fE_45 k al
  | 46, _, _ => exact fE_46 k al
  | 47, _, _ => exact fE_47 k al
  | 48, _, _ => exact fE_48 k al
  | 49, _, _ => exact fE_49 k al
  | 50, _, _ => exact fE_50 k al
  | 51, _, _ => exact fE_51 k al
  | 52, _, _ => exact fE_52 k al
  | 53, _, _ => exact fE_53 k al
  | 54, _, _ => exact fE_54 k al
  | 55, _, _ => exact fE_55 k al
  | 56, _, _ => exact fE_56 k al
  | 57, _, _ => exact fE_57 k al
  | 58, _, _ => exact fE_58 k al
  | 59, _, _ => exact fE_59 k al
  | 60, _, _ => exact fE_60 k al
  | 61, _, _ => exact fE_61 k al
  | 62, _, _ => exact fE_62 k al
  | 63, _, _ => exact fE_63 k al
  | 64, _, _ => exact fE_64 k al
  | 65, _, _ => exact fE_65 k al
  | 66, _, _ => exact fE_66 k al
  | 67, _, _ => exact fE_67 k al
  | 68, _, _ => exact fE_68 k al
  | 69, _, _ => exact fE_69 k al
  | 70, _, _ => exact fE_70 k al
  | 71, _, _ => exact fE_71 k al
  | 72, _, _ => exact fE_72 k al
  | 73, _, _ => exact fE_73 k al
  | 74, _, _ => exact fE_74 k al
  | 75, _, _ => exact fE_75 k al
  | 76, _, _ => exact fE_76 k al
  | 77, _, _ => exact fE_77 k al
  | 78, _, _ => exact fE_78 k al
  | 79, _, _ => exact fE_79 k al
  | 80, _, _ => exact fE_80 k al
  | 81, _, _ => exact fE_81 k al
  | 82, _, _ => exact fE_82 k al
  | 83, _, _ => exact fE_83 k al
  | 84, _, _ => exact fE_84 k al
  | 85, _, _ => exact fE_85 k al
  | 86, _, _ => exact fE_86 k al
  | 87, _, _ => exact fE_87 k al
  | 88, _, _ => exact fE_88 k al
  | 89, _, _ => exact fE_89 k al
  | 90, _, _ => exact fE_90 k al
  | 91, _, _ => exact fE_91 k al
  | 92, _, _ => exact fE_92 k al
  | 93, _, _ => exact fE_93 k al
  | 94, _, _ => exact fE_94 k al
  | 95, _, _ => exact fE_95 k al
  | 96, _, _ => exact fE_96 k al
  | n + 97, h, _ => exact absurd h (by omega)
theorem start_WX {k : kY} {s : State} {H : Heap} {locs : List Loc} {al : Nat → Nat} {E : Nat → va_E} (w : UX k (fun _ => 0) 0 s H locs al 97 E) (hE9 : ∀ j, j < 97 → fE k al j = E j) (hev : ∀ A : Nat → Prop, (∀ q, A q → s.heap.size ≤ q) → EV A s s.heap) : WX (kf k al) s H locs h0 ∧ ∀ q, AA (kf k al) s.heap.size q → s.heap.size ≤ q := by
  have lo : ∀ q, UA (fun _ => 0) 0 s.heap.size q → s.heap.size ≤ q := fun q hq => by
    rcases hq with ⟨j, hj, -⟩ | z
    · omega
    · exact z
  have hi : ∀ q, AA (kf k al) s.heap.size q → s.heap.size ≤ q := fun q hq => by
    rcases hq with ⟨i, hi, z⟩ | z
    · rw [z]; exact lo _ (w.2.1.2 (oo i) _ (uW_at (oo_lt i hi)))
    · exact z
  refine ⟨⟨fun i q hq => ?_, w.2.2.1, fun i j h1 h2 he => ?_, ?_, hev _ hi⟩, hi⟩
  · obtain ⟨h1, rfl⟩ := hW_lt hq
    have z := w.1 (oo i) _ (uW_at (oo_lt i h1))
    rw [← hE9 _ (oo_lt i h1)] at z
    by_cases c1 : i = 1
    · subst c1
      have z1 : H[al 18]? = some (vp_cell (k.2.2 3) (4, .inr (.inr (.inr (.inr (fun t => if t < 4 then some (al (19 + 17 * t)) else none)))))) := z
      show H[al 18]? = some (vp_cell (k.2.2 3) (4, .inr (.inr (.inr (.inr (fun j => some (al (oo (7 + j)))))))))
      rw [z1, vp_cell_q, vp_cell_q]
      exact congrArg some (arrV_ext (fun a ha => by rcases (by omega : a = 0 ∨ a = 1 ∨ a = 2 ∨ a = 3) with rfl | rfl | rfl | rfl <;> rfl))
    · rw [fE_all k al i h1 c1] at z
      exact z
  · exact oo_inj i h1 j h2 (w.2.1.1 (oo i) (oo j) _ _ (uW_at (oo_lt i h1)) (uW_at (oo_lt j h2)) he)
  · exact ⟨w.2.2.2.2.1, fun q h1 h2 => w.2.2.2.2.2.1 q h1 (fun z => h2 (Or.inr (lo q z))), fun z hz => Or.inr (lo _ (w.2.2.2.2.2.2 z hz))⟩
theorem i0_1 : ∀ t : Nat, t < 16 → miP 2 (1 + 116 * 0 + (1 + t)) = (h0I (11 + 8 * 0 + 1) t).toInt64 ∧ (1 : Int) ≤ (h0I (11 + 8 * 0 + 1) t).toInt ∧ (h0I (11 + 8 * 0 + 1) t).toInt ≤ 10000 := by decide +kernel
theorem i1_1 : ∀ t : Nat, t < 16 → miP 2 (1 + 116 * 1 + (1 + t)) = (h0I (11 + 8 * 1 + 1) t).toInt64 ∧ (1 : Int) ≤ (h0I (11 + 8 * 1 + 1) t).toInt ∧ (h0I (11 + 8 * 1 + 1) t).toInt ≤ 10000 := by decide +kernel
theorem i0_2 : ∀ t : Nat, t < 16 → miP 2 (1 + 116 * 0 + (17 + t)) = (h0I (11 + 8 * 0 + 2) t).toInt64 ∧ (0 : Int) ≤ (h0I (11 + 8 * 0 + 2) t).toInt ∧ (h0I (11 + 8 * 0 + 2) t).toInt ≤ 1000 := by decide +kernel
theorem i1_2 : ∀ t : Nat, t < 16 → miP 2 (1 + 116 * 1 + (17 + t)) = (h0I (11 + 8 * 1 + 2) t).toInt64 ∧ (0 : Int) ≤ (h0I (11 + 8 * 1 + 2) t).toInt ∧ (h0I (11 + 8 * 1 + 2) t).toInt ≤ 1000 := by decide +kernel
theorem i0_3 : ∀ t : Nat, t < 16 → miP 2 (1 + 116 * 0 + (33 + t)) = (h0I (11 + 8 * 0 + 3) t).toInt64 ∧ (0 : Int) ≤ (h0I (11 + 8 * 0 + 3) t).toInt ∧ (h0I (11 + 8 * 0 + 3) t).toInt ≤ 12 := by decide +kernel
theorem i1_3 : ∀ t : Nat, t < 16 → miP 2 (1 + 116 * 1 + (33 + t)) = (h0I (11 + 8 * 1 + 3) t).toInt64 ∧ (0 : Int) ≤ (h0I (11 + 8 * 1 + 3) t).toInt ∧ (h0I (11 + 8 * 1 + 3) t).toInt ≤ 12 := by decide +kernel
theorem i0_4 : ∀ t : Nat, t < 16 → miP 2 (1 + 116 * 0 + (49 + t)) = (h0I (11 + 8 * 0 + 4) t).toInt64 ∧ (0 : Int) ≤ (h0I (11 + 8 * 0 + 4) t).toInt ∧ (h0I (11 + 8 * 0 + 4) t).toInt ≤ 12 := by decide +kernel
theorem i1_4 : ∀ t : Nat, t < 16 → miP 2 (1 + 116 * 1 + (49 + t)) = (h0I (11 + 8 * 1 + 4) t).toInt64 ∧ (0 : Int) ≤ (h0I (11 + 8 * 1 + 4) t).toInt ∧ (h0I (11 + 8 * 1 + 4) t).toInt ≤ 12 := by decide +kernel
theorem i0_5 : ∀ t : Nat, t < 16 → miP 2 (1 + 116 * 0 + (65 + t)) = (h0I (11 + 8 * 0 + 5) t).toInt64 ∧ (-12 : Int) ≤ (h0I (11 + 8 * 0 + 5) t).toInt ∧ (h0I (11 + 8 * 0 + 5) t).toInt ≤ 12 := by decide +kernel
theorem i1_5 : ∀ t : Nat, t < 16 → miP 2 (1 + 116 * 1 + (65 + t)) = (h0I (11 + 8 * 1 + 5) t).toInt64 ∧ (-12 : Int) ≤ (h0I (11 + 8 * 1 + 5) t).toInt ∧ (h0I (11 + 8 * 1 + 5) t).toInt ≤ 12 := by decide +kernel
theorem i0_6 : ∀ t : Nat, t < 16 → miP 2 (1 + 116 * 0 + (81 + t)) = 0 := by decide +kernel
theorem i1_6 : ∀ t : Nat, t < 16 → miP 2 (1 + 116 * 1 + (81 + t)) = 0 := by decide +kernel
theorem i0_T : (miP 2 (1 + 116 * 0 + 97) = 0 ∧ miP 2 (1 + 116 * 0 + 108) = 0 ∧ miP 2 (1 + 116 * 0 + 112) = 0 ∧ miP 2 (1 + 116 * 0 + 102) = 0 ∧ miP 2 (1 + 116 * 0 + 103) = 0 ∧ miP 2 (1 + 116 * 0 + 115) = 0 ∧ miP 2 (1 + 116 * 0 + 0) = 1000000) ∧ (miP 2 (1 + 116 * 1 + 97) = 0 ∧ miP 2 (1 + 116 * 1 + 108) = 0 ∧ miP 2 (1 + 116 * 1 + 112) = 0 ∧ miP 2 (1 + 116 * 1 + 102) = 0 ∧ miP 2 (1 + 116 * 1 + 103) = 0 ∧ miP 2 (1 + 116 * 1 + 115) = 0 ∧ miP 2 (1 + 116 * 1 + 0) = 1000000) ∧ miP 2 0 = 0 := by decide +kernel
set_option maxRecDepth 100000 in
theorem RS0 : RS 0 (miP 2) 0 (fun q c => h0I (11 + 8 * q + c)) (fun _ _ => 0) := by
  refine ⟨by rw [i0_T.2.2]; decide, by decide, by decide, fun q hq => ?_⟩
  have e0 : (0 : Int32).toInt = 0 := by decide
  rw [e0]
  rcases (by omega : q = 0 ∨ q = 1) with rfl | rfl
  · obtain ⟨⟨t1, t2, t3, t4, t5, t6, t7⟩, -⟩ := i0_T
    have z0 : (1000000 : Int64) = (h0I (11 + 8 * 0 + 0) 7).toInt64 := by decide +kernel
    have z8 : (0 : Int64) = (h0I (11 + 8 * 0 + 0) 8).toInt64 := by decide +kernel
    have z9 : h0I (11 + 8 * 0 + 0) 9 = bI (dfz (h0I (11 + 8 * 0 + 4)) (h0I (11 + 8 * 0 + 5)) 16) := by decide +kernel
    have b8 : (0 : Int) ≤ (h0I (11 + 8 * 0 + 0) 8).toInt ∧ (h0I (11 + 8 * 0 + 0) 8).toInt ≤ 0 := by decide +kernel
    have y1 : (0 : Int64) = (h0I (11 + 8 * 0 + 7) 1).toInt64 := by decide +kernel
    have y6 : (0 : Int64) = (h0I (11 + 8 * 0 + 7) 6).toInt64 := by decide +kernel
    have y7 : (0 : Int64) = (h0I (11 + 8 * 0 + 7) 7).toInt64 := by decide +kernel
    have y0 : (0 : Int64) = (h0I (11 + 8 * 0 + 7) 0).toInt64 := by decide +kernel
    have x1 : h0I (11 + 8 * 0 + 7) 1 = nI 0 := by decide +kernel
    have x6 : h0I (11 + 8 * 0 + 7) 6 = nI 0 := by decide +kernel
    have x7 : h0I (11 + 8 * 0 + 7) 7 = nI 0 := by decide +kernel
    have x0 : h0I (11 + 8 * 0 + 7) 0 = nI 0 := by decide +kernel
    have x10 : h0I (11 + 8 * 0 + 7) 10 = -1 := by decide +kernel
    have x11 : h0I (11 + 8 * 0 + 7) 11 = -1 := by decide +kernel
    exact ⟨t7.trans z0, i0_1, i0_2, i0_3, i0_4, i0_5, fun t ht => ⟨i0_6 t ht, show (0 : Int) ≤ (0 : Int64).toInt by decide, show (0 : Int64).toInt ≤ 1000000000000 by decide⟩, ⟨t6.trans z8, b8⟩, z9, ⟨⟨Or.inl x1, Or.inl x6, Or.inl x7⟩, t1.trans y1, t2.trans y6, t3.trans y7, t4.trans y0, 0, by omega, x0⟩, fun z => absurd (x1.symm.trans z) nI01, fun z => absurd (x6.symm.trans z) nI01, fun z => absurd (x7.symm.trans z) nI01, Or.inl ⟨t5, x10, x11⟩⟩
  · obtain ⟨-, ⟨t1, t2, t3, t4, t5, t6, t7⟩, -⟩ := i0_T
    have z0 : (1000000 : Int64) = (h0I (11 + 8 * 1 + 0) 7).toInt64 := by decide +kernel
    have z8 : (0 : Int64) = (h0I (11 + 8 * 1 + 0) 8).toInt64 := by decide +kernel
    have z9 : h0I (11 + 8 * 1 + 0) 9 = bI (dfz (h0I (11 + 8 * 1 + 4)) (h0I (11 + 8 * 1 + 5)) 16) := by decide +kernel
    have b8 : (0 : Int) ≤ (h0I (11 + 8 * 1 + 0) 8).toInt ∧ (h0I (11 + 8 * 1 + 0) 8).toInt ≤ 0 := by decide +kernel
    have y1 : (0 : Int64) = (h0I (11 + 8 * 1 + 7) 1).toInt64 := by decide +kernel
    have y6 : (0 : Int64) = (h0I (11 + 8 * 1 + 7) 6).toInt64 := by decide +kernel
    have y7 : (0 : Int64) = (h0I (11 + 8 * 1 + 7) 7).toInt64 := by decide +kernel
    have y0 : (0 : Int64) = (h0I (11 + 8 * 1 + 7) 0).toInt64 := by decide +kernel
    have x1 : h0I (11 + 8 * 1 + 7) 1 = nI 0 := by decide +kernel
    have x6 : h0I (11 + 8 * 1 + 7) 6 = nI 0 := by decide +kernel
    have x7 : h0I (11 + 8 * 1 + 7) 7 = nI 0 := by decide +kernel
    have x0 : h0I (11 + 8 * 1 + 7) 0 = nI 0 := by decide +kernel
    have x10 : h0I (11 + 8 * 1 + 7) 10 = -1 := by decide +kernel
    have x11 : h0I (11 + 8 * 1 + 7) 11 = -1 := by decide +kernel
    exact ⟨t7.trans z0, i1_1, i1_2, i1_3, i1_4, i1_5, fun t ht => ⟨i1_6 t ht, show (0 : Int) ≤ (0 : Int64).toInt by decide, show (0 : Int64).toInt ≤ 1000000000000 by decide⟩, ⟨t6.trans z8, b8⟩, z9, ⟨⟨Or.inl x1, Or.inl x6, Or.inl x7⟩, t1.trans y1, t2.trans y6, t3.trans y7, t4.trans y0, 0, by omega, x0⟩, fun z => absurd (x1.symm.trans z) nI01, fun z => absurd (x6.symm.trans z) nI01, fun z => absurd (x7.symm.trans z) nI01, Or.inl ⟨t5, x10, x11⟩⟩
theorem start_RN : RN 0 h0 := by
  have e92 : h0.2.1 92 = miP 2 := by
    show (if (92 : Nat) = 92 then miP 2 else fun _ => 0) = miP 2
    rw [if_pos rfl]
  have e6 : h0.1 6 0 = 0 := rfl
  unfold RN
  rw [e92, e6]
  exact RS.same RS0 (Nat.le_refl _) (fun _ _ => rfl) rfl (fun _ _ _ _ => rfl) (fun q hq => by
    show (if 11 + 8 * q + 6 = 92 then miP 2 else fun _ => 0) = fun _ => 0
    rw [if_neg (by omega)])
theorem start_IAB : IAB 0 h0 0 0 := ⟨⟨by decide, by decide⟩, rfl, rfl, rfl, start_RN, fun i hi => absurd hi (Nat.not_lt_zero i)⟩
