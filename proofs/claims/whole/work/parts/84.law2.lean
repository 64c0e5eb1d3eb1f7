/-! THE LAW'S CASES -/
section LC
variable {p : Program} {l : Launch} {e : Env} {s : State} {m : MethodId} {below : List Frame} {meth : Method} {c : Code} {H : Heap} {locs : List Loc} {Q : State → Prop} {k : kY} {h : hS} {ls : Array Slot} {b0 L n a b i cl sl : Nat} {xs : Nat → Int32}
set_option maxHeartbeats 4000000 in
set_option maxRecDepth 100000 in
theorem lc_rate (hst : l.stackTraces = false) (X : CallFix p m c cL_law 9 s #[.ref b0] wsL_law RL) (w : WX k s H locs h) (I : IAB n h a b) (hn : n < 512) (hX : va_X b0 L xs s s.heap) (hbl : b0 < s.heap.size) (hbA : ¬ AA k s.heap.size b0) (hL : L ≤ 2048) (hi : i + 4 ≤ L) (hcl : cl + 5 ≤ 601024) (hsl : sl + 30 ≤ 7293034) (hl : lv_has ls 9 [(0, .ref b0), (1, .ref (k.2.1 0)), (2, .ref (k.2.1 91)), (3, .ref (k.2.1 95)), (4, .ref (k.2.1 96)), (5, .int (nI i))]) (hK : ∀ (H : Heap) (locs : List Loc) (ls : Array Slot) (g : hS) (a b : Nat), IAB (n + 1) g a b → WX k s H locs g → lv_has ls 9 [(0, .ref b0), (1, .ref (k.2.1 0)), (2, .ref (k.2.1 91)), (3, .ref (k.2.1 95)), (4, .ref (k.2.1 96)), (5, .int (nI i))] → W p l e room_1 s m #[.ref b0] below meth c H locs (cl + 5) (sl + 30) Q (F0 m 1875 ls [])) : W p l e room_1 s m #[.ref b0] below meth c H locs cl sl Q (F0 m 791 ls []) := by
  have hx := X.1
  have hb := X.2.1
  have hown := X.2.2.2.1
  have hts := X.2.2.2.2
  refine lv_aload_n hx hb dL_law_791 rfl (lv_at hl 1 rfl) ?_
  refine lv_aload_n hx hb dL_law_792 rfl (lv_at hl 0 rfl) ?_
  refine lv_iload hx hb dL_law_793 (lv_at hl 5 rfl) ?_
  refine lv_iconst (v := nI 1) hx hb dL_law_795 (by decide) ?_
  refine q_iaddN X dL_law_796 ?_
  refine q_sld X w hX hbl hbA hL (j := (i + 1)) (by omega) dL_law_797 ?_
  refine lv_aload_n hx hb dL_law_798 rfl (lv_at hl 3 rfl) ?_
  refine q_calli w (q_runSW X w (w_L_rate l k h (xs (i + 1)) (c_X4_rate l k h hst (xs (i + 1))) (fun _ _ hp => hp.1)) (vx_cwSW 3 hts gL_law_L_rate rfl rfl rfl (by decide +kernel) ⟨Nat.le_of_ble_eq_true rfl, Nat.le_of_ble_eq_true rfl⟩) rfl hl.1 rfl (Nat.le_of_ble_eq_true rfl) dL_law_799 ⟨hcl, hsl⟩) (fun r9 h1 H locs hw w => ?_)
  have km := k_rate I hw
  refine lv_istore (lv' := [(6, .int r9), (0, .ref b0), (1, .ref (k.2.1 0)), (2, .ref (k.2.1 91)), (3, .ref (k.2.1 95)), (4, .ref (k.2.1 96)), (5, .int (nI i))]) hx hb dL_law_802 hl (by decide) rfl (fun ls hl => ?_)
  refine lv_aload_n hx hb dL_law_804 rfl (lv_at hl 3 rfl) ?_
  refine lv_aload_n hx hb dL_law_805 rfl (lv_at hl 1 rfl) ?_
  refine lv_iload hx hb dL_law_806 (lv_at hl 6 rfl) ?_
  refine lv_iconst (v := nI 1) hx hb dL_law_808 (by decide) ?_
  refine q_iaddN X dL_law_809 ?_
  refine q_sld X w hX hbl hbA hL (j := (i + 1)) (by omega) dL_law_810 ?_
  refine q_calli w (q_runV X w 91 (c_X5_rate l k h1 (xs (i + 1))) (cwV 1 hts gL_law_X5_rate rfl rfl rfl (by decide +kernel) ⟨Nat.le_of_ble_eq_true rfl, Nat.le_of_ble_eq_true rfl⟩) (by decide) rfl rfl rfl hl.1 rfl (Nat.le_of_ble_eq_true rfl) dL_law_811 ⟨hcl, hsl⟩) (fun v9 h2 H locs hm w => ?_)
  obtain ⟨s1, s2, a', b', I'⟩ := s_rate I hn hw hm
  refine lv_istore (lv' := [(7, .int v9), (6, .int r9), (0, .ref b0), (1, .ref (k.2.1 0)), (2, .ref (k.2.1 91)), (3, .ref (k.2.1 95)), (4, .ref (k.2.1 96)), (5, .int (nI i))]) hx hb dL_law_814 hl (by decide) rfl (fun ls hl => ?_)
  refine lv_aload_n hx hb dL_law_816 rfl (lv_at hl 4 rfl) ?_
  refine q_calli w (q_runV X w 91 (c_X5_thrown l k h2) (cwV 0 hts gL_law_X5_thrown rfl rfl rfl (by decide +kernel) ⟨Nat.le_of_ble_eq_true rfl, Nat.le_of_ble_eq_true rfl⟩) (by decide) rfl rfl rfl hl.1 rfl (Nat.le_of_ble_eq_true rfl) dL_law_817 ⟨hcl, hsl⟩) (fun r8 h3 H locs hp w => ?_)
  obtain ⟨er8, eh3⟩ := hp
  rw [eh3] at w
  rw [er8, s1]
  refine lv_iload hx hb dL_law_820 (lv_at hl 1 rfl) ?_
  refine lv_icmp_eq (tgt := 827) hx hb dL_law_822 (by decide) (fun c_822 => ?_) (fun c_822 => ?_)
  · refine lv_iload hx hb dL_law_827 (lv_at hl 1 rfl) ?_
    refine lv_if_ne (tgt := 844) hx hb dL_law_829 (by decide) (fun c_829 => ?_) (fun c_829 => ?_)
    · refine lv_goto (tgt := 1875) hx hb dL_law_844 (by decide) ?_
      exact hK _ _ _ _ a' b' I' w (lv_sub hl [2, 3, 4, 5, 6, 7] rfl)
    · refine lv_aload_n hx hb dL_law_832 rfl (lv_at hl 5 rfl) ?_
      refine lv_iconst (v := nI 0) hx hb dL_law_833 (by decide) ?_
      refine q_lald X w 95 0 (by decide) (fun _ => rfl) rfl (show 0 < 1 by decide) (by decide) dL_law_834 ?_
      refine lv_iload hx hb dL_law_835 (lv_at hl 0 rfl) ?_
      refine lv_i2l hx hb dL_law_837 rfl ?_
      refine q_lif_eq X (tgt := 844) dL_law_838 dL_law_839 (by decide) (fun c_838 => ?_) (fun c_838 => ?_)
      · refine lv_goto (tgt := 1875) hx hb dL_law_844 (by decide) ?_
        exact hK _ _ _ _ a' b' I' w (lv_sub hl [2, 3, 4, 5, 6, 7] rfl)
      · exact absurd (s2 c_829) c_838
  · exact absurd rfl c_822

set_option maxHeartbeats 4000000 in
set_option maxRecDepth 100000 in
theorem lc_energy (hst : l.stackTraces = false) (X : CallFix p m c cL_law 9 s #[.ref b0] wsL_law RL) (w : WX k s H locs h) (I : IAB n h a b) (hn : n < 512) (hX : va_X b0 L xs s s.heap) (hbl : b0 < s.heap.size) (hbA : ¬ AA k s.heap.size b0) (hL : L ≤ 2048) (hi : i + 4 ≤ L) (hcl : cl + 5 ≤ 601024) (hsl : sl + 30 ≤ 7293034) (hl : lv_has ls 9 [(0, .ref b0), (1, .ref (k.2.1 0)), (2, .ref (k.2.1 91)), (3, .ref (k.2.1 95)), (4, .ref (k.2.1 96)), (5, .int (nI i))]) (hK : ∀ (H : Heap) (locs : List Loc) (ls : Array Slot) (g : hS) (a b : Nat), IAB (n + 1) g a b → WX k s H locs g → lv_has ls 9 [(0, .ref b0), (1, .ref (k.2.1 0)), (2, .ref (k.2.1 91)), (3, .ref (k.2.1 95)), (4, .ref (k.2.1 96)), (5, .int (nI i))] → W p l e room_1 s m #[.ref b0] below meth c H locs (cl + 5) (sl + 30) Q (F0 m 1875 ls [])) : W p l e room_1 s m #[.ref b0] below meth c H locs cl sl Q (F0 m 847 ls []) := by
  have hx := X.1
  have hb := X.2.1
  have hown := X.2.2.2.1
  have hts := X.2.2.2.2
  refine lv_aload_n hx hb dL_law_847 rfl (lv_at hl 1 rfl) ?_
  refine lv_aload_n hx hb dL_law_848 rfl (lv_at hl 0 rfl) ?_
  refine lv_iload hx hb dL_law_849 (lv_at hl 5 rfl) ?_
  refine lv_iconst (v := nI 1) hx hb dL_law_851 (by decide) ?_
  refine q_iaddN X dL_law_852 ?_
  refine q_sld X w hX hbl hbA hL (j := (i + 1)) (by omega) dL_law_853 ?_
  refine lv_aload_n hx hb dL_law_854 rfl (lv_at hl 0 rfl) ?_
  refine lv_iload hx hb dL_law_855 (lv_at hl 5 rfl) ?_
  refine lv_iconst (v := nI 2) hx hb dL_law_857 (by decide) ?_
  refine q_iaddN X dL_law_858 ?_
  refine q_sld X w hX hbl hbA hL (j := (i + 2)) (by omega) dL_law_859 ?_
  refine lv_aload_n hx hb dL_law_860 rfl (lv_at hl 3 rfl) ?_
  refine q_calli w (q_runSW X w (w_L_energy l k h (xs (i + 1)) (xs (i + 2)) (c_X4_energy l k h hst (xs (i + 1)) (xs (i + 2))) (fun _ _ hp => hp.1)) (vx_cwSW 4 hts gL_law_L_energy rfl rfl rfl (by decide +kernel) ⟨Nat.le_of_ble_eq_true rfl, Nat.le_of_ble_eq_true rfl⟩) rfl hl.1 rfl (Nat.le_of_ble_eq_true rfl) dL_law_861 ⟨hcl, hsl⟩) (fun r9 h1 H locs hw w => ?_)
  have km := k_energy I hw
  refine lv_istore (lv' := [(6, .int r9), (0, .ref b0), (1, .ref (k.2.1 0)), (2, .ref (k.2.1 91)), (3, .ref (k.2.1 95)), (4, .ref (k.2.1 96)), (5, .int (nI i))]) hx hb dL_law_864 hl (by decide) rfl (fun ls hl => ?_)
  refine lv_aload_n hx hb dL_law_866 rfl (lv_at hl 3 rfl) ?_
  refine lv_aload_n hx hb dL_law_867 rfl (lv_at hl 1 rfl) ?_
  refine lv_iload hx hb dL_law_868 (lv_at hl 6 rfl) ?_
  refine lv_iconst (v := nI 1) hx hb dL_law_870 (by decide) ?_
  refine q_iaddN X dL_law_871 ?_
  refine q_sld X w hX hbl hbA hL (j := (i + 1)) (by omega) dL_law_872 ?_
  refine lv_aload_n hx hb dL_law_873 rfl (lv_at hl 1 rfl) ?_
  refine lv_iload hx hb dL_law_874 (lv_at hl 6 rfl) ?_
  refine lv_iconst (v := nI 2) hx hb dL_law_876 (by decide) ?_
  refine q_iaddN X dL_law_877 ?_
  refine q_sld X w hX hbl hbA hL (j := (i + 2)) (by omega) dL_law_878 ?_
  refine q_calll w (q_runV X w 91 (c_X5_energy l k h1 (xs (i + 1)) (xs (i + 2))) (cwV 2 hts gL_law_X5_energy rfl rfl rfl (by decide +kernel) ⟨Nat.le_of_ble_eq_true rfl, Nat.le_of_ble_eq_true rfl⟩) (by decide) rfl rfl rfl hl.1 rfl (Nat.le_of_ble_eq_true rfl) dL_law_879 ⟨hcl, hsl⟩) (fun v9 h2 H locs hm w => ?_)
  obtain ⟨s1, s2, a', b', I'⟩ := s_energy I hn hw hm
  refine lv_lstore (lv' := [(7, .long v9), (6, .int r9), (0, .ref b0), (1, .ref (k.2.1 0)), (2, .ref (k.2.1 91)), (3, .ref (k.2.1 95)), (4, .ref (k.2.1 96)), (5, .int (nI i))]) hx hb dL_law_882 hl (by decide) rfl (fun ls hl => ?_)
  refine lv_aload_n hx hb dL_law_884 rfl (lv_at hl 4 rfl) ?_
  refine q_calli w (q_runV X w 91 (c_X5_thrown l k h2) (cwV 0 hts gL_law_X5_thrown rfl rfl rfl (by decide +kernel) ⟨Nat.le_of_ble_eq_true rfl, Nat.le_of_ble_eq_true rfl⟩) (by decide) rfl rfl rfl hl.1 rfl (Nat.le_of_ble_eq_true rfl) dL_law_885 ⟨hcl, hsl⟩) (fun r8 h3 H locs hp w => ?_)
  obtain ⟨er8, eh3⟩ := hp
  rw [eh3] at w
  rw [er8, s1]
  refine lv_iload hx hb dL_law_888 (lv_at hl 1 rfl) ?_
  refine lv_icmp_eq (tgt := 895) hx hb dL_law_890 (by decide) (fun c_890 => ?_) (fun c_890 => ?_)
  · refine lv_iload hx hb dL_law_895 (lv_at hl 1 rfl) ?_
    refine lv_if_ne (tgt := 911) hx hb dL_law_897 (by decide) (fun c_897 => ?_) (fun c_897 => ?_)
    · refine lv_goto (tgt := 1875) hx hb dL_law_911 (by decide) ?_
      exact hK _ _ _ _ a' b' I' w (lv_sub hl [2, 3, 4, 5, 6, 7] rfl)
    · refine lv_aload_n hx hb dL_law_900 rfl (lv_at hl 5 rfl) ?_
      refine lv_iconst (v := nI 0) hx hb dL_law_901 (by decide) ?_
      refine q_lald X w 95 0 (by decide) (fun _ => rfl) rfl (show 0 < 1 by decide) (by decide) dL_law_902 ?_
      refine lv_lload hx hb dL_law_903 (lv_at hl 0 rfl) ?_
      refine q_lif_eq X (tgt := 911) dL_law_905 dL_law_906 (by decide) (fun c_905 => ?_) (fun c_905 => ?_)
      · refine lv_goto (tgt := 1875) hx hb dL_law_911 (by decide) ?_
        exact hK _ _ _ _ a' b' I' w (lv_sub hl [2, 3, 4, 5, 6, 7] rfl)
      · exact absurd (s2 c_897) c_905
  · exact absurd rfl c_890

set_option maxHeartbeats 4000000 in
set_option maxRecDepth 100000 in
theorem lc_totalEnergy (hst : l.stackTraces = false) (X : CallFix p m c cL_law 9 s #[.ref b0] wsL_law RL) (w : WX k s H locs h) (I : IAB n h a b) (hn : n < 512) (hX : va_X b0 L xs s s.heap) (hbl : b0 < s.heap.size) (hbA : ¬ AA k s.heap.size b0) (hL : L ≤ 2048) (hi : i + 4 ≤ L) (hcl : cl + 5 ≤ 601024) (hsl : sl + 30 ≤ 7293034) (hl : lv_has ls 9 [(0, .ref b0), (1, .ref (k.2.1 0)), (2, .ref (k.2.1 91)), (3, .ref (k.2.1 95)), (4, .ref (k.2.1 96)), (5, .int (nI i))]) (hK : ∀ (H : Heap) (locs : List Loc) (ls : Array Slot) (g : hS) (a b : Nat), IAB (n + 1) g a b → WX k s H locs g → lv_has ls 9 [(0, .ref b0), (1, .ref (k.2.1 0)), (2, .ref (k.2.1 91)), (3, .ref (k.2.1 95)), (4, .ref (k.2.1 96)), (5, .int (nI i))] → W p l e room_1 s m #[.ref b0] below meth c H locs (cl + 5) (sl + 30) Q (F0 m 1875 ls [])) : W p l e room_1 s m #[.ref b0] below meth c H locs cl sl Q (F0 m 914 ls []) := by
  have hx := X.1
  have hb := X.2.1
  have hown := X.2.2.2.1
  have hts := X.2.2.2.2
  refine lv_aload_n hx hb dL_law_914 rfl (lv_at hl 1 rfl) ?_
  refine lv_aload_n hx hb dL_law_915 rfl (lv_at hl 0 rfl) ?_
  refine lv_iload hx hb dL_law_916 (lv_at hl 5 rfl) ?_
  refine lv_iconst (v := nI 1) hx hb dL_law_918 (by decide) ?_
  refine q_iaddN X dL_law_919 ?_
  refine q_sld X w hX hbl hbA hL (j := (i + 1)) (by omega) dL_law_920 ?_
  refine lv_aload_n hx hb dL_law_921 rfl (lv_at hl 3 rfl) ?_
  refine q_calli w (q_runSW X w (w_L_totalEnergy l k h (xs (i + 1)) (c_X4_totalEnergy l k h hst (xs (i + 1))) (fun _ _ hp => hp.1)) (vx_cwSW 3 hts gL_law_L_totalEnergy rfl rfl rfl (by decide +kernel) ⟨Nat.le_of_ble_eq_true rfl, Nat.le_of_ble_eq_true rfl⟩) rfl hl.1 rfl (Nat.le_of_ble_eq_true rfl) dL_law_922 ⟨hcl, hsl⟩) (fun r9 h1 H locs hw w => ?_)
  have km := k_totalEnergy I hw
  refine lv_istore (lv' := [(6, .int r9), (0, .ref b0), (1, .ref (k.2.1 0)), (2, .ref (k.2.1 91)), (3, .ref (k.2.1 95)), (4, .ref (k.2.1 96)), (5, .int (nI i))]) hx hb dL_law_925 hl (by decide) rfl (fun ls hl => ?_)
  refine lv_aload_n hx hb dL_law_927 rfl (lv_at hl 3 rfl) ?_
  refine lv_aload_n hx hb dL_law_928 rfl (lv_at hl 1 rfl) ?_
  refine lv_iload hx hb dL_law_929 (lv_at hl 6 rfl) ?_
  refine lv_iconst (v := nI 1) hx hb dL_law_931 (by decide) ?_
  refine q_iaddN X dL_law_932 ?_
  refine q_sld X w hX hbl hbA hL (j := (i + 1)) (by omega) dL_law_933 ?_
  refine q_calll w (q_runV X w 91 (c_X5_totalEnergy l k h1 (xs (i + 1))) (cwV 1 hts gL_law_X5_totalEnergy rfl rfl rfl (by decide +kernel) ⟨Nat.le_of_ble_eq_true rfl, Nat.le_of_ble_eq_true rfl⟩) (by decide) rfl rfl rfl hl.1 rfl (Nat.le_of_ble_eq_true rfl) dL_law_934 ⟨hcl, hsl⟩) (fun v9 h2 H locs hm w => ?_)
  obtain ⟨s1, s2, a', b', I'⟩ := s_totalEnergy I hn hw hm
  refine lv_lstore (lv' := [(7, .long v9), (6, .int r9), (0, .ref b0), (1, .ref (k.2.1 0)), (2, .ref (k.2.1 91)), (3, .ref (k.2.1 95)), (4, .ref (k.2.1 96)), (5, .int (nI i))]) hx hb dL_law_937 hl (by decide) rfl (fun ls hl => ?_)
  refine lv_aload_n hx hb dL_law_939 rfl (lv_at hl 4 rfl) ?_
  refine q_calli w (q_runV X w 91 (c_X5_thrown l k h2) (cwV 0 hts gL_law_X5_thrown rfl rfl rfl (by decide +kernel) ⟨Nat.le_of_ble_eq_true rfl, Nat.le_of_ble_eq_true rfl⟩) (by decide) rfl rfl rfl hl.1 rfl (Nat.le_of_ble_eq_true rfl) dL_law_940 ⟨hcl, hsl⟩) (fun r8 h3 H locs hp w => ?_)
  obtain ⟨er8, eh3⟩ := hp
  rw [eh3] at w
  rw [er8, s1]
  refine lv_iload hx hb dL_law_943 (lv_at hl 1 rfl) ?_
  refine lv_icmp_eq (tgt := 950) hx hb dL_law_945 (by decide) (fun c_945 => ?_) (fun c_945 => ?_)
  · refine lv_iload hx hb dL_law_950 (lv_at hl 1 rfl) ?_
    refine lv_if_ne (tgt := 966) hx hb dL_law_952 (by decide) (fun c_952 => ?_) (fun c_952 => ?_)
    · refine lv_goto (tgt := 1875) hx hb dL_law_966 (by decide) ?_
      exact hK _ _ _ _ a' b' I' w (lv_sub hl [2, 3, 4, 5, 6, 7] rfl)
    · refine lv_aload_n hx hb dL_law_955 rfl (lv_at hl 5 rfl) ?_
      refine lv_iconst (v := nI 0) hx hb dL_law_956 (by decide) ?_
      refine q_lald X w 95 0 (by decide) (fun _ => rfl) rfl (show 0 < 1 by decide) (by decide) dL_law_957 ?_
      refine lv_lload hx hb dL_law_958 (lv_at hl 0 rfl) ?_
      refine q_lif_eq X (tgt := 966) dL_law_960 dL_law_961 (by decide) (fun c_960 => ?_) (fun c_960 => ?_)
      · refine lv_goto (tgt := 1875) hx hb dL_law_966 (by decide) ?_
        exact hK _ _ _ _ a' b' I' w (lv_sub hl [2, 3, 4, 5, 6, 7] rfl)
      · exact absurd (s2 c_952) c_960
  · exact absurd rfl c_945

set_option maxHeartbeats 4000000 in
set_option maxRecDepth 100000 in
theorem lc_disturbedNoise (hst : l.stackTraces = false) (X : CallFix p m c cL_law 9 s #[.ref b0] wsL_law RL) (w : WX k s H locs h) (I : IAB n h a b) (hn : n < 512) (hX : va_X b0 L xs s s.heap) (hbl : b0 < s.heap.size) (hbA : ¬ AA k s.heap.size b0) (hL : L ≤ 2048) (hi : i + 4 ≤ L) (hcl : cl + 5 ≤ 601024) (hsl : sl + 30 ≤ 7293034) (hl : lv_has ls 9 [(0, .ref b0), (1, .ref (k.2.1 0)), (2, .ref (k.2.1 91)), (3, .ref (k.2.1 95)), (4, .ref (k.2.1 96)), (5, .int (nI i))]) (hK : ∀ (H : Heap) (locs : List Loc) (ls : Array Slot) (g : hS) (a b : Nat), IAB (n + 1) g a b → WX k s H locs g → lv_has ls 9 [(0, .ref b0), (1, .ref (k.2.1 0)), (2, .ref (k.2.1 91)), (3, .ref (k.2.1 95)), (4, .ref (k.2.1 96)), (5, .int (nI i))] → W p l e room_1 s m #[.ref b0] below meth c H locs (cl + 5) (sl + 30) Q (F0 m 1875 ls [])) : W p l e room_1 s m #[.ref b0] below meth c H locs cl sl Q (F0 m 969 ls []) := by
  have hx := X.1
  have hb := X.2.1
  have hown := X.2.2.2.1
  have hts := X.2.2.2.2
  refine lv_aload_n hx hb dL_law_969 rfl (lv_at hl 1 rfl) ?_
  refine lv_aload_n hx hb dL_law_970 rfl (lv_at hl 0 rfl) ?_
  refine lv_iload hx hb dL_law_971 (lv_at hl 5 rfl) ?_
  refine lv_iconst (v := nI 1) hx hb dL_law_973 (by decide) ?_
  refine q_iaddN X dL_law_974 ?_
  refine q_sld X w hX hbl hbA hL (j := (i + 1)) (by omega) dL_law_975 ?_
  refine lv_aload_n hx hb dL_law_976 rfl (lv_at hl 0 rfl) ?_
  refine lv_iload hx hb dL_law_977 (lv_at hl 5 rfl) ?_
  refine lv_iconst (v := nI 2) hx hb dL_law_979 (by decide) ?_
  refine q_iaddN X dL_law_980 ?_
  refine q_sld X w hX hbl hbA hL (j := (i + 2)) (by omega) dL_law_981 ?_
  refine lv_aload_n hx hb dL_law_982 rfl (lv_at hl 3 rfl) ?_
  refine q_calli w (q_runSW X w (w_L_disturbedNoise l k h (xs (i + 1)) (xs (i + 2)) (c_X4_disturbedNoise l k h hst (xs (i + 1)) (xs (i + 2))) (fun _ _ hp => hp.1)) (vx_cwSW 4 hts gL_law_L_disturbedNoise rfl rfl rfl (by decide +kernel) ⟨Nat.le_of_ble_eq_true rfl, Nat.le_of_ble_eq_true rfl⟩) rfl hl.1 rfl (Nat.le_of_ble_eq_true rfl) dL_law_983 ⟨hcl, hsl⟩) (fun r9 h1 H locs hw w => ?_)
  have km := k_disturbedNoise I hw
  refine lv_istore (lv' := [(6, .int r9), (0, .ref b0), (1, .ref (k.2.1 0)), (2, .ref (k.2.1 91)), (3, .ref (k.2.1 95)), (4, .ref (k.2.1 96)), (5, .int (nI i))]) hx hb dL_law_986 hl (by decide) rfl (fun ls hl => ?_)
  refine lv_aload_n hx hb dL_law_988 rfl (lv_at hl 3 rfl) ?_
  refine lv_aload_n hx hb dL_law_989 rfl (lv_at hl 1 rfl) ?_
  refine lv_iload hx hb dL_law_990 (lv_at hl 6 rfl) ?_
  refine lv_iconst (v := nI 1) hx hb dL_law_992 (by decide) ?_
  refine q_iaddN X dL_law_993 ?_
  refine q_sld X w hX hbl hbA hL (j := (i + 1)) (by omega) dL_law_994 ?_
  refine lv_aload_n hx hb dL_law_995 rfl (lv_at hl 1 rfl) ?_
  refine lv_iload hx hb dL_law_996 (lv_at hl 6 rfl) ?_
  refine lv_iconst (v := nI 2) hx hb dL_law_998 (by decide) ?_
  refine q_iaddN X dL_law_999 ?_
  refine q_sld X w hX hbl hbA hL (j := (i + 2)) (by omega) dL_law_1000 ?_
  refine q_calll w (q_runV X w 91 (c_X5_disturbedNoise l k h1 (xs (i + 1)) (xs (i + 2))) (cwV 2 hts gL_law_X5_disturbedNoise rfl rfl rfl (by decide +kernel) ⟨Nat.le_of_ble_eq_true rfl, Nat.le_of_ble_eq_true rfl⟩) (by decide) rfl rfl rfl hl.1 rfl (Nat.le_of_ble_eq_true rfl) dL_law_1001 ⟨hcl, hsl⟩) (fun v9 h2 H locs hm w => ?_)
  obtain ⟨s1, s2, a', b', I'⟩ := s_disturbedNoise I hn hw hm
  refine lv_lstore (lv' := [(7, .long v9), (6, .int r9), (0, .ref b0), (1, .ref (k.2.1 0)), (2, .ref (k.2.1 91)), (3, .ref (k.2.1 95)), (4, .ref (k.2.1 96)), (5, .int (nI i))]) hx hb dL_law_1004 hl (by decide) rfl (fun ls hl => ?_)
  refine lv_aload_n hx hb dL_law_1006 rfl (lv_at hl 4 rfl) ?_
  refine q_calli w (q_runV X w 91 (c_X5_thrown l k h2) (cwV 0 hts gL_law_X5_thrown rfl rfl rfl (by decide +kernel) ⟨Nat.le_of_ble_eq_true rfl, Nat.le_of_ble_eq_true rfl⟩) (by decide) rfl rfl rfl hl.1 rfl (Nat.le_of_ble_eq_true rfl) dL_law_1007 ⟨hcl, hsl⟩) (fun r8 h3 H locs hp w => ?_)
  obtain ⟨er8, eh3⟩ := hp
  rw [eh3] at w
  rw [er8, s1]
  refine lv_iload hx hb dL_law_1010 (lv_at hl 1 rfl) ?_
  refine lv_icmp_eq (tgt := 1017) hx hb dL_law_1012 (by decide) (fun c_1012 => ?_) (fun c_1012 => ?_)
  · refine lv_iload hx hb dL_law_1017 (lv_at hl 1 rfl) ?_
    refine lv_if_ne (tgt := 1033) hx hb dL_law_1019 (by decide) (fun c_1019 => ?_) (fun c_1019 => ?_)
    · refine lv_goto (tgt := 1875) hx hb dL_law_1033 (by decide) ?_
      exact hK _ _ _ _ a' b' I' w (lv_sub hl [2, 3, 4, 5, 6, 7] rfl)
    · refine lv_aload_n hx hb dL_law_1022 rfl (lv_at hl 5 rfl) ?_
      refine lv_iconst (v := nI 0) hx hb dL_law_1023 (by decide) ?_
      refine q_lald X w 95 0 (by decide) (fun _ => rfl) rfl (show 0 < 1 by decide) (by decide) dL_law_1024 ?_
      refine lv_lload hx hb dL_law_1025 (lv_at hl 0 rfl) ?_
      refine q_lif_eq X (tgt := 1033) dL_law_1027 dL_law_1028 (by decide) (fun c_1027 => ?_) (fun c_1027 => ?_)
      · refine lv_goto (tgt := 1875) hx hb dL_law_1033 (by decide) ?_
        exact hK _ _ _ _ a' b' I' w (lv_sub hl [2, 3, 4, 5, 6, 7] rfl)
      · exact absurd (s2 c_1019) c_1027
  · exact absurd rfl c_1012

set_option maxHeartbeats 4000000 in
set_option maxRecDepth 100000 in
theorem lc_margin (hst : l.stackTraces = false) (X : CallFix p m c cL_law 9 s #[.ref b0] wsL_law RL) (w : WX k s H locs h) (I : IAB n h a b) (hn : n < 512) (hX : va_X b0 L xs s s.heap) (hbl : b0 < s.heap.size) (hbA : ¬ AA k s.heap.size b0) (hL : L ≤ 2048) (hi : i + 4 ≤ L) (hcl : cl + 5 ≤ 601024) (hsl : sl + 30 ≤ 7293034) (hl : lv_has ls 9 [(0, .ref b0), (1, .ref (k.2.1 0)), (2, .ref (k.2.1 91)), (3, .ref (k.2.1 95)), (4, .ref (k.2.1 96)), (5, .int (nI i))]) (hK : ∀ (H : Heap) (locs : List Loc) (ls : Array Slot) (g : hS) (a b : Nat), IAB (n + 1) g a b → WX k s H locs g → lv_has ls 9 [(0, .ref b0), (1, .ref (k.2.1 0)), (2, .ref (k.2.1 91)), (3, .ref (k.2.1 95)), (4, .ref (k.2.1 96)), (5, .int (nI i))] → W p l e room_1 s m #[.ref b0] below meth c H locs (cl + 5) (sl + 30) Q (F0 m 1875 ls [])) : W p l e room_1 s m #[.ref b0] below meth c H locs cl sl Q (F0 m 1036 ls []) := by
  have hx := X.1
  have hb := X.2.1
  have hown := X.2.2.2.1
  have hts := X.2.2.2.2
  refine lv_aload_n hx hb dL_law_1036 rfl (lv_at hl 1 rfl) ?_
  refine lv_aload_n hx hb dL_law_1037 rfl (lv_at hl 0 rfl) ?_
  refine lv_iload hx hb dL_law_1038 (lv_at hl 5 rfl) ?_
  refine lv_iconst (v := nI 1) hx hb dL_law_1040 (by decide) ?_
  refine q_iaddN X dL_law_1041 ?_
  refine q_sld X w hX hbl hbA hL (j := (i + 1)) (by omega) dL_law_1042 ?_
  refine lv_aload_n hx hb dL_law_1043 rfl (lv_at hl 0 rfl) ?_
  refine lv_iload hx hb dL_law_1044 (lv_at hl 5 rfl) ?_
  refine lv_iconst (v := nI 2) hx hb dL_law_1046 (by decide) ?_
  refine q_iaddN X dL_law_1047 ?_
  refine q_sld X w hX hbl hbA hL (j := (i + 2)) (by omega) dL_law_1048 ?_
  refine lv_aload_n hx hb dL_law_1049 rfl (lv_at hl 3 rfl) ?_
  refine q_calli w (q_runSW X w (w_L_margin l k h (xs (i + 1)) (xs (i + 2)) (c_X4_margin l k h hst (xs (i + 1)) (xs (i + 2))) (fun _ _ hp => hp.1)) (vx_cwSW 4 hts gL_law_L_margin rfl rfl rfl (by decide +kernel) ⟨Nat.le_of_ble_eq_true rfl, Nat.le_of_ble_eq_true rfl⟩) rfl hl.1 rfl (Nat.le_of_ble_eq_true rfl) dL_law_1050 ⟨hcl, hsl⟩) (fun r9 h1 H locs hw w => ?_)
  have km := k_margin I hw
  refine lv_istore (lv' := [(6, .int r9), (0, .ref b0), (1, .ref (k.2.1 0)), (2, .ref (k.2.1 91)), (3, .ref (k.2.1 95)), (4, .ref (k.2.1 96)), (5, .int (nI i))]) hx hb dL_law_1053 hl (by decide) rfl (fun ls hl => ?_)
  refine lv_aload_n hx hb dL_law_1055 rfl (lv_at hl 3 rfl) ?_
  refine lv_aload_n hx hb dL_law_1056 rfl (lv_at hl 1 rfl) ?_
  refine lv_iload hx hb dL_law_1057 (lv_at hl 6 rfl) ?_
  refine lv_iconst (v := nI 1) hx hb dL_law_1059 (by decide) ?_
  refine q_iaddN X dL_law_1060 ?_
  refine q_sld X w hX hbl hbA hL (j := (i + 1)) (by omega) dL_law_1061 ?_
  refine lv_aload_n hx hb dL_law_1062 rfl (lv_at hl 1 rfl) ?_
  refine lv_iload hx hb dL_law_1063 (lv_at hl 6 rfl) ?_
  refine lv_iconst (v := nI 2) hx hb dL_law_1065 (by decide) ?_
  refine q_iaddN X dL_law_1066 ?_
  refine q_sld X w hX hbl hbA hL (j := (i + 2)) (by omega) dL_law_1067 ?_
  refine q_calll w (q_runV X w 91 (c_X5_margin l k h1 (xs (i + 1)) (xs (i + 2)) (by rw [km.1]; exact I.rc.ok1)) (cwV 2 hts gL_law_X5_margin rfl rfl rfl (by decide +kernel) ⟨Nat.le_of_ble_eq_true rfl, Nat.le_of_ble_eq_true rfl⟩) (by decide) rfl rfl rfl hl.1 rfl (Nat.le_of_ble_eq_true rfl) dL_law_1068 ⟨hcl, hsl⟩) (fun v9 h2 H locs hm w => ?_)
  obtain ⟨s1, s2, a', b', I'⟩ := s_margin I hn hw hm
  refine lv_lstore (lv' := [(7, .long v9), (6, .int r9), (0, .ref b0), (1, .ref (k.2.1 0)), (2, .ref (k.2.1 91)), (3, .ref (k.2.1 95)), (4, .ref (k.2.1 96)), (5, .int (nI i))]) hx hb dL_law_1071 hl (by decide) rfl (fun ls hl => ?_)
  refine lv_aload_n hx hb dL_law_1073 rfl (lv_at hl 4 rfl) ?_
  refine q_calli w (q_runV X w 91 (c_X5_thrown l k h2) (cwV 0 hts gL_law_X5_thrown rfl rfl rfl (by decide +kernel) ⟨Nat.le_of_ble_eq_true rfl, Nat.le_of_ble_eq_true rfl⟩) (by decide) rfl rfl rfl hl.1 rfl (Nat.le_of_ble_eq_true rfl) dL_law_1074 ⟨hcl, hsl⟩) (fun r8 h3 H locs hp w => ?_)
  obtain ⟨er8, eh3⟩ := hp
  rw [eh3] at w
  rw [er8, s1]
  refine lv_iload hx hb dL_law_1077 (lv_at hl 1 rfl) ?_
  refine lv_icmp_eq (tgt := 1084) hx hb dL_law_1079 (by decide) (fun c_1079 => ?_) (fun c_1079 => ?_)
  · refine lv_iload hx hb dL_law_1084 (lv_at hl 1 rfl) ?_
    refine lv_if_ne (tgt := 1100) hx hb dL_law_1086 (by decide) (fun c_1086 => ?_) (fun c_1086 => ?_)
    · refine lv_goto (tgt := 1875) hx hb dL_law_1100 (by decide) ?_
      exact hK _ _ _ _ a' b' I' w (lv_sub hl [2, 3, 4, 5, 6, 7] rfl)
    · refine lv_aload_n hx hb dL_law_1089 rfl (lv_at hl 5 rfl) ?_
      refine lv_iconst (v := nI 0) hx hb dL_law_1090 (by decide) ?_
      refine q_lald X w 95 0 (by decide) (fun _ => rfl) rfl (show 0 < 1 by decide) (by decide) dL_law_1091 ?_
      refine lv_lload hx hb dL_law_1092 (lv_at hl 0 rfl) ?_
      refine q_lif_eq X (tgt := 1100) dL_law_1094 dL_law_1095 (by decide) (fun c_1094 => ?_) (fun c_1094 => ?_)
      · refine lv_goto (tgt := 1875) hx hb dL_law_1100 (by decide) ?_
        exact hK _ _ _ _ a' b' I' w (lv_sub hl [2, 3, 4, 5, 6, 7] rfl)
      · exact absurd (s2 c_1086) c_1094
  · exact absurd rfl c_1079

set_option maxHeartbeats 4000000 in
set_option maxRecDepth 100000 in
theorem lc_leastMargin (hst : l.stackTraces = false) (X : CallFix p m c cL_law 9 s #[.ref b0] wsL_law RL) (w : WX k s H locs h) (I : IAB n h a b) (hn : n < 512) (hX : va_X b0 L xs s s.heap) (hbl : b0 < s.heap.size) (hbA : ¬ AA k s.heap.size b0) (hL : L ≤ 2048) (hi : i + 4 ≤ L) (hcl : cl + 5 ≤ 601024) (hsl : sl + 30 ≤ 7293034) (hl : lv_has ls 9 [(0, .ref b0), (1, .ref (k.2.1 0)), (2, .ref (k.2.1 91)), (3, .ref (k.2.1 95)), (4, .ref (k.2.1 96)), (5, .int (nI i))]) (hK : ∀ (H : Heap) (locs : List Loc) (ls : Array Slot) (g : hS) (a b : Nat), IAB (n + 1) g a b → WX k s H locs g → lv_has ls 9 [(0, .ref b0), (1, .ref (k.2.1 0)), (2, .ref (k.2.1 91)), (3, .ref (k.2.1 95)), (4, .ref (k.2.1 96)), (5, .int (nI i))] → W p l e room_1 s m #[.ref b0] below meth c H locs (cl + 5) (sl + 30) Q (F0 m 1875 ls [])) : W p l e room_1 s m #[.ref b0] below meth c H locs cl sl Q (F0 m 1103 ls []) := by
  have hx := X.1
  have hb := X.2.1
  have hown := X.2.2.2.1
  have hts := X.2.2.2.2
  refine lv_aload_n hx hb dL_law_1103 rfl (lv_at hl 1 rfl) ?_
  refine lv_aload_n hx hb dL_law_1104 rfl (lv_at hl 0 rfl) ?_
  refine lv_iload hx hb dL_law_1105 (lv_at hl 5 rfl) ?_
  refine lv_iconst (v := nI 1) hx hb dL_law_1107 (by decide) ?_
  refine q_iaddN X dL_law_1108 ?_
  refine q_sld X w hX hbl hbA hL (j := (i + 1)) (by omega) dL_law_1109 ?_
  refine lv_aload_n hx hb dL_law_1110 rfl (lv_at hl 3 rfl) ?_
  refine q_calli w (q_runSW X w (w_L_leastMargin l k h (xs (i + 1)) (c_X4_leastMargin l k h hst (xs (i + 1))) (fun _ _ hp => hp.1)) (vx_cwSW 3 hts gL_law_L_leastMargin rfl rfl rfl (by decide +kernel) ⟨Nat.le_of_ble_eq_true rfl, Nat.le_of_ble_eq_true rfl⟩) rfl hl.1 rfl (Nat.le_of_ble_eq_true rfl) dL_law_1111 ⟨hcl, hsl⟩) (fun r9 h1 H locs hw w => ?_)
  have km := k_leastMargin I hw
  refine lv_istore (lv' := [(6, .int r9), (0, .ref b0), (1, .ref (k.2.1 0)), (2, .ref (k.2.1 91)), (3, .ref (k.2.1 95)), (4, .ref (k.2.1 96)), (5, .int (nI i))]) hx hb dL_law_1114 hl (by decide) rfl (fun ls hl => ?_)
  refine lv_aload_n hx hb dL_law_1116 rfl (lv_at hl 3 rfl) ?_
  refine lv_aload_n hx hb dL_law_1117 rfl (lv_at hl 1 rfl) ?_
  refine lv_iload hx hb dL_law_1118 (lv_at hl 6 rfl) ?_
  refine lv_iconst (v := nI 1) hx hb dL_law_1120 (by decide) ?_
  refine q_iaddN X dL_law_1121 ?_
  refine q_sld X w hX hbl hbA hL (j := (i + 1)) (by omega) dL_law_1122 ?_
  refine q_calll w (q_runV X w 91 (c_X5_leastMargin l k h1 (xs (i + 1)) (by rw [km.1]; exact I.rc.ok1)) (cwV 1 hts gL_law_X5_leastMargin rfl rfl rfl (by decide +kernel) ⟨Nat.le_of_ble_eq_true rfl, Nat.le_of_ble_eq_true rfl⟩) (by decide) rfl rfl rfl hl.1 rfl (Nat.le_of_ble_eq_true rfl) dL_law_1123 ⟨hcl, hsl⟩) (fun v9 h2 H locs hm w => ?_)
  obtain ⟨s1, s2, a', b', I'⟩ := s_leastMargin I hn hw hm
  refine lv_lstore (lv' := [(7, .long v9), (6, .int r9), (0, .ref b0), (1, .ref (k.2.1 0)), (2, .ref (k.2.1 91)), (3, .ref (k.2.1 95)), (4, .ref (k.2.1 96)), (5, .int (nI i))]) hx hb dL_law_1126 hl (by decide) rfl (fun ls hl => ?_)
  refine lv_aload_n hx hb dL_law_1128 rfl (lv_at hl 4 rfl) ?_
  refine q_calli w (q_runV X w 91 (c_X5_thrown l k h2) (cwV 0 hts gL_law_X5_thrown rfl rfl rfl (by decide +kernel) ⟨Nat.le_of_ble_eq_true rfl, Nat.le_of_ble_eq_true rfl⟩) (by decide) rfl rfl rfl hl.1 rfl (Nat.le_of_ble_eq_true rfl) dL_law_1129 ⟨hcl, hsl⟩) (fun r8 h3 H locs hp w => ?_)
  obtain ⟨er8, eh3⟩ := hp
  rw [eh3] at w
  rw [er8, s1]
  refine lv_iload hx hb dL_law_1132 (lv_at hl 1 rfl) ?_
  refine lv_icmp_eq (tgt := 1139) hx hb dL_law_1134 (by decide) (fun c_1134 => ?_) (fun c_1134 => ?_)
  · refine lv_iload hx hb dL_law_1139 (lv_at hl 1 rfl) ?_
    refine lv_if_ne (tgt := 1155) hx hb dL_law_1141 (by decide) (fun c_1141 => ?_) (fun c_1141 => ?_)
    · refine lv_goto (tgt := 1875) hx hb dL_law_1155 (by decide) ?_
      exact hK _ _ _ _ a' b' I' w (lv_sub hl [2, 3, 4, 5, 6, 7] rfl)
    · refine lv_aload_n hx hb dL_law_1144 rfl (lv_at hl 5 rfl) ?_
      refine lv_iconst (v := nI 0) hx hb dL_law_1145 (by decide) ?_
      refine q_lald X w 95 0 (by decide) (fun _ => rfl) rfl (show 0 < 1 by decide) (by decide) dL_law_1146 ?_
      refine lv_lload hx hb dL_law_1147 (lv_at hl 0 rfl) ?_
      refine q_lif_eq X (tgt := 1155) dL_law_1149 dL_law_1150 (by decide) (fun c_1149 => ?_) (fun c_1149 => ?_)
      · refine lv_goto (tgt := 1875) hx hb dL_law_1155 (by decide) ?_
        exact hK _ _ _ _ a' b' I' w (lv_sub hl [2, 3, 4, 5, 6, 7] rfl)
      · exact absurd (s2 c_1141) c_1149
  · exact absurd rfl c_1134

set_option maxHeartbeats 4000000 in
set_option maxRecDepth 100000 in
theorem lc_badTones (hst : l.stackTraces = false) (X : CallFix p m c cL_law 9 s #[.ref b0] wsL_law RL) (w : WX k s H locs h) (I : IAB n h a b) (hn : n < 512) (hX : va_X b0 L xs s s.heap) (hbl : b0 < s.heap.size) (hbA : ¬ AA k s.heap.size b0) (hL : L ≤ 2048) (hi : i + 4 ≤ L) (hcl : cl + 5 ≤ 601024) (hsl : sl + 30 ≤ 7293034) (hl : lv_has ls 9 [(0, .ref b0), (1, .ref (k.2.1 0)), (2, .ref (k.2.1 91)), (3, .ref (k.2.1 95)), (4, .ref (k.2.1 96)), (5, .int (nI i))]) (hK : ∀ (H : Heap) (locs : List Loc) (ls : Array Slot) (g : hS) (a b : Nat), IAB (n + 1) g a b → WX k s H locs g → lv_has ls 9 [(0, .ref b0), (1, .ref (k.2.1 0)), (2, .ref (k.2.1 91)), (3, .ref (k.2.1 95)), (4, .ref (k.2.1 96)), (5, .int (nI i))] → W p l e room_1 s m #[.ref b0] below meth c H locs (cl + 5) (sl + 30) Q (F0 m 1875 ls [])) : W p l e room_1 s m #[.ref b0] below meth c H locs cl sl Q (F0 m 1158 ls []) := by
  have hx := X.1
  have hb := X.2.1
  have hown := X.2.2.2.1
  have hts := X.2.2.2.2
  refine lv_aload_n hx hb dL_law_1158 rfl (lv_at hl 1 rfl) ?_
  refine lv_aload_n hx hb dL_law_1159 rfl (lv_at hl 0 rfl) ?_
  refine lv_iload hx hb dL_law_1160 (lv_at hl 5 rfl) ?_
  refine lv_iconst (v := nI 1) hx hb dL_law_1162 (by decide) ?_
  refine q_iaddN X dL_law_1163 ?_
  refine q_sld X w hX hbl hbA hL (j := (i + 1)) (by omega) dL_law_1164 ?_
  refine lv_aload_n hx hb dL_law_1165 rfl (lv_at hl 3 rfl) ?_
  refine q_calli w (q_runSW X w (w_L_badTones l k h (xs (i + 1)) (c_X4_badTones l k h hst (xs (i + 1))) (fun _ _ hp => hp.1)) (vx_cwSW 3 hts gL_law_L_badTones rfl rfl rfl (by decide +kernel) ⟨Nat.le_of_ble_eq_true rfl, Nat.le_of_ble_eq_true rfl⟩) rfl hl.1 rfl (Nat.le_of_ble_eq_true rfl) dL_law_1166 ⟨hcl, hsl⟩) (fun r9 h1 H locs hw w => ?_)
  have km := k_badTones I hw
  refine lv_istore (lv' := [(6, .int r9), (0, .ref b0), (1, .ref (k.2.1 0)), (2, .ref (k.2.1 91)), (3, .ref (k.2.1 95)), (4, .ref (k.2.1 96)), (5, .int (nI i))]) hx hb dL_law_1169 hl (by decide) rfl (fun ls hl => ?_)
  refine lv_aload_n hx hb dL_law_1171 rfl (lv_at hl 3 rfl) ?_
  refine lv_aload_n hx hb dL_law_1172 rfl (lv_at hl 1 rfl) ?_
  refine lv_iload hx hb dL_law_1173 (lv_at hl 6 rfl) ?_
  refine lv_iconst (v := nI 1) hx hb dL_law_1175 (by decide) ?_
  refine q_iaddN X dL_law_1176 ?_
  refine q_sld X w hX hbl hbA hL (j := (i + 1)) (by omega) dL_law_1177 ?_
  refine q_calli w (q_runV X w 91 (c_X5_badTones l k h1 (xs (i + 1)) (by rw [km.1]; exact I.rc.ok1)) (cwV 1 hts gL_law_X5_badTones rfl rfl rfl (by decide +kernel) ⟨Nat.le_of_ble_eq_true rfl, Nat.le_of_ble_eq_true rfl⟩) (by decide) rfl rfl rfl hl.1 rfl (Nat.le_of_ble_eq_true rfl) dL_law_1178 ⟨hcl, hsl⟩) (fun v9 h2 H locs hm w => ?_)
  obtain ⟨s1, s2, a', b', I'⟩ := s_badTones I hn hw hm
  refine lv_istore (lv' := [(7, .int v9), (6, .int r9), (0, .ref b0), (1, .ref (k.2.1 0)), (2, .ref (k.2.1 91)), (3, .ref (k.2.1 95)), (4, .ref (k.2.1 96)), (5, .int (nI i))]) hx hb dL_law_1181 hl (by decide) rfl (fun ls hl => ?_)
  refine lv_aload_n hx hb dL_law_1183 rfl (lv_at hl 4 rfl) ?_
  refine q_calli w (q_runV X w 91 (c_X5_thrown l k h2) (cwV 0 hts gL_law_X5_thrown rfl rfl rfl (by decide +kernel) ⟨Nat.le_of_ble_eq_true rfl, Nat.le_of_ble_eq_true rfl⟩) (by decide) rfl rfl rfl hl.1 rfl (Nat.le_of_ble_eq_true rfl) dL_law_1184 ⟨hcl, hsl⟩) (fun r8 h3 H locs hp w => ?_)
  obtain ⟨er8, eh3⟩ := hp
  rw [eh3] at w
  rw [er8, s1]
  refine lv_iload hx hb dL_law_1187 (lv_at hl 1 rfl) ?_
  refine lv_icmp_eq (tgt := 1194) hx hb dL_law_1189 (by decide) (fun c_1189 => ?_) (fun c_1189 => ?_)
  · refine lv_iload hx hb dL_law_1194 (lv_at hl 1 rfl) ?_
    refine lv_if_ne (tgt := 1211) hx hb dL_law_1196 (by decide) (fun c_1196 => ?_) (fun c_1196 => ?_)
    · refine lv_goto (tgt := 1875) hx hb dL_law_1211 (by decide) ?_
      exact hK _ _ _ _ a' b' I' w (lv_sub hl [2, 3, 4, 5, 6, 7] rfl)
    · refine lv_aload_n hx hb dL_law_1199 rfl (lv_at hl 5 rfl) ?_
      refine lv_iconst (v := nI 0) hx hb dL_law_1200 (by decide) ?_
      refine q_lald X w 95 0 (by decide) (fun _ => rfl) rfl (show 0 < 1 by decide) (by decide) dL_law_1201 ?_
      refine lv_iload hx hb dL_law_1202 (lv_at hl 0 rfl) ?_
      refine lv_i2l hx hb dL_law_1204 rfl ?_
      refine q_lif_eq X (tgt := 1211) dL_law_1205 dL_law_1206 (by decide) (fun c_1205 => ?_) (fun c_1205 => ?_)
      · refine lv_goto (tgt := 1875) hx hb dL_law_1211 (by decide) ?_
        exact hK _ _ _ _ a' b' I' w (lv_sub hl [2, 3, 4, 5, 6, 7] rfl)
      · exact absurd (s2 c_1196) c_1205
  · exact absurd rfl c_1189

set_option maxHeartbeats 4000000 in
set_option maxRecDepth 100000 in
theorem lc_isEfficient (hst : l.stackTraces = false) (X : CallFix p m c cL_law 9 s #[.ref b0] wsL_law RL) (w : WX k s H locs h) (I : IAB n h a b) (hn : n < 512) (hX : va_X b0 L xs s s.heap) (hbl : b0 < s.heap.size) (hbA : ¬ AA k s.heap.size b0) (hL : L ≤ 2048) (hi : i + 4 ≤ L) (hcl : cl + 5 ≤ 601024) (hsl : sl + 30 ≤ 7293034) (hl : lv_has ls 9 [(0, .ref b0), (1, .ref (k.2.1 0)), (2, .ref (k.2.1 91)), (3, .ref (k.2.1 95)), (4, .ref (k.2.1 96)), (5, .int (nI i))]) (hK : ∀ (H : Heap) (locs : List Loc) (ls : Array Slot) (g : hS) (a b : Nat), IAB (n + 1) g a b → WX k s H locs g → lv_has ls 9 [(0, .ref b0), (1, .ref (k.2.1 0)), (2, .ref (k.2.1 91)), (3, .ref (k.2.1 95)), (4, .ref (k.2.1 96)), (5, .int (nI i))] → W p l e room_1 s m #[.ref b0] below meth c H locs (cl + 5) (sl + 30) Q (F0 m 1875 ls [])) : W p l e room_1 s m #[.ref b0] below meth c H locs cl sl Q (F0 m 1214 ls []) := by
  have hx := X.1
  have hb := X.2.1
  have hown := X.2.2.2.1
  have hts := X.2.2.2.2
  refine lv_aload_n hx hb dL_law_1214 rfl (lv_at hl 1 rfl) ?_
  refine lv_aload_n hx hb dL_law_1215 rfl (lv_at hl 0 rfl) ?_
  refine lv_iload hx hb dL_law_1216 (lv_at hl 5 rfl) ?_
  refine lv_iconst (v := nI 1) hx hb dL_law_1218 (by decide) ?_
  refine q_iaddN X dL_law_1219 ?_
  refine q_sld X w hX hbl hbA hL (j := (i + 1)) (by omega) dL_law_1220 ?_
  refine lv_aload_n hx hb dL_law_1221 rfl (lv_at hl 3 rfl) ?_
  refine q_calli w (q_runSW X w (w_L_isEfficient l k h (xs (i + 1)) (c_X4_isEfficient l k h hst (xs (i + 1))) (fun _ _ hp => hp.1)) (vx_cwSW 3 hts gL_law_L_isEfficient rfl rfl rfl (by decide +kernel) ⟨Nat.le_of_ble_eq_true rfl, Nat.le_of_ble_eq_true rfl⟩) rfl hl.1 rfl (Nat.le_of_ble_eq_true rfl) dL_law_1222 ⟨hcl, hsl⟩) (fun r9 h1 H locs hw w => ?_)
  have km := k_isEfficient I hw
  refine lv_istore (lv' := [(6, .int r9), (0, .ref b0), (1, .ref (k.2.1 0)), (2, .ref (k.2.1 91)), (3, .ref (k.2.1 95)), (4, .ref (k.2.1 96)), (5, .int (nI i))]) hx hb dL_law_1225 hl (by decide) rfl (fun ls hl => ?_)
  refine lv_aload_n hx hb dL_law_1227 rfl (lv_at hl 3 rfl) ?_
  refine lv_aload_n hx hb dL_law_1228 rfl (lv_at hl 1 rfl) ?_
  refine lv_iload hx hb dL_law_1229 (lv_at hl 6 rfl) ?_
  refine lv_iconst (v := nI 1) hx hb dL_law_1231 (by decide) ?_
  refine q_iaddN X dL_law_1232 ?_
  refine q_sld X w hX hbl hbA hL (j := (i + 1)) (by omega) dL_law_1233 ?_
  refine q_calli w (q_runV X w 91 (c_X5_isEfficient l k h1 (xs (i + 1))) (cwV 1 hts gL_law_X5_isEfficient rfl rfl rfl (by decide +kernel) ⟨Nat.le_of_ble_eq_true rfl, Nat.le_of_ble_eq_true rfl⟩) (by decide) rfl rfl rfl hl.1 rfl (Nat.le_of_ble_eq_true rfl) dL_law_1234 ⟨hcl, hsl⟩) (fun v9 h2 H locs hm w => ?_)
  obtain ⟨s1, s2, a', b', I'⟩ := s_isEfficient I hn hw hm
  refine lv_istore (lv' := [(7, .int v9), (6, .int r9), (0, .ref b0), (1, .ref (k.2.1 0)), (2, .ref (k.2.1 91)), (3, .ref (k.2.1 95)), (4, .ref (k.2.1 96)), (5, .int (nI i))]) hx hb dL_law_1237 hl (by decide) rfl (fun ls hl => ?_)
  refine lv_aload_n hx hb dL_law_1239 rfl (lv_at hl 4 rfl) ?_
  refine q_calli w (q_runV X w 91 (c_X5_thrown l k h2) (cwV 0 hts gL_law_X5_thrown rfl rfl rfl (by decide +kernel) ⟨Nat.le_of_ble_eq_true rfl, Nat.le_of_ble_eq_true rfl⟩) (by decide) rfl rfl rfl hl.1 rfl (Nat.le_of_ble_eq_true rfl) dL_law_1240 ⟨hcl, hsl⟩) (fun r8 h3 H locs hp w => ?_)
  obtain ⟨er8, eh3⟩ := hp
  rw [eh3] at w
  rw [er8, s1]
  refine lv_iload hx hb dL_law_1243 (lv_at hl 1 rfl) ?_
  refine lv_icmp_eq (tgt := 1250) hx hb dL_law_1245 (by decide) (fun c_1245 => ?_) (fun c_1245 => ?_)
  · refine lv_iload hx hb dL_law_1250 (lv_at hl 1 rfl) ?_
    refine lv_if_ne (tgt := 1274) hx hb dL_law_1252 (by decide) (fun c_1252 => ?_) (fun c_1252 => ?_)
    · refine lv_goto (tgt := 1875) hx hb dL_law_1274 (by decide) ?_
      exact hK _ _ _ _ a' b' I' w (lv_sub hl [2, 3, 4, 5, 6, 7] rfl)
    · refine lv_aload_n hx hb dL_law_1255 rfl (lv_at hl 5 rfl) ?_
      refine lv_iconst (v := nI 0) hx hb dL_law_1256 (by decide) ?_
      refine q_lald X w 95 0 (by decide) (fun _ => rfl) rfl (show 0 < 1 by decide) (by decide) dL_law_1257 ?_
      refine lv_iload hx hb dL_law_1258 (lv_at hl 0 rfl) ?_
      refine lv_if_eq (tgt := 1267) hx hb dL_law_1260 (by decide) (fun c_1260 => ?_) (fun c_1260 => ?_)
      · refine lv_lconst (v := 0) hx hb dL_law_1267 (by decide) ?_
        refine q_lif_eq X (tgt := 1274) dL_law_1268 dL_law_1269 (by decide) (fun c_1268 => ?_) (fun c_1268 => ?_)
        · refine lv_goto (tgt := 1875) hx hb dL_law_1274 (by decide) ?_
          exact hK _ _ _ _ a' b' I' w (lv_sub hl [2, 3, 4, 5, 6, 7] rfl)
        · exact absurd ((s2 c_1252).trans (by first | rw [if_pos c_1260] | rw [if_neg c_1260])) c_1268
      · refine lv_lconst (v := 1) hx hb dL_law_1263 (by decide) ?_
        refine lv_goto (tgt := 1268) hx hb dL_law_1264 (by decide) ?_
        refine q_lif_eq X (tgt := 1274) dL_law_1268 dL_law_1269 (by decide) (fun c_1268 => ?_) (fun c_1268 => ?_)
        · refine lv_goto (tgt := 1875) hx hb dL_law_1274 (by decide) ?_
          exact hK _ _ _ _ a' b' I' w (lv_sub hl [2, 3, 4, 5, 6, 7] rfl)
        · exact absurd ((s2 c_1252).trans (by first | rw [if_pos c_1260] | rw [if_neg c_1260])) c_1268
  · exact absurd rfl c_1245

set_option maxHeartbeats 4000000 in
set_option maxRecDepth 100000 in
theorem lc_meanBits (hst : l.stackTraces = false) (X : CallFix p m c cL_law 9 s #[.ref b0] wsL_law RL) (w : WX k s H locs h) (I : IAB n h a b) (hn : n < 512) (hX : va_X b0 L xs s s.heap) (hbl : b0 < s.heap.size) (hbA : ¬ AA k s.heap.size b0) (hL : L ≤ 2048) (hi : i + 4 ≤ L) (hcl : cl + 5 ≤ 601024) (hsl : sl + 30 ≤ 7293034) (hl : lv_has ls 9 [(0, .ref b0), (1, .ref (k.2.1 0)), (2, .ref (k.2.1 91)), (3, .ref (k.2.1 95)), (4, .ref (k.2.1 96)), (5, .int (nI i))]) (hK : ∀ (H : Heap) (locs : List Loc) (ls : Array Slot) (g : hS) (a b : Nat), IAB (n + 1) g a b → WX k s H locs g → lv_has ls 9 [(0, .ref b0), (1, .ref (k.2.1 0)), (2, .ref (k.2.1 91)), (3, .ref (k.2.1 95)), (4, .ref (k.2.1 96)), (5, .int (nI i))] → W p l e room_1 s m #[.ref b0] below meth c H locs (cl + 5) (sl + 30) Q (F0 m 1875 ls [])) : W p l e room_1 s m #[.ref b0] below meth c H locs cl sl Q (F0 m 1277 ls []) := by
  have hx := X.1
  have hb := X.2.1
  have hown := X.2.2.2.1
  have hts := X.2.2.2.2
  refine lv_aload_n hx hb dL_law_1277 rfl (lv_at hl 1 rfl) ?_
  refine lv_aload_n hx hb dL_law_1278 rfl (lv_at hl 0 rfl) ?_
  refine lv_iload hx hb dL_law_1279 (lv_at hl 5 rfl) ?_
  refine lv_iconst (v := nI 1) hx hb dL_law_1281 (by decide) ?_
  refine q_iaddN X dL_law_1282 ?_
  refine q_sld X w hX hbl hbA hL (j := (i + 1)) (by omega) dL_law_1283 ?_
  refine lv_aload hx hb dL_law_1284 (lv_at hl 4 rfl) ?_
  refine q_calli w (q_runSW X w (w_L_meanBits l k h (xs (i + 1)) (c_X4_meanBits l k h hst (xs (i + 1)) I.nC) (fun _ _ hp => hp.1)) (vx_cwSW 3 hts gL_law_L_meanBits rfl rfl rfl (by decide +kernel) ⟨Nat.le_of_ble_eq_true rfl, Nat.le_of_ble_eq_true rfl⟩) rfl hl.1 rfl (Nat.le_of_ble_eq_true rfl) dL_law_1286 ⟨hcl, hsl⟩) (fun r9 h1 H locs hw w => ?_)
  have km := k_meanBits I hw
  refine lv_istore (lv' := [(6, .int r9), (0, .ref b0), (1, .ref (k.2.1 0)), (2, .ref (k.2.1 91)), (3, .ref (k.2.1 95)), (4, .ref (k.2.1 96)), (5, .int (nI i))]) hx hb dL_law_1289 hl (by decide) rfl (fun ls hl => ?_)
  refine lv_aload_n hx hb dL_law_1291 rfl (lv_at hl 3 rfl) ?_
  refine lv_aload_n hx hb dL_law_1292 rfl (lv_at hl 1 rfl) ?_
  refine lv_iload hx hb dL_law_1293 (lv_at hl 6 rfl) ?_
  refine lv_iconst (v := nI 1) hx hb dL_law_1295 (by decide) ?_
  refine q_iaddN X dL_law_1296 ?_
  refine q_sld X w hX hbl hbA hL (j := (i + 1)) (by omega) dL_law_1297 ?_
  refine q_calld w (q_runV X w 91 (c_X5_meanBits l k h1 (xs (i + 1)) (by rw [km.1]; exact I.nM)) (cwV 1 hts gL_law_X5_meanBits rfl rfl rfl (by decide +kernel) ⟨Nat.le_of_ble_eq_true rfl, Nat.le_of_ble_eq_true rfl⟩) (by decide) rfl rfl rfl hl.1 rfl (Nat.le_of_ble_eq_true rfl) dL_law_1298 ⟨hcl, hsl⟩) (fun v9 h2 H locs hm w => ?_)
  obtain ⟨s1, s2, a', b', I'⟩ := s_meanBits I hn hw hm
  refine lv_dstore (lv' := [(7, .double v9), (6, .int r9), (0, .ref b0), (1, .ref (k.2.1 0)), (2, .ref (k.2.1 91)), (3, .ref (k.2.1 95)), (4, .ref (k.2.1 96)), (5, .int (nI i))]) hx hb dL_law_1301 hl (by decide) rfl (fun ls hl => ?_)
  refine lv_aload_n hx hb dL_law_1303 rfl (lv_at hl 4 rfl) ?_
  refine q_calli w (q_runV X w 91 (c_X5_thrown l k h2) (cwV 0 hts gL_law_X5_thrown rfl rfl rfl (by decide +kernel) ⟨Nat.le_of_ble_eq_true rfl, Nat.le_of_ble_eq_true rfl⟩) (by decide) rfl rfl rfl hl.1 rfl (Nat.le_of_ble_eq_true rfl) dL_law_1304 ⟨hcl, hsl⟩) (fun r8 h3 H locs hp w => ?_)
  obtain ⟨er8, eh3⟩ := hp
  rw [eh3] at w
  rw [er8, s1]
  refine lv_iload hx hb dL_law_1307 (lv_at hl 1 rfl) ?_
  refine lv_icmp_eq (tgt := 1314) hx hb dL_law_1309 (by decide) (fun c_1309 => ?_) (fun c_1309 => ?_)
  · refine lv_iload hx hb dL_law_1314 (lv_at hl 1 rfl) ?_
    refine lv_if_ne (tgt := 1351) hx hb dL_law_1316 (by decide) (fun c_1316 => ?_) (fun c_1316 => ?_)
    · refine lv_goto (tgt := 1875) hx hb dL_law_1351 (by decide) ?_
      exact hK _ _ _ _ a' b' I' w (lv_sub hl [2, 3, 4, 5, 6, 7] rfl)
    · refine lv_aload hx hb dL_law_1319 (lv_at hl 6 rfl) ?_
      refine lv_iconst (v := nI 0) hx hb dL_law_1321 (by decide) ?_
      refine q_dald X w rfl dL_law_1322 ?_
      refine lv_dload hx hb dL_law_1323 (lv_at hl 0 rfl) ?_
      refine lv_dcmp hx hb dL_law_1325 ?_
      have d0 : Op.cmpValue (FP.dcmp (h2.2.2 0) v9) CmpOp.l = nI 0 := by
        rw [s2 c_1316]
        exact mb_cmp I km.1 c_1316 hm s1
      rw [d0]
      refine lv_if_eq (tgt := 1351) hx hb dL_law_1326 (by decide) (fun c_1326 => ?_) (fun c_1326 => ?_)
      · refine lv_goto (tgt := 1875) hx hb dL_law_1351 (by decide) ?_
        exact hK _ _ _ _ a' b' I' w (lv_sub hl [2, 3, 4, 5, 6, 7] rfl)
      · exact absurd (by decide) c_1326
  · exact absurd rfl c_1309

end LC
