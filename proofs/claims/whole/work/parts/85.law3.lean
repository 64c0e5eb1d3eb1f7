/-! THE LAW'S CASES -/
section LC
variable {p : Program} {l : Launch} {e : Env} {s : State} {m : MethodId} {below : List Frame} {meth : Method} {c : Code} {H : Heap} {locs : List Loc} {Q : State → Prop} {k : kY} {h : hS} {ls : Array Slot} {b0 L n a b i cl sl : Nat} {xs : Nat → Int32}
set_option maxHeartbeats 4000000 in
set_option maxRecDepth 100000 in
theorem lc_request (hst : l.stackTraces = false) (X : CallFix p m c cL_law 9 s #[.ref b0] wsL_law RL) (w : WX k s H locs h) (I : IAB n h a b) (hn : n < 512) (hX : va_X b0 L xs s s.heap) (hbl : b0 < s.heap.size) (hbA : ¬ AA k s.heap.size b0) (hL : L ≤ 2048) (hi : i + 4 ≤ L) (hcl : cl + 5 ≤ 601024) (hsl : sl + 30 ≤ 7293034) (hl : lv_has ls 9 [(0, .ref b0), (1, .ref (k.2.1 0)), (2, .ref (k.2.1 91)), (3, .ref (k.2.1 95)), (4, .ref (k.2.1 96)), (5, .int (nI i))]) (hK : ∀ (H : Heap) (locs : List Loc) (ls : Array Slot) (g : hS) (a b : Nat), IAB (n + 1) g a b → WX k s H locs g → lv_has ls 9 [(0, .ref b0), (1, .ref (k.2.1 0)), (2, .ref (k.2.1 91)), (3, .ref (k.2.1 95)), (4, .ref (k.2.1 96)), (5, .int (nI i))] → W p l e room_1 s m #[.ref b0] below meth c H locs (cl + 5) (sl + 30) Q (F0 m 1875 ls [])) : W p l e room_1 s m #[.ref b0] below meth c H locs cl sl Q (F0 m 1354 ls []) := by
  have hx := X.1
  have hb := X.2.1
  have hown := X.2.2.2.1
  have hts := X.2.2.2.2
  refine lv_aload_n hx hb dL_law_1354 rfl (lv_at hl 1 rfl) ?_
  refine lv_aload_n hx hb dL_law_1355 rfl (lv_at hl 0 rfl) ?_
  refine lv_iload hx hb dL_law_1356 (lv_at hl 5 rfl) ?_
  refine lv_iconst (v := nI 1) hx hb dL_law_1358 (by decide) ?_
  refine q_iaddN X dL_law_1359 ?_
  refine q_sld X w hX hbl hbA hL (j := (i + 1)) (by omega) dL_law_1360 ?_
  refine lv_aload_n hx hb dL_law_1361 rfl (lv_at hl 0 rfl) ?_
  refine lv_iload hx hb dL_law_1362 (lv_at hl 5 rfl) ?_
  refine lv_iconst (v := nI 2) hx hb dL_law_1364 (by decide) ?_
  refine q_iaddN X dL_law_1365 ?_
  refine q_sld X w hX hbl hbA hL (j := (i + 2)) (by omega) dL_law_1366 ?_
  refine lv_aload_n hx hb dL_law_1367 rfl (lv_at hl 0 rfl) ?_
  refine lv_iload hx hb dL_law_1368 (lv_at hl 5 rfl) ?_
  refine lv_iconst (v := nI 3) hx hb dL_law_1370 (by decide) ?_
  refine q_iaddN X dL_law_1371 ?_
  refine q_sld X w hX hbl hbA hL (j := (i + 3)) (by omega) dL_law_1372 ?_
  refine lv_aload_n hx hb dL_law_1373 rfl (lv_at hl 3 rfl) ?_
  refine q_calli w (q_runSW X w (w_L_request l k h (xs (i + 1)) (xs (i + 2)) (xs (i + 3)) (c_X4_request l k h hst (xs (i + 1)) (xs (i + 2)) (xs (i + 3)) I.SI) (fun _ _ hp => hp.2.elim (fun z9 => Or.inl z9.1) (fun z9 => z9.elim (fun z9 => Or.inr (Or.inl z9.1)) (fun z9 => Or.inr (Or.inr z9.1))))) (vx_cwSW 5 hts gL_law_L_request rfl rfl rfl (by decide +kernel) ⟨Nat.le_of_ble_eq_true rfl, Nat.le_of_ble_eq_true rfl⟩) rfl hl.1 rfl (Nat.le_of_ble_eq_true rfl) dL_law_1374 ⟨hcl, hsl⟩) (fun r9 h1 H locs hw w => ?_)
  have km := k_request I hw
  refine lv_istore (lv' := [(6, .int r9), (0, .ref b0), (1, .ref (k.2.1 0)), (2, .ref (k.2.1 91)), (3, .ref (k.2.1 95)), (4, .ref (k.2.1 96)), (5, .int (nI i))]) hx hb dL_law_1377 hl (by decide) rfl (fun ls hl => ?_)
  refine lv_aload_n hx hb dL_law_1379 rfl (lv_at hl 3 rfl) ?_
  refine lv_aload_n hx hb dL_law_1380 rfl (lv_at hl 1 rfl) ?_
  refine lv_iload hx hb dL_law_1381 (lv_at hl 6 rfl) ?_
  refine lv_iconst (v := nI 1) hx hb dL_law_1383 (by decide) ?_
  refine q_iaddN X dL_law_1384 ?_
  refine q_sld X w hX hbl hbA hL (j := (i + 1)) (by omega) dL_law_1385 ?_
  refine lv_aload_n hx hb dL_law_1386 rfl (lv_at hl 1 rfl) ?_
  refine lv_iload hx hb dL_law_1387 (lv_at hl 6 rfl) ?_
  refine lv_iconst (v := nI 2) hx hb dL_law_1389 (by decide) ?_
  refine q_iaddN X dL_law_1390 ?_
  refine q_sld X w hX hbl hbA hL (j := (i + 2)) (by omega) dL_law_1391 ?_
  refine lv_aload_n hx hb dL_law_1392 rfl (lv_at hl 1 rfl) ?_
  refine lv_iload hx hb dL_law_1393 (lv_at hl 6 rfl) ?_
  refine lv_iconst (v := nI 3) hx hb dL_law_1395 (by decide) ?_
  refine q_iaddN X dL_law_1396 ?_
  refine q_sld X w hX hbl hbA hL (j := (i + 3)) (by omega) dL_law_1397 ?_
  refine q_calli w (q_runV X w 91 (c_X5_request l k h1 (xs (i + 1)) (xs (i + 2)) (xs (i + 3)) (b := b) km.2 I.1.2) (cwV 3 hts gL_law_X5_request rfl rfl rfl (by decide +kernel) ⟨Nat.le_of_ble_eq_true rfl, Nat.le_of_ble_eq_true rfl⟩) (by decide) rfl rfl rfl hl.1 rfl (Nat.le_of_ble_eq_true rfl) dL_law_1398 ⟨hcl, hsl⟩) (fun v9 h2 H locs hm w => ?_)
  obtain ⟨s1, s2, a', b', I'⟩ := s_request I hn hw hm
  refine lv_istore (lv' := [(7, .int v9), (6, .int r9), (0, .ref b0), (1, .ref (k.2.1 0)), (2, .ref (k.2.1 91)), (3, .ref (k.2.1 95)), (4, .ref (k.2.1 96)), (5, .int (nI i))]) hx hb dL_law_1401 hl (by decide) rfl (fun ls hl => ?_)
  refine lv_aload_n hx hb dL_law_1403 rfl (lv_at hl 4 rfl) ?_
  refine q_calli w (q_runV X w 91 (c_X5_thrown l k h2) (cwV 0 hts gL_law_X5_thrown rfl rfl rfl (by decide +kernel) ⟨Nat.le_of_ble_eq_true rfl, Nat.le_of_ble_eq_true rfl⟩) (by decide) rfl rfl rfl hl.1 rfl (Nat.le_of_ble_eq_true rfl) dL_law_1404 ⟨hcl, hsl⟩) (fun r8 h3 H locs hp w => ?_)
  obtain ⟨er8, eh3⟩ := hp
  rw [eh3] at w
  rw [er8, s1]
  refine lv_iload hx hb dL_law_1407 (lv_at hl 1 rfl) ?_
  refine lv_icmp_eq (tgt := 1414) hx hb dL_law_1409 (by decide) (fun c_1409 => ?_) (fun c_1409 => ?_)
  · refine lv_iload hx hb dL_law_1414 (lv_at hl 1 rfl) ?_
    refine lv_if_ne (tgt := 1431) hx hb dL_law_1416 (by decide) (fun c_1416 => ?_) (fun c_1416 => ?_)
    · refine lv_goto (tgt := 1875) hx hb dL_law_1431 (by decide) ?_
      exact hK _ _ _ _ a' b' I' w (lv_sub hl [2, 3, 4, 5, 6, 7] rfl)
    · refine lv_aload_n hx hb dL_law_1419 rfl (lv_at hl 5 rfl) ?_
      refine lv_iconst (v := nI 0) hx hb dL_law_1420 (by decide) ?_
      refine q_lald X w 95 0 (by decide) (fun _ => rfl) rfl (show 0 < 1 by decide) (by decide) dL_law_1421 ?_
      refine lv_iload hx hb dL_law_1422 (lv_at hl 0 rfl) ?_
      refine lv_i2l hx hb dL_law_1424 rfl ?_
      refine q_lif_eq X (tgt := 1431) dL_law_1425 dL_law_1426 (by decide) (fun c_1425 => ?_) (fun c_1425 => ?_)
      · refine lv_goto (tgt := 1875) hx hb dL_law_1431 (by decide) ?_
        exact hK _ _ _ _ a' b' I' w (lv_sub hl [2, 3, 4, 5, 6, 7] rfl)
      · exact absurd (s2 c_1416) c_1425
  · exact absurd rfl c_1409

set_option maxHeartbeats 4000000 in
set_option maxRecDepth 100000 in
theorem lc_suggest (hst : l.stackTraces = false) (X : CallFix p m c cL_law 9 s #[.ref b0] wsL_law RL) (w : WX k s H locs h) (I : IAB n h a b) (hn : n < 512) (hX : va_X b0 L xs s s.heap) (hbl : b0 < s.heap.size) (hbA : ¬ AA k s.heap.size b0) (hL : L ≤ 2048) (hi : i + 4 ≤ L) (hcl : cl + 5 ≤ 601024) (hsl : sl + 30 ≤ 7293034) (hl : lv_has ls 9 [(0, .ref b0), (1, .ref (k.2.1 0)), (2, .ref (k.2.1 91)), (3, .ref (k.2.1 95)), (4, .ref (k.2.1 96)), (5, .int (nI i))]) (hK : ∀ (H : Heap) (locs : List Loc) (ls : Array Slot) (g : hS) (a b : Nat), IAB (n + 1) g a b → WX k s H locs g → lv_has ls 9 [(0, .ref b0), (1, .ref (k.2.1 0)), (2, .ref (k.2.1 91)), (3, .ref (k.2.1 95)), (4, .ref (k.2.1 96)), (5, .int (nI i))] → W p l e room_1 s m #[.ref b0] below meth c H locs (cl + 5) (sl + 30) Q (F0 m 1875 ls [])) : W p l e room_1 s m #[.ref b0] below meth c H locs cl sl Q (F0 m 1434 ls []) := by
  have hx := X.1
  have hb := X.2.1
  have hown := X.2.2.2.1
  have hts := X.2.2.2.2
  refine lv_aload_n hx hb dL_law_1434 rfl (lv_at hl 1 rfl) ?_
  refine lv_aload_n hx hb dL_law_1435 rfl (lv_at hl 0 rfl) ?_
  refine lv_iload hx hb dL_law_1436 (lv_at hl 5 rfl) ?_
  refine lv_iconst (v := nI 1) hx hb dL_law_1438 (by decide) ?_
  refine q_iaddN X dL_law_1439 ?_
  refine q_sld X w hX hbl hbA hL (j := (i + 1)) (by omega) dL_law_1440 ?_
  refine lv_aload_n hx hb dL_law_1441 rfl (lv_at hl 3 rfl) ?_
  refine q_calli w (q_runSW X w (w_L_suggest l k h (xs (i + 1)) (c_X4_suggest l k h hst (xs (i + 1))) (fun _ _ hp => hp.1)) (vx_cwSW 3 hts gL_law_L_suggest rfl rfl rfl (by decide +kernel) ⟨Nat.le_of_ble_eq_true rfl, Nat.le_of_ble_eq_true rfl⟩) rfl hl.1 rfl (Nat.le_of_ble_eq_true rfl) dL_law_1442 ⟨hcl, hsl⟩) (fun r9 h1 H locs hw w => ?_)
  have km := k_suggest I hw
  refine lv_istore (lv' := [(6, .int r9), (0, .ref b0), (1, .ref (k.2.1 0)), (2, .ref (k.2.1 91)), (3, .ref (k.2.1 95)), (4, .ref (k.2.1 96)), (5, .int (nI i))]) hx hb dL_law_1445 hl (by decide) rfl (fun ls hl => ?_)
  refine lv_aload_n hx hb dL_law_1447 rfl (lv_at hl 3 rfl) ?_
  refine lv_aload_n hx hb dL_law_1448 rfl (lv_at hl 1 rfl) ?_
  refine lv_iload hx hb dL_law_1449 (lv_at hl 6 rfl) ?_
  refine lv_iconst (v := nI 1) hx hb dL_law_1451 (by decide) ?_
  refine q_iaddN X dL_law_1452 ?_
  refine q_sld X w hX hbl hbA hL (j := (i + 1)) (by omega) dL_law_1453 ?_
  refine q_calli w (q_runV X w 91 (c_X5_suggest l k h1 (xs (i + 1)) (by rw [km.1]; exact I.rc.ok1)) (cwV 1 hts gL_law_X5_suggest rfl rfl rfl (by decide +kernel) ⟨Nat.le_of_ble_eq_true rfl, Nat.le_of_ble_eq_true rfl⟩) (by decide) rfl rfl rfl hl.1 rfl (Nat.le_of_ble_eq_true rfl) dL_law_1454 ⟨hcl, hsl⟩) (fun v9 h2 H locs hm w => ?_)
  obtain ⟨s1, s2, a', b', I'⟩ := s_suggest I hn hw hm
  refine lv_istore (lv' := [(7, .int v9), (6, .int r9), (0, .ref b0), (1, .ref (k.2.1 0)), (2, .ref (k.2.1 91)), (3, .ref (k.2.1 95)), (4, .ref (k.2.1 96)), (5, .int (nI i))]) hx hb dL_law_1457 hl (by decide) rfl (fun ls hl => ?_)
  refine lv_aload_n hx hb dL_law_1459 rfl (lv_at hl 4 rfl) ?_
  refine q_calli w (q_runV X w 91 (c_X5_thrown l k h2) (cwV 0 hts gL_law_X5_thrown rfl rfl rfl (by decide +kernel) ⟨Nat.le_of_ble_eq_true rfl, Nat.le_of_ble_eq_true rfl⟩) (by decide) rfl rfl rfl hl.1 rfl (Nat.le_of_ble_eq_true rfl) dL_law_1460 ⟨hcl, hsl⟩) (fun r8 h3 H locs hp w => ?_)
  obtain ⟨er8, eh3⟩ := hp
  rw [eh3] at w
  rw [er8, s1]
  refine lv_iload hx hb dL_law_1463 (lv_at hl 1 rfl) ?_
  refine lv_icmp_eq (tgt := 1470) hx hb dL_law_1465 (by decide) (fun c_1465 => ?_) (fun c_1465 => ?_)
  · refine lv_iload hx hb dL_law_1470 (lv_at hl 1 rfl) ?_
    refine lv_if_ne (tgt := 1487) hx hb dL_law_1472 (by decide) (fun c_1472 => ?_) (fun c_1472 => ?_)
    · refine lv_goto (tgt := 1875) hx hb dL_law_1487 (by decide) ?_
      exact hK _ _ _ _ a' b' I' w (lv_sub hl [2, 3, 4, 5, 6, 7] rfl)
    · refine lv_aload_n hx hb dL_law_1475 rfl (lv_at hl 5 rfl) ?_
      refine lv_iconst (v := nI 0) hx hb dL_law_1476 (by decide) ?_
      refine q_lald X w 95 0 (by decide) (fun _ => rfl) rfl (show 0 < 1 by decide) (by decide) dL_law_1477 ?_
      refine lv_iload hx hb dL_law_1478 (lv_at hl 0 rfl) ?_
      refine lv_i2l hx hb dL_law_1480 rfl ?_
      refine q_lif_eq X (tgt := 1487) dL_law_1481 dL_law_1482 (by decide) (fun c_1481 => ?_) (fun c_1481 => ?_)
      · refine lv_goto (tgt := 1875) hx hb dL_law_1487 (by decide) ?_
        exact hK _ _ _ _ a' b' I' w (lv_sub hl [2, 3, 4, 5, 6, 7] rfl)
      · exact absurd (s2 c_1472) c_1481
  · exact absurd rfl c_1465

set_option maxHeartbeats 4000000 in
set_option maxRecDepth 100000 in
theorem lc_resend (hst : l.stackTraces = false) (X : CallFix p m c cL_law 9 s #[.ref b0] wsL_law RL) (w : WX k s H locs h) (I : IAB n h a b) (hn : n < 512) (hX : va_X b0 L xs s s.heap) (hbl : b0 < s.heap.size) (hbA : ¬ AA k s.heap.size b0) (hL : L ≤ 2048) (hi : i + 4 ≤ L) (hcl : cl + 5 ≤ 601024) (hsl : sl + 30 ≤ 7293034) (hl : lv_has ls 9 [(0, .ref b0), (1, .ref (k.2.1 0)), (2, .ref (k.2.1 91)), (3, .ref (k.2.1 95)), (4, .ref (k.2.1 96)), (5, .int (nI i))]) (hK : ∀ (H : Heap) (locs : List Loc) (ls : Array Slot) (g : hS) (a b : Nat), IAB (n + 1) g a b → WX k s H locs g → lv_has ls 9 [(0, .ref b0), (1, .ref (k.2.1 0)), (2, .ref (k.2.1 91)), (3, .ref (k.2.1 95)), (4, .ref (k.2.1 96)), (5, .int (nI i))] → W p l e room_1 s m #[.ref b0] below meth c H locs (cl + 5) (sl + 30) Q (F0 m 1875 ls [])) : W p l e room_1 s m #[.ref b0] below meth c H locs cl sl Q (F0 m 1490 ls []) := by
  have hx := X.1
  have hb := X.2.1
  have hown := X.2.2.2.1
  have hts := X.2.2.2.2
  refine lv_aload_n hx hb dL_law_1490 rfl (lv_at hl 1 rfl) ?_
  refine lv_aload_n hx hb dL_law_1491 rfl (lv_at hl 0 rfl) ?_
  refine lv_iload hx hb dL_law_1492 (lv_at hl 5 rfl) ?_
  refine lv_iconst (v := nI 1) hx hb dL_law_1494 (by decide) ?_
  refine q_iaddN X dL_law_1495 ?_
  refine q_sld X w hX hbl hbA hL (j := (i + 1)) (by omega) dL_law_1496 ?_
  refine lv_aload_n hx hb dL_law_1497 rfl (lv_at hl 3 rfl) ?_
  refine q_calli w (q_runSW X w (w_L_resend l k h (xs (i + 1)) (c_X4_resend l k h hst (xs (i + 1)) I.SI) (fun _ _ hp => hp.2.elim (fun z9 => Or.inl z9.1) (fun z9 => Or.inr z9.1))) (vx_cwSW 3 hts gL_law_L_resend rfl rfl rfl (by decide +kernel) ⟨Nat.le_of_ble_eq_true rfl, Nat.le_of_ble_eq_true rfl⟩) rfl hl.1 rfl (Nat.le_of_ble_eq_true rfl) dL_law_1498 ⟨hcl, hsl⟩) (fun r9 h1 H locs hw w => ?_)
  have km := k_resend I hw
  refine lv_istore (lv' := [(6, .int r9), (0, .ref b0), (1, .ref (k.2.1 0)), (2, .ref (k.2.1 91)), (3, .ref (k.2.1 95)), (4, .ref (k.2.1 96)), (5, .int (nI i))]) hx hb dL_law_1501 hl (by decide) rfl (fun ls hl => ?_)
  refine lv_aload_n hx hb dL_law_1503 rfl (lv_at hl 3 rfl) ?_
  refine lv_aload_n hx hb dL_law_1504 rfl (lv_at hl 1 rfl) ?_
  refine lv_iload hx hb dL_law_1505 (lv_at hl 6 rfl) ?_
  refine lv_iconst (v := nI 1) hx hb dL_law_1507 (by decide) ?_
  refine q_iaddN X dL_law_1508 ?_
  refine q_sld X w hX hbl hbA hL (j := (i + 1)) (by omega) dL_law_1509 ?_
  refine q_calli w (q_runV X w 91 (c_X5_resend l k h1 (xs (i + 1)) (b := b) km.2 I.1.2) (cwV 1 hts gL_law_X5_resend rfl rfl rfl (by decide +kernel) ⟨Nat.le_of_ble_eq_true rfl, Nat.le_of_ble_eq_true rfl⟩) (by decide) rfl rfl rfl hl.1 rfl (Nat.le_of_ble_eq_true rfl) dL_law_1510 ⟨hcl, hsl⟩) (fun v9 h2 H locs hm w => ?_)
  obtain ⟨s1, s2, a', b', I'⟩ := s_resend I hn hw hm
  refine lv_istore (lv' := [(7, .int v9), (6, .int r9), (0, .ref b0), (1, .ref (k.2.1 0)), (2, .ref (k.2.1 91)), (3, .ref (k.2.1 95)), (4, .ref (k.2.1 96)), (5, .int (nI i))]) hx hb dL_law_1513 hl (by decide) rfl (fun ls hl => ?_)
  refine lv_aload_n hx hb dL_law_1515 rfl (lv_at hl 4 rfl) ?_
  refine q_calli w (q_runV X w 91 (c_X5_thrown l k h2) (cwV 0 hts gL_law_X5_thrown rfl rfl rfl (by decide +kernel) ⟨Nat.le_of_ble_eq_true rfl, Nat.le_of_ble_eq_true rfl⟩) (by decide) rfl rfl rfl hl.1 rfl (Nat.le_of_ble_eq_true rfl) dL_law_1516 ⟨hcl, hsl⟩) (fun r8 h3 H locs hp w => ?_)
  obtain ⟨er8, eh3⟩ := hp
  rw [eh3] at w
  rw [er8, s1]
  refine lv_iload hx hb dL_law_1519 (lv_at hl 1 rfl) ?_
  refine lv_icmp_eq (tgt := 1526) hx hb dL_law_1521 (by decide) (fun c_1521 => ?_) (fun c_1521 => ?_)
  · refine lv_iload hx hb dL_law_1526 (lv_at hl 1 rfl) ?_
    refine lv_if_ne (tgt := 1543) hx hb dL_law_1528 (by decide) (fun c_1528 => ?_) (fun c_1528 => ?_)
    · refine lv_goto (tgt := 1875) hx hb dL_law_1543 (by decide) ?_
      exact hK _ _ _ _ a' b' I' w (lv_sub hl [2, 3, 4, 5, 6, 7] rfl)
    · refine lv_aload_n hx hb dL_law_1531 rfl (lv_at hl 5 rfl) ?_
      refine lv_iconst (v := nI 0) hx hb dL_law_1532 (by decide) ?_
      refine q_lald X w 95 0 (by decide) (fun _ => rfl) rfl (show 0 < 1 by decide) (by decide) dL_law_1533 ?_
      refine lv_iload hx hb dL_law_1534 (lv_at hl 0 rfl) ?_
      refine lv_i2l hx hb dL_law_1536 rfl ?_
      refine q_lif_eq X (tgt := 1543) dL_law_1537 dL_law_1538 (by decide) (fun c_1537 => ?_) (fun c_1537 => ?_)
      · refine lv_goto (tgt := 1875) hx hb dL_law_1543 (by decide) ?_
        exact hK _ _ _ _ a' b' I' w (lv_sub hl [2, 3, 4, 5, 6, 7] rfl)
      · exact absurd (s2 c_1528) c_1537
  · exact absurd rfl c_1521

set_option maxHeartbeats 4000000 in
set_option maxRecDepth 100000 in
theorem lc_deliver (hst : l.stackTraces = false) (X : CallFix p m c cL_law 9 s #[.ref b0] wsL_law RL) (w : WX k s H locs h) (I : IAB n h a b) (hn : n < 512) (hX : va_X b0 L xs s s.heap) (hbl : b0 < s.heap.size) (hbA : ¬ AA k s.heap.size b0) (hL : L ≤ 2048) (hi : i + 4 ≤ L) (hcl : cl + 5 ≤ 601024) (hsl : sl + 30 ≤ 7293034) (hl : lv_has ls 9 [(0, .ref b0), (1, .ref (k.2.1 0)), (2, .ref (k.2.1 91)), (3, .ref (k.2.1 95)), (4, .ref (k.2.1 96)), (5, .int (nI i))]) (hK : ∀ (H : Heap) (locs : List Loc) (ls : Array Slot) (g : hS) (a b : Nat), IAB (n + 1) g a b → WX k s H locs g → lv_has ls 9 [(0, .ref b0), (1, .ref (k.2.1 0)), (2, .ref (k.2.1 91)), (3, .ref (k.2.1 95)), (4, .ref (k.2.1 96)), (5, .int (nI i))] → W p l e room_1 s m #[.ref b0] below meth c H locs (cl + 5) (sl + 30) Q (F0 m 1875 ls [])) : W p l e room_1 s m #[.ref b0] below meth c H locs cl sl Q (F0 m 1546 ls []) := by
  have hx := X.1
  have hb := X.2.1
  have hown := X.2.2.2.1
  have hts := X.2.2.2.2
  refine lv_aload_n hx hb dL_law_1546 rfl (lv_at hl 1 rfl) ?_
  refine lv_aload_n hx hb dL_law_1547 rfl (lv_at hl 0 rfl) ?_
  refine lv_iload hx hb dL_law_1548 (lv_at hl 5 rfl) ?_
  refine lv_iconst (v := nI 1) hx hb dL_law_1550 (by decide) ?_
  refine q_iaddN X dL_law_1551 ?_
  refine q_sld X w hX hbl hbA hL (j := (i + 1)) (by omega) dL_law_1552 ?_
  refine lv_aload_n hx hb dL_law_1553 rfl (lv_at hl 0 rfl) ?_
  refine lv_iload hx hb dL_law_1554 (lv_at hl 5 rfl) ?_
  refine lv_iconst (v := nI 2) hx hb dL_law_1556 (by decide) ?_
  refine q_iaddN X dL_law_1557 ?_
  refine q_sld X w hX hbl hbA hL (j := (i + 2)) (by omega) dL_law_1558 ?_
  refine lv_aload_n hx hb dL_law_1559 rfl (lv_at hl 0 rfl) ?_
  refine lv_iload hx hb dL_law_1560 (lv_at hl 5 rfl) ?_
  refine lv_iconst (v := nI 3) hx hb dL_law_1562 (by decide) ?_
  refine q_iaddN X dL_law_1563 ?_
  refine q_sld X w hX hbl hbA hL (j := (i + 3)) (by omega) dL_law_1564 ?_
  refine lv_if_eq (tgt := 1572) hx hb dL_law_1565 (by decide) (fun c_1565 => ?_) (fun c_1565 => ?_)
  · refine lv_iconst (v := nI 0) hx hb dL_law_1572 (by decide) ?_
    refine lv_aload_n hx hb dL_law_1573 rfl (lv_at hl 3 rfl) ?_
    refine q_calli w (q_runSW X w (w_L_deliver l k h (xs (i + 1)) (xs (i + 2)) (nI 0) (c_X4_deliver l k h hst (xs (i + 1)) (xs (i + 2)) (nI 0) I.SI) (fun _ _ hp => hp.2.elim (fun z9 => Or.inl z9.1) (fun z9 => z9.elim (fun z9 => Or.inr (Or.inl z9.1)) (fun z9 => Or.inr (Or.inr z9.1))))) (vx_cwSW 5 hts gL_law_L_deliver rfl rfl rfl (by decide +kernel) ⟨Nat.le_of_ble_eq_true rfl, Nat.le_of_ble_eq_true rfl⟩) rfl hl.1 rfl (Nat.le_of_ble_eq_true rfl) dL_law_1574 ⟨hcl, hsl⟩) (fun r9 h1 H locs hw w => ?_)
    have km := k_deliver I hw
    refine lv_istore (lv' := [(6, .int r9), (0, .ref b0), (1, .ref (k.2.1 0)), (2, .ref (k.2.1 91)), (3, .ref (k.2.1 95)), (4, .ref (k.2.1 96)), (5, .int (nI i))]) hx hb dL_law_1577 hl (by decide) rfl (fun ls hl => ?_)
    refine lv_aload_n hx hb dL_law_1579 rfl (lv_at hl 3 rfl) ?_
    refine lv_aload_n hx hb dL_law_1580 rfl (lv_at hl 1 rfl) ?_
    refine lv_iload hx hb dL_law_1581 (lv_at hl 6 rfl) ?_
    refine lv_iconst (v := nI 1) hx hb dL_law_1583 (by decide) ?_
    refine q_iaddN X dL_law_1584 ?_
    refine q_sld X w hX hbl hbA hL (j := (i + 1)) (by omega) dL_law_1585 ?_
    refine lv_aload_n hx hb dL_law_1586 rfl (lv_at hl 1 rfl) ?_
    refine lv_iload hx hb dL_law_1587 (lv_at hl 6 rfl) ?_
    refine lv_iconst (v := nI 2) hx hb dL_law_1589 (by decide) ?_
    refine q_iaddN X dL_law_1590 ?_
    refine q_sld X w hX hbl hbA hL (j := (i + 2)) (by omega) dL_law_1591 ?_
    refine lv_aload_n hx hb dL_law_1592 rfl (lv_at hl 1 rfl) ?_
    refine lv_iload hx hb dL_law_1593 (lv_at hl 6 rfl) ?_
    refine lv_iconst (v := nI 3) hx hb dL_law_1595 (by decide) ?_
    refine q_iaddN X dL_law_1596 ?_
    refine q_sld X w hX hbl hbA hL (j := (i + 3)) (by omega) dL_law_1597 ?_
    refine lv_if_eq (tgt := 1605) hx hb dL_law_1598 (by decide) (fun c_1598 => ?_) (fun c_1598 => ?_)
    · refine lv_iconst (v := nI 0) hx hb dL_law_1605 (by decide) ?_
      refine q_calli w (q_runV X w 91 (c_X5_deliver l k h1 (xs (i + 1)) (xs (i + 2)) (nI 0) (b := b) km.2 I.1.2) (cwV 3 hts gL_law_X5_deliver rfl rfl rfl (by decide +kernel) ⟨Nat.le_of_ble_eq_true rfl, Nat.le_of_ble_eq_true rfl⟩) (by decide) rfl rfl rfl hl.1 rfl (Nat.le_of_ble_eq_true rfl) dL_law_1606 ⟨hcl, hsl⟩) (fun v9 h2 H locs hm w => ?_)
      obtain ⟨s1, s2, a', b', I'⟩ := s_deliver I hn hw hm
      refine lv_istore (lv' := [(7, .int v9), (6, .int r9), (0, .ref b0), (1, .ref (k.2.1 0)), (2, .ref (k.2.1 91)), (3, .ref (k.2.1 95)), (4, .ref (k.2.1 96)), (5, .int (nI i))]) hx hb dL_law_1609 hl (by decide) rfl (fun ls hl => ?_)
      refine lv_aload_n hx hb dL_law_1611 rfl (lv_at hl 4 rfl) ?_
      refine q_calli w (q_runV X w 91 (c_X5_thrown l k h2) (cwV 0 hts gL_law_X5_thrown rfl rfl rfl (by decide +kernel) ⟨Nat.le_of_ble_eq_true rfl, Nat.le_of_ble_eq_true rfl⟩) (by decide) rfl rfl rfl hl.1 rfl (Nat.le_of_ble_eq_true rfl) dL_law_1612 ⟨hcl, hsl⟩) (fun r8 h3 H locs hp w => ?_)
      obtain ⟨er8, eh3⟩ := hp
      rw [eh3] at w
      rw [er8, s1]
      refine lv_iload hx hb dL_law_1615 (lv_at hl 1 rfl) ?_
      refine lv_icmp_eq (tgt := 1622) hx hb dL_law_1617 (by decide) (fun c_1617 => ?_) (fun c_1617 => ?_)
      · refine lv_iload hx hb dL_law_1622 (lv_at hl 1 rfl) ?_
        refine lv_if_ne (tgt := 1639) hx hb dL_law_1624 (by decide) (fun c_1624 => ?_) (fun c_1624 => ?_)
        · refine lv_goto (tgt := 1875) hx hb dL_law_1639 (by decide) ?_
          exact hK _ _ _ _ a' b' I' w (lv_sub hl [2, 3, 4, 5, 6, 7] rfl)
        · refine lv_aload_n hx hb dL_law_1627 rfl (lv_at hl 5 rfl) ?_
          refine lv_iconst (v := nI 0) hx hb dL_law_1628 (by decide) ?_
          refine q_lald X w 95 0 (by decide) (fun _ => rfl) rfl (show 0 < 1 by decide) (by decide) dL_law_1629 ?_
          refine lv_iload hx hb dL_law_1630 (lv_at hl 0 rfl) ?_
          refine lv_i2l hx hb dL_law_1632 rfl ?_
          refine q_lif_eq X (tgt := 1639) dL_law_1633 dL_law_1634 (by decide) (fun c_1633 => ?_) (fun c_1633 => ?_)
          · refine lv_goto (tgt := 1875) hx hb dL_law_1639 (by decide) ?_
            exact hK _ _ _ _ a' b' I' w (lv_sub hl [2, 3, 4, 5, 6, 7] rfl)
          · exact absurd (s2 c_1624) c_1633
      · exact absurd rfl c_1617
    · exact absurd c_1565 c_1598
  · refine lv_iconst (v := nI 1) hx hb dL_law_1568 (by decide) ?_
    refine lv_goto (tgt := 1573) hx hb dL_law_1569 (by decide) ?_
    refine lv_aload_n hx hb dL_law_1573 rfl (lv_at hl 3 rfl) ?_
    refine q_calli w (q_runSW X w (w_L_deliver l k h (xs (i + 1)) (xs (i + 2)) (nI 1) (c_X4_deliver l k h hst (xs (i + 1)) (xs (i + 2)) (nI 1) I.SI) (fun _ _ hp => hp.2.elim (fun z9 => Or.inl z9.1) (fun z9 => z9.elim (fun z9 => Or.inr (Or.inl z9.1)) (fun z9 => Or.inr (Or.inr z9.1))))) (vx_cwSW 5 hts gL_law_L_deliver rfl rfl rfl (by decide +kernel) ⟨Nat.le_of_ble_eq_true rfl, Nat.le_of_ble_eq_true rfl⟩) rfl hl.1 rfl (Nat.le_of_ble_eq_true rfl) dL_law_1574 ⟨hcl, hsl⟩) (fun r9 h1 H locs hw w => ?_)
    have km := k_deliver I hw
    refine lv_istore (lv' := [(6, .int r9), (0, .ref b0), (1, .ref (k.2.1 0)), (2, .ref (k.2.1 91)), (3, .ref (k.2.1 95)), (4, .ref (k.2.1 96)), (5, .int (nI i))]) hx hb dL_law_1577 hl (by decide) rfl (fun ls hl => ?_)
    refine lv_aload_n hx hb dL_law_1579 rfl (lv_at hl 3 rfl) ?_
    refine lv_aload_n hx hb dL_law_1580 rfl (lv_at hl 1 rfl) ?_
    refine lv_iload hx hb dL_law_1581 (lv_at hl 6 rfl) ?_
    refine lv_iconst (v := nI 1) hx hb dL_law_1583 (by decide) ?_
    refine q_iaddN X dL_law_1584 ?_
    refine q_sld X w hX hbl hbA hL (j := (i + 1)) (by omega) dL_law_1585 ?_
    refine lv_aload_n hx hb dL_law_1586 rfl (lv_at hl 1 rfl) ?_
    refine lv_iload hx hb dL_law_1587 (lv_at hl 6 rfl) ?_
    refine lv_iconst (v := nI 2) hx hb dL_law_1589 (by decide) ?_
    refine q_iaddN X dL_law_1590 ?_
    refine q_sld X w hX hbl hbA hL (j := (i + 2)) (by omega) dL_law_1591 ?_
    refine lv_aload_n hx hb dL_law_1592 rfl (lv_at hl 1 rfl) ?_
    refine lv_iload hx hb dL_law_1593 (lv_at hl 6 rfl) ?_
    refine lv_iconst (v := nI 3) hx hb dL_law_1595 (by decide) ?_
    refine q_iaddN X dL_law_1596 ?_
    refine q_sld X w hX hbl hbA hL (j := (i + 3)) (by omega) dL_law_1597 ?_
    refine lv_if_eq (tgt := 1605) hx hb dL_law_1598 (by decide) (fun c_1598 => ?_) (fun c_1598 => ?_)
    · exact absurd c_1598 c_1565
    · refine lv_iconst (v := nI 1) hx hb dL_law_1601 (by decide) ?_
      refine lv_goto (tgt := 1606) hx hb dL_law_1602 (by decide) ?_
      refine q_calli w (q_runV X w 91 (c_X5_deliver l k h1 (xs (i + 1)) (xs (i + 2)) (nI 1) (b := b) km.2 I.1.2) (cwV 3 hts gL_law_X5_deliver rfl rfl rfl (by decide +kernel) ⟨Nat.le_of_ble_eq_true rfl, Nat.le_of_ble_eq_true rfl⟩) (by decide) rfl rfl rfl hl.1 rfl (Nat.le_of_ble_eq_true rfl) dL_law_1606 ⟨hcl, hsl⟩) (fun v9 h2 H locs hm w => ?_)
      obtain ⟨s1, s2, a', b', I'⟩ := s_deliver I hn hw hm
      refine lv_istore (lv' := [(7, .int v9), (6, .int r9), (0, .ref b0), (1, .ref (k.2.1 0)), (2, .ref (k.2.1 91)), (3, .ref (k.2.1 95)), (4, .ref (k.2.1 96)), (5, .int (nI i))]) hx hb dL_law_1609 hl (by decide) rfl (fun ls hl => ?_)
      refine lv_aload_n hx hb dL_law_1611 rfl (lv_at hl 4 rfl) ?_
      refine q_calli w (q_runV X w 91 (c_X5_thrown l k h2) (cwV 0 hts gL_law_X5_thrown rfl rfl rfl (by decide +kernel) ⟨Nat.le_of_ble_eq_true rfl, Nat.le_of_ble_eq_true rfl⟩) (by decide) rfl rfl rfl hl.1 rfl (Nat.le_of_ble_eq_true rfl) dL_law_1612 ⟨hcl, hsl⟩) (fun r8 h3 H locs hp w => ?_)
      obtain ⟨er8, eh3⟩ := hp
      rw [eh3] at w
      rw [er8, s1]
      refine lv_iload hx hb dL_law_1615 (lv_at hl 1 rfl) ?_
      refine lv_icmp_eq (tgt := 1622) hx hb dL_law_1617 (by decide) (fun c_1617 => ?_) (fun c_1617 => ?_)
      · refine lv_iload hx hb dL_law_1622 (lv_at hl 1 rfl) ?_
        refine lv_if_ne (tgt := 1639) hx hb dL_law_1624 (by decide) (fun c_1624 => ?_) (fun c_1624 => ?_)
        · refine lv_goto (tgt := 1875) hx hb dL_law_1639 (by decide) ?_
          exact hK _ _ _ _ a' b' I' w (lv_sub hl [2, 3, 4, 5, 6, 7] rfl)
        · refine lv_aload_n hx hb dL_law_1627 rfl (lv_at hl 5 rfl) ?_
          refine lv_iconst (v := nI 0) hx hb dL_law_1628 (by decide) ?_
          refine q_lald X w 95 0 (by decide) (fun _ => rfl) rfl (show 0 < 1 by decide) (by decide) dL_law_1629 ?_
          refine lv_iload hx hb dL_law_1630 (lv_at hl 0 rfl) ?_
          refine lv_i2l hx hb dL_law_1632 rfl ?_
          refine q_lif_eq X (tgt := 1639) dL_law_1633 dL_law_1634 (by decide) (fun c_1633 => ?_) (fun c_1633 => ?_)
          · refine lv_goto (tgt := 1875) hx hb dL_law_1639 (by decide) ?_
            exact hK _ _ _ _ a' b' I' w (lv_sub hl [2, 3, 4, 5, 6, 7] rfl)
          · exact absurd (s2 c_1624) c_1633
      · exact absurd rfl c_1617

set_option maxHeartbeats 4000000 in
set_option maxRecDepth 100000 in
theorem lc_run (hst : l.stackTraces = false) (X : CallFix p m c cL_law 9 s #[.ref b0] wsL_law RL) (w : WX k s H locs h) (I : IAB n h a b) (hn : n < 512) (hX : va_X b0 L xs s s.heap) (hbl : b0 < s.heap.size) (hbA : ¬ AA k s.heap.size b0) (hL : L ≤ 2048) (hi : i + 4 ≤ L) (hcl : cl + 5 ≤ 601024) (hsl : sl + 30 ≤ 7293034) (hl : lv_has ls 9 [(0, .ref b0), (1, .ref (k.2.1 0)), (2, .ref (k.2.1 91)), (3, .ref (k.2.1 95)), (4, .ref (k.2.1 96)), (5, .int (nI i))]) (hK : ∀ (H : Heap) (locs : List Loc) (ls : Array Slot) (g : hS) (a b : Nat), IAB (n + 1) g a b → WX k s H locs g → lv_has ls 9 [(0, .ref b0), (1, .ref (k.2.1 0)), (2, .ref (k.2.1 91)), (3, .ref (k.2.1 95)), (4, .ref (k.2.1 96)), (5, .int (nI i))] → W p l e room_1 s m #[.ref b0] below meth c H locs (cl + 5) (sl + 30) Q (F0 m 1875 ls [])) : W p l e room_1 s m #[.ref b0] below meth c H locs cl sl Q (F0 m 1642 ls []) := by
  have hx := X.1
  have hb := X.2.1
  have hown := X.2.2.2.1
  have hts := X.2.2.2.2
  refine lv_aload_n hx hb dL_law_1642 rfl (lv_at hl 1 rfl) ?_
  refine lv_aload_n hx hb dL_law_1643 rfl (lv_at hl 0 rfl) ?_
  refine lv_iload hx hb dL_law_1644 (lv_at hl 5 rfl) ?_
  refine lv_iconst (v := nI 1) hx hb dL_law_1646 (by decide) ?_
  refine q_iaddN X dL_law_1647 ?_
  refine q_sld X w hX hbl hbA hL (j := (i + 1)) (by omega) dL_law_1648 ?_
  refine lv_aload_n hx hb dL_law_1649 rfl (lv_at hl 3 rfl) ?_
  refine q_calli w (q_runSW X w (w_L_run l k h (xs (i + 1)) (c_X4_run l k h hst (xs (i + 1)) I.SI (I.rs.ok hn).1) (fun _ _ hp => hp.2.1)) (vx_cwSW 3 hts gL_law_L_run rfl rfl rfl (by decide +kernel) ⟨Nat.le_of_ble_eq_true rfl, Nat.le_of_ble_eq_true rfl⟩) rfl hl.1 rfl (Nat.le_of_ble_eq_true rfl) dL_law_1650 ⟨hcl, hsl⟩) (fun r9 h1 H locs hw w => ?_)
  have km := k_run I hw
  refine lv_istore (lv' := [(6, .int r9), (0, .ref b0), (1, .ref (k.2.1 0)), (2, .ref (k.2.1 91)), (3, .ref (k.2.1 95)), (4, .ref (k.2.1 96)), (5, .int (nI i))]) hx hb dL_law_1653 hl (by decide) rfl (fun ls hl => ?_)
  refine lv_aload_n hx hb dL_law_1655 rfl (lv_at hl 3 rfl) ?_
  refine lv_aload_n hx hb dL_law_1656 rfl (lv_at hl 1 rfl) ?_
  refine lv_iload hx hb dL_law_1657 (lv_at hl 6 rfl) ?_
  refine lv_iconst (v := nI 1) hx hb dL_law_1659 (by decide) ?_
  refine q_iaddN X dL_law_1660 ?_
  refine q_sld X w hX hbl hbA hL (j := (i + 1)) (by omega) dL_law_1661 ?_
  refine q_calli w (q_runV X w 91 (c_X5_run l k h1 (xs (i + 1)) (b := b) km.2 I.1.2 (by rw [km.1]; exact (I.rs.ok hn).2)) (cwV 1 hts gL_law_X5_run rfl rfl rfl (by decide +kernel) ⟨Nat.le_of_ble_eq_true rfl, Nat.le_of_ble_eq_true rfl⟩) (by decide) rfl rfl rfl hl.1 rfl (Nat.le_of_ble_eq_true rfl) dL_law_1662 ⟨hcl, hsl⟩) (fun v9 h2 H locs hm w => ?_)
  obtain ⟨s1, s2, a', b', I'⟩ := s_run I hn hw hm
  refine lv_istore (lv' := [(7, .int v9), (6, .int r9), (0, .ref b0), (1, .ref (k.2.1 0)), (2, .ref (k.2.1 91)), (3, .ref (k.2.1 95)), (4, .ref (k.2.1 96)), (5, .int (nI i))]) hx hb dL_law_1665 hl (by decide) rfl (fun ls hl => ?_)
  refine lv_aload_n hx hb dL_law_1667 rfl (lv_at hl 4 rfl) ?_
  refine q_calli w (q_runV X w 91 (c_X5_thrown l k h2) (cwV 0 hts gL_law_X5_thrown rfl rfl rfl (by decide +kernel) ⟨Nat.le_of_ble_eq_true rfl, Nat.le_of_ble_eq_true rfl⟩) (by decide) rfl rfl rfl hl.1 rfl (Nat.le_of_ble_eq_true rfl) dL_law_1668 ⟨hcl, hsl⟩) (fun r8 h3 H locs hp w => ?_)
  obtain ⟨er8, eh3⟩ := hp
  rw [eh3] at w
  rw [er8, s1]
  refine lv_iload hx hb dL_law_1671 (lv_at hl 1 rfl) ?_
  refine lv_icmp_eq (tgt := 1678) hx hb dL_law_1673 (by decide) (fun c_1673 => ?_) (fun c_1673 => ?_)
  · refine lv_iload hx hb dL_law_1678 (lv_at hl 1 rfl) ?_
    refine lv_if_ne (tgt := 1695) hx hb dL_law_1680 (by decide) (fun c_1680 => ?_) (fun c_1680 => ?_)
    · refine lv_goto (tgt := 1875) hx hb dL_law_1695 (by decide) ?_
      exact hK _ _ _ _ a' b' I' w (lv_sub hl [2, 3, 4, 5, 6, 7] rfl)
    · refine lv_aload_n hx hb dL_law_1683 rfl (lv_at hl 5 rfl) ?_
      refine lv_iconst (v := nI 0) hx hb dL_law_1684 (by decide) ?_
      refine q_lald X w 95 0 (by decide) (fun _ => rfl) rfl (show 0 < 1 by decide) (by decide) dL_law_1685 ?_
      refine lv_iload hx hb dL_law_1686 (lv_at hl 0 rfl) ?_
      refine lv_i2l hx hb dL_law_1688 rfl ?_
      refine q_lif_eq X (tgt := 1695) dL_law_1689 dL_law_1690 (by decide) (fun c_1689 => ?_) (fun c_1689 => ?_)
      · refine lv_goto (tgt := 1875) hx hb dL_law_1695 (by decide) ?_
        exact hK _ _ _ _ a' b' I' w (lv_sub hl [2, 3, 4, 5, 6, 7] rfl)
      · exact absurd (s2 c_1680) c_1689
  · exact absurd rfl c_1673

set_option maxHeartbeats 4000000 in
set_option maxRecDepth 100000 in
theorem lc_inStep (hst : l.stackTraces = false) (X : CallFix p m c cL_law 9 s #[.ref b0] wsL_law RL) (w : WX k s H locs h) (I : IAB n h a b) (hn : n < 512) (hX : va_X b0 L xs s s.heap) (hbl : b0 < s.heap.size) (hbA : ¬ AA k s.heap.size b0) (hL : L ≤ 2048) (hi : i + 4 ≤ L) (hcl : cl + 5 ≤ 601024) (hsl : sl + 30 ≤ 7293034) (hl : lv_has ls 9 [(0, .ref b0), (1, .ref (k.2.1 0)), (2, .ref (k.2.1 91)), (3, .ref (k.2.1 95)), (4, .ref (k.2.1 96)), (5, .int (nI i))]) (hK : ∀ (H : Heap) (locs : List Loc) (ls : Array Slot) (g : hS) (a b : Nat), IAB (n + 1) g a b → WX k s H locs g → lv_has ls 9 [(0, .ref b0), (1, .ref (k.2.1 0)), (2, .ref (k.2.1 91)), (3, .ref (k.2.1 95)), (4, .ref (k.2.1 96)), (5, .int (nI i))] → W p l e room_1 s m #[.ref b0] below meth c H locs (cl + 5) (sl + 30) Q (F0 m 1875 ls [])) : W p l e room_1 s m #[.ref b0] below meth c H locs cl sl Q (F0 m 1698 ls []) := by
  have hx := X.1
  have hb := X.2.1
  have hown := X.2.2.2.1
  have hts := X.2.2.2.2
  refine lv_aload_n hx hb dL_law_1698 rfl (lv_at hl 1 rfl) ?_
  refine lv_aload_n hx hb dL_law_1699 rfl (lv_at hl 0 rfl) ?_
  refine lv_iload hx hb dL_law_1700 (lv_at hl 5 rfl) ?_
  refine lv_iconst (v := nI 1) hx hb dL_law_1702 (by decide) ?_
  refine q_iaddN X dL_law_1703 ?_
  refine q_sld X w hX hbl hbA hL (j := (i + 1)) (by omega) dL_law_1704 ?_
  refine lv_aload_n hx hb dL_law_1705 rfl (lv_at hl 3 rfl) ?_
  refine q_calli w (q_runSW X w (w_L_inStep l k h (xs (i + 1)) (c_X4_inStep l k h hst (xs (i + 1))) (fun _ _ hp => hp.1)) (vx_cwSW 3 hts gL_law_L_inStep rfl rfl rfl (by decide +kernel) ⟨Nat.le_of_ble_eq_true rfl, Nat.le_of_ble_eq_true rfl⟩) rfl hl.1 rfl (Nat.le_of_ble_eq_true rfl) dL_law_1706 ⟨hcl, hsl⟩) (fun r9 h1 H locs hw w => ?_)
  have km := k_inStep I hw
  refine lv_istore (lv' := [(6, .int r9), (0, .ref b0), (1, .ref (k.2.1 0)), (2, .ref (k.2.1 91)), (3, .ref (k.2.1 95)), (4, .ref (k.2.1 96)), (5, .int (nI i))]) hx hb dL_law_1709 hl (by decide) rfl (fun ls hl => ?_)
  refine lv_aload_n hx hb dL_law_1711 rfl (lv_at hl 3 rfl) ?_
  refine lv_aload_n hx hb dL_law_1712 rfl (lv_at hl 1 rfl) ?_
  refine lv_iload hx hb dL_law_1713 (lv_at hl 6 rfl) ?_
  refine lv_iconst (v := nI 1) hx hb dL_law_1715 (by decide) ?_
  refine q_iaddN X dL_law_1716 ?_
  refine q_sld X w hX hbl hbA hL (j := (i + 1)) (by omega) dL_law_1717 ?_
  refine q_calli w (q_runV X w 91 (c_X5_inStep l k h1 (xs (i + 1))) (cwV 1 hts gL_law_X5_inStep rfl rfl rfl (by decide +kernel) ⟨Nat.le_of_ble_eq_true rfl, Nat.le_of_ble_eq_true rfl⟩) (by decide) rfl rfl rfl hl.1 rfl (Nat.le_of_ble_eq_true rfl) dL_law_1718 ⟨hcl, hsl⟩) (fun v9 h2 H locs hm w => ?_)
  obtain ⟨s1, s2, a', b', I'⟩ := s_inStep I hn hw hm
  refine lv_istore (lv' := [(7, .int v9), (6, .int r9), (0, .ref b0), (1, .ref (k.2.1 0)), (2, .ref (k.2.1 91)), (3, .ref (k.2.1 95)), (4, .ref (k.2.1 96)), (5, .int (nI i))]) hx hb dL_law_1721 hl (by decide) rfl (fun ls hl => ?_)
  refine lv_aload_n hx hb dL_law_1723 rfl (lv_at hl 4 rfl) ?_
  refine q_calli w (q_runV X w 91 (c_X5_thrown l k h2) (cwV 0 hts gL_law_X5_thrown rfl rfl rfl (by decide +kernel) ⟨Nat.le_of_ble_eq_true rfl, Nat.le_of_ble_eq_true rfl⟩) (by decide) rfl rfl rfl hl.1 rfl (Nat.le_of_ble_eq_true rfl) dL_law_1724 ⟨hcl, hsl⟩) (fun r8 h3 H locs hp w => ?_)
  obtain ⟨er8, eh3⟩ := hp
  rw [eh3] at w
  rw [er8, s1]
  refine lv_iload hx hb dL_law_1727 (lv_at hl 1 rfl) ?_
  refine lv_icmp_eq (tgt := 1734) hx hb dL_law_1729 (by decide) (fun c_1729 => ?_) (fun c_1729 => ?_)
  · refine lv_iload hx hb dL_law_1734 (lv_at hl 1 rfl) ?_
    refine lv_if_ne (tgt := 1758) hx hb dL_law_1736 (by decide) (fun c_1736 => ?_) (fun c_1736 => ?_)
    · refine lv_goto (tgt := 1875) hx hb dL_law_1758 (by decide) ?_
      exact hK _ _ _ _ a' b' I' w (lv_sub hl [2, 3, 4, 5, 6, 7] rfl)
    · refine lv_aload_n hx hb dL_law_1739 rfl (lv_at hl 5 rfl) ?_
      refine lv_iconst (v := nI 0) hx hb dL_law_1740 (by decide) ?_
      refine q_lald X w 95 0 (by decide) (fun _ => rfl) rfl (show 0 < 1 by decide) (by decide) dL_law_1741 ?_
      refine lv_iload hx hb dL_law_1742 (lv_at hl 0 rfl) ?_
      refine lv_if_eq (tgt := 1751) hx hb dL_law_1744 (by decide) (fun c_1744 => ?_) (fun c_1744 => ?_)
      · refine lv_lconst (v := 0) hx hb dL_law_1751 (by decide) ?_
        refine q_lif_eq X (tgt := 1758) dL_law_1752 dL_law_1753 (by decide) (fun c_1752 => ?_) (fun c_1752 => ?_)
        · refine lv_goto (tgt := 1875) hx hb dL_law_1758 (by decide) ?_
          exact hK _ _ _ _ a' b' I' w (lv_sub hl [2, 3, 4, 5, 6, 7] rfl)
        · exact absurd ((s2 c_1736).trans (by first | rw [if_pos c_1744] | rw [if_neg c_1744])) c_1752
      · refine lv_lconst (v := 1) hx hb dL_law_1747 (by decide) ?_
        refine lv_goto (tgt := 1752) hx hb dL_law_1748 (by decide) ?_
        refine q_lif_eq X (tgt := 1758) dL_law_1752 dL_law_1753 (by decide) (fun c_1752 => ?_) (fun c_1752 => ?_)
        · refine lv_goto (tgt := 1875) hx hb dL_law_1758 (by decide) ?_
          exact hK _ _ _ _ a' b' I' w (lv_sub hl [2, 3, 4, 5, 6, 7] rfl)
        · exact absurd ((s2 c_1736).trans (by first | rw [if_pos c_1744] | rw [if_neg c_1744])) c_1752
  · exact absurd rfl c_1729

set_option maxHeartbeats 4000000 in
set_option maxRecDepth 100000 in
theorem lc_brokenFrames (hst : l.stackTraces = false) (X : CallFix p m c cL_law 9 s #[.ref b0] wsL_law RL) (w : WX k s H locs h) (I : IAB n h a b) (hn : n < 512) (hX : va_X b0 L xs s s.heap) (hbl : b0 < s.heap.size) (hbA : ¬ AA k s.heap.size b0) (hL : L ≤ 2048) (hi : i + 4 ≤ L) (hcl : cl + 5 ≤ 601024) (hsl : sl + 30 ≤ 7293034) (hl : lv_has ls 9 [(0, .ref b0), (1, .ref (k.2.1 0)), (2, .ref (k.2.1 91)), (3, .ref (k.2.1 95)), (4, .ref (k.2.1 96)), (5, .int (nI i))]) (hK : ∀ (H : Heap) (locs : List Loc) (ls : Array Slot) (g : hS) (a b : Nat), IAB (n + 1) g a b → WX k s H locs g → lv_has ls 9 [(0, .ref b0), (1, .ref (k.2.1 0)), (2, .ref (k.2.1 91)), (3, .ref (k.2.1 95)), (4, .ref (k.2.1 96)), (5, .int (nI i))] → W p l e room_1 s m #[.ref b0] below meth c H locs (cl + 5) (sl + 30) Q (F0 m 1875 ls [])) : W p l e room_1 s m #[.ref b0] below meth c H locs cl sl Q (F0 m 1761 ls []) := by
  have hx := X.1
  have hb := X.2.1
  have hown := X.2.2.2.1
  have hts := X.2.2.2.2
  refine lv_aload_n hx hb dL_law_1761 rfl (lv_at hl 1 rfl) ?_
  refine lv_aload_n hx hb dL_law_1762 rfl (lv_at hl 0 rfl) ?_
  refine lv_iload hx hb dL_law_1763 (lv_at hl 5 rfl) ?_
  refine lv_iconst (v := nI 1) hx hb dL_law_1765 (by decide) ?_
  refine q_iaddN X dL_law_1766 ?_
  refine q_sld X w hX hbl hbA hL (j := (i + 1)) (by omega) dL_law_1767 ?_
  refine lv_aload_n hx hb dL_law_1768 rfl (lv_at hl 3 rfl) ?_
  refine q_calli w (q_runSW X w (w_L_brokenFrames l k h (xs (i + 1)) (c_X4_brokenFrames l k h hst (xs (i + 1))) (fun _ _ hp => hp.1)) (vx_cwSW 3 hts gL_law_L_brokenFrames rfl rfl rfl (by decide +kernel) ⟨Nat.le_of_ble_eq_true rfl, Nat.le_of_ble_eq_true rfl⟩) rfl hl.1 rfl (Nat.le_of_ble_eq_true rfl) dL_law_1769 ⟨hcl, hsl⟩) (fun r9 h1 H locs hw w => ?_)
  have km := k_brokenFrames I hw
  refine lv_istore (lv' := [(6, .int r9), (0, .ref b0), (1, .ref (k.2.1 0)), (2, .ref (k.2.1 91)), (3, .ref (k.2.1 95)), (4, .ref (k.2.1 96)), (5, .int (nI i))]) hx hb dL_law_1772 hl (by decide) rfl (fun ls hl => ?_)
  refine lv_aload_n hx hb dL_law_1774 rfl (lv_at hl 3 rfl) ?_
  refine lv_aload_n hx hb dL_law_1775 rfl (lv_at hl 1 rfl) ?_
  refine lv_iload hx hb dL_law_1776 (lv_at hl 6 rfl) ?_
  refine lv_iconst (v := nI 1) hx hb dL_law_1778 (by decide) ?_
  refine q_iaddN X dL_law_1779 ?_
  refine q_sld X w hX hbl hbA hL (j := (i + 1)) (by omega) dL_law_1780 ?_
  refine q_calli w (q_runV X w 91 (c_X5_brokenFrames l k h1 (xs (i + 1))) (cwV 1 hts gL_law_X5_brokenFrames rfl rfl rfl (by decide +kernel) ⟨Nat.le_of_ble_eq_true rfl, Nat.le_of_ble_eq_true rfl⟩) (by decide) rfl rfl rfl hl.1 rfl (Nat.le_of_ble_eq_true rfl) dL_law_1781 ⟨hcl, hsl⟩) (fun v9 h2 H locs hm w => ?_)
  obtain ⟨s1, s2, a', b', I'⟩ := s_brokenFrames I hn hw hm
  refine lv_istore (lv' := [(7, .int v9), (6, .int r9), (0, .ref b0), (1, .ref (k.2.1 0)), (2, .ref (k.2.1 91)), (3, .ref (k.2.1 95)), (4, .ref (k.2.1 96)), (5, .int (nI i))]) hx hb dL_law_1784 hl (by decide) rfl (fun ls hl => ?_)
  refine lv_aload_n hx hb dL_law_1786 rfl (lv_at hl 4 rfl) ?_
  refine q_calli w (q_runV X w 91 (c_X5_thrown l k h2) (cwV 0 hts gL_law_X5_thrown rfl rfl rfl (by decide +kernel) ⟨Nat.le_of_ble_eq_true rfl, Nat.le_of_ble_eq_true rfl⟩) (by decide) rfl rfl rfl hl.1 rfl (Nat.le_of_ble_eq_true rfl) dL_law_1787 ⟨hcl, hsl⟩) (fun r8 h3 H locs hp w => ?_)
  obtain ⟨er8, eh3⟩ := hp
  rw [eh3] at w
  rw [er8, s1]
  refine lv_iload hx hb dL_law_1790 (lv_at hl 1 rfl) ?_
  refine lv_icmp_eq (tgt := 1797) hx hb dL_law_1792 (by decide) (fun c_1792 => ?_) (fun c_1792 => ?_)
  · refine lv_iload hx hb dL_law_1797 (lv_at hl 1 rfl) ?_
    refine lv_if_ne (tgt := 1814) hx hb dL_law_1799 (by decide) (fun c_1799 => ?_) (fun c_1799 => ?_)
    · refine lv_goto (tgt := 1875) hx hb dL_law_1814 (by decide) ?_
      exact hK _ _ _ _ a' b' I' w (lv_sub hl [2, 3, 4, 5, 6, 7] rfl)
    · refine lv_aload_n hx hb dL_law_1802 rfl (lv_at hl 5 rfl) ?_
      refine lv_iconst (v := nI 0) hx hb dL_law_1803 (by decide) ?_
      refine q_lald X w 95 0 (by decide) (fun _ => rfl) rfl (show 0 < 1 by decide) (by decide) dL_law_1804 ?_
      refine lv_iload hx hb dL_law_1805 (lv_at hl 0 rfl) ?_
      refine lv_i2l hx hb dL_law_1807 rfl ?_
      refine q_lif_eq X (tgt := 1814) dL_law_1808 dL_law_1809 (by decide) (fun c_1808 => ?_) (fun c_1808 => ?_)
      · refine lv_goto (tgt := 1875) hx hb dL_law_1814 (by decide) ?_
        exact hK _ _ _ _ a' b' I' w (lv_sub hl [2, 3, 4, 5, 6, 7] rfl)
      · exact absurd (s2 c_1799) c_1808
  · exact absurd rfl c_1792

set_option maxHeartbeats 4000000 in
set_option maxRecDepth 100000 in
theorem lc_undo (hst : l.stackTraces = false) (X : CallFix p m c cL_law 9 s #[.ref b0] wsL_law RL) (w : WX k s H locs h) (I : IAB n h a b) (hn : n < 512) (hX : va_X b0 L xs s s.heap) (hbl : b0 < s.heap.size) (hbA : ¬ AA k s.heap.size b0) (hL : L ≤ 2048) (hi : i + 4 ≤ L) (hcl : cl + 5 ≤ 601024) (hsl : sl + 30 ≤ 7293034) (hl : lv_has ls 9 [(0, .ref b0), (1, .ref (k.2.1 0)), (2, .ref (k.2.1 91)), (3, .ref (k.2.1 95)), (4, .ref (k.2.1 96)), (5, .int (nI i))]) (hK : ∀ (H : Heap) (locs : List Loc) (ls : Array Slot) (g : hS) (a b : Nat), IAB (n + 1) g a b → WX k s H locs g → lv_has ls 9 [(0, .ref b0), (1, .ref (k.2.1 0)), (2, .ref (k.2.1 91)), (3, .ref (k.2.1 95)), (4, .ref (k.2.1 96)), (5, .int (nI i))] → W p l e room_1 s m #[.ref b0] below meth c H locs (cl + 5) (sl + 30) Q (F0 m 1875 ls [])) : W p l e room_1 s m #[.ref b0] below meth c H locs cl sl Q (F0 m 1817 ls []) := by
  have hx := X.1
  have hb := X.2.1
  have hown := X.2.2.2.1
  have hts := X.2.2.2.2
  refine lv_aload_n hx hb dL_law_1817 rfl (lv_at hl 1 rfl) ?_
  refine lv_aload_n hx hb dL_law_1818 rfl (lv_at hl 3 rfl) ?_
  refine q_calli w (q_runSW X w (w_L_undo l k h (c_X4_undo l k h hst I.SI I.fu) (fun _ _ hp => hp.2.1)) (vx_cwSW 2 hts gL_law_L_undo rfl rfl rfl (by decide +kernel) ⟨Nat.le_of_ble_eq_true rfl, Nat.le_of_ble_eq_true rfl⟩) rfl hl.1 rfl (Nat.le_of_ble_eq_true rfl) dL_law_1819 ⟨hcl, hsl⟩) (fun r9 h1 H locs hw w => ?_)
  have km := k_undo I hw
  refine lv_istore (lv' := [(6, .int r9), (0, .ref b0), (1, .ref (k.2.1 0)), (2, .ref (k.2.1 91)), (3, .ref (k.2.1 95)), (4, .ref (k.2.1 96)), (5, .int (nI i))]) hx hb dL_law_1822 hl (by decide) rfl (fun ls hl => ?_)
  refine lv_aload_n hx hb dL_law_1824 rfl (lv_at hl 3 rfl) ?_
  refine q_calli w (q_runV X w 91 (c_X5_undo l k h1 (b := b) km.2 I.1.2) (cwV 0 hts gL_law_X5_undo rfl rfl rfl (by decide +kernel) ⟨Nat.le_of_ble_eq_true rfl, Nat.le_of_ble_eq_true rfl⟩) (by decide) rfl rfl rfl hl.1 rfl (Nat.le_of_ble_eq_true rfl) dL_law_1825 ⟨hcl, hsl⟩) (fun v9 h2 H locs hm w => ?_)
  obtain ⟨s1, s2, a', b', I'⟩ := s_undo I hn hw hm
  refine lv_istore (lv' := [(7, .int v9), (6, .int r9), (0, .ref b0), (1, .ref (k.2.1 0)), (2, .ref (k.2.1 91)), (3, .ref (k.2.1 95)), (4, .ref (k.2.1 96)), (5, .int (nI i))]) hx hb dL_law_1828 hl (by decide) rfl (fun ls hl => ?_)
  refine lv_aload_n hx hb dL_law_1830 rfl (lv_at hl 4 rfl) ?_
  refine q_calli w (q_runV X w 91 (c_X5_thrown l k h2) (cwV 0 hts gL_law_X5_thrown rfl rfl rfl (by decide +kernel) ⟨Nat.le_of_ble_eq_true rfl, Nat.le_of_ble_eq_true rfl⟩) (by decide) rfl rfl rfl hl.1 rfl (Nat.le_of_ble_eq_true rfl) dL_law_1831 ⟨hcl, hsl⟩) (fun r8 h3 H locs hp w => ?_)
  obtain ⟨er8, eh3⟩ := hp
  rw [eh3] at w
  rw [er8, s1]
  refine lv_iload hx hb dL_law_1834 (lv_at hl 1 rfl) ?_
  refine lv_icmp_eq (tgt := 1841) hx hb dL_law_1836 (by decide) (fun c_1836 => ?_) (fun c_1836 => ?_)
  · refine lv_iload hx hb dL_law_1841 (lv_at hl 1 rfl) ?_
    refine lv_if_ne (tgt := 1858) hx hb dL_law_1843 (by decide) (fun c_1843 => ?_) (fun c_1843 => ?_)
    · refine lv_goto (tgt := 1875) hx hb dL_law_1858 (by decide) ?_
      exact hK _ _ _ _ a' b' I' w (lv_sub hl [2, 3, 4, 5, 6, 7] rfl)
    · refine lv_aload_n hx hb dL_law_1846 rfl (lv_at hl 5 rfl) ?_
      refine lv_iconst (v := nI 0) hx hb dL_law_1847 (by decide) ?_
      refine q_lald X w 95 0 (by decide) (fun _ => rfl) rfl (show 0 < 1 by decide) (by decide) dL_law_1848 ?_
      refine lv_iload hx hb dL_law_1849 (lv_at hl 0 rfl) ?_
      refine lv_i2l hx hb dL_law_1851 rfl ?_
      refine q_lif_eq X (tgt := 1858) dL_law_1852 dL_law_1853 (by decide) (fun c_1852 => ?_) (fun c_1852 => ?_)
      · refine lv_goto (tgt := 1875) hx hb dL_law_1858 (by decide) ?_
        exact hK _ _ _ _ a' b' I' w (lv_sub hl [2, 3, 4, 5, 6, 7] rfl)
      · exact absurd (s2 c_1843) c_1852
  · exact absurd rfl c_1836

set_option maxHeartbeats 4000000 in
set_option maxRecDepth 100000 in
theorem lc_digest (hst : l.stackTraces = false) (X : CallFix p m c cL_law 9 s #[.ref b0] wsL_law RL) (w : WX k s H locs h) (I : IAB n h a b) (hn : n < 512) (hX : va_X b0 L xs s s.heap) (hbl : b0 < s.heap.size) (hbA : ¬ AA k s.heap.size b0) (hL : L ≤ 2048) (hi : i + 4 ≤ L) (hcl : cl + 5 ≤ 601024) (hsl : sl + 30 ≤ 7293034) (hl : lv_has ls 9 [(0, .ref b0), (1, .ref (k.2.1 0)), (2, .ref (k.2.1 91)), (3, .ref (k.2.1 95)), (4, .ref (k.2.1 96)), (5, .int (nI i))]) (hK : ∀ (H : Heap) (locs : List Loc) (ls : Array Slot) (g : hS) (a b : Nat), IAB (n + 1) g a b → WX k s H locs g → lv_has ls 9 [(0, .ref b0), (1, .ref (k.2.1 0)), (2, .ref (k.2.1 91)), (3, .ref (k.2.1 95)), (4, .ref (k.2.1 96)), (5, .int (nI i))] → W p l e room_1 s m #[.ref b0] below meth c H locs (cl + 5) (sl + 30) Q (F0 m 1875 ls [])) : W p l e room_1 s m #[.ref b0] below meth c H locs cl sl Q (F0 m 1861 ls []) := by
  have hx := X.1
  have hb := X.2.1
  have hown := X.2.2.2.1
  have hts := X.2.2.2.2
  refine W.widen (k := cl + 5) (n := sl + 30) (by omega) (by omega) ?_
  refine lv_aload_n hx hb dL_law_1861 rfl (lv_at hl 1 rfl) ?_
  refine q_calll w (q_runV X w 0 (c_X4_digest l k h) (cwV 0 hts gL_law_X4_digest rfl rfl rfl (by decide +kernel) ⟨Nat.le_of_ble_eq_true rfl, Nat.le_of_ble_eq_true rfl⟩) (by decide) rfl rfl rfl hl.1 rfl (Nat.le_of_ble_eq_true rfl) dL_law_1862 ⟨hcl, hsl⟩) (fun v7 h1 H locs hw w => ?_)
  have km := k_digest I hw
  refine lv_aload_n hx hb dL_law_1865 rfl (lv_at hl 2 rfl) ?_
  refine q_calll w (q_runV X w 91 (c_X5_digest l k h1 (b := b) km.2 I.1.2 (by rw [km.1]; exact I.rc.ok1)) (cwV 0 hts gL_law_X5_digest rfl rfl rfl (by decide +kernel) ⟨Nat.le_of_ble_eq_true rfl, Nat.le_of_ble_eq_true rfl⟩) (by decide) rfl rfl rfl hl.1 rfl (Nat.le_of_ble_eq_true rfl) dL_law_1866 ⟨hcl, hsl⟩) (fun v9 h2 H locs hm w => ?_)
  obtain ⟨s1, a', b', I'⟩ := s_digest I hw hm
  refine q_lif_eq X (tgt := 1875) dL_law_1869 dL_law_1870 (by decide) (fun c_1869 => ?_) (fun c_1869 => ?_)
  · exact hK _ _ _ _ a' b' I' w (lv_sub hl [0, 1, 2, 3, 4, 5] rfl)
  · exact absurd s1 c_1869

end LC
