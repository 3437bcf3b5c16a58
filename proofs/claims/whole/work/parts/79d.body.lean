/-! the law's body: cases, 4 -/
set_option maxHeartbeats 4000000 in
set_option maxRecDepth 100000 in
theorem cs_21 {p : Program} {l : Launch} {e : Env} {s : State} {m : MethodId} {below : List Frame} {meth : Method} {c : Code} {b0 L : Nat} {xs : Nat → Int32} {D : va_G} {cy : Nat → ClassId} {ad bd : Nat → Nat} {ao aq : Nat} {fo : Nat → Int64} {fd : Nat → UInt64} {I J : AI} {S T : AS} {i cells slots : Nat} {H : Heap} {locs : List Loc} {Q : State → Prop} {ls : Array Slot} (C0 : LCx p l s m c b0 L xs D cy) (hI : Inv I S J T) (hi : i + 7 ≤ L) (hcc : cells + 8 ≤ 603072) (hss : slots + 48 ≤ 7202922) (hP : va_P D clW (wL cy ad I S ao aq fo fd bd J T) H) (hD : va_D (lcA s) (wL cy ad I S ao aq fo fd bd J T)) (hS : va_S (lcA s) s.heap H locs) (hl : lv_has ls 9 (lcL b0 ad bd ao aq i)) (hkk : LK p l e s m b0 below meth c D cy ad bd ao aq i (cells + 8) (slots + 48) Q) : W p l e room_1 s m #[Value.ref b0] below meth c H locs cells slots Q (F0 m 1432 ls []) := by
  obtain ⟨hx, hb, hml, hown, hts, hl0, hX, hbl, hL, hC, hK, hE, hZ⟩ := C0
  obtain ⟨en, k, n, h, len, sl, fr, to, o, c9, osl, ofr, oto, V⟩ := hI
  have hk8 : k ≤ 256 := Nat.le_trans V.k8 (by decide)
  have hci := V.civ
  have hA : ∀ q : Nat, s.heap.size ≤ q → lcA s q := fun q h => h
  have hbA : ¬ lcA s b0 := Nat.not_le.mpr hbl
  have hl : lv_has ls 9 [(0, .ref b0), (1, .ref (ad 0)), (2, .ref (bd 0)), (3, .ref ao), (4, .ref aq), (5, .int (nI i))] := hl
  refine lv_aload_n hx hb dL_law_1432 rfl (lv_at hl 1 rfl) ?_
  refine lv_aload_n hx hb dL_law_1433 rfl (lv_at hl 0 rfl) ?_
  refine lv_iload hx hb dL_law_1434 (lv_at hl 5 rfl) ?_
  refine lv_iconst (v := 1) hx hb dL_law_1436 (by decide) ?_
  refine lv_iadd hx hb dL_law_1437 ?_
  refine top_eq (y := nI (i + 1)) (nI_add i 1) ?_
  obtain ⟨a1, ha1⟩ : ∃ z : Int32, z = xs (i + 1) := ⟨_, rfl⟩
  refine va_sld hx hb hX hbl hbA hS (vp_in_nI (n := (i + 1)) (by omega) (by omega)) dL_law_1438 ?_
  refine top_eq (y := a1) (by rw [ha1, nI_clamp (by omega)]) ?_
  refine lv_aload_n hx hb dL_law_1439 rfl (lv_at hl 0 rfl) ?_
  refine lv_iload hx hb dL_law_1440 (lv_at hl 5 rfl) ?_
  refine lv_iconst (v := 2) hx hb dL_law_1442 (by decide) ?_
  refine lv_iadd hx hb dL_law_1443 ?_
  refine top_eq (y := nI (i + 2)) (nI_add i 2) ?_
  obtain ⟨a2, ha2⟩ : ∃ z : Int32, z = xs (i + 2) := ⟨_, rfl⟩
  refine va_sld hx hb hX hbl hbA hS (vp_in_nI (n := (i + 2)) (by omega) (by omega)) dL_law_1444 ?_
  refine top_eq (y := a2) (by rw [ha2, nI_clamp (by omega)]) ?_
  refine lv_aload_n hx hb dL_law_1445 rfl (lv_at hl 0 rfl) ?_
  refine lv_iload hx hb dL_law_1446 (lv_at hl 5 rfl) ?_
  refine lv_iconst (v := 3) hx hb dL_law_1448 (by decide) ?_
  refine lv_iadd hx hb dL_law_1449 ?_
  refine top_eq (y := nI (i + 3)) (nI_add i 3) ?_
  obtain ⟨a3, ha3⟩ : ∃ z : Int32, z = xs (i + 3) := ⟨_, rfl⟩
  refine va_sld hx hb hX hbl hbA hS (vp_in_nI (n := (i + 3)) (by omega) (by omega)) dL_law_1450 ?_
  refine top_eq (y := a3) (by rw [ha3, nI_clamp (by omega)]) ?_
  refine lv_aload_n hx hb dL_law_1451 rfl (lv_at hl 3 rfl) ?_
  have hPc : va_P D clW ([] ++ ((wC cy ad I S ++ oLD cy ao aq fo fd) ++ wM cy bd J T)) H := hP
  have hDc : va_D (lcA s) ([] ++ ((wC cy ad I S ++ oLD cy ao aq fo fd) ++ wM cy bd J T)) := hD
  refine bwI_call (vx_runSW (As := [.ref (ad 0), .int a1, .int a2, .int a3, .ref ao]) (rest := []) ⟨hx, hb, hml, hown, hts⟩ (c_L_periodCount l hl0 D cy ad I S H.size a1 a2 a3 k n h fr to ofr oto hci ao aq fo fd) (cws_L_218 hts rfl rfl ⟨Nat.le_of_ble_eq_true rfl, Nat.le_of_ble_eq_true rfl⟩) (preSL hC hK hE (hZ.now hS) (blkF hDc hS hA) (blkY hPc) (blkYD hDc)) rfl rfl hl.1 rfl (lv_room (Nat.le_of_ble_eq_true rfl)) dL_law_1452 ⟨(by show cells + 4 ≤ 603072; omega), (by show slots + 24 ≤ 7202922; omega)⟩) hPc hDc hS hA (fun _ => rfl) (fun r u H locs hr_ hP hD hS => ?_)
  obtain ⟨I2, S2, fo2⟩ := u
  obtain ⟨val, hc9, hs9, hv9⟩ := hr_
  dsimp only at hc9 hs9 hv9
  have hP : va_P D clW (wL cy ad I2 S2 ao aq fo2 fd bd J T) H := hP
  have hD : va_D (lcA s) (wL cy ad I2 S2 ao aq fo2 fd bd J T) := hD
  refine lv_istore (lv' := [(6, .int r), (0, .ref b0), (1, .ref (ad 0)), (2, .ref (bd 0)), (3, .ref ao), (4, .ref aq), (5, .int (nI i))]) hx hb dL_law_1455 hl (by decide) rfl (fun ls hl => ?_)
  refine lv_aload_n hx hb dL_law_1457 rfl (lv_at hl 3 rfl) ?_
  refine lv_aload_n hx hb dL_law_1458 rfl (lv_at hl 1 rfl) ?_
  refine lv_iload hx hb dL_law_1459 (lv_at hl 6 rfl) ?_
  refine lv_iconst (v := 1) hx hb dL_law_1461 (by decide) ?_
  refine lv_iadd hx hb dL_law_1462 ?_
  refine top_eq (y := nI (i + 1)) (nI_add i 1) ?_
  refine va_sld hx hb hX hbl hbA hS (vp_in_nI (n := (i + 1)) (by omega) (by omega)) dL_law_1463 ?_
  refine top_eq (y := a1) (by rw [ha1, nI_clamp (by omega)]) ?_
  refine lv_aload_n hx hb dL_law_1464 rfl (lv_at hl 1 rfl) ?_
  refine lv_iload hx hb dL_law_1465 (lv_at hl 6 rfl) ?_
  refine lv_iconst (v := 2) hx hb dL_law_1467 (by decide) ?_
  refine lv_iadd hx hb dL_law_1468 ?_
  refine top_eq (y := nI (i + 2)) (nI_add i 2) ?_
  refine va_sld hx hb hX hbl hbA hS (vp_in_nI (n := (i + 2)) (by omega) (by omega)) dL_law_1469 ?_
  refine top_eq (y := a2) (by rw [ha2, nI_clamp (by omega)]) ?_
  refine lv_aload_n hx hb dL_law_1470 rfl (lv_at hl 1 rfl) ?_
  refine lv_iload hx hb dL_law_1471 (lv_at hl 6 rfl) ?_
  refine lv_iconst (v := 3) hx hb dL_law_1473 (by decide) ?_
  refine lv_iadd hx hb dL_law_1474 ?_
  refine top_eq (y := nI (i + 3)) (nI_add i 3) ?_
  refine va_sld hx hb hX hbl hbA hS (vp_in_nI (n := (i + 3)) (by omega) (by omega)) dL_law_1475 ?_
  refine top_eq (y := a3) (by rw [ha3, nI_clamp (by omega)]) ?_
  have hPm : va_P D clW ((wC cy ad I2 S2 ++ oLD cy ao aq fo2 fd) ++ (wM cy bd J T ++ [])) H := hP
  have hDm : va_D (lcA s) ((wC cy ad I2 S2 ++ oLD cy ao aq fo2 fd) ++ (wM cy bd J T ++ [])) := hD
  refine bwI_call (va_runV (As := [.int a1, .int a2, .int a3]) (rest := []) ⟨hx, hb, hml, hown, hts⟩ (c_X7_periodCount l D cy bd J T H.size a1 a2 a3 k V.2.1.2.2.1 hk8 fr to V.mfr) (cw_L_220 hts rfl rfl ⟨Nat.le_of_ble_eq_true rfl, Nat.le_of_ble_eq_true rfl⟩) (preVW (ci := 7) (q0 := 0) hK (blkY hPm) (blkYD hDm) rfl rfl) rfl rfl hl.1 rfl (lv_room (Nat.le_of_ble_eq_true rfl)) dL_law_1476 ⟨(by show cells + 4 + 0 ≤ 603072; omega), (by show slots + 24 + 0 ≤ 7202922; omega)⟩) hPm hDm hS hA (fun _ => rfl) (fun w u H locs hq hP hD hS => ?_)
  obtain ⟨J2, T2⟩ := u
  have hP : va_P D clW (wL cy ad I2 S2 ao aq fo2 fd bd J2 T2) H := hP
  have hD : va_D (lcA s) (wL cy ad I2 S2 ao aq fo2 fd bd J2 T2) := hD
  obtain ⟨hms, hm1, hm2⟩ := hq
  dsimp only at hms hm1 hm2
  have ha : J2 0 = r ∧ (r = 0 → val = w) := ans_periodCount V hc9 ⟨hm1, hm2⟩
  have hinv : Inv I2 S2 J2 T2 := (V.ask hs9 hms).inv
  refine lv_istore (lv' := [(7, .int w), (6, .int r), (0, .ref b0), (1, .ref (ad 0)), (2, .ref (bd 0)), (3, .ref ao), (4, .ref aq), (5, .int (nI i))]) hx hb dL_law_1479 hl (by decide) rfl (fun ls hl => ?_)
  refine lv_aload_n hx hb dL_law_1481 rfl (lv_at hl 4 rfl) ?_
  have hPm : va_P D clW ((wC cy ad I2 S2 ++ oLD cy ao aq fo2 fd) ++ (wM cy bd J2 T2 ++ [])) H := hP
  refine rI_call (va_runV (As := []) (rest := []) ⟨hx, hb, hml, hown, hts⟩ (c_X7_thrown l D cy bd J2 T2) (cw_L_146 hts rfl rfl ⟨Nat.le_of_ble_eq_true rfl, Nat.le_of_ble_eq_true rfl⟩) (preVR (ci := 7) (q0 := 0) hK (blkY hPm) rfl rfl) rfl rfl hl.1 rfl (lv_room (Nat.le_of_ble_eq_true rfl)) dL_law_1482 ⟨(by show cells + 4 + 0 + 0 ≤ 603072; omega), (by show slots + 24 + 0 + 0 ≤ 7202922; omega)⟩) (fun t9 ht9 => ?_)
  subst ht9
  refine lv_iload hx hb dL_law_1485 (lv_at hl 1 rfl) ?_
  refine lv_icmp_eq (tgt := 1492) hx hb dL_law_1487 (by decide) (fun _ => ?_) (fun c1 => absurd ha.1 c1)
  refine lv_iload hx hb dL_law_1492 (lv_at hl 1 rfl) ?_
  refine lv_if_ne (tgt := 1509) hx hb dL_law_1494 (by decide) (fun _ => ?_) (fun h0 => ?_)
  · refine lv_goto (tgt := 3200) hx hb dL_law_1509 (by decide) ?_
    refine W_wid (k := cells + 8) (n := slots + 48) (by omega) (by omega) ?_
    exact hkk H locs I2 S2 J2 T2 fo2 fd ls hinv hP hD hS (lv_sub hl [2, 3, 4, 5, 6, 7] rfl)
  · have h0 : r = 0 := by first | exact h0 | exact Decidable.not_not.mp h0
    have hw := ha.2 h0
    refine lv_aload_n hx hb dL_law_1497 rfl (lv_at hl 5 rfl) ?_
    refine lv_iconst (v := 0) hx hb dL_law_1498 (by decide) ?_
    refine va_lald hx hb hK hP 29 3 rfl rfl (i := 0) vp_in01 dL_law_1499 ?_
    refine top_eqL (y := val.toInt64) (hv9 h0) ?_
    refine lv_iload hx hb dL_law_1500 (lv_at hl 0 rfl) ?_
    refine lv_i2l (v := w.toInt64) hx hb dL_law_1502 rfl ?_
    refine lc_eq (tgt := 1509) hx hb dL_law_1503 dL_law_1504 (by decide) (fun _ => ?_) (fun c2 => absurd (by rw [hw]) c2)
    refine lv_goto (tgt := 3200) hx hb dL_law_1509 (by decide) ?_
    refine W_wid (k := cells + 8) (n := slots + 48) (by omega) (by omega) ?_
    exact hkk H locs I2 S2 J2 T2 fo2 fd ls hinv hP hD hS (lv_sub hl [2, 3, 4, 5, 6, 7] rfl)

set_option maxHeartbeats 4000000 in
set_option maxRecDepth 100000 in
theorem cs_22 {p : Program} {l : Launch} {e : Env} {s : State} {m : MethodId} {below : List Frame} {meth : Method} {c : Code} {b0 L : Nat} {xs : Nat → Int32} {D : va_G} {cy : Nat → ClassId} {ad bd : Nat → Nat} {ao aq : Nat} {fo : Nat → Int64} {fd : Nat → UInt64} {I J : AI} {S T : AS} {i cells slots : Nat} {H : Heap} {locs : List Loc} {Q : State → Prop} {ls : Array Slot} (C0 : LCx p l s m c b0 L xs D cy) (hI : Inv I S J T) (hi : i + 7 ≤ L) (hcc : cells + 8 ≤ 603072) (hss : slots + 48 ≤ 7202922) (hP : va_P D clW (wL cy ad I S ao aq fo fd bd J T) H) (hD : va_D (lcA s) (wL cy ad I S ao aq fo fd bd J T)) (hS : va_S (lcA s) s.heap H locs) (hl : lv_has ls 9 (lcL b0 ad bd ao aq i)) (hkk : LK p l e s m b0 below meth c D cy ad bd ao aq i (cells + 8) (slots + 48) Q) : W p l e room_1 s m #[Value.ref b0] below meth c H locs cells slots Q (F0 m 1512 ls []) := by
  obtain ⟨hx, hb, hml, hown, hts, hl0, hX, hbl, hL, hC, hK, hE, hZ⟩ := C0
  obtain ⟨en, k, n, h, len, sl, fr, to, o, c9, osl, ofr, oto, V⟩ := hI
  have hk8 : k ≤ 256 := Nat.le_trans V.k8 (by decide)
  have hci := V.civ
  have hA : ∀ q : Nat, s.heap.size ≤ q → lcA s q := fun q h => h
  have hbA : ¬ lcA s b0 := Nat.not_le.mpr hbl
  have hl : lv_has ls 9 [(0, .ref b0), (1, .ref (ad 0)), (2, .ref (bd 0)), (3, .ref ao), (4, .ref aq), (5, .int (nI i))] := hl
  refine lv_aload_n hx hb dL_law_1512 rfl (lv_at hl 1 rfl) ?_
  refine lv_aload_n hx hb dL_law_1513 rfl (lv_at hl 0 rfl) ?_
  refine lv_iload hx hb dL_law_1514 (lv_at hl 5 rfl) ?_
  refine lv_iconst (v := 1) hx hb dL_law_1516 (by decide) ?_
  refine lv_iadd hx hb dL_law_1517 ?_
  refine top_eq (y := nI (i + 1)) (nI_add i 1) ?_
  obtain ⟨a1, ha1⟩ : ∃ z : Int32, z = xs (i + 1) := ⟨_, rfl⟩
  refine va_sld hx hb hX hbl hbA hS (vp_in_nI (n := (i + 1)) (by omega) (by omega)) dL_law_1518 ?_
  refine top_eq (y := a1) (by rw [ha1, nI_clamp (by omega)]) ?_
  refine lv_aload_n hx hb dL_law_1519 rfl (lv_at hl 0 rfl) ?_
  refine lv_iload hx hb dL_law_1520 (lv_at hl 5 rfl) ?_
  refine lv_iconst (v := 2) hx hb dL_law_1522 (by decide) ?_
  refine lv_iadd hx hb dL_law_1523 ?_
  refine top_eq (y := nI (i + 2)) (nI_add i 2) ?_
  obtain ⟨a2, ha2⟩ : ∃ z : Int32, z = xs (i + 2) := ⟨_, rfl⟩
  refine va_sld hx hb hX hbl hbA hS (vp_in_nI (n := (i + 2)) (by omega) (by omega)) dL_law_1524 ?_
  refine top_eq (y := a2) (by rw [ha2, nI_clamp (by omega)]) ?_
  refine lv_aload_n hx hb dL_law_1525 rfl (lv_at hl 0 rfl) ?_
  refine lv_iload hx hb dL_law_1526 (lv_at hl 5 rfl) ?_
  refine lv_iconst (v := 3) hx hb dL_law_1528 (by decide) ?_
  refine lv_iadd hx hb dL_law_1529 ?_
  refine top_eq (y := nI (i + 3)) (nI_add i 3) ?_
  obtain ⟨a3, ha3⟩ : ∃ z : Int32, z = xs (i + 3) := ⟨_, rfl⟩
  refine va_sld hx hb hX hbl hbA hS (vp_in_nI (n := (i + 3)) (by omega) (by omega)) dL_law_1530 ?_
  refine top_eq (y := a3) (by rw [ha3, nI_clamp (by omega)]) ?_
  refine lv_aload_n hx hb dL_law_1531 rfl (lv_at hl 0 rfl) ?_
  refine lv_iload hx hb dL_law_1532 (lv_at hl 5 rfl) ?_
  refine lv_iconst (v := 4) hx hb dL_law_1534 (by decide) ?_
  refine lv_iadd hx hb dL_law_1535 ?_
  refine top_eq (y := nI (i + 4)) (nI_add i 4) ?_
  obtain ⟨a4, ha4⟩ : ∃ z : Int32, z = xs (i + 4) := ⟨_, rfl⟩
  refine va_sld hx hb hX hbl hbA hS (vp_in_nI (n := (i + 4)) (by omega) (by omega)) dL_law_1536 ?_
  refine top_eq (y := a4) (by rw [ha4, nI_clamp (by omega)]) ?_
  refine lv_aload_n hx hb dL_law_1537 rfl (lv_at hl 3 rfl) ?_
  have hPc : va_P D clW ([] ++ ((wC cy ad I S ++ oLD cy ao aq fo fd) ++ wM cy bd J T)) H := hP
  have hDc : va_D (lcA s) ([] ++ ((wC cy ad I S ++ oLD cy ao aq fo fd) ++ wM cy bd J T)) := hD
  refine bwI_call (vx_runSW (As := [.ref (ad 0), .int a1, .int a2, .int a3, .int a4, .ref ao]) (rest := []) ⟨hx, hb, hml, hown, hts⟩ (c_L_periodFrom l hl0 D cy ad I S H.size a1 a2 a3 a4 k n h fr to ofr oto hci ao aq fo fd) (cws_L_221 hts rfl rfl ⟨Nat.le_of_ble_eq_true rfl, Nat.le_of_ble_eq_true rfl⟩) (preSL hC hK hE (hZ.now hS) (blkF hDc hS hA) (blkY hPc) (blkYD hDc)) rfl rfl hl.1 rfl (lv_room (Nat.le_of_ble_eq_true rfl)) dL_law_1538 ⟨(by show cells + 5 ≤ 603072; omega), (by show slots + 30 ≤ 7202922; omega)⟩) hPc hDc hS hA (fun _ => rfl) (fun r u H locs hr_ hP hD hS => ?_)
  obtain ⟨I2, S2, fo2⟩ := u
  obtain ⟨val, hc9, hs9, hv9⟩ := hr_
  dsimp only at hc9 hs9 hv9
  have hP : va_P D clW (wL cy ad I2 S2 ao aq fo2 fd bd J T) H := hP
  have hD : va_D (lcA s) (wL cy ad I2 S2 ao aq fo2 fd bd J T) := hD
  refine lv_istore (lv' := [(6, .int r), (0, .ref b0), (1, .ref (ad 0)), (2, .ref (bd 0)), (3, .ref ao), (4, .ref aq), (5, .int (nI i))]) hx hb dL_law_1541 hl (by decide) rfl (fun ls hl => ?_)
  refine lv_aload_n hx hb dL_law_1543 rfl (lv_at hl 3 rfl) ?_
  refine lv_aload_n hx hb dL_law_1544 rfl (lv_at hl 1 rfl) ?_
  refine lv_iload hx hb dL_law_1545 (lv_at hl 6 rfl) ?_
  refine lv_iconst (v := 1) hx hb dL_law_1547 (by decide) ?_
  refine lv_iadd hx hb dL_law_1548 ?_
  refine top_eq (y := nI (i + 1)) (nI_add i 1) ?_
  refine va_sld hx hb hX hbl hbA hS (vp_in_nI (n := (i + 1)) (by omega) (by omega)) dL_law_1549 ?_
  refine top_eq (y := a1) (by rw [ha1, nI_clamp (by omega)]) ?_
  refine lv_aload_n hx hb dL_law_1550 rfl (lv_at hl 1 rfl) ?_
  refine lv_iload hx hb dL_law_1551 (lv_at hl 6 rfl) ?_
  refine lv_iconst (v := 2) hx hb dL_law_1553 (by decide) ?_
  refine lv_iadd hx hb dL_law_1554 ?_
  refine top_eq (y := nI (i + 2)) (nI_add i 2) ?_
  refine va_sld hx hb hX hbl hbA hS (vp_in_nI (n := (i + 2)) (by omega) (by omega)) dL_law_1555 ?_
  refine top_eq (y := a2) (by rw [ha2, nI_clamp (by omega)]) ?_
  refine lv_aload_n hx hb dL_law_1556 rfl (lv_at hl 1 rfl) ?_
  refine lv_iload hx hb dL_law_1557 (lv_at hl 6 rfl) ?_
  refine lv_iconst (v := 3) hx hb dL_law_1559 (by decide) ?_
  refine lv_iadd hx hb dL_law_1560 ?_
  refine top_eq (y := nI (i + 3)) (nI_add i 3) ?_
  refine va_sld hx hb hX hbl hbA hS (vp_in_nI (n := (i + 3)) (by omega) (by omega)) dL_law_1561 ?_
  refine top_eq (y := a3) (by rw [ha3, nI_clamp (by omega)]) ?_
  refine lv_aload_n hx hb dL_law_1562 rfl (lv_at hl 1 rfl) ?_
  refine lv_iload hx hb dL_law_1563 (lv_at hl 6 rfl) ?_
  refine lv_iconst (v := 4) hx hb dL_law_1565 (by decide) ?_
  refine lv_iadd hx hb dL_law_1566 ?_
  refine top_eq (y := nI (i + 4)) (nI_add i 4) ?_
  refine va_sld hx hb hX hbl hbA hS (vp_in_nI (n := (i + 4)) (by omega) (by omega)) dL_law_1567 ?_
  refine top_eq (y := a4) (by rw [ha4, nI_clamp (by omega)]) ?_
  have hPm : va_P D clW ((wC cy ad I2 S2 ++ oLD cy ao aq fo2 fd) ++ (wM cy bd J T ++ [])) H := hP
  have hDm : va_D (lcA s) ((wC cy ad I2 S2 ++ oLD cy ao aq fo2 fd) ++ (wM cy bd J T ++ [])) := hD
  refine bwI_call (va_runV (As := [.int a1, .int a2, .int a3, .int a4]) (rest := []) ⟨hx, hb, hml, hown, hts⟩ (c_X7_periodFrom l D cy bd J T H.size a1 a2 a3 a4 k V.2.1.2.2.1 hk8 fr to V.mfr) (cw_L_223 hts rfl rfl ⟨Nat.le_of_ble_eq_true rfl, Nat.le_of_ble_eq_true rfl⟩) (preVW (ci := 7) (q0 := 0) hK (blkY hPm) (blkYD hDm) rfl rfl) rfl rfl hl.1 rfl (lv_room (Nat.le_of_ble_eq_true rfl)) dL_law_1568 ⟨(by show cells + 5 + 0 ≤ 603072; omega), (by show slots + 30 + 0 ≤ 7202922; omega)⟩) hPm hDm hS hA (fun _ => rfl) (fun w u H locs hq hP hD hS => ?_)
  obtain ⟨J2, T2⟩ := u
  have hP : va_P D clW (wL cy ad I2 S2 ao aq fo2 fd bd J2 T2) H := hP
  have hD : va_D (lcA s) (wL cy ad I2 S2 ao aq fo2 fd bd J2 T2) := hD
  obtain ⟨hms, hm1, hm2⟩ := hq
  dsimp only at hms hm1 hm2
  have ha : J2 0 = r ∧ (r = 0 → val = w) := ans_period V (f := (jpS S (slI a1 a2) (slI a1 a2) a3 fr to k).2.1) (g := (pmM T (slM a1 a2) a3 fr to k).2.1) (fun q j hj => ((V.per q).2 j hj).1) hc9 ⟨hm1, hm2⟩
  have hinv : Inv I2 S2 J2 T2 := (V.ask hs9 hms).inv
  refine lv_istore (lv' := [(7, .int w), (6, .int r), (0, .ref b0), (1, .ref (ad 0)), (2, .ref (bd 0)), (3, .ref ao), (4, .ref aq), (5, .int (nI i))]) hx hb dL_law_1571 hl (by decide) rfl (fun ls hl => ?_)
  refine lv_aload_n hx hb dL_law_1573 rfl (lv_at hl 4 rfl) ?_
  have hPm : va_P D clW ((wC cy ad I2 S2 ++ oLD cy ao aq fo2 fd) ++ (wM cy bd J2 T2 ++ [])) H := hP
  refine rI_call (va_runV (As := []) (rest := []) ⟨hx, hb, hml, hown, hts⟩ (c_X7_thrown l D cy bd J2 T2) (cw_L_146 hts rfl rfl ⟨Nat.le_of_ble_eq_true rfl, Nat.le_of_ble_eq_true rfl⟩) (preVR (ci := 7) (q0 := 0) hK (blkY hPm) rfl rfl) rfl rfl hl.1 rfl (lv_room (Nat.le_of_ble_eq_true rfl)) dL_law_1574 ⟨(by show cells + 5 + 0 + 0 ≤ 603072; omega), (by show slots + 30 + 0 + 0 ≤ 7202922; omega)⟩) (fun t9 ht9 => ?_)
  subst ht9
  refine lv_iload hx hb dL_law_1577 (lv_at hl 1 rfl) ?_
  refine lv_icmp_eq (tgt := 1584) hx hb dL_law_1579 (by decide) (fun _ => ?_) (fun c1 => absurd ha.1 c1)
  refine lv_iload hx hb dL_law_1584 (lv_at hl 1 rfl) ?_
  refine lv_if_ne (tgt := 1601) hx hb dL_law_1586 (by decide) (fun _ => ?_) (fun h0 => ?_)
  · refine lv_goto (tgt := 3200) hx hb dL_law_1601 (by decide) ?_
    refine W_wid (k := cells + 8) (n := slots + 48) (by omega) (by omega) ?_
    exact hkk H locs I2 S2 J2 T2 fo2 fd ls hinv hP hD hS (lv_sub hl [2, 3, 4, 5, 6, 7] rfl)
  · have h0 : r = 0 := by first | exact h0 | exact Decidable.not_not.mp h0
    have hw := ha.2 h0
    refine lv_aload_n hx hb dL_law_1589 rfl (lv_at hl 5 rfl) ?_
    refine lv_iconst (v := 0) hx hb dL_law_1590 (by decide) ?_
    refine va_lald hx hb hK hP 29 3 rfl rfl (i := 0) vp_in01 dL_law_1591 ?_
    refine top_eqL (y := val.toInt64) (hv9 h0) ?_
    refine lv_iload hx hb dL_law_1592 (lv_at hl 0 rfl) ?_
    refine lv_i2l (v := w.toInt64) hx hb dL_law_1594 rfl ?_
    refine lc_eq (tgt := 1601) hx hb dL_law_1595 dL_law_1596 (by decide) (fun _ => ?_) (fun c2 => absurd (by rw [hw]) c2)
    refine lv_goto (tgt := 3200) hx hb dL_law_1601 (by decide) ?_
    refine W_wid (k := cells + 8) (n := slots + 48) (by omega) (by omega) ?_
    exact hkk H locs I2 S2 J2 T2 fo2 fd ls hinv hP hD hS (lv_sub hl [2, 3, 4, 5, 6, 7] rfl)

set_option maxHeartbeats 4000000 in
set_option maxRecDepth 100000 in
theorem cs_23 {p : Program} {l : Launch} {e : Env} {s : State} {m : MethodId} {below : List Frame} {meth : Method} {c : Code} {b0 L : Nat} {xs : Nat → Int32} {D : va_G} {cy : Nat → ClassId} {ad bd : Nat → Nat} {ao aq : Nat} {fo : Nat → Int64} {fd : Nat → UInt64} {I J : AI} {S T : AS} {i cells slots : Nat} {H : Heap} {locs : List Loc} {Q : State → Prop} {ls : Array Slot} (C0 : LCx p l s m c b0 L xs D cy) (hI : Inv I S J T) (hi : i + 7 ≤ L) (hcc : cells + 8 ≤ 603072) (hss : slots + 48 ≤ 7202922) (hP : va_P D clW (wL cy ad I S ao aq fo fd bd J T) H) (hD : va_D (lcA s) (wL cy ad I S ao aq fo fd bd J T)) (hS : va_S (lcA s) s.heap H locs) (hl : lv_has ls 9 (lcL b0 ad bd ao aq i)) (hkk : LK p l e s m b0 below meth c D cy ad bd ao aq i (cells + 8) (slots + 48) Q) : W p l e room_1 s m #[Value.ref b0] below meth c H locs cells slots Q (F0 m 1604 ls []) := by
  obtain ⟨hx, hb, hml, hown, hts, hl0, hX, hbl, hL, hC, hK, hE, hZ⟩ := C0
  obtain ⟨en, k, n, h, len, sl, fr, to, o, c9, osl, ofr, oto, V⟩ := hI
  have hk8 : k ≤ 256 := Nat.le_trans V.k8 (by decide)
  have hci := V.civ
  have hA : ∀ q : Nat, s.heap.size ≤ q → lcA s q := fun q h => h
  have hbA : ¬ lcA s b0 := Nat.not_le.mpr hbl
  have hl : lv_has ls 9 [(0, .ref b0), (1, .ref (ad 0)), (2, .ref (bd 0)), (3, .ref ao), (4, .ref aq), (5, .int (nI i))] := hl
  refine lv_aload_n hx hb dL_law_1604 rfl (lv_at hl 1 rfl) ?_
  refine lv_aload_n hx hb dL_law_1605 rfl (lv_at hl 0 rfl) ?_
  refine lv_iload hx hb dL_law_1606 (lv_at hl 5 rfl) ?_
  refine lv_iconst (v := 1) hx hb dL_law_1608 (by decide) ?_
  refine lv_iadd hx hb dL_law_1609 ?_
  refine top_eq (y := nI (i + 1)) (nI_add i 1) ?_
  obtain ⟨a1, ha1⟩ : ∃ z : Int32, z = xs (i + 1) := ⟨_, rfl⟩
  refine va_sld hx hb hX hbl hbA hS (vp_in_nI (n := (i + 1)) (by omega) (by omega)) dL_law_1610 ?_
  refine top_eq (y := a1) (by rw [ha1, nI_clamp (by omega)]) ?_
  refine lv_aload_n hx hb dL_law_1611 rfl (lv_at hl 0 rfl) ?_
  refine lv_iload hx hb dL_law_1612 (lv_at hl 5 rfl) ?_
  refine lv_iconst (v := 2) hx hb dL_law_1614 (by decide) ?_
  refine lv_iadd hx hb dL_law_1615 ?_
  refine top_eq (y := nI (i + 2)) (nI_add i 2) ?_
  obtain ⟨a2, ha2⟩ : ∃ z : Int32, z = xs (i + 2) := ⟨_, rfl⟩
  refine va_sld hx hb hX hbl hbA hS (vp_in_nI (n := (i + 2)) (by omega) (by omega)) dL_law_1616 ?_
  refine top_eq (y := a2) (by rw [ha2, nI_clamp (by omega)]) ?_
  refine lv_aload_n hx hb dL_law_1617 rfl (lv_at hl 0 rfl) ?_
  refine lv_iload hx hb dL_law_1618 (lv_at hl 5 rfl) ?_
  refine lv_iconst (v := 3) hx hb dL_law_1620 (by decide) ?_
  refine lv_iadd hx hb dL_law_1621 ?_
  refine top_eq (y := nI (i + 3)) (nI_add i 3) ?_
  obtain ⟨a3, ha3⟩ : ∃ z : Int32, z = xs (i + 3) := ⟨_, rfl⟩
  refine va_sld hx hb hX hbl hbA hS (vp_in_nI (n := (i + 3)) (by omega) (by omega)) dL_law_1622 ?_
  refine top_eq (y := a3) (by rw [ha3, nI_clamp (by omega)]) ?_
  refine lv_aload_n hx hb dL_law_1623 rfl (lv_at hl 0 rfl) ?_
  refine lv_iload hx hb dL_law_1624 (lv_at hl 5 rfl) ?_
  refine lv_iconst (v := 4) hx hb dL_law_1626 (by decide) ?_
  refine lv_iadd hx hb dL_law_1627 ?_
  refine top_eq (y := nI (i + 4)) (nI_add i 4) ?_
  obtain ⟨a4, ha4⟩ : ∃ z : Int32, z = xs (i + 4) := ⟨_, rfl⟩
  refine va_sld hx hb hX hbl hbA hS (vp_in_nI (n := (i + 4)) (by omega) (by omega)) dL_law_1628 ?_
  refine top_eq (y := a4) (by rw [ha4, nI_clamp (by omega)]) ?_
  refine lv_aload_n hx hb dL_law_1629 rfl (lv_at hl 3 rfl) ?_
  have hPc : va_P D clW ([] ++ ((wC cy ad I S ++ oLD cy ao aq fo fd) ++ wM cy bd J T)) H := hP
  have hDc : va_D (lcA s) ([] ++ ((wC cy ad I S ++ oLD cy ao aq fo fd) ++ wM cy bd J T)) := hD
  refine bwI_call (vx_runSW (As := [.ref (ad 0), .int a1, .int a2, .int a3, .int a4, .ref ao]) (rest := []) ⟨hx, hb, hml, hown, hts⟩ (c_L_periodTo l hl0 D cy ad I S H.size a1 a2 a3 a4 k n h fr to ofr oto hci ao aq fo fd) (cws_L_224 hts rfl rfl ⟨Nat.le_of_ble_eq_true rfl, Nat.le_of_ble_eq_true rfl⟩) (preSL hC hK hE (hZ.now hS) (blkF hDc hS hA) (blkY hPc) (blkYD hDc)) rfl rfl hl.1 rfl (lv_room (Nat.le_of_ble_eq_true rfl)) dL_law_1630 ⟨(by show cells + 5 ≤ 603072; omega), (by show slots + 30 ≤ 7202922; omega)⟩) hPc hDc hS hA (fun _ => rfl) (fun r u H locs hr_ hP hD hS => ?_)
  obtain ⟨I2, S2, fo2⟩ := u
  obtain ⟨val, hc9, hs9, hv9⟩ := hr_
  dsimp only at hc9 hs9 hv9
  have hP : va_P D clW (wL cy ad I2 S2 ao aq fo2 fd bd J T) H := hP
  have hD : va_D (lcA s) (wL cy ad I2 S2 ao aq fo2 fd bd J T) := hD
  refine lv_istore (lv' := [(6, .int r), (0, .ref b0), (1, .ref (ad 0)), (2, .ref (bd 0)), (3, .ref ao), (4, .ref aq), (5, .int (nI i))]) hx hb dL_law_1633 hl (by decide) rfl (fun ls hl => ?_)
  refine lv_aload_n hx hb dL_law_1635 rfl (lv_at hl 3 rfl) ?_
  refine lv_aload_n hx hb dL_law_1636 rfl (lv_at hl 1 rfl) ?_
  refine lv_iload hx hb dL_law_1637 (lv_at hl 6 rfl) ?_
  refine lv_iconst (v := 1) hx hb dL_law_1639 (by decide) ?_
  refine lv_iadd hx hb dL_law_1640 ?_
  refine top_eq (y := nI (i + 1)) (nI_add i 1) ?_
  refine va_sld hx hb hX hbl hbA hS (vp_in_nI (n := (i + 1)) (by omega) (by omega)) dL_law_1641 ?_
  refine top_eq (y := a1) (by rw [ha1, nI_clamp (by omega)]) ?_
  refine lv_aload_n hx hb dL_law_1642 rfl (lv_at hl 1 rfl) ?_
  refine lv_iload hx hb dL_law_1643 (lv_at hl 6 rfl) ?_
  refine lv_iconst (v := 2) hx hb dL_law_1645 (by decide) ?_
  refine lv_iadd hx hb dL_law_1646 ?_
  refine top_eq (y := nI (i + 2)) (nI_add i 2) ?_
  refine va_sld hx hb hX hbl hbA hS (vp_in_nI (n := (i + 2)) (by omega) (by omega)) dL_law_1647 ?_
  refine top_eq (y := a2) (by rw [ha2, nI_clamp (by omega)]) ?_
  refine lv_aload_n hx hb dL_law_1648 rfl (lv_at hl 1 rfl) ?_
  refine lv_iload hx hb dL_law_1649 (lv_at hl 6 rfl) ?_
  refine lv_iconst (v := 3) hx hb dL_law_1651 (by decide) ?_
  refine lv_iadd hx hb dL_law_1652 ?_
  refine top_eq (y := nI (i + 3)) (nI_add i 3) ?_
  refine va_sld hx hb hX hbl hbA hS (vp_in_nI (n := (i + 3)) (by omega) (by omega)) dL_law_1653 ?_
  refine top_eq (y := a3) (by rw [ha3, nI_clamp (by omega)]) ?_
  refine lv_aload_n hx hb dL_law_1654 rfl (lv_at hl 1 rfl) ?_
  refine lv_iload hx hb dL_law_1655 (lv_at hl 6 rfl) ?_
  refine lv_iconst (v := 4) hx hb dL_law_1657 (by decide) ?_
  refine lv_iadd hx hb dL_law_1658 ?_
  refine top_eq (y := nI (i + 4)) (nI_add i 4) ?_
  refine va_sld hx hb hX hbl hbA hS (vp_in_nI (n := (i + 4)) (by omega) (by omega)) dL_law_1659 ?_
  refine top_eq (y := a4) (by rw [ha4, nI_clamp (by omega)]) ?_
  have hPm : va_P D clW ((wC cy ad I2 S2 ++ oLD cy ao aq fo2 fd) ++ (wM cy bd J T ++ [])) H := hP
  have hDm : va_D (lcA s) ((wC cy ad I2 S2 ++ oLD cy ao aq fo2 fd) ++ (wM cy bd J T ++ [])) := hD
  refine bwI_call (va_runV (As := [.int a1, .int a2, .int a3, .int a4]) (rest := []) ⟨hx, hb, hml, hown, hts⟩ (c_X7_periodTo l D cy bd J T H.size a1 a2 a3 a4 k V.2.1.2.2.1 hk8 fr to V.mfr) (cw_L_226 hts rfl rfl ⟨Nat.le_of_ble_eq_true rfl, Nat.le_of_ble_eq_true rfl⟩) (preVW (ci := 7) (q0 := 0) hK (blkY hPm) (blkYD hDm) rfl rfl) rfl rfl hl.1 rfl (lv_room (Nat.le_of_ble_eq_true rfl)) dL_law_1660 ⟨(by show cells + 5 + 0 ≤ 603072; omega), (by show slots + 30 + 0 ≤ 7202922; omega)⟩) hPm hDm hS hA (fun _ => rfl) (fun w u H locs hq hP hD hS => ?_)
  obtain ⟨J2, T2⟩ := u
  have hP : va_P D clW (wL cy ad I2 S2 ao aq fo2 fd bd J2 T2) H := hP
  have hD : va_D (lcA s) (wL cy ad I2 S2 ao aq fo2 fd bd J2 T2) := hD
  obtain ⟨hms, hm1, hm2⟩ := hq
  dsimp only at hms hm1 hm2
  have ha : J2 0 = r ∧ (r = 0 → val = w) := ans_period V (f := (jpS S (slI a1 a2) (slI a1 a2) a3 fr to k).2.2) (g := (pmM T (slM a1 a2) a3 fr to k).2.2) (fun q j hj => ((V.per q).2 j hj).2) hc9 ⟨hm1, hm2⟩
  have hinv : Inv I2 S2 J2 T2 := (V.ask hs9 hms).inv
  refine lv_istore (lv' := [(7, .int w), (6, .int r), (0, .ref b0), (1, .ref (ad 0)), (2, .ref (bd 0)), (3, .ref ao), (4, .ref aq), (5, .int (nI i))]) hx hb dL_law_1663 hl (by decide) rfl (fun ls hl => ?_)
  refine lv_aload_n hx hb dL_law_1665 rfl (lv_at hl 4 rfl) ?_
  have hPm : va_P D clW ((wC cy ad I2 S2 ++ oLD cy ao aq fo2 fd) ++ (wM cy bd J2 T2 ++ [])) H := hP
  refine rI_call (va_runV (As := []) (rest := []) ⟨hx, hb, hml, hown, hts⟩ (c_X7_thrown l D cy bd J2 T2) (cw_L_146 hts rfl rfl ⟨Nat.le_of_ble_eq_true rfl, Nat.le_of_ble_eq_true rfl⟩) (preVR (ci := 7) (q0 := 0) hK (blkY hPm) rfl rfl) rfl rfl hl.1 rfl (lv_room (Nat.le_of_ble_eq_true rfl)) dL_law_1666 ⟨(by show cells + 5 + 0 + 0 ≤ 603072; omega), (by show slots + 30 + 0 + 0 ≤ 7202922; omega)⟩) (fun t9 ht9 => ?_)
  subst ht9
  refine lv_iload hx hb dL_law_1669 (lv_at hl 1 rfl) ?_
  refine lv_icmp_eq (tgt := 1676) hx hb dL_law_1671 (by decide) (fun _ => ?_) (fun c1 => absurd ha.1 c1)
  refine lv_iload hx hb dL_law_1676 (lv_at hl 1 rfl) ?_
  refine lv_if_ne (tgt := 1693) hx hb dL_law_1678 (by decide) (fun _ => ?_) (fun h0 => ?_)
  · refine lv_goto (tgt := 3200) hx hb dL_law_1693 (by decide) ?_
    refine W_wid (k := cells + 8) (n := slots + 48) (by omega) (by omega) ?_
    exact hkk H locs I2 S2 J2 T2 fo2 fd ls hinv hP hD hS (lv_sub hl [2, 3, 4, 5, 6, 7] rfl)
  · have h0 : r = 0 := by first | exact h0 | exact Decidable.not_not.mp h0
    have hw := ha.2 h0
    refine lv_aload_n hx hb dL_law_1681 rfl (lv_at hl 5 rfl) ?_
    refine lv_iconst (v := 0) hx hb dL_law_1682 (by decide) ?_
    refine va_lald hx hb hK hP 29 3 rfl rfl (i := 0) vp_in01 dL_law_1683 ?_
    refine top_eqL (y := val.toInt64) (hv9 h0) ?_
    refine lv_iload hx hb dL_law_1684 (lv_at hl 0 rfl) ?_
    refine lv_i2l (v := w.toInt64) hx hb dL_law_1686 rfl ?_
    refine lc_eq (tgt := 1693) hx hb dL_law_1687 dL_law_1688 (by decide) (fun _ => ?_) (fun c2 => absurd (by rw [hw]) c2)
    refine lv_goto (tgt := 3200) hx hb dL_law_1693 (by decide) ?_
    refine W_wid (k := cells + 8) (n := slots + 48) (by omega) (by omega) ?_
    exact hkk H locs I2 S2 J2 T2 fo2 fd ls hinv hP hD hS (lv_sub hl [2, 3, 4, 5, 6, 7] rfl)

set_option maxHeartbeats 4000000 in
set_option maxRecDepth 100000 in
theorem cs_24 {p : Program} {l : Launch} {e : Env} {s : State} {m : MethodId} {below : List Frame} {meth : Method} {c : Code} {b0 L : Nat} {xs : Nat → Int32} {D : va_G} {cy : Nat → ClassId} {ad bd : Nat → Nat} {ao aq : Nat} {fo : Nat → Int64} {fd : Nat → UInt64} {I J : AI} {S T : AS} {i cells slots : Nat} {H : Heap} {locs : List Loc} {Q : State → Prop} {ls : Array Slot} (C0 : LCx p l s m c b0 L xs D cy) (hI : Inv I S J T) (hi : i + 7 ≤ L) (hcc : cells + 8 ≤ 603072) (hss : slots + 48 ≤ 7202922) (hP : va_P D clW (wL cy ad I S ao aq fo fd bd J T) H) (hD : va_D (lcA s) (wL cy ad I S ao aq fo fd bd J T)) (hS : va_S (lcA s) s.heap H locs) (hl : lv_has ls 9 (lcL b0 ad bd ao aq i)) (hkk : LK p l e s m b0 below meth c D cy ad bd ao aq i (cells + 8) (slots + 48) Q) : W p l e room_1 s m #[Value.ref b0] below meth c H locs cells slots Q (F0 m 1696 ls []) := by
  obtain ⟨hx, hb, hml, hown, hts, hl0, hX, hbl, hL, hC, hK, hE, hZ⟩ := C0
  obtain ⟨en, k, n, h, len, sl, fr, to, o, c9, osl, ofr, oto, V⟩ := hI
  have hk8 : k ≤ 256 := Nat.le_trans V.k8 (by decide)
  have hci := V.civ
  have hA : ∀ q : Nat, s.heap.size ≤ q → lcA s q := fun q h => h
  have hbA : ¬ lcA s b0 := Nat.not_le.mpr hbl
  have hl : lv_has ls 9 [(0, .ref b0), (1, .ref (ad 0)), (2, .ref (bd 0)), (3, .ref ao), (4, .ref aq), (5, .int (nI i))] := hl
  refine lv_aload_n hx hb dL_law_1696 rfl (lv_at hl 1 rfl) ?_
  refine lv_aload_n hx hb dL_law_1697 rfl (lv_at hl 0 rfl) ?_
  refine lv_iload hx hb dL_law_1698 (lv_at hl 5 rfl) ?_
  refine lv_iconst (v := 1) hx hb dL_law_1700 (by decide) ?_
  refine lv_iadd hx hb dL_law_1701 ?_
  refine top_eq (y := nI (i + 1)) (nI_add i 1) ?_
  obtain ⟨a1, ha1⟩ : ∃ z : Int32, z = xs (i + 1) := ⟨_, rfl⟩
  refine va_sld hx hb hX hbl hbA hS (vp_in_nI (n := (i + 1)) (by omega) (by omega)) dL_law_1702 ?_
  refine top_eq (y := a1) (by rw [ha1, nI_clamp (by omega)]) ?_
  refine lv_aload_n hx hb dL_law_1703 rfl (lv_at hl 0 rfl) ?_
  refine lv_iload hx hb dL_law_1704 (lv_at hl 5 rfl) ?_
  refine lv_iconst (v := 2) hx hb dL_law_1706 (by decide) ?_
  refine lv_iadd hx hb dL_law_1707 ?_
  refine top_eq (y := nI (i + 2)) (nI_add i 2) ?_
  obtain ⟨a2, ha2⟩ : ∃ z : Int32, z = xs (i + 2) := ⟨_, rfl⟩
  refine va_sld hx hb hX hbl hbA hS (vp_in_nI (n := (i + 2)) (by omega) (by omega)) dL_law_1708 ?_
  refine top_eq (y := a2) (by rw [ha2, nI_clamp (by omega)]) ?_
  refine lv_aload_n hx hb dL_law_1709 rfl (lv_at hl 0 rfl) ?_
  refine lv_iload hx hb dL_law_1710 (lv_at hl 5 rfl) ?_
  refine lv_iconst (v := 3) hx hb dL_law_1712 (by decide) ?_
  refine lv_iadd hx hb dL_law_1713 ?_
  refine top_eq (y := nI (i + 3)) (nI_add i 3) ?_
  obtain ⟨a3, ha3⟩ : ∃ z : Int32, z = xs (i + 3) := ⟨_, rfl⟩
  refine va_sld hx hb hX hbl hbA hS (vp_in_nI (n := (i + 3)) (by omega) (by omega)) dL_law_1714 ?_
  refine top_eq (y := a3) (by rw [ha3, nI_clamp (by omega)]) ?_
  refine lv_aload_n hx hb dL_law_1715 rfl (lv_at hl 0 rfl) ?_
  refine lv_iload hx hb dL_law_1716 (lv_at hl 5 rfl) ?_
  refine lv_iconst (v := 4) hx hb dL_law_1718 (by decide) ?_
  refine lv_iadd hx hb dL_law_1719 ?_
  refine top_eq (y := nI (i + 4)) (nI_add i 4) ?_
  obtain ⟨a4, ha4⟩ : ∃ z : Int32, z = xs (i + 4) := ⟨_, rfl⟩
  refine va_sld hx hb hX hbl hbA hS (vp_in_nI (n := (i + 4)) (by omega) (by omega)) dL_law_1720 ?_
  refine top_eq (y := a4) (by rw [ha4, nI_clamp (by omega)]) ?_
  refine lv_aload_n hx hb dL_law_1721 rfl (lv_at hl 3 rfl) ?_
  have hPc : va_P D clW ([] ++ ((wC cy ad I S ++ oLD cy ao aq fo fd) ++ wM cy bd J T)) H := hP
  have hDc : va_D (lcA s) ([] ++ ((wC cy ad I S ++ oLD cy ao aq fo fd) ++ wM cy bd J T)) := hD
  refine bwI_call (vx_runSW (As := [.ref (ad 0), .int a1, .int a2, .int a3, .int a4, .ref ao]) (rest := []) ⟨hx, hb, hml, hown, hts⟩ (c_L_periodValue l hl0 D cy ad I S H.size a1 a2 a3 a4 k n h fr to ofr oto hci ao aq fo fd) (cws_L_227 hts rfl rfl ⟨Nat.le_of_ble_eq_true rfl, Nat.le_of_ble_eq_true rfl⟩) (preSL hC hK hE (hZ.now hS) (blkF hDc hS hA) (blkY hPc) (blkYD hDc)) rfl rfl hl.1 rfl (lv_room (Nat.le_of_ble_eq_true rfl)) dL_law_1722 ⟨(by show cells + 5 ≤ 603072; omega), (by show slots + 30 ≤ 7202922; omega)⟩) hPc hDc hS hA (fun _ => rfl) (fun r u H locs hr_ hP hD hS => ?_)
  obtain ⟨I2, S2, fo2⟩ := u
  obtain ⟨val, hc9, hs9, hv9⟩ := hr_
  dsimp only at hc9 hs9 hv9
  have hP : va_P D clW (wL cy ad I2 S2 ao aq fo2 fd bd J T) H := hP
  have hD : va_D (lcA s) (wL cy ad I2 S2 ao aq fo2 fd bd J T) := hD
  refine lv_istore (lv' := [(6, .int r), (0, .ref b0), (1, .ref (ad 0)), (2, .ref (bd 0)), (3, .ref ao), (4, .ref aq), (5, .int (nI i))]) hx hb dL_law_1725 hl (by decide) rfl (fun ls hl => ?_)
  refine lv_aload_n hx hb dL_law_1727 rfl (lv_at hl 3 rfl) ?_
  refine lv_aload_n hx hb dL_law_1728 rfl (lv_at hl 1 rfl) ?_
  refine lv_iload hx hb dL_law_1729 (lv_at hl 6 rfl) ?_
  refine lv_iconst (v := 1) hx hb dL_law_1731 (by decide) ?_
  refine lv_iadd hx hb dL_law_1732 ?_
  refine top_eq (y := nI (i + 1)) (nI_add i 1) ?_
  refine va_sld hx hb hX hbl hbA hS (vp_in_nI (n := (i + 1)) (by omega) (by omega)) dL_law_1733 ?_
  refine top_eq (y := a1) (by rw [ha1, nI_clamp (by omega)]) ?_
  refine lv_aload_n hx hb dL_law_1734 rfl (lv_at hl 1 rfl) ?_
  refine lv_iload hx hb dL_law_1735 (lv_at hl 6 rfl) ?_
  refine lv_iconst (v := 2) hx hb dL_law_1737 (by decide) ?_
  refine lv_iadd hx hb dL_law_1738 ?_
  refine top_eq (y := nI (i + 2)) (nI_add i 2) ?_
  refine va_sld hx hb hX hbl hbA hS (vp_in_nI (n := (i + 2)) (by omega) (by omega)) dL_law_1739 ?_
  refine top_eq (y := a2) (by rw [ha2, nI_clamp (by omega)]) ?_
  refine lv_aload_n hx hb dL_law_1740 rfl (lv_at hl 1 rfl) ?_
  refine lv_iload hx hb dL_law_1741 (lv_at hl 6 rfl) ?_
  refine lv_iconst (v := 3) hx hb dL_law_1743 (by decide) ?_
  refine lv_iadd hx hb dL_law_1744 ?_
  refine top_eq (y := nI (i + 3)) (nI_add i 3) ?_
  refine va_sld hx hb hX hbl hbA hS (vp_in_nI (n := (i + 3)) (by omega) (by omega)) dL_law_1745 ?_
  refine top_eq (y := a3) (by rw [ha3, nI_clamp (by omega)]) ?_
  refine lv_aload_n hx hb dL_law_1746 rfl (lv_at hl 1 rfl) ?_
  refine lv_iload hx hb dL_law_1747 (lv_at hl 6 rfl) ?_
  refine lv_iconst (v := 4) hx hb dL_law_1749 (by decide) ?_
  refine lv_iadd hx hb dL_law_1750 ?_
  refine top_eq (y := nI (i + 4)) (nI_add i 4) ?_
  refine va_sld hx hb hX hbl hbA hS (vp_in_nI (n := (i + 4)) (by omega) (by omega)) dL_law_1751 ?_
  refine top_eq (y := a4) (by rw [ha4, nI_clamp (by omega)]) ?_
  have hPm : va_P D clW ((wC cy ad I2 S2 ++ oLD cy ao aq fo2 fd) ++ (wM cy bd J T ++ [])) H := hP
  have hDm : va_D (lcA s) ((wC cy ad I2 S2 ++ oLD cy ao aq fo2 fd) ++ (wM cy bd J T ++ [])) := hD
  refine bwI_call (va_runV (As := [.int a1, .int a2, .int a3, .int a4]) (rest := []) ⟨hx, hb, hml, hown, hts⟩ (c_X7_periodValue l D cy bd J T H.size a1 a2 a3 a4 k V.2.1.2.2.1 hk8 fr to V.mfr) (cw_L_229 hts rfl rfl ⟨Nat.le_of_ble_eq_true rfl, Nat.le_of_ble_eq_true rfl⟩) (preVW (ci := 7) (q0 := 0) hK (blkY hPm) (blkYD hDm) rfl rfl) rfl rfl hl.1 rfl (lv_room (Nat.le_of_ble_eq_true rfl)) dL_law_1752 ⟨(by show cells + 5 + 0 ≤ 603072; omega), (by show slots + 30 + 0 ≤ 7202922; omega)⟩) hPm hDm hS hA (fun _ => rfl) (fun w u H locs hq hP hD hS => ?_)
  obtain ⟨J2, T2⟩ := u
  have hP : va_P D clW (wL cy ad I2 S2 ao aq fo2 fd bd J2 T2) H := hP
  have hD : va_D (lcA s) (wL cy ad I2 S2 ao aq fo2 fd bd J2 T2) := hD
  obtain ⟨hms, hm1, hm2⟩ := hq
  dsimp only at hms hm1 hm2
  have ha : J2 0 = r ∧ (r = 0 → val = w) := ans_period V (f := fun j => vlI (rdKN S (slI a1 a2) a3 fr to (S 17) k) (rdVN S (slI a1 a2) a3 fr to (S 18) k) ((jpS S (slI a1 a2) (slI a1 a2) a3 fr to k).2.1 j)) (g := fun j => T 4 ((lkM T (slM a1 a2) a3 fr to k) ((pmM T (slM a1 a2) a3 fr to k).2.1 j).toNatClampNeg).toNatClampNeg) (fun q j hj => V.pval q hj) hc9 ⟨hm1, hm2⟩
  have hinv : Inv I2 S2 J2 T2 := (V.ask hs9 hms).inv
  refine lv_istore (lv' := [(7, .int w), (6, .int r), (0, .ref b0), (1, .ref (ad 0)), (2, .ref (bd 0)), (3, .ref ao), (4, .ref aq), (5, .int (nI i))]) hx hb dL_law_1755 hl (by decide) rfl (fun ls hl => ?_)
  refine lv_aload_n hx hb dL_law_1757 rfl (lv_at hl 4 rfl) ?_
  have hPm : va_P D clW ((wC cy ad I2 S2 ++ oLD cy ao aq fo2 fd) ++ (wM cy bd J2 T2 ++ [])) H := hP
  refine rI_call (va_runV (As := []) (rest := []) ⟨hx, hb, hml, hown, hts⟩ (c_X7_thrown l D cy bd J2 T2) (cw_L_146 hts rfl rfl ⟨Nat.le_of_ble_eq_true rfl, Nat.le_of_ble_eq_true rfl⟩) (preVR (ci := 7) (q0 := 0) hK (blkY hPm) rfl rfl) rfl rfl hl.1 rfl (lv_room (Nat.le_of_ble_eq_true rfl)) dL_law_1758 ⟨(by show cells + 5 + 0 + 0 ≤ 603072; omega), (by show slots + 30 + 0 + 0 ≤ 7202922; omega)⟩) (fun t9 ht9 => ?_)
  subst ht9
  refine lv_iload hx hb dL_law_1761 (lv_at hl 1 rfl) ?_
  refine lv_icmp_eq (tgt := 1768) hx hb dL_law_1763 (by decide) (fun _ => ?_) (fun c1 => absurd ha.1 c1)
  refine lv_iload hx hb dL_law_1768 (lv_at hl 1 rfl) ?_
  refine lv_if_ne (tgt := 1785) hx hb dL_law_1770 (by decide) (fun _ => ?_) (fun h0 => ?_)
  · refine lv_goto (tgt := 3200) hx hb dL_law_1785 (by decide) ?_
    refine W_wid (k := cells + 8) (n := slots + 48) (by omega) (by omega) ?_
    exact hkk H locs I2 S2 J2 T2 fo2 fd ls hinv hP hD hS (lv_sub hl [2, 3, 4, 5, 6, 7] rfl)
  · have h0 : r = 0 := by first | exact h0 | exact Decidable.not_not.mp h0
    have hw := ha.2 h0
    refine lv_aload_n hx hb dL_law_1773 rfl (lv_at hl 5 rfl) ?_
    refine lv_iconst (v := 0) hx hb dL_law_1774 (by decide) ?_
    refine va_lald hx hb hK hP 29 3 rfl rfl (i := 0) vp_in01 dL_law_1775 ?_
    refine top_eqL (y := val.toInt64) (hv9 h0) ?_
    refine lv_iload hx hb dL_law_1776 (lv_at hl 0 rfl) ?_
    refine lv_i2l (v := w.toInt64) hx hb dL_law_1778 rfl ?_
    refine lc_eq (tgt := 1785) hx hb dL_law_1779 dL_law_1780 (by decide) (fun _ => ?_) (fun c2 => absurd (by rw [hw]) c2)
    refine lv_goto (tgt := 3200) hx hb dL_law_1785 (by decide) ?_
    refine W_wid (k := cells + 8) (n := slots + 48) (by omega) (by omega) ?_
    exact hkk H locs I2 S2 J2 T2 fo2 fd ls hinv hP hD hS (lv_sub hl [2, 3, 4, 5, 6, 7] rfl)

set_option maxHeartbeats 4000000 in
set_option maxRecDepth 100000 in
theorem cs_25 {p : Program} {l : Launch} {e : Env} {s : State} {m : MethodId} {below : List Frame} {meth : Method} {c : Code} {b0 L : Nat} {xs : Nat → Int32} {D : va_G} {cy : Nat → ClassId} {ad bd : Nat → Nat} {ao aq : Nat} {fo : Nat → Int64} {fd : Nat → UInt64} {I J : AI} {S T : AS} {i cells slots : Nat} {H : Heap} {locs : List Loc} {Q : State → Prop} {ls : Array Slot} (C0 : LCx p l s m c b0 L xs D cy) (hI : Inv I S J T) (hi : i + 7 ≤ L) (hcc : cells + 8 ≤ 603072) (hss : slots + 48 ≤ 7202922) (hP : va_P D clW (wL cy ad I S ao aq fo fd bd J T) H) (hD : va_D (lcA s) (wL cy ad I S ao aq fo fd bd J T)) (hS : va_S (lcA s) s.heap H locs) (hl : lv_has ls 9 (lcL b0 ad bd ao aq i)) (hkk : LK p l e s m b0 below meth c D cy ad bd ao aq i (cells + 8) (slots + 48) Q) : W p l e room_1 s m #[Value.ref b0] below meth c H locs cells slots Q (F0 m 1788 ls []) := by
  obtain ⟨hx, hb, hml, hown, hts, hl0, hX, hbl, hL, hC, hK, hE, hZ⟩ := C0
  obtain ⟨en, k, n, h, len, sl, fr, to, o, c9, osl, ofr, oto, V⟩ := hI
  have hk8 : k ≤ 256 := Nat.le_trans V.k8 (by decide)
  have hci := V.civ
  have hA : ∀ q : Nat, s.heap.size ≤ q → lcA s q := fun q h => h
  have hbA : ¬ lcA s b0 := Nat.not_le.mpr hbl
  have hl : lv_has ls 9 [(0, .ref b0), (1, .ref (ad 0)), (2, .ref (bd 0)), (3, .ref ao), (4, .ref aq), (5, .int (nI i))] := hl
  refine lv_aload_n hx hb dL_law_1788 rfl (lv_at hl 1 rfl) ?_
  refine lv_aload_n hx hb dL_law_1789 rfl (lv_at hl 0 rfl) ?_
  refine lv_iload hx hb dL_law_1790 (lv_at hl 5 rfl) ?_
  refine lv_iconst (v := 1) hx hb dL_law_1792 (by decide) ?_
  refine lv_iadd hx hb dL_law_1793 ?_
  refine top_eq (y := nI (i + 1)) (nI_add i 1) ?_
  obtain ⟨a1, ha1⟩ : ∃ z : Int32, z = xs (i + 1) := ⟨_, rfl⟩
  refine va_sld hx hb hX hbl hbA hS (vp_in_nI (n := (i + 1)) (by omega) (by omega)) dL_law_1794 ?_
  refine top_eq (y := a1) (by rw [ha1, nI_clamp (by omega)]) ?_
  refine lv_aload_n hx hb dL_law_1795 rfl (lv_at hl 0 rfl) ?_
  refine lv_iload hx hb dL_law_1796 (lv_at hl 5 rfl) ?_
  refine lv_iconst (v := 2) hx hb dL_law_1798 (by decide) ?_
  refine lv_iadd hx hb dL_law_1799 ?_
  refine top_eq (y := nI (i + 2)) (nI_add i 2) ?_
  obtain ⟨a2, ha2⟩ : ∃ z : Int32, z = xs (i + 2) := ⟨_, rfl⟩
  refine va_sld hx hb hX hbl hbA hS (vp_in_nI (n := (i + 2)) (by omega) (by omega)) dL_law_1800 ?_
  refine top_eq (y := a2) (by rw [ha2, nI_clamp (by omega)]) ?_
  refine lv_aload_n hx hb dL_law_1801 rfl (lv_at hl 0 rfl) ?_
  refine lv_iload hx hb dL_law_1802 (lv_at hl 5 rfl) ?_
  refine lv_iconst (v := 3) hx hb dL_law_1804 (by decide) ?_
  refine lv_iadd hx hb dL_law_1805 ?_
  refine top_eq (y := nI (i + 3)) (nI_add i 3) ?_
  obtain ⟨a3, ha3⟩ : ∃ z : Int32, z = xs (i + 3) := ⟨_, rfl⟩
  refine va_sld hx hb hX hbl hbA hS (vp_in_nI (n := (i + 3)) (by omega) (by omega)) dL_law_1806 ?_
  refine top_eq (y := a3) (by rw [ha3, nI_clamp (by omega)]) ?_
  refine lv_aload_n hx hb dL_law_1807 rfl (lv_at hl 3 rfl) ?_
  have hPc : va_P D clW ([] ++ ((wC cy ad I S ++ oLD cy ao aq fo fd) ++ wM cy bd J T)) H := hP
  have hDc : va_D (lcA s) ([] ++ ((wC cy ad I S ++ oLD cy ao aq fo fd) ++ wM cy bd J T)) := hD
  refine bwI_call (vx_runSW (As := [.ref (ad 0), .int a1, .int a2, .int a3, .ref ao]) (rest := []) ⟨hx, hb, hml, hown, hts⟩ (c_L_integral l hl0 D cy ad I S H.size a1 a2 a3 k n h fr to ofr oto hci ao aq fo fd) (cws_L_230 hts rfl rfl ⟨Nat.le_of_ble_eq_true rfl, Nat.le_of_ble_eq_true rfl⟩) (preSL hC hK hE (hZ.now hS) (blkF hDc hS hA) (blkY hPc) (blkYD hDc)) rfl rfl hl.1 rfl (lv_room (Nat.le_of_ble_eq_true rfl)) dL_law_1808 ⟨(by show cells + 3 ≤ 603072; omega), (by show slots + 18 ≤ 7202922; omega)⟩) hPc hDc hS hA (fun _ => rfl) (fun r u H locs hr_ hP hD hS => ?_)
  obtain ⟨I2, S2, fo2⟩ := u
  obtain ⟨val, hc9, hs9, hv9⟩ := hr_
  dsimp only at hc9 hs9 hv9
  have hP : va_P D clW (wL cy ad I2 S2 ao aq fo2 fd bd J T) H := hP
  have hD : va_D (lcA s) (wL cy ad I2 S2 ao aq fo2 fd bd J T) := hD
  refine lv_istore (lv' := [(6, .int r), (0, .ref b0), (1, .ref (ad 0)), (2, .ref (bd 0)), (3, .ref ao), (4, .ref aq), (5, .int (nI i))]) hx hb dL_law_1811 hl (by decide) rfl (fun ls hl => ?_)
  refine lv_aload_n hx hb dL_law_1813 rfl (lv_at hl 3 rfl) ?_
  refine lv_aload_n hx hb dL_law_1814 rfl (lv_at hl 1 rfl) ?_
  refine lv_iload hx hb dL_law_1815 (lv_at hl 6 rfl) ?_
  refine lv_iconst (v := 1) hx hb dL_law_1817 (by decide) ?_
  refine lv_iadd hx hb dL_law_1818 ?_
  refine top_eq (y := nI (i + 1)) (nI_add i 1) ?_
  refine va_sld hx hb hX hbl hbA hS (vp_in_nI (n := (i + 1)) (by omega) (by omega)) dL_law_1819 ?_
  refine top_eq (y := a1) (by rw [ha1, nI_clamp (by omega)]) ?_
  refine lv_aload_n hx hb dL_law_1820 rfl (lv_at hl 1 rfl) ?_
  refine lv_iload hx hb dL_law_1821 (lv_at hl 6 rfl) ?_
  refine lv_iconst (v := 2) hx hb dL_law_1823 (by decide) ?_
  refine lv_iadd hx hb dL_law_1824 ?_
  refine top_eq (y := nI (i + 2)) (nI_add i 2) ?_
  refine va_sld hx hb hX hbl hbA hS (vp_in_nI (n := (i + 2)) (by omega) (by omega)) dL_law_1825 ?_
  refine top_eq (y := a2) (by rw [ha2, nI_clamp (by omega)]) ?_
  refine lv_aload_n hx hb dL_law_1826 rfl (lv_at hl 1 rfl) ?_
  refine lv_iload hx hb dL_law_1827 (lv_at hl 6 rfl) ?_
  refine lv_iconst (v := 3) hx hb dL_law_1829 (by decide) ?_
  refine lv_iadd hx hb dL_law_1830 ?_
  refine top_eq (y := nI (i + 3)) (nI_add i 3) ?_
  refine va_sld hx hb hX hbl hbA hS (vp_in_nI (n := (i + 3)) (by omega) (by omega)) dL_law_1831 ?_
  refine top_eq (y := a3) (by rw [ha3, nI_clamp (by omega)]) ?_
  have hPm : va_P D clW ((wC cy ad I2 S2 ++ oLD cy ao aq fo2 fd) ++ (wM cy bd J T ++ [])) H := hP
  have hDm : va_D (lcA s) ((wC cy ad I2 S2 ++ oLD cy ao aq fo2 fd) ++ (wM cy bd J T ++ [])) := hD
  refine bwL_call (va_runV (As := [.int a1, .int a2, .int a3]) (rest := []) ⟨hx, hb, hml, hown, hts⟩ (c_X7_integral l D cy bd J T H.size a1 a2 a3 k V.2.1.2.2.1 hk8 fr to V.mfr) (cw_L_232 hts rfl rfl ⟨Nat.le_of_ble_eq_true rfl, Nat.le_of_ble_eq_true rfl⟩) (preVW (ci := 7) (q0 := 0) hK (blkY hPm) (blkYD hDm) rfl rfl) rfl rfl hl.1 rfl (lv_room (Nat.le_of_ble_eq_true rfl)) dL_law_1832 ⟨(by show cells + 3 + 0 ≤ 603072; omega), (by show slots + 18 + 0 ≤ 7202922; omega)⟩) hPm hDm hS hA (fun _ => rfl) (fun w u H locs hq hP hD hS => ?_)
  obtain ⟨J2, T2⟩ := u
  have hP : va_P D clW (wL cy ad I2 S2 ao aq fo2 fd bd J2 T2) H := hP
  have hD : va_D (lcA s) (wL cy ad I2 S2 ao aq fo2 fd bd J2 T2) := hD
  obtain ⟨hms, hm1, hm2⟩ := hq
  dsimp only at hms hm1 hm2
  have ha : J2 0 = r ∧ (r = 0 → val = w) := ans_integral V hc9 ⟨hm1, hm2⟩
  have hinv : Inv I2 S2 J2 T2 := (V.ask hs9 hms).inv
  refine lv_lstore (lv' := [(7, .long w), (6, .int r), (0, .ref b0), (1, .ref (ad 0)), (2, .ref (bd 0)), (3, .ref ao), (4, .ref aq), (5, .int (nI i))]) hx hb dL_law_1835 hl (by decide) rfl (fun ls hl => ?_)
  refine lv_aload_n hx hb dL_law_1837 rfl (lv_at hl 4 rfl) ?_
  have hPm : va_P D clW ((wC cy ad I2 S2 ++ oLD cy ao aq fo2 fd) ++ (wM cy bd J2 T2 ++ [])) H := hP
  refine rI_call (va_runV (As := []) (rest := []) ⟨hx, hb, hml, hown, hts⟩ (c_X7_thrown l D cy bd J2 T2) (cw_L_146 hts rfl rfl ⟨Nat.le_of_ble_eq_true rfl, Nat.le_of_ble_eq_true rfl⟩) (preVR (ci := 7) (q0 := 0) hK (blkY hPm) rfl rfl) rfl rfl hl.1 rfl (lv_room (Nat.le_of_ble_eq_true rfl)) dL_law_1838 ⟨(by show cells + 3 + 0 + 0 ≤ 603072; omega), (by show slots + 18 + 0 + 0 ≤ 7202922; omega)⟩) (fun t9 ht9 => ?_)
  subst ht9
  refine lv_iload hx hb dL_law_1841 (lv_at hl 1 rfl) ?_
  refine lv_icmp_eq (tgt := 1848) hx hb dL_law_1843 (by decide) (fun _ => ?_) (fun c1 => absurd ha.1 c1)
  refine lv_iload hx hb dL_law_1848 (lv_at hl 1 rfl) ?_
  refine lv_if_ne (tgt := 1864) hx hb dL_law_1850 (by decide) (fun _ => ?_) (fun h0 => ?_)
  · refine lv_goto (tgt := 3200) hx hb dL_law_1864 (by decide) ?_
    refine W_wid (k := cells + 8) (n := slots + 48) (by omega) (by omega) ?_
    exact hkk H locs I2 S2 J2 T2 fo2 fd ls hinv hP hD hS (lv_sub hl [2, 3, 4, 5, 6, 7] rfl)
  · have h0 : r = 0 := by first | exact h0 | exact Decidable.not_not.mp h0
    have hw := ha.2 h0
    refine lv_aload_n hx hb dL_law_1853 rfl (lv_at hl 5 rfl) ?_
    refine lv_iconst (v := 0) hx hb dL_law_1854 (by decide) ?_
    refine va_lald hx hb hK hP 29 3 rfl rfl (i := 0) vp_in01 dL_law_1855 ?_
    refine top_eqL (y := val) (hv9 h0) ?_
    refine lv_lload hx hb dL_law_1856 (lv_at hl 0 rfl) ?_
    refine lc_eq (tgt := 1864) hx hb dL_law_1858 dL_law_1859 (by decide) (fun _ => ?_) (fun c2 => absurd hw c2)
    refine lv_goto (tgt := 3200) hx hb dL_law_1864 (by decide) ?_
    refine W_wid (k := cells + 8) (n := slots + 48) (by omega) (by omega) ?_
    exact hkk H locs I2 S2 J2 T2 fo2 fd ls hinv hP hD hS (lv_sub hl [2, 3, 4, 5, 6, 7] rfl)

set_option maxHeartbeats 4000000 in
set_option maxRecDepth 100000 in
theorem cs_26 {p : Program} {l : Launch} {e : Env} {s : State} {m : MethodId} {below : List Frame} {meth : Method} {c : Code} {b0 L : Nat} {xs : Nat → Int32} {D : va_G} {cy : Nat → ClassId} {ad bd : Nat → Nat} {ao aq : Nat} {fo : Nat → Int64} {fd : Nat → UInt64} {I J : AI} {S T : AS} {i cells slots : Nat} {H : Heap} {locs : List Loc} {Q : State → Prop} {ls : Array Slot} (C0 : LCx p l s m c b0 L xs D cy) (hI : Inv I S J T) (hi : i + 7 ≤ L) (hcc : cells + 8 ≤ 603072) (hss : slots + 48 ≤ 7202922) (hP : va_P D clW (wL cy ad I S ao aq fo fd bd J T) H) (hD : va_D (lcA s) (wL cy ad I S ao aq fo fd bd J T)) (hS : va_S (lcA s) s.heap H locs) (hl : lv_has ls 9 (lcL b0 ad bd ao aq i)) (hkk : LK p l e s m b0 below meth c D cy ad bd ao aq i (cells + 8) (slots + 48) Q) : W p l e room_1 s m #[Value.ref b0] below meth c H locs cells slots Q (F0 m 1867 ls []) := by
  obtain ⟨hx, hb, hml, hown, hts, hl0, hX, hbl, hL, hC, hK, hE, hZ⟩ := C0
  obtain ⟨en, k, n, h, len, sl, fr, to, o, c9, osl, ofr, oto, V⟩ := hI
  have hk8 : k ≤ 256 := Nat.le_trans V.k8 (by decide)
  have hci := V.civ
  have hA : ∀ q : Nat, s.heap.size ≤ q → lcA s q := fun q h => h
  have hbA : ¬ lcA s b0 := Nat.not_le.mpr hbl
  have hl : lv_has ls 9 [(0, .ref b0), (1, .ref (ad 0)), (2, .ref (bd 0)), (3, .ref ao), (4, .ref aq), (5, .int (nI i))] := hl
  refine lv_aload_n hx hb dL_law_1867 rfl (lv_at hl 1 rfl) ?_
  refine lv_aload_n hx hb dL_law_1868 rfl (lv_at hl 0 rfl) ?_
  refine lv_iload hx hb dL_law_1869 (lv_at hl 5 rfl) ?_
  refine lv_iconst (v := 1) hx hb dL_law_1871 (by decide) ?_
  refine lv_iadd hx hb dL_law_1872 ?_
  refine top_eq (y := nI (i + 1)) (nI_add i 1) ?_
  obtain ⟨a1, ha1⟩ : ∃ z : Int32, z = xs (i + 1) := ⟨_, rfl⟩
  refine va_sld hx hb hX hbl hbA hS (vp_in_nI (n := (i + 1)) (by omega) (by omega)) dL_law_1873 ?_
  refine top_eq (y := a1) (by rw [ha1, nI_clamp (by omega)]) ?_
  refine lv_aload_n hx hb dL_law_1874 rfl (lv_at hl 0 rfl) ?_
  refine lv_iload hx hb dL_law_1875 (lv_at hl 5 rfl) ?_
  refine lv_iconst (v := 2) hx hb dL_law_1877 (by decide) ?_
  refine lv_iadd hx hb dL_law_1878 ?_
  refine top_eq (y := nI (i + 2)) (nI_add i 2) ?_
  obtain ⟨a2, ha2⟩ : ∃ z : Int32, z = xs (i + 2) := ⟨_, rfl⟩
  refine va_sld hx hb hX hbl hbA hS (vp_in_nI (n := (i + 2)) (by omega) (by omega)) dL_law_1879 ?_
  refine top_eq (y := a2) (by rw [ha2, nI_clamp (by omega)]) ?_
  refine lv_aload_n hx hb dL_law_1880 rfl (lv_at hl 0 rfl) ?_
  refine lv_iload hx hb dL_law_1881 (lv_at hl 5 rfl) ?_
  refine lv_iconst (v := 3) hx hb dL_law_1883 (by decide) ?_
  refine lv_iadd hx hb dL_law_1884 ?_
  refine top_eq (y := nI (i + 3)) (nI_add i 3) ?_
  obtain ⟨a3, ha3⟩ : ∃ z : Int32, z = xs (i + 3) := ⟨_, rfl⟩
  refine va_sld hx hb hX hbl hbA hS (vp_in_nI (n := (i + 3)) (by omega) (by omega)) dL_law_1885 ?_
  refine top_eq (y := a3) (by rw [ha3, nI_clamp (by omega)]) ?_
  refine lv_aload_n hx hb dL_law_1886 rfl (lv_at hl 0 rfl) ?_
  refine lv_iload hx hb dL_law_1887 (lv_at hl 5 rfl) ?_
  refine lv_iconst (v := 4) hx hb dL_law_1889 (by decide) ?_
  refine lv_iadd hx hb dL_law_1890 ?_
  refine top_eq (y := nI (i + 4)) (nI_add i 4) ?_
  obtain ⟨a4, ha4⟩ : ∃ z : Int32, z = xs (i + 4) := ⟨_, rfl⟩
  refine va_sld hx hb hX hbl hbA hS (vp_in_nI (n := (i + 4)) (by omega) (by omega)) dL_law_1891 ?_
  refine top_eq (y := a4) (by rw [ha4, nI_clamp (by omega)]) ?_
  refine lv_aload_n hx hb dL_law_1892 rfl (lv_at hl 3 rfl) ?_
  have hPc : va_P D clW ([] ++ ((wC cy ad I S ++ oLD cy ao aq fo fd) ++ wM cy bd J T)) H := hP
  have hDc : va_D (lcA s) ([] ++ ((wC cy ad I S ++ oLD cy ao aq fo fd) ++ wM cy bd J T)) := hD
  refine bwI_call (vx_runSW (As := [.ref (ad 0), .int a1, .int a2, .int a3, .int a4, .ref ao]) (rest := []) ⟨hx, hb, hml, hown, hts⟩ (c_L_changedDays l hl0 D cy ad I S H.size a1 a2 a3 a4 k n h fr to ofr oto hci ao aq fo fd) (cws_L_233 hts rfl rfl ⟨Nat.le_of_ble_eq_true rfl, Nat.le_of_ble_eq_true rfl⟩) (preSL hC hK hE (hZ.now hS) (blkF hDc hS hA) (blkY hPc) (blkYD hDc)) rfl rfl hl.1 rfl (lv_room (Nat.le_of_ble_eq_true rfl)) dL_law_1893 ⟨(by show cells + 5 ≤ 603072; omega), (by show slots + 30 ≤ 7202922; omega)⟩) hPc hDc hS hA (fun _ => rfl) (fun r u H locs hr_ hP hD hS => ?_)
  obtain ⟨I2, S2, fo2⟩ := u
  obtain ⟨val, hc9, hs9, hv9⟩ := hr_
  dsimp only at hc9 hs9 hv9
  have hP : va_P D clW (wL cy ad I2 S2 ao aq fo2 fd bd J T) H := hP
  have hD : va_D (lcA s) (wL cy ad I2 S2 ao aq fo2 fd bd J T) := hD
  refine lv_istore (lv' := [(6, .int r), (0, .ref b0), (1, .ref (ad 0)), (2, .ref (bd 0)), (3, .ref ao), (4, .ref aq), (5, .int (nI i))]) hx hb dL_law_1896 hl (by decide) rfl (fun ls hl => ?_)
  refine lv_aload_n hx hb dL_law_1898 rfl (lv_at hl 3 rfl) ?_
  refine lv_aload_n hx hb dL_law_1899 rfl (lv_at hl 1 rfl) ?_
  refine lv_iload hx hb dL_law_1900 (lv_at hl 6 rfl) ?_
  refine lv_iconst (v := 1) hx hb dL_law_1902 (by decide) ?_
  refine lv_iadd hx hb dL_law_1903 ?_
  refine top_eq (y := nI (i + 1)) (nI_add i 1) ?_
  refine va_sld hx hb hX hbl hbA hS (vp_in_nI (n := (i + 1)) (by omega) (by omega)) dL_law_1904 ?_
  refine top_eq (y := a1) (by rw [ha1, nI_clamp (by omega)]) ?_
  refine lv_aload_n hx hb dL_law_1905 rfl (lv_at hl 1 rfl) ?_
  refine lv_iload hx hb dL_law_1906 (lv_at hl 6 rfl) ?_
  refine lv_iconst (v := 2) hx hb dL_law_1908 (by decide) ?_
  refine lv_iadd hx hb dL_law_1909 ?_
  refine top_eq (y := nI (i + 2)) (nI_add i 2) ?_
  refine va_sld hx hb hX hbl hbA hS (vp_in_nI (n := (i + 2)) (by omega) (by omega)) dL_law_1910 ?_
  refine top_eq (y := a2) (by rw [ha2, nI_clamp (by omega)]) ?_
  refine lv_aload_n hx hb dL_law_1911 rfl (lv_at hl 1 rfl) ?_
  refine lv_iload hx hb dL_law_1912 (lv_at hl 6 rfl) ?_
  refine lv_iconst (v := 3) hx hb dL_law_1914 (by decide) ?_
  refine lv_iadd hx hb dL_law_1915 ?_
  refine top_eq (y := nI (i + 3)) (nI_add i 3) ?_
  refine va_sld hx hb hX hbl hbA hS (vp_in_nI (n := (i + 3)) (by omega) (by omega)) dL_law_1916 ?_
  refine top_eq (y := a3) (by rw [ha3, nI_clamp (by omega)]) ?_
  refine lv_aload_n hx hb dL_law_1917 rfl (lv_at hl 1 rfl) ?_
  refine lv_iload hx hb dL_law_1918 (lv_at hl 6 rfl) ?_
  refine lv_iconst (v := 4) hx hb dL_law_1920 (by decide) ?_
  refine lv_iadd hx hb dL_law_1921 ?_
  refine top_eq (y := nI (i + 4)) (nI_add i 4) ?_
  refine va_sld hx hb hX hbl hbA hS (vp_in_nI (n := (i + 4)) (by omega) (by omega)) dL_law_1922 ?_
  refine top_eq (y := a4) (by rw [ha4, nI_clamp (by omega)]) ?_
  have hPm : va_P D clW ((wC cy ad I2 S2 ++ oLD cy ao aq fo2 fd) ++ (wM cy bd J T ++ [])) H := hP
  have hDm : va_D (lcA s) ((wC cy ad I2 S2 ++ oLD cy ao aq fo2 fd) ++ (wM cy bd J T ++ [])) := hD
  refine bwI_call (va_runV (As := [.int a1, .int a2, .int a3, .int a4]) (rest := []) ⟨hx, hb, hml, hown, hts⟩ (c_X7_changedDays l D cy bd J T H.size a1 a2 a3 a4 k V.2.1.2.2.1 hk8 fr to V.mfr) (cw_L_235 hts rfl rfl ⟨Nat.le_of_ble_eq_true rfl, Nat.le_of_ble_eq_true rfl⟩) (preVW (ci := 7) (q0 := 0) hK (blkY hPm) (blkYD hDm) rfl rfl) rfl rfl hl.1 rfl (lv_room (Nat.le_of_ble_eq_true rfl)) dL_law_1923 ⟨(by show cells + 5 + 0 ≤ 603072; omega), (by show slots + 30 + 0 ≤ 7202922; omega)⟩) hPm hDm hS hA (fun _ => rfl) (fun w u H locs hq hP hD hS => ?_)
  obtain ⟨J2, T2⟩ := u
  have hP : va_P D clW (wL cy ad I2 S2 ao aq fo2 fd bd J2 T2) H := hP
  have hD : va_D (lcA s) (wL cy ad I2 S2 ao aq fo2 fd bd J2 T2) := hD
  obtain ⟨hms, hm1, hm2⟩ := hq
  dsimp only at hms hm1 hm2
  have ha : J2 0 = r ∧ (r = 0 → val = w) := ans_changed V hc9 ⟨hm1, hm2⟩
  have hinv : Inv I2 S2 J2 T2 := (V.ask hs9 hms).inv
  refine lv_istore (lv' := [(7, .int w), (6, .int r), (0, .ref b0), (1, .ref (ad 0)), (2, .ref (bd 0)), (3, .ref ao), (4, .ref aq), (5, .int (nI i))]) hx hb dL_law_1926 hl (by decide) rfl (fun ls hl => ?_)
  refine lv_aload_n hx hb dL_law_1928 rfl (lv_at hl 4 rfl) ?_
  have hPm : va_P D clW ((wC cy ad I2 S2 ++ oLD cy ao aq fo2 fd) ++ (wM cy bd J2 T2 ++ [])) H := hP
  refine rI_call (va_runV (As := []) (rest := []) ⟨hx, hb, hml, hown, hts⟩ (c_X7_thrown l D cy bd J2 T2) (cw_L_146 hts rfl rfl ⟨Nat.le_of_ble_eq_true rfl, Nat.le_of_ble_eq_true rfl⟩) (preVR (ci := 7) (q0 := 0) hK (blkY hPm) rfl rfl) rfl rfl hl.1 rfl (lv_room (Nat.le_of_ble_eq_true rfl)) dL_law_1929 ⟨(by show cells + 5 + 0 + 0 ≤ 603072; omega), (by show slots + 30 + 0 + 0 ≤ 7202922; omega)⟩) (fun t9 ht9 => ?_)
  subst ht9
  refine lv_iload hx hb dL_law_1932 (lv_at hl 1 rfl) ?_
  refine lv_icmp_eq (tgt := 1939) hx hb dL_law_1934 (by decide) (fun _ => ?_) (fun c1 => absurd ha.1 c1)
  refine lv_iload hx hb dL_law_1939 (lv_at hl 1 rfl) ?_
  refine lv_if_ne (tgt := 1956) hx hb dL_law_1941 (by decide) (fun _ => ?_) (fun h0 => ?_)
  · refine lv_goto (tgt := 3200) hx hb dL_law_1956 (by decide) ?_
    refine W_wid (k := cells + 8) (n := slots + 48) (by omega) (by omega) ?_
    exact hkk H locs I2 S2 J2 T2 fo2 fd ls hinv hP hD hS (lv_sub hl [2, 3, 4, 5, 6, 7] rfl)
  · have h0 : r = 0 := by first | exact h0 | exact Decidable.not_not.mp h0
    have hw := ha.2 h0
    refine lv_aload_n hx hb dL_law_1944 rfl (lv_at hl 5 rfl) ?_
    refine lv_iconst (v := 0) hx hb dL_law_1945 (by decide) ?_
    refine va_lald hx hb hK hP 29 3 rfl rfl (i := 0) vp_in01 dL_law_1946 ?_
    refine top_eqL (y := val.toInt64) (hv9 h0) ?_
    refine lv_iload hx hb dL_law_1947 (lv_at hl 0 rfl) ?_
    refine lv_i2l (v := w.toInt64) hx hb dL_law_1949 rfl ?_
    refine lc_eq (tgt := 1956) hx hb dL_law_1950 dL_law_1951 (by decide) (fun _ => ?_) (fun c2 => absurd (by rw [hw]) c2)
    refine lv_goto (tgt := 3200) hx hb dL_law_1956 (by decide) ?_
    refine W_wid (k := cells + 8) (n := slots + 48) (by omega) (by omega) ?_
    exact hkk H locs I2 S2 J2 T2 fo2 fd ls hinv hP hD hS (lv_sub hl [2, 3, 4, 5, 6, 7] rfl)

set_option maxHeartbeats 4000000 in
set_option maxRecDepth 100000 in
theorem cs_27 {p : Program} {l : Launch} {e : Env} {s : State} {m : MethodId} {below : List Frame} {meth : Method} {c : Code} {b0 L : Nat} {xs : Nat → Int32} {D : va_G} {cy : Nat → ClassId} {ad bd : Nat → Nat} {ao aq : Nat} {fo : Nat → Int64} {fd : Nat → UInt64} {I J : AI} {S T : AS} {i cells slots : Nat} {H : Heap} {locs : List Loc} {Q : State → Prop} {ls : Array Slot} (C0 : LCx p l s m c b0 L xs D cy) (hI : Inv I S J T) (hi : i + 7 ≤ L) (hcc : cells + 8 ≤ 603072) (hss : slots + 48 ≤ 7202922) (hP : va_P D clW (wL cy ad I S ao aq fo fd bd J T) H) (hD : va_D (lcA s) (wL cy ad I S ao aq fo fd bd J T)) (hS : va_S (lcA s) s.heap H locs) (hl : lv_has ls 9 (lcL b0 ad bd ao aq i)) (hkk : LK p l e s m b0 below meth c D cy ad bd ao aq i (cells + 8) (slots + 48) Q) : W p l e room_1 s m #[Value.ref b0] below meth c H locs cells slots Q (F0 m 1959 ls []) := by
  obtain ⟨hx, hb, hml, hown, hts, hl0, hX, hbl, hL, hC, hK, hE, hZ⟩ := C0
  obtain ⟨en, k, n, h, len, sl, fr, to, o, c9, osl, ofr, oto, V⟩ := hI
  have hk8 : k ≤ 256 := Nat.le_trans V.k8 (by decide)
  have hci := V.civ
  have hA : ∀ q : Nat, s.heap.size ≤ q → lcA s q := fun q h => h
  have hbA : ¬ lcA s b0 := Nat.not_le.mpr hbl
  have hl : lv_has ls 9 [(0, .ref b0), (1, .ref (ad 0)), (2, .ref (bd 0)), (3, .ref ao), (4, .ref aq), (5, .int (nI i))] := hl
  refine lv_aload_n hx hb dL_law_1959 rfl (lv_at hl 1 rfl) ?_
  refine lv_aload_n hx hb dL_law_1960 rfl (lv_at hl 0 rfl) ?_
  refine lv_iload hx hb dL_law_1961 (lv_at hl 5 rfl) ?_
  refine lv_iconst (v := 1) hx hb dL_law_1963 (by decide) ?_
  refine lv_iadd hx hb dL_law_1964 ?_
  refine top_eq (y := nI (i + 1)) (nI_add i 1) ?_
  obtain ⟨a1, ha1⟩ : ∃ z : Int32, z = xs (i + 1) := ⟨_, rfl⟩
  refine va_sld hx hb hX hbl hbA hS (vp_in_nI (n := (i + 1)) (by omega) (by omega)) dL_law_1965 ?_
  refine top_eq (y := a1) (by rw [ha1, nI_clamp (by omega)]) ?_
  refine lv_aload_n hx hb dL_law_1966 rfl (lv_at hl 0 rfl) ?_
  refine lv_iload hx hb dL_law_1967 (lv_at hl 5 rfl) ?_
  refine lv_iconst (v := 2) hx hb dL_law_1969 (by decide) ?_
  refine lv_iadd hx hb dL_law_1970 ?_
  refine top_eq (y := nI (i + 2)) (nI_add i 2) ?_
  obtain ⟨a2, ha2⟩ : ∃ z : Int32, z = xs (i + 2) := ⟨_, rfl⟩
  refine va_sld hx hb hX hbl hbA hS (vp_in_nI (n := (i + 2)) (by omega) (by omega)) dL_law_1971 ?_
  refine top_eq (y := a2) (by rw [ha2, nI_clamp (by omega)]) ?_
  refine lv_aload_n hx hb dL_law_1972 rfl (lv_at hl 0 rfl) ?_
  refine lv_iload hx hb dL_law_1973 (lv_at hl 5 rfl) ?_
  refine lv_iconst (v := 3) hx hb dL_law_1975 (by decide) ?_
  refine lv_iadd hx hb dL_law_1976 ?_
  refine top_eq (y := nI (i + 3)) (nI_add i 3) ?_
  obtain ⟨a3, ha3⟩ : ∃ z : Int32, z = xs (i + 3) := ⟨_, rfl⟩
  refine va_sld hx hb hX hbl hbA hS (vp_in_nI (n := (i + 3)) (by omega) (by omega)) dL_law_1977 ?_
  refine top_eq (y := a3) (by rw [ha3, nI_clamp (by omega)]) ?_
  refine lv_aload_n hx hb dL_law_1978 rfl (lv_at hl 3 rfl) ?_
  have hPc : va_P D clW ([] ++ ((wC cy ad I S ++ oLD cy ao aq fo fd) ++ wM cy bd J T)) H := hP
  have hDc : va_D (lcA s) ([] ++ ((wC cy ad I S ++ oLD cy ao aq fo fd) ++ wM cy bd J T)) := hD
  refine bwI_call (vx_runSW (As := [.ref (ad 0), .int a1, .int a2, .int a3, .ref ao]) (rest := []) ⟨hx, hb, hml, hown, hts⟩ (c_L_total l hl0 D cy ad I S H.size a1 a2 a3 en V.1.1 V.2.2.1.1 k n h fr to ofr oto hci ao aq fo fd) (cws_L_236 hts rfl rfl ⟨Nat.le_of_ble_eq_true rfl, Nat.le_of_ble_eq_true rfl⟩) (preSL hC hK hE (hZ.now hS) (blkF hDc hS hA) (blkY hPc) (blkYD hDc)) rfl rfl hl.1 rfl (lv_room (Nat.le_of_ble_eq_true rfl)) dL_law_1979 ⟨(by show cells + 5 ≤ 603072; omega), (by show slots + 30 ≤ 7202922; omega)⟩) hPc hDc hS hA (fun _ => rfl) (fun r u H locs hr_ hP hD hS => ?_)
  obtain ⟨I2, S2, fo2⟩ := u
  obtain ⟨val, hc9, hs9, hv9⟩ := hr_
  dsimp only at hc9 hs9 hv9
  have hP : va_P D clW (wL cy ad I2 S2 ao aq fo2 fd bd J T) H := hP
  have hD : va_D (lcA s) (wL cy ad I2 S2 ao aq fo2 fd bd J T) := hD
  refine lv_istore (lv' := [(6, .int r), (0, .ref b0), (1, .ref (ad 0)), (2, .ref (bd 0)), (3, .ref ao), (4, .ref aq), (5, .int (nI i))]) hx hb dL_law_1982 hl (by decide) rfl (fun ls hl => ?_)
  refine lv_aload_n hx hb dL_law_1984 rfl (lv_at hl 3 rfl) ?_
  refine lv_aload_n hx hb dL_law_1985 rfl (lv_at hl 1 rfl) ?_
  refine lv_iload hx hb dL_law_1986 (lv_at hl 6 rfl) ?_
  refine lv_iconst (v := 1) hx hb dL_law_1988 (by decide) ?_
  refine lv_iadd hx hb dL_law_1989 ?_
  refine top_eq (y := nI (i + 1)) (nI_add i 1) ?_
  refine va_sld hx hb hX hbl hbA hS (vp_in_nI (n := (i + 1)) (by omega) (by omega)) dL_law_1990 ?_
  refine top_eq (y := a1) (by rw [ha1, nI_clamp (by omega)]) ?_
  refine lv_aload_n hx hb dL_law_1991 rfl (lv_at hl 1 rfl) ?_
  refine lv_iload hx hb dL_law_1992 (lv_at hl 6 rfl) ?_
  refine lv_iconst (v := 2) hx hb dL_law_1994 (by decide) ?_
  refine lv_iadd hx hb dL_law_1995 ?_
  refine top_eq (y := nI (i + 2)) (nI_add i 2) ?_
  refine va_sld hx hb hX hbl hbA hS (vp_in_nI (n := (i + 2)) (by omega) (by omega)) dL_law_1996 ?_
  refine top_eq (y := a2) (by rw [ha2, nI_clamp (by omega)]) ?_
  refine lv_aload_n hx hb dL_law_1997 rfl (lv_at hl 1 rfl) ?_
  refine lv_iload hx hb dL_law_1998 (lv_at hl 6 rfl) ?_
  refine lv_iconst (v := 3) hx hb dL_law_2000 (by decide) ?_
  refine lv_iadd hx hb dL_law_2001 ?_
  refine top_eq (y := nI (i + 3)) (nI_add i 3) ?_
  refine va_sld hx hb hX hbl hbA hS (vp_in_nI (n := (i + 3)) (by omega) (by omega)) dL_law_2002 ?_
  refine top_eq (y := a3) (by rw [ha3, nI_clamp (by omega)]) ?_
  have hPm : va_P D clW ((wC cy ad I2 S2 ++ oLD cy ao aq fo2 fd) ++ (wM cy bd J T ++ [])) H := hP
  have hDm : va_D (lcA s) ((wC cy ad I2 S2 ++ oLD cy ao aq fo2 fd) ++ (wM cy bd J T ++ [])) := hD
  refine bwI_call (va_runV (As := [.int a1, .int a2, .int a3]) (rest := []) ⟨hx, hb, hml, hown, hts⟩ (c_X7_total l D cy bd J T H.size a1 a2 a3 k V.2.1.2.2.1 hk8 fr to V.mfr en V.2.1.1 V.2.2.1.1) (cw_L_238 hts rfl rfl ⟨Nat.le_of_ble_eq_true rfl, Nat.le_of_ble_eq_true rfl⟩) (preVW (ci := 7) (q0 := 0) hK (blkY hPm) (blkYD hDm) rfl rfl) rfl rfl hl.1 rfl (lv_room (Nat.le_of_ble_eq_true rfl)) dL_law_2003 ⟨(by show cells + 5 + 0 ≤ 603072; omega), (by show slots + 30 + 0 ≤ 7202922; omega)⟩) hPm hDm hS hA (fun _ => rfl) (fun w u H locs hq hP hD hS => ?_)
  obtain ⟨J2, T2⟩ := u
  have hP : va_P D clW (wL cy ad I2 S2 ao aq fo2 fd bd J2 T2) H := hP
  have hD : va_D (lcA s) (wL cy ad I2 S2 ao aq fo2 fd bd J2 T2) := hD
  obtain ⟨hms, hm1, hm2⟩ := hq
  dsimp only at hms hm1 hm2
  have ha : J2 0 = r ∧ (r = 0 → val = w) := ans_total V hc9 ⟨hm1, hm2⟩
  have hinv : Inv I2 S2 J2 T2 := (V.ask hs9 hms).inv
  refine lv_istore (lv' := [(7, .int w), (6, .int r), (0, .ref b0), (1, .ref (ad 0)), (2, .ref (bd 0)), (3, .ref ao), (4, .ref aq), (5, .int (nI i))]) hx hb dL_law_2006 hl (by decide) rfl (fun ls hl => ?_)
  refine lv_aload_n hx hb dL_law_2008 rfl (lv_at hl 4 rfl) ?_
  have hPm : va_P D clW ((wC cy ad I2 S2 ++ oLD cy ao aq fo2 fd) ++ (wM cy bd J2 T2 ++ [])) H := hP
  refine rI_call (va_runV (As := []) (rest := []) ⟨hx, hb, hml, hown, hts⟩ (c_X7_thrown l D cy bd J2 T2) (cw_L_146 hts rfl rfl ⟨Nat.le_of_ble_eq_true rfl, Nat.le_of_ble_eq_true rfl⟩) (preVR (ci := 7) (q0 := 0) hK (blkY hPm) rfl rfl) rfl rfl hl.1 rfl (lv_room (Nat.le_of_ble_eq_true rfl)) dL_law_2009 ⟨(by show cells + 5 + 0 + 0 ≤ 603072; omega), (by show slots + 30 + 0 + 0 ≤ 7202922; omega)⟩) (fun t9 ht9 => ?_)
  subst ht9
  refine lv_iload hx hb dL_law_2012 (lv_at hl 1 rfl) ?_
  refine lv_icmp_eq (tgt := 2019) hx hb dL_law_2014 (by decide) (fun _ => ?_) (fun c1 => absurd ha.1 c1)
  refine lv_iload hx hb dL_law_2019 (lv_at hl 1 rfl) ?_
  refine lv_if_ne (tgt := 2036) hx hb dL_law_2021 (by decide) (fun _ => ?_) (fun h0 => ?_)
  · refine lv_goto (tgt := 3200) hx hb dL_law_2036 (by decide) ?_
    refine W_wid (k := cells + 8) (n := slots + 48) (by omega) (by omega) ?_
    exact hkk H locs I2 S2 J2 T2 fo2 fd ls hinv hP hD hS (lv_sub hl [2, 3, 4, 5, 6, 7] rfl)
  · have h0 : r = 0 := by first | exact h0 | exact Decidable.not_not.mp h0
    have hw := ha.2 h0
    refine lv_aload_n hx hb dL_law_2024 rfl (lv_at hl 5 rfl) ?_
    refine lv_iconst (v := 0) hx hb dL_law_2025 (by decide) ?_
    refine va_lald hx hb hK hP 29 3 rfl rfl (i := 0) vp_in01 dL_law_2026 ?_
    refine top_eqL (y := val.toInt64) (hv9 h0) ?_
    refine lv_iload hx hb dL_law_2027 (lv_at hl 0 rfl) ?_
    refine lv_i2l (v := w.toInt64) hx hb dL_law_2029 rfl ?_
    refine lc_eq (tgt := 2036) hx hb dL_law_2030 dL_law_2031 (by decide) (fun _ => ?_) (fun c2 => absurd (by rw [hw]) c2)
    refine lv_goto (tgt := 3200) hx hb dL_law_2036 (by decide) ?_
    refine W_wid (k := cells + 8) (n := slots + 48) (by omega) (by omega) ?_
    exact hkk H locs I2 S2 J2 T2 fo2 fd ls hinv hP hD hS (lv_sub hl [2, 3, 4, 5, 6, 7] rfl)
