/-! the law's body: cases, 2 -/
set_option maxHeartbeats 4000000 in
set_option maxRecDepth 100000 in
theorem cs_7 {p : Program} {l : Launch} {e : Env} {s : State} {m : MethodId} {below : List Frame} {meth : Method} {c : Code} {b0 L : Nat} {xs : Nat → Int32} {D : va_G} {cy : Nat → ClassId} {ad bd : Nat → Nat} {ao aq : Nat} {fo : Nat → Int64} {fd : Nat → UInt64} {I J : AI} {S T : AS} {i cells slots : Nat} {H : Heap} {locs : List Loc} {Q : State → Prop} {ls : Array Slot} (C0 : LCx p l s m c b0 L xs D cy) (hI : Inv I S J T) (hi : i + 7 ≤ L) (hcc : cells + 8 ≤ 603072) (hss : slots + 48 ≤ 7202922) (hP : va_P D clW (wL cy ad I S ao aq fo fd bd J T) H) (hD : va_D (lcA s) (wL cy ad I S ao aq fo fd bd J T)) (hS : va_S (lcA s) s.heap H locs) (hl : lv_has ls 9 (lcL b0 ad bd ao aq i)) (hkk : LK p l e s m b0 below meth c D cy ad bd ao aq i (cells + 8) (slots + 48) Q) : W p l e room_1 s m #[Value.ref b0] below meth c H locs cells slots Q (F0 m 638 ls []) := by
  obtain ⟨hx, hb, hml, hown, hts, hl0, hX, hbl, hL, hC, hK, hE, hZ⟩ := C0
  obtain ⟨en, k, n, h, len, sl, fr, to, o, c9, osl, ofr, oto, V⟩ := hI
  have hk8 : k ≤ 256 := Nat.le_trans V.k8 (by decide)
  have hci := V.civ
  have hA : ∀ q : Nat, s.heap.size ≤ q → lcA s q := fun q h => h
  have hbA : ¬ lcA s b0 := Nat.not_le.mpr hbl
  have hl : lv_has ls 9 [(0, .ref b0), (1, .ref (ad 0)), (2, .ref (bd 0)), (3, .ref ao), (4, .ref aq), (5, .int (nI i))] := hl
  refine lv_aload_n hx hb dL_law_638 rfl (lv_at hl 1 rfl) ?_
  refine lv_aload_n hx hb dL_law_639 rfl (lv_at hl 0 rfl) ?_
  refine lv_iload hx hb dL_law_640 (lv_at hl 5 rfl) ?_
  refine lv_iconst (v := 1) hx hb dL_law_642 (by decide) ?_
  refine lv_iadd hx hb dL_law_643 ?_
  refine top_eq (y := nI (i + 1)) (nI_add i 1) ?_
  obtain ⟨a1, ha1⟩ : ∃ z : Int32, z = xs (i + 1) := ⟨_, rfl⟩
  refine va_sld hx hb hX hbl hbA hS (vp_in_nI (n := (i + 1)) (by omega) (by omega)) dL_law_644 ?_
  refine top_eq (y := a1) (by rw [ha1, nI_clamp (by omega)]) ?_
  refine lv_aload_n hx hb dL_law_645 rfl (lv_at hl 3 rfl) ?_
  have hPc : va_P D clW ([] ++ ((wC cy ad I S ++ oLD cy ao aq fo fd) ++ wM cy bd J T)) H := hP
  have hDc : va_D (lcA s) ([] ++ ((wC cy ad I S ++ oLD cy ao aq fo fd) ++ wM cy bd J T)) := hD
  refine bwI_call (vx_runSW (As := [.ref (ad 0), .int a1, .ref ao]) (rest := []) ⟨hx, hb, hml, hown, hts⟩ (c_L_entityOf l hl0 D cy ad I S H.size a1 k n h fr to ofr oto hci ao aq fo fd) (cws_L_172 hts rfl rfl ⟨Nat.le_of_ble_eq_true rfl, Nat.le_of_ble_eq_true rfl⟩) (preSL hC hK hE (hZ.now hS) (blkF hDc hS hA) (blkY hPc) (blkYD hDc)) rfl rfl hl.1 rfl (lv_room (Nat.le_of_ble_eq_true rfl)) dL_law_646 ⟨(by show cells + 1 ≤ 603072; omega), (by show slots + 6 ≤ 7202922; omega)⟩) hPc hDc hS hA (fun _ => rfl) (fun r u H locs hr_ hP hD hS => ?_)
  obtain ⟨I2, S2, fo2⟩ := u
  obtain ⟨val, hc9, hs9, hv9⟩ := hr_
  dsimp only at hc9 hs9 hv9
  have hP : va_P D clW (wL cy ad I2 S2 ao aq fo2 fd bd J T) H := hP
  have hD : va_D (lcA s) (wL cy ad I2 S2 ao aq fo2 fd bd J T) := hD
  refine lv_istore (lv' := [(6, .int r), (0, .ref b0), (1, .ref (ad 0)), (2, .ref (bd 0)), (3, .ref ao), (4, .ref aq), (5, .int (nI i))]) hx hb dL_law_649 hl (by decide) rfl (fun ls hl => ?_)
  refine lv_aload_n hx hb dL_law_651 rfl (lv_at hl 3 rfl) ?_
  refine lv_aload_n hx hb dL_law_652 rfl (lv_at hl 1 rfl) ?_
  refine lv_iload hx hb dL_law_653 (lv_at hl 6 rfl) ?_
  refine lv_iconst (v := 1) hx hb dL_law_655 (by decide) ?_
  refine lv_iadd hx hb dL_law_656 ?_
  refine top_eq (y := nI (i + 1)) (nI_add i 1) ?_
  refine va_sld hx hb hX hbl hbA hS (vp_in_nI (n := (i + 1)) (by omega) (by omega)) dL_law_657 ?_
  refine top_eq (y := a1) (by rw [ha1, nI_clamp (by omega)]) ?_
  have hPm : va_P D clW ((wC cy ad I2 S2 ++ oLD cy ao aq fo2 fd) ++ (wM cy bd J T ++ [])) H := hP
  have hDm : va_D (lcA s) ((wC cy ad I2 S2 ++ oLD cy ao aq fo2 fd) ++ (wM cy bd J T ++ [])) := hD
  refine bwI_call (va_runV (As := [.int a1]) (rest := []) ⟨hx, hb, hml, hown, hts⟩ (c_X7_entityOfB l D cy bd J T H.size a1 n V.2.1.2.1 V.2.2.1.2.1) (cw_L_174 hts rfl rfl ⟨Nat.le_of_ble_eq_true rfl, Nat.le_of_ble_eq_true rfl⟩) (preVW (ci := 7) (q0 := 0) hK (blkY hPm) (blkYD hDm) rfl rfl) rfl rfl hl.1 rfl (lv_room (Nat.le_of_ble_eq_true rfl)) dL_law_658 ⟨(by show cells + 1 + 0 ≤ 603072; omega), (by show slots + 6 + 0 ≤ 7202922; omega)⟩) hPm hDm hS hA (fun _ => rfl) (fun w u H locs hq hP hD hS => ?_)
  obtain ⟨J2, T2⟩ := u
  have hP : va_P D clW (wL cy ad I2 S2 ao aq fo2 fd bd J2 T2) H := hP
  have hD : va_D (lcA s) (wL cy ad I2 S2 ao aq fo2 fd bd J2 T2) := hD
  dsimp only at hq
  have ha : J2 0 = r ∧ (r = 0 → val = w) := ans_entityOf V hc9 (hq.elim (fun q => Or.inl ⟨q.1, q.2.1, q.2.2.1⟩) (fun q => Or.inr ⟨q.1, q.2.1⟩))
  have hinv : Inv I2 S2 J2 T2 := by
    rcases hq with ⟨-, -, q1, q2⟩ | ⟨-, q1, q2⟩
    · rw [q1, q2]; exact V.no hs9 _
    · rw [q1, q2]; exact V.no hs9 _
  refine lv_istore (lv' := [(7, .int w), (6, .int r), (0, .ref b0), (1, .ref (ad 0)), (2, .ref (bd 0)), (3, .ref ao), (4, .ref aq), (5, .int (nI i))]) hx hb dL_law_661 hl (by decide) rfl (fun ls hl => ?_)
  refine lv_aload_n hx hb dL_law_663 rfl (lv_at hl 4 rfl) ?_
  have hPm : va_P D clW ((wC cy ad I2 S2 ++ oLD cy ao aq fo2 fd) ++ (wM cy bd J2 T2 ++ [])) H := hP
  refine rI_call (va_runV (As := []) (rest := []) ⟨hx, hb, hml, hown, hts⟩ (c_X7_thrown l D cy bd J2 T2) (cw_L_146 hts rfl rfl ⟨Nat.le_of_ble_eq_true rfl, Nat.le_of_ble_eq_true rfl⟩) (preVR (ci := 7) (q0 := 0) hK (blkY hPm) rfl rfl) rfl rfl hl.1 rfl (lv_room (Nat.le_of_ble_eq_true rfl)) dL_law_664 ⟨(by show cells + 1 + 0 + 0 ≤ 603072; omega), (by show slots + 6 + 0 + 0 ≤ 7202922; omega)⟩) (fun t9 ht9 => ?_)
  subst ht9
  refine lv_iload hx hb dL_law_667 (lv_at hl 1 rfl) ?_
  refine lv_icmp_eq (tgt := 674) hx hb dL_law_669 (by decide) (fun _ => ?_) (fun c1 => absurd ha.1 c1)
  refine lv_iload hx hb dL_law_674 (lv_at hl 1 rfl) ?_
  refine lv_if_ne (tgt := 691) hx hb dL_law_676 (by decide) (fun _ => ?_) (fun h0 => ?_)
  · refine lv_goto (tgt := 3200) hx hb dL_law_691 (by decide) ?_
    refine W_wid (k := cells + 8) (n := slots + 48) (by omega) (by omega) ?_
    exact hkk H locs I2 S2 J2 T2 fo2 fd ls hinv hP hD hS (lv_sub hl [2, 3, 4, 5, 6, 7] rfl)
  · have h0 : r = 0 := by first | exact h0 | exact Decidable.not_not.mp h0
    have hw := ha.2 h0
    refine lv_aload_n hx hb dL_law_679 rfl (lv_at hl 5 rfl) ?_
    refine lv_iconst (v := 0) hx hb dL_law_680 (by decide) ?_
    refine va_lald hx hb hK hP 29 3 rfl rfl (i := 0) vp_in01 dL_law_681 ?_
    refine top_eqL (y := val.toInt64) (hv9 h0) ?_
    refine lv_iload hx hb dL_law_682 (lv_at hl 0 rfl) ?_
    refine lv_i2l (v := w.toInt64) hx hb dL_law_684 rfl ?_
    refine lc_eq (tgt := 691) hx hb dL_law_685 dL_law_686 (by decide) (fun _ => ?_) (fun c2 => absurd (by rw [hw]) c2)
    refine lv_goto (tgt := 3200) hx hb dL_law_691 (by decide) ?_
    refine W_wid (k := cells + 8) (n := slots + 48) (by omega) (by omega) ?_
    exact hkk H locs I2 S2 J2 T2 fo2 fd ls hinv hP hD hS (lv_sub hl [2, 3, 4, 5, 6, 7] rfl)

set_option maxHeartbeats 4000000 in
set_option maxRecDepth 100000 in
theorem cs_8 {p : Program} {l : Launch} {e : Env} {s : State} {m : MethodId} {below : List Frame} {meth : Method} {c : Code} {b0 L : Nat} {xs : Nat → Int32} {D : va_G} {cy : Nat → ClassId} {ad bd : Nat → Nat} {ao aq : Nat} {fo : Nat → Int64} {fd : Nat → UInt64} {I J : AI} {S T : AS} {i cells slots : Nat} {H : Heap} {locs : List Loc} {Q : State → Prop} {ls : Array Slot} (C0 : LCx p l s m c b0 L xs D cy) (hI : Inv I S J T) (hi : i + 7 ≤ L) (hcc : cells + 8 ≤ 603072) (hss : slots + 48 ≤ 7202922) (hP : va_P D clW (wL cy ad I S ao aq fo fd bd J T) H) (hD : va_D (lcA s) (wL cy ad I S ao aq fo fd bd J T)) (hS : va_S (lcA s) s.heap H locs) (hl : lv_has ls 9 (lcL b0 ad bd ao aq i)) (hkk : LK p l e s m b0 below meth c D cy ad bd ao aq i (cells + 8) (slots + 48) Q) : W p l e room_1 s m #[Value.ref b0] below meth c H locs cells slots Q (F0 m 694 ls []) := by
  obtain ⟨hx, hb, hml, hown, hts, hl0, hX, hbl, hL, hC, hK, hE, hZ⟩ := C0
  obtain ⟨en, k, n, h, len, sl, fr, to, o, c9, osl, ofr, oto, V⟩ := hI
  have hk8 : k ≤ 256 := Nat.le_trans V.k8 (by decide)
  have hci := V.civ
  have hA : ∀ q : Nat, s.heap.size ≤ q → lcA s q := fun q h => h
  have hbA : ¬ lcA s b0 := Nat.not_le.mpr hbl
  have hl : lv_has ls 9 [(0, .ref b0), (1, .ref (ad 0)), (2, .ref (bd 0)), (3, .ref ao), (4, .ref aq), (5, .int (nI i))] := hl
  refine lv_aload_n hx hb dL_law_694 rfl (lv_at hl 1 rfl) ?_
  have hPc : va_P D clW ([] ++ (wC cy ad I S ++ (oLD cy ao aq fo fd ++ wM cy bd J T))) H := hP
  refine rI_call (va_runV (As := []) (rest := []) ⟨hx, hb, hml, hown, hts⟩ (c_X6_factCount l D cy ad I S k n h fr to ofr oto hci) (cw_L_175 hts rfl rfl ⟨Nat.le_of_ble_eq_true rfl, Nat.le_of_ble_eq_true rfl⟩) (preVR (ci := 6) (q0 := 0) hK (blkY hPc) rfl rfl) rfl rfl hl.1 rfl (lv_room (Nat.le_of_ble_eq_true rfl)) dL_law_695 ⟨(by show cells + 0 ≤ 603072; omega), (by show slots + 0 ≤ 7202922; omega)⟩) (fun r hr_ => ?_)
  refine lv_aload_n hx hb dL_law_698 rfl (lv_at hl 2 rfl) ?_
  have hPm : va_P D clW ((wC cy ad I S ++ oLD cy ao aq fo fd) ++ (wM cy bd J T ++ [])) H := hP
  have hDm : va_D (lcA s) ((wC cy ad I S ++ oLD cy ao aq fo fd) ++ (wM cy bd J T ++ [])) := hD
  refine bwI_call (va_runV (As := []) (rest := [.int r]) ⟨hx, hb, hml, hown, hts⟩ (c_X7_factCount l D cy bd J T H.size) (cw_L_178 hts rfl rfl ⟨Nat.le_of_ble_eq_true rfl, Nat.le_of_ble_eq_true rfl⟩) (preVW (ci := 7) (q0 := 0) hK (blkY hPm) (blkYD hDm) rfl rfl) rfl rfl hl.1 rfl (lv_room (Nat.le_of_ble_eq_true rfl)) dL_law_699 ⟨(by show cells + 0 ≤ 603072; omega), (by show slots + 0 ≤ 7202922; omega)⟩) hPm hDm hS hA (fun _ => rfl) (fun w u H locs hq hP hD hS => ?_)
  have hP : va_P D clW (wL cy ad I S ao aq fo fd bd (va_up J 0 0) T) H := hP
  have hD : va_D (lcA s) (wL cy ad I S ao aq fo fd bd (va_up J 0 0) T) := hD
  have hq9 : r = w := hr_.trans ((show _ = _ from V.counts.1).trans hq.symm)
  refine lv_icmp_eq (tgt := 3200) hx hb dL_law_702 (by decide) (fun _ => ?_) (fun c1 => absurd hq9 c1)
  refine W_wid (k := cells + 8) (n := slots + 48) (by omega) (by omega) ?_
  exact hkk H locs I S (va_up J 0 0) T fo fd ls (V.no (scr_0 I S) 0) hP hD hS (lv_sub hl [0, 1, 2, 3, 4, 5] rfl)

set_option maxHeartbeats 4000000 in
set_option maxRecDepth 100000 in
theorem cs_9 {p : Program} {l : Launch} {e : Env} {s : State} {m : MethodId} {below : List Frame} {meth : Method} {c : Code} {b0 L : Nat} {xs : Nat → Int32} {D : va_G} {cy : Nat → ClassId} {ad bd : Nat → Nat} {ao aq : Nat} {fo : Nat → Int64} {fd : Nat → UInt64} {I J : AI} {S T : AS} {i cells slots : Nat} {H : Heap} {locs : List Loc} {Q : State → Prop} {ls : Array Slot} (C0 : LCx p l s m c b0 L xs D cy) (hI : Inv I S J T) (hi : i + 7 ≤ L) (hcc : cells + 8 ≤ 603072) (hss : slots + 48 ≤ 7202922) (hP : va_P D clW (wL cy ad I S ao aq fo fd bd J T) H) (hD : va_D (lcA s) (wL cy ad I S ao aq fo fd bd J T)) (hS : va_S (lcA s) s.heap H locs) (hl : lv_has ls 9 (lcL b0 ad bd ao aq i)) (hkk : LK p l e s m b0 below meth c D cy ad bd ao aq i (cells + 8) (slots + 48) Q) : W p l e room_1 s m #[Value.ref b0] below meth c H locs cells slots Q (F0 m 707 ls []) := by
  obtain ⟨hx, hb, hml, hown, hts, hl0, hX, hbl, hL, hC, hK, hE, hZ⟩ := C0
  obtain ⟨en, k, n, h, len, sl, fr, to, o, c9, osl, ofr, oto, V⟩ := hI
  have hk8 : k ≤ 256 := Nat.le_trans V.k8 (by decide)
  have hci := V.civ
  have hA : ∀ q : Nat, s.heap.size ≤ q → lcA s q := fun q h => h
  have hbA : ¬ lcA s b0 := Nat.not_le.mpr hbl
  have hl : lv_has ls 9 [(0, .ref b0), (1, .ref (ad 0)), (2, .ref (bd 0)), (3, .ref ao), (4, .ref aq), (5, .int (nI i))] := hl
  refine lv_aload_n hx hb dL_law_707 rfl (lv_at hl 1 rfl) ?_
  have hPc : va_P D clW ([] ++ (wC cy ad I S ++ (oLD cy ao aq fo fd ++ wM cy bd J T))) H := hP
  refine rI_call (va_runV (As := []) (rest := []) ⟨hx, hb, hml, hown, hts⟩ (c_X6_openCount l D cy ad I S k n h fr to ofr oto hci) (cw_L_179 hts rfl rfl ⟨Nat.le_of_ble_eq_true rfl, Nat.le_of_ble_eq_true rfl⟩) (preVR (ci := 6) (q0 := 0) hK (blkY hPc) rfl rfl) rfl rfl hl.1 rfl (lv_room (Nat.le_of_ble_eq_true rfl)) dL_law_708 ⟨(by show cells + 0 ≤ 603072; omega), (by show slots + 0 ≤ 7202922; omega)⟩) (fun r hr_ => ?_)
  refine lv_aload_n hx hb dL_law_711 rfl (lv_at hl 2 rfl) ?_
  have hPm : va_P D clW ((wC cy ad I S ++ oLD cy ao aq fo fd) ++ (wM cy bd J T ++ [])) H := hP
  have hDm : va_D (lcA s) ((wC cy ad I S ++ oLD cy ao aq fo fd) ++ (wM cy bd J T ++ [])) := hD
  refine bwI_call (va_runV (As := []) (rest := [.int r]) ⟨hx, hb, hml, hown, hts⟩ (c_X7_openCount l D cy bd J T H.size k V.2.1.2.2.1 hk8) (cw_L_182 hts rfl rfl ⟨Nat.le_of_ble_eq_true rfl, Nat.le_of_ble_eq_true rfl⟩) (preVW (ci := 7) (q0 := 0) hK (blkY hPm) (blkYD hDm) rfl rfl) rfl rfl hl.1 rfl (lv_room (Nat.le_of_ble_eq_true rfl)) dL_law_712 ⟨(by show cells + 0 ≤ 603072; omega), (by show slots + 0 ≤ 7202922; omega)⟩) hPm hDm hS hA (fun _ => rfl) (fun w u H locs hq hP hD hS => ?_)
  have hP : va_P D clW (wL cy ad I S ao aq fo fd bd (va_up J 0 0) T) H := hP
  have hD : va_D (lcA s) (wL cy ad I S ao aq fo fd bd (va_up J 0 0) T) := hD
  have hq9 : r = w := hr_.trans ((show _ = _ from V.counts.2).trans hq.symm)
  refine lv_icmp_eq (tgt := 3200) hx hb dL_law_715 (by decide) (fun _ => ?_) (fun c1 => absurd hq9 c1)
  refine W_wid (k := cells + 8) (n := slots + 48) (by omega) (by omega) ?_
  exact hkk H locs I S (va_up J 0 0) T fo fd ls (V.no (scr_0 I S) 0) hP hD hS (lv_sub hl [0, 1, 2, 3, 4, 5] rfl)

set_option maxHeartbeats 4000000 in
set_option maxRecDepth 100000 in
theorem cs_10 {p : Program} {l : Launch} {e : Env} {s : State} {m : MethodId} {below : List Frame} {meth : Method} {c : Code} {b0 L : Nat} {xs : Nat → Int32} {D : va_G} {cy : Nat → ClassId} {ad bd : Nat → Nat} {ao aq : Nat} {fo : Nat → Int64} {fd : Nat → UInt64} {I J : AI} {S T : AS} {i cells slots : Nat} {H : Heap} {locs : List Loc} {Q : State → Prop} {ls : Array Slot} (C0 : LCx p l s m c b0 L xs D cy) (hI : Inv I S J T) (hi : i + 7 ≤ L) (hcc : cells + 8 ≤ 603072) (hss : slots + 48 ≤ 7202922) (hP : va_P D clW (wL cy ad I S ao aq fo fd bd J T) H) (hD : va_D (lcA s) (wL cy ad I S ao aq fo fd bd J T)) (hS : va_S (lcA s) s.heap H locs) (hl : lv_has ls 9 (lcL b0 ad bd ao aq i)) (hkk : LK p l e s m b0 below meth c D cy ad bd ao aq i (cells + 8) (slots + 48) Q) : W p l e room_1 s m #[Value.ref b0] below meth c H locs cells slots Q (F0 m 720 ls []) := by
  obtain ⟨hx, hb, hml, hown, hts, hl0, hX, hbl, hL, hC, hK, hE, hZ⟩ := C0
  obtain ⟨en, k, n, h, len, sl, fr, to, o, c9, osl, ofr, oto, V⟩ := hI
  have hk8 : k ≤ 256 := Nat.le_trans V.k8 (by decide)
  have hci := V.civ
  have hA : ∀ q : Nat, s.heap.size ≤ q → lcA s q := fun q h => h
  have hbA : ¬ lcA s b0 := Nat.not_le.mpr hbl
  have hl : lv_has ls 9 [(0, .ref b0), (1, .ref (ad 0)), (2, .ref (bd 0)), (3, .ref ao), (4, .ref aq), (5, .int (nI i))] := hl
  refine lv_aload_n hx hb dL_law_720 rfl (lv_at hl 1 rfl) ?_
  refine lv_aload_n hx hb dL_law_721 rfl (lv_at hl 0 rfl) ?_
  refine lv_iload hx hb dL_law_722 (lv_at hl 5 rfl) ?_
  refine lv_iconst (v := 1) hx hb dL_law_724 (by decide) ?_
  refine lv_iadd hx hb dL_law_725 ?_
  refine top_eq (y := nI (i + 1)) (nI_add i 1) ?_
  obtain ⟨a1, ha1⟩ : ∃ z : Int32, z = xs (i + 1) := ⟨_, rfl⟩
  refine va_sld hx hb hX hbl hbA hS (vp_in_nI (n := (i + 1)) (by omega) (by omega)) dL_law_726 ?_
  refine top_eq (y := a1) (by rw [ha1, nI_clamp (by omega)]) ?_
  refine lv_aload_n hx hb dL_law_727 rfl (lv_at hl 3 rfl) ?_
  have hPc : va_P D clW ([] ++ ((wC cy ad I S ++ oLD cy ao aq fo fd) ++ wM cy bd J T)) H := hP
  have hDc : va_D (lcA s) ([] ++ ((wC cy ad I S ++ oLD cy ao aq fo fd) ++ wM cy bd J T)) := hD
  refine bwI_call (vx_runSW (As := [.ref (ad 0), .int a1, .ref ao]) (rest := []) ⟨hx, hb, hml, hown, hts⟩ (c_L_factValue l hl0 D cy ad I S H.size a1 k n h fr to ofr oto hci ao aq fo fd) (cws_L_183 hts rfl rfl ⟨Nat.le_of_ble_eq_true rfl, Nat.le_of_ble_eq_true rfl⟩) (preSL hC hK hE (hZ.now hS) (blkF hDc hS hA) (blkY hPc) (blkYD hDc)) rfl rfl hl.1 rfl (lv_room (Nat.le_of_ble_eq_true rfl)) dL_law_728 ⟨(by show cells + 1 ≤ 603072; omega), (by show slots + 6 ≤ 7202922; omega)⟩) hPc hDc hS hA (fun _ => rfl) (fun r u H locs hr_ hP hD hS => ?_)
  obtain ⟨I2, S2, fo2⟩ := u
  obtain ⟨val, hc9, hs9, hv9⟩ := hr_
  dsimp only at hc9 hs9 hv9
  have hP : va_P D clW (wL cy ad I2 S2 ao aq fo2 fd bd J T) H := hP
  have hD : va_D (lcA s) (wL cy ad I2 S2 ao aq fo2 fd bd J T) := hD
  refine lv_istore (lv' := [(6, .int r), (0, .ref b0), (1, .ref (ad 0)), (2, .ref (bd 0)), (3, .ref ao), (4, .ref aq), (5, .int (nI i))]) hx hb dL_law_731 hl (by decide) rfl (fun ls hl => ?_)
  refine lv_aload_n hx hb dL_law_733 rfl (lv_at hl 3 rfl) ?_
  refine lv_aload_n hx hb dL_law_734 rfl (lv_at hl 1 rfl) ?_
  refine lv_iload hx hb dL_law_735 (lv_at hl 6 rfl) ?_
  refine lv_iconst (v := 1) hx hb dL_law_737 (by decide) ?_
  refine lv_iadd hx hb dL_law_738 ?_
  refine top_eq (y := nI (i + 1)) (nI_add i 1) ?_
  refine va_sld hx hb hX hbl hbA hS (vp_in_nI (n := (i + 1)) (by omega) (by omega)) dL_law_739 ?_
  refine top_eq (y := a1) (by rw [ha1, nI_clamp (by omega)]) ?_
  have hPm : va_P D clW ((wC cy ad I2 S2 ++ oLD cy ao aq fo2 fd) ++ (wM cy bd J T ++ [])) H := hP
  have hDm : va_D (lcA s) ((wC cy ad I2 S2 ++ oLD cy ao aq fo2 fd) ++ (wM cy bd J T ++ [])) := hD
  refine bwI_call (va_runV (As := [.int a1]) (rest := []) ⟨hx, hb, hml, hown, hts⟩ (c_X7_factValue l D cy bd J T H.size a1 k V.2.1.2.2.1 hk8) (cw_L_185 hts rfl rfl ⟨Nat.le_of_ble_eq_true rfl, Nat.le_of_ble_eq_true rfl⟩) (preVW (ci := 7) (q0 := 0) hK (blkY hPm) (blkYD hDm) rfl rfl) rfl rfl hl.1 rfl (lv_room (Nat.le_of_ble_eq_true rfl)) dL_law_740 ⟨(by show cells + 1 + 0 ≤ 603072; omega), (by show slots + 6 + 0 ≤ 7202922; omega)⟩) hPm hDm hS hA (fun _ => rfl) (fun w u H locs hq hP hD hS => ?_)
  have hP : va_P D clW (wL cy ad I2 S2 ao aq fo2 fd bd (va_up J 0 (if mfB T (nI k) a1 = true then 0 else 1)) T) H := hP
  have hD : va_D (lcA s) (wL cy ad I2 S2 ao aq fo2 fd bd (va_up J 0 (if mfB T (nI k) a1 = true then 0 else 1)) T) := hD
  have ha : (va_up J 0 (if mfB T (nI k) a1 = true then 0 else 1)) 0 = r ∧ (r = 0 → val = w) := ans_fact V (f := S 9) (g := T 4) V.2.2.2.2.2.1.2.1 hc9 ⟨rfl, hq⟩
  have hinv : Inv I2 S2 (va_up J 0 (if mfB T (nI k) a1 = true then 0 else 1)) T := V.no hs9 _
  refine lv_istore (lv' := [(7, .int w), (6, .int r), (0, .ref b0), (1, .ref (ad 0)), (2, .ref (bd 0)), (3, .ref ao), (4, .ref aq), (5, .int (nI i))]) hx hb dL_law_743 hl (by decide) rfl (fun ls hl => ?_)
  refine lv_aload_n hx hb dL_law_745 rfl (lv_at hl 4 rfl) ?_
  have hPm : va_P D clW ((wC cy ad I2 S2 ++ oLD cy ao aq fo2 fd) ++ (wM cy bd (va_up J 0 (if mfB T (nI k) a1 = true then 0 else 1)) T ++ [])) H := hP
  refine rI_call (va_runV (As := []) (rest := []) ⟨hx, hb, hml, hown, hts⟩ (c_X7_thrown l D cy bd (va_up J 0 (if mfB T (nI k) a1 = true then 0 else 1)) T) (cw_L_146 hts rfl rfl ⟨Nat.le_of_ble_eq_true rfl, Nat.le_of_ble_eq_true rfl⟩) (preVR (ci := 7) (q0 := 0) hK (blkY hPm) rfl rfl) rfl rfl hl.1 rfl (lv_room (Nat.le_of_ble_eq_true rfl)) dL_law_746 ⟨(by show cells + 1 + 0 + 0 ≤ 603072; omega), (by show slots + 6 + 0 + 0 ≤ 7202922; omega)⟩) (fun t9 ht9 => ?_)
  subst ht9
  refine lv_iload hx hb dL_law_749 (lv_at hl 1 rfl) ?_
  refine lv_icmp_eq (tgt := 756) hx hb dL_law_751 (by decide) (fun _ => ?_) (fun c1 => absurd ha.1 c1)
  refine lv_iload hx hb dL_law_756 (lv_at hl 1 rfl) ?_
  refine lv_if_ne (tgt := 773) hx hb dL_law_758 (by decide) (fun _ => ?_) (fun h0 => ?_)
  · refine lv_goto (tgt := 3200) hx hb dL_law_773 (by decide) ?_
    refine W_wid (k := cells + 8) (n := slots + 48) (by omega) (by omega) ?_
    exact hkk H locs I2 S2 (va_up J 0 (if mfB T (nI k) a1 = true then 0 else 1)) T fo2 fd ls hinv hP hD hS (lv_sub hl [2, 3, 4, 5, 6, 7] rfl)
  · have h0 : r = 0 := by first | exact h0 | exact Decidable.not_not.mp h0
    have hw := ha.2 h0
    refine lv_aload_n hx hb dL_law_761 rfl (lv_at hl 5 rfl) ?_
    refine lv_iconst (v := 0) hx hb dL_law_762 (by decide) ?_
    refine va_lald hx hb hK hP 29 3 rfl rfl (i := 0) vp_in01 dL_law_763 ?_
    refine top_eqL (y := val.toInt64) (hv9 h0) ?_
    refine lv_iload hx hb dL_law_764 (lv_at hl 0 rfl) ?_
    refine lv_i2l (v := w.toInt64) hx hb dL_law_766 rfl ?_
    refine lc_eq (tgt := 773) hx hb dL_law_767 dL_law_768 (by decide) (fun _ => ?_) (fun c2 => absurd (by rw [hw]) c2)
    refine lv_goto (tgt := 3200) hx hb dL_law_773 (by decide) ?_
    refine W_wid (k := cells + 8) (n := slots + 48) (by omega) (by omega) ?_
    exact hkk H locs I2 S2 (va_up J 0 (if mfB T (nI k) a1 = true then 0 else 1)) T fo2 fd ls hinv hP hD hS (lv_sub hl [2, 3, 4, 5, 6, 7] rfl)

set_option maxHeartbeats 4000000 in
set_option maxRecDepth 100000 in
theorem cs_11 {p : Program} {l : Launch} {e : Env} {s : State} {m : MethodId} {below : List Frame} {meth : Method} {c : Code} {b0 L : Nat} {xs : Nat → Int32} {D : va_G} {cy : Nat → ClassId} {ad bd : Nat → Nat} {ao aq : Nat} {fo : Nat → Int64} {fd : Nat → UInt64} {I J : AI} {S T : AS} {i cells slots : Nat} {H : Heap} {locs : List Loc} {Q : State → Prop} {ls : Array Slot} (C0 : LCx p l s m c b0 L xs D cy) (hI : Inv I S J T) (hi : i + 7 ≤ L) (hcc : cells + 8 ≤ 603072) (hss : slots + 48 ≤ 7202922) (hP : va_P D clW (wL cy ad I S ao aq fo fd bd J T) H) (hD : va_D (lcA s) (wL cy ad I S ao aq fo fd bd J T)) (hS : va_S (lcA s) s.heap H locs) (hl : lv_has ls 9 (lcL b0 ad bd ao aq i)) (hkk : LK p l e s m b0 below meth c D cy ad bd ao aq i (cells + 8) (slots + 48) Q) : W p l e room_1 s m #[Value.ref b0] below meth c H locs cells slots Q (F0 m 776 ls []) := by
  obtain ⟨hx, hb, hml, hown, hts, hl0, hX, hbl, hL, hC, hK, hE, hZ⟩ := C0
  obtain ⟨en, k, n, h, len, sl, fr, to, o, c9, osl, ofr, oto, V⟩ := hI
  have hk8 : k ≤ 256 := Nat.le_trans V.k8 (by decide)
  have hci := V.civ
  have hA : ∀ q : Nat, s.heap.size ≤ q → lcA s q := fun q h => h
  have hbA : ¬ lcA s b0 := Nat.not_le.mpr hbl
  have hl : lv_has ls 9 [(0, .ref b0), (1, .ref (ad 0)), (2, .ref (bd 0)), (3, .ref ao), (4, .ref aq), (5, .int (nI i))] := hl
  refine lv_aload_n hx hb dL_law_776 rfl (lv_at hl 1 rfl) ?_
  refine lv_aload_n hx hb dL_law_777 rfl (lv_at hl 0 rfl) ?_
  refine lv_iload hx hb dL_law_778 (lv_at hl 5 rfl) ?_
  refine lv_iconst (v := 1) hx hb dL_law_780 (by decide) ?_
  refine lv_iadd hx hb dL_law_781 ?_
  refine top_eq (y := nI (i + 1)) (nI_add i 1) ?_
  obtain ⟨a1, ha1⟩ : ∃ z : Int32, z = xs (i + 1) := ⟨_, rfl⟩
  refine va_sld hx hb hX hbl hbA hS (vp_in_nI (n := (i + 1)) (by omega) (by omega)) dL_law_782 ?_
  refine top_eq (y := a1) (by rw [ha1, nI_clamp (by omega)]) ?_
  refine lv_aload_n hx hb dL_law_783 rfl (lv_at hl 3 rfl) ?_
  have hPc : va_P D clW ([] ++ ((wC cy ad I S ++ oLD cy ao aq fo fd) ++ wM cy bd J T)) H := hP
  have hDc : va_D (lcA s) ([] ++ ((wC cy ad I S ++ oLD cy ao aq fo fd) ++ wM cy bd J T)) := hD
  refine bwI_call (vx_runSW (As := [.ref (ad 0), .int a1, .ref ao]) (rest := []) ⟨hx, hb, hml, hown, hts⟩ (c_L_factFrom l hl0 D cy ad I S H.size a1 k n h fr to ofr oto hci ao aq fo fd) (cws_L_186 hts rfl rfl ⟨Nat.le_of_ble_eq_true rfl, Nat.le_of_ble_eq_true rfl⟩) (preSL hC hK hE (hZ.now hS) (blkF hDc hS hA) (blkY hPc) (blkYD hDc)) rfl rfl hl.1 rfl (lv_room (Nat.le_of_ble_eq_true rfl)) dL_law_784 ⟨(by show cells + 1 ≤ 603072; omega), (by show slots + 6 ≤ 7202922; omega)⟩) hPc hDc hS hA (fun _ => rfl) (fun r u H locs hr_ hP hD hS => ?_)
  obtain ⟨I2, S2, fo2⟩ := u
  obtain ⟨val, hc9, hs9, hv9⟩ := hr_
  dsimp only at hc9 hs9 hv9
  have hP : va_P D clW (wL cy ad I2 S2 ao aq fo2 fd bd J T) H := hP
  have hD : va_D (lcA s) (wL cy ad I2 S2 ao aq fo2 fd bd J T) := hD
  refine lv_istore (lv' := [(6, .int r), (0, .ref b0), (1, .ref (ad 0)), (2, .ref (bd 0)), (3, .ref ao), (4, .ref aq), (5, .int (nI i))]) hx hb dL_law_787 hl (by decide) rfl (fun ls hl => ?_)
  refine lv_aload_n hx hb dL_law_789 rfl (lv_at hl 3 rfl) ?_
  refine lv_aload_n hx hb dL_law_790 rfl (lv_at hl 1 rfl) ?_
  refine lv_iload hx hb dL_law_791 (lv_at hl 6 rfl) ?_
  refine lv_iconst (v := 1) hx hb dL_law_793 (by decide) ?_
  refine lv_iadd hx hb dL_law_794 ?_
  refine top_eq (y := nI (i + 1)) (nI_add i 1) ?_
  refine va_sld hx hb hX hbl hbA hS (vp_in_nI (n := (i + 1)) (by omega) (by omega)) dL_law_795 ?_
  refine top_eq (y := a1) (by rw [ha1, nI_clamp (by omega)]) ?_
  have hPm : va_P D clW ((wC cy ad I2 S2 ++ oLD cy ao aq fo2 fd) ++ (wM cy bd J T ++ [])) H := hP
  have hDm : va_D (lcA s) ((wC cy ad I2 S2 ++ oLD cy ao aq fo2 fd) ++ (wM cy bd J T ++ [])) := hD
  refine bwI_call (va_runV (As := [.int a1]) (rest := []) ⟨hx, hb, hml, hown, hts⟩ (c_X7_factFrom l D cy bd J T H.size a1 k V.2.1.2.2.1 hk8) (cw_L_188 hts rfl rfl ⟨Nat.le_of_ble_eq_true rfl, Nat.le_of_ble_eq_true rfl⟩) (preVW (ci := 7) (q0 := 0) hK (blkY hPm) (blkYD hDm) rfl rfl) rfl rfl hl.1 rfl (lv_room (Nat.le_of_ble_eq_true rfl)) dL_law_796 ⟨(by show cells + 1 + 0 ≤ 603072; omega), (by show slots + 6 + 0 ≤ 7202922; omega)⟩) hPm hDm hS hA (fun _ => rfl) (fun w u H locs hq hP hD hS => ?_)
  have hP : va_P D clW (wL cy ad I2 S2 ao aq fo2 fd bd (va_up J 0 (if mfB T (nI k) a1 = true then 0 else 1)) T) H := hP
  have hD : va_D (lcA s) (wL cy ad I2 S2 ao aq fo2 fd bd (va_up J 0 (if mfB T (nI k) a1 = true then 0 else 1)) T) := hD
  have ha : (va_up J 0 (if mfB T (nI k) a1 = true then 0 else 1)) 0 = r ∧ (r = 0 → val = w) := ans_fact V (f := S 10) (g := T 5) V.2.2.2.2.2.1.2.2.1 hc9 ⟨rfl, hq⟩
  have hinv : Inv I2 S2 (va_up J 0 (if mfB T (nI k) a1 = true then 0 else 1)) T := V.no hs9 _
  refine lv_istore (lv' := [(7, .int w), (6, .int r), (0, .ref b0), (1, .ref (ad 0)), (2, .ref (bd 0)), (3, .ref ao), (4, .ref aq), (5, .int (nI i))]) hx hb dL_law_799 hl (by decide) rfl (fun ls hl => ?_)
  refine lv_aload_n hx hb dL_law_801 rfl (lv_at hl 4 rfl) ?_
  have hPm : va_P D clW ((wC cy ad I2 S2 ++ oLD cy ao aq fo2 fd) ++ (wM cy bd (va_up J 0 (if mfB T (nI k) a1 = true then 0 else 1)) T ++ [])) H := hP
  refine rI_call (va_runV (As := []) (rest := []) ⟨hx, hb, hml, hown, hts⟩ (c_X7_thrown l D cy bd (va_up J 0 (if mfB T (nI k) a1 = true then 0 else 1)) T) (cw_L_146 hts rfl rfl ⟨Nat.le_of_ble_eq_true rfl, Nat.le_of_ble_eq_true rfl⟩) (preVR (ci := 7) (q0 := 0) hK (blkY hPm) rfl rfl) rfl rfl hl.1 rfl (lv_room (Nat.le_of_ble_eq_true rfl)) dL_law_802 ⟨(by show cells + 1 + 0 + 0 ≤ 603072; omega), (by show slots + 6 + 0 + 0 ≤ 7202922; omega)⟩) (fun t9 ht9 => ?_)
  subst ht9
  refine lv_iload hx hb dL_law_805 (lv_at hl 1 rfl) ?_
  refine lv_icmp_eq (tgt := 812) hx hb dL_law_807 (by decide) (fun _ => ?_) (fun c1 => absurd ha.1 c1)
  refine lv_iload hx hb dL_law_812 (lv_at hl 1 rfl) ?_
  refine lv_if_ne (tgt := 829) hx hb dL_law_814 (by decide) (fun _ => ?_) (fun h0 => ?_)
  · refine lv_goto (tgt := 3200) hx hb dL_law_829 (by decide) ?_
    refine W_wid (k := cells + 8) (n := slots + 48) (by omega) (by omega) ?_
    exact hkk H locs I2 S2 (va_up J 0 (if mfB T (nI k) a1 = true then 0 else 1)) T fo2 fd ls hinv hP hD hS (lv_sub hl [2, 3, 4, 5, 6, 7] rfl)
  · have h0 : r = 0 := by first | exact h0 | exact Decidable.not_not.mp h0
    have hw := ha.2 h0
    refine lv_aload_n hx hb dL_law_817 rfl (lv_at hl 5 rfl) ?_
    refine lv_iconst (v := 0) hx hb dL_law_818 (by decide) ?_
    refine va_lald hx hb hK hP 29 3 rfl rfl (i := 0) vp_in01 dL_law_819 ?_
    refine top_eqL (y := val.toInt64) (hv9 h0) ?_
    refine lv_iload hx hb dL_law_820 (lv_at hl 0 rfl) ?_
    refine lv_i2l (v := w.toInt64) hx hb dL_law_822 rfl ?_
    refine lc_eq (tgt := 829) hx hb dL_law_823 dL_law_824 (by decide) (fun _ => ?_) (fun c2 => absurd (by rw [hw]) c2)
    refine lv_goto (tgt := 3200) hx hb dL_law_829 (by decide) ?_
    refine W_wid (k := cells + 8) (n := slots + 48) (by omega) (by omega) ?_
    exact hkk H locs I2 S2 (va_up J 0 (if mfB T (nI k) a1 = true then 0 else 1)) T fo2 fd ls hinv hP hD hS (lv_sub hl [2, 3, 4, 5, 6, 7] rfl)

set_option maxHeartbeats 4000000 in
set_option maxRecDepth 100000 in
theorem cs_12 {p : Program} {l : Launch} {e : Env} {s : State} {m : MethodId} {below : List Frame} {meth : Method} {c : Code} {b0 L : Nat} {xs : Nat → Int32} {D : va_G} {cy : Nat → ClassId} {ad bd : Nat → Nat} {ao aq : Nat} {fo : Nat → Int64} {fd : Nat → UInt64} {I J : AI} {S T : AS} {i cells slots : Nat} {H : Heap} {locs : List Loc} {Q : State → Prop} {ls : Array Slot} (C0 : LCx p l s m c b0 L xs D cy) (hI : Inv I S J T) (hi : i + 7 ≤ L) (hcc : cells + 8 ≤ 603072) (hss : slots + 48 ≤ 7202922) (hP : va_P D clW (wL cy ad I S ao aq fo fd bd J T) H) (hD : va_D (lcA s) (wL cy ad I S ao aq fo fd bd J T)) (hS : va_S (lcA s) s.heap H locs) (hl : lv_has ls 9 (lcL b0 ad bd ao aq i)) (hkk : LK p l e s m b0 below meth c D cy ad bd ao aq i (cells + 8) (slots + 48) Q) : W p l e room_1 s m #[Value.ref b0] below meth c H locs cells slots Q (F0 m 832 ls []) := by
  obtain ⟨hx, hb, hml, hown, hts, hl0, hX, hbl, hL, hC, hK, hE, hZ⟩ := C0
  obtain ⟨en, k, n, h, len, sl, fr, to, o, c9, osl, ofr, oto, V⟩ := hI
  have hk8 : k ≤ 256 := Nat.le_trans V.k8 (by decide)
  have hci := V.civ
  have hA : ∀ q : Nat, s.heap.size ≤ q → lcA s q := fun q h => h
  have hbA : ¬ lcA s b0 := Nat.not_le.mpr hbl
  have hl : lv_has ls 9 [(0, .ref b0), (1, .ref (ad 0)), (2, .ref (bd 0)), (3, .ref ao), (4, .ref aq), (5, .int (nI i))] := hl
  refine lv_aload_n hx hb dL_law_832 rfl (lv_at hl 1 rfl) ?_
  refine lv_aload_n hx hb dL_law_833 rfl (lv_at hl 0 rfl) ?_
  refine lv_iload hx hb dL_law_834 (lv_at hl 5 rfl) ?_
  refine lv_iconst (v := 1) hx hb dL_law_836 (by decide) ?_
  refine lv_iadd hx hb dL_law_837 ?_
  refine top_eq (y := nI (i + 1)) (nI_add i 1) ?_
  obtain ⟨a1, ha1⟩ : ∃ z : Int32, z = xs (i + 1) := ⟨_, rfl⟩
  refine va_sld hx hb hX hbl hbA hS (vp_in_nI (n := (i + 1)) (by omega) (by omega)) dL_law_838 ?_
  refine top_eq (y := a1) (by rw [ha1, nI_clamp (by omega)]) ?_
  refine lv_aload_n hx hb dL_law_839 rfl (lv_at hl 3 rfl) ?_
  have hPc : va_P D clW ([] ++ ((wC cy ad I S ++ oLD cy ao aq fo fd) ++ wM cy bd J T)) H := hP
  have hDc : va_D (lcA s) ([] ++ ((wC cy ad I S ++ oLD cy ao aq fo fd) ++ wM cy bd J T)) := hD
  refine bwI_call (vx_runSW (As := [.ref (ad 0), .int a1, .ref ao]) (rest := []) ⟨hx, hb, hml, hown, hts⟩ (c_L_factTo l hl0 D cy ad I S H.size a1 k n h fr to ofr oto hci ao aq fo fd) (cws_L_189 hts rfl rfl ⟨Nat.le_of_ble_eq_true rfl, Nat.le_of_ble_eq_true rfl⟩) (preSL hC hK hE (hZ.now hS) (blkF hDc hS hA) (blkY hPc) (blkYD hDc)) rfl rfl hl.1 rfl (lv_room (Nat.le_of_ble_eq_true rfl)) dL_law_840 ⟨(by show cells + 1 ≤ 603072; omega), (by show slots + 6 ≤ 7202922; omega)⟩) hPc hDc hS hA (fun _ => rfl) (fun r u H locs hr_ hP hD hS => ?_)
  obtain ⟨I2, S2, fo2⟩ := u
  obtain ⟨val, hc9, hs9, hv9⟩ := hr_
  dsimp only at hc9 hs9 hv9
  have hP : va_P D clW (wL cy ad I2 S2 ao aq fo2 fd bd J T) H := hP
  have hD : va_D (lcA s) (wL cy ad I2 S2 ao aq fo2 fd bd J T) := hD
  refine lv_istore (lv' := [(6, .int r), (0, .ref b0), (1, .ref (ad 0)), (2, .ref (bd 0)), (3, .ref ao), (4, .ref aq), (5, .int (nI i))]) hx hb dL_law_843 hl (by decide) rfl (fun ls hl => ?_)
  refine lv_aload_n hx hb dL_law_845 rfl (lv_at hl 3 rfl) ?_
  refine lv_aload_n hx hb dL_law_846 rfl (lv_at hl 1 rfl) ?_
  refine lv_iload hx hb dL_law_847 (lv_at hl 6 rfl) ?_
  refine lv_iconst (v := 1) hx hb dL_law_849 (by decide) ?_
  refine lv_iadd hx hb dL_law_850 ?_
  refine top_eq (y := nI (i + 1)) (nI_add i 1) ?_
  refine va_sld hx hb hX hbl hbA hS (vp_in_nI (n := (i + 1)) (by omega) (by omega)) dL_law_851 ?_
  refine top_eq (y := a1) (by rw [ha1, nI_clamp (by omega)]) ?_
  have hPm : va_P D clW ((wC cy ad I2 S2 ++ oLD cy ao aq fo2 fd) ++ (wM cy bd J T ++ [])) H := hP
  have hDm : va_D (lcA s) ((wC cy ad I2 S2 ++ oLD cy ao aq fo2 fd) ++ (wM cy bd J T ++ [])) := hD
  refine bwI_call (va_runV (As := [.int a1]) (rest := []) ⟨hx, hb, hml, hown, hts⟩ (c_X7_factTo l D cy bd J T H.size a1 k V.2.1.2.2.1 hk8) (cw_L_191 hts rfl rfl ⟨Nat.le_of_ble_eq_true rfl, Nat.le_of_ble_eq_true rfl⟩) (preVW (ci := 7) (q0 := 0) hK (blkY hPm) (blkYD hDm) rfl rfl) rfl rfl hl.1 rfl (lv_room (Nat.le_of_ble_eq_true rfl)) dL_law_852 ⟨(by show cells + 1 + 0 ≤ 603072; omega), (by show slots + 6 + 0 ≤ 7202922; omega)⟩) hPm hDm hS hA (fun _ => rfl) (fun w u H locs hq hP hD hS => ?_)
  have hP : va_P D clW (wL cy ad I2 S2 ao aq fo2 fd bd (va_up J 0 (if mfB T (nI k) a1 = true then 0 else 1)) T) H := hP
  have hD : va_D (lcA s) (wL cy ad I2 S2 ao aq fo2 fd bd (va_up J 0 (if mfB T (nI k) a1 = true then 0 else 1)) T) := hD
  have ha : (va_up J 0 (if mfB T (nI k) a1 = true then 0 else 1)) 0 = r ∧ (r = 0 → val = w) := ans_fact V (f := S 11) (g := T 6) V.2.2.2.2.2.1.2.2.2.1 hc9 ⟨rfl, hq⟩
  have hinv : Inv I2 S2 (va_up J 0 (if mfB T (nI k) a1 = true then 0 else 1)) T := V.no hs9 _
  refine lv_istore (lv' := [(7, .int w), (6, .int r), (0, .ref b0), (1, .ref (ad 0)), (2, .ref (bd 0)), (3, .ref ao), (4, .ref aq), (5, .int (nI i))]) hx hb dL_law_855 hl (by decide) rfl (fun ls hl => ?_)
  refine lv_aload_n hx hb dL_law_857 rfl (lv_at hl 4 rfl) ?_
  have hPm : va_P D clW ((wC cy ad I2 S2 ++ oLD cy ao aq fo2 fd) ++ (wM cy bd (va_up J 0 (if mfB T (nI k) a1 = true then 0 else 1)) T ++ [])) H := hP
  refine rI_call (va_runV (As := []) (rest := []) ⟨hx, hb, hml, hown, hts⟩ (c_X7_thrown l D cy bd (va_up J 0 (if mfB T (nI k) a1 = true then 0 else 1)) T) (cw_L_146 hts rfl rfl ⟨Nat.le_of_ble_eq_true rfl, Nat.le_of_ble_eq_true rfl⟩) (preVR (ci := 7) (q0 := 0) hK (blkY hPm) rfl rfl) rfl rfl hl.1 rfl (lv_room (Nat.le_of_ble_eq_true rfl)) dL_law_858 ⟨(by show cells + 1 + 0 + 0 ≤ 603072; omega), (by show slots + 6 + 0 + 0 ≤ 7202922; omega)⟩) (fun t9 ht9 => ?_)
  subst ht9
  refine lv_iload hx hb dL_law_861 (lv_at hl 1 rfl) ?_
  refine lv_icmp_eq (tgt := 868) hx hb dL_law_863 (by decide) (fun _ => ?_) (fun c1 => absurd ha.1 c1)
  refine lv_iload hx hb dL_law_868 (lv_at hl 1 rfl) ?_
  refine lv_if_ne (tgt := 885) hx hb dL_law_870 (by decide) (fun _ => ?_) (fun h0 => ?_)
  · refine lv_goto (tgt := 3200) hx hb dL_law_885 (by decide) ?_
    refine W_wid (k := cells + 8) (n := slots + 48) (by omega) (by omega) ?_
    exact hkk H locs I2 S2 (va_up J 0 (if mfB T (nI k) a1 = true then 0 else 1)) T fo2 fd ls hinv hP hD hS (lv_sub hl [2, 3, 4, 5, 6, 7] rfl)
  · have h0 : r = 0 := by first | exact h0 | exact Decidable.not_not.mp h0
    have hw := ha.2 h0
    refine lv_aload_n hx hb dL_law_873 rfl (lv_at hl 5 rfl) ?_
    refine lv_iconst (v := 0) hx hb dL_law_874 (by decide) ?_
    refine va_lald hx hb hK hP 29 3 rfl rfl (i := 0) vp_in01 dL_law_875 ?_
    refine top_eqL (y := val.toInt64) (hv9 h0) ?_
    refine lv_iload hx hb dL_law_876 (lv_at hl 0 rfl) ?_
    refine lv_i2l (v := w.toInt64) hx hb dL_law_878 rfl ?_
    refine lc_eq (tgt := 885) hx hb dL_law_879 dL_law_880 (by decide) (fun _ => ?_) (fun c2 => absurd (by rw [hw]) c2)
    refine lv_goto (tgt := 3200) hx hb dL_law_885 (by decide) ?_
    refine W_wid (k := cells + 8) (n := slots + 48) (by omega) (by omega) ?_
    exact hkk H locs I2 S2 (va_up J 0 (if mfB T (nI k) a1 = true then 0 else 1)) T fo2 fd ls hinv hP hD hS (lv_sub hl [2, 3, 4, 5, 6, 7] rfl)

set_option maxHeartbeats 4000000 in
set_option maxRecDepth 100000 in
theorem cs_13 {p : Program} {l : Launch} {e : Env} {s : State} {m : MethodId} {below : List Frame} {meth : Method} {c : Code} {b0 L : Nat} {xs : Nat → Int32} {D : va_G} {cy : Nat → ClassId} {ad bd : Nat → Nat} {ao aq : Nat} {fo : Nat → Int64} {fd : Nat → UInt64} {I J : AI} {S T : AS} {i cells slots : Nat} {H : Heap} {locs : List Loc} {Q : State → Prop} {ls : Array Slot} (C0 : LCx p l s m c b0 L xs D cy) (hI : Inv I S J T) (hi : i + 7 ≤ L) (hcc : cells + 8 ≤ 603072) (hss : slots + 48 ≤ 7202922) (hP : va_P D clW (wL cy ad I S ao aq fo fd bd J T) H) (hD : va_D (lcA s) (wL cy ad I S ao aq fo fd bd J T)) (hS : va_S (lcA s) s.heap H locs) (hl : lv_has ls 9 (lcL b0 ad bd ao aq i)) (hkk : LK p l e s m b0 below meth c D cy ad bd ao aq i (cells + 8) (slots + 48) Q) : W p l e room_1 s m #[Value.ref b0] below meth c H locs cells slots Q (F0 m 888 ls []) := by
  obtain ⟨hx, hb, hml, hown, hts, hl0, hX, hbl, hL, hC, hK, hE, hZ⟩ := C0
  obtain ⟨en, k, n, h, len, sl, fr, to, o, c9, osl, ofr, oto, V⟩ := hI
  have hk8 : k ≤ 256 := Nat.le_trans V.k8 (by decide)
  have hci := V.civ
  have hA : ∀ q : Nat, s.heap.size ≤ q → lcA s q := fun q h => h
  have hbA : ¬ lcA s b0 := Nat.not_le.mpr hbl
  have hl : lv_has ls 9 [(0, .ref b0), (1, .ref (ad 0)), (2, .ref (bd 0)), (3, .ref ao), (4, .ref aq), (5, .int (nI i))] := hl
  refine lv_aload_n hx hb dL_law_888 rfl (lv_at hl 1 rfl) ?_
  refine lv_aload_n hx hb dL_law_889 rfl (lv_at hl 0 rfl) ?_
  refine lv_iload hx hb dL_law_890 (lv_at hl 5 rfl) ?_
  refine lv_iconst (v := 1) hx hb dL_law_892 (by decide) ?_
  refine lv_iadd hx hb dL_law_893 ?_
  refine top_eq (y := nI (i + 1)) (nI_add i 1) ?_
  obtain ⟨a1, ha1⟩ : ∃ z : Int32, z = xs (i + 1) := ⟨_, rfl⟩
  refine va_sld hx hb hX hbl hbA hS (vp_in_nI (n := (i + 1)) (by omega) (by omega)) dL_law_894 ?_
  refine top_eq (y := a1) (by rw [ha1, nI_clamp (by omega)]) ?_
  refine lv_aload_n hx hb dL_law_895 rfl (lv_at hl 3 rfl) ?_
  have hPc : va_P D clW ([] ++ ((wC cy ad I S ++ oLD cy ao aq fo fd) ++ wM cy bd J T)) H := hP
  have hDc : va_D (lcA s) ([] ++ ((wC cy ad I S ++ oLD cy ao aq fo fd) ++ wM cy bd J T)) := hD
  refine bwI_call (vx_runSW (As := [.ref (ad 0), .int a1, .ref ao]) (rest := []) ⟨hx, hb, hml, hown, hts⟩ (c_L_openedAt l hl0 D cy ad I S H.size a1 k n h fr to ofr oto hci ao aq fo fd) (cws_L_192 hts rfl rfl ⟨Nat.le_of_ble_eq_true rfl, Nat.le_of_ble_eq_true rfl⟩) (preSL hC hK hE (hZ.now hS) (blkF hDc hS hA) (blkY hPc) (blkYD hDc)) rfl rfl hl.1 rfl (lv_room (Nat.le_of_ble_eq_true rfl)) dL_law_896 ⟨(by show cells + 1 ≤ 603072; omega), (by show slots + 6 ≤ 7202922; omega)⟩) hPc hDc hS hA (fun _ => rfl) (fun r u H locs hr_ hP hD hS => ?_)
  obtain ⟨I2, S2, fo2⟩ := u
  obtain ⟨val, hc9, hs9, hv9⟩ := hr_
  dsimp only at hc9 hs9 hv9
  have hP : va_P D clW (wL cy ad I2 S2 ao aq fo2 fd bd J T) H := hP
  have hD : va_D (lcA s) (wL cy ad I2 S2 ao aq fo2 fd bd J T) := hD
  refine lv_istore (lv' := [(6, .int r), (0, .ref b0), (1, .ref (ad 0)), (2, .ref (bd 0)), (3, .ref ao), (4, .ref aq), (5, .int (nI i))]) hx hb dL_law_899 hl (by decide) rfl (fun ls hl => ?_)
  refine lv_aload_n hx hb dL_law_901 rfl (lv_at hl 3 rfl) ?_
  refine lv_aload_n hx hb dL_law_902 rfl (lv_at hl 1 rfl) ?_
  refine lv_iload hx hb dL_law_903 (lv_at hl 6 rfl) ?_
  refine lv_iconst (v := 1) hx hb dL_law_905 (by decide) ?_
  refine lv_iadd hx hb dL_law_906 ?_
  refine top_eq (y := nI (i + 1)) (nI_add i 1) ?_
  refine va_sld hx hb hX hbl hbA hS (vp_in_nI (n := (i + 1)) (by omega) (by omega)) dL_law_907 ?_
  refine top_eq (y := a1) (by rw [ha1, nI_clamp (by omega)]) ?_
  have hPm : va_P D clW ((wC cy ad I2 S2 ++ oLD cy ao aq fo2 fd) ++ (wM cy bd J T ++ [])) H := hP
  have hDm : va_D (lcA s) ((wC cy ad I2 S2 ++ oLD cy ao aq fo2 fd) ++ (wM cy bd J T ++ [])) := hD
  refine bwI_call (va_runV (As := [.int a1]) (rest := []) ⟨hx, hb, hml, hown, hts⟩ (c_X7_openedAt l D cy bd J T H.size a1 k V.2.1.2.2.1 hk8) (cw_L_194 hts rfl rfl ⟨Nat.le_of_ble_eq_true rfl, Nat.le_of_ble_eq_true rfl⟩) (preVW (ci := 7) (q0 := 0) hK (blkY hPm) (blkYD hDm) rfl rfl) rfl rfl hl.1 rfl (lv_room (Nat.le_of_ble_eq_true rfl)) dL_law_908 ⟨(by show cells + 1 + 0 ≤ 603072; omega), (by show slots + 6 + 0 ≤ 7202922; omega)⟩) hPm hDm hS hA (fun _ => rfl) (fun w u H locs hq hP hD hS => ?_)
  have hP : va_P D clW (wL cy ad I2 S2 ao aq fo2 fd bd (va_up J 0 (if mfB T (nI k) a1 = true then 0 else 1)) T) H := hP
  have hD : va_D (lcA s) (wL cy ad I2 S2 ao aq fo2 fd bd (va_up J 0 (if mfB T (nI k) a1 = true then 0 else 1)) T) := hD
  have ha : (va_up J 0 (if mfB T (nI k) a1 = true then 0 else 1)) 0 = r ∧ (r = 0 → val = w) := ans_fact V (f := S 12) (g := T 7) V.2.2.2.2.2.1.2.2.2.2.1 hc9 ⟨rfl, hq⟩
  have hinv : Inv I2 S2 (va_up J 0 (if mfB T (nI k) a1 = true then 0 else 1)) T := V.no hs9 _
  refine lv_istore (lv' := [(7, .int w), (6, .int r), (0, .ref b0), (1, .ref (ad 0)), (2, .ref (bd 0)), (3, .ref ao), (4, .ref aq), (5, .int (nI i))]) hx hb dL_law_911 hl (by decide) rfl (fun ls hl => ?_)
  refine lv_aload_n hx hb dL_law_913 rfl (lv_at hl 4 rfl) ?_
  have hPm : va_P D clW ((wC cy ad I2 S2 ++ oLD cy ao aq fo2 fd) ++ (wM cy bd (va_up J 0 (if mfB T (nI k) a1 = true then 0 else 1)) T ++ [])) H := hP
  refine rI_call (va_runV (As := []) (rest := []) ⟨hx, hb, hml, hown, hts⟩ (c_X7_thrown l D cy bd (va_up J 0 (if mfB T (nI k) a1 = true then 0 else 1)) T) (cw_L_146 hts rfl rfl ⟨Nat.le_of_ble_eq_true rfl, Nat.le_of_ble_eq_true rfl⟩) (preVR (ci := 7) (q0 := 0) hK (blkY hPm) rfl rfl) rfl rfl hl.1 rfl (lv_room (Nat.le_of_ble_eq_true rfl)) dL_law_914 ⟨(by show cells + 1 + 0 + 0 ≤ 603072; omega), (by show slots + 6 + 0 + 0 ≤ 7202922; omega)⟩) (fun t9 ht9 => ?_)
  subst ht9
  refine lv_iload hx hb dL_law_917 (lv_at hl 1 rfl) ?_
  refine lv_icmp_eq (tgt := 924) hx hb dL_law_919 (by decide) (fun _ => ?_) (fun c1 => absurd ha.1 c1)
  refine lv_iload hx hb dL_law_924 (lv_at hl 1 rfl) ?_
  refine lv_if_ne (tgt := 941) hx hb dL_law_926 (by decide) (fun _ => ?_) (fun h0 => ?_)
  · refine lv_goto (tgt := 3200) hx hb dL_law_941 (by decide) ?_
    refine W_wid (k := cells + 8) (n := slots + 48) (by omega) (by omega) ?_
    exact hkk H locs I2 S2 (va_up J 0 (if mfB T (nI k) a1 = true then 0 else 1)) T fo2 fd ls hinv hP hD hS (lv_sub hl [2, 3, 4, 5, 6, 7] rfl)
  · have h0 : r = 0 := by first | exact h0 | exact Decidable.not_not.mp h0
    have hw := ha.2 h0
    refine lv_aload_n hx hb dL_law_929 rfl (lv_at hl 5 rfl) ?_
    refine lv_iconst (v := 0) hx hb dL_law_930 (by decide) ?_
    refine va_lald hx hb hK hP 29 3 rfl rfl (i := 0) vp_in01 dL_law_931 ?_
    refine top_eqL (y := val.toInt64) (hv9 h0) ?_
    refine lv_iload hx hb dL_law_932 (lv_at hl 0 rfl) ?_
    refine lv_i2l (v := w.toInt64) hx hb dL_law_934 rfl ?_
    refine lc_eq (tgt := 941) hx hb dL_law_935 dL_law_936 (by decide) (fun _ => ?_) (fun c2 => absurd (by rw [hw]) c2)
    refine lv_goto (tgt := 3200) hx hb dL_law_941 (by decide) ?_
    refine W_wid (k := cells + 8) (n := slots + 48) (by omega) (by omega) ?_
    exact hkk H locs I2 S2 (va_up J 0 (if mfB T (nI k) a1 = true then 0 else 1)) T fo2 fd ls hinv hP hD hS (lv_sub hl [2, 3, 4, 5, 6, 7] rfl)
