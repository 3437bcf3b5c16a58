/-! the law's body: cases, 1 -/
set_option maxHeartbeats 4000000 in
set_option maxRecDepth 100000 in
theorem cs_0 {p : Program} {l : Launch} {e : Env} {s : State} {m : MethodId} {below : List Frame} {meth : Method} {c : Code} {b0 L : Nat} {xs : Nat → Int32} {D : va_G} {cy : Nat → ClassId} {ad bd : Nat → Nat} {ao aq : Nat} {fo : Nat → Int64} {fd : Nat → UInt64} {I J : AI} {S T : AS} {i cells slots : Nat} {H : Heap} {locs : List Loc} {Q : State → Prop} {ls : Array Slot} (C0 : LCx p l s m c b0 L xs D cy) (hI : Inv I S J T) (hi : i + 7 ≤ L) (hcc : cells + 8 ≤ 603072) (hss : slots + 48 ≤ 7202922) (hP : va_P D clW (wL cy ad I S ao aq fo fd bd J T) H) (hD : va_D (lcA s) (wL cy ad I S ao aq fo fd bd J T)) (hS : va_S (lcA s) s.heap H locs) (hl : lv_has ls 9 (lcL b0 ad bd ao aq i)) (hkk : LK p l e s m b0 below meth c D cy ad bd ao aq i (cells + 8) (slots + 48) Q) : W p l e room_1 s m #[Value.ref b0] below meth c H locs cells slots Q (F0 m 224 ls []) := by
  obtain ⟨hx, hb, hml, hown, hts, hl0, hX, hbl, hL, hC, hK, hE, hZ⟩ := C0
  obtain ⟨en, k, n, h, len, sl, fr, to, o, c9, osl, ofr, oto, V⟩ := hI
  have hk8 : k ≤ 256 := Nat.le_trans V.k8 (by decide)
  have hci := V.civ
  have hA : ∀ q : Nat, s.heap.size ≤ q → lcA s q := fun q h => h
  have hbA : ¬ lcA s b0 := Nat.not_le.mpr hbl
  have hl : lv_has ls 9 [(0, .ref b0), (1, .ref (ad 0)), (2, .ref (bd 0)), (3, .ref ao), (4, .ref aq), (5, .int (nI i))] := hl
  refine lv_aload_n hx hb dL_law_224 rfl (lv_at hl 1 rfl) ?_
  refine lv_aload_n hx hb dL_law_225 rfl (lv_at hl 3 rfl) ?_
  have hPc : va_P D clW ([] ++ ((wC cy ad I S ++ oLD cy ao aq fo fd) ++ wM cy bd J T)) H := hP
  have hDc : va_D (lcA s) ([] ++ ((wC cy ad I S ++ oLD cy ao aq fo fd) ++ wM cy bd J T)) := hD
  refine bwI_call (vx_runSW (As := [.ref (ad 0), .ref ao]) (rest := []) ⟨hx, hb, hml, hown, hts⟩ (c_L_addEntity l hl0 D cy ad I S H.size en V.1.1 V.2.2.1.1 ao aq fo fd) (cws_L_140 hts rfl rfl ⟨Nat.le_of_ble_eq_true rfl, Nat.le_of_ble_eq_true rfl⟩) (preSL hC hK hE (hZ.now hS) (blkF hDc hS hA) (blkY hPc) (blkYD hDc)) rfl rfl hl.1 rfl (lv_room (Nat.le_of_ble_eq_true rfl)) dL_law_226 ⟨(by show cells + 1 ≤ 603072; omega), (by show slots + 6 ≤ 7202922; omega)⟩) hPc hDc hS hA (fun _ => rfl) (fun r u H locs hr_ hP hD hS => ?_)
  obtain ⟨I2, S2, fo2⟩ := u
  obtain ⟨val, hc9, hv9⟩ := hr_
  dsimp only at hc9 hv9
  have hP : va_P D clW (wL cy ad I2 S2 ao aq fo2 fd bd J T) H := hP
  have hD : va_D (lcA s) (wL cy ad I2 S2 ao aq fo2 fd bd J T) := hD
  refine lv_istore (lv' := [(6, .int r), (0, .ref b0), (1, .ref (ad 0)), (2, .ref (bd 0)), (3, .ref ao), (4, .ref aq), (5, .int (nI i))]) hx hb dL_law_229 hl (by decide) rfl (fun ls hl => ?_)
  refine lv_aload_n hx hb dL_law_231 rfl (lv_at hl 3 rfl) ?_
  have hPm : va_P D clW ((wC cy ad I2 S2 ++ oLD cy ao aq fo2 fd) ++ (wM cy bd J T ++ [])) H := hP
  have hDm : va_D (lcA s) ((wC cy ad I2 S2 ++ oLD cy ao aq fo2 fd) ++ (wM cy bd J T ++ [])) := hD
  refine bwI_call (va_runV (As := []) (rest := []) ⟨hx, hb, hml, hown, hts⟩ (c_X7_addEntity l D cy bd J T H.size en V.2.1.1 V.2.2.1.1) (cw_L_145 hts rfl rfl ⟨Nat.le_of_ble_eq_true rfl, Nat.le_of_ble_eq_true rfl⟩) (preVW (ci := 7) (q0 := 0) hK (blkY hPm) (blkYD hDm) rfl rfl) rfl rfl hl.1 rfl (lv_room (Nat.le_of_ble_eq_true rfl)) dL_law_232 ⟨(by show cells + 1 + 0 ≤ 603072; omega), (by show slots + 6 + 0 ≤ 7202922; omega)⟩) hPm hDm hS hA (fun _ => rfl) (fun w u H locs hq hP hD hS => ?_)
  obtain ⟨J2, T2⟩ := u
  have hP : va_P D clW (wL cy ad I2 S2 ao aq fo2 fd bd J2 T2) H := hP
  have hD : va_D (lcA s) (wL cy ad I2 S2 ao aq fo2 fd bd J2 T2) := hD
  dsimp only at hq
  have ha3 := add_all V hc9 hq
  have ha : J2 0 = r ∧ (r = 0 → val = w) := ⟨ha3.1, ha3.2.1⟩
  have hinv : Inv I2 S2 J2 T2 := ha3.2.2
  refine lv_istore (lv' := [(7, .int w), (6, .int r), (0, .ref b0), (1, .ref (ad 0)), (2, .ref (bd 0)), (3, .ref ao), (4, .ref aq), (5, .int (nI i))]) hx hb dL_law_235 hl (by decide) rfl (fun ls hl => ?_)
  refine lv_aload_n hx hb dL_law_237 rfl (lv_at hl 4 rfl) ?_
  have hPm : va_P D clW ((wC cy ad I2 S2 ++ oLD cy ao aq fo2 fd) ++ (wM cy bd J2 T2 ++ [])) H := hP
  refine rI_call (va_runV (As := []) (rest := []) ⟨hx, hb, hml, hown, hts⟩ (c_X7_thrown l D cy bd J2 T2) (cw_L_146 hts rfl rfl ⟨Nat.le_of_ble_eq_true rfl, Nat.le_of_ble_eq_true rfl⟩) (preVR (ci := 7) (q0 := 0) hK (blkY hPm) rfl rfl) rfl rfl hl.1 rfl (lv_room (Nat.le_of_ble_eq_true rfl)) dL_law_238 ⟨(by show cells + 1 + 0 + 0 ≤ 603072; omega), (by show slots + 6 + 0 + 0 ≤ 7202922; omega)⟩) (fun t9 ht9 => ?_)
  subst ht9
  refine lv_iload hx hb dL_law_241 (lv_at hl 1 rfl) ?_
  refine lv_icmp_eq (tgt := 248) hx hb dL_law_243 (by decide) (fun _ => ?_) (fun c1 => absurd ha.1 c1)
  refine lv_iload hx hb dL_law_248 (lv_at hl 1 rfl) ?_
  refine lv_if_ne (tgt := 265) hx hb dL_law_250 (by decide) (fun _ => ?_) (fun h0 => ?_)
  · refine lv_goto (tgt := 3200) hx hb dL_law_265 (by decide) ?_
    refine W_wid (k := cells + 8) (n := slots + 48) (by omega) (by omega) ?_
    exact hkk H locs I2 S2 J2 T2 fo2 fd ls hinv hP hD hS (lv_sub hl [2, 3, 4, 5, 6, 7] rfl)
  · have h0 : r = 0 := by first | exact h0 | exact Decidable.not_not.mp h0
    have hw := ha.2 h0
    refine lv_aload_n hx hb dL_law_253 rfl (lv_at hl 5 rfl) ?_
    refine lv_iconst (v := 0) hx hb dL_law_254 (by decide) ?_
    refine va_lald hx hb hK hP 29 3 rfl rfl (i := 0) vp_in01 dL_law_255 ?_
    refine top_eqL (y := val.toInt64) (hv9 h0) ?_
    refine lv_iload hx hb dL_law_256 (lv_at hl 0 rfl) ?_
    refine lv_i2l (v := w.toInt64) hx hb dL_law_258 rfl ?_
    refine lc_eq (tgt := 265) hx hb dL_law_259 dL_law_260 (by decide) (fun _ => ?_) (fun c2 => absurd (by rw [hw]) c2)
    refine lv_goto (tgt := 3200) hx hb dL_law_265 (by decide) ?_
    refine W_wid (k := cells + 8) (n := slots + 48) (by omega) (by omega) ?_
    exact hkk H locs I2 S2 J2 T2 fo2 fd ls hinv hP hD hS (lv_sub hl [2, 3, 4, 5, 6, 7] rfl)

set_option maxHeartbeats 4000000 in
set_option maxRecDepth 100000 in
theorem cs_1 {p : Program} {l : Launch} {e : Env} {s : State} {m : MethodId} {below : List Frame} {meth : Method} {c : Code} {b0 L : Nat} {xs : Nat → Int32} {D : va_G} {cy : Nat → ClassId} {ad bd : Nat → Nat} {ao aq : Nat} {fo : Nat → Int64} {fd : Nat → UInt64} {I J : AI} {S T : AS} {i cells slots : Nat} {H : Heap} {locs : List Loc} {Q : State → Prop} {ls : Array Slot} (C0 : LCx p l s m c b0 L xs D cy) (hI : Inv I S J T) (hi : i + 7 ≤ L) (hcc : cells + 8 ≤ 603072) (hss : slots + 48 ≤ 7202922) (hP : va_P D clW (wL cy ad I S ao aq fo fd bd J T) H) (hD : va_D (lcA s) (wL cy ad I S ao aq fo fd bd J T)) (hS : va_S (lcA s) s.heap H locs) (hl : lv_has ls 9 (lcL b0 ad bd ao aq i)) (hkk : LK p l e s m b0 below meth c D cy ad bd ao aq i (cells + 8) (slots + 48) Q) : W p l e room_1 s m #[Value.ref b0] below meth c H locs cells slots Q (F0 m 268 ls []) := by
  obtain ⟨hx, hb, hml, hown, hts, hl0, hX, hbl, hL, hC, hK, hE, hZ⟩ := C0
  obtain ⟨en, k, n, h, len, sl, fr, to, o, c9, osl, ofr, oto, V⟩ := hI
  have hk8 : k ≤ 256 := Nat.le_trans V.k8 (by decide)
  have hci := V.civ
  have hA : ∀ q : Nat, s.heap.size ≤ q → lcA s q := fun q h => h
  have hbA : ¬ lcA s b0 := Nat.not_le.mpr hbl
  have hl : lv_has ls 9 [(0, .ref b0), (1, .ref (ad 0)), (2, .ref (bd 0)), (3, .ref ao), (4, .ref aq), (5, .int (nI i))] := hl
  refine lv_aload_n hx hb dL_law_268 rfl (lv_at hl 1 rfl) ?_
  have hPc : va_P D clW ([] ++ (wC cy ad I S ++ (oLD cy ao aq fo fd ++ wM cy bd J T))) H := hP
  refine rI_call (va_runV (As := []) (rest := []) ⟨hx, hb, hml, hown, hts⟩ (c_X6_entityCount l D cy ad I S) (cw_L_149 hts rfl rfl ⟨Nat.le_of_ble_eq_true rfl, Nat.le_of_ble_eq_true rfl⟩) (preVR (ci := 6) (q0 := 0) hK (blkY hPc) rfl rfl) rfl rfl hl.1 rfl (lv_room (Nat.le_of_ble_eq_true rfl)) dL_law_269 ⟨(by show cells + 0 ≤ 603072; omega), (by show slots + 0 ≤ 7202922; omega)⟩) (fun r hr_ => ?_)
  refine lv_aload_n hx hb dL_law_272 rfl (lv_at hl 2 rfl) ?_
  have hPm : va_P D clW ((wC cy ad I S ++ oLD cy ao aq fo fd) ++ (wM cy bd J T ++ [])) H := hP
  have hDm : va_D (lcA s) ((wC cy ad I S ++ oLD cy ao aq fo fd) ++ (wM cy bd J T ++ [])) := hD
  refine bwI_call (va_runV (As := []) (rest := [.int r]) ⟨hx, hb, hml, hown, hts⟩ (c_X7_entityCount l D cy bd J T H.size) (cw_L_152 hts rfl rfl ⟨Nat.le_of_ble_eq_true rfl, Nat.le_of_ble_eq_true rfl⟩) (preVW (ci := 7) (q0 := 0) hK (blkY hPm) (blkYD hDm) rfl rfl) rfl rfl hl.1 rfl (lv_room (Nat.le_of_ble_eq_true rfl)) dL_law_273 ⟨(by show cells + 0 ≤ 603072; omega), (by show slots + 0 ≤ 7202922; omega)⟩) hPm hDm hS hA (fun _ => rfl) (fun w u H locs hq hP hD hS => ?_)
  have hP : va_P D clW (wL cy ad I S ao aq fo fd bd (va_up J 0 0) T) H := hP
  have hD : va_D (lcA s) (wL cy ad I S ao aq fo fd bd (va_up J 0 0) T) := hD
  have hq9 : r = w := hr_.trans ((show _ = _ from V.1.1.trans V.2.1.1.symm).trans hq.symm)
  refine lv_icmp_eq (tgt := 3200) hx hb dL_law_276 (by decide) (fun _ => ?_) (fun c1 => absurd hq9 c1)
  refine W_wid (k := cells + 8) (n := slots + 48) (by omega) (by omega) ?_
  exact hkk H locs I S (va_up J 0 0) T fo fd ls (V.no (scr_0 I S) 0) hP hD hS (lv_sub hl [0, 1, 2, 3, 4, 5] rfl)

set_option maxHeartbeats 4000000 in
set_option maxRecDepth 100000 in
theorem cs_2 {p : Program} {l : Launch} {e : Env} {s : State} {m : MethodId} {below : List Frame} {meth : Method} {c : Code} {b0 L : Nat} {xs : Nat → Int32} {D : va_G} {cy : Nat → ClassId} {ad bd : Nat → Nat} {ao aq : Nat} {fo : Nat → Int64} {fd : Nat → UInt64} {I J : AI} {S T : AS} {i cells slots : Nat} {H : Heap} {locs : List Loc} {Q : State → Prop} {ls : Array Slot} (C0 : LCx p l s m c b0 L xs D cy) (hI : Inv I S J T) (hi : i + 7 ≤ L) (hcc : cells + 8 ≤ 603072) (hss : slots + 48 ≤ 7202922) (hP : va_P D clW (wL cy ad I S ao aq fo fd bd J T) H) (hD : va_D (lcA s) (wL cy ad I S ao aq fo fd bd J T)) (hS : va_S (lcA s) s.heap H locs) (hl : lv_has ls 9 (lcL b0 ad bd ao aq i)) (hkk : LK p l e s m b0 below meth c D cy ad bd ao aq i (cells + 8) (slots + 48) Q) : W p l e room_1 s m #[Value.ref b0] below meth c H locs cells slots Q (F0 m 281 ls []) := by
  obtain ⟨hx, hb, hml, hown, hts, hl0, hX, hbl, hL, hC, hK, hE, hZ⟩ := C0
  obtain ⟨en, k, n, h, len, sl, fr, to, o, c9, osl, ofr, oto, V⟩ := hI
  have hk8 : k ≤ 256 := Nat.le_trans V.k8 (by decide)
  have hci := V.civ
  have hA : ∀ q : Nat, s.heap.size ≤ q → lcA s q := fun q h => h
  have hbA : ¬ lcA s b0 := Nat.not_le.mpr hbl
  have hl : lv_has ls 9 [(0, .ref b0), (1, .ref (ad 0)), (2, .ref (bd 0)), (3, .ref ao), (4, .ref aq), (5, .int (nI i))] := hl
  refine lv_aload_n hx hb dL_law_281 rfl (lv_at hl 1 rfl) ?_
  refine lv_aload_n hx hb dL_law_282 rfl (lv_at hl 0 rfl) ?_
  refine lv_iload hx hb dL_law_283 (lv_at hl 5 rfl) ?_
  refine lv_iconst (v := 1) hx hb dL_law_285 (by decide) ?_
  refine lv_iadd hx hb dL_law_286 ?_
  refine top_eq (y := nI (i + 1)) (nI_add i 1) ?_
  obtain ⟨a1, ha1⟩ : ∃ z : Int32, z = xs (i + 1) := ⟨_, rfl⟩
  refine va_sld hx hb hX hbl hbA hS (vp_in_nI (n := (i + 1)) (by omega) (by omega)) dL_law_287 ?_
  refine top_eq (y := a1) (by rw [ha1, nI_clamp (by omega)]) ?_
  refine lv_aload_n hx hb dL_law_288 rfl (lv_at hl 0 rfl) ?_
  refine lv_iload hx hb dL_law_289 (lv_at hl 5 rfl) ?_
  refine lv_iconst (v := 2) hx hb dL_law_291 (by decide) ?_
  refine lv_iadd hx hb dL_law_292 ?_
  refine top_eq (y := nI (i + 2)) (nI_add i 2) ?_
  obtain ⟨a2, ha2⟩ : ∃ z : Int32, z = xs (i + 2) := ⟨_, rfl⟩
  refine va_sld hx hb hX hbl hbA hS (vp_in_nI (n := (i + 2)) (by omega) (by omega)) dL_law_293 ?_
  refine top_eq (y := a2) (by rw [ha2, nI_clamp (by omega)]) ?_
  refine lv_aload_n hx hb dL_law_294 rfl (lv_at hl 0 rfl) ?_
  refine lv_iload hx hb dL_law_295 (lv_at hl 5 rfl) ?_
  refine lv_iconst (v := 3) hx hb dL_law_297 (by decide) ?_
  refine lv_iadd hx hb dL_law_298 ?_
  refine top_eq (y := nI (i + 3)) (nI_add i 3) ?_
  obtain ⟨a3, ha3⟩ : ∃ z : Int32, z = xs (i + 3) := ⟨_, rfl⟩
  refine va_sld hx hb hX hbl hbA hS (vp_in_nI (n := (i + 3)) (by omega) (by omega)) dL_law_299 ?_
  refine top_eq (y := a3) (by rw [ha3, nI_clamp (by omega)]) ?_
  refine lv_aload_n hx hb dL_law_300 rfl (lv_at hl 0 rfl) ?_
  refine lv_iload hx hb dL_law_301 (lv_at hl 5 rfl) ?_
  refine lv_iconst (v := 4) hx hb dL_law_303 (by decide) ?_
  refine lv_iadd hx hb dL_law_304 ?_
  refine top_eq (y := nI (i + 4)) (nI_add i 4) ?_
  obtain ⟨a4, ha4⟩ : ∃ z : Int32, z = xs (i + 4) := ⟨_, rfl⟩
  refine va_sld hx hb hX hbl hbA hS (vp_in_nI (n := (i + 4)) (by omega) (by omega)) dL_law_305 ?_
  refine top_eq (y := a4) (by rw [ha4, nI_clamp (by omega)]) ?_
  refine lv_aload_n hx hb dL_law_306 rfl (lv_at hl 0 rfl) ?_
  refine lv_iload hx hb dL_law_307 (lv_at hl 5 rfl) ?_
  refine lv_iconst (v := 5) hx hb dL_law_309 (by decide) ?_
  refine lv_iadd hx hb dL_law_310 ?_
  refine top_eq (y := nI (i + 5)) (nI_add i 5) ?_
  obtain ⟨a5, ha5⟩ : ∃ z : Int32, z = xs (i + 5) := ⟨_, rfl⟩
  refine va_sld hx hb hX hbl hbA hS (vp_in_nI (n := (i + 5)) (by omega) (by omega)) dL_law_311 ?_
  refine top_eq (y := a5) (by rw [ha5, nI_clamp (by omega)]) ?_
  refine lv_aload_n hx hb dL_law_312 rfl (lv_at hl 3 rfl) ?_
  have hPc : va_P D clW ([] ++ ((wC cy ad I S ++ oLD cy ao aq fo fd) ++ wM cy bd J T)) H := hP
  have hDc : va_D (lcA s) ([] ++ ((wC cy ad I S ++ oLD cy ao aq fo fd) ++ wM cy bd J T)) := hD
  refine bwI_call (vx_runSW (As := [.ref (ad 0), .int a1, .int a2, .int a3, .int a4, .int a5, .ref ao]) (rest := []) ⟨hx, hb, hml, hown, hts⟩ (c_L_tell l hl0 D cy ad I S H.size a1 a2 a3 a4 a5 k n h fr to ofr oto hci ao aq fo fd) (cws_L_153 hts rfl rfl ⟨Nat.le_of_ble_eq_true rfl, Nat.le_of_ble_eq_true rfl⟩) (preSL hC hK hE (hZ.now hS) (blkF hDc hS hA) (blkY hPc) (blkYD hDc)) rfl rfl hl.1 rfl (lv_room (Nat.le_of_ble_eq_true rfl)) dL_law_313 ⟨(by show cells + 3 ≤ 603072; omega), (by show slots + 18 ≤ 7202922; omega)⟩) hPc hDc hS hA (fun _ => rfl) (fun r u H locs hr_ hP hD hS => ?_)
  obtain ⟨I2, S2, fo2⟩ := u
  obtain ⟨val, hc9, hv9⟩ := hr_
  dsimp only at hc9 hv9
  have hP : va_P D clW (wL cy ad I2 S2 ao aq fo2 fd bd J T) H := hP
  have hD : va_D (lcA s) (wL cy ad I2 S2 ao aq fo2 fd bd J T) := hD
  refine lv_istore (lv' := [(6, .int r), (0, .ref b0), (1, .ref (ad 0)), (2, .ref (bd 0)), (3, .ref ao), (4, .ref aq), (5, .int (nI i))]) hx hb dL_law_316 hl (by decide) rfl (fun ls hl => ?_)
  refine lv_aload_n hx hb dL_law_318 rfl (lv_at hl 3 rfl) ?_
  refine lv_aload_n hx hb dL_law_319 rfl (lv_at hl 1 rfl) ?_
  refine lv_iload hx hb dL_law_320 (lv_at hl 6 rfl) ?_
  refine lv_iconst (v := 1) hx hb dL_law_322 (by decide) ?_
  refine lv_iadd hx hb dL_law_323 ?_
  refine top_eq (y := nI (i + 1)) (nI_add i 1) ?_
  refine va_sld hx hb hX hbl hbA hS (vp_in_nI (n := (i + 1)) (by omega) (by omega)) dL_law_324 ?_
  refine top_eq (y := a1) (by rw [ha1, nI_clamp (by omega)]) ?_
  refine lv_aload_n hx hb dL_law_325 rfl (lv_at hl 1 rfl) ?_
  refine lv_iload hx hb dL_law_326 (lv_at hl 6 rfl) ?_
  refine lv_iconst (v := 2) hx hb dL_law_328 (by decide) ?_
  refine lv_iadd hx hb dL_law_329 ?_
  refine top_eq (y := nI (i + 2)) (nI_add i 2) ?_
  refine va_sld hx hb hX hbl hbA hS (vp_in_nI (n := (i + 2)) (by omega) (by omega)) dL_law_330 ?_
  refine top_eq (y := a2) (by rw [ha2, nI_clamp (by omega)]) ?_
  refine lv_aload_n hx hb dL_law_331 rfl (lv_at hl 1 rfl) ?_
  refine lv_iload hx hb dL_law_332 (lv_at hl 6 rfl) ?_
  refine lv_iconst (v := 3) hx hb dL_law_334 (by decide) ?_
  refine lv_iadd hx hb dL_law_335 ?_
  refine top_eq (y := nI (i + 3)) (nI_add i 3) ?_
  refine va_sld hx hb hX hbl hbA hS (vp_in_nI (n := (i + 3)) (by omega) (by omega)) dL_law_336 ?_
  refine top_eq (y := a3) (by rw [ha3, nI_clamp (by omega)]) ?_
  refine lv_aload_n hx hb dL_law_337 rfl (lv_at hl 1 rfl) ?_
  refine lv_iload hx hb dL_law_338 (lv_at hl 6 rfl) ?_
  refine lv_iconst (v := 4) hx hb dL_law_340 (by decide) ?_
  refine lv_iadd hx hb dL_law_341 ?_
  refine top_eq (y := nI (i + 4)) (nI_add i 4) ?_
  refine va_sld hx hb hX hbl hbA hS (vp_in_nI (n := (i + 4)) (by omega) (by omega)) dL_law_342 ?_
  refine top_eq (y := a4) (by rw [ha4, nI_clamp (by omega)]) ?_
  refine lv_aload_n hx hb dL_law_343 rfl (lv_at hl 1 rfl) ?_
  refine lv_iload hx hb dL_law_344 (lv_at hl 6 rfl) ?_
  refine lv_iconst (v := 5) hx hb dL_law_346 (by decide) ?_
  refine lv_iadd hx hb dL_law_347 ?_
  refine top_eq (y := nI (i + 5)) (nI_add i 5) ?_
  refine va_sld hx hb hX hbl hbA hS (vp_in_nI (n := (i + 5)) (by omega) (by omega)) dL_law_348 ?_
  refine top_eq (y := a5) (by rw [ha5, nI_clamp (by omega)]) ?_
  obtain ⟨mm, hto, htl⟩ := tell_all V hc9
  have hPm : va_P D clW ((wC cy ad I2 S2 ++ oLD cy ao aq fo2 fd) ++ (wM cy bd J T ++ [])) H := hP
  have hDm : va_D (lcA s) ((wC cy ad I2 S2 ++ oLD cy ao aq fo2 fd) ++ (wM cy bd J T ++ [])) := hD
  refine bwI_call (va_runV (As := [.int a1, .int a2, .int a3, .int a4, .int a5]) (rest := []) ⟨hx, hb, hml, hown, hts⟩ (c_X7_tell l D cy bd J T H.size a1 a2 a3 a4 a5 k V.2.1.2.2.1 hk8 n V.2.1.2.1 V.2.2.1.2.1 mm hto) (cw_L_156 hts rfl rfl ⟨Nat.le_of_ble_eq_true rfl, Nat.le_of_ble_eq_true rfl⟩) (preVW (ci := 7) (q0 := 0) hK (blkY hPm) (blkYD hDm) rfl rfl) rfl rfl hl.1 rfl (lv_room (Nat.le_of_ble_eq_true rfl)) dL_law_349 ⟨(by show cells + 3 + 0 ≤ 603072; omega), (by show slots + 18 + 0 ≤ 7202922; omega)⟩) hPm hDm hS hA (fun _ => rfl) (fun w u H locs hq hP hD hS => ?_)
  obtain ⟨J2, T2⟩ := u
  have hP : va_P D clW (wL cy ad I2 S2 ao aq fo2 fd bd J2 T2) H := hP
  have hD : va_D (lcA s) (wL cy ad I2 S2 ao aq fo2 fd bd J2 T2) := hD
  dsimp only at hq
  have ha3 := htl w J2 T2 hq
  have ha : J2 0 = r ∧ (r = 0 → val = w) := ⟨ha3.1, ha3.2.1⟩
  have hinv : Inv I2 S2 J2 T2 := ha3.2.2
  refine lv_istore (lv' := [(7, .int w), (6, .int r), (0, .ref b0), (1, .ref (ad 0)), (2, .ref (bd 0)), (3, .ref ao), (4, .ref aq), (5, .int (nI i))]) hx hb dL_law_352 hl (by decide) rfl (fun ls hl => ?_)
  refine lv_aload_n hx hb dL_law_354 rfl (lv_at hl 4 rfl) ?_
  have hPm : va_P D clW ((wC cy ad I2 S2 ++ oLD cy ao aq fo2 fd) ++ (wM cy bd J2 T2 ++ [])) H := hP
  refine rI_call (va_runV (As := []) (rest := []) ⟨hx, hb, hml, hown, hts⟩ (c_X7_thrown l D cy bd J2 T2) (cw_L_146 hts rfl rfl ⟨Nat.le_of_ble_eq_true rfl, Nat.le_of_ble_eq_true rfl⟩) (preVR (ci := 7) (q0 := 0) hK (blkY hPm) rfl rfl) rfl rfl hl.1 rfl (lv_room (Nat.le_of_ble_eq_true rfl)) dL_law_355 ⟨(by show cells + 3 + 0 + 0 ≤ 603072; omega), (by show slots + 18 + 0 + 0 ≤ 7202922; omega)⟩) (fun t9 ht9 => ?_)
  subst ht9
  refine lv_iload hx hb dL_law_358 (lv_at hl 1 rfl) ?_
  refine lv_icmp_eq (tgt := 365) hx hb dL_law_360 (by decide) (fun _ => ?_) (fun c1 => absurd ha.1 c1)
  refine lv_iload hx hb dL_law_365 (lv_at hl 1 rfl) ?_
  refine lv_if_ne (tgt := 382) hx hb dL_law_367 (by decide) (fun _ => ?_) (fun h0 => ?_)
  · refine lv_goto (tgt := 3200) hx hb dL_law_382 (by decide) ?_
    refine W_wid (k := cells + 8) (n := slots + 48) (by omega) (by omega) ?_
    exact hkk H locs I2 S2 J2 T2 fo2 fd ls hinv hP hD hS (lv_sub hl [2, 3, 4, 5, 6, 7] rfl)
  · have h0 : r = 0 := by first | exact h0 | exact Decidable.not_not.mp h0
    have hw := ha.2 h0
    refine lv_aload_n hx hb dL_law_370 rfl (lv_at hl 5 rfl) ?_
    refine lv_iconst (v := 0) hx hb dL_law_371 (by decide) ?_
    refine va_lald hx hb hK hP 29 3 rfl rfl (i := 0) vp_in01 dL_law_372 ?_
    refine top_eqL (y := val.toInt64) (hv9 h0) ?_
    refine lv_iload hx hb dL_law_373 (lv_at hl 0 rfl) ?_
    refine lv_i2l (v := w.toInt64) hx hb dL_law_375 rfl ?_
    refine lc_eq (tgt := 382) hx hb dL_law_376 dL_law_377 (by decide) (fun _ => ?_) (fun c2 => absurd (by rw [hw]) c2)
    refine lv_goto (tgt := 3200) hx hb dL_law_382 (by decide) ?_
    refine W_wid (k := cells + 8) (n := slots + 48) (by omega) (by omega) ?_
    exact hkk H locs I2 S2 J2 T2 fo2 fd ls hinv hP hD hS (lv_sub hl [2, 3, 4, 5, 6, 7] rfl)

set_option maxHeartbeats 4000000 in
set_option maxRecDepth 100000 in
theorem cs_3 {p : Program} {l : Launch} {e : Env} {s : State} {m : MethodId} {below : List Frame} {meth : Method} {c : Code} {b0 L : Nat} {xs : Nat → Int32} {D : va_G} {cy : Nat → ClassId} {ad bd : Nat → Nat} {ao aq : Nat} {fo : Nat → Int64} {fd : Nat → UInt64} {I J : AI} {S T : AS} {i cells slots : Nat} {H : Heap} {locs : List Loc} {Q : State → Prop} {ls : Array Slot} (C0 : LCx p l s m c b0 L xs D cy) (hI : Inv I S J T) (hi : i + 7 ≤ L) (hcc : cells + 8 ≤ 603072) (hss : slots + 48 ≤ 7202922) (hP : va_P D clW (wL cy ad I S ao aq fo fd bd J T) H) (hD : va_D (lcA s) (wL cy ad I S ao aq fo fd bd J T)) (hS : va_S (lcA s) s.heap H locs) (hl : lv_has ls 9 (lcL b0 ad bd ao aq i)) (hkk : LK p l e s m b0 below meth c D cy ad bd ao aq i (cells + 8) (slots + 48) Q) : W p l e room_1 s m #[Value.ref b0] below meth c H locs cells slots Q (F0 m 385 ls []) := by
  obtain ⟨hx, hb, hml, hown, hts, hl0, hX, hbl, hL, hC, hK, hE, hZ⟩ := C0
  obtain ⟨en, k, n, h, len, sl, fr, to, o, c9, osl, ofr, oto, V⟩ := hI
  have hk8 : k ≤ 256 := Nat.le_trans V.k8 (by decide)
  have hci := V.civ
  have hA : ∀ q : Nat, s.heap.size ≤ q → lcA s q := fun q h => h
  have hbA : ¬ lcA s b0 := Nat.not_le.mpr hbl
  have hl : lv_has ls 9 [(0, .ref b0), (1, .ref (ad 0)), (2, .ref (bd 0)), (3, .ref ao), (4, .ref aq), (5, .int (nI i))] := hl
  refine lv_aload_n hx hb dL_law_385 rfl (lv_at hl 1 rfl) ?_
  refine lv_aload_n hx hb dL_law_386 rfl (lv_at hl 0 rfl) ?_
  refine lv_iload hx hb dL_law_387 (lv_at hl 5 rfl) ?_
  refine lv_iconst (v := 1) hx hb dL_law_389 (by decide) ?_
  refine lv_iadd hx hb dL_law_390 ?_
  refine top_eq (y := nI (i + 1)) (nI_add i 1) ?_
  obtain ⟨a1, ha1⟩ : ∃ z : Int32, z = xs (i + 1) := ⟨_, rfl⟩
  refine va_sld hx hb hX hbl hbA hS (vp_in_nI (n := (i + 1)) (by omega) (by omega)) dL_law_391 ?_
  refine top_eq (y := a1) (by rw [ha1, nI_clamp (by omega)]) ?_
  refine lv_aload_n hx hb dL_law_392 rfl (lv_at hl 0 rfl) ?_
  refine lv_iload hx hb dL_law_393 (lv_at hl 5 rfl) ?_
  refine lv_iconst (v := 2) hx hb dL_law_395 (by decide) ?_
  refine lv_iadd hx hb dL_law_396 ?_
  refine top_eq (y := nI (i + 2)) (nI_add i 2) ?_
  obtain ⟨a2, ha2⟩ : ∃ z : Int32, z = xs (i + 2) := ⟨_, rfl⟩
  refine va_sld hx hb hX hbl hbA hS (vp_in_nI (n := (i + 2)) (by omega) (by omega)) dL_law_397 ?_
  refine top_eq (y := a2) (by rw [ha2, nI_clamp (by omega)]) ?_
  refine lv_aload_n hx hb dL_law_398 rfl (lv_at hl 0 rfl) ?_
  refine lv_iload hx hb dL_law_399 (lv_at hl 5 rfl) ?_
  refine lv_iconst (v := 3) hx hb dL_law_401 (by decide) ?_
  refine lv_iadd hx hb dL_law_402 ?_
  refine top_eq (y := nI (i + 3)) (nI_add i 3) ?_
  obtain ⟨a3, ha3⟩ : ∃ z : Int32, z = xs (i + 3) := ⟨_, rfl⟩
  refine va_sld hx hb hX hbl hbA hS (vp_in_nI (n := (i + 3)) (by omega) (by omega)) dL_law_403 ?_
  refine top_eq (y := a3) (by rw [ha3, nI_clamp (by omega)]) ?_
  refine lv_aload_n hx hb dL_law_404 rfl (lv_at hl 0 rfl) ?_
  refine lv_iload hx hb dL_law_405 (lv_at hl 5 rfl) ?_
  refine lv_iconst (v := 4) hx hb dL_law_407 (by decide) ?_
  refine lv_iadd hx hb dL_law_408 ?_
  refine top_eq (y := nI (i + 4)) (nI_add i 4) ?_
  obtain ⟨a4, ha4⟩ : ∃ z : Int32, z = xs (i + 4) := ⟨_, rfl⟩
  refine va_sld hx hb hX hbl hbA hS (vp_in_nI (n := (i + 4)) (by omega) (by omega)) dL_law_409 ?_
  refine top_eq (y := a4) (by rw [ha4, nI_clamp (by omega)]) ?_
  refine lv_aload_n hx hb dL_law_410 rfl (lv_at hl 3 rfl) ?_
  have hPc : va_P D clW ([] ++ ((wC cy ad I S ++ oLD cy ao aq fo fd) ++ wM cy bd J T)) H := hP
  have hDc : va_D (lcA s) ([] ++ ((wC cy ad I S ++ oLD cy ao aq fo fd) ++ wM cy bd J T)) := hD
  refine bwI_call (vx_runSW (As := [.ref (ad 0), .int a1, .int a2, .int a3, .int a4, .ref ao]) (rest := []) ⟨hx, hb, hml, hown, hts⟩ (c_L_retract l hl0 D cy ad I S H.size a1 a2 a3 a4 k n h fr to ofr oto hci ao aq fo fd) (cws_L_157 hts rfl rfl ⟨Nat.le_of_ble_eq_true rfl, Nat.le_of_ble_eq_true rfl⟩) (preSL hC hK hE (hZ.now hS) (blkF hDc hS hA) (blkY hPc) (blkYD hDc)) rfl rfl hl.1 rfl (lv_room (Nat.le_of_ble_eq_true rfl)) dL_law_411 ⟨(by show cells + 3 ≤ 603072; omega), (by show slots + 18 ≤ 7202922; omega)⟩) hPc hDc hS hA (fun _ => rfl) (fun r u H locs hr_ hP hD hS => ?_)
  obtain ⟨I2, S2, fo2⟩ := u
  obtain ⟨val, hc9, hv9⟩ := hr_
  dsimp only at hc9 hv9
  have hP : va_P D clW (wL cy ad I2 S2 ao aq fo2 fd bd J T) H := hP
  have hD : va_D (lcA s) (wL cy ad I2 S2 ao aq fo2 fd bd J T) := hD
  refine lv_istore (lv' := [(6, .int r), (0, .ref b0), (1, .ref (ad 0)), (2, .ref (bd 0)), (3, .ref ao), (4, .ref aq), (5, .int (nI i))]) hx hb dL_law_414 hl (by decide) rfl (fun ls hl => ?_)
  refine lv_aload_n hx hb dL_law_416 rfl (lv_at hl 3 rfl) ?_
  refine lv_aload_n hx hb dL_law_417 rfl (lv_at hl 1 rfl) ?_
  refine lv_iload hx hb dL_law_418 (lv_at hl 6 rfl) ?_
  refine lv_iconst (v := 1) hx hb dL_law_420 (by decide) ?_
  refine lv_iadd hx hb dL_law_421 ?_
  refine top_eq (y := nI (i + 1)) (nI_add i 1) ?_
  refine va_sld hx hb hX hbl hbA hS (vp_in_nI (n := (i + 1)) (by omega) (by omega)) dL_law_422 ?_
  refine top_eq (y := a1) (by rw [ha1, nI_clamp (by omega)]) ?_
  refine lv_aload_n hx hb dL_law_423 rfl (lv_at hl 1 rfl) ?_
  refine lv_iload hx hb dL_law_424 (lv_at hl 6 rfl) ?_
  refine lv_iconst (v := 2) hx hb dL_law_426 (by decide) ?_
  refine lv_iadd hx hb dL_law_427 ?_
  refine top_eq (y := nI (i + 2)) (nI_add i 2) ?_
  refine va_sld hx hb hX hbl hbA hS (vp_in_nI (n := (i + 2)) (by omega) (by omega)) dL_law_428 ?_
  refine top_eq (y := a2) (by rw [ha2, nI_clamp (by omega)]) ?_
  refine lv_aload_n hx hb dL_law_429 rfl (lv_at hl 1 rfl) ?_
  refine lv_iload hx hb dL_law_430 (lv_at hl 6 rfl) ?_
  refine lv_iconst (v := 3) hx hb dL_law_432 (by decide) ?_
  refine lv_iadd hx hb dL_law_433 ?_
  refine top_eq (y := nI (i + 3)) (nI_add i 3) ?_
  refine va_sld hx hb hX hbl hbA hS (vp_in_nI (n := (i + 3)) (by omega) (by omega)) dL_law_434 ?_
  refine top_eq (y := a3) (by rw [ha3, nI_clamp (by omega)]) ?_
  refine lv_aload_n hx hb dL_law_435 rfl (lv_at hl 1 rfl) ?_
  refine lv_iload hx hb dL_law_436 (lv_at hl 6 rfl) ?_
  refine lv_iconst (v := 4) hx hb dL_law_438 (by decide) ?_
  refine lv_iadd hx hb dL_law_439 ?_
  refine top_eq (y := nI (i + 4)) (nI_add i 4) ?_
  refine va_sld hx hb hX hbl hbA hS (vp_in_nI (n := (i + 4)) (by omega) (by omega)) dL_law_440 ?_
  refine top_eq (y := a4) (by rw [ha4, nI_clamp (by omega)]) ?_
  obtain ⟨mm, hto, htl⟩ := retract_all V hc9
  have hPm : va_P D clW ((wC cy ad I2 S2 ++ oLD cy ao aq fo2 fd) ++ (wM cy bd J T ++ [])) H := hP
  have hDm : va_D (lcA s) ((wC cy ad I2 S2 ++ oLD cy ao aq fo2 fd) ++ (wM cy bd J T ++ [])) := hD
  refine bwI_call (va_runV (As := [.int a1, .int a2, .int a3, .int a4]) (rest := []) ⟨hx, hb, hml, hown, hts⟩ (c_X7_retract l D cy bd J T H.size a1 a2 a3 a4 k V.2.1.2.2.1 hk8 fr to V.mfr n V.2.1.2.1 V.2.2.1.2.1 mm hto) (cw_L_160 hts rfl rfl ⟨Nat.le_of_ble_eq_true rfl, Nat.le_of_ble_eq_true rfl⟩) (preVW (ci := 7) (q0 := 0) hK (blkY hPm) (blkYD hDm) rfl rfl) rfl rfl hl.1 rfl (lv_room (Nat.le_of_ble_eq_true rfl)) dL_law_441 ⟨(by show cells + 3 + 0 ≤ 603072; omega), (by show slots + 18 + 0 ≤ 7202922; omega)⟩) hPm hDm hS hA (fun _ => rfl) (fun w u H locs hq hP hD hS => ?_)
  obtain ⟨J2, T2⟩ := u
  have hP : va_P D clW (wL cy ad I2 S2 ao aq fo2 fd bd J2 T2) H := hP
  have hD : va_D (lcA s) (wL cy ad I2 S2 ao aq fo2 fd bd J2 T2) := hD
  dsimp only at hq
  have ha3 := htl w J2 T2 hq
  have ha : J2 0 = r ∧ (r = 0 → val = w) := ⟨ha3.1, ha3.2.1⟩
  have hinv : Inv I2 S2 J2 T2 := ha3.2.2
  refine lv_istore (lv' := [(7, .int w), (6, .int r), (0, .ref b0), (1, .ref (ad 0)), (2, .ref (bd 0)), (3, .ref ao), (4, .ref aq), (5, .int (nI i))]) hx hb dL_law_444 hl (by decide) rfl (fun ls hl => ?_)
  refine lv_aload_n hx hb dL_law_446 rfl (lv_at hl 4 rfl) ?_
  have hPm : va_P D clW ((wC cy ad I2 S2 ++ oLD cy ao aq fo2 fd) ++ (wM cy bd J2 T2 ++ [])) H := hP
  refine rI_call (va_runV (As := []) (rest := []) ⟨hx, hb, hml, hown, hts⟩ (c_X7_thrown l D cy bd J2 T2) (cw_L_146 hts rfl rfl ⟨Nat.le_of_ble_eq_true rfl, Nat.le_of_ble_eq_true rfl⟩) (preVR (ci := 7) (q0 := 0) hK (blkY hPm) rfl rfl) rfl rfl hl.1 rfl (lv_room (Nat.le_of_ble_eq_true rfl)) dL_law_447 ⟨(by show cells + 3 + 0 + 0 ≤ 603072; omega), (by show slots + 18 + 0 + 0 ≤ 7202922; omega)⟩) (fun t9 ht9 => ?_)
  subst ht9
  refine lv_iload hx hb dL_law_450 (lv_at hl 1 rfl) ?_
  refine lv_icmp_eq (tgt := 457) hx hb dL_law_452 (by decide) (fun _ => ?_) (fun c1 => absurd ha.1 c1)
  refine lv_iload hx hb dL_law_457 (lv_at hl 1 rfl) ?_
  refine lv_if_ne (tgt := 474) hx hb dL_law_459 (by decide) (fun _ => ?_) (fun h0 => ?_)
  · refine lv_goto (tgt := 3200) hx hb dL_law_474 (by decide) ?_
    refine W_wid (k := cells + 8) (n := slots + 48) (by omega) (by omega) ?_
    exact hkk H locs I2 S2 J2 T2 fo2 fd ls hinv hP hD hS (lv_sub hl [2, 3, 4, 5, 6, 7] rfl)
  · have h0 : r = 0 := by first | exact h0 | exact Decidable.not_not.mp h0
    have hw := ha.2 h0
    refine lv_aload_n hx hb dL_law_462 rfl (lv_at hl 5 rfl) ?_
    refine lv_iconst (v := 0) hx hb dL_law_463 (by decide) ?_
    refine va_lald hx hb hK hP 29 3 rfl rfl (i := 0) vp_in01 dL_law_464 ?_
    refine top_eqL (y := val.toInt64) (hv9 h0) ?_
    refine lv_iload hx hb dL_law_465 (lv_at hl 0 rfl) ?_
    refine lv_i2l (v := w.toInt64) hx hb dL_law_467 rfl ?_
    refine lc_eq (tgt := 474) hx hb dL_law_468 dL_law_469 (by decide) (fun _ => ?_) (fun c2 => absurd (by rw [hw]) c2)
    refine lv_goto (tgt := 3200) hx hb dL_law_474 (by decide) ?_
    refine W_wid (k := cells + 8) (n := slots + 48) (by omega) (by omega) ?_
    exact hkk H locs I2 S2 J2 T2 fo2 fd ls hinv hP hD hS (lv_sub hl [2, 3, 4, 5, 6, 7] rfl)

set_option maxHeartbeats 4000000 in
set_option maxRecDepth 100000 in
theorem cs_4 {p : Program} {l : Launch} {e : Env} {s : State} {m : MethodId} {below : List Frame} {meth : Method} {c : Code} {b0 L : Nat} {xs : Nat → Int32} {D : va_G} {cy : Nat → ClassId} {ad bd : Nat → Nat} {ao aq : Nat} {fo : Nat → Int64} {fd : Nat → UInt64} {I J : AI} {S T : AS} {i cells slots : Nat} {H : Heap} {locs : List Loc} {Q : State → Prop} {ls : Array Slot} (C0 : LCx p l s m c b0 L xs D cy) (hI : Inv I S J T) (hi : i + 7 ≤ L) (hcc : cells + 8 ≤ 603072) (hss : slots + 48 ≤ 7202922) (hP : va_P D clW (wL cy ad I S ao aq fo fd bd J T) H) (hD : va_D (lcA s) (wL cy ad I S ao aq fo fd bd J T)) (hS : va_S (lcA s) s.heap H locs) (hl : lv_has ls 9 (lcL b0 ad bd ao aq i)) (hkk : LK p l e s m b0 below meth c D cy ad bd ao aq i (cells + 8) (slots + 48) Q) : W p l e room_1 s m #[Value.ref b0] below meth c H locs cells slots Q (F0 m 477 ls []) := by
  obtain ⟨hx, hb, hml, hown, hts, hl0, hX, hbl, hL, hC, hK, hE, hZ⟩ := C0
  obtain ⟨en, k, n, h, len, sl, fr, to, o, c9, osl, ofr, oto, V⟩ := hI
  have hk8 : k ≤ 256 := Nat.le_trans V.k8 (by decide)
  have hci := V.civ
  have hA : ∀ q : Nat, s.heap.size ≤ q → lcA s q := fun q h => h
  have hbA : ¬ lcA s b0 := Nat.not_le.mpr hbl
  have hl : lv_has ls 9 [(0, .ref b0), (1, .ref (ad 0)), (2, .ref (bd 0)), (3, .ref ao), (4, .ref aq), (5, .int (nI i))] := hl
  refine lv_aload_n hx hb dL_law_477 rfl (lv_at hl 1 rfl) ?_
  refine lv_aload_n hx hb dL_law_478 rfl (lv_at hl 0 rfl) ?_
  refine lv_iload hx hb dL_law_479 (lv_at hl 5 rfl) ?_
  refine lv_iconst (v := 1) hx hb dL_law_481 (by decide) ?_
  refine lv_iadd hx hb dL_law_482 ?_
  refine top_eq (y := nI (i + 1)) (nI_add i 1) ?_
  obtain ⟨a1, ha1⟩ : ∃ z : Int32, z = xs (i + 1) := ⟨_, rfl⟩
  refine va_sld hx hb hX hbl hbA hS (vp_in_nI (n := (i + 1)) (by omega) (by omega)) dL_law_483 ?_
  refine top_eq (y := a1) (by rw [ha1, nI_clamp (by omega)]) ?_
  refine lv_aload_n hx hb dL_law_484 rfl (lv_at hl 0 rfl) ?_
  refine lv_iload hx hb dL_law_485 (lv_at hl 5 rfl) ?_
  refine lv_iconst (v := 2) hx hb dL_law_487 (by decide) ?_
  refine lv_iadd hx hb dL_law_488 ?_
  refine top_eq (y := nI (i + 2)) (nI_add i 2) ?_
  obtain ⟨a2, ha2⟩ : ∃ z : Int32, z = xs (i + 2) := ⟨_, rfl⟩
  refine va_sld hx hb hX hbl hbA hS (vp_in_nI (n := (i + 2)) (by omega) (by omega)) dL_law_489 ?_
  refine top_eq (y := a2) (by rw [ha2, nI_clamp (by omega)]) ?_
  refine lv_aload_n hx hb dL_law_490 rfl (lv_at hl 0 rfl) ?_
  refine lv_iload hx hb dL_law_491 (lv_at hl 5 rfl) ?_
  refine lv_iconst (v := 3) hx hb dL_law_493 (by decide) ?_
  refine lv_iadd hx hb dL_law_494 ?_
  refine top_eq (y := nI (i + 3)) (nI_add i 3) ?_
  obtain ⟨a3, ha3⟩ : ∃ z : Int32, z = xs (i + 3) := ⟨_, rfl⟩
  refine va_sld hx hb hX hbl hbA hS (vp_in_nI (n := (i + 3)) (by omega) (by omega)) dL_law_495 ?_
  refine top_eq (y := a3) (by rw [ha3, nI_clamp (by omega)]) ?_
  refine lv_aload_n hx hb dL_law_496 rfl (lv_at hl 0 rfl) ?_
  refine lv_iload hx hb dL_law_497 (lv_at hl 5 rfl) ?_
  refine lv_iconst (v := 4) hx hb dL_law_499 (by decide) ?_
  refine lv_iadd hx hb dL_law_500 ?_
  refine top_eq (y := nI (i + 4)) (nI_add i 4) ?_
  obtain ⟨a4, ha4⟩ : ∃ z : Int32, z = xs (i + 4) := ⟨_, rfl⟩
  refine va_sld hx hb hX hbl hbA hS (vp_in_nI (n := (i + 4)) (by omega) (by omega)) dL_law_501 ?_
  refine top_eq (y := a4) (by rw [ha4, nI_clamp (by omega)]) ?_
  refine lv_aload_n hx hb dL_law_502 rfl (lv_at hl 3 rfl) ?_
  have hPc : va_P D clW ([] ++ ((wC cy ad I S ++ oLD cy ao aq fo fd) ++ wM cy bd J T)) H := hP
  have hDc : va_D (lcA s) ([] ++ ((wC cy ad I S ++ oLD cy ao aq fo fd) ++ wM cy bd J T)) := hD
  refine bwI_call (vx_runSW (As := [.ref (ad 0), .int a1, .int a2, .int a3, .int a4, .ref ao]) (rest := []) ⟨hx, hb, hml, hown, hts⟩ (c_L_correct l hl0 D cy ad I S H.size a1 a2 a3 a4 k n h fr to ofr oto hci ao aq fo fd) (cws_L_161 hts rfl rfl ⟨Nat.le_of_ble_eq_true rfl, Nat.le_of_ble_eq_true rfl⟩) (preSL hC hK hE (hZ.now hS) (blkF hDc hS hA) (blkY hPc) (blkYD hDc)) rfl rfl hl.1 rfl (lv_room (Nat.le_of_ble_eq_true rfl)) dL_law_503 ⟨(by show cells + 4 ≤ 603072; omega), (by show slots + 24 ≤ 7202922; omega)⟩) hPc hDc hS hA (fun _ => rfl) (fun r u H locs hr_ hP hD hS => ?_)
  obtain ⟨I2, S2, fo2⟩ := u
  obtain ⟨val, hc9, hv9⟩ := hr_
  dsimp only at hc9 hv9
  have hP : va_P D clW (wL cy ad I2 S2 ao aq fo2 fd bd J T) H := hP
  have hD : va_D (lcA s) (wL cy ad I2 S2 ao aq fo2 fd bd J T) := hD
  refine lv_istore (lv' := [(6, .int r), (0, .ref b0), (1, .ref (ad 0)), (2, .ref (bd 0)), (3, .ref ao), (4, .ref aq), (5, .int (nI i))]) hx hb dL_law_506 hl (by decide) rfl (fun ls hl => ?_)
  refine lv_aload_n hx hb dL_law_508 rfl (lv_at hl 3 rfl) ?_
  refine lv_aload_n hx hb dL_law_509 rfl (lv_at hl 1 rfl) ?_
  refine lv_iload hx hb dL_law_510 (lv_at hl 6 rfl) ?_
  refine lv_iconst (v := 1) hx hb dL_law_512 (by decide) ?_
  refine lv_iadd hx hb dL_law_513 ?_
  refine top_eq (y := nI (i + 1)) (nI_add i 1) ?_
  refine va_sld hx hb hX hbl hbA hS (vp_in_nI (n := (i + 1)) (by omega) (by omega)) dL_law_514 ?_
  refine top_eq (y := a1) (by rw [ha1, nI_clamp (by omega)]) ?_
  refine lv_aload_n hx hb dL_law_515 rfl (lv_at hl 1 rfl) ?_
  refine lv_iload hx hb dL_law_516 (lv_at hl 6 rfl) ?_
  refine lv_iconst (v := 2) hx hb dL_law_518 (by decide) ?_
  refine lv_iadd hx hb dL_law_519 ?_
  refine top_eq (y := nI (i + 2)) (nI_add i 2) ?_
  refine va_sld hx hb hX hbl hbA hS (vp_in_nI (n := (i + 2)) (by omega) (by omega)) dL_law_520 ?_
  refine top_eq (y := a2) (by rw [ha2, nI_clamp (by omega)]) ?_
  refine lv_aload_n hx hb dL_law_521 rfl (lv_at hl 1 rfl) ?_
  refine lv_iload hx hb dL_law_522 (lv_at hl 6 rfl) ?_
  refine lv_iconst (v := 3) hx hb dL_law_524 (by decide) ?_
  refine lv_iadd hx hb dL_law_525 ?_
  refine top_eq (y := nI (i + 3)) (nI_add i 3) ?_
  refine va_sld hx hb hX hbl hbA hS (vp_in_nI (n := (i + 3)) (by omega) (by omega)) dL_law_526 ?_
  refine top_eq (y := a3) (by rw [ha3, nI_clamp (by omega)]) ?_
  refine lv_aload_n hx hb dL_law_527 rfl (lv_at hl 1 rfl) ?_
  refine lv_iload hx hb dL_law_528 (lv_at hl 6 rfl) ?_
  refine lv_iconst (v := 4) hx hb dL_law_530 (by decide) ?_
  refine lv_iadd hx hb dL_law_531 ?_
  refine top_eq (y := nI (i + 4)) (nI_add i 4) ?_
  refine va_sld hx hb hX hbl hbA hS (vp_in_nI (n := (i + 4)) (by omega) (by omega)) dL_law_532 ?_
  refine top_eq (y := a4) (by rw [ha4, nI_clamp (by omega)]) ?_
  have hPm : va_P D clW ((wC cy ad I2 S2 ++ oLD cy ao aq fo2 fd) ++ (wM cy bd J T ++ [])) H := hP
  have hDm : va_D (lcA s) ((wC cy ad I2 S2 ++ oLD cy ao aq fo2 fd) ++ (wM cy bd J T ++ [])) := hD
  refine bwI_call (va_runV (As := [.int a1, .int a2, .int a3, .int a4]) (rest := []) ⟨hx, hb, hml, hown, hts⟩ (c_X7_correct l D cy bd J T H.size a1 a2 a3 a4 k V.2.1.2.2.1 hk8 n V.2.1.2.1 V.2.2.1.2.1 (Nat.lt_of_le_of_lt V.k8 (by decide))) (cw_L_163 hts rfl rfl ⟨Nat.le_of_ble_eq_true rfl, Nat.le_of_ble_eq_true rfl⟩) (preVW (ci := 7) (q0 := 0) hK (blkY hPm) (blkYD hDm) rfl rfl) rfl rfl hl.1 rfl (lv_room (Nat.le_of_ble_eq_true rfl)) dL_law_533 ⟨(by show cells + 4 + 0 ≤ 603072; omega), (by show slots + 24 + 0 ≤ 7202922; omega)⟩) hPm hDm hS hA (fun _ => rfl) (fun w u H locs hq hP hD hS => ?_)
  obtain ⟨J2, T2⟩ := u
  have hP : va_P D clW (wL cy ad I2 S2 ao aq fo2 fd bd J2 T2) H := hP
  have hD : va_D (lcA s) (wL cy ad I2 S2 ao aq fo2 fd bd J2 T2) := hD
  dsimp only at hq
  have ha3 := correct_all V hc9 w J2 T2 hq
  have ha : J2 0 = r ∧ (r = 0 → val = w) := ⟨ha3.1, ha3.2.1⟩
  have hinv : Inv I2 S2 J2 T2 := ha3.2.2
  refine lv_istore (lv' := [(7, .int w), (6, .int r), (0, .ref b0), (1, .ref (ad 0)), (2, .ref (bd 0)), (3, .ref ao), (4, .ref aq), (5, .int (nI i))]) hx hb dL_law_536 hl (by decide) rfl (fun ls hl => ?_)
  refine lv_aload_n hx hb dL_law_538 rfl (lv_at hl 4 rfl) ?_
  have hPm : va_P D clW ((wC cy ad I2 S2 ++ oLD cy ao aq fo2 fd) ++ (wM cy bd J2 T2 ++ [])) H := hP
  refine rI_call (va_runV (As := []) (rest := []) ⟨hx, hb, hml, hown, hts⟩ (c_X7_thrown l D cy bd J2 T2) (cw_L_146 hts rfl rfl ⟨Nat.le_of_ble_eq_true rfl, Nat.le_of_ble_eq_true rfl⟩) (preVR (ci := 7) (q0 := 0) hK (blkY hPm) rfl rfl) rfl rfl hl.1 rfl (lv_room (Nat.le_of_ble_eq_true rfl)) dL_law_539 ⟨(by show cells + 4 + 0 + 0 ≤ 603072; omega), (by show slots + 24 + 0 + 0 ≤ 7202922; omega)⟩) (fun t9 ht9 => ?_)
  subst ht9
  refine lv_iload hx hb dL_law_542 (lv_at hl 1 rfl) ?_
  refine lv_icmp_eq (tgt := 549) hx hb dL_law_544 (by decide) (fun _ => ?_) (fun c1 => absurd ha.1 c1)
  refine lv_iload hx hb dL_law_549 (lv_at hl 1 rfl) ?_
  refine lv_if_ne (tgt := 566) hx hb dL_law_551 (by decide) (fun _ => ?_) (fun h0 => ?_)
  · refine lv_goto (tgt := 3200) hx hb dL_law_566 (by decide) ?_
    refine W_wid (k := cells + 8) (n := slots + 48) (by omega) (by omega) ?_
    exact hkk H locs I2 S2 J2 T2 fo2 fd ls hinv hP hD hS (lv_sub hl [2, 3, 4, 5, 6, 7] rfl)
  · have h0 : r = 0 := by first | exact h0 | exact Decidable.not_not.mp h0
    have hw := ha.2 h0
    refine lv_aload_n hx hb dL_law_554 rfl (lv_at hl 5 rfl) ?_
    refine lv_iconst (v := 0) hx hb dL_law_555 (by decide) ?_
    refine va_lald hx hb hK hP 29 3 rfl rfl (i := 0) vp_in01 dL_law_556 ?_
    refine top_eqL (y := val.toInt64) (hv9 h0) ?_
    refine lv_iload hx hb dL_law_557 (lv_at hl 0 rfl) ?_
    refine lv_i2l (v := w.toInt64) hx hb dL_law_559 rfl ?_
    refine lc_eq (tgt := 566) hx hb dL_law_560 dL_law_561 (by decide) (fun _ => ?_) (fun c2 => absurd (by rw [hw]) c2)
    refine lv_goto (tgt := 3200) hx hb dL_law_566 (by decide) ?_
    refine W_wid (k := cells + 8) (n := slots + 48) (by omega) (by omega) ?_
    exact hkk H locs I2 S2 J2 T2 fo2 fd ls hinv hP hD hS (lv_sub hl [2, 3, 4, 5, 6, 7] rfl)

set_option maxHeartbeats 4000000 in
set_option maxRecDepth 100000 in
theorem cs_5 {p : Program} {l : Launch} {e : Env} {s : State} {m : MethodId} {below : List Frame} {meth : Method} {c : Code} {b0 L : Nat} {xs : Nat → Int32} {D : va_G} {cy : Nat → ClassId} {ad bd : Nat → Nat} {ao aq : Nat} {fo : Nat → Int64} {fd : Nat → UInt64} {I J : AI} {S T : AS} {i cells slots : Nat} {H : Heap} {locs : List Loc} {Q : State → Prop} {ls : Array Slot} (C0 : LCx p l s m c b0 L xs D cy) (hI : Inv I S J T) (hi : i + 7 ≤ L) (hcc : cells + 8 ≤ 603072) (hss : slots + 48 ≤ 7202922) (hP : va_P D clW (wL cy ad I S ao aq fo fd bd J T) H) (hD : va_D (lcA s) (wL cy ad I S ao aq fo fd bd J T)) (hS : va_S (lcA s) s.heap H locs) (hl : lv_has ls 9 (lcL b0 ad bd ao aq i)) (hkk : LK p l e s m b0 below meth c D cy ad bd ao aq i (cells + 8) (slots + 48) Q) : W p l e room_1 s m #[Value.ref b0] below meth c H locs cells slots Q (F0 m 569 ls []) := by
  obtain ⟨hx, hb, hml, hown, hts, hl0, hX, hbl, hL, hC, hK, hE, hZ⟩ := C0
  obtain ⟨en, k, n, h, len, sl, fr, to, o, c9, osl, ofr, oto, V⟩ := hI
  have hk8 : k ≤ 256 := Nat.le_trans V.k8 (by decide)
  have hci := V.civ
  have hA : ∀ q : Nat, s.heap.size ≤ q → lcA s q := fun q h => h
  have hbA : ¬ lcA s b0 := Nat.not_le.mpr hbl
  have hl : lv_has ls 9 [(0, .ref b0), (1, .ref (ad 0)), (2, .ref (bd 0)), (3, .ref ao), (4, .ref aq), (5, .int (nI i))] := hl
  refine lv_aload_n hx hb dL_law_569 rfl (lv_at hl 1 rfl) ?_
  have hPc : va_P D clW ([] ++ (wC cy ad I S ++ (oLD cy ao aq fo fd ++ wM cy bd J T))) H := hP
  refine rI_call (va_runV (As := []) (rest := []) ⟨hx, hb, hml, hown, hts⟩ (c_X6_clock l D cy ad I S) (cw_L_164 hts rfl rfl ⟨Nat.le_of_ble_eq_true rfl, Nat.le_of_ble_eq_true rfl⟩) (preVR (ci := 6) (q0 := 0) hK (blkY hPc) rfl rfl) rfl rfl hl.1 rfl (lv_room (Nat.le_of_ble_eq_true rfl)) dL_law_570 ⟨(by show cells + 0 ≤ 603072; omega), (by show slots + 0 ≤ 7202922; omega)⟩) (fun r hr_ => ?_)
  refine lv_aload_n hx hb dL_law_573 rfl (lv_at hl 2 rfl) ?_
  have hPm : va_P D clW ((wC cy ad I S ++ oLD cy ao aq fo fd) ++ (wM cy bd J T ++ [])) H := hP
  have hDm : va_D (lcA s) ((wC cy ad I S ++ oLD cy ao aq fo fd) ++ (wM cy bd J T ++ [])) := hD
  refine bwI_call (va_runV (As := []) (rest := [.int r]) ⟨hx, hb, hml, hown, hts⟩ (c_X7_clock l D cy bd J T H.size) (cw_L_167 hts rfl rfl ⟨Nat.le_of_ble_eq_true rfl, Nat.le_of_ble_eq_true rfl⟩) (preVW (ci := 7) (q0 := 0) hK (blkY hPm) (blkYD hDm) rfl rfl) rfl rfl hl.1 rfl (lv_room (Nat.le_of_ble_eq_true rfl)) dL_law_574 ⟨(by show cells + 0 ≤ 603072; omega), (by show slots + 0 ≤ 7202922; omega)⟩) hPm hDm hS hA (fun _ => rfl) (fun w u H locs hq hP hD hS => ?_)
  have hP : va_P D clW (wL cy ad I S ao aq fo fd bd (va_up J 0 0) T) H := hP
  have hD : va_D (lcA s) (wL cy ad I S ao aq fo fd bd (va_up J 0 0) T) := hD
  have hq9 : r = w := hr_.trans ((show _ = _ from V.1.2.1.trans V.2.1.2.1.symm).trans hq.symm)
  refine lv_icmp_eq (tgt := 3200) hx hb dL_law_577 (by decide) (fun _ => ?_) (fun c1 => absurd hq9 c1)
  refine W_wid (k := cells + 8) (n := slots + 48) (by omega) (by omega) ?_
  exact hkk H locs I S (va_up J 0 0) T fo fd ls (V.no (scr_0 I S) 0) hP hD hS (lv_sub hl [0, 1, 2, 3, 4, 5] rfl)

set_option maxHeartbeats 4000000 in
set_option maxRecDepth 100000 in
theorem cs_6 {p : Program} {l : Launch} {e : Env} {s : State} {m : MethodId} {below : List Frame} {meth : Method} {c : Code} {b0 L : Nat} {xs : Nat → Int32} {D : va_G} {cy : Nat → ClassId} {ad bd : Nat → Nat} {ao aq : Nat} {fo : Nat → Int64} {fd : Nat → UInt64} {I J : AI} {S T : AS} {i cells slots : Nat} {H : Heap} {locs : List Loc} {Q : State → Prop} {ls : Array Slot} (C0 : LCx p l s m c b0 L xs D cy) (hI : Inv I S J T) (hi : i + 7 ≤ L) (hcc : cells + 8 ≤ 603072) (hss : slots + 48 ≤ 7202922) (hP : va_P D clW (wL cy ad I S ao aq fo fd bd J T) H) (hD : va_D (lcA s) (wL cy ad I S ao aq fo fd bd J T)) (hS : va_S (lcA s) s.heap H locs) (hl : lv_has ls 9 (lcL b0 ad bd ao aq i)) (hkk : LK p l e s m b0 below meth c D cy ad bd ao aq i (cells + 8) (slots + 48) Q) : W p l e room_1 s m #[Value.ref b0] below meth c H locs cells slots Q (F0 m 582 ls []) := by
  obtain ⟨hx, hb, hml, hown, hts, hl0, hX, hbl, hL, hC, hK, hE, hZ⟩ := C0
  obtain ⟨en, k, n, h, len, sl, fr, to, o, c9, osl, ofr, oto, V⟩ := hI
  have hk8 : k ≤ 256 := Nat.le_trans V.k8 (by decide)
  have hci := V.civ
  have hA : ∀ q : Nat, s.heap.size ≤ q → lcA s q := fun q h => h
  have hbA : ¬ lcA s b0 := Nat.not_le.mpr hbl
  have hl : lv_has ls 9 [(0, .ref b0), (1, .ref (ad 0)), (2, .ref (bd 0)), (3, .ref ao), (4, .ref aq), (5, .int (nI i))] := hl
  refine lv_aload_n hx hb dL_law_582 rfl (lv_at hl 1 rfl) ?_
  refine lv_aload_n hx hb dL_law_583 rfl (lv_at hl 0 rfl) ?_
  refine lv_iload hx hb dL_law_584 (lv_at hl 5 rfl) ?_
  refine lv_iconst (v := 1) hx hb dL_law_586 (by decide) ?_
  refine lv_iadd hx hb dL_law_587 ?_
  refine top_eq (y := nI (i + 1)) (nI_add i 1) ?_
  obtain ⟨a1, ha1⟩ : ∃ z : Int32, z = xs (i + 1) := ⟨_, rfl⟩
  refine va_sld hx hb hX hbl hbA hS (vp_in_nI (n := (i + 1)) (by omega) (by omega)) dL_law_588 ?_
  refine top_eq (y := a1) (by rw [ha1, nI_clamp (by omega)]) ?_
  refine lv_aload_n hx hb dL_law_589 rfl (lv_at hl 3 rfl) ?_
  have hPc : va_P D clW ([] ++ ((wC cy ad I S ++ oLD cy ao aq fo fd) ++ wM cy bd J T)) H := hP
  have hDc : va_D (lcA s) ([] ++ ((wC cy ad I S ++ oLD cy ao aq fo fd) ++ wM cy bd J T)) := hD
  refine bwI_call (vx_runSW (As := [.ref (ad 0), .int a1, .ref ao]) (rest := []) ⟨hx, hb, hml, hown, hts⟩ (c_L_operationAt l hl0 D cy ad I S H.size a1 k n h fr to ofr oto hci ao aq fo fd) (cws_L_168 hts rfl rfl ⟨Nat.le_of_ble_eq_true rfl, Nat.le_of_ble_eq_true rfl⟩) (preSL hC hK hE (hZ.now hS) (blkF hDc hS hA) (blkY hPc) (blkYD hDc)) rfl rfl hl.1 rfl (lv_room (Nat.le_of_ble_eq_true rfl)) dL_law_590 ⟨(by show cells + 1 ≤ 603072; omega), (by show slots + 6 ≤ 7202922; omega)⟩) hPc hDc hS hA (fun _ => rfl) (fun r u H locs hr_ hP hD hS => ?_)
  obtain ⟨I2, S2, fo2⟩ := u
  obtain ⟨val, hc9, hs9, hv9⟩ := hr_
  dsimp only at hc9 hs9 hv9
  have hP : va_P D clW (wL cy ad I2 S2 ao aq fo2 fd bd J T) H := hP
  have hD : va_D (lcA s) (wL cy ad I2 S2 ao aq fo2 fd bd J T) := hD
  refine lv_istore (lv' := [(6, .int r), (0, .ref b0), (1, .ref (ad 0)), (2, .ref (bd 0)), (3, .ref ao), (4, .ref aq), (5, .int (nI i))]) hx hb dL_law_593 hl (by decide) rfl (fun ls hl => ?_)
  refine lv_aload_n hx hb dL_law_595 rfl (lv_at hl 3 rfl) ?_
  refine lv_aload_n hx hb dL_law_596 rfl (lv_at hl 1 rfl) ?_
  refine lv_iload hx hb dL_law_597 (lv_at hl 6 rfl) ?_
  refine lv_iconst (v := 1) hx hb dL_law_599 (by decide) ?_
  refine lv_iadd hx hb dL_law_600 ?_
  refine top_eq (y := nI (i + 1)) (nI_add i 1) ?_
  refine va_sld hx hb hX hbl hbA hS (vp_in_nI (n := (i + 1)) (by omega) (by omega)) dL_law_601 ?_
  refine top_eq (y := a1) (by rw [ha1, nI_clamp (by omega)]) ?_
  have hPm : va_P D clW ((wC cy ad I2 S2 ++ oLD cy ao aq fo2 fd) ++ (wM cy bd J T ++ [])) H := hP
  have hDm : va_D (lcA s) ((wC cy ad I2 S2 ++ oLD cy ao aq fo2 fd) ++ (wM cy bd J T ++ [])) := hD
  refine bwI_call (va_runV (As := [.int a1]) (rest := []) ⟨hx, hb, hml, hown, hts⟩ (c_X7_operationAtB l D cy bd J T H.size a1 n V.2.1.2.1 V.2.2.1.2.1 (fun j h1 h2 => by rw [V.2.2.2.2.2.2.1.1]; exact hci.2.2.2.2.2.2.2.2 j h1 h2)) (cw_L_171 hts rfl rfl ⟨Nat.le_of_ble_eq_true rfl, Nat.le_of_ble_eq_true rfl⟩) (preVW (ci := 7) (q0 := 0) hK (blkY hPm) (blkYD hDm) rfl rfl) rfl rfl hl.1 rfl (lv_room (Nat.le_of_ble_eq_true rfl)) dL_law_602 ⟨(by show cells + 1 + 0 ≤ 603072; omega), (by show slots + 6 + 0 ≤ 7202922; omega)⟩) hPm hDm hS hA (fun _ => rfl) (fun w u H locs hq hP hD hS => ?_)
  obtain ⟨J2, T2⟩ := u
  have hP : va_P D clW (wL cy ad I2 S2 ao aq fo2 fd bd J2 T2) H := hP
  have hD : va_D (lcA s) (wL cy ad I2 S2 ao aq fo2 fd bd J2 T2) := hD
  dsimp only at hq
  have ha : J2 0 = r ∧ (r = 0 → val = w) := ans_opAt V hc9 (hq.elim (fun q => Or.inl ⟨q.1, q.2.1, q.2.2.1⟩) (fun q => Or.inr ⟨q.1, q.2.1⟩))
  have hinv : Inv I2 S2 J2 T2 := by
    rcases hq with ⟨-, -, q1, q2⟩ | ⟨-, q1, q2⟩
    · rw [q1, q2]; exact V.no hs9 _
    · rw [q1, q2]; exact V.no hs9 _
  refine lv_istore (lv' := [(7, .int w), (6, .int r), (0, .ref b0), (1, .ref (ad 0)), (2, .ref (bd 0)), (3, .ref ao), (4, .ref aq), (5, .int (nI i))]) hx hb dL_law_605 hl (by decide) rfl (fun ls hl => ?_)
  refine lv_aload_n hx hb dL_law_607 rfl (lv_at hl 4 rfl) ?_
  have hPm : va_P D clW ((wC cy ad I2 S2 ++ oLD cy ao aq fo2 fd) ++ (wM cy bd J2 T2 ++ [])) H := hP
  refine rI_call (va_runV (As := []) (rest := []) ⟨hx, hb, hml, hown, hts⟩ (c_X7_thrown l D cy bd J2 T2) (cw_L_146 hts rfl rfl ⟨Nat.le_of_ble_eq_true rfl, Nat.le_of_ble_eq_true rfl⟩) (preVR (ci := 7) (q0 := 0) hK (blkY hPm) rfl rfl) rfl rfl hl.1 rfl (lv_room (Nat.le_of_ble_eq_true rfl)) dL_law_608 ⟨(by show cells + 1 + 0 + 0 ≤ 603072; omega), (by show slots + 6 + 0 + 0 ≤ 7202922; omega)⟩) (fun t9 ht9 => ?_)
  subst ht9
  refine lv_iload hx hb dL_law_611 (lv_at hl 1 rfl) ?_
  refine lv_icmp_eq (tgt := 618) hx hb dL_law_613 (by decide) (fun _ => ?_) (fun c1 => absurd ha.1 c1)
  refine lv_iload hx hb dL_law_618 (lv_at hl 1 rfl) ?_
  refine lv_if_ne (tgt := 635) hx hb dL_law_620 (by decide) (fun _ => ?_) (fun h0 => ?_)
  · refine lv_goto (tgt := 3200) hx hb dL_law_635 (by decide) ?_
    refine W_wid (k := cells + 8) (n := slots + 48) (by omega) (by omega) ?_
    exact hkk H locs I2 S2 J2 T2 fo2 fd ls hinv hP hD hS (lv_sub hl [2, 3, 4, 5, 6, 7] rfl)
  · have h0 : r = 0 := by first | exact h0 | exact Decidable.not_not.mp h0
    have hw := ha.2 h0
    refine lv_aload_n hx hb dL_law_623 rfl (lv_at hl 5 rfl) ?_
    refine lv_iconst (v := 0) hx hb dL_law_624 (by decide) ?_
    refine va_lald hx hb hK hP 29 3 rfl rfl (i := 0) vp_in01 dL_law_625 ?_
    refine top_eqL (y := val.toInt64) (hv9 h0) ?_
    refine lv_iload hx hb dL_law_626 (lv_at hl 0 rfl) ?_
    refine lv_i2l (v := w.toInt64) hx hb dL_law_628 rfl ?_
    refine lc_eq (tgt := 635) hx hb dL_law_629 dL_law_630 (by decide) (fun _ => ?_) (fun c2 => absurd (by rw [hw]) c2)
    refine lv_goto (tgt := 3200) hx hb dL_law_635 (by decide) ?_
    refine W_wid (k := cells + 8) (n := slots + 48) (by omega) (by omega) ?_
    exact hkk H locs I2 S2 J2 T2 fo2 fd ls hinv hP hD hS (lv_sub hl [2, 3, 4, 5, 6, 7] rfl)
