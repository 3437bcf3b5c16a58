/-! the law's body: cases, 5 -/
set_option maxHeartbeats 4000000 in
set_option maxRecDepth 100000 in
theorem cs_28 {p : Program} {l : Launch} {e : Env} {s : State} {m : MethodId} {below : List Frame} {meth : Method} {c : Code} {b0 L : Nat} {xs : Nat → Int32} {D : va_G} {cy : Nat → ClassId} {ad bd : Nat → Nat} {ao aq : Nat} {fo : Nat → Int64} {fd : Nat → UInt64} {I J : AI} {S T : AS} {i cells slots : Nat} {H : Heap} {locs : List Loc} {Q : State → Prop} {ls : Array Slot} (C0 : LCx p l s m c b0 L xs D cy) (hI : Inv I S J T) (hi : i + 7 ≤ L) (hcc : cells + 8 ≤ 603072) (hss : slots + 48 ≤ 7202922) (hP : va_P D clW (wL cy ad I S ao aq fo fd bd J T) H) (hD : va_D (lcA s) (wL cy ad I S ao aq fo fd bd J T)) (hS : va_S (lcA s) s.heap H locs) (hl : lv_has ls 9 (lcL b0 ad bd ao aq i)) (hkk : LK p l e s m b0 below meth c D cy ad bd ao aq i (cells + 8) (slots + 48) Q) : W p l e room_1 s m #[Value.ref b0] below meth c H locs cells slots Q (F0 m 2039 ls []) := by
  obtain ⟨hx, hb, hml, hown, hts, hl0, hX, hbl, hL, hC, hK, hE, hZ⟩ := C0
  obtain ⟨en, k, n, h, len, sl, fr, to, o, c9, osl, ofr, oto, V⟩ := hI
  have hk8 : k ≤ 256 := Nat.le_trans V.k8 (by decide)
  have hci := V.civ
  have hA : ∀ q : Nat, s.heap.size ≤ q → lcA s q := fun q h => h
  have hbA : ¬ lcA s b0 := Nat.not_le.mpr hbl
  have hl : lv_has ls 9 [(0, .ref b0), (1, .ref (ad 0)), (2, .ref (bd 0)), (3, .ref ao), (4, .ref aq), (5, .int (nI i))] := hl
  refine lv_aload_n hx hb dL_law_2039 rfl (lv_at hl 1 rfl) ?_
  refine lv_aload_n hx hb dL_law_2040 rfl (lv_at hl 0 rfl) ?_
  refine lv_iload hx hb dL_law_2041 (lv_at hl 5 rfl) ?_
  refine lv_iconst (v := 1) hx hb dL_law_2043 (by decide) ?_
  refine lv_iadd hx hb dL_law_2044 ?_
  refine top_eq (y := nI (i + 1)) (nI_add i 1) ?_
  obtain ⟨a1, ha1⟩ : ∃ z : Int32, z = xs (i + 1) := ⟨_, rfl⟩
  refine va_sld hx hb hX hbl hbA hS (vp_in_nI (n := (i + 1)) (by omega) (by omega)) dL_law_2045 ?_
  refine top_eq (y := a1) (by rw [ha1, nI_clamp (by omega)]) ?_
  refine lv_aload_n hx hb dL_law_2046 rfl (lv_at hl 0 rfl) ?_
  refine lv_iload hx hb dL_law_2047 (lv_at hl 5 rfl) ?_
  refine lv_iconst (v := 2) hx hb dL_law_2049 (by decide) ?_
  refine lv_iadd hx hb dL_law_2050 ?_
  refine top_eq (y := nI (i + 2)) (nI_add i 2) ?_
  obtain ⟨a2, ha2⟩ : ∃ z : Int32, z = xs (i + 2) := ⟨_, rfl⟩
  refine va_sld hx hb hX hbl hbA hS (vp_in_nI (n := (i + 2)) (by omega) (by omega)) dL_law_2051 ?_
  refine top_eq (y := a2) (by rw [ha2, nI_clamp (by omega)]) ?_
  refine lv_aload_n hx hb dL_law_2052 rfl (lv_at hl 0 rfl) ?_
  refine lv_iload hx hb dL_law_2053 (lv_at hl 5 rfl) ?_
  refine lv_iconst (v := 3) hx hb dL_law_2055 (by decide) ?_
  refine lv_iadd hx hb dL_law_2056 ?_
  refine top_eq (y := nI (i + 3)) (nI_add i 3) ?_
  obtain ⟨a3, ha3⟩ : ∃ z : Int32, z = xs (i + 3) := ⟨_, rfl⟩
  refine va_sld hx hb hX hbl hbA hS (vp_in_nI (n := (i + 3)) (by omega) (by omega)) dL_law_2057 ?_
  refine top_eq (y := a3) (by rw [ha3, nI_clamp (by omega)]) ?_
  refine lv_aload hx hb dL_law_2058 (lv_at hl 4 rfl) ?_
  have hPc : va_P D clW ([] ++ ((wC cy ad I S ++ oLD cy ao aq fo fd) ++ wM cy bd J T)) H := hP
  have hDc : va_D (lcA s) ([] ++ ((wC cy ad I S ++ oLD cy ao aq fo fd) ++ wM cy bd J T)) := hD
  refine bwI_call (vx_runSW (As := [.ref (ad 0), .int a1, .int a2, .int a3, .ref aq]) (rest := []) ⟨hx, hb, hml, hown, hts⟩ (c_L_meanValue l hl0 D cy ad I S H.size a1 a2 a3 en V.1.1 V.2.2.1.1 k n h fr to ofr oto hci ao aq fo fd) (cws_L_239 hts rfl rfl ⟨Nat.le_of_ble_eq_true rfl, Nat.le_of_ble_eq_true rfl⟩) (preSL hC hK hE (hZ.now hS) (blkF hDc hS hA) (blkY hPc) (blkYD hDc)) rfl rfl hl.1 rfl (lv_room (Nat.le_of_ble_eq_true rfl)) dL_law_2060 ⟨(by show cells + 5 ≤ 603072; omega), (by show slots + 30 ≤ 7202922; omega)⟩) hPc hDc hS hA (fun _ => rfl) (fun r u H locs hr_ hP hD hS => ?_)
  obtain ⟨I2, S2, fd2⟩ := u
  obtain ⟨val, hc9, hs9, hv9⟩ := hr_
  dsimp only at hc9 hs9 hv9
  have hP : va_P D clW (wL cy ad I2 S2 ao aq fo fd2 bd J T) H := hP
  have hD : va_D (lcA s) (wL cy ad I2 S2 ao aq fo fd2 bd J T) := hD
  refine lv_istore (lv' := [(6, .int r), (0, .ref b0), (1, .ref (ad 0)), (2, .ref (bd 0)), (3, .ref ao), (4, .ref aq), (5, .int (nI i))]) hx hb dL_law_2063 hl (by decide) rfl (fun ls hl => ?_)
  refine lv_aload_n hx hb dL_law_2065 rfl (lv_at hl 3 rfl) ?_
  refine lv_aload_n hx hb dL_law_2066 rfl (lv_at hl 1 rfl) ?_
  refine lv_iload hx hb dL_law_2067 (lv_at hl 6 rfl) ?_
  refine lv_iconst (v := 1) hx hb dL_law_2069 (by decide) ?_
  refine lv_iadd hx hb dL_law_2070 ?_
  refine top_eq (y := nI (i + 1)) (nI_add i 1) ?_
  refine va_sld hx hb hX hbl hbA hS (vp_in_nI (n := (i + 1)) (by omega) (by omega)) dL_law_2071 ?_
  refine top_eq (y := a1) (by rw [ha1, nI_clamp (by omega)]) ?_
  refine lv_aload_n hx hb dL_law_2072 rfl (lv_at hl 1 rfl) ?_
  refine lv_iload hx hb dL_law_2073 (lv_at hl 6 rfl) ?_
  refine lv_iconst (v := 2) hx hb dL_law_2075 (by decide) ?_
  refine lv_iadd hx hb dL_law_2076 ?_
  refine top_eq (y := nI (i + 2)) (nI_add i 2) ?_
  refine va_sld hx hb hX hbl hbA hS (vp_in_nI (n := (i + 2)) (by omega) (by omega)) dL_law_2077 ?_
  refine top_eq (y := a2) (by rw [ha2, nI_clamp (by omega)]) ?_
  refine lv_aload_n hx hb dL_law_2078 rfl (lv_at hl 1 rfl) ?_
  refine lv_iload hx hb dL_law_2079 (lv_at hl 6 rfl) ?_
  refine lv_iconst (v := 3) hx hb dL_law_2081 (by decide) ?_
  refine lv_iadd hx hb dL_law_2082 ?_
  refine top_eq (y := nI (i + 3)) (nI_add i 3) ?_
  refine va_sld hx hb hX hbl hbA hS (vp_in_nI (n := (i + 3)) (by omega) (by omega)) dL_law_2083 ?_
  refine top_eq (y := a3) (by rw [ha3, nI_clamp (by omega)]) ?_
  have hPm : va_P D clW ((wC cy ad I2 S2 ++ oLD cy ao aq fo fd2) ++ (wM cy bd J T ++ [])) H := hP
  have hDm : va_D (lcA s) ((wC cy ad I2 S2 ++ oLD cy ao aq fo fd2) ++ (wM cy bd J T ++ [])) := hD
  refine bwD_call (va_runV (As := [.int a1, .int a2, .int a3]) (rest := []) ⟨hx, hb, hml, hown, hts⟩ (c_X7_meanValue l D cy bd J T H.size a1 a2 a3 k V.2.1.2.2.1 hk8 fr to V.mfr en V.2.1.1 V.2.2.1.1) (cw_L_242 hts rfl rfl ⟨Nat.le_of_ble_eq_true rfl, Nat.le_of_ble_eq_true rfl⟩) (preVW (ci := 7) (q0 := 0) hK (blkY hPm) (blkYD hDm) rfl rfl) rfl rfl hl.1 rfl (lv_room (Nat.le_of_ble_eq_true rfl)) dL_law_2084 ⟨(by show cells + 5 + 0 ≤ 603072; omega), (by show slots + 30 + 0 ≤ 7202922; omega)⟩) hPm hDm hS hA (fun _ => rfl) (fun w u H locs hq hP hD hS => ?_)
  obtain ⟨J2, T2⟩ := u
  have hP : va_P D clW (wL cy ad I2 S2 ao aq fo fd2 bd J2 T2) H := hP
  have hD : va_D (lcA s) (wL cy ad I2 S2 ao aq fo fd2 bd J2 T2) := hD
  obtain ⟨hms, hm1, hm2⟩ := hq
  dsimp only at hms hm1 hm2
  have ha : J2 0 = r ∧ (r = 0 → val = w) := ans_mean V hc9 ⟨hm1, hm2⟩
  have hinv : Inv I2 S2 J2 T2 := (V.ask hs9 hms).inv
  refine lv_dstore (lv' := [(7, .double w), (6, .int r), (0, .ref b0), (1, .ref (ad 0)), (2, .ref (bd 0)), (3, .ref ao), (4, .ref aq), (5, .int (nI i))]) hx hb dL_law_2087 hl (by decide) rfl (fun ls hl => ?_)
  refine lv_aload_n hx hb dL_law_2089 rfl (lv_at hl 4 rfl) ?_
  have hPm : va_P D clW ((wC cy ad I2 S2 ++ oLD cy ao aq fo fd2) ++ (wM cy bd J2 T2 ++ [])) H := hP
  refine rI_call (va_runV (As := []) (rest := []) ⟨hx, hb, hml, hown, hts⟩ (c_X7_thrown l D cy bd J2 T2) (cw_L_146 hts rfl rfl ⟨Nat.le_of_ble_eq_true rfl, Nat.le_of_ble_eq_true rfl⟩) (preVR (ci := 7) (q0 := 0) hK (blkY hPm) rfl rfl) rfl rfl hl.1 rfl (lv_room (Nat.le_of_ble_eq_true rfl)) dL_law_2090 ⟨(by show cells + 5 + 0 + 0 ≤ 603072; omega), (by show slots + 30 + 0 + 0 ≤ 7202922; omega)⟩) (fun t9 ht9 => ?_)
  subst ht9
  refine lv_iload hx hb dL_law_2093 (lv_at hl 1 rfl) ?_
  refine lv_icmp_eq (tgt := 2100) hx hb dL_law_2095 (by decide) (fun _ => ?_) (fun c1 => absurd ha.1 c1)
  refine lv_iload hx hb dL_law_2100 (lv_at hl 1 rfl) ?_
  refine lv_if_ne (tgt := 2137) hx hb dL_law_2102 (by decide) (fun _ => ?_) (fun h0 => ?_)
  · refine lv_goto (tgt := 3200) hx hb dL_law_2137 (by decide) ?_
    refine W_wid (k := cells + 8) (n := slots + 48) (by omega) (by omega) ?_
    exact hkk H locs I2 S2 J2 T2 fo fd2 ls hinv hP hD hS (lv_sub hl [2, 3, 4, 5, 6, 7] rfl)
  · have h0 : r = 0 := by first | exact h0 | exact Decidable.not_not.mp h0
    have hw := ha.2 h0
    refine lv_aload hx hb dL_law_2105 (lv_at hl 6 rfl) ?_
    refine lv_iconst (v := 0) hx hb dL_law_2107 (by decide) ?_
    have hv8 : fd2 0 = w := (hv9 h0).trans hw
    refine va_dald hx hb hK hP 30 4 rfl rfl (i := 0) vp_in01 dL_law_2108 ?_
    refine top_eqD (y := w) hv8 ?_
    refine lv_dload hx hb dL_law_2109 (lv_at hl 0 rfl) ?_
    refine lv_dcmp hx hb dL_law_2111 ?_
    refine lv_if_eq (tgt := 2137) hx hb dL_law_2112 (by decide) (fun _ => ?_) (fun c5 => ?_)
    · refine lv_goto (tgt := 3200) hx hb dL_law_2137 (by decide) ?_
      refine W_wid (k := cells + 8) (n := slots + 48) (by omega) (by omega) ?_
      exact hkk H locs I2 S2 J2 T2 fo fd2 ls hinv hP hD hS (lv_sub hl [2, 3, 4, 5, 6, 7] rfl)
    · refine lv_aload hx hb dL_law_2115 (lv_at hl 6 rfl) ?_
      refine lv_iconst (v := 0) hx hb dL_law_2117 (by decide) ?_
      refine va_dald hx hb hK hP 30 4 rfl rfl (i := 0) vp_in01 dL_law_2118 ?_
      refine top_eqD (y := w) hv8 ?_
      refine lv_aload hx hb dL_law_2119 (lv_at hl 6 rfl) ?_
      refine lv_iconst (v := 0) hx hb dL_law_2121 (by decide) ?_
      refine va_dald hx hb hK hP 30 4 rfl rfl (i := 0) vp_in01 dL_law_2122 ?_
      refine top_eqD (y := w) hv8 ?_
      refine lv_dcmp hx hb dL_law_2123 ?_
      refine lv_if_eq (tgt := 2135) hx hb dL_law_2124 (by decide) (fun c6 => absurd c6 c5) (fun _ => ?_)
      refine lv_dload hx hb dL_law_2127 (lv_at hl 0 rfl) ?_
      refine lv_dload hx hb dL_law_2129 (lv_at hl 0 rfl) ?_
      refine lv_dcmp hx hb dL_law_2131 ?_
      refine lv_if_ne (tgt := 2137) hx hb dL_law_2132 (by decide) (fun _ => ?_) (fun c7 => absurd c7 (fun q => c5 (by first | exact q | exact Decidable.not_not.mp q)))
      refine lv_goto (tgt := 3200) hx hb dL_law_2137 (by decide) ?_
      refine W_wid (k := cells + 8) (n := slots + 48) (by omega) (by omega) ?_
      exact hkk H locs I2 S2 J2 T2 fo fd2 ls hinv hP hD hS (lv_sub hl [2, 3, 4, 5, 6, 7] rfl)

set_option maxHeartbeats 4000000 in
set_option maxRecDepth 100000 in
theorem cs_29 {p : Program} {l : Launch} {e : Env} {s : State} {m : MethodId} {below : List Frame} {meth : Method} {c : Code} {b0 L : Nat} {xs : Nat → Int32} {D : va_G} {cy : Nat → ClassId} {ad bd : Nat → Nat} {ao aq : Nat} {fo : Nat → Int64} {fd : Nat → UInt64} {I J : AI} {S T : AS} {i cells slots : Nat} {H : Heap} {locs : List Loc} {Q : State → Prop} {ls : Array Slot} (C0 : LCx p l s m c b0 L xs D cy) (hI : Inv I S J T) (hi : i + 7 ≤ L) (hcc : cells + 8 ≤ 603072) (hss : slots + 48 ≤ 7202922) (hP : va_P D clW (wL cy ad I S ao aq fo fd bd J T) H) (hD : va_D (lcA s) (wL cy ad I S ao aq fo fd bd J T)) (hS : va_S (lcA s) s.heap H locs) (hl : lv_has ls 9 (lcL b0 ad bd ao aq i)) (hkk : LK p l e s m b0 below meth c D cy ad bd ao aq i (cells + 8) (slots + 48) Q) : W p l e room_1 s m #[Value.ref b0] below meth c H locs cells slots Q (F0 m 2140 ls []) := by
  obtain ⟨hx, hb, hml, hown, hts, hl0, hX, hbl, hL, hC, hK, hE, hZ⟩ := C0
  obtain ⟨en, k, n, h, len, sl, fr, to, o, c9, osl, ofr, oto, V⟩ := hI
  have hk8 : k ≤ 256 := Nat.le_trans V.k8 (by decide)
  have hci := V.civ
  have hA : ∀ q : Nat, s.heap.size ≤ q → lcA s q := fun q h => h
  have hbA : ¬ lcA s b0 := Nat.not_le.mpr hbl
  have hl : lv_has ls 9 [(0, .ref b0), (1, .ref (ad 0)), (2, .ref (bd 0)), (3, .ref ao), (4, .ref aq), (5, .int (nI i))] := hl
  refine lv_aload_n hx hb dL_law_2140 rfl (lv_at hl 1 rfl) ?_
  refine lv_aload_n hx hb dL_law_2141 rfl (lv_at hl 0 rfl) ?_
  refine lv_iload hx hb dL_law_2142 (lv_at hl 5 rfl) ?_
  refine lv_iconst (v := 1) hx hb dL_law_2144 (by decide) ?_
  refine lv_iadd hx hb dL_law_2145 ?_
  refine top_eq (y := nI (i + 1)) (nI_add i 1) ?_
  obtain ⟨a1, ha1⟩ : ∃ z : Int32, z = xs (i + 1) := ⟨_, rfl⟩
  refine va_sld hx hb hX hbl hbA hS (vp_in_nI (n := (i + 1)) (by omega) (by omega)) dL_law_2146 ?_
  refine top_eq (y := a1) (by rw [ha1, nI_clamp (by omega)]) ?_
  refine lv_aload_n hx hb dL_law_2147 rfl (lv_at hl 0 rfl) ?_
  refine lv_iload hx hb dL_law_2148 (lv_at hl 5 rfl) ?_
  refine lv_iconst (v := 2) hx hb dL_law_2150 (by decide) ?_
  refine lv_iadd hx hb dL_law_2151 ?_
  refine top_eq (y := nI (i + 2)) (nI_add i 2) ?_
  obtain ⟨a2, ha2⟩ : ∃ z : Int32, z = xs (i + 2) := ⟨_, rfl⟩
  refine va_sld hx hb hX hbl hbA hS (vp_in_nI (n := (i + 2)) (by omega) (by omega)) dL_law_2152 ?_
  refine top_eq (y := a2) (by rw [ha2, nI_clamp (by omega)]) ?_
  refine lv_aload_n hx hb dL_law_2153 rfl (lv_at hl 0 rfl) ?_
  refine lv_iload hx hb dL_law_2154 (lv_at hl 5 rfl) ?_
  refine lv_iconst (v := 3) hx hb dL_law_2156 (by decide) ?_
  refine lv_iadd hx hb dL_law_2157 ?_
  refine top_eq (y := nI (i + 3)) (nI_add i 3) ?_
  obtain ⟨a3, ha3⟩ : ∃ z : Int32, z = xs (i + 3) := ⟨_, rfl⟩
  refine va_sld hx hb hX hbl hbA hS (vp_in_nI (n := (i + 3)) (by omega) (by omega)) dL_law_2158 ?_
  refine top_eq (y := a3) (by rw [ha3, nI_clamp (by omega)]) ?_
  refine lv_aload_n hx hb dL_law_2159 rfl (lv_at hl 0 rfl) ?_
  refine lv_iload hx hb dL_law_2160 (lv_at hl 5 rfl) ?_
  refine lv_iconst (v := 4) hx hb dL_law_2162 (by decide) ?_
  refine lv_iadd hx hb dL_law_2163 ?_
  refine top_eq (y := nI (i + 4)) (nI_add i 4) ?_
  obtain ⟨a4, ha4⟩ : ∃ z : Int32, z = xs (i + 4) := ⟨_, rfl⟩
  refine va_sld hx hb hX hbl hbA hS (vp_in_nI (n := (i + 4)) (by omega) (by omega)) dL_law_2164 ?_
  refine top_eq (y := a4) (by rw [ha4, nI_clamp (by omega)]) ?_
  refine lv_aload_n hx hb dL_law_2165 rfl (lv_at hl 0 rfl) ?_
  refine lv_iload hx hb dL_law_2166 (lv_at hl 5 rfl) ?_
  refine lv_iconst (v := 5) hx hb dL_law_2168 (by decide) ?_
  refine lv_iadd hx hb dL_law_2169 ?_
  refine top_eq (y := nI (i + 5)) (nI_add i 5) ?_
  obtain ⟨a5, ha5⟩ : ∃ z : Int32, z = xs (i + 5) := ⟨_, rfl⟩
  refine va_sld hx hb hX hbl hbA hS (vp_in_nI (n := (i + 5)) (by omega) (by omega)) dL_law_2170 ?_
  refine top_eq (y := a5) (by rw [ha5, nI_clamp (by omega)]) ?_
  refine lv_aload_n hx hb dL_law_2171 rfl (lv_at hl 3 rfl) ?_
  have hPc : va_P D clW ([] ++ ((wC cy ad I S ++ oLD cy ao aq fo fd) ++ wM cy bd J T)) H := hP
  have hDc : va_D (lcA s) ([] ++ ((wC cy ad I S ++ oLD cy ao aq fo fd) ++ wM cy bd J T)) := hD
  refine bwI_call (vx_runSW (As := [.ref (ad 0), .int a1, .int a2, .int a3, .int a4, .int a5, .ref ao]) (rest := []) ⟨hx, hb, hml, hown, hts⟩ (c_L_joinCount l hl0 D cy ad I S H.size a1 a2 a3 a4 a5 k n h fr to ofr oto hci ao aq fo fd) (cws_L_243 hts rfl rfl ⟨Nat.le_of_ble_eq_true rfl, Nat.le_of_ble_eq_true rfl⟩) (preSL hC hK hE (hZ.now hS) (blkF hDc hS hA) (blkY hPc) (blkYD hDc)) rfl rfl hl.1 rfl (lv_room (Nat.le_of_ble_eq_true rfl)) dL_law_2172 ⟨(by show cells + 4 ≤ 603072; omega), (by show slots + 24 ≤ 7202922; omega)⟩) hPc hDc hS hA (fun _ => rfl) (fun r u H locs hr_ hP hD hS => ?_)
  obtain ⟨I2, S2, fo2⟩ := u
  obtain ⟨val, hc9, hs9, hv9⟩ := hr_
  dsimp only at hc9 hs9 hv9
  have hP : va_P D clW (wL cy ad I2 S2 ao aq fo2 fd bd J T) H := hP
  have hD : va_D (lcA s) (wL cy ad I2 S2 ao aq fo2 fd bd J T) := hD
  refine lv_istore (lv' := [(6, .int r), (0, .ref b0), (1, .ref (ad 0)), (2, .ref (bd 0)), (3, .ref ao), (4, .ref aq), (5, .int (nI i))]) hx hb dL_law_2175 hl (by decide) rfl (fun ls hl => ?_)
  refine lv_aload_n hx hb dL_law_2177 rfl (lv_at hl 3 rfl) ?_
  refine lv_aload_n hx hb dL_law_2178 rfl (lv_at hl 1 rfl) ?_
  refine lv_iload hx hb dL_law_2179 (lv_at hl 6 rfl) ?_
  refine lv_iconst (v := 1) hx hb dL_law_2181 (by decide) ?_
  refine lv_iadd hx hb dL_law_2182 ?_
  refine top_eq (y := nI (i + 1)) (nI_add i 1) ?_
  refine va_sld hx hb hX hbl hbA hS (vp_in_nI (n := (i + 1)) (by omega) (by omega)) dL_law_2183 ?_
  refine top_eq (y := a1) (by rw [ha1, nI_clamp (by omega)]) ?_
  refine lv_aload_n hx hb dL_law_2184 rfl (lv_at hl 1 rfl) ?_
  refine lv_iload hx hb dL_law_2185 (lv_at hl 6 rfl) ?_
  refine lv_iconst (v := 2) hx hb dL_law_2187 (by decide) ?_
  refine lv_iadd hx hb dL_law_2188 ?_
  refine top_eq (y := nI (i + 2)) (nI_add i 2) ?_
  refine va_sld hx hb hX hbl hbA hS (vp_in_nI (n := (i + 2)) (by omega) (by omega)) dL_law_2189 ?_
  refine top_eq (y := a2) (by rw [ha2, nI_clamp (by omega)]) ?_
  refine lv_aload_n hx hb dL_law_2190 rfl (lv_at hl 1 rfl) ?_
  refine lv_iload hx hb dL_law_2191 (lv_at hl 6 rfl) ?_
  refine lv_iconst (v := 3) hx hb dL_law_2193 (by decide) ?_
  refine lv_iadd hx hb dL_law_2194 ?_
  refine top_eq (y := nI (i + 3)) (nI_add i 3) ?_
  refine va_sld hx hb hX hbl hbA hS (vp_in_nI (n := (i + 3)) (by omega) (by omega)) dL_law_2195 ?_
  refine top_eq (y := a3) (by rw [ha3, nI_clamp (by omega)]) ?_
  refine lv_aload_n hx hb dL_law_2196 rfl (lv_at hl 1 rfl) ?_
  refine lv_iload hx hb dL_law_2197 (lv_at hl 6 rfl) ?_
  refine lv_iconst (v := 4) hx hb dL_law_2199 (by decide) ?_
  refine lv_iadd hx hb dL_law_2200 ?_
  refine top_eq (y := nI (i + 4)) (nI_add i 4) ?_
  refine va_sld hx hb hX hbl hbA hS (vp_in_nI (n := (i + 4)) (by omega) (by omega)) dL_law_2201 ?_
  refine top_eq (y := a4) (by rw [ha4, nI_clamp (by omega)]) ?_
  refine lv_aload_n hx hb dL_law_2202 rfl (lv_at hl 1 rfl) ?_
  refine lv_iload hx hb dL_law_2203 (lv_at hl 6 rfl) ?_
  refine lv_iconst (v := 5) hx hb dL_law_2205 (by decide) ?_
  refine lv_iadd hx hb dL_law_2206 ?_
  refine top_eq (y := nI (i + 5)) (nI_add i 5) ?_
  refine va_sld hx hb hX hbl hbA hS (vp_in_nI (n := (i + 5)) (by omega) (by omega)) dL_law_2207 ?_
  refine top_eq (y := a5) (by rw [ha5, nI_clamp (by omega)]) ?_
  have hPm : va_P D clW ((wC cy ad I2 S2 ++ oLD cy ao aq fo2 fd) ++ (wM cy bd J T ++ [])) H := hP
  have hDm : va_D (lcA s) ((wC cy ad I2 S2 ++ oLD cy ao aq fo2 fd) ++ (wM cy bd J T ++ [])) := hD
  refine bwI_call (va_runV (As := [.int a1, .int a2, .int a3, .int a4, .int a5]) (rest := []) ⟨hx, hb, hml, hown, hts⟩ (c_X7_joinCount l D cy bd J T H.size a1 a2 a3 a4 a5 k V.2.1.2.2.1 hk8 fr to V.mfr) (cw_L_245 hts rfl rfl ⟨Nat.le_of_ble_eq_true rfl, Nat.le_of_ble_eq_true rfl⟩) (preVW (ci := 7) (q0 := 0) hK (blkY hPm) (blkYD hDm) rfl rfl) rfl rfl hl.1 rfl (lv_room (Nat.le_of_ble_eq_true rfl)) dL_law_2208 ⟨(by show cells + 4 + 0 ≤ 603072; omega), (by show slots + 24 + 0 ≤ 7202922; omega)⟩) hPm hDm hS hA (fun _ => rfl) (fun w u H locs hq hP hD hS => ?_)
  obtain ⟨J2, T2⟩ := u
  have hP : va_P D clW (wL cy ad I2 S2 ao aq fo2 fd bd J2 T2) H := hP
  have hD : va_D (lcA s) (wL cy ad I2 S2 ao aq fo2 fd bd J2 T2) := hD
  obtain ⟨hms, hm1, hm2⟩ := hq
  dsimp only at hms hm1 hm2
  have ha : J2 0 = r ∧ (r = 0 → val = w) := ans_joinV V (v0 := nI (jpS S (slI a1 a2) (slI a3 a4) a5 fr to k).1) (w0 := nI (pmJ T (slM a1 a2) (slM a3 a4) a5 fr to k).1) (fun q => by rw [(V.join q).1]) hc9 ⟨hm1, hm2⟩
  have hinv : Inv I2 S2 J2 T2 := (V.ask hs9 hms).inv
  refine lv_istore (lv' := [(7, .int w), (6, .int r), (0, .ref b0), (1, .ref (ad 0)), (2, .ref (bd 0)), (3, .ref ao), (4, .ref aq), (5, .int (nI i))]) hx hb dL_law_2211 hl (by decide) rfl (fun ls hl => ?_)
  refine lv_aload_n hx hb dL_law_2213 rfl (lv_at hl 4 rfl) ?_
  have hPm : va_P D clW ((wC cy ad I2 S2 ++ oLD cy ao aq fo2 fd) ++ (wM cy bd J2 T2 ++ [])) H := hP
  refine rI_call (va_runV (As := []) (rest := []) ⟨hx, hb, hml, hown, hts⟩ (c_X7_thrown l D cy bd J2 T2) (cw_L_146 hts rfl rfl ⟨Nat.le_of_ble_eq_true rfl, Nat.le_of_ble_eq_true rfl⟩) (preVR (ci := 7) (q0 := 0) hK (blkY hPm) rfl rfl) rfl rfl hl.1 rfl (lv_room (Nat.le_of_ble_eq_true rfl)) dL_law_2214 ⟨(by show cells + 4 + 0 + 0 ≤ 603072; omega), (by show slots + 24 + 0 + 0 ≤ 7202922; omega)⟩) (fun t9 ht9 => ?_)
  subst ht9
  refine lv_iload hx hb dL_law_2217 (lv_at hl 1 rfl) ?_
  refine lv_icmp_eq (tgt := 2224) hx hb dL_law_2219 (by decide) (fun _ => ?_) (fun c1 => absurd ha.1 c1)
  refine lv_iload hx hb dL_law_2224 (lv_at hl 1 rfl) ?_
  refine lv_if_ne (tgt := 2241) hx hb dL_law_2226 (by decide) (fun _ => ?_) (fun h0 => ?_)
  · refine lv_goto (tgt := 3200) hx hb dL_law_2241 (by decide) ?_
    refine W_wid (k := cells + 8) (n := slots + 48) (by omega) (by omega) ?_
    exact hkk H locs I2 S2 J2 T2 fo2 fd ls hinv hP hD hS (lv_sub hl [2, 3, 4, 5, 6, 7] rfl)
  · have h0 : r = 0 := by first | exact h0 | exact Decidable.not_not.mp h0
    have hw := ha.2 h0
    refine lv_aload_n hx hb dL_law_2229 rfl (lv_at hl 5 rfl) ?_
    refine lv_iconst (v := 0) hx hb dL_law_2230 (by decide) ?_
    refine va_lald hx hb hK hP 29 3 rfl rfl (i := 0) vp_in01 dL_law_2231 ?_
    refine top_eqL (y := val.toInt64) (hv9 h0) ?_
    refine lv_iload hx hb dL_law_2232 (lv_at hl 0 rfl) ?_
    refine lv_i2l (v := w.toInt64) hx hb dL_law_2234 rfl ?_
    refine lc_eq (tgt := 2241) hx hb dL_law_2235 dL_law_2236 (by decide) (fun _ => ?_) (fun c2 => absurd (by rw [hw]) c2)
    refine lv_goto (tgt := 3200) hx hb dL_law_2241 (by decide) ?_
    refine W_wid (k := cells + 8) (n := slots + 48) (by omega) (by omega) ?_
    exact hkk H locs I2 S2 J2 T2 fo2 fd ls hinv hP hD hS (lv_sub hl [2, 3, 4, 5, 6, 7] rfl)

set_option maxHeartbeats 4000000 in
set_option maxRecDepth 100000 in
theorem cs_30 {p : Program} {l : Launch} {e : Env} {s : State} {m : MethodId} {below : List Frame} {meth : Method} {c : Code} {b0 L : Nat} {xs : Nat → Int32} {D : va_G} {cy : Nat → ClassId} {ad bd : Nat → Nat} {ao aq : Nat} {fo : Nat → Int64} {fd : Nat → UInt64} {I J : AI} {S T : AS} {i cells slots : Nat} {H : Heap} {locs : List Loc} {Q : State → Prop} {ls : Array Slot} (C0 : LCx p l s m c b0 L xs D cy) (hI : Inv I S J T) (hi : i + 7 ≤ L) (hcc : cells + 8 ≤ 603072) (hss : slots + 48 ≤ 7202922) (hP : va_P D clW (wL cy ad I S ao aq fo fd bd J T) H) (hD : va_D (lcA s) (wL cy ad I S ao aq fo fd bd J T)) (hS : va_S (lcA s) s.heap H locs) (hl : lv_has ls 9 (lcL b0 ad bd ao aq i)) (hkk : LK p l e s m b0 below meth c D cy ad bd ao aq i (cells + 8) (slots + 48) Q) : W p l e room_1 s m #[Value.ref b0] below meth c H locs cells slots Q (F0 m 2244 ls []) := by
  obtain ⟨hx, hb, hml, hown, hts, hl0, hX, hbl, hL, hC, hK, hE, hZ⟩ := C0
  obtain ⟨en, k, n, h, len, sl, fr, to, o, c9, osl, ofr, oto, V⟩ := hI
  have hk8 : k ≤ 256 := Nat.le_trans V.k8 (by decide)
  have hci := V.civ
  have hA : ∀ q : Nat, s.heap.size ≤ q → lcA s q := fun q h => h
  have hbA : ¬ lcA s b0 := Nat.not_le.mpr hbl
  have hl : lv_has ls 9 [(0, .ref b0), (1, .ref (ad 0)), (2, .ref (bd 0)), (3, .ref ao), (4, .ref aq), (5, .int (nI i))] := hl
  refine lv_aload_n hx hb dL_law_2244 rfl (lv_at hl 1 rfl) ?_
  refine lv_aload_n hx hb dL_law_2245 rfl (lv_at hl 0 rfl) ?_
  refine lv_iload hx hb dL_law_2246 (lv_at hl 5 rfl) ?_
  refine lv_iconst (v := 1) hx hb dL_law_2248 (by decide) ?_
  refine lv_iadd hx hb dL_law_2249 ?_
  refine top_eq (y := nI (i + 1)) (nI_add i 1) ?_
  obtain ⟨a1, ha1⟩ : ∃ z : Int32, z = xs (i + 1) := ⟨_, rfl⟩
  refine va_sld hx hb hX hbl hbA hS (vp_in_nI (n := (i + 1)) (by omega) (by omega)) dL_law_2250 ?_
  refine top_eq (y := a1) (by rw [ha1, nI_clamp (by omega)]) ?_
  refine lv_aload_n hx hb dL_law_2251 rfl (lv_at hl 0 rfl) ?_
  refine lv_iload hx hb dL_law_2252 (lv_at hl 5 rfl) ?_
  refine lv_iconst (v := 2) hx hb dL_law_2254 (by decide) ?_
  refine lv_iadd hx hb dL_law_2255 ?_
  refine top_eq (y := nI (i + 2)) (nI_add i 2) ?_
  obtain ⟨a2, ha2⟩ : ∃ z : Int32, z = xs (i + 2) := ⟨_, rfl⟩
  refine va_sld hx hb hX hbl hbA hS (vp_in_nI (n := (i + 2)) (by omega) (by omega)) dL_law_2256 ?_
  refine top_eq (y := a2) (by rw [ha2, nI_clamp (by omega)]) ?_
  refine lv_aload_n hx hb dL_law_2257 rfl (lv_at hl 0 rfl) ?_
  refine lv_iload hx hb dL_law_2258 (lv_at hl 5 rfl) ?_
  refine lv_iconst (v := 3) hx hb dL_law_2260 (by decide) ?_
  refine lv_iadd hx hb dL_law_2261 ?_
  refine top_eq (y := nI (i + 3)) (nI_add i 3) ?_
  obtain ⟨a3, ha3⟩ : ∃ z : Int32, z = xs (i + 3) := ⟨_, rfl⟩
  refine va_sld hx hb hX hbl hbA hS (vp_in_nI (n := (i + 3)) (by omega) (by omega)) dL_law_2262 ?_
  refine top_eq (y := a3) (by rw [ha3, nI_clamp (by omega)]) ?_
  refine lv_aload_n hx hb dL_law_2263 rfl (lv_at hl 0 rfl) ?_
  refine lv_iload hx hb dL_law_2264 (lv_at hl 5 rfl) ?_
  refine lv_iconst (v := 4) hx hb dL_law_2266 (by decide) ?_
  refine lv_iadd hx hb dL_law_2267 ?_
  refine top_eq (y := nI (i + 4)) (nI_add i 4) ?_
  obtain ⟨a4, ha4⟩ : ∃ z : Int32, z = xs (i + 4) := ⟨_, rfl⟩
  refine va_sld hx hb hX hbl hbA hS (vp_in_nI (n := (i + 4)) (by omega) (by omega)) dL_law_2268 ?_
  refine top_eq (y := a4) (by rw [ha4, nI_clamp (by omega)]) ?_
  refine lv_aload_n hx hb dL_law_2269 rfl (lv_at hl 0 rfl) ?_
  refine lv_iload hx hb dL_law_2270 (lv_at hl 5 rfl) ?_
  refine lv_iconst (v := 5) hx hb dL_law_2272 (by decide) ?_
  refine lv_iadd hx hb dL_law_2273 ?_
  refine top_eq (y := nI (i + 5)) (nI_add i 5) ?_
  obtain ⟨a5, ha5⟩ : ∃ z : Int32, z = xs (i + 5) := ⟨_, rfl⟩
  refine va_sld hx hb hX hbl hbA hS (vp_in_nI (n := (i + 5)) (by omega) (by omega)) dL_law_2274 ?_
  refine top_eq (y := a5) (by rw [ha5, nI_clamp (by omega)]) ?_
  refine lv_aload_n hx hb dL_law_2275 rfl (lv_at hl 0 rfl) ?_
  refine lv_iload hx hb dL_law_2276 (lv_at hl 5 rfl) ?_
  refine lv_bipush (v := 6) hx hb dL_law_2278 (by decide) ?_
  refine lv_iadd hx hb dL_law_2280 ?_
  refine top_eq (y := nI (i + 6)) (nI_add i 6) ?_
  obtain ⟨a6, ha6⟩ : ∃ z : Int32, z = xs (i + 6) := ⟨_, rfl⟩
  refine va_sld hx hb hX hbl hbA hS (vp_in_nI (n := (i + 6)) (by omega) (by omega)) dL_law_2281 ?_
  refine top_eq (y := a6) (by rw [ha6, nI_clamp (by omega)]) ?_
  refine lv_aload_n hx hb dL_law_2282 rfl (lv_at hl 3 rfl) ?_
  have hPc : va_P D clW ([] ++ ((wC cy ad I S ++ oLD cy ao aq fo fd) ++ wM cy bd J T)) H := hP
  have hDc : va_D (lcA s) ([] ++ ((wC cy ad I S ++ oLD cy ao aq fo fd) ++ wM cy bd J T)) := hD
  refine bwI_call (vx_runSW (As := [.ref (ad 0), .int a1, .int a2, .int a3, .int a4, .int a5, .int a6, .ref ao]) (rest := []) ⟨hx, hb, hml, hown, hts⟩ (c_L_joinFrom l hl0 D cy ad I S H.size a1 a2 a3 a4 a5 a6 k n h fr to ofr oto hci ao aq fo fd) (cws_L_246 hts rfl rfl ⟨Nat.le_of_ble_eq_true rfl, Nat.le_of_ble_eq_true rfl⟩) (preSL hC hK hE (hZ.now hS) (blkF hDc hS hA) (blkY hPc) (blkYD hDc)) rfl rfl hl.1 rfl (lv_room (Nat.le_of_ble_eq_true rfl)) dL_law_2283 ⟨(by show cells + 5 ≤ 603072; omega), (by show slots + 30 ≤ 7202922; omega)⟩) hPc hDc hS hA (fun _ => rfl) (fun r u H locs hr_ hP hD hS => ?_)
  obtain ⟨I2, S2, fo2⟩ := u
  obtain ⟨val, hc9, hs9, hv9⟩ := hr_
  dsimp only at hc9 hs9 hv9
  have hP : va_P D clW (wL cy ad I2 S2 ao aq fo2 fd bd J T) H := hP
  have hD : va_D (lcA s) (wL cy ad I2 S2 ao aq fo2 fd bd J T) := hD
  refine lv_istore (lv' := [(6, .int r), (0, .ref b0), (1, .ref (ad 0)), (2, .ref (bd 0)), (3, .ref ao), (4, .ref aq), (5, .int (nI i))]) hx hb dL_law_2286 hl (by decide) rfl (fun ls hl => ?_)
  refine lv_aload_n hx hb dL_law_2288 rfl (lv_at hl 3 rfl) ?_
  refine lv_aload_n hx hb dL_law_2289 rfl (lv_at hl 1 rfl) ?_
  refine lv_iload hx hb dL_law_2290 (lv_at hl 6 rfl) ?_
  refine lv_iconst (v := 1) hx hb dL_law_2292 (by decide) ?_
  refine lv_iadd hx hb dL_law_2293 ?_
  refine top_eq (y := nI (i + 1)) (nI_add i 1) ?_
  refine va_sld hx hb hX hbl hbA hS (vp_in_nI (n := (i + 1)) (by omega) (by omega)) dL_law_2294 ?_
  refine top_eq (y := a1) (by rw [ha1, nI_clamp (by omega)]) ?_
  refine lv_aload_n hx hb dL_law_2295 rfl (lv_at hl 1 rfl) ?_
  refine lv_iload hx hb dL_law_2296 (lv_at hl 6 rfl) ?_
  refine lv_iconst (v := 2) hx hb dL_law_2298 (by decide) ?_
  refine lv_iadd hx hb dL_law_2299 ?_
  refine top_eq (y := nI (i + 2)) (nI_add i 2) ?_
  refine va_sld hx hb hX hbl hbA hS (vp_in_nI (n := (i + 2)) (by omega) (by omega)) dL_law_2300 ?_
  refine top_eq (y := a2) (by rw [ha2, nI_clamp (by omega)]) ?_
  refine lv_aload_n hx hb dL_law_2301 rfl (lv_at hl 1 rfl) ?_
  refine lv_iload hx hb dL_law_2302 (lv_at hl 6 rfl) ?_
  refine lv_iconst (v := 3) hx hb dL_law_2304 (by decide) ?_
  refine lv_iadd hx hb dL_law_2305 ?_
  refine top_eq (y := nI (i + 3)) (nI_add i 3) ?_
  refine va_sld hx hb hX hbl hbA hS (vp_in_nI (n := (i + 3)) (by omega) (by omega)) dL_law_2306 ?_
  refine top_eq (y := a3) (by rw [ha3, nI_clamp (by omega)]) ?_
  refine lv_aload_n hx hb dL_law_2307 rfl (lv_at hl 1 rfl) ?_
  refine lv_iload hx hb dL_law_2308 (lv_at hl 6 rfl) ?_
  refine lv_iconst (v := 4) hx hb dL_law_2310 (by decide) ?_
  refine lv_iadd hx hb dL_law_2311 ?_
  refine top_eq (y := nI (i + 4)) (nI_add i 4) ?_
  refine va_sld hx hb hX hbl hbA hS (vp_in_nI (n := (i + 4)) (by omega) (by omega)) dL_law_2312 ?_
  refine top_eq (y := a4) (by rw [ha4, nI_clamp (by omega)]) ?_
  refine lv_aload_n hx hb dL_law_2313 rfl (lv_at hl 1 rfl) ?_
  refine lv_iload hx hb dL_law_2314 (lv_at hl 6 rfl) ?_
  refine lv_iconst (v := 5) hx hb dL_law_2316 (by decide) ?_
  refine lv_iadd hx hb dL_law_2317 ?_
  refine top_eq (y := nI (i + 5)) (nI_add i 5) ?_
  refine va_sld hx hb hX hbl hbA hS (vp_in_nI (n := (i + 5)) (by omega) (by omega)) dL_law_2318 ?_
  refine top_eq (y := a5) (by rw [ha5, nI_clamp (by omega)]) ?_
  refine lv_aload_n hx hb dL_law_2319 rfl (lv_at hl 1 rfl) ?_
  refine lv_iload hx hb dL_law_2320 (lv_at hl 6 rfl) ?_
  refine lv_bipush (v := 6) hx hb dL_law_2322 (by decide) ?_
  refine lv_iadd hx hb dL_law_2324 ?_
  refine top_eq (y := nI (i + 6)) (nI_add i 6) ?_
  refine va_sld hx hb hX hbl hbA hS (vp_in_nI (n := (i + 6)) (by omega) (by omega)) dL_law_2325 ?_
  refine top_eq (y := a6) (by rw [ha6, nI_clamp (by omega)]) ?_
  have hPm : va_P D clW ((wC cy ad I2 S2 ++ oLD cy ao aq fo2 fd) ++ (wM cy bd J T ++ [])) H := hP
  have hDm : va_D (lcA s) ((wC cy ad I2 S2 ++ oLD cy ao aq fo2 fd) ++ (wM cy bd J T ++ [])) := hD
  refine bwI_call (va_runV (As := [.int a1, .int a2, .int a3, .int a4, .int a5, .int a6]) (rest := []) ⟨hx, hb, hml, hown, hts⟩ (c_X7_joinFrom l D cy bd J T H.size a1 a2 a3 a4 a5 a6 k V.2.1.2.2.1 hk8 fr to V.mfr) (cw_L_249 hts rfl rfl ⟨Nat.le_of_ble_eq_true rfl, Nat.le_of_ble_eq_true rfl⟩) (preVW (ci := 7) (q0 := 0) hK (blkY hPm) (blkYD hDm) rfl rfl) rfl rfl hl.1 rfl (lv_room (Nat.le_of_ble_eq_true rfl)) dL_law_2326 ⟨(by show cells + 5 + 0 ≤ 603072; omega), (by show slots + 30 + 0 ≤ 7202922; omega)⟩) hPm hDm hS hA (fun _ => rfl) (fun w u H locs hq hP hD hS => ?_)
  obtain ⟨J2, T2⟩ := u
  have hP : va_P D clW (wL cy ad I2 S2 ao aq fo2 fd bd J2 T2) H := hP
  have hD : va_D (lcA s) (wL cy ad I2 S2 ao aq fo2 fd bd J2 T2) := hD
  obtain ⟨hms, hm1, hm2⟩ := hq
  dsimp only at hms hm1 hm2
  have ha : J2 0 = r ∧ (r = 0 → val = w) := ans_joinI V (f := (jpS S (slI a1 a2) (slI a3 a4) a5 fr to k).2.1) (g := (pmJ T (slM a1 a2) (slM a3 a4) a5 fr to k).2.1) (fun q j hj => ((V.join q).2 j hj).1) hc9 ⟨hm1, hm2⟩
  have hinv : Inv I2 S2 J2 T2 := (V.ask hs9 hms).inv
  refine lv_istore (lv' := [(7, .int w), (6, .int r), (0, .ref b0), (1, .ref (ad 0)), (2, .ref (bd 0)), (3, .ref ao), (4, .ref aq), (5, .int (nI i))]) hx hb dL_law_2329 hl (by decide) rfl (fun ls hl => ?_)
  refine lv_aload_n hx hb dL_law_2331 rfl (lv_at hl 4 rfl) ?_
  have hPm : va_P D clW ((wC cy ad I2 S2 ++ oLD cy ao aq fo2 fd) ++ (wM cy bd J2 T2 ++ [])) H := hP
  refine rI_call (va_runV (As := []) (rest := []) ⟨hx, hb, hml, hown, hts⟩ (c_X7_thrown l D cy bd J2 T2) (cw_L_146 hts rfl rfl ⟨Nat.le_of_ble_eq_true rfl, Nat.le_of_ble_eq_true rfl⟩) (preVR (ci := 7) (q0 := 0) hK (blkY hPm) rfl rfl) rfl rfl hl.1 rfl (lv_room (Nat.le_of_ble_eq_true rfl)) dL_law_2332 ⟨(by show cells + 5 + 0 + 0 ≤ 603072; omega), (by show slots + 30 + 0 + 0 ≤ 7202922; omega)⟩) (fun t9 ht9 => ?_)
  subst ht9
  refine lv_iload hx hb dL_law_2335 (lv_at hl 1 rfl) ?_
  refine lv_icmp_eq (tgt := 2342) hx hb dL_law_2337 (by decide) (fun _ => ?_) (fun c1 => absurd ha.1 c1)
  refine lv_iload hx hb dL_law_2342 (lv_at hl 1 rfl) ?_
  refine lv_if_ne (tgt := 2359) hx hb dL_law_2344 (by decide) (fun _ => ?_) (fun h0 => ?_)
  · refine lv_goto (tgt := 3200) hx hb dL_law_2359 (by decide) ?_
    refine W_wid (k := cells + 8) (n := slots + 48) (by omega) (by omega) ?_
    exact hkk H locs I2 S2 J2 T2 fo2 fd ls hinv hP hD hS (lv_sub hl [2, 3, 4, 5, 6, 7] rfl)
  · have h0 : r = 0 := by first | exact h0 | exact Decidable.not_not.mp h0
    have hw := ha.2 h0
    refine lv_aload_n hx hb dL_law_2347 rfl (lv_at hl 5 rfl) ?_
    refine lv_iconst (v := 0) hx hb dL_law_2348 (by decide) ?_
    refine va_lald hx hb hK hP 29 3 rfl rfl (i := 0) vp_in01 dL_law_2349 ?_
    refine top_eqL (y := val.toInt64) (hv9 h0) ?_
    refine lv_iload hx hb dL_law_2350 (lv_at hl 0 rfl) ?_
    refine lv_i2l (v := w.toInt64) hx hb dL_law_2352 rfl ?_
    refine lc_eq (tgt := 2359) hx hb dL_law_2353 dL_law_2354 (by decide) (fun _ => ?_) (fun c2 => absurd (by rw [hw]) c2)
    refine lv_goto (tgt := 3200) hx hb dL_law_2359 (by decide) ?_
    refine W_wid (k := cells + 8) (n := slots + 48) (by omega) (by omega) ?_
    exact hkk H locs I2 S2 J2 T2 fo2 fd ls hinv hP hD hS (lv_sub hl [2, 3, 4, 5, 6, 7] rfl)

set_option maxHeartbeats 4000000 in
set_option maxRecDepth 100000 in
theorem cs_31 {p : Program} {l : Launch} {e : Env} {s : State} {m : MethodId} {below : List Frame} {meth : Method} {c : Code} {b0 L : Nat} {xs : Nat → Int32} {D : va_G} {cy : Nat → ClassId} {ad bd : Nat → Nat} {ao aq : Nat} {fo : Nat → Int64} {fd : Nat → UInt64} {I J : AI} {S T : AS} {i cells slots : Nat} {H : Heap} {locs : List Loc} {Q : State → Prop} {ls : Array Slot} (C0 : LCx p l s m c b0 L xs D cy) (hI : Inv I S J T) (hi : i + 7 ≤ L) (hcc : cells + 8 ≤ 603072) (hss : slots + 48 ≤ 7202922) (hP : va_P D clW (wL cy ad I S ao aq fo fd bd J T) H) (hD : va_D (lcA s) (wL cy ad I S ao aq fo fd bd J T)) (hS : va_S (lcA s) s.heap H locs) (hl : lv_has ls 9 (lcL b0 ad bd ao aq i)) (hkk : LK p l e s m b0 below meth c D cy ad bd ao aq i (cells + 8) (slots + 48) Q) : W p l e room_1 s m #[Value.ref b0] below meth c H locs cells slots Q (F0 m 2362 ls []) := by
  obtain ⟨hx, hb, hml, hown, hts, hl0, hX, hbl, hL, hC, hK, hE, hZ⟩ := C0
  obtain ⟨en, k, n, h, len, sl, fr, to, o, c9, osl, ofr, oto, V⟩ := hI
  have hk8 : k ≤ 256 := Nat.le_trans V.k8 (by decide)
  have hci := V.civ
  have hA : ∀ q : Nat, s.heap.size ≤ q → lcA s q := fun q h => h
  have hbA : ¬ lcA s b0 := Nat.not_le.mpr hbl
  have hl : lv_has ls 9 [(0, .ref b0), (1, .ref (ad 0)), (2, .ref (bd 0)), (3, .ref ao), (4, .ref aq), (5, .int (nI i))] := hl
  refine lv_aload_n hx hb dL_law_2362 rfl (lv_at hl 1 rfl) ?_
  refine lv_aload_n hx hb dL_law_2363 rfl (lv_at hl 0 rfl) ?_
  refine lv_iload hx hb dL_law_2364 (lv_at hl 5 rfl) ?_
  refine lv_iconst (v := 1) hx hb dL_law_2366 (by decide) ?_
  refine lv_iadd hx hb dL_law_2367 ?_
  refine top_eq (y := nI (i + 1)) (nI_add i 1) ?_
  obtain ⟨a1, ha1⟩ : ∃ z : Int32, z = xs (i + 1) := ⟨_, rfl⟩
  refine va_sld hx hb hX hbl hbA hS (vp_in_nI (n := (i + 1)) (by omega) (by omega)) dL_law_2368 ?_
  refine top_eq (y := a1) (by rw [ha1, nI_clamp (by omega)]) ?_
  refine lv_aload_n hx hb dL_law_2369 rfl (lv_at hl 0 rfl) ?_
  refine lv_iload hx hb dL_law_2370 (lv_at hl 5 rfl) ?_
  refine lv_iconst (v := 2) hx hb dL_law_2372 (by decide) ?_
  refine lv_iadd hx hb dL_law_2373 ?_
  refine top_eq (y := nI (i + 2)) (nI_add i 2) ?_
  obtain ⟨a2, ha2⟩ : ∃ z : Int32, z = xs (i + 2) := ⟨_, rfl⟩
  refine va_sld hx hb hX hbl hbA hS (vp_in_nI (n := (i + 2)) (by omega) (by omega)) dL_law_2374 ?_
  refine top_eq (y := a2) (by rw [ha2, nI_clamp (by omega)]) ?_
  refine lv_aload_n hx hb dL_law_2375 rfl (lv_at hl 0 rfl) ?_
  refine lv_iload hx hb dL_law_2376 (lv_at hl 5 rfl) ?_
  refine lv_iconst (v := 3) hx hb dL_law_2378 (by decide) ?_
  refine lv_iadd hx hb dL_law_2379 ?_
  refine top_eq (y := nI (i + 3)) (nI_add i 3) ?_
  obtain ⟨a3, ha3⟩ : ∃ z : Int32, z = xs (i + 3) := ⟨_, rfl⟩
  refine va_sld hx hb hX hbl hbA hS (vp_in_nI (n := (i + 3)) (by omega) (by omega)) dL_law_2380 ?_
  refine top_eq (y := a3) (by rw [ha3, nI_clamp (by omega)]) ?_
  refine lv_aload_n hx hb dL_law_2381 rfl (lv_at hl 0 rfl) ?_
  refine lv_iload hx hb dL_law_2382 (lv_at hl 5 rfl) ?_
  refine lv_iconst (v := 4) hx hb dL_law_2384 (by decide) ?_
  refine lv_iadd hx hb dL_law_2385 ?_
  refine top_eq (y := nI (i + 4)) (nI_add i 4) ?_
  obtain ⟨a4, ha4⟩ : ∃ z : Int32, z = xs (i + 4) := ⟨_, rfl⟩
  refine va_sld hx hb hX hbl hbA hS (vp_in_nI (n := (i + 4)) (by omega) (by omega)) dL_law_2386 ?_
  refine top_eq (y := a4) (by rw [ha4, nI_clamp (by omega)]) ?_
  refine lv_aload_n hx hb dL_law_2387 rfl (lv_at hl 0 rfl) ?_
  refine lv_iload hx hb dL_law_2388 (lv_at hl 5 rfl) ?_
  refine lv_iconst (v := 5) hx hb dL_law_2390 (by decide) ?_
  refine lv_iadd hx hb dL_law_2391 ?_
  refine top_eq (y := nI (i + 5)) (nI_add i 5) ?_
  obtain ⟨a5, ha5⟩ : ∃ z : Int32, z = xs (i + 5) := ⟨_, rfl⟩
  refine va_sld hx hb hX hbl hbA hS (vp_in_nI (n := (i + 5)) (by omega) (by omega)) dL_law_2392 ?_
  refine top_eq (y := a5) (by rw [ha5, nI_clamp (by omega)]) ?_
  refine lv_aload_n hx hb dL_law_2393 rfl (lv_at hl 0 rfl) ?_
  refine lv_iload hx hb dL_law_2394 (lv_at hl 5 rfl) ?_
  refine lv_bipush (v := 6) hx hb dL_law_2396 (by decide) ?_
  refine lv_iadd hx hb dL_law_2398 ?_
  refine top_eq (y := nI (i + 6)) (nI_add i 6) ?_
  obtain ⟨a6, ha6⟩ : ∃ z : Int32, z = xs (i + 6) := ⟨_, rfl⟩
  refine va_sld hx hb hX hbl hbA hS (vp_in_nI (n := (i + 6)) (by omega) (by omega)) dL_law_2399 ?_
  refine top_eq (y := a6) (by rw [ha6, nI_clamp (by omega)]) ?_
  refine lv_aload_n hx hb dL_law_2400 rfl (lv_at hl 3 rfl) ?_
  have hPc : va_P D clW ([] ++ ((wC cy ad I S ++ oLD cy ao aq fo fd) ++ wM cy bd J T)) H := hP
  have hDc : va_D (lcA s) ([] ++ ((wC cy ad I S ++ oLD cy ao aq fo fd) ++ wM cy bd J T)) := hD
  refine bwI_call (vx_runSW (As := [.ref (ad 0), .int a1, .int a2, .int a3, .int a4, .int a5, .int a6, .ref ao]) (rest := []) ⟨hx, hb, hml, hown, hts⟩ (c_L_joinTo l hl0 D cy ad I S H.size a1 a2 a3 a4 a5 a6 k n h fr to ofr oto hci ao aq fo fd) (cws_L_250 hts rfl rfl ⟨Nat.le_of_ble_eq_true rfl, Nat.le_of_ble_eq_true rfl⟩) (preSL hC hK hE (hZ.now hS) (blkF hDc hS hA) (blkY hPc) (blkYD hDc)) rfl rfl hl.1 rfl (lv_room (Nat.le_of_ble_eq_true rfl)) dL_law_2401 ⟨(by show cells + 5 ≤ 603072; omega), (by show slots + 30 ≤ 7202922; omega)⟩) hPc hDc hS hA (fun _ => rfl) (fun r u H locs hr_ hP hD hS => ?_)
  obtain ⟨I2, S2, fo2⟩ := u
  obtain ⟨val, hc9, hs9, hv9⟩ := hr_
  dsimp only at hc9 hs9 hv9
  have hP : va_P D clW (wL cy ad I2 S2 ao aq fo2 fd bd J T) H := hP
  have hD : va_D (lcA s) (wL cy ad I2 S2 ao aq fo2 fd bd J T) := hD
  refine lv_istore (lv' := [(6, .int r), (0, .ref b0), (1, .ref (ad 0)), (2, .ref (bd 0)), (3, .ref ao), (4, .ref aq), (5, .int (nI i))]) hx hb dL_law_2404 hl (by decide) rfl (fun ls hl => ?_)
  refine lv_aload_n hx hb dL_law_2406 rfl (lv_at hl 3 rfl) ?_
  refine lv_aload_n hx hb dL_law_2407 rfl (lv_at hl 1 rfl) ?_
  refine lv_iload hx hb dL_law_2408 (lv_at hl 6 rfl) ?_
  refine lv_iconst (v := 1) hx hb dL_law_2410 (by decide) ?_
  refine lv_iadd hx hb dL_law_2411 ?_
  refine top_eq (y := nI (i + 1)) (nI_add i 1) ?_
  refine va_sld hx hb hX hbl hbA hS (vp_in_nI (n := (i + 1)) (by omega) (by omega)) dL_law_2412 ?_
  refine top_eq (y := a1) (by rw [ha1, nI_clamp (by omega)]) ?_
  refine lv_aload_n hx hb dL_law_2413 rfl (lv_at hl 1 rfl) ?_
  refine lv_iload hx hb dL_law_2414 (lv_at hl 6 rfl) ?_
  refine lv_iconst (v := 2) hx hb dL_law_2416 (by decide) ?_
  refine lv_iadd hx hb dL_law_2417 ?_
  refine top_eq (y := nI (i + 2)) (nI_add i 2) ?_
  refine va_sld hx hb hX hbl hbA hS (vp_in_nI (n := (i + 2)) (by omega) (by omega)) dL_law_2418 ?_
  refine top_eq (y := a2) (by rw [ha2, nI_clamp (by omega)]) ?_
  refine lv_aload_n hx hb dL_law_2419 rfl (lv_at hl 1 rfl) ?_
  refine lv_iload hx hb dL_law_2420 (lv_at hl 6 rfl) ?_
  refine lv_iconst (v := 3) hx hb dL_law_2422 (by decide) ?_
  refine lv_iadd hx hb dL_law_2423 ?_
  refine top_eq (y := nI (i + 3)) (nI_add i 3) ?_
  refine va_sld hx hb hX hbl hbA hS (vp_in_nI (n := (i + 3)) (by omega) (by omega)) dL_law_2424 ?_
  refine top_eq (y := a3) (by rw [ha3, nI_clamp (by omega)]) ?_
  refine lv_aload_n hx hb dL_law_2425 rfl (lv_at hl 1 rfl) ?_
  refine lv_iload hx hb dL_law_2426 (lv_at hl 6 rfl) ?_
  refine lv_iconst (v := 4) hx hb dL_law_2428 (by decide) ?_
  refine lv_iadd hx hb dL_law_2429 ?_
  refine top_eq (y := nI (i + 4)) (nI_add i 4) ?_
  refine va_sld hx hb hX hbl hbA hS (vp_in_nI (n := (i + 4)) (by omega) (by omega)) dL_law_2430 ?_
  refine top_eq (y := a4) (by rw [ha4, nI_clamp (by omega)]) ?_
  refine lv_aload_n hx hb dL_law_2431 rfl (lv_at hl 1 rfl) ?_
  refine lv_iload hx hb dL_law_2432 (lv_at hl 6 rfl) ?_
  refine lv_iconst (v := 5) hx hb dL_law_2434 (by decide) ?_
  refine lv_iadd hx hb dL_law_2435 ?_
  refine top_eq (y := nI (i + 5)) (nI_add i 5) ?_
  refine va_sld hx hb hX hbl hbA hS (vp_in_nI (n := (i + 5)) (by omega) (by omega)) dL_law_2436 ?_
  refine top_eq (y := a5) (by rw [ha5, nI_clamp (by omega)]) ?_
  refine lv_aload_n hx hb dL_law_2437 rfl (lv_at hl 1 rfl) ?_
  refine lv_iload hx hb dL_law_2438 (lv_at hl 6 rfl) ?_
  refine lv_bipush (v := 6) hx hb dL_law_2440 (by decide) ?_
  refine lv_iadd hx hb dL_law_2442 ?_
  refine top_eq (y := nI (i + 6)) (nI_add i 6) ?_
  refine va_sld hx hb hX hbl hbA hS (vp_in_nI (n := (i + 6)) (by omega) (by omega)) dL_law_2443 ?_
  refine top_eq (y := a6) (by rw [ha6, nI_clamp (by omega)]) ?_
  have hPm : va_P D clW ((wC cy ad I2 S2 ++ oLD cy ao aq fo2 fd) ++ (wM cy bd J T ++ [])) H := hP
  have hDm : va_D (lcA s) ((wC cy ad I2 S2 ++ oLD cy ao aq fo2 fd) ++ (wM cy bd J T ++ [])) := hD
  refine bwI_call (va_runV (As := [.int a1, .int a2, .int a3, .int a4, .int a5, .int a6]) (rest := []) ⟨hx, hb, hml, hown, hts⟩ (c_X7_joinTo l D cy bd J T H.size a1 a2 a3 a4 a5 a6 k V.2.1.2.2.1 hk8 fr to V.mfr) (cw_L_252 hts rfl rfl ⟨Nat.le_of_ble_eq_true rfl, Nat.le_of_ble_eq_true rfl⟩) (preVW (ci := 7) (q0 := 0) hK (blkY hPm) (blkYD hDm) rfl rfl) rfl rfl hl.1 rfl (lv_room (Nat.le_of_ble_eq_true rfl)) dL_law_2444 ⟨(by show cells + 5 + 0 ≤ 603072; omega), (by show slots + 30 + 0 ≤ 7202922; omega)⟩) hPm hDm hS hA (fun _ => rfl) (fun w u H locs hq hP hD hS => ?_)
  obtain ⟨J2, T2⟩ := u
  have hP : va_P D clW (wL cy ad I2 S2 ao aq fo2 fd bd J2 T2) H := hP
  have hD : va_D (lcA s) (wL cy ad I2 S2 ao aq fo2 fd bd J2 T2) := hD
  obtain ⟨hms, hm1, hm2⟩ := hq
  dsimp only at hms hm1 hm2
  have ha : J2 0 = r ∧ (r = 0 → val = w) := ans_joinI V (f := (jpS S (slI a1 a2) (slI a3 a4) a5 fr to k).2.2) (g := (pmJ T (slM a1 a2) (slM a3 a4) a5 fr to k).2.2) (fun q j hj => ((V.join q).2 j hj).2) hc9 ⟨hm1, hm2⟩
  have hinv : Inv I2 S2 J2 T2 := (V.ask hs9 hms).inv
  refine lv_istore (lv' := [(7, .int w), (6, .int r), (0, .ref b0), (1, .ref (ad 0)), (2, .ref (bd 0)), (3, .ref ao), (4, .ref aq), (5, .int (nI i))]) hx hb dL_law_2447 hl (by decide) rfl (fun ls hl => ?_)
  refine lv_aload_n hx hb dL_law_2449 rfl (lv_at hl 4 rfl) ?_
  have hPm : va_P D clW ((wC cy ad I2 S2 ++ oLD cy ao aq fo2 fd) ++ (wM cy bd J2 T2 ++ [])) H := hP
  refine rI_call (va_runV (As := []) (rest := []) ⟨hx, hb, hml, hown, hts⟩ (c_X7_thrown l D cy bd J2 T2) (cw_L_146 hts rfl rfl ⟨Nat.le_of_ble_eq_true rfl, Nat.le_of_ble_eq_true rfl⟩) (preVR (ci := 7) (q0 := 0) hK (blkY hPm) rfl rfl) rfl rfl hl.1 rfl (lv_room (Nat.le_of_ble_eq_true rfl)) dL_law_2450 ⟨(by show cells + 5 + 0 + 0 ≤ 603072; omega), (by show slots + 30 + 0 + 0 ≤ 7202922; omega)⟩) (fun t9 ht9 => ?_)
  subst ht9
  refine lv_iload hx hb dL_law_2453 (lv_at hl 1 rfl) ?_
  refine lv_icmp_eq (tgt := 2460) hx hb dL_law_2455 (by decide) (fun _ => ?_) (fun c1 => absurd ha.1 c1)
  refine lv_iload hx hb dL_law_2460 (lv_at hl 1 rfl) ?_
  refine lv_if_ne (tgt := 2477) hx hb dL_law_2462 (by decide) (fun _ => ?_) (fun h0 => ?_)
  · refine lv_goto (tgt := 3200) hx hb dL_law_2477 (by decide) ?_
    refine W_wid (k := cells + 8) (n := slots + 48) (by omega) (by omega) ?_
    exact hkk H locs I2 S2 J2 T2 fo2 fd ls hinv hP hD hS (lv_sub hl [2, 3, 4, 5, 6, 7] rfl)
  · have h0 : r = 0 := by first | exact h0 | exact Decidable.not_not.mp h0
    have hw := ha.2 h0
    refine lv_aload_n hx hb dL_law_2465 rfl (lv_at hl 5 rfl) ?_
    refine lv_iconst (v := 0) hx hb dL_law_2466 (by decide) ?_
    refine va_lald hx hb hK hP 29 3 rfl rfl (i := 0) vp_in01 dL_law_2467 ?_
    refine top_eqL (y := val.toInt64) (hv9 h0) ?_
    refine lv_iload hx hb dL_law_2468 (lv_at hl 0 rfl) ?_
    refine lv_i2l (v := w.toInt64) hx hb dL_law_2470 rfl ?_
    refine lc_eq (tgt := 2477) hx hb dL_law_2471 dL_law_2472 (by decide) (fun _ => ?_) (fun c2 => absurd (by rw [hw]) c2)
    refine lv_goto (tgt := 3200) hx hb dL_law_2477 (by decide) ?_
    refine W_wid (k := cells + 8) (n := slots + 48) (by omega) (by omega) ?_
    exact hkk H locs I2 S2 J2 T2 fo2 fd ls hinv hP hD hS (lv_sub hl [2, 3, 4, 5, 6, 7] rfl)

set_option maxHeartbeats 4000000 in
set_option maxRecDepth 100000 in
theorem cs_32 {p : Program} {l : Launch} {e : Env} {s : State} {m : MethodId} {below : List Frame} {meth : Method} {c : Code} {b0 L : Nat} {xs : Nat → Int32} {D : va_G} {cy : Nat → ClassId} {ad bd : Nat → Nat} {ao aq : Nat} {fo : Nat → Int64} {fd : Nat → UInt64} {I J : AI} {S T : AS} {i cells slots : Nat} {H : Heap} {locs : List Loc} {Q : State → Prop} {ls : Array Slot} (C0 : LCx p l s m c b0 L xs D cy) (hI : Inv I S J T) (hi : i + 7 ≤ L) (hcc : cells + 8 ≤ 603072) (hss : slots + 48 ≤ 7202922) (hP : va_P D clW (wL cy ad I S ao aq fo fd bd J T) H) (hD : va_D (lcA s) (wL cy ad I S ao aq fo fd bd J T)) (hS : va_S (lcA s) s.heap H locs) (hl : lv_has ls 9 (lcL b0 ad bd ao aq i)) (hkk : LK p l e s m b0 below meth c D cy ad bd ao aq i (cells + 8) (slots + 48) Q) : W p l e room_1 s m #[Value.ref b0] below meth c H locs cells slots Q (F0 m 2480 ls []) := by
  obtain ⟨hx, hb, hml, hown, hts, hl0, hX, hbl, hL, hC, hK, hE, hZ⟩ := C0
  obtain ⟨en, k, n, h, len, sl, fr, to, o, c9, osl, ofr, oto, V⟩ := hI
  have hk8 : k ≤ 256 := Nat.le_trans V.k8 (by decide)
  have hci := V.civ
  have hA : ∀ q : Nat, s.heap.size ≤ q → lcA s q := fun q h => h
  have hbA : ¬ lcA s b0 := Nat.not_le.mpr hbl
  have hl : lv_has ls 9 [(0, .ref b0), (1, .ref (ad 0)), (2, .ref (bd 0)), (3, .ref ao), (4, .ref aq), (5, .int (nI i))] := hl
  refine lv_aload_n hx hb dL_law_2480 rfl (lv_at hl 1 rfl) ?_
  refine lv_aload_n hx hb dL_law_2481 rfl (lv_at hl 0 rfl) ?_
  refine lv_iload hx hb dL_law_2482 (lv_at hl 5 rfl) ?_
  refine lv_iconst (v := 1) hx hb dL_law_2484 (by decide) ?_
  refine lv_iadd hx hb dL_law_2485 ?_
  refine top_eq (y := nI (i + 1)) (nI_add i 1) ?_
  obtain ⟨a1, ha1⟩ : ∃ z : Int32, z = xs (i + 1) := ⟨_, rfl⟩
  refine va_sld hx hb hX hbl hbA hS (vp_in_nI (n := (i + 1)) (by omega) (by omega)) dL_law_2486 ?_
  refine top_eq (y := a1) (by rw [ha1, nI_clamp (by omega)]) ?_
  refine lv_aload_n hx hb dL_law_2487 rfl (lv_at hl 0 rfl) ?_
  refine lv_iload hx hb dL_law_2488 (lv_at hl 5 rfl) ?_
  refine lv_iconst (v := 2) hx hb dL_law_2490 (by decide) ?_
  refine lv_iadd hx hb dL_law_2491 ?_
  refine top_eq (y := nI (i + 2)) (nI_add i 2) ?_
  obtain ⟨a2, ha2⟩ : ∃ z : Int32, z = xs (i + 2) := ⟨_, rfl⟩
  refine va_sld hx hb hX hbl hbA hS (vp_in_nI (n := (i + 2)) (by omega) (by omega)) dL_law_2492 ?_
  refine top_eq (y := a2) (by rw [ha2, nI_clamp (by omega)]) ?_
  refine lv_aload_n hx hb dL_law_2493 rfl (lv_at hl 0 rfl) ?_
  refine lv_iload hx hb dL_law_2494 (lv_at hl 5 rfl) ?_
  refine lv_iconst (v := 3) hx hb dL_law_2496 (by decide) ?_
  refine lv_iadd hx hb dL_law_2497 ?_
  refine top_eq (y := nI (i + 3)) (nI_add i 3) ?_
  obtain ⟨a3, ha3⟩ : ∃ z : Int32, z = xs (i + 3) := ⟨_, rfl⟩
  refine va_sld hx hb hX hbl hbA hS (vp_in_nI (n := (i + 3)) (by omega) (by omega)) dL_law_2498 ?_
  refine top_eq (y := a3) (by rw [ha3, nI_clamp (by omega)]) ?_
  refine lv_aload_n hx hb dL_law_2499 rfl (lv_at hl 0 rfl) ?_
  refine lv_iload hx hb dL_law_2500 (lv_at hl 5 rfl) ?_
  refine lv_iconst (v := 4) hx hb dL_law_2502 (by decide) ?_
  refine lv_iadd hx hb dL_law_2503 ?_
  refine top_eq (y := nI (i + 4)) (nI_add i 4) ?_
  obtain ⟨a4, ha4⟩ : ∃ z : Int32, z = xs (i + 4) := ⟨_, rfl⟩
  refine va_sld hx hb hX hbl hbA hS (vp_in_nI (n := (i + 4)) (by omega) (by omega)) dL_law_2504 ?_
  refine top_eq (y := a4) (by rw [ha4, nI_clamp (by omega)]) ?_
  refine lv_aload_n hx hb dL_law_2505 rfl (lv_at hl 0 rfl) ?_
  refine lv_iload hx hb dL_law_2506 (lv_at hl 5 rfl) ?_
  refine lv_iconst (v := 5) hx hb dL_law_2508 (by decide) ?_
  refine lv_iadd hx hb dL_law_2509 ?_
  refine top_eq (y := nI (i + 5)) (nI_add i 5) ?_
  obtain ⟨a5, ha5⟩ : ∃ z : Int32, z = xs (i + 5) := ⟨_, rfl⟩
  refine va_sld hx hb hX hbl hbA hS (vp_in_nI (n := (i + 5)) (by omega) (by omega)) dL_law_2510 ?_
  refine top_eq (y := a5) (by rw [ha5, nI_clamp (by omega)]) ?_
  refine lv_aload_n hx hb dL_law_2511 rfl (lv_at hl 3 rfl) ?_
  have hPc : va_P D clW ([] ++ ((wC cy ad I S ++ oLD cy ao aq fo fd) ++ wM cy bd J T)) H := hP
  have hDc : va_D (lcA s) ([] ++ ((wC cy ad I S ++ oLD cy ao aq fo fd) ++ wM cy bd J T)) := hD
  refine bwI_call (vx_runSW (As := [.ref (ad 0), .int a1, .int a2, .int a3, .int a4, .int a5, .ref ao]) (rest := []) ⟨hx, hb, hml, hown, hts⟩ (c_L_commonDays l hl0 D cy ad I S H.size a1 a2 a3 a4 a5 k n h fr to ofr oto hci ao aq fo fd) (cws_L_253 hts rfl rfl ⟨Nat.le_of_ble_eq_true rfl, Nat.le_of_ble_eq_true rfl⟩) (preSL hC hK hE (hZ.now hS) (blkF hDc hS hA) (blkY hPc) (blkYD hDc)) rfl rfl hl.1 rfl (lv_room (Nat.le_of_ble_eq_true rfl)) dL_law_2512 ⟨(by show cells + 4 ≤ 603072; omega), (by show slots + 24 ≤ 7202922; omega)⟩) hPc hDc hS hA (fun _ => rfl) (fun r u H locs hr_ hP hD hS => ?_)
  obtain ⟨I2, S2, fo2⟩ := u
  obtain ⟨val, hc9, hs9, hv9⟩ := hr_
  dsimp only at hc9 hs9 hv9
  have hP : va_P D clW (wL cy ad I2 S2 ao aq fo2 fd bd J T) H := hP
  have hD : va_D (lcA s) (wL cy ad I2 S2 ao aq fo2 fd bd J T) := hD
  refine lv_istore (lv' := [(6, .int r), (0, .ref b0), (1, .ref (ad 0)), (2, .ref (bd 0)), (3, .ref ao), (4, .ref aq), (5, .int (nI i))]) hx hb dL_law_2515 hl (by decide) rfl (fun ls hl => ?_)
  refine lv_aload_n hx hb dL_law_2517 rfl (lv_at hl 3 rfl) ?_
  refine lv_aload_n hx hb dL_law_2518 rfl (lv_at hl 1 rfl) ?_
  refine lv_iload hx hb dL_law_2519 (lv_at hl 6 rfl) ?_
  refine lv_iconst (v := 1) hx hb dL_law_2521 (by decide) ?_
  refine lv_iadd hx hb dL_law_2522 ?_
  refine top_eq (y := nI (i + 1)) (nI_add i 1) ?_
  refine va_sld hx hb hX hbl hbA hS (vp_in_nI (n := (i + 1)) (by omega) (by omega)) dL_law_2523 ?_
  refine top_eq (y := a1) (by rw [ha1, nI_clamp (by omega)]) ?_
  refine lv_aload_n hx hb dL_law_2524 rfl (lv_at hl 1 rfl) ?_
  refine lv_iload hx hb dL_law_2525 (lv_at hl 6 rfl) ?_
  refine lv_iconst (v := 2) hx hb dL_law_2527 (by decide) ?_
  refine lv_iadd hx hb dL_law_2528 ?_
  refine top_eq (y := nI (i + 2)) (nI_add i 2) ?_
  refine va_sld hx hb hX hbl hbA hS (vp_in_nI (n := (i + 2)) (by omega) (by omega)) dL_law_2529 ?_
  refine top_eq (y := a2) (by rw [ha2, nI_clamp (by omega)]) ?_
  refine lv_aload_n hx hb dL_law_2530 rfl (lv_at hl 1 rfl) ?_
  refine lv_iload hx hb dL_law_2531 (lv_at hl 6 rfl) ?_
  refine lv_iconst (v := 3) hx hb dL_law_2533 (by decide) ?_
  refine lv_iadd hx hb dL_law_2534 ?_
  refine top_eq (y := nI (i + 3)) (nI_add i 3) ?_
  refine va_sld hx hb hX hbl hbA hS (vp_in_nI (n := (i + 3)) (by omega) (by omega)) dL_law_2535 ?_
  refine top_eq (y := a3) (by rw [ha3, nI_clamp (by omega)]) ?_
  refine lv_aload_n hx hb dL_law_2536 rfl (lv_at hl 1 rfl) ?_
  refine lv_iload hx hb dL_law_2537 (lv_at hl 6 rfl) ?_
  refine lv_iconst (v := 4) hx hb dL_law_2539 (by decide) ?_
  refine lv_iadd hx hb dL_law_2540 ?_
  refine top_eq (y := nI (i + 4)) (nI_add i 4) ?_
  refine va_sld hx hb hX hbl hbA hS (vp_in_nI (n := (i + 4)) (by omega) (by omega)) dL_law_2541 ?_
  refine top_eq (y := a4) (by rw [ha4, nI_clamp (by omega)]) ?_
  refine lv_aload_n hx hb dL_law_2542 rfl (lv_at hl 1 rfl) ?_
  refine lv_iload hx hb dL_law_2543 (lv_at hl 6 rfl) ?_
  refine lv_iconst (v := 5) hx hb dL_law_2545 (by decide) ?_
  refine lv_iadd hx hb dL_law_2546 ?_
  refine top_eq (y := nI (i + 5)) (nI_add i 5) ?_
  refine va_sld hx hb hX hbl hbA hS (vp_in_nI (n := (i + 5)) (by omega) (by omega)) dL_law_2547 ?_
  refine top_eq (y := a5) (by rw [ha5, nI_clamp (by omega)]) ?_
  have hPm : va_P D clW ((wC cy ad I2 S2 ++ oLD cy ao aq fo2 fd) ++ (wM cy bd J T ++ [])) H := hP
  have hDm : va_D (lcA s) ((wC cy ad I2 S2 ++ oLD cy ao aq fo2 fd) ++ (wM cy bd J T ++ [])) := hD
  refine bwI_call (va_runV (As := [.int a1, .int a2, .int a3, .int a4, .int a5]) (rest := []) ⟨hx, hb, hml, hown, hts⟩ (c_X7_commonDays l D cy bd J T H.size a1 a2 a3 a4 a5 k V.2.1.2.2.1 hk8 fr to V.mfr) (cw_L_255 hts rfl rfl ⟨Nat.le_of_ble_eq_true rfl, Nat.le_of_ble_eq_true rfl⟩) (preVW (ci := 7) (q0 := 0) hK (blkY hPm) (blkYD hDm) rfl rfl) rfl rfl hl.1 rfl (lv_room (Nat.le_of_ble_eq_true rfl)) dL_law_2548 ⟨(by show cells + 4 + 0 ≤ 603072; omega), (by show slots + 24 + 0 ≤ 7202922; omega)⟩) hPm hDm hS hA (fun _ => rfl) (fun w u H locs hq hP hD hS => ?_)
  obtain ⟨J2, T2⟩ := u
  have hP : va_P D clW (wL cy ad I2 S2 ao aq fo2 fd bd J2 T2) H := hP
  have hD : va_D (lcA s) (wL cy ad I2 S2 ao aq fo2 fd bd J2 T2) := hD
  obtain ⟨hms, hm1, hm2⟩ := hq
  dsimp only at hms hm1 hm2
  have ha : J2 0 = r ∧ (r = 0 → val = w) := ans_joinV V (v0 := ccN (rdKN S (slI a1 a2) a5 fr to (S 17) k) (rdKN S (slI a3 a4) a5 fr to (S 20) k) 100) (w0 := bdN (T 4) (lkM T (slM a1 a2) a5 fr to k) (lkO T (slM a3 a4) a5 fr to k) false 100) (fun q => (V.common q).1) hc9 ⟨hm1, hm2⟩
  have hinv : Inv I2 S2 J2 T2 := (V.ask hs9 hms).inv
  refine lv_istore (lv' := [(7, .int w), (6, .int r), (0, .ref b0), (1, .ref (ad 0)), (2, .ref (bd 0)), (3, .ref ao), (4, .ref aq), (5, .int (nI i))]) hx hb dL_law_2551 hl (by decide) rfl (fun ls hl => ?_)
  refine lv_aload_n hx hb dL_law_2553 rfl (lv_at hl 4 rfl) ?_
  have hPm : va_P D clW ((wC cy ad I2 S2 ++ oLD cy ao aq fo2 fd) ++ (wM cy bd J2 T2 ++ [])) H := hP
  refine rI_call (va_runV (As := []) (rest := []) ⟨hx, hb, hml, hown, hts⟩ (c_X7_thrown l D cy bd J2 T2) (cw_L_146 hts rfl rfl ⟨Nat.le_of_ble_eq_true rfl, Nat.le_of_ble_eq_true rfl⟩) (preVR (ci := 7) (q0 := 0) hK (blkY hPm) rfl rfl) rfl rfl hl.1 rfl (lv_room (Nat.le_of_ble_eq_true rfl)) dL_law_2554 ⟨(by show cells + 4 + 0 + 0 ≤ 603072; omega), (by show slots + 24 + 0 + 0 ≤ 7202922; omega)⟩) (fun t9 ht9 => ?_)
  subst ht9
  refine lv_iload hx hb dL_law_2557 (lv_at hl 1 rfl) ?_
  refine lv_icmp_eq (tgt := 2564) hx hb dL_law_2559 (by decide) (fun _ => ?_) (fun c1 => absurd ha.1 c1)
  refine lv_iload hx hb dL_law_2564 (lv_at hl 1 rfl) ?_
  refine lv_if_ne (tgt := 2581) hx hb dL_law_2566 (by decide) (fun _ => ?_) (fun h0 => ?_)
  · refine lv_goto (tgt := 3200) hx hb dL_law_2581 (by decide) ?_
    refine W_wid (k := cells + 8) (n := slots + 48) (by omega) (by omega) ?_
    exact hkk H locs I2 S2 J2 T2 fo2 fd ls hinv hP hD hS (lv_sub hl [2, 3, 4, 5, 6, 7] rfl)
  · have h0 : r = 0 := by first | exact h0 | exact Decidable.not_not.mp h0
    have hw := ha.2 h0
    refine lv_aload_n hx hb dL_law_2569 rfl (lv_at hl 5 rfl) ?_
    refine lv_iconst (v := 0) hx hb dL_law_2570 (by decide) ?_
    refine va_lald hx hb hK hP 29 3 rfl rfl (i := 0) vp_in01 dL_law_2571 ?_
    refine top_eqL (y := val.toInt64) (hv9 h0) ?_
    refine lv_iload hx hb dL_law_2572 (lv_at hl 0 rfl) ?_
    refine lv_i2l (v := w.toInt64) hx hb dL_law_2574 rfl ?_
    refine lc_eq (tgt := 2581) hx hb dL_law_2575 dL_law_2576 (by decide) (fun _ => ?_) (fun c2 => absurd (by rw [hw]) c2)
    refine lv_goto (tgt := 3200) hx hb dL_law_2581 (by decide) ?_
    refine W_wid (k := cells + 8) (n := slots + 48) (by omega) (by omega) ?_
    exact hkk H locs I2 S2 J2 T2 fo2 fd ls hinv hP hD hS (lv_sub hl [2, 3, 4, 5, 6, 7] rfl)

set_option maxHeartbeats 4000000 in
set_option maxRecDepth 100000 in
theorem cs_33 {p : Program} {l : Launch} {e : Env} {s : State} {m : MethodId} {below : List Frame} {meth : Method} {c : Code} {b0 L : Nat} {xs : Nat → Int32} {D : va_G} {cy : Nat → ClassId} {ad bd : Nat → Nat} {ao aq : Nat} {fo : Nat → Int64} {fd : Nat → UInt64} {I J : AI} {S T : AS} {i cells slots : Nat} {H : Heap} {locs : List Loc} {Q : State → Prop} {ls : Array Slot} (C0 : LCx p l s m c b0 L xs D cy) (hI : Inv I S J T) (hi : i + 7 ≤ L) (hcc : cells + 8 ≤ 603072) (hss : slots + 48 ≤ 7202922) (hP : va_P D clW (wL cy ad I S ao aq fo fd bd J T) H) (hD : va_D (lcA s) (wL cy ad I S ao aq fo fd bd J T)) (hS : va_S (lcA s) s.heap H locs) (hl : lv_has ls 9 (lcL b0 ad bd ao aq i)) (hkk : LK p l e s m b0 below meth c D cy ad bd ao aq i (cells + 8) (slots + 48) Q) : W p l e room_1 s m #[Value.ref b0] below meth c H locs cells slots Q (F0 m 2584 ls []) := by
  obtain ⟨hx, hb, hml, hown, hts, hl0, hX, hbl, hL, hC, hK, hE, hZ⟩ := C0
  obtain ⟨en, k, n, h, len, sl, fr, to, o, c9, osl, ofr, oto, V⟩ := hI
  have hk8 : k ≤ 256 := Nat.le_trans V.k8 (by decide)
  have hci := V.civ
  have hA : ∀ q : Nat, s.heap.size ≤ q → lcA s q := fun q h => h
  have hbA : ¬ lcA s b0 := Nat.not_le.mpr hbl
  have hl : lv_has ls 9 [(0, .ref b0), (1, .ref (ad 0)), (2, .ref (bd 0)), (3, .ref ao), (4, .ref aq), (5, .int (nI i))] := hl
  refine lv_aload_n hx hb dL_law_2584 rfl (lv_at hl 1 rfl) ?_
  refine lv_aload_n hx hb dL_law_2585 rfl (lv_at hl 0 rfl) ?_
  refine lv_iload hx hb dL_law_2586 (lv_at hl 5 rfl) ?_
  refine lv_iconst (v := 1) hx hb dL_law_2588 (by decide) ?_
  refine lv_iadd hx hb dL_law_2589 ?_
  refine top_eq (y := nI (i + 1)) (nI_add i 1) ?_
  obtain ⟨a1, ha1⟩ : ∃ z : Int32, z = xs (i + 1) := ⟨_, rfl⟩
  refine va_sld hx hb hX hbl hbA hS (vp_in_nI (n := (i + 1)) (by omega) (by omega)) dL_law_2590 ?_
  refine top_eq (y := a1) (by rw [ha1, nI_clamp (by omega)]) ?_
  refine lv_aload_n hx hb dL_law_2591 rfl (lv_at hl 0 rfl) ?_
  refine lv_iload hx hb dL_law_2592 (lv_at hl 5 rfl) ?_
  refine lv_iconst (v := 2) hx hb dL_law_2594 (by decide) ?_
  refine lv_iadd hx hb dL_law_2595 ?_
  refine top_eq (y := nI (i + 2)) (nI_add i 2) ?_
  obtain ⟨a2, ha2⟩ : ∃ z : Int32, z = xs (i + 2) := ⟨_, rfl⟩
  refine va_sld hx hb hX hbl hbA hS (vp_in_nI (n := (i + 2)) (by omega) (by omega)) dL_law_2596 ?_
  refine top_eq (y := a2) (by rw [ha2, nI_clamp (by omega)]) ?_
  refine lv_aload_n hx hb dL_law_2597 rfl (lv_at hl 0 rfl) ?_
  refine lv_iload hx hb dL_law_2598 (lv_at hl 5 rfl) ?_
  refine lv_iconst (v := 3) hx hb dL_law_2600 (by decide) ?_
  refine lv_iadd hx hb dL_law_2601 ?_
  refine top_eq (y := nI (i + 3)) (nI_add i 3) ?_
  obtain ⟨a3, ha3⟩ : ∃ z : Int32, z = xs (i + 3) := ⟨_, rfl⟩
  refine va_sld hx hb hX hbl hbA hS (vp_in_nI (n := (i + 3)) (by omega) (by omega)) dL_law_2602 ?_
  refine top_eq (y := a3) (by rw [ha3, nI_clamp (by omega)]) ?_
  refine lv_aload_n hx hb dL_law_2603 rfl (lv_at hl 0 rfl) ?_
  refine lv_iload hx hb dL_law_2604 (lv_at hl 5 rfl) ?_
  refine lv_iconst (v := 4) hx hb dL_law_2606 (by decide) ?_
  refine lv_iadd hx hb dL_law_2607 ?_
  refine top_eq (y := nI (i + 4)) (nI_add i 4) ?_
  obtain ⟨a4, ha4⟩ : ∃ z : Int32, z = xs (i + 4) := ⟨_, rfl⟩
  refine va_sld hx hb hX hbl hbA hS (vp_in_nI (n := (i + 4)) (by omega) (by omega)) dL_law_2608 ?_
  refine top_eq (y := a4) (by rw [ha4, nI_clamp (by omega)]) ?_
  refine lv_aload_n hx hb dL_law_2609 rfl (lv_at hl 0 rfl) ?_
  refine lv_iload hx hb dL_law_2610 (lv_at hl 5 rfl) ?_
  refine lv_iconst (v := 5) hx hb dL_law_2612 (by decide) ?_
  refine lv_iadd hx hb dL_law_2613 ?_
  refine top_eq (y := nI (i + 5)) (nI_add i 5) ?_
  obtain ⟨a5, ha5⟩ : ∃ z : Int32, z = xs (i + 5) := ⟨_, rfl⟩
  refine va_sld hx hb hX hbl hbA hS (vp_in_nI (n := (i + 5)) (by omega) (by omega)) dL_law_2614 ?_
  refine top_eq (y := a5) (by rw [ha5, nI_clamp (by omega)]) ?_
  refine lv_aload_n hx hb dL_law_2615 rfl (lv_at hl 3 rfl) ?_
  have hPc : va_P D clW ([] ++ ((wC cy ad I S ++ oLD cy ao aq fo fd) ++ wM cy bd J T)) H := hP
  have hDc : va_D (lcA s) ([] ++ ((wC cy ad I S ++ oLD cy ao aq fo fd) ++ wM cy bd J T)) := hD
  refine bwI_call (vx_runSW (As := [.ref (ad 0), .int a1, .int a2, .int a3, .int a4, .int a5, .ref ao]) (rest := []) ⟨hx, hb, hml, hown, hts⟩ (c_L_agreeDays l hl0 D cy ad I S H.size a1 a2 a3 a4 a5 k n h fr to ofr oto hci ao aq fo fd) (cws_L_256 hts rfl rfl ⟨Nat.le_of_ble_eq_true rfl, Nat.le_of_ble_eq_true rfl⟩) (preSL hC hK hE (hZ.now hS) (blkF hDc hS hA) (blkY hPc) (blkYD hDc)) rfl rfl hl.1 rfl (lv_room (Nat.le_of_ble_eq_true rfl)) dL_law_2616 ⟨(by show cells + 4 ≤ 603072; omega), (by show slots + 24 ≤ 7202922; omega)⟩) hPc hDc hS hA (fun _ => rfl) (fun r u H locs hr_ hP hD hS => ?_)
  obtain ⟨I2, S2, fo2⟩ := u
  obtain ⟨val, hc9, hs9, hv9⟩ := hr_
  dsimp only at hc9 hs9 hv9
  have hP : va_P D clW (wL cy ad I2 S2 ao aq fo2 fd bd J T) H := hP
  have hD : va_D (lcA s) (wL cy ad I2 S2 ao aq fo2 fd bd J T) := hD
  refine lv_istore (lv' := [(6, .int r), (0, .ref b0), (1, .ref (ad 0)), (2, .ref (bd 0)), (3, .ref ao), (4, .ref aq), (5, .int (nI i))]) hx hb dL_law_2619 hl (by decide) rfl (fun ls hl => ?_)
  refine lv_aload_n hx hb dL_law_2621 rfl (lv_at hl 3 rfl) ?_
  refine lv_aload_n hx hb dL_law_2622 rfl (lv_at hl 1 rfl) ?_
  refine lv_iload hx hb dL_law_2623 (lv_at hl 6 rfl) ?_
  refine lv_iconst (v := 1) hx hb dL_law_2625 (by decide) ?_
  refine lv_iadd hx hb dL_law_2626 ?_
  refine top_eq (y := nI (i + 1)) (nI_add i 1) ?_
  refine va_sld hx hb hX hbl hbA hS (vp_in_nI (n := (i + 1)) (by omega) (by omega)) dL_law_2627 ?_
  refine top_eq (y := a1) (by rw [ha1, nI_clamp (by omega)]) ?_
  refine lv_aload_n hx hb dL_law_2628 rfl (lv_at hl 1 rfl) ?_
  refine lv_iload hx hb dL_law_2629 (lv_at hl 6 rfl) ?_
  refine lv_iconst (v := 2) hx hb dL_law_2631 (by decide) ?_
  refine lv_iadd hx hb dL_law_2632 ?_
  refine top_eq (y := nI (i + 2)) (nI_add i 2) ?_
  refine va_sld hx hb hX hbl hbA hS (vp_in_nI (n := (i + 2)) (by omega) (by omega)) dL_law_2633 ?_
  refine top_eq (y := a2) (by rw [ha2, nI_clamp (by omega)]) ?_
  refine lv_aload_n hx hb dL_law_2634 rfl (lv_at hl 1 rfl) ?_
  refine lv_iload hx hb dL_law_2635 (lv_at hl 6 rfl) ?_
  refine lv_iconst (v := 3) hx hb dL_law_2637 (by decide) ?_
  refine lv_iadd hx hb dL_law_2638 ?_
  refine top_eq (y := nI (i + 3)) (nI_add i 3) ?_
  refine va_sld hx hb hX hbl hbA hS (vp_in_nI (n := (i + 3)) (by omega) (by omega)) dL_law_2639 ?_
  refine top_eq (y := a3) (by rw [ha3, nI_clamp (by omega)]) ?_
  refine lv_aload_n hx hb dL_law_2640 rfl (lv_at hl 1 rfl) ?_
  refine lv_iload hx hb dL_law_2641 (lv_at hl 6 rfl) ?_
  refine lv_iconst (v := 4) hx hb dL_law_2643 (by decide) ?_
  refine lv_iadd hx hb dL_law_2644 ?_
  refine top_eq (y := nI (i + 4)) (nI_add i 4) ?_
  refine va_sld hx hb hX hbl hbA hS (vp_in_nI (n := (i + 4)) (by omega) (by omega)) dL_law_2645 ?_
  refine top_eq (y := a4) (by rw [ha4, nI_clamp (by omega)]) ?_
  refine lv_aload_n hx hb dL_law_2646 rfl (lv_at hl 1 rfl) ?_
  refine lv_iload hx hb dL_law_2647 (lv_at hl 6 rfl) ?_
  refine lv_iconst (v := 5) hx hb dL_law_2649 (by decide) ?_
  refine lv_iadd hx hb dL_law_2650 ?_
  refine top_eq (y := nI (i + 5)) (nI_add i 5) ?_
  refine va_sld hx hb hX hbl hbA hS (vp_in_nI (n := (i + 5)) (by omega) (by omega)) dL_law_2651 ?_
  refine top_eq (y := a5) (by rw [ha5, nI_clamp (by omega)]) ?_
  have hPm : va_P D clW ((wC cy ad I2 S2 ++ oLD cy ao aq fo2 fd) ++ (wM cy bd J T ++ [])) H := hP
  have hDm : va_D (lcA s) ((wC cy ad I2 S2 ++ oLD cy ao aq fo2 fd) ++ (wM cy bd J T ++ [])) := hD
  refine bwI_call (va_runV (As := [.int a1, .int a2, .int a3, .int a4, .int a5]) (rest := []) ⟨hx, hb, hml, hown, hts⟩ (c_X7_agreeDays l D cy bd J T H.size a1 a2 a3 a4 a5 k V.2.1.2.2.1 hk8 fr to V.mfr) (cw_L_258 hts rfl rfl ⟨Nat.le_of_ble_eq_true rfl, Nat.le_of_ble_eq_true rfl⟩) (preVW (ci := 7) (q0 := 0) hK (blkY hPm) (blkYD hDm) rfl rfl) rfl rfl hl.1 rfl (lv_room (Nat.le_of_ble_eq_true rfl)) dL_law_2652 ⟨(by show cells + 4 + 0 ≤ 603072; omega), (by show slots + 24 + 0 ≤ 7202922; omega)⟩) hPm hDm hS hA (fun _ => rfl) (fun w u H locs hq hP hD hS => ?_)
  obtain ⟨J2, T2⟩ := u
  have hP : va_P D clW (wL cy ad I2 S2 ao aq fo2 fd bd J2 T2) H := hP
  have hD : va_D (lcA s) (wL cy ad I2 S2 ao aq fo2 fd bd J2 T2) := hD
  obtain ⟨hms, hm1, hm2⟩ := hq
  dsimp only at hms hm1 hm2
  have ha : J2 0 = r ∧ (r = 0 → val = w) := ans_joinV V (v0 := caN (rdKN S (slI a1 a2) a5 fr to (S 17) k) (rdVN S (slI a1 a2) a5 fr to (S 18) k) (rdKN S (slI a3 a4) a5 fr to (S 20) k) (rdVN S (slI a3 a4) a5 fr to (S 21) k) 100) (w0 := bdN (T 4) (lkM T (slM a1 a2) a5 fr to k) (lkO T (slM a3 a4) a5 fr to k) true 100) (fun q => (V.common q).2) hc9 ⟨hm1, hm2⟩
  have hinv : Inv I2 S2 J2 T2 := (V.ask hs9 hms).inv
  refine lv_istore (lv' := [(7, .int w), (6, .int r), (0, .ref b0), (1, .ref (ad 0)), (2, .ref (bd 0)), (3, .ref ao), (4, .ref aq), (5, .int (nI i))]) hx hb dL_law_2655 hl (by decide) rfl (fun ls hl => ?_)
  refine lv_aload_n hx hb dL_law_2657 rfl (lv_at hl 4 rfl) ?_
  have hPm : va_P D clW ((wC cy ad I2 S2 ++ oLD cy ao aq fo2 fd) ++ (wM cy bd J2 T2 ++ [])) H := hP
  refine rI_call (va_runV (As := []) (rest := []) ⟨hx, hb, hml, hown, hts⟩ (c_X7_thrown l D cy bd J2 T2) (cw_L_146 hts rfl rfl ⟨Nat.le_of_ble_eq_true rfl, Nat.le_of_ble_eq_true rfl⟩) (preVR (ci := 7) (q0 := 0) hK (blkY hPm) rfl rfl) rfl rfl hl.1 rfl (lv_room (Nat.le_of_ble_eq_true rfl)) dL_law_2658 ⟨(by show cells + 4 + 0 + 0 ≤ 603072; omega), (by show slots + 24 + 0 + 0 ≤ 7202922; omega)⟩) (fun t9 ht9 => ?_)
  subst ht9
  refine lv_iload hx hb dL_law_2661 (lv_at hl 1 rfl) ?_
  refine lv_icmp_eq (tgt := 2668) hx hb dL_law_2663 (by decide) (fun _ => ?_) (fun c1 => absurd ha.1 c1)
  refine lv_iload hx hb dL_law_2668 (lv_at hl 1 rfl) ?_
  refine lv_if_ne (tgt := 2685) hx hb dL_law_2670 (by decide) (fun _ => ?_) (fun h0 => ?_)
  · refine lv_goto (tgt := 3200) hx hb dL_law_2685 (by decide) ?_
    refine W_wid (k := cells + 8) (n := slots + 48) (by omega) (by omega) ?_
    exact hkk H locs I2 S2 J2 T2 fo2 fd ls hinv hP hD hS (lv_sub hl [2, 3, 4, 5, 6, 7] rfl)
  · have h0 : r = 0 := by first | exact h0 | exact Decidable.not_not.mp h0
    have hw := ha.2 h0
    refine lv_aload_n hx hb dL_law_2673 rfl (lv_at hl 5 rfl) ?_
    refine lv_iconst (v := 0) hx hb dL_law_2674 (by decide) ?_
    refine va_lald hx hb hK hP 29 3 rfl rfl (i := 0) vp_in01 dL_law_2675 ?_
    refine top_eqL (y := val.toInt64) (hv9 h0) ?_
    refine lv_iload hx hb dL_law_2676 (lv_at hl 0 rfl) ?_
    refine lv_i2l (v := w.toInt64) hx hb dL_law_2678 rfl ?_
    refine lc_eq (tgt := 2685) hx hb dL_law_2679 dL_law_2680 (by decide) (fun _ => ?_) (fun c2 => absurd (by rw [hw]) c2)
    refine lv_goto (tgt := 3200) hx hb dL_law_2685 (by decide) ?_
    refine W_wid (k := cells + 8) (n := slots + 48) (by omega) (by omega) ?_
    exact hkk H locs I2 S2 J2 T2 fo2 fd ls hinv hP hD hS (lv_sub hl [2, 3, 4, 5, 6, 7] rfl)

set_option maxHeartbeats 4000000 in
set_option maxRecDepth 100000 in
theorem cs_34 {p : Program} {l : Launch} {e : Env} {s : State} {m : MethodId} {below : List Frame} {meth : Method} {c : Code} {b0 L : Nat} {xs : Nat → Int32} {D : va_G} {cy : Nat → ClassId} {ad bd : Nat → Nat} {ao aq : Nat} {fo : Nat → Int64} {fd : Nat → UInt64} {I J : AI} {S T : AS} {i cells slots : Nat} {H : Heap} {locs : List Loc} {Q : State → Prop} {ls : Array Slot} (C0 : LCx p l s m c b0 L xs D cy) (hI : Inv I S J T) (hi : i + 7 ≤ L) (hcc : cells + 8 ≤ 603072) (hss : slots + 48 ≤ 7202922) (hP : va_P D clW (wL cy ad I S ao aq fo fd bd J T) H) (hD : va_D (lcA s) (wL cy ad I S ao aq fo fd bd J T)) (hS : va_S (lcA s) s.heap H locs) (hl : lv_has ls 9 (lcL b0 ad bd ao aq i)) (hkk : LK p l e s m b0 below meth c D cy ad bd ao aq i (cells + 8) (slots + 48) Q) : W p l e room_1 s m #[Value.ref b0] below meth c H locs cells slots Q (F0 m 2688 ls []) := by
  obtain ⟨hx, hb, hml, hown, hts, hl0, hX, hbl, hL, hC, hK, hE, hZ⟩ := C0
  obtain ⟨en, k, n, h, len, sl, fr, to, o, c9, osl, ofr, oto, V⟩ := hI
  have hk8 : k ≤ 256 := Nat.le_trans V.k8 (by decide)
  have hci := V.civ
  have hA : ∀ q : Nat, s.heap.size ≤ q → lcA s q := fun q h => h
  have hbA : ¬ lcA s b0 := Nat.not_le.mpr hbl
  have hl : lv_has ls 9 [(0, .ref b0), (1, .ref (ad 0)), (2, .ref (bd 0)), (3, .ref ao), (4, .ref aq), (5, .int (nI i))] := hl
  refine lv_aload_n hx hb dL_law_2688 rfl (lv_at hl 1 rfl) ?_
  refine lv_aload_n hx hb dL_law_2689 rfl (lv_at hl 0 rfl) ?_
  refine lv_iload hx hb dL_law_2690 (lv_at hl 5 rfl) ?_
  refine lv_iconst (v := 1) hx hb dL_law_2692 (by decide) ?_
  refine lv_iadd hx hb dL_law_2693 ?_
  refine top_eq (y := nI (i + 1)) (nI_add i 1) ?_
  obtain ⟨a1, ha1⟩ : ∃ z : Int32, z = xs (i + 1) := ⟨_, rfl⟩
  refine va_sld hx hb hX hbl hbA hS (vp_in_nI (n := (i + 1)) (by omega) (by omega)) dL_law_2694 ?_
  refine top_eq (y := a1) (by rw [ha1, nI_clamp (by omega)]) ?_
  refine lv_aload_n hx hb dL_law_2695 rfl (lv_at hl 0 rfl) ?_
  refine lv_iload hx hb dL_law_2696 (lv_at hl 5 rfl) ?_
  refine lv_iconst (v := 2) hx hb dL_law_2698 (by decide) ?_
  refine lv_iadd hx hb dL_law_2699 ?_
  refine top_eq (y := nI (i + 2)) (nI_add i 2) ?_
  obtain ⟨a2, ha2⟩ : ∃ z : Int32, z = xs (i + 2) := ⟨_, rfl⟩
  refine va_sld hx hb hX hbl hbA hS (vp_in_nI (n := (i + 2)) (by omega) (by omega)) dL_law_2700 ?_
  refine top_eq (y := a2) (by rw [ha2, nI_clamp (by omega)]) ?_
  refine lv_aload_n hx hb dL_law_2701 rfl (lv_at hl 0 rfl) ?_
  refine lv_iload hx hb dL_law_2702 (lv_at hl 5 rfl) ?_
  refine lv_iconst (v := 3) hx hb dL_law_2704 (by decide) ?_
  refine lv_iadd hx hb dL_law_2705 ?_
  refine top_eq (y := nI (i + 3)) (nI_add i 3) ?_
  obtain ⟨a3, ha3⟩ : ∃ z : Int32, z = xs (i + 3) := ⟨_, rfl⟩
  refine va_sld hx hb hX hbl hbA hS (vp_in_nI (n := (i + 3)) (by omega) (by omega)) dL_law_2706 ?_
  refine top_eq (y := a3) (by rw [ha3, nI_clamp (by omega)]) ?_
  refine lv_aload_n hx hb dL_law_2707 rfl (lv_at hl 3 rfl) ?_
  have hPc : va_P D clW ([] ++ ((wC cy ad I S ++ oLD cy ao aq fo fd) ++ wM cy bd J T)) H := hP
  have hDc : va_D (lcA s) ([] ++ ((wC cy ad I S ++ oLD cy ao aq fo fd) ++ wM cy bd J T)) := hD
  refine bwI_call (vx_runSW (As := [.ref (ad 0), .int a1, .int a2, .int a3, .ref ao]) (rest := []) ⟨hx, hb, hml, hown, hts⟩ (c_L_versionCount l hl0 D cy ad I S H.size a1 a2 a3 k n h fr to ofr oto hci ao aq fo fd) (cws_L_259 hts rfl rfl ⟨Nat.le_of_ble_eq_true rfl, Nat.le_of_ble_eq_true rfl⟩) (preSL hC hK hE (hZ.now hS) (blkF hDc hS hA) (blkY hPc) (blkYD hDc)) rfl rfl hl.1 rfl (lv_room (Nat.le_of_ble_eq_true rfl)) dL_law_2708 ⟨(by show cells + 2 ≤ 603072; omega), (by show slots + 12 ≤ 7202922; omega)⟩) hPc hDc hS hA (fun _ => rfl) (fun r u H locs hr_ hP hD hS => ?_)
  obtain ⟨I2, S2, fo2⟩ := u
  obtain ⟨val, hc9, hs9, hv9⟩ := hr_
  dsimp only at hc9 hs9 hv9
  have hP : va_P D clW (wL cy ad I2 S2 ao aq fo2 fd bd J T) H := hP
  have hD : va_D (lcA s) (wL cy ad I2 S2 ao aq fo2 fd bd J T) := hD
  refine lv_istore (lv' := [(6, .int r), (0, .ref b0), (1, .ref (ad 0)), (2, .ref (bd 0)), (3, .ref ao), (4, .ref aq), (5, .int (nI i))]) hx hb dL_law_2711 hl (by decide) rfl (fun ls hl => ?_)
  refine lv_aload_n hx hb dL_law_2713 rfl (lv_at hl 3 rfl) ?_
  refine lv_aload_n hx hb dL_law_2714 rfl (lv_at hl 1 rfl) ?_
  refine lv_iload hx hb dL_law_2715 (lv_at hl 6 rfl) ?_
  refine lv_iconst (v := 1) hx hb dL_law_2717 (by decide) ?_
  refine lv_iadd hx hb dL_law_2718 ?_
  refine top_eq (y := nI (i + 1)) (nI_add i 1) ?_
  refine va_sld hx hb hX hbl hbA hS (vp_in_nI (n := (i + 1)) (by omega) (by omega)) dL_law_2719 ?_
  refine top_eq (y := a1) (by rw [ha1, nI_clamp (by omega)]) ?_
  refine lv_aload_n hx hb dL_law_2720 rfl (lv_at hl 1 rfl) ?_
  refine lv_iload hx hb dL_law_2721 (lv_at hl 6 rfl) ?_
  refine lv_iconst (v := 2) hx hb dL_law_2723 (by decide) ?_
  refine lv_iadd hx hb dL_law_2724 ?_
  refine top_eq (y := nI (i + 2)) (nI_add i 2) ?_
  refine va_sld hx hb hX hbl hbA hS (vp_in_nI (n := (i + 2)) (by omega) (by omega)) dL_law_2725 ?_
  refine top_eq (y := a2) (by rw [ha2, nI_clamp (by omega)]) ?_
  refine lv_aload_n hx hb dL_law_2726 rfl (lv_at hl 1 rfl) ?_
  refine lv_iload hx hb dL_law_2727 (lv_at hl 6 rfl) ?_
  refine lv_iconst (v := 3) hx hb dL_law_2729 (by decide) ?_
  refine lv_iadd hx hb dL_law_2730 ?_
  refine top_eq (y := nI (i + 3)) (nI_add i 3) ?_
  refine va_sld hx hb hX hbl hbA hS (vp_in_nI (n := (i + 3)) (by omega) (by omega)) dL_law_2731 ?_
  refine top_eq (y := a3) (by rw [ha3, nI_clamp (by omega)]) ?_
  have hPm : va_P D clW ((wC cy ad I2 S2 ++ oLD cy ao aq fo2 fd) ++ (wM cy bd J T ++ [])) H := hP
  have hDm : va_D (lcA s) ((wC cy ad I2 S2 ++ oLD cy ao aq fo2 fd) ++ (wM cy bd J T ++ [])) := hD
  refine bwI_call (va_runV (As := [.int a1, .int a2, .int a3]) (rest := []) ⟨hx, hb, hml, hown, hts⟩ (c_X7_versionCount l D cy bd J T H.size a1 a2 a3 k V.2.1.2.2.1 hk8 fr to V.mfr n V.2.1.2.1 V.2.2.1.2.1 h V.2.1.2.2.2.2.1 V.2.2.1.2.2.2.1) (cw_L_261 hts rfl rfl ⟨Nat.le_of_ble_eq_true rfl, Nat.le_of_ble_eq_true rfl⟩) (preVW (ci := 7) (q0 := 0) hK (blkY hPm) (blkYD hDm) rfl rfl) rfl rfl hl.1 rfl (lv_room (Nat.le_of_ble_eq_true rfl)) dL_law_2732 ⟨(by show cells + 2 + 0 ≤ 603072; omega), (by show slots + 12 + 0 ≤ 7202922; omega)⟩) hPm hDm hS hA (fun _ => rfl) (fun w u H locs hq hP hD hS => ?_)
  obtain ⟨J2, T2⟩ := u
  have hP : va_P D clW (wL cy ad I2 S2 ao aq fo2 fd bd J2 T2) H := hP
  have hD : va_D (lcA s) (wL cy ad I2 S2 ao aq fo2 fd bd J2 T2) := hD
  obtain ⟨hms, hm1, hm2⟩ := hq
  dsimp only at hms hm1 hm2
  have ha : J2 0 = r ∧ (r = 0 → val = w) := ans_versionCount V hc9 ⟨hm1, hm2⟩
  have hinv : Inv I2 S2 J2 T2 := (V.ask hs9 hms).inv
  refine lv_istore (lv' := [(7, .int w), (6, .int r), (0, .ref b0), (1, .ref (ad 0)), (2, .ref (bd 0)), (3, .ref ao), (4, .ref aq), (5, .int (nI i))]) hx hb dL_law_2735 hl (by decide) rfl (fun ls hl => ?_)
  refine lv_aload_n hx hb dL_law_2737 rfl (lv_at hl 4 rfl) ?_
  have hPm : va_P D clW ((wC cy ad I2 S2 ++ oLD cy ao aq fo2 fd) ++ (wM cy bd J2 T2 ++ [])) H := hP
  refine rI_call (va_runV (As := []) (rest := []) ⟨hx, hb, hml, hown, hts⟩ (c_X7_thrown l D cy bd J2 T2) (cw_L_146 hts rfl rfl ⟨Nat.le_of_ble_eq_true rfl, Nat.le_of_ble_eq_true rfl⟩) (preVR (ci := 7) (q0 := 0) hK (blkY hPm) rfl rfl) rfl rfl hl.1 rfl (lv_room (Nat.le_of_ble_eq_true rfl)) dL_law_2738 ⟨(by show cells + 2 + 0 + 0 ≤ 603072; omega), (by show slots + 12 + 0 + 0 ≤ 7202922; omega)⟩) (fun t9 ht9 => ?_)
  subst ht9
  refine lv_iload hx hb dL_law_2741 (lv_at hl 1 rfl) ?_
  refine lv_icmp_eq (tgt := 2748) hx hb dL_law_2743 (by decide) (fun _ => ?_) (fun c1 => absurd ha.1 c1)
  refine lv_iload hx hb dL_law_2748 (lv_at hl 1 rfl) ?_
  refine lv_if_ne (tgt := 2765) hx hb dL_law_2750 (by decide) (fun _ => ?_) (fun h0 => ?_)
  · refine lv_goto (tgt := 3200) hx hb dL_law_2765 (by decide) ?_
    refine W_wid (k := cells + 8) (n := slots + 48) (by omega) (by omega) ?_
    exact hkk H locs I2 S2 J2 T2 fo2 fd ls hinv hP hD hS (lv_sub hl [2, 3, 4, 5, 6, 7] rfl)
  · have h0 : r = 0 := by first | exact h0 | exact Decidable.not_not.mp h0
    have hw := ha.2 h0
    refine lv_aload_n hx hb dL_law_2753 rfl (lv_at hl 5 rfl) ?_
    refine lv_iconst (v := 0) hx hb dL_law_2754 (by decide) ?_
    refine va_lald hx hb hK hP 29 3 rfl rfl (i := 0) vp_in01 dL_law_2755 ?_
    refine top_eqL (y := val.toInt64) (hv9 h0) ?_
    refine lv_iload hx hb dL_law_2756 (lv_at hl 0 rfl) ?_
    refine lv_i2l (v := w.toInt64) hx hb dL_law_2758 rfl ?_
    refine lc_eq (tgt := 2765) hx hb dL_law_2759 dL_law_2760 (by decide) (fun _ => ?_) (fun c2 => absurd (by rw [hw]) c2)
    refine lv_goto (tgt := 3200) hx hb dL_law_2765 (by decide) ?_
    refine W_wid (k := cells + 8) (n := slots + 48) (by omega) (by omega) ?_
    exact hkk H locs I2 S2 J2 T2 fo2 fd ls hinv hP hD hS (lv_sub hl [2, 3, 4, 5, 6, 7] rfl)
