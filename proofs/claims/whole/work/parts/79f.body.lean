/-! the law's body: cases, 6 -/
set_option maxHeartbeats 4000000 in
set_option maxRecDepth 100000 in
theorem cs_35 {p : Program} {l : Launch} {e : Env} {s : State} {m : MethodId} {below : List Frame} {meth : Method} {c : Code} {b0 L : Nat} {xs : Nat → Int32} {D : va_G} {cy : Nat → ClassId} {ad bd : Nat → Nat} {ao aq : Nat} {fo : Nat → Int64} {fd : Nat → UInt64} {I J : AI} {S T : AS} {i cells slots : Nat} {H : Heap} {locs : List Loc} {Q : State → Prop} {ls : Array Slot} (C0 : LCx p l s m c b0 L xs D cy) (hI : Inv I S J T) (hi : i + 7 ≤ L) (hcc : cells + 8 ≤ 603072) (hss : slots + 48 ≤ 7202922) (hP : va_P D clW (wL cy ad I S ao aq fo fd bd J T) H) (hD : va_D (lcA s) (wL cy ad I S ao aq fo fd bd J T)) (hS : va_S (lcA s) s.heap H locs) (hl : lv_has ls 9 (lcL b0 ad bd ao aq i)) (hkk : LK p l e s m b0 below meth c D cy ad bd ao aq i (cells + 8) (slots + 48) Q) : W p l e room_1 s m #[Value.ref b0] below meth c H locs cells slots Q (F0 m 2768 ls []) := by
  obtain ⟨hx, hb, hml, hown, hts, hl0, hX, hbl, hL, hC, hK, hE, hZ⟩ := C0
  obtain ⟨en, k, n, h, len, sl, fr, to, o, c9, osl, ofr, oto, V⟩ := hI
  have hk8 : k ≤ 256 := Nat.le_trans V.k8 (by decide)
  have hci := V.civ
  have hA : ∀ q : Nat, s.heap.size ≤ q → lcA s q := fun q h => h
  have hbA : ¬ lcA s b0 := Nat.not_le.mpr hbl
  have hl : lv_has ls 9 [(0, .ref b0), (1, .ref (ad 0)), (2, .ref (bd 0)), (3, .ref ao), (4, .ref aq), (5, .int (nI i))] := hl
  refine lv_aload_n hx hb dL_law_2768 rfl (lv_at hl 1 rfl) ?_
  refine lv_aload_n hx hb dL_law_2769 rfl (lv_at hl 0 rfl) ?_
  refine lv_iload hx hb dL_law_2770 (lv_at hl 5 rfl) ?_
  refine lv_iconst (v := 1) hx hb dL_law_2772 (by decide) ?_
  refine lv_iadd hx hb dL_law_2773 ?_
  refine top_eq (y := nI (i + 1)) (nI_add i 1) ?_
  obtain ⟨a1, ha1⟩ : ∃ z : Int32, z = xs (i + 1) := ⟨_, rfl⟩
  refine va_sld hx hb hX hbl hbA hS (vp_in_nI (n := (i + 1)) (by omega) (by omega)) dL_law_2774 ?_
  refine top_eq (y := a1) (by rw [ha1, nI_clamp (by omega)]) ?_
  refine lv_aload_n hx hb dL_law_2775 rfl (lv_at hl 0 rfl) ?_
  refine lv_iload hx hb dL_law_2776 (lv_at hl 5 rfl) ?_
  refine lv_iconst (v := 2) hx hb dL_law_2778 (by decide) ?_
  refine lv_iadd hx hb dL_law_2779 ?_
  refine top_eq (y := nI (i + 2)) (nI_add i 2) ?_
  obtain ⟨a2, ha2⟩ : ∃ z : Int32, z = xs (i + 2) := ⟨_, rfl⟩
  refine va_sld hx hb hX hbl hbA hS (vp_in_nI (n := (i + 2)) (by omega) (by omega)) dL_law_2780 ?_
  refine top_eq (y := a2) (by rw [ha2, nI_clamp (by omega)]) ?_
  refine lv_aload_n hx hb dL_law_2781 rfl (lv_at hl 0 rfl) ?_
  refine lv_iload hx hb dL_law_2782 (lv_at hl 5 rfl) ?_
  refine lv_iconst (v := 3) hx hb dL_law_2784 (by decide) ?_
  refine lv_iadd hx hb dL_law_2785 ?_
  refine top_eq (y := nI (i + 3)) (nI_add i 3) ?_
  obtain ⟨a3, ha3⟩ : ∃ z : Int32, z = xs (i + 3) := ⟨_, rfl⟩
  refine va_sld hx hb hX hbl hbA hS (vp_in_nI (n := (i + 3)) (by omega) (by omega)) dL_law_2786 ?_
  refine top_eq (y := a3) (by rw [ha3, nI_clamp (by omega)]) ?_
  refine lv_aload_n hx hb dL_law_2787 rfl (lv_at hl 0 rfl) ?_
  refine lv_iload hx hb dL_law_2788 (lv_at hl 5 rfl) ?_
  refine lv_iconst (v := 4) hx hb dL_law_2790 (by decide) ?_
  refine lv_iadd hx hb dL_law_2791 ?_
  refine top_eq (y := nI (i + 4)) (nI_add i 4) ?_
  obtain ⟨a4, ha4⟩ : ∃ z : Int32, z = xs (i + 4) := ⟨_, rfl⟩
  refine va_sld hx hb hX hbl hbA hS (vp_in_nI (n := (i + 4)) (by omega) (by omega)) dL_law_2792 ?_
  refine top_eq (y := a4) (by rw [ha4, nI_clamp (by omega)]) ?_
  refine lv_aload_n hx hb dL_law_2793 rfl (lv_at hl 3 rfl) ?_
  have hPc : va_P D clW ([] ++ ((wC cy ad I S ++ oLD cy ao aq fo fd) ++ wM cy bd J T)) H := hP
  have hDc : va_D (lcA s) ([] ++ ((wC cy ad I S ++ oLD cy ao aq fo fd) ++ wM cy bd J T)) := hD
  refine bwI_call (vx_runSW (As := [.ref (ad 0), .int a1, .int a2, .int a3, .int a4, .ref ao]) (rest := []) ⟨hx, hb, hml, hown, hts⟩ (c_L_versionTick l hl0 D cy ad I S H.size a1 a2 a3 a4 k n h fr to ofr oto hci ao aq fo fd) (cws_L_262 hts rfl rfl ⟨Nat.le_of_ble_eq_true rfl, Nat.le_of_ble_eq_true rfl⟩) (preSL hC hK hE (hZ.now hS) (blkF hDc hS hA) (blkY hPc) (blkYD hDc)) rfl rfl hl.1 rfl (lv_room (Nat.le_of_ble_eq_true rfl)) dL_law_2794 ⟨(by show cells + 3 ≤ 603072; omega), (by show slots + 18 ≤ 7202922; omega)⟩) hPc hDc hS hA (fun _ => rfl) (fun r u H locs hr_ hP hD hS => ?_)
  obtain ⟨I2, S2, fo2⟩ := u
  obtain ⟨val, hc9, hs9, hv9⟩ := hr_
  dsimp only at hc9 hs9 hv9
  have hP : va_P D clW (wL cy ad I2 S2 ao aq fo2 fd bd J T) H := hP
  have hD : va_D (lcA s) (wL cy ad I2 S2 ao aq fo2 fd bd J T) := hD
  refine lv_istore (lv' := [(6, .int r), (0, .ref b0), (1, .ref (ad 0)), (2, .ref (bd 0)), (3, .ref ao), (4, .ref aq), (5, .int (nI i))]) hx hb dL_law_2797 hl (by decide) rfl (fun ls hl => ?_)
  refine lv_aload_n hx hb dL_law_2799 rfl (lv_at hl 3 rfl) ?_
  refine lv_aload_n hx hb dL_law_2800 rfl (lv_at hl 1 rfl) ?_
  refine lv_iload hx hb dL_law_2801 (lv_at hl 6 rfl) ?_
  refine lv_iconst (v := 1) hx hb dL_law_2803 (by decide) ?_
  refine lv_iadd hx hb dL_law_2804 ?_
  refine top_eq (y := nI (i + 1)) (nI_add i 1) ?_
  refine va_sld hx hb hX hbl hbA hS (vp_in_nI (n := (i + 1)) (by omega) (by omega)) dL_law_2805 ?_
  refine top_eq (y := a1) (by rw [ha1, nI_clamp (by omega)]) ?_
  refine lv_aload_n hx hb dL_law_2806 rfl (lv_at hl 1 rfl) ?_
  refine lv_iload hx hb dL_law_2807 (lv_at hl 6 rfl) ?_
  refine lv_iconst (v := 2) hx hb dL_law_2809 (by decide) ?_
  refine lv_iadd hx hb dL_law_2810 ?_
  refine top_eq (y := nI (i + 2)) (nI_add i 2) ?_
  refine va_sld hx hb hX hbl hbA hS (vp_in_nI (n := (i + 2)) (by omega) (by omega)) dL_law_2811 ?_
  refine top_eq (y := a2) (by rw [ha2, nI_clamp (by omega)]) ?_
  refine lv_aload_n hx hb dL_law_2812 rfl (lv_at hl 1 rfl) ?_
  refine lv_iload hx hb dL_law_2813 (lv_at hl 6 rfl) ?_
  refine lv_iconst (v := 3) hx hb dL_law_2815 (by decide) ?_
  refine lv_iadd hx hb dL_law_2816 ?_
  refine top_eq (y := nI (i + 3)) (nI_add i 3) ?_
  refine va_sld hx hb hX hbl hbA hS (vp_in_nI (n := (i + 3)) (by omega) (by omega)) dL_law_2817 ?_
  refine top_eq (y := a3) (by rw [ha3, nI_clamp (by omega)]) ?_
  refine lv_aload_n hx hb dL_law_2818 rfl (lv_at hl 1 rfl) ?_
  refine lv_iload hx hb dL_law_2819 (lv_at hl 6 rfl) ?_
  refine lv_iconst (v := 4) hx hb dL_law_2821 (by decide) ?_
  refine lv_iadd hx hb dL_law_2822 ?_
  refine top_eq (y := nI (i + 4)) (nI_add i 4) ?_
  refine va_sld hx hb hX hbl hbA hS (vp_in_nI (n := (i + 4)) (by omega) (by omega)) dL_law_2823 ?_
  refine top_eq (y := a4) (by rw [ha4, nI_clamp (by omega)]) ?_
  have hPm : va_P D clW ((wC cy ad I2 S2 ++ oLD cy ao aq fo2 fd) ++ (wM cy bd J T ++ [])) H := hP
  have hDm : va_D (lcA s) ((wC cy ad I2 S2 ++ oLD cy ao aq fo2 fd) ++ (wM cy bd J T ++ [])) := hD
  refine bwI_call (va_runV (As := [.int a1, .int a2, .int a3, .int a4]) (rest := []) ⟨hx, hb, hml, hown, hts⟩ (c_X7_versionTick l D cy bd J T H.size a1 a2 a3 a4 k V.2.1.2.2.1 hk8 fr to V.mfr n V.2.1.2.1 V.2.2.1.2.1 h V.2.1.2.2.2.2.1 V.2.2.1.2.2.2.1) (cw_L_264 hts rfl rfl ⟨Nat.le_of_ble_eq_true rfl, Nat.le_of_ble_eq_true rfl⟩) (preVW (ci := 7) (q0 := 0) hK (blkY hPm) (blkYD hDm) rfl rfl) rfl rfl hl.1 rfl (lv_room (Nat.le_of_ble_eq_true rfl)) dL_law_2824 ⟨(by show cells + 3 + 0 ≤ 603072; omega), (by show slots + 18 + 0 ≤ 7202922; omega)⟩) hPm hDm hS hA (fun _ => rfl) (fun w u H locs hq hP hD hS => ?_)
  obtain ⟨J2, T2⟩ := u
  have hP : va_P D clW (wL cy ad I2 S2 ao aq fo2 fd bd J2 T2) H := hP
  have hD : va_D (lcA s) (wL cy ad I2 S2 ao aq fo2 fd bd J2 T2) := hD
  obtain ⟨hms, hm1, hm2⟩ := hq
  dsimp only at hms hm1 hm2
  have ha : J2 0 = r ∧ (r = 0 → val = w) := ans_versionI V (f := (vqS S (slI a1 a2) a3 k h n).2.1) (g := fun dd => (vmQ T (slM a1 a2) fr to k dd h n).2.1) V.vtick hc9 ⟨hm1, hm2⟩
  have hinv : Inv I2 S2 J2 T2 := (V.ask hs9 hms).inv
  refine lv_istore (lv' := [(7, .int w), (6, .int r), (0, .ref b0), (1, .ref (ad 0)), (2, .ref (bd 0)), (3, .ref ao), (4, .ref aq), (5, .int (nI i))]) hx hb dL_law_2827 hl (by decide) rfl (fun ls hl => ?_)
  refine lv_aload_n hx hb dL_law_2829 rfl (lv_at hl 4 rfl) ?_
  have hPm : va_P D clW ((wC cy ad I2 S2 ++ oLD cy ao aq fo2 fd) ++ (wM cy bd J2 T2 ++ [])) H := hP
  refine rI_call (va_runV (As := []) (rest := []) ⟨hx, hb, hml, hown, hts⟩ (c_X7_thrown l D cy bd J2 T2) (cw_L_146 hts rfl rfl ⟨Nat.le_of_ble_eq_true rfl, Nat.le_of_ble_eq_true rfl⟩) (preVR (ci := 7) (q0 := 0) hK (blkY hPm) rfl rfl) rfl rfl hl.1 rfl (lv_room (Nat.le_of_ble_eq_true rfl)) dL_law_2830 ⟨(by show cells + 3 + 0 + 0 ≤ 603072; omega), (by show slots + 18 + 0 + 0 ≤ 7202922; omega)⟩) (fun t9 ht9 => ?_)
  subst ht9
  refine lv_iload hx hb dL_law_2833 (lv_at hl 1 rfl) ?_
  refine lv_icmp_eq (tgt := 2840) hx hb dL_law_2835 (by decide) (fun _ => ?_) (fun c1 => absurd ha.1 c1)
  refine lv_iload hx hb dL_law_2840 (lv_at hl 1 rfl) ?_
  refine lv_if_ne (tgt := 2857) hx hb dL_law_2842 (by decide) (fun _ => ?_) (fun h0 => ?_)
  · refine lv_goto (tgt := 3200) hx hb dL_law_2857 (by decide) ?_
    refine W_wid (k := cells + 8) (n := slots + 48) (by omega) (by omega) ?_
    exact hkk H locs I2 S2 J2 T2 fo2 fd ls hinv hP hD hS (lv_sub hl [2, 3, 4, 5, 6, 7] rfl)
  · have h0 : r = 0 := by first | exact h0 | exact Decidable.not_not.mp h0
    have hw := ha.2 h0
    refine lv_aload_n hx hb dL_law_2845 rfl (lv_at hl 5 rfl) ?_
    refine lv_iconst (v := 0) hx hb dL_law_2846 (by decide) ?_
    refine va_lald hx hb hK hP 29 3 rfl rfl (i := 0) vp_in01 dL_law_2847 ?_
    refine top_eqL (y := val.toInt64) (hv9 h0) ?_
    refine lv_iload hx hb dL_law_2848 (lv_at hl 0 rfl) ?_
    refine lv_i2l (v := w.toInt64) hx hb dL_law_2850 rfl ?_
    refine lc_eq (tgt := 2857) hx hb dL_law_2851 dL_law_2852 (by decide) (fun _ => ?_) (fun c2 => absurd (by rw [hw]) c2)
    refine lv_goto (tgt := 3200) hx hb dL_law_2857 (by decide) ?_
    refine W_wid (k := cells + 8) (n := slots + 48) (by omega) (by omega) ?_
    exact hkk H locs I2 S2 J2 T2 fo2 fd ls hinv hP hD hS (lv_sub hl [2, 3, 4, 5, 6, 7] rfl)

set_option maxHeartbeats 4000000 in
set_option maxRecDepth 100000 in
theorem cs_36 {p : Program} {l : Launch} {e : Env} {s : State} {m : MethodId} {below : List Frame} {meth : Method} {c : Code} {b0 L : Nat} {xs : Nat → Int32} {D : va_G} {cy : Nat → ClassId} {ad bd : Nat → Nat} {ao aq : Nat} {fo : Nat → Int64} {fd : Nat → UInt64} {I J : AI} {S T : AS} {i cells slots : Nat} {H : Heap} {locs : List Loc} {Q : State → Prop} {ls : Array Slot} (C0 : LCx p l s m c b0 L xs D cy) (hI : Inv I S J T) (hi : i + 7 ≤ L) (hcc : cells + 8 ≤ 603072) (hss : slots + 48 ≤ 7202922) (hP : va_P D clW (wL cy ad I S ao aq fo fd bd J T) H) (hD : va_D (lcA s) (wL cy ad I S ao aq fo fd bd J T)) (hS : va_S (lcA s) s.heap H locs) (hl : lv_has ls 9 (lcL b0 ad bd ao aq i)) (hkk : LK p l e s m b0 below meth c D cy ad bd ao aq i (cells + 8) (slots + 48) Q) : W p l e room_1 s m #[Value.ref b0] below meth c H locs cells slots Q (F0 m 2860 ls []) := by
  obtain ⟨hx, hb, hml, hown, hts, hl0, hX, hbl, hL, hC, hK, hE, hZ⟩ := C0
  obtain ⟨en, k, n, h, len, sl, fr, to, o, c9, osl, ofr, oto, V⟩ := hI
  have hk8 : k ≤ 256 := Nat.le_trans V.k8 (by decide)
  have hci := V.civ
  have hA : ∀ q : Nat, s.heap.size ≤ q → lcA s q := fun q h => h
  have hbA : ¬ lcA s b0 := Nat.not_le.mpr hbl
  have hl : lv_has ls 9 [(0, .ref b0), (1, .ref (ad 0)), (2, .ref (bd 0)), (3, .ref ao), (4, .ref aq), (5, .int (nI i))] := hl
  refine lv_aload_n hx hb dL_law_2860 rfl (lv_at hl 1 rfl) ?_
  refine lv_aload_n hx hb dL_law_2861 rfl (lv_at hl 0 rfl) ?_
  refine lv_iload hx hb dL_law_2862 (lv_at hl 5 rfl) ?_
  refine lv_iconst (v := 1) hx hb dL_law_2864 (by decide) ?_
  refine lv_iadd hx hb dL_law_2865 ?_
  refine top_eq (y := nI (i + 1)) (nI_add i 1) ?_
  obtain ⟨a1, ha1⟩ : ∃ z : Int32, z = xs (i + 1) := ⟨_, rfl⟩
  refine va_sld hx hb hX hbl hbA hS (vp_in_nI (n := (i + 1)) (by omega) (by omega)) dL_law_2866 ?_
  refine top_eq (y := a1) (by rw [ha1, nI_clamp (by omega)]) ?_
  refine lv_aload_n hx hb dL_law_2867 rfl (lv_at hl 0 rfl) ?_
  refine lv_iload hx hb dL_law_2868 (lv_at hl 5 rfl) ?_
  refine lv_iconst (v := 2) hx hb dL_law_2870 (by decide) ?_
  refine lv_iadd hx hb dL_law_2871 ?_
  refine top_eq (y := nI (i + 2)) (nI_add i 2) ?_
  obtain ⟨a2, ha2⟩ : ∃ z : Int32, z = xs (i + 2) := ⟨_, rfl⟩
  refine va_sld hx hb hX hbl hbA hS (vp_in_nI (n := (i + 2)) (by omega) (by omega)) dL_law_2872 ?_
  refine top_eq (y := a2) (by rw [ha2, nI_clamp (by omega)]) ?_
  refine lv_aload_n hx hb dL_law_2873 rfl (lv_at hl 0 rfl) ?_
  refine lv_iload hx hb dL_law_2874 (lv_at hl 5 rfl) ?_
  refine lv_iconst (v := 3) hx hb dL_law_2876 (by decide) ?_
  refine lv_iadd hx hb dL_law_2877 ?_
  refine top_eq (y := nI (i + 3)) (nI_add i 3) ?_
  obtain ⟨a3, ha3⟩ : ∃ z : Int32, z = xs (i + 3) := ⟨_, rfl⟩
  refine va_sld hx hb hX hbl hbA hS (vp_in_nI (n := (i + 3)) (by omega) (by omega)) dL_law_2878 ?_
  refine top_eq (y := a3) (by rw [ha3, nI_clamp (by omega)]) ?_
  refine lv_aload_n hx hb dL_law_2879 rfl (lv_at hl 0 rfl) ?_
  refine lv_iload hx hb dL_law_2880 (lv_at hl 5 rfl) ?_
  refine lv_iconst (v := 4) hx hb dL_law_2882 (by decide) ?_
  refine lv_iadd hx hb dL_law_2883 ?_
  refine top_eq (y := nI (i + 4)) (nI_add i 4) ?_
  obtain ⟨a4, ha4⟩ : ∃ z : Int32, z = xs (i + 4) := ⟨_, rfl⟩
  refine va_sld hx hb hX hbl hbA hS (vp_in_nI (n := (i + 4)) (by omega) (by omega)) dL_law_2884 ?_
  refine top_eq (y := a4) (by rw [ha4, nI_clamp (by omega)]) ?_
  refine lv_aload_n hx hb dL_law_2885 rfl (lv_at hl 3 rfl) ?_
  have hPc : va_P D clW ([] ++ ((wC cy ad I S ++ oLD cy ao aq fo fd) ++ wM cy bd J T)) H := hP
  have hDc : va_D (lcA s) ([] ++ ((wC cy ad I S ++ oLD cy ao aq fo fd) ++ wM cy bd J T)) := hD
  refine bwI_call (vx_runSW (As := [.ref (ad 0), .int a1, .int a2, .int a3, .int a4, .ref ao]) (rest := []) ⟨hx, hb, hml, hown, hts⟩ (c_L_isVersionKnown l hl0 D cy ad I S H.size a1 a2 a3 a4 k n h fr to ofr oto hci ao aq fo fd) (cws_L_265 hts rfl rfl ⟨Nat.le_of_ble_eq_true rfl, Nat.le_of_ble_eq_true rfl⟩) (preSL hC hK hE (hZ.now hS) (blkF hDc hS hA) (blkY hPc) (blkYD hDc)) rfl rfl hl.1 rfl (lv_room (Nat.le_of_ble_eq_true rfl)) dL_law_2886 ⟨(by show cells + 3 ≤ 603072; omega), (by show slots + 18 ≤ 7202922; omega)⟩) hPc hDc hS hA (fun _ => rfl) (fun r u H locs hr_ hP hD hS => ?_)
  obtain ⟨I2, S2, fo2⟩ := u
  obtain ⟨val, hc9, hs9, hv9⟩ := hr_
  dsimp only at hc9 hs9 hv9
  have hP : va_P D clW (wL cy ad I2 S2 ao aq fo2 fd bd J T) H := hP
  have hD : va_D (lcA s) (wL cy ad I2 S2 ao aq fo2 fd bd J T) := hD
  refine lv_istore (lv' := [(6, .int r), (0, .ref b0), (1, .ref (ad 0)), (2, .ref (bd 0)), (3, .ref ao), (4, .ref aq), (5, .int (nI i))]) hx hb dL_law_2889 hl (by decide) rfl (fun ls hl => ?_)
  refine lv_aload_n hx hb dL_law_2891 rfl (lv_at hl 3 rfl) ?_
  refine lv_aload_n hx hb dL_law_2892 rfl (lv_at hl 1 rfl) ?_
  refine lv_iload hx hb dL_law_2893 (lv_at hl 6 rfl) ?_
  refine lv_iconst (v := 1) hx hb dL_law_2895 (by decide) ?_
  refine lv_iadd hx hb dL_law_2896 ?_
  refine top_eq (y := nI (i + 1)) (nI_add i 1) ?_
  refine va_sld hx hb hX hbl hbA hS (vp_in_nI (n := (i + 1)) (by omega) (by omega)) dL_law_2897 ?_
  refine top_eq (y := a1) (by rw [ha1, nI_clamp (by omega)]) ?_
  refine lv_aload_n hx hb dL_law_2898 rfl (lv_at hl 1 rfl) ?_
  refine lv_iload hx hb dL_law_2899 (lv_at hl 6 rfl) ?_
  refine lv_iconst (v := 2) hx hb dL_law_2901 (by decide) ?_
  refine lv_iadd hx hb dL_law_2902 ?_
  refine top_eq (y := nI (i + 2)) (nI_add i 2) ?_
  refine va_sld hx hb hX hbl hbA hS (vp_in_nI (n := (i + 2)) (by omega) (by omega)) dL_law_2903 ?_
  refine top_eq (y := a2) (by rw [ha2, nI_clamp (by omega)]) ?_
  refine lv_aload_n hx hb dL_law_2904 rfl (lv_at hl 1 rfl) ?_
  refine lv_iload hx hb dL_law_2905 (lv_at hl 6 rfl) ?_
  refine lv_iconst (v := 3) hx hb dL_law_2907 (by decide) ?_
  refine lv_iadd hx hb dL_law_2908 ?_
  refine top_eq (y := nI (i + 3)) (nI_add i 3) ?_
  refine va_sld hx hb hX hbl hbA hS (vp_in_nI (n := (i + 3)) (by omega) (by omega)) dL_law_2909 ?_
  refine top_eq (y := a3) (by rw [ha3, nI_clamp (by omega)]) ?_
  refine lv_aload_n hx hb dL_law_2910 rfl (lv_at hl 1 rfl) ?_
  refine lv_iload hx hb dL_law_2911 (lv_at hl 6 rfl) ?_
  refine lv_iconst (v := 4) hx hb dL_law_2913 (by decide) ?_
  refine lv_iadd hx hb dL_law_2914 ?_
  refine top_eq (y := nI (i + 4)) (nI_add i 4) ?_
  refine va_sld hx hb hX hbl hbA hS (vp_in_nI (n := (i + 4)) (by omega) (by omega)) dL_law_2915 ?_
  refine top_eq (y := a4) (by rw [ha4, nI_clamp (by omega)]) ?_
  have hPm : va_P D clW ((wC cy ad I2 S2 ++ oLD cy ao aq fo2 fd) ++ (wM cy bd J T ++ [])) H := hP
  have hDm : va_D (lcA s) ((wC cy ad I2 S2 ++ oLD cy ao aq fo2 fd) ++ (wM cy bd J T ++ [])) := hD
  refine bwI_call (va_runV (As := [.int a1, .int a2, .int a3, .int a4]) (rest := []) ⟨hx, hb, hml, hown, hts⟩ (c_X7_isVersionKnown l D cy bd J T H.size a1 a2 a3 a4 k V.2.1.2.2.1 hk8 fr to V.mfr n V.2.1.2.1 V.2.2.1.2.1 h V.2.1.2.2.2.2.1 V.2.2.1.2.2.2.1) (cw_L_267 hts rfl rfl ⟨Nat.le_of_ble_eq_true rfl, Nat.le_of_ble_eq_true rfl⟩) (preVW (ci := 7) (q0 := 0) hK (blkY hPm) (blkYD hDm) rfl rfl) rfl rfl hl.1 rfl (lv_room (Nat.le_of_ble_eq_true rfl)) dL_law_2916 ⟨(by show cells + 3 + 0 ≤ 603072; omega), (by show slots + 18 + 0 ≤ 7202922; omega)⟩) hPm hDm hS hA (fun _ => rfl) (fun w u H locs hq hP hD hS => ?_)
  obtain ⟨J2, T2⟩ := u
  have hP : va_P D clW (wL cy ad I2 S2 ao aq fo2 fd bd J2 T2) H := hP
  have hD : va_D (lcA s) (wL cy ad I2 S2 ao aq fo2 fd bd J2 T2) := hD
  obtain ⟨hms, hm1, hm2⟩ := hq
  dsimp only at hms hm1 hm2
  have ha : J2 0 = r ∧ (r = 0 → val = w) := ans_versionI V (f := fun j => if ¬ (vqS S (slI a1 a2) a3 k h n).2.2.1 j = 0 then (1 : Int32) else 0) (g := fun dd j => if (vmQ T (slM a1 a2) fr to k dd h n).2.2 j = -1 then 0 else 1) V.vkn hc9 ⟨hm1, hm2⟩
  have hinv : Inv I2 S2 J2 T2 := (V.ask hs9 hms).inv
  have hb9 : r = 0 → val = 0 ∨ val = 1 := by
    intro h0
    rcases hc9 with ⟨-, q, -⟩ | ⟨q, -⟩ | ⟨q, -⟩ | ⟨q, -⟩
    · split at q
      · exact Or.inr q
      · exact Or.inl q
    all_goals (rw [h0] at q; exact absurd q (by decide))
  refine lv_istore (lv' := [(7, .int w), (6, .int r), (0, .ref b0), (1, .ref (ad 0)), (2, .ref (bd 0)), (3, .ref ao), (4, .ref aq), (5, .int (nI i))]) hx hb dL_law_2919 hl (by decide) rfl (fun ls hl => ?_)
  refine lv_aload_n hx hb dL_law_2921 rfl (lv_at hl 4 rfl) ?_
  have hPm : va_P D clW ((wC cy ad I2 S2 ++ oLD cy ao aq fo2 fd) ++ (wM cy bd J2 T2 ++ [])) H := hP
  refine rI_call (va_runV (As := []) (rest := []) ⟨hx, hb, hml, hown, hts⟩ (c_X7_thrown l D cy bd J2 T2) (cw_L_146 hts rfl rfl ⟨Nat.le_of_ble_eq_true rfl, Nat.le_of_ble_eq_true rfl⟩) (preVR (ci := 7) (q0 := 0) hK (blkY hPm) rfl rfl) rfl rfl hl.1 rfl (lv_room (Nat.le_of_ble_eq_true rfl)) dL_law_2922 ⟨(by show cells + 3 + 0 + 0 ≤ 603072; omega), (by show slots + 18 + 0 + 0 ≤ 7202922; omega)⟩) (fun t9 ht9 => ?_)
  subst ht9
  refine lv_iload hx hb dL_law_2925 (lv_at hl 1 rfl) ?_
  refine lv_icmp_eq (tgt := 2932) hx hb dL_law_2927 (by decide) (fun _ => ?_) (fun c1 => absurd ha.1 c1)
  refine lv_iload hx hb dL_law_2932 (lv_at hl 1 rfl) ?_
  refine lv_if_ne (tgt := 2956) hx hb dL_law_2934 (by decide) (fun _ => ?_) (fun h0 => ?_)
  · refine lv_goto (tgt := 3200) hx hb dL_law_2956 (by decide) ?_
    refine W_wid (k := cells + 8) (n := slots + 48) (by omega) (by omega) ?_
    exact hkk H locs I2 S2 J2 T2 fo2 fd ls hinv hP hD hS (lv_sub hl [2, 3, 4, 5, 6, 7] rfl)
  · have h0 : r = 0 := by first | exact h0 | exact Decidable.not_not.mp h0
    have hw := ha.2 h0
    refine lv_aload_n hx hb dL_law_2937 rfl (lv_at hl 5 rfl) ?_
    refine lv_iconst (v := 0) hx hb dL_law_2938 (by decide) ?_
    refine va_lald hx hb hK hP 29 3 rfl rfl (i := 0) vp_in01 dL_law_2939 ?_
    refine top_eqL (y := val.toInt64) (hv9 h0) ?_
    refine lv_iload hx hb dL_law_2940 (lv_at hl 0 rfl) ?_
    refine lv_if_eq (tgt := 2949) hx hb dL_law_2942 (by decide) (fun c3 => ?_) (fun c3 => ?_)
    · refine lv_lconst (v := 0) hx hb dL_law_2949 (by decide) ?_
      refine lc_eq (tgt := 2956) hx hb dL_law_2950 dL_law_2951 (by decide) (fun _ => ?_) (fun c2 => absurd (by rw [hw, c3]; rfl) c2)
      refine lv_goto (tgt := 3200) hx hb dL_law_2956 (by decide) ?_
      refine W_wid (k := cells + 8) (n := slots + 48) (by omega) (by omega) ?_
      exact hkk H locs I2 S2 J2 T2 fo2 fd ls hinv hP hD hS (lv_sub hl [2, 3, 4, 5, 6, 7] rfl)
    · refine lv_lconst (v := 1) hx hb dL_law_2945 (by decide) ?_
      refine lv_goto (tgt := 2950) hx hb dL_law_2946 (by decide) ?_
      refine lc_eq (tgt := 2956) hx hb dL_law_2950 dL_law_2951 (by decide) (fun _ => ?_) (fun c2 => absurd (by rw [(hb9 h0).resolve_left (fun z => c3 (hw.symm.trans z))]; rfl) c2)
      refine lv_goto (tgt := 3200) hx hb dL_law_2956 (by decide) ?_
      refine W_wid (k := cells + 8) (n := slots + 48) (by omega) (by omega) ?_
      exact hkk H locs I2 S2 J2 T2 fo2 fd ls hinv hP hD hS (lv_sub hl [2, 3, 4, 5, 6, 7] rfl)

set_option maxHeartbeats 4000000 in
set_option maxRecDepth 100000 in
theorem cs_37 {p : Program} {l : Launch} {e : Env} {s : State} {m : MethodId} {below : List Frame} {meth : Method} {c : Code} {b0 L : Nat} {xs : Nat → Int32} {D : va_G} {cy : Nat → ClassId} {ad bd : Nat → Nat} {ao aq : Nat} {fo : Nat → Int64} {fd : Nat → UInt64} {I J : AI} {S T : AS} {i cells slots : Nat} {H : Heap} {locs : List Loc} {Q : State → Prop} {ls : Array Slot} (C0 : LCx p l s m c b0 L xs D cy) (hI : Inv I S J T) (hi : i + 7 ≤ L) (hcc : cells + 8 ≤ 603072) (hss : slots + 48 ≤ 7202922) (hP : va_P D clW (wL cy ad I S ao aq fo fd bd J T) H) (hD : va_D (lcA s) (wL cy ad I S ao aq fo fd bd J T)) (hS : va_S (lcA s) s.heap H locs) (hl : lv_has ls 9 (lcL b0 ad bd ao aq i)) (hkk : LK p l e s m b0 below meth c D cy ad bd ao aq i (cells + 8) (slots + 48) Q) : W p l e room_1 s m #[Value.ref b0] below meth c H locs cells slots Q (F0 m 2959 ls []) := by
  obtain ⟨hx, hb, hml, hown, hts, hl0, hX, hbl, hL, hC, hK, hE, hZ⟩ := C0
  obtain ⟨en, k, n, h, len, sl, fr, to, o, c9, osl, ofr, oto, V⟩ := hI
  have hk8 : k ≤ 256 := Nat.le_trans V.k8 (by decide)
  have hci := V.civ
  have hA : ∀ q : Nat, s.heap.size ≤ q → lcA s q := fun q h => h
  have hbA : ¬ lcA s b0 := Nat.not_le.mpr hbl
  have hl : lv_has ls 9 [(0, .ref b0), (1, .ref (ad 0)), (2, .ref (bd 0)), (3, .ref ao), (4, .ref aq), (5, .int (nI i))] := hl
  refine lv_aload_n hx hb dL_law_2959 rfl (lv_at hl 1 rfl) ?_
  refine lv_aload_n hx hb dL_law_2960 rfl (lv_at hl 0 rfl) ?_
  refine lv_iload hx hb dL_law_2961 (lv_at hl 5 rfl) ?_
  refine lv_iconst (v := 1) hx hb dL_law_2963 (by decide) ?_
  refine lv_iadd hx hb dL_law_2964 ?_
  refine top_eq (y := nI (i + 1)) (nI_add i 1) ?_
  obtain ⟨a1, ha1⟩ : ∃ z : Int32, z = xs (i + 1) := ⟨_, rfl⟩
  refine va_sld hx hb hX hbl hbA hS (vp_in_nI (n := (i + 1)) (by omega) (by omega)) dL_law_2965 ?_
  refine top_eq (y := a1) (by rw [ha1, nI_clamp (by omega)]) ?_
  refine lv_aload_n hx hb dL_law_2966 rfl (lv_at hl 0 rfl) ?_
  refine lv_iload hx hb dL_law_2967 (lv_at hl 5 rfl) ?_
  refine lv_iconst (v := 2) hx hb dL_law_2969 (by decide) ?_
  refine lv_iadd hx hb dL_law_2970 ?_
  refine top_eq (y := nI (i + 2)) (nI_add i 2) ?_
  obtain ⟨a2, ha2⟩ : ∃ z : Int32, z = xs (i + 2) := ⟨_, rfl⟩
  refine va_sld hx hb hX hbl hbA hS (vp_in_nI (n := (i + 2)) (by omega) (by omega)) dL_law_2971 ?_
  refine top_eq (y := a2) (by rw [ha2, nI_clamp (by omega)]) ?_
  refine lv_aload_n hx hb dL_law_2972 rfl (lv_at hl 0 rfl) ?_
  refine lv_iload hx hb dL_law_2973 (lv_at hl 5 rfl) ?_
  refine lv_iconst (v := 3) hx hb dL_law_2975 (by decide) ?_
  refine lv_iadd hx hb dL_law_2976 ?_
  refine top_eq (y := nI (i + 3)) (nI_add i 3) ?_
  obtain ⟨a3, ha3⟩ : ∃ z : Int32, z = xs (i + 3) := ⟨_, rfl⟩
  refine va_sld hx hb hX hbl hbA hS (vp_in_nI (n := (i + 3)) (by omega) (by omega)) dL_law_2977 ?_
  refine top_eq (y := a3) (by rw [ha3, nI_clamp (by omega)]) ?_
  refine lv_aload_n hx hb dL_law_2978 rfl (lv_at hl 0 rfl) ?_
  refine lv_iload hx hb dL_law_2979 (lv_at hl 5 rfl) ?_
  refine lv_iconst (v := 4) hx hb dL_law_2981 (by decide) ?_
  refine lv_iadd hx hb dL_law_2982 ?_
  refine top_eq (y := nI (i + 4)) (nI_add i 4) ?_
  obtain ⟨a4, ha4⟩ : ∃ z : Int32, z = xs (i + 4) := ⟨_, rfl⟩
  refine va_sld hx hb hX hbl hbA hS (vp_in_nI (n := (i + 4)) (by omega) (by omega)) dL_law_2983 ?_
  refine top_eq (y := a4) (by rw [ha4, nI_clamp (by omega)]) ?_
  refine lv_aload_n hx hb dL_law_2984 rfl (lv_at hl 3 rfl) ?_
  have hPc : va_P D clW ([] ++ ((wC cy ad I S ++ oLD cy ao aq fo fd) ++ wM cy bd J T)) H := hP
  have hDc : va_D (lcA s) ([] ++ ((wC cy ad I S ++ oLD cy ao aq fo fd) ++ wM cy bd J T)) := hD
  refine bwI_call (vx_runSW (As := [.ref (ad 0), .int a1, .int a2, .int a3, .int a4, .ref ao]) (rest := []) ⟨hx, hb, hml, hown, hts⟩ (c_L_versionValue l hl0 D cy ad I S H.size a1 a2 a3 a4 k n h fr to ofr oto hci ao aq fo fd) (cws_L_268 hts rfl rfl ⟨Nat.le_of_ble_eq_true rfl, Nat.le_of_ble_eq_true rfl⟩) (preSL hC hK hE (hZ.now hS) (blkF hDc hS hA) (blkY hPc) (blkYD hDc)) rfl rfl hl.1 rfl (lv_room (Nat.le_of_ble_eq_true rfl)) dL_law_2985 ⟨(by show cells + 4 ≤ 603072; omega), (by show slots + 24 ≤ 7202922; omega)⟩) hPc hDc hS hA (fun _ => rfl) (fun r u H locs hr_ hP hD hS => ?_)
  obtain ⟨I2, S2, fo2⟩ := u
  obtain ⟨val, hc9, hs9, hv9⟩ := hr_
  dsimp only at hc9 hs9 hv9
  have hP : va_P D clW (wL cy ad I2 S2 ao aq fo2 fd bd J T) H := hP
  have hD : va_D (lcA s) (wL cy ad I2 S2 ao aq fo2 fd bd J T) := hD
  refine lv_istore (lv' := [(6, .int r), (0, .ref b0), (1, .ref (ad 0)), (2, .ref (bd 0)), (3, .ref ao), (4, .ref aq), (5, .int (nI i))]) hx hb dL_law_2988 hl (by decide) rfl (fun ls hl => ?_)
  refine lv_aload_n hx hb dL_law_2990 rfl (lv_at hl 3 rfl) ?_
  refine lv_aload_n hx hb dL_law_2991 rfl (lv_at hl 1 rfl) ?_
  refine lv_iload hx hb dL_law_2992 (lv_at hl 6 rfl) ?_
  refine lv_iconst (v := 1) hx hb dL_law_2994 (by decide) ?_
  refine lv_iadd hx hb dL_law_2995 ?_
  refine top_eq (y := nI (i + 1)) (nI_add i 1) ?_
  refine va_sld hx hb hX hbl hbA hS (vp_in_nI (n := (i + 1)) (by omega) (by omega)) dL_law_2996 ?_
  refine top_eq (y := a1) (by rw [ha1, nI_clamp (by omega)]) ?_
  refine lv_aload_n hx hb dL_law_2997 rfl (lv_at hl 1 rfl) ?_
  refine lv_iload hx hb dL_law_2998 (lv_at hl 6 rfl) ?_
  refine lv_iconst (v := 2) hx hb dL_law_3000 (by decide) ?_
  refine lv_iadd hx hb dL_law_3001 ?_
  refine top_eq (y := nI (i + 2)) (nI_add i 2) ?_
  refine va_sld hx hb hX hbl hbA hS (vp_in_nI (n := (i + 2)) (by omega) (by omega)) dL_law_3002 ?_
  refine top_eq (y := a2) (by rw [ha2, nI_clamp (by omega)]) ?_
  refine lv_aload_n hx hb dL_law_3003 rfl (lv_at hl 1 rfl) ?_
  refine lv_iload hx hb dL_law_3004 (lv_at hl 6 rfl) ?_
  refine lv_iconst (v := 3) hx hb dL_law_3006 (by decide) ?_
  refine lv_iadd hx hb dL_law_3007 ?_
  refine top_eq (y := nI (i + 3)) (nI_add i 3) ?_
  refine va_sld hx hb hX hbl hbA hS (vp_in_nI (n := (i + 3)) (by omega) (by omega)) dL_law_3008 ?_
  refine top_eq (y := a3) (by rw [ha3, nI_clamp (by omega)]) ?_
  refine lv_aload_n hx hb dL_law_3009 rfl (lv_at hl 1 rfl) ?_
  refine lv_iload hx hb dL_law_3010 (lv_at hl 6 rfl) ?_
  refine lv_iconst (v := 4) hx hb dL_law_3012 (by decide) ?_
  refine lv_iadd hx hb dL_law_3013 ?_
  refine top_eq (y := nI (i + 4)) (nI_add i 4) ?_
  refine va_sld hx hb hX hbl hbA hS (vp_in_nI (n := (i + 4)) (by omega) (by omega)) dL_law_3014 ?_
  refine top_eq (y := a4) (by rw [ha4, nI_clamp (by omega)]) ?_
  have hPm : va_P D clW ((wC cy ad I2 S2 ++ oLD cy ao aq fo2 fd) ++ (wM cy bd J T ++ [])) H := hP
  have hDm : va_D (lcA s) ((wC cy ad I2 S2 ++ oLD cy ao aq fo2 fd) ++ (wM cy bd J T ++ [])) := hD
  refine bwI_call (va_runV (As := [.int a1, .int a2, .int a3, .int a4]) (rest := []) ⟨hx, hb, hml, hown, hts⟩ (c_X7_versionValue l D cy bd J T H.size a1 a2 a3 a4 k V.2.1.2.2.1 hk8 fr to V.mfr n V.2.1.2.1 V.2.2.1.2.1 h V.2.1.2.2.2.2.1 V.2.2.1.2.2.2.1) (cw_L_270 hts rfl rfl ⟨Nat.le_of_ble_eq_true rfl, Nat.le_of_ble_eq_true rfl⟩) (preVW (ci := 7) (q0 := 0) hK (blkY hPm) (blkYD hDm) rfl rfl) rfl rfl hl.1 rfl (lv_room (Nat.le_of_ble_eq_true rfl)) dL_law_3015 ⟨(by show cells + 4 + 0 ≤ 603072; omega), (by show slots + 24 + 0 ≤ 7202922; omega)⟩) hPm hDm hS hA (fun _ => rfl) (fun w u H locs hq hP hD hS => ?_)
  obtain ⟨J2, T2⟩ := u
  have hP : va_P D clW (wL cy ad I2 S2 ao aq fo2 fd bd J2 T2) H := hP
  have hD : va_D (lcA s) (wL cy ad I2 S2 ao aq fo2 fd bd J2 T2) := hD
  obtain ⟨hms, hm1, hm2⟩ := hq
  dsimp only at hms hm1 hm2
  have ha : J2 0 = r ∧ (r = 0 → val = w) := ans_versionValue V hc9 ⟨hm1, hm2⟩
  have hinv : Inv I2 S2 J2 T2 := (V.ask hs9 hms).inv
  refine lv_istore (lv' := [(7, .int w), (6, .int r), (0, .ref b0), (1, .ref (ad 0)), (2, .ref (bd 0)), (3, .ref ao), (4, .ref aq), (5, .int (nI i))]) hx hb dL_law_3018 hl (by decide) rfl (fun ls hl => ?_)
  refine lv_aload_n hx hb dL_law_3020 rfl (lv_at hl 4 rfl) ?_
  have hPm : va_P D clW ((wC cy ad I2 S2 ++ oLD cy ao aq fo2 fd) ++ (wM cy bd J2 T2 ++ [])) H := hP
  refine rI_call (va_runV (As := []) (rest := []) ⟨hx, hb, hml, hown, hts⟩ (c_X7_thrown l D cy bd J2 T2) (cw_L_146 hts rfl rfl ⟨Nat.le_of_ble_eq_true rfl, Nat.le_of_ble_eq_true rfl⟩) (preVR (ci := 7) (q0 := 0) hK (blkY hPm) rfl rfl) rfl rfl hl.1 rfl (lv_room (Nat.le_of_ble_eq_true rfl)) dL_law_3021 ⟨(by show cells + 4 + 0 + 0 ≤ 603072; omega), (by show slots + 24 + 0 + 0 ≤ 7202922; omega)⟩) (fun t9 ht9 => ?_)
  subst ht9
  refine lv_iload hx hb dL_law_3024 (lv_at hl 1 rfl) ?_
  refine lv_icmp_eq (tgt := 3031) hx hb dL_law_3026 (by decide) (fun _ => ?_) (fun c1 => absurd ha.1 c1)
  refine lv_iload hx hb dL_law_3031 (lv_at hl 1 rfl) ?_
  refine lv_if_ne (tgt := 3048) hx hb dL_law_3033 (by decide) (fun _ => ?_) (fun h0 => ?_)
  · refine lv_goto (tgt := 3200) hx hb dL_law_3048 (by decide) ?_
    refine W_wid (k := cells + 8) (n := slots + 48) (by omega) (by omega) ?_
    exact hkk H locs I2 S2 J2 T2 fo2 fd ls hinv hP hD hS (lv_sub hl [2, 3, 4, 5, 6, 7] rfl)
  · have h0 : r = 0 := by first | exact h0 | exact Decidable.not_not.mp h0
    have hw := ha.2 h0
    refine lv_aload_n hx hb dL_law_3036 rfl (lv_at hl 5 rfl) ?_
    refine lv_iconst (v := 0) hx hb dL_law_3037 (by decide) ?_
    refine va_lald hx hb hK hP 29 3 rfl rfl (i := 0) vp_in01 dL_law_3038 ?_
    refine top_eqL (y := val.toInt64) (hv9 h0) ?_
    refine lv_iload hx hb dL_law_3039 (lv_at hl 0 rfl) ?_
    refine lv_i2l (v := w.toInt64) hx hb dL_law_3041 rfl ?_
    refine lc_eq (tgt := 3048) hx hb dL_law_3042 dL_law_3043 (by decide) (fun _ => ?_) (fun c2 => absurd (by rw [hw]) c2)
    refine lv_goto (tgt := 3200) hx hb dL_law_3048 (by decide) ?_
    refine W_wid (k := cells + 8) (n := slots + 48) (by omega) (by omega) ?_
    exact hkk H locs I2 S2 J2 T2 fo2 fd ls hinv hP hD hS (lv_sub hl [2, 3, 4, 5, 6, 7] rfl)

set_option maxHeartbeats 4000000 in
set_option maxRecDepth 100000 in
theorem cs_38 {p : Program} {l : Launch} {e : Env} {s : State} {m : MethodId} {below : List Frame} {meth : Method} {c : Code} {b0 L : Nat} {xs : Nat → Int32} {D : va_G} {cy : Nat → ClassId} {ad bd : Nat → Nat} {ao aq : Nat} {fo : Nat → Int64} {fd : Nat → UInt64} {I J : AI} {S T : AS} {i cells slots : Nat} {H : Heap} {locs : List Loc} {Q : State → Prop} {ls : Array Slot} (C0 : LCx p l s m c b0 L xs D cy) (hI : Inv I S J T) (hi : i + 7 ≤ L) (hcc : cells + 8 ≤ 603072) (hss : slots + 48 ≤ 7202922) (hP : va_P D clW (wL cy ad I S ao aq fo fd bd J T) H) (hD : va_D (lcA s) (wL cy ad I S ao aq fo fd bd J T)) (hS : va_S (lcA s) s.heap H locs) (hl : lv_has ls 9 (lcL b0 ad bd ao aq i)) (hkk : LK p l e s m b0 below meth c D cy ad bd ao aq i (cells + 8) (slots + 48) Q) : W p l e room_1 s m #[Value.ref b0] below meth c H locs cells slots Q (F0 m 3051 ls []) := by
  obtain ⟨hx, hb, hml, hown, hts, hl0, hX, hbl, hL, hC, hK, hE, hZ⟩ := C0
  obtain ⟨en, k, n, h, len, sl, fr, to, o, c9, osl, ofr, oto, V⟩ := hI
  have hk8 : k ≤ 256 := Nat.le_trans V.k8 (by decide)
  have hci := V.civ
  have hA : ∀ q : Nat, s.heap.size ≤ q → lcA s q := fun q h => h
  have hbA : ¬ lcA s b0 := Nat.not_le.mpr hbl
  have hl : lv_has ls 9 [(0, .ref b0), (1, .ref (ad 0)), (2, .ref (bd 0)), (3, .ref ao), (4, .ref aq), (5, .int (nI i))] := hl
  refine lv_aload_n hx hb dL_law_3051 rfl (lv_at hl 1 rfl) ?_
  refine lv_aload_n hx hb dL_law_3052 rfl (lv_at hl 0 rfl) ?_
  refine lv_iload hx hb dL_law_3053 (lv_at hl 5 rfl) ?_
  refine lv_iconst (v := 1) hx hb dL_law_3055 (by decide) ?_
  refine lv_iadd hx hb dL_law_3056 ?_
  refine top_eq (y := nI (i + 1)) (nI_add i 1) ?_
  obtain ⟨a1, ha1⟩ : ∃ z : Int32, z = xs (i + 1) := ⟨_, rfl⟩
  refine va_sld hx hb hX hbl hbA hS (vp_in_nI (n := (i + 1)) (by omega) (by omega)) dL_law_3057 ?_
  refine top_eq (y := a1) (by rw [ha1, nI_clamp (by omega)]) ?_
  refine lv_aload_n hx hb dL_law_3058 rfl (lv_at hl 0 rfl) ?_
  refine lv_iload hx hb dL_law_3059 (lv_at hl 5 rfl) ?_
  refine lv_iconst (v := 2) hx hb dL_law_3061 (by decide) ?_
  refine lv_iadd hx hb dL_law_3062 ?_
  refine top_eq (y := nI (i + 2)) (nI_add i 2) ?_
  obtain ⟨a2, ha2⟩ : ∃ z : Int32, z = xs (i + 2) := ⟨_, rfl⟩
  refine va_sld hx hb hX hbl hbA hS (vp_in_nI (n := (i + 2)) (by omega) (by omega)) dL_law_3063 ?_
  refine top_eq (y := a2) (by rw [ha2, nI_clamp (by omega)]) ?_
  refine lv_aload_n hx hb dL_law_3064 rfl (lv_at hl 0 rfl) ?_
  refine lv_iload hx hb dL_law_3065 (lv_at hl 5 rfl) ?_
  refine lv_iconst (v := 3) hx hb dL_law_3067 (by decide) ?_
  refine lv_iadd hx hb dL_law_3068 ?_
  refine top_eq (y := nI (i + 3)) (nI_add i 3) ?_
  obtain ⟨a3, ha3⟩ : ∃ z : Int32, z = xs (i + 3) := ⟨_, rfl⟩
  refine va_sld hx hb hX hbl hbA hS (vp_in_nI (n := (i + 3)) (by omega) (by omega)) dL_law_3069 ?_
  refine top_eq (y := a3) (by rw [ha3, nI_clamp (by omega)]) ?_
  refine lv_aload_n hx hb dL_law_3070 rfl (lv_at hl 3 rfl) ?_
  have hPc : va_P D clW ([] ++ ((wC cy ad I S ++ oLD cy ao aq fo fd) ++ wM cy bd J T)) H := hP
  have hDc : va_D (lcA s) ([] ++ ((wC cy ad I S ++ oLD cy ao aq fo fd) ++ wM cy bd J T)) := hD
  refine bwI_call (vx_runSW (As := [.ref (ad 0), .int a1, .int a2, .int a3, .ref ao]) (rest := []) ⟨hx, hb, hml, hown, hts⟩ (c_L_writePeriods l hl0 D cy ad I S H.size a1 a2 a3 k n h fr to ofr oto hci ao aq fo fd) (cws_L_271 hts rfl rfl ⟨Nat.le_of_ble_eq_true rfl, Nat.le_of_ble_eq_true rfl⟩) (preSL hC hK hE (hZ.now hS) (blkF hDc hS hA) (blkY hPc) (blkYD hDc)) rfl rfl hl.1 rfl (lv_room (Nat.le_of_ble_eq_true rfl)) dL_law_3071 ⟨(by show cells + 4 ≤ 603072; omega), (by show slots + 24 ≤ 7202922; omega)⟩) hPc hDc hS hA (fun _ => rfl) (fun r u H locs hr_ hP hD hS => ?_)
  obtain ⟨I2, S2, fo2⟩ := u
  obtain ⟨val, hc9, hv9⟩ := hr_
  dsimp only at hc9 hv9
  have hP : va_P D clW (wL cy ad I2 S2 ao aq fo2 fd bd J T) H := hP
  have hD : va_D (lcA s) (wL cy ad I2 S2 ao aq fo2 fd bd J T) := hD
  refine lv_istore (lv' := [(6, .int r), (0, .ref b0), (1, .ref (ad 0)), (2, .ref (bd 0)), (3, .ref ao), (4, .ref aq), (5, .int (nI i))]) hx hb dL_law_3074 hl (by decide) rfl (fun ls hl => ?_)
  refine lv_aload_n hx hb dL_law_3076 rfl (lv_at hl 3 rfl) ?_
  refine lv_aload_n hx hb dL_law_3077 rfl (lv_at hl 1 rfl) ?_
  refine lv_iload hx hb dL_law_3078 (lv_at hl 6 rfl) ?_
  refine lv_iconst (v := 1) hx hb dL_law_3080 (by decide) ?_
  refine lv_iadd hx hb dL_law_3081 ?_
  refine top_eq (y := nI (i + 1)) (nI_add i 1) ?_
  refine va_sld hx hb hX hbl hbA hS (vp_in_nI (n := (i + 1)) (by omega) (by omega)) dL_law_3082 ?_
  refine top_eq (y := a1) (by rw [ha1, nI_clamp (by omega)]) ?_
  refine lv_aload_n hx hb dL_law_3083 rfl (lv_at hl 1 rfl) ?_
  refine lv_iload hx hb dL_law_3084 (lv_at hl 6 rfl) ?_
  refine lv_iconst (v := 2) hx hb dL_law_3086 (by decide) ?_
  refine lv_iadd hx hb dL_law_3087 ?_
  refine top_eq (y := nI (i + 2)) (nI_add i 2) ?_
  refine va_sld hx hb hX hbl hbA hS (vp_in_nI (n := (i + 2)) (by omega) (by omega)) dL_law_3088 ?_
  refine top_eq (y := a2) (by rw [ha2, nI_clamp (by omega)]) ?_
  refine lv_aload_n hx hb dL_law_3089 rfl (lv_at hl 1 rfl) ?_
  refine lv_iload hx hb dL_law_3090 (lv_at hl 6 rfl) ?_
  refine lv_iconst (v := 3) hx hb dL_law_3092 (by decide) ?_
  refine lv_iadd hx hb dL_law_3093 ?_
  refine top_eq (y := nI (i + 3)) (nI_add i 3) ?_
  refine va_sld hx hb hX hbl hbA hS (vp_in_nI (n := (i + 3)) (by omega) (by omega)) dL_law_3094 ?_
  refine top_eq (y := a3) (by rw [ha3, nI_clamp (by omega)]) ?_
  have hPm : va_P D clW ((wC cy ad I2 S2 ++ oLD cy ao aq fo2 fd) ++ (wM cy bd J T ++ [])) H := hP
  have hDm : va_D (lcA s) ((wC cy ad I2 S2 ++ oLD cy ao aq fo2 fd) ++ (wM cy bd J T ++ [])) := hD
  refine bwI_call (va_runV (As := [.int a1, .int a2, .int a3]) (rest := []) ⟨hx, hb, hml, hown, hts⟩ (c_X7_writePeriods l D cy bd J T H.size a1 a2 a3 k V.2.1.2.2.1 hk8 fr to V.mfr) (cw_L_273 hts rfl rfl ⟨Nat.le_of_ble_eq_true rfl, Nat.le_of_ble_eq_true rfl⟩) (preVW (ci := 7) (q0 := 0) hK (blkY hPm) (blkYD hDm) rfl rfl) rfl rfl hl.1 rfl (lv_room (Nat.le_of_ble_eq_true rfl)) dL_law_3095 ⟨(by show cells + 4 + 0 ≤ 603072; omega), (by show slots + 24 + 0 ≤ 7202922; omega)⟩) hPm hDm hS hA (fun _ => rfl) (fun w u H locs hq hP hD hS => ?_)
  obtain ⟨J2, T2⟩ := u
  have hP : va_P D clW (wL cy ad I2 S2 ao aq fo2 fd bd J2 T2) H := hP
  have hD : va_D (lcA s) (wL cy ad I2 S2 ao aq fo2 fd bd J2 T2) := hD
  dsimp only at hq
  have ha3 := write_all V hc9 hq
  have ha : J2 0 = r ∧ (r = 0 → val = w) := ⟨ha3.1, ha3.2.1⟩
  have hinv : Inv I2 S2 J2 T2 := ha3.2.2
  refine lv_istore (lv' := [(7, .int w), (6, .int r), (0, .ref b0), (1, .ref (ad 0)), (2, .ref (bd 0)), (3, .ref ao), (4, .ref aq), (5, .int (nI i))]) hx hb dL_law_3098 hl (by decide) rfl (fun ls hl => ?_)
  refine lv_aload_n hx hb dL_law_3100 rfl (lv_at hl 4 rfl) ?_
  have hPm : va_P D clW ((wC cy ad I2 S2 ++ oLD cy ao aq fo2 fd) ++ (wM cy bd J2 T2 ++ [])) H := hP
  refine rI_call (va_runV (As := []) (rest := []) ⟨hx, hb, hml, hown, hts⟩ (c_X7_thrown l D cy bd J2 T2) (cw_L_146 hts rfl rfl ⟨Nat.le_of_ble_eq_true rfl, Nat.le_of_ble_eq_true rfl⟩) (preVR (ci := 7) (q0 := 0) hK (blkY hPm) rfl rfl) rfl rfl hl.1 rfl (lv_room (Nat.le_of_ble_eq_true rfl)) dL_law_3101 ⟨(by show cells + 4 + 0 + 0 ≤ 603072; omega), (by show slots + 24 + 0 + 0 ≤ 7202922; omega)⟩) (fun t9 ht9 => ?_)
  subst ht9
  refine lv_iload hx hb dL_law_3104 (lv_at hl 1 rfl) ?_
  refine lv_icmp_eq (tgt := 3111) hx hb dL_law_3106 (by decide) (fun _ => ?_) (fun c1 => absurd ha.1 c1)
  refine lv_iload hx hb dL_law_3111 (lv_at hl 1 rfl) ?_
  refine lv_if_ne (tgt := 3128) hx hb dL_law_3113 (by decide) (fun _ => ?_) (fun h0 => ?_)
  · refine lv_goto (tgt := 3200) hx hb dL_law_3128 (by decide) ?_
    refine W_wid (k := cells + 8) (n := slots + 48) (by omega) (by omega) ?_
    exact hkk H locs I2 S2 J2 T2 fo2 fd ls hinv hP hD hS (lv_sub hl [2, 3, 4, 5, 6, 7] rfl)
  · have h0 : r = 0 := by first | exact h0 | exact Decidable.not_not.mp h0
    have hw := ha.2 h0
    refine lv_aload_n hx hb dL_law_3116 rfl (lv_at hl 5 rfl) ?_
    refine lv_iconst (v := 0) hx hb dL_law_3117 (by decide) ?_
    refine va_lald hx hb hK hP 29 3 rfl rfl (i := 0) vp_in01 dL_law_3118 ?_
    refine top_eqL (y := val.toInt64) (hv9 h0) ?_
    refine lv_iload hx hb dL_law_3119 (lv_at hl 0 rfl) ?_
    refine lv_i2l (v := w.toInt64) hx hb dL_law_3121 rfl ?_
    refine lc_eq (tgt := 3128) hx hb dL_law_3122 dL_law_3123 (by decide) (fun _ => ?_) (fun c2 => absurd (by rw [hw]) c2)
    refine lv_goto (tgt := 3200) hx hb dL_law_3128 (by decide) ?_
    refine W_wid (k := cells + 8) (n := slots + 48) (by omega) (by omega) ?_
    exact hkk H locs I2 S2 J2 T2 fo2 fd ls hinv hP hD hS (lv_sub hl [2, 3, 4, 5, 6, 7] rfl)

set_option maxHeartbeats 4000000 in
set_option maxRecDepth 100000 in
theorem cs_39 {p : Program} {l : Launch} {e : Env} {s : State} {m : MethodId} {below : List Frame} {meth : Method} {c : Code} {b0 L : Nat} {xs : Nat → Int32} {D : va_G} {cy : Nat → ClassId} {ad bd : Nat → Nat} {ao aq : Nat} {fo : Nat → Int64} {fd : Nat → UInt64} {I J : AI} {S T : AS} {i cells slots : Nat} {H : Heap} {locs : List Loc} {Q : State → Prop} {ls : Array Slot} (C0 : LCx p l s m c b0 L xs D cy) (hI : Inv I S J T) (hi : i + 7 ≤ L) (hcc : cells + 8 ≤ 603072) (hss : slots + 48 ≤ 7202922) (hP : va_P D clW (wL cy ad I S ao aq fo fd bd J T) H) (hD : va_D (lcA s) (wL cy ad I S ao aq fo fd bd J T)) (hS : va_S (lcA s) s.heap H locs) (hl : lv_has ls 9 (lcL b0 ad bd ao aq i)) (hkk : LK p l e s m b0 below meth c D cy ad bd ao aq i (cells + 8) (slots + 48) Q) : W p l e room_1 s m #[Value.ref b0] below meth c H locs cells slots Q (F0 m 3131 ls []) := by
  obtain ⟨hx, hb, hml, hown, hts, hl0, hX, hbl, hL, hC, hK, hE, hZ⟩ := C0
  obtain ⟨en, k, n, h, len, sl, fr, to, o, c9, osl, ofr, oto, V⟩ := hI
  have hk8 : k ≤ 256 := Nat.le_trans V.k8 (by decide)
  have hci := V.civ
  have hA : ∀ q : Nat, s.heap.size ≤ q → lcA s q := fun q h => h
  have hbA : ¬ lcA s b0 := Nat.not_le.mpr hbl
  have hl : lv_has ls 9 [(0, .ref b0), (1, .ref (ad 0)), (2, .ref (bd 0)), (3, .ref ao), (4, .ref aq), (5, .int (nI i))] := hl
  refine lv_aload_n hx hb dL_law_3131 rfl (lv_at hl 1 rfl) ?_
  refine lv_aload_n hx hb dL_law_3132 rfl (lv_at hl 0 rfl) ?_
  refine lv_iload hx hb dL_law_3133 (lv_at hl 5 rfl) ?_
  refine lv_iconst (v := 1) hx hb dL_law_3135 (by decide) ?_
  refine lv_iadd hx hb dL_law_3136 ?_
  refine top_eq (y := nI (i + 1)) (nI_add i 1) ?_
  obtain ⟨a1, ha1⟩ : ∃ z : Int32, z = xs (i + 1) := ⟨_, rfl⟩
  refine va_sld hx hb hX hbl hbA hS (vp_in_nI (n := (i + 1)) (by omega) (by omega)) dL_law_3137 ?_
  refine top_eq (y := a1) (by rw [ha1, nI_clamp (by omega)]) ?_
  refine lv_aload_n hx hb dL_law_3138 rfl (lv_at hl 3 rfl) ?_
  have hPc : va_P D clW ([] ++ ((wC cy ad I S ++ oLD cy ao aq fo fd) ++ wM cy bd J T)) H := hP
  have hDc : va_D (lcA s) ([] ++ ((wC cy ad I S ++ oLD cy ao aq fo fd) ++ wM cy bd J T)) := hD
  refine bwI_call (vx_runSW (As := [.ref (ad 0), .int a1, .ref ao]) (rest := []) ⟨hx, hb, hml, hown, hts⟩ (c_L_lineAt l hl0 D cy ad I S H.size a1 len V.1.2.2.2.2 V.2.2.1.2.2.2.2 V.2.2.2.2.2.2.2.2.1 ao aq fo fd) (cws_L_274 hts rfl rfl ⟨Nat.le_of_ble_eq_true rfl, Nat.le_of_ble_eq_true rfl⟩) (preSL hC hK hE (hZ.now hS) (blkF hDc hS hA) (blkY hPc) (blkYD hDc)) rfl rfl hl.1 rfl (lv_room (Nat.le_of_ble_eq_true rfl)) dL_law_3139 ⟨(by show cells + 1 ≤ 603072; omega), (by show slots + 6 ≤ 7202922; omega)⟩) hPc hDc hS hA (fun _ => rfl) (fun r u H locs hr_ hP hD hS => ?_)
  obtain ⟨I2, S2, fo2⟩ := u
  obtain ⟨val, hc9, hs9, hv9⟩ := hr_
  dsimp only at hc9 hs9 hv9
  have hP : va_P D clW (wL cy ad I2 S2 ao aq fo2 fd bd J T) H := hP
  have hD : va_D (lcA s) (wL cy ad I2 S2 ao aq fo2 fd bd J T) := hD
  refine lv_istore (lv' := [(6, .int r), (0, .ref b0), (1, .ref (ad 0)), (2, .ref (bd 0)), (3, .ref ao), (4, .ref aq), (5, .int (nI i))]) hx hb dL_law_3142 hl (by decide) rfl (fun ls hl => ?_)
  refine lv_aload_n hx hb dL_law_3144 rfl (lv_at hl 3 rfl) ?_
  refine lv_aload_n hx hb dL_law_3145 rfl (lv_at hl 1 rfl) ?_
  refine lv_iload hx hb dL_law_3146 (lv_at hl 6 rfl) ?_
  refine lv_iconst (v := 1) hx hb dL_law_3148 (by decide) ?_
  refine lv_iadd hx hb dL_law_3149 ?_
  refine top_eq (y := nI (i + 1)) (nI_add i 1) ?_
  refine va_sld hx hb hX hbl hbA hS (vp_in_nI (n := (i + 1)) (by omega) (by omega)) dL_law_3150 ?_
  refine top_eq (y := a1) (by rw [ha1, nI_clamp (by omega)]) ?_
  have hPm : va_P D clW ((wC cy ad I2 S2 ++ oLD cy ao aq fo2 fd) ++ (wM cy bd J T ++ [])) H := hP
  have hDm : va_D (lcA s) ((wC cy ad I2 S2 ++ oLD cy ao aq fo2 fd) ++ (wM cy bd J T ++ [])) := hD
  refine bwI_call (va_runV (As := [.int a1]) (rest := []) ⟨hx, hb, hml, hown, hts⟩ (c_X7_lineAt l D cy bd J T H.size a1 len V.2.1.2.2.2.2.2 (Nat.le_trans V.2.2.1.2.2.2.2 (by decide)) (fun j h1 => by rw [V.2.2.2.2.2.2.1.2]; exact V.2.2.2.2.2.2.2.2.1 j h1)) (cw_L_276 hts rfl rfl ⟨Nat.le_of_ble_eq_true rfl, Nat.le_of_ble_eq_true rfl⟩) (preVW (ci := 7) (q0 := 0) hK (blkY hPm) (blkYD hDm) rfl rfl) rfl rfl hl.1 rfl (lv_room (Nat.le_of_ble_eq_true rfl)) dL_law_3151 ⟨(by show cells + 1 + 0 ≤ 603072; omega), (by show slots + 6 + 0 ≤ 7202922; omega)⟩) hPm hDm hS hA (fun _ => rfl) (fun w u H locs hq hP hD hS => ?_)
  obtain ⟨J2, T2⟩ := u
  have hP : va_P D clW (wL cy ad I2 S2 ao aq fo2 fd bd J2 T2) H := hP
  have hD : va_D (lcA s) (wL cy ad I2 S2 ao aq fo2 fd bd J2 T2) := hD
  dsimp only at hq
  have ha : J2 0 = r ∧ (r = 0 → val = w) := ans_lineAt V hc9 (hq.elim (fun q => Or.inl ⟨q.1, q.2.1, q.2.2.1⟩) (fun q => Or.inr ⟨q.1, q.2.1⟩))
  have hinv : Inv I2 S2 J2 T2 := by
    rcases hq with ⟨-, -, q1, q2⟩ | ⟨-, q1, q2⟩
    · rw [q1, q2]; exact V.no hs9 _
    · rw [q1, q2]; exact V.no hs9 _
  refine lv_istore (lv' := [(7, .int w), (6, .int r), (0, .ref b0), (1, .ref (ad 0)), (2, .ref (bd 0)), (3, .ref ao), (4, .ref aq), (5, .int (nI i))]) hx hb dL_law_3154 hl (by decide) rfl (fun ls hl => ?_)
  refine lv_aload_n hx hb dL_law_3156 rfl (lv_at hl 4 rfl) ?_
  have hPm : va_P D clW ((wC cy ad I2 S2 ++ oLD cy ao aq fo2 fd) ++ (wM cy bd J2 T2 ++ [])) H := hP
  refine rI_call (va_runV (As := []) (rest := []) ⟨hx, hb, hml, hown, hts⟩ (c_X7_thrown l D cy bd J2 T2) (cw_L_146 hts rfl rfl ⟨Nat.le_of_ble_eq_true rfl, Nat.le_of_ble_eq_true rfl⟩) (preVR (ci := 7) (q0 := 0) hK (blkY hPm) rfl rfl) rfl rfl hl.1 rfl (lv_room (Nat.le_of_ble_eq_true rfl)) dL_law_3157 ⟨(by show cells + 1 + 0 + 0 ≤ 603072; omega), (by show slots + 6 + 0 + 0 ≤ 7202922; omega)⟩) (fun t9 ht9 => ?_)
  subst ht9
  refine lv_iload hx hb dL_law_3160 (lv_at hl 1 rfl) ?_
  refine lv_icmp_eq (tgt := 3167) hx hb dL_law_3162 (by decide) (fun _ => ?_) (fun c1 => absurd ha.1 c1)
  refine lv_iload hx hb dL_law_3167 (lv_at hl 1 rfl) ?_
  refine lv_if_ne (tgt := 3184) hx hb dL_law_3169 (by decide) (fun _ => ?_) (fun h0 => ?_)
  · refine lv_goto (tgt := 3200) hx hb dL_law_3184 (by decide) ?_
    refine W_wid (k := cells + 8) (n := slots + 48) (by omega) (by omega) ?_
    exact hkk H locs I2 S2 J2 T2 fo2 fd ls hinv hP hD hS (lv_sub hl [2, 3, 4, 5, 6, 7] rfl)
  · have h0 : r = 0 := by first | exact h0 | exact Decidable.not_not.mp h0
    have hw := ha.2 h0
    refine lv_aload_n hx hb dL_law_3172 rfl (lv_at hl 5 rfl) ?_
    refine lv_iconst (v := 0) hx hb dL_law_3173 (by decide) ?_
    refine va_lald hx hb hK hP 29 3 rfl rfl (i := 0) vp_in01 dL_law_3174 ?_
    refine top_eqL (y := val.toInt64) (hv9 h0) ?_
    refine lv_iload hx hb dL_law_3175 (lv_at hl 0 rfl) ?_
    refine lv_i2l (v := w.toInt64) hx hb dL_law_3177 rfl ?_
    refine lc_eq (tgt := 3184) hx hb dL_law_3178 dL_law_3179 (by decide) (fun _ => ?_) (fun c2 => absurd (by rw [hw]) c2)
    refine lv_goto (tgt := 3200) hx hb dL_law_3184 (by decide) ?_
    refine W_wid (k := cells + 8) (n := slots + 48) (by omega) (by omega) ?_
    exact hkk H locs I2 S2 J2 T2 fo2 fd ls hinv hP hD hS (lv_sub hl [2, 3, 4, 5, 6, 7] rfl)

set_option maxHeartbeats 4000000 in
set_option maxRecDepth 100000 in
theorem cs_40 {p : Program} {l : Launch} {e : Env} {s : State} {m : MethodId} {below : List Frame} {meth : Method} {c : Code} {b0 L : Nat} {xs : Nat → Int32} {D : va_G} {cy : Nat → ClassId} {ad bd : Nat → Nat} {ao aq : Nat} {fo : Nat → Int64} {fd : Nat → UInt64} {I J : AI} {S T : AS} {i cells slots : Nat} {H : Heap} {locs : List Loc} {Q : State → Prop} {ls : Array Slot} (C0 : LCx p l s m c b0 L xs D cy) (hI : Inv I S J T) (hi : i + 7 ≤ L) (hcc : cells + 8 ≤ 603072) (hss : slots + 48 ≤ 7202922) (hP : va_P D clW (wL cy ad I S ao aq fo fd bd J T) H) (hD : va_D (lcA s) (wL cy ad I S ao aq fo fd bd J T)) (hS : va_S (lcA s) s.heap H locs) (hl : lv_has ls 9 (lcL b0 ad bd ao aq i)) (hkk : LK p l e s m b0 below meth c D cy ad bd ao aq i (cells + 8) (slots + 48) Q) : W p l e room_1 s m #[Value.ref b0] below meth c H locs cells slots Q (F0 m 3187 ls []) := by
  obtain ⟨hx, hb, hml, hown, hts, hl0, hX, hbl, hL, hC, hK, hE, hZ⟩ := C0
  obtain ⟨en, k, n, h, len, sl, fr, to, o, c9, osl, ofr, oto, V⟩ := hI
  have hk8 : k ≤ 256 := Nat.le_trans V.k8 (by decide)
  have hci := V.civ
  have hA : ∀ q : Nat, s.heap.size ≤ q → lcA s q := fun q h => h
  have hbA : ¬ lcA s b0 := Nat.not_le.mpr hbl
  have hl : lv_has ls 9 [(0, .ref b0), (1, .ref (ad 0)), (2, .ref (bd 0)), (3, .ref ao), (4, .ref aq), (5, .int (nI i))] := hl
  refine lv_aload_n hx hb dL_law_3187 rfl (lv_at hl 1 rfl) ?_
  have hPc : va_P D clW ([] ++ (wC cy ad I S ++ (oLD cy ao aq fo fd ++ wM cy bd J T))) H := hP
  have hDc : va_D (lcA s) ([] ++ (wC cy ad I S ++ (oLD cy ao aq fo fd ++ wM cy bd J T))) := hD
  refine bwI_call (va_runV (As := []) (rest := []) ⟨hx, hb, hml, hown, hts⟩ (c_X6_isConsistent l D cy ad I S H.size en V.1.1 V.2.2.1.1 k n h fr to ofr oto hci (fun i hi f1 g1 f2 g2 => V.con (by have := V.2.2.1.1; omega) f1 g1 f2 g2)) (cw_L_277 hts rfl rfl ⟨Nat.le_of_ble_eq_true rfl, Nat.le_of_ble_eq_true rfl⟩) (preVW (ci := 6) (q0 := 0) hK (blkY hPc) (blkYD hDc) rfl rfl) rfl rfl hl.1 rfl (lv_room (Nat.le_of_ble_eq_true rfl)) dL_law_3188 ⟨(by show cells + 0 ≤ 603072; omega), (by show slots + 0 ≤ 7202922; omega)⟩) hPc hDc hS hA (fun _ => rfl) (fun r u H locs hr_ hP hD hS => ?_)
  obtain ⟨f1, g1, f2, g2⟩ := u
  have hr_ : r = 1 := hr_
  have hP : va_P D clW (wL cy ad I (va_up (va_up (va_up (va_up S 17 f1) 18 g1) 20 f2) 21 g2) ao aq fo fd bd J T) H := hP
  have hD : va_D (lcA s) (wL cy ad I (va_up (va_up (va_up (va_up S 17 f1) 18 g1) 20 f2) 21 g2) ao aq fo fd bd J T) := hD
  refine lv_aload_n hx hb dL_law_3191 rfl (lv_at hl 2 rfl) ?_
  have hPm : va_P D clW ((wC cy ad I (va_up (va_up (va_up (va_up S 17 f1) 18 g1) 20 f2) 21 g2) ++ oLD cy ao aq fo fd) ++ (wM cy bd J T ++ [])) H := hP
  have hDm : va_D (lcA s) ((wC cy ad I (va_up (va_up (va_up (va_up S 17 f1) 18 g1) 20 f2) 21 g2) ++ oLD cy ao aq fo fd) ++ (wM cy bd J T ++ [])) := hD
  refine bwI_call (va_runV (As := []) (rest := [.int r]) ⟨hx, hb, hml, hown, hts⟩ (c_X7_isConsistent l D cy bd J T H.size) (cw_L_281 hts rfl rfl ⟨Nat.le_of_ble_eq_true rfl, Nat.le_of_ble_eq_true rfl⟩) (preVW (ci := 7) (q0 := 0) hK (blkY hPm) (blkYD hDm) rfl rfl) rfl rfl hl.1 rfl (lv_room (Nat.le_of_ble_eq_true rfl)) dL_law_3192 ⟨(by show cells + 0 + 0 ≤ 603072; omega), (by show slots + 0 + 0 ≤ 7202922; omega)⟩) hPm hDm hS hA (fun _ => rfl) (fun w u H locs hq hP hD hS => ?_)
  have hP : va_P D clW (wL cy ad I (va_up (va_up (va_up (va_up S 17 f1) 18 g1) 20 f2) 21 g2) ao aq fo fd bd (va_up J 0 0) T) H := hP
  have hD : va_D (lcA s) (wL cy ad I (va_up (va_up (va_up (va_up S 17 f1) 18 g1) 20 f2) 21 g2) ao aq fo fd bd (va_up J 0 0) T) := hD
  have hq9 : r = w := hr_.trans ((show _ = _ from rfl).trans hq.symm)
  refine lv_icmp_eq (tgt := 3200) hx hb dL_law_3195 (by decide) (fun _ => ?_) (fun c1 => absurd hq9 c1)
  refine W_wid (k := cells + 8) (n := slots + 48) (by omega) (by omega) ?_
  exact hkk H locs I (va_up (va_up (va_up (va_up S 17 f1) 18 g1) 20 f2) 21 g2) (va_up J 0 0) T fo fd ls (V.no (scr_S (scr_S (scr_S (scr_S (scr_0 I S) (by decide) _) (by decide) _) (by decide) _) (by decide) _) 0) hP hD hS (lv_sub hl [0, 1, 2, 3, 4, 5] rfl)
