/-! the loop of the law -/
theorem lp_gt {L i : Nat} (hL : L ≤ 3584) (hi : i ≤ 4000) : (nI L - 7 < nI i) ↔ L < i + 7 := by
  by_cases h7 : 7 ≤ L
  · obtain ⟨z, rfl⟩ : ∃ z, L = z + 7 := ⟨L - 7, by omega⟩
    rw [show nI (z + 7) - 7 = nI z from by rw [← nI_add]; show nI z + 7 - 7 = nI z; exact Int32.add_sub_cancel _ _, nI_ltI (by omega) (by omega)]
    omega
  · have h0 : nI L - 7 < 0 := by
      rcases (show L = 0 ∨ L = 1 ∨ L = 2 ∨ L = 3 ∨ L = 4 ∨ L = 5 ∨ L = 6 by omega) with rfl | rfl | rfl | rfl | rfl | rfl | rfl <;> decide
    have h1 : (0 : Int32) ≤ nI i := nd_le (a := 0) (b := i) (by omega) (by omega) (by omega)
    exact ⟨fun _ => by omega, fun _ => Int32.lt_of_lt_of_le h0 h1⟩
theorem law_head {p : Program} {l : Launch} {e : Env} {s : State} {m : MethodId} {below : List Frame} {meth : Method} {c : Code} {b0 L : Nat} {xs : Nat → Int32} {D : va_G} {cy : Nat → ClassId} {ad bd : Nat → Nat} {ao aq : Nat} {i cells slots : Nat} {H : Heap} {locs : List Loc} {Q : State → Prop} {ls : Array Slot} (C0 : LCx p l s m c b0 L xs D cy) (hi : i ≤ 4000) (hS : va_S (lcA s) s.heap H locs) (hl : lv_has ls 9 (lcL b0 ad bd ao aq i)) (kx : L < i + 7 → W p l e room_1 s m #[Value.ref b0] below meth c H locs cells slots Q (F0 m 3206 ls [])) (kk : i + 7 ≤ L → W p l e room_1 s m #[Value.ref b0] below meth c H locs cells slots Q (F0 m 38 ls [])) : W p l e room_1 s m #[Value.ref b0] below meth c H locs cells slots Q (F0 m 28 ls []) := by
  obtain ⟨hx, hb, hml, hown, hts, hl0, hX, hbl, hL, hC, hK, hE, hZ⟩ := C0
  have hbA : ¬ lcA s b0 := Nat.not_le.mpr hbl
  refine lv_iload hx hb dL_law_28 (lv_at hl 5 rfl) ?_
  refine lv_aload_n hx hb dL_law_30 rfl (lv_at hl 0 rfl) ?_
  refine va_slen hx hb hX hbl hbA hS dL_law_31 ?_
  refine lv_bipush (v := 7) hx hb dL_law_32 (by decide) ?_
  refine lv_isub hx hb dL_law_34 ?_
  refine lv_icmp_gt (tgt := 3206) hx hb dL_law_35 (by decide) (fun c1 => ?_) (fun c1 => ?_)
  · exact kx ((lp_gt hL hi).mp c1)
  · exact kk (Nat.not_lt.mp (fun q => c1 ((lp_gt hL hi).mpr q)))
set_option maxHeartbeats 4000000 in
theorem law_body {p : Program} {l : Launch} {e : Env} {s : State} {m : MethodId} {below : List Frame} {meth : Method} {c : Code} {b0 L : Nat} {xs : Nat → Int32} {D : va_G} {cy : Nat → ClassId} {ad bd : Nat → Nat} {ao aq : Nat} {fo : Nat → Int64} {fd : Nat → UInt64} {I J : AI} {S T : AS} {i cells slots : Nat} {H : Heap} {locs : List Loc} {Q : State → Prop} {ls : Array Slot} (C0 : LCx p l s m c b0 L xs D cy) (hI : Inv I S J T) (hi : i + 7 ≤ L) (hcc : cells + 8 ≤ 603072) (hss : slots + 48 ≤ 7202922) (hP : va_P D clW (wL cy ad I S ao aq fo fd bd J T) H) (hD : va_D (lcA s) (wL cy ad I S ao aq fo fd bd J T)) (hS : va_S (lcA s) s.heap H locs) (hl : lv_has ls 9 (lcL b0 ad bd ao aq i)) (hkk : LK p l e s m b0 below meth c D cy ad bd ao aq i (cells + 8) (slots + 48) Q) : W p l e room_1 s m #[Value.ref b0] below meth c H locs cells slots Q (F0 m 38 ls []) := by
  have C1 := C0
  obtain ⟨hx, hb, hml, hown, hts, hl0, hX, hbl, hL, hC, hK, hE, hZ⟩ := C1
  have hbA : ¬ lcA s b0 := Nat.not_le.mpr hbl
  refine lv_aload_n hx hb dL_law_38 rfl (lv_at hl 0 rfl) ?_
  refine lv_iload hx hb dL_law_39 (lv_at hl 5 rfl) ?_
  refine va_sld hx hb hX hbl hbA hS (vp_in_nI (n := i) (by omega) (by omega)) dL_law_41 ?_
  refine lv_bipush (v := 63) hx hb dL_law_42 (by decide) ?_
  refine lv_iand hx hb dL_law_44 ?_
  generalize (xs (nI i).toNatClampNeg &&& 63) = z
  by_cases hz : z.toInt < 0 ∨ 40 < z.toInt
  · refine lv_tableOut (tgt := 3200) hx hb dL_law_45 hz (by decide) ?_
    exact W_wid (k := cells + 8) (n := slots + 48) (by omega) (by omega) (hkk H locs I S J T fo fd ls hI hP hD hS hl)
  · rcases (show z.toInt = 0 ∨ z.toInt = 1 ∨ z.toInt = 2 ∨ z.toInt = 3 ∨ z.toInt = 4 ∨ z.toInt = 5 ∨ z.toInt = 6 ∨ z.toInt = 7 ∨ z.toInt = 8 ∨ z.toInt = 9 ∨ z.toInt = 10 ∨ z.toInt = 11 ∨ z.toInt = 12 ∨ z.toInt = 13 ∨ z.toInt = 14 ∨ z.toInt = 15 ∨ z.toInt = 16 ∨ z.toInt = 17 ∨ z.toInt = 18 ∨ z.toInt = 19 ∨ z.toInt = 20 ∨ z.toInt = 21 ∨ z.toInt = 22 ∨ z.toInt = 23 ∨ z.toInt = 24 ∨ z.toInt = 25 ∨ z.toInt = 26 ∨ z.toInt = 27 ∨ z.toInt = 28 ∨ z.toInt = 29 ∨ z.toInt = 30 ∨ z.toInt = 31 ∨ z.toInt = 32 ∨ z.toInt = 33 ∨ z.toInt = 34 ∨ z.toInt = 35 ∨ z.toInt = 36 ∨ z.toInt = 37 ∨ z.toInt = 38 ∨ z.toInt = 39 ∨ z.toInt = 40 by omega) with h9 | h9 | h9 | h9 | h9 | h9 | h9 | h9 | h9 | h9 | h9 | h9 | h9 | h9 | h9 | h9 | h9 | h9 | h9 | h9 | h9 | h9 | h9 | h9 | h9 | h9 | h9 | h9 | h9 | h9 | h9 | h9 | h9 | h9 | h9 | h9 | h9 | h9 | h9 | h9 | h9
    · exact lv_tableIn (off := 179) (tgt := 224) hx hb dL_law_45 (by omega) (by omega) (by rw [h9]; rfl) (by decide) (cs_0 C0 hI hi hcc hss hP hD hS hl hkk)
    · exact lv_tableIn (off := 223) (tgt := 268) hx hb dL_law_45 (by omega) (by omega) (by rw [h9]; rfl) (by decide) (cs_1 C0 hI hi hcc hss hP hD hS hl hkk)
    · exact lv_tableIn (off := 236) (tgt := 281) hx hb dL_law_45 (by omega) (by omega) (by rw [h9]; rfl) (by decide) (cs_2 C0 hI hi hcc hss hP hD hS hl hkk)
    · exact lv_tableIn (off := 340) (tgt := 385) hx hb dL_law_45 (by omega) (by omega) (by rw [h9]; rfl) (by decide) (cs_3 C0 hI hi hcc hss hP hD hS hl hkk)
    · exact lv_tableIn (off := 432) (tgt := 477) hx hb dL_law_45 (by omega) (by omega) (by rw [h9]; rfl) (by decide) (cs_4 C0 hI hi hcc hss hP hD hS hl hkk)
    · exact lv_tableIn (off := 524) (tgt := 569) hx hb dL_law_45 (by omega) (by omega) (by rw [h9]; rfl) (by decide) (cs_5 C0 hI hi hcc hss hP hD hS hl hkk)
    · exact lv_tableIn (off := 537) (tgt := 582) hx hb dL_law_45 (by omega) (by omega) (by rw [h9]; rfl) (by decide) (cs_6 C0 hI hi hcc hss hP hD hS hl hkk)
    · exact lv_tableIn (off := 593) (tgt := 638) hx hb dL_law_45 (by omega) (by omega) (by rw [h9]; rfl) (by decide) (cs_7 C0 hI hi hcc hss hP hD hS hl hkk)
    · exact lv_tableIn (off := 649) (tgt := 694) hx hb dL_law_45 (by omega) (by omega) (by rw [h9]; rfl) (by decide) (cs_8 C0 hI hi hcc hss hP hD hS hl hkk)
    · exact lv_tableIn (off := 662) (tgt := 707) hx hb dL_law_45 (by omega) (by omega) (by rw [h9]; rfl) (by decide) (cs_9 C0 hI hi hcc hss hP hD hS hl hkk)
    · exact lv_tableIn (off := 675) (tgt := 720) hx hb dL_law_45 (by omega) (by omega) (by rw [h9]; rfl) (by decide) (cs_10 C0 hI hi hcc hss hP hD hS hl hkk)
    · exact lv_tableIn (off := 731) (tgt := 776) hx hb dL_law_45 (by omega) (by omega) (by rw [h9]; rfl) (by decide) (cs_11 C0 hI hi hcc hss hP hD hS hl hkk)
    · exact lv_tableIn (off := 787) (tgt := 832) hx hb dL_law_45 (by omega) (by omega) (by rw [h9]; rfl) (by decide) (cs_12 C0 hI hi hcc hss hP hD hS hl hkk)
    · exact lv_tableIn (off := 843) (tgt := 888) hx hb dL_law_45 (by omega) (by omega) (by rw [h9]; rfl) (by decide) (cs_13 C0 hI hi hcc hss hP hD hS hl hkk)
    · exact lv_tableIn (off := 899) (tgt := 944) hx hb dL_law_45 (by omega) (by omega) (by rw [h9]; rfl) (by decide) (cs_14 C0 hI hi hcc hss hP hD hS hl hkk)
    · exact lv_tableIn (off := 955) (tgt := 1000) hx hb dL_law_45 (by omega) (by omega) (by rw [h9]; rfl) (by decide) (cs_15 C0 hI hi hcc hss hP hD hS hl hkk)
    · exact lv_tableIn (off := 1011) (tgt := 1056) hx hb dL_law_45 (by omega) (by omega) (by rw [h9]; rfl) (by decide) (cs_16 C0 hI hi hcc hss hP hD hS hl hkk)
    · exact lv_tableIn (off := 1024) (tgt := 1069) hx hb dL_law_45 (by omega) (by omega) (by rw [h9]; rfl) (by decide) (cs_17 C0 hI hi hcc hss hP hD hS hl hkk)
    · exact lv_tableIn (off := 1123) (tgt := 1168) hx hb dL_law_45 (by omega) (by omega) (by rw [h9]; rfl) (by decide) (cs_18 C0 hI hi hcc hss hP hD hS hl hkk)
    · exact lv_tableIn (off := 1215) (tgt := 1260) hx hb dL_law_45 (by omega) (by omega) (by rw [h9]; rfl) (by decide) (cs_19 C0 hI hi hcc hss hP hD hS hl hkk)
    · exact lv_tableIn (off := 1307) (tgt := 1352) hx hb dL_law_45 (by omega) (by omega) (by rw [h9]; rfl) (by decide) (cs_20 C0 hI hi hcc hss hP hD hS hl hkk)
    · exact lv_tableIn (off := 1387) (tgt := 1432) hx hb dL_law_45 (by omega) (by omega) (by rw [h9]; rfl) (by decide) (cs_21 C0 hI hi hcc hss hP hD hS hl hkk)
    · exact lv_tableIn (off := 1467) (tgt := 1512) hx hb dL_law_45 (by omega) (by omega) (by rw [h9]; rfl) (by decide) (cs_22 C0 hI hi hcc hss hP hD hS hl hkk)
    · exact lv_tableIn (off := 1559) (tgt := 1604) hx hb dL_law_45 (by omega) (by omega) (by rw [h9]; rfl) (by decide) (cs_23 C0 hI hi hcc hss hP hD hS hl hkk)
    · exact lv_tableIn (off := 1651) (tgt := 1696) hx hb dL_law_45 (by omega) (by omega) (by rw [h9]; rfl) (by decide) (cs_24 C0 hI hi hcc hss hP hD hS hl hkk)
    · exact lv_tableIn (off := 1743) (tgt := 1788) hx hb dL_law_45 (by omega) (by omega) (by rw [h9]; rfl) (by decide) (cs_25 C0 hI hi hcc hss hP hD hS hl hkk)
    · exact lv_tableIn (off := 1822) (tgt := 1867) hx hb dL_law_45 (by omega) (by omega) (by rw [h9]; rfl) (by decide) (cs_26 C0 hI hi hcc hss hP hD hS hl hkk)
    · exact lv_tableIn (off := 1914) (tgt := 1959) hx hb dL_law_45 (by omega) (by omega) (by rw [h9]; rfl) (by decide) (cs_27 C0 hI hi hcc hss hP hD hS hl hkk)
    · exact lv_tableIn (off := 1994) (tgt := 2039) hx hb dL_law_45 (by omega) (by omega) (by rw [h9]; rfl) (by decide) (cs_28 C0 hI hi hcc hss hP hD hS hl hkk)
    · exact lv_tableIn (off := 2095) (tgt := 2140) hx hb dL_law_45 (by omega) (by omega) (by rw [h9]; rfl) (by decide) (cs_29 C0 hI hi hcc hss hP hD hS hl hkk)
    · exact lv_tableIn (off := 2199) (tgt := 2244) hx hb dL_law_45 (by omega) (by omega) (by rw [h9]; rfl) (by decide) (cs_30 C0 hI hi hcc hss hP hD hS hl hkk)
    · exact lv_tableIn (off := 2317) (tgt := 2362) hx hb dL_law_45 (by omega) (by omega) (by rw [h9]; rfl) (by decide) (cs_31 C0 hI hi hcc hss hP hD hS hl hkk)
    · exact lv_tableIn (off := 2435) (tgt := 2480) hx hb dL_law_45 (by omega) (by omega) (by rw [h9]; rfl) (by decide) (cs_32 C0 hI hi hcc hss hP hD hS hl hkk)
    · exact lv_tableIn (off := 2539) (tgt := 2584) hx hb dL_law_45 (by omega) (by omega) (by rw [h9]; rfl) (by decide) (cs_33 C0 hI hi hcc hss hP hD hS hl hkk)
    · exact lv_tableIn (off := 2643) (tgt := 2688) hx hb dL_law_45 (by omega) (by omega) (by rw [h9]; rfl) (by decide) (cs_34 C0 hI hi hcc hss hP hD hS hl hkk)
    · exact lv_tableIn (off := 2723) (tgt := 2768) hx hb dL_law_45 (by omega) (by omega) (by rw [h9]; rfl) (by decide) (cs_35 C0 hI hi hcc hss hP hD hS hl hkk)
    · exact lv_tableIn (off := 2815) (tgt := 2860) hx hb dL_law_45 (by omega) (by omega) (by rw [h9]; rfl) (by decide) (cs_36 C0 hI hi hcc hss hP hD hS hl hkk)
    · exact lv_tableIn (off := 2914) (tgt := 2959) hx hb dL_law_45 (by omega) (by omega) (by rw [h9]; rfl) (by decide) (cs_37 C0 hI hi hcc hss hP hD hS hl hkk)
    · exact lv_tableIn (off := 3006) (tgt := 3051) hx hb dL_law_45 (by omega) (by omega) (by rw [h9]; rfl) (by decide) (cs_38 C0 hI hi hcc hss hP hD hS hl hkk)
    · exact lv_tableIn (off := 3086) (tgt := 3131) hx hb dL_law_45 (by omega) (by omega) (by rw [h9]; rfl) (by decide) (cs_39 C0 hI hi hcc hss hP hD hS hl hkk)
    · exact lv_tableIn (off := 3142) (tgt := 3187) hx hb dL_law_45 (by omega) (by omega) (by rw [h9]; rfl) (by decide) (cs_40 C0 hI hi hcc hss hP hD hS hl hkk)
theorem law_loop {p : Program} {l : Launch} {e : Env} {s : State} {m : MethodId} {below : List Frame} {meth : Method} {c : Code} {b0 L : Nat} {xs : Nat → Int32} {D : va_G} {cy : Nat → ClassId} {ad bd : Nat → Nat} {ao aq : Nat} {Q : State → Prop} (C0 : LCx p l s m c b0 L xs D cy)
    (hend : ∀ (H : Heap) (locs : List Loc) (ls : Array Slot) (cells slots : Nat), va_S (lcA s) s.heap H locs → cells ≤ 603072 → slots ≤ 7202922 → W p l e room_1 s m #[Value.ref b0] below meth c H locs cells slots Q (F0 m 3206 ls [])) :
    ∀ (n i : Nat) (H : Heap) (locs : List Loc) (I : AI) (S : AS) (J : AI) (T : AS) (fo : Nat → Int64) (fd : Nat → UInt64) (ls : Array Slot) (cells slots : Nat), L < i + 7 * n + 7 → i ≤ L → cells + 8 * n ≤ 603072 → slots + 48 * n ≤ 7202922 → Inv I S J T → va_P D clW (wL cy ad I S ao aq fo fd bd J T) H → va_D (lcA s) (wL cy ad I S ao aq fo fd bd J T) → va_S (lcA s) s.heap H locs → lv_has ls 9 (lcL b0 ad bd ao aq i) → W p l e room_1 s m #[Value.ref b0] below meth c H locs cells slots Q (F0 m 28 ls []) := by
  intro n
  have hL := C0.2.2.2.2.2.2.2.2.1
  have hx := C0.1
  have hb := C0.2.1
  induction n with
  | zero =>
    intro i H locs I S J T fo fd ls cells slots h1 h2 hcc hss hI hP hD hS hl
    exact law_head C0 (by omega) hS hl (fun _ => hend H locs ls cells slots hS (by omega) (by omega)) (fun q => absurd q (by omega))
  | succ n ih =>
    intro i H locs I S J T fo fd ls cells slots h1 h2 hcc hss hI hP hD hS hl
    refine law_head C0 (by omega) hS hl (fun _ => hend H locs ls cells slots hS (by omega) (by omega)) (fun q => ?_)
    refine law_body C0 hI q (by omega) (by omega) hP hD hS hl ?_
    intro H locs I S J T fo fd ls hI hP hD hS hl
    refine lv_iinc (v := (nI (i + 7))) (lv' := [(5, .int (nI (i + 7))), (0, .ref b0), (1, .ref (ad 0)), (2, .ref (bd 0)), (3, .ref ao), (4, .ref aq)]) hx hb dL_law_3200 hl (k := 5) rfl (nI_add i 7) (by decide) rfl (fun ls hl => ?_)
    refine lv_goto (tgt := 28) hx hb dL_law_3203 (by decide) ?_
    exact ih (i + 7) H locs I S J T fo fd ls (cells + 8) (slots + 48) (by omega) (by omega) (by omega) (by omega) hI hP hD hS (lv_sub hl [1, 2, 3, 4, 5, 0] rfl)
