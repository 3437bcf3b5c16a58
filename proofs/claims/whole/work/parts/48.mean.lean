
set_option maxHeartbeats 4000000 in
set_option maxRecDepth 100000 in
theorem c_X6_meanValue (l : Launch) (hl0 : l.stackTraces = false) (D : va_G) (cy : Nat → ClassId) (ad : Nat → Nat) (I : AI) (S : AS) (b : Int32) (d : Int32) (t : Int32) (en : Nat) (hen : I 0 = nI en) (hen6 : en ≤ 6) (k : Nat) (n : Nat) (h : Nat) (fr : Nat → Nat) (to : Nat → Nat) (ofr : Nat → Nat) (oto : Nat → Nat) (hc : CIv I S k n h fr to ofr oto) : vx_Met l yX6_meanValue (Cond.code yX6_meanValue cX6_meanValue 9 (some .double) :: wsL_law) ({ frames := 9, cells := 5, slots := 30, locals := 154 }) (va_Pc [.ref (ad 0), .int b, .int d, .int t] (rxB D cy (wC cy ad I S))) (rdD (fun r => gc I b d t ∧ mmN S b d t k en ≠ 0 ∧ r = FP.ddiv (FP.l2d (ttN S b d t k en)) (FP.i2d (nI (mmN S b d t k en))))) (xR (fun E => gx I b d t E ∨ (E = eARE ∧ gc I b d t ∧ mmN S b d t k en = 0))) 5 30 noA := by
  refine enterX (cc := cX6_meanValue) (by decide) (Nat.le_of_ble_eq_true rfl) ?_
  intro p e s m below meth c hx hb hr hml hown hts hlocks hT hv Q hQ ls hl
  obtain ⟨hP, hK, hE, hZ⟩ := hv
  have hown : s.vm.findClass RX6 = some m.cls := hown
  have hl : lv_has ls 9 [(0, .ref (ad 0)), (1, .int b), (2, .int d), (3, .int t)] := hl
  obtain ⟨hn, hn6, hk, hk3, hh, hhn, hfr, hfo, hch⟩ := hc
  have hk8 : k ≤ 180 := by omega
  refine lv_aload_n hx hb dX6_meanValue_0 rfl (lv_at hl 0 rfl) ?_
  refine lv_iload_n hx hb dX6_meanValue_1 rfl (lv_at hl 1 rfl) ?_
  refine xR_call (vx_runV (As := [.int b]) (rest := []) ⟨hx, hb, hml, hown, hts⟩ (c_X6_requireAttributeNumber l hl0 D cy ad I S b) (cw_X6_204 hts rfl rfl ⟨Nat.le_of_ble_eq_true rfl, Nat.le_of_ble_eq_true rfl⟩) (preVRX (ci := 6) (q0 := 0) hK hE hZ hP rfl rfl) rfl rfl hl.1 rfl (lv_room (Nat.le_of_ble_eq_true rfl)) dX6_meanValue_2 ⟨Nat.le_of_ble_eq_true rfl, Nat.le_of_ble_eq_true rfl⟩) hT hlocks hQ (Nat.le_of_ble_eq_true rfl) (Nat.le_of_ble_eq_true rfl) (fun E h => Or.inl (Or.inl ⟨h.1, h.2⟩)) (fun q2_1 => ?_)
  refine lv_aload_n hx hb dX6_meanValue_5 rfl (lv_at hl 0 rfl) ?_
  refine lv_iload_n hx hb dX6_meanValue_6 rfl (lv_at hl 2 rfl) ?_
  refine lv_iload_n hx hb dX6_meanValue_7 rfl (lv_at hl 3 rfl) ?_
  refine xR_call (vx_runV (As := [.int d, .int t]) (rest := []) ⟨hx, hb, hml, hown, hts⟩ (c_X6_requireDayAndTick l hl0 D cy ad I S d t) (cw_X6_160 hts rfl rfl ⟨Nat.le_of_ble_eq_true rfl, Nat.le_of_ble_eq_true rfl⟩) (preVRX (ci := 6) (q0 := 0) hK hE hZ hP rfl rfl) rfl rfl hl.1 rfl (lv_room (Nat.le_of_ble_eq_true rfl)) dX6_meanValue_8 ⟨Nat.le_of_ble_eq_true rfl, Nat.le_of_ble_eq_true rfl⟩) hT hlocks hQ (Nat.le_of_ble_eq_true rfl) (Nat.le_of_ble_eq_true rfl) (fun E h => Or.inl (Or.inr (h.elim (fun h => Or.inl ⟨h.1, q2_1, h.2⟩) (fun h => Or.inr ⟨h.1, q2_1, h.2⟩)))) (fun q8_2 => ?_)
  refine lv_lconst (v := 0) hx hb dX6_meanValue_11 (by decide) ?_
  refine lv_lstore (lv' := [(4, .long 0), (0, .ref (ad 0)), (1, .int b), (2, .int d), (3, .int t)]) hx hb dX6_meanValue_12 hl (by decide) rfl (fun ls hl => ?_)
  refine lv_iconst (v := 0) hx hb dX6_meanValue_14 (by decide) ?_
  refine lv_istore (lv' := [(6, .int 0), (4, .long 0), (0, .ref (ad 0)), (1, .int b), (2, .int d), (3, .int t)]) hx hb dX6_meanValue_15 hl (by decide) rfl (fun ls hl => ?_)
  refine lv_iconst (v := 0) hx hb dX6_meanValue_17 (by decide) ?_
  refine lv_istore (lv' := [(7, .int 0), (6, .int 0), (4, .long 0), (0, .ref (ad 0)), (1, .int b), (2, .int d), (3, .int t)]) hx hb dX6_meanValue_18 hl (by decide) rfl (fun ls hl => ?_)
  have L20 : ∀ (n_20 i : Nat), i ≤ en → en + 1 ≤ i + n_20 → ∀ (ls : Array Slot), lv_has ls 9 [(7, .int (nI i)), (6, .int (nI (mmN S b d t k i))), (4, .long (ttN S b d t k i)), (0, .ref (ad 0)), (1, .int b), (2, .int d), (3, .int t)] → W p l e { frames := 9, cells := 5, slots := 30, locals := 154 } s m ([.ref (ad 0), .int b, .int d, .int t] : List Value).toArray below meth c s.heap [] 4 24 Q (F0 m 20 ls []) := by
    clear hl
    intro n_20
    induction n_20 with
    | zero => intro i  hle_20 hn_20; exact absurd hn_20 (by omega)
    | succ n_20 ih20 =>
      intro i  hle_20 hn_20   ls hl
      have hmm := mm_le S b d t k i
      refine lv_iload hx hb dX6_meanValue_20 (lv_at hl 0 rfl) ?_
      refine lv_aload_n hx hb dX6_meanValue_22 rfl (lv_at hl 3 rfl) ?_
      refine gf_X6_30 hx hb hts hown hK hP 0 rfl (v := .int (I 0)) rfl dX6_meanValue_23 ?_
      refine top_eq hen ?_
      refine lv_icmp_ge (tgt := 76) hx hb dX6_meanValue_26 (by decide) (fun c26_3 => ?_) (fun c26_3 => ?_)
      · have fe : en ≤ i := nt_le (a := en) (b := i) (by omega) (by omega) c26_3
        obtain rfl : i = en := by omega
        refine lv_iload hx hb dX6_meanValue_76 (lv_at hl 1 rfl) ?_
        refine lv_if_ne (tgt := 91) hx hb dX6_meanValue_78 (by decide) (fun c78_4 => ?_) (fun c78_4 => ?_)
        · have f78_4 : (mmN S b d t k i) ≠ 0 := nt_ne (a := (mmN S b d t k i)) (b := 0) (by omega) (by omega) c78_4
          refine lv_lload hx hb dX6_meanValue_91 (lv_at hl 2 rfl) ?_
          refine lv_l2d hx hb dX6_meanValue_93 ?_
          refine lv_iload hx hb dX6_meanValue_94 (lv_at hl 1 rfl) ?_
          refine lv_i2d hx hb dX6_meanValue_96 ?_
          refine lv_ddiv hx hb dX6_meanValue_97 (dv_ok _ (by omega) (by omega)) ?_
          exact xD_ret hx hb hr hlocks dX6_meanValue_98 hQ ⟨⟨q2_1, q8_2⟩, f78_4, rfl⟩ (Nat.le_of_ble_eq_true rfl) (Nat.le_of_ble_eq_true rfl)
        · have f78_4 : (mmN S b d t k i) = 0 := nt_eq (a := (mmN S b d t k i)) (b := 0) (by omega) (by omega) c78_4
          exact th_ARE (A := noA) (List.mem_of_getElem? (i := 4) rfl) hx hb hl0 hown hts hE hZ va_S.rf (hl.1.trans hml.symm) dX6_meanValue_81 dX6_meanValue_84 dX6_meanValue_85 dX6_meanValue_87 dX6_meanValue_90 hT (Nat.le_of_ble_eq_true rfl) (Nat.le_of_ble_eq_true rfl) (Nat.le_of_ble_eq_true rfl) (Nat.le_of_ble_eq_true rfl) hlocks (Nat.le_of_ble_eq_true rfl) (Nat.le_of_ble_eq_true rfl) (fun _ h => by cases h) hQ (fun t _ hz hk => ⟨(), trivial, Or.inr ⟨rfl, ⟨q2_1, q8_2⟩, f78_4⟩, hz, fun q hq _ => hk q hq⟩)
      · have f26_3 : i < en := nt_nle (a := en) (b := i) (by omega) (by omega) c26_3
        refine lv_aload_n hx hb dX6_meanValue_29 rfl (lv_at hl 3 rfl) ?_
        refine gf_X6_19 hx hb hts hown hK hP 0 rfl (v := .ref (ad 7)) rfl dX6_meanValue_30 ?_
        refine lv_iload hx hb dX6_meanValue_33 (lv_at hl 0 rfl) ?_
        refine lv_iload_n hx hb dX6_meanValue_35 rfl (lv_at hl 4 rfl) ?_
        refine rI_call (va_runS (As := [.int (nI i), .int b]) (rest := [.ref (ad 7)]) ⟨hx, hb, hml, hown, hts⟩ (c_X6_slotOf l D cy (nI i) b) (cw_X6_75 hts rfl rfl ⟨Nat.le_of_ble_eq_true rfl, Nat.le_of_ble_eq_true rfl⟩) (preSR hK (hP.sub [] rfl)) rfl rfl hl.1 rfl (lv_room (Nat.le_of_ble_eq_true rfl)) dX6_meanValue_36 ⟨Nat.le_of_ble_eq_true rfl, Nat.le_of_ble_eq_true rfl⟩) (fun r hr_ => ?_)
        subst hr_
        refine lv_iload_n hx hb dX6_meanValue_39 rfl (lv_at hl 5 rfl) ?_
        refine lv_iload_n hx hb dX6_meanValue_40 rfl (lv_at hl 6 rfl) ?_
        refine rI_call (va_runV (As := [.int (slI (nI i) b), .int d, .int t]) (rest := []) ⟨hx, hb, hml, hown, hts⟩ (c_X0_find l D cy ad I S (slI (nI i) b) d t k hk (by omega)) (cw_X6_106 hts rfl rfl ⟨Nat.le_of_ble_eq_true rfl, Nat.le_of_ble_eq_true rfl⟩) (preVR (ci := 0) (q0 := 0) hK (hP.sub [7, 8, 9, 10, 11, 12, 13] rfl) rfl rfl) rfl rfl hl.1 rfl (lv_room (Nat.le_of_ble_eq_true rfl)) dX6_meanValue_41 ⟨Nat.le_of_ble_eq_true rfl, Nat.le_of_ble_eq_true rfl⟩) (fun r41_5 q41_5 => ?_)
        rcases q41_5 with ⟨j, hj, rfl, hh_, hm_⟩ | ⟨rfl, hno_⟩
        · have hfe := fnd1 hk8 hj hh_ hm_
          refine lv_istore (lv' := [(8, .int (nI j)), (7, .int (nI i)), (6, .int (nI (mmN S b d t k i))), (4, .long (ttN S b d t k i)), (0, .ref (ad 0)), (1, .int b), (2, .int d), (3, .int t)]) hx hb dX6_meanValue_44 hl (by decide) rfl (fun ls hl => ?_)
          refine lv_iload hx hb dX6_meanValue_46 (lv_at hl 0 rfl) ?_
          refine lv_iconst (v := (-1)) hx hb dX6_meanValue_48 (by decide) ?_
          refine lv_icmp_eq (tgt := 70) hx hb dX6_meanValue_49 (by decide) (fun c => absurd c (nI_m1 (by omega))) (fun _ => ?_)
          refine lv_lload hx hb dX6_meanValue_52 (lv_at hl 3 rfl) ?_
          refine lv_aload_n hx hb dX6_meanValue_54 rfl (lv_at hl 4 rfl) ?_
          refine gf_X6_19 hx hb hts hown hK hP 0 rfl (v := .ref (ad 7)) rfl dX6_meanValue_55 ?_
          refine lv_iload hx hb dX6_meanValue_58 (lv_at hl 0 rfl) ?_
          refine rI_call (va_runV (As := [.int (nI j)]) (rest := [.long (ttN S b d t k i)]) ⟨hx, hb, hml, hown, hts⟩ (c_X0_value l D cy ad I S j (by omega)) (cw_X6_140 hts rfl rfl ⟨Nat.le_of_ble_eq_true rfl, Nat.le_of_ble_eq_true rfl⟩) (preVR (ci := 0) (q0 := 0) hK (hP.sub [7, 8, 9, 10, 11, 12, 13] rfl) rfl rfl) rfl rfl hl.1 rfl (lv_room (Nat.le_of_ble_eq_true rfl)) dX6_meanValue_60 ⟨Nat.le_of_ble_eq_true rfl, Nat.le_of_ble_eq_true rfl⟩) (fun r hr_ => ?_)
          subst hr_
          refine top_eq (y := ((S 9) j)) rfl ?_
          refine lv_i2l (v := ((S 9) j).toInt64) hx hb dX6_meanValue_63 rfl ?_
          refine lv_ladd hx hb dX6_meanValue_64 ?_
          refine lv_lstore (lv' := [(4, .long ((ttN S b d t k i) + (((S 9) j).toInt64))), (8, .int (nI j)), (7, .int (nI i)), (6, .int (nI (mmN S b d t k i))), (0, .ref (ad 0)), (1, .int b), (2, .int d), (3, .int t)]) hx hb dX6_meanValue_65 hl (by decide) rfl (fun ls hl => ?_)
          refine lv_iinc (v := (nI ((mmN S b d t k i) + 1))) (lv' := [(6, .int (nI ((mmN S b d t k i) + 1))), (4, .long ((ttN S b d t k i) + (((S 9) j).toInt64))), (8, .int (nI j)), (7, .int (nI i)), (0, .ref (ad 0)), (1, .int b), (2, .int d), (3, .int t)]) hx hb dX6_meanValue_67 hl (k := 3) rfl (nI_1 (mmN S b d t k i)) (by decide) rfl (fun ls hl => ?_)
          refine lv_iinc (v := (nI (i + 1))) (lv' := [(7, .int (nI (i + 1))), (6, .int (nI ((mmN S b d t k i) + 1))), (4, .long ((ttN S b d t k i) + (((S 9) j).toInt64))), (8, .int (nI j)), (0, .ref (ad 0)), (1, .int b), (2, .int d), (3, .int t)]) hx hb dX6_meanValue_70 hl (k := 3) rfl (nI_1 i) (by decide) rfl (fun ls hl => ?_)
          refine lv_goto (tgt := 20) hx hb dX6_meanValue_73 (by decide) ?_
          have e_6 : (nI ((mmN S b d t k i) + 1)) = (nI (mmN S b d t k (i + 1))) := (by rw [mm_1 (by omega) hfe])
          have e_7 : ((ttN S b d t k i) + (((S 9) j).toInt64)) = (ttN S b d t k (i + 1)) := (tt_1 (by omega) hfe).symm
          have hl : lv_has ls 9 [(7, .int (nI (i + 1))), (6, .int (nI (mmN S b d t k (i + 1)))), (4, .long (ttN S b d t k (i + 1))), (8, .int (nI j)), (0, .ref (ad 0)), (1, .int b), (2, .int d), (3, .int t)] := by rw [← e_6, ← e_7]; exact hl
          exact ih20 (i + 1) (by omega) (by omega) ls (lv_sub hl [0, 1, 2, 4, 5, 6, 7] rfl)
        · have hfe := fnd0 hno_
          refine lv_istore (lv' := [(8, .int (-1)), (7, .int (nI i)), (6, .int (nI (mmN S b d t k i))), (4, .long (ttN S b d t k i)), (0, .ref (ad 0)), (1, .int b), (2, .int d), (3, .int t)]) hx hb dX6_meanValue_44 hl (by decide) rfl (fun ls hl => ?_)
          refine lv_iload hx hb dX6_meanValue_46 (lv_at hl 0 rfl) ?_
          refine lv_iconst (v := (-1)) hx hb dX6_meanValue_48 (by decide) ?_
          refine lv_icmp_eq (tgt := 70) hx hb dX6_meanValue_49 (by decide) (fun _ => ?_) (fun c => absurd (by decide) c)
          refine lv_iinc (v := (nI (i + 1))) (lv' := [(7, .int (nI (i + 1))), (8, .int (-1)), (6, .int (nI (mmN S b d t k i))), (4, .long (ttN S b d t k i)), (0, .ref (ad 0)), (1, .int b), (2, .int d), (3, .int t)]) hx hb dX6_meanValue_70 hl (k := 1) rfl (nI_1 i) (by decide) rfl (fun ls hl => ?_)
          refine lv_goto (tgt := 20) hx hb dX6_meanValue_73 (by decide) ?_
          have e_8 : (nI (mmN S b d t k i)) = (nI (mmN S b d t k (i + 1))) := (by rw [mm_0 hfe])
          have e_9 : (ttN S b d t k i) = (ttN S b d t k (i + 1)) := (tt_0 hfe).symm
          have hl : lv_has ls 9 [(7, .int (nI (i + 1))), (8, .int (-1)), (6, .int (nI (mmN S b d t k (i + 1)))), (4, .long (ttN S b d t k (i + 1))), (0, .ref (ad 0)), (1, .int b), (2, .int d), (3, .int t)] := by rw [← e_8, ← e_9]; exact hl
          exact ih20 (i + 1) (by omega) (by omega) ls (lv_sub hl [0, 2, 3, 4, 5, 6, 7] rfl)
  exact L20 (en + 1) 0 (by omega) (by omega) ls (lv_sub hl [0, 1, 2, 3, 4, 5, 6] rfl)
