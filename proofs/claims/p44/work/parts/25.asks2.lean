theorem cw_X6_163 {R : Room} {s : State} {args : Array Value} {rm : Room} {mc ms : Nat} (hts : ∀ w ∈ wsL_law, w.before args s = true) (hrc : rm.cells = mc) (hrs : rm.slots = ms) (hR : rm.frames + 1 ≤ R.frames ∧ 8 + (5 + 11) + rm.locals ≤ R.locals) : CallW R s args RX6 RX3 163 yX3_replayInto cX3_replayInto 5 none (Cond.code yX3_replayInto cX3_replayInto 5 none :: wsL_law) rm mc ms 3 := cwV 3 hts (gUV wm_388 wm_389 wm_390 wm_14 wm_391) rfl hrc hrs (by decide +kernel) hR
theorem cw_X6_200 {R : Room} {s : State} {args : Array Value} {rm : Room} {mc ms : Nat} (hts : ∀ w ∈ wsL_law, w.before args s = true) (hrc : rm.cells = mc) (hrs : rm.slots = ms) (hR : rm.frames + 1 ≤ R.frames ∧ 8 + (4 + 11) + rm.locals ≤ R.locals) : CallW R s args RX6 RX1 200 yX1_countDifferent cX1_countDifferent 4 (some .int) (Cond.code yX1_countDifferent cX1_countDifferent 4 (some .int) :: wsL_law) rm mc ms 1 := cwV 1 hts (gUV wm_402 wm_403 wm_404 wm_27 wm_405) rfl hrc hrs (by decide +kernel) hR
set_option maxHeartbeats 4000000 in
set_option maxRecDepth 100000 in
theorem c_X6_isSlotConsistent (l : Launch) (D : va_G) (cy : Nat → ClassId) (ad : Nat → Nat) (I : AI) (S : AS) (sz : Nat) (sl : Int32) (k : Nat) (n : Nat) (h : Nat) (fr : Nat → Nat) (to : Nat → Nat) (ofr : Nat → Nat) (oto : Nat → Nat) (hc : CIv I S k n h fr to ofr oto) (hcn : conP S sl n k fr to ofr oto (S 17) (S 18) (S 20) (S 21)) : Met l yX6_isSlotConsistent (Cond.code yX6_isSlotConsistent cX6_isSlotConsistent 3 (some .boolean) :: wsL_law) ({ frames := 4, cells := 0, slots := 0, locals := 93 }) (va_Pc [.ref (ad 0), .int sl] (wrB D cy (wC cy ad I S) sz)) (va_Qi (S := Unit) (fun r u => r = 1) (fun u t9 => va_P D clW (wC cy ad I (va_up (va_up (va_up (va_up S 17 (rdKN S sl (nI n) fr to (S 17) k)) 18 (rdVN S sl (nI n) fr to (S 18) k)) 20 (rpKN S sl ofr oto (S 20) n)) 21 (rpVN S sl ofr oto (S 21) n))) t9.heap) (va_A (wC cy ad I S) sz)) 0 0 (va_A (wC cy ad I S) sz) := by
  refine enter (cc := cX6_isSlotConsistent) (by decide) (Nat.le_of_ble_eq_true rfl) ?_
  intro p e s m below meth c hx hb hr hml hown hts hlocks hin hv Q hQ ls hl
  obtain ⟨hsz, hP, hK, hD0⟩ := hv
  subst hsz
  have hD := hD0.self (sz := s.heap.size)
  generalize hAe : va_A (wC cy ad I S) s.heap.size = A at hD hQ ⊢
  have hA : ∀ q : Nat, s.heap.size ≤ q → A q := fun q h => by rw [← hAe]; exact Or.inr h
  have hS : va_S A s.heap s.heap [] := va_S.rf
  suffices K_ : ∀ (H : Heap) (locs : List Loc), va_P D clW (wC cy ad I S) H → va_S A s.heap H locs → W p l e ({ frames := 4, cells := 0, slots := 0, locals := 93 }) s m ([.ref (ad 0), .int sl] : List Value).toArray below meth c H locs 0 0 Q (F0 m 0 ls []) from K_ _ _ hP hS
  clear hP hS
  intro H locs hP hS
  have hown : s.vm.findClass RX6 = some m.cls := hown
  have hl : lv_has ls 3 [(0, .ref (ad 0)), (1, .int sl)] := hl
  obtain ⟨hn, hn6, hk, hk3, hh, hhn, hfr, hfo, hch⟩ := id hc
  have hk8 : k ≤ 180 := by omega
  refine lv_aload_n hx hb dX6_isSlotConsistent_0 rfl (lv_at hl 0 rfl) ?_
  refine gf_X6_12 hx hb hts hown hK hP 0 rfl (v := .ref (ad 1)) rfl dX6_isSlotConsistent_1 ?_
  refine rI_call (va_runV (As := []) (rest := []) ⟨hx, hb, hml, hown, hts⟩ (c_X3_now l D cy ad I S) (cw_X6_83 hts rfl rfl ⟨Nat.le_of_ble_eq_true rfl, Nat.le_of_ble_eq_true rfl⟩) (preVR (ci := 3) (q0 := 0) hK (hP.sub [1, 2, 3, 4, 5, 6] rfl) rfl rfl) rfl rfl hl.1 rfl (lv_room (Nat.le_of_ble_eq_true rfl)) dX6_isSlotConsistent_4 ⟨Nat.le_of_ble_eq_true rfl, Nat.le_of_ble_eq_true rfl⟩) (fun r hr_ => ?_)
  subst hr_
  refine top_eq hn ?_
  refine lv_istore_n (lv' := [(2, .int (nI n)), (0, .ref (ad 0)), (1, .int sl)]) hx hb dX6_isSlotConsistent_7 rfl hl (by decide) rfl (fun ls hl => ?_)
  refine lv_aload_n hx hb dX6_isSlotConsistent_8 rfl (lv_at hl 1 rfl) ?_
  refine gf_X6_19 hx hb hts hown hK hP 0 rfl (v := .ref (ad 7)) rfl dX6_isSlotConsistent_9 ?_
  refine lv_aload_n hx hb dX6_isSlotConsistent_12 rfl (lv_at hl 1 rfl) ?_
  refine gf_X6_37 hx hb hts hown hK hP 0 rfl (v := .ref (ad 16)) rfl dX6_isSlotConsistent_13 ?_
  refine lv_iload_n hx hb dX6_isSlotConsistent_16 rfl (lv_at hl 2 rfl) ?_
  refine lv_iload_n hx hb dX6_isSlotConsistent_17 rfl (lv_at hl 0 rfl) ?_
  refine wV_call (va_runV (As := [.ref (ad 16), .int sl, .int (nI n)]) (rest := []) ⟨hx, hb, hml, hown, hts⟩ (c_X0_readInto_16 l D cy ad I S H.size sl (nI n) k hk (by omega) fr to hfr) (cw_X6_187 hts rfl rfl ⟨Nat.le_of_ble_eq_true rfl, Nat.le_of_ble_eq_true rfl⟩) (preVW (ci := 0) (q0 := 0) hK (hP.sub [7, 8, 9, 10, 11, 12, 13, 16, 17, 18] rfl) (hD.sub [7, 8, 9, 10, 11, 12, 13, 16, 17, 18] (by decide) rfl) rfl rfl) rfl rfl hl.1 rfl (lv_room (Nat.le_of_ble_eq_true rfl)) dX6_isSlotConsistent_18 ⟨Nat.le_of_ble_eq_true rfl, Nat.le_of_ble_eq_true rfl⟩) hP hD hS hA [7, 8, 9, 10, 11, 12, 13, 16, 17, 18] rfl [.inl 0, .inl 1, .inl 2, .inl 3, .inl 4, .inl 5, .inl 6, .inr 0, .inr 1, .inr 2, .inr 3, .inr 4, .inr 5, .inr 6, .inl 14, .inl 15, .inr 7, .inr 8, .inr 9, .inl 19, .inl 20, .inl 21, .inl 22, .inl 23, .inl 24, .inl 25, .inl 26, .inl 27, .inl 28] (by decide) (fun u => (wC cy ad I (va_up (va_up S 17 (rdKN S sl (nI n) fr to (S 17) k)) 18 (rdVN S sl (nI n) fr to (S 18) k)))) (fun _ => rfl) (fun _ => rfl) (fun u18_1 H locs q18_1 hP hD hS hkp => ?_)
  have hP : va_P D clW (wC cy ad I (va_up (va_up S 17 (rdKN S sl (nI n) fr to (S 17) k)) 18 (rdVN S sl (nI n) fr to (S 18) k))) H := hP
  have hD : va_D A (wC cy ad I (va_up (va_up S 17 (rdKN S sl (nI n) fr to (S 17) k)) 18 (rdVN S sl (nI n) fr to (S 18) k))) := hD
  refine lv_aload_n hx hb dX6_isSlotConsistent_21 rfl (lv_at hl 1 rfl) ?_
  refine gf_X6_12 hx hb hts hown hK hP 0 rfl (v := .ref (ad 1)) rfl dX6_isSlotConsistent_22 ?_
  refine lv_aload_n hx hb dX6_isSlotConsistent_25 rfl (lv_at hl 1 rfl) ?_
  refine gf_X6_41 hx hb hts hown hK hP 0 rfl (v := .ref (ad 19)) rfl dX6_isSlotConsistent_26 ?_
  refine lv_iload_n hx hb dX6_isSlotConsistent_29 rfl (lv_at hl 2 rfl) ?_
  refine lv_iload_n hx hb dX6_isSlotConsistent_30 rfl (lv_at hl 0 rfl) ?_
  refine wV_call (va_runV (As := [.ref (ad 19), .int sl, .int (nI n)]) (rest := []) ⟨hx, hb, hml, hown, hts⟩ (c_X3_replayInto_19 l D cy ad I S H.size sl n n hn (by omega) (Nat.le_refl n) ofr oto hfo) (cw_X6_163 hts rfl rfl ⟨Nat.le_of_ble_eq_true rfl, Nat.le_of_ble_eq_true rfl⟩) (preVW (ci := 3) (q0 := 0) hK (hP.sub [1, 2, 3, 4, 5, 6, 19, 20, 21] rfl) (hD.sub [1, 2, 3, 4, 5, 6, 19, 20, 21] (by decide) rfl) rfl rfl) rfl rfl hl.1 rfl (lv_room (Nat.le_of_ble_eq_true rfl)) dX6_isSlotConsistent_31 ⟨Nat.le_of_ble_eq_true rfl, Nat.le_of_ble_eq_true rfl⟩) hP hD hS hA [1, 2, 3, 4, 5, 6, 19, 20, 21] rfl [.inl 0, .inr 0, .inr 1, .inr 2, .inr 3, .inr 4, .inr 5, .inl 7, .inl 8, .inl 9, .inl 10, .inl 11, .inl 12, .inl 13, .inl 14, .inl 15, .inl 16, .inl 17, .inl 18, .inr 6, .inr 7, .inr 8, .inl 22, .inl 23, .inl 24, .inl 25, .inl 26, .inl 27, .inl 28] (by decide) (fun u => (wC cy ad I (va_up (va_up (va_up (va_up S 17 (rdKN S sl (nI n) fr to (S 17) k)) 18 (rdVN S sl (nI n) fr to (S 18) k)) 20 (rpKN S sl ofr oto (S 20) n)) 21 (rpVN S sl ofr oto (S 21) n)))) (fun _ => rfl) (fun _ => rfl) (fun u31_2 H locs q31_2 hP hD hS hkp => ?_)
  have hP : va_P D clW (wC cy ad I (va_up (va_up (va_up (va_up S 17 (rdKN S sl (nI n) fr to (S 17) k)) 18 (rdVN S sl (nI n) fr to (S 18) k)) 20 (rpKN S sl ofr oto (S 20) n)) 21 (rpVN S sl ofr oto (S 21) n))) H := hP
  have hD : va_D A (wC cy ad I (va_up (va_up (va_up (va_up S 17 (rdKN S sl (nI n) fr to (S 17) k)) 18 (rdVN S sl (nI n) fr to (S 18) k)) 20 (rpKN S sl ofr oto (S 20) n)) 21 (rpVN S sl ofr oto (S 21) n))) := hD
  refine lv_aload_n hx hb dX6_isSlotConsistent_34 rfl (lv_at hl 1 rfl) ?_
  refine gf_X6_19 hx hb hts hown hK hP 0 rfl (v := .ref (ad 7)) rfl dX6_isSlotConsistent_35 ?_
  refine lv_iload_n hx hb dX6_isSlotConsistent_38 rfl (lv_at hl 2 rfl) ?_
  refine lv_iconst (v := 0) hx hb dX6_isSlotConsistent_39 (by decide) ?_
  refine lv_bipush (v := 100) hx hb dX6_isSlotConsistent_40 (by decide) ?_
  refine lv_iload_n hx hb dX6_isSlotConsistent_42 rfl (lv_at hl 0 rfl) ?_
  refine rI_call (va_runV (As := [.int sl, .int 0, .int 100, .int (nI n)]) (rest := []) ⟨hx, hb, hml, hown, hts⟩ (c_X0_countDays l D cy ad I S sl 0 100 (nI n) k hk (by omega)) (cw_X6_87 hts rfl rfl ⟨Nat.le_of_ble_eq_true rfl, Nat.le_of_ble_eq_true rfl⟩) (preVR (ci := 0) (q0 := 0) hK (hP.sub [7, 8, 9, 10, 11, 12, 13] rfl) rfl rfl) rfl rfl hl.1 rfl (lv_room (Nat.le_of_ble_eq_true rfl)) dX6_isSlotConsistent_43 ⟨Nat.le_of_ble_eq_true rfl, Nat.le_of_ble_eq_true rfl⟩) (fun r hr_ => ?_)
  subst hr_
  refine lv_aload_n hx hb dX6_isSlotConsistent_46 rfl (lv_at hl 1 rfl) ?_
  refine gf_X6_37 hx hb hts hown hK hP 0 rfl (v := .ref (ad 16)) rfl dX6_isSlotConsistent_47 ?_
  refine lv_aload_n hx hb dX6_isSlotConsistent_50 rfl (lv_at hl 1 rfl) ?_
  refine gf_X6_37 hx hb hts hown hK hP 0 rfl (v := .ref (ad 16)) rfl dX6_isSlotConsistent_51 ?_
  refine rI_call (va_runV (As := [.ref (ad 16)]) (rest := [.int (cdN S sl 0 100 (nI n) k)]) ⟨hx, hb, hml, hown, hts⟩ (c_X1_countCommon_16_16 l D cy ad (va_up (va_up (va_up (va_up S 17 (rdKN S sl (nI n) fr to (S 17) k)) 18 (rdVN S sl (nI n) fr to (S 18) k)) 20 (rpKN S sl ofr oto (S 20) n)) 21 (rpVN S sl ofr oto (S 21) n))) (cw_X6_227 hts rfl rfl ⟨Nat.le_of_ble_eq_true rfl, Nat.le_of_ble_eq_true rfl⟩) (preVR (ci := 1) (q0 := 0) hK (hP.sub [16, 17, 18] rfl) rfl rfl) rfl rfl hl.1 rfl (lv_room (Nat.le_of_ble_eq_true rfl)) dX6_isSlotConsistent_54 ⟨Nat.le_of_ble_eq_true rfl, Nat.le_of_ble_eq_true rfl⟩) (fun r hr_ => ?_)
  subst hr_
  refine top_eq hcn.1.symm ?_
  refine lv_icmp_ne (tgt := 78) hx hb dX6_isSlotConsistent_57 (by decide) (fun c => absurd rfl c) (fun _ => ?_)
  refine lv_aload_n hx hb dX6_isSlotConsistent_60 rfl (lv_at hl 1 rfl) ?_
  refine gf_X6_37 hx hb hts hown hK hP 0 rfl (v := .ref (ad 16)) rfl dX6_isSlotConsistent_61 ?_
  refine lv_aload_n hx hb dX6_isSlotConsistent_64 rfl (lv_at hl 1 rfl) ?_
  refine gf_X6_41 hx hb hts hown hK hP 0 rfl (v := .ref (ad 19)) rfl dX6_isSlotConsistent_65 ?_
  refine rI_call (va_runV (As := [.ref (ad 19)]) (rest := []) ⟨hx, hb, hml, hown, hts⟩ (c_X1_countDifferent_16_19 l D cy ad (va_up (va_up (va_up (va_up S 17 (rdKN S sl (nI n) fr to (S 17) k)) 18 (rdVN S sl (nI n) fr to (S 18) k)) 20 (rpKN S sl ofr oto (S 20) n)) 21 (rpVN S sl ofr oto (S 21) n))) (cw_X6_200 hts rfl rfl ⟨Nat.le_of_ble_eq_true rfl, Nat.le_of_ble_eq_true rfl⟩) (preVR (ci := 1) (q0 := 0) hK (hP.sub [16, 17, 18, 19, 20, 21] rfl) rfl rfl) rfl rfl hl.1 rfl (lv_room (Nat.le_of_ble_eq_true rfl)) dX6_isSlotConsistent_68 ⟨Nat.le_of_ble_eq_true rfl, Nat.le_of_ble_eq_true rfl⟩) (fun r hr_ => ?_)
  subst hr_
  refine top_eq hcn.2 ?_
  refine lv_if_ne (tgt := 78) hx hb dX6_isSlotConsistent_71 (by decide) (fun c => absurd (by decide) c) (fun _ => ?_)
  refine lv_iconst (v := 1) hx hb dX6_isSlotConsistent_74 (by decide) ?_
  refine lv_goto (tgt := 79) hx hb dX6_isSlotConsistent_75 (by decide) ?_
  have hP : va_P D clW (wC cy ad I (va_up (va_up (va_up (va_up S 17 (rdKN S sl (nI n) fr to (S 17) k)) 18 (rdVN S sl (nI n) fr to (S 18) k)) 20 (rpKN S sl ofr oto (S 20) n)) 21 (rpVN S sl ofr oto (S 21) n))) H := hP
  have hD : va_D A (wC cy ad I (va_up (va_up (va_up (va_up S 17 (rdKN S sl (nI n) fr to (S 17) k)) 18 (rdVN S sl (nI n) fr to (S 18) k)) 20 (rpKN S sl ofr oto (S 20) n)) 21 (rpVN S sl ofr oto (S 21) n))) := hD.addr rfl
  exact wZ_ret () hS hP hx hb hr hlocks dX6_isSlotConsistent_79 narZ1 (Nat.le_of_ble_eq_true rfl) (Nat.le_of_ble_eq_true rfl) hQ rfl
