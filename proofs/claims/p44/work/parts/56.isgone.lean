set_option maxHeartbeats 4000000 in
set_option maxRecDepth 100000 in
theorem c_X6_requireFactG (l : Launch) (hl0 : l.stackTraces = false) (D : va_G) (cy : Nat → ClassId) (ad : Nat → Nat) (I : AI) (S : AS) (x : Int32) (sz : Nat) (k : Nat) (hk : I 2 = nI k) (hk8 : k ≤ 180) : vx_Met l yX6_requireFact (Cond.code yX6_requireFact cX6_requireFact 2 none :: wsL_law) ({ frames := 6, cells := 1, slots := 6, locals := 90 }) (va_Pc [.ref (ad 0), .int x] (rxBz D cy (wC cy ad I S) sz)) (rdV (keptP S k (I 3) x)) (xRg (fun E => E = eNSE ∧ ¬ keptP S k (I 3) x) sz) 1 6 noA := by
  refine enterX (cc := cX6_requireFact) (by decide) (Nat.le_of_ble_eq_true rfl) ?_
  intro p e s m below meth c hx hb hr hml hown hts hlocks hT hv Q hQ ls hl
  obtain ⟨hsz, hP, hK, hE, hZ⟩ := hv
  have hown : s.vm.findClass RX6 = some m.cls := hown
  have hl : lv_has ls 2 [(0, .ref (ad 0)), (1, .int x)] := hl
  refine lv_aload_n hx hb dX6_requireFact_0 rfl (lv_at hl 0 rfl) ?_
  refine gf_X6_19 hx hb hts hown hK hP 0 rfl (v := .ref (ad 7)) rfl dX6_requireFact_1 ?_
  refine lv_iload_n hx hb dX6_requireFact_4 rfl (lv_at hl 1 rfl) ?_
  refine rZ_call (P := keptP S k ((I 3)) x) (va_runV (As := [.int x]) (rest := []) ⟨hx, hb, hml, hown, hts⟩ (c_X0_isKept l D cy ad I S x k hk hk8) (cw_X6_290 hts rfl rfl ⟨Nat.le_of_ble_eq_true rfl, Nat.le_of_ble_eq_true rfl⟩) (preVR (ci := 0) (q0 := 0) hK (hP.sub [7, 8, 9, 10, 11, 12, 13] rfl) rfl rfl) rfl rfl hl.1 rfl (lv_room (Nat.le_of_ble_eq_true rfl)) dX6_requireFact_5 ⟨Nat.le_of_ble_eq_true rfl, Nat.le_of_ble_eq_true rfl⟩) (fun b5_1 => ?_) (fun b5_1 => ?_)
  · refine lv_if_ne (tgt := 22) hx hb dX6_requireFact_8 (by decide) (fun _ => ?_) (fun c => absurd c (by decide))
    exact xV_ret hx hb hr hlocks dX6_requireFact_22 hQ b5_1 (Nat.le_of_ble_eq_true rfl) (Nat.le_of_ble_eq_true rfl)
  · refine lv_if_ne (tgt := 22) hx hb dX6_requireFact_8 (by decide) (fun c => absurd (by decide) c) (fun _ => ?_)
    exact thw_NSEg (A := noA) (List.mem_of_getElem? (i := 12) rfl) hx hb hl0 hown hts hE hZ va_S.rf (hl.1.trans hml.symm) dX6_requireFact_11 dX6_requireFact_14 dX6_requireFact_15 dX6_requireFact_18 dX6_requireFact_21 hT (Nat.le_of_ble_eq_true rfl) (Nat.le_of_ble_eq_true rfl) (Nat.le_of_ble_eq_true rfl) (Nat.le_of_ble_eq_true rfl) hlocks (Nat.le_of_ble_eq_true rfl) (Nat.le_of_ble_eq_true rfl) (fun _ h => by cases h) hQ (fun t _ hz hk => ⟨(), trivial, ⟨⟨rfl, b5_1⟩, by rw [← hsz]; exact hz⟩, Nat.le_of_lt hz, fun q hq _ => hk q hq⟩)
set_option maxHeartbeats 4000000 in
set_option maxRecDepth 100000 in
theorem c_X6_factToG (l : Launch) (hl0 : l.stackTraces = false) (D : va_G) (cy : Nat → ClassId) (ad : Nat → Nat) (I : AI) (S : AS) (x : Int32) (sz : Nat) (k : Nat) (n : Nat) (h : Nat) (fr : Nat → Nat) (to : Nat → Nat) (ofr : Nat → Nat) (oto : Nat → Nat) (hc : CIv I S k n h fr to ofr oto) : vx_Met l yX6_factTo (Cond.code yX6_factTo cX6_factTo 2 (some .int) :: wsL_law) ({ frames := 7, cells := 1, slots := 6, locals := 111 }) (va_Pc [.ref (ad 0), .int x] (rxBz D cy (wC cy ad I S) sz)) (rdI (fun r => keptP S k (I 3) x ∧ r = S 11 x.toNatClampNeg)) (xRg (fun E => E = eNSE ∧ ¬ keptP S k (I 3) x) sz) 1 6 noA := by
  refine enterX (cc := cX6_factTo) (by decide) (Nat.le_of_ble_eq_true rfl) ?_
  intro p e s m below meth c hx hb hr hml hown hts hlocks hT hv Q hQ ls hl
  obtain ⟨hsz, hP, hK, hE, hZ⟩ := hv
  subst hsz
  have hown : s.vm.findClass RX6 = some m.cls := hown
  have hl : lv_has ls 2 [(0, .ref (ad 0)), (1, .int x)] := hl
  obtain ⟨hn, hn6, hk, hk3, hh, hhn, hfr, hfo, hch⟩ := hc
  have hk8 : k ≤ 180 := by omega
  refine lv_aload_n hx hb dX6_factTo_0 rfl (lv_at hl 0 rfl) ?_
  refine lv_iload_n hx hb dX6_factTo_1 rfl (lv_at hl 1 rfl) ?_
  refine xRg_runV (vx_runV (As := [.int x]) (rest := []) ⟨hx, hb, hml, hown, hts⟩ (c_X6_requireFactG l hl0 D cy ad I S x s.heap.size k hk (by omega)) (cw_X6_137 hts rfl rfl ⟨Nat.le_of_ble_eq_true rfl, Nat.le_of_ble_eq_true rfl⟩) (preVRXz (ci := 6) (q0 := 0) hK hE hZ hP rfl rfl) rfl rfl hl.1 rfl (lv_room (Nat.le_of_ble_eq_true rfl)) dX6_factTo_2 ⟨Nat.le_of_ble_eq_true rfl, Nat.le_of_ble_eq_true rfl⟩) (fun E ce q9 H1 hp hz hk hce hcv hcl => xOutg rfl hT hlocks hce hcv hcl hp hz hk (Nat.le_of_ble_eq_true rfl) (Nat.le_of_ble_eq_true rfl) hQ) (fun q2_1 => ?_)
  obtain ⟨j, hj, rfl⟩ : ∃ j : Nat, j < k ∧ x = nI j := (pk_ix x (n := k) (by omega)).elim (fun q => absurd q q2_1.1) (fun q => q.elim (fun q => absurd q q2_1.2.1) (fun q => q))
  refine lv_aload_n hx hb dX6_factTo_5 rfl (lv_at hl 0 rfl) ?_
  refine gf_X6_19 hx hb hts hown hK hP 0 rfl (v := .ref (ad 7)) rfl dX6_factTo_6 ?_
  refine lv_iload_n hx hb dX6_factTo_9 rfl (lv_at hl 1 rfl) ?_
  refine rI_call (va_runV (As := [.int (nI j)]) (rest := []) ⟨hx, hb, hml, hown, hts⟩ (c_X0_dayAfter l D cy ad I S j (by omega)) (cw_X6_118 hts rfl rfl ⟨Nat.le_of_ble_eq_true rfl, Nat.le_of_ble_eq_true rfl⟩) (preVR (ci := 0) (q0 := 0) hK (hP.sub [7, 8, 9, 10, 11, 12, 13] rfl) rfl rfl) rfl rfl hl.1 rfl (lv_room (Nat.le_of_ble_eq_true rfl)) dX6_factTo_10 ⟨Nat.le_of_ble_eq_true rfl, Nat.le_of_ble_eq_true rfl⟩) (fun r hr_ => ?_)
  subst hr_
  refine top_eq (y := ((S 11) j)) rfl ?_
  exact xI_ret hx hb hr hlocks dX6_factTo_13 rfl hQ ⟨q2_1, by rw [nI_clamp (by omega)]⟩ (Nat.le_of_ble_eq_true rfl) (Nat.le_of_ble_eq_true rfl)
theorem cw_L_26 {R : Room} {s : State} {args : Array Value} {rm : Room} {mc ms : Nat} (hts : ∀ w ∈ wsL_law, w.before args s = true) (hrc : rm.cells = mc) (hrs : rm.slots = ms) (hR : rm.frames + 1 ≤ R.frames ∧ 8 + (2 + 11) + rm.locals ≤ R.locals) : CallW R s args RL RX6 26 yX6_factTo cX6_factTo 2 (some .int) (Cond.code yX6_factTo cX6_factTo 2 (some .int) :: wsL_law) rm mc ms 1 := cwV 1 hts (gUV wm_291 wm_292 wm_293 wm_2 wm_294) rfl hrc hrs (by decide +kernel) hR
set_option maxHeartbeats 4000000 in
set_option maxRecDepth 100000 in
theorem c_L_isGone (l : Launch) (hl0 : l.stackTraces = false) (D : va_G) (cy : Nat → ClassId) (ad : Nat → Nat) (I : AI) (S : AS) (sz : Nat) (x : Int32) (k n h : Nat) (fr to ofr oto : Nat → Nat) (hc : CIv I S k n h fr to ofr oto) : Met l yL_isGone (Cond.codeWith yL_isGone cL_isGone 3 (some .boolean) [(0, 13, 14, 19)] :: wsL_law) ({ frames := 8, cells := 1, slots := 6, locals := 132 }) (va_Pc [.ref (ad 0), .int x] (wxB D cy (wC cy ad I S) sz)) (va_Qi (S := Unit) (fun r _ => r = if keptP S k (I 3) x then 0 else 1) (fun _ t9 => va_P D clW (wC cy ad I S) t9.heap ∧ (¬ keptP S k (I 3) x → sz < t9.heap.size)) (va_A (wC cy ad I S) sz)) 1 6 (va_A (wC cy ad I S) sz) := by
  refine enterH (cc := cL_isGone) (by decide) (Nat.le_of_ble_eq_true rfl) ?_
  intro p e s m below meth c hx hb hr hml hown hts hlocks hT hv Q hQ ls hl
  obtain ⟨hsz, hP, hK, hD0, hE, hZ⟩ := hv
  subst hsz
  have hD := hD0.self (sz := s.heap.size)
  generalize hAe : va_A (wC cy ad I S) s.heap.size = A at hD hQ hZ ⊢
  have hA : ∀ q : Nat, s.heap.size ≤ q → A q := fun q h => by rw [← hAe]; exact Or.inr h
  have hS : va_S A s.heap s.heap [] := va_S.rf
  have hown : s.vm.findClass RL = some m.cls := hown
  have hl : lv_has ls 3 [(0, .ref (ad 0)), (1, .int x)] := hl
  have hto : ∀ j : Nat, keptP S k (I 3) x → (0 : Int32) ≤ S 11 x.toNatClampNeg := fun _ q => by
    obtain ⟨hn, hn6, hk, hk3, hh, hhn, hfr, hfo, hch⟩ := hc
    obtain ⟨j, hj, rfl⟩ : ∃ j : Nat, j < k ∧ x = nI j := (pk_ix x (n := k) (by omega)).elim (fun r => absurd r q.1) (fun r => r.elim (fun r => absurd r q.2.1) (fun r => r))
    have h9 := hfr j hj
    rw [nI_clamp (by omega), h9.2.1]
    exact nd_le (a := 0) (b := to j) (by omega) (by omega) (by omega)
  refine lv_aload_n hx hb dL_isGone_0 rfl (lv_at hl 0 rfl) ?_
  refine lv_iload_n hx hb dL_isGone_1 rfl (lv_at hl 1 rfl) ?_
  refine xrIg_call (vx_runV (As := [.int x]) (rest := []) ⟨hx, hb, hml, hown, hts⟩ (c_X6_factToG l hl0 D cy ad I S x s.heap.size k n h fr to ofr oto hc) (cw_L_26 hts rfl rfl ⟨(Nat.le_of_ble_eq_true rfl), (Nat.le_of_ble_eq_true rfl)⟩) (preVRXz (ci := 6) (q0 := 0) hK hE hZ.no hP rfl rfl) rfl rfl hl.1 rfl (lv_room (Nat.le_of_ble_eq_true rfl)) dL_isGone_2 ⟨(Nat.le_of_ble_eq_true rfl), (Nat.le_of_ble_eq_true rfl)⟩) (fun E ce q9 H1 hpx hz hk9 hce hcv hcl => ?_) (fun r hr_ => ?_)
  · obtain ⟨rfl, hnk⟩ := hpx
    have hP1 := keptP_all hP hk9
    have hS1 := keptS_all hS (Nat.le_of_lt hz) hk9
    refine ct_call (E := eNSE) hown hE [] [] hT ps0 (by decide) (by decide) (hts _ wm_149) (List.mem_of_getElem? (i := 3) rfl) hce hcv hcl ?_
    refine lv_astore_n (lv' := [(2, .ref q9), (0, .ref (ad 0)), (1, .int x)]) hx hb dL_isGone_14 rfl hl (by decide) rfl (fun ls hl => ?_)
    refine lv_iconst (v := 1) hx hb dL_isGone_15 (by decide) ?_
    exact gZ_ret () hS1 (fun t ht => ⟨by rw [ht]; exact hP1, fun _ => by rw [ht]; exact hz⟩) hx hb hr hlocks dL_isGone_16 narZ1 (Nat.le_of_ble_eq_true rfl) (Nat.le_of_ble_eq_true rfl) hQ (if_neg hnk).symm
  · refine lv_if_ge (tgt := 12) hx hb dL_isGone_5 (by decide) (fun _ => ?_) (fun c1 => absurd (by rw [hr_.2]; exact hto 0 hr_.1) c1)
    refine lv_iconst (v := 0) hx hb dL_isGone_12 (by decide) ?_
    exact gZ_ret () hS (fun t ht => ⟨by rw [ht]; exact hP, fun q => absurd hr_.1 q⟩) hx hb hr hlocks dL_isGone_13 narZ0 (Nat.le_of_ble_eq_true rfl) (Nat.le_of_ble_eq_true rfl) hQ (if_pos hr_.1).symm

theorem cws_L_44 {R : Room} {s : State} {args : Array Value} {rm : Room} {mc ms : Nat} (hts : ∀ w ∈ wsL_law, w.before args s = true) (hrc : rm.cells = mc) (hrs : rm.slots = ms) (hR : rm.frames + 1 ≤ R.frames ∧ 8 + (3 + 11) + rm.locals ≤ R.locals) : vx_CSW R s args RL 44 yL_isGone cL_isGone 3 (some .boolean) [(0, 13, 14, 19)] (Cond.codeWith yL_isGone cL_isGone 3 (some .boolean) [(0, 13, 14, 19)] :: wsL_law) rm mc ms 2 := vx_cwSW 2 hts (gUS wm_288 wm_289 wm_104 wm_290) rfl hrc hrs (by decide +kernel) hR
