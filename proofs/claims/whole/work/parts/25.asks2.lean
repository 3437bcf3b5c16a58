theorem cw_X6_163 {R : Room} {s : State} {args : Array Value} {rm : Room} {mc ms : Nat} (hts : ∀ w ∈ wsL_law, w.before args s = true) (hrc : rm.cells = mc) (hrs : rm.slots = ms) (hR : rm.frames + 1 ≤ R.frames ∧ 8 + (5 + 11) + rm.locals ≤ R.locals) : CallW R s args RX6 RX3 163 yX3_replayInto cX3_replayInto 5 none (Cond.code yX3_replayInto cX3_replayInto 5 none :: wsL_law) rm mc ms 3 := cwV 3 hts (gUV wm_542 wm_543 wm_544 wm_16 wm_545) rfl hrc hrs (by decide +kernel) hR
theorem cw_X6_167 {R : Room} {s : State} {args : Array Value} {rm : Room} {mc ms : Nat} (hts : ∀ w ∈ wsL_law, w.before args s = true) (hrc : rm.cells = mc) (hrs : rm.slots = ms) (hR : rm.frames + 1 ≤ R.frames ∧ 8 + (2 + 11) + rm.locals ≤ R.locals) : CallW R s args RX6 RX1 167 yX1_has cX1_has 2 (some .boolean) (Cond.code yX1_has cX1_has 2 (some .boolean) :: wsL_law) rm mc ms 1 := cwV 1 hts (gUV wm_556 wm_557 wm_558 wm_29 wm_559) rfl hrc hrs (by decide +kernel) hR
theorem cw_X6_190 {R : Room} {s : State} {args : Array Value} {rm : Room} {mc ms : Nat} (hts : ∀ w ∈ wsL_law, w.before args s = true) (hrc : rm.cells = mc) (hrs : rm.slots = ms) (hR : rm.frames + 1 ≤ R.frames ∧ 8 + (4 + 11) + rm.locals ≤ R.locals) : CallW R s args RX6 RX1 190 yX1_sum cX1_sum 4 (some .long) (Cond.code yX1_sum cX1_sum 4 (some .long) :: wsL_law) rm mc ms 0 := cwV 0 hts (gUV wm_705 wm_706 wm_707 wm_29 wm_708) rfl hrc hrs (by decide +kernel) hR
theorem cw_X6_200 {R : Room} {s : State} {args : Array Value} {rm : Room} {mc ms : Nat} (hts : ∀ w ∈ wsL_law, w.before args s = true) (hrc : rm.cells = mc) (hrs : rm.slots = ms) (hR : rm.frames + 1 ≤ R.frames ∧ 8 + (4 + 11) + rm.locals ≤ R.locals) : CallW R s args RX6 RX1 200 yX1_countDifferent cX1_countDifferent 4 (some .int) (Cond.code yX1_countDifferent cX1_countDifferent 4 (some .int) :: wsL_law) rm mc ms 1 := cwV 1 hts (gUV wm_720 wm_721 wm_722 wm_29 wm_723) rfl hrc hrs (by decide +kernel) hR
theorem cw_X6_233 {R : Room} {s : State} {args : Array Value} {rm : Room} {mc ms : Nat} (hts : ∀ w ∈ wsL_law, w.before args s = true) (hrc : rm.cells = mc) (hrs : rm.slots = ms) (hR : rm.frames + 1 ≤ R.frames ∧ 8 + (4 + 11) + rm.locals ≤ R.locals) : CallW R s args RX6 RX6 233 yX6_listVersions cX6_listVersions 4 none (Cond.code yX6_listVersions cX6_listVersions 4 none :: wsL_law) rm mc ms 3 := cwV 3 hts (gUV wm_845 wm_846 wm_847 wm_2 wm_848) rfl hrc hrs (by decide +kernel) hR
theorem cw_X6_237 {R : Room} {s : State} {args : Array Value} {rm : Room} {mc ms : Nat} (hts : ∀ w ∈ wsL_law, w.before args s = true) (hrc : rm.cells = mc) (hrs : rm.slots = ms) (hR : rm.frames + 1 ≤ R.frames ∧ 8 + (2 + 11) + rm.locals ≤ R.locals) : CallW R s args RX6 RX6 237 yX6_requireVersion cX6_requireVersion 2 none (Cond.code yX6_requireVersion cX6_requireVersion 2 none :: wsL_law) rm mc ms 1 := cwV 1 hts (gUV wm_888 wm_889 wm_890 wm_2 wm_891) rfl hrc hrs (by decide +kernel) hR
theorem cw_X6_240 {R : Room} {s : State} {args : Array Value} {rm : Room} {mc ms : Nat} (hts : ∀ w ∈ wsL_law, w.before args s = true) (hrc : rm.cells = mc) (hrs : rm.slots = ms) (hR : rm.frames + 1 ≤ R.frames ∧ 8 + (2 + 11) + rm.locals ≤ R.locals) : CallW R s args RX6 RX5 240 yX5_firstTick cX5_firstTick 2 (some .int) (Cond.code yX5_firstTick cX5_firstTick 2 (some .int) :: wsL_law) rm mc ms 1 := cwV 1 hts (gUV wm_892 wm_893 wm_894 wm_38 wm_895) rfl hrc hrs (by decide +kernel) hR
theorem cw_X6_243 {R : Room} {s : State} {args : Array Value} {rm : Room} {mc ms : Nat} (hts : ∀ w ∈ wsL_law, w.before args s = true) (hrc : rm.cells = mc) (hrs : rm.slots = ms) (hR : rm.frames + 1 ≤ R.frames ∧ 8 + (2 + 11) + rm.locals ≤ R.locals) : CallW R s args RX6 RX5 243 yX5_has cX5_has 2 (some .boolean) (Cond.code yX5_has cX5_has 2 (some .boolean) :: wsL_law) rm mc ms 1 := cwV 1 hts (gUV wm_911 wm_857 wm_858 wm_38 wm_859) rfl hrc hrs (by decide +kernel) hR
theorem cw_X6_244 {R : Room} {s : State} {args : Array Value} {rm : Room} {mc ms : Nat} (hts : ∀ w ∈ wsL_law, w.before args s = true) (hrc : rm.cells = mc) (hrs : rm.slots = ms) (hR : rm.frames + 1 ≤ R.frames ∧ 8 + (2 + 11) + rm.locals ≤ R.locals) : CallW R s args RX6 RX5 244 yX5_value cX5_value 2 (some .int) (Cond.code yX5_value cX5_value 2 (some .int) :: wsL_law) rm mc ms 1 := cwV 1 hts (gUV wm_923 wm_861 wm_862 wm_38 wm_863) rfl hrc hrs (by decide +kernel) hR
theorem cw_X6_245 {R : Room} {s : State} {args : Array Value} {rm : Room} {mc ms : Nat} (hts : ∀ w ∈ wsL_law, w.before args s = true) (hrc : rm.cells = mc) (hrs : rm.slots = ms) (hR : rm.frames + 1 ≤ R.frames ∧ 8 + (4 + 11) + rm.locals ≤ R.locals) : CallW R s args RX6 RX2 245 yX2_write cX2_write 4 none (Cond.code yX2_write cX2_write 4 none :: wsL_law) rm mc ms 2 := cwV 2 hts (gUV wm_935 wm_936 wm_937 wm_24 wm_938) rfl hrc hrs (by decide +kernel) hR
theorem cw_X6_268 {R : Room} {s : State} {args : Array Value} {rm : Room} {mc ms : Nat} (hts : ∀ w ∈ wsL_law, w.before args s = true) (hrc : rm.cells = mc) (hrs : rm.slots = ms) (hR : rm.frames + 1 ≤ R.frames ∧ 8 + (9 + 11) + rm.locals ≤ R.locals) : CallW R s args RX6 RX5 268 yX5_list cX5_list 9 none (Cond.code yX5_list cX5_list 9 none :: wsL_law) rm mc ms 4 := cwV 4 hts (gUV wm_849 wm_850 wm_851 wm_38 wm_852) rfl hrc hrs (by decide +kernel) hR
set_option maxHeartbeats 4000000 in
set_option maxRecDepth 100000 in
theorem c_X6_integral (l : Launch) (hl0 : l.stackTraces = false) (D : va_G) (cy : Nat → ClassId) (ad : Nat → Nat) (I : AI) (S : AS) (sz : Nat) (x : Int32) (b : Int32) (t : Int32) (k : Nat) (n : Nat) (h : Nat) (fr : Nat → Nat) (to : Nat → Nat) (ofr : Nat → Nat) (oto : Nat → Nat) (hc : CIv I S k n h fr to ofr oto) : vx_Met l yX6_integral (Cond.code yX6_integral cX6_integral 4 (some .long) :: wsL_law) ({ frames := 8, cells := 3, slots := 18, locals := 133 }) (va_Pc [.ref (ad 0), .int x, .int b, .int t] (wxB D cy (wC cy ad I S) sz)) (va_Ql (S := AI × AS) (fun r u => r = smN (rdKN S (slI x b) t fr to (S 17) k) (rdVN S (slI x b) t fr to (S 18) k) 100 ∧ tc I x b t ∧ scr I S u.1 u.2) (fun u t9 => va_P D clW (wC cy ad u.1 u.2) t9.heap) (va_A (wC cy ad I S) sz)) (xW (S := AI × AS) (fun E u => tx I x b t E ∧ scr I S u.1 u.2) (fun u => (wC cy ad u.1 u.2)) D (va_A (wC cy ad I S) sz)) 3 18 (va_A (wC cy ad I S) sz) := by
  refine enterX (cc := cX6_integral) (by decide) (Nat.le_of_ble_eq_true rfl) ?_
  intro p e s m below meth c hx hb hr hml hown hts hlocks hT hv Q hQ ls hl
  obtain ⟨hsz, hP, hK, hD0, hE, hZ⟩ := hv
  subst hsz
  have hD := hD0.self (sz := s.heap.size)
  generalize hAe : va_A (wC cy ad I S) s.heap.size = A at hD hQ hZ ⊢
  have hA : ∀ q : Nat, s.heap.size ≤ q → A q := fun q h => by rw [← hAe]; exact Or.inr h
  have hS : va_S A s.heap s.heap [] := va_S.rf
  suffices K_ : ∀ (H : Heap) (locs : List Loc), va_P D clW (wC cy ad I S) H → va_S A s.heap H locs → W p l e ({ frames := 8, cells := 3, slots := 18, locals := 133 }) s m ([.ref (ad 0), .int x, .int b, .int t] : List Value).toArray below meth c H locs 0 0 Q (F0 m 0 ls []) from K_ _ _ hP hS
  clear hP hS
  intro H locs hP hS
  have hown : s.vm.findClass RX6 = some m.cls := hown
  have hl : lv_has ls 4 [(0, .ref (ad 0)), (1, .int x), (2, .int b), (3, .int t)] := hl
  obtain ⟨hn, hn6, hk, hk3, hh, hhn, hfr, hfo, hch⟩ := id hc
  have hk8 : k ≤ 180 := by omega
  refine lv_aload_n hx hb dX6_integral_0 rfl (lv_at hl 0 rfl) ?_
  refine lv_iload_n hx hb dX6_integral_1 rfl (lv_at hl 1 rfl) ?_
  refine lv_iload_n hx hb dX6_integral_2 rfl (lv_at hl 2 rfl) ?_
  refine yR_call (vx_runV (As := [.int x, .int b]) (rest := []) ⟨hx, hb, hml, hown, hts⟩ (c_X6_requireAttribute l hl0 D cy ad I S x b) (cw_X6_65 hts rfl rfl ⟨Nat.le_of_ble_eq_true rfl, Nat.le_of_ble_eq_true rfl⟩) (preVRX (ci := 6) (q0 := 0) hK hE (hZ.now hS).no hP rfl rfl) rfl rfl hl.1 rfl (lv_room (Nat.le_of_ble_eq_true rfl)) dX6_integral_3 ⟨Nat.le_of_ble_eq_true rfl, Nat.le_of_ble_eq_true rfl⟩) (I, S) hS hP hT hlocks hQ (Nat.le_of_ble_eq_true rfl) (Nat.le_of_ble_eq_true rfl) (fun E h => ⟨Or.inl ⟨h.1, h.2⟩, scr_0 _ _⟩) (fun q3_1 => ?_)
  refine lv_aload_n hx hb dX6_integral_6 rfl (lv_at hl 0 rfl) ?_
  refine lv_iload_n hx hb dX6_integral_7 rfl (lv_at hl 3 rfl) ?_
  refine yR_call (vx_runV (As := [.int t]) (rest := []) ⟨hx, hb, hml, hown, hts⟩ (c_X6_requireKeptTick l hl0 D cy ad I S t) (cw_X6_172 hts rfl rfl ⟨Nat.le_of_ble_eq_true rfl, Nat.le_of_ble_eq_true rfl⟩) (preVRX (ci := 6) (q0 := 0) hK hE (hZ.now hS).no hP rfl rfl) rfl rfl hl.1 rfl (lv_room (Nat.le_of_ble_eq_true rfl)) dX6_integral_8 ⟨Nat.le_of_ble_eq_true rfl, Nat.le_of_ble_eq_true rfl⟩) (I, S) hS hP hT hlocks hQ (Nat.le_of_ble_eq_true rfl) (Nat.le_of_ble_eq_true rfl) (fun E h => ⟨Or.inr (h.elim (fun h => Or.inl ⟨h.1, q3_1, h.2⟩) (fun h => Or.inr ⟨h.1, q3_1, h.2⟩)), scr_0 _ _⟩) (fun q8_2 => ?_)
  refine lv_aload_n hx hb dX6_integral_11 rfl (lv_at hl 0 rfl) ?_
  refine gf_X6_19 hx hb hts hown hK hP 0 rfl (v := .ref (ad 7)) rfl dX6_integral_12 ?_
  refine lv_aload_n hx hb dX6_integral_15 rfl (lv_at hl 0 rfl) ?_
  refine gf_X6_37 hx hb hts hown hK hP 0 rfl (v := .ref (ad 16)) rfl dX6_integral_16 ?_
  refine lv_iload_n hx hb dX6_integral_19 rfl (lv_at hl 1 rfl) ?_
  refine lv_iload_n hx hb dX6_integral_20 rfl (lv_at hl 2 rfl) ?_
  refine rI_call (va_runS (As := [.int x, .int b]) (rest := [.ref (ad 16), .ref (ad 7)]) ⟨hx, hb, hml, hown, hts⟩ (c_X6_slotOf l D cy x b) (cw_X6_75 hts rfl rfl ⟨Nat.le_of_ble_eq_true rfl, Nat.le_of_ble_eq_true rfl⟩) (preSR hK (hP.sub [] rfl)) rfl rfl hl.1 rfl (lv_room (Nat.le_of_ble_eq_true rfl)) dX6_integral_21 ⟨Nat.le_of_ble_eq_true rfl, Nat.le_of_ble_eq_true rfl⟩) (fun r hr_ => ?_)
  subst hr_
  refine lv_iload_n hx hb dX6_integral_24 rfl (lv_at hl 3 rfl) ?_
  refine wV_call (va_runV (As := [.ref (ad 16), .int (slI x b), .int t]) (rest := []) ⟨hx, hb, hml, hown, hts⟩ (c_X0_readInto_16 l D cy ad I S H.size (slI x b) t k hk (by omega) fr to hfr) (cw_X6_187 hts rfl rfl ⟨Nat.le_of_ble_eq_true rfl, Nat.le_of_ble_eq_true rfl⟩) (preVW (ci := 0) (q0 := 0) hK (hP.sub [7, 8, 9, 10, 11, 12, 13, 16, 17, 18] rfl) (hD.sub [7, 8, 9, 10, 11, 12, 13, 16, 17, 18] (by decide) rfl) rfl rfl) rfl rfl hl.1 rfl (lv_room (Nat.le_of_ble_eq_true rfl)) dX6_integral_25 ⟨Nat.le_of_ble_eq_true rfl, Nat.le_of_ble_eq_true rfl⟩) hP hD hS hA [7, 8, 9, 10, 11, 12, 13, 16, 17, 18] rfl [.inl 0, .inl 1, .inl 2, .inl 3, .inl 4, .inl 5, .inl 6, .inr 0, .inr 1, .inr 2, .inr 3, .inr 4, .inr 5, .inr 6, .inl 14, .inl 15, .inr 7, .inr 8, .inr 9, .inl 19, .inl 20, .inl 21, .inl 22, .inl 23, .inl 24, .inl 25, .inl 26, .inl 27, .inl 28] (by decide) (fun u => (wC cy ad I (va_up (va_up S 17 (rdKN S (slI x b) t fr to (S 17) k)) 18 (rdVN S (slI x b) t fr to (S 18) k)))) (fun _ => rfl) (fun _ => rfl) (fun u25_3 H locs q25_3 hP hD hS hkp => ?_)
  have hP : va_P D clW (wC cy ad I (va_up (va_up S 17 (rdKN S (slI x b) t fr to (S 17) k)) 18 (rdVN S (slI x b) t fr to (S 18) k))) H := hP
  have hD : va_D A (wC cy ad I (va_up (va_up S 17 (rdKN S (slI x b) t fr to (S 17) k)) 18 (rdVN S (slI x b) t fr to (S 18) k))) := hD
  refine lv_aload_n hx hb dX6_integral_28 rfl (lv_at hl 0 rfl) ?_
  refine gf_X6_37 hx hb hts hown hK hP 0 rfl (v := .ref (ad 16)) rfl dX6_integral_29 ?_
  refine rL_call (va_runV (As := []) (rest := []) ⟨hx, hb, hml, hown, hts⟩ (c_X1_sum_16 l D cy ad (va_up (va_up S 17 (rdKN S (slI x b) t fr to (S 17) k)) 18 (rdVN S (slI x b) t fr to (S 18) k))) (cw_X6_190 hts rfl rfl ⟨Nat.le_of_ble_eq_true rfl, Nat.le_of_ble_eq_true rfl⟩) (preVR (ci := 1) (q0 := 0) hK (hP.sub [16, 17, 18] rfl) rfl rfl) rfl rfl hl.1 rfl (lv_room (Nat.le_of_ble_eq_true rfl)) dX6_integral_32 ⟨Nat.le_of_ble_eq_true rfl, Nat.le_of_ble_eq_true rfl⟩) (fun r hr_ => ?_)
  subst hr_
  refine top_eqL (y := (smN ((rdKN S (slI x b) t fr to (S 17) k)) ((rdVN S (slI x b) t fr to (S 18) k)) 100)) rfl ?_
  exact yL_ret (I, (va_up (va_up S 17 (rdKN S (slI x b) t fr to (S 17) k)) 18 (rdVN S (slI x b) t fr to (S 18) k))) hS hP hx hb hr hlocks dX6_integral_35 (Nat.le_of_ble_eq_true rfl) (Nat.le_of_ble_eq_true rfl) hQ ⟨rfl, ⟨q3_1, q8_2⟩, (scr_S (scr_S (scr_0 I S) (by decide) _) (by decide) _)⟩

set_option maxHeartbeats 4000000 in
set_option maxRecDepth 100000 in
theorem c_X6_changedDays (l : Launch) (hl0 : l.stackTraces = false) (D : va_G) (cy : Nat → ClassId) (ad : Nat → Nat) (I : AI) (S : AS) (sz : Nat) (x : Int32) (b : Int32) (t : Int32) (t2 : Int32) (k : Nat) (n : Nat) (h : Nat) (fr : Nat → Nat) (to : Nat → Nat) (ofr : Nat → Nat) (oto : Nat → Nat) (hc : CIv I S k n h fr to ofr oto) : vx_Met l yX6_changedDays (Cond.code yX6_changedDays cX6_changedDays 6 (some .int) :: wsL_law) ({ frames := 8, cells := 5, slots := 30, locals := 133 }) (va_Pc [.ref (ad 0), .int x, .int b, .int t, .int t2] (wxB D cy (wC cy ad I S) sz)) (va_Qi (S := AI × AS) (fun r u => r = cfN (rdKN S (slI x b) t fr to (S 17) k) (rdVN S (slI x b) t fr to (S 18) k) (rdKN S (slI x b) t2 fr to (S 20) k) (rdVN S (slI x b) t2 fr to (S 21) k) 100 ∧ hc2 I x b t t2 ∧ scr I S u.1 u.2) (fun u t9 => va_P D clW (wC cy ad u.1 u.2) t9.heap) (va_A (wC cy ad I S) sz)) (xW (S := AI × AS) (fun E u => hx2 I x b t t2 E ∧ scr I S u.1 u.2) (fun u => (wC cy ad u.1 u.2)) D (va_A (wC cy ad I S) sz)) 5 30 (va_A (wC cy ad I S) sz) := by
  refine enterX (cc := cX6_changedDays) (by decide) (Nat.le_of_ble_eq_true rfl) ?_
  intro p e s m below meth c hx hb hr hml hown hts hlocks hT hv Q hQ ls hl
  obtain ⟨hsz, hP, hK, hD0, hE, hZ⟩ := hv
  subst hsz
  have hD := hD0.self (sz := s.heap.size)
  generalize hAe : va_A (wC cy ad I S) s.heap.size = A at hD hQ hZ ⊢
  have hA : ∀ q : Nat, s.heap.size ≤ q → A q := fun q h => by rw [← hAe]; exact Or.inr h
  have hS : va_S A s.heap s.heap [] := va_S.rf
  suffices K_ : ∀ (H : Heap) (locs : List Loc), va_P D clW (wC cy ad I S) H → va_S A s.heap H locs → W p l e ({ frames := 8, cells := 5, slots := 30, locals := 133 }) s m ([.ref (ad 0), .int x, .int b, .int t, .int t2] : List Value).toArray below meth c H locs 0 0 Q (F0 m 0 ls []) from K_ _ _ hP hS
  clear hP hS
  intro H locs hP hS
  have hown : s.vm.findClass RX6 = some m.cls := hown
  have hl : lv_has ls 6 [(0, .ref (ad 0)), (1, .int x), (2, .int b), (3, .int t), (4, .int t2)] := hl
  obtain ⟨hn, hn6, hk, hk3, hh, hhn, hfr, hfo, hch⟩ := id hc
  have hk8 : k ≤ 180 := by omega
  refine lv_aload_n hx hb dX6_changedDays_0 rfl (lv_at hl 0 rfl) ?_
  refine lv_iload_n hx hb dX6_changedDays_1 rfl (lv_at hl 1 rfl) ?_
  refine lv_iload_n hx hb dX6_changedDays_2 rfl (lv_at hl 2 rfl) ?_
  refine yR_call (vx_runV (As := [.int x, .int b]) (rest := []) ⟨hx, hb, hml, hown, hts⟩ (c_X6_requireAttribute l hl0 D cy ad I S x b) (cw_X6_65 hts rfl rfl ⟨Nat.le_of_ble_eq_true rfl, Nat.le_of_ble_eq_true rfl⟩) (preVRX (ci := 6) (q0 := 0) hK hE (hZ.now hS).no hP rfl rfl) rfl rfl hl.1 rfl (lv_room (Nat.le_of_ble_eq_true rfl)) dX6_changedDays_3 ⟨Nat.le_of_ble_eq_true rfl, Nat.le_of_ble_eq_true rfl⟩) (I, S) hS hP hT hlocks hQ (Nat.le_of_ble_eq_true rfl) (Nat.le_of_ble_eq_true rfl) (fun E h => ⟨Or.inl ⟨h.1, h.2⟩, scr_0 _ _⟩) (fun q3_1 => ?_)
  refine lv_aload_n hx hb dX6_changedDays_6 rfl (lv_at hl 0 rfl) ?_
  refine lv_iload_n hx hb dX6_changedDays_7 rfl (lv_at hl 3 rfl) ?_
  refine yR_call (vx_runV (As := [.int t]) (rest := []) ⟨hx, hb, hml, hown, hts⟩ (c_X6_requireTick l hl0 D cy ad I S t) (cw_X6_194 hts rfl rfl ⟨Nat.le_of_ble_eq_true rfl, Nat.le_of_ble_eq_true rfl⟩) (preVRX (ci := 6) (q0 := 0) hK hE (hZ.now hS).no hP rfl rfl) rfl rfl hl.1 rfl (lv_room (Nat.le_of_ble_eq_true rfl)) dX6_changedDays_8 ⟨Nat.le_of_ble_eq_true rfl, Nat.le_of_ble_eq_true rfl⟩) (I, S) hS hP hT hlocks hQ (Nat.le_of_ble_eq_true rfl) (Nat.le_of_ble_eq_true rfl) (fun E h => ⟨Or.inr (Or.inl ⟨h.1, q3_1, fun r => h.2 r.1⟩), scr_0 _ _⟩) (fun q8_2 => ?_)
  refine lv_aload_n hx hb dX6_changedDays_11 rfl (lv_at hl 0 rfl) ?_
  refine lv_iload hx hb dX6_changedDays_12 (lv_at hl 4 rfl) ?_
  refine yR_call (vx_runV (As := [.int t2]) (rest := []) ⟨hx, hb, hml, hown, hts⟩ (c_X6_requireTick l hl0 D cy ad I S t2) (cw_X6_194 hts rfl rfl ⟨Nat.le_of_ble_eq_true rfl, Nat.le_of_ble_eq_true rfl⟩) (preVRX (ci := 6) (q0 := 0) hK hE (hZ.now hS).no hP rfl rfl) rfl rfl hl.1 rfl (lv_room (Nat.le_of_ble_eq_true rfl)) dX6_changedDays_14 ⟨Nat.le_of_ble_eq_true rfl, Nat.le_of_ble_eq_true rfl⟩) (I, S) hS hP hT hlocks hQ (Nat.le_of_ble_eq_true rfl) (Nat.le_of_ble_eq_true rfl) (fun E h => ⟨Or.inr (Or.inl ⟨h.1, q3_1, fun r => h.2 r.2⟩), scr_0 _ _⟩) (fun q14_3 => ?_)
  refine lv_aload_n hx hb dX6_changedDays_17 rfl (lv_at hl 0 rfl) ?_
  refine lv_iload_n hx hb dX6_changedDays_18 rfl (lv_at hl 3 rfl) ?_
  refine yR_call (vx_runV (As := [.int t]) (rest := []) ⟨hx, hb, hml, hown, hts⟩ (c_X6_requireKept l hl0 D cy ad I S t) (cw_X6_197 hts rfl rfl ⟨Nat.le_of_ble_eq_true rfl, Nat.le_of_ble_eq_true rfl⟩) (preVRX (ci := 6) (q0 := 0) hK hE (hZ.now hS).no hP rfl rfl) rfl rfl hl.1 rfl (lv_room (Nat.le_of_ble_eq_true rfl)) dX6_changedDays_19 ⟨Nat.le_of_ble_eq_true rfl, Nat.le_of_ble_eq_true rfl⟩) (I, S) hS hP hT hlocks hQ (Nat.le_of_ble_eq_true rfl) (Nat.le_of_ble_eq_true rfl) (fun E h => ⟨Or.inr (Or.inr ⟨h.1, q3_1, ⟨q8_2, q14_3⟩, fun r => h.2 r.1⟩), scr_0 _ _⟩) (fun q19_4 => ?_)
  refine lv_aload_n hx hb dX6_changedDays_22 rfl (lv_at hl 0 rfl) ?_
  refine lv_iload hx hb dX6_changedDays_23 (lv_at hl 4 rfl) ?_
  refine yR_call (vx_runV (As := [.int t2]) (rest := []) ⟨hx, hb, hml, hown, hts⟩ (c_X6_requireKept l hl0 D cy ad I S t2) (cw_X6_197 hts rfl rfl ⟨Nat.le_of_ble_eq_true rfl, Nat.le_of_ble_eq_true rfl⟩) (preVRX (ci := 6) (q0 := 0) hK hE (hZ.now hS).no hP rfl rfl) rfl rfl hl.1 rfl (lv_room (Nat.le_of_ble_eq_true rfl)) dX6_changedDays_25 ⟨Nat.le_of_ble_eq_true rfl, Nat.le_of_ble_eq_true rfl⟩) (I, S) hS hP hT hlocks hQ (Nat.le_of_ble_eq_true rfl) (Nat.le_of_ble_eq_true rfl) (fun E h => ⟨Or.inr (Or.inr ⟨h.1, q3_1, ⟨q8_2, q14_3⟩, fun r => h.2 r.2⟩), scr_0 _ _⟩) (fun q25_5 => ?_)
  refine lv_iload_n hx hb dX6_changedDays_28 rfl (lv_at hl 1 rfl) ?_
  refine lv_iload_n hx hb dX6_changedDays_29 rfl (lv_at hl 2 rfl) ?_
  refine rI_call (va_runS (As := [.int x, .int b]) (rest := []) ⟨hx, hb, hml, hown, hts⟩ (c_X6_slotOf l D cy x b) (cw_X6_75 hts rfl rfl ⟨Nat.le_of_ble_eq_true rfl, Nat.le_of_ble_eq_true rfl⟩) (preSR hK (hP.sub [] rfl)) rfl rfl hl.1 rfl (lv_room (Nat.le_of_ble_eq_true rfl)) dX6_changedDays_30 ⟨Nat.le_of_ble_eq_true rfl, Nat.le_of_ble_eq_true rfl⟩) (fun r hr_ => ?_)
  subst hr_
  refine lv_istore (lv' := [(5, .int (slI x b)), (0, .ref (ad 0)), (1, .int x), (2, .int b), (3, .int t), (4, .int t2)]) hx hb dX6_changedDays_33 hl (by decide) rfl (fun ls hl => ?_)
  refine lv_aload_n hx hb dX6_changedDays_35 rfl (lv_at hl 1 rfl) ?_
  refine gf_X6_19 hx hb hts hown hK hP 0 rfl (v := .ref (ad 7)) rfl dX6_changedDays_36 ?_
  refine lv_aload_n hx hb dX6_changedDays_39 rfl (lv_at hl 1 rfl) ?_
  refine gf_X6_37 hx hb hts hown hK hP 0 rfl (v := .ref (ad 16)) rfl dX6_changedDays_40 ?_
  refine lv_iload hx hb dX6_changedDays_43 (lv_at hl 0 rfl) ?_
  refine lv_iload_n hx hb dX6_changedDays_45 rfl (lv_at hl 4 rfl) ?_
  refine wV_call (va_runV (As := [.ref (ad 16), .int (slI x b), .int t]) (rest := []) ⟨hx, hb, hml, hown, hts⟩ (c_X0_readInto_16 l D cy ad I S H.size (slI x b) t k hk (by omega) fr to hfr) (cw_X6_187 hts rfl rfl ⟨Nat.le_of_ble_eq_true rfl, Nat.le_of_ble_eq_true rfl⟩) (preVW (ci := 0) (q0 := 0) hK (hP.sub [7, 8, 9, 10, 11, 12, 13, 16, 17, 18] rfl) (hD.sub [7, 8, 9, 10, 11, 12, 13, 16, 17, 18] (by decide) rfl) rfl rfl) rfl rfl hl.1 rfl (lv_room (Nat.le_of_ble_eq_true rfl)) dX6_changedDays_46 ⟨Nat.le_of_ble_eq_true rfl, Nat.le_of_ble_eq_true rfl⟩) hP hD hS hA [7, 8, 9, 10, 11, 12, 13, 16, 17, 18] rfl [.inl 0, .inl 1, .inl 2, .inl 3, .inl 4, .inl 5, .inl 6, .inr 0, .inr 1, .inr 2, .inr 3, .inr 4, .inr 5, .inr 6, .inl 14, .inl 15, .inr 7, .inr 8, .inr 9, .inl 19, .inl 20, .inl 21, .inl 22, .inl 23, .inl 24, .inl 25, .inl 26, .inl 27, .inl 28] (by decide) (fun u => (wC cy ad I (va_up (va_up S 17 (rdKN S (slI x b) t fr to (S 17) k)) 18 (rdVN S (slI x b) t fr to (S 18) k)))) (fun _ => rfl) (fun _ => rfl) (fun u46_6 H locs q46_6 hP hD hS hkp => ?_)
  have hP : va_P D clW (wC cy ad I (va_up (va_up S 17 (rdKN S (slI x b) t fr to (S 17) k)) 18 (rdVN S (slI x b) t fr to (S 18) k))) H := hP
  have hD : va_D A (wC cy ad I (va_up (va_up S 17 (rdKN S (slI x b) t fr to (S 17) k)) 18 (rdVN S (slI x b) t fr to (S 18) k))) := hD
  refine lv_aload_n hx hb dX6_changedDays_49 rfl (lv_at hl 1 rfl) ?_
  refine gf_X6_19 hx hb hts hown hK hP 0 rfl (v := .ref (ad 7)) rfl dX6_changedDays_50 ?_
  refine lv_aload_n hx hb dX6_changedDays_53 rfl (lv_at hl 1 rfl) ?_
  refine gf_X6_41 hx hb hts hown hK hP 0 rfl (v := .ref (ad 19)) rfl dX6_changedDays_54 ?_
  refine lv_iload hx hb dX6_changedDays_57 (lv_at hl 0 rfl) ?_
  refine lv_iload hx hb dX6_changedDays_59 (lv_at hl 5 rfl) ?_
  refine wV_call (va_runV (As := [.ref (ad 19), .int (slI x b), .int t2]) (rest := []) ⟨hx, hb, hml, hown, hts⟩ (c_X0_readInto_19 l D cy ad I S H.size (slI x b) t2 k hk (by omega) fr to hfr) (cw_X6_187 hts rfl rfl ⟨Nat.le_of_ble_eq_true rfl, Nat.le_of_ble_eq_true rfl⟩) (preVW (ci := 0) (q0 := 0) hK (hP.sub [7, 8, 9, 10, 11, 12, 13, 19, 20, 21] rfl) (hD.sub [7, 8, 9, 10, 11, 12, 13, 19, 20, 21] (by decide) rfl) rfl rfl) rfl rfl hl.1 rfl (lv_room (Nat.le_of_ble_eq_true rfl)) dX6_changedDays_61 ⟨Nat.le_of_ble_eq_true rfl, Nat.le_of_ble_eq_true rfl⟩) hP hD hS hA [7, 8, 9, 10, 11, 12, 13, 19, 20, 21] rfl [.inl 0, .inl 1, .inl 2, .inl 3, .inl 4, .inl 5, .inl 6, .inr 0, .inr 1, .inr 2, .inr 3, .inr 4, .inr 5, .inr 6, .inl 14, .inl 15, .inl 16, .inl 17, .inl 18, .inr 7, .inr 8, .inr 9, .inl 22, .inl 23, .inl 24, .inl 25, .inl 26, .inl 27, .inl 28] (by decide) (fun u => (wC cy ad I (va_up (va_up (va_up (va_up S 17 (rdKN S (slI x b) t fr to (S 17) k)) 18 (rdVN S (slI x b) t fr to (S 18) k)) 20 (rdKN S (slI x b) t2 fr to (S 20) k)) 21 (rdVN S (slI x b) t2 fr to (S 21) k)))) (fun _ => rfl) (fun _ => rfl) (fun u61_7 H locs q61_7 hP hD hS hkp => ?_)
  have hP : va_P D clW (wC cy ad I (va_up (va_up (va_up (va_up S 17 (rdKN S (slI x b) t fr to (S 17) k)) 18 (rdVN S (slI x b) t fr to (S 18) k)) 20 (rdKN S (slI x b) t2 fr to (S 20) k)) 21 (rdVN S (slI x b) t2 fr to (S 21) k))) H := hP
  have hD : va_D A (wC cy ad I (va_up (va_up (va_up (va_up S 17 (rdKN S (slI x b) t fr to (S 17) k)) 18 (rdVN S (slI x b) t fr to (S 18) k)) 20 (rdKN S (slI x b) t2 fr to (S 20) k)) 21 (rdVN S (slI x b) t2 fr to (S 21) k))) := hD
  refine lv_aload_n hx hb dX6_changedDays_64 rfl (lv_at hl 1 rfl) ?_
  refine gf_X6_37 hx hb hts hown hK hP 0 rfl (v := .ref (ad 16)) rfl dX6_changedDays_65 ?_
  refine lv_aload_n hx hb dX6_changedDays_68 rfl (lv_at hl 1 rfl) ?_
  refine gf_X6_41 hx hb hts hown hK hP 0 rfl (v := .ref (ad 19)) rfl dX6_changedDays_69 ?_
  refine rI_call (va_runV (As := [.ref (ad 19)]) (rest := []) ⟨hx, hb, hml, hown, hts⟩ (c_X1_countDifferent_16_19 l D cy ad (va_up (va_up (va_up (va_up S 17 (rdKN S (slI x b) t fr to (S 17) k)) 18 (rdVN S (slI x b) t fr to (S 18) k)) 20 (rdKN S (slI x b) t2 fr to (S 20) k)) 21 (rdVN S (slI x b) t2 fr to (S 21) k))) (cw_X6_200 hts rfl rfl ⟨Nat.le_of_ble_eq_true rfl, Nat.le_of_ble_eq_true rfl⟩) (preVR (ci := 1) (q0 := 0) hK (hP.sub [16, 17, 18, 19, 20, 21] rfl) rfl rfl) rfl rfl hl.1 rfl (lv_room (Nat.le_of_ble_eq_true rfl)) dX6_changedDays_72 ⟨Nat.le_of_ble_eq_true rfl, Nat.le_of_ble_eq_true rfl⟩) (fun r hr_ => ?_)
  subst hr_
  refine top_eq (y := (cfN ((rdKN S (slI x b) t fr to (S 17) k)) ((rdVN S (slI x b) t fr to (S 18) k)) ((rdKN S (slI x b) t2 fr to (S 20) k)) ((rdVN S (slI x b) t2 fr to (S 21) k)) 100)) rfl ?_
  exact yI_ret (I, (va_up (va_up (va_up (va_up S 17 (rdKN S (slI x b) t fr to (S 17) k)) 18 (rdVN S (slI x b) t fr to (S 18) k)) 20 (rdKN S (slI x b) t2 fr to (S 20) k)) 21 (rdVN S (slI x b) t2 fr to (S 21) k))) hS hP hx hb hr hlocks dX6_changedDays_75 rfl (Nat.le_of_ble_eq_true rfl) (Nat.le_of_ble_eq_true rfl) hQ ⟨rfl, ⟨q3_1, ⟨q8_2, q14_3⟩, q19_4, q25_5⟩, (scr_S (scr_S (scr_S (scr_S (scr_0 I S) (by decide) _) (by decide) _) (by decide) _) (by decide) _)⟩

set_option maxHeartbeats 4000000 in
set_option maxRecDepth 100000 in
theorem c_X6_listVersions (l : Launch) (hl0 : l.stackTraces = false) (D : va_G) (cy : Nat → ClassId) (ad : Nat → Nat) (I : AI) (S : AS) (sz : Nat) (x : Int32) (b : Int32) (d : Int32) (k : Nat) (n : Nat) (h : Nat) (fr : Nat → Nat) (to : Nat → Nat) (ofr : Nat → Nat) (oto : Nat → Nat) (hc : CIv I S k n h fr to ofr oto) : vx_Met l yX6_listVersions (Cond.code yX6_listVersions cX6_listVersions 4 none :: wsL_law) ({ frames := 8, cells := 2, slots := 12, locals := 133 }) (va_Pc [.ref (ad 0), .int x, .int b, .int d] (wxB D cy (wC cy ad I S) sz)) (va_Qv (S := Unit) (fun u => qc I x b d) (fun u t9 => va_P D clW (wC cy ad (va_up I 6 (nI (vqS S (slI x b) d k h n).1)) (va_up (va_up (va_up S 26 (vqS S (slI x b) d k h n).2.1) 27 (vqS S (slI x b) d k h n).2.2.1) 28 (vqS S (slI x b) d k h n).2.2.2)) t9.heap) (va_A (wC cy ad I S) sz)) (xW (S := AI × AS) (fun E u => qx I x b d E ∧ scr I S u.1 u.2) (fun u => (wC cy ad u.1 u.2)) D (va_A (wC cy ad I S) sz)) 2 12 (va_A (wC cy ad I S) sz) := by
  refine enterX (cc := cX6_listVersions) (by decide) (Nat.le_of_ble_eq_true rfl) ?_
  intro p e s m below meth c hx hb hr hml hown hts hlocks hT hv Q hQ ls hl
  obtain ⟨hsz, hP, hK, hD0, hE, hZ⟩ := hv
  subst hsz
  have hD := hD0.self (sz := s.heap.size)
  generalize hAe : va_A (wC cy ad I S) s.heap.size = A at hD hQ hZ ⊢
  have hA : ∀ q : Nat, s.heap.size ≤ q → A q := fun q h => by rw [← hAe]; exact Or.inr h
  have hS : va_S A s.heap s.heap [] := va_S.rf
  suffices K_ : ∀ (H : Heap) (locs : List Loc), va_P D clW (wC cy ad I S) H → va_S A s.heap H locs → W p l e ({ frames := 8, cells := 2, slots := 12, locals := 133 }) s m ([.ref (ad 0), .int x, .int b, .int d] : List Value).toArray below meth c H locs 0 0 Q (F0 m 0 ls []) from K_ _ _ hP hS
  clear hP hS
  intro H locs hP hS
  have hown : s.vm.findClass RX6 = some m.cls := hown
  have hl : lv_has ls 4 [(0, .ref (ad 0)), (1, .int x), (2, .int b), (3, .int d)] := hl
  obtain ⟨hn, hn6, hk, hk3, hh, hhn, hfr, hfo, hch⟩ := id hc
  have hk8 : k ≤ 180 := by omega
  refine lv_aload_n hx hb dX6_listVersions_0 rfl (lv_at hl 0 rfl) ?_
  refine lv_iload_n hx hb dX6_listVersions_1 rfl (lv_at hl 1 rfl) ?_
  refine lv_iload_n hx hb dX6_listVersions_2 rfl (lv_at hl 2 rfl) ?_
  refine yR_call (vx_runV (As := [.int x, .int b]) (rest := []) ⟨hx, hb, hml, hown, hts⟩ (c_X6_requireAttribute l hl0 D cy ad I S x b) (cw_X6_65 hts rfl rfl ⟨Nat.le_of_ble_eq_true rfl, Nat.le_of_ble_eq_true rfl⟩) (preVRX (ci := 6) (q0 := 0) hK hE (hZ.now hS).no hP rfl rfl) rfl rfl hl.1 rfl (lv_room (Nat.le_of_ble_eq_true rfl)) dX6_listVersions_3 ⟨Nat.le_of_ble_eq_true rfl, Nat.le_of_ble_eq_true rfl⟩) (I, S) hS hP hT hlocks hQ (Nat.le_of_ble_eq_true rfl) (Nat.le_of_ble_eq_true rfl) (fun E h => ⟨Or.inl ⟨h.1, h.2⟩, scr_0 _ _⟩) (fun q3_1 => ?_)
  refine lv_aload_n hx hb dX6_listVersions_6 rfl (lv_at hl 0 rfl) ?_
  refine lv_iload_n hx hb dX6_listVersions_7 rfl (lv_at hl 3 rfl) ?_
  refine yR_call (vx_runV (As := [.int d]) (rest := []) ⟨hx, hb, hml, hown, hts⟩ (c_X6_requireDay l hl0 D cy ad I S d) (cw_X6_102 hts rfl rfl ⟨Nat.le_of_ble_eq_true rfl, Nat.le_of_ble_eq_true rfl⟩) (preVRX (ci := 6) (q0 := 0) hK hE (hZ.now hS).no hP rfl rfl) rfl rfl hl.1 rfl (lv_room (Nat.le_of_ble_eq_true rfl)) dX6_listVersions_8 ⟨Nat.le_of_ble_eq_true rfl, Nat.le_of_ble_eq_true rfl⟩) (I, S) hS hP hT hlocks hQ (Nat.le_of_ble_eq_true rfl) (Nat.le_of_ble_eq_true rfl) (fun E h => ⟨Or.inr ⟨h.1, q3_1, h.2⟩, scr_0 _ _⟩) (fun q8_2 => ?_)
  refine lv_aload_n hx hb dX6_listVersions_11 rfl (lv_at hl 0 rfl) ?_
  refine gf_X6_54 hx hb hts hown hK hP 0 rfl (v := .ref (ad 25)) rfl dX6_listVersions_12 ?_
  refine lv_aload_n hx hb dX6_listVersions_15 rfl (lv_at hl 0 rfl) ?_
  refine gf_X6_19 hx hb hts hown hK hP 0 rfl (v := .ref (ad 7)) rfl dX6_listVersions_16 ?_
  refine lv_iload_n hx hb dX6_listVersions_19 rfl (lv_at hl 1 rfl) ?_
  refine lv_iload_n hx hb dX6_listVersions_20 rfl (lv_at hl 2 rfl) ?_
  refine rI_call (va_runS (As := [.int x, .int b]) (rest := [.ref (ad 7), .ref (ad 25)]) ⟨hx, hb, hml, hown, hts⟩ (c_X6_slotOf l D cy x b) (cw_X6_75 hts rfl rfl ⟨Nat.le_of_ble_eq_true rfl, Nat.le_of_ble_eq_true rfl⟩) (preSR hK (hP.sub [] rfl)) rfl rfl hl.1 rfl (lv_room (Nat.le_of_ble_eq_true rfl)) dX6_listVersions_21 ⟨Nat.le_of_ble_eq_true rfl, Nat.le_of_ble_eq_true rfl⟩) (fun r hr_ => ?_)
  subst hr_
  refine lv_iload_n hx hb dX6_listVersions_24 rfl (lv_at hl 3 rfl) ?_
  refine lv_aload_n hx hb dX6_listVersions_25 rfl (lv_at hl 0 rfl) ?_
  refine gf_X6_12 hx hb hts hown hK hP 0 rfl (v := .ref (ad 1)) rfl dX6_listVersions_26 ?_
  refine rI_call (va_runV (As := []) (rest := [.int d, .int (slI x b), .ref (ad 7), .ref (ad 25)]) ⟨hx, hb, hml, hown, hts⟩ (c_X3_now l D cy ad I S) (cw_X6_83 hts rfl rfl ⟨Nat.le_of_ble_eq_true rfl, Nat.le_of_ble_eq_true rfl⟩) (preVR (ci := 3) (q0 := 0) hK (hP.sub [1, 2, 3, 4, 5, 6] rfl) rfl rfl) rfl rfl hl.1 rfl (lv_room (Nat.le_of_ble_eq_true rfl)) dX6_listVersions_29 ⟨Nat.le_of_ble_eq_true rfl, Nat.le_of_ble_eq_true rfl⟩) (fun r hr_ => ?_)
  subst hr_
  refine top_eq hn ?_
  refine wV_call (va_runV (As := [.ref (ad 7), .int (slI x b), .int d, .int (nI n)]) (rest := []) ⟨hx, hb, hml, hown, hts⟩ (c_X5_list l D cy ad I S H.size (slI x b) d h n k hk (by omega) hh hhn hn6) (cw_X6_268 hts rfl rfl ⟨Nat.le_of_ble_eq_true rfl, Nat.le_of_ble_eq_true rfl⟩) (preVW (ci := 5) (q0 := 0) hK (hP.sub [25, 26, 27, 28, 7, 8, 9, 10, 11, 12, 13] rfl) (hD.sub [25, 26, 27, 28, 7, 8, 9, 10, 11, 12, 13] (by decide) rfl) rfl rfl) rfl rfl hl.1 rfl (lv_room (Nat.le_of_ble_eq_true rfl)) dX6_listVersions_32 ⟨Nat.le_of_ble_eq_true rfl, Nat.le_of_ble_eq_true rfl⟩) hP hD hS hA [25, 26, 27, 28, 7, 8, 9, 10, 11, 12, 13] rfl [.inl 0, .inl 1, .inl 2, .inl 3, .inl 4, .inl 5, .inl 6, .inr 4, .inr 5, .inr 6, .inr 7, .inr 8, .inr 9, .inr 10, .inl 14, .inl 15, .inl 16, .inl 17, .inl 18, .inl 19, .inl 20, .inl 21, .inl 22, .inl 23, .inl 24, .inr 0, .inr 1, .inr 2, .inr 3] (by decide) (fun u => (wC cy ad (va_up I 6 (nI (vsS S (slI x b) d k h (S 26) (S 27) (S 28) (n + 1 - h)).1)) (va_up (va_up (va_up S 26 (vsS S (slI x b) d k h (S 26) (S 27) (S 28) (n + 1 - h)).2.1) 27 (vsS S (slI x b) d k h (S 26) (S 27) (S 28) (n + 1 - h)).2.2.1) 28 (vsS S (slI x b) d k h (S 26) (S 27) (S 28) (n + 1 - h)).2.2.2))) (fun _ => rfl) (fun _ => rfl) (fun u32_3 H locs q32_3 hP hD hS hkp => ?_)
  have hP : va_P D clW (wC cy ad (va_up I 6 (nI (vsS S (slI x b) d k h (S 26) (S 27) (S 28) (n + 1 - h)).1)) (va_up (va_up (va_up S 26 (vsS S (slI x b) d k h (S 26) (S 27) (S 28) (n + 1 - h)).2.1) 27 (vsS S (slI x b) d k h (S 26) (S 27) (S 28) (n + 1 - h)).2.2.1) 28 (vsS S (slI x b) d k h (S 26) (S 27) (S 28) (n + 1 - h)).2.2.2)) H := hP
  have hD : va_D A (wC cy ad (va_up I 6 (nI (vsS S (slI x b) d k h (S 26) (S 27) (S 28) (n + 1 - h)).1)) (va_up (va_up (va_up S 26 (vsS S (slI x b) d k h (S 26) (S 27) (S 28) (n + 1 - h)).2.1) 27 (vsS S (slI x b) d k h (S 26) (S 27) (S 28) (n + 1 - h)).2.2.1) 28 (vsS S (slI x b) d k h (S 26) (S 27) (S 28) (n + 1 - h)).2.2.2)) := hD
  have e_4 : (nI (vsS S (slI x b) d k h (S 26) (S 27) (S 28) (n + 1 - h)).1) = (nI (vqS S (slI x b) d k h n).1) := rfl
  have e_5 : (vsS S (slI x b) d k h (S 26) (S 27) (S 28) (n + 1 - h)).2.1 = (vqS S (slI x b) d k h n).2.1 := rfl
  have e_6 : (vsS S (slI x b) d k h (S 26) (S 27) (S 28) (n + 1 - h)).2.2.1 = (vqS S (slI x b) d k h n).2.2.1 := rfl
  have e_7 : (vsS S (slI x b) d k h (S 26) (S 27) (S 28) (n + 1 - h)).2.2.2 = (vqS S (slI x b) d k h n).2.2.2 := rfl
  have hP : va_P D clW (wC cy ad (va_up I 6 (nI (vqS S (slI x b) d k h n).1)) (va_up (va_up (va_up S 26 (vqS S (slI x b) d k h n).2.1) 27 (vqS S (slI x b) d k h n).2.2.1) 28 (vqS S (slI x b) d k h n).2.2.2)) H := by rw [← e_4, ← e_5, ← e_6, ← e_7]; exact hP
  have hD : va_D A (wC cy ad (va_up I 6 (nI (vqS S (slI x b) d k h n).1)) (va_up (va_up (va_up S 26 (vqS S (slI x b) d k h n).2.1) 27 (vqS S (slI x b) d k h n).2.2.1) 28 (vqS S (slI x b) d k h n).2.2.2)) := hD.addr rfl
  exact yV_ret () hS hP hx hb hr hlocks dX6_listVersions_35 (Nat.le_of_ble_eq_true rfl) (Nat.le_of_ble_eq_true rfl) hQ ⟨q3_1, q8_2⟩

set_option maxHeartbeats 4000000 in
set_option maxRecDepth 100000 in
theorem c_X6_versionCount (l : Launch) (hl0 : l.stackTraces = false) (D : va_G) (cy : Nat → ClassId) (ad : Nat → Nat) (I : AI) (S : AS) (sz : Nat) (x : Int32) (b : Int32) (d : Int32) (k : Nat) (n : Nat) (h : Nat) (fr : Nat → Nat) (to : Nat → Nat) (ofr : Nat → Nat) (oto : Nat → Nat) (hc : CIv I S k n h fr to ofr oto) : vx_Met l yX6_versionCount (Cond.code yX6_versionCount cX6_versionCount 4 (some .int) :: wsL_law) ({ frames := 9, cells := 2, slots := 12, locals := 156 }) (va_Pc [.ref (ad 0), .int x, .int b, .int d] (wxB D cy (wC cy ad I S) sz)) (va_Qi (S := AI × AS) (fun r u => r = nI (vqS S (slI x b) d k h n).1 ∧ qc I x b d ∧ scr I S u.1 u.2) (fun u t9 => va_P D clW (wC cy ad u.1 u.2) t9.heap) (va_A (wC cy ad I S) sz)) (xW (S := AI × AS) (fun E u => (qx I x b d E) ∧ scr I S u.1 u.2) (fun u => (wC cy ad u.1 u.2)) D (va_A (wC cy ad I S) sz)) 2 12 (va_A (wC cy ad I S) sz) := by
  refine enterX (cc := cX6_versionCount) (by decide) (Nat.le_of_ble_eq_true rfl) ?_
  intro p e s m below meth c hx hb hr hml hown hts hlocks hT hv Q hQ ls hl
  obtain ⟨hsz, hP, hK, hD0, hE, hZ⟩ := hv
  subst hsz
  have hD := hD0.self (sz := s.heap.size)
  generalize hAe : va_A (wC cy ad I S) s.heap.size = A at hD hQ hZ ⊢
  have hA : ∀ q : Nat, s.heap.size ≤ q → A q := fun q h => by rw [← hAe]; exact Or.inr h
  have hS : va_S A s.heap s.heap [] := va_S.rf
  suffices K_ : ∀ (H : Heap) (locs : List Loc), va_P D clW (wC cy ad I S) H → va_S A s.heap H locs → W p l e ({ frames := 9, cells := 2, slots := 12, locals := 156 }) s m ([.ref (ad 0), .int x, .int b, .int d] : List Value).toArray below meth c H locs 0 0 Q (F0 m 0 ls []) from K_ _ _ hP hS
  clear hP hS
  intro H locs hP hS
  have hown : s.vm.findClass RX6 = some m.cls := hown
  have hl : lv_has ls 4 [(0, .ref (ad 0)), (1, .int x), (2, .int b), (3, .int d)] := hl
  obtain ⟨hn, hn6, hk, hk3, hh, hhn, hfr, hfo, hch⟩ := id hc
  have hk8 : k ≤ 180 := by omega
  refine lv_aload_n hx hb dX6_versionCount_0 rfl (lv_at hl 0 rfl) ?_
  refine lv_iload_n hx hb dX6_versionCount_1 rfl (lv_at hl 1 rfl) ?_
  refine lv_iload_n hx hb dX6_versionCount_2 rfl (lv_at hl 2 rfl) ?_
  refine lv_iload_n hx hb dX6_versionCount_3 rfl (lv_at hl 3 rfl) ?_
  refine yW_call (vx_runV (As := [.int x, .int b, .int d]) (rest := []) ⟨hx, hb, hml, hown, hts⟩ (c_X6_listVersions l hl0 D cy ad I S H.size x b d k n h fr to ofr oto hc) (cw_X6_233 hts rfl rfl ⟨Nat.le_of_ble_eq_true rfl, Nat.le_of_ble_eq_true rfl⟩) (preVWX (ci := 6) (q0 := 0) hK hE (hZ.now hS) (frame_in hD hS hA) hP hD rfl rfl) rfl rfl hl.1 rfl (lv_room (Nat.le_of_ble_eq_true rfl)) dX6_versionCount_4 ⟨Nat.le_of_ble_eq_true rfl, Nat.le_of_ble_eq_true rfl⟩) hD hS hA hT hlocks hQ (Nat.le_of_ble_eq_true rfl) (Nat.le_of_ble_eq_true rfl) (fun u => u) (fun _ => rfl) (fun E u h => h) (fun _ => rfl) (fun u4_1 H locs q4_1 hP hD hS => ?_)
  have hP : va_P D clW (wC cy ad (va_up I 6 (nI (vqS S (slI x b) d k h n).1)) (va_up (va_up (va_up S 26 (vqS S (slI x b) d k h n).2.1) 27 (vqS S (slI x b) d k h n).2.2.1) 28 (vqS S (slI x b) d k h n).2.2.2)) H := hP
  have hD : va_D A (wC cy ad (va_up I 6 (nI (vqS S (slI x b) d k h n).1)) (va_up (va_up (va_up S 26 (vqS S (slI x b) d k h n).2.1) 27 (vqS S (slI x b) d k h n).2.2.1) 28 (vqS S (slI x b) d k h n).2.2.2)) := hD
  have hqc_1 := q4_1
  refine lv_aload_n hx hb dX6_versionCount_7 rfl (lv_at hl 0 rfl) ?_
  refine gf_X6_54 hx hb hts hown hK hP 0 rfl (v := .ref (ad 25)) rfl dX6_versionCount_8 ?_
  refine rI_call (va_runV (As := []) (rest := []) ⟨hx, hb, hml, hown, hts⟩ (c_X5_size l D cy ad (va_up I 6 (nI (vqS S (slI x b) d k h n).1)) (va_up (va_up (va_up S 26 (vqS S (slI x b) d k h n).2.1) 27 (vqS S (slI x b) d k h n).2.2.1) 28 (vqS S (slI x b) d k h n).2.2.2)) (cw_X6_236 hts rfl rfl ⟨Nat.le_of_ble_eq_true rfl, Nat.le_of_ble_eq_true rfl⟩) (preVR (ci := 5) (q0 := 0) hK (hP.sub [25, 26, 27, 28] rfl) rfl rfl) rfl rfl hl.1 rfl (lv_room (Nat.le_of_ble_eq_true rfl)) dX6_versionCount_11 ⟨Nat.le_of_ble_eq_true rfl, Nat.le_of_ble_eq_true rfl⟩) (fun r hr_ => ?_)
  subst hr_
  refine top_eq (y := (nI (vqS S (slI x b) d k h n).1)) rfl ?_
  exact yI_ret ((va_up I 6 (nI (vqS S (slI x b) d k h n).1)), (va_up (va_up (va_up S 26 (vqS S (slI x b) d k h n).2.1) 27 (vqS S (slI x b) d k h n).2.2.1) 28 (vqS S (slI x b) d k h n).2.2.2)) hS hP hx hb hr hlocks dX6_versionCount_14 rfl (Nat.le_of_ble_eq_true rfl) (Nat.le_of_ble_eq_true rfl) hQ ⟨rfl, hqc_1, (scr_S (scr_S (scr_S (scr_I (scr_0 I S) (by decide) _) (by decide) _) (by decide) _) (by decide) _)⟩

set_option maxHeartbeats 4000000 in
set_option maxRecDepth 100000 in
theorem c_X6_versionTick (l : Launch) (hl0 : l.stackTraces = false) (D : va_G) (cy : Nat → ClassId) (ad : Nat → Nat) (I : AI) (S : AS) (sz : Nat) (x : Int32) (b : Int32) (d : Int32) (ix : Int32) (k : Nat) (n : Nat) (h : Nat) (fr : Nat → Nat) (to : Nat → Nat) (ofr : Nat → Nat) (oto : Nat → Nat) (hc : CIv I S k n h fr to ofr oto) : vx_Met l yX6_versionTick (Cond.code yX6_versionTick cX6_versionTick 5 (some .int) :: wsL_law) ({ frames := 9, cells := 3, slots := 18, locals := 156 }) (va_Pc [.ref (ad 0), .int x, .int b, .int d, .int ix] (wxB D cy (wC cy ad I S) sz)) (va_Qi (S := AI × AS) (fun r u => r = (vqS S (slI x b) d k h n).2.1 ix.toNatClampNeg ∧ qc I x b d ∧ ixP (nI (vqS S (slI x b) d k h n).1) ix ∧ scr I S u.1 u.2) (fun u t9 => va_P D clW (wC cy ad u.1 u.2) t9.heap) (va_A (wC cy ad I S) sz)) (xW (S := AI × AS) (fun E u => (qx I x b d E ∨ (E = eNSE ∧ qc I x b d ∧ ¬ ixP (nI (vqS S (slI x b) d k h n).1) ix)) ∧ scr I S u.1 u.2) (fun u => (wC cy ad u.1 u.2)) D (va_A (wC cy ad I S) sz)) 3 18 (va_A (wC cy ad I S) sz) := by
  refine enterX (cc := cX6_versionTick) (by decide) (Nat.le_of_ble_eq_true rfl) ?_
  intro p e s m below meth c hx hb hr hml hown hts hlocks hT hv Q hQ ls hl
  obtain ⟨hsz, hP, hK, hD0, hE, hZ⟩ := hv
  subst hsz
  have hD := hD0.self (sz := s.heap.size)
  generalize hAe : va_A (wC cy ad I S) s.heap.size = A at hD hQ hZ ⊢
  have hA : ∀ q : Nat, s.heap.size ≤ q → A q := fun q h => by rw [← hAe]; exact Or.inr h
  have hS : va_S A s.heap s.heap [] := va_S.rf
  suffices K_ : ∀ (H : Heap) (locs : List Loc), va_P D clW (wC cy ad I S) H → va_S A s.heap H locs → W p l e ({ frames := 9, cells := 3, slots := 18, locals := 156 }) s m ([.ref (ad 0), .int x, .int b, .int d, .int ix] : List Value).toArray below meth c H locs 0 0 Q (F0 m 0 ls []) from K_ _ _ hP hS
  clear hP hS
  intro H locs hP hS
  have hown : s.vm.findClass RX6 = some m.cls := hown
  have hl : lv_has ls 5 [(0, .ref (ad 0)), (1, .int x), (2, .int b), (3, .int d), (4, .int ix)] := hl
  obtain ⟨hn, hn6, hk, hk3, hh, hhn, hfr, hfo, hch⟩ := id hc
  have hk8 : k ≤ 180 := by omega
  refine lv_aload_n hx hb dX6_versionTick_0 rfl (lv_at hl 0 rfl) ?_
  refine lv_iload_n hx hb dX6_versionTick_1 rfl (lv_at hl 1 rfl) ?_
  refine lv_iload_n hx hb dX6_versionTick_2 rfl (lv_at hl 2 rfl) ?_
  refine lv_iload_n hx hb dX6_versionTick_3 rfl (lv_at hl 3 rfl) ?_
  refine yW_call (vx_runV (As := [.int x, .int b, .int d]) (rest := []) ⟨hx, hb, hml, hown, hts⟩ (c_X6_listVersions l hl0 D cy ad I S H.size x b d k n h fr to ofr oto hc) (cw_X6_233 hts rfl rfl ⟨Nat.le_of_ble_eq_true rfl, Nat.le_of_ble_eq_true rfl⟩) (preVWX (ci := 6) (q0 := 0) hK hE (hZ.now hS) (frame_in hD hS hA) hP hD rfl rfl) rfl rfl hl.1 rfl (lv_room (Nat.le_of_ble_eq_true rfl)) dX6_versionTick_4 ⟨Nat.le_of_ble_eq_true rfl, Nat.le_of_ble_eq_true rfl⟩) hD hS hA hT hlocks hQ (Nat.le_of_ble_eq_true rfl) (Nat.le_of_ble_eq_true rfl) (fun u => u) (fun _ => rfl) (fun E u h => ⟨Or.inl h.1, h.2⟩) (fun _ => rfl) (fun u4_1 H locs q4_1 hP hD hS => ?_)
  have hP : va_P D clW (wC cy ad (va_up I 6 (nI (vqS S (slI x b) d k h n).1)) (va_up (va_up (va_up S 26 (vqS S (slI x b) d k h n).2.1) 27 (vqS S (slI x b) d k h n).2.2.1) 28 (vqS S (slI x b) d k h n).2.2.2)) H := hP
  have hD : va_D A (wC cy ad (va_up I 6 (nI (vqS S (slI x b) d k h n).1)) (va_up (va_up (va_up S 26 (vqS S (slI x b) d k h n).2.1) 27 (vqS S (slI x b) d k h n).2.2.1) 28 (vqS S (slI x b) d k h n).2.2.2)) := hD
  have hqc_1 := q4_1
  refine lv_aload_n hx hb dX6_versionTick_7 rfl (lv_at hl 0 rfl) ?_
  refine lv_iload hx hb dX6_versionTick_8 (lv_at hl 4 rfl) ?_
  refine yR_call (vx_runV (As := [.int ix]) (rest := []) ⟨hx, hb, hml, hown, hts⟩ (c_X6_requireVersion l hl0 D cy ad (va_up I 6 (nI (vqS S (slI x b) d k h n).1)) (va_up (va_up (va_up S 26 (vqS S (slI x b) d k h n).2.1) 27 (vqS S (slI x b) d k h n).2.2.1) 28 (vqS S (slI x b) d k h n).2.2.2) ix) (cw_X6_237 hts rfl rfl ⟨Nat.le_of_ble_eq_true rfl, Nat.le_of_ble_eq_true rfl⟩) (preVRX (ci := 6) (q0 := 0) hK hE (hZ.now hS).no hP rfl rfl) rfl rfl hl.1 rfl (lv_room (Nat.le_of_ble_eq_true rfl)) dX6_versionTick_10 ⟨Nat.le_of_ble_eq_true rfl, Nat.le_of_ble_eq_true rfl⟩) ((va_up I 6 (nI (vqS S (slI x b) d k h n).1)), (va_up (va_up (va_up S 26 (vqS S (slI x b) d k h n).2.1) 27 (vqS S (slI x b) d k h n).2.2.1) 28 (vqS S (slI x b) d k h n).2.2.2)) hS hP hT hlocks hQ (Nat.le_of_ble_eq_true rfl) (Nat.le_of_ble_eq_true rfl) (fun E h => ⟨Or.inr (⟨h.1, hqc_1, h.2⟩), (scr_S (scr_S (scr_S (scr_I (scr_0 I S) (by decide) _) (by decide) _) (by decide) _) (by decide) _)⟩) (fun q10_2 => ?_)
  have hix := q10_2
  have hvl : (vqS S (slI x b) d k h n).1 ≤ 61 := Nat.le_trans (vsS_le _ _ _ _ _ _ _ _ _) (by omega)
  obtain ⟨j, hj, rfl⟩ := ixP_of (n := (vqS S (slI x b) d k h n).1) (by omega) hix
  refine lv_aload_n hx hb dX6_versionTick_13 rfl (lv_at hl 0 rfl) ?_
  refine gf_X6_54 hx hb hts hown hK hP 0 rfl (v := .ref (ad 25)) rfl dX6_versionTick_14 ?_
  refine lv_iload hx hb dX6_versionTick_17 (lv_at hl 4 rfl) ?_
  refine rI_call (va_runV (As := [.int (nI j)]) (rest := []) ⟨hx, hb, hml, hown, hts⟩ (c_X5_firstTick l D cy ad (va_up I 6 (nI (vqS S (slI x b) d k h n).1)) (va_up (va_up (va_up S 26 (vqS S (slI x b) d k h n).2.1) 27 (vqS S (slI x b) d k h n).2.2.1) 28 (vqS S (slI x b) d k h n).2.2.2) j (vqS S (slI x b) d k h n).1 rfl hvl hj) (cw_X6_240 hts rfl rfl ⟨Nat.le_of_ble_eq_true rfl, Nat.le_of_ble_eq_true rfl⟩) (preVR (ci := 5) (q0 := 0) hK (hP.sub [25, 26, 27, 28] rfl) rfl rfl) rfl rfl hl.1 rfl (lv_room (Nat.le_of_ble_eq_true rfl)) dX6_versionTick_19 ⟨Nat.le_of_ble_eq_true rfl, Nat.le_of_ble_eq_true rfl⟩) (fun r hr_ => ?_)
  subst hr_
  refine top_eq (y := ((vqS S (slI x b) d k h n).2.1 j)) rfl ?_
  exact yI_ret ((va_up I 6 (nI (vqS S (slI x b) d k h n).1)), (va_up (va_up (va_up S 26 (vqS S (slI x b) d k h n).2.1) 27 (vqS S (slI x b) d k h n).2.2.1) 28 (vqS S (slI x b) d k h n).2.2.2)) hS hP hx hb hr hlocks dX6_versionTick_22 rfl (Nat.le_of_ble_eq_true rfl) (Nat.le_of_ble_eq_true rfl) hQ ⟨(by rw [nI_clamp (by omega)]), hqc_1, hix, (scr_S (scr_S (scr_S (scr_I (scr_0 I S) (by decide) _) (by decide) _) (by decide) _) (by decide) _)⟩

set_option maxHeartbeats 4000000 in
set_option maxRecDepth 100000 in
theorem c_X6_isVersionKnown (l : Launch) (hl0 : l.stackTraces = false) (D : va_G) (cy : Nat → ClassId) (ad : Nat → Nat) (I : AI) (S : AS) (sz : Nat) (x : Int32) (b : Int32) (d : Int32) (ix : Int32) (k : Nat) (n : Nat) (h : Nat) (fr : Nat → Nat) (to : Nat → Nat) (ofr : Nat → Nat) (oto : Nat → Nat) (hc : CIv I S k n h fr to ofr oto) : vx_Met l yX6_isVersionKnown (Cond.code yX6_isVersionKnown cX6_isVersionKnown 5 (some .boolean) :: wsL_law) ({ frames := 9, cells := 3, slots := 18, locals := 156 }) (va_Pc [.ref (ad 0), .int x, .int b, .int d, .int ix] (wxB D cy (wC cy ad I S) sz)) (va_Qi (S := AI × AS) (fun r u => r = (if ¬ (vqS S (slI x b) d k h n).2.2.1 ix.toNatClampNeg = 0 then 1 else 0) ∧ qc I x b d ∧ ixP (nI (vqS S (slI x b) d k h n).1) ix ∧ scr I S u.1 u.2) (fun u t9 => va_P D clW (wC cy ad u.1 u.2) t9.heap) (va_A (wC cy ad I S) sz)) (xW (S := AI × AS) (fun E u => (qx I x b d E ∨ (E = eNSE ∧ qc I x b d ∧ ¬ ixP (nI (vqS S (slI x b) d k h n).1) ix)) ∧ scr I S u.1 u.2) (fun u => (wC cy ad u.1 u.2)) D (va_A (wC cy ad I S) sz)) 3 18 (va_A (wC cy ad I S) sz) := by
  refine enterX (cc := cX6_isVersionKnown) (by decide) (Nat.le_of_ble_eq_true rfl) ?_
  intro p e s m below meth c hx hb hr hml hown hts hlocks hT hv Q hQ ls hl
  obtain ⟨hsz, hP, hK, hD0, hE, hZ⟩ := hv
  subst hsz
  have hD := hD0.self (sz := s.heap.size)
  generalize hAe : va_A (wC cy ad I S) s.heap.size = A at hD hQ hZ ⊢
  have hA : ∀ q : Nat, s.heap.size ≤ q → A q := fun q h => by rw [← hAe]; exact Or.inr h
  have hS : va_S A s.heap s.heap [] := va_S.rf
  suffices K_ : ∀ (H : Heap) (locs : List Loc), va_P D clW (wC cy ad I S) H → va_S A s.heap H locs → W p l e ({ frames := 9, cells := 3, slots := 18, locals := 156 }) s m ([.ref (ad 0), .int x, .int b, .int d, .int ix] : List Value).toArray below meth c H locs 0 0 Q (F0 m 0 ls []) from K_ _ _ hP hS
  clear hP hS
  intro H locs hP hS
  have hown : s.vm.findClass RX6 = some m.cls := hown
  have hl : lv_has ls 5 [(0, .ref (ad 0)), (1, .int x), (2, .int b), (3, .int d), (4, .int ix)] := hl
  obtain ⟨hn, hn6, hk, hk3, hh, hhn, hfr, hfo, hch⟩ := id hc
  have hk8 : k ≤ 180 := by omega
  refine lv_aload_n hx hb dX6_isVersionKnown_0 rfl (lv_at hl 0 rfl) ?_
  refine lv_iload_n hx hb dX6_isVersionKnown_1 rfl (lv_at hl 1 rfl) ?_
  refine lv_iload_n hx hb dX6_isVersionKnown_2 rfl (lv_at hl 2 rfl) ?_
  refine lv_iload_n hx hb dX6_isVersionKnown_3 rfl (lv_at hl 3 rfl) ?_
  refine yW_call (vx_runV (As := [.int x, .int b, .int d]) (rest := []) ⟨hx, hb, hml, hown, hts⟩ (c_X6_listVersions l hl0 D cy ad I S H.size x b d k n h fr to ofr oto hc) (cw_X6_233 hts rfl rfl ⟨Nat.le_of_ble_eq_true rfl, Nat.le_of_ble_eq_true rfl⟩) (preVWX (ci := 6) (q0 := 0) hK hE (hZ.now hS) (frame_in hD hS hA) hP hD rfl rfl) rfl rfl hl.1 rfl (lv_room (Nat.le_of_ble_eq_true rfl)) dX6_isVersionKnown_4 ⟨Nat.le_of_ble_eq_true rfl, Nat.le_of_ble_eq_true rfl⟩) hD hS hA hT hlocks hQ (Nat.le_of_ble_eq_true rfl) (Nat.le_of_ble_eq_true rfl) (fun u => u) (fun _ => rfl) (fun E u h => ⟨Or.inl h.1, h.2⟩) (fun _ => rfl) (fun u4_1 H locs q4_1 hP hD hS => ?_)
  have hP : va_P D clW (wC cy ad (va_up I 6 (nI (vqS S (slI x b) d k h n).1)) (va_up (va_up (va_up S 26 (vqS S (slI x b) d k h n).2.1) 27 (vqS S (slI x b) d k h n).2.2.1) 28 (vqS S (slI x b) d k h n).2.2.2)) H := hP
  have hD : va_D A (wC cy ad (va_up I 6 (nI (vqS S (slI x b) d k h n).1)) (va_up (va_up (va_up S 26 (vqS S (slI x b) d k h n).2.1) 27 (vqS S (slI x b) d k h n).2.2.1) 28 (vqS S (slI x b) d k h n).2.2.2)) := hD
  have hqc_1 := q4_1
  refine lv_aload_n hx hb dX6_isVersionKnown_7 rfl (lv_at hl 0 rfl) ?_
  refine lv_iload hx hb dX6_isVersionKnown_8 (lv_at hl 4 rfl) ?_
  refine yR_call (vx_runV (As := [.int ix]) (rest := []) ⟨hx, hb, hml, hown, hts⟩ (c_X6_requireVersion l hl0 D cy ad (va_up I 6 (nI (vqS S (slI x b) d k h n).1)) (va_up (va_up (va_up S 26 (vqS S (slI x b) d k h n).2.1) 27 (vqS S (slI x b) d k h n).2.2.1) 28 (vqS S (slI x b) d k h n).2.2.2) ix) (cw_X6_237 hts rfl rfl ⟨Nat.le_of_ble_eq_true rfl, Nat.le_of_ble_eq_true rfl⟩) (preVRX (ci := 6) (q0 := 0) hK hE (hZ.now hS).no hP rfl rfl) rfl rfl hl.1 rfl (lv_room (Nat.le_of_ble_eq_true rfl)) dX6_isVersionKnown_10 ⟨Nat.le_of_ble_eq_true rfl, Nat.le_of_ble_eq_true rfl⟩) ((va_up I 6 (nI (vqS S (slI x b) d k h n).1)), (va_up (va_up (va_up S 26 (vqS S (slI x b) d k h n).2.1) 27 (vqS S (slI x b) d k h n).2.2.1) 28 (vqS S (slI x b) d k h n).2.2.2)) hS hP hT hlocks hQ (Nat.le_of_ble_eq_true rfl) (Nat.le_of_ble_eq_true rfl) (fun E h => ⟨Or.inr (⟨h.1, hqc_1, h.2⟩), (scr_S (scr_S (scr_S (scr_I (scr_0 I S) (by decide) _) (by decide) _) (by decide) _) (by decide) _)⟩) (fun q10_2 => ?_)
  have hix := q10_2
  have hvl : (vqS S (slI x b) d k h n).1 ≤ 61 := Nat.le_trans (vsS_le _ _ _ _ _ _ _ _ _) (by omega)
  obtain ⟨j, hj, rfl⟩ := ixP_of (n := (vqS S (slI x b) d k h n).1) (by omega) hix
  refine lv_aload_n hx hb dX6_isVersionKnown_13 rfl (lv_at hl 0 rfl) ?_
  refine gf_X6_54 hx hb hts hown hK hP 0 rfl (v := .ref (ad 25)) rfl dX6_isVersionKnown_14 ?_
  refine lv_iload hx hb dX6_isVersionKnown_17 (lv_at hl 4 rfl) ?_
  refine rZ_call (P := ¬ (vqS S (slI x b) d k h n).2.2.1 j = 0) (va_runV (As := [.int (nI j)]) (rest := []) ⟨hx, hb, hml, hown, hts⟩ (c_X5_has l D cy ad (va_up I 6 (nI (vqS S (slI x b) d k h n).1)) (va_up (va_up (va_up S 26 (vqS S (slI x b) d k h n).2.1) 27 (vqS S (slI x b) d k h n).2.2.1) 28 (vqS S (slI x b) d k h n).2.2.2) j (vqS S (slI x b) d k h n).1 rfl hvl hj) (cw_X6_243 hts rfl rfl ⟨Nat.le_of_ble_eq_true rfl, Nat.le_of_ble_eq_true rfl⟩) (preVR (ci := 5) (q0 := 0) hK (hP.sub [25, 26, 27, 28] rfl) rfl rfl) rfl rfl hl.1 rfl (lv_room (Nat.le_of_ble_eq_true rfl)) dX6_isVersionKnown_19 ⟨Nat.le_of_ble_eq_true rfl, Nat.le_of_ble_eq_true rfl⟩) (fun b19_3 => ?_) (fun b19_3 => ?_)
  · exact yI_ret ((va_up I 6 (nI (vqS S (slI x b) d k h n).1)), (va_up (va_up (va_up S 26 (vqS S (slI x b) d k h n).2.1) 27 (vqS S (slI x b) d k h n).2.2.1) 28 (vqS S (slI x b) d k h n).2.2.2)) hS hP hx hb hr hlocks dX6_isVersionKnown_22 narZ1 (Nat.le_of_ble_eq_true rfl) (Nat.le_of_ble_eq_true rfl) hQ ⟨(by rw [nI_clamp (by omega), if_pos b19_3]), hqc_1, hix, (scr_S (scr_S (scr_S (scr_I (scr_0 I S) (by decide) _) (by decide) _) (by decide) _) (by decide) _)⟩
  · exact yI_ret ((va_up I 6 (nI (vqS S (slI x b) d k h n).1)), (va_up (va_up (va_up S 26 (vqS S (slI x b) d k h n).2.1) 27 (vqS S (slI x b) d k h n).2.2.1) 28 (vqS S (slI x b) d k h n).2.2.2)) hS hP hx hb hr hlocks dX6_isVersionKnown_22 narZ0 (Nat.le_of_ble_eq_true rfl) (Nat.le_of_ble_eq_true rfl) hQ ⟨(by rw [nI_clamp (by omega), if_neg b19_3]), hqc_1, hix, (scr_S (scr_S (scr_S (scr_I (scr_0 I S) (by decide) _) (by decide) _) (by decide) _) (by decide) _)⟩

set_option maxHeartbeats 4000000 in
set_option maxRecDepth 100000 in
theorem c_X6_versionValue (l : Launch) (hl0 : l.stackTraces = false) (D : va_G) (cy : Nat → ClassId) (ad : Nat → Nat) (I : AI) (S : AS) (sz : Nat) (x : Int32) (b : Int32) (d : Int32) (ix : Int32) (k : Nat) (n : Nat) (h : Nat) (fr : Nat → Nat) (to : Nat → Nat) (ofr : Nat → Nat) (oto : Nat → Nat) (hc : CIv I S k n h fr to ofr oto) : vx_Met l yX6_versionValue (Cond.code yX6_versionValue cX6_versionValue 5 (some .int) :: wsL_law) ({ frames := 9, cells := 4, slots := 24, locals := 156 }) (va_Pc [.ref (ad 0), .int x, .int b, .int d, .int ix] (wxB D cy (wC cy ad I S) sz)) (va_Qi (S := AI × AS) (fun r u => r = (vqS S (slI x b) d k h n).2.2.2 ix.toNatClampNeg ∧ qc I x b d ∧ ixP (nI (vqS S (slI x b) d k h n).1) ix ∧ ¬ (vqS S (slI x b) d k h n).2.2.1 ix.toNatClampNeg = 0 ∧ scr I S u.1 u.2) (fun u t9 => va_P D clW (wC cy ad u.1 u.2) t9.heap) (va_A (wC cy ad I S) sz)) (xW (S := AI × AS) (fun E u => (qx I x b d E ∨ (E = eNSE ∧ qc I x b d ∧ ¬ ixP (nI (vqS S (slI x b) d k h n).1) ix) ∨ (E = eNSE ∧ qc I x b d ∧ ixP (nI (vqS S (slI x b) d k h n).1) ix ∧ (vqS S (slI x b) d k h n).2.2.1 ix.toNatClampNeg = 0)) ∧ scr I S u.1 u.2) (fun u => (wC cy ad u.1 u.2)) D (va_A (wC cy ad I S) sz)) 4 24 (va_A (wC cy ad I S) sz) := by
  refine enterX (cc := cX6_versionValue) (by decide) (Nat.le_of_ble_eq_true rfl) ?_
  intro p e s m below meth c hx hb hr hml hown hts hlocks hT hv Q hQ ls hl
  obtain ⟨hsz, hP, hK, hD0, hE, hZ⟩ := hv
  subst hsz
  have hD := hD0.self (sz := s.heap.size)
  generalize hAe : va_A (wC cy ad I S) s.heap.size = A at hD hQ hZ ⊢
  have hA : ∀ q : Nat, s.heap.size ≤ q → A q := fun q h => by rw [← hAe]; exact Or.inr h
  have hS : va_S A s.heap s.heap [] := va_S.rf
  suffices K_ : ∀ (H : Heap) (locs : List Loc), va_P D clW (wC cy ad I S) H → va_S A s.heap H locs → W p l e ({ frames := 9, cells := 4, slots := 24, locals := 156 }) s m ([.ref (ad 0), .int x, .int b, .int d, .int ix] : List Value).toArray below meth c H locs 0 0 Q (F0 m 0 ls []) from K_ _ _ hP hS
  clear hP hS
  intro H locs hP hS
  have hown : s.vm.findClass RX6 = some m.cls := hown
  have hl : lv_has ls 5 [(0, .ref (ad 0)), (1, .int x), (2, .int b), (3, .int d), (4, .int ix)] := hl
  obtain ⟨hn, hn6, hk, hk3, hh, hhn, hfr, hfo, hch⟩ := id hc
  have hk8 : k ≤ 180 := by omega
  refine lv_aload_n hx hb dX6_versionValue_0 rfl (lv_at hl 0 rfl) ?_
  refine lv_iload_n hx hb dX6_versionValue_1 rfl (lv_at hl 1 rfl) ?_
  refine lv_iload_n hx hb dX6_versionValue_2 rfl (lv_at hl 2 rfl) ?_
  refine lv_iload_n hx hb dX6_versionValue_3 rfl (lv_at hl 3 rfl) ?_
  refine yW_call (vx_runV (As := [.int x, .int b, .int d]) (rest := []) ⟨hx, hb, hml, hown, hts⟩ (c_X6_listVersions l hl0 D cy ad I S H.size x b d k n h fr to ofr oto hc) (cw_X6_233 hts rfl rfl ⟨Nat.le_of_ble_eq_true rfl, Nat.le_of_ble_eq_true rfl⟩) (preVWX (ci := 6) (q0 := 0) hK hE (hZ.now hS) (frame_in hD hS hA) hP hD rfl rfl) rfl rfl hl.1 rfl (lv_room (Nat.le_of_ble_eq_true rfl)) dX6_versionValue_4 ⟨Nat.le_of_ble_eq_true rfl, Nat.le_of_ble_eq_true rfl⟩) hD hS hA hT hlocks hQ (Nat.le_of_ble_eq_true rfl) (Nat.le_of_ble_eq_true rfl) (fun u => u) (fun _ => rfl) (fun E u h => ⟨Or.inl h.1, h.2⟩) (fun _ => rfl) (fun u4_1 H locs q4_1 hP hD hS => ?_)
  have hP : va_P D clW (wC cy ad (va_up I 6 (nI (vqS S (slI x b) d k h n).1)) (va_up (va_up (va_up S 26 (vqS S (slI x b) d k h n).2.1) 27 (vqS S (slI x b) d k h n).2.2.1) 28 (vqS S (slI x b) d k h n).2.2.2)) H := hP
  have hD : va_D A (wC cy ad (va_up I 6 (nI (vqS S (slI x b) d k h n).1)) (va_up (va_up (va_up S 26 (vqS S (slI x b) d k h n).2.1) 27 (vqS S (slI x b) d k h n).2.2.1) 28 (vqS S (slI x b) d k h n).2.2.2)) := hD
  have hqc_1 := q4_1
  refine lv_aload_n hx hb dX6_versionValue_7 rfl (lv_at hl 0 rfl) ?_
  refine lv_iload hx hb dX6_versionValue_8 (lv_at hl 4 rfl) ?_
  refine yR_call (vx_runV (As := [.int ix]) (rest := []) ⟨hx, hb, hml, hown, hts⟩ (c_X6_requireVersion l hl0 D cy ad (va_up I 6 (nI (vqS S (slI x b) d k h n).1)) (va_up (va_up (va_up S 26 (vqS S (slI x b) d k h n).2.1) 27 (vqS S (slI x b) d k h n).2.2.1) 28 (vqS S (slI x b) d k h n).2.2.2) ix) (cw_X6_237 hts rfl rfl ⟨Nat.le_of_ble_eq_true rfl, Nat.le_of_ble_eq_true rfl⟩) (preVRX (ci := 6) (q0 := 0) hK hE (hZ.now hS).no hP rfl rfl) rfl rfl hl.1 rfl (lv_room (Nat.le_of_ble_eq_true rfl)) dX6_versionValue_10 ⟨Nat.le_of_ble_eq_true rfl, Nat.le_of_ble_eq_true rfl⟩) ((va_up I 6 (nI (vqS S (slI x b) d k h n).1)), (va_up (va_up (va_up S 26 (vqS S (slI x b) d k h n).2.1) 27 (vqS S (slI x b) d k h n).2.2.1) 28 (vqS S (slI x b) d k h n).2.2.2)) hS hP hT hlocks hQ (Nat.le_of_ble_eq_true rfl) (Nat.le_of_ble_eq_true rfl) (fun E h => ⟨Or.inr (Or.inl ⟨h.1, hqc_1, h.2⟩), (scr_S (scr_S (scr_S (scr_I (scr_0 I S) (by decide) _) (by decide) _) (by decide) _) (by decide) _)⟩) (fun q10_2 => ?_)
  have hix := q10_2
  have hvl : (vqS S (slI x b) d k h n).1 ≤ 61 := Nat.le_trans (vsS_le _ _ _ _ _ _ _ _ _) (by omega)
  obtain ⟨j, hj, rfl⟩ := ixP_of (n := (vqS S (slI x b) d k h n).1) (by omega) hix
  refine lv_aload_n hx hb dX6_versionValue_13 rfl (lv_at hl 0 rfl) ?_
  refine lv_aload_n hx hb dX6_versionValue_14 rfl (lv_at hl 0 rfl) ?_
  refine gf_X6_54 hx hb hts hown hK hP 0 rfl (v := .ref (ad 25)) rfl dX6_versionValue_15 ?_
  refine lv_iload hx hb dX6_versionValue_18 (lv_at hl 4 rfl) ?_
  refine rZ_call (P := ¬ (vqS S (slI x b) d k h n).2.2.1 j = 0) (va_runV (As := [.int (nI j)]) (rest := [.ref (ad 0)]) ⟨hx, hb, hml, hown, hts⟩ (c_X5_has l D cy ad (va_up I 6 (nI (vqS S (slI x b) d k h n).1)) (va_up (va_up (va_up S 26 (vqS S (slI x b) d k h n).2.1) 27 (vqS S (slI x b) d k h n).2.2.1) 28 (vqS S (slI x b) d k h n).2.2.2) j (vqS S (slI x b) d k h n).1 rfl hvl hj) (cw_X6_243 hts rfl rfl ⟨Nat.le_of_ble_eq_true rfl, Nat.le_of_ble_eq_true rfl⟩) (preVR (ci := 5) (q0 := 0) hK (hP.sub [25, 26, 27, 28] rfl) rfl rfl) rfl rfl hl.1 rfl (lv_room (Nat.le_of_ble_eq_true rfl)) dX6_versionValue_20 ⟨Nat.le_of_ble_eq_true rfl, Nat.le_of_ble_eq_true rfl⟩) (fun b20_3 => ?_) (fun b20_3 => ?_)
  · refine yR_call (vx_runV (As := [.int 1]) (rest := []) ⟨hx, hb, hml, hown, hts⟩ (c_X6_requireKnown l hl0 D cy ad (va_up I 6 (nI (vqS S (slI x b) d k h n).1)) (va_up (va_up (va_up S 26 (vqS S (slI x b) d k h n).2.1) 27 (vqS S (slI x b) d k h n).2.2.1) 28 (vqS S (slI x b) d k h n).2.2.2) 1) (cw_X6_110 hts rfl rfl ⟨Nat.le_of_ble_eq_true rfl, Nat.le_of_ble_eq_true rfl⟩) (preVRX (ci := 6) (q0 := 0) hK hE (hZ.now hS).no hP rfl rfl) rfl rfl hl.1 rfl (lv_room (Nat.le_of_ble_eq_true rfl)) dX6_versionValue_23 ⟨Nat.le_of_ble_eq_true rfl, Nat.le_of_ble_eq_true rfl⟩) ((va_up I 6 (nI (vqS S (slI x b) d k h n).1)), (va_up (va_up (va_up S 26 (vqS S (slI x b) d k h n).2.1) 27 (vqS S (slI x b) d k h n).2.2.1) 28 (vqS S (slI x b) d k h n).2.2.2)) hS hP hT hlocks hQ (Nat.le_of_ble_eq_true rfl) (Nat.le_of_ble_eq_true rfl) (fun E h => absurd (by decide) h.2) (fun q23_4 => ?_)
    refine lv_aload_n hx hb dX6_versionValue_26 rfl (lv_at hl 0 rfl) ?_
    refine gf_X6_54 hx hb hts hown hK hP 0 rfl (v := .ref (ad 25)) rfl dX6_versionValue_27 ?_
    refine lv_iload hx hb dX6_versionValue_30 (lv_at hl 4 rfl) ?_
    refine rI_call (va_runV (As := [.int (nI j)]) (rest := []) ⟨hx, hb, hml, hown, hts⟩ (c_X5_value l D cy ad (va_up I 6 (nI (vqS S (slI x b) d k h n).1)) (va_up (va_up (va_up S 26 (vqS S (slI x b) d k h n).2.1) 27 (vqS S (slI x b) d k h n).2.2.1) 28 (vqS S (slI x b) d k h n).2.2.2) j (vqS S (slI x b) d k h n).1 rfl hvl hj) (cw_X6_244 hts rfl rfl ⟨Nat.le_of_ble_eq_true rfl, Nat.le_of_ble_eq_true rfl⟩) (preVR (ci := 5) (q0 := 0) hK (hP.sub [25, 26, 27, 28] rfl) rfl rfl) rfl rfl hl.1 rfl (lv_room (Nat.le_of_ble_eq_true rfl)) dX6_versionValue_32 ⟨Nat.le_of_ble_eq_true rfl, Nat.le_of_ble_eq_true rfl⟩) (fun r hr_ => ?_)
    subst hr_
    refine top_eq (y := (if (vqS S (slI x b) d k h n).2.2.1 j = 0 then 0 else (vqS S (slI x b) d k h n).2.2.2 j)) rfl ?_
    exact yI_ret ((va_up I 6 (nI (vqS S (slI x b) d k h n).1)), (va_up (va_up (va_up S 26 (vqS S (slI x b) d k h n).2.1) 27 (vqS S (slI x b) d k h n).2.2.1) 28 (vqS S (slI x b) d k h n).2.2.2)) hS hP hx hb hr hlocks dX6_versionValue_35 rfl (Nat.le_of_ble_eq_true rfl) (Nat.le_of_ble_eq_true rfl) hQ ⟨(by rw [nI_clamp (by omega)]; exact if_neg b20_3), hqc_1, hix, (by rw [nI_clamp (by omega)]; exact b20_3), (scr_S (scr_S (scr_S (scr_I (scr_0 I S) (by decide) _) (by decide) _) (by decide) _) (by decide) _)⟩
  · refine yR_call (vx_runV (As := [.int 0]) (rest := []) ⟨hx, hb, hml, hown, hts⟩ (c_X6_requireKnown l hl0 D cy ad (va_up I 6 (nI (vqS S (slI x b) d k h n).1)) (va_up (va_up (va_up S 26 (vqS S (slI x b) d k h n).2.1) 27 (vqS S (slI x b) d k h n).2.2.1) 28 (vqS S (slI x b) d k h n).2.2.2) 0) (cw_X6_110 hts rfl rfl ⟨Nat.le_of_ble_eq_true rfl, Nat.le_of_ble_eq_true rfl⟩) (preVRX (ci := 6) (q0 := 0) hK hE (hZ.now hS).no hP rfl rfl) rfl rfl hl.1 rfl (lv_room (Nat.le_of_ble_eq_true rfl)) dX6_versionValue_23 ⟨Nat.le_of_ble_eq_true rfl, Nat.le_of_ble_eq_true rfl⟩) ((va_up I 6 (nI (vqS S (slI x b) d k h n).1)), (va_up (va_up (va_up S 26 (vqS S (slI x b) d k h n).2.1) 27 (vqS S (slI x b) d k h n).2.2.1) 28 (vqS S (slI x b) d k h n).2.2.2)) hS hP hT hlocks hQ (Nat.le_of_ble_eq_true rfl) (Nat.le_of_ble_eq_true rfl) (fun E h => ⟨Or.inr (Or.inr ⟨h.1, hqc_1, hix, by rw [nI_clamp (by omega)]; exact Decidable.of_not_not b20_3⟩), (scr_S (scr_S (scr_S (scr_I (scr_0 I S) (by decide) _) (by decide) _) (by decide) _) (by decide) _)⟩) (fun q23_5 => ?_)
    exact absurd rfl q23_5

set_option maxHeartbeats 4000000 in
set_option maxRecDepth 100000 in
theorem c_X6_valueByReplay (l : Launch) (hl0 : l.stackTraces = false) (D : va_G) (cy : Nat → ClassId) (ad : Nat → Nat) (I : AI) (S : AS) (sz : Nat) (x : Int32) (b : Int32) (d : Int32) (t : Int32) (k : Nat) (n : Nat) (h : Nat) (fr : Nat → Nat) (to : Nat → Nat) (ofr : Nat → Nat) (oto : Nat → Nat) (hc : CIv I S k n h fr to ofr oto) : vx_Met l yX6_valueByReplay (Cond.code yX6_valueByReplay cX6_valueByReplay 5 (some .int) :: wsL_law) ({ frames := 9, cells := 5, slots := 30, locals := 154 }) (va_Pc [.ref (ad 0), .int x, .int b, .int d, .int t] (wxB D cy (wC cy ad I S) sz)) (va_Qi (S := AI × AS) (fun r u => r = vlI (rpKN S (slI x b) ofr oto (S 17) t.toNatClampNeg) (rpVN S (slI x b) ofr oto (S 18) t.toNatClampNeg) d ∧ ac I x b d t ∧ kb (rpKN S (slI x b) ofr oto (S 17) t.toNatClampNeg) d = true ∧ scr I S u.1 u.2) (fun u t9 => va_P D clW (wC cy ad u.1 u.2) t9.heap) (va_A (wC cy ad I S) sz)) (xW (S := AI × AS) (fun E u => (ax I x b d t E ∨ (E = eNSE ∧ ac I x b d t ∧ ¬ kb (rpKN S (slI x b) ofr oto (S 17) t.toNatClampNeg) d = true)) ∧ scr I S u.1 u.2) (fun u => (wC cy ad u.1 u.2)) D (va_A (wC cy ad I S) sz)) 5 30 (va_A (wC cy ad I S) sz) := by
  refine enterX (cc := cX6_valueByReplay) (by decide) (Nat.le_of_ble_eq_true rfl) ?_
  intro p e s m below meth c hx hb hr hml hown hts hlocks hT hv Q hQ ls hl
  obtain ⟨hsz, hP, hK, hD0, hE, hZ⟩ := hv
  subst hsz
  have hD := hD0.self (sz := s.heap.size)
  generalize hAe : va_A (wC cy ad I S) s.heap.size = A at hD hQ hZ ⊢
  have hA : ∀ q : Nat, s.heap.size ≤ q → A q := fun q h => by rw [← hAe]; exact Or.inr h
  have hS : va_S A s.heap s.heap [] := va_S.rf
  suffices K_ : ∀ (H : Heap) (locs : List Loc), va_P D clW (wC cy ad I S) H → va_S A s.heap H locs → W p l e ({ frames := 9, cells := 5, slots := 30, locals := 154 }) s m ([.ref (ad 0), .int x, .int b, .int d, .int t] : List Value).toArray below meth c H locs 0 0 Q (F0 m 0 ls []) from K_ _ _ hP hS
  clear hP hS
  intro H locs hP hS
  have hown : s.vm.findClass RX6 = some m.cls := hown
  have hl : lv_has ls 5 [(0, .ref (ad 0)), (1, .int x), (2, .int b), (3, .int d), (4, .int t)] := hl
  obtain ⟨hn, hn6, hk, hk3, hh, hhn, hfr, hfo, hch⟩ := id hc
  have hk8 : k ≤ 180 := by omega
  refine lv_aload_n hx hb dX6_valueByReplay_0 rfl (lv_at hl 0 rfl) ?_
  refine lv_iload_n hx hb dX6_valueByReplay_1 rfl (lv_at hl 1 rfl) ?_
  refine lv_iload_n hx hb dX6_valueByReplay_2 rfl (lv_at hl 2 rfl) ?_
  refine yR_call (vx_runV (As := [.int x, .int b]) (rest := []) ⟨hx, hb, hml, hown, hts⟩ (c_X6_requireAttribute l hl0 D cy ad I S x b) (cw_X6_65 hts rfl rfl ⟨Nat.le_of_ble_eq_true rfl, Nat.le_of_ble_eq_true rfl⟩) (preVRX (ci := 6) (q0 := 0) hK hE (hZ.now hS).no hP rfl rfl) rfl rfl hl.1 rfl (lv_room (Nat.le_of_ble_eq_true rfl)) dX6_valueByReplay_3 ⟨Nat.le_of_ble_eq_true rfl, Nat.le_of_ble_eq_true rfl⟩) (I, S) hS hP hT hlocks hQ (Nat.le_of_ble_eq_true rfl) (Nat.le_of_ble_eq_true rfl) (fun E h => ⟨Or.inl (Or.inl ⟨h.1, h.2⟩), scr_0 _ _⟩) (fun q3_1 => ?_)
  refine lv_aload_n hx hb dX6_valueByReplay_6 rfl (lv_at hl 0 rfl) ?_
  refine lv_iload_n hx hb dX6_valueByReplay_7 rfl (lv_at hl 3 rfl) ?_
  refine lv_iload hx hb dX6_valueByReplay_8 (lv_at hl 4 rfl) ?_
  refine yR_call (vx_runV (As := [.int d, .int t]) (rest := []) ⟨hx, hb, hml, hown, hts⟩ (c_X6_requireDayAndTick l hl0 D cy ad I S d t) (cw_X6_160 hts rfl rfl ⟨Nat.le_of_ble_eq_true rfl, Nat.le_of_ble_eq_true rfl⟩) (preVRX (ci := 6) (q0 := 0) hK hE (hZ.now hS).no hP rfl rfl) rfl rfl hl.1 rfl (lv_room (Nat.le_of_ble_eq_true rfl)) dX6_valueByReplay_10 ⟨Nat.le_of_ble_eq_true rfl, Nat.le_of_ble_eq_true rfl⟩) (I, S) hS hP hT hlocks hQ (Nat.le_of_ble_eq_true rfl) (Nat.le_of_ble_eq_true rfl) (fun E h => ⟨Or.inl (Or.inr (h.elim (fun h => Or.inl ⟨h.1, q3_1, h.2⟩) (fun h => Or.inr ⟨h.1, q3_1, h.2⟩))), scr_0 _ _⟩) (fun q10_2 => ?_)
  have hac : ac I x b d t := ⟨q3_1, q10_2⟩
  have htk := hac.2.2.1
  rw [hn] at htk
  obtain ⟨j, hj, rfl⟩ := tkP_of (by omega) htk
  refine lv_aload_n hx hb dX6_valueByReplay_13 rfl (lv_at hl 0 rfl) ?_
  refine gf_X6_12 hx hb hts hown hK hP 0 rfl (v := .ref (ad 1)) rfl dX6_valueByReplay_14 ?_
  refine lv_aload_n hx hb dX6_valueByReplay_17 rfl (lv_at hl 0 rfl) ?_
  refine gf_X6_37 hx hb hts hown hK hP 0 rfl (v := .ref (ad 16)) rfl dX6_valueByReplay_18 ?_
  refine lv_iload_n hx hb dX6_valueByReplay_21 rfl (lv_at hl 1 rfl) ?_
  refine lv_iload_n hx hb dX6_valueByReplay_22 rfl (lv_at hl 2 rfl) ?_
  refine rI_call (va_runS (As := [.int x, .int b]) (rest := [.ref (ad 16), .ref (ad 1)]) ⟨hx, hb, hml, hown, hts⟩ (c_X6_slotOf l D cy x b) (cw_X6_75 hts rfl rfl ⟨Nat.le_of_ble_eq_true rfl, Nat.le_of_ble_eq_true rfl⟩) (preSR hK (hP.sub [] rfl)) rfl rfl hl.1 rfl (lv_room (Nat.le_of_ble_eq_true rfl)) dX6_valueByReplay_23 ⟨Nat.le_of_ble_eq_true rfl, Nat.le_of_ble_eq_true rfl⟩) (fun r hr_ => ?_)
  subst hr_
  refine lv_iload hx hb dX6_valueByReplay_26 (lv_at hl 4 rfl) ?_
  refine wV_call (va_runV (As := [.ref (ad 16), .int (slI x b), .int (nI j)]) (rest := []) ⟨hx, hb, hml, hown, hts⟩ (c_X3_replayInto_16 l D cy ad I S H.size (slI x b) j n hn (by omega) hj ofr oto hfo) (cw_X6_163 hts rfl rfl ⟨Nat.le_of_ble_eq_true rfl, Nat.le_of_ble_eq_true rfl⟩) (preVW (ci := 3) (q0 := 0) hK (hP.sub [1, 2, 3, 4, 5, 6, 16, 17, 18] rfl) (hD.sub [1, 2, 3, 4, 5, 6, 16, 17, 18] (by decide) rfl) rfl rfl) rfl rfl hl.1 rfl (lv_room (Nat.le_of_ble_eq_true rfl)) dX6_valueByReplay_28 ⟨Nat.le_of_ble_eq_true rfl, Nat.le_of_ble_eq_true rfl⟩) hP hD hS hA [1, 2, 3, 4, 5, 6, 16, 17, 18] rfl [.inl 0, .inr 0, .inr 1, .inr 2, .inr 3, .inr 4, .inr 5, .inl 7, .inl 8, .inl 9, .inl 10, .inl 11, .inl 12, .inl 13, .inl 14, .inl 15, .inr 6, .inr 7, .inr 8, .inl 19, .inl 20, .inl 21, .inl 22, .inl 23, .inl 24, .inl 25, .inl 26, .inl 27, .inl 28] (by decide) (fun u => (wC cy ad I (va_up (va_up S 17 (rpKN S (slI x b) ofr oto (S 17) j)) 18 (rpVN S (slI x b) ofr oto (S 18) j)))) (fun _ => rfl) (fun _ => rfl) (fun u28_3 H locs q28_3 hP hD hS hkp => ?_)
  have hP : va_P D clW (wC cy ad I (va_up (va_up S 17 (rpKN S (slI x b) ofr oto (S 17) j)) 18 (rpVN S (slI x b) ofr oto (S 18) j))) H := hP
  have hD : va_D A (wC cy ad I (va_up (va_up S 17 (rpKN S (slI x b) ofr oto (S 17) j)) 18 (rpVN S (slI x b) ofr oto (S 18) j))) := hD
  refine lv_aload_n hx hb dX6_valueByReplay_31 rfl (lv_at hl 0 rfl) ?_
  refine lv_aload_n hx hb dX6_valueByReplay_32 rfl (lv_at hl 0 rfl) ?_
  refine gf_X6_37 hx hb hts hown hK hP 0 rfl (v := .ref (ad 16)) rfl dX6_valueByReplay_33 ?_
  refine lv_iload_n hx hb dX6_valueByReplay_36 rfl (lv_at hl 3 rfl) ?_
  refine rZ_call (P := kb ((rpKN S (slI x b) ofr oto (S 17) j)) d = true) (va_runV (As := [.int d]) (rest := [.ref (ad 0)]) ⟨hx, hb, hml, hown, hts⟩ (c_X1_has_16 l D cy ad (va_up (va_up S 17 (rpKN S (slI x b) ofr oto (S 17) j)) 18 (rpVN S (slI x b) ofr oto (S 18) j)) d) (cw_X6_167 hts rfl rfl ⟨Nat.le_of_ble_eq_true rfl, Nat.le_of_ble_eq_true rfl⟩) (preVR (ci := 1) (q0 := 0) hK (hP.sub [16, 17, 18] rfl) rfl rfl) rfl rfl hl.1 rfl (lv_room (Nat.le_of_ble_eq_true rfl)) dX6_valueByReplay_37 ⟨Nat.le_of_ble_eq_true rfl, Nat.le_of_ble_eq_true rfl⟩) (fun b37_4 => ?_) (fun b37_4 => ?_)
  · refine yR_call (vx_runV (As := [.int 1]) (rest := []) ⟨hx, hb, hml, hown, hts⟩ (c_X6_requireKnown l hl0 D cy ad I (va_up (va_up S 17 (rpKN S (slI x b) ofr oto (S 17) j)) 18 (rpVN S (slI x b) ofr oto (S 18) j)) 1) (cw_X6_110 hts rfl rfl ⟨Nat.le_of_ble_eq_true rfl, Nat.le_of_ble_eq_true rfl⟩) (preVRX (ci := 6) (q0 := 0) hK hE (hZ.now hS).no hP rfl rfl) rfl rfl hl.1 rfl (lv_room (Nat.le_of_ble_eq_true rfl)) dX6_valueByReplay_40 ⟨Nat.le_of_ble_eq_true rfl, Nat.le_of_ble_eq_true rfl⟩) (I, (va_up (va_up S 17 (rpKN S (slI x b) ofr oto (S 17) j)) 18 (rpVN S (slI x b) ofr oto (S 18) j))) hS hP hT hlocks hQ (Nat.le_of_ble_eq_true rfl) (Nat.le_of_ble_eq_true rfl) (fun E h => absurd (by decide) h.2) (fun q40_5 => ?_)
    refine lv_aload_n hx hb dX6_valueByReplay_43 rfl (lv_at hl 0 rfl) ?_
    refine gf_X6_37 hx hb hts hown hK hP 0 rfl (v := .ref (ad 16)) rfl dX6_valueByReplay_44 ?_
    refine lv_iload_n hx hb dX6_valueByReplay_47 rfl (lv_at hl 3 rfl) ?_
    refine rI_call (va_runV (As := [.int d]) (rest := []) ⟨hx, hb, hml, hown, hts⟩ (c_X1_value_16 l D cy ad (va_up (va_up S 17 (rpKN S (slI x b) ofr oto (S 17) j)) 18 (rpVN S (slI x b) ofr oto (S 18) j)) d) (cw_X6_171 hts rfl rfl ⟨Nat.le_of_ble_eq_true rfl, Nat.le_of_ble_eq_true rfl⟩) (preVR (ci := 1) (q0 := 0) hK (hP.sub [16, 17, 18] rfl) rfl rfl) rfl rfl hl.1 rfl (lv_room (Nat.le_of_ble_eq_true rfl)) dX6_valueByReplay_48 ⟨Nat.le_of_ble_eq_true rfl, Nat.le_of_ble_eq_true rfl⟩) (fun r hr_ => ?_)
    subst hr_
    refine top_eq (y := (vlI ((rpKN S (slI x b) ofr oto (S 17) j)) ((rpVN S (slI x b) ofr oto (S 18) j)) d)) rfl ?_
    exact yI_ret (I, (va_up (va_up S 17 (rpKN S (slI x b) ofr oto (S 17) j)) 18 (rpVN S (slI x b) ofr oto (S 18) j))) hS hP hx hb hr hlocks dX6_valueByReplay_51 rfl (Nat.le_of_ble_eq_true rfl) (Nat.le_of_ble_eq_true rfl) hQ ⟨by rw [nI_clamp (by omega)], hac, by rw [nI_clamp (by omega)]; exact b37_4, (scr_S (scr_S (scr_0 I S) (by decide) _) (by decide) _)⟩
  · refine yR_call (vx_runV (As := [.int 0]) (rest := []) ⟨hx, hb, hml, hown, hts⟩ (c_X6_requireKnown l hl0 D cy ad I (va_up (va_up S 17 (rpKN S (slI x b) ofr oto (S 17) j)) 18 (rpVN S (slI x b) ofr oto (S 18) j)) 0) (cw_X6_110 hts rfl rfl ⟨Nat.le_of_ble_eq_true rfl, Nat.le_of_ble_eq_true rfl⟩) (preVRX (ci := 6) (q0 := 0) hK hE (hZ.now hS).no hP rfl rfl) rfl rfl hl.1 rfl (lv_room (Nat.le_of_ble_eq_true rfl)) dX6_valueByReplay_40 ⟨Nat.le_of_ble_eq_true rfl, Nat.le_of_ble_eq_true rfl⟩) (I, (va_up (va_up S 17 (rpKN S (slI x b) ofr oto (S 17) j)) 18 (rpVN S (slI x b) ofr oto (S 18) j))) hS hP hT hlocks hQ (Nat.le_of_ble_eq_true rfl) (Nat.le_of_ble_eq_true rfl) (fun E h => ⟨Or.inr ⟨h.1, hac, by rw [nI_clamp (by omega)]; exact b37_4⟩, (scr_S (scr_S (scr_0 I S) (by decide) _) (by decide) _)⟩) (fun q40_6 => ?_)
    exact absurd rfl q40_6

set_option maxHeartbeats 4000000 in
set_option maxRecDepth 100000 in
theorem c_X6_writePeriods (l : Launch) (hl0 : l.stackTraces = false) (D : va_G) (cy : Nat → ClassId) (ad : Nat → Nat) (I : AI) (S : AS) (sz : Nat) (x : Int32) (b : Int32) (t : Int32) (k : Nat) (n : Nat) (h : Nat) (fr : Nat → Nat) (to : Nat → Nat) (ofr : Nat → Nat) (oto : Nat → Nat) (hc : CIv I S k n h fr to ofr oto) : vx_Met l yX6_writePeriods (Cond.code yX6_writePeriods cX6_writePeriods 4 (some .int) :: wsL_law) ({ frames := 11, cells := 4, slots := 24, locals := 206 }) (va_Pc [.ref (ad 0), .int x, .int b, .int t] (wxB D cy (wC cy ad I S) sz)) (va_Qi (S := AI × AS) (fun r u => r = nI (wrL (wpS S (slI x b) t fr to k) (jpS S (slI x b) (slI x b) t fr to k).1).length ∧ jc I x b x b t ∧ scr (va_up I 4 (nI (wrL (wpS S (slI x b) t fr to k) (jpS S (slI x b) (slI x b) t fr to k).1).length)) (va_up S 15 (appL (S 15) 0 (wrL (wpS S (slI x b) t fr to k) (jpS S (slI x b) (slI x b) t fr to k).1))) u.1 u.2) (fun u t9 => va_P D clW (wC cy ad u.1 u.2) t9.heap) (va_A (wC cy ad I S) sz)) (xW (S := AI × AS) (fun E u => jx I x b x b t E ∧ scr I S u.1 u.2) (fun u => (wC cy ad u.1 u.2)) D (va_A (wC cy ad I S) sz)) 4 24 (va_A (wC cy ad I S) sz) := by
  refine enterX (cc := cX6_writePeriods) (by decide) (Nat.le_of_ble_eq_true rfl) ?_
  intro p e s m below meth c hx hb hr hml hown hts hlocks hT hv Q hQ ls hl
  obtain ⟨hsz, hP, hK, hD0, hE, hZ⟩ := hv
  subst hsz
  have hD := hD0.self (sz := s.heap.size)
  generalize hAe : va_A (wC cy ad I S) s.heap.size = A at hD hQ hZ ⊢
  have hA : ∀ q : Nat, s.heap.size ≤ q → A q := fun q h => by rw [← hAe]; exact Or.inr h
  have hS : va_S A s.heap s.heap [] := va_S.rf
  suffices K_ : ∀ (H : Heap) (locs : List Loc), va_P D clW (wC cy ad I S) H → va_S A s.heap H locs → W p l e ({ frames := 11, cells := 4, slots := 24, locals := 206 }) s m ([.ref (ad 0), .int x, .int b, .int t] : List Value).toArray below meth c H locs 0 0 Q (F0 m 0 ls []) from K_ _ _ hP hS
  clear hP hS
  intro H locs hP hS
  have hown : s.vm.findClass RX6 = some m.cls := hown
  have hl : lv_has ls 4 [(0, .ref (ad 0)), (1, .int x), (2, .int b), (3, .int t)] := hl
  obtain ⟨hn, hn6, hk, hk3, hh, hhn, hfr, hfo, hch⟩ := id hc
  have hk8 : k ≤ 180 := by omega
  refine lv_aload_n hx hb dX6_writePeriods_0 rfl (lv_at hl 0 rfl) ?_
  refine lv_iload_n hx hb dX6_writePeriods_1 rfl (lv_at hl 1 rfl) ?_
  refine lv_iload_n hx hb dX6_writePeriods_2 rfl (lv_at hl 2 rfl) ?_
  refine lv_iload_n hx hb dX6_writePeriods_3 rfl (lv_at hl 3 rfl) ?_
  refine yW_call (vx_runV (As := [.int x, .int b, .int t]) (rest := []) ⟨hx, hb, hml, hown, hts⟩ (c_X6_listPeriods l hl0 D cy ad I S H.size x b t k n h fr to ofr oto hc) (cw_X6_175 hts rfl rfl ⟨Nat.le_of_ble_eq_true rfl, Nat.le_of_ble_eq_true rfl⟩) (preVWX (ci := 6) (q0 := 0) hK hE (hZ.now hS) (frame_in hD hS hA) hP hD rfl rfl) rfl rfl hl.1 rfl (lv_room (Nat.le_of_ble_eq_true rfl)) dX6_writePeriods_4 ⟨Nat.le_of_ble_eq_true rfl, Nat.le_of_ble_eq_true rfl⟩) hD hS hA hT hlocks hQ (Nat.le_of_ble_eq_true rfl) (Nat.le_of_ble_eq_true rfl) (fun u => u) (fun _ => rfl) (fun E u h => h) (fun _ => rfl) (fun u4_1 H locs q4_1 hP hD hS => ?_)
  have hP : va_P D clW (wC cy ad (va_up I 5 (nI (jpS S (slI x b) (slI x b) t fr to k).1)) (va_up (va_up (va_up (va_up (va_up (va_up S 17 (rdKN S (slI x b) t fr to (S 17) k)) 18 (rdVN S (slI x b) t fr to (S 18) k)) 20 (rdKN S (slI x b) t fr to (S 20) k)) 21 (rdVN S (slI x b) t fr to (S 21) k)) 23 (jpS S (slI x b) (slI x b) t fr to k).2.1) 24 (jpS S (slI x b) (slI x b) t fr to k).2.2)) H := hP
  have hD : va_D A (wC cy ad (va_up I 5 (nI (jpS S (slI x b) (slI x b) t fr to k).1)) (va_up (va_up (va_up (va_up (va_up (va_up S 17 (rdKN S (slI x b) t fr to (S 17) k)) 18 (rdVN S (slI x b) t fr to (S 18) k)) 20 (rdKN S (slI x b) t fr to (S 20) k)) 21 (rdVN S (slI x b) t fr to (S 21) k)) 23 (jpS S (slI x b) (slI x b) t fr to k).2.1) 24 (jpS S (slI x b) (slI x b) t fr to k).2.2)) := hD
  have hjc_1 := q4_1
  refine lv_aload_n hx hb dX6_writePeriods_7 rfl (lv_at hl 0 rfl) ?_
  refine gf_X6_26 hx hb hts hown hK hP 0 rfl (v := .ref (ad 14)) rfl dX6_writePeriods_8 ?_
  refine lv_aload_n hx hb dX6_writePeriods_11 rfl (lv_at hl 0 rfl) ?_
  refine gf_X6_47 hx hb hts hown hK hP 0 rfl (v := .ref (ad 22)) rfl dX6_writePeriods_12 ?_
  refine lv_aload_n hx hb dX6_writePeriods_15 rfl (lv_at hl 0 rfl) ?_
  refine gf_X6_37 hx hb hts hown hK hP 0 rfl (v := .ref (ad 16)) rfl dX6_writePeriods_16 ?_
  refine wV_call (va_runV (As := [.ref (ad 22), .ref (ad 16)]) (rest := []) ⟨hx, hb, hml, hown, hts⟩ (c_X2_write l D cy ad (va_up I 5 (nI (jpS S (slI x b) (slI x b) t fr to k).1)) (wpS S (slI x b) t fr to k) H.size (jpS S (slI x b) (slI x b) t fr to k).1 rfl (plS_le _ _ _ _ _ _ _) (fun j hj => (plS_FT _ _ _ _ _ _ _ j hj).1) (fun j hj => (plS_FT _ _ _ _ _ _ _ j hj).2)) (cw_X6_245 hts rfl rfl ⟨Nat.le_of_ble_eq_true rfl, Nat.le_of_ble_eq_true rfl⟩) (preVW (ci := 2) (q0 := 0) hK (hP.sub [14, 15, 22, 23, 24, 16, 17, 18] rfl) (hD.sub [14, 15, 22, 23, 24, 16, 17, 18] (by decide) rfl) rfl rfl) rfl rfl hl.1 rfl (lv_room (Nat.le_of_ble_eq_true rfl)) dX6_writePeriods_19 ⟨Nat.le_of_ble_eq_true rfl, Nat.le_of_ble_eq_true rfl⟩) hP hD hS hA [14, 15, 22, 23, 24, 16, 17, 18] rfl [.inl 0, .inl 1, .inl 2, .inl 3, .inl 4, .inl 5, .inl 6, .inl 7, .inl 8, .inl 9, .inl 10, .inl 11, .inl 12, .inl 13, .inr 0, .inr 1, .inr 5, .inr 6, .inr 7, .inl 19, .inl 20, .inl 21, .inr 2, .inr 3, .inr 4, .inl 25, .inl 26, .inl 27, .inl 28] (by decide) (fun u => (wC cy ad (va_up (va_up I 5 (nI (jpS S (slI x b) (slI x b) t fr to k).1)) 4 (nI (wrL (wpS S (slI x b) t fr to k) (jpS S (slI x b) (slI x b) t fr to k).1).length)) (va_up (va_up (va_up (va_up (va_up (va_up (va_up S 17 (rdKN S (slI x b) t fr to (S 17) k)) 18 (rdVN S (slI x b) t fr to (S 18) k)) 20 (rdKN S (slI x b) t fr to (S 20) k)) 21 (rdVN S (slI x b) t fr to (S 21) k)) 23 (jpS S (slI x b) (slI x b) t fr to k).2.1) 24 (jpS S (slI x b) (slI x b) t fr to k).2.2) 15 (appL (S 15) 0 (wrL (wpS S (slI x b) t fr to k) (jpS S (slI x b) (slI x b) t fr to k).1))))) (fun _ => rfl) (fun _ => rfl) (fun u19_2 H locs q19_2 hP hD hS hkp => ?_)
  have hP : va_P D clW (wC cy ad (va_up (va_up I 5 (nI (jpS S (slI x b) (slI x b) t fr to k).1)) 4 (nI (wrL (wpS S (slI x b) t fr to k) (jpS S (slI x b) (slI x b) t fr to k).1).length)) (va_up (va_up (va_up (va_up (va_up (va_up (va_up S 17 (rdKN S (slI x b) t fr to (S 17) k)) 18 (rdVN S (slI x b) t fr to (S 18) k)) 20 (rdKN S (slI x b) t fr to (S 20) k)) 21 (rdVN S (slI x b) t fr to (S 21) k)) 23 (jpS S (slI x b) (slI x b) t fr to k).2.1) 24 (jpS S (slI x b) (slI x b) t fr to k).2.2) 15 (appL (S 15) 0 (wrL (wpS S (slI x b) t fr to k) (jpS S (slI x b) (slI x b) t fr to k).1)))) H := hP
  have hD : va_D A (wC cy ad (va_up (va_up I 5 (nI (jpS S (slI x b) (slI x b) t fr to k).1)) 4 (nI (wrL (wpS S (slI x b) t fr to k) (jpS S (slI x b) (slI x b) t fr to k).1).length)) (va_up (va_up (va_up (va_up (va_up (va_up (va_up S 17 (rdKN S (slI x b) t fr to (S 17) k)) 18 (rdVN S (slI x b) t fr to (S 18) k)) 20 (rdKN S (slI x b) t fr to (S 20) k)) 21 (rdVN S (slI x b) t fr to (S 21) k)) 23 (jpS S (slI x b) (slI x b) t fr to k).2.1) 24 (jpS S (slI x b) (slI x b) t fr to k).2.2) 15 (appL (S 15) 0 (wrL (wpS S (slI x b) t fr to k) (jpS S (slI x b) (slI x b) t fr to k).1)))) := hD
  refine lv_aload_n hx hb dX6_writePeriods_22 rfl (lv_at hl 0 rfl) ?_
  refine gf_X6_26 hx hb hts hown hK hP 0 rfl (v := .ref (ad 14)) rfl dX6_writePeriods_23 ?_
  refine rI_call (va_runV (As := []) (rest := []) ⟨hx, hb, hml, hown, hts⟩ (c_X2_size l D cy ad (va_up (va_up I 5 (nI (jpS S (slI x b) (slI x b) t fr to k).1)) 4 (nI (wrL (wpS S (slI x b) t fr to k) (jpS S (slI x b) (slI x b) t fr to k).1).length)) (va_up (va_up (va_up (va_up (va_up (va_up (va_up S 17 (rdKN S (slI x b) t fr to (S 17) k)) 18 (rdVN S (slI x b) t fr to (S 18) k)) 20 (rdKN S (slI x b) t fr to (S 20) k)) 21 (rdVN S (slI x b) t fr to (S 21) k)) 23 (jpS S (slI x b) (slI x b) t fr to k).2.1) 24 (jpS S (slI x b) (slI x b) t fr to k).2.2) 15 (appL (S 15) 0 (wrL (wpS S (slI x b) t fr to k) (jpS S (slI x b) (slI x b) t fr to k).1)))) (cw_X6_249 hts rfl rfl ⟨Nat.le_of_ble_eq_true rfl, Nat.le_of_ble_eq_true rfl⟩) (preVR (ci := 2) (q0 := 0) hK (hP.sub [14, 15] rfl) rfl rfl) rfl rfl hl.1 rfl (lv_room (Nat.le_of_ble_eq_true rfl)) dX6_writePeriods_26 ⟨Nat.le_of_ble_eq_true rfl, Nat.le_of_ble_eq_true rfl⟩) (fun r hr_ => ?_)
  subst hr_
  refine top_eq (y := (nI (wrL (wpS S (slI x b) t fr to k) (jpS S (slI x b) (slI x b) t fr to k).1).length)) rfl ?_
  exact yI_ret ((va_up (va_up I 5 (nI (jpS S (slI x b) (slI x b) t fr to k).1)) 4 (nI (wrL (wpS S (slI x b) t fr to k) (jpS S (slI x b) (slI x b) t fr to k).1).length)), (va_up (va_up (va_up (va_up (va_up (va_up (va_up S 17 (rdKN S (slI x b) t fr to (S 17) k)) 18 (rdVN S (slI x b) t fr to (S 18) k)) 20 (rdKN S (slI x b) t fr to (S 20) k)) 21 (rdVN S (slI x b) t fr to (S 21) k)) 23 (jpS S (slI x b) (slI x b) t fr to k).2.1) 24 (jpS S (slI x b) (slI x b) t fr to k).2.2) 15 (appL (S 15) 0 (wrL (wpS S (slI x b) t fr to k) (jpS S (slI x b) (slI x b) t fr to k).1)))) hS hP hx hb hr hlocks dX6_writePeriods_29 rfl (Nat.le_of_ble_eq_true rfl) (Nat.le_of_ble_eq_true rfl) hQ ⟨rfl, hjc_1, scr_4 (scr_S (scr_S (scr_S (scr_S (scr_S (scr_S (scr_I (scr_0 I S) (by decide) _) (by decide) _) (by decide) _) (by decide) _) (by decide) _) (by decide) _) (by decide) _) _ _⟩

set_option maxHeartbeats 4000000 in
set_option maxRecDepth 100000 in
theorem c_X6_isSlotConsistent (l : Launch) (D : va_G) (cy : Nat → ClassId) (ad : Nat → Nat) (I : AI) (S : AS) (sz : Nat) (sl : Int32) (k : Nat) (n : Nat) (h : Nat) (fr : Nat → Nat) (to : Nat → Nat) (ofr : Nat → Nat) (oto : Nat → Nat) (hc : CIv I S k n h fr to ofr oto) (hcn : conP S sl n k fr to ofr oto (S 17) (S 18) (S 20) (S 21)) : Met l yX6_isSlotConsistent (Cond.code yX6_isSlotConsistent cX6_isSlotConsistent 3 (some .boolean) :: wsL_law) ({ frames := 4, cells := 0, slots := 0, locals := 93 }) (va_Pc [.ref (ad 0), .int sl] (wrB D cy (wC cy ad I S) sz)) (va_Qi (S := Unit) (fun r u => r = 1) (fun u t9 => va_P D clW (wC cy ad I (va_up (va_up (va_up (va_up S 17 (rdKN S sl (nI n) fr to (S 17) k)) 18 (rdVN S sl (nI n) fr to (S 18) k)) 20 (rpKN S sl ofr oto (S 20) n)) 21 (rpVN S sl ofr oto (S 21) n))) t9.heap) (va_A (wC cy ad I S) sz)) 0 0 (va_A (wC cy ad I S) sz) := by
  refine enter (cc := cX6_isSlotConsistent) (by decide) (Nat.le_of_ble_eq_true rfl) ?_
  intro p e s m below meth c hx hb hr hml hown hts hlocks hin hv Q hQ ls hl
  obtain ⟨hsz, hP, hK, hD0⟩ := hv
  subst hsz
  have hD := hD0.self (sz := s.heap.size)
  generalize hAe : va_A (wC cy ad I S) s.heap.size = A at hD hQ ⊢
  have hA : ∀ q : Nat, s.heap.size ≤ q → A q := fun q h => by rw [← hAe]; exact Or.inr h
  have hS : va_S A s.heap s.heap [] := va_S.rf
  suffices K_ : ∀ (H : Heap) (locs : List Loc), va_P D clW (wC cy ad I S) H → va_S A s.heap H locs → W p l e ({ frames := 4, cells := 0, slots := 0, locals := 93 }) s m ([.ref (ad 0), .int sl] : List Value).toArray below meth c H locs 0 0 Q (F0 m 0 ls []) from K_ _ _ hP hS
  clear hP hS
  intro H locs hP hS
  have hown : s.vm.findClass RX6 = some m.cls := hown
  have hl : lv_has ls 3 [(0, .ref (ad 0)), (1, .int sl)] := hl
  obtain ⟨hn, hn6, hk, hk3, hh, hhn, hfr, hfo, hch⟩ := id hc
  have hk8 : k ≤ 180 := by omega
  refine lv_aload_n hx hb dX6_isSlotConsistent_0 rfl (lv_at hl 0 rfl) ?_
  refine gf_X6_12 hx hb hts hown hK hP 0 rfl (v := .ref (ad 1)) rfl dX6_isSlotConsistent_1 ?_
  refine rI_call (va_runV (As := []) (rest := []) ⟨hx, hb, hml, hown, hts⟩ (c_X3_now l D cy ad I S) (cw_X6_83 hts rfl rfl ⟨Nat.le_of_ble_eq_true rfl, Nat.le_of_ble_eq_true rfl⟩) (preVR (ci := 3) (q0 := 0) hK (hP.sub [1, 2, 3, 4, 5, 6] rfl) rfl rfl) rfl rfl hl.1 rfl (lv_room (Nat.le_of_ble_eq_true rfl)) dX6_isSlotConsistent_4 ⟨Nat.le_of_ble_eq_true rfl, Nat.le_of_ble_eq_true rfl⟩) (fun r hr_ => ?_)
  subst hr_
  refine top_eq hn ?_
  refine lv_istore_n (lv' := [(2, .int (nI n)), (0, .ref (ad 0)), (1, .int sl)]) hx hb dX6_isSlotConsistent_7 rfl hl (by decide) rfl (fun ls hl => ?_)
  refine lv_aload_n hx hb dX6_isSlotConsistent_8 rfl (lv_at hl 1 rfl) ?_
  refine gf_X6_19 hx hb hts hown hK hP 0 rfl (v := .ref (ad 7)) rfl dX6_isSlotConsistent_9 ?_
  refine lv_aload_n hx hb dX6_isSlotConsistent_12 rfl (lv_at hl 1 rfl) ?_
  refine gf_X6_37 hx hb hts hown hK hP 0 rfl (v := .ref (ad 16)) rfl dX6_isSlotConsistent_13 ?_
  refine lv_iload_n hx hb dX6_isSlotConsistent_16 rfl (lv_at hl 2 rfl) ?_
  refine lv_iload_n hx hb dX6_isSlotConsistent_17 rfl (lv_at hl 0 rfl) ?_
  refine wV_call (va_runV (As := [.ref (ad 16), .int sl, .int (nI n)]) (rest := []) ⟨hx, hb, hml, hown, hts⟩ (c_X0_readInto_16 l D cy ad I S H.size sl (nI n) k hk (by omega) fr to hfr) (cw_X6_187 hts rfl rfl ⟨Nat.le_of_ble_eq_true rfl, Nat.le_of_ble_eq_true rfl⟩) (preVW (ci := 0) (q0 := 0) hK (hP.sub [7, 8, 9, 10, 11, 12, 13, 16, 17, 18] rfl) (hD.sub [7, 8, 9, 10, 11, 12, 13, 16, 17, 18] (by decide) rfl) rfl rfl) rfl rfl hl.1 rfl (lv_room (Nat.le_of_ble_eq_true rfl)) dX6_isSlotConsistent_18 ⟨Nat.le_of_ble_eq_true rfl, Nat.le_of_ble_eq_true rfl⟩) hP hD hS hA [7, 8, 9, 10, 11, 12, 13, 16, 17, 18] rfl [.inl 0, .inl 1, .inl 2, .inl 3, .inl 4, .inl 5, .inl 6, .inr 0, .inr 1, .inr 2, .inr 3, .inr 4, .inr 5, .inr 6, .inl 14, .inl 15, .inr 7, .inr 8, .inr 9, .inl 19, .inl 20, .inl 21, .inl 22, .inl 23, .inl 24, .inl 25, .inl 26, .inl 27, .inl 28] (by decide) (fun u => (wC cy ad I (va_up (va_up S 17 (rdKN S sl (nI n) fr to (S 17) k)) 18 (rdVN S sl (nI n) fr to (S 18) k)))) (fun _ => rfl) (fun _ => rfl) (fun u18_1 H locs q18_1 hP hD hS hkp => ?_)
  have hP : va_P D clW (wC cy ad I (va_up (va_up S 17 (rdKN S sl (nI n) fr to (S 17) k)) 18 (rdVN S sl (nI n) fr to (S 18) k))) H := hP
  have hD : va_D A (wC cy ad I (va_up (va_up S 17 (rdKN S sl (nI n) fr to (S 17) k)) 18 (rdVN S sl (nI n) fr to (S 18) k))) := hD
  refine lv_aload_n hx hb dX6_isSlotConsistent_21 rfl (lv_at hl 1 rfl) ?_
  refine gf_X6_12 hx hb hts hown hK hP 0 rfl (v := .ref (ad 1)) rfl dX6_isSlotConsistent_22 ?_
  refine lv_aload_n hx hb dX6_isSlotConsistent_25 rfl (lv_at hl 1 rfl) ?_
  refine gf_X6_41 hx hb hts hown hK hP 0 rfl (v := .ref (ad 19)) rfl dX6_isSlotConsistent_26 ?_
  refine lv_iload_n hx hb dX6_isSlotConsistent_29 rfl (lv_at hl 2 rfl) ?_
  refine lv_iload_n hx hb dX6_isSlotConsistent_30 rfl (lv_at hl 0 rfl) ?_
  refine wV_call (va_runV (As := [.ref (ad 19), .int sl, .int (nI n)]) (rest := []) ⟨hx, hb, hml, hown, hts⟩ (c_X3_replayInto_19 l D cy ad I S H.size sl n n hn (by omega) (Nat.le_refl n) ofr oto hfo) (cw_X6_163 hts rfl rfl ⟨Nat.le_of_ble_eq_true rfl, Nat.le_of_ble_eq_true rfl⟩) (preVW (ci := 3) (q0 := 0) hK (hP.sub [1, 2, 3, 4, 5, 6, 19, 20, 21] rfl) (hD.sub [1, 2, 3, 4, 5, 6, 19, 20, 21] (by decide) rfl) rfl rfl) rfl rfl hl.1 rfl (lv_room (Nat.le_of_ble_eq_true rfl)) dX6_isSlotConsistent_31 ⟨Nat.le_of_ble_eq_true rfl, Nat.le_of_ble_eq_true rfl⟩) hP hD hS hA [1, 2, 3, 4, 5, 6, 19, 20, 21] rfl [.inl 0, .inr 0, .inr 1, .inr 2, .inr 3, .inr 4, .inr 5, .inl 7, .inl 8, .inl 9, .inl 10, .inl 11, .inl 12, .inl 13, .inl 14, .inl 15, .inl 16, .inl 17, .inl 18, .inr 6, .inr 7, .inr 8, .inl 22, .inl 23, .inl 24, .inl 25, .inl 26, .inl 27, .inl 28] (by decide) (fun u => (wC cy ad I (va_up (va_up (va_up (va_up S 17 (rdKN S sl (nI n) fr to (S 17) k)) 18 (rdVN S sl (nI n) fr to (S 18) k)) 20 (rpKN S sl ofr oto (S 20) n)) 21 (rpVN S sl ofr oto (S 21) n)))) (fun _ => rfl) (fun _ => rfl) (fun u31_2 H locs q31_2 hP hD hS hkp => ?_)
  have hP : va_P D clW (wC cy ad I (va_up (va_up (va_up (va_up S 17 (rdKN S sl (nI n) fr to (S 17) k)) 18 (rdVN S sl (nI n) fr to (S 18) k)) 20 (rpKN S sl ofr oto (S 20) n)) 21 (rpVN S sl ofr oto (S 21) n))) H := hP
  have hD : va_D A (wC cy ad I (va_up (va_up (va_up (va_up S 17 (rdKN S sl (nI n) fr to (S 17) k)) 18 (rdVN S sl (nI n) fr to (S 18) k)) 20 (rpKN S sl ofr oto (S 20) n)) 21 (rpVN S sl ofr oto (S 21) n))) := hD
  refine lv_aload_n hx hb dX6_isSlotConsistent_34 rfl (lv_at hl 1 rfl) ?_
  refine gf_X6_19 hx hb hts hown hK hP 0 rfl (v := .ref (ad 7)) rfl dX6_isSlotConsistent_35 ?_
  refine lv_iload_n hx hb dX6_isSlotConsistent_38 rfl (lv_at hl 2 rfl) ?_
  refine lv_iconst (v := 0) hx hb dX6_isSlotConsistent_39 (by decide) ?_
  refine lv_bipush (v := 100) hx hb dX6_isSlotConsistent_40 (by decide) ?_
  refine lv_iload_n hx hb dX6_isSlotConsistent_42 rfl (lv_at hl 0 rfl) ?_
  refine rI_call (va_runV (As := [.int sl, .int 0, .int 100, .int (nI n)]) (rest := []) ⟨hx, hb, hml, hown, hts⟩ (c_X0_countDays l D cy ad I S sl 0 100 (nI n) k hk (by omega)) (cw_X6_87 hts rfl rfl ⟨Nat.le_of_ble_eq_true rfl, Nat.le_of_ble_eq_true rfl⟩) (preVR (ci := 0) (q0 := 0) hK (hP.sub [7, 8, 9, 10, 11, 12, 13] rfl) rfl rfl) rfl rfl hl.1 rfl (lv_room (Nat.le_of_ble_eq_true rfl)) dX6_isSlotConsistent_43 ⟨Nat.le_of_ble_eq_true rfl, Nat.le_of_ble_eq_true rfl⟩) (fun r hr_ => ?_)
  subst hr_
  refine lv_aload_n hx hb dX6_isSlotConsistent_46 rfl (lv_at hl 1 rfl) ?_
  refine gf_X6_37 hx hb hts hown hK hP 0 rfl (v := .ref (ad 16)) rfl dX6_isSlotConsistent_47 ?_
  refine lv_aload_n hx hb dX6_isSlotConsistent_50 rfl (lv_at hl 1 rfl) ?_
  refine gf_X6_37 hx hb hts hown hK hP 0 rfl (v := .ref (ad 16)) rfl dX6_isSlotConsistent_51 ?_
  refine rI_call (va_runV (As := [.ref (ad 16)]) (rest := [.int (cdN S sl 0 100 (nI n) k)]) ⟨hx, hb, hml, hown, hts⟩ (c_X1_countCommon_16_16 l D cy ad (va_up (va_up (va_up (va_up S 17 (rdKN S sl (nI n) fr to (S 17) k)) 18 (rdVN S sl (nI n) fr to (S 18) k)) 20 (rpKN S sl ofr oto (S 20) n)) 21 (rpVN S sl ofr oto (S 21) n))) (cw_X6_227 hts rfl rfl ⟨Nat.le_of_ble_eq_true rfl, Nat.le_of_ble_eq_true rfl⟩) (preVR (ci := 1) (q0 := 0) hK (hP.sub [16, 17, 18] rfl) rfl rfl) rfl rfl hl.1 rfl (lv_room (Nat.le_of_ble_eq_true rfl)) dX6_isSlotConsistent_54 ⟨Nat.le_of_ble_eq_true rfl, Nat.le_of_ble_eq_true rfl⟩) (fun r hr_ => ?_)
  subst hr_
  refine top_eq hcn.1.symm ?_
  refine lv_icmp_ne (tgt := 78) hx hb dX6_isSlotConsistent_57 (by decide) (fun c => absurd rfl c) (fun _ => ?_)
  refine lv_aload_n hx hb dX6_isSlotConsistent_60 rfl (lv_at hl 1 rfl) ?_
  refine gf_X6_37 hx hb hts hown hK hP 0 rfl (v := .ref (ad 16)) rfl dX6_isSlotConsistent_61 ?_
  refine lv_aload_n hx hb dX6_isSlotConsistent_64 rfl (lv_at hl 1 rfl) ?_
  refine gf_X6_41 hx hb hts hown hK hP 0 rfl (v := .ref (ad 19)) rfl dX6_isSlotConsistent_65 ?_
  refine rI_call (va_runV (As := [.ref (ad 19)]) (rest := []) ⟨hx, hb, hml, hown, hts⟩ (c_X1_countDifferent_16_19 l D cy ad (va_up (va_up (va_up (va_up S 17 (rdKN S sl (nI n) fr to (S 17) k)) 18 (rdVN S sl (nI n) fr to (S 18) k)) 20 (rpKN S sl ofr oto (S 20) n)) 21 (rpVN S sl ofr oto (S 21) n))) (cw_X6_200 hts rfl rfl ⟨Nat.le_of_ble_eq_true rfl, Nat.le_of_ble_eq_true rfl⟩) (preVR (ci := 1) (q0 := 0) hK (hP.sub [16, 17, 18, 19, 20, 21] rfl) rfl rfl) rfl rfl hl.1 rfl (lv_room (Nat.le_of_ble_eq_true rfl)) dX6_isSlotConsistent_68 ⟨Nat.le_of_ble_eq_true rfl, Nat.le_of_ble_eq_true rfl⟩) (fun r hr_ => ?_)
  subst hr_
  refine top_eq hcn.2 ?_
  refine lv_if_ne (tgt := 78) hx hb dX6_isSlotConsistent_71 (by decide) (fun c => absurd (by decide) c) (fun _ => ?_)
  refine lv_iconst (v := 1) hx hb dX6_isSlotConsistent_74 (by decide) ?_
  refine lv_goto (tgt := 79) hx hb dX6_isSlotConsistent_75 (by decide) ?_
  have hP : va_P D clW (wC cy ad I (va_up (va_up (va_up (va_up S 17 (rdKN S sl (nI n) fr to (S 17) k)) 18 (rdVN S sl (nI n) fr to (S 18) k)) 20 (rpKN S sl ofr oto (S 20) n)) 21 (rpVN S sl ofr oto (S 21) n))) H := hP
  have hD : va_D A (wC cy ad I (va_up (va_up (va_up (va_up S 17 (rdKN S sl (nI n) fr to (S 17) k)) 18 (rdVN S sl (nI n) fr to (S 18) k)) 20 (rpKN S sl ofr oto (S 20) n)) 21 (rpVN S sl ofr oto (S 21) n))) := hD.addr rfl
  exact wZ_ret () hS hP hx hb hr hlocks dX6_isSlotConsistent_79 narZ1 (Nat.le_of_ble_eq_true rfl) (Nat.le_of_ble_eq_true rfl) hQ rfl
