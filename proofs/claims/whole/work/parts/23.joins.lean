theorem gf_X6_37 {p : Program} {l : Launch} {e : Env} {R : Room} {s : State} {m : MethodId} {args : Array Value} {below : List Frame} {meth : Method} {c : Code} {H : Heap} {locs : List Loc} {cells slots : Nat} {Q : State → Prop} {cc : ByteArray} {pc : Nat} {ls : Array Slot} {rest : List Value} {D : va_G} {cy : Nat → ClassId} {a : Nat} {ws : va_W} (hx : p.tables.exec = Jvm.exec) (hb : c.code = cc) (hts : ∀ w ∈ wsL_law, w.before args s = true) (hown : s.vm.findClass RX6 = some m.cls) (hK : va_K D clW (tyW cy) s) (hP : va_P D clW ws H) (q0 : Nat) {fs : List Value} (he : ws[q0]? = some (a, .inr (6, fs))) {v : Value} (hv : fs[4]? = some v) (hdg : decode cc pc = .ok (.getfield 37, 3)) (kk : W p l e R s m args below meth c H locs cells slots Q (F0 m (pc + 3) ls (v :: rest))) : W p l e R s m args below meth c H locs cells slots Q (F0 m pc ls (.ref a :: rest)) := va_get (own := RX6) (ref := RX6) (C := RX6) (T := TX6) (N := 8) (ci := 6) hx hb hts inlX6 hown hK hP q0 he rfl 4 (by decide) (hts _ wm_30) (fun _ h => h) hv hdg kk
theorem gf_X6_41 {p : Program} {l : Launch} {e : Env} {R : Room} {s : State} {m : MethodId} {args : Array Value} {below : List Frame} {meth : Method} {c : Code} {H : Heap} {locs : List Loc} {cells slots : Nat} {Q : State → Prop} {cc : ByteArray} {pc : Nat} {ls : Array Slot} {rest : List Value} {D : va_G} {cy : Nat → ClassId} {a : Nat} {ws : va_W} (hx : p.tables.exec = Jvm.exec) (hb : c.code = cc) (hts : ∀ w ∈ wsL_law, w.before args s = true) (hown : s.vm.findClass RX6 = some m.cls) (hK : va_K D clW (tyW cy) s) (hP : va_P D clW ws H) (q0 : Nat) {fs : List Value} (he : ws[q0]? = some (a, .inr (6, fs))) {v : Value} (hv : fs[5]? = some v) (hdg : decode cc pc = .ok (.getfield 41, 3)) (kk : W p l e R s m args below meth c H locs cells slots Q (F0 m (pc + 3) ls (v :: rest))) : W p l e R s m args below meth c H locs cells slots Q (F0 m pc ls (.ref a :: rest)) := va_get (own := RX6) (ref := RX6) (C := RX6) (T := TX6) (N := 8) (ci := 6) hx hb hts inlX6 hown hK hP q0 he rfl 5 (by decide) (hts _ wm_31) (fun _ h => h) hv hdg kk
theorem cw_X6_171 {R : Room} {s : State} {args : Array Value} {rm : Room} {mc ms : Nat} (hts : ∀ w ∈ wsL_law, w.before args s = true) (hrc : rm.cells = mc) (hrs : rm.slots = ms) (hR : rm.frames + 1 ≤ R.frames ∧ 8 + (2 + 11) + rm.locals ≤ R.locals) : CallW R s args RX6 RX1 171 yX1_value cX1_value 2 (some .int) (Cond.code yX1_value cX1_value 2 (some .int) :: wsL_law) rm mc ms 1 := cwV 1 hts (gUV wm_560 wm_561 wm_562 wm_29 wm_563) rfl hrc hrs (by decide +kernel) hR
theorem cw_X6_175 {R : Room} {s : State} {args : Array Value} {rm : Room} {mc ms : Nat} (hts : ∀ w ∈ wsL_law, w.before args s = true) (hrc : rm.cells = mc) (hrs : rm.slots = ms) (hR : rm.frames + 1 ≤ R.frames ∧ 8 + (4 + 11) + rm.locals ≤ R.locals) : CallW R s args RX6 RX6 175 yX6_listPeriods cX6_listPeriods 4 none (Cond.code yX6_listPeriods cX6_listPeriods 4 none :: wsL_law) rm mc ms 3 := cwV 3 hts (gUV wm_592 wm_593 wm_594 wm_2 wm_595) rfl hrc hrs (by decide +kernel) hR
theorem cw_X6_182 {R : Room} {s : State} {args : Array Value} {rm : Room} {mc ms : Nat} (hts : ∀ w ∈ wsL_law, w.before args s = true) (hrc : rm.cells = mc) (hrs : rm.slots = ms) (hR : rm.frames + 1 ≤ R.frames ∧ 8 + (2 + 11) + rm.locals ≤ R.locals) : CallW R s args RX6 RX6 182 yX6_requirePeriod cX6_requirePeriod 2 none (Cond.code yX6_requirePeriod cX6_requirePeriod 2 none :: wsL_law) rm mc ms 1 := cwV 1 hts (gUV wm_656 wm_657 wm_658 wm_2 wm_659) rfl hrc hrs (by decide +kernel) hR
theorem cw_X6_185 {R : Room} {s : State} {args : Array Value} {rm : Room} {mc ms : Nat} (hts : ∀ w ∈ wsL_law, w.before args s = true) (hrc : rm.cells = mc) (hrs : rm.slots = ms) (hR : rm.frames + 1 ≤ R.frames ∧ 8 + (2 + 11) + rm.locals ≤ R.locals) : CallW R s args RX6 RX4 185 yX4_firstDay cX4_firstDay 2 (some .int) (Cond.code yX4_firstDay cX4_firstDay 2 (some .int) :: wsL_law) rm mc ms 1 := cwV 1 hts (gUV wm_660 wm_661 wm_662 wm_34 wm_663) rfl hrc hrs (by decide +kernel) hR
theorem cw_X6_186 {R : Room} {s : State} {args : Array Value} {rm : Room} {mc ms : Nat} (hts : ∀ w ∈ wsL_law, w.before args s = true) (hrc : rm.cells = mc) (hrs : rm.slots = ms) (hR : rm.frames + 1 ≤ R.frames ∧ 8 + (2 + 11) + rm.locals ≤ R.locals) : CallW R s args RX6 RX4 186 yX4_dayAfter cX4_dayAfter 2 (some .int) (Cond.code yX4_dayAfter cX4_dayAfter 2 (some .int) :: wsL_law) rm mc ms 1 := cwV 1 hts (gUV wm_679 wm_680 wm_681 wm_34 wm_682) rfl hrc hrs (by decide +kernel) hR
theorem cw_X6_187 {R : Room} {s : State} {args : Array Value} {rm : Room} {mc ms : Nat} (hts : ∀ w ∈ wsL_law, w.before args s = true) (hrc : rm.cells = mc) (hrs : rm.slots = ms) (hR : rm.frames + 1 ≤ R.frames ∧ 8 + (5 + 11) + rm.locals ≤ R.locals) : CallW R s args RX6 RX0 187 yX0_readInto cX0_readInto 5 none (Cond.code yX0_readInto cX0_readInto 5 none :: wsL_law) rm mc ms 3 := cwV 3 hts (gUV wm_604 wm_605 wm_606 wm_20 wm_607) rfl hrc hrs (by decide +kernel) hR
theorem cw_X6_220 {R : Room} {s : State} {args : Array Value} {rm : Room} {mc ms : Nat} (hts : ∀ w ∈ wsL_law, w.before args s = true) (hrc : rm.cells = mc) (hrs : rm.slots = ms) (hR : rm.frames + 1 ≤ R.frames ∧ 8 + (6 + 11) + rm.locals ≤ R.locals) : CallW R s args RX6 RX6 220 yX6_listJointPeriods cX6_listJointPeriods 6 none (Cond.code yX6_listJointPeriods cX6_listJointPeriods 6 none :: wsL_law) rm mc ms 5 := cwV 5 hts (gUV wm_596 wm_597 wm_598 wm_2 wm_599) rfl hrc hrs (by decide +kernel) hR
theorem cw_X6_224 {R : Room} {s : State} {args : Array Value} {rm : Room} {mc ms : Nat} (hts : ∀ w ∈ wsL_law, w.before args s = true) (hrc : rm.cells = mc) (hrs : rm.slots = ms) (hR : rm.frames + 1 ≤ R.frames ∧ 8 + (6 + 11) + rm.locals ≤ R.locals) : CallW R s args RX6 RX6 224 yX6_readBoth cX6_readBoth 6 none (Cond.code yX6_readBoth cX6_readBoth 6 none :: wsL_law) rm mc ms 5 := cwV 5 hts (gUV wm_600 wm_601 wm_602 wm_2 wm_603) rfl hrc hrs (by decide +kernel) hR
theorem cw_X6_227 {R : Room} {s : State} {args : Array Value} {rm : Room} {mc ms : Nat} (hts : ∀ w ∈ wsL_law, w.before args s = true) (hrc : rm.cells = mc) (hrs : rm.slots = ms) (hR : rm.frames + 1 ≤ R.frames ∧ 8 + (4 + 11) + rm.locals ≤ R.locals) : CallW R s args RX6 RX1 227 yX1_countCommon cX1_countCommon 4 (some .int) (Cond.code yX1_countCommon cX1_countCommon 4 (some .int) :: wsL_law) rm mc ms 1 := cwV 1 hts (gUV wm_811 wm_812 wm_813 wm_29 wm_814) rfl hrc hrs (by decide +kernel) hR
theorem cw_X6_230 {R : Room} {s : State} {args : Array Value} {rm : Room} {mc ms : Nat} (hts : ∀ w ∈ wsL_law, w.before args s = true) (hrc : rm.cells = mc) (hrs : rm.slots = ms) (hR : rm.frames + 1 ≤ R.frames ∧ 8 + (4 + 11) + rm.locals ≤ R.locals) : CallW R s args RX6 RX1 230 yX1_countAgreeing cX1_countAgreeing 4 (some .int) (Cond.code yX1_countAgreeing cX1_countAgreeing 4 (some .int) :: wsL_law) rm mc ms 1 := cwV 1 hts (gUV wm_830 wm_831 wm_832 wm_29 wm_833) rfl hrc hrs (by decide +kernel) hR
theorem cw_X6_264 {R : Room} {s : State} {args : Array Value} {rm : Room} {mc ms : Nat} (hts : ∀ w ∈ wsL_law, w.before args s = true) (hrc : rm.cells = mc) (hrs : rm.slots = ms) (hR : rm.frames + 1 ≤ R.frames ∧ 8 + (4 + 11) + rm.locals ≤ R.locals) : CallW R s args RX6 RX4 264 yX4_list cX4_list 4 none (Cond.code yX4_list cX4_list 4 none :: wsL_law) rm mc ms 2 := cwV 2 hts (gUV wm_610 wm_611 wm_612 wm_34 wm_613) rfl hrc hrs (by decide +kernel) hR
set_option maxHeartbeats 4000000 in
set_option maxRecDepth 100000 in
theorem c_X6_readBoth (l : Launch) (hl0 : l.stackTraces = false) (D : va_G) (cy : Nat → ClassId) (ad : Nat → Nat) (I : AI) (S : AS) (sz : Nat) (x : Int32) (b : Int32) (x2 : Int32) (b2 : Int32) (t : Int32) (k : Nat) (n : Nat) (h : Nat) (fr : Nat → Nat) (to : Nat → Nat) (ofr : Nat → Nat) (oto : Nat → Nat) (hc : CIv I S k n h fr to ofr oto) : vx_Met l yX6_readBoth (Cond.code yX6_readBoth cX6_readBoth 6 none :: wsL_law) ({ frames := 8, cells := 4, slots := 24, locals := 133 }) (va_Pc [.ref (ad 0), .int x, .int b, .int x2, .int b2, .int t] (wxB D cy (wC cy ad I S) sz)) (va_Qv (S := Unit) (fun u => jc I x b x2 b2 t) (fun u t9 => va_P D clW (wC cy ad I (va_up (va_up (va_up (va_up S 17 (rdKN S (slI x b) t fr to (S 17) k)) 18 (rdVN S (slI x b) t fr to (S 18) k)) 20 (rdKN S (slI x2 b2) t fr to (S 20) k)) 21 (rdVN S (slI x2 b2) t fr to (S 21) k))) t9.heap) (va_A (wC cy ad I S) sz)) (xW (S := AI × AS) (fun E u => jx I x b x2 b2 t E ∧ scr I S u.1 u.2) (fun u => (wC cy ad u.1 u.2)) D (va_A (wC cy ad I S) sz)) 4 24 (va_A (wC cy ad I S) sz) := by
  refine enterX (cc := cX6_readBoth) (by decide) (Nat.le_of_ble_eq_true rfl) ?_
  intro p e s m below meth c hx hb hr hml hown hts hlocks hT hv Q hQ ls hl
  obtain ⟨hsz, hP, hK, hD0, hE, hZ⟩ := hv
  subst hsz
  have hD := hD0.self (sz := s.heap.size)
  generalize hAe : va_A (wC cy ad I S) s.heap.size = A at hD hQ hZ ⊢
  have hA : ∀ q : Nat, s.heap.size ≤ q → A q := fun q h => by rw [← hAe]; exact Or.inr h
  have hS : va_S A s.heap s.heap [] := va_S.rf
  suffices K_ : ∀ (H : Heap) (locs : List Loc), va_P D clW (wC cy ad I S) H → va_S A s.heap H locs → W p l e ({ frames := 8, cells := 4, slots := 24, locals := 133 }) s m ([.ref (ad 0), .int x, .int b, .int x2, .int b2, .int t] : List Value).toArray below meth c H locs 0 0 Q (F0 m 0 ls []) from K_ _ _ hP hS
  clear hP hS
  intro H locs hP hS
  have hown : s.vm.findClass RX6 = some m.cls := hown
  have hl : lv_has ls 6 [(0, .ref (ad 0)), (1, .int x), (2, .int b), (3, .int x2), (4, .int b2), (5, .int t)] := hl
  obtain ⟨hn, hn6, hk, hk3, hh, hhn, hfr, hfo, hch⟩ := hc
  have hk8 : k ≤ 180 := by omega
  refine lv_aload_n hx hb dX6_readBoth_0 rfl (lv_at hl 0 rfl) ?_
  refine lv_iload_n hx hb dX6_readBoth_1 rfl (lv_at hl 1 rfl) ?_
  refine lv_iload_n hx hb dX6_readBoth_2 rfl (lv_at hl 2 rfl) ?_
  refine yR_call (vx_runV (As := [.int x, .int b]) (rest := []) ⟨hx, hb, hml, hown, hts⟩ (c_X6_requireAttribute l hl0 D cy ad I S x b) (cw_X6_65 hts rfl rfl ⟨Nat.le_of_ble_eq_true rfl, Nat.le_of_ble_eq_true rfl⟩) (preVRX (ci := 6) (q0 := 0) hK hE (hZ.now hS).no hP rfl rfl) rfl rfl hl.1 rfl (lv_room (Nat.le_of_ble_eq_true rfl)) dX6_readBoth_3 ⟨Nat.le_of_ble_eq_true rfl, Nat.le_of_ble_eq_true rfl⟩) (I, S) hS hP hT hlocks hQ (Nat.le_of_ble_eq_true rfl) (Nat.le_of_ble_eq_true rfl) (fun E h => ⟨Or.inl ⟨h.1, fun q => h.2 q.1⟩, scr_0 _ _⟩) (fun q3_1 => ?_)
  refine lv_aload_n hx hb dX6_readBoth_6 rfl (lv_at hl 0 rfl) ?_
  refine lv_iload_n hx hb dX6_readBoth_7 rfl (lv_at hl 3 rfl) ?_
  refine lv_iload hx hb dX6_readBoth_8 (lv_at hl 4 rfl) ?_
  refine yR_call (vx_runV (As := [.int x2, .int b2]) (rest := []) ⟨hx, hb, hml, hown, hts⟩ (c_X6_requireAttribute l hl0 D cy ad I S x2 b2) (cw_X6_65 hts rfl rfl ⟨Nat.le_of_ble_eq_true rfl, Nat.le_of_ble_eq_true rfl⟩) (preVRX (ci := 6) (q0 := 0) hK hE (hZ.now hS).no hP rfl rfl) rfl rfl hl.1 rfl (lv_room (Nat.le_of_ble_eq_true rfl)) dX6_readBoth_10 ⟨Nat.le_of_ble_eq_true rfl, Nat.le_of_ble_eq_true rfl⟩) (I, S) hS hP hT hlocks hQ (Nat.le_of_ble_eq_true rfl) (Nat.le_of_ble_eq_true rfl) (fun E h => ⟨Or.inl ⟨h.1, fun q => h.2 q.2⟩, scr_0 _ _⟩) (fun q10_2 => ?_)
  refine lv_aload_n hx hb dX6_readBoth_13 rfl (lv_at hl 0 rfl) ?_
  refine lv_iload hx hb dX6_readBoth_14 (lv_at hl 5 rfl) ?_
  refine yR_call (vx_runV (As := [.int t]) (rest := []) ⟨hx, hb, hml, hown, hts⟩ (c_X6_requireKeptTick l hl0 D cy ad I S t) (cw_X6_172 hts rfl rfl ⟨Nat.le_of_ble_eq_true rfl, Nat.le_of_ble_eq_true rfl⟩) (preVRX (ci := 6) (q0 := 0) hK hE (hZ.now hS).no hP rfl rfl) rfl rfl hl.1 rfl (lv_room (Nat.le_of_ble_eq_true rfl)) dX6_readBoth_16 ⟨Nat.le_of_ble_eq_true rfl, Nat.le_of_ble_eq_true rfl⟩) (I, S) hS hP hT hlocks hQ (Nat.le_of_ble_eq_true rfl) (Nat.le_of_ble_eq_true rfl) (fun E h => ⟨h.elim (fun h => Or.inr (Or.inl ⟨h.1, ⟨q3_1, q10_2⟩, h.2⟩)) (fun h => Or.inr (Or.inr ⟨h.1, ⟨q3_1, q10_2⟩, h.2⟩)), scr_0 _ _⟩) (fun q16_3 => ?_)
  refine lv_aload_n hx hb dX6_readBoth_19 rfl (lv_at hl 0 rfl) ?_
  refine gf_X6_19 hx hb hts hown hK hP 0 rfl (v := .ref (ad 7)) rfl dX6_readBoth_20 ?_
  refine lv_aload_n hx hb dX6_readBoth_23 rfl (lv_at hl 0 rfl) ?_
  refine gf_X6_37 hx hb hts hown hK hP 0 rfl (v := .ref (ad 16)) rfl dX6_readBoth_24 ?_
  refine lv_iload_n hx hb dX6_readBoth_27 rfl (lv_at hl 1 rfl) ?_
  refine lv_iload_n hx hb dX6_readBoth_28 rfl (lv_at hl 2 rfl) ?_
  refine rI_call (va_runS (As := [.int x, .int b]) (rest := [.ref (ad 16), .ref (ad 7)]) ⟨hx, hb, hml, hown, hts⟩ (c_X6_slotOf l D cy x b) (cw_X6_75 hts rfl rfl ⟨Nat.le_of_ble_eq_true rfl, Nat.le_of_ble_eq_true rfl⟩) (preSR hK (hP.sub [] rfl)) rfl rfl hl.1 rfl (lv_room (Nat.le_of_ble_eq_true rfl)) dX6_readBoth_29 ⟨Nat.le_of_ble_eq_true rfl, Nat.le_of_ble_eq_true rfl⟩) (fun r hr_ => ?_)
  subst hr_
  refine lv_iload hx hb dX6_readBoth_32 (lv_at hl 5 rfl) ?_
  refine wV_call (va_runV (As := [.ref (ad 16), .int (slI x b), .int t]) (rest := []) ⟨hx, hb, hml, hown, hts⟩ (c_X0_readInto_16 l D cy ad I S H.size (slI x b) t k hk (by omega) fr to hfr) (cw_X6_187 hts rfl rfl ⟨Nat.le_of_ble_eq_true rfl, Nat.le_of_ble_eq_true rfl⟩) (preVW (ci := 0) (q0 := 0) hK (hP.sub [7, 8, 9, 10, 11, 12, 13, 16, 17, 18] rfl) (hD.sub [7, 8, 9, 10, 11, 12, 13, 16, 17, 18] (by decide) rfl) rfl rfl) rfl rfl hl.1 rfl (lv_room (Nat.le_of_ble_eq_true rfl)) dX6_readBoth_34 ⟨Nat.le_of_ble_eq_true rfl, Nat.le_of_ble_eq_true rfl⟩) hP hD hS hA [7, 8, 9, 10, 11, 12, 13, 16, 17, 18] rfl [.inl 0, .inl 1, .inl 2, .inl 3, .inl 4, .inl 5, .inl 6, .inr 0, .inr 1, .inr 2, .inr 3, .inr 4, .inr 5, .inr 6, .inl 14, .inl 15, .inr 7, .inr 8, .inr 9, .inl 19, .inl 20, .inl 21, .inl 22, .inl 23, .inl 24, .inl 25, .inl 26, .inl 27, .inl 28] (by decide) (fun u => (wC cy ad I (va_up (va_up S 17 (rdKN S (slI x b) t fr to (S 17) k)) 18 (rdVN S (slI x b) t fr to (S 18) k)))) (fun _ => rfl) (fun _ => rfl) (fun u34_4 H locs q34_4 hP hD hS hkp => ?_)
  have hP : va_P D clW (wC cy ad I (va_up (va_up S 17 (rdKN S (slI x b) t fr to (S 17) k)) 18 (rdVN S (slI x b) t fr to (S 18) k))) H := hP
  have hD : va_D A (wC cy ad I (va_up (va_up S 17 (rdKN S (slI x b) t fr to (S 17) k)) 18 (rdVN S (slI x b) t fr to (S 18) k))) := hD
  refine lv_aload_n hx hb dX6_readBoth_37 rfl (lv_at hl 0 rfl) ?_
  refine gf_X6_19 hx hb hts hown hK hP 0 rfl (v := .ref (ad 7)) rfl dX6_readBoth_38 ?_
  refine lv_aload_n hx hb dX6_readBoth_41 rfl (lv_at hl 0 rfl) ?_
  refine gf_X6_41 hx hb hts hown hK hP 0 rfl (v := .ref (ad 19)) rfl dX6_readBoth_42 ?_
  refine lv_iload_n hx hb dX6_readBoth_45 rfl (lv_at hl 3 rfl) ?_
  refine lv_iload hx hb dX6_readBoth_46 (lv_at hl 4 rfl) ?_
  refine rI_call (va_runS (As := [.int x2, .int b2]) (rest := [.ref (ad 19), .ref (ad 7)]) ⟨hx, hb, hml, hown, hts⟩ (c_X6_slotOf l D cy x2 b2) (cw_X6_75 hts rfl rfl ⟨Nat.le_of_ble_eq_true rfl, Nat.le_of_ble_eq_true rfl⟩) (preSR hK (hP.sub [] rfl)) rfl rfl hl.1 rfl (lv_room (Nat.le_of_ble_eq_true rfl)) dX6_readBoth_48 ⟨Nat.le_of_ble_eq_true rfl, Nat.le_of_ble_eq_true rfl⟩) (fun r hr_ => ?_)
  subst hr_
  refine lv_iload hx hb dX6_readBoth_51 (lv_at hl 5 rfl) ?_
  refine wV_call (va_runV (As := [.ref (ad 19), .int (slI x2 b2), .int t]) (rest := []) ⟨hx, hb, hml, hown, hts⟩ (c_X0_readInto_19 l D cy ad I S H.size (slI x2 b2) t k hk (by omega) fr to hfr) (cw_X6_187 hts rfl rfl ⟨Nat.le_of_ble_eq_true rfl, Nat.le_of_ble_eq_true rfl⟩) (preVW (ci := 0) (q0 := 0) hK (hP.sub [7, 8, 9, 10, 11, 12, 13, 19, 20, 21] rfl) (hD.sub [7, 8, 9, 10, 11, 12, 13, 19, 20, 21] (by decide) rfl) rfl rfl) rfl rfl hl.1 rfl (lv_room (Nat.le_of_ble_eq_true rfl)) dX6_readBoth_53 ⟨Nat.le_of_ble_eq_true rfl, Nat.le_of_ble_eq_true rfl⟩) hP hD hS hA [7, 8, 9, 10, 11, 12, 13, 19, 20, 21] rfl [.inl 0, .inl 1, .inl 2, .inl 3, .inl 4, .inl 5, .inl 6, .inr 0, .inr 1, .inr 2, .inr 3, .inr 4, .inr 5, .inr 6, .inl 14, .inl 15, .inl 16, .inl 17, .inl 18, .inr 7, .inr 8, .inr 9, .inl 22, .inl 23, .inl 24, .inl 25, .inl 26, .inl 27, .inl 28] (by decide) (fun u => (wC cy ad I (va_up (va_up (va_up (va_up S 17 (rdKN S (slI x b) t fr to (S 17) k)) 18 (rdVN S (slI x b) t fr to (S 18) k)) 20 (rdKN S (slI x2 b2) t fr to (S 20) k)) 21 (rdVN S (slI x2 b2) t fr to (S 21) k)))) (fun _ => rfl) (fun _ => rfl) (fun u53_5 H locs q53_5 hP hD hS hkp => ?_)
  have hP : va_P D clW (wC cy ad I (va_up (va_up (va_up (va_up S 17 (rdKN S (slI x b) t fr to (S 17) k)) 18 (rdVN S (slI x b) t fr to (S 18) k)) 20 (rdKN S (slI x2 b2) t fr to (S 20) k)) 21 (rdVN S (slI x2 b2) t fr to (S 21) k))) H := hP
  have hD : va_D A (wC cy ad I (va_up (va_up (va_up (va_up S 17 (rdKN S (slI x b) t fr to (S 17) k)) 18 (rdVN S (slI x b) t fr to (S 18) k)) 20 (rdKN S (slI x2 b2) t fr to (S 20) k)) 21 (rdVN S (slI x2 b2) t fr to (S 21) k))) := hD
  have hP : va_P D clW (wC cy ad I (va_up (va_up (va_up (va_up S 17 (rdKN S (slI x b) t fr to (S 17) k)) 18 (rdVN S (slI x b) t fr to (S 18) k)) 20 (rdKN S (slI x2 b2) t fr to (S 20) k)) 21 (rdVN S (slI x2 b2) t fr to (S 21) k))) H := hP
  have hD : va_D A (wC cy ad I (va_up (va_up (va_up (va_up S 17 (rdKN S (slI x b) t fr to (S 17) k)) 18 (rdVN S (slI x b) t fr to (S 18) k)) 20 (rdKN S (slI x2 b2) t fr to (S 20) k)) 21 (rdVN S (slI x2 b2) t fr to (S 21) k))) := hD.addr rfl
  exact yV_ret () hS hP hx hb hr hlocks dX6_readBoth_56 (Nat.le_of_ble_eq_true rfl) (Nat.le_of_ble_eq_true rfl) hQ ⟨⟨q3_1, q10_2⟩, q16_3⟩

set_option maxHeartbeats 4000000 in
set_option maxRecDepth 100000 in
theorem c_X6_listJointPeriods (l : Launch) (hl0 : l.stackTraces = false) (D : va_G) (cy : Nat → ClassId) (ad : Nat → Nat) (I : AI) (S : AS) (sz : Nat) (x : Int32) (b : Int32) (x2 : Int32) (b2 : Int32) (t : Int32) (k : Nat) (n : Nat) (h : Nat) (fr : Nat → Nat) (to : Nat → Nat) (ofr : Nat → Nat) (oto : Nat → Nat) (hc : CIv I S k n h fr to ofr oto) : vx_Met l yX6_listJointPeriods (Cond.code yX6_listJointPeriods cX6_listJointPeriods 6 none :: wsL_law) ({ frames := 9, cells := 4, slots := 24, locals := 158 }) (va_Pc [.ref (ad 0), .int x, .int b, .int x2, .int b2, .int t] (wxB D cy (wC cy ad I S) sz)) (va_Qv (S := Unit) (fun u => jc I x b x2 b2 t) (fun u t9 => va_P D clW (wC cy ad (va_up I 5 (nI (jpS S (slI x b) (slI x2 b2) t fr to k).1)) (va_up (va_up (va_up (va_up (va_up (va_up S 17 (rdKN S (slI x b) t fr to (S 17) k)) 18 (rdVN S (slI x b) t fr to (S 18) k)) 20 (rdKN S (slI x2 b2) t fr to (S 20) k)) 21 (rdVN S (slI x2 b2) t fr to (S 21) k)) 23 (jpS S (slI x b) (slI x2 b2) t fr to k).2.1) 24 (jpS S (slI x b) (slI x2 b2) t fr to k).2.2)) t9.heap) (va_A (wC cy ad I S) sz)) (xW (S := AI × AS) (fun E u => jx I x b x2 b2 t E ∧ scr I S u.1 u.2) (fun u => (wC cy ad u.1 u.2)) D (va_A (wC cy ad I S) sz)) 4 24 (va_A (wC cy ad I S) sz) := by
  refine enterX (cc := cX6_listJointPeriods) (by decide) (Nat.le_of_ble_eq_true rfl) ?_
  intro p e s m below meth c hx hb hr hml hown hts hlocks hT hv Q hQ ls hl
  obtain ⟨hsz, hP, hK, hD0, hE, hZ⟩ := hv
  subst hsz
  have hD := hD0.self (sz := s.heap.size)
  generalize hAe : va_A (wC cy ad I S) s.heap.size = A at hD hQ hZ ⊢
  have hA : ∀ q : Nat, s.heap.size ≤ q → A q := fun q h => by rw [← hAe]; exact Or.inr h
  have hS : va_S A s.heap s.heap [] := va_S.rf
  suffices K_ : ∀ (H : Heap) (locs : List Loc), va_P D clW (wC cy ad I S) H → va_S A s.heap H locs → W p l e ({ frames := 9, cells := 4, slots := 24, locals := 158 }) s m ([.ref (ad 0), .int x, .int b, .int x2, .int b2, .int t] : List Value).toArray below meth c H locs 0 0 Q (F0 m 0 ls []) from K_ _ _ hP hS
  clear hP hS
  intro H locs hP hS
  have hown : s.vm.findClass RX6 = some m.cls := hown
  have hl : lv_has ls 6 [(0, .ref (ad 0)), (1, .int x), (2, .int b), (3, .int x2), (4, .int b2), (5, .int t)] := hl
  have hc := hc
  obtain ⟨hn, hn6, hk, hk3, hh, hhn, hfr, hfo, hch⟩ := id hc
  have hk8 : k ≤ 180 := by omega
  refine lv_aload_n hx hb dX6_listJointPeriods_0 rfl (lv_at hl 0 rfl) ?_
  refine lv_iload_n hx hb dX6_listJointPeriods_1 rfl (lv_at hl 1 rfl) ?_
  refine lv_iload_n hx hb dX6_listJointPeriods_2 rfl (lv_at hl 2 rfl) ?_
  refine lv_iload_n hx hb dX6_listJointPeriods_3 rfl (lv_at hl 3 rfl) ?_
  refine lv_iload hx hb dX6_listJointPeriods_4 (lv_at hl 4 rfl) ?_
  refine lv_iload hx hb dX6_listJointPeriods_6 (lv_at hl 5 rfl) ?_
  refine yW_call (vx_runV (As := [.int x, .int b, .int x2, .int b2, .int t]) (rest := []) ⟨hx, hb, hml, hown, hts⟩ (c_X6_readBoth l hl0 D cy ad I S H.size x b x2 b2 t k n h fr to ofr oto hc) (cw_X6_224 hts rfl rfl ⟨Nat.le_of_ble_eq_true rfl, Nat.le_of_ble_eq_true rfl⟩) (preVWX (ci := 6) (q0 := 0) hK hE (hZ.now hS) (frame_in hD hS hA) hP hD rfl rfl) rfl rfl hl.1 rfl (lv_room (Nat.le_of_ble_eq_true rfl)) dX6_listJointPeriods_8 ⟨Nat.le_of_ble_eq_true rfl, Nat.le_of_ble_eq_true rfl⟩) hD hS hA hT hlocks hQ (Nat.le_of_ble_eq_true rfl) (Nat.le_of_ble_eq_true rfl) (fun u => u) (fun _ => rfl) (fun E u h => h) (fun _ => rfl) (fun u8_1 H locs q8_1 hP hD hS => ?_)
  have hP : va_P D clW (wC cy ad I (va_up (va_up (va_up (va_up S 17 (rdKN S (slI x b) t fr to (S 17) k)) 18 (rdVN S (slI x b) t fr to (S 18) k)) 20 (rdKN S (slI x2 b2) t fr to (S 20) k)) 21 (rdVN S (slI x2 b2) t fr to (S 21) k))) H := hP
  have hD : va_D A (wC cy ad I (va_up (va_up (va_up (va_up S 17 (rdKN S (slI x b) t fr to (S 17) k)) 18 (rdVN S (slI x b) t fr to (S 18) k)) 20 (rdKN S (slI x2 b2) t fr to (S 20) k)) 21 (rdVN S (slI x2 b2) t fr to (S 21) k))) := hD
  have hjc_1 := q8_1
  refine lv_aload_n hx hb dX6_listJointPeriods_11 rfl (lv_at hl 0 rfl) ?_
  refine gf_X6_47 hx hb hts hown hK hP 0 rfl (v := .ref (ad 22)) rfl dX6_listJointPeriods_12 ?_
  refine lv_aload_n hx hb dX6_listJointPeriods_15 rfl (lv_at hl 0 rfl) ?_
  refine gf_X6_37 hx hb hts hown hK hP 0 rfl (v := .ref (ad 16)) rfl dX6_listJointPeriods_16 ?_
  refine lv_aload_n hx hb dX6_listJointPeriods_19 rfl (lv_at hl 0 rfl) ?_
  refine gf_X6_41 hx hb hts hown hK hP 0 rfl (v := .ref (ad 19)) rfl dX6_listJointPeriods_20 ?_
  refine wV_call (va_runV (As := [.ref (ad 16), .ref (ad 19)]) (rest := []) ⟨hx, hb, hml, hown, hts⟩ (c_X4_list l D cy ad I (va_up (va_up (va_up (va_up S 17 (rdKN S (slI x b) t fr to (S 17) k)) 18 (rdVN S (slI x b) t fr to (S 18) k)) 20 (rdKN S (slI x2 b2) t fr to (S 20) k)) 21 (rdVN S (slI x2 b2) t fr to (S 21) k)) H.size) (cw_X6_264 hts rfl rfl ⟨Nat.le_of_ble_eq_true rfl, Nat.le_of_ble_eq_true rfl⟩) (preVW (ci := 4) (q0 := 0) hK (hP.sub [22, 23, 24, 16, 17, 18, 19, 20, 21] rfl) (hD.sub [22, 23, 24, 16, 17, 18, 19, 20, 21] (by decide) rfl) rfl rfl) rfl rfl hl.1 rfl (lv_room (Nat.le_of_ble_eq_true rfl)) dX6_listJointPeriods_23 ⟨Nat.le_of_ble_eq_true rfl, Nat.le_of_ble_eq_true rfl⟩) hP hD hS hA [22, 23, 24, 16, 17, 18, 19, 20, 21] rfl [.inl 0, .inl 1, .inl 2, .inl 3, .inl 4, .inl 5, .inl 6, .inl 7, .inl 8, .inl 9, .inl 10, .inl 11, .inl 12, .inl 13, .inl 14, .inl 15, .inr 3, .inr 4, .inr 5, .inr 6, .inr 7, .inr 8, .inr 0, .inr 1, .inr 2, .inl 25, .inl 26, .inl 27, .inl 28] (by decide) (fun u => (wC cy ad (va_up I 5 (nI (plS (rdKN S (slI x b) t fr to (S 17) k) (rdVN S (slI x b) t fr to (S 18) k) (rdKN S (slI x2 b2) t fr to (S 20) k) (rdVN S (slI x2 b2) t fr to (S 21) k) (S 23) (S 24) 100).1)) (va_up (va_up (va_up (va_up (va_up (va_up S 17 (rdKN S (slI x b) t fr to (S 17) k)) 18 (rdVN S (slI x b) t fr to (S 18) k)) 20 (rdKN S (slI x2 b2) t fr to (S 20) k)) 21 (rdVN S (slI x2 b2) t fr to (S 21) k)) 23 (plS (rdKN S (slI x b) t fr to (S 17) k) (rdVN S (slI x b) t fr to (S 18) k) (rdKN S (slI x2 b2) t fr to (S 20) k) (rdVN S (slI x2 b2) t fr to (S 21) k) (S 23) (S 24) 100).2.1) 24 (plS (rdKN S (slI x b) t fr to (S 17) k) (rdVN S (slI x b) t fr to (S 18) k) (rdKN S (slI x2 b2) t fr to (S 20) k) (rdVN S (slI x2 b2) t fr to (S 21) k) (S 23) (S 24) 100).2.2))) (fun _ => rfl) (fun _ => rfl) (fun u23_2 H locs q23_2 hP hD hS hkp => ?_)
  have hP : va_P D clW (wC cy ad (va_up I 5 (nI (plS (rdKN S (slI x b) t fr to (S 17) k) (rdVN S (slI x b) t fr to (S 18) k) (rdKN S (slI x2 b2) t fr to (S 20) k) (rdVN S (slI x2 b2) t fr to (S 21) k) (S 23) (S 24) 100).1)) (va_up (va_up (va_up (va_up (va_up (va_up S 17 (rdKN S (slI x b) t fr to (S 17) k)) 18 (rdVN S (slI x b) t fr to (S 18) k)) 20 (rdKN S (slI x2 b2) t fr to (S 20) k)) 21 (rdVN S (slI x2 b2) t fr to (S 21) k)) 23 (plS (rdKN S (slI x b) t fr to (S 17) k) (rdVN S (slI x b) t fr to (S 18) k) (rdKN S (slI x2 b2) t fr to (S 20) k) (rdVN S (slI x2 b2) t fr to (S 21) k) (S 23) (S 24) 100).2.1) 24 (plS (rdKN S (slI x b) t fr to (S 17) k) (rdVN S (slI x b) t fr to (S 18) k) (rdKN S (slI x2 b2) t fr to (S 20) k) (rdVN S (slI x2 b2) t fr to (S 21) k) (S 23) (S 24) 100).2.2)) H := hP
  have hD : va_D A (wC cy ad (va_up I 5 (nI (plS (rdKN S (slI x b) t fr to (S 17) k) (rdVN S (slI x b) t fr to (S 18) k) (rdKN S (slI x2 b2) t fr to (S 20) k) (rdVN S (slI x2 b2) t fr to (S 21) k) (S 23) (S 24) 100).1)) (va_up (va_up (va_up (va_up (va_up (va_up S 17 (rdKN S (slI x b) t fr to (S 17) k)) 18 (rdVN S (slI x b) t fr to (S 18) k)) 20 (rdKN S (slI x2 b2) t fr to (S 20) k)) 21 (rdVN S (slI x2 b2) t fr to (S 21) k)) 23 (plS (rdKN S (slI x b) t fr to (S 17) k) (rdVN S (slI x b) t fr to (S 18) k) (rdKN S (slI x2 b2) t fr to (S 20) k) (rdVN S (slI x2 b2) t fr to (S 21) k) (S 23) (S 24) 100).2.1) 24 (plS (rdKN S (slI x b) t fr to (S 17) k) (rdVN S (slI x b) t fr to (S 18) k) (rdKN S (slI x2 b2) t fr to (S 20) k) (rdVN S (slI x2 b2) t fr to (S 21) k) (S 23) (S 24) 100).2.2)) := hD
  have e_3 : (nI (plS (rdKN S (slI x b) t fr to (S 17) k) (rdVN S (slI x b) t fr to (S 18) k) (rdKN S (slI x2 b2) t fr to (S 20) k) (rdVN S (slI x2 b2) t fr to (S 21) k) (S 23) (S 24) 100).1) = (nI (jpS S (slI x b) (slI x2 b2) t fr to k).1) := rfl
  have e_4 : (plS (rdKN S (slI x b) t fr to (S 17) k) (rdVN S (slI x b) t fr to (S 18) k) (rdKN S (slI x2 b2) t fr to (S 20) k) (rdVN S (slI x2 b2) t fr to (S 21) k) (S 23) (S 24) 100).2.1 = (jpS S (slI x b) (slI x2 b2) t fr to k).2.1 := rfl
  have e_5 : (plS (rdKN S (slI x b) t fr to (S 17) k) (rdVN S (slI x b) t fr to (S 18) k) (rdKN S (slI x2 b2) t fr to (S 20) k) (rdVN S (slI x2 b2) t fr to (S 21) k) (S 23) (S 24) 100).2.2 = (jpS S (slI x b) (slI x2 b2) t fr to k).2.2 := rfl
  have hP : va_P D clW (wC cy ad (va_up I 5 (nI (jpS S (slI x b) (slI x2 b2) t fr to k).1)) (va_up (va_up (va_up (va_up (va_up (va_up S 17 (rdKN S (slI x b) t fr to (S 17) k)) 18 (rdVN S (slI x b) t fr to (S 18) k)) 20 (rdKN S (slI x2 b2) t fr to (S 20) k)) 21 (rdVN S (slI x2 b2) t fr to (S 21) k)) 23 (jpS S (slI x b) (slI x2 b2) t fr to k).2.1) 24 (jpS S (slI x b) (slI x2 b2) t fr to k).2.2)) H := by rw [← e_3, ← e_4, ← e_5]; exact hP
  have hD : va_D A (wC cy ad (va_up I 5 (nI (jpS S (slI x b) (slI x2 b2) t fr to k).1)) (va_up (va_up (va_up (va_up (va_up (va_up S 17 (rdKN S (slI x b) t fr to (S 17) k)) 18 (rdVN S (slI x b) t fr to (S 18) k)) 20 (rdKN S (slI x2 b2) t fr to (S 20) k)) 21 (rdVN S (slI x2 b2) t fr to (S 21) k)) 23 (jpS S (slI x b) (slI x2 b2) t fr to k).2.1) 24 (jpS S (slI x b) (slI x2 b2) t fr to k).2.2)) := hD.addr rfl
  exact yV_ret () hS hP hx hb hr hlocks dX6_listJointPeriods_26 (Nat.le_of_ble_eq_true rfl) (Nat.le_of_ble_eq_true rfl) hQ hjc_1

set_option maxHeartbeats 4000000 in
set_option maxRecDepth 100000 in
theorem c_X6_listPeriods (l : Launch) (hl0 : l.stackTraces = false) (D : va_G) (cy : Nat → ClassId) (ad : Nat → Nat) (I : AI) (S : AS) (sz : Nat) (x : Int32) (b : Int32) (t : Int32) (k : Nat) (n : Nat) (h : Nat) (fr : Nat → Nat) (to : Nat → Nat) (ofr : Nat → Nat) (oto : Nat → Nat) (hc : CIv I S k n h fr to ofr oto) : vx_Met l yX6_listPeriods (Cond.code yX6_listPeriods cX6_listPeriods 4 none :: wsL_law) ({ frames := 10, cells := 4, slots := 24, locals := 183 }) (va_Pc [.ref (ad 0), .int x, .int b, .int t] (wxB D cy (wC cy ad I S) sz)) (va_Qv (S := Unit) (fun u => jc I x b x b t) (fun u t9 => va_P D clW (wC cy ad (va_up I 5 (nI (jpS S (slI x b) (slI x b) t fr to k).1)) (va_up (va_up (va_up (va_up (va_up (va_up S 17 (rdKN S (slI x b) t fr to (S 17) k)) 18 (rdVN S (slI x b) t fr to (S 18) k)) 20 (rdKN S (slI x b) t fr to (S 20) k)) 21 (rdVN S (slI x b) t fr to (S 21) k)) 23 (jpS S (slI x b) (slI x b) t fr to k).2.1) 24 (jpS S (slI x b) (slI x b) t fr to k).2.2)) t9.heap) (va_A (wC cy ad I S) sz)) (xW (S := AI × AS) (fun E u => jx I x b x b t E ∧ scr I S u.1 u.2) (fun u => (wC cy ad u.1 u.2)) D (va_A (wC cy ad I S) sz)) 4 24 (va_A (wC cy ad I S) sz) := by
  refine enterX (cc := cX6_listPeriods) (by decide) (Nat.le_of_ble_eq_true rfl) ?_
  intro p e s m below meth c hx hb hr hml hown hts hlocks hT hv Q hQ ls hl
  obtain ⟨hsz, hP, hK, hD0, hE, hZ⟩ := hv
  subst hsz
  have hD := hD0.self (sz := s.heap.size)
  generalize hAe : va_A (wC cy ad I S) s.heap.size = A at hD hQ hZ ⊢
  have hA : ∀ q : Nat, s.heap.size ≤ q → A q := fun q h => by rw [← hAe]; exact Or.inr h
  have hS : va_S A s.heap s.heap [] := va_S.rf
  suffices K_ : ∀ (H : Heap) (locs : List Loc), va_P D clW (wC cy ad I S) H → va_S A s.heap H locs → W p l e ({ frames := 10, cells := 4, slots := 24, locals := 183 }) s m ([.ref (ad 0), .int x, .int b, .int t] : List Value).toArray below meth c H locs 0 0 Q (F0 m 0 ls []) from K_ _ _ hP hS
  clear hP hS
  intro H locs hP hS
  have hown : s.vm.findClass RX6 = some m.cls := hown
  have hl : lv_has ls 4 [(0, .ref (ad 0)), (1, .int x), (2, .int b), (3, .int t)] := hl
  obtain ⟨hn, hn6, hk, hk3, hh, hhn, hfr, hfo, hch⟩ := id hc
  have hk8 : k ≤ 180 := by omega
  refine lv_aload_n hx hb dX6_listPeriods_0 rfl (lv_at hl 0 rfl) ?_
  refine lv_iload_n hx hb dX6_listPeriods_1 rfl (lv_at hl 1 rfl) ?_
  refine lv_iload_n hx hb dX6_listPeriods_2 rfl (lv_at hl 2 rfl) ?_
  refine lv_iload_n hx hb dX6_listPeriods_3 rfl (lv_at hl 1 rfl) ?_
  refine lv_iload_n hx hb dX6_listPeriods_4 rfl (lv_at hl 2 rfl) ?_
  refine lv_iload_n hx hb dX6_listPeriods_5 rfl (lv_at hl 3 rfl) ?_
  refine yW_call (vx_runV (As := [.int x, .int b, .int x, .int b, .int t]) (rest := []) ⟨hx, hb, hml, hown, hts⟩ (c_X6_listJointPeriods l hl0 D cy ad I S H.size x b x b t k n h fr to ofr oto hc) (cw_X6_220 hts rfl rfl ⟨Nat.le_of_ble_eq_true rfl, Nat.le_of_ble_eq_true rfl⟩) (preVWX (ci := 6) (q0 := 0) hK hE (hZ.now hS) (frame_in hD hS hA) hP hD rfl rfl) rfl rfl hl.1 rfl (lv_room (Nat.le_of_ble_eq_true rfl)) dX6_listPeriods_6 ⟨Nat.le_of_ble_eq_true rfl, Nat.le_of_ble_eq_true rfl⟩) hD hS hA hT hlocks hQ (Nat.le_of_ble_eq_true rfl) (Nat.le_of_ble_eq_true rfl) (fun u => u) (fun _ => rfl) (fun E u h => h) (fun _ => rfl) (fun u6_1 H locs q6_1 hP hD hS => ?_)
  have hP : va_P D clW (wC cy ad (va_up I 5 (nI (jpS S (slI x b) (slI x b) t fr to k).1)) (va_up (va_up (va_up (va_up (va_up (va_up S 17 (rdKN S (slI x b) t fr to (S 17) k)) 18 (rdVN S (slI x b) t fr to (S 18) k)) 20 (rdKN S (slI x b) t fr to (S 20) k)) 21 (rdVN S (slI x b) t fr to (S 21) k)) 23 (jpS S (slI x b) (slI x b) t fr to k).2.1) 24 (jpS S (slI x b) (slI x b) t fr to k).2.2)) H := hP
  have hD : va_D A (wC cy ad (va_up I 5 (nI (jpS S (slI x b) (slI x b) t fr to k).1)) (va_up (va_up (va_up (va_up (va_up (va_up S 17 (rdKN S (slI x b) t fr to (S 17) k)) 18 (rdVN S (slI x b) t fr to (S 18) k)) 20 (rdKN S (slI x b) t fr to (S 20) k)) 21 (rdVN S (slI x b) t fr to (S 21) k)) 23 (jpS S (slI x b) (slI x b) t fr to k).2.1) 24 (jpS S (slI x b) (slI x b) t fr to k).2.2)) := hD
  have hjc_1 := q6_1
  have hP : va_P D clW (wC cy ad (va_up I 5 (nI (jpS S (slI x b) (slI x b) t fr to k).1)) (va_up (va_up (va_up (va_up (va_up (va_up S 17 (rdKN S (slI x b) t fr to (S 17) k)) 18 (rdVN S (slI x b) t fr to (S 18) k)) 20 (rdKN S (slI x b) t fr to (S 20) k)) 21 (rdVN S (slI x b) t fr to (S 21) k)) 23 (jpS S (slI x b) (slI x b) t fr to k).2.1) 24 (jpS S (slI x b) (slI x b) t fr to k).2.2)) H := hP
  have hD : va_D A (wC cy ad (va_up I 5 (nI (jpS S (slI x b) (slI x b) t fr to k).1)) (va_up (va_up (va_up (va_up (va_up (va_up S 17 (rdKN S (slI x b) t fr to (S 17) k)) 18 (rdVN S (slI x b) t fr to (S 18) k)) 20 (rdKN S (slI x b) t fr to (S 20) k)) 21 (rdVN S (slI x b) t fr to (S 21) k)) 23 (jpS S (slI x b) (slI x b) t fr to k).2.1) 24 (jpS S (slI x b) (slI x b) t fr to k).2.2)) := hD.addr rfl
  exact yV_ret () hS hP hx hb hr hlocks dX6_listPeriods_9 (Nat.le_of_ble_eq_true rfl) (Nat.le_of_ble_eq_true rfl) hQ hjc_1

set_option maxHeartbeats 4000000 in
set_option maxRecDepth 100000 in
theorem c_X6_periodCount (l : Launch) (hl0 : l.stackTraces = false) (D : va_G) (cy : Nat → ClassId) (ad : Nat → Nat) (I : AI) (S : AS) (sz : Nat) (x : Int32) (b : Int32) (t : Int32) (k : Nat) (n : Nat) (h : Nat) (fr : Nat → Nat) (to : Nat → Nat) (ofr : Nat → Nat) (oto : Nat → Nat) (hc : CIv I S k n h fr to ofr oto) : vx_Met l yX6_periodCount (Cond.code yX6_periodCount cX6_periodCount 4 (some .int) :: wsL_law) ({ frames := 11, cells := 4, slots := 24, locals := 206 }) (va_Pc [.ref (ad 0), .int x, .int b, .int t] (wxB D cy (wC cy ad I S) sz)) (va_Qi (S := AI × AS) (fun r u => r = nI (jpS S (slI x b) (slI x b) t fr to k).1 ∧ jc I x b x b t ∧ scr I S u.1 u.2) (fun u t9 => va_P D clW (wC cy ad u.1 u.2) t9.heap) (va_A (wC cy ad I S) sz)) (xW (S := AI × AS) (fun E u => (jx I x b x b t E) ∧ scr I S u.1 u.2) (fun u => (wC cy ad u.1 u.2)) D (va_A (wC cy ad I S) sz)) 4 24 (va_A (wC cy ad I S) sz) := by
  refine enterX (cc := cX6_periodCount) (by decide) (Nat.le_of_ble_eq_true rfl) ?_
  intro p e s m below meth c hx hb hr hml hown hts hlocks hT hv Q hQ ls hl
  obtain ⟨hsz, hP, hK, hD0, hE, hZ⟩ := hv
  subst hsz
  have hD := hD0.self (sz := s.heap.size)
  generalize hAe : va_A (wC cy ad I S) s.heap.size = A at hD hQ hZ ⊢
  have hA : ∀ q : Nat, s.heap.size ≤ q → A q := fun q h => by rw [← hAe]; exact Or.inr h
  have hS : va_S A s.heap s.heap [] := va_S.rf
  suffices K_ : ∀ (H : Heap) (locs : List Loc), va_P D clW (wC cy ad I S) H → va_S A s.heap H locs → W p l e ({ frames := 11, cells := 4, slots := 24, locals := 206 }) s m ([.ref (ad 0), .int x, .int b, .int t] : List Value).toArray below meth c H locs 0 0 Q (F0 m 0 ls []) from K_ _ _ hP hS
  clear hP hS
  intro H locs hP hS
  have hown : s.vm.findClass RX6 = some m.cls := hown
  have hl : lv_has ls 4 [(0, .ref (ad 0)), (1, .int x), (2, .int b), (3, .int t)] := hl
  obtain ⟨hn, hn6, hk, hk3, hh, hhn, hfr, hfo, hch⟩ := id hc
  have hk8 : k ≤ 180 := by omega
  refine lv_aload_n hx hb dX6_periodCount_0 rfl (lv_at hl 0 rfl) ?_
  refine lv_iload_n hx hb dX6_periodCount_1 rfl (lv_at hl 1 rfl) ?_
  refine lv_iload_n hx hb dX6_periodCount_2 rfl (lv_at hl 2 rfl) ?_
  refine lv_iload_n hx hb dX6_periodCount_3 rfl (lv_at hl 3 rfl) ?_
  refine yW_call (vx_runV (As := [.int x, .int b, .int t]) (rest := []) ⟨hx, hb, hml, hown, hts⟩ (c_X6_listPeriods l hl0 D cy ad I S H.size x b t k n h fr to ofr oto hc) (cw_X6_175 hts rfl rfl ⟨Nat.le_of_ble_eq_true rfl, Nat.le_of_ble_eq_true rfl⟩) (preVWX (ci := 6) (q0 := 0) hK hE (hZ.now hS) (frame_in hD hS hA) hP hD rfl rfl) rfl rfl hl.1 rfl (lv_room (Nat.le_of_ble_eq_true rfl)) dX6_periodCount_4 ⟨Nat.le_of_ble_eq_true rfl, Nat.le_of_ble_eq_true rfl⟩) hD hS hA hT hlocks hQ (Nat.le_of_ble_eq_true rfl) (Nat.le_of_ble_eq_true rfl) (fun u => u) (fun _ => rfl) (fun E u h => h) (fun _ => rfl) (fun u4_1 H locs q4_1 hP hD hS => ?_)
  have hP : va_P D clW (wC cy ad (va_up I 5 (nI (jpS S (slI x b) (slI x b) t fr to k).1)) (va_up (va_up (va_up (va_up (va_up (va_up S 17 (rdKN S (slI x b) t fr to (S 17) k)) 18 (rdVN S (slI x b) t fr to (S 18) k)) 20 (rdKN S (slI x b) t fr to (S 20) k)) 21 (rdVN S (slI x b) t fr to (S 21) k)) 23 (jpS S (slI x b) (slI x b) t fr to k).2.1) 24 (jpS S (slI x b) (slI x b) t fr to k).2.2)) H := hP
  have hD : va_D A (wC cy ad (va_up I 5 (nI (jpS S (slI x b) (slI x b) t fr to k).1)) (va_up (va_up (va_up (va_up (va_up (va_up S 17 (rdKN S (slI x b) t fr to (S 17) k)) 18 (rdVN S (slI x b) t fr to (S 18) k)) 20 (rdKN S (slI x b) t fr to (S 20) k)) 21 (rdVN S (slI x b) t fr to (S 21) k)) 23 (jpS S (slI x b) (slI x b) t fr to k).2.1) 24 (jpS S (slI x b) (slI x b) t fr to k).2.2)) := hD
  have hjc_1 := q4_1
  refine lv_aload_n hx hb dX6_periodCount_7 rfl (lv_at hl 0 rfl) ?_
  refine gf_X6_47 hx hb hts hown hK hP 0 rfl (v := .ref (ad 22)) rfl dX6_periodCount_8 ?_
  refine rI_call (va_runV (As := []) (rest := []) ⟨hx, hb, hml, hown, hts⟩ (c_X4_size l D cy ad (va_up I 5 (nI (jpS S (slI x b) (slI x b) t fr to k).1)) (va_up (va_up (va_up (va_up (va_up (va_up S 17 (rdKN S (slI x b) t fr to (S 17) k)) 18 (rdVN S (slI x b) t fr to (S 18) k)) 20 (rdKN S (slI x b) t fr to (S 20) k)) 21 (rdVN S (slI x b) t fr to (S 21) k)) 23 (jpS S (slI x b) (slI x b) t fr to k).2.1) 24 (jpS S (slI x b) (slI x b) t fr to k).2.2)) (cw_X6_179 hts rfl rfl ⟨Nat.le_of_ble_eq_true rfl, Nat.le_of_ble_eq_true rfl⟩) (preVR (ci := 4) (q0 := 0) hK (hP.sub [22, 23, 24] rfl) rfl rfl) rfl rfl hl.1 rfl (lv_room (Nat.le_of_ble_eq_true rfl)) dX6_periodCount_11 ⟨Nat.le_of_ble_eq_true rfl, Nat.le_of_ble_eq_true rfl⟩) (fun r hr_ => ?_)
  subst hr_
  refine top_eq (y := (nI (jpS S (slI x b) (slI x b) t fr to k).1)) rfl ?_
  exact yI_ret ((va_up I 5 (nI (jpS S (slI x b) (slI x b) t fr to k).1)), (va_up (va_up (va_up (va_up (va_up (va_up S 17 (rdKN S (slI x b) t fr to (S 17) k)) 18 (rdVN S (slI x b) t fr to (S 18) k)) 20 (rdKN S (slI x b) t fr to (S 20) k)) 21 (rdVN S (slI x b) t fr to (S 21) k)) 23 (jpS S (slI x b) (slI x b) t fr to k).2.1) 24 (jpS S (slI x b) (slI x b) t fr to k).2.2)) hS hP hx hb hr hlocks dX6_periodCount_14 rfl (Nat.le_of_ble_eq_true rfl) (Nat.le_of_ble_eq_true rfl) hQ ⟨rfl, hjc_1, (scr_S (scr_S (scr_S (scr_S (scr_S (scr_S (scr_I (scr_0 I S) (by decide) _) (by decide) _) (by decide) _) (by decide) _) (by decide) _) (by decide) _) (by decide) _)⟩

set_option maxHeartbeats 4000000 in
set_option maxRecDepth 100000 in
theorem c_X6_periodFrom (l : Launch) (hl0 : l.stackTraces = false) (D : va_G) (cy : Nat → ClassId) (ad : Nat → Nat) (I : AI) (S : AS) (sz : Nat) (x : Int32) (b : Int32) (t : Int32) (ix : Int32) (k : Nat) (n : Nat) (h : Nat) (fr : Nat → Nat) (to : Nat → Nat) (ofr : Nat → Nat) (oto : Nat → Nat) (hc : CIv I S k n h fr to ofr oto) : vx_Met l yX6_periodFrom (Cond.code yX6_periodFrom cX6_periodFrom 5 (some .int) :: wsL_law) ({ frames := 11, cells := 5, slots := 30, locals := 206 }) (va_Pc [.ref (ad 0), .int x, .int b, .int t, .int ix] (wxB D cy (wC cy ad I S) sz)) (va_Qi (S := AI × AS) (fun r u => r = (jpS S (slI x b) (slI x b) t fr to k).2.1 ix.toNatClampNeg ∧ jc I x b x b t ∧ ixP (nI (jpS S (slI x b) (slI x b) t fr to k).1) ix ∧ scr I S u.1 u.2) (fun u t9 => va_P D clW (wC cy ad u.1 u.2) t9.heap) (va_A (wC cy ad I S) sz)) (xW (S := AI × AS) (fun E u => (jx I x b x b t E ∨ (E = eNSE ∧ jc I x b x b t ∧ ¬ ixP (nI (jpS S (slI x b) (slI x b) t fr to k).1) ix)) ∧ scr I S u.1 u.2) (fun u => (wC cy ad u.1 u.2)) D (va_A (wC cy ad I S) sz)) 5 30 (va_A (wC cy ad I S) sz) := by
  refine enterX (cc := cX6_periodFrom) (by decide) (Nat.le_of_ble_eq_true rfl) ?_
  intro p e s m below meth c hx hb hr hml hown hts hlocks hT hv Q hQ ls hl
  obtain ⟨hsz, hP, hK, hD0, hE, hZ⟩ := hv
  subst hsz
  have hD := hD0.self (sz := s.heap.size)
  generalize hAe : va_A (wC cy ad I S) s.heap.size = A at hD hQ hZ ⊢
  have hA : ∀ q : Nat, s.heap.size ≤ q → A q := fun q h => by rw [← hAe]; exact Or.inr h
  have hS : va_S A s.heap s.heap [] := va_S.rf
  suffices K_ : ∀ (H : Heap) (locs : List Loc), va_P D clW (wC cy ad I S) H → va_S A s.heap H locs → W p l e ({ frames := 11, cells := 5, slots := 30, locals := 206 }) s m ([.ref (ad 0), .int x, .int b, .int t, .int ix] : List Value).toArray below meth c H locs 0 0 Q (F0 m 0 ls []) from K_ _ _ hP hS
  clear hP hS
  intro H locs hP hS
  have hown : s.vm.findClass RX6 = some m.cls := hown
  have hl : lv_has ls 5 [(0, .ref (ad 0)), (1, .int x), (2, .int b), (3, .int t), (4, .int ix)] := hl
  obtain ⟨hn, hn6, hk, hk3, hh, hhn, hfr, hfo, hch⟩ := id hc
  have hk8 : k ≤ 180 := by omega
  refine lv_aload_n hx hb dX6_periodFrom_0 rfl (lv_at hl 0 rfl) ?_
  refine lv_iload_n hx hb dX6_periodFrom_1 rfl (lv_at hl 1 rfl) ?_
  refine lv_iload_n hx hb dX6_periodFrom_2 rfl (lv_at hl 2 rfl) ?_
  refine lv_iload_n hx hb dX6_periodFrom_3 rfl (lv_at hl 3 rfl) ?_
  refine yW_call (vx_runV (As := [.int x, .int b, .int t]) (rest := []) ⟨hx, hb, hml, hown, hts⟩ (c_X6_listPeriods l hl0 D cy ad I S H.size x b t k n h fr to ofr oto hc) (cw_X6_175 hts rfl rfl ⟨Nat.le_of_ble_eq_true rfl, Nat.le_of_ble_eq_true rfl⟩) (preVWX (ci := 6) (q0 := 0) hK hE (hZ.now hS) (frame_in hD hS hA) hP hD rfl rfl) rfl rfl hl.1 rfl (lv_room (Nat.le_of_ble_eq_true rfl)) dX6_periodFrom_4 ⟨Nat.le_of_ble_eq_true rfl, Nat.le_of_ble_eq_true rfl⟩) hD hS hA hT hlocks hQ (Nat.le_of_ble_eq_true rfl) (Nat.le_of_ble_eq_true rfl) (fun u => u) (fun _ => rfl) (fun E u h => ⟨Or.inl (h.1), h.2⟩) (fun _ => rfl) (fun u4_1 H locs q4_1 hP hD hS => ?_)
  have hP : va_P D clW (wC cy ad (va_up I 5 (nI (jpS S (slI x b) (slI x b) t fr to k).1)) (va_up (va_up (va_up (va_up (va_up (va_up S 17 (rdKN S (slI x b) t fr to (S 17) k)) 18 (rdVN S (slI x b) t fr to (S 18) k)) 20 (rdKN S (slI x b) t fr to (S 20) k)) 21 (rdVN S (slI x b) t fr to (S 21) k)) 23 (jpS S (slI x b) (slI x b) t fr to k).2.1) 24 (jpS S (slI x b) (slI x b) t fr to k).2.2)) H := hP
  have hD : va_D A (wC cy ad (va_up I 5 (nI (jpS S (slI x b) (slI x b) t fr to k).1)) (va_up (va_up (va_up (va_up (va_up (va_up S 17 (rdKN S (slI x b) t fr to (S 17) k)) 18 (rdVN S (slI x b) t fr to (S 18) k)) 20 (rdKN S (slI x b) t fr to (S 20) k)) 21 (rdVN S (slI x b) t fr to (S 21) k)) 23 (jpS S (slI x b) (slI x b) t fr to k).2.1) 24 (jpS S (slI x b) (slI x b) t fr to k).2.2)) := hD
  have hjc_1 := q4_1
  refine lv_aload_n hx hb dX6_periodFrom_7 rfl (lv_at hl 0 rfl) ?_
  refine lv_iload hx hb dX6_periodFrom_8 (lv_at hl 4 rfl) ?_
  refine yR_call (vx_runV (As := [.int ix]) (rest := []) ⟨hx, hb, hml, hown, hts⟩ (c_X6_requirePeriod l hl0 D cy ad (va_up I 5 (nI (jpS S (slI x b) (slI x b) t fr to k).1)) (va_up (va_up (va_up (va_up (va_up (va_up S 17 (rdKN S (slI x b) t fr to (S 17) k)) 18 (rdVN S (slI x b) t fr to (S 18) k)) 20 (rdKN S (slI x b) t fr to (S 20) k)) 21 (rdVN S (slI x b) t fr to (S 21) k)) 23 (jpS S (slI x b) (slI x b) t fr to k).2.1) 24 (jpS S (slI x b) (slI x b) t fr to k).2.2) ix) (cw_X6_182 hts rfl rfl ⟨Nat.le_of_ble_eq_true rfl, Nat.le_of_ble_eq_true rfl⟩) (preVRX (ci := 6) (q0 := 0) hK hE (hZ.now hS).no hP rfl rfl) rfl rfl hl.1 rfl (lv_room (Nat.le_of_ble_eq_true rfl)) dX6_periodFrom_10 ⟨Nat.le_of_ble_eq_true rfl, Nat.le_of_ble_eq_true rfl⟩) ((va_up I 5 (nI (jpS S (slI x b) (slI x b) t fr to k).1)), (va_up (va_up (va_up (va_up (va_up (va_up S 17 (rdKN S (slI x b) t fr to (S 17) k)) 18 (rdVN S (slI x b) t fr to (S 18) k)) 20 (rdKN S (slI x b) t fr to (S 20) k)) 21 (rdVN S (slI x b) t fr to (S 21) k)) 23 (jpS S (slI x b) (slI x b) t fr to k).2.1) 24 (jpS S (slI x b) (slI x b) t fr to k).2.2)) hS hP hT hlocks hQ (Nat.le_of_ble_eq_true rfl) (Nat.le_of_ble_eq_true rfl) (fun E h => ⟨Or.inr ⟨h.1, hjc_1, h.2⟩, (scr_S (scr_S (scr_S (scr_S (scr_S (scr_S (scr_I (scr_0 I S) (by decide) _) (by decide) _) (by decide) _) (by decide) _) (by decide) _) (by decide) _) (by decide) _)⟩) (fun q10_2 => ?_)
  have hix := q10_2
  obtain ⟨j, hj, rfl⟩ := ixP_of (n := (jpS S (slI x b) (slI x b) t fr to k).1) (Nat.lt_of_le_of_lt (plS_le _ _ _ _ _ _ _) (by omega)) hix
  refine lv_aload_n hx hb dX6_periodFrom_13 rfl (lv_at hl 0 rfl) ?_
  refine gf_X6_47 hx hb hts hown hK hP 0 rfl (v := .ref (ad 22)) rfl dX6_periodFrom_14 ?_
  refine lv_iload hx hb dX6_periodFrom_17 (lv_at hl 4 rfl) ?_
  refine rI_call (va_runV (As := [.int (nI j)]) (rest := []) ⟨hx, hb, hml, hown, hts⟩ (c_X4_firstDay l D cy ad (va_up I 5 (nI (jpS S (slI x b) (slI x b) t fr to k).1)) (va_up (va_up (va_up (va_up (va_up (va_up S 17 (rdKN S (slI x b) t fr to (S 17) k)) 18 (rdVN S (slI x b) t fr to (S 18) k)) 20 (rdKN S (slI x b) t fr to (S 20) k)) 21 (rdVN S (slI x b) t fr to (S 21) k)) 23 (jpS S (slI x b) (slI x b) t fr to k).2.1) 24 (jpS S (slI x b) (slI x b) t fr to k).2.2) j (jpS S (slI x b) (slI x b) t fr to k).1 rfl (plS_le _ _ _ _ _ _ _) hj) (cw_X6_185 hts rfl rfl ⟨Nat.le_of_ble_eq_true rfl, Nat.le_of_ble_eq_true rfl⟩) (preVR (ci := 4) (q0 := 0) hK (hP.sub [22, 23, 24] rfl) rfl rfl) rfl rfl hl.1 rfl (lv_room (Nat.le_of_ble_eq_true rfl)) dX6_periodFrom_19 ⟨Nat.le_of_ble_eq_true rfl, Nat.le_of_ble_eq_true rfl⟩) (fun r hr_ => ?_)
  subst hr_
  refine top_eq (y := ((jpS S (slI x b) (slI x b) t fr to k).2.1 j)) rfl ?_
  exact yI_ret ((va_up I 5 (nI (jpS S (slI x b) (slI x b) t fr to k).1)), (va_up (va_up (va_up (va_up (va_up (va_up S 17 (rdKN S (slI x b) t fr to (S 17) k)) 18 (rdVN S (slI x b) t fr to (S 18) k)) 20 (rdKN S (slI x b) t fr to (S 20) k)) 21 (rdVN S (slI x b) t fr to (S 21) k)) 23 (jpS S (slI x b) (slI x b) t fr to k).2.1) 24 (jpS S (slI x b) (slI x b) t fr to k).2.2)) hS hP hx hb hr hlocks dX6_periodFrom_22 rfl (Nat.le_of_ble_eq_true rfl) (Nat.le_of_ble_eq_true rfl) hQ ⟨(by rw [nI_clamp (Nat.lt_of_lt_of_le hj (Nat.le_trans (plS_le _ _ _ _ _ _ _) (by omega)))]), hjc_1, hix, (scr_S (scr_S (scr_S (scr_S (scr_S (scr_S (scr_I (scr_0 I S) (by decide) _) (by decide) _) (by decide) _) (by decide) _) (by decide) _) (by decide) _) (by decide) _)⟩

set_option maxHeartbeats 4000000 in
set_option maxRecDepth 100000 in
theorem c_X6_periodTo (l : Launch) (hl0 : l.stackTraces = false) (D : va_G) (cy : Nat → ClassId) (ad : Nat → Nat) (I : AI) (S : AS) (sz : Nat) (x : Int32) (b : Int32) (t : Int32) (ix : Int32) (k : Nat) (n : Nat) (h : Nat) (fr : Nat → Nat) (to : Nat → Nat) (ofr : Nat → Nat) (oto : Nat → Nat) (hc : CIv I S k n h fr to ofr oto) : vx_Met l yX6_periodTo (Cond.code yX6_periodTo cX6_periodTo 5 (some .int) :: wsL_law) ({ frames := 11, cells := 5, slots := 30, locals := 206 }) (va_Pc [.ref (ad 0), .int x, .int b, .int t, .int ix] (wxB D cy (wC cy ad I S) sz)) (va_Qi (S := AI × AS) (fun r u => r = (jpS S (slI x b) (slI x b) t fr to k).2.2 ix.toNatClampNeg ∧ jc I x b x b t ∧ ixP (nI (jpS S (slI x b) (slI x b) t fr to k).1) ix ∧ scr I S u.1 u.2) (fun u t9 => va_P D clW (wC cy ad u.1 u.2) t9.heap) (va_A (wC cy ad I S) sz)) (xW (S := AI × AS) (fun E u => (jx I x b x b t E ∨ (E = eNSE ∧ jc I x b x b t ∧ ¬ ixP (nI (jpS S (slI x b) (slI x b) t fr to k).1) ix)) ∧ scr I S u.1 u.2) (fun u => (wC cy ad u.1 u.2)) D (va_A (wC cy ad I S) sz)) 5 30 (va_A (wC cy ad I S) sz) := by
  refine enterX (cc := cX6_periodTo) (by decide) (Nat.le_of_ble_eq_true rfl) ?_
  intro p e s m below meth c hx hb hr hml hown hts hlocks hT hv Q hQ ls hl
  obtain ⟨hsz, hP, hK, hD0, hE, hZ⟩ := hv
  subst hsz
  have hD := hD0.self (sz := s.heap.size)
  generalize hAe : va_A (wC cy ad I S) s.heap.size = A at hD hQ hZ ⊢
  have hA : ∀ q : Nat, s.heap.size ≤ q → A q := fun q h => by rw [← hAe]; exact Or.inr h
  have hS : va_S A s.heap s.heap [] := va_S.rf
  suffices K_ : ∀ (H : Heap) (locs : List Loc), va_P D clW (wC cy ad I S) H → va_S A s.heap H locs → W p l e ({ frames := 11, cells := 5, slots := 30, locals := 206 }) s m ([.ref (ad 0), .int x, .int b, .int t, .int ix] : List Value).toArray below meth c H locs 0 0 Q (F0 m 0 ls []) from K_ _ _ hP hS
  clear hP hS
  intro H locs hP hS
  have hown : s.vm.findClass RX6 = some m.cls := hown
  have hl : lv_has ls 5 [(0, .ref (ad 0)), (1, .int x), (2, .int b), (3, .int t), (4, .int ix)] := hl
  obtain ⟨hn, hn6, hk, hk3, hh, hhn, hfr, hfo, hch⟩ := id hc
  have hk8 : k ≤ 180 := by omega
  refine lv_aload_n hx hb dX6_periodTo_0 rfl (lv_at hl 0 rfl) ?_
  refine lv_iload_n hx hb dX6_periodTo_1 rfl (lv_at hl 1 rfl) ?_
  refine lv_iload_n hx hb dX6_periodTo_2 rfl (lv_at hl 2 rfl) ?_
  refine lv_iload_n hx hb dX6_periodTo_3 rfl (lv_at hl 3 rfl) ?_
  refine yW_call (vx_runV (As := [.int x, .int b, .int t]) (rest := []) ⟨hx, hb, hml, hown, hts⟩ (c_X6_listPeriods l hl0 D cy ad I S H.size x b t k n h fr to ofr oto hc) (cw_X6_175 hts rfl rfl ⟨Nat.le_of_ble_eq_true rfl, Nat.le_of_ble_eq_true rfl⟩) (preVWX (ci := 6) (q0 := 0) hK hE (hZ.now hS) (frame_in hD hS hA) hP hD rfl rfl) rfl rfl hl.1 rfl (lv_room (Nat.le_of_ble_eq_true rfl)) dX6_periodTo_4 ⟨Nat.le_of_ble_eq_true rfl, Nat.le_of_ble_eq_true rfl⟩) hD hS hA hT hlocks hQ (Nat.le_of_ble_eq_true rfl) (Nat.le_of_ble_eq_true rfl) (fun u => u) (fun _ => rfl) (fun E u h => ⟨Or.inl (h.1), h.2⟩) (fun _ => rfl) (fun u4_1 H locs q4_1 hP hD hS => ?_)
  have hP : va_P D clW (wC cy ad (va_up I 5 (nI (jpS S (slI x b) (slI x b) t fr to k).1)) (va_up (va_up (va_up (va_up (va_up (va_up S 17 (rdKN S (slI x b) t fr to (S 17) k)) 18 (rdVN S (slI x b) t fr to (S 18) k)) 20 (rdKN S (slI x b) t fr to (S 20) k)) 21 (rdVN S (slI x b) t fr to (S 21) k)) 23 (jpS S (slI x b) (slI x b) t fr to k).2.1) 24 (jpS S (slI x b) (slI x b) t fr to k).2.2)) H := hP
  have hD : va_D A (wC cy ad (va_up I 5 (nI (jpS S (slI x b) (slI x b) t fr to k).1)) (va_up (va_up (va_up (va_up (va_up (va_up S 17 (rdKN S (slI x b) t fr to (S 17) k)) 18 (rdVN S (slI x b) t fr to (S 18) k)) 20 (rdKN S (slI x b) t fr to (S 20) k)) 21 (rdVN S (slI x b) t fr to (S 21) k)) 23 (jpS S (slI x b) (slI x b) t fr to k).2.1) 24 (jpS S (slI x b) (slI x b) t fr to k).2.2)) := hD
  have hjc_1 := q4_1
  refine lv_aload_n hx hb dX6_periodTo_7 rfl (lv_at hl 0 rfl) ?_
  refine lv_iload hx hb dX6_periodTo_8 (lv_at hl 4 rfl) ?_
  refine yR_call (vx_runV (As := [.int ix]) (rest := []) ⟨hx, hb, hml, hown, hts⟩ (c_X6_requirePeriod l hl0 D cy ad (va_up I 5 (nI (jpS S (slI x b) (slI x b) t fr to k).1)) (va_up (va_up (va_up (va_up (va_up (va_up S 17 (rdKN S (slI x b) t fr to (S 17) k)) 18 (rdVN S (slI x b) t fr to (S 18) k)) 20 (rdKN S (slI x b) t fr to (S 20) k)) 21 (rdVN S (slI x b) t fr to (S 21) k)) 23 (jpS S (slI x b) (slI x b) t fr to k).2.1) 24 (jpS S (slI x b) (slI x b) t fr to k).2.2) ix) (cw_X6_182 hts rfl rfl ⟨Nat.le_of_ble_eq_true rfl, Nat.le_of_ble_eq_true rfl⟩) (preVRX (ci := 6) (q0 := 0) hK hE (hZ.now hS).no hP rfl rfl) rfl rfl hl.1 rfl (lv_room (Nat.le_of_ble_eq_true rfl)) dX6_periodTo_10 ⟨Nat.le_of_ble_eq_true rfl, Nat.le_of_ble_eq_true rfl⟩) ((va_up I 5 (nI (jpS S (slI x b) (slI x b) t fr to k).1)), (va_up (va_up (va_up (va_up (va_up (va_up S 17 (rdKN S (slI x b) t fr to (S 17) k)) 18 (rdVN S (slI x b) t fr to (S 18) k)) 20 (rdKN S (slI x b) t fr to (S 20) k)) 21 (rdVN S (slI x b) t fr to (S 21) k)) 23 (jpS S (slI x b) (slI x b) t fr to k).2.1) 24 (jpS S (slI x b) (slI x b) t fr to k).2.2)) hS hP hT hlocks hQ (Nat.le_of_ble_eq_true rfl) (Nat.le_of_ble_eq_true rfl) (fun E h => ⟨Or.inr ⟨h.1, hjc_1, h.2⟩, (scr_S (scr_S (scr_S (scr_S (scr_S (scr_S (scr_I (scr_0 I S) (by decide) _) (by decide) _) (by decide) _) (by decide) _) (by decide) _) (by decide) _) (by decide) _)⟩) (fun q10_2 => ?_)
  have hix := q10_2
  obtain ⟨j, hj, rfl⟩ := ixP_of (n := (jpS S (slI x b) (slI x b) t fr to k).1) (Nat.lt_of_le_of_lt (plS_le _ _ _ _ _ _ _) (by omega)) hix
  refine lv_aload_n hx hb dX6_periodTo_13 rfl (lv_at hl 0 rfl) ?_
  refine gf_X6_47 hx hb hts hown hK hP 0 rfl (v := .ref (ad 22)) rfl dX6_periodTo_14 ?_
  refine lv_iload hx hb dX6_periodTo_17 (lv_at hl 4 rfl) ?_
  refine rI_call (va_runV (As := [.int (nI j)]) (rest := []) ⟨hx, hb, hml, hown, hts⟩ (c_X4_dayAfter l D cy ad (va_up I 5 (nI (jpS S (slI x b) (slI x b) t fr to k).1)) (va_up (va_up (va_up (va_up (va_up (va_up S 17 (rdKN S (slI x b) t fr to (S 17) k)) 18 (rdVN S (slI x b) t fr to (S 18) k)) 20 (rdKN S (slI x b) t fr to (S 20) k)) 21 (rdVN S (slI x b) t fr to (S 21) k)) 23 (jpS S (slI x b) (slI x b) t fr to k).2.1) 24 (jpS S (slI x b) (slI x b) t fr to k).2.2) j (jpS S (slI x b) (slI x b) t fr to k).1 rfl (plS_le _ _ _ _ _ _ _) hj) (cw_X6_186 hts rfl rfl ⟨Nat.le_of_ble_eq_true rfl, Nat.le_of_ble_eq_true rfl⟩) (preVR (ci := 4) (q0 := 0) hK (hP.sub [22, 23, 24] rfl) rfl rfl) rfl rfl hl.1 rfl (lv_room (Nat.le_of_ble_eq_true rfl)) dX6_periodTo_19 ⟨Nat.le_of_ble_eq_true rfl, Nat.le_of_ble_eq_true rfl⟩) (fun r hr_ => ?_)
  subst hr_
  refine top_eq (y := ((jpS S (slI x b) (slI x b) t fr to k).2.2 j)) rfl ?_
  exact yI_ret ((va_up I 5 (nI (jpS S (slI x b) (slI x b) t fr to k).1)), (va_up (va_up (va_up (va_up (va_up (va_up S 17 (rdKN S (slI x b) t fr to (S 17) k)) 18 (rdVN S (slI x b) t fr to (S 18) k)) 20 (rdKN S (slI x b) t fr to (S 20) k)) 21 (rdVN S (slI x b) t fr to (S 21) k)) 23 (jpS S (slI x b) (slI x b) t fr to k).2.1) 24 (jpS S (slI x b) (slI x b) t fr to k).2.2)) hS hP hx hb hr hlocks dX6_periodTo_22 rfl (Nat.le_of_ble_eq_true rfl) (Nat.le_of_ble_eq_true rfl) hQ ⟨(by rw [nI_clamp (Nat.lt_of_lt_of_le hj (Nat.le_trans (plS_le _ _ _ _ _ _ _) (by omega)))]), hjc_1, hix, (scr_S (scr_S (scr_S (scr_S (scr_S (scr_S (scr_I (scr_0 I S) (by decide) _) (by decide) _) (by decide) _) (by decide) _) (by decide) _) (by decide) _) (by decide) _)⟩

set_option maxHeartbeats 4000000 in
set_option maxRecDepth 100000 in
theorem c_X6_periodValue (l : Launch) (hl0 : l.stackTraces = false) (D : va_G) (cy : Nat → ClassId) (ad : Nat → Nat) (I : AI) (S : AS) (sz : Nat) (x : Int32) (b : Int32) (t : Int32) (ix : Int32) (k : Nat) (n : Nat) (h : Nat) (fr : Nat → Nat) (to : Nat → Nat) (ofr : Nat → Nat) (oto : Nat → Nat) (hc : CIv I S k n h fr to ofr oto) : vx_Met l yX6_periodValue (Cond.code yX6_periodValue cX6_periodValue 5 (some .int) :: wsL_law) ({ frames := 11, cells := 5, slots := 30, locals := 206 }) (va_Pc [.ref (ad 0), .int x, .int b, .int t, .int ix] (wxB D cy (wC cy ad I S) sz)) (va_Qi (S := AI × AS) (fun r u => r = vlI (rdKN S (slI x b) t fr to (S 17) k) (rdVN S (slI x b) t fr to (S 18) k) ((jpS S (slI x b) (slI x b) t fr to k).2.1 ix.toNatClampNeg) ∧ jc I x b x b t ∧ ixP (nI (jpS S (slI x b) (slI x b) t fr to k).1) ix ∧ scr I S u.1 u.2) (fun u t9 => va_P D clW (wC cy ad u.1 u.2) t9.heap) (va_A (wC cy ad I S) sz)) (xW (S := AI × AS) (fun E u => (jx I x b x b t E ∨ (E = eNSE ∧ jc I x b x b t ∧ ¬ ixP (nI (jpS S (slI x b) (slI x b) t fr to k).1) ix)) ∧ scr I S u.1 u.2) (fun u => (wC cy ad u.1 u.2)) D (va_A (wC cy ad I S) sz)) 5 30 (va_A (wC cy ad I S) sz) := by
  refine enterX (cc := cX6_periodValue) (by decide) (Nat.le_of_ble_eq_true rfl) ?_
  intro p e s m below meth c hx hb hr hml hown hts hlocks hT hv Q hQ ls hl
  obtain ⟨hsz, hP, hK, hD0, hE, hZ⟩ := hv
  subst hsz
  have hD := hD0.self (sz := s.heap.size)
  generalize hAe : va_A (wC cy ad I S) s.heap.size = A at hD hQ hZ ⊢
  have hA : ∀ q : Nat, s.heap.size ≤ q → A q := fun q h => by rw [← hAe]; exact Or.inr h
  have hS : va_S A s.heap s.heap [] := va_S.rf
  suffices K_ : ∀ (H : Heap) (locs : List Loc), va_P D clW (wC cy ad I S) H → va_S A s.heap H locs → W p l e ({ frames := 11, cells := 5, slots := 30, locals := 206 }) s m ([.ref (ad 0), .int x, .int b, .int t, .int ix] : List Value).toArray below meth c H locs 0 0 Q (F0 m 0 ls []) from K_ _ _ hP hS
  clear hP hS
  intro H locs hP hS
  have hown : s.vm.findClass RX6 = some m.cls := hown
  have hl : lv_has ls 5 [(0, .ref (ad 0)), (1, .int x), (2, .int b), (3, .int t), (4, .int ix)] := hl
  obtain ⟨hn, hn6, hk, hk3, hh, hhn, hfr, hfo, hch⟩ := id hc
  have hk8 : k ≤ 180 := by omega
  refine lv_aload_n hx hb dX6_periodValue_0 rfl (lv_at hl 0 rfl) ?_
  refine lv_iload_n hx hb dX6_periodValue_1 rfl (lv_at hl 1 rfl) ?_
  refine lv_iload_n hx hb dX6_periodValue_2 rfl (lv_at hl 2 rfl) ?_
  refine lv_iload_n hx hb dX6_periodValue_3 rfl (lv_at hl 3 rfl) ?_
  refine yW_call (vx_runV (As := [.int x, .int b, .int t]) (rest := []) ⟨hx, hb, hml, hown, hts⟩ (c_X6_listPeriods l hl0 D cy ad I S H.size x b t k n h fr to ofr oto hc) (cw_X6_175 hts rfl rfl ⟨Nat.le_of_ble_eq_true rfl, Nat.le_of_ble_eq_true rfl⟩) (preVWX (ci := 6) (q0 := 0) hK hE (hZ.now hS) (frame_in hD hS hA) hP hD rfl rfl) rfl rfl hl.1 rfl (lv_room (Nat.le_of_ble_eq_true rfl)) dX6_periodValue_4 ⟨Nat.le_of_ble_eq_true rfl, Nat.le_of_ble_eq_true rfl⟩) hD hS hA hT hlocks hQ (Nat.le_of_ble_eq_true rfl) (Nat.le_of_ble_eq_true rfl) (fun u => u) (fun _ => rfl) (fun E u h => ⟨Or.inl (h.1), h.2⟩) (fun _ => rfl) (fun u4_1 H locs q4_1 hP hD hS => ?_)
  have hP : va_P D clW (wC cy ad (va_up I 5 (nI (jpS S (slI x b) (slI x b) t fr to k).1)) (va_up (va_up (va_up (va_up (va_up (va_up S 17 (rdKN S (slI x b) t fr to (S 17) k)) 18 (rdVN S (slI x b) t fr to (S 18) k)) 20 (rdKN S (slI x b) t fr to (S 20) k)) 21 (rdVN S (slI x b) t fr to (S 21) k)) 23 (jpS S (slI x b) (slI x b) t fr to k).2.1) 24 (jpS S (slI x b) (slI x b) t fr to k).2.2)) H := hP
  have hD : va_D A (wC cy ad (va_up I 5 (nI (jpS S (slI x b) (slI x b) t fr to k).1)) (va_up (va_up (va_up (va_up (va_up (va_up S 17 (rdKN S (slI x b) t fr to (S 17) k)) 18 (rdVN S (slI x b) t fr to (S 18) k)) 20 (rdKN S (slI x b) t fr to (S 20) k)) 21 (rdVN S (slI x b) t fr to (S 21) k)) 23 (jpS S (slI x b) (slI x b) t fr to k).2.1) 24 (jpS S (slI x b) (slI x b) t fr to k).2.2)) := hD
  have hjc_1 := q4_1
  refine lv_aload_n hx hb dX6_periodValue_7 rfl (lv_at hl 0 rfl) ?_
  refine lv_iload hx hb dX6_periodValue_8 (lv_at hl 4 rfl) ?_
  refine yR_call (vx_runV (As := [.int ix]) (rest := []) ⟨hx, hb, hml, hown, hts⟩ (c_X6_requirePeriod l hl0 D cy ad (va_up I 5 (nI (jpS S (slI x b) (slI x b) t fr to k).1)) (va_up (va_up (va_up (va_up (va_up (va_up S 17 (rdKN S (slI x b) t fr to (S 17) k)) 18 (rdVN S (slI x b) t fr to (S 18) k)) 20 (rdKN S (slI x b) t fr to (S 20) k)) 21 (rdVN S (slI x b) t fr to (S 21) k)) 23 (jpS S (slI x b) (slI x b) t fr to k).2.1) 24 (jpS S (slI x b) (slI x b) t fr to k).2.2) ix) (cw_X6_182 hts rfl rfl ⟨Nat.le_of_ble_eq_true rfl, Nat.le_of_ble_eq_true rfl⟩) (preVRX (ci := 6) (q0 := 0) hK hE (hZ.now hS).no hP rfl rfl) rfl rfl hl.1 rfl (lv_room (Nat.le_of_ble_eq_true rfl)) dX6_periodValue_10 ⟨Nat.le_of_ble_eq_true rfl, Nat.le_of_ble_eq_true rfl⟩) ((va_up I 5 (nI (jpS S (slI x b) (slI x b) t fr to k).1)), (va_up (va_up (va_up (va_up (va_up (va_up S 17 (rdKN S (slI x b) t fr to (S 17) k)) 18 (rdVN S (slI x b) t fr to (S 18) k)) 20 (rdKN S (slI x b) t fr to (S 20) k)) 21 (rdVN S (slI x b) t fr to (S 21) k)) 23 (jpS S (slI x b) (slI x b) t fr to k).2.1) 24 (jpS S (slI x b) (slI x b) t fr to k).2.2)) hS hP hT hlocks hQ (Nat.le_of_ble_eq_true rfl) (Nat.le_of_ble_eq_true rfl) (fun E h => ⟨Or.inr ⟨h.1, hjc_1, h.2⟩, (scr_S (scr_S (scr_S (scr_S (scr_S (scr_S (scr_I (scr_0 I S) (by decide) _) (by decide) _) (by decide) _) (by decide) _) (by decide) _) (by decide) _) (by decide) _)⟩) (fun q10_2 => ?_)
  have hix := q10_2
  obtain ⟨j, hj, rfl⟩ := ixP_of (n := (jpS S (slI x b) (slI x b) t fr to k).1) (Nat.lt_of_le_of_lt (plS_le _ _ _ _ _ _ _) (by omega)) hix
  refine lv_aload_n hx hb dX6_periodValue_13 rfl (lv_at hl 0 rfl) ?_
  refine gf_X6_37 hx hb hts hown hK hP 0 rfl (v := .ref (ad 16)) rfl dX6_periodValue_14 ?_
  refine lv_aload_n hx hb dX6_periodValue_17 rfl (lv_at hl 0 rfl) ?_
  refine gf_X6_47 hx hb hts hown hK hP 0 rfl (v := .ref (ad 22)) rfl dX6_periodValue_18 ?_
  refine lv_iload hx hb dX6_periodValue_21 (lv_at hl 4 rfl) ?_
  refine rI_call (va_runV (As := [.int (nI j)]) (rest := [.ref (ad 16)]) ⟨hx, hb, hml, hown, hts⟩ (c_X4_firstDay l D cy ad (va_up I 5 (nI (jpS S (slI x b) (slI x b) t fr to k).1)) (va_up (va_up (va_up (va_up (va_up (va_up S 17 (rdKN S (slI x b) t fr to (S 17) k)) 18 (rdVN S (slI x b) t fr to (S 18) k)) 20 (rdKN S (slI x b) t fr to (S 20) k)) 21 (rdVN S (slI x b) t fr to (S 21) k)) 23 (jpS S (slI x b) (slI x b) t fr to k).2.1) 24 (jpS S (slI x b) (slI x b) t fr to k).2.2) j (jpS S (slI x b) (slI x b) t fr to k).1 rfl (plS_le _ _ _ _ _ _ _) hj) (cw_X6_185 hts rfl rfl ⟨Nat.le_of_ble_eq_true rfl, Nat.le_of_ble_eq_true rfl⟩) (preVR (ci := 4) (q0 := 0) hK (hP.sub [22, 23, 24] rfl) rfl rfl) rfl rfl hl.1 rfl (lv_room (Nat.le_of_ble_eq_true rfl)) dX6_periodValue_23 ⟨Nat.le_of_ble_eq_true rfl, Nat.le_of_ble_eq_true rfl⟩) (fun r hr_ => ?_)
  subst hr_
  refine top_eq (y := ((jpS S (slI x b) (slI x b) t fr to k).2.1 j)) rfl ?_
  refine rI_call (va_runV (As := [.int ((jpS S (slI x b) (slI x b) t fr to k).2.1 j)]) (rest := []) ⟨hx, hb, hml, hown, hts⟩ (c_X1_value_16 l D cy ad (va_up (va_up (va_up (va_up (va_up (va_up S 17 (rdKN S (slI x b) t fr to (S 17) k)) 18 (rdVN S (slI x b) t fr to (S 18) k)) 20 (rdKN S (slI x b) t fr to (S 20) k)) 21 (rdVN S (slI x b) t fr to (S 21) k)) 23 (jpS S (slI x b) (slI x b) t fr to k).2.1) 24 (jpS S (slI x b) (slI x b) t fr to k).2.2) ((jpS S (slI x b) (slI x b) t fr to k).2.1 j)) (cw_X6_171 hts rfl rfl ⟨Nat.le_of_ble_eq_true rfl, Nat.le_of_ble_eq_true rfl⟩) (preVR (ci := 1) (q0 := 0) hK (hP.sub [16, 17, 18] rfl) rfl rfl) rfl rfl hl.1 rfl (lv_room (Nat.le_of_ble_eq_true rfl)) dX6_periodValue_26 ⟨Nat.le_of_ble_eq_true rfl, Nat.le_of_ble_eq_true rfl⟩) (fun r hr_ => ?_)
  subst hr_
  refine top_eq (y := (vlI ((rdKN S (slI x b) t fr to (S 17) k)) ((rdVN S (slI x b) t fr to (S 18) k)) ((jpS S (slI x b) (slI x b) t fr to k).2.1 j))) rfl ?_
  exact yI_ret ((va_up I 5 (nI (jpS S (slI x b) (slI x b) t fr to k).1)), (va_up (va_up (va_up (va_up (va_up (va_up S 17 (rdKN S (slI x b) t fr to (S 17) k)) 18 (rdVN S (slI x b) t fr to (S 18) k)) 20 (rdKN S (slI x b) t fr to (S 20) k)) 21 (rdVN S (slI x b) t fr to (S 21) k)) 23 (jpS S (slI x b) (slI x b) t fr to k).2.1) 24 (jpS S (slI x b) (slI x b) t fr to k).2.2)) hS hP hx hb hr hlocks dX6_periodValue_29 rfl (Nat.le_of_ble_eq_true rfl) (Nat.le_of_ble_eq_true rfl) hQ ⟨(by rw [nI_clamp (Nat.lt_of_lt_of_le hj (Nat.le_trans (plS_le _ _ _ _ _ _ _) (by omega)))]), hjc_1, hix, (scr_S (scr_S (scr_S (scr_S (scr_S (scr_S (scr_I (scr_0 I S) (by decide) _) (by decide) _) (by decide) _) (by decide) _) (by decide) _) (by decide) _) (by decide) _)⟩

set_option maxHeartbeats 4000000 in
set_option maxRecDepth 100000 in
theorem c_X6_joinCount (l : Launch) (hl0 : l.stackTraces = false) (D : va_G) (cy : Nat → ClassId) (ad : Nat → Nat) (I : AI) (S : AS) (sz : Nat) (x : Int32) (b : Int32) (x2 : Int32) (b2 : Int32) (t : Int32) (k : Nat) (n : Nat) (h : Nat) (fr : Nat → Nat) (to : Nat → Nat) (ofr : Nat → Nat) (oto : Nat → Nat) (hc : CIv I S k n h fr to ofr oto) : vx_Met l yX6_joinCount (Cond.code yX6_joinCount cX6_joinCount 6 (some .int) :: wsL_law) ({ frames := 10, cells := 4, slots := 24, locals := 183 }) (va_Pc [.ref (ad 0), .int x, .int b, .int x2, .int b2, .int t] (wxB D cy (wC cy ad I S) sz)) (va_Qi (S := AI × AS) (fun r u => r = nI (jpS S (slI x b) (slI x2 b2) t fr to k).1 ∧ jc I x b x2 b2 t ∧ scr I S u.1 u.2) (fun u t9 => va_P D clW (wC cy ad u.1 u.2) t9.heap) (va_A (wC cy ad I S) sz)) (xW (S := AI × AS) (fun E u => (jx I x b x2 b2 t E) ∧ scr I S u.1 u.2) (fun u => (wC cy ad u.1 u.2)) D (va_A (wC cy ad I S) sz)) 4 24 (va_A (wC cy ad I S) sz) := by
  refine enterX (cc := cX6_joinCount) (by decide) (Nat.le_of_ble_eq_true rfl) ?_
  intro p e s m below meth c hx hb hr hml hown hts hlocks hT hv Q hQ ls hl
  obtain ⟨hsz, hP, hK, hD0, hE, hZ⟩ := hv
  subst hsz
  have hD := hD0.self (sz := s.heap.size)
  generalize hAe : va_A (wC cy ad I S) s.heap.size = A at hD hQ hZ ⊢
  have hA : ∀ q : Nat, s.heap.size ≤ q → A q := fun q h => by rw [← hAe]; exact Or.inr h
  have hS : va_S A s.heap s.heap [] := va_S.rf
  suffices K_ : ∀ (H : Heap) (locs : List Loc), va_P D clW (wC cy ad I S) H → va_S A s.heap H locs → W p l e ({ frames := 10, cells := 4, slots := 24, locals := 183 }) s m ([.ref (ad 0), .int x, .int b, .int x2, .int b2, .int t] : List Value).toArray below meth c H locs 0 0 Q (F0 m 0 ls []) from K_ _ _ hP hS
  clear hP hS
  intro H locs hP hS
  have hown : s.vm.findClass RX6 = some m.cls := hown
  have hl : lv_has ls 6 [(0, .ref (ad 0)), (1, .int x), (2, .int b), (3, .int x2), (4, .int b2), (5, .int t)] := hl
  obtain ⟨hn, hn6, hk, hk3, hh, hhn, hfr, hfo, hch⟩ := id hc
  have hk8 : k ≤ 180 := by omega
  refine lv_aload_n hx hb dX6_joinCount_0 rfl (lv_at hl 0 rfl) ?_
  refine lv_iload_n hx hb dX6_joinCount_1 rfl (lv_at hl 1 rfl) ?_
  refine lv_iload_n hx hb dX6_joinCount_2 rfl (lv_at hl 2 rfl) ?_
  refine lv_iload_n hx hb dX6_joinCount_3 rfl (lv_at hl 3 rfl) ?_
  refine lv_iload hx hb dX6_joinCount_4 (lv_at hl 4 rfl) ?_
  refine lv_iload hx hb dX6_joinCount_6 (lv_at hl 5 rfl) ?_
  refine yW_call (vx_runV (As := [.int x, .int b, .int x2, .int b2, .int t]) (rest := []) ⟨hx, hb, hml, hown, hts⟩ (c_X6_listJointPeriods l hl0 D cy ad I S H.size x b x2 b2 t k n h fr to ofr oto hc) (cw_X6_220 hts rfl rfl ⟨Nat.le_of_ble_eq_true rfl, Nat.le_of_ble_eq_true rfl⟩) (preVWX (ci := 6) (q0 := 0) hK hE (hZ.now hS) (frame_in hD hS hA) hP hD rfl rfl) rfl rfl hl.1 rfl (lv_room (Nat.le_of_ble_eq_true rfl)) dX6_joinCount_8 ⟨Nat.le_of_ble_eq_true rfl, Nat.le_of_ble_eq_true rfl⟩) hD hS hA hT hlocks hQ (Nat.le_of_ble_eq_true rfl) (Nat.le_of_ble_eq_true rfl) (fun u => u) (fun _ => rfl) (fun E u h => h) (fun _ => rfl) (fun u8_1 H locs q8_1 hP hD hS => ?_)
  have hP : va_P D clW (wC cy ad (va_up I 5 (nI (jpS S (slI x b) (slI x2 b2) t fr to k).1)) (va_up (va_up (va_up (va_up (va_up (va_up S 17 (rdKN S (slI x b) t fr to (S 17) k)) 18 (rdVN S (slI x b) t fr to (S 18) k)) 20 (rdKN S (slI x2 b2) t fr to (S 20) k)) 21 (rdVN S (slI x2 b2) t fr to (S 21) k)) 23 (jpS S (slI x b) (slI x2 b2) t fr to k).2.1) 24 (jpS S (slI x b) (slI x2 b2) t fr to k).2.2)) H := hP
  have hD : va_D A (wC cy ad (va_up I 5 (nI (jpS S (slI x b) (slI x2 b2) t fr to k).1)) (va_up (va_up (va_up (va_up (va_up (va_up S 17 (rdKN S (slI x b) t fr to (S 17) k)) 18 (rdVN S (slI x b) t fr to (S 18) k)) 20 (rdKN S (slI x2 b2) t fr to (S 20) k)) 21 (rdVN S (slI x2 b2) t fr to (S 21) k)) 23 (jpS S (slI x b) (slI x2 b2) t fr to k).2.1) 24 (jpS S (slI x b) (slI x2 b2) t fr to k).2.2)) := hD
  have hjc_1 := q8_1
  refine lv_aload_n hx hb dX6_joinCount_11 rfl (lv_at hl 0 rfl) ?_
  refine gf_X6_47 hx hb hts hown hK hP 0 rfl (v := .ref (ad 22)) rfl dX6_joinCount_12 ?_
  refine rI_call (va_runV (As := []) (rest := []) ⟨hx, hb, hml, hown, hts⟩ (c_X4_size l D cy ad (va_up I 5 (nI (jpS S (slI x b) (slI x2 b2) t fr to k).1)) (va_up (va_up (va_up (va_up (va_up (va_up S 17 (rdKN S (slI x b) t fr to (S 17) k)) 18 (rdVN S (slI x b) t fr to (S 18) k)) 20 (rdKN S (slI x2 b2) t fr to (S 20) k)) 21 (rdVN S (slI x2 b2) t fr to (S 21) k)) 23 (jpS S (slI x b) (slI x2 b2) t fr to k).2.1) 24 (jpS S (slI x b) (slI x2 b2) t fr to k).2.2)) (cw_X6_179 hts rfl rfl ⟨Nat.le_of_ble_eq_true rfl, Nat.le_of_ble_eq_true rfl⟩) (preVR (ci := 4) (q0 := 0) hK (hP.sub [22, 23, 24] rfl) rfl rfl) rfl rfl hl.1 rfl (lv_room (Nat.le_of_ble_eq_true rfl)) dX6_joinCount_15 ⟨Nat.le_of_ble_eq_true rfl, Nat.le_of_ble_eq_true rfl⟩) (fun r hr_ => ?_)
  subst hr_
  refine top_eq (y := (nI (jpS S (slI x b) (slI x2 b2) t fr to k).1)) rfl ?_
  exact yI_ret ((va_up I 5 (nI (jpS S (slI x b) (slI x2 b2) t fr to k).1)), (va_up (va_up (va_up (va_up (va_up (va_up S 17 (rdKN S (slI x b) t fr to (S 17) k)) 18 (rdVN S (slI x b) t fr to (S 18) k)) 20 (rdKN S (slI x2 b2) t fr to (S 20) k)) 21 (rdVN S (slI x2 b2) t fr to (S 21) k)) 23 (jpS S (slI x b) (slI x2 b2) t fr to k).2.1) 24 (jpS S (slI x b) (slI x2 b2) t fr to k).2.2)) hS hP hx hb hr hlocks dX6_joinCount_18 rfl (Nat.le_of_ble_eq_true rfl) (Nat.le_of_ble_eq_true rfl) hQ ⟨rfl, hjc_1, (scr_S (scr_S (scr_S (scr_S (scr_S (scr_S (scr_I (scr_0 I S) (by decide) _) (by decide) _) (by decide) _) (by decide) _) (by decide) _) (by decide) _) (by decide) _)⟩

set_option maxHeartbeats 4000000 in
set_option maxRecDepth 100000 in
theorem c_X6_joinFrom (l : Launch) (hl0 : l.stackTraces = false) (D : va_G) (cy : Nat → ClassId) (ad : Nat → Nat) (I : AI) (S : AS) (sz : Nat) (x : Int32) (b : Int32) (x2 : Int32) (b2 : Int32) (t : Int32) (ix : Int32) (k : Nat) (n : Nat) (h : Nat) (fr : Nat → Nat) (to : Nat → Nat) (ofr : Nat → Nat) (oto : Nat → Nat) (hc : CIv I S k n h fr to ofr oto) : vx_Met l yX6_joinFrom (Cond.code yX6_joinFrom cX6_joinFrom 7 (some .int) :: wsL_law) ({ frames := 10, cells := 5, slots := 30, locals := 183 }) (va_Pc [.ref (ad 0), .int x, .int b, .int x2, .int b2, .int t, .int ix] (wxB D cy (wC cy ad I S) sz)) (va_Qi (S := AI × AS) (fun r u => r = (jpS S (slI x b) (slI x2 b2) t fr to k).2.1 ix.toNatClampNeg ∧ jc I x b x2 b2 t ∧ ixP (nI (jpS S (slI x b) (slI x2 b2) t fr to k).1) ix ∧ scr I S u.1 u.2) (fun u t9 => va_P D clW (wC cy ad u.1 u.2) t9.heap) (va_A (wC cy ad I S) sz)) (xW (S := AI × AS) (fun E u => (jx I x b x2 b2 t E ∨ (E = eNSE ∧ jc I x b x2 b2 t ∧ ¬ ixP (nI (jpS S (slI x b) (slI x2 b2) t fr to k).1) ix)) ∧ scr I S u.1 u.2) (fun u => (wC cy ad u.1 u.2)) D (va_A (wC cy ad I S) sz)) 5 30 (va_A (wC cy ad I S) sz) := by
  refine enterX (cc := cX6_joinFrom) (by decide) (Nat.le_of_ble_eq_true rfl) ?_
  intro p e s m below meth c hx hb hr hml hown hts hlocks hT hv Q hQ ls hl
  obtain ⟨hsz, hP, hK, hD0, hE, hZ⟩ := hv
  subst hsz
  have hD := hD0.self (sz := s.heap.size)
  generalize hAe : va_A (wC cy ad I S) s.heap.size = A at hD hQ hZ ⊢
  have hA : ∀ q : Nat, s.heap.size ≤ q → A q := fun q h => by rw [← hAe]; exact Or.inr h
  have hS : va_S A s.heap s.heap [] := va_S.rf
  suffices K_ : ∀ (H : Heap) (locs : List Loc), va_P D clW (wC cy ad I S) H → va_S A s.heap H locs → W p l e ({ frames := 10, cells := 5, slots := 30, locals := 183 }) s m ([.ref (ad 0), .int x, .int b, .int x2, .int b2, .int t, .int ix] : List Value).toArray below meth c H locs 0 0 Q (F0 m 0 ls []) from K_ _ _ hP hS
  clear hP hS
  intro H locs hP hS
  have hown : s.vm.findClass RX6 = some m.cls := hown
  have hl : lv_has ls 7 [(0, .ref (ad 0)), (1, .int x), (2, .int b), (3, .int x2), (4, .int b2), (5, .int t), (6, .int ix)] := hl
  obtain ⟨hn, hn6, hk, hk3, hh, hhn, hfr, hfo, hch⟩ := id hc
  have hk8 : k ≤ 180 := by omega
  refine lv_aload_n hx hb dX6_joinFrom_0 rfl (lv_at hl 0 rfl) ?_
  refine lv_iload_n hx hb dX6_joinFrom_1 rfl (lv_at hl 1 rfl) ?_
  refine lv_iload_n hx hb dX6_joinFrom_2 rfl (lv_at hl 2 rfl) ?_
  refine lv_iload_n hx hb dX6_joinFrom_3 rfl (lv_at hl 3 rfl) ?_
  refine lv_iload hx hb dX6_joinFrom_4 (lv_at hl 4 rfl) ?_
  refine lv_iload hx hb dX6_joinFrom_6 (lv_at hl 5 rfl) ?_
  refine yW_call (vx_runV (As := [.int x, .int b, .int x2, .int b2, .int t]) (rest := []) ⟨hx, hb, hml, hown, hts⟩ (c_X6_listJointPeriods l hl0 D cy ad I S H.size x b x2 b2 t k n h fr to ofr oto hc) (cw_X6_220 hts rfl rfl ⟨Nat.le_of_ble_eq_true rfl, Nat.le_of_ble_eq_true rfl⟩) (preVWX (ci := 6) (q0 := 0) hK hE (hZ.now hS) (frame_in hD hS hA) hP hD rfl rfl) rfl rfl hl.1 rfl (lv_room (Nat.le_of_ble_eq_true rfl)) dX6_joinFrom_8 ⟨Nat.le_of_ble_eq_true rfl, Nat.le_of_ble_eq_true rfl⟩) hD hS hA hT hlocks hQ (Nat.le_of_ble_eq_true rfl) (Nat.le_of_ble_eq_true rfl) (fun u => u) (fun _ => rfl) (fun E u h => ⟨Or.inl (h.1), h.2⟩) (fun _ => rfl) (fun u8_1 H locs q8_1 hP hD hS => ?_)
  have hP : va_P D clW (wC cy ad (va_up I 5 (nI (jpS S (slI x b) (slI x2 b2) t fr to k).1)) (va_up (va_up (va_up (va_up (va_up (va_up S 17 (rdKN S (slI x b) t fr to (S 17) k)) 18 (rdVN S (slI x b) t fr to (S 18) k)) 20 (rdKN S (slI x2 b2) t fr to (S 20) k)) 21 (rdVN S (slI x2 b2) t fr to (S 21) k)) 23 (jpS S (slI x b) (slI x2 b2) t fr to k).2.1) 24 (jpS S (slI x b) (slI x2 b2) t fr to k).2.2)) H := hP
  have hD : va_D A (wC cy ad (va_up I 5 (nI (jpS S (slI x b) (slI x2 b2) t fr to k).1)) (va_up (va_up (va_up (va_up (va_up (va_up S 17 (rdKN S (slI x b) t fr to (S 17) k)) 18 (rdVN S (slI x b) t fr to (S 18) k)) 20 (rdKN S (slI x2 b2) t fr to (S 20) k)) 21 (rdVN S (slI x2 b2) t fr to (S 21) k)) 23 (jpS S (slI x b) (slI x2 b2) t fr to k).2.1) 24 (jpS S (slI x b) (slI x2 b2) t fr to k).2.2)) := hD
  have hjc_1 := q8_1
  refine lv_aload_n hx hb dX6_joinFrom_11 rfl (lv_at hl 0 rfl) ?_
  refine lv_iload hx hb dX6_joinFrom_12 (lv_at hl 6 rfl) ?_
  refine yR_call (vx_runV (As := [.int ix]) (rest := []) ⟨hx, hb, hml, hown, hts⟩ (c_X6_requirePeriod l hl0 D cy ad (va_up I 5 (nI (jpS S (slI x b) (slI x2 b2) t fr to k).1)) (va_up (va_up (va_up (va_up (va_up (va_up S 17 (rdKN S (slI x b) t fr to (S 17) k)) 18 (rdVN S (slI x b) t fr to (S 18) k)) 20 (rdKN S (slI x2 b2) t fr to (S 20) k)) 21 (rdVN S (slI x2 b2) t fr to (S 21) k)) 23 (jpS S (slI x b) (slI x2 b2) t fr to k).2.1) 24 (jpS S (slI x b) (slI x2 b2) t fr to k).2.2) ix) (cw_X6_182 hts rfl rfl ⟨Nat.le_of_ble_eq_true rfl, Nat.le_of_ble_eq_true rfl⟩) (preVRX (ci := 6) (q0 := 0) hK hE (hZ.now hS).no hP rfl rfl) rfl rfl hl.1 rfl (lv_room (Nat.le_of_ble_eq_true rfl)) dX6_joinFrom_14 ⟨Nat.le_of_ble_eq_true rfl, Nat.le_of_ble_eq_true rfl⟩) ((va_up I 5 (nI (jpS S (slI x b) (slI x2 b2) t fr to k).1)), (va_up (va_up (va_up (va_up (va_up (va_up S 17 (rdKN S (slI x b) t fr to (S 17) k)) 18 (rdVN S (slI x b) t fr to (S 18) k)) 20 (rdKN S (slI x2 b2) t fr to (S 20) k)) 21 (rdVN S (slI x2 b2) t fr to (S 21) k)) 23 (jpS S (slI x b) (slI x2 b2) t fr to k).2.1) 24 (jpS S (slI x b) (slI x2 b2) t fr to k).2.2)) hS hP hT hlocks hQ (Nat.le_of_ble_eq_true rfl) (Nat.le_of_ble_eq_true rfl) (fun E h => ⟨Or.inr ⟨h.1, hjc_1, h.2⟩, (scr_S (scr_S (scr_S (scr_S (scr_S (scr_S (scr_I (scr_0 I S) (by decide) _) (by decide) _) (by decide) _) (by decide) _) (by decide) _) (by decide) _) (by decide) _)⟩) (fun q14_2 => ?_)
  have hix := q14_2
  obtain ⟨j, hj, rfl⟩ := ixP_of (n := (jpS S (slI x b) (slI x2 b2) t fr to k).1) (Nat.lt_of_le_of_lt (plS_le _ _ _ _ _ _ _) (by omega)) hix
  refine lv_aload_n hx hb dX6_joinFrom_17 rfl (lv_at hl 0 rfl) ?_
  refine gf_X6_47 hx hb hts hown hK hP 0 rfl (v := .ref (ad 22)) rfl dX6_joinFrom_18 ?_
  refine lv_iload hx hb dX6_joinFrom_21 (lv_at hl 6 rfl) ?_
  refine rI_call (va_runV (As := [.int (nI j)]) (rest := []) ⟨hx, hb, hml, hown, hts⟩ (c_X4_firstDay l D cy ad (va_up I 5 (nI (jpS S (slI x b) (slI x2 b2) t fr to k).1)) (va_up (va_up (va_up (va_up (va_up (va_up S 17 (rdKN S (slI x b) t fr to (S 17) k)) 18 (rdVN S (slI x b) t fr to (S 18) k)) 20 (rdKN S (slI x2 b2) t fr to (S 20) k)) 21 (rdVN S (slI x2 b2) t fr to (S 21) k)) 23 (jpS S (slI x b) (slI x2 b2) t fr to k).2.1) 24 (jpS S (slI x b) (slI x2 b2) t fr to k).2.2) j (jpS S (slI x b) (slI x2 b2) t fr to k).1 rfl (plS_le _ _ _ _ _ _ _) hj) (cw_X6_185 hts rfl rfl ⟨Nat.le_of_ble_eq_true rfl, Nat.le_of_ble_eq_true rfl⟩) (preVR (ci := 4) (q0 := 0) hK (hP.sub [22, 23, 24] rfl) rfl rfl) rfl rfl hl.1 rfl (lv_room (Nat.le_of_ble_eq_true rfl)) dX6_joinFrom_23 ⟨Nat.le_of_ble_eq_true rfl, Nat.le_of_ble_eq_true rfl⟩) (fun r hr_ => ?_)
  subst hr_
  refine top_eq (y := ((jpS S (slI x b) (slI x2 b2) t fr to k).2.1 j)) rfl ?_
  exact yI_ret ((va_up I 5 (nI (jpS S (slI x b) (slI x2 b2) t fr to k).1)), (va_up (va_up (va_up (va_up (va_up (va_up S 17 (rdKN S (slI x b) t fr to (S 17) k)) 18 (rdVN S (slI x b) t fr to (S 18) k)) 20 (rdKN S (slI x2 b2) t fr to (S 20) k)) 21 (rdVN S (slI x2 b2) t fr to (S 21) k)) 23 (jpS S (slI x b) (slI x2 b2) t fr to k).2.1) 24 (jpS S (slI x b) (slI x2 b2) t fr to k).2.2)) hS hP hx hb hr hlocks dX6_joinFrom_26 rfl (Nat.le_of_ble_eq_true rfl) (Nat.le_of_ble_eq_true rfl) hQ ⟨(by rw [nI_clamp (Nat.lt_of_lt_of_le hj (Nat.le_trans (plS_le _ _ _ _ _ _ _) (by omega)))]), hjc_1, hix, (scr_S (scr_S (scr_S (scr_S (scr_S (scr_S (scr_I (scr_0 I S) (by decide) _) (by decide) _) (by decide) _) (by decide) _) (by decide) _) (by decide) _) (by decide) _)⟩

set_option maxHeartbeats 4000000 in
set_option maxRecDepth 100000 in
theorem c_X6_joinTo (l : Launch) (hl0 : l.stackTraces = false) (D : va_G) (cy : Nat → ClassId) (ad : Nat → Nat) (I : AI) (S : AS) (sz : Nat) (x : Int32) (b : Int32) (x2 : Int32) (b2 : Int32) (t : Int32) (ix : Int32) (k : Nat) (n : Nat) (h : Nat) (fr : Nat → Nat) (to : Nat → Nat) (ofr : Nat → Nat) (oto : Nat → Nat) (hc : CIv I S k n h fr to ofr oto) : vx_Met l yX6_joinTo (Cond.code yX6_joinTo cX6_joinTo 7 (some .int) :: wsL_law) ({ frames := 10, cells := 5, slots := 30, locals := 183 }) (va_Pc [.ref (ad 0), .int x, .int b, .int x2, .int b2, .int t, .int ix] (wxB D cy (wC cy ad I S) sz)) (va_Qi (S := AI × AS) (fun r u => r = (jpS S (slI x b) (slI x2 b2) t fr to k).2.2 ix.toNatClampNeg ∧ jc I x b x2 b2 t ∧ ixP (nI (jpS S (slI x b) (slI x2 b2) t fr to k).1) ix ∧ scr I S u.1 u.2) (fun u t9 => va_P D clW (wC cy ad u.1 u.2) t9.heap) (va_A (wC cy ad I S) sz)) (xW (S := AI × AS) (fun E u => (jx I x b x2 b2 t E ∨ (E = eNSE ∧ jc I x b x2 b2 t ∧ ¬ ixP (nI (jpS S (slI x b) (slI x2 b2) t fr to k).1) ix)) ∧ scr I S u.1 u.2) (fun u => (wC cy ad u.1 u.2)) D (va_A (wC cy ad I S) sz)) 5 30 (va_A (wC cy ad I S) sz) := by
  refine enterX (cc := cX6_joinTo) (by decide) (Nat.le_of_ble_eq_true rfl) ?_
  intro p e s m below meth c hx hb hr hml hown hts hlocks hT hv Q hQ ls hl
  obtain ⟨hsz, hP, hK, hD0, hE, hZ⟩ := hv
  subst hsz
  have hD := hD0.self (sz := s.heap.size)
  generalize hAe : va_A (wC cy ad I S) s.heap.size = A at hD hQ hZ ⊢
  have hA : ∀ q : Nat, s.heap.size ≤ q → A q := fun q h => by rw [← hAe]; exact Or.inr h
  have hS : va_S A s.heap s.heap [] := va_S.rf
  suffices K_ : ∀ (H : Heap) (locs : List Loc), va_P D clW (wC cy ad I S) H → va_S A s.heap H locs → W p l e ({ frames := 10, cells := 5, slots := 30, locals := 183 }) s m ([.ref (ad 0), .int x, .int b, .int x2, .int b2, .int t, .int ix] : List Value).toArray below meth c H locs 0 0 Q (F0 m 0 ls []) from K_ _ _ hP hS
  clear hP hS
  intro H locs hP hS
  have hown : s.vm.findClass RX6 = some m.cls := hown
  have hl : lv_has ls 7 [(0, .ref (ad 0)), (1, .int x), (2, .int b), (3, .int x2), (4, .int b2), (5, .int t), (6, .int ix)] := hl
  obtain ⟨hn, hn6, hk, hk3, hh, hhn, hfr, hfo, hch⟩ := id hc
  have hk8 : k ≤ 180 := by omega
  refine lv_aload_n hx hb dX6_joinTo_0 rfl (lv_at hl 0 rfl) ?_
  refine lv_iload_n hx hb dX6_joinTo_1 rfl (lv_at hl 1 rfl) ?_
  refine lv_iload_n hx hb dX6_joinTo_2 rfl (lv_at hl 2 rfl) ?_
  refine lv_iload_n hx hb dX6_joinTo_3 rfl (lv_at hl 3 rfl) ?_
  refine lv_iload hx hb dX6_joinTo_4 (lv_at hl 4 rfl) ?_
  refine lv_iload hx hb dX6_joinTo_6 (lv_at hl 5 rfl) ?_
  refine yW_call (vx_runV (As := [.int x, .int b, .int x2, .int b2, .int t]) (rest := []) ⟨hx, hb, hml, hown, hts⟩ (c_X6_listJointPeriods l hl0 D cy ad I S H.size x b x2 b2 t k n h fr to ofr oto hc) (cw_X6_220 hts rfl rfl ⟨Nat.le_of_ble_eq_true rfl, Nat.le_of_ble_eq_true rfl⟩) (preVWX (ci := 6) (q0 := 0) hK hE (hZ.now hS) (frame_in hD hS hA) hP hD rfl rfl) rfl rfl hl.1 rfl (lv_room (Nat.le_of_ble_eq_true rfl)) dX6_joinTo_8 ⟨Nat.le_of_ble_eq_true rfl, Nat.le_of_ble_eq_true rfl⟩) hD hS hA hT hlocks hQ (Nat.le_of_ble_eq_true rfl) (Nat.le_of_ble_eq_true rfl) (fun u => u) (fun _ => rfl) (fun E u h => ⟨Or.inl (h.1), h.2⟩) (fun _ => rfl) (fun u8_1 H locs q8_1 hP hD hS => ?_)
  have hP : va_P D clW (wC cy ad (va_up I 5 (nI (jpS S (slI x b) (slI x2 b2) t fr to k).1)) (va_up (va_up (va_up (va_up (va_up (va_up S 17 (rdKN S (slI x b) t fr to (S 17) k)) 18 (rdVN S (slI x b) t fr to (S 18) k)) 20 (rdKN S (slI x2 b2) t fr to (S 20) k)) 21 (rdVN S (slI x2 b2) t fr to (S 21) k)) 23 (jpS S (slI x b) (slI x2 b2) t fr to k).2.1) 24 (jpS S (slI x b) (slI x2 b2) t fr to k).2.2)) H := hP
  have hD : va_D A (wC cy ad (va_up I 5 (nI (jpS S (slI x b) (slI x2 b2) t fr to k).1)) (va_up (va_up (va_up (va_up (va_up (va_up S 17 (rdKN S (slI x b) t fr to (S 17) k)) 18 (rdVN S (slI x b) t fr to (S 18) k)) 20 (rdKN S (slI x2 b2) t fr to (S 20) k)) 21 (rdVN S (slI x2 b2) t fr to (S 21) k)) 23 (jpS S (slI x b) (slI x2 b2) t fr to k).2.1) 24 (jpS S (slI x b) (slI x2 b2) t fr to k).2.2)) := hD
  have hjc_1 := q8_1
  refine lv_aload_n hx hb dX6_joinTo_11 rfl (lv_at hl 0 rfl) ?_
  refine lv_iload hx hb dX6_joinTo_12 (lv_at hl 6 rfl) ?_
  refine yR_call (vx_runV (As := [.int ix]) (rest := []) ⟨hx, hb, hml, hown, hts⟩ (c_X6_requirePeriod l hl0 D cy ad (va_up I 5 (nI (jpS S (slI x b) (slI x2 b2) t fr to k).1)) (va_up (va_up (va_up (va_up (va_up (va_up S 17 (rdKN S (slI x b) t fr to (S 17) k)) 18 (rdVN S (slI x b) t fr to (S 18) k)) 20 (rdKN S (slI x2 b2) t fr to (S 20) k)) 21 (rdVN S (slI x2 b2) t fr to (S 21) k)) 23 (jpS S (slI x b) (slI x2 b2) t fr to k).2.1) 24 (jpS S (slI x b) (slI x2 b2) t fr to k).2.2) ix) (cw_X6_182 hts rfl rfl ⟨Nat.le_of_ble_eq_true rfl, Nat.le_of_ble_eq_true rfl⟩) (preVRX (ci := 6) (q0 := 0) hK hE (hZ.now hS).no hP rfl rfl) rfl rfl hl.1 rfl (lv_room (Nat.le_of_ble_eq_true rfl)) dX6_joinTo_14 ⟨Nat.le_of_ble_eq_true rfl, Nat.le_of_ble_eq_true rfl⟩) ((va_up I 5 (nI (jpS S (slI x b) (slI x2 b2) t fr to k).1)), (va_up (va_up (va_up (va_up (va_up (va_up S 17 (rdKN S (slI x b) t fr to (S 17) k)) 18 (rdVN S (slI x b) t fr to (S 18) k)) 20 (rdKN S (slI x2 b2) t fr to (S 20) k)) 21 (rdVN S (slI x2 b2) t fr to (S 21) k)) 23 (jpS S (slI x b) (slI x2 b2) t fr to k).2.1) 24 (jpS S (slI x b) (slI x2 b2) t fr to k).2.2)) hS hP hT hlocks hQ (Nat.le_of_ble_eq_true rfl) (Nat.le_of_ble_eq_true rfl) (fun E h => ⟨Or.inr ⟨h.1, hjc_1, h.2⟩, (scr_S (scr_S (scr_S (scr_S (scr_S (scr_S (scr_I (scr_0 I S) (by decide) _) (by decide) _) (by decide) _) (by decide) _) (by decide) _) (by decide) _) (by decide) _)⟩) (fun q14_2 => ?_)
  have hix := q14_2
  obtain ⟨j, hj, rfl⟩ := ixP_of (n := (jpS S (slI x b) (slI x2 b2) t fr to k).1) (Nat.lt_of_le_of_lt (plS_le _ _ _ _ _ _ _) (by omega)) hix
  refine lv_aload_n hx hb dX6_joinTo_17 rfl (lv_at hl 0 rfl) ?_
  refine gf_X6_47 hx hb hts hown hK hP 0 rfl (v := .ref (ad 22)) rfl dX6_joinTo_18 ?_
  refine lv_iload hx hb dX6_joinTo_21 (lv_at hl 6 rfl) ?_
  refine rI_call (va_runV (As := [.int (nI j)]) (rest := []) ⟨hx, hb, hml, hown, hts⟩ (c_X4_dayAfter l D cy ad (va_up I 5 (nI (jpS S (slI x b) (slI x2 b2) t fr to k).1)) (va_up (va_up (va_up (va_up (va_up (va_up S 17 (rdKN S (slI x b) t fr to (S 17) k)) 18 (rdVN S (slI x b) t fr to (S 18) k)) 20 (rdKN S (slI x2 b2) t fr to (S 20) k)) 21 (rdVN S (slI x2 b2) t fr to (S 21) k)) 23 (jpS S (slI x b) (slI x2 b2) t fr to k).2.1) 24 (jpS S (slI x b) (slI x2 b2) t fr to k).2.2) j (jpS S (slI x b) (slI x2 b2) t fr to k).1 rfl (plS_le _ _ _ _ _ _ _) hj) (cw_X6_186 hts rfl rfl ⟨Nat.le_of_ble_eq_true rfl, Nat.le_of_ble_eq_true rfl⟩) (preVR (ci := 4) (q0 := 0) hK (hP.sub [22, 23, 24] rfl) rfl rfl) rfl rfl hl.1 rfl (lv_room (Nat.le_of_ble_eq_true rfl)) dX6_joinTo_23 ⟨Nat.le_of_ble_eq_true rfl, Nat.le_of_ble_eq_true rfl⟩) (fun r hr_ => ?_)
  subst hr_
  refine top_eq (y := ((jpS S (slI x b) (slI x2 b2) t fr to k).2.2 j)) rfl ?_
  exact yI_ret ((va_up I 5 (nI (jpS S (slI x b) (slI x2 b2) t fr to k).1)), (va_up (va_up (va_up (va_up (va_up (va_up S 17 (rdKN S (slI x b) t fr to (S 17) k)) 18 (rdVN S (slI x b) t fr to (S 18) k)) 20 (rdKN S (slI x2 b2) t fr to (S 20) k)) 21 (rdVN S (slI x2 b2) t fr to (S 21) k)) 23 (jpS S (slI x b) (slI x2 b2) t fr to k).2.1) 24 (jpS S (slI x b) (slI x2 b2) t fr to k).2.2)) hS hP hx hb hr hlocks dX6_joinTo_26 rfl (Nat.le_of_ble_eq_true rfl) (Nat.le_of_ble_eq_true rfl) hQ ⟨(by rw [nI_clamp (Nat.lt_of_lt_of_le hj (Nat.le_trans (plS_le _ _ _ _ _ _ _) (by omega)))]), hjc_1, hix, (scr_S (scr_S (scr_S (scr_S (scr_S (scr_S (scr_I (scr_0 I S) (by decide) _) (by decide) _) (by decide) _) (by decide) _) (by decide) _) (by decide) _) (by decide) _)⟩

set_option maxHeartbeats 4000000 in
set_option maxRecDepth 100000 in
theorem c_X6_commonDays (l : Launch) (hl0 : l.stackTraces = false) (D : va_G) (cy : Nat → ClassId) (ad : Nat → Nat) (I : AI) (S : AS) (sz : Nat) (x : Int32) (b : Int32) (x2 : Int32) (b2 : Int32) (t : Int32) (k : Nat) (n : Nat) (h : Nat) (fr : Nat → Nat) (to : Nat → Nat) (ofr : Nat → Nat) (oto : Nat → Nat) (hc : CIv I S k n h fr to ofr oto) : vx_Met l yX6_commonDays (Cond.code yX6_commonDays cX6_commonDays 6 (some .int) :: wsL_law) ({ frames := 9, cells := 4, slots := 24, locals := 158 }) (va_Pc [.ref (ad 0), .int x, .int b, .int x2, .int b2, .int t] (wxB D cy (wC cy ad I S) sz)) (va_Qi (S := AI × AS) (fun r u => r = ccN (rdKN S (slI x b) t fr to (S 17) k) (rdKN S (slI x2 b2) t fr to (S 20) k) 100 ∧ jc I x b x2 b2 t ∧ scr I S u.1 u.2) (fun u t9 => va_P D clW (wC cy ad u.1 u.2) t9.heap) (va_A (wC cy ad I S) sz)) (xW (S := AI × AS) (fun E u => (jx I x b x2 b2 t E) ∧ scr I S u.1 u.2) (fun u => (wC cy ad u.1 u.2)) D (va_A (wC cy ad I S) sz)) 4 24 (va_A (wC cy ad I S) sz) := by
  refine enterX (cc := cX6_commonDays) (by decide) (Nat.le_of_ble_eq_true rfl) ?_
  intro p e s m below meth c hx hb hr hml hown hts hlocks hT hv Q hQ ls hl
  obtain ⟨hsz, hP, hK, hD0, hE, hZ⟩ := hv
  subst hsz
  have hD := hD0.self (sz := s.heap.size)
  generalize hAe : va_A (wC cy ad I S) s.heap.size = A at hD hQ hZ ⊢
  have hA : ∀ q : Nat, s.heap.size ≤ q → A q := fun q h => by rw [← hAe]; exact Or.inr h
  have hS : va_S A s.heap s.heap [] := va_S.rf
  suffices K_ : ∀ (H : Heap) (locs : List Loc), va_P D clW (wC cy ad I S) H → va_S A s.heap H locs → W p l e ({ frames := 9, cells := 4, slots := 24, locals := 158 }) s m ([.ref (ad 0), .int x, .int b, .int x2, .int b2, .int t] : List Value).toArray below meth c H locs 0 0 Q (F0 m 0 ls []) from K_ _ _ hP hS
  clear hP hS
  intro H locs hP hS
  have hown : s.vm.findClass RX6 = some m.cls := hown
  have hl : lv_has ls 6 [(0, .ref (ad 0)), (1, .int x), (2, .int b), (3, .int x2), (4, .int b2), (5, .int t)] := hl
  obtain ⟨hn, hn6, hk, hk3, hh, hhn, hfr, hfo, hch⟩ := id hc
  have hk8 : k ≤ 180 := by omega
  refine lv_aload_n hx hb dX6_commonDays_0 rfl (lv_at hl 0 rfl) ?_
  refine lv_iload_n hx hb dX6_commonDays_1 rfl (lv_at hl 1 rfl) ?_
  refine lv_iload_n hx hb dX6_commonDays_2 rfl (lv_at hl 2 rfl) ?_
  refine lv_iload_n hx hb dX6_commonDays_3 rfl (lv_at hl 3 rfl) ?_
  refine lv_iload hx hb dX6_commonDays_4 (lv_at hl 4 rfl) ?_
  refine lv_iload hx hb dX6_commonDays_6 (lv_at hl 5 rfl) ?_
  refine yW_call (vx_runV (As := [.int x, .int b, .int x2, .int b2, .int t]) (rest := []) ⟨hx, hb, hml, hown, hts⟩ (c_X6_readBoth l hl0 D cy ad I S H.size x b x2 b2 t k n h fr to ofr oto hc) (cw_X6_224 hts rfl rfl ⟨Nat.le_of_ble_eq_true rfl, Nat.le_of_ble_eq_true rfl⟩) (preVWX (ci := 6) (q0 := 0) hK hE (hZ.now hS) (frame_in hD hS hA) hP hD rfl rfl) rfl rfl hl.1 rfl (lv_room (Nat.le_of_ble_eq_true rfl)) dX6_commonDays_8 ⟨Nat.le_of_ble_eq_true rfl, Nat.le_of_ble_eq_true rfl⟩) hD hS hA hT hlocks hQ (Nat.le_of_ble_eq_true rfl) (Nat.le_of_ble_eq_true rfl) (fun u => u) (fun _ => rfl) (fun E u h => h) (fun _ => rfl) (fun u8_1 H locs q8_1 hP hD hS => ?_)
  have hP : va_P D clW (wC cy ad I (va_up (va_up (va_up (va_up S 17 (rdKN S (slI x b) t fr to (S 17) k)) 18 (rdVN S (slI x b) t fr to (S 18) k)) 20 (rdKN S (slI x2 b2) t fr to (S 20) k)) 21 (rdVN S (slI x2 b2) t fr to (S 21) k))) H := hP
  have hD : va_D A (wC cy ad I (va_up (va_up (va_up (va_up S 17 (rdKN S (slI x b) t fr to (S 17) k)) 18 (rdVN S (slI x b) t fr to (S 18) k)) 20 (rdKN S (slI x2 b2) t fr to (S 20) k)) 21 (rdVN S (slI x2 b2) t fr to (S 21) k))) := hD
  have hjc_1 := q8_1
  refine lv_aload_n hx hb dX6_commonDays_11 rfl (lv_at hl 0 rfl) ?_
  refine gf_X6_37 hx hb hts hown hK hP 0 rfl (v := .ref (ad 16)) rfl dX6_commonDays_12 ?_
  refine lv_aload_n hx hb dX6_commonDays_15 rfl (lv_at hl 0 rfl) ?_
  refine gf_X6_41 hx hb hts hown hK hP 0 rfl (v := .ref (ad 19)) rfl dX6_commonDays_16 ?_
  refine rI_call (va_runV (As := [.ref (ad 19)]) (rest := []) ⟨hx, hb, hml, hown, hts⟩ (c_X1_countCommon_16_19 l D cy ad (va_up (va_up (va_up (va_up S 17 (rdKN S (slI x b) t fr to (S 17) k)) 18 (rdVN S (slI x b) t fr to (S 18) k)) 20 (rdKN S (slI x2 b2) t fr to (S 20) k)) 21 (rdVN S (slI x2 b2) t fr to (S 21) k))) (cw_X6_227 hts rfl rfl ⟨Nat.le_of_ble_eq_true rfl, Nat.le_of_ble_eq_true rfl⟩) (preVR (ci := 1) (q0 := 0) hK (hP.sub [16, 17, 18, 19, 20, 21] rfl) rfl rfl) rfl rfl hl.1 rfl (lv_room (Nat.le_of_ble_eq_true rfl)) dX6_commonDays_19 ⟨Nat.le_of_ble_eq_true rfl, Nat.le_of_ble_eq_true rfl⟩) (fun r hr_ => ?_)
  subst hr_
  refine top_eq (y := (ccN ((rdKN S (slI x b) t fr to (S 17) k)) ((rdKN S (slI x2 b2) t fr to (S 20) k)) 100)) rfl ?_
  exact yI_ret (I, (va_up (va_up (va_up (va_up S 17 (rdKN S (slI x b) t fr to (S 17) k)) 18 (rdVN S (slI x b) t fr to (S 18) k)) 20 (rdKN S (slI x2 b2) t fr to (S 20) k)) 21 (rdVN S (slI x2 b2) t fr to (S 21) k))) hS hP hx hb hr hlocks dX6_commonDays_22 rfl (Nat.le_of_ble_eq_true rfl) (Nat.le_of_ble_eq_true rfl) hQ ⟨rfl, hjc_1, (scr_S (scr_S (scr_S (scr_S (scr_0 I S) (by decide) _) (by decide) _) (by decide) _) (by decide) _)⟩

set_option maxHeartbeats 4000000 in
set_option maxRecDepth 100000 in
theorem c_X6_agreeDays (l : Launch) (hl0 : l.stackTraces = false) (D : va_G) (cy : Nat → ClassId) (ad : Nat → Nat) (I : AI) (S : AS) (sz : Nat) (x : Int32) (b : Int32) (x2 : Int32) (b2 : Int32) (t : Int32) (k : Nat) (n : Nat) (h : Nat) (fr : Nat → Nat) (to : Nat → Nat) (ofr : Nat → Nat) (oto : Nat → Nat) (hc : CIv I S k n h fr to ofr oto) : vx_Met l yX6_agreeDays (Cond.code yX6_agreeDays cX6_agreeDays 6 (some .int) :: wsL_law) ({ frames := 9, cells := 4, slots := 24, locals := 158 }) (va_Pc [.ref (ad 0), .int x, .int b, .int x2, .int b2, .int t] (wxB D cy (wC cy ad I S) sz)) (va_Qi (S := AI × AS) (fun r u => r = caN (rdKN S (slI x b) t fr to (S 17) k) (rdVN S (slI x b) t fr to (S 18) k) (rdKN S (slI x2 b2) t fr to (S 20) k) (rdVN S (slI x2 b2) t fr to (S 21) k) 100 ∧ jc I x b x2 b2 t ∧ scr I S u.1 u.2) (fun u t9 => va_P D clW (wC cy ad u.1 u.2) t9.heap) (va_A (wC cy ad I S) sz)) (xW (S := AI × AS) (fun E u => (jx I x b x2 b2 t E) ∧ scr I S u.1 u.2) (fun u => (wC cy ad u.1 u.2)) D (va_A (wC cy ad I S) sz)) 4 24 (va_A (wC cy ad I S) sz) := by
  refine enterX (cc := cX6_agreeDays) (by decide) (Nat.le_of_ble_eq_true rfl) ?_
  intro p e s m below meth c hx hb hr hml hown hts hlocks hT hv Q hQ ls hl
  obtain ⟨hsz, hP, hK, hD0, hE, hZ⟩ := hv
  subst hsz
  have hD := hD0.self (sz := s.heap.size)
  generalize hAe : va_A (wC cy ad I S) s.heap.size = A at hD hQ hZ ⊢
  have hA : ∀ q : Nat, s.heap.size ≤ q → A q := fun q h => by rw [← hAe]; exact Or.inr h
  have hS : va_S A s.heap s.heap [] := va_S.rf
  suffices K_ : ∀ (H : Heap) (locs : List Loc), va_P D clW (wC cy ad I S) H → va_S A s.heap H locs → W p l e ({ frames := 9, cells := 4, slots := 24, locals := 158 }) s m ([.ref (ad 0), .int x, .int b, .int x2, .int b2, .int t] : List Value).toArray below meth c H locs 0 0 Q (F0 m 0 ls []) from K_ _ _ hP hS
  clear hP hS
  intro H locs hP hS
  have hown : s.vm.findClass RX6 = some m.cls := hown
  have hl : lv_has ls 6 [(0, .ref (ad 0)), (1, .int x), (2, .int b), (3, .int x2), (4, .int b2), (5, .int t)] := hl
  obtain ⟨hn, hn6, hk, hk3, hh, hhn, hfr, hfo, hch⟩ := id hc
  have hk8 : k ≤ 180 := by omega
  refine lv_aload_n hx hb dX6_agreeDays_0 rfl (lv_at hl 0 rfl) ?_
  refine lv_iload_n hx hb dX6_agreeDays_1 rfl (lv_at hl 1 rfl) ?_
  refine lv_iload_n hx hb dX6_agreeDays_2 rfl (lv_at hl 2 rfl) ?_
  refine lv_iload_n hx hb dX6_agreeDays_3 rfl (lv_at hl 3 rfl) ?_
  refine lv_iload hx hb dX6_agreeDays_4 (lv_at hl 4 rfl) ?_
  refine lv_iload hx hb dX6_agreeDays_6 (lv_at hl 5 rfl) ?_
  refine yW_call (vx_runV (As := [.int x, .int b, .int x2, .int b2, .int t]) (rest := []) ⟨hx, hb, hml, hown, hts⟩ (c_X6_readBoth l hl0 D cy ad I S H.size x b x2 b2 t k n h fr to ofr oto hc) (cw_X6_224 hts rfl rfl ⟨Nat.le_of_ble_eq_true rfl, Nat.le_of_ble_eq_true rfl⟩) (preVWX (ci := 6) (q0 := 0) hK hE (hZ.now hS) (frame_in hD hS hA) hP hD rfl rfl) rfl rfl hl.1 rfl (lv_room (Nat.le_of_ble_eq_true rfl)) dX6_agreeDays_8 ⟨Nat.le_of_ble_eq_true rfl, Nat.le_of_ble_eq_true rfl⟩) hD hS hA hT hlocks hQ (Nat.le_of_ble_eq_true rfl) (Nat.le_of_ble_eq_true rfl) (fun u => u) (fun _ => rfl) (fun E u h => h) (fun _ => rfl) (fun u8_1 H locs q8_1 hP hD hS => ?_)
  have hP : va_P D clW (wC cy ad I (va_up (va_up (va_up (va_up S 17 (rdKN S (slI x b) t fr to (S 17) k)) 18 (rdVN S (slI x b) t fr to (S 18) k)) 20 (rdKN S (slI x2 b2) t fr to (S 20) k)) 21 (rdVN S (slI x2 b2) t fr to (S 21) k))) H := hP
  have hD : va_D A (wC cy ad I (va_up (va_up (va_up (va_up S 17 (rdKN S (slI x b) t fr to (S 17) k)) 18 (rdVN S (slI x b) t fr to (S 18) k)) 20 (rdKN S (slI x2 b2) t fr to (S 20) k)) 21 (rdVN S (slI x2 b2) t fr to (S 21) k))) := hD
  have hjc_1 := q8_1
  refine lv_aload_n hx hb dX6_agreeDays_11 rfl (lv_at hl 0 rfl) ?_
  refine gf_X6_37 hx hb hts hown hK hP 0 rfl (v := .ref (ad 16)) rfl dX6_agreeDays_12 ?_
  refine lv_aload_n hx hb dX6_agreeDays_15 rfl (lv_at hl 0 rfl) ?_
  refine gf_X6_41 hx hb hts hown hK hP 0 rfl (v := .ref (ad 19)) rfl dX6_agreeDays_16 ?_
  refine rI_call (va_runV (As := [.ref (ad 19)]) (rest := []) ⟨hx, hb, hml, hown, hts⟩ (c_X1_countAgreeing_16_19 l D cy ad (va_up (va_up (va_up (va_up S 17 (rdKN S (slI x b) t fr to (S 17) k)) 18 (rdVN S (slI x b) t fr to (S 18) k)) 20 (rdKN S (slI x2 b2) t fr to (S 20) k)) 21 (rdVN S (slI x2 b2) t fr to (S 21) k))) (cw_X6_230 hts rfl rfl ⟨Nat.le_of_ble_eq_true rfl, Nat.le_of_ble_eq_true rfl⟩) (preVR (ci := 1) (q0 := 0) hK (hP.sub [16, 17, 18, 19, 20, 21] rfl) rfl rfl) rfl rfl hl.1 rfl (lv_room (Nat.le_of_ble_eq_true rfl)) dX6_agreeDays_19 ⟨Nat.le_of_ble_eq_true rfl, Nat.le_of_ble_eq_true rfl⟩) (fun r hr_ => ?_)
  subst hr_
  refine top_eq (y := (caN ((rdKN S (slI x b) t fr to (S 17) k)) ((rdVN S (slI x b) t fr to (S 18) k)) ((rdKN S (slI x2 b2) t fr to (S 20) k)) ((rdVN S (slI x2 b2) t fr to (S 21) k)) 100)) rfl ?_
  exact yI_ret (I, (va_up (va_up (va_up (va_up S 17 (rdKN S (slI x b) t fr to (S 17) k)) 18 (rdVN S (slI x b) t fr to (S 18) k)) 20 (rdKN S (slI x2 b2) t fr to (S 20) k)) 21 (rdVN S (slI x2 b2) t fr to (S 21) k))) hS hP hx hb hr hlocks dX6_agreeDays_22 rfl (Nat.le_of_ble_eq_true rfl) (Nat.le_of_ble_eq_true rfl) hQ ⟨rfl, hjc_1, (scr_S (scr_S (scr_S (scr_S (scr_0 I S) (by decide) _) (by decide) _) (by decide) _) (by decide) _)⟩
