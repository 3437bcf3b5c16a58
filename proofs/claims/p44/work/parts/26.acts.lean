theorem pf_X6_30 {p : Program} {l : Launch} {e : Env} {R : Room} {s : State} {m : MethodId} {args : Array Value} {below : List Frame} {meth : Method} {c : Code} {H : Heap} {locs : List Loc} {cells slots : Nat} {Q : State → Prop} {cc : ByteArray} {pc : Nat} {ls : Array Slot} {rest : List Value} {D : va_G} {cy : Nat → ClassId} {a : Nat} {ws : va_W} {A : Nat → Prop} {H0 : Heap} (hx : p.tables.exec = Jvm.exec) (hb : c.code = cc) (hts : ∀ w ∈ wsL_law, w.before args s = true) (hown : s.vm.findClass RX6 = some m.cls) (hK : va_K D clW (tyW cy) s) (hP : va_P D clW ws H) (hD : va_D A ws) (hS : va_S A H0 H locs) (q0 : Nat) {fs : List Value} (he : ws[q0]? = some (a, .inr (6, fs))) {x : Int32} (hl : 3 < fs.length) (hdg : decode cc pc = .ok (.putfield 30, 3)) (kk : ∀ (H1 : Heap) (locs1 : List Loc), va_P D clW (ws.set q0 (a, .inr (6, fs.set 3 (.int x)))) H1 → va_D A (ws.set q0 (a, .inr (6, fs.set 3 (.int x)))) → va_S A H0 H1 locs1 → W p l e R s m args below meth c H1 locs1 cells slots Q (F0 m (pc + 3) ls rest)) : W p l e R s m args below meth c H locs cells slots Q (F0 m pc ls (.int x :: .ref a :: rest)) := va_put (own := RX6) (ref := RX6) (C := RX6) (T := TX6) (N := 8) (ci := 6) (ty := .int) hx hb hts inlX6 tyX6 tyX6_ok nmX6 hown hK hP hD hS q0 he rfl 3 (by decide) (hts _ wm_24) (fun _ h => h) rfl (by decide +kernel) rfl rfl hl hdg kk
theorem cw_X6_69 {R : Room} {s : State} {args : Array Value} {rm : Room} {mc ms : Nat} (hts : ∀ w ∈ wsL_law, w.before args s = true) (hrc : rm.cells = mc) (hrs : rm.slots = ms) (hR : rm.frames + 1 ≤ R.frames ∧ 8 + (3 + 11) + rm.locals ≤ R.locals) : CallW R s args RX6 RX6 69 yX6_requireDays cX6_requireDays 3 none (Cond.code yX6_requireDays cX6_requireDays 3 none :: wsL_law) rm mc ms 2 := cwV 2 hts (gUV wm_167 wm_168 wm_169 wm_2 wm_170) rfl hrc hrs (by decide +kernel) hR
theorem cw_X6_72 {R : Room} {s : State} {args : Array Value} {rm : Room} {mc ms : Nat} (hts : ∀ w ∈ wsL_law, w.before args s = true) (hrc : rm.cells = mc) (hrs : rm.slots = ms) (hR : rm.frames + 1 ≤ R.frames ∧ 8 + (1 + 11) + rm.locals ≤ R.locals) : CallW R s args RX6 RX6 72 yX6_requireFreeTick cX6_requireFreeTick 1 none (Cond.code yX6_requireFreeTick cX6_requireFreeTick 1 none :: wsL_law) rm mc ms 0 := cwV 0 hts (gUV wm_205 wm_206 wm_207 wm_2 wm_208) rfl hrc hrs (by decide +kernel) hR
theorem cw_X6_79 {R : Room} {s : State} {args : Array Value} {rm : Room} {mc ms : Nat} (hts : ∀ w ∈ wsL_law, w.before args s = true) (hrc : rm.cells = mc) (hrs : rm.slots = ms) (hR : rm.frames + 1 ≤ R.frames ∧ 8 + (8 + 11) + rm.locals ≤ R.locals) : CallW R s args RX6 RX6 79 yX6_believe cX6_believe 8 (some .int) (Cond.code yX6_believe cX6_believe 8 (some .int) :: wsL_law) rm mc ms 5 := cwV 5 hts (gUV wm_256 wm_257 wm_258 wm_2 wm_259) rfl hrc hrs (by decide +kernel) hR
theorem cw_X6_131 {R : Room} {s : State} {args : Array Value} {rm : Room} {mc ms : Nat} (hts : ∀ w ∈ wsL_law, w.before args s = true) (hrc : rm.cells = mc) (hrs : rm.slots = ms) (hR : rm.frames + 1 ≤ R.frames ∧ 8 + (3 + 11) + rm.locals ≤ R.locals) : CallW R s args RX6 RX0 131 yX0_countKept cX0_countKept 3 (some .int) (Cond.code yX0_countKept cX0_countKept 3 (some .int) :: wsL_law) rm mc ms 0 := cwV 0 hts (gUV wm_329 wm_274 wm_275 wm_18 wm_276) rfl hrc hrs (by decide +kernel) hR
theorem cw_X6_134 {R : Room} {s : State} {args : Array Value} {rm : Room} {mc ms : Nat} (hts : ∀ w ∈ wsL_law, w.before args s = true) (hrc : rm.cells = mc) (hrs : rm.slots = ms) (hR : rm.frames + 1 ≤ R.frames ∧ 8 + (3 + 11) + rm.locals ≤ R.locals) : CallW R s args RX6 RX0 134 yX0_countOpen cX0_countOpen 3 (some .int) (Cond.code yX0_countOpen cX0_countOpen 3 (some .int) :: wsL_law) rm mc ms 0 := cwV 0 hts (gUV wm_334 wm_335 wm_336 wm_18 wm_337) rfl hrc hrs (by decide +kernel) hR
theorem cw_X6_157 {R : Room} {s : State} {args : Array Value} {rm : Room} {mc ms : Nat} (hts : ∀ w ∈ wsL_law, w.before args s = true) (hrc : rm.cells = mc) (hrs : rm.slots = ms) (hR : rm.frames + 1 ≤ R.frames ∧ 8 + (3 + 11) + rm.locals ≤ R.locals) : CallW R s args RX6 RX0 157 yX0_remove cX0_remove 3 (some .int) (Cond.code yX0_remove cX0_remove 3 (some .int) :: wsL_law) rm mc ms 1 := cwV 1 hts (gUV wm_269 wm_270 wm_271 wm_18 wm_272) rfl hrc hrs (by decide +kernel) hR
theorem cw_X6_258 {R : Room} {s : State} {args : Array Value} {rm : Room} {mc ms : Nat} (hts : ∀ w ∈ wsL_law, w.before args s = true) (hrc : rm.cells = mc) (hrs : rm.slots = ms) (hR : rm.frames + 1 ≤ R.frames ∧ 8 + (3 + 11) + rm.locals ≤ R.locals) : CallW R s args RX6 RX6 258 yX6_isSlotConsistent cX6_isSlotConsistent 3 (some .boolean) (Cond.code yX6_isSlotConsistent cX6_isSlotConsistent 3 (some .boolean) :: wsL_law) rm mc ms 1 := cwV 1 hts (gUV wm_370 wm_371 wm_372 wm_2 wm_373) rfl hrc hrs (by decide +kernel) hR
set_option maxHeartbeats 4000000 in
set_option maxRecDepth 100000 in
theorem c_X6_clock (l : Launch) (D : va_G) (cy : Nat → ClassId) (ad : Nat → Nat) (I : AI) (S : AS) : Met l yX6_clock (Cond.code yX6_clock cX6_clock 1 (some .int) :: wsL_law) ({ frames := 1, cells := 0, slots := 0, locals := 20 }) (va_Pc [.ref (ad 0)] (rdB D cy (wC cy ad I S))) (rdI (fun r => r = I 1)) 0 0 noA := by
  refine enter (cc := cX6_clock) (by decide) (Nat.le_of_ble_eq_true rfl) ?_
  intro p e s m below meth c hx hb hr hml hown hts hlocks hin hv Q hQ ls hl
  obtain ⟨hP, hK⟩ := hv
  have hown : s.vm.findClass RX6 = some m.cls := hown
  have hl : lv_has ls 1 [(0, .ref (ad 0))] := hl
  refine lv_aload_n hx hb dX6_clock_0 rfl (lv_at hl 0 rfl) ?_
  refine gf_X6_12 hx hb hts hown hK hP 0 rfl (v := .ref (ad 1)) rfl dX6_clock_1 ?_
  refine rI_call (va_runV (As := []) (rest := []) ⟨hx, hb, hml, hown, hts⟩ (c_X3_now l D cy ad I S) (cw_X6_83 hts rfl rfl ⟨Nat.le_of_ble_eq_true rfl, Nat.le_of_ble_eq_true rfl⟩) (preVR (ci := 3) (q0 := 0) hK (hP.sub [1, 2, 3, 4, 5, 6] rfl) rfl rfl) rfl rfl hl.1 rfl (lv_room (Nat.le_of_ble_eq_true rfl)) dX6_clock_4 ⟨Nat.le_of_ble_eq_true rfl, Nat.le_of_ble_eq_true rfl⟩) (fun r hr_ => ?_)
  subst hr_
  refine top_eq (y := (I 1)) rfl ?_
  exact rI_ret hx hb hr hlocks dX6_clock_7 hQ rfl
set_option maxHeartbeats 4000000 in
set_option maxRecDepth 100000 in
theorem c_X6_horizon (l : Launch) (D : va_G) (cy : Nat → ClassId) (ad : Nat → Nat) (I : AI) (S : AS) : Met l yX6_horizon (Cond.code yX6_horizon cX6_horizon 1 (some .int) :: wsL_law) ({ frames := 1, cells := 0, slots := 0, locals := 20 }) (va_Pc [.ref (ad 0)] (rdB D cy (wC cy ad I S))) (rdI (fun r => r = I 3)) 0 0 noA := by
  refine enter (cc := cX6_horizon) (by decide) (Nat.le_of_ble_eq_true rfl) ?_
  intro p e s m below meth c hx hb hr hml hown hts hlocks hin hv Q hQ ls hl
  obtain ⟨hP, hK⟩ := hv
  have hown : s.vm.findClass RX6 = some m.cls := hown
  have hl : lv_has ls 1 [(0, .ref (ad 0))] := hl
  refine lv_aload_n hx hb dX6_horizon_0 rfl (lv_at hl 0 rfl) ?_
  refine gf_X6_19 hx hb hts hown hK hP 0 rfl (v := .ref (ad 7)) rfl dX6_horizon_1 ?_
  refine rI_call (va_runV (As := []) (rest := []) ⟨hx, hb, hml, hown, hts⟩ (c_X0_oldestTick l D cy ad I S) (cw_X6_149 hts rfl rfl ⟨Nat.le_of_ble_eq_true rfl, Nat.le_of_ble_eq_true rfl⟩) (preVR (ci := 0) (q0 := 0) hK (hP.sub [7, 8, 9, 10, 11, 12, 13] rfl) rfl rfl) rfl rfl hl.1 rfl (lv_room (Nat.le_of_ble_eq_true rfl)) dX6_horizon_4 ⟨Nat.le_of_ble_eq_true rfl, Nat.le_of_ble_eq_true rfl⟩) (fun r hr_ => ?_)
  subst hr_
  refine top_eq (y := (I 3)) rfl ?_
  exact rI_ret hx hb hr hlocks dX6_horizon_7 hQ rfl
set_option maxHeartbeats 4000000 in
set_option maxRecDepth 100000 in
theorem c_X6_factCount (l : Launch) (D : va_G) (cy : Nat → ClassId) (ad : Nat → Nat) (I : AI) (S : AS) (k : Nat) (n : Nat) (h : Nat) (fr : Nat → Nat) (to : Nat → Nat) (ofr : Nat → Nat) (oto : Nat → Nat) (hc : CIv I S k n h fr to ofr oto) : Met l yX6_factCount (Cond.code yX6_factCount cX6_factCount 1 (some .int) :: wsL_law) ({ frames := 2, cells := 0, slots := 0, locals := 43 }) (va_Pc [.ref (ad 0)] (rdB D cy (wC cy ad I S))) (rdI (fun r => r = ckN S k (I 3) k)) 0 0 noA := by
  refine enter (cc := cX6_factCount) (by decide) (Nat.le_of_ble_eq_true rfl) ?_
  intro p e s m below meth c hx hb hr hml hown hts hlocks hin hv Q hQ ls hl
  obtain ⟨hP, hK⟩ := hv
  have hown : s.vm.findClass RX6 = some m.cls := hown
  have hl : lv_has ls 1 [(0, .ref (ad 0))] := hl
  obtain ⟨hn, hn6, hk, hk3, hh, hhn, hfr, hfo, hch⟩ := hc
  have hk8 : k ≤ 180 := by omega
  refine lv_aload_n hx hb dX6_factCount_0 rfl (lv_at hl 0 rfl) ?_
  refine gf_X6_19 hx hb hts hown hK hP 0 rfl (v := .ref (ad 7)) rfl dX6_factCount_1 ?_
  refine rI_call (va_runV (As := []) (rest := []) ⟨hx, hb, hml, hown, hts⟩ (c_X0_countKept l D cy ad I S k hk (by omega)) (cw_X6_131 hts rfl rfl ⟨Nat.le_of_ble_eq_true rfl, Nat.le_of_ble_eq_true rfl⟩) (preVR (ci := 0) (q0 := 0) hK (hP.sub [7, 8, 9, 10, 11, 12, 13] rfl) rfl rfl) rfl rfl hl.1 rfl (lv_room (Nat.le_of_ble_eq_true rfl)) dX6_factCount_4 ⟨Nat.le_of_ble_eq_true rfl, Nat.le_of_ble_eq_true rfl⟩) (fun r hr_ => ?_)
  subst hr_
  refine top_eq (y := (ckN S k ((I 3)) k)) rfl ?_
  exact rI_ret hx hb hr hlocks dX6_factCount_7 hQ rfl
set_option maxHeartbeats 4000000 in
set_option maxRecDepth 100000 in
theorem c_X6_openCount (l : Launch) (D : va_G) (cy : Nat → ClassId) (ad : Nat → Nat) (I : AI) (S : AS) (k : Nat) (n : Nat) (h : Nat) (fr : Nat → Nat) (to : Nat → Nat) (ofr : Nat → Nat) (oto : Nat → Nat) (hc : CIv I S k n h fr to ofr oto) : Met l yX6_openCount (Cond.code yX6_openCount cX6_openCount 1 (some .int) :: wsL_law) ({ frames := 1, cells := 0, slots := 0, locals := 22 }) (va_Pc [.ref (ad 0)] (rdB D cy (wC cy ad I S))) (rdI (fun r => r = coN S k)) 0 0 noA := by
  refine enter (cc := cX6_openCount) (by decide) (Nat.le_of_ble_eq_true rfl) ?_
  intro p e s m below meth c hx hb hr hml hown hts hlocks hin hv Q hQ ls hl
  obtain ⟨hP, hK⟩ := hv
  have hown : s.vm.findClass RX6 = some m.cls := hown
  have hl : lv_has ls 1 [(0, .ref (ad 0))] := hl
  obtain ⟨hn, hn6, hk, hk3, hh, hhn, hfr, hfo, hch⟩ := hc
  have hk8 : k ≤ 180 := by omega
  refine lv_aload_n hx hb dX6_openCount_0 rfl (lv_at hl 0 rfl) ?_
  refine gf_X6_19 hx hb hts hown hK hP 0 rfl (v := .ref (ad 7)) rfl dX6_openCount_1 ?_
  refine rI_call (va_runV (As := []) (rest := []) ⟨hx, hb, hml, hown, hts⟩ (c_X0_countOpen l D cy ad I S k hk (by omega)) (cw_X6_134 hts rfl rfl ⟨Nat.le_of_ble_eq_true rfl, Nat.le_of_ble_eq_true rfl⟩) (preVR (ci := 0) (q0 := 0) hK (hP.sub [7, 8, 9, 10, 11, 12, 13] rfl) rfl rfl) rfl rfl hl.1 rfl (lv_room (Nat.le_of_ble_eq_true rfl)) dX6_openCount_4 ⟨Nat.le_of_ble_eq_true rfl, Nat.le_of_ble_eq_true rfl⟩) (fun r hr_ => ?_)
  subst hr_
  exact rI_ret hx hb hr hlocks dX6_openCount_7 hQ rfl
set_option maxHeartbeats 4000000 in
set_option maxRecDepth 100000 in
theorem c_X6_addEntity (l : Launch) (hl0 : l.stackTraces = false) (D : va_G) (cy : Nat → ClassId) (ad : Nat → Nat) (I : AI) (S : AS) (sz : Nat) (en : Nat) (hen : I 0 = nI en) (hen6 : en ≤ 6) : vx_Met l yX6_addEntity (Cond.code yX6_addEntity cX6_addEntity 1 (some .int) :: wsL_law) ({ frames := 6, cells := 1, slots := 6, locals := 90 }) (va_Pc [.ref (ad 0)] (wxB D cy (wC cy ad I S) sz)) (va_Qi (S := Unit) (fun r u => r = nI en ∧ en < 6) (fun u t9 => va_P D clW (wC cy ad (va_up I 0 (nI (en + 1))) S) t9.heap) (va_A (wC cy ad I S) sz)) (xW (S := AI × AS) (fun E u => (E = eISE ∧ 6 ≤ en) ∧ scr I S u.1 u.2) (fun u => (wC cy ad u.1 u.2)) D (va_A (wC cy ad I S) sz)) 1 6 (va_A (wC cy ad I S) sz) := by
  refine enterX (cc := cX6_addEntity) (by decide) (Nat.le_of_ble_eq_true rfl) ?_
  intro p e s m below meth c hx hb hr hml hown hts hlocks hT hv Q hQ ls hl
  obtain ⟨hsz, hP, hK, hD0, hE, hZ⟩ := hv
  subst hsz
  have hD := hD0.self (sz := s.heap.size)
  generalize hAe : va_A (wC cy ad I S) s.heap.size = A at hD hQ hZ ⊢
  have hA : ∀ q : Nat, s.heap.size ≤ q → A q := fun q h => by rw [← hAe]; exact Or.inr h
  have hS : va_S A s.heap s.heap [] := va_S.rf
  suffices K_ : ∀ (H : Heap) (locs : List Loc), va_P D clW (wC cy ad I S) H → va_S A s.heap H locs → W p l e ({ frames := 6, cells := 1, slots := 6, locals := 90 }) s m ([.ref (ad 0)] : List Value).toArray below meth c H locs 0 0 Q (F0 m 0 ls []) from K_ _ _ hP hS
  clear hP hS
  intro H locs hP hS
  have hown : s.vm.findClass RX6 = some m.cls := hown
  have hl : lv_has ls 1 [(0, .ref (ad 0))] := hl
  refine lv_aload_n hx hb dX6_addEntity_0 rfl (lv_at hl 0 rfl) ?_
  refine gf_X6_30 hx hb hts hown hK hP 0 rfl (v := .int (I 0)) rfl dX6_addEntity_1 ?_
  refine top_eq hen ?_
  refine lv_bipush (v := 6) hx hb dX6_addEntity_4 (by decide) ?_
  refine lv_icmp_lt (tgt := 19) hx hb dX6_addEntity_6 (by decide) (fun c6_1 => ?_) (fun c6_1 => ?_)
  · have f6_1 : en < 6 := nt_lt (a := en) (b := 6) (by omega) (by omega) c6_1
    refine lv_aload_n hx hb dX6_addEntity_19 rfl (lv_at hl 0 rfl) ?_
    refine lv_dup hx hb dX6_addEntity_20 rfl ?_
    refine gf_X6_30 hx hb hts hown hK hP 0 rfl (v := .int (I 0)) rfl dX6_addEntity_21 ?_
    refine top_eq hen ?_
    refine lv_iconst (v := 1) hx hb dX6_addEntity_24 (by decide) ?_
    refine lv_iadd hx hb dX6_addEntity_25 ?_
    refine top_eq (y := nI (en + 1)) (nI_add en 1) ?_
    refine pf_X6_30 hx hb hts hown hK hP hD hS 0 rfl (Nat.le_of_ble_eq_true rfl) dX6_addEntity_26 (fun H locs hP hD hS => ?_)
    have hP : va_P D clW (wC cy ad (va_up I 0 (nI (en + 1))) S) H := hP
    have hD : va_D A (wC cy ad (va_up I 0 (nI (en + 1))) S) := hD
    refine lv_aload_n hx hb dX6_addEntity_29 rfl (lv_at hl 0 rfl) ?_
    refine gf_X6_30 hx hb hts hown hK hP 0 rfl (v := .int (nI (en + 1))) rfl dX6_addEntity_30 ?_
    refine lv_iconst (v := 1) hx hb dX6_addEntity_33 (by decide) ?_
    refine lv_isub hx hb dX6_addEntity_34 ?_
    refine top_eq (y := nI en) (nI_pred en) ?_
    have hP : va_P D clW (wC cy ad (va_up I 0 (nI (en + 1))) S) H := hP
    have hD : va_D A (wC cy ad (va_up I 0 (nI (en + 1))) S) := hD.addr rfl
    exact yI_ret () hS hP hx hb hr hlocks dX6_addEntity_35 rfl (Nat.le_of_ble_eq_true rfl) (Nat.le_of_ble_eq_true rfl) hQ ⟨rfl, f6_1⟩
  · have f6_1 : 6 ≤ en := nt_nlt (a := en) (b := 6) (by omega) (by omega) c6_1
    exact th_ISE (A := A) (List.mem_of_getElem? (i := 0) rfl) hx hb hl0 hown hts hE hZ hS (hl.1.trans hml.symm) dX6_addEntity_9 dX6_addEntity_12 dX6_addEntity_13 dX6_addEntity_15 dX6_addEntity_18 hT (Nat.le_of_ble_eq_true rfl) (Nat.le_of_ble_eq_true rfl) (Nat.le_of_ble_eq_true rfl) (Nat.le_of_ble_eq_true rfl) hlocks (Nat.le_of_ble_eq_true rfl) (Nat.le_of_ble_eq_true rfl) hS.2.2 hQ (fun t _ hz hk => ⟨(I, S), trivial, ⟨⟨⟨rfl, f6_1⟩, scr_0 _ _⟩, keptP_all hP hk⟩, (keptS_all hS hz hk).F rfl⟩)
set_option maxHeartbeats 4000000 in
set_option maxRecDepth 100000 in
theorem c_X6_tell (l : Launch) (hl0 : l.stackTraces = false) (D : va_G) (cy : Nat → ClassId) (ad : Nat → Nat) (I : AI) (S : AS) (sz : Nat) (x : Int32) (b : Int32) (v : Int32) (d : Int32) (d2 : Int32) (k : Nat) (n : Nat) (h : Nat) (fr : Nat → Nat) (to : Nat → Nat) (ofr : Nat → Nat) (oto : Nat → Nat) (hc : CIv I S k n h fr to ofr oto) : vx_Met l yX6_tell (Cond.code yX6_tell cX6_tell 6 (some .int) :: wsL_law) ({ frames := 8, cells := 3, slots := 18, locals := 133 }) (va_Pc [.ref (ad 0), .int x, .int b, .int v, .int d, .int d2] (wxB D cy (wC cy ad I S) sz)) (va_Qi (S := AI × AS × Nat) (fun r u => r = cnN (addS S n 116 (slI x b) v d d2) (slI x b) d d2 k ∧ clearP (addI I n) (addS S n 116 (slI x b) v d d2) (slI x b) d d2 (nI (n + 1)) k u.1 u.2.1 ∧ k ≤ u.2.2 ∧ u.2.2 ≤ k + 2 ∧ u.1 2 = nI u.2.2 ∧ u.1 3 = I 3 ∧ plP (I 0) x b ∧ ddP d d2 ∧ I 1 < 60) (fun u t9 => va_P D clW (wC cy ad (va_up (va_up (va_up I 1 (nI (n + 1))) 2 (nI (u.2.2 + 1))) 3 (u.1 3)) (va_up (va_up (va_up (va_up (va_up (va_up (va_up (va_up (va_up (va_up (va_up S 2 (upd (S 2) (n + 1) 116)) 3 (upd (S 3) (n + 1) (slI x b))) 4 (upd (S 4) (n + 1) v)) 5 (upd (S 5) (n + 1) d)) 6 (upd (S 6) (n + 1) d2)) 8 (upd (u.2.1 8) u.2.2 (slI x b))) 9 (upd (u.2.1 9) u.2.2 v)) 10 (upd (u.2.1 10) u.2.2 d)) 11 (upd (u.2.1 11) u.2.2 d2)) 12 (upd (u.2.1 12) u.2.2 (nI (n + 1)))) 13 (upd (u.2.1 13) u.2.2 (-1)))) t9.heap) (va_A (wC cy ad I S) sz)) (xW (S := AI × AS) (fun E u => ((E = eIOO ∧ ¬ plP (I 0) x b) ∨ (E = eIAE ∧ plP (I 0) x b ∧ ¬ ddP d d2) ∨ (E = eISE ∧ plP (I 0) x b ∧ ddP d d2 ∧ ¬ I 1 < 60)) ∧ scr I S u.1 u.2) (fun u => (wC cy ad u.1 u.2)) D (va_A (wC cy ad I S) sz)) 3 18 (va_A (wC cy ad I S) sz) := by
  refine enterX (cc := cX6_tell) (by decide) (Nat.le_of_ble_eq_true rfl) ?_
  intro p e s m below meth c hx hb hr hml hown hts hlocks hT hv Q hQ ls hl
  obtain ⟨hsz, hP, hK, hD0, hE, hZ⟩ := hv
  subst hsz
  have hD := hD0.self (sz := s.heap.size)
  generalize hAe : va_A (wC cy ad I S) s.heap.size = A at hD hQ hZ ⊢
  have hA : ∀ q : Nat, s.heap.size ≤ q → A q := fun q h => by rw [← hAe]; exact Or.inr h
  have hS : va_S A s.heap s.heap [] := va_S.rf
  suffices K_ : ∀ (H : Heap) (locs : List Loc), va_P D clW (wC cy ad I S) H → va_S A s.heap H locs → W p l e ({ frames := 8, cells := 3, slots := 18, locals := 133 }) s m ([.ref (ad 0), .int x, .int b, .int v, .int d, .int d2] : List Value).toArray below meth c H locs 0 0 Q (F0 m 0 ls []) from K_ _ _ hP hS
  clear hP hS
  intro H locs hP hS
  have hown : s.vm.findClass RX6 = some m.cls := hown
  have hl : lv_has ls 6 [(0, .ref (ad 0)), (1, .int x), (2, .int b), (3, .int v), (4, .int d), (5, .int d2)] := hl
  obtain ⟨hn, hn6, hk, hk3, hh, hhn, hfr, hfo, hch⟩ := id hc
  have hk8 : k ≤ 180 := by omega
  refine lv_aload_n hx hb dX6_tell_0 rfl (lv_at hl 0 rfl) ?_
  refine lv_iload_n hx hb dX6_tell_1 rfl (lv_at hl 1 rfl) ?_
  refine lv_iload_n hx hb dX6_tell_2 rfl (lv_at hl 2 rfl) ?_
  refine yR_call (vx_runV (As := [.int x, .int b]) (rest := []) ⟨hx, hb, hml, hown, hts⟩ (c_X6_requireAttribute l hl0 D cy ad I S x b) (cw_X6_65 hts rfl rfl ⟨Nat.le_of_ble_eq_true rfl, Nat.le_of_ble_eq_true rfl⟩) (preVRX (ci := 6) (q0 := 0) hK hE (hZ.now hS).no hP rfl rfl) rfl rfl hl.1 rfl (lv_room (Nat.le_of_ble_eq_true rfl)) dX6_tell_3 ⟨Nat.le_of_ble_eq_true rfl, Nat.le_of_ble_eq_true rfl⟩) (I, S) hS hP hT hlocks hQ (Nat.le_of_ble_eq_true rfl) (Nat.le_of_ble_eq_true rfl) (fun E h => ⟨Or.inl ⟨h.1, h.2⟩, scr_0 _ _⟩) (fun q3_1 => ?_)
  refine lv_aload_n hx hb dX6_tell_6 rfl (lv_at hl 0 rfl) ?_
  refine lv_iload hx hb dX6_tell_7 (lv_at hl 4 rfl) ?_
  refine lv_iload hx hb dX6_tell_9 (lv_at hl 5 rfl) ?_
  refine yR_call (vx_runV (As := [.int d, .int d2]) (rest := []) ⟨hx, hb, hml, hown, hts⟩ (c_X6_requireDays l hl0 D cy ad I S d d2) (cw_X6_69 hts rfl rfl ⟨Nat.le_of_ble_eq_true rfl, Nat.le_of_ble_eq_true rfl⟩) (preVRX (ci := 6) (q0 := 0) hK hE (hZ.now hS).no hP rfl rfl) rfl rfl hl.1 rfl (lv_room (Nat.le_of_ble_eq_true rfl)) dX6_tell_11 ⟨Nat.le_of_ble_eq_true rfl, Nat.le_of_ble_eq_true rfl⟩) (I, S) hS hP hT hlocks hQ (Nat.le_of_ble_eq_true rfl) (Nat.le_of_ble_eq_true rfl) (fun E h => ⟨Or.inr (Or.inl ⟨h.1, q3_1, h.2⟩), scr_0 _ _⟩) (fun q11_2 => ?_)
  refine lv_aload_n hx hb dX6_tell_14 rfl (lv_at hl 0 rfl) ?_
  refine yR_call (vx_runV (As := []) (rest := []) ⟨hx, hb, hml, hown, hts⟩ (c_X6_requireFreeTick l hl0 D cy ad I S) (cw_X6_72 hts rfl rfl ⟨Nat.le_of_ble_eq_true rfl, Nat.le_of_ble_eq_true rfl⟩) (preVRX (ci := 6) (q0 := 0) hK hE (hZ.now hS).no hP rfl rfl) rfl rfl hl.1 rfl (lv_room (Nat.le_of_ble_eq_true rfl)) dX6_tell_15 ⟨Nat.le_of_ble_eq_true rfl, Nat.le_of_ble_eq_true rfl⟩) (I, S) hS hP hT hlocks hQ (Nat.le_of_ble_eq_true rfl) (Nat.le_of_ble_eq_true rfl) (fun E h => ⟨Or.inr (Or.inr ⟨h.1, q3_1, q11_2, h.2⟩), scr_0 _ _⟩) (fun q15_3 => ?_)
  refine lv_aload_n hx hb dX6_tell_18 rfl (lv_at hl 0 rfl) ?_
  refine lv_bipush (v := 116) hx hb dX6_tell_19 (by decide) ?_
  refine lv_iload_n hx hb dX6_tell_21 rfl (lv_at hl 1 rfl) ?_
  refine lv_iload_n hx hb dX6_tell_22 rfl (lv_at hl 2 rfl) ?_
  refine rI_call (va_runS (As := [.int x, .int b]) (rest := [.int 116, .ref (ad 0)]) ⟨hx, hb, hml, hown, hts⟩ (c_X6_slotOf l D cy x b) (cw_X6_75 hts rfl rfl ⟨Nat.le_of_ble_eq_true rfl, Nat.le_of_ble_eq_true rfl⟩) (preSR hK (hP.sub [] rfl)) rfl rfl hl.1 rfl (lv_room (Nat.le_of_ble_eq_true rfl)) dX6_tell_23 ⟨Nat.le_of_ble_eq_true rfl, Nat.le_of_ble_eq_true rfl⟩) (fun r hr_ => ?_)
  subst hr_
  refine lv_iload_n hx hb dX6_tell_26 rfl (lv_at hl 3 rfl) ?_
  refine lv_iload hx hb dX6_tell_27 (lv_at hl 4 rfl) ?_
  refine lv_iload hx hb dX6_tell_29 (lv_at hl 5 rfl) ?_
  refine wI_call (va_runV (As := [.int 116, .int (slI x b), .int v, .int d, .int d2]) (rest := []) ⟨hx, hb, hml, hown, hts⟩ (c_X6_believe l D cy ad I S H.size 116 (slI x b) v d d2 k n hk hn (by have h9 := q15_3; rw [hn] at h9; exact nt_lt (a := n) (b := 60) (by omega) (by omega) h9) (by omega) rfl) (cw_X6_79 hts rfl rfl ⟨Nat.le_of_ble_eq_true rfl, Nat.le_of_ble_eq_true rfl⟩) (preVW (ci := 6) (q0 := 0) hK hP hD rfl rfl) rfl rfl hl.1 rfl (lv_room (Nat.le_of_ble_eq_true rfl)) dX6_tell_31 ⟨Nat.le_of_ble_eq_true rfl, Nat.le_of_ble_eq_true rfl⟩) hP hD hS hA [0, 1, 2, 3, 4, 5, 6, 7, 8, 9, 10, 11, 12, 13, 14, 15, 16, 17, 18, 19, 20, 21, 22, 23, 24, 25, 26, 27, 28] rfl [.inr 0, .inr 1, .inr 2, .inr 3, .inr 4, .inr 5, .inr 6, .inr 7, .inr 8, .inr 9, .inr 10, .inr 11, .inr 12, .inr 13, .inr 14, .inr 15, .inr 16, .inr 17, .inr 18, .inr 19, .inr 20, .inr 21, .inr 22, .inr 23, .inr 24, .inr 25, .inr 26, .inr 27, .inr 28] (by decide) (fun u => (wC cy ad (va_up (va_up (va_up I 1 (nI (n + 1))) 2 (nI (u.2.2 + 1))) 3 (u.1 3)) (va_up (va_up (va_up (va_up (va_up (va_up (va_up (va_up (va_up (va_up (va_up S 2 (upd (S 2) (n + 1) 116)) 3 (upd (S 3) (n + 1) (slI x b))) 4 (upd (S 4) (n + 1) v)) 5 (upd (S 5) (n + 1) d)) 6 (upd (S 6) (n + 1) d2)) 8 (upd (u.2.1 8) u.2.2 (slI x b))) 9 (upd (u.2.1 9) u.2.2 v)) 10 (upd (u.2.1 10) u.2.2 d)) 11 (upd (u.2.1 11) u.2.2 d2)) 12 (upd (u.2.1 12) u.2.2 (nI (n + 1)))) 13 (upd (u.2.1 13) u.2.2 (-1))))) (fun _ => rfl) (fun _ => rfl) (fun r31_4 u31_4 H locs q31_4 hP hD hS hkp => ?_)
  obtain ⟨I2_4, S2_4, k2_4⟩ := u31_4
  have hP : va_P D clW (wC cy ad (va_up (va_up (va_up I 1 (nI (n + 1))) 2 (nI (k2_4 + 1))) 3 (I2_4 3)) (va_up (va_up (va_up (va_up (va_up (va_up (va_up (va_up (va_up (va_up (va_up S 2 (upd (S 2) (n + 1) 116)) 3 (upd (S 3) (n + 1) (slI x b))) 4 (upd (S 4) (n + 1) v)) 5 (upd (S 5) (n + 1) d)) 6 (upd (S 6) (n + 1) d2)) 8 (upd (S2_4 8) k2_4 (slI x b))) 9 (upd (S2_4 9) k2_4 v)) 10 (upd (S2_4 10) k2_4 d)) 11 (upd (S2_4 11) k2_4 d2)) 12 (upd (S2_4 12) k2_4 (nI (n + 1)))) 13 (upd (S2_4 13) k2_4 (-1)))) H := hP
  have hD : va_D A (wC cy ad (va_up (va_up (va_up I 1 (nI (n + 1))) 2 (nI (k2_4 + 1))) 3 (I2_4 3)) (va_up (va_up (va_up (va_up (va_up (va_up (va_up (va_up (va_up (va_up (va_up S 2 (upd (S 2) (n + 1) 116)) 3 (upd (S 3) (n + 1) (slI x b))) 4 (upd (S 4) (n + 1) v)) 5 (upd (S 5) (n + 1) d)) 6 (upd (S 6) (n + 1) d2)) 8 (upd (S2_4 8) k2_4 (slI x b))) 9 (upd (S2_4 9) k2_4 v)) 10 (upd (S2_4 10) k2_4 d)) 11 (upd (S2_4 11) k2_4 d2)) 12 (upd (S2_4 12) k2_4 (nI (n + 1)))) 13 (upd (S2_4 13) k2_4 (-1)))) := hD
  obtain ⟨rfl, hcl_4, hka_4, hkb_4, hkc_4, hkd_4⟩ := q31_4
  exact yI_ret (I2_4, S2_4, k2_4) hS hP hx hb hr hlocks dX6_tell_34 rfl (Nat.le_of_ble_eq_true rfl) (Nat.le_of_ble_eq_true rfl) hQ ⟨rfl, hcl_4, hka_4, hkb_4, hkc_4, hkd_4, q3_1, q11_2, q15_3⟩
set_option maxHeartbeats 4000000 in
set_option maxRecDepth 100000 in
theorem c_X6_retract (l : Launch) (hl0 : l.stackTraces = false) (D : va_G) (cy : Nat → ClassId) (ad : Nat → Nat) (I : AI) (S : AS) (sz : Nat) (x : Int32) (b : Int32) (d : Int32) (d2 : Int32) (k : Nat) (n : Nat) (h : Nat) (fr : Nat → Nat) (to : Nat → Nat) (ofr : Nat → Nat) (oto : Nat → Nat) (hc : CIv I S k n h fr to ofr oto) : vx_Met l yX6_retract (Cond.code yX6_retract cX6_retract 8 (some .int) :: wsL_law) ({ frames := 8, cells := 3, slots := 18, locals := 133 }) (va_Pc [.ref (ad 0), .int x, .int b, .int d, .int d2] (wxB D cy (wC cy ad I S) sz)) (va_Qi (S := AI × AS) (fun r u => r = cdN S (slI x b) d d2 (nI n) k ∧ clearP (addI I n) (addS S n 114 (slI x b) 0 d d2) (slI x b) d d2 (nI (n + 1)) k u.1 u.2 ∧ plP (I 0) x b ∧ ddP d d2 ∧ ¬ cdN S (slI x b) d d2 (nI n) k = 0 ∧ I 1 < 60) (fun u t9 => va_P D clW (wC cy ad (va_up (va_up (va_up I 1 (nI (n + 1))) 2 (u.1 2)) 3 (u.1 3)) (va_up (va_up (va_up (va_up (va_up (va_up (va_up (va_up (va_up (va_up (va_up S 2 (upd (S 2) (n + 1) 114)) 3 (upd (S 3) (n + 1) (slI x b))) 4 (upd (S 4) (n + 1) 0)) 5 (upd (S 5) (n + 1) d)) 6 (upd (S 6) (n + 1) d2)) 8 (u.2 8)) 9 (u.2 9)) 10 (u.2 10)) 11 (u.2 11)) 12 (u.2 12)) 13 (u.2 13))) t9.heap) (va_A (wC cy ad I S) sz)) (xW (S := AI × AS) (fun E u => ((E = eIOO ∧ ¬ plP (I 0) x b) ∨ (E = eIAE ∧ plP (I 0) x b ∧ ¬ ddP d d2) ∨ (E = eNSE ∧ plP (I 0) x b ∧ ddP d d2 ∧ cdN S (slI x b) d d2 (nI n) k = 0) ∨ (E = eISE ∧ plP (I 0) x b ∧ ddP d d2 ∧ ¬ cdN S (slI x b) d d2 (nI n) k = 0 ∧ ¬ I 1 < 60)) ∧ scr I S u.1 u.2) (fun u => (wC cy ad u.1 u.2)) D (va_A (wC cy ad I S) sz)) 3 18 (va_A (wC cy ad I S) sz) := by
  refine enterX (cc := cX6_retract) (by decide) (Nat.le_of_ble_eq_true rfl) ?_
  intro p e s m below meth c hx hb hr hml hown hts hlocks hT hv Q hQ ls hl
  obtain ⟨hsz, hP, hK, hD0, hE, hZ⟩ := hv
  subst hsz
  have hD := hD0.self (sz := s.heap.size)
  generalize hAe : va_A (wC cy ad I S) s.heap.size = A at hD hQ hZ ⊢
  have hA : ∀ q : Nat, s.heap.size ≤ q → A q := fun q h => by rw [← hAe]; exact Or.inr h
  have hS : va_S A s.heap s.heap [] := va_S.rf
  suffices K_ : ∀ (H : Heap) (locs : List Loc), va_P D clW (wC cy ad I S) H → va_S A s.heap H locs → W p l e ({ frames := 8, cells := 3, slots := 18, locals := 133 }) s m ([.ref (ad 0), .int x, .int b, .int d, .int d2] : List Value).toArray below meth c H locs 0 0 Q (F0 m 0 ls []) from K_ _ _ hP hS
  clear hP hS
  intro H locs hP hS
  have hown : s.vm.findClass RX6 = some m.cls := hown
  have hl : lv_has ls 8 [(0, .ref (ad 0)), (1, .int x), (2, .int b), (3, .int d), (4, .int d2)] := hl
  obtain ⟨hn, hn6, hk, hk3, hh, hhn, hfr, hfo, hch⟩ := id hc
  have hk8 : k ≤ 180 := by omega
  refine lv_aload_n hx hb dX6_retract_0 rfl (lv_at hl 0 rfl) ?_
  refine lv_iload_n hx hb dX6_retract_1 rfl (lv_at hl 1 rfl) ?_
  refine lv_iload_n hx hb dX6_retract_2 rfl (lv_at hl 2 rfl) ?_
  refine yR_call (vx_runV (As := [.int x, .int b]) (rest := []) ⟨hx, hb, hml, hown, hts⟩ (c_X6_requireAttribute l hl0 D cy ad I S x b) (cw_X6_65 hts rfl rfl ⟨Nat.le_of_ble_eq_true rfl, Nat.le_of_ble_eq_true rfl⟩) (preVRX (ci := 6) (q0 := 0) hK hE (hZ.now hS).no hP rfl rfl) rfl rfl hl.1 rfl (lv_room (Nat.le_of_ble_eq_true rfl)) dX6_retract_3 ⟨Nat.le_of_ble_eq_true rfl, Nat.le_of_ble_eq_true rfl⟩) (I, S) hS hP hT hlocks hQ (Nat.le_of_ble_eq_true rfl) (Nat.le_of_ble_eq_true rfl) (fun E h => ⟨Or.inl ⟨h.1, h.2⟩, scr_0 _ _⟩) (fun q3_1 => ?_)
  refine lv_aload_n hx hb dX6_retract_6 rfl (lv_at hl 0 rfl) ?_
  refine lv_iload_n hx hb dX6_retract_7 rfl (lv_at hl 3 rfl) ?_
  refine lv_iload hx hb dX6_retract_8 (lv_at hl 4 rfl) ?_
  refine yR_call (vx_runV (As := [.int d, .int d2]) (rest := []) ⟨hx, hb, hml, hown, hts⟩ (c_X6_requireDays l hl0 D cy ad I S d d2) (cw_X6_69 hts rfl rfl ⟨Nat.le_of_ble_eq_true rfl, Nat.le_of_ble_eq_true rfl⟩) (preVRX (ci := 6) (q0 := 0) hK hE (hZ.now hS).no hP rfl rfl) rfl rfl hl.1 rfl (lv_room (Nat.le_of_ble_eq_true rfl)) dX6_retract_10 ⟨Nat.le_of_ble_eq_true rfl, Nat.le_of_ble_eq_true rfl⟩) (I, S) hS hP hT hlocks hQ (Nat.le_of_ble_eq_true rfl) (Nat.le_of_ble_eq_true rfl) (fun E h => ⟨Or.inr (Or.inl ⟨h.1, q3_1, h.2⟩), scr_0 _ _⟩) (fun q10_2 => ?_)
  refine lv_iload_n hx hb dX6_retract_13 rfl (lv_at hl 1 rfl) ?_
  refine lv_iload_n hx hb dX6_retract_14 rfl (lv_at hl 2 rfl) ?_
  refine rI_call (va_runS (As := [.int x, .int b]) (rest := []) ⟨hx, hb, hml, hown, hts⟩ (c_X6_slotOf l D cy x b) (cw_X6_75 hts rfl rfl ⟨Nat.le_of_ble_eq_true rfl, Nat.le_of_ble_eq_true rfl⟩) (preSR hK (hP.sub [] rfl)) rfl rfl hl.1 rfl (lv_room (Nat.le_of_ble_eq_true rfl)) dX6_retract_15 ⟨Nat.le_of_ble_eq_true rfl, Nat.le_of_ble_eq_true rfl⟩) (fun r hr_ => ?_)
  subst hr_
  refine lv_istore (lv' := [(5, .int (slI x b)), (0, .ref (ad 0)), (1, .int x), (2, .int b), (3, .int d), (4, .int d2)]) hx hb dX6_retract_18 hl (by decide) rfl (fun ls hl => ?_)
  refine lv_aload_n hx hb dX6_retract_20 rfl (lv_at hl 1 rfl) ?_
  refine gf_X6_19 hx hb hts hown hK hP 0 rfl (v := .ref (ad 7)) rfl dX6_retract_21 ?_
  refine lv_iload hx hb dX6_retract_24 (lv_at hl 0 rfl) ?_
  refine lv_iload_n hx hb dX6_retract_26 rfl (lv_at hl 4 rfl) ?_
  refine lv_iload hx hb dX6_retract_27 (lv_at hl 5 rfl) ?_
  refine lv_aload_n hx hb dX6_retract_29 rfl (lv_at hl 1 rfl) ?_
  refine gf_X6_12 hx hb hts hown hK hP 0 rfl (v := .ref (ad 1)) rfl dX6_retract_30 ?_
  refine rI_call (va_runV (As := []) (rest := [.int d2, .int d, .int (slI x b), .ref (ad 7)]) ⟨hx, hb, hml, hown, hts⟩ (c_X3_now l D cy ad I S) (cw_X6_83 hts rfl rfl ⟨Nat.le_of_ble_eq_true rfl, Nat.le_of_ble_eq_true rfl⟩) (preVR (ci := 3) (q0 := 0) hK (hP.sub [1, 2, 3, 4, 5, 6] rfl) rfl rfl) rfl rfl hl.1 rfl (lv_room (Nat.le_of_ble_eq_true rfl)) dX6_retract_33 ⟨Nat.le_of_ble_eq_true rfl, Nat.le_of_ble_eq_true rfl⟩) (fun r hr_ => ?_)
  subst hr_
  refine top_eq hn ?_
  refine rI_call (va_runV (As := [.int (slI x b), .int d, .int d2, .int (nI n)]) (rest := []) ⟨hx, hb, hml, hown, hts⟩ (c_X0_countDays l D cy ad I S (slI x b) d d2 (nI n) k hk (by omega)) (cw_X6_87 hts rfl rfl ⟨Nat.le_of_ble_eq_true rfl, Nat.le_of_ble_eq_true rfl⟩) (preVR (ci := 0) (q0 := 0) hK (hP.sub [7, 8, 9, 10, 11, 12, 13] rfl) rfl rfl) rfl rfl hl.1 rfl (lv_room (Nat.le_of_ble_eq_true rfl)) dX6_retract_36 ⟨Nat.le_of_ble_eq_true rfl, Nat.le_of_ble_eq_true rfl⟩) (fun r hr_ => ?_)
  subst hr_
  refine lv_istore (lv' := [(6, .int (cdN S (slI x b) d d2 (nI n) k)), (5, .int (slI x b)), (0, .ref (ad 0)), (1, .int x), (2, .int b), (3, .int d), (4, .int d2)]) hx hb dX6_retract_39 hl (by decide) rfl (fun ls hl => ?_)
  refine lv_iload hx hb dX6_retract_41 (lv_at hl 0 rfl) ?_
  refine lv_if_ne (tgt := 56) hx hb dX6_retract_43 (by decide) (fun c43_3 => ?_) (fun c43_3 => ?_)
  · refine lv_aload_n hx hb dX6_retract_56 rfl (lv_at hl 2 rfl) ?_
    refine yR_call (vx_runV (As := []) (rest := []) ⟨hx, hb, hml, hown, hts⟩ (c_X6_requireFreeTick l hl0 D cy ad I S) (cw_X6_72 hts rfl rfl ⟨Nat.le_of_ble_eq_true rfl, Nat.le_of_ble_eq_true rfl⟩) (preVRX (ci := 6) (q0 := 0) hK hE (hZ.now hS).no hP rfl rfl) rfl rfl hl.1 rfl (lv_room (Nat.le_of_ble_eq_true rfl)) dX6_retract_57 ⟨Nat.le_of_ble_eq_true rfl, Nat.le_of_ble_eq_true rfl⟩) (I, S) hS hP hT hlocks hQ (Nat.le_of_ble_eq_true rfl) (Nat.le_of_ble_eq_true rfl) (fun E h => ⟨Or.inr (Or.inr (Or.inr ⟨h.1, q3_1, q10_2, c43_3, h.2⟩)), scr_0 _ _⟩) (fun q57_4 => ?_)
    have hnn : n < 60 := by have h9 := q57_4; rw [hn] at h9; exact nt_lt (a := n) (b := 60) (by omega) (by omega) h9
    refine lv_aload_n hx hb dX6_retract_60 rfl (lv_at hl 2 rfl) ?_
    refine gf_X6_12 hx hb hts hown hK hP 0 rfl (v := .ref (ad 1)) rfl dX6_retract_61 ?_
    refine lv_bipush (v := 114) hx hb dX6_retract_64 (by decide) ?_
    refine lv_iload hx hb dX6_retract_66 (lv_at hl 1 rfl) ?_
    refine lv_iconst (v := 0) hx hb dX6_retract_68 (by decide) ?_
    refine lv_iload_n hx hb dX6_retract_69 rfl (lv_at hl 5 rfl) ?_
    refine lv_iload hx hb dX6_retract_70 (lv_at hl 6 rfl) ?_
    refine wI_call (va_runV (As := [.int 114, .int (slI x b), .int 0, .int d, .int d2]) (rest := []) ⟨hx, hb, hml, hown, hts⟩ (c_X3_add l D cy ad I S H.size 114 (slI x b) 0 d d2 n hn hnn rfl) (cw_X6_96 hts rfl rfl ⟨Nat.le_of_ble_eq_true rfl, Nat.le_of_ble_eq_true rfl⟩) (preVW (ci := 3) (q0 := 0) hK (hP.sub [1, 2, 3, 4, 5, 6] rfl) (hD.sub [1, 2, 3, 4, 5, 6] (by decide) rfl) rfl rfl) rfl rfl hl.1 rfl (lv_room (Nat.le_of_ble_eq_true rfl)) dX6_retract_72 ⟨Nat.le_of_ble_eq_true rfl, Nat.le_of_ble_eq_true rfl⟩) hP hD hS hA [1, 2, 3, 4, 5, 6] rfl [.inl 0, .inr 0, .inr 1, .inr 2, .inr 3, .inr 4, .inr 5, .inl 7, .inl 8, .inl 9, .inl 10, .inl 11, .inl 12, .inl 13, .inl 14, .inl 15, .inl 16, .inl 17, .inl 18, .inl 19, .inl 20, .inl 21, .inl 22, .inl 23, .inl 24, .inl 25, .inl 26, .inl 27, .inl 28] (by decide) (fun u => (wC cy ad (va_up I 1 (nI (n + 1))) (va_up (va_up (va_up (va_up (va_up S 2 (upd (S 2) (n + 1) 114)) 3 (upd (S 3) (n + 1) (slI x b))) 4 (upd (S 4) (n + 1) 0)) 5 (upd (S 5) (n + 1) d)) 6 (upd (S 6) (n + 1) d2)))) (fun _ => rfl) (fun _ => rfl) (fun r72_5 u72_5 H locs q72_5 hP hD hS hkp => ?_)
    have hP : va_P D clW (wC cy ad (va_up I 1 (nI (n + 1))) (va_up (va_up (va_up (va_up (va_up S 2 (upd (S 2) (n + 1) 114)) 3 (upd (S 3) (n + 1) (slI x b))) 4 (upd (S 4) (n + 1) 0)) 5 (upd (S 5) (n + 1) d)) 6 (upd (S 6) (n + 1) d2))) H := hP
    have hD : va_D A (wC cy ad (va_up I 1 (nI (n + 1))) (va_up (va_up (va_up (va_up (va_up S 2 (upd (S 2) (n + 1) 114)) 3 (upd (S 3) (n + 1) (slI x b))) 4 (upd (S 4) (n + 1) 0)) 5 (upd (S 5) (n + 1) d)) 6 (upd (S 6) (n + 1) d2))) := hD
    subst q72_5
    refine lv_istore (lv' := [(7, .int (nI (n + 1))), (6, .int (cdN S (slI x b) d d2 (nI n) k)), (5, .int (slI x b)), (0, .ref (ad 0)), (1, .int x), (2, .int b), (3, .int d), (4, .int d2)]) hx hb dX6_retract_75 hl (by decide) rfl (fun ls hl => ?_)
    refine lv_aload_n hx hb dX6_retract_77 rfl (lv_at hl 3 rfl) ?_
    refine gf_X6_19 hx hb hts hown hK hP 0 rfl (v := .ref (ad 7)) rfl dX6_retract_78 ?_
    refine lv_iload hx hb dX6_retract_81 (lv_at hl 2 rfl) ?_
    refine lv_iload_n hx hb dX6_retract_83 rfl (lv_at hl 6 rfl) ?_
    refine lv_iload hx hb dX6_retract_84 (lv_at hl 7 rfl) ?_
    refine lv_iload hx hb dX6_retract_86 (lv_at hl 0 rfl) ?_
    refine wI_call (va_runV (As := [.int (slI x b), .int d, .int d2, .int (nI (n + 1))]) (rest := []) ⟨hx, hb, hml, hown, hts⟩ (c_X0_clear l D cy ad (addI I n) (addS S n 114 (slI x b) 0 d d2) H.size (slI x b) d d2 (nI (n + 1)) k hk (by omega)) (cw_X6_99 hts rfl rfl ⟨Nat.le_of_ble_eq_true rfl, Nat.le_of_ble_eq_true rfl⟩) (preVW (ci := 0) (q0 := 0) hK (hP.sub [7, 8, 9, 10, 11, 12, 13] rfl) (hD.sub [7, 8, 9, 10, 11, 12, 13] (by decide) rfl) rfl rfl) rfl rfl hl.1 rfl (lv_room (Nat.le_of_ble_eq_true rfl)) dX6_retract_88 ⟨Nat.le_of_ble_eq_true rfl, Nat.le_of_ble_eq_true rfl⟩) hP hD hS hA [7, 8, 9, 10, 11, 12, 13] rfl [.inl 0, .inl 1, .inl 2, .inl 3, .inl 4, .inl 5, .inl 6, .inr 0, .inr 1, .inr 2, .inr 3, .inr 4, .inr 5, .inr 6, .inl 14, .inl 15, .inl 16, .inl 17, .inl 18, .inl 19, .inl 20, .inl 21, .inl 22, .inl 23, .inl 24, .inl 25, .inl 26, .inl 27, .inl 28] (by decide) (fun u => (wC cy ad (va_up (va_up (va_up I 1 (nI (n + 1))) 2 (u.1 2)) 3 (u.1 3)) (va_up (va_up (va_up (va_up (va_up (va_up (va_up (va_up (va_up (va_up (va_up S 2 (upd (S 2) (n + 1) 114)) 3 (upd (S 3) (n + 1) (slI x b))) 4 (upd (S 4) (n + 1) 0)) 5 (upd (S 5) (n + 1) d)) 6 (upd (S 6) (n + 1) d2)) 8 (u.2 8)) 9 (u.2 9)) 10 (u.2 10)) 11 (u.2 11)) 12 (u.2 12)) 13 (u.2 13)))) (fun _ => rfl) (fun _ => rfl) (fun r88_6 u88_6 H locs q88_6 hP hD hS hkp => ?_)
    obtain ⟨I2_6, S2_6⟩ := u88_6
    have hP : va_P D clW (wC cy ad (va_up (va_up (va_up I 1 (nI (n + 1))) 2 (I2_6 2)) 3 (I2_6 3)) (va_up (va_up (va_up (va_up (va_up (va_up (va_up (va_up (va_up (va_up (va_up S 2 (upd (S 2) (n + 1) 114)) 3 (upd (S 3) (n + 1) (slI x b))) 4 (upd (S 4) (n + 1) 0)) 5 (upd (S 5) (n + 1) d)) 6 (upd (S 6) (n + 1) d2)) 8 (S2_6 8)) 9 (S2_6 9)) 10 (S2_6 10)) 11 (S2_6 11)) 12 (S2_6 12)) 13 (S2_6 13))) H := hP
    have hD : va_D A (wC cy ad (va_up (va_up (va_up I 1 (nI (n + 1))) 2 (I2_6 2)) 3 (I2_6 3)) (va_up (va_up (va_up (va_up (va_up (va_up (va_up (va_up (va_up (va_up (va_up S 2 (upd (S 2) (n + 1) 114)) 3 (upd (S 3) (n + 1) (slI x b))) 4 (upd (S 4) (n + 1) 0)) 5 (upd (S 5) (n + 1) d)) 6 (upd (S 6) (n + 1) d2)) 8 (S2_6 8)) 9 (S2_6 9)) 10 (S2_6 10)) 11 (S2_6 11)) 12 (S2_6 12)) 13 (S2_6 13))) := hD
    obtain ⟨rfl, hcl_6⟩ := q88_6
    refine lv_pop hx hb dX6_retract_91 rfl ?_
    refine lv_iload hx hb dX6_retract_92 (lv_at hl 1 rfl) ?_
    exact yI_ret (I2_6, S2_6) hS hP hx hb hr hlocks dX6_retract_94 rfl (Nat.le_of_ble_eq_true rfl) (Nat.le_of_ble_eq_true rfl) hQ ⟨rfl, hcl_6, q3_1, q10_2, c43_3, q57_4⟩
  · exact th_NSE (A := A) (List.mem_of_getElem? (i := 1) rfl) hx hb hl0 hown hts hE hZ hS (hl.1.trans hml.symm) dX6_retract_46 dX6_retract_49 dX6_retract_50 dX6_retract_52 dX6_retract_55 hT (Nat.le_of_ble_eq_true rfl) (Nat.le_of_ble_eq_true rfl) (Nat.le_of_ble_eq_true rfl) (Nat.le_of_ble_eq_true rfl) hlocks (Nat.le_of_ble_eq_true rfl) (Nat.le_of_ble_eq_true rfl) hS.2.2 hQ (fun t _ hz hk => ⟨(I, S), trivial, ⟨⟨Or.inr (Or.inr (Or.inl ⟨rfl, q3_1, q10_2, c43_3⟩)), scr_0 _ _⟩, keptP_all hP hk⟩, (keptS_all hS hz hk).F rfl⟩)
set_option maxHeartbeats 4000000 in
set_option maxRecDepth 100000 in
theorem c_X6_correct (l : Launch) (hl0 : l.stackTraces = false) (D : va_G) (cy : Nat → ClassId) (ad : Nat → Nat) (I : AI) (S : AS) (sz : Nat) (x : Int32) (b : Int32) (d : Int32) (v : Int32) (k : Nat) (n : Nat) (h : Nat) (fr : Nat → Nat) (to : Nat → Nat) (ofr : Nat → Nat) (oto : Nat → Nat) (hc : CIv I S k n h fr to ofr oto) : vx_Met l yX6_correct (Cond.code yX6_correct cX6_correct 9 (some .int) :: wsL_law) ({ frames := 8, cells := 4, slots := 24, locals := 133 }) (va_Pc [.ref (ad 0), .int x, .int b, .int d, .int v] (wxB D cy (wC cy ad I S) sz)) (va_Qi (S := AI × AS × Nat × Nat) (fun r u => r = S 11 u.2.2.2 - S 10 u.2.2.2 ∧ clearP (addI I n) (addS S n 99 (slI x b) v (S 10 u.2.2.2) (S 11 u.2.2.2)) (slI x b) (S 10 u.2.2.2) (S 11 u.2.2.2) (nI (n + 1)) k u.1 u.2.1 ∧ k ≤ u.2.2.1 ∧ u.2.2.1 ≤ k + 2 ∧ u.1 2 = nI u.2.2.1 ∧ u.1 3 = I 3 ∧ u.2.2.2 < k ∧ fndN S (slI x b) d (nI n) k = nI u.2.2.2 ∧ plP (I 0) x b ∧ dyP d ∧ I 1 < 60) (fun u t9 => va_P D clW (wC cy ad (va_up (va_up (va_up I 1 (nI (n + 1))) 2 (nI (u.2.2.1 + 1))) 3 (u.1 3)) (va_up (va_up (va_up (va_up (va_up (va_up (va_up (va_up (va_up (va_up (va_up S 2 (upd (S 2) (n + 1) 99)) 3 (upd (S 3) (n + 1) (slI x b))) 4 (upd (S 4) (n + 1) v)) 5 (upd (S 5) (n + 1) ((S 10) u.2.2.2))) 6 (upd (S 6) (n + 1) ((S 11) u.2.2.2))) 8 (upd (u.2.1 8) u.2.2.1 (slI x b))) 9 (upd (u.2.1 9) u.2.2.1 v)) 10 (upd (u.2.1 10) u.2.2.1 ((S 10) u.2.2.2))) 11 (upd (u.2.1 11) u.2.2.1 ((S 11) u.2.2.2))) 12 (upd (u.2.1 12) u.2.2.1 (nI (n + 1)))) 13 (upd (u.2.1 13) u.2.2.1 (-1)))) t9.heap) (va_A (wC cy ad I S) sz)) (xW (S := AI × AS) (fun E u => ((E = eIOO ∧ ¬ plP (I 0) x b) ∨ (E = eIAE ∧ plP (I 0) x b ∧ ¬ dyP d) ∨ (E = eNSE ∧ plP (I 0) x b ∧ dyP d ∧ fndN S (slI x b) d (nI n) k = -1) ∨ (E = eISE ∧ plP (I 0) x b ∧ dyP d ∧ ¬ fndN S (slI x b) d (nI n) k = -1 ∧ ¬ I 1 < 60)) ∧ scr I S u.1 u.2) (fun u => (wC cy ad u.1 u.2)) D (va_A (wC cy ad I S) sz)) 4 24 (va_A (wC cy ad I S) sz) := by
  refine enterX (cc := cX6_correct) (by decide) (Nat.le_of_ble_eq_true rfl) ?_
  intro p e s m below meth c hx hb hr hml hown hts hlocks hT hv Q hQ ls hl
  obtain ⟨hsz, hP, hK, hD0, hE, hZ⟩ := hv
  subst hsz
  have hD := hD0.self (sz := s.heap.size)
  generalize hAe : va_A (wC cy ad I S) s.heap.size = A at hD hQ hZ ⊢
  have hA : ∀ q : Nat, s.heap.size ≤ q → A q := fun q h => by rw [← hAe]; exact Or.inr h
  have hS : va_S A s.heap s.heap [] := va_S.rf
  suffices K_ : ∀ (H : Heap) (locs : List Loc), va_P D clW (wC cy ad I S) H → va_S A s.heap H locs → W p l e ({ frames := 8, cells := 4, slots := 24, locals := 133 }) s m ([.ref (ad 0), .int x, .int b, .int d, .int v] : List Value).toArray below meth c H locs 0 0 Q (F0 m 0 ls []) from K_ _ _ hP hS
  clear hP hS
  intro H locs hP hS
  have hown : s.vm.findClass RX6 = some m.cls := hown
  have hl : lv_has ls 9 [(0, .ref (ad 0)), (1, .int x), (2, .int b), (3, .int d), (4, .int v)] := hl
  obtain ⟨hn, hn6, hk, hk3, hh, hhn, hfr, hfo, hch⟩ := id hc
  have hk8 : k ≤ 180 := by omega
  refine lv_aload_n hx hb dX6_correct_0 rfl (lv_at hl 0 rfl) ?_
  refine lv_iload_n hx hb dX6_correct_1 rfl (lv_at hl 1 rfl) ?_
  refine lv_iload_n hx hb dX6_correct_2 rfl (lv_at hl 2 rfl) ?_
  refine yR_call (vx_runV (As := [.int x, .int b]) (rest := []) ⟨hx, hb, hml, hown, hts⟩ (c_X6_requireAttribute l hl0 D cy ad I S x b) (cw_X6_65 hts rfl rfl ⟨Nat.le_of_ble_eq_true rfl, Nat.le_of_ble_eq_true rfl⟩) (preVRX (ci := 6) (q0 := 0) hK hE (hZ.now hS).no hP rfl rfl) rfl rfl hl.1 rfl (lv_room (Nat.le_of_ble_eq_true rfl)) dX6_correct_3 ⟨Nat.le_of_ble_eq_true rfl, Nat.le_of_ble_eq_true rfl⟩) (I, S) hS hP hT hlocks hQ (Nat.le_of_ble_eq_true rfl) (Nat.le_of_ble_eq_true rfl) (fun E h => ⟨Or.inl ⟨h.1, h.2⟩, scr_0 _ _⟩) (fun q3_1 => ?_)
  refine lv_aload_n hx hb dX6_correct_6 rfl (lv_at hl 0 rfl) ?_
  refine lv_iload_n hx hb dX6_correct_7 rfl (lv_at hl 3 rfl) ?_
  refine yR_call (vx_runV (As := [.int d]) (rest := []) ⟨hx, hb, hml, hown, hts⟩ (c_X6_requireDay l hl0 D cy ad I S d) (cw_X6_102 hts rfl rfl ⟨Nat.le_of_ble_eq_true rfl, Nat.le_of_ble_eq_true rfl⟩) (preVRX (ci := 6) (q0 := 0) hK hE (hZ.now hS).no hP rfl rfl) rfl rfl hl.1 rfl (lv_room (Nat.le_of_ble_eq_true rfl)) dX6_correct_8 ⟨Nat.le_of_ble_eq_true rfl, Nat.le_of_ble_eq_true rfl⟩) (I, S) hS hP hT hlocks hQ (Nat.le_of_ble_eq_true rfl) (Nat.le_of_ble_eq_true rfl) (fun E h => ⟨Or.inr (Or.inl ⟨h.1, q3_1, h.2⟩), scr_0 _ _⟩) (fun q8_2 => ?_)
  refine lv_iload_n hx hb dX6_correct_11 rfl (lv_at hl 1 rfl) ?_
  refine lv_iload_n hx hb dX6_correct_12 rfl (lv_at hl 2 rfl) ?_
  refine rI_call (va_runS (As := [.int x, .int b]) (rest := []) ⟨hx, hb, hml, hown, hts⟩ (c_X6_slotOf l D cy x b) (cw_X6_75 hts rfl rfl ⟨Nat.le_of_ble_eq_true rfl, Nat.le_of_ble_eq_true rfl⟩) (preSR hK (hP.sub [] rfl)) rfl rfl hl.1 rfl (lv_room (Nat.le_of_ble_eq_true rfl)) dX6_correct_13 ⟨Nat.le_of_ble_eq_true rfl, Nat.le_of_ble_eq_true rfl⟩) (fun r hr_ => ?_)
  subst hr_
  refine lv_istore (lv' := [(5, .int (slI x b)), (0, .ref (ad 0)), (1, .int x), (2, .int b), (3, .int d), (4, .int v)]) hx hb dX6_correct_16 hl (by decide) rfl (fun ls hl => ?_)
  refine lv_aload_n hx hb dX6_correct_18 rfl (lv_at hl 1 rfl) ?_
  refine gf_X6_19 hx hb hts hown hK hP 0 rfl (v := .ref (ad 7)) rfl dX6_correct_19 ?_
  refine lv_iload hx hb dX6_correct_22 (lv_at hl 0 rfl) ?_
  refine lv_iload_n hx hb dX6_correct_24 rfl (lv_at hl 4 rfl) ?_
  refine lv_aload_n hx hb dX6_correct_25 rfl (lv_at hl 1 rfl) ?_
  refine gf_X6_12 hx hb hts hown hK hP 0 rfl (v := .ref (ad 1)) rfl dX6_correct_26 ?_
  refine rI_call (va_runV (As := []) (rest := [.int d, .int (slI x b), .ref (ad 7)]) ⟨hx, hb, hml, hown, hts⟩ (c_X3_now l D cy ad I S) (cw_X6_83 hts rfl rfl ⟨Nat.le_of_ble_eq_true rfl, Nat.le_of_ble_eq_true rfl⟩) (preVR (ci := 3) (q0 := 0) hK (hP.sub [1, 2, 3, 4, 5, 6] rfl) rfl rfl) rfl rfl hl.1 rfl (lv_room (Nat.le_of_ble_eq_true rfl)) dX6_correct_29 ⟨Nat.le_of_ble_eq_true rfl, Nat.le_of_ble_eq_true rfl⟩) (fun r hr_ => ?_)
  subst hr_
  refine top_eq hn ?_
  refine rI_call (va_runV (As := [.int (slI x b), .int d, .int (nI n)]) (rest := []) ⟨hx, hb, hml, hown, hts⟩ (c_X0_find l D cy ad I S (slI x b) d (nI n) k hk (by omega)) (cw_X6_106 hts rfl rfl ⟨Nat.le_of_ble_eq_true rfl, Nat.le_of_ble_eq_true rfl⟩) (preVR (ci := 0) (q0 := 0) hK (hP.sub [7, 8, 9, 10, 11, 12, 13] rfl) rfl rfl) rfl rfl hl.1 rfl (lv_room (Nat.le_of_ble_eq_true rfl)) dX6_correct_32 ⟨Nat.le_of_ble_eq_true rfl, Nat.le_of_ble_eq_true rfl⟩) (fun r32_3 q32_3 => ?_)
  rcases q32_3 with ⟨j, hj, rfl, hh_, hm_⟩ | ⟨rfl, hno_⟩
  · have hfe := fnd1 hk8 hj hh_ hm_
    refine lv_istore (lv' := [(6, .int (nI j)), (5, .int (slI x b)), (0, .ref (ad 0)), (1, .int x), (2, .int b), (3, .int d), (4, .int v)]) hx hb dX6_correct_35 hl (by decide) rfl (fun ls hl => ?_)
    refine lv_aload_n hx hb dX6_correct_37 rfl (lv_at hl 2 rfl) ?_
    refine lv_iload hx hb dX6_correct_38 (lv_at hl 0 rfl) ?_
    refine lv_iconst (v := (-1)) hx hb dX6_correct_40 (by decide) ?_
    refine lv_icmp_eq (tgt := 48) hx hb dX6_correct_41 (by decide) (fun c => absurd c (nI_m1 (by omega))) (fun _ => ?_)
    refine lv_iconst (v := 1) hx hb dX6_correct_44 (by decide) ?_
    refine lv_goto (tgt := 49) hx hb dX6_correct_45 (by decide) ?_
    refine yR_call (vx_runV (As := [.int 1]) (rest := []) ⟨hx, hb, hml, hown, hts⟩ (c_X6_requireKnown l hl0 D cy ad I S 1) (cw_X6_110 hts rfl rfl ⟨Nat.le_of_ble_eq_true rfl, Nat.le_of_ble_eq_true rfl⟩) (preVRX (ci := 6) (q0 := 0) hK hE (hZ.now hS).no hP rfl rfl) rfl rfl hl.1 rfl (lv_room (Nat.le_of_ble_eq_true rfl)) dX6_correct_49 ⟨Nat.le_of_ble_eq_true rfl, Nat.le_of_ble_eq_true rfl⟩) (I, S) hS hP hT hlocks hQ (Nat.le_of_ble_eq_true rfl) (Nat.le_of_ble_eq_true rfl) (fun E h => absurd (by decide) h.2) (fun q49_4 => ?_)
    refine lv_aload_n hx hb dX6_correct_52 rfl (lv_at hl 2 rfl) ?_
    refine yR_call (vx_runV (As := []) (rest := []) ⟨hx, hb, hml, hown, hts⟩ (c_X6_requireFreeTick l hl0 D cy ad I S) (cw_X6_72 hts rfl rfl ⟨Nat.le_of_ble_eq_true rfl, Nat.le_of_ble_eq_true rfl⟩) (preVRX (ci := 6) (q0 := 0) hK hE (hZ.now hS).no hP rfl rfl) rfl rfl hl.1 rfl (lv_room (Nat.le_of_ble_eq_true rfl)) dX6_correct_53 ⟨Nat.le_of_ble_eq_true rfl, Nat.le_of_ble_eq_true rfl⟩) (I, S) hS hP hT hlocks hQ (Nat.le_of_ble_eq_true rfl) (Nat.le_of_ble_eq_true rfl) (fun E h => ⟨Or.inr (Or.inr (Or.inr ⟨h.1, q3_1, q8_2, (by rw [hfe]; exact nI_m1 (by omega)), h.2⟩)), scr_0 _ _⟩) (fun q53_5 => ?_)
    have hnn : n < 60 := by have h9 := q53_5; rw [hn] at h9; exact nt_lt (a := n) (b := 60) (by omega) (by omega) h9
    refine lv_aload_n hx hb dX6_correct_56 rfl (lv_at hl 2 rfl) ?_
    refine gf_X6_19 hx hb hts hown hK hP 0 rfl (v := .ref (ad 7)) rfl dX6_correct_57 ?_
    refine lv_iload hx hb dX6_correct_60 (lv_at hl 0 rfl) ?_
    refine rI_call (va_runV (As := [.int (nI j)]) (rest := []) ⟨hx, hb, hml, hown, hts⟩ (c_X0_firstDay l D cy ad I S j (by omega)) (cw_X6_114 hts rfl rfl ⟨Nat.le_of_ble_eq_true rfl, Nat.le_of_ble_eq_true rfl⟩) (preVR (ci := 0) (q0 := 0) hK (hP.sub [7, 8, 9, 10, 11, 12, 13] rfl) rfl rfl) rfl rfl hl.1 rfl (lv_room (Nat.le_of_ble_eq_true rfl)) dX6_correct_62 ⟨Nat.le_of_ble_eq_true rfl, Nat.le_of_ble_eq_true rfl⟩) (fun r hr_ => ?_)
    subst hr_
    refine top_eq (y := ((S 10) j)) rfl ?_
    refine lv_istore (lv' := [(7, .int ((S 10) j)), (6, .int (nI j)), (5, .int (slI x b)), (0, .ref (ad 0)), (1, .int x), (2, .int b), (3, .int d), (4, .int v)]) hx hb dX6_correct_65 hl (by decide) rfl (fun ls hl => ?_)
    refine lv_aload_n hx hb dX6_correct_67 rfl (lv_at hl 3 rfl) ?_
    refine gf_X6_19 hx hb hts hown hK hP 0 rfl (v := .ref (ad 7)) rfl dX6_correct_68 ?_
    refine lv_iload hx hb dX6_correct_71 (lv_at hl 1 rfl) ?_
    refine rI_call (va_runV (As := [.int (nI j)]) (rest := []) ⟨hx, hb, hml, hown, hts⟩ (c_X0_dayAfter l D cy ad I S j (by omega)) (cw_X6_118 hts rfl rfl ⟨Nat.le_of_ble_eq_true rfl, Nat.le_of_ble_eq_true rfl⟩) (preVR (ci := 0) (q0 := 0) hK (hP.sub [7, 8, 9, 10, 11, 12, 13] rfl) rfl rfl) rfl rfl hl.1 rfl (lv_room (Nat.le_of_ble_eq_true rfl)) dX6_correct_73 ⟨Nat.le_of_ble_eq_true rfl, Nat.le_of_ble_eq_true rfl⟩) (fun r hr_ => ?_)
    subst hr_
    refine top_eq (y := ((S 11) j)) rfl ?_
    refine lv_istore (lv' := [(8, .int ((S 11) j)), (7, .int ((S 10) j)), (6, .int (nI j)), (5, .int (slI x b)), (0, .ref (ad 0)), (1, .int x), (2, .int b), (3, .int d), (4, .int v)]) hx hb dX6_correct_76 hl (by decide) rfl (fun ls hl => ?_)
    refine lv_aload_n hx hb dX6_correct_78 rfl (lv_at hl 4 rfl) ?_
    refine lv_bipush (v := 99) hx hb dX6_correct_79 (by decide) ?_
    refine lv_iload hx hb dX6_correct_81 (lv_at hl 3 rfl) ?_
    refine lv_iload hx hb dX6_correct_83 (lv_at hl 8 rfl) ?_
    refine lv_iload hx hb dX6_correct_85 (lv_at hl 1 rfl) ?_
    refine lv_iload hx hb dX6_correct_87 (lv_at hl 0 rfl) ?_
    refine wI_call (va_runV (As := [.int 99, .int (slI x b), .int v, .int ((S 10) j), .int ((S 11) j)]) (rest := []) ⟨hx, hb, hml, hown, hts⟩ (c_X6_believe l D cy ad I S H.size 99 (slI x b) v ((S 10) j) ((S 11) j) k n hk hn hnn (by omega) rfl) (cw_X6_79 hts rfl rfl ⟨Nat.le_of_ble_eq_true rfl, Nat.le_of_ble_eq_true rfl⟩) (preVW (ci := 6) (q0 := 0) hK hP hD rfl rfl) rfl rfl hl.1 rfl (lv_room (Nat.le_of_ble_eq_true rfl)) dX6_correct_89 ⟨Nat.le_of_ble_eq_true rfl, Nat.le_of_ble_eq_true rfl⟩) hP hD hS hA [0, 1, 2, 3, 4, 5, 6, 7, 8, 9, 10, 11, 12, 13, 14, 15, 16, 17, 18, 19, 20, 21, 22, 23, 24, 25, 26, 27, 28] rfl [.inr 0, .inr 1, .inr 2, .inr 3, .inr 4, .inr 5, .inr 6, .inr 7, .inr 8, .inr 9, .inr 10, .inr 11, .inr 12, .inr 13, .inr 14, .inr 15, .inr 16, .inr 17, .inr 18, .inr 19, .inr 20, .inr 21, .inr 22, .inr 23, .inr 24, .inr 25, .inr 26, .inr 27, .inr 28] (by decide) (fun u => (wC cy ad (va_up (va_up (va_up I 1 (nI (n + 1))) 2 (nI (u.2.2 + 1))) 3 (u.1 3)) (va_up (va_up (va_up (va_up (va_up (va_up (va_up (va_up (va_up (va_up (va_up S 2 (upd (S 2) (n + 1) 99)) 3 (upd (S 3) (n + 1) (slI x b))) 4 (upd (S 4) (n + 1) v)) 5 (upd (S 5) (n + 1) ((S 10) j))) 6 (upd (S 6) (n + 1) ((S 11) j))) 8 (upd (u.2.1 8) u.2.2 (slI x b))) 9 (upd (u.2.1 9) u.2.2 v)) 10 (upd (u.2.1 10) u.2.2 ((S 10) j))) 11 (upd (u.2.1 11) u.2.2 ((S 11) j))) 12 (upd (u.2.1 12) u.2.2 (nI (n + 1)))) 13 (upd (u.2.1 13) u.2.2 (-1))))) (fun _ => rfl) (fun _ => rfl) (fun r89_6 u89_6 H locs q89_6 hP hD hS hkp => ?_)
    obtain ⟨I2_6, S2_6, k2_6⟩ := u89_6
    have hP : va_P D clW (wC cy ad (va_up (va_up (va_up I 1 (nI (n + 1))) 2 (nI (k2_6 + 1))) 3 (I2_6 3)) (va_up (va_up (va_up (va_up (va_up (va_up (va_up (va_up (va_up (va_up (va_up S 2 (upd (S 2) (n + 1) 99)) 3 (upd (S 3) (n + 1) (slI x b))) 4 (upd (S 4) (n + 1) v)) 5 (upd (S 5) (n + 1) ((S 10) j))) 6 (upd (S 6) (n + 1) ((S 11) j))) 8 (upd (S2_6 8) k2_6 (slI x b))) 9 (upd (S2_6 9) k2_6 v)) 10 (upd (S2_6 10) k2_6 ((S 10) j))) 11 (upd (S2_6 11) k2_6 ((S 11) j))) 12 (upd (S2_6 12) k2_6 (nI (n + 1)))) 13 (upd (S2_6 13) k2_6 (-1)))) H := hP
    have hD : va_D A (wC cy ad (va_up (va_up (va_up I 1 (nI (n + 1))) 2 (nI (k2_6 + 1))) 3 (I2_6 3)) (va_up (va_up (va_up (va_up (va_up (va_up (va_up (va_up (va_up (va_up (va_up S 2 (upd (S 2) (n + 1) 99)) 3 (upd (S 3) (n + 1) (slI x b))) 4 (upd (S 4) (n + 1) v)) 5 (upd (S 5) (n + 1) ((S 10) j))) 6 (upd (S 6) (n + 1) ((S 11) j))) 8 (upd (S2_6 8) k2_6 (slI x b))) 9 (upd (S2_6 9) k2_6 v)) 10 (upd (S2_6 10) k2_6 ((S 10) j))) 11 (upd (S2_6 11) k2_6 ((S 11) j))) 12 (upd (S2_6 12) k2_6 (nI (n + 1)))) 13 (upd (S2_6 13) k2_6 (-1)))) := hD
    obtain ⟨rfl, hcl_6, hka_6, hkb_6, hkc_6, hkd_6⟩ := q89_6
    refine lv_pop hx hb dX6_correct_92 rfl ?_
    refine lv_iload hx hb dX6_correct_93 (lv_at hl 0 rfl) ?_
    refine lv_iload hx hb dX6_correct_95 (lv_at hl 1 rfl) ?_
    refine lv_isub hx hb dX6_correct_97 ?_
    exact yI_ret (I2_6, S2_6, k2_6, j) hS hP hx hb hr hlocks dX6_correct_98 rfl (Nat.le_of_ble_eq_true rfl) (Nat.le_of_ble_eq_true rfl) hQ ⟨rfl, hcl_6, hka_6, hkb_6, hkc_6, hkd_6, hj, hfe, q3_1, q8_2, q53_5⟩
  · have hfe := fnd0 hno_
    refine lv_istore (lv' := [(6, .int (-1)), (5, .int (slI x b)), (0, .ref (ad 0)), (1, .int x), (2, .int b), (3, .int d), (4, .int v)]) hx hb dX6_correct_35 hl (by decide) rfl (fun ls hl => ?_)
    refine lv_aload_n hx hb dX6_correct_37 rfl (lv_at hl 2 rfl) ?_
    refine lv_iload hx hb dX6_correct_38 (lv_at hl 0 rfl) ?_
    refine lv_iconst (v := (-1)) hx hb dX6_correct_40 (by decide) ?_
    refine lv_icmp_eq (tgt := 48) hx hb dX6_correct_41 (by decide) (fun _ => ?_) (fun c => absurd (by decide) c)
    refine lv_iconst (v := 0) hx hb dX6_correct_48 (by decide) ?_
    refine yR_call (vx_runV (As := [.int 0]) (rest := []) ⟨hx, hb, hml, hown, hts⟩ (c_X6_requireKnown l hl0 D cy ad I S 0) (cw_X6_110 hts rfl rfl ⟨Nat.le_of_ble_eq_true rfl, Nat.le_of_ble_eq_true rfl⟩) (preVRX (ci := 6) (q0 := 0) hK hE (hZ.now hS).no hP rfl rfl) rfl rfl hl.1 rfl (lv_room (Nat.le_of_ble_eq_true rfl)) dX6_correct_49 ⟨Nat.le_of_ble_eq_true rfl, Nat.le_of_ble_eq_true rfl⟩) (I, S) hS hP hT hlocks hQ (Nat.le_of_ble_eq_true rfl) (Nat.le_of_ble_eq_true rfl) (fun E h => ⟨Or.inr (Or.inr (Or.inl ⟨h.1, q3_1, q8_2, hfe⟩)), scr_0 _ _⟩) (fun q49_7 => ?_)
    exact absurd rfl q49_7
set_option maxHeartbeats 4000000 in
set_option maxRecDepth 100000 in
theorem c_X6_purge (l : Launch) (hl0 : l.stackTraces = false) (D : va_G) (cy : Nat → ClassId) (ad : Nat → Nat) (I : AI) (S : AS) (sz : Nat) (t : Int32) (k : Nat) (n : Nat) (h : Nat) (fr : Nat → Nat) (to : Nat → Nat) (ofr : Nat → Nat) (oto : Nat → Nat) (hc : CIv I S k n h fr to ofr oto) : vx_Met l yX6_purge (Cond.code yX6_purge cX6_purge 2 (some .int) :: wsL_law) ({ frames := 6, cells := 1, slots := 6, locals := 90 }) (va_Pc [.ref (ad 0), .int t] (wxB D cy (wC cy ad I S) sz)) (va_Qi (S := Unit) (fun r u => r = ckN S k (I 3) k - ckN S k t k ∧ kpP (I 3) t ∧ t ≤ I 1) (fun u t9 => va_P D clW (wC cy ad (va_up I 3 t) S) t9.heap) (va_A (wC cy ad I S) sz)) (xW (S := AI × AS) (fun E u => (E = eIAE ∧ ¬ (kpP (I 3) t ∧ t ≤ I 1)) ∧ scr I S u.1 u.2) (fun u => (wC cy ad u.1 u.2)) D (va_A (wC cy ad I S) sz)) 1 6 (va_A (wC cy ad I S) sz) := by
  refine enterX (cc := cX6_purge) (by decide) (Nat.le_of_ble_eq_true rfl) ?_
  intro p e s m below meth c hx hb hr hml hown hts hlocks hT hv Q hQ ls hl
  obtain ⟨hsz, hP, hK, hD0, hE, hZ⟩ := hv
  subst hsz
  have hD := hD0.self (sz := s.heap.size)
  generalize hAe : va_A (wC cy ad I S) s.heap.size = A at hD hQ hZ ⊢
  have hA : ∀ q : Nat, s.heap.size ≤ q → A q := fun q h => by rw [← hAe]; exact Or.inr h
  have hS : va_S A s.heap s.heap [] := va_S.rf
  suffices K_ : ∀ (H : Heap) (locs : List Loc), va_P D clW (wC cy ad I S) H → va_S A s.heap H locs → W p l e ({ frames := 6, cells := 1, slots := 6, locals := 90 }) s m ([.ref (ad 0), .int t] : List Value).toArray below meth c H locs 0 0 Q (F0 m 0 ls []) from K_ _ _ hP hS
  clear hP hS
  intro H locs hP hS
  have hown : s.vm.findClass RX6 = some m.cls := hown
  have hl : lv_has ls 2 [(0, .ref (ad 0)), (1, .int t)] := hl
  obtain ⟨hn, hn6, hk, hk3, hh, hhn, hfr, hfo, hch⟩ := id hc
  have hk8 : k ≤ 180 := by omega
  refine lv_iload_n hx hb dX6_purge_0 rfl (lv_at hl 1 rfl) ?_
  refine lv_aload_n hx hb dX6_purge_1 rfl (lv_at hl 0 rfl) ?_
  refine gf_X6_19 hx hb hts hown hK hP 0 rfl (v := .ref (ad 7)) rfl dX6_purge_2 ?_
  refine rI_call (va_runV (As := []) (rest := [.int t]) ⟨hx, hb, hml, hown, hts⟩ (c_X0_oldestTick l D cy ad I S) (cw_X6_149 hts rfl rfl ⟨Nat.le_of_ble_eq_true rfl, Nat.le_of_ble_eq_true rfl⟩) (preVR (ci := 0) (q0 := 0) hK (hP.sub [7, 8, 9, 10, 11, 12, 13] rfl) rfl rfl) rfl rfl hl.1 rfl (lv_room (Nat.le_of_ble_eq_true rfl)) dX6_purge_5 ⟨Nat.le_of_ble_eq_true rfl, Nat.le_of_ble_eq_true rfl⟩) (fun r hr_ => ?_)
  subst hr_
  refine top_eq (y := (I 3)) rfl ?_
  refine lv_icmp_lt (tgt := 22) hx hb dX6_purge_8 (by decide) (fun c8_1 => ?_) (fun c8_1 => ?_)
  · exact th_IAE (A := A) (List.mem_of_getElem? (i := 2) rfl) hx hb hl0 hown hts hE hZ hS (hl.1.trans hml.symm) dX6_purge_22 dX6_purge_25 dX6_purge_26 dX6_purge_28 dX6_purge_31 hT (Nat.le_of_ble_eq_true rfl) (Nat.le_of_ble_eq_true rfl) (Nat.le_of_ble_eq_true rfl) (Nat.le_of_ble_eq_true rfl) hlocks (Nat.le_of_ble_eq_true rfl) (Nat.le_of_ble_eq_true rfl) hS.2.2 hQ (fun t _ hz hk => ⟨(I, S), trivial, ⟨⟨⟨rfl, fun r => absurd c8_1 (Int32.not_lt.mpr r.1)⟩, scr_0 _ _⟩, keptP_all hP hk⟩, (keptS_all hS hz hk).F rfl⟩)
  · refine lv_iload_n hx hb dX6_purge_11 rfl (lv_at hl 1 rfl) ?_
    refine lv_aload_n hx hb dX6_purge_12 rfl (lv_at hl 0 rfl) ?_
    refine gf_X6_12 hx hb hts hown hK hP 0 rfl (v := .ref (ad 1)) rfl dX6_purge_13 ?_
    refine rI_call (va_runV (As := []) (rest := [.int t]) ⟨hx, hb, hml, hown, hts⟩ (c_X3_now l D cy ad I S) (cw_X6_83 hts rfl rfl ⟨Nat.le_of_ble_eq_true rfl, Nat.le_of_ble_eq_true rfl⟩) (preVR (ci := 3) (q0 := 0) hK (hP.sub [1, 2, 3, 4, 5, 6] rfl) rfl rfl) rfl rfl hl.1 rfl (lv_room (Nat.le_of_ble_eq_true rfl)) dX6_purge_16 ⟨Nat.le_of_ble_eq_true rfl, Nat.le_of_ble_eq_true rfl⟩) (fun r hr_ => ?_)
    subst hr_
    refine top_eq (y := (I 1)) rfl ?_
    refine lv_icmp_le (tgt := 32) hx hb dX6_purge_19 (by decide) (fun c19_2 => ?_) (fun c19_2 => ?_)
    · refine lv_aload_n hx hb dX6_purge_32 rfl (lv_at hl 0 rfl) ?_
      refine gf_X6_19 hx hb hts hown hK hP 0 rfl (v := .ref (ad 7)) rfl dX6_purge_33 ?_
      refine lv_iload_n hx hb dX6_purge_36 rfl (lv_at hl 1 rfl) ?_
      refine wI_call (va_runV (As := [.int t]) (rest := []) ⟨hx, hb, hml, hown, hts⟩ (c_X0_remove l D cy ad I S H.size t k hk (by omega)) (cw_X6_157 hts rfl rfl ⟨Nat.le_of_ble_eq_true rfl, Nat.le_of_ble_eq_true rfl⟩) (preVW (ci := 0) (q0 := 0) hK (hP.sub [7, 8, 9, 10, 11, 12, 13] rfl) (hD.sub [7, 8, 9, 10, 11, 12, 13] (by decide) rfl) rfl rfl) rfl rfl hl.1 rfl (lv_room (Nat.le_of_ble_eq_true rfl)) dX6_purge_37 ⟨Nat.le_of_ble_eq_true rfl, Nat.le_of_ble_eq_true rfl⟩) hP hD hS hA [7, 8, 9, 10, 11, 12, 13] rfl [.inl 0, .inl 1, .inl 2, .inl 3, .inl 4, .inl 5, .inl 6, .inr 0, .inr 1, .inr 2, .inr 3, .inr 4, .inr 5, .inr 6, .inl 14, .inl 15, .inl 16, .inl 17, .inl 18, .inl 19, .inl 20, .inl 21, .inl 22, .inl 23, .inl 24, .inl 25, .inl 26, .inl 27, .inl 28] (by decide) (fun u => (wC cy ad (va_up I 3 t) S)) (fun _ => rfl) (fun _ => rfl) (fun r37_3 u37_3 H locs q37_3 hP hD hS hkp => ?_)
      have hP : va_P D clW (wC cy ad (va_up I 3 t) S) H := hP
      have hD : va_D A (wC cy ad (va_up I 3 t) S) := hD
      subst q37_3
      have hP : va_P D clW (wC cy ad (va_up I 3 t) S) H := hP
      have hD : va_D A (wC cy ad (va_up I 3 t) S) := hD.addr rfl
      exact yI_ret () hS hP hx hb hr hlocks dX6_purge_40 rfl (Nat.le_of_ble_eq_true rfl) (Nat.le_of_ble_eq_true rfl) hQ ⟨rfl, Int32.not_lt.mp c8_1, c19_2⟩
    · exact th_IAE (A := A) (List.mem_of_getElem? (i := 2) rfl) hx hb hl0 hown hts hE hZ hS (hl.1.trans hml.symm) dX6_purge_22 dX6_purge_25 dX6_purge_26 dX6_purge_28 dX6_purge_31 hT (Nat.le_of_ble_eq_true rfl) (Nat.le_of_ble_eq_true rfl) (Nat.le_of_ble_eq_true rfl) (Nat.le_of_ble_eq_true rfl) hlocks (Nat.le_of_ble_eq_true rfl) (Nat.le_of_ble_eq_true rfl) hS.2.2 hQ (fun t _ hz hk => ⟨(I, S), trivial, ⟨⟨⟨rfl, fun r => c19_2 r.2⟩, scr_0 _ _⟩, keptP_all hP hk⟩, (keptS_all hS hz hk).F rfl⟩)
set_option maxHeartbeats 4000000 in
set_option maxRecDepth 100000 in
theorem c_X6_isConsistent (l : Launch) (D : va_G) (cy : Nat → ClassId) (ad : Nat → Nat) (I : AI) (S : AS) (sz : Nat) (en : Nat) (hen : I 0 = nI en) (hen6 : en ≤ 6) (k : Nat) (n : Nat) (h : Nat) (fr : Nat → Nat) (to : Nat → Nat) (ofr : Nat → Nat) (oto : Nat → Nat) (hc : CIv I S k n h fr to ofr oto) (hcs : ∀ i : Nat, i < en * 3 → ∀ f1 g1 f2 g2 : Nat → Int32, conP S (nI i) n k fr to ofr oto f1 g1 f2 g2) : Met l yX6_isConsistent (Cond.code yX6_isConsistent cX6_isConsistent 2 (some .boolean) :: wsL_law) ({ frames := 5, cells := 0, slots := 0, locals := 115 }) (va_Pc [.ref (ad 0)] (wrB D cy (wC cy ad I S) sz)) (va_Qi (S := (Nat → Int32) × (Nat → Int32) × (Nat → Int32) × (Nat → Int32)) (fun r u => r = 1) (fun u t9 => va_P D clW (wC cy ad I (va_up (va_up (va_up (va_up S 17 u.1) 18 u.2.1) 20 u.2.2.1) 21 u.2.2.2)) t9.heap) (va_A (wC cy ad I S) sz)) 0 0 (va_A (wC cy ad I S) sz) := by
  refine enter (cc := cX6_isConsistent) (by decide) (Nat.le_of_ble_eq_true rfl) ?_
  intro p e s m below meth c hx hb hr hml hown hts hlocks hin hv Q hQ ls hl
  obtain ⟨hsz, hP, hK, hD0⟩ := hv
  subst hsz
  have hD := hD0.self (sz := s.heap.size)
  generalize hAe : va_A (wC cy ad I S) s.heap.size = A at hD hQ ⊢
  have hA : ∀ q : Nat, s.heap.size ≤ q → A q := fun q h => by rw [← hAe]; exact Or.inr h
  have hS : va_S A s.heap s.heap [] := va_S.rf
  suffices K_ : ∀ (H : Heap) (locs : List Loc), va_P D clW (wC cy ad I S) H → va_S A s.heap H locs → W p l e ({ frames := 5, cells := 0, slots := 0, locals := 115 }) s m ([.ref (ad 0)] : List Value).toArray below meth c H locs 0 0 Q (F0 m 0 ls []) from K_ _ _ hP hS
  clear hP hS
  intro H locs hP hS
  have hown : s.vm.findClass RX6 = some m.cls := hown
  have hl : lv_has ls 2 [(0, .ref (ad 0))] := hl
  obtain ⟨hn, hn6, hk, hk3, hh, hhn, hfr, hfo, hch⟩ := id hc
  have hk8 : k ≤ 180 := by omega
  refine lv_iconst (v := 0) hx hb dX6_isConsistent_0 (by decide) ?_
  refine lv_istore_n (lv' := [(1, .int 0), (0, .ref (ad 0))]) hx hb dX6_isConsistent_1 rfl hl (by decide) rfl (fun ls hl => ?_)
  have L2 : ∀ (n_2 i : Nat) (f1 : Nat → Int32) (g1 : Nat → Int32) (f2 : Nat → Int32) (g2 : Nat → Int32), i ≤ (en * 3) → (en * 3) + 1 ≤ i + n_2 → ∀ (H : Heap) (locs : List Loc), va_P D clW (wC cy ad I (va_up (va_up (va_up (va_up S 17 f1) 18 g1) 20 f2) 21 g2)) H → va_D A (wC cy ad I (va_up (va_up (va_up (va_up S 17 f1) 18 g1) 20 f2) 21 g2)) → va_S A s.heap H locs → ∀ (ls : Array Slot), lv_has ls 2 [(1, .int (nI i)), (0, .ref (ad 0))] → W p l e { frames := 5, cells := 0, slots := 0, locals := 115 } s m ([.ref (ad 0)] : List Value).toArray below meth c H locs 0 0 Q (F0 m 2 ls []) := by
    clear hl
    intro n_2
    induction n_2 with
    | zero => intro i f1 g1 f2 g2 hle_2 hn_2; exact absurd hn_2 (by omega)
    | succ n_2 ih2 =>
      intro i f1 g1 f2 g2 hle_2 hn_2  H locs hP hD hS ls hl
      refine lv_iload_n hx hb dX6_isConsistent_2 rfl (lv_at hl 0 rfl) ?_
      refine lv_aload_n hx hb dX6_isConsistent_3 rfl (lv_at hl 1 rfl) ?_
      refine gf_X6_30 hx hb hts hown hK hP 0 rfl (v := .int (I 0)) rfl dX6_isConsistent_4 ?_
      refine top_eq hen ?_
      refine lv_iconst (v := 3) hx hb dX6_isConsistent_7 (by decide) ?_
      refine lv_imul hx hb dX6_isConsistent_8 ?_
      refine top_eq (y := nI (en * 3)) (pk_mul en 3) ?_
      refine lv_icmp_ge (tgt := 28) hx hb dX6_isConsistent_9 (by decide) (fun c9_1 => ?_) (fun c9_1 => ?_)
      · have f9_1 : (en * 3) ≤ i := nt_le (a := (en * 3)) (b := i) (by omega) (by omega) c9_1
        refine lv_iconst (v := 1) hx hb dX6_isConsistent_28 (by decide) ?_
        exact wZ_ret (f1, g1, f2, g2) hS hP hx hb hr hlocks dX6_isConsistent_29 narZ1 (Nat.le_of_ble_eq_true rfl) (Nat.le_of_ble_eq_true rfl) hQ rfl
      · have f9_1 : i < (en * 3) := nt_nle (a := (en * 3)) (b := i) (by omega) (by omega) c9_1
        refine lv_aload_n hx hb dX6_isConsistent_12 rfl (lv_at hl 1 rfl) ?_
        refine lv_iload_n hx hb dX6_isConsistent_13 rfl (lv_at hl 0 rfl) ?_
        refine wI_call (va_runV (As := [.int (nI i)]) (rest := []) ⟨hx, hb, hml, hown, hts⟩ (c_X6_isSlotConsistent l D cy ad I (va_up (va_up (va_up (va_up S 17 f1) 18 g1) 20 f2) 21 g2) H.size (nI i) k n h fr to ofr oto hc (conP_up (hcs i (by omega) f1 g1 f2 g2))) (cw_X6_258 hts rfl rfl ⟨Nat.le_of_ble_eq_true rfl, Nat.le_of_ble_eq_true rfl⟩) (preVW (ci := 6) (q0 := 0) hK hP hD rfl rfl) rfl rfl hl.1 rfl (lv_room (Nat.le_of_ble_eq_true rfl)) dX6_isConsistent_14 ⟨Nat.le_of_ble_eq_true rfl, Nat.le_of_ble_eq_true rfl⟩) hP hD hS hA [0, 1, 2, 3, 4, 5, 6, 7, 8, 9, 10, 11, 12, 13, 14, 15, 16, 17, 18, 19, 20, 21, 22, 23, 24, 25, 26, 27, 28] rfl [.inr 0, .inr 1, .inr 2, .inr 3, .inr 4, .inr 5, .inr 6, .inr 7, .inr 8, .inr 9, .inr 10, .inr 11, .inr 12, .inr 13, .inr 14, .inr 15, .inr 16, .inr 17, .inr 18, .inr 19, .inr 20, .inr 21, .inr 22, .inr 23, .inr 24, .inr 25, .inr 26, .inr 27, .inr 28] (by decide) (fun u => (wC cy ad I (va_up (va_up (va_up (va_up S 17 (rdKN (va_up (va_up (va_up (va_up S 17 f1) 18 g1) 20 f2) 21 g2) (nI i) (nI n) fr to f1 k)) 18 (rdVN (va_up (va_up (va_up (va_up S 17 f1) 18 g1) 20 f2) 21 g2) (nI i) (nI n) fr to g1 k)) 20 (rpKN (va_up (va_up (va_up (va_up S 17 f1) 18 g1) 20 f2) 21 g2) (nI i) ofr oto f2 n)) 21 (rpVN (va_up (va_up (va_up (va_up S 17 f1) 18 g1) 20 f2) 21 g2) (nI i) ofr oto g2 n)))) (fun _ => rfl) (fun _ => rfl) (fun r14_2 u14_2 H locs q14_2 hP hD hS hkp => ?_)
        have hP : va_P D clW (wC cy ad I (va_up (va_up (va_up (va_up S 17 (rdKN (va_up (va_up (va_up (va_up S 17 f1) 18 g1) 20 f2) 21 g2) (nI i) (nI n) fr to f1 k)) 18 (rdVN (va_up (va_up (va_up (va_up S 17 f1) 18 g1) 20 f2) 21 g2) (nI i) (nI n) fr to g1 k)) 20 (rpKN (va_up (va_up (va_up (va_up S 17 f1) 18 g1) 20 f2) 21 g2) (nI i) ofr oto f2 n)) 21 (rpVN (va_up (va_up (va_up (va_up S 17 f1) 18 g1) 20 f2) 21 g2) (nI i) ofr oto g2 n))) H := hP
        have hD : va_D A (wC cy ad I (va_up (va_up (va_up (va_up S 17 (rdKN (va_up (va_up (va_up (va_up S 17 f1) 18 g1) 20 f2) 21 g2) (nI i) (nI n) fr to f1 k)) 18 (rdVN (va_up (va_up (va_up (va_up S 17 f1) 18 g1) 20 f2) 21 g2) (nI i) (nI n) fr to g1 k)) 20 (rpKN (va_up (va_up (va_up (va_up S 17 f1) 18 g1) 20 f2) 21 g2) (nI i) ofr oto f2 n)) 21 (rpVN (va_up (va_up (va_up (va_up S 17 f1) 18 g1) 20 f2) 21 g2) (nI i) ofr oto g2 n))) := hD
        subst q14_2
        refine lv_if_ne (tgt := 22) hx hb dX6_isConsistent_17 (by decide) (fun _ => ?_) (fun c => absurd c (by decide))
        refine lv_iinc (v := (nI (i + 1))) (lv' := [(1, .int (nI (i + 1))), (0, .ref (ad 0))]) hx hb dX6_isConsistent_22 hl (k := 0) rfl (nI_1 i) (by decide) rfl (fun ls hl => ?_)
        refine lv_goto (tgt := 2) hx hb dX6_isConsistent_25 (by decide) ?_
        have hP : va_P D clW (wC cy ad I (va_up (va_up (va_up (va_up S 17 (rdKN (va_up (va_up (va_up (va_up S 17 f1) 18 g1) 20 f2) 21 g2) (nI i) (nI n) fr to f1 k)) 18 (rdVN (va_up (va_up (va_up (va_up S 17 f1) 18 g1) 20 f2) 21 g2) (nI i) (nI n) fr to g1 k)) 20 (rpKN (va_up (va_up (va_up (va_up S 17 f1) 18 g1) 20 f2) 21 g2) (nI i) ofr oto f2 n)) 21 (rpVN (va_up (va_up (va_up (va_up S 17 f1) 18 g1) 20 f2) 21 g2) (nI i) ofr oto g2 n))) H := hP
        have hD : va_D A (wC cy ad I (va_up (va_up (va_up (va_up S 17 (rdKN (va_up (va_up (va_up (va_up S 17 f1) 18 g1) 20 f2) 21 g2) (nI i) (nI n) fr to f1 k)) 18 (rdVN (va_up (va_up (va_up (va_up S 17 f1) 18 g1) 20 f2) 21 g2) (nI i) (nI n) fr to g1 k)) 20 (rpKN (va_up (va_up (va_up (va_up S 17 f1) 18 g1) 20 f2) 21 g2) (nI i) ofr oto f2 n)) 21 (rpVN (va_up (va_up (va_up (va_up S 17 f1) 18 g1) 20 f2) 21 g2) (nI i) ofr oto g2 n))) := hD.addr rfl
        exact ih2 (i + 1) (rdKN (va_up (va_up (va_up (va_up S 17 f1) 18 g1) 20 f2) 21 g2) (nI i) (nI n) fr to f1 k) (rdVN (va_up (va_up (va_up (va_up S 17 f1) 18 g1) 20 f2) 21 g2) (nI i) (nI n) fr to g1 k) (rpKN (va_up (va_up (va_up (va_up S 17 f1) 18 g1) 20 f2) 21 g2) (nI i) ofr oto f2 n) (rpVN (va_up (va_up (va_up (va_up S 17 f1) 18 g1) 20 f2) 21 g2) (nI i) ofr oto g2 n) (by omega) (by omega) _ _ hP hD hS ls (lv_sub hl [0, 1] rfl)
  have hP : va_P D clW (wC cy ad I (va_up (va_up (va_up (va_up S 17 (S 17)) 18 (S 18)) 20 (S 20)) 21 (S 21))) H := hP
  have hD : va_D A (wC cy ad I (va_up (va_up (va_up (va_up S 17 (S 17)) 18 (S 18)) 20 (S 20)) 21 (S 21))) := hD.addr rfl
  exact L2 ((en * 3) + 1) 0 (S 17) (S 18) (S 20) (S 21) (by omega) (by omega) _ _ hP hD hS ls (lv_sub hl [0, 1] rfl)
