theorem gf_X6_26 {p : Program} {l : Launch} {e : Env} {R : Room} {s : State} {m : MethodId} {args : Array Value} {below : List Frame} {meth : Method} {c : Code} {H : Heap} {locs : List Loc} {cells slots : Nat} {Q : State → Prop} {cc : ByteArray} {pc : Nat} {ls : Array Slot} {rest : List Value} {D : va_G} {cy : Nat → ClassId} {a : Nat} {ws : va_W} (hx : p.tables.exec = Jvm.exec) (hb : c.code = cc) (hts : ∀ w ∈ wsL_law, w.before args s = true) (hown : s.vm.findClass RX6 = some m.cls) (hK : va_K D clW (tyW cy) s) (hP : va_P D clW ws H) (q0 : Nat) {fs : List Value} (he : ws[q0]? = some (a, .inr (6, fs))) {v : Value} (hv : fs[2]? = some v) (hdg : decode cc pc = .ok (.getfield 26, 3)) (kk : W p l e R s m args below meth c H locs cells slots Q (F0 m (pc + 3) ls (v :: rest))) : W p l e R s m args below meth c H locs cells slots Q (F0 m pc ls (.ref a :: rest)) := va_get (own := RX6) (ref := RX6) (C := RX6) (T := TX6) (N := 8) (ci := 6) hx hb hts inlX6 hown hK hP q0 he rfl 2 (by decide) (hts _ wm_25) (fun _ h => h) hv hdg kk
theorem cw_X6_65 {R : Room} {s : State} {args : Array Value} {rm : Room} {mc ms : Nat} (hts : ∀ w ∈ wsL_law, w.before args s = true) (hrc : rm.cells = mc) (hrs : rm.slots = ms) (hR : rm.frames + 1 ≤ R.frames ∧ 8 + (3 + 11) + rm.locals ≤ R.locals) : CallW R s args RX6 RX6 65 yX6_requireAttribute cX6_requireAttribute 3 none (Cond.code yX6_requireAttribute cX6_requireAttribute 3 none :: wsL_law) rm mc ms 2 := cwV 2 hts (gUV wm_148 wm_149 wm_150 wm_2 wm_151) rfl hrc hrs (by decide +kernel) hR
theorem cw_X6_75 {R : Room} {s : State} {args : Array Value} {rm : Room} {mc ms : Nat} (hts : ∀ w ∈ wsL_law, w.before args s = true) (hrc : rm.cells = mc) (hrs : rm.slots = ms) (hR : rm.frames + 1 ≤ R.frames ∧ 8 + (2 + 11) + rm.locals ≤ R.locals) : CallB R s args RX6 75 yX6_slotOf cX6_slotOf 2 (some .int) (Cond.code yX6_slotOf cX6_slotOf 2 (some .int) :: wsL_law) rm mc ms 2 ∧ (Cond.static yX6_slotOf).before args s = true := va_cwS 2 hts (gUS wm_172 wm_173 wm_2 wm_174) rfl hrc hrs (by decide +kernel) hR
theorem cw_X6_87 {R : Room} {s : State} {args : Array Value} {rm : Room} {mc ms : Nat} (hts : ∀ w ∈ wsL_law, w.before args s = true) (hrc : rm.cells = mc) (hrs : rm.slots = ms) (hR : rm.frames + 1 ≤ R.frames ∧ 8 + (7 + 11) + rm.locals ≤ R.locals) : CallW R s args RX6 RX0 87 yX0_countDays cX0_countDays 7 (some .int) (Cond.code yX0_countDays cX0_countDays 7 (some .int) :: wsL_law) rm mc ms 4 := cwV 4 hts (gUV wm_272 wm_273 wm_274 wm_20 wm_275) rfl hrc hrs (by decide +kernel) hR
theorem cw_X6_106 {R : Room} {s : State} {args : Array Value} {rm : Room} {mc ms : Nat} (hts : ∀ w ∈ wsL_law, w.before args s = true) (hrc : rm.cells = mc) (hrs : rm.slots = ms) (hR : rm.frames + 1 ≤ R.frames ∧ 8 + (5 + 11) + rm.locals ≤ R.locals) : CallW R s args RX6 RX0 106 yX0_find cX0_find 5 (some .int) (Cond.code yX0_find cX0_find 5 (some .int) :: wsL_law) rm mc ms 3 := cwV 3 hts (gUV wm_299 wm_300 wm_301 wm_20 wm_302) rfl hrc hrs (by decide +kernel) hR
theorem cw_X6_110 {R : Room} {s : State} {args : Array Value} {rm : Room} {mc ms : Nat} (hts : ∀ w ∈ wsL_law, w.before args s = true) (hrc : rm.cells = mc) (hrs : rm.slots = ms) (hR : rm.frames + 1 ≤ R.frames ∧ 8 + (2 + 11) + rm.locals ≤ R.locals) : CallW R s args RX6 RX6 110 yX6_requireKnown cX6_requireKnown 2 none (Cond.code yX6_requireKnown cX6_requireKnown 2 none :: wsL_law) rm mc ms 1 := cwV 1 hts (gUV wm_303 wm_304 wm_305 wm_2 wm_306) rfl hrc hrs (by decide +kernel) hR
theorem cw_X6_114 {R : Room} {s : State} {args : Array Value} {rm : Room} {mc ms : Nat} (hts : ∀ w ∈ wsL_law, w.before args s = true) (hrc : rm.cells = mc) (hrs : rm.slots = ms) (hR : rm.frames + 1 ≤ R.frames ∧ 8 + (2 + 11) + rm.locals ≤ R.locals) : CallW R s args RX6 RX0 114 yX0_firstDay cX0_firstDay 2 (some .int) (Cond.code yX0_firstDay cX0_firstDay 2 (some .int) :: wsL_law) rm mc ms 1 := cwV 1 hts (gUV wm_307 wm_200 wm_201 wm_20 wm_202) rfl hrc hrs (by decide +kernel) hR
theorem cw_X6_118 {R : Room} {s : State} {args : Array Value} {rm : Room} {mc ms : Nat} (hts : ∀ w ∈ wsL_law, w.before args s = true) (hrc : rm.cells = mc) (hrs : rm.slots = ms) (hR : rm.frames + 1 ≤ R.frames ∧ 8 + (2 + 11) + rm.locals ≤ R.locals) : CallW R s args RX6 RX0 118 yX0_dayAfter cX0_dayAfter 2 (some .int) (Cond.code yX0_dayAfter cX0_dayAfter 2 (some .int) :: wsL_law) rm mc ms 1 := cwV 1 hts (gUV wm_308 wm_207 wm_208 wm_20 wm_209) rfl hrc hrs (by decide +kernel) hR
theorem cw_X6_121 {R : Room} {s : State} {args : Array Value} {rm : Room} {mc ms : Nat} (hts : ∀ w ∈ wsL_law, w.before args s = true) (hrc : rm.cells = mc) (hrs : rm.slots = ms) (hR : rm.frames + 1 ≤ R.frames ∧ 8 + (2 + 11) + rm.locals ≤ R.locals) : CallW R s args RX6 RX6 121 yX6_requireOperation cX6_requireOperation 2 none (Cond.code yX6_requireOperation cX6_requireOperation 2 none :: wsL_law) rm mc ms 1 := cwV 1 hts (gUV wm_328 wm_329 wm_330 wm_2 wm_331) rfl hrc hrs (by decide +kernel) hR
theorem cw_X6_124 {R : Room} {s : State} {args : Array Value} {rm : Room} {mc ms : Nat} (hts : ∀ w ∈ wsL_law, w.before args s = true) (hrc : rm.cells = mc) (hrs : rm.slots = ms) (hR : rm.frames + 1 ≤ R.frames ∧ 8 + (2 + 11) + rm.locals ≤ R.locals) : CallW R s args RX6 RX3 124 yX3_kind cX3_kind 2 (some .char) (Cond.code yX3_kind cX3_kind 2 (some .char) :: wsL_law) rm mc ms 1 := cwV 1 hts (gUV wm_332 wm_333 wm_334 wm_16 wm_335) rfl hrc hrs (by decide +kernel) hR
theorem cw_X6_128 {R : Room} {s : State} {args : Array Value} {rm : Room} {mc ms : Nat} (hts : ∀ w ∈ wsL_law, w.before args s = true) (hrc : rm.cells = mc) (hrs : rm.slots = ms) (hR : rm.frames + 1 ≤ R.frames ∧ 8 + (2 + 11) + rm.locals ≤ R.locals) : CallW R s args RX6 RX3 128 yX3_slot cX3_slot 2 (some .int) (Cond.code yX3_slot cX3_slot 2 (some .int) :: wsL_law) rm mc ms 1 := cwV 1 hts (gUV wm_347 wm_348 wm_349 wm_16 wm_350) rfl hrc hrs (by decide +kernel) hR
theorem cw_X6_137 {R : Room} {s : State} {args : Array Value} {rm : Room} {mc ms : Nat} (hts : ∀ w ∈ wsL_law, w.before args s = true) (hrc : rm.cells = mc) (hrs : rm.slots = ms) (hR : rm.frames + 1 ≤ R.frames ∧ 8 + (2 + 11) + rm.locals ≤ R.locals) : CallW R s args RX6 RX6 137 yX6_requireFact cX6_requireFact 2 none (Cond.code yX6_requireFact cX6_requireFact 2 none :: wsL_law) rm mc ms 1 := cwV 1 hts (gUV wm_391 wm_392 wm_393 wm_2 wm_394) rfl hrc hrs (by decide +kernel) hR
theorem cw_X6_140 {R : Room} {s : State} {args : Array Value} {rm : Room} {mc ms : Nat} (hts : ∀ w ∈ wsL_law, w.before args s = true) (hrc : rm.cells = mc) (hrs : rm.slots = ms) (hR : rm.frames + 1 ≤ R.frames ∧ 8 + (2 + 11) + rm.locals ≤ R.locals) : CallW R s args RX6 RX0 140 yX0_value cX0_value 2 (some .int) (Cond.code yX0_value cX0_value 2 (some .int) :: wsL_law) rm mc ms 1 := cwV 1 hts (gUV wm_396 wm_211 wm_212 wm_20 wm_213) rfl hrc hrs (by decide +kernel) hR
theorem cw_X6_143 {R : Room} {s : State} {args : Array Value} {rm : Room} {mc ms : Nat} (hts : ∀ w ∈ wsL_law, w.before args s = true) (hrc : rm.cells = mc) (hrs : rm.slots = ms) (hR : rm.frames + 1 ≤ R.frames ∧ 8 + (2 + 11) + rm.locals ≤ R.locals) : CallW R s args RX6 RX0 143 yX0_opening cX0_opening 2 (some .int) (Cond.code yX0_opening cX0_opening 2 (some .int) :: wsL_law) rm mc ms 1 := cwV 1 hts (gUV wm_434 wm_435 wm_436 wm_20 wm_437) rfl hrc hrs (by decide +kernel) hR
theorem cw_X6_146 {R : Room} {s : State} {args : Array Value} {rm : Room} {mc ms : Nat} (hts : ∀ w ∈ wsL_law, w.before args s = true) (hrc : rm.cells = mc) (hrs : rm.slots = ms) (hR : rm.frames + 1 ≤ R.frames ∧ 8 + (2 + 11) + rm.locals ≤ R.locals) : CallW R s args RX6 RX0 146 yX0_closing cX0_closing 2 (some .int) (Cond.code yX0_closing cX0_closing 2 (some .int) :: wsL_law) rm mc ms 1 := cwV 1 hts (gUV wm_449 wm_450 wm_451 wm_20 wm_452) rfl hrc hrs (by decide +kernel) hR
theorem cw_X6_160 {R : Room} {s : State} {args : Array Value} {rm : Room} {mc ms : Nat} (hts : ∀ w ∈ wsL_law, w.before args s = true) (hrc : rm.cells = mc) (hrs : rm.slots = ms) (hR : rm.frames + 1 ≤ R.frames ∧ 8 + (3 + 11) + rm.locals ≤ R.locals) : CallW R s args RX6 RX6 160 yX6_requireDayAndTick cX6_requireDayAndTick 3 none (Cond.code yX6_requireDayAndTick cX6_requireDayAndTick 3 none :: wsL_law) rm mc ms 2 := cwV 2 hts (gUV wm_494 wm_495 wm_496 wm_2 wm_497) rfl hrc hrs (by decide +kernel) hR
theorem cw_X6_249 {R : Room} {s : State} {args : Array Value} {rm : Room} {mc ms : Nat} (hts : ∀ w ∈ wsL_law, w.before args s = true) (hrc : rm.cells = mc) (hrs : rm.slots = ms) (hR : rm.frames + 1 ≤ R.frames ∧ 8 + (1 + 11) + rm.locals ≤ R.locals) : CallW R s args RX6 RX2 249 yX2_size cX2_size 1 (some .int) (Cond.code yX2_size cX2_size 1 (some .int) :: wsL_law) rm mc ms 0 := cwV 0 hts (gUV wm_954 wm_955 wm_956 wm_24 wm_957) rfl hrc hrs (by decide +kernel) hR
theorem cw_X6_255 {R : Room} {s : State} {args : Array Value} {rm : Room} {mc ms : Nat} (hts : ∀ w ∈ wsL_law, w.before args s = true) (hrc : rm.cells = mc) (hrs : rm.slots = ms) (hR : rm.frames + 1 ≤ R.frames ∧ 8 + (2 + 11) + rm.locals ≤ R.locals) : CallW R s args RX6 RX2 255 yX2_sign cX2_sign 2 (some .char) (Cond.code yX2_sign cX2_sign 2 (some .char) :: wsL_law) rm mc ms 1 := cwV 1 hts (gUV wm_980 wm_981 wm_982 wm_24 wm_983) rfl hrc hrs (by decide +kernel) hR
set_option maxHeartbeats 4000000 in
set_option maxRecDepth 100000 in
theorem c_X6_operationAt (l : Launch) (hl0 : l.stackTraces = false) (D : va_G) (cy : Nat → ClassId) (ad : Nat → Nat) (I : AI) (S : AS) (t : Int32) (k : Nat) (n : Nat) (h : Nat) (fr : Nat → Nat) (to : Nat → Nat) (ofr : Nat → Nat) (oto : Nat → Nat) (hc : CIv I S k n h fr to ofr oto) : vx_Met l yX6_operationAt (Cond.code yX6_operationAt cX6_operationAt 2 (some .char) :: wsL_law) ({ frames := 7, cells := 1, slots := 6, locals := 111 }) (va_Pc [.ref (ad 0), .int t] (rxB D cy (wC cy ad I S))) (rdI (fun r => opP (I 1) t ∧ r = S 2 t.toNatClampNeg)) (xR (fun E => E = eIAE ∧ ¬ opP (I 1) t)) 1 6 noA := by
  refine enterX (cc := cX6_operationAt) (by decide) (Nat.le_of_ble_eq_true rfl) ?_
  intro p e s m below meth c hx hb hr hml hown hts hlocks hT hv Q hQ ls hl
  obtain ⟨hP, hK, hE, hZ⟩ := hv
  have hown : s.vm.findClass RX6 = some m.cls := hown
  have hl : lv_has ls 2 [(0, .ref (ad 0)), (1, .int t)] := hl
  obtain ⟨hn, hn6, hk, hk3, hh, hhn, hfr, hfo, hch⟩ := hc
  have hk8 : k ≤ 180 := by omega
  refine lv_aload_n hx hb dX6_operationAt_0 rfl (lv_at hl 0 rfl) ?_
  refine lv_iload_n hx hb dX6_operationAt_1 rfl (lv_at hl 1 rfl) ?_
  refine xR_call (vx_runV (As := [.int t]) (rest := []) ⟨hx, hb, hml, hown, hts⟩ (c_X6_requireOperation l hl0 D cy ad I S t) (cw_X6_121 hts rfl rfl ⟨Nat.le_of_ble_eq_true rfl, Nat.le_of_ble_eq_true rfl⟩) (preVRX (ci := 6) (q0 := 0) hK hE hZ hP rfl rfl) rfl rfl hl.1 rfl (lv_room (Nat.le_of_ble_eq_true rfl)) dX6_operationAt_2 ⟨Nat.le_of_ble_eq_true rfl, Nat.le_of_ble_eq_true rfl⟩) hT hlocks hQ (Nat.le_of_ble_eq_true rfl) (Nat.le_of_ble_eq_true rfl) (fun E h => h) (fun q2_1 => ?_)
  have hop := q2_1
  rw [hn] at hop
  obtain ⟨j, hj1, hj, rfl⟩ := opP_of (by omega) hop
  refine lv_aload_n hx hb dX6_operationAt_5 rfl (lv_at hl 0 rfl) ?_
  refine gf_X6_12 hx hb hts hown hK hP 0 rfl (v := .ref (ad 1)) rfl dX6_operationAt_6 ?_
  refine lv_iload_n hx hb dX6_operationAt_9 rfl (lv_at hl 1 rfl) ?_
  refine rI_call (va_runV (As := [.int (nI j)]) (rest := []) ⟨hx, hb, hml, hown, hts⟩ (c_X3_kind l D cy ad I S j n hn (by omega) (by omega) (by omega) (hch j hj1 hj)) (cw_X6_124 hts rfl rfl ⟨Nat.le_of_ble_eq_true rfl, Nat.le_of_ble_eq_true rfl⟩) (preVR (ci := 3) (q0 := 0) hK (hP.sub [1, 2, 3, 4, 5, 6] rfl) rfl rfl) rfl rfl hl.1 rfl (lv_room (Nat.le_of_ble_eq_true rfl)) dX6_operationAt_10 ⟨Nat.le_of_ble_eq_true rfl, Nat.le_of_ble_eq_true rfl⟩) (fun r hr_ => ?_)
  subst hr_
  refine top_eq (y := ((S 2) j)) rfl ?_
  exact xI_ret hx hb hr hlocks dX6_operationAt_13 (hch j hj1 hj)  hQ ⟨q2_1, by rw [nI_clamp (by omega)]⟩ (Nat.le_of_ble_eq_true rfl) (Nat.le_of_ble_eq_true rfl)

set_option maxHeartbeats 4000000 in
set_option maxRecDepth 100000 in
theorem c_X6_entityOf (l : Launch) (hl0 : l.stackTraces = false) (D : va_G) (cy : Nat → ClassId) (ad : Nat → Nat) (I : AI) (S : AS) (t : Int32) (k : Nat) (n : Nat) (h : Nat) (fr : Nat → Nat) (to : Nat → Nat) (ofr : Nat → Nat) (oto : Nat → Nat) (hc : CIv I S k n h fr to ofr oto) : vx_Met l yX6_entityOf (Cond.code yX6_entityOf cX6_entityOf 2 (some .int) :: wsL_law) ({ frames := 7, cells := 1, slots := 6, locals := 111 }) (va_Pc [.ref (ad 0), .int t] (rxB D cy (wC cy ad I S))) (rdI (fun r => opP (I 1) t ∧ r = S 3 t.toNatClampNeg / 3)) (xR (fun E => E = eIAE ∧ ¬ opP (I 1) t)) 1 6 noA := by
  refine enterX (cc := cX6_entityOf) (by decide) (Nat.le_of_ble_eq_true rfl) ?_
  intro p e s m below meth c hx hb hr hml hown hts hlocks hT hv Q hQ ls hl
  obtain ⟨hP, hK, hE, hZ⟩ := hv
  have hown : s.vm.findClass RX6 = some m.cls := hown
  have hl : lv_has ls 2 [(0, .ref (ad 0)), (1, .int t)] := hl
  obtain ⟨hn, hn6, hk, hk3, hh, hhn, hfr, hfo, hch⟩ := hc
  have hk8 : k ≤ 180 := by omega
  refine lv_aload_n hx hb dX6_entityOf_0 rfl (lv_at hl 0 rfl) ?_
  refine lv_iload_n hx hb dX6_entityOf_1 rfl (lv_at hl 1 rfl) ?_
  refine xR_call (vx_runV (As := [.int t]) (rest := []) ⟨hx, hb, hml, hown, hts⟩ (c_X6_requireOperation l hl0 D cy ad I S t) (cw_X6_121 hts rfl rfl ⟨Nat.le_of_ble_eq_true rfl, Nat.le_of_ble_eq_true rfl⟩) (preVRX (ci := 6) (q0 := 0) hK hE hZ hP rfl rfl) rfl rfl hl.1 rfl (lv_room (Nat.le_of_ble_eq_true rfl)) dX6_entityOf_2 ⟨Nat.le_of_ble_eq_true rfl, Nat.le_of_ble_eq_true rfl⟩) hT hlocks hQ (Nat.le_of_ble_eq_true rfl) (Nat.le_of_ble_eq_true rfl) (fun E h => h) (fun q2_1 => ?_)
  have hop := q2_1
  rw [hn] at hop
  obtain ⟨j, hj1, hj, rfl⟩ := opP_of (by omega) hop
  refine lv_aload_n hx hb dX6_entityOf_5 rfl (lv_at hl 0 rfl) ?_
  refine gf_X6_12 hx hb hts hown hK hP 0 rfl (v := .ref (ad 1)) rfl dX6_entityOf_6 ?_
  refine lv_iload_n hx hb dX6_entityOf_9 rfl (lv_at hl 1 rfl) ?_
  refine rI_call (va_runV (As := [.int (nI j)]) (rest := []) ⟨hx, hb, hml, hown, hts⟩ (c_X3_slot l D cy ad I S j n hn (by omega) (by omega) (by omega)) (cw_X6_128 hts rfl rfl ⟨Nat.le_of_ble_eq_true rfl, Nat.le_of_ble_eq_true rfl⟩) (preVR (ci := 3) (q0 := 0) hK (hP.sub [1, 2, 3, 4, 5, 6] rfl) rfl rfl) rfl rfl hl.1 rfl (lv_room (Nat.le_of_ble_eq_true rfl)) dX6_entityOf_10 ⟨Nat.le_of_ble_eq_true rfl, Nat.le_of_ble_eq_true rfl⟩) (fun r hr_ => ?_)
  subst hr_
  refine top_eq (y := ((S 3) j)) rfl ?_
  refine lv_iconst (v := 3) hx hb dX6_entityOf_13 (by decide) ?_
  refine lv_idiv hx hb dX6_entityOf_14 (by decide) ?_
  exact xI_ret hx hb hr hlocks dX6_entityOf_15 rfl hQ ⟨q2_1, by rw [nI_clamp (by omega)]⟩ (Nat.le_of_ble_eq_true rfl) (Nat.le_of_ble_eq_true rfl)

set_option maxHeartbeats 4000000 in
set_option maxRecDepth 100000 in
theorem c_X6_factValue (l : Launch) (hl0 : l.stackTraces = false) (D : va_G) (cy : Nat → ClassId) (ad : Nat → Nat) (I : AI) (S : AS) (x : Int32) (k : Nat) (n : Nat) (h : Nat) (fr : Nat → Nat) (to : Nat → Nat) (ofr : Nat → Nat) (oto : Nat → Nat) (hc : CIv I S k n h fr to ofr oto) : vx_Met l yX6_factValue (Cond.code yX6_factValue cX6_factValue 2 (some .int) :: wsL_law) ({ frames := 7, cells := 1, slots := 6, locals := 111 }) (va_Pc [.ref (ad 0), .int x] (rxB D cy (wC cy ad I S))) (rdI (fun r => keptP S k (I 3) x ∧ r = S 9 x.toNatClampNeg)) (xR (fun E => E = eNSE ∧ ¬ keptP S k (I 3) x)) 1 6 noA := by
  refine enterX (cc := cX6_factValue) (by decide) (Nat.le_of_ble_eq_true rfl) ?_
  intro p e s m below meth c hx hb hr hml hown hts hlocks hT hv Q hQ ls hl
  obtain ⟨hP, hK, hE, hZ⟩ := hv
  have hown : s.vm.findClass RX6 = some m.cls := hown
  have hl : lv_has ls 2 [(0, .ref (ad 0)), (1, .int x)] := hl
  obtain ⟨hn, hn6, hk, hk3, hh, hhn, hfr, hfo, hch⟩ := hc
  have hk8 : k ≤ 180 := by omega
  refine lv_aload_n hx hb dX6_factValue_0 rfl (lv_at hl 0 rfl) ?_
  refine lv_iload_n hx hb dX6_factValue_1 rfl (lv_at hl 1 rfl) ?_
  refine xR_call (vx_runV (As := [.int x]) (rest := []) ⟨hx, hb, hml, hown, hts⟩ (c_X6_requireFact l hl0 D cy ad I S x k hk (by omega)) (cw_X6_137 hts rfl rfl ⟨Nat.le_of_ble_eq_true rfl, Nat.le_of_ble_eq_true rfl⟩) (preVRX (ci := 6) (q0 := 0) hK hE hZ hP rfl rfl) rfl rfl hl.1 rfl (lv_room (Nat.le_of_ble_eq_true rfl)) dX6_factValue_2 ⟨Nat.le_of_ble_eq_true rfl, Nat.le_of_ble_eq_true rfl⟩) hT hlocks hQ (Nat.le_of_ble_eq_true rfl) (Nat.le_of_ble_eq_true rfl) (fun E h => h) (fun q2_1 => ?_)
  obtain ⟨j, hj, rfl⟩ : ∃ j : Nat, j < k ∧ x = nI j := (pk_ix x (n := k) (by omega)).elim (fun q => absurd q q2_1.1) (fun q => q.elim (fun q => absurd q q2_1.2.1) (fun q => q))
  refine lv_aload_n hx hb dX6_factValue_5 rfl (lv_at hl 0 rfl) ?_
  refine gf_X6_19 hx hb hts hown hK hP 0 rfl (v := .ref (ad 7)) rfl dX6_factValue_6 ?_
  refine lv_iload_n hx hb dX6_factValue_9 rfl (lv_at hl 1 rfl) ?_
  refine rI_call (va_runV (As := [.int (nI j)]) (rest := []) ⟨hx, hb, hml, hown, hts⟩ (c_X0_value l D cy ad I S j (by omega)) (cw_X6_140 hts rfl rfl ⟨Nat.le_of_ble_eq_true rfl, Nat.le_of_ble_eq_true rfl⟩) (preVR (ci := 0) (q0 := 0) hK (hP.sub [7, 8, 9, 10, 11, 12, 13] rfl) rfl rfl) rfl rfl hl.1 rfl (lv_room (Nat.le_of_ble_eq_true rfl)) dX6_factValue_10 ⟨Nat.le_of_ble_eq_true rfl, Nat.le_of_ble_eq_true rfl⟩) (fun r hr_ => ?_)
  subst hr_
  refine top_eq (y := ((S 9) j)) rfl ?_
  exact xI_ret hx hb hr hlocks dX6_factValue_13 rfl hQ ⟨q2_1, by rw [nI_clamp (by omega)]⟩ (Nat.le_of_ble_eq_true rfl) (Nat.le_of_ble_eq_true rfl)

set_option maxHeartbeats 4000000 in
set_option maxRecDepth 100000 in
theorem c_X6_factFrom (l : Launch) (hl0 : l.stackTraces = false) (D : va_G) (cy : Nat → ClassId) (ad : Nat → Nat) (I : AI) (S : AS) (x : Int32) (k : Nat) (n : Nat) (h : Nat) (fr : Nat → Nat) (to : Nat → Nat) (ofr : Nat → Nat) (oto : Nat → Nat) (hc : CIv I S k n h fr to ofr oto) : vx_Met l yX6_factFrom (Cond.code yX6_factFrom cX6_factFrom 2 (some .int) :: wsL_law) ({ frames := 7, cells := 1, slots := 6, locals := 111 }) (va_Pc [.ref (ad 0), .int x] (rxB D cy (wC cy ad I S))) (rdI (fun r => keptP S k (I 3) x ∧ r = S 10 x.toNatClampNeg)) (xR (fun E => E = eNSE ∧ ¬ keptP S k (I 3) x)) 1 6 noA := by
  refine enterX (cc := cX6_factFrom) (by decide) (Nat.le_of_ble_eq_true rfl) ?_
  intro p e s m below meth c hx hb hr hml hown hts hlocks hT hv Q hQ ls hl
  obtain ⟨hP, hK, hE, hZ⟩ := hv
  have hown : s.vm.findClass RX6 = some m.cls := hown
  have hl : lv_has ls 2 [(0, .ref (ad 0)), (1, .int x)] := hl
  obtain ⟨hn, hn6, hk, hk3, hh, hhn, hfr, hfo, hch⟩ := hc
  have hk8 : k ≤ 180 := by omega
  refine lv_aload_n hx hb dX6_factFrom_0 rfl (lv_at hl 0 rfl) ?_
  refine lv_iload_n hx hb dX6_factFrom_1 rfl (lv_at hl 1 rfl) ?_
  refine xR_call (vx_runV (As := [.int x]) (rest := []) ⟨hx, hb, hml, hown, hts⟩ (c_X6_requireFact l hl0 D cy ad I S x k hk (by omega)) (cw_X6_137 hts rfl rfl ⟨Nat.le_of_ble_eq_true rfl, Nat.le_of_ble_eq_true rfl⟩) (preVRX (ci := 6) (q0 := 0) hK hE hZ hP rfl rfl) rfl rfl hl.1 rfl (lv_room (Nat.le_of_ble_eq_true rfl)) dX6_factFrom_2 ⟨Nat.le_of_ble_eq_true rfl, Nat.le_of_ble_eq_true rfl⟩) hT hlocks hQ (Nat.le_of_ble_eq_true rfl) (Nat.le_of_ble_eq_true rfl) (fun E h => h) (fun q2_1 => ?_)
  obtain ⟨j, hj, rfl⟩ : ∃ j : Nat, j < k ∧ x = nI j := (pk_ix x (n := k) (by omega)).elim (fun q => absurd q q2_1.1) (fun q => q.elim (fun q => absurd q q2_1.2.1) (fun q => q))
  refine lv_aload_n hx hb dX6_factFrom_5 rfl (lv_at hl 0 rfl) ?_
  refine gf_X6_19 hx hb hts hown hK hP 0 rfl (v := .ref (ad 7)) rfl dX6_factFrom_6 ?_
  refine lv_iload_n hx hb dX6_factFrom_9 rfl (lv_at hl 1 rfl) ?_
  refine rI_call (va_runV (As := [.int (nI j)]) (rest := []) ⟨hx, hb, hml, hown, hts⟩ (c_X0_firstDay l D cy ad I S j (by omega)) (cw_X6_114 hts rfl rfl ⟨Nat.le_of_ble_eq_true rfl, Nat.le_of_ble_eq_true rfl⟩) (preVR (ci := 0) (q0 := 0) hK (hP.sub [7, 8, 9, 10, 11, 12, 13] rfl) rfl rfl) rfl rfl hl.1 rfl (lv_room (Nat.le_of_ble_eq_true rfl)) dX6_factFrom_10 ⟨Nat.le_of_ble_eq_true rfl, Nat.le_of_ble_eq_true rfl⟩) (fun r hr_ => ?_)
  subst hr_
  refine top_eq (y := ((S 10) j)) rfl ?_
  exact xI_ret hx hb hr hlocks dX6_factFrom_13 rfl hQ ⟨q2_1, by rw [nI_clamp (by omega)]⟩ (Nat.le_of_ble_eq_true rfl) (Nat.le_of_ble_eq_true rfl)

set_option maxHeartbeats 4000000 in
set_option maxRecDepth 100000 in
theorem c_X6_factTo (l : Launch) (hl0 : l.stackTraces = false) (D : va_G) (cy : Nat → ClassId) (ad : Nat → Nat) (I : AI) (S : AS) (x : Int32) (k : Nat) (n : Nat) (h : Nat) (fr : Nat → Nat) (to : Nat → Nat) (ofr : Nat → Nat) (oto : Nat → Nat) (hc : CIv I S k n h fr to ofr oto) : vx_Met l yX6_factTo (Cond.code yX6_factTo cX6_factTo 2 (some .int) :: wsL_law) ({ frames := 7, cells := 1, slots := 6, locals := 111 }) (va_Pc [.ref (ad 0), .int x] (rxB D cy (wC cy ad I S))) (rdI (fun r => keptP S k (I 3) x ∧ r = S 11 x.toNatClampNeg)) (xR (fun E => E = eNSE ∧ ¬ keptP S k (I 3) x)) 1 6 noA := by
  refine enterX (cc := cX6_factTo) (by decide) (Nat.le_of_ble_eq_true rfl) ?_
  intro p e s m below meth c hx hb hr hml hown hts hlocks hT hv Q hQ ls hl
  obtain ⟨hP, hK, hE, hZ⟩ := hv
  have hown : s.vm.findClass RX6 = some m.cls := hown
  have hl : lv_has ls 2 [(0, .ref (ad 0)), (1, .int x)] := hl
  obtain ⟨hn, hn6, hk, hk3, hh, hhn, hfr, hfo, hch⟩ := hc
  have hk8 : k ≤ 180 := by omega
  refine lv_aload_n hx hb dX6_factTo_0 rfl (lv_at hl 0 rfl) ?_
  refine lv_iload_n hx hb dX6_factTo_1 rfl (lv_at hl 1 rfl) ?_
  refine xR_call (vx_runV (As := [.int x]) (rest := []) ⟨hx, hb, hml, hown, hts⟩ (c_X6_requireFact l hl0 D cy ad I S x k hk (by omega)) (cw_X6_137 hts rfl rfl ⟨Nat.le_of_ble_eq_true rfl, Nat.le_of_ble_eq_true rfl⟩) (preVRX (ci := 6) (q0 := 0) hK hE hZ hP rfl rfl) rfl rfl hl.1 rfl (lv_room (Nat.le_of_ble_eq_true rfl)) dX6_factTo_2 ⟨Nat.le_of_ble_eq_true rfl, Nat.le_of_ble_eq_true rfl⟩) hT hlocks hQ (Nat.le_of_ble_eq_true rfl) (Nat.le_of_ble_eq_true rfl) (fun E h => h) (fun q2_1 => ?_)
  obtain ⟨j, hj, rfl⟩ : ∃ j : Nat, j < k ∧ x = nI j := (pk_ix x (n := k) (by omega)).elim (fun q => absurd q q2_1.1) (fun q => q.elim (fun q => absurd q q2_1.2.1) (fun q => q))
  refine lv_aload_n hx hb dX6_factTo_5 rfl (lv_at hl 0 rfl) ?_
  refine gf_X6_19 hx hb hts hown hK hP 0 rfl (v := .ref (ad 7)) rfl dX6_factTo_6 ?_
  refine lv_iload_n hx hb dX6_factTo_9 rfl (lv_at hl 1 rfl) ?_
  refine rI_call (va_runV (As := [.int (nI j)]) (rest := []) ⟨hx, hb, hml, hown, hts⟩ (c_X0_dayAfter l D cy ad I S j (by omega)) (cw_X6_118 hts rfl rfl ⟨Nat.le_of_ble_eq_true rfl, Nat.le_of_ble_eq_true rfl⟩) (preVR (ci := 0) (q0 := 0) hK (hP.sub [7, 8, 9, 10, 11, 12, 13] rfl) rfl rfl) rfl rfl hl.1 rfl (lv_room (Nat.le_of_ble_eq_true rfl)) dX6_factTo_10 ⟨Nat.le_of_ble_eq_true rfl, Nat.le_of_ble_eq_true rfl⟩) (fun r hr_ => ?_)
  subst hr_
  refine top_eq (y := ((S 11) j)) rfl ?_
  exact xI_ret hx hb hr hlocks dX6_factTo_13 rfl hQ ⟨q2_1, by rw [nI_clamp (by omega)]⟩ (Nat.le_of_ble_eq_true rfl) (Nat.le_of_ble_eq_true rfl)

set_option maxHeartbeats 4000000 in
set_option maxRecDepth 100000 in
theorem c_X6_openedAt (l : Launch) (hl0 : l.stackTraces = false) (D : va_G) (cy : Nat → ClassId) (ad : Nat → Nat) (I : AI) (S : AS) (x : Int32) (k : Nat) (n : Nat) (h : Nat) (fr : Nat → Nat) (to : Nat → Nat) (ofr : Nat → Nat) (oto : Nat → Nat) (hc : CIv I S k n h fr to ofr oto) : vx_Met l yX6_openedAt (Cond.code yX6_openedAt cX6_openedAt 2 (some .int) :: wsL_law) ({ frames := 7, cells := 1, slots := 6, locals := 111 }) (va_Pc [.ref (ad 0), .int x] (rxB D cy (wC cy ad I S))) (rdI (fun r => keptP S k (I 3) x ∧ r = S 12 x.toNatClampNeg)) (xR (fun E => E = eNSE ∧ ¬ keptP S k (I 3) x)) 1 6 noA := by
  refine enterX (cc := cX6_openedAt) (by decide) (Nat.le_of_ble_eq_true rfl) ?_
  intro p e s m below meth c hx hb hr hml hown hts hlocks hT hv Q hQ ls hl
  obtain ⟨hP, hK, hE, hZ⟩ := hv
  have hown : s.vm.findClass RX6 = some m.cls := hown
  have hl : lv_has ls 2 [(0, .ref (ad 0)), (1, .int x)] := hl
  obtain ⟨hn, hn6, hk, hk3, hh, hhn, hfr, hfo, hch⟩ := hc
  have hk8 : k ≤ 180 := by omega
  refine lv_aload_n hx hb dX6_openedAt_0 rfl (lv_at hl 0 rfl) ?_
  refine lv_iload_n hx hb dX6_openedAt_1 rfl (lv_at hl 1 rfl) ?_
  refine xR_call (vx_runV (As := [.int x]) (rest := []) ⟨hx, hb, hml, hown, hts⟩ (c_X6_requireFact l hl0 D cy ad I S x k hk (by omega)) (cw_X6_137 hts rfl rfl ⟨Nat.le_of_ble_eq_true rfl, Nat.le_of_ble_eq_true rfl⟩) (preVRX (ci := 6) (q0 := 0) hK hE hZ hP rfl rfl) rfl rfl hl.1 rfl (lv_room (Nat.le_of_ble_eq_true rfl)) dX6_openedAt_2 ⟨Nat.le_of_ble_eq_true rfl, Nat.le_of_ble_eq_true rfl⟩) hT hlocks hQ (Nat.le_of_ble_eq_true rfl) (Nat.le_of_ble_eq_true rfl) (fun E h => h) (fun q2_1 => ?_)
  obtain ⟨j, hj, rfl⟩ : ∃ j : Nat, j < k ∧ x = nI j := (pk_ix x (n := k) (by omega)).elim (fun q => absurd q q2_1.1) (fun q => q.elim (fun q => absurd q q2_1.2.1) (fun q => q))
  refine lv_aload_n hx hb dX6_openedAt_5 rfl (lv_at hl 0 rfl) ?_
  refine gf_X6_19 hx hb hts hown hK hP 0 rfl (v := .ref (ad 7)) rfl dX6_openedAt_6 ?_
  refine lv_iload_n hx hb dX6_openedAt_9 rfl (lv_at hl 1 rfl) ?_
  refine rI_call (va_runV (As := [.int (nI j)]) (rest := []) ⟨hx, hb, hml, hown, hts⟩ (c_X0_opening l D cy ad I S j (by omega)) (cw_X6_143 hts rfl rfl ⟨Nat.le_of_ble_eq_true rfl, Nat.le_of_ble_eq_true rfl⟩) (preVR (ci := 0) (q0 := 0) hK (hP.sub [7, 8, 9, 10, 11, 12, 13] rfl) rfl rfl) rfl rfl hl.1 rfl (lv_room (Nat.le_of_ble_eq_true rfl)) dX6_openedAt_10 ⟨Nat.le_of_ble_eq_true rfl, Nat.le_of_ble_eq_true rfl⟩) (fun r hr_ => ?_)
  subst hr_
  refine top_eq (y := ((S 12) j)) rfl ?_
  exact xI_ret hx hb hr hlocks dX6_openedAt_13 rfl hQ ⟨q2_1, by rw [nI_clamp (by omega)]⟩ (Nat.le_of_ble_eq_true rfl) (Nat.le_of_ble_eq_true rfl)

set_option maxHeartbeats 4000000 in
set_option maxRecDepth 100000 in
theorem c_X6_closedAt (l : Launch) (hl0 : l.stackTraces = false) (D : va_G) (cy : Nat → ClassId) (ad : Nat → Nat) (I : AI) (S : AS) (x : Int32) (k : Nat) (n : Nat) (h : Nat) (fr : Nat → Nat) (to : Nat → Nat) (ofr : Nat → Nat) (oto : Nat → Nat) (hc : CIv I S k n h fr to ofr oto) : vx_Met l yX6_closedAt (Cond.code yX6_closedAt cX6_closedAt 2 (some .int) :: wsL_law) ({ frames := 7, cells := 1, slots := 6, locals := 111 }) (va_Pc [.ref (ad 0), .int x] (rxB D cy (wC cy ad I S))) (rdI (fun r => keptP S k (I 3) x ∧ r = S 13 x.toNatClampNeg)) (xR (fun E => E = eNSE ∧ ¬ keptP S k (I 3) x)) 1 6 noA := by
  refine enterX (cc := cX6_closedAt) (by decide) (Nat.le_of_ble_eq_true rfl) ?_
  intro p e s m below meth c hx hb hr hml hown hts hlocks hT hv Q hQ ls hl
  obtain ⟨hP, hK, hE, hZ⟩ := hv
  have hown : s.vm.findClass RX6 = some m.cls := hown
  have hl : lv_has ls 2 [(0, .ref (ad 0)), (1, .int x)] := hl
  obtain ⟨hn, hn6, hk, hk3, hh, hhn, hfr, hfo, hch⟩ := hc
  have hk8 : k ≤ 180 := by omega
  refine lv_aload_n hx hb dX6_closedAt_0 rfl (lv_at hl 0 rfl) ?_
  refine lv_iload_n hx hb dX6_closedAt_1 rfl (lv_at hl 1 rfl) ?_
  refine xR_call (vx_runV (As := [.int x]) (rest := []) ⟨hx, hb, hml, hown, hts⟩ (c_X6_requireFact l hl0 D cy ad I S x k hk (by omega)) (cw_X6_137 hts rfl rfl ⟨Nat.le_of_ble_eq_true rfl, Nat.le_of_ble_eq_true rfl⟩) (preVRX (ci := 6) (q0 := 0) hK hE hZ hP rfl rfl) rfl rfl hl.1 rfl (lv_room (Nat.le_of_ble_eq_true rfl)) dX6_closedAt_2 ⟨Nat.le_of_ble_eq_true rfl, Nat.le_of_ble_eq_true rfl⟩) hT hlocks hQ (Nat.le_of_ble_eq_true rfl) (Nat.le_of_ble_eq_true rfl) (fun E h => h) (fun q2_1 => ?_)
  obtain ⟨j, hj, rfl⟩ : ∃ j : Nat, j < k ∧ x = nI j := (pk_ix x (n := k) (by omega)).elim (fun q => absurd q q2_1.1) (fun q => q.elim (fun q => absurd q q2_1.2.1) (fun q => q))
  refine lv_aload_n hx hb dX6_closedAt_5 rfl (lv_at hl 0 rfl) ?_
  refine gf_X6_19 hx hb hts hown hK hP 0 rfl (v := .ref (ad 7)) rfl dX6_closedAt_6 ?_
  refine lv_iload_n hx hb dX6_closedAt_9 rfl (lv_at hl 1 rfl) ?_
  refine rI_call (va_runV (As := [.int (nI j)]) (rest := []) ⟨hx, hb, hml, hown, hts⟩ (c_X0_closing l D cy ad I S j (by omega)) (cw_X6_146 hts rfl rfl ⟨Nat.le_of_ble_eq_true rfl, Nat.le_of_ble_eq_true rfl⟩) (preVR (ci := 0) (q0 := 0) hK (hP.sub [7, 8, 9, 10, 11, 12, 13] rfl) rfl rfl) rfl rfl hl.1 rfl (lv_room (Nat.le_of_ble_eq_true rfl)) dX6_closedAt_10 ⟨Nat.le_of_ble_eq_true rfl, Nat.le_of_ble_eq_true rfl⟩) (fun r hr_ => ?_)
  subst hr_
  refine top_eq (y := ((S 13) j)) rfl ?_
  exact xI_ret hx hb hr hlocks dX6_closedAt_13 rfl hQ ⟨q2_1, by rw [nI_clamp (by omega)]⟩ (Nat.le_of_ble_eq_true rfl) (Nat.le_of_ble_eq_true rfl)

set_option maxHeartbeats 4000000 in
set_option maxRecDepth 100000 in
theorem c_X6_isKnown (l : Launch) (hl0 : l.stackTraces = false) (D : va_G) (cy : Nat → ClassId) (ad : Nat → Nat) (I : AI) (S : AS) (x : Int32) (b : Int32) (d : Int32) (t : Int32) (k : Nat) (n : Nat) (h : Nat) (fr : Nat → Nat) (to : Nat → Nat) (ofr : Nat → Nat) (oto : Nat → Nat) (hc : CIv I S k n h fr to ofr oto) : vx_Met l yX6_isKnown (Cond.code yX6_isKnown cX6_isKnown 5 (some .boolean) :: wsL_law) ({ frames := 9, cells := 4, slots := 24, locals := 154 }) (va_Pc [.ref (ad 0), .int x, .int b, .int d, .int t] (rxB D cy (wC cy ad I S))) (rdI (fun r => ac I x b d t ∧ r = if fndN S (slI x b) d t k = -1 then 0 else 1)) (xR (fun E => ax I x b d t E)) 4 24 noA := by
  refine enterX (cc := cX6_isKnown) (by decide) (Nat.le_of_ble_eq_true rfl) ?_
  intro p e s m below meth c hx hb hr hml hown hts hlocks hT hv Q hQ ls hl
  obtain ⟨hP, hK, hE, hZ⟩ := hv
  have hown : s.vm.findClass RX6 = some m.cls := hown
  have hl : lv_has ls 5 [(0, .ref (ad 0)), (1, .int x), (2, .int b), (3, .int d), (4, .int t)] := hl
  obtain ⟨hn, hn6, hk, hk3, hh, hhn, hfr, hfo, hch⟩ := hc
  have hk8 : k ≤ 180 := by omega
  refine lv_aload_n hx hb dX6_isKnown_0 rfl (lv_at hl 0 rfl) ?_
  refine lv_iload_n hx hb dX6_isKnown_1 rfl (lv_at hl 1 rfl) ?_
  refine lv_iload_n hx hb dX6_isKnown_2 rfl (lv_at hl 2 rfl) ?_
  refine xR_call (vx_runV (As := [.int x, .int b]) (rest := []) ⟨hx, hb, hml, hown, hts⟩ (c_X6_requireAttribute l hl0 D cy ad I S x b) (cw_X6_65 hts rfl rfl ⟨Nat.le_of_ble_eq_true rfl, Nat.le_of_ble_eq_true rfl⟩) (preVRX (ci := 6) (q0 := 0) hK hE hZ hP rfl rfl) rfl rfl hl.1 rfl (lv_room (Nat.le_of_ble_eq_true rfl)) dX6_isKnown_3 ⟨Nat.le_of_ble_eq_true rfl, Nat.le_of_ble_eq_true rfl⟩) hT hlocks hQ (Nat.le_of_ble_eq_true rfl) (Nat.le_of_ble_eq_true rfl) (fun E h => Or.inl ⟨h.1, h.2⟩) (fun q3_1 => ?_)
  refine lv_aload_n hx hb dX6_isKnown_6 rfl (lv_at hl 0 rfl) ?_
  refine lv_iload_n hx hb dX6_isKnown_7 rfl (lv_at hl 3 rfl) ?_
  refine lv_iload hx hb dX6_isKnown_8 (lv_at hl 4 rfl) ?_
  refine xR_call (vx_runV (As := [.int d, .int t]) (rest := []) ⟨hx, hb, hml, hown, hts⟩ (c_X6_requireDayAndTick l hl0 D cy ad I S d t) (cw_X6_160 hts rfl rfl ⟨Nat.le_of_ble_eq_true rfl, Nat.le_of_ble_eq_true rfl⟩) (preVRX (ci := 6) (q0 := 0) hK hE hZ hP rfl rfl) rfl rfl hl.1 rfl (lv_room (Nat.le_of_ble_eq_true rfl)) dX6_isKnown_10 ⟨Nat.le_of_ble_eq_true rfl, Nat.le_of_ble_eq_true rfl⟩) hT hlocks hQ (Nat.le_of_ble_eq_true rfl) (Nat.le_of_ble_eq_true rfl) (fun E h => Or.inr (h.elim (fun h => Or.inl ⟨h.1, q3_1, h.2⟩) (fun h => Or.inr ⟨h.1, q3_1, h.2⟩))) (fun q10_2 => ?_)
  refine lv_aload_n hx hb dX6_isKnown_13 rfl (lv_at hl 0 rfl) ?_
  refine gf_X6_19 hx hb hts hown hK hP 0 rfl (v := .ref (ad 7)) rfl dX6_isKnown_14 ?_
  refine lv_iload_n hx hb dX6_isKnown_17 rfl (lv_at hl 1 rfl) ?_
  refine lv_iload_n hx hb dX6_isKnown_18 rfl (lv_at hl 2 rfl) ?_
  refine rI_call (va_runS (As := [.int x, .int b]) (rest := [.ref (ad 7)]) ⟨hx, hb, hml, hown, hts⟩ (c_X6_slotOf l D cy x b) (cw_X6_75 hts rfl rfl ⟨Nat.le_of_ble_eq_true rfl, Nat.le_of_ble_eq_true rfl⟩) (preSR hK (hP.sub [] rfl)) rfl rfl hl.1 rfl (lv_room (Nat.le_of_ble_eq_true rfl)) dX6_isKnown_19 ⟨Nat.le_of_ble_eq_true rfl, Nat.le_of_ble_eq_true rfl⟩) (fun r hr_ => ?_)
  subst hr_
  refine lv_iload_n hx hb dX6_isKnown_22 rfl (lv_at hl 3 rfl) ?_
  refine lv_iload hx hb dX6_isKnown_23 (lv_at hl 4 rfl) ?_
  refine rI_call (va_runV (As := [.int (slI x b), .int d, .int t]) (rest := []) ⟨hx, hb, hml, hown, hts⟩ (c_X0_find l D cy ad I S (slI x b) d t k hk (by omega)) (cw_X6_106 hts rfl rfl ⟨Nat.le_of_ble_eq_true rfl, Nat.le_of_ble_eq_true rfl⟩) (preVR (ci := 0) (q0 := 0) hK (hP.sub [7, 8, 9, 10, 11, 12, 13] rfl) rfl rfl) rfl rfl hl.1 rfl (lv_room (Nat.le_of_ble_eq_true rfl)) dX6_isKnown_25 ⟨Nat.le_of_ble_eq_true rfl, Nat.le_of_ble_eq_true rfl⟩) (fun r25_3 q25_3 => ?_)
  rcases q25_3 with ⟨j, hj, rfl, hh_, hm_⟩ | ⟨rfl, hno_⟩
  · have hfe := fnd1 hk8 hj hh_ hm_
    refine lv_iconst (v := (-1)) hx hb dX6_isKnown_28 (by decide) ?_
    refine lv_icmp_eq (tgt := 36) hx hb dX6_isKnown_29 (by decide) (fun c => absurd c (nI_m1 (by omega))) (fun _ => ?_)
    refine lv_iconst (v := 1) hx hb dX6_isKnown_32 (by decide) ?_
    refine lv_goto (tgt := 37) hx hb dX6_isKnown_33 (by decide) ?_
    exact xI_ret hx hb hr hlocks dX6_isKnown_37 narZ1  hQ ⟨⟨q3_1, q10_2⟩, (if_neg (by rw [hfe]; exact nI_m1 (by omega))).symm⟩ (Nat.le_of_ble_eq_true rfl) (Nat.le_of_ble_eq_true rfl)
  · have hfe := fnd0 hno_
    refine lv_iconst (v := (-1)) hx hb dX6_isKnown_28 (by decide) ?_
    refine lv_icmp_eq (tgt := 36) hx hb dX6_isKnown_29 (by decide) (fun _ => ?_) (fun c => absurd (by decide) c)
    refine lv_iconst (v := 0) hx hb dX6_isKnown_36 (by decide) ?_
    exact xI_ret hx hb hr hlocks dX6_isKnown_37 narZ0  hQ ⟨⟨q3_1, q10_2⟩, (if_pos hfe).symm⟩ (Nat.le_of_ble_eq_true rfl) (Nat.le_of_ble_eq_true rfl)

set_option maxHeartbeats 4000000 in
set_option maxRecDepth 100000 in
theorem c_X6_valueAt (l : Launch) (hl0 : l.stackTraces = false) (D : va_G) (cy : Nat → ClassId) (ad : Nat → Nat) (I : AI) (S : AS) (x : Int32) (b : Int32) (d : Int32) (t : Int32) (k : Nat) (n : Nat) (h : Nat) (fr : Nat → Nat) (to : Nat → Nat) (ofr : Nat → Nat) (oto : Nat → Nat) (hc : CIv I S k n h fr to ofr oto) : vx_Met l yX6_valueAt (Cond.code yX6_valueAt cX6_valueAt 6 (some .int) :: wsL_law) ({ frames := 9, cells := 5, slots := 30, locals := 154 }) (va_Pc [.ref (ad 0), .int x, .int b, .int d, .int t] (rxB D cy (wC cy ad I S))) (rdI (fun r => ac I x b d t ∧ ∃ j : Nat, j < k ∧ fndN S (slI x b) d t k = nI j ∧ r = S 9 j)) (xR (fun E => ax I x b d t E ∨ (E = eNSE ∧ ac I x b d t ∧ fndN S (slI x b) d t k = -1))) 5 30 noA := by
  refine enterX (cc := cX6_valueAt) (by decide) (Nat.le_of_ble_eq_true rfl) ?_
  intro p e s m below meth c hx hb hr hml hown hts hlocks hT hv Q hQ ls hl
  obtain ⟨hP, hK, hE, hZ⟩ := hv
  have hown : s.vm.findClass RX6 = some m.cls := hown
  have hl : lv_has ls 6 [(0, .ref (ad 0)), (1, .int x), (2, .int b), (3, .int d), (4, .int t)] := hl
  obtain ⟨hn, hn6, hk, hk3, hh, hhn, hfr, hfo, hch⟩ := hc
  have hk8 : k ≤ 180 := by omega
  refine lv_aload_n hx hb dX6_valueAt_0 rfl (lv_at hl 0 rfl) ?_
  refine lv_iload_n hx hb dX6_valueAt_1 rfl (lv_at hl 1 rfl) ?_
  refine lv_iload_n hx hb dX6_valueAt_2 rfl (lv_at hl 2 rfl) ?_
  refine xR_call (vx_runV (As := [.int x, .int b]) (rest := []) ⟨hx, hb, hml, hown, hts⟩ (c_X6_requireAttribute l hl0 D cy ad I S x b) (cw_X6_65 hts rfl rfl ⟨Nat.le_of_ble_eq_true rfl, Nat.le_of_ble_eq_true rfl⟩) (preVRX (ci := 6) (q0 := 0) hK hE hZ hP rfl rfl) rfl rfl hl.1 rfl (lv_room (Nat.le_of_ble_eq_true rfl)) dX6_valueAt_3 ⟨Nat.le_of_ble_eq_true rfl, Nat.le_of_ble_eq_true rfl⟩) hT hlocks hQ (Nat.le_of_ble_eq_true rfl) (Nat.le_of_ble_eq_true rfl) (fun E h => Or.inl (Or.inl ⟨h.1, h.2⟩)) (fun q3_1 => ?_)
  refine lv_aload_n hx hb dX6_valueAt_6 rfl (lv_at hl 0 rfl) ?_
  refine lv_iload_n hx hb dX6_valueAt_7 rfl (lv_at hl 3 rfl) ?_
  refine lv_iload hx hb dX6_valueAt_8 (lv_at hl 4 rfl) ?_
  refine xR_call (vx_runV (As := [.int d, .int t]) (rest := []) ⟨hx, hb, hml, hown, hts⟩ (c_X6_requireDayAndTick l hl0 D cy ad I S d t) (cw_X6_160 hts rfl rfl ⟨Nat.le_of_ble_eq_true rfl, Nat.le_of_ble_eq_true rfl⟩) (preVRX (ci := 6) (q0 := 0) hK hE hZ hP rfl rfl) rfl rfl hl.1 rfl (lv_room (Nat.le_of_ble_eq_true rfl)) dX6_valueAt_10 ⟨Nat.le_of_ble_eq_true rfl, Nat.le_of_ble_eq_true rfl⟩) hT hlocks hQ (Nat.le_of_ble_eq_true rfl) (Nat.le_of_ble_eq_true rfl) (fun E h => Or.inl (Or.inr (h.elim (fun h => Or.inl ⟨h.1, q3_1, h.2⟩) (fun h => Or.inr ⟨h.1, q3_1, h.2⟩)))) (fun q10_2 => ?_)
  refine lv_aload_n hx hb dX6_valueAt_13 rfl (lv_at hl 0 rfl) ?_
  refine gf_X6_19 hx hb hts hown hK hP 0 rfl (v := .ref (ad 7)) rfl dX6_valueAt_14 ?_
  refine lv_iload_n hx hb dX6_valueAt_17 rfl (lv_at hl 1 rfl) ?_
  refine lv_iload_n hx hb dX6_valueAt_18 rfl (lv_at hl 2 rfl) ?_
  refine rI_call (va_runS (As := [.int x, .int b]) (rest := [.ref (ad 7)]) ⟨hx, hb, hml, hown, hts⟩ (c_X6_slotOf l D cy x b) (cw_X6_75 hts rfl rfl ⟨Nat.le_of_ble_eq_true rfl, Nat.le_of_ble_eq_true rfl⟩) (preSR hK (hP.sub [] rfl)) rfl rfl hl.1 rfl (lv_room (Nat.le_of_ble_eq_true rfl)) dX6_valueAt_19 ⟨Nat.le_of_ble_eq_true rfl, Nat.le_of_ble_eq_true rfl⟩) (fun r hr_ => ?_)
  subst hr_
  refine lv_iload_n hx hb dX6_valueAt_22 rfl (lv_at hl 3 rfl) ?_
  refine lv_iload hx hb dX6_valueAt_23 (lv_at hl 4 rfl) ?_
  refine rI_call (va_runV (As := [.int (slI x b), .int d, .int t]) (rest := []) ⟨hx, hb, hml, hown, hts⟩ (c_X0_find l D cy ad I S (slI x b) d t k hk (by omega)) (cw_X6_106 hts rfl rfl ⟨Nat.le_of_ble_eq_true rfl, Nat.le_of_ble_eq_true rfl⟩) (preVR (ci := 0) (q0 := 0) hK (hP.sub [7, 8, 9, 10, 11, 12, 13] rfl) rfl rfl) rfl rfl hl.1 rfl (lv_room (Nat.le_of_ble_eq_true rfl)) dX6_valueAt_25 ⟨Nat.le_of_ble_eq_true rfl, Nat.le_of_ble_eq_true rfl⟩) (fun r25_3 q25_3 => ?_)
  rcases q25_3 with ⟨j, hj, rfl, hh_, hm_⟩ | ⟨rfl, hno_⟩
  · have hfe := fnd1 hk8 hj hh_ hm_
    refine lv_istore (lv' := [(5, .int (nI j)), (0, .ref (ad 0)), (1, .int x), (2, .int b), (3, .int d), (4, .int t)]) hx hb dX6_valueAt_28 hl (by decide) rfl (fun ls hl => ?_)
    refine lv_aload_n hx hb dX6_valueAt_30 rfl (lv_at hl 1 rfl) ?_
    refine lv_iload hx hb dX6_valueAt_31 (lv_at hl 0 rfl) ?_
    refine lv_iconst (v := (-1)) hx hb dX6_valueAt_33 (by decide) ?_
    refine lv_icmp_eq (tgt := 41) hx hb dX6_valueAt_34 (by decide) (fun c => absurd c (nI_m1 (by omega))) (fun _ => ?_)
    refine lv_iconst (v := 1) hx hb dX6_valueAt_37 (by decide) ?_
    refine lv_goto (tgt := 42) hx hb dX6_valueAt_38 (by decide) ?_
    refine xR_call (vx_runV (As := [.int 1]) (rest := []) ⟨hx, hb, hml, hown, hts⟩ (c_X6_requireKnown l hl0 D cy ad I S 1) (cw_X6_110 hts rfl rfl ⟨Nat.le_of_ble_eq_true rfl, Nat.le_of_ble_eq_true rfl⟩) (preVRX (ci := 6) (q0 := 0) hK hE hZ hP rfl rfl) rfl rfl hl.1 rfl (lv_room (Nat.le_of_ble_eq_true rfl)) dX6_valueAt_42 ⟨Nat.le_of_ble_eq_true rfl, Nat.le_of_ble_eq_true rfl⟩) hT hlocks hQ (Nat.le_of_ble_eq_true rfl) (Nat.le_of_ble_eq_true rfl) (fun E h => absurd (by decide) h.2) (fun q42_4 => ?_)
    refine lv_aload_n hx hb dX6_valueAt_45 rfl (lv_at hl 1 rfl) ?_
    refine gf_X6_19 hx hb hts hown hK hP 0 rfl (v := .ref (ad 7)) rfl dX6_valueAt_46 ?_
    refine lv_iload hx hb dX6_valueAt_49 (lv_at hl 0 rfl) ?_
    refine rI_call (va_runV (As := [.int (nI j)]) (rest := []) ⟨hx, hb, hml, hown, hts⟩ (c_X0_value l D cy ad I S j (by omega)) (cw_X6_140 hts rfl rfl ⟨Nat.le_of_ble_eq_true rfl, Nat.le_of_ble_eq_true rfl⟩) (preVR (ci := 0) (q0 := 0) hK (hP.sub [7, 8, 9, 10, 11, 12, 13] rfl) rfl rfl) rfl rfl hl.1 rfl (lv_room (Nat.le_of_ble_eq_true rfl)) dX6_valueAt_51 ⟨Nat.le_of_ble_eq_true rfl, Nat.le_of_ble_eq_true rfl⟩) (fun r hr_ => ?_)
    subst hr_
    refine top_eq (y := ((S 9) j)) rfl ?_
    exact xI_ret hx hb hr hlocks dX6_valueAt_54 rfl hQ ⟨⟨q3_1, q10_2⟩, j, hj, hfe, rfl⟩ (Nat.le_of_ble_eq_true rfl) (Nat.le_of_ble_eq_true rfl)
  · have hfe := fnd0 hno_
    refine lv_istore (lv' := [(5, .int (-1)), (0, .ref (ad 0)), (1, .int x), (2, .int b), (3, .int d), (4, .int t)]) hx hb dX6_valueAt_28 hl (by decide) rfl (fun ls hl => ?_)
    refine lv_aload_n hx hb dX6_valueAt_30 rfl (lv_at hl 1 rfl) ?_
    refine lv_iload hx hb dX6_valueAt_31 (lv_at hl 0 rfl) ?_
    refine lv_iconst (v := (-1)) hx hb dX6_valueAt_33 (by decide) ?_
    refine lv_icmp_eq (tgt := 41) hx hb dX6_valueAt_34 (by decide) (fun _ => ?_) (fun c => absurd (by decide) c)
    refine lv_iconst (v := 0) hx hb dX6_valueAt_41 (by decide) ?_
    refine xR_call (vx_runV (As := [.int 0]) (rest := []) ⟨hx, hb, hml, hown, hts⟩ (c_X6_requireKnown l hl0 D cy ad I S 0) (cw_X6_110 hts rfl rfl ⟨Nat.le_of_ble_eq_true rfl, Nat.le_of_ble_eq_true rfl⟩) (preVRX (ci := 6) (q0 := 0) hK hE hZ hP rfl rfl) rfl rfl hl.1 rfl (lv_room (Nat.le_of_ble_eq_true rfl)) dX6_valueAt_42 ⟨Nat.le_of_ble_eq_true rfl, Nat.le_of_ble_eq_true rfl⟩) hT hlocks hQ (Nat.le_of_ble_eq_true rfl) (Nat.le_of_ble_eq_true rfl) (fun E h => Or.inr ⟨h.1, ⟨q3_1, q10_2⟩, hfe⟩) (fun q42_5 => ?_)
    exact absurd rfl q42_5

set_option maxHeartbeats 4000000 in
set_option maxRecDepth 100000 in
theorem c_X6_knownDays (l : Launch) (hl0 : l.stackTraces = false) (D : va_G) (cy : Nat → ClassId) (ad : Nat → Nat) (I : AI) (S : AS) (x : Int32) (b : Int32) (t : Int32) (k : Nat) (n : Nat) (h : Nat) (fr : Nat → Nat) (to : Nat → Nat) (ofr : Nat → Nat) (oto : Nat → Nat) (hc : CIv I S k n h fr to ofr oto) : vx_Met l yX6_knownDays (Cond.code yX6_knownDays cX6_knownDays 4 (some .int) :: wsL_law) ({ frames := 8, cells := 3, slots := 18, locals := 133 }) (va_Pc [.ref (ad 0), .int x, .int b, .int t] (rxB D cy (wC cy ad I S))) (rdI (fun r => tc I x b t ∧ r = cdN S (slI x b) 0 100 t k)) (xR (fun E => tx I x b t E)) 3 18 noA := by
  refine enterX (cc := cX6_knownDays) (by decide) (Nat.le_of_ble_eq_true rfl) ?_
  intro p e s m below meth c hx hb hr hml hown hts hlocks hT hv Q hQ ls hl
  obtain ⟨hP, hK, hE, hZ⟩ := hv
  have hown : s.vm.findClass RX6 = some m.cls := hown
  have hl : lv_has ls 4 [(0, .ref (ad 0)), (1, .int x), (2, .int b), (3, .int t)] := hl
  obtain ⟨hn, hn6, hk, hk3, hh, hhn, hfr, hfo, hch⟩ := hc
  have hk8 : k ≤ 180 := by omega
  refine lv_aload_n hx hb dX6_knownDays_0 rfl (lv_at hl 0 rfl) ?_
  refine lv_iload_n hx hb dX6_knownDays_1 rfl (lv_at hl 1 rfl) ?_
  refine lv_iload_n hx hb dX6_knownDays_2 rfl (lv_at hl 2 rfl) ?_
  refine xR_call (vx_runV (As := [.int x, .int b]) (rest := []) ⟨hx, hb, hml, hown, hts⟩ (c_X6_requireAttribute l hl0 D cy ad I S x b) (cw_X6_65 hts rfl rfl ⟨Nat.le_of_ble_eq_true rfl, Nat.le_of_ble_eq_true rfl⟩) (preVRX (ci := 6) (q0 := 0) hK hE hZ hP rfl rfl) rfl rfl hl.1 rfl (lv_room (Nat.le_of_ble_eq_true rfl)) dX6_knownDays_3 ⟨Nat.le_of_ble_eq_true rfl, Nat.le_of_ble_eq_true rfl⟩) hT hlocks hQ (Nat.le_of_ble_eq_true rfl) (Nat.le_of_ble_eq_true rfl) (fun E h => Or.inl ⟨h.1, h.2⟩) (fun q3_1 => ?_)
  refine lv_aload_n hx hb dX6_knownDays_6 rfl (lv_at hl 0 rfl) ?_
  refine lv_iload_n hx hb dX6_knownDays_7 rfl (lv_at hl 3 rfl) ?_
  refine xR_call (vx_runV (As := [.int t]) (rest := []) ⟨hx, hb, hml, hown, hts⟩ (c_X6_requireKeptTick l hl0 D cy ad I S t) (cw_X6_172 hts rfl rfl ⟨Nat.le_of_ble_eq_true rfl, Nat.le_of_ble_eq_true rfl⟩) (preVRX (ci := 6) (q0 := 0) hK hE hZ hP rfl rfl) rfl rfl hl.1 rfl (lv_room (Nat.le_of_ble_eq_true rfl)) dX6_knownDays_8 ⟨Nat.le_of_ble_eq_true rfl, Nat.le_of_ble_eq_true rfl⟩) hT hlocks hQ (Nat.le_of_ble_eq_true rfl) (Nat.le_of_ble_eq_true rfl) (fun E h => Or.inr (h.elim (fun h => Or.inl ⟨h.1, q3_1, h.2⟩) (fun h => Or.inr ⟨h.1, q3_1, h.2⟩))) (fun q8_2 => ?_)
  refine lv_aload_n hx hb dX6_knownDays_11 rfl (lv_at hl 0 rfl) ?_
  refine gf_X6_19 hx hb hts hown hK hP 0 rfl (v := .ref (ad 7)) rfl dX6_knownDays_12 ?_
  refine lv_iload_n hx hb dX6_knownDays_15 rfl (lv_at hl 1 rfl) ?_
  refine lv_iload_n hx hb dX6_knownDays_16 rfl (lv_at hl 2 rfl) ?_
  refine rI_call (va_runS (As := [.int x, .int b]) (rest := [.ref (ad 7)]) ⟨hx, hb, hml, hown, hts⟩ (c_X6_slotOf l D cy x b) (cw_X6_75 hts rfl rfl ⟨Nat.le_of_ble_eq_true rfl, Nat.le_of_ble_eq_true rfl⟩) (preSR hK (hP.sub [] rfl)) rfl rfl hl.1 rfl (lv_room (Nat.le_of_ble_eq_true rfl)) dX6_knownDays_17 ⟨Nat.le_of_ble_eq_true rfl, Nat.le_of_ble_eq_true rfl⟩) (fun r hr_ => ?_)
  subst hr_
  refine lv_iconst (v := 0) hx hb dX6_knownDays_20 (by decide) ?_
  refine lv_bipush (v := 100) hx hb dX6_knownDays_21 (by decide) ?_
  refine lv_iload_n hx hb dX6_knownDays_23 rfl (lv_at hl 3 rfl) ?_
  refine rI_call (va_runV (As := [.int (slI x b), .int 0, .int 100, .int t]) (rest := []) ⟨hx, hb, hml, hown, hts⟩ (c_X0_countDays l D cy ad I S (slI x b) 0 100 t k hk (by omega)) (cw_X6_87 hts rfl rfl ⟨Nat.le_of_ble_eq_true rfl, Nat.le_of_ble_eq_true rfl⟩) (preVR (ci := 0) (q0 := 0) hK (hP.sub [7, 8, 9, 10, 11, 12, 13] rfl) rfl rfl) rfl rfl hl.1 rfl (lv_room (Nat.le_of_ble_eq_true rfl)) dX6_knownDays_24 ⟨Nat.le_of_ble_eq_true rfl, Nat.le_of_ble_eq_true rfl⟩) (fun r hr_ => ?_)
  subst hr_
  exact xI_ret hx hb hr hlocks dX6_knownDays_27 rfl hQ ⟨⟨q3_1, q8_2⟩, rfl⟩ (Nat.le_of_ble_eq_true rfl) (Nat.le_of_ble_eq_true rfl)

set_option maxHeartbeats 4000000 in
set_option maxRecDepth 100000 in
theorem c_X6_lineAt (l : Launch) (hl0 : l.stackTraces = false) (D : va_G) (cy : Nat → ClassId) (ad : Nat → Nat) (I : AI) (S : AS) (x : Int32) (n : Nat) (hn : I 4 = nI n) (hn6 : n ≤ 1900) (hch : ∀ j : Nat, j < n → narrow .char (.int (S 15 j)) = .int (S 15 j)) : vx_Met l yX6_lineAt (Cond.code yX6_lineAt cX6_lineAt 2 (some .char) :: wsL_law) ({ frames := 6, cells := 1, slots := 6, locals := 90 }) (va_Pc [.ref (ad 0), .int x] (rxB D cy (wC cy ad I S))) (rdI (fun r => ixP (I 4) x ∧ r = S 15 x.toNatClampNeg)) (xR (fun E => E = eIOO ∧ ¬ ixP (I 4) x)) 1 6 noA := by
  refine enterX (cc := cX6_lineAt) (by decide) (Nat.le_of_ble_eq_true rfl) ?_
  intro p e s m below meth c hx hb hr hml hown hts hlocks hT hv Q hQ ls hl
  obtain ⟨hP, hK, hE, hZ⟩ := hv
  have hown : s.vm.findClass RX6 = some m.cls := hown
  have hl : lv_has ls 2 [(0, .ref (ad 0)), (1, .int x)] := hl
  refine lv_iload_n hx hb dX6_lineAt_0 rfl (lv_at hl 1 rfl) ?_
  refine lv_if_lt (tgt := 15) hx hb dX6_lineAt_1 (by decide) (fun c1_1 => ?_) (fun c1_1 => ?_)
  · exact th_IOO (A := noA) (List.mem_of_getElem? (i := 5) rfl) hx hb hl0 hown hts hE hZ va_S.rf (hl.1.trans hml.symm) dX6_lineAt_15 dX6_lineAt_18 dX6_lineAt_19 dX6_lineAt_21 dX6_lineAt_24 hT (Nat.le_of_ble_eq_true rfl) (Nat.le_of_ble_eq_true rfl) (Nat.le_of_ble_eq_true rfl) (Nat.le_of_ble_eq_true rfl) hlocks (Nat.le_of_ble_eq_true rfl) (Nat.le_of_ble_eq_true rfl) (fun _ h => by cases h) hQ (fun t _ hz hk => ⟨(), trivial, ⟨rfl, by simp [ixP, c1_1]⟩, hz, fun q hq _ => hk q hq⟩)
  · refine lv_iload_n hx hb dX6_lineAt_4 rfl (lv_at hl 1 rfl) ?_
    refine lv_aload_n hx hb dX6_lineAt_5 rfl (lv_at hl 0 rfl) ?_
    refine gf_X6_26 hx hb hts hown hK hP 0 rfl (v := .ref (ad 14)) rfl dX6_lineAt_6 ?_
    refine rI_call (va_runV (As := []) (rest := [.int x]) ⟨hx, hb, hml, hown, hts⟩ (c_X2_size l D cy ad I S) (cw_X6_249 hts rfl rfl ⟨Nat.le_of_ble_eq_true rfl, Nat.le_of_ble_eq_true rfl⟩) (preVR (ci := 2) (q0 := 0) hK (hP.sub [14, 15] rfl) rfl rfl) rfl rfl hl.1 rfl (lv_room (Nat.le_of_ble_eq_true rfl)) dX6_lineAt_9 ⟨Nat.le_of_ble_eq_true rfl, Nat.le_of_ble_eq_true rfl⟩) (fun r hr_ => ?_)
    subst hr_
    refine top_eq (y := (I 4)) rfl ?_
    refine lv_icmp_lt (tgt := 25) hx hb dX6_lineAt_12 (by decide) (fun c12_2 => ?_) (fun c12_2 => ?_)
    · refine lv_aload_n hx hb dX6_lineAt_25 rfl (lv_at hl 0 rfl) ?_
      have hix : ixP (I 4) x := by simp [ixP, c1_1, c12_2]
      have hix2 := hix
      rw [hn] at hix2
      obtain ⟨j, hj, rfl⟩ := ixP_of (by omega) hix2
      refine gf_X6_26 hx hb hts hown hK hP 0 rfl (v := .ref (ad 14)) rfl dX6_lineAt_26 ?_
      refine lv_iload_n hx hb dX6_lineAt_29 rfl (lv_at hl 1 rfl) ?_
      refine rI_call (va_runV (As := [.int (nI j)]) (rest := []) ⟨hx, hb, hml, hown, hts⟩ (c_X2_sign l D cy ad I S j n hn hn6 (by omega) (hch j hj)) (cw_X6_255 hts rfl rfl ⟨Nat.le_of_ble_eq_true rfl, Nat.le_of_ble_eq_true rfl⟩) (preVR (ci := 2) (q0 := 0) hK (hP.sub [14, 15] rfl) rfl rfl) rfl rfl hl.1 rfl (lv_room (Nat.le_of_ble_eq_true rfl)) dX6_lineAt_30 ⟨Nat.le_of_ble_eq_true rfl, Nat.le_of_ble_eq_true rfl⟩) (fun r hr_ => ?_)
      subst hr_
      refine top_eq (y := ((S 15) j)) rfl ?_
      exact xI_ret hx hb hr hlocks dX6_lineAt_33 (hch j hj)  hQ ⟨hix, by rw [nI_clamp (by omega)]⟩ (Nat.le_of_ble_eq_true rfl) (Nat.le_of_ble_eq_true rfl)
    · exact th_IOO (A := noA) (List.mem_of_getElem? (i := 5) rfl) hx hb hl0 hown hts hE hZ va_S.rf (hl.1.trans hml.symm) dX6_lineAt_15 dX6_lineAt_18 dX6_lineAt_19 dX6_lineAt_21 dX6_lineAt_24 hT (Nat.le_of_ble_eq_true rfl) (Nat.le_of_ble_eq_true rfl) (Nat.le_of_ble_eq_true rfl) (Nat.le_of_ble_eq_true rfl) hlocks (Nat.le_of_ble_eq_true rfl) (Nat.le_of_ble_eq_true rfl) (fun _ h => by cases h) hQ (fun t _ hz hk => ⟨(), trivial, ⟨rfl, by simp [ixP, c1_1, c12_2]⟩, hz, fun q hq _ => hk q hq⟩)

set_option maxHeartbeats 4000000 in
set_option maxRecDepth 100000 in
theorem c_X6_total (l : Launch) (hl0 : l.stackTraces = false) (D : va_G) (cy : Nat → ClassId) (ad : Nat → Nat) (I : AI) (S : AS) (b : Int32) (d : Int32) (t : Int32) (en : Nat) (hen : I 0 = nI en) (hen6 : en ≤ 6) (k : Nat) (n : Nat) (h : Nat) (fr : Nat → Nat) (to : Nat → Nat) (ofr : Nat → Nat) (oto : Nat → Nat) (hc : CIv I S k n h fr to ofr oto) : vx_Met l yX6_total (Cond.code yX6_total cX6_total 8 (some .int) :: wsL_law) ({ frames := 9, cells := 5, slots := 30, locals := 154 }) (va_Pc [.ref (ad 0), .int b, .int d, .int t] (rxB D cy (wC cy ad I S))) (rdI (fun r => gc I b d t ∧ r = (ttN S b d t k en).toInt32 ∧ ∀ j : Nat, j ≤ en → rngP (ttN S b d t k j))) (xR (fun E => gx I b d t E ∨ (E = eARE ∧ gc I b d t ∧ ∃ j : Nat, j ≤ en ∧ ¬ rngP (ttN S b d t k j)))) 5 30 noA := by
  refine enterX (cc := cX6_total) (by decide) (Nat.le_of_ble_eq_true rfl) ?_
  intro p e s m below meth c hx hb hr hml hown hts hlocks hT hv Q hQ ls hl
  obtain ⟨hP, hK, hE, hZ⟩ := hv
  have hown : s.vm.findClass RX6 = some m.cls := hown
  have hl : lv_has ls 8 [(0, .ref (ad 0)), (1, .int b), (2, .int d), (3, .int t)] := hl
  obtain ⟨hn, hn6, hk, hk3, hh, hhn, hfr, hfo, hch⟩ := hc
  have hk8 : k ≤ 180 := by omega
  refine lv_aload_n hx hb dX6_total_0 rfl (lv_at hl 0 rfl) ?_
  refine lv_iload_n hx hb dX6_total_1 rfl (lv_at hl 1 rfl) ?_
  refine xR_call (vx_runV (As := [.int b]) (rest := []) ⟨hx, hb, hml, hown, hts⟩ (c_X6_requireAttributeNumber l hl0 D cy ad I S b) (cw_X6_204 hts rfl rfl ⟨Nat.le_of_ble_eq_true rfl, Nat.le_of_ble_eq_true rfl⟩) (preVRX (ci := 6) (q0 := 0) hK hE hZ hP rfl rfl) rfl rfl hl.1 rfl (lv_room (Nat.le_of_ble_eq_true rfl)) dX6_total_2 ⟨Nat.le_of_ble_eq_true rfl, Nat.le_of_ble_eq_true rfl⟩) hT hlocks hQ (Nat.le_of_ble_eq_true rfl) (Nat.le_of_ble_eq_true rfl) (fun E h => Or.inl (Or.inl ⟨h.1, h.2⟩)) (fun q2_1 => ?_)
  refine lv_aload_n hx hb dX6_total_5 rfl (lv_at hl 0 rfl) ?_
  refine lv_iload_n hx hb dX6_total_6 rfl (lv_at hl 2 rfl) ?_
  refine lv_iload_n hx hb dX6_total_7 rfl (lv_at hl 3 rfl) ?_
  refine xR_call (vx_runV (As := [.int d, .int t]) (rest := []) ⟨hx, hb, hml, hown, hts⟩ (c_X6_requireDayAndTick l hl0 D cy ad I S d t) (cw_X6_160 hts rfl rfl ⟨Nat.le_of_ble_eq_true rfl, Nat.le_of_ble_eq_true rfl⟩) (preVRX (ci := 6) (q0 := 0) hK hE hZ hP rfl rfl) rfl rfl hl.1 rfl (lv_room (Nat.le_of_ble_eq_true rfl)) dX6_total_8 ⟨Nat.le_of_ble_eq_true rfl, Nat.le_of_ble_eq_true rfl⟩) hT hlocks hQ (Nat.le_of_ble_eq_true rfl) (Nat.le_of_ble_eq_true rfl) (fun E h => Or.inl (Or.inr (h.elim (fun h => Or.inl ⟨h.1, q2_1, h.2⟩) (fun h => Or.inr ⟨h.1, q2_1, h.2⟩)))) (fun q8_2 => ?_)
  refine lv_lconst (v := 0) hx hb dX6_total_11 (by decide) ?_
  refine lv_lstore (lv' := [(4, .long 0), (0, .ref (ad 0)), (1, .int b), (2, .int d), (3, .int t)]) hx hb dX6_total_12 hl (by decide) rfl (fun ls hl => ?_)
  refine lv_iconst (v := 0) hx hb dX6_total_14 (by decide) ?_
  refine lv_istore (lv' := [(6, .int 0), (4, .long 0), (0, .ref (ad 0)), (1, .int b), (2, .int d), (3, .int t)]) hx hb dX6_total_15 hl (by decide) rfl (fun ls hl => ?_)
  have L17 : ∀ (n_17 i : Nat), i ≤ en → en + 1 ≤ i + n_17 → (∀ j : Nat, j ≤ i → rngP (ttN S b d t k j)) → ∀ (ls : Array Slot), lv_has ls 8 [(6, .int (nI i)), (4, .long (ttN S b d t k i)), (0, .ref (ad 0)), (1, .int b), (2, .int d), (3, .int t)] → W p l e { frames := 9, cells := 5, slots := 30, locals := 154 } s m ([.ref (ad 0), .int b, .int d, .int t] : List Value).toArray below meth c s.heap [] 4 24 Q (F0 m 17 ls []) := by
    clear hl
    intro n_17
    induction n_17 with
    | zero => intro i  hle_17 hn_17; exact absurd hn_17 (by omega)
    | succ n_17 ih17 =>
      intro i  hle_17 hn_17 hrg  ls hl
      refine lv_iload hx hb dX6_total_17 (lv_at hl 0 rfl) ?_
      refine lv_aload_n hx hb dX6_total_19 rfl (lv_at hl 2 rfl) ?_
      refine gf_X6_30 hx hb hts hown hK hP 0 rfl (v := .int (I 0)) rfl dX6_total_20 ?_
      refine top_eq hen ?_
      refine lv_icmp_ge (tgt := 98) hx hb dX6_total_23 (by decide) (fun c23_3 => ?_) (fun c23_3 => ?_)
      · have f23_3 : en ≤ i := nt_le (a := en) (b := i) (by omega) (by omega) c23_3
        refine lv_lload hx hb dX6_total_98 (lv_at hl 1 rfl) ?_
        refine lv_l2i (v := (ttN S b d t k i).toInt32) hx hb dX6_total_100 rfl ?_
        exact xI_ret hx hb hr hlocks dX6_total_101 rfl hQ ⟨⟨q2_1, q8_2⟩, by rw [show i = en by omega], fun j hj => hrg j (by omega)⟩ (Nat.le_of_ble_eq_true rfl) (Nat.le_of_ble_eq_true rfl)
      · have f23_3 : i < en := nt_nle (a := en) (b := i) (by omega) (by omega) c23_3
        refine lv_aload_n hx hb dX6_total_26 rfl (lv_at hl 2 rfl) ?_
        refine gf_X6_19 hx hb hts hown hK hP 0 rfl (v := .ref (ad 7)) rfl dX6_total_27 ?_
        refine lv_iload hx hb dX6_total_30 (lv_at hl 0 rfl) ?_
        refine lv_iload_n hx hb dX6_total_32 rfl (lv_at hl 3 rfl) ?_
        refine rI_call (va_runS (As := [.int (nI i), .int b]) (rest := [.ref (ad 7)]) ⟨hx, hb, hml, hown, hts⟩ (c_X6_slotOf l D cy (nI i) b) (cw_X6_75 hts rfl rfl ⟨Nat.le_of_ble_eq_true rfl, Nat.le_of_ble_eq_true rfl⟩) (preSR hK (hP.sub [] rfl)) rfl rfl hl.1 rfl (lv_room (Nat.le_of_ble_eq_true rfl)) dX6_total_33 ⟨Nat.le_of_ble_eq_true rfl, Nat.le_of_ble_eq_true rfl⟩) (fun r hr_ => ?_)
        subst hr_
        refine lv_iload_n hx hb dX6_total_36 rfl (lv_at hl 4 rfl) ?_
        refine lv_iload_n hx hb dX6_total_37 rfl (lv_at hl 5 rfl) ?_
        refine rI_call (va_runV (As := [.int (slI (nI i) b), .int d, .int t]) (rest := []) ⟨hx, hb, hml, hown, hts⟩ (c_X0_find l D cy ad I S (slI (nI i) b) d t k hk (by omega)) (cw_X6_106 hts rfl rfl ⟨Nat.le_of_ble_eq_true rfl, Nat.le_of_ble_eq_true rfl⟩) (preVR (ci := 0) (q0 := 0) hK (hP.sub [7, 8, 9, 10, 11, 12, 13] rfl) rfl rfl) rfl rfl hl.1 rfl (lv_room (Nat.le_of_ble_eq_true rfl)) dX6_total_38 ⟨Nat.le_of_ble_eq_true rfl, Nat.le_of_ble_eq_true rfl⟩) (fun r38_4 q38_4 => ?_)
        rcases q38_4 with ⟨j, hj, rfl, hh_, hm_⟩ | ⟨rfl, hno_⟩
        · have hfe := fnd1 hk8 hj hh_ hm_
          refine lv_istore (lv' := [(7, .int (nI j)), (6, .int (nI i)), (4, .long (ttN S b d t k i)), (0, .ref (ad 0)), (1, .int b), (2, .int d), (3, .int t)]) hx hb dX6_total_41 hl (by decide) rfl (fun ls hl => ?_)
          refine lv_iload hx hb dX6_total_43 (lv_at hl 0 rfl) ?_
          refine lv_iconst (v := (-1)) hx hb dX6_total_45 (by decide) ?_
          refine lv_icmp_eq (tgt := 64) hx hb dX6_total_46 (by decide) (fun c => absurd c (nI_m1 (by omega))) (fun _ => ?_)
          refine lv_lload hx hb dX6_total_49 (lv_at hl 2 rfl) ?_
          refine lv_aload_n hx hb dX6_total_51 rfl (lv_at hl 3 rfl) ?_
          refine gf_X6_19 hx hb hts hown hK hP 0 rfl (v := .ref (ad 7)) rfl dX6_total_52 ?_
          refine lv_iload hx hb dX6_total_55 (lv_at hl 0 rfl) ?_
          refine rI_call (va_runV (As := [.int (nI j)]) (rest := [.long (ttN S b d t k i)]) ⟨hx, hb, hml, hown, hts⟩ (c_X0_value l D cy ad I S j (by omega)) (cw_X6_140 hts rfl rfl ⟨Nat.le_of_ble_eq_true rfl, Nat.le_of_ble_eq_true rfl⟩) (preVR (ci := 0) (q0 := 0) hK (hP.sub [7, 8, 9, 10, 11, 12, 13] rfl) rfl rfl) rfl rfl hl.1 rfl (lv_room (Nat.le_of_ble_eq_true rfl)) dX6_total_57 ⟨Nat.le_of_ble_eq_true rfl, Nat.le_of_ble_eq_true rfl⟩) (fun r hr_ => ?_)
          subst hr_
          refine top_eq (y := ((S 9) j)) rfl ?_
          refine lv_i2l (v := ((S 9) j).toInt64) hx hb dX6_total_60 rfl ?_
          refine lv_ladd hx hb dX6_total_61 ?_
          refine lv_lstore (lv' := [(4, .long ((ttN S b d t k i) + (((S 9) j).toInt64))), (7, .int (nI j)), (6, .int (nI i)), (0, .ref (ad 0)), (1, .int b), (2, .int d), (3, .int t)]) hx hb dX6_total_62 hl (by decide) rfl (fun ls hl => ?_)
          have ett : ((ttN S b d t k i) + (((S 9) j).toInt64)) = ttN S b d t k (i + 1) := (tt_1 (by omega) hfe).symm
          rw [ett] at hl
          refine lv_lload hx hb dX6_total_64 (lv_at hl 0 rfl) ?_
          refine lv_ldc2 hx hb hown (hts _ wm_738) dX6_total_66 ?_
          refine lc_lt (tgt := 82) hx hb dX6_total_69 dX6_total_70 (by decide) (fun c70_5 => ?_) (fun c70_5 => ?_)
          · have hrn : ¬ rngP (ttN S b d t k (i + 1)) := fun q => q.1 c70_5
            exact th_ARE (A := noA) (List.mem_of_getElem? (i := 3) rfl) hx hb hl0 hown hts hE hZ va_S.rf (hl.1.trans hml.symm) dX6_total_82 dX6_total_85 dX6_total_86 dX6_total_88 dX6_total_91 hT (Nat.le_of_ble_eq_true rfl) (Nat.le_of_ble_eq_true rfl) (Nat.le_of_ble_eq_true rfl) (Nat.le_of_ble_eq_true rfl) hlocks (Nat.le_of_ble_eq_true rfl) (Nat.le_of_ble_eq_true rfl) (fun _ h => by cases h) hQ (fun t _ hz hk => ⟨(), trivial, Or.inr ⟨rfl, ⟨q2_1, q8_2⟩, i + 1, by omega, hrn⟩, hz, fun q hq _ => hk q hq⟩)
          · have hlo := c70_5
            refine lv_lload hx hb dX6_total_73 (lv_at hl 0 rfl) ?_
            refine lv_ldc2 hx hb hown (hts _ wm_739) dX6_total_75 ?_
            refine lc_le (tgt := 92) hx hb dX6_total_78 dX6_total_79 (by decide) (fun c79_6 => ?_) (fun c79_6 => ?_)
            · have hrn : rngP (ttN S b d t k (i + 1)) := ⟨hlo, c79_6⟩
              refine lv_iinc (v := (nI (i + 1))) (lv' := [(6, .int (nI (i + 1))), (4, .long (ttN S b d t k (i + 1))), (7, .int (nI j)), (0, .ref (ad 0)), (1, .int b), (2, .int d), (3, .int t)]) hx hb dX6_total_92 hl (k := 2) rfl (nI_1 i) (by decide) rfl (fun ls hl => ?_)
              refine lv_goto (tgt := 17) hx hb dX6_total_95 (by decide) ?_
              exact ih17 (i + 1) (by omega) (by omega) (fun j hj => (Nat.le_succ_iff.mp hj).elim (hrg j) (fun q => by rw [q]; exact hrn)) ls (lv_sub hl [0, 1, 3, 4, 5, 6] rfl)
            · have hrn : ¬ rngP (ttN S b d t k (i + 1)) := fun q => c79_6 q.2
              exact th_ARE (A := noA) (List.mem_of_getElem? (i := 3) rfl) hx hb hl0 hown hts hE hZ va_S.rf (hl.1.trans hml.symm) dX6_total_82 dX6_total_85 dX6_total_86 dX6_total_88 dX6_total_91 hT (Nat.le_of_ble_eq_true rfl) (Nat.le_of_ble_eq_true rfl) (Nat.le_of_ble_eq_true rfl) (Nat.le_of_ble_eq_true rfl) hlocks (Nat.le_of_ble_eq_true rfl) (Nat.le_of_ble_eq_true rfl) (fun _ h => by cases h) hQ (fun t _ hz hk => ⟨(), trivial, Or.inr ⟨rfl, ⟨q2_1, q8_2⟩, i + 1, by omega, hrn⟩, hz, fun q hq _ => hk q hq⟩)
        · have hfe := fnd0 hno_
          refine lv_istore (lv' := [(7, .int (-1)), (6, .int (nI i)), (4, .long (ttN S b d t k i)), (0, .ref (ad 0)), (1, .int b), (2, .int d), (3, .int t)]) hx hb dX6_total_41 hl (by decide) rfl (fun ls hl => ?_)
          refine lv_iload hx hb dX6_total_43 (lv_at hl 0 rfl) ?_
          refine lv_iconst (v := (-1)) hx hb dX6_total_45 (by decide) ?_
          refine lv_icmp_eq (tgt := 64) hx hb dX6_total_46 (by decide) (fun _ => ?_) (fun c => absurd (by decide) c)
          have ett : (ttN S b d t k i) = ttN S b d t k (i + 1) := (tt_0 hfe).symm
          rw [ett] at hl
          refine lv_lload hx hb dX6_total_64 (lv_at hl 2 rfl) ?_
          refine lv_ldc2 hx hb hown (hts _ wm_738) dX6_total_66 ?_
          refine lc_lt (tgt := 82) hx hb dX6_total_69 dX6_total_70 (by decide) (fun c70_7 => ?_) (fun c70_7 => ?_)
          · have hrn : ¬ rngP (ttN S b d t k (i + 1)) := fun q => q.1 c70_7
            exact th_ARE (A := noA) (List.mem_of_getElem? (i := 3) rfl) hx hb hl0 hown hts hE hZ va_S.rf (hl.1.trans hml.symm) dX6_total_82 dX6_total_85 dX6_total_86 dX6_total_88 dX6_total_91 hT (Nat.le_of_ble_eq_true rfl) (Nat.le_of_ble_eq_true rfl) (Nat.le_of_ble_eq_true rfl) (Nat.le_of_ble_eq_true rfl) hlocks (Nat.le_of_ble_eq_true rfl) (Nat.le_of_ble_eq_true rfl) (fun _ h => by cases h) hQ (fun t _ hz hk => ⟨(), trivial, Or.inr ⟨rfl, ⟨q2_1, q8_2⟩, i + 1, by omega, hrn⟩, hz, fun q hq _ => hk q hq⟩)
          · have hlo := c70_7
            refine lv_lload hx hb dX6_total_73 (lv_at hl 2 rfl) ?_
            refine lv_ldc2 hx hb hown (hts _ wm_739) dX6_total_75 ?_
            refine lc_le (tgt := 92) hx hb dX6_total_78 dX6_total_79 (by decide) (fun c79_8 => ?_) (fun c79_8 => ?_)
            · have hrn : rngP (ttN S b d t k (i + 1)) := ⟨hlo, c79_8⟩
              refine lv_iinc (v := (nI (i + 1))) (lv' := [(6, .int (nI (i + 1))), (7, .int (-1)), (4, .long (ttN S b d t k (i + 1))), (0, .ref (ad 0)), (1, .int b), (2, .int d), (3, .int t)]) hx hb dX6_total_92 hl (k := 1) rfl (nI_1 i) (by decide) rfl (fun ls hl => ?_)
              refine lv_goto (tgt := 17) hx hb dX6_total_95 (by decide) ?_
              exact ih17 (i + 1) (by omega) (by omega) (fun j hj => (Nat.le_succ_iff.mp hj).elim (hrg j) (fun q => by rw [q]; exact hrn)) ls (lv_sub hl [0, 2, 3, 4, 5, 6] rfl)
            · have hrn : ¬ rngP (ttN S b d t k (i + 1)) := fun q => c79_8 q.2
              exact th_ARE (A := noA) (List.mem_of_getElem? (i := 3) rfl) hx hb hl0 hown hts hE hZ va_S.rf (hl.1.trans hml.symm) dX6_total_82 dX6_total_85 dX6_total_86 dX6_total_88 dX6_total_91 hT (Nat.le_of_ble_eq_true rfl) (Nat.le_of_ble_eq_true rfl) (Nat.le_of_ble_eq_true rfl) (Nat.le_of_ble_eq_true rfl) hlocks (Nat.le_of_ble_eq_true rfl) (Nat.le_of_ble_eq_true rfl) (fun _ h => by cases h) hQ (fun t _ hz hk => ⟨(), trivial, Or.inr ⟨rfl, ⟨q2_1, q8_2⟩, i + 1, by omega, hrn⟩, hz, fun q hq _ => hk q hq⟩)
  exact L17 (en + 1) 0 (by omega) (by omega) (fun j hj => by rw [Nat.le_zero.mp hj]; exact rng_0) ls (lv_sub hl [0, 1, 2, 3, 4, 5] rfl)
