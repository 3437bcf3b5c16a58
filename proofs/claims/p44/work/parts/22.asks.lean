theorem gf_X6_26 {p : Program} {l : Launch} {e : Env} {R : Room} {s : State} {m : MethodId} {args : Array Value} {below : List Frame} {meth : Method} {c : Code} {H : Heap} {locs : List Loc} {cells slots : Nat} {Q : State → Prop} {cc : ByteArray} {pc : Nat} {ls : Array Slot} {rest : List Value} {D : va_G} {cy : Nat → ClassId} {a : Nat} {ws : va_W} (hx : p.tables.exec = Jvm.exec) (hb : c.code = cc) (hts : ∀ w ∈ wsL_law, w.before args s = true) (hown : s.vm.findClass RX6 = some m.cls) (hK : va_K D clW (tyW cy) s) (hP : va_P D clW ws H) (q0 : Nat) {fs : List Value} (he : ws[q0]? = some (a, .inr (6, fs))) {v : Value} (hv : fs[2]? = some v) (hdg : decode cc pc = .ok (.getfield 26, 3)) (kk : W p l e R s m args below meth c H locs cells slots Q (F0 m (pc + 3) ls (v :: rest))) : W p l e R s m args below meth c H locs cells slots Q (F0 m pc ls (.ref a :: rest)) := va_get (own := RX6) (ref := RX6) (C := RX6) (T := TX6) (N := 8) (ci := 6) hx hb hts inlX6 hown hK hP q0 he rfl 2 (by decide) (hts _ wm_23) (fun _ h => h) hv hdg kk
theorem cw_X6_65 {R : Room} {s : State} {args : Array Value} {rm : Room} {mc ms : Nat} (hts : ∀ w ∈ wsL_law, w.before args s = true) (hrc : rm.cells = mc) (hrs : rm.slots = ms) (hR : rm.frames + 1 ≤ R.frames ∧ 8 + (3 + 11) + rm.locals ≤ R.locals) : CallW R s args RX6 RX6 65 yX6_requireAttribute cX6_requireAttribute 3 none (Cond.code yX6_requireAttribute cX6_requireAttribute 3 none :: wsL_law) rm mc ms 2 := cwV 2 hts (gUV wm_157 wm_158 wm_159 wm_2 wm_160) rfl hrc hrs (by decide +kernel) hR
theorem cw_X6_75 {R : Room} {s : State} {args : Array Value} {rm : Room} {mc ms : Nat} (hts : ∀ w ∈ wsL_law, w.before args s = true) (hrc : rm.cells = mc) (hrs : rm.slots = ms) (hR : rm.frames + 1 ≤ R.frames ∧ 8 + (2 + 11) + rm.locals ≤ R.locals) : CallB R s args RX6 75 yX6_slotOf cX6_slotOf 2 (some .int) (Cond.code yX6_slotOf cX6_slotOf 2 (some .int) :: wsL_law) rm mc ms 2 ∧ (Cond.static yX6_slotOf).before args s = true := va_cwS 2 hts (gUS wm_173 wm_174 wm_2 wm_175) rfl hrc hrs (by decide +kernel) hR
theorem cw_X6_87 {R : Room} {s : State} {args : Array Value} {rm : Room} {mc ms : Nat} (hts : ∀ w ∈ wsL_law, w.before args s = true) (hrc : rm.cells = mc) (hrs : rm.slots = ms) (hR : rm.frames + 1 ≤ R.frames ∧ 8 + (7 + 11) + rm.locals ≤ R.locals) : CallW R s args RX6 RX0 87 yX0_countDays cX0_countDays 7 (some .int) (Cond.code yX0_countDays cX0_countDays 7 (some .int) :: wsL_law) rm mc ms 4 := cwV 4 hts (gUV wm_180 wm_181 wm_182 wm_18 wm_183) rfl hrc hrs (by decide +kernel) hR
theorem cw_X6_106 {R : Room} {s : State} {args : Array Value} {rm : Room} {mc ms : Nat} (hts : ∀ w ∈ wsL_law, w.before args s = true) (hrc : rm.cells = mc) (hrs : rm.slots = ms) (hR : rm.frames + 1 ≤ R.frames ∧ 8 + (5 + 11) + rm.locals ≤ R.locals) : CallW R s args RX6 RX0 106 yX0_find cX0_find 5 (some .int) (Cond.code yX0_find cX0_find 5 (some .int) :: wsL_law) rm mc ms 3 := cwV 3 hts (gUV wm_246 wm_247 wm_248 wm_18 wm_249) rfl hrc hrs (by decide +kernel) hR
theorem cw_X6_110 {R : Room} {s : State} {args : Array Value} {rm : Room} {mc ms : Nat} (hts : ∀ w ∈ wsL_law, w.before args s = true) (hrc : rm.cells = mc) (hrs : rm.slots = ms) (hR : rm.frames + 1 ≤ R.frames ∧ 8 + (2 + 11) + rm.locals ≤ R.locals) : CallW R s args RX6 RX6 110 yX6_requireKnown cX6_requireKnown 2 none (Cond.code yX6_requireKnown cX6_requireKnown 2 none :: wsL_law) rm mc ms 1 := cwV 1 hts (gUV wm_250 wm_251 wm_252 wm_2 wm_253) rfl hrc hrs (by decide +kernel) hR
theorem cw_X6_114 {R : Room} {s : State} {args : Array Value} {rm : Room} {mc ms : Nat} (hts : ∀ w ∈ wsL_law, w.before args s = true) (hrc : rm.cells = mc) (hrs : rm.slots = ms) (hR : rm.frames + 1 ≤ R.frames ∧ 8 + (2 + 11) + rm.locals ≤ R.locals) : CallW R s args RX6 RX0 114 yX0_firstDay cX0_firstDay 2 (some .int) (Cond.code yX0_firstDay cX0_firstDay 2 (some .int) :: wsL_law) rm mc ms 1 := cwV 1 hts (gUV wm_254 wm_198 wm_199 wm_18 wm_200) rfl hrc hrs (by decide +kernel) hR
theorem cw_X6_118 {R : Room} {s : State} {args : Array Value} {rm : Room} {mc ms : Nat} (hts : ∀ w ∈ wsL_law, w.before args s = true) (hrc : rm.cells = mc) (hrs : rm.slots = ms) (hR : rm.frames + 1 ≤ R.frames ∧ 8 + (2 + 11) + rm.locals ≤ R.locals) : CallW R s args RX6 RX0 118 yX0_dayAfter cX0_dayAfter 2 (some .int) (Cond.code yX0_dayAfter cX0_dayAfter 2 (some .int) :: wsL_law) rm mc ms 1 := cwV 1 hts (gUV wm_255 wm_202 wm_203 wm_18 wm_204) rfl hrc hrs (by decide +kernel) hR
theorem cw_X6_121 {R : Room} {s : State} {args : Array Value} {rm : Room} {mc ms : Nat} (hts : ∀ w ∈ wsL_law, w.before args s = true) (hrc : rm.cells = mc) (hrs : rm.slots = ms) (hR : rm.frames + 1 ≤ R.frames ∧ 8 + (2 + 11) + rm.locals ≤ R.locals) : CallW R s args RX6 RX6 121 yX6_requireOperation cX6_requireOperation 2 none (Cond.code yX6_requireOperation cX6_requireOperation 2 none :: wsL_law) rm mc ms 1 := cwV 1 hts (gUV wm_350 wm_351 wm_352 wm_2 wm_353) rfl hrc hrs (by decide +kernel) hR
theorem cw_X6_124 {R : Room} {s : State} {args : Array Value} {rm : Room} {mc ms : Nat} (hts : ∀ w ∈ wsL_law, w.before args s = true) (hrc : rm.cells = mc) (hrs : rm.slots = ms) (hR : rm.frames + 1 ≤ R.frames ∧ 8 + (2 + 11) + rm.locals ≤ R.locals) : CallW R s args RX6 RX3 124 yX3_kind cX3_kind 2 (some .char) (Cond.code yX3_kind cX3_kind 2 (some .char) :: wsL_law) rm mc ms 1 := cwV 1 hts (gUV wm_354 wm_355 wm_356 wm_14 wm_357) rfl hrc hrs (by decide +kernel) hR
theorem cw_X6_128 {R : Room} {s : State} {args : Array Value} {rm : Room} {mc ms : Nat} (hts : ∀ w ∈ wsL_law, w.before args s = true) (hrc : rm.cells = mc) (hrs : rm.slots = ms) (hR : rm.frames + 1 ≤ R.frames ∧ 8 + (2 + 11) + rm.locals ≤ R.locals) : CallW R s args RX6 RX3 128 yX3_slot cX3_slot 2 (some .int) (Cond.code yX3_slot cX3_slot 2 (some .int) :: wsL_law) rm mc ms 1 := cwV 1 hts (gUV wm_362 wm_363 wm_364 wm_14 wm_365) rfl hrc hrs (by decide +kernel) hR
theorem cw_X6_137 {R : Room} {s : State} {args : Array Value} {rm : Room} {mc ms : Nat} (hts : ∀ w ∈ wsL_law, w.before args s = true) (hrc : rm.cells = mc) (hrs : rm.slots = ms) (hR : rm.frames + 1 ≤ R.frames ∧ 8 + (2 + 11) + rm.locals ≤ R.locals) : CallW R s args RX6 RX6 137 yX6_requireFact cX6_requireFact 2 none (Cond.code yX6_requireFact cX6_requireFact 2 none :: wsL_law) rm mc ms 1 := cwV 1 hts (gUV wm_295 wm_296 wm_297 wm_2 wm_298) rfl hrc hrs (by decide +kernel) hR
theorem cw_X6_140 {R : Room} {s : State} {args : Array Value} {rm : Room} {mc ms : Nat} (hts : ∀ w ∈ wsL_law, w.before args s = true) (hrc : rm.cells = mc) (hrs : rm.slots = ms) (hR : rm.frames + 1 ≤ R.frames ∧ 8 + (2 + 11) + rm.locals ≤ R.locals) : CallW R s args RX6 RX0 140 yX0_value cX0_value 2 (some .int) (Cond.code yX0_value cX0_value 2 (some .int) :: wsL_law) rm mc ms 1 := cwV 1 hts (gUV wm_304 wm_223 wm_224 wm_18 wm_225) rfl hrc hrs (by decide +kernel) hR
theorem cw_X6_143 {R : Room} {s : State} {args : Array Value} {rm : Room} {mc ms : Nat} (hts : ∀ w ∈ wsL_law, w.before args s = true) (hrc : rm.cells = mc) (hrs : rm.slots = ms) (hR : rm.frames + 1 ≤ R.frames ∧ 8 + (2 + 11) + rm.locals ≤ R.locals) : CallW R s args RX6 RX0 143 yX0_opening cX0_opening 2 (some .int) (Cond.code yX0_opening cX0_opening 2 (some .int) :: wsL_law) rm mc ms 1 := cwV 1 hts (gUV wm_313 wm_314 wm_315 wm_18 wm_316) rfl hrc hrs (by decide +kernel) hR
theorem cw_X6_146 {R : Room} {s : State} {args : Array Value} {rm : Room} {mc ms : Nat} (hts : ∀ w ∈ wsL_law, w.before args s = true) (hrc : rm.cells = mc) (hrs : rm.slots = ms) (hR : rm.frames + 1 ≤ R.frames ∧ 8 + (2 + 11) + rm.locals ≤ R.locals) : CallW R s args RX6 RX0 146 yX0_closing cX0_closing 2 (some .int) (Cond.code yX0_closing cX0_closing 2 (some .int) :: wsL_law) rm mc ms 1 := cwV 1 hts (gUV wm_321 wm_322 wm_323 wm_18 wm_324) rfl hrc hrs (by decide +kernel) hR
set_option maxHeartbeats 4000000 in
set_option maxRecDepth 100000 in
theorem c_X6_operationAt (l : Launch) (hl0 : l.stackTraces = false) (D : va_G) (cy : Nat → ClassId) (ad : Nat → Nat) (I : AI) (S : AS) (t : Int32) (k : Nat) (n : Nat) (h : Nat) (fr : Nat → Nat) (to : Nat → Nat) (ofr : Nat → Nat) (oto : Nat → Nat) (hc : CIv I S k n h fr to ofr oto) : vx_Met l yX6_operationAt (Cond.code yX6_operationAt cX6_operationAt 2 (some .char) :: wsL_law) ({ frames := 7, cells := 1, slots := 6, locals := 111 }) (va_Pc [.ref (ad 0), .int t] (rxB D cy (wC cy ad I S))) (rdI (fun r => opP (I 1) t ∧ r = S 2 t.toNatClampNeg)) (xR (fun E => E = eIAE ∧ ¬ opP (I 1) t)) 1 6 noA := by
  refine enterX (cc := cX6_operationAt) (by decide) (Nat.le_of_ble_eq_true rfl) ?_
  intro p e s m below meth c hx hb hr hml hown hts hlocks hT hv Q hQ ls hl
  obtain ⟨hP, hK, hE, hZ⟩ := hv
  have hown : s.vm.findClass RX6 = some m.cls := hown
  have hl : lv_has ls 2 [(0, .ref (ad 0)), (1, .int t)] := hl
  obtain ⟨hn, hn6, hk, hk3, hh, hhn, hfr, hfo, hch⟩ := hc
  have hk8 : k ≤ 180 := by omega
  refine lv_aload_n hx hb dX6_operationAt_0 rfl (lv_at hl 0 rfl) ?_
  refine lv_iload_n hx hb dX6_operationAt_1 rfl (lv_at hl 1 rfl) ?_
  refine xR_call (vx_runV (As := [.int t]) (rest := []) ⟨hx, hb, hml, hown, hts⟩ (c_X6_requireOperation l hl0 D cy ad I S t) (cw_X6_121 hts rfl rfl ⟨Nat.le_of_ble_eq_true rfl, Nat.le_of_ble_eq_true rfl⟩) (preVRX (ci := 6) (q0 := 0) hK hE hZ hP rfl rfl) rfl rfl hl.1 rfl (lv_room (Nat.le_of_ble_eq_true rfl)) dX6_operationAt_2 ⟨Nat.le_of_ble_eq_true rfl, Nat.le_of_ble_eq_true rfl⟩) hT hlocks hQ (Nat.le_of_ble_eq_true rfl) (Nat.le_of_ble_eq_true rfl) (fun E h => h) (fun q2_1 => ?_)
  have hop := q2_1
  rw [hn] at hop
  obtain ⟨j, hj1, hj, rfl⟩ := opP_of (by omega) hop
  refine lv_aload_n hx hb dX6_operationAt_5 rfl (lv_at hl 0 rfl) ?_
  refine gf_X6_12 hx hb hts hown hK hP 0 rfl (v := .ref (ad 1)) rfl dX6_operationAt_6 ?_
  refine lv_iload_n hx hb dX6_operationAt_9 rfl (lv_at hl 1 rfl) ?_
  refine rI_call (va_runV (As := [.int (nI j)]) (rest := []) ⟨hx, hb, hml, hown, hts⟩ (c_X3_kind l D cy ad I S j n hn (by omega) (by omega) (by omega) (hch j hj1 hj)) (cw_X6_124 hts rfl rfl ⟨Nat.le_of_ble_eq_true rfl, Nat.le_of_ble_eq_true rfl⟩) (preVR (ci := 3) (q0 := 0) hK (hP.sub [1, 2, 3, 4, 5, 6] rfl) rfl rfl) rfl rfl hl.1 rfl (lv_room (Nat.le_of_ble_eq_true rfl)) dX6_operationAt_10 ⟨Nat.le_of_ble_eq_true rfl, Nat.le_of_ble_eq_true rfl⟩) (fun r hr_ => ?_)
  subst hr_
  refine top_eq (y := ((S 2) j)) rfl ?_
  exact xI_ret hx hb hr hlocks dX6_operationAt_13 (hch j hj1 hj)  hQ ⟨q2_1, by rw [nI_clamp (by omega)]⟩ (Nat.le_of_ble_eq_true rfl) (Nat.le_of_ble_eq_true rfl)
set_option maxHeartbeats 4000000 in
set_option maxRecDepth 100000 in
theorem c_X6_entityOf (l : Launch) (hl0 : l.stackTraces = false) (D : va_G) (cy : Nat → ClassId) (ad : Nat → Nat) (I : AI) (S : AS) (t : Int32) (k : Nat) (n : Nat) (h : Nat) (fr : Nat → Nat) (to : Nat → Nat) (ofr : Nat → Nat) (oto : Nat → Nat) (hc : CIv I S k n h fr to ofr oto) : vx_Met l yX6_entityOf (Cond.code yX6_entityOf cX6_entityOf 2 (some .int) :: wsL_law) ({ frames := 7, cells := 1, slots := 6, locals := 111 }) (va_Pc [.ref (ad 0), .int t] (rxB D cy (wC cy ad I S))) (rdI (fun r => opP (I 1) t ∧ r = S 3 t.toNatClampNeg / 3)) (xR (fun E => E = eIAE ∧ ¬ opP (I 1) t)) 1 6 noA := by
  refine enterX (cc := cX6_entityOf) (by decide) (Nat.le_of_ble_eq_true rfl) ?_
  intro p e s m below meth c hx hb hr hml hown hts hlocks hT hv Q hQ ls hl
  obtain ⟨hP, hK, hE, hZ⟩ := hv
  have hown : s.vm.findClass RX6 = some m.cls := hown
  have hl : lv_has ls 2 [(0, .ref (ad 0)), (1, .int t)] := hl
  obtain ⟨hn, hn6, hk, hk3, hh, hhn, hfr, hfo, hch⟩ := hc
  have hk8 : k ≤ 180 := by omega
  refine lv_aload_n hx hb dX6_entityOf_0 rfl (lv_at hl 0 rfl) ?_
  refine lv_iload_n hx hb dX6_entityOf_1 rfl (lv_at hl 1 rfl) ?_
  refine xR_call (vx_runV (As := [.int t]) (rest := []) ⟨hx, hb, hml, hown, hts⟩ (c_X6_requireOperation l hl0 D cy ad I S t) (cw_X6_121 hts rfl rfl ⟨Nat.le_of_ble_eq_true rfl, Nat.le_of_ble_eq_true rfl⟩) (preVRX (ci := 6) (q0 := 0) hK hE hZ hP rfl rfl) rfl rfl hl.1 rfl (lv_room (Nat.le_of_ble_eq_true rfl)) dX6_entityOf_2 ⟨Nat.le_of_ble_eq_true rfl, Nat.le_of_ble_eq_true rfl⟩) hT hlocks hQ (Nat.le_of_ble_eq_true rfl) (Nat.le_of_ble_eq_true rfl) (fun E h => h) (fun q2_1 => ?_)
  have hop := q2_1
  rw [hn] at hop
  obtain ⟨j, hj1, hj, rfl⟩ := opP_of (by omega) hop
  refine lv_aload_n hx hb dX6_entityOf_5 rfl (lv_at hl 0 rfl) ?_
  refine gf_X6_12 hx hb hts hown hK hP 0 rfl (v := .ref (ad 1)) rfl dX6_entityOf_6 ?_
  refine lv_iload_n hx hb dX6_entityOf_9 rfl (lv_at hl 1 rfl) ?_
  refine rI_call (va_runV (As := [.int (nI j)]) (rest := []) ⟨hx, hb, hml, hown, hts⟩ (c_X3_slot l D cy ad I S j n hn (by omega) (by omega) (by omega)) (cw_X6_128 hts rfl rfl ⟨Nat.le_of_ble_eq_true rfl, Nat.le_of_ble_eq_true rfl⟩) (preVR (ci := 3) (q0 := 0) hK (hP.sub [1, 2, 3, 4, 5, 6] rfl) rfl rfl) rfl rfl hl.1 rfl (lv_room (Nat.le_of_ble_eq_true rfl)) dX6_entityOf_10 ⟨Nat.le_of_ble_eq_true rfl, Nat.le_of_ble_eq_true rfl⟩) (fun r hr_ => ?_)
  subst hr_
  refine top_eq (y := ((S 3) j)) rfl ?_
  refine lv_iconst (v := 3) hx hb dX6_entityOf_13 (by decide) ?_
  refine lv_idiv hx hb dX6_entityOf_14 (by decide) ?_
  exact xI_ret hx hb hr hlocks dX6_entityOf_15 rfl hQ ⟨q2_1, by rw [nI_clamp (by omega)]⟩ (Nat.le_of_ble_eq_true rfl) (Nat.le_of_ble_eq_true rfl)
set_option maxHeartbeats 4000000 in
set_option maxRecDepth 100000 in
theorem c_X6_factValue (l : Launch) (hl0 : l.stackTraces = false) (D : va_G) (cy : Nat → ClassId) (ad : Nat → Nat) (I : AI) (S : AS) (x : Int32) (k : Nat) (n : Nat) (h : Nat) (fr : Nat → Nat) (to : Nat → Nat) (ofr : Nat → Nat) (oto : Nat → Nat) (hc : CIv I S k n h fr to ofr oto) : vx_Met l yX6_factValue (Cond.code yX6_factValue cX6_factValue 2 (some .int) :: wsL_law) ({ frames := 7, cells := 1, slots := 6, locals := 111 }) (va_Pc [.ref (ad 0), .int x] (rxB D cy (wC cy ad I S))) (rdI (fun r => keptP S k (I 3) x ∧ r = S 9 x.toNatClampNeg)) (xR (fun E => E = eNSE ∧ ¬ keptP S k (I 3) x)) 1 6 noA := by
  refine enterX (cc := cX6_factValue) (by decide) (Nat.le_of_ble_eq_true rfl) ?_
  intro p e s m below meth c hx hb hr hml hown hts hlocks hT hv Q hQ ls hl
  obtain ⟨hP, hK, hE, hZ⟩ := hv
  have hown : s.vm.findClass RX6 = some m.cls := hown
  have hl : lv_has ls 2 [(0, .ref (ad 0)), (1, .int x)] := hl
  obtain ⟨hn, hn6, hk, hk3, hh, hhn, hfr, hfo, hch⟩ := hc
  have hk8 : k ≤ 180 := by omega
  refine lv_aload_n hx hb dX6_factValue_0 rfl (lv_at hl 0 rfl) ?_
  refine lv_iload_n hx hb dX6_factValue_1 rfl (lv_at hl 1 rfl) ?_
  refine xR_call (vx_runV (As := [.int x]) (rest := []) ⟨hx, hb, hml, hown, hts⟩ (c_X6_requireFact l hl0 D cy ad I S x k hk (by omega)) (cw_X6_137 hts rfl rfl ⟨Nat.le_of_ble_eq_true rfl, Nat.le_of_ble_eq_true rfl⟩) (preVRX (ci := 6) (q0 := 0) hK hE hZ hP rfl rfl) rfl rfl hl.1 rfl (lv_room (Nat.le_of_ble_eq_true rfl)) dX6_factValue_2 ⟨Nat.le_of_ble_eq_true rfl, Nat.le_of_ble_eq_true rfl⟩) hT hlocks hQ (Nat.le_of_ble_eq_true rfl) (Nat.le_of_ble_eq_true rfl) (fun E h => h) (fun q2_1 => ?_)
  obtain ⟨j, hj, rfl⟩ : ∃ j : Nat, j < k ∧ x = nI j := (pk_ix x (n := k) (by omega)).elim (fun q => absurd q q2_1.1) (fun q => q.elim (fun q => absurd q q2_1.2.1) (fun q => q))
  refine lv_aload_n hx hb dX6_factValue_5 rfl (lv_at hl 0 rfl) ?_
  refine gf_X6_19 hx hb hts hown hK hP 0 rfl (v := .ref (ad 7)) rfl dX6_factValue_6 ?_
  refine lv_iload_n hx hb dX6_factValue_9 rfl (lv_at hl 1 rfl) ?_
  refine rI_call (va_runV (As := [.int (nI j)]) (rest := []) ⟨hx, hb, hml, hown, hts⟩ (c_X0_value l D cy ad I S j (by omega)) (cw_X6_140 hts rfl rfl ⟨Nat.le_of_ble_eq_true rfl, Nat.le_of_ble_eq_true rfl⟩) (preVR (ci := 0) (q0 := 0) hK (hP.sub [7, 8, 9, 10, 11, 12, 13] rfl) rfl rfl) rfl rfl hl.1 rfl (lv_room (Nat.le_of_ble_eq_true rfl)) dX6_factValue_10 ⟨Nat.le_of_ble_eq_true rfl, Nat.le_of_ble_eq_true rfl⟩) (fun r hr_ => ?_)
  subst hr_
  refine top_eq (y := ((S 9) j)) rfl ?_
  exact xI_ret hx hb hr hlocks dX6_factValue_13 rfl hQ ⟨q2_1, by rw [nI_clamp (by omega)]⟩ (Nat.le_of_ble_eq_true rfl) (Nat.le_of_ble_eq_true rfl)
set_option maxHeartbeats 4000000 in
set_option maxRecDepth 100000 in
theorem c_X6_factFrom (l : Launch) (hl0 : l.stackTraces = false) (D : va_G) (cy : Nat → ClassId) (ad : Nat → Nat) (I : AI) (S : AS) (x : Int32) (k : Nat) (n : Nat) (h : Nat) (fr : Nat → Nat) (to : Nat → Nat) (ofr : Nat → Nat) (oto : Nat → Nat) (hc : CIv I S k n h fr to ofr oto) : vx_Met l yX6_factFrom (Cond.code yX6_factFrom cX6_factFrom 2 (some .int) :: wsL_law) ({ frames := 7, cells := 1, slots := 6, locals := 111 }) (va_Pc [.ref (ad 0), .int x] (rxB D cy (wC cy ad I S))) (rdI (fun r => keptP S k (I 3) x ∧ r = S 10 x.toNatClampNeg)) (xR (fun E => E = eNSE ∧ ¬ keptP S k (I 3) x)) 1 6 noA := by
  refine enterX (cc := cX6_factFrom) (by decide) (Nat.le_of_ble_eq_true rfl) ?_
  intro p e s m below meth c hx hb hr hml hown hts hlocks hT hv Q hQ ls hl
  obtain ⟨hP, hK, hE, hZ⟩ := hv
  have hown : s.vm.findClass RX6 = some m.cls := hown
  have hl : lv_has ls 2 [(0, .ref (ad 0)), (1, .int x)] := hl
  obtain ⟨hn, hn6, hk, hk3, hh, hhn, hfr, hfo, hch⟩ := hc
  have hk8 : k ≤ 180 := by omega
  refine lv_aload_n hx hb dX6_factFrom_0 rfl (lv_at hl 0 rfl) ?_
  refine lv_iload_n hx hb dX6_factFrom_1 rfl (lv_at hl 1 rfl) ?_
  refine xR_call (vx_runV (As := [.int x]) (rest := []) ⟨hx, hb, hml, hown, hts⟩ (c_X6_requireFact l hl0 D cy ad I S x k hk (by omega)) (cw_X6_137 hts rfl rfl ⟨Nat.le_of_ble_eq_true rfl, Nat.le_of_ble_eq_true rfl⟩) (preVRX (ci := 6) (q0 := 0) hK hE hZ hP rfl rfl) rfl rfl hl.1 rfl (lv_room (Nat.le_of_ble_eq_true rfl)) dX6_factFrom_2 ⟨Nat.le_of_ble_eq_true rfl, Nat.le_of_ble_eq_true rfl⟩) hT hlocks hQ (Nat.le_of_ble_eq_true rfl) (Nat.le_of_ble_eq_true rfl) (fun E h => h) (fun q2_1 => ?_)
  obtain ⟨j, hj, rfl⟩ : ∃ j : Nat, j < k ∧ x = nI j := (pk_ix x (n := k) (by omega)).elim (fun q => absurd q q2_1.1) (fun q => q.elim (fun q => absurd q q2_1.2.1) (fun q => q))
  refine lv_aload_n hx hb dX6_factFrom_5 rfl (lv_at hl 0 rfl) ?_
  refine gf_X6_19 hx hb hts hown hK hP 0 rfl (v := .ref (ad 7)) rfl dX6_factFrom_6 ?_
  refine lv_iload_n hx hb dX6_factFrom_9 rfl (lv_at hl 1 rfl) ?_
  refine rI_call (va_runV (As := [.int (nI j)]) (rest := []) ⟨hx, hb, hml, hown, hts⟩ (c_X0_firstDay l D cy ad I S j (by omega)) (cw_X6_114 hts rfl rfl ⟨Nat.le_of_ble_eq_true rfl, Nat.le_of_ble_eq_true rfl⟩) (preVR (ci := 0) (q0 := 0) hK (hP.sub [7, 8, 9, 10, 11, 12, 13] rfl) rfl rfl) rfl rfl hl.1 rfl (lv_room (Nat.le_of_ble_eq_true rfl)) dX6_factFrom_10 ⟨Nat.le_of_ble_eq_true rfl, Nat.le_of_ble_eq_true rfl⟩) (fun r hr_ => ?_)
  subst hr_
  refine top_eq (y := ((S 10) j)) rfl ?_
  exact xI_ret hx hb hr hlocks dX6_factFrom_13 rfl hQ ⟨q2_1, by rw [nI_clamp (by omega)]⟩ (Nat.le_of_ble_eq_true rfl) (Nat.le_of_ble_eq_true rfl)
set_option maxHeartbeats 4000000 in
set_option maxRecDepth 100000 in
theorem c_X6_factTo (l : Launch) (hl0 : l.stackTraces = false) (D : va_G) (cy : Nat → ClassId) (ad : Nat → Nat) (I : AI) (S : AS) (x : Int32) (k : Nat) (n : Nat) (h : Nat) (fr : Nat → Nat) (to : Nat → Nat) (ofr : Nat → Nat) (oto : Nat → Nat) (hc : CIv I S k n h fr to ofr oto) : vx_Met l yX6_factTo (Cond.code yX6_factTo cX6_factTo 2 (some .int) :: wsL_law) ({ frames := 7, cells := 1, slots := 6, locals := 111 }) (va_Pc [.ref (ad 0), .int x] (rxB D cy (wC cy ad I S))) (rdI (fun r => keptP S k (I 3) x ∧ r = S 11 x.toNatClampNeg)) (xR (fun E => E = eNSE ∧ ¬ keptP S k (I 3) x)) 1 6 noA := by
  refine enterX (cc := cX6_factTo) (by decide) (Nat.le_of_ble_eq_true rfl) ?_
  intro p e s m below meth c hx hb hr hml hown hts hlocks hT hv Q hQ ls hl
  obtain ⟨hP, hK, hE, hZ⟩ := hv
  have hown : s.vm.findClass RX6 = some m.cls := hown
  have hl : lv_has ls 2 [(0, .ref (ad 0)), (1, .int x)] := hl
  obtain ⟨hn, hn6, hk, hk3, hh, hhn, hfr, hfo, hch⟩ := hc
  have hk8 : k ≤ 180 := by omega
  refine lv_aload_n hx hb dX6_factTo_0 rfl (lv_at hl 0 rfl) ?_
  refine lv_iload_n hx hb dX6_factTo_1 rfl (lv_at hl 1 rfl) ?_
  refine xR_call (vx_runV (As := [.int x]) (rest := []) ⟨hx, hb, hml, hown, hts⟩ (c_X6_requireFact l hl0 D cy ad I S x k hk (by omega)) (cw_X6_137 hts rfl rfl ⟨Nat.le_of_ble_eq_true rfl, Nat.le_of_ble_eq_true rfl⟩) (preVRX (ci := 6) (q0 := 0) hK hE hZ hP rfl rfl) rfl rfl hl.1 rfl (lv_room (Nat.le_of_ble_eq_true rfl)) dX6_factTo_2 ⟨Nat.le_of_ble_eq_true rfl, Nat.le_of_ble_eq_true rfl⟩) hT hlocks hQ (Nat.le_of_ble_eq_true rfl) (Nat.le_of_ble_eq_true rfl) (fun E h => h) (fun q2_1 => ?_)
  obtain ⟨j, hj, rfl⟩ : ∃ j : Nat, j < k ∧ x = nI j := (pk_ix x (n := k) (by omega)).elim (fun q => absurd q q2_1.1) (fun q => q.elim (fun q => absurd q q2_1.2.1) (fun q => q))
  refine lv_aload_n hx hb dX6_factTo_5 rfl (lv_at hl 0 rfl) ?_
  refine gf_X6_19 hx hb hts hown hK hP 0 rfl (v := .ref (ad 7)) rfl dX6_factTo_6 ?_
  refine lv_iload_n hx hb dX6_factTo_9 rfl (lv_at hl 1 rfl) ?_
  refine rI_call (va_runV (As := [.int (nI j)]) (rest := []) ⟨hx, hb, hml, hown, hts⟩ (c_X0_dayAfter l D cy ad I S j (by omega)) (cw_X6_118 hts rfl rfl ⟨Nat.le_of_ble_eq_true rfl, Nat.le_of_ble_eq_true rfl⟩) (preVR (ci := 0) (q0 := 0) hK (hP.sub [7, 8, 9, 10, 11, 12, 13] rfl) rfl rfl) rfl rfl hl.1 rfl (lv_room (Nat.le_of_ble_eq_true rfl)) dX6_factTo_10 ⟨Nat.le_of_ble_eq_true rfl, Nat.le_of_ble_eq_true rfl⟩) (fun r hr_ => ?_)
  subst hr_
  refine top_eq (y := ((S 11) j)) rfl ?_
  exact xI_ret hx hb hr hlocks dX6_factTo_13 rfl hQ ⟨q2_1, by rw [nI_clamp (by omega)]⟩ (Nat.le_of_ble_eq_true rfl) (Nat.le_of_ble_eq_true rfl)
set_option maxHeartbeats 4000000 in
set_option maxRecDepth 100000 in
theorem c_X6_openedAt (l : Launch) (hl0 : l.stackTraces = false) (D : va_G) (cy : Nat → ClassId) (ad : Nat → Nat) (I : AI) (S : AS) (x : Int32) (k : Nat) (n : Nat) (h : Nat) (fr : Nat → Nat) (to : Nat → Nat) (ofr : Nat → Nat) (oto : Nat → Nat) (hc : CIv I S k n h fr to ofr oto) : vx_Met l yX6_openedAt (Cond.code yX6_openedAt cX6_openedAt 2 (some .int) :: wsL_law) ({ frames := 7, cells := 1, slots := 6, locals := 111 }) (va_Pc [.ref (ad 0), .int x] (rxB D cy (wC cy ad I S))) (rdI (fun r => keptP S k (I 3) x ∧ r = S 12 x.toNatClampNeg)) (xR (fun E => E = eNSE ∧ ¬ keptP S k (I 3) x)) 1 6 noA := by
  refine enterX (cc := cX6_openedAt) (by decide) (Nat.le_of_ble_eq_true rfl) ?_
  intro p e s m below meth c hx hb hr hml hown hts hlocks hT hv Q hQ ls hl
  obtain ⟨hP, hK, hE, hZ⟩ := hv
  have hown : s.vm.findClass RX6 = some m.cls := hown
  have hl : lv_has ls 2 [(0, .ref (ad 0)), (1, .int x)] := hl
  obtain ⟨hn, hn6, hk, hk3, hh, hhn, hfr, hfo, hch⟩ := hc
  have hk8 : k ≤ 180 := by omega
  refine lv_aload_n hx hb dX6_openedAt_0 rfl (lv_at hl 0 rfl) ?_
  refine lv_iload_n hx hb dX6_openedAt_1 rfl (lv_at hl 1 rfl) ?_
  refine xR_call (vx_runV (As := [.int x]) (rest := []) ⟨hx, hb, hml, hown, hts⟩ (c_X6_requireFact l hl0 D cy ad I S x k hk (by omega)) (cw_X6_137 hts rfl rfl ⟨Nat.le_of_ble_eq_true rfl, Nat.le_of_ble_eq_true rfl⟩) (preVRX (ci := 6) (q0 := 0) hK hE hZ hP rfl rfl) rfl rfl hl.1 rfl (lv_room (Nat.le_of_ble_eq_true rfl)) dX6_openedAt_2 ⟨Nat.le_of_ble_eq_true rfl, Nat.le_of_ble_eq_true rfl⟩) hT hlocks hQ (Nat.le_of_ble_eq_true rfl) (Nat.le_of_ble_eq_true rfl) (fun E h => h) (fun q2_1 => ?_)
  obtain ⟨j, hj, rfl⟩ : ∃ j : Nat, j < k ∧ x = nI j := (pk_ix x (n := k) (by omega)).elim (fun q => absurd q q2_1.1) (fun q => q.elim (fun q => absurd q q2_1.2.1) (fun q => q))
  refine lv_aload_n hx hb dX6_openedAt_5 rfl (lv_at hl 0 rfl) ?_
  refine gf_X6_19 hx hb hts hown hK hP 0 rfl (v := .ref (ad 7)) rfl dX6_openedAt_6 ?_
  refine lv_iload_n hx hb dX6_openedAt_9 rfl (lv_at hl 1 rfl) ?_
  refine rI_call (va_runV (As := [.int (nI j)]) (rest := []) ⟨hx, hb, hml, hown, hts⟩ (c_X0_opening l D cy ad I S j (by omega)) (cw_X6_143 hts rfl rfl ⟨Nat.le_of_ble_eq_true rfl, Nat.le_of_ble_eq_true rfl⟩) (preVR (ci := 0) (q0 := 0) hK (hP.sub [7, 8, 9, 10, 11, 12, 13] rfl) rfl rfl) rfl rfl hl.1 rfl (lv_room (Nat.le_of_ble_eq_true rfl)) dX6_openedAt_10 ⟨Nat.le_of_ble_eq_true rfl, Nat.le_of_ble_eq_true rfl⟩) (fun r hr_ => ?_)
  subst hr_
  refine top_eq (y := ((S 12) j)) rfl ?_
  exact xI_ret hx hb hr hlocks dX6_openedAt_13 rfl hQ ⟨q2_1, by rw [nI_clamp (by omega)]⟩ (Nat.le_of_ble_eq_true rfl) (Nat.le_of_ble_eq_true rfl)
set_option maxHeartbeats 4000000 in
set_option maxRecDepth 100000 in
theorem c_X6_closedAt (l : Launch) (hl0 : l.stackTraces = false) (D : va_G) (cy : Nat → ClassId) (ad : Nat → Nat) (I : AI) (S : AS) (x : Int32) (k : Nat) (n : Nat) (h : Nat) (fr : Nat → Nat) (to : Nat → Nat) (ofr : Nat → Nat) (oto : Nat → Nat) (hc : CIv I S k n h fr to ofr oto) : vx_Met l yX6_closedAt (Cond.code yX6_closedAt cX6_closedAt 2 (some .int) :: wsL_law) ({ frames := 7, cells := 1, slots := 6, locals := 111 }) (va_Pc [.ref (ad 0), .int x] (rxB D cy (wC cy ad I S))) (rdI (fun r => keptP S k (I 3) x ∧ r = S 13 x.toNatClampNeg)) (xR (fun E => E = eNSE ∧ ¬ keptP S k (I 3) x)) 1 6 noA := by
  refine enterX (cc := cX6_closedAt) (by decide) (Nat.le_of_ble_eq_true rfl) ?_
  intro p e s m below meth c hx hb hr hml hown hts hlocks hT hv Q hQ ls hl
  obtain ⟨hP, hK, hE, hZ⟩ := hv
  have hown : s.vm.findClass RX6 = some m.cls := hown
  have hl : lv_has ls 2 [(0, .ref (ad 0)), (1, .int x)] := hl
  obtain ⟨hn, hn6, hk, hk3, hh, hhn, hfr, hfo, hch⟩ := hc
  have hk8 : k ≤ 180 := by omega
  refine lv_aload_n hx hb dX6_closedAt_0 rfl (lv_at hl 0 rfl) ?_
  refine lv_iload_n hx hb dX6_closedAt_1 rfl (lv_at hl 1 rfl) ?_
  refine xR_call (vx_runV (As := [.int x]) (rest := []) ⟨hx, hb, hml, hown, hts⟩ (c_X6_requireFact l hl0 D cy ad I S x k hk (by omega)) (cw_X6_137 hts rfl rfl ⟨Nat.le_of_ble_eq_true rfl, Nat.le_of_ble_eq_true rfl⟩) (preVRX (ci := 6) (q0 := 0) hK hE hZ hP rfl rfl) rfl rfl hl.1 rfl (lv_room (Nat.le_of_ble_eq_true rfl)) dX6_closedAt_2 ⟨Nat.le_of_ble_eq_true rfl, Nat.le_of_ble_eq_true rfl⟩) hT hlocks hQ (Nat.le_of_ble_eq_true rfl) (Nat.le_of_ble_eq_true rfl) (fun E h => h) (fun q2_1 => ?_)
  obtain ⟨j, hj, rfl⟩ : ∃ j : Nat, j < k ∧ x = nI j := (pk_ix x (n := k) (by omega)).elim (fun q => absurd q q2_1.1) (fun q => q.elim (fun q => absurd q q2_1.2.1) (fun q => q))
  refine lv_aload_n hx hb dX6_closedAt_5 rfl (lv_at hl 0 rfl) ?_
  refine gf_X6_19 hx hb hts hown hK hP 0 rfl (v := .ref (ad 7)) rfl dX6_closedAt_6 ?_
  refine lv_iload_n hx hb dX6_closedAt_9 rfl (lv_at hl 1 rfl) ?_
  refine rI_call (va_runV (As := [.int (nI j)]) (rest := []) ⟨hx, hb, hml, hown, hts⟩ (c_X0_closing l D cy ad I S j (by omega)) (cw_X6_146 hts rfl rfl ⟨Nat.le_of_ble_eq_true rfl, Nat.le_of_ble_eq_true rfl⟩) (preVR (ci := 0) (q0 := 0) hK (hP.sub [7, 8, 9, 10, 11, 12, 13] rfl) rfl rfl) rfl rfl hl.1 rfl (lv_room (Nat.le_of_ble_eq_true rfl)) dX6_closedAt_10 ⟨Nat.le_of_ble_eq_true rfl, Nat.le_of_ble_eq_true rfl⟩) (fun r hr_ => ?_)
  subst hr_
  refine top_eq (y := ((S 13) j)) rfl ?_
  exact xI_ret hx hb hr hlocks dX6_closedAt_13 rfl hQ ⟨q2_1, by rw [nI_clamp (by omega)]⟩ (Nat.le_of_ble_eq_true rfl) (Nat.le_of_ble_eq_true rfl)
