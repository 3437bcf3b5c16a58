theorem gf_X6_12 {p : Program} {l : Launch} {e : Env} {R : Room} {s : State} {m : MethodId} {args : Array Value} {below : List Frame} {meth : Method} {c : Code} {H : Heap} {locs : List Loc} {cells slots : Nat} {Q : State → Prop} {cc : ByteArray} {pc : Nat} {ls : Array Slot} {rest : List Value} {D : va_G} {cy : Nat → ClassId} {a : Nat} {ws : va_W} (hx : p.tables.exec = Jvm.exec) (hb : c.code = cc) (hts : ∀ w ∈ wsL_law, w.before args s = true) (hown : s.vm.findClass RX6 = some m.cls) (hK : va_K D clW (tyW cy) s) (hP : va_P D clW ws H) (q0 : Nat) {fs : List Value} (he : ws[q0]? = some (a, .inr (6, fs))) {v : Value} (hv : fs[0]? = some v) (hdg : decode cc pc = .ok (.getfield 12, 3)) (kk : W p l e R s m args below meth c H locs cells slots Q (F0 m (pc + 3) ls (v :: rest))) : W p l e R s m args below meth c H locs cells slots Q (F0 m pc ls (.ref a :: rest)) := va_get (own := RX6) (ref := RX6) (C := RX6) (T := TX6) (N := 8) (ci := 6) hx hb hts inlX6 hown hK hP q0 he rfl 0 (by decide) (hts _ wm_15) (fun _ h => h) hv hdg kk
theorem gf_X6_19 {p : Program} {l : Launch} {e : Env} {R : Room} {s : State} {m : MethodId} {args : Array Value} {below : List Frame} {meth : Method} {c : Code} {H : Heap} {locs : List Loc} {cells slots : Nat} {Q : State → Prop} {cc : ByteArray} {pc : Nat} {ls : Array Slot} {rest : List Value} {D : va_G} {cy : Nat → ClassId} {a : Nat} {ws : va_W} (hx : p.tables.exec = Jvm.exec) (hb : c.code = cc) (hts : ∀ w ∈ wsL_law, w.before args s = true) (hown : s.vm.findClass RX6 = some m.cls) (hK : va_K D clW (tyW cy) s) (hP : va_P D clW ws H) (q0 : Nat) {fs : List Value} (he : ws[q0]? = some (a, .inr (6, fs))) {v : Value} (hv : fs[1]? = some v) (hdg : decode cc pc = .ok (.getfield 19, 3)) (kk : W p l e R s m args below meth c H locs cells slots Q (F0 m (pc + 3) ls (v :: rest))) : W p l e R s m args below meth c H locs cells slots Q (F0 m pc ls (.ref a :: rest)) := va_get (own := RX6) (ref := RX6) (C := RX6) (T := TX6) (N := 8) (ci := 6) hx hb hts inlX6 hown hK hP q0 he rfl 1 (by decide) (hts _ wm_19) (fun _ h => h) hv hdg kk
theorem gf_X6_30 {p : Program} {l : Launch} {e : Env} {R : Room} {s : State} {m : MethodId} {args : Array Value} {below : List Frame} {meth : Method} {c : Code} {H : Heap} {locs : List Loc} {cells slots : Nat} {Q : State → Prop} {cc : ByteArray} {pc : Nat} {ls : Array Slot} {rest : List Value} {D : va_G} {cy : Nat → ClassId} {a : Nat} {ws : va_W} (hx : p.tables.exec = Jvm.exec) (hb : c.code = cc) (hts : ∀ w ∈ wsL_law, w.before args s = true) (hown : s.vm.findClass RX6 = some m.cls) (hK : va_K D clW (tyW cy) s) (hP : va_P D clW ws H) (q0 : Nat) {fs : List Value} (he : ws[q0]? = some (a, .inr (6, fs))) {v : Value} (hv : fs[3]? = some v) (hdg : decode cc pc = .ok (.getfield 30, 3)) (kk : W p l e R s m args below meth c H locs cells slots Q (F0 m (pc + 3) ls (v :: rest))) : W p l e R s m args below meth c H locs cells slots Q (F0 m pc ls (.ref a :: rest)) := va_get (own := RX6) (ref := RX6) (C := RX6) (T := TX6) (N := 8) (ci := 6) hx hb hts inlX6 hown hK hP q0 he rfl 3 (by decide) (hts _ wm_24) (fun _ h => h) hv hdg kk
theorem gf_X6_47 {p : Program} {l : Launch} {e : Env} {R : Room} {s : State} {m : MethodId} {args : Array Value} {below : List Frame} {meth : Method} {c : Code} {H : Heap} {locs : List Loc} {cells slots : Nat} {Q : State → Prop} {cc : ByteArray} {pc : Nat} {ls : Array Slot} {rest : List Value} {D : va_G} {cy : Nat → ClassId} {a : Nat} {ws : va_W} (hx : p.tables.exec = Jvm.exec) (hb : c.code = cc) (hts : ∀ w ∈ wsL_law, w.before args s = true) (hown : s.vm.findClass RX6 = some m.cls) (hK : va_K D clW (tyW cy) s) (hP : va_P D clW ws H) (q0 : Nat) {fs : List Value} (he : ws[q0]? = some (a, .inr (6, fs))) {v : Value} (hv : fs[6]? = some v) (hdg : decode cc pc = .ok (.getfield 47, 3)) (kk : W p l e R s m args below meth c H locs cells slots Q (F0 m (pc + 3) ls (v :: rest))) : W p l e R s m args below meth c H locs cells slots Q (F0 m pc ls (.ref a :: rest)) := va_get (own := RX6) (ref := RX6) (C := RX6) (T := TX6) (N := 8) (ci := 6) hx hb hts inlX6 hown hK hP q0 he rfl 6 (by decide) (hts _ wm_33) (fun _ h => h) hv hdg kk
theorem gf_X6_54 {p : Program} {l : Launch} {e : Env} {R : Room} {s : State} {m : MethodId} {args : Array Value} {below : List Frame} {meth : Method} {c : Code} {H : Heap} {locs : List Loc} {cells slots : Nat} {Q : State → Prop} {cc : ByteArray} {pc : Nat} {ls : Array Slot} {rest : List Value} {D : va_G} {cy : Nat → ClassId} {a : Nat} {ws : va_W} (hx : p.tables.exec = Jvm.exec) (hb : c.code = cc) (hts : ∀ w ∈ wsL_law, w.before args s = true) (hown : s.vm.findClass RX6 = some m.cls) (hK : va_K D clW (tyW cy) s) (hP : va_P D clW ws H) (q0 : Nat) {fs : List Value} (he : ws[q0]? = some (a, .inr (6, fs))) {v : Value} (hv : fs[7]? = some v) (hdg : decode cc pc = .ok (.getfield 54, 3)) (kk : W p l e R s m args below meth c H locs cells slots Q (F0 m (pc + 3) ls (v :: rest))) : W p l e R s m args below meth c H locs cells slots Q (F0 m pc ls (.ref a :: rest)) := va_get (own := RX6) (ref := RX6) (C := RX6) (T := TX6) (N := 8) (ci := 6) hx hb hts inlX6 hown hK hP q0 he rfl 7 (by decide) (hts _ wm_37) (fun _ h => h) hv hdg kk
theorem cw_X6_83 {R : Room} {s : State} {args : Array Value} {rm : Room} {mc ms : Nat} (hts : ∀ w ∈ wsL_law, w.before args s = true) (hrc : rm.cells = mc) (hrs : rm.slots = ms) (hR : rm.frames + 1 ≤ R.frames ∧ 8 + (1 + 11) + rm.locals ≤ R.locals) : CallW R s args RX6 RX3 83 yX3_now cX3_now 1 (some .int) (Cond.code yX3_now cX3_now 1 (some .int) :: wsL_law) rm mc ms 0 := cwV 0 hts (gUV wm_176 wm_177 wm_178 wm_14 wm_179) rfl hrc hrs (by decide +kernel) hR
theorem cw_X6_102 {R : Room} {s : State} {args : Array Value} {rm : Room} {mc ms : Nat} (hts : ∀ w ∈ wsL_law, w.before args s = true) (hrc : rm.cells = mc) (hrs : rm.slots = ms) (hR : rm.frames + 1 ≤ R.frames ∧ 8 + (2 + 11) + rm.locals ≤ R.locals) : CallW R s args RX6 RX6 102 yX6_requireDay cX6_requireDay 2 none (Cond.code yX6_requireDay cX6_requireDay 2 none :: wsL_law) rm mc ms 1 := cwV 1 hts (gUV wm_242 wm_243 wm_244 wm_2 wm_245) rfl hrc hrs (by decide +kernel) hR
theorem cw_X6_149 {R : Room} {s : State} {args : Array Value} {rm : Room} {mc ms : Nat} (hts : ∀ w ∈ wsL_law, w.before args s = true) (hrc : rm.cells = mc) (hrs : rm.slots = ms) (hR : rm.frames + 1 ≤ R.frames ∧ 8 + (1 + 11) + rm.locals ≤ R.locals) : CallW R s args RX6 RX0 149 yX0_oldestTick cX0_oldestTick 1 (some .int) (Cond.code yX0_oldestTick cX0_oldestTick 1 (some .int) :: wsL_law) rm mc ms 0 := cwV 0 hts (gUV wm_265 wm_266 wm_267 wm_18 wm_268) rfl hrc hrs (by decide +kernel) hR
theorem cw_X6_204 {R : Room} {s : State} {args : Array Value} {rm : Room} {mc ms : Nat} (hts : ∀ w ∈ wsL_law, w.before args s = true) (hrc : rm.cells = mc) (hrs : rm.slots = ms) (hR : rm.frames + 1 ≤ R.frames ∧ 8 + (2 + 11) + rm.locals ≤ R.locals) : CallW R s args RX6 RX6 204 yX6_requireAttributeNumber cX6_requireAttributeNumber 2 none (Cond.code yX6_requireAttributeNumber cX6_requireAttributeNumber 2 none :: wsL_law) rm mc ms 1 := cwV 1 hts (gUV wm_163 wm_164 wm_165 wm_2 wm_166) rfl hrc hrs (by decide +kernel) hR
theorem cw_X6_279 {R : Room} {s : State} {args : Array Value} {rm : Room} {mc ms : Nat} (hts : ∀ w ∈ wsL_law, w.before args s = true) (hrc : rm.cells = mc) (hrs : rm.slots = ms) (hR : rm.frames + 1 ≤ R.frames ∧ 8 + (1 + 11) + rm.locals ≤ R.locals) : CallW R s args RX6 RX3 279 yX3_isFull cX3_isFull 1 (some .boolean) (Cond.code yX3_isFull cX3_isFull 1 (some .boolean) :: wsL_law) rm mc ms 0 := cwV 0 hts (gUV wm_209 wm_210 wm_211 wm_14 wm_212) rfl hrc hrs (by decide +kernel) hR
theorem cw_X6_290 {R : Room} {s : State} {args : Array Value} {rm : Room} {mc ms : Nat} (hts : ∀ w ∈ wsL_law, w.before args s = true) (hrc : rm.cells = mc) (hrs : rm.slots = ms) (hR : rm.frames + 1 ≤ R.frames ∧ 8 + (2 + 11) + rm.locals ≤ R.locals) : CallW R s args RX6 RX0 290 yX0_isKept cX0_isKept 2 (some .boolean) (Cond.code yX0_isKept cX0_isKept 2 (some .boolean) :: wsL_law) rm mc ms 1 := cwV 1 hts (gUV wm_299 wm_278 wm_279 wm_18 wm_280) rfl hrc hrs (by decide +kernel) hR
set_option maxHeartbeats 4000000 in
set_option maxRecDepth 100000 in
theorem c_X6_requireAttributeNumber (l : Launch) (hl0 : l.stackTraces = false) (D : va_G) (cy : Nat → ClassId) (ad : Nat → Nat) (I : AI) (S : AS) (b : Int32) : vx_Met l yX6_requireAttributeNumber (Cond.code yX6_requireAttributeNumber cX6_requireAttributeNumber 2 none :: wsL_law) ({ frames := 6, cells := 1, slots := 6, locals := 90 }) (va_Pc [.ref (ad 0), .int b] (rxB D cy (wC cy ad I S))) (rdV (atP b)) (xR (fun E => E = eIOO ∧ ¬ atP b)) 1 6 noA := by
  refine enterX (cc := cX6_requireAttributeNumber) (by decide) (Nat.le_of_ble_eq_true rfl) ?_
  intro p e s m below meth c hx hb hr hml hown hts hlocks hT hv Q hQ ls hl
  obtain ⟨hP, hK, hE, hZ⟩ := hv
  have hown : s.vm.findClass RX6 = some m.cls := hown
  have hl : lv_has ls 2 [(0, .ref (ad 0)), (1, .int b)] := hl
  refine lv_iload_n hx hb dX6_requireAttributeNumber_0 rfl (lv_at hl 1 rfl) ?_
  refine lv_if_lt (tgt := 9) hx hb dX6_requireAttributeNumber_1 (by decide) (fun c1_1 => ?_) (fun c1_1 => ?_)
  · exact thw_IOO (A := noA) (List.mem_of_getElem? (i := 7) rfl) hx hb hl0 hown hts hE hZ va_S.rf (hl.1.trans hml.symm) dX6_requireAttributeNumber_9 dX6_requireAttributeNumber_12 dX6_requireAttributeNumber_13 dX6_requireAttributeNumber_16 dX6_requireAttributeNumber_19 hT (Nat.le_of_ble_eq_true rfl) (Nat.le_of_ble_eq_true rfl) (Nat.le_of_ble_eq_true rfl) (Nat.le_of_ble_eq_true rfl) hlocks (Nat.le_of_ble_eq_true rfl) (Nat.le_of_ble_eq_true rfl) (fun _ h => by cases h) hQ (fun t _ hz hk => ⟨(), trivial, ⟨rfl, by simp [atP, c1_1]⟩, hz, fun q hq _ => hk q hq⟩)
  · refine lv_iload_n hx hb dX6_requireAttributeNumber_4 rfl (lv_at hl 1 rfl) ?_
    refine lv_iconst (v := 3) hx hb dX6_requireAttributeNumber_5 (by decide) ?_
    refine lv_icmp_lt (tgt := 20) hx hb dX6_requireAttributeNumber_6 (by decide) (fun c6_2 => ?_) (fun c6_2 => ?_)
    · exact xV_ret hx hb hr hlocks dX6_requireAttributeNumber_20 hQ (by simp [atP, c1_1, c6_2]) (Nat.le_of_ble_eq_true rfl) (Nat.le_of_ble_eq_true rfl)
    · exact thw_IOO (A := noA) (List.mem_of_getElem? (i := 7) rfl) hx hb hl0 hown hts hE hZ va_S.rf (hl.1.trans hml.symm) dX6_requireAttributeNumber_9 dX6_requireAttributeNumber_12 dX6_requireAttributeNumber_13 dX6_requireAttributeNumber_16 dX6_requireAttributeNumber_19 hT (Nat.le_of_ble_eq_true rfl) (Nat.le_of_ble_eq_true rfl) (Nat.le_of_ble_eq_true rfl) (Nat.le_of_ble_eq_true rfl) hlocks (Nat.le_of_ble_eq_true rfl) (Nat.le_of_ble_eq_true rfl) (fun _ h => by cases h) hQ (fun t _ hz hk => ⟨(), trivial, ⟨rfl, by simp [atP, c1_1, c6_2]⟩, hz, fun q hq _ => hk q hq⟩)
set_option maxHeartbeats 4000000 in
set_option maxRecDepth 100000 in
theorem c_X6_requireAttribute (l : Launch) (hl0 : l.stackTraces = false) (D : va_G) (cy : Nat → ClassId) (ad : Nat → Nat) (I : AI) (S : AS) (x : Int32) (b : Int32) : vx_Met l yX6_requireAttribute (Cond.code yX6_requireAttribute cX6_requireAttribute 3 none :: wsL_law) ({ frames := 7, cells := 1, slots := 6, locals := 111 }) (va_Pc [.ref (ad 0), .int x, .int b] (rxB D cy (wC cy ad I S))) (rdV (plP (I 0) x b)) (xR (fun E => E = eIOO ∧ ¬ plP (I 0) x b)) 1 6 noA := by
  refine enterX (cc := cX6_requireAttribute) (by decide) (Nat.le_of_ble_eq_true rfl) ?_
  intro p e s m below meth c hx hb hr hml hown hts hlocks hT hv Q hQ ls hl
  obtain ⟨hP, hK, hE, hZ⟩ := hv
  have hown : s.vm.findClass RX6 = some m.cls := hown
  have hl : lv_has ls 3 [(0, .ref (ad 0)), (1, .int x), (2, .int b)] := hl
  refine lv_iload_n hx hb dX6_requireAttribute_0 rfl (lv_at hl 1 rfl) ?_
  refine lv_if_lt (tgt := 12) hx hb dX6_requireAttribute_1 (by decide) (fun c1_1 => ?_) (fun c1_1 => ?_)
  · exact thw_IOO (A := noA) (List.mem_of_getElem? (i := 6) rfl) hx hb hl0 hown hts hE hZ va_S.rf (hl.1.trans hml.symm) dX6_requireAttribute_12 dX6_requireAttribute_15 dX6_requireAttribute_16 dX6_requireAttribute_19 dX6_requireAttribute_22 hT (Nat.le_of_ble_eq_true rfl) (Nat.le_of_ble_eq_true rfl) (Nat.le_of_ble_eq_true rfl) (Nat.le_of_ble_eq_true rfl) hlocks (Nat.le_of_ble_eq_true rfl) (Nat.le_of_ble_eq_true rfl) (fun _ h => by cases h) hQ (fun t _ hz hk => ⟨(), trivial, ⟨rfl, by simp [plP, c1_1]⟩, hz, fun q hq _ => hk q hq⟩)
  · refine lv_iload_n hx hb dX6_requireAttribute_4 rfl (lv_at hl 1 rfl) ?_
    refine lv_aload_n hx hb dX6_requireAttribute_5 rfl (lv_at hl 0 rfl) ?_
    refine gf_X6_30 hx hb hts hown hK hP 0 rfl (v := .int (I 0)) rfl dX6_requireAttribute_6 ?_
    refine lv_icmp_lt (tgt := 23) hx hb dX6_requireAttribute_9 (by decide) (fun c9_2 => ?_) (fun c9_2 => ?_)
    · refine lv_aload_n hx hb dX6_requireAttribute_23 rfl (lv_at hl 0 rfl) ?_
      refine lv_iload_n hx hb dX6_requireAttribute_24 rfl (lv_at hl 2 rfl) ?_
      refine xR_call (vx_runV (As := [.int b]) (rest := []) ⟨hx, hb, hml, hown, hts⟩ (c_X6_requireAttributeNumber l hl0 D cy ad I S b) (cw_X6_204 hts rfl rfl ⟨Nat.le_of_ble_eq_true rfl, Nat.le_of_ble_eq_true rfl⟩) (preVRX (ci := 6) (q0 := 0) hK hE hZ hP rfl rfl) rfl rfl hl.1 rfl (lv_room (Nat.le_of_ble_eq_true rfl)) dX6_requireAttribute_25 ⟨Nat.le_of_ble_eq_true rfl, Nat.le_of_ble_eq_true rfl⟩) hT hlocks hQ (Nat.le_of_ble_eq_true rfl) (Nat.le_of_ble_eq_true rfl) (fun E h => ⟨h.1, fun q => h.2 q.2⟩) (fun q25_3 => ?_)
      exact xV_ret hx hb hr hlocks dX6_requireAttribute_28 hQ ⟨by simp [c1_1, c9_2], q25_3⟩ (Nat.le_of_ble_eq_true rfl) (Nat.le_of_ble_eq_true rfl)
    · exact thw_IOO (A := noA) (List.mem_of_getElem? (i := 6) rfl) hx hb hl0 hown hts hE hZ va_S.rf (hl.1.trans hml.symm) dX6_requireAttribute_12 dX6_requireAttribute_15 dX6_requireAttribute_16 dX6_requireAttribute_19 dX6_requireAttribute_22 hT (Nat.le_of_ble_eq_true rfl) (Nat.le_of_ble_eq_true rfl) (Nat.le_of_ble_eq_true rfl) (Nat.le_of_ble_eq_true rfl) hlocks (Nat.le_of_ble_eq_true rfl) (Nat.le_of_ble_eq_true rfl) (fun _ h => by cases h) hQ (fun t _ hz hk => ⟨(), trivial, ⟨rfl, by simp [plP, c1_1, c9_2]⟩, hz, fun q hq _ => hk q hq⟩)
set_option maxHeartbeats 4000000 in
set_option maxRecDepth 100000 in
theorem c_X6_requireDay (l : Launch) (hl0 : l.stackTraces = false) (D : va_G) (cy : Nat → ClassId) (ad : Nat → Nat) (I : AI) (S : AS) (d : Int32) : vx_Met l yX6_requireDay (Cond.code yX6_requireDay cX6_requireDay 2 none :: wsL_law) ({ frames := 6, cells := 1, slots := 6, locals := 90 }) (va_Pc [.ref (ad 0), .int d] (rxB D cy (wC cy ad I S))) (rdV (dyP d)) (xR (fun E => E = eIAE ∧ ¬ dyP d)) 1 6 noA := by
  refine enterX (cc := cX6_requireDay) (by decide) (Nat.le_of_ble_eq_true rfl) ?_
  intro p e s m below meth c hx hb hr hml hown hts hlocks hT hv Q hQ ls hl
  obtain ⟨hP, hK, hE, hZ⟩ := hv
  have hown : s.vm.findClass RX6 = some m.cls := hown
  have hl : lv_has ls 2 [(0, .ref (ad 0)), (1, .int d)] := hl
  refine lv_iload_n hx hb dX6_requireDay_0 rfl (lv_at hl 1 rfl) ?_
  refine lv_if_lt (tgt := 10) hx hb dX6_requireDay_1 (by decide) (fun c1_1 => ?_) (fun c1_1 => ?_)
  · exact thw_IAE (A := noA) (List.mem_of_getElem? (i := 8) rfl) hx hb hl0 hown hts hE hZ va_S.rf (hl.1.trans hml.symm) dX6_requireDay_10 dX6_requireDay_13 dX6_requireDay_14 dX6_requireDay_17 dX6_requireDay_20 hT (Nat.le_of_ble_eq_true rfl) (Nat.le_of_ble_eq_true rfl) (Nat.le_of_ble_eq_true rfl) (Nat.le_of_ble_eq_true rfl) hlocks (Nat.le_of_ble_eq_true rfl) (Nat.le_of_ble_eq_true rfl) (fun _ h => by cases h) hQ (fun t _ hz hk => ⟨(), trivial, ⟨rfl, by simp [dyP, c1_1]⟩, hz, fun q hq _ => hk q hq⟩)
  · refine lv_iload_n hx hb dX6_requireDay_4 rfl (lv_at hl 1 rfl) ?_
    refine lv_bipush (v := 100) hx hb dX6_requireDay_5 (by decide) ?_
    refine lv_icmp_lt (tgt := 21) hx hb dX6_requireDay_7 (by decide) (fun c7_2 => ?_) (fun c7_2 => ?_)
    · exact xV_ret hx hb hr hlocks dX6_requireDay_21 hQ (by simp [dyP, c1_1, c7_2]) (Nat.le_of_ble_eq_true rfl) (Nat.le_of_ble_eq_true rfl)
    · exact thw_IAE (A := noA) (List.mem_of_getElem? (i := 8) rfl) hx hb hl0 hown hts hE hZ va_S.rf (hl.1.trans hml.symm) dX6_requireDay_10 dX6_requireDay_13 dX6_requireDay_14 dX6_requireDay_17 dX6_requireDay_20 hT (Nat.le_of_ble_eq_true rfl) (Nat.le_of_ble_eq_true rfl) (Nat.le_of_ble_eq_true rfl) (Nat.le_of_ble_eq_true rfl) hlocks (Nat.le_of_ble_eq_true rfl) (Nat.le_of_ble_eq_true rfl) (fun _ h => by cases h) hQ (fun t _ hz hk => ⟨(), trivial, ⟨rfl, by simp [dyP, c1_1, c7_2]⟩, hz, fun q hq _ => hk q hq⟩)
set_option maxHeartbeats 4000000 in
set_option maxRecDepth 100000 in
theorem c_X6_requireDays (l : Launch) (hl0 : l.stackTraces = false) (D : va_G) (cy : Nat → ClassId) (ad : Nat → Nat) (I : AI) (S : AS) (x : Int32) (y : Int32) : vx_Met l yX6_requireDays (Cond.code yX6_requireDays cX6_requireDays 3 none :: wsL_law) ({ frames := 6, cells := 1, slots := 6, locals := 90 }) (va_Pc [.ref (ad 0), .int x, .int y] (rxB D cy (wC cy ad I S))) (rdV (ddP x y)) (xR (fun E => E = eIAE ∧ ¬ ddP x y)) 1 6 noA := by
  refine enterX (cc := cX6_requireDays) (by decide) (Nat.le_of_ble_eq_true rfl) ?_
  intro p e s m below meth c hx hb hr hml hown hts hlocks hT hv Q hQ ls hl
  obtain ⟨hP, hK, hE, hZ⟩ := hv
  have hown : s.vm.findClass RX6 = some m.cls := hown
  have hl : lv_has ls 3 [(0, .ref (ad 0)), (1, .int x), (2, .int y)] := hl
  refine lv_iload_n hx hb dX6_requireDays_0 rfl (lv_at hl 1 rfl) ?_
  refine lv_if_lt (tgt := 15) hx hb dX6_requireDays_1 (by decide) (fun c1_1 => ?_) (fun c1_1 => ?_)
  · exact thw_IAE (A := noA) (List.mem_of_getElem? (i := 9) rfl) hx hb hl0 hown hts hE hZ va_S.rf (hl.1.trans hml.symm) dX6_requireDays_15 dX6_requireDays_18 dX6_requireDays_19 dX6_requireDays_22 dX6_requireDays_25 hT (Nat.le_of_ble_eq_true rfl) (Nat.le_of_ble_eq_true rfl) (Nat.le_of_ble_eq_true rfl) (Nat.le_of_ble_eq_true rfl) hlocks (Nat.le_of_ble_eq_true rfl) (Nat.le_of_ble_eq_true rfl) (fun _ h => by cases h) hQ (fun t _ hz hk => ⟨(), trivial, ⟨rfl, by simp [ddP, c1_1]⟩, hz, fun q hq _ => hk q hq⟩)
  · refine lv_iload_n hx hb dX6_requireDays_4 rfl (lv_at hl 2 rfl) ?_
    refine lv_iload_n hx hb dX6_requireDays_5 rfl (lv_at hl 1 rfl) ?_
    refine lv_icmp_le (tgt := 15) hx hb dX6_requireDays_6 (by decide) (fun c6_2 => ?_) (fun c6_2 => ?_)
    · exact thw_IAE (A := noA) (List.mem_of_getElem? (i := 9) rfl) hx hb hl0 hown hts hE hZ va_S.rf (hl.1.trans hml.symm) dX6_requireDays_15 dX6_requireDays_18 dX6_requireDays_19 dX6_requireDays_22 dX6_requireDays_25 hT (Nat.le_of_ble_eq_true rfl) (Nat.le_of_ble_eq_true rfl) (Nat.le_of_ble_eq_true rfl) (Nat.le_of_ble_eq_true rfl) hlocks (Nat.le_of_ble_eq_true rfl) (Nat.le_of_ble_eq_true rfl) (fun _ h => by cases h) hQ (fun t _ hz hk => ⟨(), trivial, ⟨rfl, by simp [ddP, c1_1, c6_2]⟩, hz, fun q hq _ => hk q hq⟩)
    · refine lv_iload_n hx hb dX6_requireDays_9 rfl (lv_at hl 2 rfl) ?_
      refine lv_bipush (v := 100) hx hb dX6_requireDays_10 (by decide) ?_
      refine lv_icmp_le (tgt := 26) hx hb dX6_requireDays_12 (by decide) (fun c12_3 => ?_) (fun c12_3 => ?_)
      · exact xV_ret hx hb hr hlocks dX6_requireDays_26 hQ (by simp [ddP, c1_1, c6_2, c12_3]) (Nat.le_of_ble_eq_true rfl) (Nat.le_of_ble_eq_true rfl)
      · exact thw_IAE (A := noA) (List.mem_of_getElem? (i := 9) rfl) hx hb hl0 hown hts hE hZ va_S.rf (hl.1.trans hml.symm) dX6_requireDays_15 dX6_requireDays_18 dX6_requireDays_19 dX6_requireDays_22 dX6_requireDays_25 hT (Nat.le_of_ble_eq_true rfl) (Nat.le_of_ble_eq_true rfl) (Nat.le_of_ble_eq_true rfl) (Nat.le_of_ble_eq_true rfl) hlocks (Nat.le_of_ble_eq_true rfl) (Nat.le_of_ble_eq_true rfl) (fun _ h => by cases h) hQ (fun t _ hz hk => ⟨(), trivial, ⟨rfl, by simp [ddP, c1_1, c6_2, c12_3]⟩, hz, fun q hq _ => hk q hq⟩)
set_option maxHeartbeats 4000000 in
set_option maxRecDepth 100000 in
theorem c_X6_requireFreeTick (l : Launch) (hl0 : l.stackTraces = false) (D : va_G) (cy : Nat → ClassId) (ad : Nat → Nat) (I : AI) (S : AS) : vx_Met l yX6_requireFreeTick (Cond.code yX6_requireFreeTick cX6_requireFreeTick 1 none :: wsL_law) ({ frames := 6, cells := 1, slots := 6, locals := 90 }) (va_Pc [.ref (ad 0)] (rxB D cy (wC cy ad I S))) (rdV (I 1 < 60)) (xR (fun E => E = eISE ∧ ¬ I 1 < 60)) 1 6 noA := by
  refine enterX (cc := cX6_requireFreeTick) (by decide) (Nat.le_of_ble_eq_true rfl) ?_
  intro p e s m below meth c hx hb hr hml hown hts hlocks hT hv Q hQ ls hl
  obtain ⟨hP, hK, hE, hZ⟩ := hv
  have hown : s.vm.findClass RX6 = some m.cls := hown
  have hl : lv_has ls 1 [(0, .ref (ad 0))] := hl
  refine lv_aload_n hx hb dX6_requireFreeTick_0 rfl (lv_at hl 0 rfl) ?_
  refine gf_X6_12 hx hb hts hown hK hP 0 rfl (v := .ref (ad 1)) rfl dX6_requireFreeTick_1 ?_
  refine rZ_call (P := ¬ (I 1) < 60) (va_runV (As := []) (rest := []) ⟨hx, hb, hml, hown, hts⟩ (c_X3_isFull l D cy ad I S) (cw_X6_279 hts rfl rfl ⟨Nat.le_of_ble_eq_true rfl, Nat.le_of_ble_eq_true rfl⟩) (preVR (ci := 3) (q0 := 0) hK (hP.sub [1, 2, 3, 4, 5, 6] rfl) rfl rfl) rfl rfl hl.1 rfl (lv_room (Nat.le_of_ble_eq_true rfl)) dX6_requireFreeTick_4 ⟨Nat.le_of_ble_eq_true rfl, Nat.le_of_ble_eq_true rfl⟩) (fun b4_1 => ?_) (fun b4_1 => ?_)
  · refine lv_if_eq (tgt := 21) hx hb dX6_requireFreeTick_7 (by decide) (fun c => absurd c (by decide)) (fun _ => ?_)
    exact thw_ISE (A := noA) (List.mem_of_getElem? (i := 10) rfl) hx hb hl0 hown hts hE hZ va_S.rf (hl.1.trans hml.symm) dX6_requireFreeTick_10 dX6_requireFreeTick_13 dX6_requireFreeTick_14 dX6_requireFreeTick_17 dX6_requireFreeTick_20 hT (Nat.le_of_ble_eq_true rfl) (Nat.le_of_ble_eq_true rfl) (Nat.le_of_ble_eq_true rfl) (Nat.le_of_ble_eq_true rfl) hlocks (Nat.le_of_ble_eq_true rfl) (Nat.le_of_ble_eq_true rfl) (fun _ h => by cases h) hQ (fun t _ hz hk => ⟨(), trivial, ⟨rfl, b4_1⟩, hz, fun q hq _ => hk q hq⟩)
  · refine lv_if_eq (tgt := 21) hx hb dX6_requireFreeTick_7 (by decide) (fun _ => ?_) (fun c => absurd (by decide) c)
    exact xV_ret hx hb hr hlocks dX6_requireFreeTick_21 hQ (Decidable.of_not_not b4_1) (Nat.le_of_ble_eq_true rfl) (Nat.le_of_ble_eq_true rfl)
set_option maxHeartbeats 4000000 in
set_option maxRecDepth 100000 in
theorem c_X6_requireOperation (l : Launch) (hl0 : l.stackTraces = false) (D : va_G) (cy : Nat → ClassId) (ad : Nat → Nat) (I : AI) (S : AS) (t : Int32) : vx_Met l yX6_requireOperation (Cond.code yX6_requireOperation cX6_requireOperation 2 none :: wsL_law) ({ frames := 6, cells := 1, slots := 6, locals := 90 }) (va_Pc [.ref (ad 0), .int t] (rxB D cy (wC cy ad I S))) (rdV (opP (I 1) t)) (xR (fun E => E = eIAE ∧ ¬ opP (I 1) t)) 1 6 noA := by
  refine enterX (cc := cX6_requireOperation) (by decide) (Nat.le_of_ble_eq_true rfl) ?_
  intro p e s m below meth c hx hb hr hml hown hts hlocks hT hv Q hQ ls hl
  obtain ⟨hP, hK, hE, hZ⟩ := hv
  have hown : s.vm.findClass RX6 = some m.cls := hown
  have hl : lv_has ls 2 [(0, .ref (ad 0)), (1, .int t)] := hl
  refine lv_iload_n hx hb dX6_requireOperation_0 rfl (lv_at hl 1 rfl) ?_
  refine lv_iconst (v := 1) hx hb dX6_requireOperation_1 (by decide) ?_
  refine lv_icmp_lt (tgt := 16) hx hb dX6_requireOperation_2 (by decide) (fun c2_1 => ?_) (fun c2_1 => ?_)
  · exact th_IAE (A := noA) (List.mem_of_getElem? (i := 2) rfl) hx hb hl0 hown hts hE hZ va_S.rf (hl.1.trans hml.symm) dX6_requireOperation_16 dX6_requireOperation_19 dX6_requireOperation_20 dX6_requireOperation_22 dX6_requireOperation_25 hT (Nat.le_of_ble_eq_true rfl) (Nat.le_of_ble_eq_true rfl) (Nat.le_of_ble_eq_true rfl) (Nat.le_of_ble_eq_true rfl) hlocks (Nat.le_of_ble_eq_true rfl) (Nat.le_of_ble_eq_true rfl) (fun _ h => by cases h) hQ (fun t _ hz hk => ⟨(), trivial, ⟨rfl, by simp [opP, c2_1]⟩, hz, fun q hq _ => hk q hq⟩)
  · refine lv_iload_n hx hb dX6_requireOperation_5 rfl (lv_at hl 1 rfl) ?_
    refine lv_aload_n hx hb dX6_requireOperation_6 rfl (lv_at hl 0 rfl) ?_
    refine gf_X6_12 hx hb hts hown hK hP 0 rfl (v := .ref (ad 1)) rfl dX6_requireOperation_7 ?_
    refine rI_call (va_runV (As := []) (rest := [.int t]) ⟨hx, hb, hml, hown, hts⟩ (c_X3_now l D cy ad I S) (cw_X6_83 hts rfl rfl ⟨Nat.le_of_ble_eq_true rfl, Nat.le_of_ble_eq_true rfl⟩) (preVR (ci := 3) (q0 := 0) hK (hP.sub [1, 2, 3, 4, 5, 6] rfl) rfl rfl) rfl rfl hl.1 rfl (lv_room (Nat.le_of_ble_eq_true rfl)) dX6_requireOperation_10 ⟨Nat.le_of_ble_eq_true rfl, Nat.le_of_ble_eq_true rfl⟩) (fun r hr_ => ?_)
    subst hr_
    refine top_eq (y := (I 1)) rfl ?_
    refine lv_icmp_le (tgt := 26) hx hb dX6_requireOperation_13 (by decide) (fun c13_2 => ?_) (fun c13_2 => ?_)
    · exact xV_ret hx hb hr hlocks dX6_requireOperation_26 hQ (by simp [opP, c2_1, c13_2]) (Nat.le_of_ble_eq_true rfl) (Nat.le_of_ble_eq_true rfl)
    · exact th_IAE (A := noA) (List.mem_of_getElem? (i := 2) rfl) hx hb hl0 hown hts hE hZ va_S.rf (hl.1.trans hml.symm) dX6_requireOperation_16 dX6_requireOperation_19 dX6_requireOperation_20 dX6_requireOperation_22 dX6_requireOperation_25 hT (Nat.le_of_ble_eq_true rfl) (Nat.le_of_ble_eq_true rfl) (Nat.le_of_ble_eq_true rfl) (Nat.le_of_ble_eq_true rfl) hlocks (Nat.le_of_ble_eq_true rfl) (Nat.le_of_ble_eq_true rfl) (fun _ h => by cases h) hQ (fun t _ hz hk => ⟨(), trivial, ⟨rfl, by simp [opP, c2_1, c13_2]⟩, hz, fun q hq _ => hk q hq⟩)
set_option maxHeartbeats 4000000 in
set_option maxRecDepth 100000 in
theorem c_X6_requireFact (l : Launch) (hl0 : l.stackTraces = false) (D : va_G) (cy : Nat → ClassId) (ad : Nat → Nat) (I : AI) (S : AS) (x : Int32) (k : Nat) (hk : I 2 = nI k) (hk8 : k ≤ 180) : vx_Met l yX6_requireFact (Cond.code yX6_requireFact cX6_requireFact 2 none :: wsL_law) ({ frames := 6, cells := 1, slots := 6, locals := 90 }) (va_Pc [.ref (ad 0), .int x] (rxB D cy (wC cy ad I S))) (rdV (keptP S k (I 3) x)) (xR (fun E => E = eNSE ∧ ¬ keptP S k (I 3) x)) 1 6 noA := by
  refine enterX (cc := cX6_requireFact) (by decide) (Nat.le_of_ble_eq_true rfl) ?_
  intro p e s m below meth c hx hb hr hml hown hts hlocks hT hv Q hQ ls hl
  obtain ⟨hP, hK, hE, hZ⟩ := hv
  have hown : s.vm.findClass RX6 = some m.cls := hown
  have hl : lv_has ls 2 [(0, .ref (ad 0)), (1, .int x)] := hl
  refine lv_aload_n hx hb dX6_requireFact_0 rfl (lv_at hl 0 rfl) ?_
  refine gf_X6_19 hx hb hts hown hK hP 0 rfl (v := .ref (ad 7)) rfl dX6_requireFact_1 ?_
  refine lv_iload_n hx hb dX6_requireFact_4 rfl (lv_at hl 1 rfl) ?_
  refine rZ_call (P := keptP S k ((I 3)) x) (va_runV (As := [.int x]) (rest := []) ⟨hx, hb, hml, hown, hts⟩ (c_X0_isKept l D cy ad I S x k hk hk8) (cw_X6_290 hts rfl rfl ⟨Nat.le_of_ble_eq_true rfl, Nat.le_of_ble_eq_true rfl⟩) (preVR (ci := 0) (q0 := 0) hK (hP.sub [7, 8, 9, 10, 11, 12, 13] rfl) rfl rfl) rfl rfl hl.1 rfl (lv_room (Nat.le_of_ble_eq_true rfl)) dX6_requireFact_5 ⟨Nat.le_of_ble_eq_true rfl, Nat.le_of_ble_eq_true rfl⟩) (fun b5_1 => ?_) (fun b5_1 => ?_)
  · refine lv_if_ne (tgt := 22) hx hb dX6_requireFact_8 (by decide) (fun _ => ?_) (fun c => absurd c (by decide))
    exact xV_ret hx hb hr hlocks dX6_requireFact_22 hQ b5_1 (Nat.le_of_ble_eq_true rfl) (Nat.le_of_ble_eq_true rfl)
  · refine lv_if_ne (tgt := 22) hx hb dX6_requireFact_8 (by decide) (fun c => absurd (by decide) c) (fun _ => ?_)
    exact thw_NSE (A := noA) (List.mem_of_getElem? (i := 12) rfl) hx hb hl0 hown hts hE hZ va_S.rf (hl.1.trans hml.symm) dX6_requireFact_11 dX6_requireFact_14 dX6_requireFact_15 dX6_requireFact_18 dX6_requireFact_21 hT (Nat.le_of_ble_eq_true rfl) (Nat.le_of_ble_eq_true rfl) (Nat.le_of_ble_eq_true rfl) (Nat.le_of_ble_eq_true rfl) hlocks (Nat.le_of_ble_eq_true rfl) (Nat.le_of_ble_eq_true rfl) (fun _ h => by cases h) hQ (fun t _ hz hk => ⟨(), trivial, ⟨rfl, b5_1⟩, hz, fun q hq _ => hk q hq⟩)
set_option maxHeartbeats 4000000 in
set_option maxRecDepth 100000 in
theorem c_X6_requireKnown (l : Launch) (hl0 : l.stackTraces = false) (D : va_G) (cy : Nat → ClassId) (ad : Nat → Nat) (I : AI) (S : AS) (z : Int32) : vx_Met l yX6_requireKnown (Cond.code yX6_requireKnown cX6_requireKnown 2 none :: wsL_law) ({ frames := 6, cells := 1, slots := 6, locals := 90 }) (va_Pc [.ref (ad 0), .int z] (rxB D cy (wC cy ad I S))) (rdV (¬ z = 0)) (xR (fun E => E = eNSE ∧ ¬ ¬ z = 0)) 1 6 noA := by
  refine enterX (cc := cX6_requireKnown) (by decide) (Nat.le_of_ble_eq_true rfl) ?_
  intro p e s m below meth c hx hb hr hml hown hts hlocks hT hv Q hQ ls hl
  obtain ⟨hP, hK, hE, hZ⟩ := hv
  have hown : s.vm.findClass RX6 = some m.cls := hown
  have hl : lv_has ls 2 [(0, .ref (ad 0)), (1, .int z)] := hl
  refine lv_iload_n hx hb dX6_requireKnown_0 rfl (lv_at hl 1 rfl) ?_
  refine lv_if_ne (tgt := 15) hx hb dX6_requireKnown_1 (by decide) (fun c1_1 => ?_) (fun c1_1 => ?_)
  · exact xV_ret hx hb hr hlocks dX6_requireKnown_15 hQ (by simp [c1_1]) (Nat.le_of_ble_eq_true rfl) (Nat.le_of_ble_eq_true rfl)
  · exact thw_NSE (A := noA) (List.mem_of_getElem? (i := 13) rfl) hx hb hl0 hown hts hE hZ va_S.rf (hl.1.trans hml.symm) dX6_requireKnown_4 dX6_requireKnown_7 dX6_requireKnown_8 dX6_requireKnown_11 dX6_requireKnown_14 hT (Nat.le_of_ble_eq_true rfl) (Nat.le_of_ble_eq_true rfl) (Nat.le_of_ble_eq_true rfl) (Nat.le_of_ble_eq_true rfl) hlocks (Nat.le_of_ble_eq_true rfl) (Nat.le_of_ble_eq_true rfl) (fun _ h => by cases h) hQ (fun t _ hz hk => ⟨(), trivial, ⟨rfl, by simp [c1_1]⟩, hz, fun q hq _ => hk q hq⟩)
