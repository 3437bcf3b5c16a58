theorem gf_X0_9 {p : Program} {l : Launch} {e : Env} {R : Room} {s : State} {m : MethodId} {args : Array Value} {below : List Frame} {meth : Method} {c : Code} {H : Heap} {locs : List Loc} {cells slots : Nat} {Q : State → Prop} {cc : ByteArray} {pc : Nat} {ls : Array Slot} {rest : List Value} {D : va_G} {cy : Nat → ClassId} {a : Nat} {ws : va_W} (hx : p.tables.exec = Jvm.exec) (hb : c.code = cc) (hts : ∀ w ∈ wsL_law, w.before args s = true) (hown : s.vm.findClass RX0 = some m.cls) (hK : va_K D clW (tyW cy) s) (hP : va_P D clW ws H) (q0 : Nat) {fs : List Value} (he : ws[q0]? = some (a, .inr (0, fs))) {v : Value} (hv : fs[0]? = some v) (hdg : decode cc pc = .ok (.getfield 9, 3)) (kk : W p l e R s m args below meth c H locs cells slots Q (F0 m (pc + 3) ls (v :: rest))) : W p l e R s m args below meth c H locs cells slots Q (F0 m pc ls (.ref a :: rest)) := va_get (own := RX0) (ref := RX0) (C := RX0) (T := TX0) (N := 8) (ci := 0) hx hb hts inlX0 hown hK hP q0 he rfl 0 (by decide) (hts _ wm_52) (fun _ h => h) hv hdg kk
theorem gf_X0_15 {p : Program} {l : Launch} {e : Env} {R : Room} {s : State} {m : MethodId} {args : Array Value} {below : List Frame} {meth : Method} {c : Code} {H : Heap} {locs : List Loc} {cells slots : Nat} {Q : State → Prop} {cc : ByteArray} {pc : Nat} {ls : Array Slot} {rest : List Value} {D : va_G} {cy : Nat → ClassId} {a : Nat} {ws : va_W} (hx : p.tables.exec = Jvm.exec) (hb : c.code = cc) (hts : ∀ w ∈ wsL_law, w.before args s = true) (hown : s.vm.findClass RX0 = some m.cls) (hK : va_K D clW (tyW cy) s) (hP : va_P D clW ws H) (q0 : Nat) {fs : List Value} (he : ws[q0]? = some (a, .inr (0, fs))) {v : Value} (hv : fs[1]? = some v) (hdg : decode cc pc = .ok (.getfield 15, 3)) (kk : W p l e R s m args below meth c H locs cells slots Q (F0 m (pc + 3) ls (v :: rest))) : W p l e R s m args below meth c H locs cells slots Q (F0 m pc ls (.ref a :: rest)) := va_get (own := RX0) (ref := RX0) (C := RX0) (T := TX0) (N := 8) (ci := 0) hx hb hts inlX0 hown hK hP q0 he rfl 1 (by decide) (hts _ wm_53) (fun _ h => h) hv hdg kk
theorem gf_X0_18 {p : Program} {l : Launch} {e : Env} {R : Room} {s : State} {m : MethodId} {args : Array Value} {below : List Frame} {meth : Method} {c : Code} {H : Heap} {locs : List Loc} {cells slots : Nat} {Q : State → Prop} {cc : ByteArray} {pc : Nat} {ls : Array Slot} {rest : List Value} {D : va_G} {cy : Nat → ClassId} {a : Nat} {ws : va_W} (hx : p.tables.exec = Jvm.exec) (hb : c.code = cc) (hts : ∀ w ∈ wsL_law, w.before args s = true) (hown : s.vm.findClass RX0 = some m.cls) (hK : va_K D clW (tyW cy) s) (hP : va_P D clW ws H) (q0 : Nat) {fs : List Value} (he : ws[q0]? = some (a, .inr (0, fs))) {v : Value} (hv : fs[2]? = some v) (hdg : decode cc pc = .ok (.getfield 18, 3)) (kk : W p l e R s m args below meth c H locs cells slots Q (F0 m (pc + 3) ls (v :: rest))) : W p l e R s m args below meth c H locs cells slots Q (F0 m pc ls (.ref a :: rest)) := va_get (own := RX0) (ref := RX0) (C := RX0) (T := TX0) (N := 8) (ci := 0) hx hb hts inlX0 hown hK hP q0 he rfl 2 (by decide) (hts _ wm_54) (fun _ h => h) hv hdg kk
theorem gf_X0_21 {p : Program} {l : Launch} {e : Env} {R : Room} {s : State} {m : MethodId} {args : Array Value} {below : List Frame} {meth : Method} {c : Code} {H : Heap} {locs : List Loc} {cells slots : Nat} {Q : State → Prop} {cc : ByteArray} {pc : Nat} {ls : Array Slot} {rest : List Value} {D : va_G} {cy : Nat → ClassId} {a : Nat} {ws : va_W} (hx : p.tables.exec = Jvm.exec) (hb : c.code = cc) (hts : ∀ w ∈ wsL_law, w.before args s = true) (hown : s.vm.findClass RX0 = some m.cls) (hK : va_K D clW (tyW cy) s) (hP : va_P D clW ws H) (q0 : Nat) {fs : List Value} (he : ws[q0]? = some (a, .inr (0, fs))) {v : Value} (hv : fs[3]? = some v) (hdg : decode cc pc = .ok (.getfield 21, 3)) (kk : W p l e R s m args below meth c H locs cells slots Q (F0 m (pc + 3) ls (v :: rest))) : W p l e R s m args below meth c H locs cells slots Q (F0 m pc ls (.ref a :: rest)) := va_get (own := RX0) (ref := RX0) (C := RX0) (T := TX0) (N := 8) (ci := 0) hx hb hts inlX0 hown hK hP q0 he rfl 3 (by decide) (hts _ wm_55) (fun _ h => h) hv hdg kk
theorem gf_X0_24 {p : Program} {l : Launch} {e : Env} {R : Room} {s : State} {m : MethodId} {args : Array Value} {below : List Frame} {meth : Method} {c : Code} {H : Heap} {locs : List Loc} {cells slots : Nat} {Q : State → Prop} {cc : ByteArray} {pc : Nat} {ls : Array Slot} {rest : List Value} {D : va_G} {cy : Nat → ClassId} {a : Nat} {ws : va_W} (hx : p.tables.exec = Jvm.exec) (hb : c.code = cc) (hts : ∀ w ∈ wsL_law, w.before args s = true) (hown : s.vm.findClass RX0 = some m.cls) (hK : va_K D clW (tyW cy) s) (hP : va_P D clW ws H) (q0 : Nat) {fs : List Value} (he : ws[q0]? = some (a, .inr (0, fs))) {v : Value} (hv : fs[4]? = some v) (hdg : decode cc pc = .ok (.getfield 24, 3)) (kk : W p l e R s m args below meth c H locs cells slots Q (F0 m (pc + 3) ls (v :: rest))) : W p l e R s m args below meth c H locs cells slots Q (F0 m pc ls (.ref a :: rest)) := va_get (own := RX0) (ref := RX0) (C := RX0) (T := TX0) (N := 8) (ci := 0) hx hb hts inlX0 hown hK hP q0 he rfl 4 (by decide) (hts _ wm_56) (fun _ h => h) hv hdg kk
theorem gf_X0_27 {p : Program} {l : Launch} {e : Env} {R : Room} {s : State} {m : MethodId} {args : Array Value} {below : List Frame} {meth : Method} {c : Code} {H : Heap} {locs : List Loc} {cells slots : Nat} {Q : State → Prop} {cc : ByteArray} {pc : Nat} {ls : Array Slot} {rest : List Value} {D : va_G} {cy : Nat → ClassId} {a : Nat} {ws : va_W} (hx : p.tables.exec = Jvm.exec) (hb : c.code = cc) (hts : ∀ w ∈ wsL_law, w.before args s = true) (hown : s.vm.findClass RX0 = some m.cls) (hK : va_K D clW (tyW cy) s) (hP : va_P D clW ws H) (q0 : Nat) {fs : List Value} (he : ws[q0]? = some (a, .inr (0, fs))) {v : Value} (hv : fs[5]? = some v) (hdg : decode cc pc = .ok (.getfield 27, 3)) (kk : W p l e R s m args below meth c H locs cells slots Q (F0 m (pc + 3) ls (v :: rest))) : W p l e R s m args below meth c H locs cells slots Q (F0 m pc ls (.ref a :: rest)) := va_get (own := RX0) (ref := RX0) (C := RX0) (T := TX0) (N := 8) (ci := 0) hx hb hts inlX0 hown hK hP q0 he rfl 5 (by decide) (hts _ wm_57) (fun _ h => h) hv hdg kk
theorem gf_X0_30 {p : Program} {l : Launch} {e : Env} {R : Room} {s : State} {m : MethodId} {args : Array Value} {below : List Frame} {meth : Method} {c : Code} {H : Heap} {locs : List Loc} {cells slots : Nat} {Q : State → Prop} {cc : ByteArray} {pc : Nat} {ls : Array Slot} {rest : List Value} {D : va_G} {cy : Nat → ClassId} {a : Nat} {ws : va_W} (hx : p.tables.exec = Jvm.exec) (hb : c.code = cc) (hts : ∀ w ∈ wsL_law, w.before args s = true) (hown : s.vm.findClass RX0 = some m.cls) (hK : va_K D clW (tyW cy) s) (hP : va_P D clW ws H) (q0 : Nat) {fs : List Value} (he : ws[q0]? = some (a, .inr (0, fs))) {v : Value} (hv : fs[6]? = some v) (hdg : decode cc pc = .ok (.getfield 30, 3)) (kk : W p l e R s m args below meth c H locs cells slots Q (F0 m (pc + 3) ls (v :: rest))) : W p l e R s m args below meth c H locs cells slots Q (F0 m pc ls (.ref a :: rest)) := va_get (own := RX0) (ref := RX0) (C := RX0) (T := TX0) (N := 8) (ci := 0) hx hb hts inlX0 hown hK hP q0 he rfl 6 (by decide) (hts _ wm_58) (fun _ h => h) hv hdg kk
theorem gf_X0_34 {p : Program} {l : Launch} {e : Env} {R : Room} {s : State} {m : MethodId} {args : Array Value} {below : List Frame} {meth : Method} {c : Code} {H : Heap} {locs : List Loc} {cells slots : Nat} {Q : State → Prop} {cc : ByteArray} {pc : Nat} {ls : Array Slot} {rest : List Value} {D : va_G} {cy : Nat → ClassId} {a : Nat} {ws : va_W} (hx : p.tables.exec = Jvm.exec) (hb : c.code = cc) (hts : ∀ w ∈ wsL_law, w.before args s = true) (hown : s.vm.findClass RX0 = some m.cls) (hK : va_K D clW (tyW cy) s) (hP : va_P D clW ws H) (q0 : Nat) {fs : List Value} (he : ws[q0]? = some (a, .inr (0, fs))) {v : Value} (hv : fs[7]? = some v) (hdg : decode cc pc = .ok (.getfield 34, 3)) (kk : W p l e R s m args below meth c H locs cells slots Q (F0 m (pc + 3) ls (v :: rest))) : W p l e R s m args below meth c H locs cells slots Q (F0 m pc ls (.ref a :: rest)) := va_get (own := RX0) (ref := RX0) (C := RX0) (T := TX0) (N := 8) (ci := 0) hx hb hts inlX0 hown hK hP q0 he rfl 7 (by decide) (hts _ wm_59) (fun _ h => h) hv hdg kk
theorem cw_X0_37 {R : Room} {s : State} {args : Array Value} {rm : Room} {mc ms : Nat} (hts : ∀ w ∈ wsL_law, w.before args s = true) (hrc : rm.cells = mc) (hrs : rm.slots = ms) (hR : rm.frames + 1 ≤ R.frames ∧ 8 + (6 + 11) + rm.locals ≤ R.locals) : CallW R s args RX0 RX0 37 yX0_daysWithin cX0_daysWithin 6 (some .int) (Cond.code yX0_daysWithin cX0_daysWithin 6 (some .int) :: wsL_law) rm mc ms 3 := cwV 3 hts (gUV wm_191 wm_192 wm_193 wm_18 wm_194) rfl hrc hrs (by decide +kernel) hR
theorem cw_X0_45 {R : Room} {s : State} {args : Array Value} {rm : Room} {mc ms : Nat} (hts : ∀ w ∈ wsL_law, w.before args s = true) (hrc : rm.cells = mc) (hrs : rm.slots = ms) (hR : rm.frames + 1 ≤ R.frames ∧ 8 + (2 + 11) + rm.locals ≤ R.locals) : CallW R s args RX0 RX0 45 yX0_firstDay cX0_firstDay 2 (some .int) (Cond.code yX0_firstDay cX0_firstDay 2 (some .int) :: wsL_law) rm mc ms 1 := cwV 1 hts (gUV wm_197 wm_198 wm_199 wm_18 wm_200) rfl hrc hrs (by decide +kernel) hR
theorem cw_X0_52 {R : Room} {s : State} {args : Array Value} {rm : Room} {mc ms : Nat} (hts : ∀ w ∈ wsL_law, w.before args s = true) (hrc : rm.cells = mc) (hrs : rm.slots = ms) (hR : rm.frames + 1 ≤ R.frames ∧ 8 + (2 + 11) + rm.locals ≤ R.locals) : CallW R s args RX0 RX0 52 yX0_dayAfter cX0_dayAfter 2 (some .int) (Cond.code yX0_dayAfter cX0_dayAfter 2 (some .int) :: wsL_law) rm mc ms 1 := cwV 1 hts (gUV wm_201 wm_202 wm_203 wm_18 wm_204) rfl hrc hrs (by decide +kernel) hR
theorem cw_X0_55 {R : Room} {s : State} {args : Array Value} {rm : Room} {mc ms : Nat} (hts : ∀ w ∈ wsL_law, w.before args s = true) (hrc : rm.cells = mc) (hrs : rm.slots = ms) (hR : rm.frames + 1 ≤ R.frames ∧ 8 + (3 + 11) + rm.locals ≤ R.locals) : CallW R s args RX0 RX0 55 yX0_isLive cX0_isLive 3 (some .boolean) (Cond.code yX0_isLive cX0_isLive 3 (some .boolean) :: wsL_law) rm mc ms 2 := cwV 2 hts (gUV wm_184 wm_185 wm_186 wm_18 wm_187) rfl hrc hrs (by decide +kernel) hR
theorem cw_X0_68 {R : Room} {s : State} {args : Array Value} {rm : Room} {mc ms : Nat} (hts : ∀ w ∈ wsL_law, w.before args s = true) (hrc : rm.cells = mc) (hrs : rm.slots = ms) (hR : rm.frames + 1 ≤ R.frames ∧ 8 + (2 + 11) + rm.locals ≤ R.locals) : CallW R s args RX0 RX0 68 yX0_isKept cX0_isKept 2 (some .boolean) (Cond.code yX0_isKept cX0_isKept 2 (some .boolean) :: wsL_law) rm mc ms 1 := cwV 1 hts (gUV wm_277 wm_278 wm_279 wm_18 wm_280) rfl hrc hrs (by decide +kernel) hR
theorem cw_X0_76 {R : Room} {s : State} {args : Array Value} {rm : Room} {mc ms : Nat} (hts : ∀ w ∈ wsL_law, w.before args s = true) (hrc : rm.cells = mc) (hrs : rm.slots = ms) (hR : rm.frames + 1 ≤ R.frames ∧ 8 + (2 + 11) + rm.locals ≤ R.locals) : CallB R s args RX0 76 yX0_cell cX0_cell 2 (some .int) (Cond.code yX0_cell cX0_cell 2 (some .int) :: wsL_law) rm mc ms 2 ∧ (Cond.static yX0_cell).before args s = true := va_cwS 2 hts (gUS wm_188 wm_189 wm_18 wm_190) rfl hrc hrs (by decide +kernel) hR
set_option maxHeartbeats 4000000 in
set_option maxRecDepth 100000 in
theorem c_X0_cell (l : Launch) (D : va_G) (cy : Nat → ClassId) (ad : Nat) (f : Nat → Int32) (i : Nat) (hi : i < 180) : Met l yX0_cell (Cond.code yX0_cell cX0_cell 2 (some .int) :: wsL_law) ({ frames := 0, cells := 0, slots := 0, locals := 0 }) (va_Pc [.ref ad, .int (nI i)] (rdB D cy [(ad, .inl (cy 1, 180, .inl f))])) (rdI (fun r => r = f i)) 0 0 noA := by
  refine enter (cc := cX0_cell) (by decide) (Nat.le_of_ble_eq_true rfl) ?_
  intro p e s m below meth c hx hb hr hml hown hts hlocks hin hv Q hQ ls hl
  obtain ⟨hP, hK⟩ := hv
  have hown : s.vm.findClass RX0 = some m.cls := hown
  have hl : lv_has ls 2 [(0, .ref ad), (1, .int (nI i))] := hl
  refine lv_iload_n hx hb dX0_cell_0 rfl (lv_at hl 1 rfl) ?_
  refine lv_if_lt (tgt := 16) hx hb dX0_cell_1 (by decide) (fun c => absurd c (nd_nlt (a := i) (b := 0) (by omega) (by omega) (by omega))) (fun _ => ?_)
  refine lv_iload_n hx hb dX0_cell_4 rfl (lv_at hl 1 rfl) ?_
  refine lv_aload_n hx hb dX0_cell_5 rfl (lv_at hl 0 rfl) ?_
  refine va_alen hx hb hK hP 0 1 rfl rfl (v := 180) rfl dX0_cell_6 ?_
  refine lv_icmp_ge (tgt := 16) hx hb dX0_cell_7 (by decide) (fun c => absurd c (nd_nle (a := 180) (b := i) (by omega) (by omega) (by omega))) (fun _ => ?_)
  refine lv_aload_n hx hb dX0_cell_10 rfl (lv_at hl 0 rfl) ?_
  refine lv_iload_n hx hb dX0_cell_11 rfl (lv_at hl 1 rfl) ?_
  refine ald_I (f := f) hx hb hK hP 0 rfl (i := i) (by omega) (by decide) dX0_cell_12 ?_
  refine lv_goto (tgt := 17) hx hb dX0_cell_13 (by decide) ?_
  exact rI_ret hx hb hr hlocks dX0_cell_17 hQ rfl
set_option maxHeartbeats 4000000 in
set_option maxRecDepth 100000 in
theorem c_X0_value (l : Launch) (D : va_G) (cy : Nat → ClassId) (ad : Nat → Nat) (I : AI) (S : AS) (i : Nat) (hi : i < 180) : Met l yX0_value (Cond.code yX0_value cX0_value 2 (some .int) :: wsL_law) ({ frames := 1, cells := 0, slots := 0, locals := 21 }) (va_Pc [.ref (ad 7), .int (nI i)] (rdB D cy (wF cy ad I S))) (rdI (fun r => r = S 9 i)) 0 0 noA := by
  refine enter (cc := cX0_value) (by decide) (Nat.le_of_ble_eq_true rfl) ?_
  intro p e s m below meth c hx hb hr hml hown hts hlocks hin hv Q hQ ls hl
  obtain ⟨hP, hK⟩ := hv
  have hown : s.vm.findClass RX0 = some m.cls := hown
  have hl : lv_has ls 2 [(0, .ref (ad 7)), (1, .int (nI i))] := hl
  refine lv_aload_n hx hb dX0_value_0 rfl (lv_at hl 0 rfl) ?_
  refine gf_X0_15 hx hb hts hown hK hP 0 rfl (v := .ref (ad 9)) rfl dX0_value_1 ?_
  refine lv_iload_n hx hb dX0_value_4 rfl (lv_at hl 1 rfl) ?_
  refine rI_call (va_runS (As := [.ref (ad 9), .int (nI i)]) (rest := []) ⟨hx, hb, hml, hown, hts⟩ (c_X0_cell l D cy (ad 9) (S 9) i hi) (cw_X0_76 hts rfl rfl ⟨Nat.le_of_ble_eq_true rfl, Nat.le_of_ble_eq_true rfl⟩) (preSR hK (hP.sub [2] rfl)) rfl rfl hl.1 rfl (lv_room (Nat.le_of_ble_eq_true rfl)) dX0_value_5 ⟨Nat.le_of_ble_eq_true rfl, Nat.le_of_ble_eq_true rfl⟩) (fun r hr_ => ?_)
  subst hr_
  exact rI_ret hx hb hr hlocks dX0_value_8 hQ rfl
set_option maxHeartbeats 4000000 in
set_option maxRecDepth 100000 in
theorem c_X0_firstDay (l : Launch) (D : va_G) (cy : Nat → ClassId) (ad : Nat → Nat) (I : AI) (S : AS) (i : Nat) (hi : i < 180) : Met l yX0_firstDay (Cond.code yX0_firstDay cX0_firstDay 2 (some .int) :: wsL_law) ({ frames := 1, cells := 0, slots := 0, locals := 21 }) (va_Pc [.ref (ad 7), .int (nI i)] (rdB D cy (wF cy ad I S))) (rdI (fun r => r = S 10 i)) 0 0 noA := by
  refine enter (cc := cX0_firstDay) (by decide) (Nat.le_of_ble_eq_true rfl) ?_
  intro p e s m below meth c hx hb hr hml hown hts hlocks hin hv Q hQ ls hl
  obtain ⟨hP, hK⟩ := hv
  have hown : s.vm.findClass RX0 = some m.cls := hown
  have hl : lv_has ls 2 [(0, .ref (ad 7)), (1, .int (nI i))] := hl
  refine lv_aload_n hx hb dX0_firstDay_0 rfl (lv_at hl 0 rfl) ?_
  refine gf_X0_18 hx hb hts hown hK hP 0 rfl (v := .ref (ad 10)) rfl dX0_firstDay_1 ?_
  refine lv_iload_n hx hb dX0_firstDay_4 rfl (lv_at hl 1 rfl) ?_
  refine rI_call (va_runS (As := [.ref (ad 10), .int (nI i)]) (rest := []) ⟨hx, hb, hml, hown, hts⟩ (c_X0_cell l D cy (ad 10) (S 10) i hi) (cw_X0_76 hts rfl rfl ⟨Nat.le_of_ble_eq_true rfl, Nat.le_of_ble_eq_true rfl⟩) (preSR hK (hP.sub [3] rfl)) rfl rfl hl.1 rfl (lv_room (Nat.le_of_ble_eq_true rfl)) dX0_firstDay_5 ⟨Nat.le_of_ble_eq_true rfl, Nat.le_of_ble_eq_true rfl⟩) (fun r hr_ => ?_)
  subst hr_
  exact rI_ret hx hb hr hlocks dX0_firstDay_8 hQ rfl
set_option maxHeartbeats 4000000 in
set_option maxRecDepth 100000 in
theorem c_X0_dayAfter (l : Launch) (D : va_G) (cy : Nat → ClassId) (ad : Nat → Nat) (I : AI) (S : AS) (i : Nat) (hi : i < 180) : Met l yX0_dayAfter (Cond.code yX0_dayAfter cX0_dayAfter 2 (some .int) :: wsL_law) ({ frames := 1, cells := 0, slots := 0, locals := 21 }) (va_Pc [.ref (ad 7), .int (nI i)] (rdB D cy (wF cy ad I S))) (rdI (fun r => r = S 11 i)) 0 0 noA := by
  refine enter (cc := cX0_dayAfter) (by decide) (Nat.le_of_ble_eq_true rfl) ?_
  intro p e s m below meth c hx hb hr hml hown hts hlocks hin hv Q hQ ls hl
  obtain ⟨hP, hK⟩ := hv
  have hown : s.vm.findClass RX0 = some m.cls := hown
  have hl : lv_has ls 2 [(0, .ref (ad 7)), (1, .int (nI i))] := hl
  refine lv_aload_n hx hb dX0_dayAfter_0 rfl (lv_at hl 0 rfl) ?_
  refine gf_X0_21 hx hb hts hown hK hP 0 rfl (v := .ref (ad 11)) rfl dX0_dayAfter_1 ?_
  refine lv_iload_n hx hb dX0_dayAfter_4 rfl (lv_at hl 1 rfl) ?_
  refine rI_call (va_runS (As := [.ref (ad 11), .int (nI i)]) (rest := []) ⟨hx, hb, hml, hown, hts⟩ (c_X0_cell l D cy (ad 11) (S 11) i hi) (cw_X0_76 hts rfl rfl ⟨Nat.le_of_ble_eq_true rfl, Nat.le_of_ble_eq_true rfl⟩) (preSR hK (hP.sub [4] rfl)) rfl rfl hl.1 rfl (lv_room (Nat.le_of_ble_eq_true rfl)) dX0_dayAfter_5 ⟨Nat.le_of_ble_eq_true rfl, Nat.le_of_ble_eq_true rfl⟩) (fun r hr_ => ?_)
  subst hr_
  exact rI_ret hx hb hr hlocks dX0_dayAfter_8 hQ rfl
set_option maxHeartbeats 4000000 in
set_option maxRecDepth 100000 in
theorem c_X0_opening (l : Launch) (D : va_G) (cy : Nat → ClassId) (ad : Nat → Nat) (I : AI) (S : AS) (i : Nat) (hi : i < 180) : Met l yX0_opening (Cond.code yX0_opening cX0_opening 2 (some .int) :: wsL_law) ({ frames := 1, cells := 0, slots := 0, locals := 21 }) (va_Pc [.ref (ad 7), .int (nI i)] (rdB D cy (wF cy ad I S))) (rdI (fun r => r = S 12 i)) 0 0 noA := by
  refine enter (cc := cX0_opening) (by decide) (Nat.le_of_ble_eq_true rfl) ?_
  intro p e s m below meth c hx hb hr hml hown hts hlocks hin hv Q hQ ls hl
  obtain ⟨hP, hK⟩ := hv
  have hown : s.vm.findClass RX0 = some m.cls := hown
  have hl : lv_has ls 2 [(0, .ref (ad 7)), (1, .int (nI i))] := hl
  refine lv_aload_n hx hb dX0_opening_0 rfl (lv_at hl 0 rfl) ?_
  refine gf_X0_24 hx hb hts hown hK hP 0 rfl (v := .ref (ad 12)) rfl dX0_opening_1 ?_
  refine lv_iload_n hx hb dX0_opening_4 rfl (lv_at hl 1 rfl) ?_
  refine rI_call (va_runS (As := [.ref (ad 12), .int (nI i)]) (rest := []) ⟨hx, hb, hml, hown, hts⟩ (c_X0_cell l D cy (ad 12) (S 12) i hi) (cw_X0_76 hts rfl rfl ⟨Nat.le_of_ble_eq_true rfl, Nat.le_of_ble_eq_true rfl⟩) (preSR hK (hP.sub [5] rfl)) rfl rfl hl.1 rfl (lv_room (Nat.le_of_ble_eq_true rfl)) dX0_opening_5 ⟨Nat.le_of_ble_eq_true rfl, Nat.le_of_ble_eq_true rfl⟩) (fun r hr_ => ?_)
  subst hr_
  exact rI_ret hx hb hr hlocks dX0_opening_8 hQ rfl
set_option maxHeartbeats 4000000 in
set_option maxRecDepth 100000 in
theorem c_X0_closing (l : Launch) (D : va_G) (cy : Nat → ClassId) (ad : Nat → Nat) (I : AI) (S : AS) (i : Nat) (hi : i < 180) : Met l yX0_closing (Cond.code yX0_closing cX0_closing 2 (some .int) :: wsL_law) ({ frames := 1, cells := 0, slots := 0, locals := 21 }) (va_Pc [.ref (ad 7), .int (nI i)] (rdB D cy (wF cy ad I S))) (rdI (fun r => r = S 13 i)) 0 0 noA := by
  refine enter (cc := cX0_closing) (by decide) (Nat.le_of_ble_eq_true rfl) ?_
  intro p e s m below meth c hx hb hr hml hown hts hlocks hin hv Q hQ ls hl
  obtain ⟨hP, hK⟩ := hv
  have hown : s.vm.findClass RX0 = some m.cls := hown
  have hl : lv_has ls 2 [(0, .ref (ad 7)), (1, .int (nI i))] := hl
  refine lv_aload_n hx hb dX0_closing_0 rfl (lv_at hl 0 rfl) ?_
  refine gf_X0_27 hx hb hts hown hK hP 0 rfl (v := .ref (ad 13)) rfl dX0_closing_1 ?_
  refine lv_iload_n hx hb dX0_closing_4 rfl (lv_at hl 1 rfl) ?_
  refine rI_call (va_runS (As := [.ref (ad 13), .int (nI i)]) (rest := []) ⟨hx, hb, hml, hown, hts⟩ (c_X0_cell l D cy (ad 13) (S 13) i hi) (cw_X0_76 hts rfl rfl ⟨Nat.le_of_ble_eq_true rfl, Nat.le_of_ble_eq_true rfl⟩) (preSR hK (hP.sub [6] rfl)) rfl rfl hl.1 rfl (lv_room (Nat.le_of_ble_eq_true rfl)) dX0_closing_5 ⟨Nat.le_of_ble_eq_true rfl, Nat.le_of_ble_eq_true rfl⟩) (fun r hr_ => ?_)
  subst hr_
  exact rI_ret hx hb hr hlocks dX0_closing_8 hQ rfl
set_option maxHeartbeats 4000000 in
set_option maxRecDepth 100000 in
theorem c_X0_daysWithin (l : Launch) (D : va_G) (cy : Nat → ClassId) (ad : Nat → Nat) (I : AI) (S : AS) (i : Nat) (a : Int32) (b : Int32) (hi : i < 180) : Met l yX0_daysWithin (Cond.code yX0_daysWithin cX0_daysWithin 6 (some .int) :: wsL_law) ({ frames := 2, cells := 0, slots := 0, locals := 42 }) (va_Pc [.ref (ad 7), .int (nI i), .int a, .int b] (rdB D cy (wF cy ad I S))) (rdI (fun r => r = dwI (S 10 i) (S 11 i) a b)) 0 0 noA := by
  refine enter (cc := cX0_daysWithin) (by decide) (Nat.le_of_ble_eq_true rfl) ?_
  intro p e s m below meth c hx hb hr hml hown hts hlocks hin hv Q hQ ls hl
  obtain ⟨hP, hK⟩ := hv
  have hown : s.vm.findClass RX0 = some m.cls := hown
  have hl : lv_has ls 6 [(0, .ref (ad 7)), (1, .int (nI i)), (2, .int a), (3, .int b)] := hl
  refine lv_aload_n hx hb dX0_daysWithin_0 rfl (lv_at hl 0 rfl) ?_
  refine lv_iload_n hx hb dX0_daysWithin_1 rfl (lv_at hl 1 rfl) ?_
  refine rI_call (va_runV (As := [.int (nI i)]) (rest := []) ⟨hx, hb, hml, hown, hts⟩ (c_X0_firstDay l D cy ad I S i hi) (cw_X0_45 hts rfl rfl ⟨Nat.le_of_ble_eq_true rfl, Nat.le_of_ble_eq_true rfl⟩) (preVR (ci := 0) (q0 := 0) hK hP rfl rfl) rfl rfl hl.1 rfl (lv_room (Nat.le_of_ble_eq_true rfl)) dX0_daysWithin_2 ⟨Nat.le_of_ble_eq_true rfl, Nat.le_of_ble_eq_true rfl⟩) (fun r hr_ => ?_)
  subst hr_
  refine top_eq (y := ((S 10) i)) rfl ?_
  refine lv_iload_n hx hb dX0_daysWithin_5 rfl (lv_at hl 2 rfl) ?_
  refine va_mmax hx hb (hml.trans hl.1.symm) hown (hts _ wm_195) (hts _ wm_125) (hts _ wm_112) (hts _ wm_126) (Nat.le_of_ble_eq_true rfl) (Nat.le_of_ble_eq_true rfl) (Nat.le_of_ble_eq_true rfl) (Nat.le_of_ble_eq_true rfl) dX0_daysWithin_6 ?_
  refine lv_istore (lv' := [(4, .int (imax ((S 10) i) a)), (0, .ref (ad 7)), (1, .int (nI i)), (2, .int a), (3, .int b)]) hx hb dX0_daysWithin_9 hl (by decide) rfl (fun ls hl => ?_)
  refine lv_aload_n hx hb dX0_daysWithin_11 rfl (lv_at hl 1 rfl) ?_
  refine lv_iload_n hx hb dX0_daysWithin_12 rfl (lv_at hl 2 rfl) ?_
  refine rI_call (va_runV (As := [.int (nI i)]) (rest := []) ⟨hx, hb, hml, hown, hts⟩ (c_X0_dayAfter l D cy ad I S i hi) (cw_X0_52 hts rfl rfl ⟨Nat.le_of_ble_eq_true rfl, Nat.le_of_ble_eq_true rfl⟩) (preVR (ci := 0) (q0 := 0) hK hP rfl rfl) rfl rfl hl.1 rfl (lv_room (Nat.le_of_ble_eq_true rfl)) dX0_daysWithin_13 ⟨Nat.le_of_ble_eq_true rfl, Nat.le_of_ble_eq_true rfl⟩) (fun r hr_ => ?_)
  subst hr_
  refine top_eq (y := ((S 11) i)) rfl ?_
  refine lv_iload_n hx hb dX0_daysWithin_16 rfl (lv_at hl 4 rfl) ?_
  refine va_mmin hx hb (hml.trans hl.1.symm) hown (hts _ wm_196) (hts _ wm_111) (hts _ wm_112) (hts _ wm_113) (Nat.le_of_ble_eq_true rfl) (Nat.le_of_ble_eq_true rfl) (Nat.le_of_ble_eq_true rfl) (Nat.le_of_ble_eq_true rfl) dX0_daysWithin_17 ?_
  refine lv_istore (lv' := [(5, .int (imin ((S 11) i) b)), (4, .int (imax ((S 10) i) a)), (0, .ref (ad 7)), (1, .int (nI i)), (2, .int a), (3, .int b)]) hx hb dX0_daysWithin_20 hl (by decide) rfl (fun ls hl => ?_)
  refine lv_iload hx hb dX0_daysWithin_22 (lv_at hl 0 rfl) ?_
  refine lv_iload hx hb dX0_daysWithin_24 (lv_at hl 1 rfl) ?_
  refine lv_isub hx hb dX0_daysWithin_26 ?_
  refine lv_iconst (v := 0) hx hb dX0_daysWithin_27 (by decide) ?_
  refine va_mmax hx hb (hml.trans hl.1.symm) hown (hts _ wm_195) (hts _ wm_125) (hts _ wm_112) (hts _ wm_126) (Nat.le_of_ble_eq_true rfl) (Nat.le_of_ble_eq_true rfl) (Nat.le_of_ble_eq_true rfl) (Nat.le_of_ble_eq_true rfl) dX0_daysWithin_28 ?_
  exact rI_ret hx hb hr hlocks dX0_daysWithin_31 hQ rfl
set_option maxHeartbeats 4000000 in
set_option maxRecDepth 100000 in
theorem c_X0_isLive (l : Launch) (D : va_G) (cy : Nat → ClassId) (ad : Nat → Nat) (I : AI) (S : AS) (i : Nat) (t : Int32) (hi : i < 180) : Met l yX0_isLive (Cond.code yX0_isLive cX0_isLive 3 (some .boolean) :: wsL_law) ({ frames := 1, cells := 0, slots := 0, locals := 21 }) (va_Pc [.ref (ad 7), .int (nI i), .int t] (rdB D cy (wF cy ad I S))) (rdI (fun r => r = if liveP (S 12 i) (S 13 i) t then 1 else 0)) 0 0 noA := by
  refine enter (cc := cX0_isLive) (by decide) (Nat.le_of_ble_eq_true rfl) ?_
  intro p e s m below meth c hx hb hr hml hown hts hlocks hin hv Q hQ ls hl
  obtain ⟨hP, hK⟩ := hv
  have hown : s.vm.findClass RX0 = some m.cls := hown
  have hl : lv_has ls 3 [(0, .ref (ad 7)), (1, .int (nI i)), (2, .int t)] := hl
  refine lv_aload_n hx hb dX0_isLive_0 rfl (lv_at hl 0 rfl) ?_
  refine gf_X0_24 hx hb hts hown hK hP 0 rfl (v := .ref (ad 12)) rfl dX0_isLive_1 ?_
  refine lv_iload_n hx hb dX0_isLive_4 rfl (lv_at hl 1 rfl) ?_
  refine rI_call (va_runS (As := [.ref (ad 12), .int (nI i)]) (rest := []) ⟨hx, hb, hml, hown, hts⟩ (c_X0_cell l D cy (ad 12) (S 12) i hi) (cw_X0_76 hts rfl rfl ⟨Nat.le_of_ble_eq_true rfl, Nat.le_of_ble_eq_true rfl⟩) (preSR hK (hP.sub [5] rfl)) rfl rfl hl.1 rfl (lv_room (Nat.le_of_ble_eq_true rfl)) dX0_isLive_5 ⟨Nat.le_of_ble_eq_true rfl, Nat.le_of_ble_eq_true rfl⟩) (fun r hr_ => ?_)
  subst hr_
  refine lv_iload_n hx hb dX0_isLive_8 rfl (lv_at hl 2 rfl) ?_
  refine lv_icmp_gt (tgt := 40) hx hb dX0_isLive_9 (by decide) (fun c9_1 => ?_) (fun c9_1 => ?_)
  · refine lv_iconst (v := 0) hx hb dX0_isLive_40 (by decide) ?_
    exact rZ_ret hx hb hr hlocks dX0_isLive_41 narZ0 hQ (by simp [liveP, c9_1])
  · refine lv_aload_n hx hb dX0_isLive_12 rfl (lv_at hl 0 rfl) ?_
    refine gf_X0_27 hx hb hts hown hK hP 0 rfl (v := .ref (ad 13)) rfl dX0_isLive_13 ?_
    refine lv_iload_n hx hb dX0_isLive_16 rfl (lv_at hl 1 rfl) ?_
    refine rI_call (va_runS (As := [.ref (ad 13), .int (nI i)]) (rest := []) ⟨hx, hb, hml, hown, hts⟩ (c_X0_cell l D cy (ad 13) (S 13) i hi) (cw_X0_76 hts rfl rfl ⟨Nat.le_of_ble_eq_true rfl, Nat.le_of_ble_eq_true rfl⟩) (preSR hK (hP.sub [6] rfl)) rfl rfl hl.1 rfl (lv_room (Nat.le_of_ble_eq_true rfl)) dX0_isLive_17 ⟨Nat.le_of_ble_eq_true rfl, Nat.le_of_ble_eq_true rfl⟩) (fun r hr_ => ?_)
    subst hr_
    refine lv_iconst (v := (-1)) hx hb dX0_isLive_20 (by decide) ?_
    refine lv_icmp_eq (tgt := 36) hx hb dX0_isLive_21 (by decide) (fun c21_2 => ?_) (fun c21_2 => ?_)
    · refine lv_iconst (v := 1) hx hb dX0_isLive_36 (by decide) ?_
      refine lv_goto (tgt := 41) hx hb dX0_isLive_37 (by decide) ?_
      exact rZ_ret hx hb hr hlocks dX0_isLive_41 narZ1 hQ (by simp [liveP, c9_1, c21_2])
    · refine lv_aload_n hx hb dX0_isLive_24 rfl (lv_at hl 0 rfl) ?_
      refine gf_X0_27 hx hb hts hown hK hP 0 rfl (v := .ref (ad 13)) rfl dX0_isLive_25 ?_
      refine lv_iload_n hx hb dX0_isLive_28 rfl (lv_at hl 1 rfl) ?_
      refine rI_call (va_runS (As := [.ref (ad 13), .int (nI i)]) (rest := []) ⟨hx, hb, hml, hown, hts⟩ (c_X0_cell l D cy (ad 13) (S 13) i hi) (cw_X0_76 hts rfl rfl ⟨Nat.le_of_ble_eq_true rfl, Nat.le_of_ble_eq_true rfl⟩) (preSR hK (hP.sub [6] rfl)) rfl rfl hl.1 rfl (lv_room (Nat.le_of_ble_eq_true rfl)) dX0_isLive_29 ⟨Nat.le_of_ble_eq_true rfl, Nat.le_of_ble_eq_true rfl⟩) (fun r hr_ => ?_)
      subst hr_
      refine lv_iload_n hx hb dX0_isLive_32 rfl (lv_at hl 2 rfl) ?_
      refine lv_icmp_le (tgt := 40) hx hb dX0_isLive_33 (by decide) (fun c33_3 => ?_) (fun c33_3 => ?_)
      · refine lv_iconst (v := 0) hx hb dX0_isLive_40 (by decide) ?_
        exact rZ_ret hx hb hr hlocks dX0_isLive_41 narZ0 hQ (by simp [liveP, c9_1, c21_2, c33_3])
      · refine lv_iconst (v := 1) hx hb dX0_isLive_36 (by decide) ?_
        refine lv_goto (tgt := 41) hx hb dX0_isLive_37 (by decide) ?_
        exact rZ_ret hx hb hr hlocks dX0_isLive_41 narZ1 hQ (by simp [liveP, c9_1, c21_2, c33_3])
set_option maxHeartbeats 4000000 in
set_option maxRecDepth 100000 in
theorem c_X0_oldestTick (l : Launch) (D : va_G) (cy : Nat → ClassId) (ad : Nat → Nat) (I : AI) (S : AS) : Met l yX0_oldestTick (Cond.code yX0_oldestTick cX0_oldestTick 1 (some .int) :: wsL_law) ({ frames := 0, cells := 0, slots := 0, locals := 0 }) (va_Pc [.ref (ad 7)] (rdB D cy (wF cy ad I S))) (rdI (fun r => r = I 3)) 0 0 noA := by
  refine enter (cc := cX0_oldestTick) (by decide) (Nat.le_of_ble_eq_true rfl) ?_
  intro p e s m below meth c hx hb hr hml hown hts hlocks hin hv Q hQ ls hl
  obtain ⟨hP, hK⟩ := hv
  have hown : s.vm.findClass RX0 = some m.cls := hown
  have hl : lv_has ls 1 [(0, .ref (ad 7))] := hl
  refine lv_aload_n hx hb dX0_oldestTick_0 rfl (lv_at hl 0 rfl) ?_
  refine gf_X0_34 hx hb hts hown hK hP 0 rfl (v := .int (I 3)) rfl dX0_oldestTick_1 ?_
  exact rI_ret hx hb hr hlocks dX0_oldestTick_4 hQ rfl
set_option maxHeartbeats 4000000 in
set_option maxRecDepth 100000 in
theorem c_X0_find (l : Launch) (D : va_G) (cy : Nat → ClassId) (ad : Nat → Nat) (I : AI) (S : AS) (sl : Int32) (d : Int32) (t : Int32) (k : Nat) (hk : I 2 = nI k) (hk8 : k ≤ 180) : Met l yX0_find (Cond.code yX0_find cX0_find 5 (some .int) :: wsL_law) ({ frames := 3, cells := 0, slots := 0, locals := 67 }) (va_Pc [.ref (ad 7), .int sl, .int d, .int t] (rdB D cy (wF cy ad I S))) (rdI (fndP S sl d t k)) 0 0 noA := by
  refine enter (cc := cX0_find) (by decide) (Nat.le_of_ble_eq_true rfl) ?_
  intro p e s m below meth c hx hb hr hml hown hts hlocks hin hv Q hQ ls hl
  obtain ⟨hP, hK⟩ := hv
  have hown : s.vm.findClass RX0 = some m.cls := hown
  have hl : lv_has ls 5 [(0, .ref (ad 7)), (1, .int sl), (2, .int d), (3, .int t)] := hl
  refine lv_iconst (v := 0) hx hb dX0_find_0 (by decide) ?_
  refine lv_istore (lv' := [(4, .int 0), (0, .ref (ad 7)), (1, .int sl), (2, .int d), (3, .int t)]) hx hb dX0_find_1 hl (by decide) rfl (fun ls hl => ?_)
  have L3 : ∀ (n_3 i : Nat), i ≤ k → k + 1 ≤ i + n_3 → (∀ j : Nat, j < i → ¬ hitP S sl d t j) → ∀ (ls : Array Slot), lv_has ls 5 [(4, .int (nI i)), (0, .ref (ad 7)), (1, .int sl), (2, .int d), (3, .int t)] → W p l e { frames := 3, cells := 0, slots := 0, locals := 67 } s m ([.ref (ad 7), .int sl, .int d, .int t] : List Value).toArray below meth c s.heap [] 0 0 Q (F0 m 3 ls []) := by
    clear hl
    intro n_3
    induction n_3 with
    | zero => intro i  hle_3 hn_3; exact absurd hn_3 (by omega)
    | succ n_3 ih3 =>
      intro i  hle_3 hn_3 hno  ls hl
      refine lv_iload hx hb dX0_find_3 (lv_at hl 0 rfl) ?_
      refine lv_aload_n hx hb dX0_find_5 rfl (lv_at hl 1 rfl) ?_
      refine gf_X0_30 hx hb hts hown hK hP 0 rfl (v := .int (I 2)) rfl dX0_find_6 ?_
      refine top_eq hk ?_
      refine lv_icmp_ge (tgt := 55) hx hb dX0_find_9 (by decide) (fun c9_1 => ?_) (fun c9_1 => ?_)
      · have f9_1 : k ≤ i := nt_le (a := k) (b := i) (by omega) (by omega) c9_1
        refine lv_iconst (v := (-1)) hx hb dX0_find_55 (by decide) ?_
        exact rI_ret hx hb hr hlocks dX0_find_56 hQ (Or.inr ⟨rfl, fun j hj => hno j (by omega)⟩)
      · have f9_1 : i < k := nt_nle (a := k) (b := i) (by omega) (by omega) c9_1
        refine lv_aload_n hx hb dX0_find_12 rfl (lv_at hl 1 rfl) ?_
        refine gf_X0_9 hx hb hts hown hK hP 0 rfl (v := .ref (ad 8)) rfl dX0_find_13 ?_
        refine lv_iload hx hb dX0_find_16 (lv_at hl 0 rfl) ?_
        refine ald_I (f := (S 8)) hx hb hK hP 1 rfl (i := i) (by omega) (by decide) dX0_find_18 ?_
        refine lv_iload_n hx hb dX0_find_19 rfl (lv_at hl 2 rfl) ?_
        refine lv_icmp_ne (tgt := 49) hx hb dX0_find_20 (by decide) (fun c20_2 => ?_) (fun c20_2 => ?_)
        · refine lv_iinc (v := (nI (i + 1))) (lv' := [(4, .int (nI (i + 1))), (0, .ref (ad 7)), (1, .int sl), (2, .int d), (3, .int t)]) hx hb dX0_find_49 hl (k := 0) rfl (nI_1 i) (by decide) rfl (fun ls hl => ?_)
          refine lv_goto (tgt := 3) hx hb dX0_find_52 (by decide) ?_
          exact ih3 (i + 1) (by omega) (by omega) (fun j hj => (Nat.lt_succ_iff_lt_or_eq.mp hj).elim (hno j) (fun h => by subst h; exact (fun h => by first | exact c20_2 h.1 | exact h.1 c20_2))) ls (lv_sub hl [0, 1, 2, 3, 4] rfl)
        · refine lv_aload_n hx hb dX0_find_23 rfl (lv_at hl 1 rfl) ?_
          refine lv_iload hx hb dX0_find_24 (lv_at hl 0 rfl) ?_
          refine lv_iload_n hx hb dX0_find_26 rfl (lv_at hl 4 rfl) ?_
          refine rZ_call (P := liveP ((S 12) i) ((S 13) i) t) (va_runV (As := [.int (nI i), .int t]) (rest := []) ⟨hx, hb, hml, hown, hts⟩ (c_X0_isLive l D cy ad I S i t (by omega)) (cw_X0_55 hts rfl rfl ⟨Nat.le_of_ble_eq_true rfl, Nat.le_of_ble_eq_true rfl⟩) (preVR (ci := 0) (q0 := 0) hK hP rfl rfl) rfl rfl hl.1 rfl (lv_room (Nat.le_of_ble_eq_true rfl)) dX0_find_27 ⟨Nat.le_of_ble_eq_true rfl, Nat.le_of_ble_eq_true rfl⟩) (fun b27_3 => ?_) (fun b27_3 => ?_)
          · refine lv_if_eq (tgt := 49) hx hb dX0_find_30 (by decide) (fun c => absurd c (by decide)) (fun _ => ?_)
            refine lv_aload_n hx hb dX0_find_33 rfl (lv_at hl 1 rfl) ?_
            refine lv_iload hx hb dX0_find_34 (lv_at hl 0 rfl) ?_
            refine lv_iload_n hx hb dX0_find_36 rfl (lv_at hl 3 rfl) ?_
            refine lv_iload_n hx hb dX0_find_37 rfl (lv_at hl 3 rfl) ?_
            refine lv_iconst (v := 1) hx hb dX0_find_38 (by decide) ?_
            refine lv_iadd hx hb dX0_find_39 ?_
            refine rI_call (va_runV (As := [.int (nI i), .int d, .int (d + 1)]) (rest := []) ⟨hx, hb, hml, hown, hts⟩ (c_X0_daysWithin l D cy ad I S i d (d + 1) (by omega)) (cw_X0_37 hts rfl rfl ⟨Nat.le_of_ble_eq_true rfl, Nat.le_of_ble_eq_true rfl⟩) (preVR (ci := 0) (q0 := 0) hK hP rfl rfl) rfl rfl hl.1 rfl (lv_room (Nat.le_of_ble_eq_true rfl)) dX0_find_40 ⟨Nat.le_of_ble_eq_true rfl, Nat.le_of_ble_eq_true rfl⟩) (fun r hr_ => ?_)
            subst hr_
            refine top_eq (y := (dwI ((S 10) i) ((S 11) i) d (d + 1))) rfl ?_
            refine lv_if_le (tgt := 49) hx hb dX0_find_43 (by decide) (fun c43_4 => ?_) (fun c43_4 => ?_)
            · refine lv_iinc (v := (nI (i + 1))) (lv' := [(4, .int (nI (i + 1))), (0, .ref (ad 7)), (1, .int sl), (2, .int d), (3, .int t)]) hx hb dX0_find_49 hl (k := 0) rfl (nI_1 i) (by decide) rfl (fun ls hl => ?_)
              refine lv_goto (tgt := 3) hx hb dX0_find_52 (by decide) ?_
              exact ih3 (i + 1) (by omega) (by omega) (fun j hj => (Nat.lt_succ_iff_lt_or_eq.mp hj).elim (hno j) (fun h => by subst h; exact (fun h => by first | exact c43_4 h.2.2 | exact h.2.2 c43_4))) ls (lv_sub hl [0, 1, 2, 3, 4] rfl)
            · refine lv_iload hx hb dX0_find_46 (lv_at hl 0 rfl) ?_
              exact rI_ret hx hb hr hlocks dX0_find_48 hQ (Or.inl ⟨i, by omega, rfl, ⟨c20_2, b27_3, c43_4⟩, hno⟩)
          · refine lv_if_eq (tgt := 49) hx hb dX0_find_30 (by decide) (fun _ => ?_) (fun c => absurd (by decide) c)
            refine lv_iinc (v := (nI (i + 1))) (lv' := [(4, .int (nI (i + 1))), (0, .ref (ad 7)), (1, .int sl), (2, .int d), (3, .int t)]) hx hb dX0_find_49 hl (k := 0) rfl (nI_1 i) (by decide) rfl (fun ls hl => ?_)
            refine lv_goto (tgt := 3) hx hb dX0_find_52 (by decide) ?_
            exact ih3 (i + 1) (by omega) (by omega) (fun j hj => (Nat.lt_succ_iff_lt_or_eq.mp hj).elim (hno j) (fun h => by subst h; exact (fun h => by first | exact b27_3 h.2.1 | exact h.2.1 b27_3))) ls (lv_sub hl [0, 1, 2, 3, 4] rfl)
  exact L3 (k + 1) 0 (by omega) (by omega) (fun j hj => absurd hj (Nat.not_lt_zero j)) ls (lv_sub hl [0, 1, 2, 3, 4] rfl)
set_option maxHeartbeats 4000000 in
set_option maxRecDepth 100000 in
theorem c_X0_countDays (l : Launch) (D : va_G) (cy : Nat → ClassId) (ad : Nat → Nat) (I : AI) (S : AS) (sl : Int32) (a : Int32) (b : Int32) (t : Int32) (k : Nat) (hk : I 2 = nI k) (hk8 : k ≤ 180) : Met l yX0_countDays (Cond.code yX0_countDays cX0_countDays 7 (some .int) :: wsL_law) ({ frames := 3, cells := 0, slots := 0, locals := 67 }) (va_Pc [.ref (ad 7), .int sl, .int a, .int b, .int t] (rdB D cy (wF cy ad I S))) (rdI (fun r => r = cdN S sl a b t k)) 0 0 noA := by
  refine enter (cc := cX0_countDays) (by decide) (Nat.le_of_ble_eq_true rfl) ?_
  intro p e s m below meth c hx hb hr hml hown hts hlocks hin hv Q hQ ls hl
  obtain ⟨hP, hK⟩ := hv
  have hown : s.vm.findClass RX0 = some m.cls := hown
  have hl : lv_has ls 7 [(0, .ref (ad 7)), (1, .int sl), (2, .int a), (3, .int b), (4, .int t)] := hl
  refine lv_iconst (v := 0) hx hb dX0_countDays_0 (by decide) ?_
  refine lv_istore (lv' := [(5, .int 0), (0, .ref (ad 7)), (1, .int sl), (2, .int a), (3, .int b), (4, .int t)]) hx hb dX0_countDays_1 hl (by decide) rfl (fun ls hl => ?_)
  refine lv_iconst (v := 0) hx hb dX0_countDays_3 (by decide) ?_
  refine lv_istore (lv' := [(6, .int 0), (5, .int 0), (0, .ref (ad 7)), (1, .int sl), (2, .int a), (3, .int b), (4, .int t)]) hx hb dX0_countDays_4 hl (by decide) rfl (fun ls hl => ?_)
  have L6 : ∀ (n_6 i : Nat), i ≤ k → k + 1 ≤ i + n_6 → ∀ (ls : Array Slot), lv_has ls 7 [(6, .int (nI i)), (5, .int (cdN S sl a b t i)), (0, .ref (ad 7)), (1, .int sl), (2, .int a), (3, .int b), (4, .int t)] → W p l e { frames := 3, cells := 0, slots := 0, locals := 67 } s m ([.ref (ad 7), .int sl, .int a, .int b, .int t] : List Value).toArray below meth c s.heap [] 0 0 Q (F0 m 6 ls []) := by
    clear hl
    intro n_6
    induction n_6 with
    | zero => intro i  hle_6 hn_6; exact absurd hn_6 (by omega)
    | succ n_6 ih6 =>
      intro i  hle_6 hn_6   ls hl
      refine lv_iload hx hb dX0_countDays_6 (lv_at hl 0 rfl) ?_
      refine lv_aload_n hx hb dX0_countDays_8 rfl (lv_at hl 2 rfl) ?_
      refine gf_X0_30 hx hb hts hown hK hP 0 rfl (v := .int (I 2)) rfl dX0_countDays_9 ?_
      refine top_eq hk ?_
      refine lv_icmp_ge (tgt := 56) hx hb dX0_countDays_12 (by decide) (fun c12_1 => ?_) (fun c12_1 => ?_)
      · have f12_1 : k ≤ i := nt_le (a := k) (b := i) (by omega) (by omega) c12_1
        refine lv_iload hx hb dX0_countDays_56 (lv_at hl 1 rfl) ?_
        exact rI_ret hx hb hr hlocks dX0_countDays_58 hQ (by rw [show i = k by omega])
      · have f12_1 : i < k := nt_nle (a := k) (b := i) (by omega) (by omega) c12_1
        refine lv_aload_n hx hb dX0_countDays_15 rfl (lv_at hl 2 rfl) ?_
        refine gf_X0_9 hx hb hts hown hK hP 0 rfl (v := .ref (ad 8)) rfl dX0_countDays_16 ?_
        refine lv_iload hx hb dX0_countDays_19 (lv_at hl 0 rfl) ?_
        refine ald_I (f := (S 8)) hx hb hK hP 1 rfl (i := i) (by omega) (by decide) dX0_countDays_21 ?_
        refine lv_iload_n hx hb dX0_countDays_22 rfl (lv_at hl 3 rfl) ?_
        refine lv_icmp_ne (tgt := 50) hx hb dX0_countDays_23 (by decide) (fun c23_2 => ?_) (fun c23_2 => ?_)
        · refine lv_iinc (v := (nI (i + 1))) (lv' := [(6, .int (nI (i + 1))), (5, .int (cdN S sl a b t i)), (0, .ref (ad 7)), (1, .int sl), (2, .int a), (3, .int b), (4, .int t)]) hx hb dX0_countDays_50 hl (k := 0) rfl (nI_1 i) (by decide) rfl (fun ls hl => ?_)
          refine lv_goto (tgt := 6) hx hb dX0_countDays_53 (by decide) ?_
          have e_3 : (cdN S sl a b t i) = (cdN S sl a b t (i + 1)) := (if_neg (fun h => by first | exact c23_2 h.1 | exact h.1 c23_2)).symm
          have hl : lv_has ls 7 [(6, .int (nI (i + 1))), (5, .int (cdN S sl a b t (i + 1))), (0, .ref (ad 7)), (1, .int sl), (2, .int a), (3, .int b), (4, .int t)] := by rw [← e_3]; exact hl
          exact ih6 (i + 1) (by omega) (by omega) ls (lv_sub hl [0, 1, 2, 3, 4, 5, 6] rfl)
        · refine lv_aload_n hx hb dX0_countDays_26 rfl (lv_at hl 2 rfl) ?_
          refine lv_iload hx hb dX0_countDays_27 (lv_at hl 0 rfl) ?_
          refine lv_iload hx hb dX0_countDays_29 (lv_at hl 6 rfl) ?_
          refine rZ_call (P := liveP ((S 12) i) ((S 13) i) t) (va_runV (As := [.int (nI i), .int t]) (rest := []) ⟨hx, hb, hml, hown, hts⟩ (c_X0_isLive l D cy ad I S i t (by omega)) (cw_X0_55 hts rfl rfl ⟨Nat.le_of_ble_eq_true rfl, Nat.le_of_ble_eq_true rfl⟩) (preVR (ci := 0) (q0 := 0) hK hP rfl rfl) rfl rfl hl.1 rfl (lv_room (Nat.le_of_ble_eq_true rfl)) dX0_countDays_31 ⟨Nat.le_of_ble_eq_true rfl, Nat.le_of_ble_eq_true rfl⟩) (fun b31_4 => ?_) (fun b31_4 => ?_)
          · refine lv_if_eq (tgt := 50) hx hb dX0_countDays_34 (by decide) (fun c => absurd c (by decide)) (fun _ => ?_)
            refine lv_iload hx hb dX0_countDays_37 (lv_at hl 1 rfl) ?_
            refine lv_aload_n hx hb dX0_countDays_39 rfl (lv_at hl 2 rfl) ?_
            refine lv_iload hx hb dX0_countDays_40 (lv_at hl 0 rfl) ?_
            refine lv_iload_n hx hb dX0_countDays_42 rfl (lv_at hl 4 rfl) ?_
            refine lv_iload_n hx hb dX0_countDays_43 rfl (lv_at hl 5 rfl) ?_
            refine rI_call (va_runV (As := [.int (nI i), .int a, .int b]) (rest := [.int (cdN S sl a b t i)]) ⟨hx, hb, hml, hown, hts⟩ (c_X0_daysWithin l D cy ad I S i a b (by omega)) (cw_X0_37 hts rfl rfl ⟨Nat.le_of_ble_eq_true rfl, Nat.le_of_ble_eq_true rfl⟩) (preVR (ci := 0) (q0 := 0) hK hP rfl rfl) rfl rfl hl.1 rfl (lv_room (Nat.le_of_ble_eq_true rfl)) dX0_countDays_44 ⟨Nat.le_of_ble_eq_true rfl, Nat.le_of_ble_eq_true rfl⟩) (fun r hr_ => ?_)
            subst hr_
            refine top_eq (y := (dwI ((S 10) i) ((S 11) i) a b)) rfl ?_
            refine lv_iadd hx hb dX0_countDays_47 ?_
            refine lv_istore (lv' := [(5, .int ((cdN S sl a b t i) + (dwI ((S 10) i) ((S 11) i) a b))), (6, .int (nI i)), (0, .ref (ad 7)), (1, .int sl), (2, .int a), (3, .int b), (4, .int t)]) hx hb dX0_countDays_48 hl (by decide) rfl (fun ls hl => ?_)
            refine lv_iinc (v := (nI (i + 1))) (lv' := [(6, .int (nI (i + 1))), (5, .int ((cdN S sl a b t i) + (dwI ((S 10) i) ((S 11) i) a b))), (0, .ref (ad 7)), (1, .int sl), (2, .int a), (3, .int b), (4, .int t)]) hx hb dX0_countDays_50 hl (k := 1) rfl (nI_1 i) (by decide) rfl (fun ls hl => ?_)
            refine lv_goto (tgt := 6) hx hb dX0_countDays_53 (by decide) ?_
            have e_5 : ((cdN S sl a b t i) + (dwI ((S 10) i) ((S 11) i) a b)) = (cdN S sl a b t (i + 1)) := (if_pos ⟨c23_2, b31_4⟩).symm
            have hl : lv_has ls 7 [(6, .int (nI (i + 1))), (5, .int (cdN S sl a b t (i + 1))), (0, .ref (ad 7)), (1, .int sl), (2, .int a), (3, .int b), (4, .int t)] := by rw [← e_5]; exact hl
            exact ih6 (i + 1) (by omega) (by omega) ls (lv_sub hl [0, 1, 2, 3, 4, 5, 6] rfl)
          · refine lv_if_eq (tgt := 50) hx hb dX0_countDays_34 (by decide) (fun _ => ?_) (fun c => absurd (by decide) c)
            refine lv_iinc (v := (nI (i + 1))) (lv' := [(6, .int (nI (i + 1))), (5, .int (cdN S sl a b t i)), (0, .ref (ad 7)), (1, .int sl), (2, .int a), (3, .int b), (4, .int t)]) hx hb dX0_countDays_50 hl (k := 0) rfl (nI_1 i) (by decide) rfl (fun ls hl => ?_)
            refine lv_goto (tgt := 6) hx hb dX0_countDays_53 (by decide) ?_
            have e_6 : (cdN S sl a b t i) = (cdN S sl a b t (i + 1)) := (if_neg (fun h => by first | exact b31_4 h.2 | exact h.2 b31_4)).symm
            have hl : lv_has ls 7 [(6, .int (nI (i + 1))), (5, .int (cdN S sl a b t (i + 1))), (0, .ref (ad 7)), (1, .int sl), (2, .int a), (3, .int b), (4, .int t)] := by rw [← e_6]; exact hl
            exact ih6 (i + 1) (by omega) (by omega) ls (lv_sub hl [0, 1, 2, 3, 4, 5, 6] rfl)
  exact L6 (k + 1) 0 (by omega) (by omega) ls (lv_sub hl [0, 1, 2, 3, 4, 5, 6] rfl)
set_option maxHeartbeats 4000000 in
set_option maxRecDepth 100000 in
theorem c_X0_isKept (l : Launch) (D : va_G) (cy : Nat → ClassId) (ad : Nat → Nat) (I : AI) (S : AS) (x : Int32) (k : Nat) (hk : I 2 = nI k) (hk8 : k ≤ 180) : Met l yX0_isKept (Cond.code yX0_isKept cX0_isKept 2 (some .boolean) :: wsL_law) ({ frames := 0, cells := 0, slots := 0, locals := 0 }) (va_Pc [.ref (ad 7), .int x] (rdB D cy (wF cy ad I S))) (rdI (fun r => r = if keptP S k (I 3) x then 1 else 0)) 0 0 noA := by
  refine enter (cc := cX0_isKept) (by decide) (Nat.le_of_ble_eq_true rfl) ?_
  intro p e s m below meth c hx hb hr hml hown hts hlocks hin hv Q hQ ls hl
  obtain ⟨hP, hK⟩ := hv
  have hown : s.vm.findClass RX0 = some m.cls := hown
  have hl : lv_has ls 2 [(0, .ref (ad 7)), (1, .int x)] := hl
  refine lv_iload_n hx hb dX0_isKept_0 rfl (lv_at hl 1 rfl) ?_
  refine lv_if_lt (tgt := 39) hx hb dX0_isKept_1 (by decide) (fun c1_1 => ?_) (fun c1_1 => ?_)
  · refine lv_iconst (v := 0) hx hb dX0_isKept_39 (by decide) ?_
    exact rZ_ret hx hb hr hlocks dX0_isKept_40 narZ0 hQ (by simp [keptP, c1_1])
  · refine lv_iload_n hx hb dX0_isKept_4 rfl (lv_at hl 1 rfl) ?_
    refine lv_aload_n hx hb dX0_isKept_5 rfl (lv_at hl 0 rfl) ?_
    refine gf_X0_30 hx hb hts hown hK hP 0 rfl (v := .int (I 2)) rfl dX0_isKept_6 ?_
    refine top_eq hk ?_
    refine lv_icmp_ge (tgt := 39) hx hb dX0_isKept_9 (by decide) (fun c9_2 => ?_) (fun c9_2 => ?_)
    · refine lv_iconst (v := 0) hx hb dX0_isKept_39 (by decide) ?_
      exact rZ_ret hx hb hr hlocks dX0_isKept_40 narZ0 hQ (by simp [keptP, c1_1, c9_2])
    · refine lv_aload_n hx hb dX0_isKept_12 rfl (lv_at hl 0 rfl) ?_
      refine gf_X0_27 hx hb hts hown hK hP 0 rfl (v := .ref (ad 13)) rfl dX0_isKept_13 ?_
      refine lv_iload_n hx hb dX0_isKept_16 rfl (lv_at hl 1 rfl) ?_
      refine ald_Ix (f := (S 13)) hx hb hK hP 6 rfl (vpi_of c1_1 c9_2 hk8 (by decide)) dX0_isKept_17 ?_
      refine lv_iconst (v := (-1)) hx hb dX0_isKept_18 (by decide) ?_
      refine lv_icmp_eq (tgt := 35) hx hb dX0_isKept_19 (by decide) (fun c19_3 => ?_) (fun c19_3 => ?_)
      · refine lv_iconst (v := 1) hx hb dX0_isKept_35 (by decide) ?_
        refine lv_goto (tgt := 40) hx hb dX0_isKept_36 (by decide) ?_
        exact rZ_ret hx hb hr hlocks dX0_isKept_40 narZ1 hQ (by simp [keptP, c1_1, c9_2, c19_3])
      · refine lv_aload_n hx hb dX0_isKept_22 rfl (lv_at hl 0 rfl) ?_
        refine gf_X0_27 hx hb hts hown hK hP 0 rfl (v := .ref (ad 13)) rfl dX0_isKept_23 ?_
        refine lv_iload_n hx hb dX0_isKept_26 rfl (lv_at hl 1 rfl) ?_
        refine ald_Ix (f := (S 13)) hx hb hK hP 6 rfl (vpi_of c1_1 c9_2 hk8 (by decide)) dX0_isKept_27 ?_
        refine lv_aload_n hx hb dX0_isKept_28 rfl (lv_at hl 0 rfl) ?_
        refine gf_X0_34 hx hb hts hown hK hP 0 rfl (v := .int (I 3)) rfl dX0_isKept_29 ?_
        refine lv_icmp_le (tgt := 39) hx hb dX0_isKept_32 (by decide) (fun c32_4 => ?_) (fun c32_4 => ?_)
        · refine lv_iconst (v := 0) hx hb dX0_isKept_39 (by decide) ?_
          exact rZ_ret hx hb hr hlocks dX0_isKept_40 narZ0 hQ (by simp [keptP, c1_1, c9_2, c19_3, c32_4])
        · refine lv_iconst (v := 1) hx hb dX0_isKept_35 (by decide) ?_
          refine lv_goto (tgt := 40) hx hb dX0_isKept_36 (by decide) ?_
          exact rZ_ret hx hb hr hlocks dX0_isKept_40 narZ1 hQ (by simp [keptP, c1_1, c9_2, c19_3, c32_4])
set_option maxHeartbeats 4000000 in
set_option maxRecDepth 100000 in
theorem c_X0_countKept (l : Launch) (D : va_G) (cy : Nat → ClassId) (ad : Nat → Nat) (I : AI) (S : AS) (k : Nat) (hk : I 2 = nI k) (hk8 : k ≤ 180) : Met l yX0_countKept (Cond.code yX0_countKept cX0_countKept 3 (some .int) :: wsL_law) ({ frames := 1, cells := 0, slots := 0, locals := 21 }) (va_Pc [.ref (ad 7)] (rdB D cy (wF cy ad I S))) (rdI (fun r => r = ckN S k (I 3) k)) 0 0 noA := by
  refine enter (cc := cX0_countKept) (by decide) (Nat.le_of_ble_eq_true rfl) ?_
  intro p e s m below meth c hx hb hr hml hown hts hlocks hin hv Q hQ ls hl
  obtain ⟨hP, hK⟩ := hv
  have hown : s.vm.findClass RX0 = some m.cls := hown
  have hl : lv_has ls 3 [(0, .ref (ad 7))] := hl
  refine lv_iconst (v := 0) hx hb dX0_countKept_0 (by decide) ?_
  refine lv_istore_n (lv' := [(1, .int 0), (0, .ref (ad 7))]) hx hb dX0_countKept_1 rfl hl (by decide) rfl (fun ls hl => ?_)
  refine lv_iconst (v := 0) hx hb dX0_countKept_2 (by decide) ?_
  refine lv_istore_n (lv' := [(2, .int 0), (1, .int 0), (0, .ref (ad 7))]) hx hb dX0_countKept_3 rfl hl (by decide) rfl (fun ls hl => ?_)
  have L4 : ∀ (n_4 i : Nat), i ≤ k → k + 1 ≤ i + n_4 → ∀ (ls : Array Slot), lv_has ls 3 [(2, .int (nI i)), (1, .int (ckN S k (I 3) i)), (0, .ref (ad 7))] → W p l e { frames := 1, cells := 0, slots := 0, locals := 21 } s m ([.ref (ad 7)] : List Value).toArray below meth c s.heap [] 0 0 Q (F0 m 4 ls []) := by
    clear hl
    intro n_4
    induction n_4 with
    | zero => intro i  hle_4 hn_4; exact absurd hn_4 (by omega)
    | succ n_4 ih4 =>
      intro i  hle_4 hn_4   ls hl
      refine lv_iload_n hx hb dX0_countKept_4 rfl (lv_at hl 0 rfl) ?_
      refine lv_aload_n hx hb dX0_countKept_5 rfl (lv_at hl 2 rfl) ?_
      refine gf_X0_30 hx hb hts hown hK hP 0 rfl (v := .int (I 2)) rfl dX0_countKept_6 ?_
      refine top_eq hk ?_
      refine lv_icmp_ge (tgt := 34) hx hb dX0_countKept_9 (by decide) (fun c9_1 => ?_) (fun c9_1 => ?_)
      · have f9_1 : k ≤ i := nt_le (a := k) (b := i) (by omega) (by omega) c9_1
        refine lv_iload_n hx hb dX0_countKept_34 rfl (lv_at hl 1 rfl) ?_
        exact rI_ret hx hb hr hlocks dX0_countKept_35 hQ (by rw [show i = k by omega])
      · have f9_1 : i < k := nt_nle (a := k) (b := i) (by omega) (by omega) c9_1
        refine lv_iload_n hx hb dX0_countKept_12 rfl (lv_at hl 1 rfl) ?_
        refine lv_aload_n hx hb dX0_countKept_13 rfl (lv_at hl 2 rfl) ?_
        refine lv_iload_n hx hb dX0_countKept_14 rfl (lv_at hl 0 rfl) ?_
        refine rZ_call (P := keptP S k ((I 3)) (nI i)) (va_runV (As := [.int (nI i)]) (rest := [.int (ckN S k (I 3) i)]) ⟨hx, hb, hml, hown, hts⟩ (c_X0_isKept l D cy ad I S (nI i) k hk hk8) (cw_X0_68 hts rfl rfl ⟨Nat.le_of_ble_eq_true rfl, Nat.le_of_ble_eq_true rfl⟩) (preVR (ci := 0) (q0 := 0) hK hP rfl rfl) rfl rfl hl.1 rfl (lv_room (Nat.le_of_ble_eq_true rfl)) dX0_countKept_15 ⟨Nat.le_of_ble_eq_true rfl, Nat.le_of_ble_eq_true rfl⟩) (fun b15_2 => ?_) (fun b15_2 => ?_)
        · refine lv_if_eq (tgt := 25) hx hb dX0_countKept_18 (by decide) (fun c => absurd c (by decide)) (fun _ => ?_)
          refine lv_iconst (v := 1) hx hb dX0_countKept_21 (by decide) ?_
          refine lv_goto (tgt := 26) hx hb dX0_countKept_22 (by decide) ?_
          refine lv_iadd hx hb dX0_countKept_26 ?_
          refine lv_istore_n (lv' := [(1, .int ((ckN S k (I 3) i) + 1)), (2, .int (nI i)), (0, .ref (ad 7))]) hx hb dX0_countKept_27 rfl hl (by decide) rfl (fun ls hl => ?_)
          refine lv_iinc (v := (nI (i + 1))) (lv' := [(2, .int (nI (i + 1))), (1, .int ((ckN S k (I 3) i) + 1)), (0, .ref (ad 7))]) hx hb dX0_countKept_28 hl (k := 1) rfl (nI_1 i) (by decide) rfl (fun ls hl => ?_)
          refine lv_goto (tgt := 4) hx hb dX0_countKept_31 (by decide) ?_
          have e_3 : ((ckN S k (I 3) i) + 1) = (ckN S k (I 3) (i + 1)) := (by rw [ckN, if_pos b15_2])
          have hl : lv_has ls 3 [(2, .int (nI (i + 1))), (1, .int (ckN S k (I 3) (i + 1))), (0, .ref (ad 7))] := by rw [← e_3]; exact hl
          exact ih4 (i + 1) (by omega) (by omega) ls (lv_sub hl [0, 1, 2] rfl)
        · refine lv_if_eq (tgt := 25) hx hb dX0_countKept_18 (by decide) (fun _ => ?_) (fun c => absurd (by decide) c)
          refine lv_iconst (v := 0) hx hb dX0_countKept_25 (by decide) ?_
          refine lv_iadd hx hb dX0_countKept_26 ?_
          refine lv_istore_n (lv' := [(1, .int ((ckN S k (I 3) i) + 0)), (2, .int (nI i)), (0, .ref (ad 7))]) hx hb dX0_countKept_27 rfl hl (by decide) rfl (fun ls hl => ?_)
          refine lv_iinc (v := (nI (i + 1))) (lv' := [(2, .int (nI (i + 1))), (1, .int ((ckN S k (I 3) i) + 0)), (0, .ref (ad 7))]) hx hb dX0_countKept_28 hl (k := 1) rfl (nI_1 i) (by decide) rfl (fun ls hl => ?_)
          refine lv_goto (tgt := 4) hx hb dX0_countKept_31 (by decide) ?_
          have e_4 : ((ckN S k (I 3) i) + 0) = (ckN S k (I 3) (i + 1)) := (by rw [ckN, if_neg (fun h => by first | exact b15_2 h | exact h b15_2)])
          have hl : lv_has ls 3 [(2, .int (nI (i + 1))), (1, .int (ckN S k (I 3) (i + 1))), (0, .ref (ad 7))] := by rw [← e_4]; exact hl
          exact ih4 (i + 1) (by omega) (by omega) ls (lv_sub hl [0, 1, 2] rfl)
  exact L4 (k + 1) 0 (by omega) (by omega) ls (lv_sub hl [0, 1, 2] rfl)
set_option maxHeartbeats 4000000 in
set_option maxRecDepth 100000 in
theorem c_X0_countOpen (l : Launch) (D : va_G) (cy : Nat → ClassId) (ad : Nat → Nat) (I : AI) (S : AS) (k : Nat) (hk : I 2 = nI k) (hk8 : k ≤ 180) : Met l yX0_countOpen (Cond.code yX0_countOpen cX0_countOpen 3 (some .int) :: wsL_law) ({ frames := 0, cells := 0, slots := 0, locals := 0 }) (va_Pc [.ref (ad 7)] (rdB D cy (wF cy ad I S))) (rdI (fun r => r = coN S k)) 0 0 noA := by
  refine enter (cc := cX0_countOpen) (by decide) (Nat.le_of_ble_eq_true rfl) ?_
  intro p e s m below meth c hx hb hr hml hown hts hlocks hin hv Q hQ ls hl
  obtain ⟨hP, hK⟩ := hv
  have hown : s.vm.findClass RX0 = some m.cls := hown
  have hl : lv_has ls 3 [(0, .ref (ad 7))] := hl
  refine lv_iconst (v := 0) hx hb dX0_countOpen_0 (by decide) ?_
  refine lv_istore_n (lv' := [(1, .int 0), (0, .ref (ad 7))]) hx hb dX0_countOpen_1 rfl hl (by decide) rfl (fun ls hl => ?_)
  refine lv_iconst (v := 0) hx hb dX0_countOpen_2 (by decide) ?_
  refine lv_istore_n (lv' := [(2, .int 0), (1, .int 0), (0, .ref (ad 7))]) hx hb dX0_countOpen_3 rfl hl (by decide) rfl (fun ls hl => ?_)
  have L4 : ∀ (n_4 i : Nat), i ≤ k → k + 1 ≤ i + n_4 → ∀ (ls : Array Slot), lv_has ls 3 [(2, .int (nI i)), (1, .int (coN S i)), (0, .ref (ad 7))] → W p l e { frames := 0, cells := 0, slots := 0, locals := 0 } s m ([.ref (ad 7)] : List Value).toArray below meth c s.heap [] 0 0 Q (F0 m 4 ls []) := by
    clear hl
    intro n_4
    induction n_4 with
    | zero => intro i  hle_4 hn_4; exact absurd hn_4 (by omega)
    | succ n_4 ih4 =>
      intro i  hle_4 hn_4   ls hl
      refine lv_iload_n hx hb dX0_countOpen_4 rfl (lv_at hl 0 rfl) ?_
      refine lv_aload_n hx hb dX0_countOpen_5 rfl (lv_at hl 2 rfl) ?_
      refine gf_X0_30 hx hb hts hown hK hP 0 rfl (v := .int (I 2)) rfl dX0_countOpen_6 ?_
      refine top_eq hk ?_
      refine lv_icmp_ge (tgt := 36) hx hb dX0_countOpen_9 (by decide) (fun c9_1 => ?_) (fun c9_1 => ?_)
      · have f9_1 : k ≤ i := nt_le (a := k) (b := i) (by omega) (by omega) c9_1
        refine lv_iload_n hx hb dX0_countOpen_36 rfl (lv_at hl 1 rfl) ?_
        exact rI_ret hx hb hr hlocks dX0_countOpen_37 hQ (by rw [show i = k by omega])
      · have f9_1 : i < k := nt_nle (a := k) (b := i) (by omega) (by omega) c9_1
        refine lv_iload_n hx hb dX0_countOpen_12 rfl (lv_at hl 1 rfl) ?_
        refine lv_aload_n hx hb dX0_countOpen_13 rfl (lv_at hl 2 rfl) ?_
        refine gf_X0_27 hx hb hts hown hK hP 0 rfl (v := .ref (ad 13)) rfl dX0_countOpen_14 ?_
        refine lv_iload_n hx hb dX0_countOpen_17 rfl (lv_at hl 0 rfl) ?_
        refine ald_I (f := (S 13)) hx hb hK hP 6 rfl (i := i) (by omega) (by decide) dX0_countOpen_18 ?_
        refine lv_iconst (v := (-1)) hx hb dX0_countOpen_19 (by decide) ?_
        refine lv_icmp_ne (tgt := 27) hx hb dX0_countOpen_20 (by decide) (fun c20_2 => ?_) (fun c20_2 => ?_)
        · refine lv_iconst (v := 0) hx hb dX0_countOpen_27 (by decide) ?_
          refine lv_iadd hx hb dX0_countOpen_28 ?_
          refine lv_istore_n (lv' := [(1, .int ((coN S i) + 0)), (2, .int (nI i)), (0, .ref (ad 7))]) hx hb dX0_countOpen_29 rfl hl (by decide) rfl (fun ls hl => ?_)
          refine lv_iinc (v := (nI (i + 1))) (lv' := [(2, .int (nI (i + 1))), (1, .int ((coN S i) + 0)), (0, .ref (ad 7))]) hx hb dX0_countOpen_30 hl (k := 1) rfl (nI_1 i) (by decide) rfl (fun ls hl => ?_)
          refine lv_goto (tgt := 4) hx hb dX0_countOpen_33 (by decide) ?_
          have e_3 : ((coN S i) + 0) = (coN S (i + 1)) := (by rw [coN, if_neg (fun h => by first | exact c20_2 h | exact h c20_2)])
          have hl : lv_has ls 3 [(2, .int (nI (i + 1))), (1, .int (coN S (i + 1))), (0, .ref (ad 7))] := by rw [← e_3]; exact hl
          exact ih4 (i + 1) (by omega) (by omega) ls (lv_sub hl [0, 1, 2] rfl)
        · refine lv_iconst (v := 1) hx hb dX0_countOpen_23 (by decide) ?_
          refine lv_goto (tgt := 28) hx hb dX0_countOpen_24 (by decide) ?_
          refine lv_iadd hx hb dX0_countOpen_28 ?_
          refine lv_istore_n (lv' := [(1, .int ((coN S i) + 1)), (2, .int (nI i)), (0, .ref (ad 7))]) hx hb dX0_countOpen_29 rfl hl (by decide) rfl (fun ls hl => ?_)
          refine lv_iinc (v := (nI (i + 1))) (lv' := [(2, .int (nI (i + 1))), (1, .int ((coN S i) + 1)), (0, .ref (ad 7))]) hx hb dX0_countOpen_30 hl (k := 1) rfl (nI_1 i) (by decide) rfl (fun ls hl => ?_)
          refine lv_goto (tgt := 4) hx hb dX0_countOpen_33 (by decide) ?_
          have e_4 : ((coN S i) + 1) = (coN S (i + 1)) := (by rw [coN, if_pos c20_2])
          have hl : lv_has ls 3 [(2, .int (nI (i + 1))), (1, .int (coN S (i + 1))), (0, .ref (ad 7))] := by rw [← e_4]; exact hl
          exact ih4 (i + 1) (by omega) (by omega) ls (lv_sub hl [0, 1, 2] rfl)
  exact L4 (k + 1) 0 (by omega) (by omega) ls (lv_sub hl [0, 1, 2] rfl)
