theorem gf_X3_9 {p : Program} {l : Launch} {e : Env} {R : Room} {s : State} {m : MethodId} {args : Array Value} {below : List Frame} {meth : Method} {c : Code} {H : Heap} {locs : List Loc} {cells slots : Nat} {Q : State → Prop} {cc : ByteArray} {pc : Nat} {ls : Array Slot} {rest : List Value} {D : va_G} {cy : Nat → ClassId} {a : Nat} {ws : va_W} (hx : p.tables.exec = Jvm.exec) (hb : c.code = cc) (hts : ∀ w ∈ wsL_law, w.before args s = true) (hown : s.vm.findClass RX3 = some m.cls) (hK : va_K D clW (tyW cy) s) (hP : va_P D clW ws H) (q0 : Nat) {fs : List Value} (he : ws[q0]? = some (a, .inr (3, fs))) {v : Value} (hv : fs[0]? = some v) (hdg : decode cc pc = .ok (.getfield 9, 3)) (kk : W p l e R s m args below meth c H locs cells slots Q (F0 m (pc + 3) ls (v :: rest))) : W p l e R s m args below meth c H locs cells slots Q (F0 m pc ls (.ref a :: rest)) := va_get (own := RX3) (ref := RX3) (C := RX3) (T := TX3) (N := 6) (ci := 3) hx hb hts inlX3 hown hK hP q0 he rfl 0 (by decide) (hts _ wm_42) (fun _ h => h) hv hdg kk
theorem gf_X3_15 {p : Program} {l : Launch} {e : Env} {R : Room} {s : State} {m : MethodId} {args : Array Value} {below : List Frame} {meth : Method} {c : Code} {H : Heap} {locs : List Loc} {cells slots : Nat} {Q : State → Prop} {cc : ByteArray} {pc : Nat} {ls : Array Slot} {rest : List Value} {D : va_G} {cy : Nat → ClassId} {a : Nat} {ws : va_W} (hx : p.tables.exec = Jvm.exec) (hb : c.code = cc) (hts : ∀ w ∈ wsL_law, w.before args s = true) (hown : s.vm.findClass RX3 = some m.cls) (hK : va_K D clW (tyW cy) s) (hP : va_P D clW ws H) (q0 : Nat) {fs : List Value} (he : ws[q0]? = some (a, .inr (3, fs))) {v : Value} (hv : fs[1]? = some v) (hdg : decode cc pc = .ok (.getfield 15, 3)) (kk : W p l e R s m args below meth c H locs cells slots Q (F0 m (pc + 3) ls (v :: rest))) : W p l e R s m args below meth c H locs cells slots Q (F0 m pc ls (.ref a :: rest)) := va_get (own := RX3) (ref := RX3) (C := RX3) (T := TX3) (N := 6) (ci := 3) hx hb hts inlX3 hown hK hP q0 he rfl 1 (by decide) (hts _ wm_44) (fun _ h => h) hv hdg kk
theorem gf_X3_19 {p : Program} {l : Launch} {e : Env} {R : Room} {s : State} {m : MethodId} {args : Array Value} {below : List Frame} {meth : Method} {c : Code} {H : Heap} {locs : List Loc} {cells slots : Nat} {Q : State → Prop} {cc : ByteArray} {pc : Nat} {ls : Array Slot} {rest : List Value} {D : va_G} {cy : Nat → ClassId} {a : Nat} {ws : va_W} (hx : p.tables.exec = Jvm.exec) (hb : c.code = cc) (hts : ∀ w ∈ wsL_law, w.before args s = true) (hown : s.vm.findClass RX3 = some m.cls) (hK : va_K D clW (tyW cy) s) (hP : va_P D clW ws H) (q0 : Nat) {fs : List Value} (he : ws[q0]? = some (a, .inr (3, fs))) {v : Value} (hv : fs[2]? = some v) (hdg : decode cc pc = .ok (.getfield 19, 3)) (kk : W p l e R s m args below meth c H locs cells slots Q (F0 m (pc + 3) ls (v :: rest))) : W p l e R s m args below meth c H locs cells slots Q (F0 m pc ls (.ref a :: rest)) := va_get (own := RX3) (ref := RX3) (C := RX3) (T := TX3) (N := 6) (ci := 3) hx hb hts inlX3 hown hK hP q0 he rfl 2 (by decide) (hts _ wm_45) (fun _ h => h) hv hdg kk
theorem gf_X3_22 {p : Program} {l : Launch} {e : Env} {R : Room} {s : State} {m : MethodId} {args : Array Value} {below : List Frame} {meth : Method} {c : Code} {H : Heap} {locs : List Loc} {cells slots : Nat} {Q : State → Prop} {cc : ByteArray} {pc : Nat} {ls : Array Slot} {rest : List Value} {D : va_G} {cy : Nat → ClassId} {a : Nat} {ws : va_W} (hx : p.tables.exec = Jvm.exec) (hb : c.code = cc) (hts : ∀ w ∈ wsL_law, w.before args s = true) (hown : s.vm.findClass RX3 = some m.cls) (hK : va_K D clW (tyW cy) s) (hP : va_P D clW ws H) (q0 : Nat) {fs : List Value} (he : ws[q0]? = some (a, .inr (3, fs))) {v : Value} (hv : fs[3]? = some v) (hdg : decode cc pc = .ok (.getfield 22, 3)) (kk : W p l e R s m args below meth c H locs cells slots Q (F0 m (pc + 3) ls (v :: rest))) : W p l e R s m args below meth c H locs cells slots Q (F0 m pc ls (.ref a :: rest)) := va_get (own := RX3) (ref := RX3) (C := RX3) (T := TX3) (N := 6) (ci := 3) hx hb hts inlX3 hown hK hP q0 he rfl 3 (by decide) (hts _ wm_46) (fun _ h => h) hv hdg kk
theorem gf_X3_25 {p : Program} {l : Launch} {e : Env} {R : Room} {s : State} {m : MethodId} {args : Array Value} {below : List Frame} {meth : Method} {c : Code} {H : Heap} {locs : List Loc} {cells slots : Nat} {Q : State → Prop} {cc : ByteArray} {pc : Nat} {ls : Array Slot} {rest : List Value} {D : va_G} {cy : Nat → ClassId} {a : Nat} {ws : va_W} (hx : p.tables.exec = Jvm.exec) (hb : c.code = cc) (hts : ∀ w ∈ wsL_law, w.before args s = true) (hown : s.vm.findClass RX3 = some m.cls) (hK : va_K D clW (tyW cy) s) (hP : va_P D clW ws H) (q0 : Nat) {fs : List Value} (he : ws[q0]? = some (a, .inr (3, fs))) {v : Value} (hv : fs[4]? = some v) (hdg : decode cc pc = .ok (.getfield 25, 3)) (kk : W p l e R s m args below meth c H locs cells slots Q (F0 m (pc + 3) ls (v :: rest))) : W p l e R s m args below meth c H locs cells slots Q (F0 m pc ls (.ref a :: rest)) := va_get (own := RX3) (ref := RX3) (C := RX3) (T := TX3) (N := 6) (ci := 3) hx hb hts inlX3 hown hK hP q0 he rfl 4 (by decide) (hts _ wm_47) (fun _ h => h) hv hdg kk
theorem gf_X3_28 {p : Program} {l : Launch} {e : Env} {R : Room} {s : State} {m : MethodId} {args : Array Value} {below : List Frame} {meth : Method} {c : Code} {H : Heap} {locs : List Loc} {cells slots : Nat} {Q : State → Prop} {cc : ByteArray} {pc : Nat} {ls : Array Slot} {rest : List Value} {D : va_G} {cy : Nat → ClassId} {a : Nat} {ws : va_W} (hx : p.tables.exec = Jvm.exec) (hb : c.code = cc) (hts : ∀ w ∈ wsL_law, w.before args s = true) (hown : s.vm.findClass RX3 = some m.cls) (hK : va_K D clW (tyW cy) s) (hP : va_P D clW ws H) (q0 : Nat) {fs : List Value} (he : ws[q0]? = some (a, .inr (3, fs))) {v : Value} (hv : fs[5]? = some v) (hdg : decode cc pc = .ok (.getfield 28, 3)) (kk : W p l e R s m args below meth c H locs cells slots Q (F0 m (pc + 3) ls (v :: rest))) : W p l e R s m args below meth c H locs cells slots Q (F0 m pc ls (.ref a :: rest)) := va_get (own := RX3) (ref := RX3) (C := RX3) (T := TX3) (N := 6) (ci := 3) hx hb hts inlX3 hown hK hP q0 he rfl 5 (by decide) (hts _ wm_48) (fun _ h => h) hv hdg kk
theorem pf_X3_28 {p : Program} {l : Launch} {e : Env} {R : Room} {s : State} {m : MethodId} {args : Array Value} {below : List Frame} {meth : Method} {c : Code} {H : Heap} {locs : List Loc} {cells slots : Nat} {Q : State → Prop} {cc : ByteArray} {pc : Nat} {ls : Array Slot} {rest : List Value} {D : va_G} {cy : Nat → ClassId} {a : Nat} {ws : va_W} {A : Nat → Prop} {H0 : Heap} (hx : p.tables.exec = Jvm.exec) (hb : c.code = cc) (hts : ∀ w ∈ wsL_law, w.before args s = true) (hown : s.vm.findClass RX3 = some m.cls) (hK : va_K D clW (tyW cy) s) (hP : va_P D clW ws H) (hD : va_D A ws) (hS : va_S A H0 H locs) (q0 : Nat) {fs : List Value} (he : ws[q0]? = some (a, .inr (3, fs))) {x : Int32} (hl : 5 < fs.length) (hdg : decode cc pc = .ok (.putfield 28, 3)) (kk : ∀ (H1 : Heap) (locs1 : List Loc), va_P D clW (ws.set q0 (a, .inr (3, fs.set 5 (.int x)))) H1 → va_D A (ws.set q0 (a, .inr (3, fs.set 5 (.int x)))) → va_S A H0 H1 locs1 → W p l e R s m args below meth c H1 locs1 cells slots Q (F0 m (pc + 3) ls rest)) : W p l e R s m args below meth c H locs cells slots Q (F0 m pc ls (.int x :: .ref a :: rest)) := va_put (own := RX3) (ref := RX3) (C := RX3) (T := TX3) (N := 6) (ci := 3) (ty := .int) hx hb hts inlX3 tyX3 tyX3_ok nmX3 hown hK hP hD hS q0 he rfl 5 (by decide) (hts _ wm_48) (fun _ h => h) rfl (by decide +kernel) rfl rfl hl hdg kk
theorem cw_X3_32 {R : Room} {s : State} {args : Array Value} {rm : Room} {mc ms : Nat} (hts : ∀ w ∈ wsL_law, w.before args s = true) (hrc : rm.cells = mc) (hrs : rm.slots = ms) (hR : rm.frames + 1 ≤ R.frames ∧ 8 + (1 + 11) + rm.locals ≤ R.locals) : CallW R s args RX3 RX3 32 yX3_isFull cX3_isFull 1 (some .boolean) (Cond.code yX3_isFull cX3_isFull 1 (some .boolean) :: wsL_law) rm mc ms 0 := cwV 0 hts (gUV wm_217 wm_210 wm_211 wm_14 wm_212) rfl hrc hrs (by decide +kernel) hR
theorem cw_X3_36 {R : Room} {s : State} {args : Array Value} {rm : Room} {mc ms : Nat} (hts : ∀ w ∈ wsL_law, w.before args s = true) (hrc : rm.cells = mc) (hrs : rm.slots = ms) (hR : rm.frames + 1 ≤ R.frames ∧ 8 + (1 + 11) + rm.locals ≤ R.locals) : CallW R s args RX3 RX1 36 yX1_forget cX1_forget 1 none (Cond.code yX1_forget cX1_forget 1 none :: wsL_law) rm mc ms 0 := cwV 0 hts (gUV wm_392 wm_379 wm_380 wm_27 wm_381) rfl hrc hrs (by decide +kernel) hR
theorem cw_X3_41 {R : Room} {s : State} {args : Array Value} {rm : Room} {mc ms : Nat} (hts : ∀ w ∈ wsL_law, w.before args s = true) (hrc : rm.cells = mc) (hrs : rm.slots = ms) (hR : rm.frames + 1 ≤ R.frames ∧ 8 + (6 + 11) + rm.locals ≤ R.locals) : CallW R s args RX3 RX1 41 yX1_put cX1_put 6 none (Cond.code yX1_put cX1_put 6 none :: wsL_law) rm mc ms 4 := cwV 4 hts (gUV wm_393 wm_383 wm_384 wm_27 wm_385) rfl hrc hrs (by decide +kernel) hR
set_option maxHeartbeats 4000000 in
set_option maxRecDepth 100000 in
theorem c_X3_now (l : Launch) (D : va_G) (cy : Nat → ClassId) (ad : Nat → Nat) (I : AI) (S : AS) : Met l yX3_now (Cond.code yX3_now cX3_now 1 (some .int) :: wsL_law) ({ frames := 0, cells := 0, slots := 0, locals := 0 }) (va_Pc [.ref (ad 1)] (rdB D cy (wO cy ad I S))) (rdI (fun r => r = I 1)) 0 0 noA := by
  refine enter (cc := cX3_now) (by decide) (Nat.le_of_ble_eq_true rfl) ?_
  intro p e s m below meth c hx hb hr hml hown hts hlocks hin hv Q hQ ls hl
  obtain ⟨hP, hK⟩ := hv
  have hown : s.vm.findClass RX3 = some m.cls := hown
  have hl : lv_has ls 1 [(0, .ref (ad 1))] := hl
  refine lv_aload_n hx hb dX3_now_0 rfl (lv_at hl 0 rfl) ?_
  refine gf_X3_28 hx hb hts hown hK hP 0 rfl (v := .int (I 1)) rfl dX3_now_1 ?_
  exact rI_ret hx hb hr hlocks dX3_now_4 hQ rfl
set_option maxHeartbeats 4000000 in
set_option maxRecDepth 100000 in
theorem c_X3_isFull (l : Launch) (D : va_G) (cy : Nat → ClassId) (ad : Nat → Nat) (I : AI) (S : AS) : Met l yX3_isFull (Cond.code yX3_isFull cX3_isFull 1 (some .boolean) :: wsL_law) ({ frames := 0, cells := 0, slots := 0, locals := 0 }) (va_Pc [.ref (ad 1)] (rdB D cy (wO cy ad I S))) (rdI (fun r => r = if ¬ I 1 < 60 then 1 else 0)) 0 0 noA := by
  refine enter (cc := cX3_isFull) (by decide) (Nat.le_of_ble_eq_true rfl) ?_
  intro p e s m below meth c hx hb hr hml hown hts hlocks hin hv Q hQ ls hl
  obtain ⟨hP, hK⟩ := hv
  have hown : s.vm.findClass RX3 = some m.cls := hown
  have hl : lv_has ls 1 [(0, .ref (ad 1))] := hl
  refine lv_aload_n hx hb dX3_isFull_0 rfl (lv_at hl 0 rfl) ?_
  refine gf_X3_28 hx hb hts hown hK hP 0 rfl (v := .int (I 1)) rfl dX3_isFull_1 ?_
  refine lv_bipush (v := 60) hx hb dX3_isFull_4 (by decide) ?_
  refine lv_icmp_lt (tgt := 13) hx hb dX3_isFull_6 (by decide) (fun c6_1 => ?_) (fun c6_1 => ?_)
  · refine lv_iconst (v := 0) hx hb dX3_isFull_13 (by decide) ?_
    exact rZ_ret hx hb hr hlocks dX3_isFull_14 narZ0 hQ (by simp [c6_1])
  · refine lv_iconst (v := 1) hx hb dX3_isFull_9 (by decide) ?_
    refine lv_goto (tgt := 14) hx hb dX3_isFull_10 (by decide) ?_
    exact rZ_ret hx hb hr hlocks dX3_isFull_14 narZ1 hQ (by simp [c6_1])
set_option maxHeartbeats 4000000 in
set_option maxRecDepth 100000 in
theorem c_X3_add (l : Launch) (D : va_G) (cy : Nat → ClassId) (ad : Nat → Nat) (I : AI) (S : AS) (sz : Nat) (z : Int32) (sl : Int32) (v : Int32) (x : Int32) (y : Int32) (n : Nat) (hn : I 1 = nI n) (hn6 : n < 60) (hz : vp_nar .char z = z) : Met l yX3_add (Cond.code yX3_add cX3_add 6 (some .int) :: wsL_law) ({ frames := 1, cells := 0, slots := 0, locals := 20 }) (va_Pc [.ref (ad 1), .int z, .int sl, .int v, .int x, .int y] (wrB D cy (wO cy ad I S) sz)) (va_Qi (S := Unit) (fun r u => r = nI (n + 1)) (fun u t9 => va_P D clW (wO cy ad (va_up I 1 (nI (n + 1))) (va_up (va_up (va_up (va_up (va_up S 2 (upd (S 2) (n + 1) z)) 3 (upd (S 3) (n + 1) sl)) 4 (upd (S 4) (n + 1) v)) 5 (upd (S 5) (n + 1) x)) 6 (upd (S 6) (n + 1) y))) t9.heap) (va_A (wO cy ad I S) sz)) 0 0 (va_A (wO cy ad I S) sz) := by
  refine enter (cc := cX3_add) (by decide) (Nat.le_of_ble_eq_true rfl) ?_
  intro p e s m below meth c hx hb hr hml hown hts hlocks hin hv Q hQ ls hl
  obtain ⟨hsz, hP, hK, hD0⟩ := hv
  subst hsz
  have hD := hD0.self (sz := s.heap.size)
  generalize hAe : va_A (wO cy ad I S) s.heap.size = A at hD hQ ⊢
  have hA : ∀ q : Nat, s.heap.size ≤ q → A q := fun q h => by rw [← hAe]; exact Or.inr h
  have hS : va_S A s.heap s.heap [] := va_S.rf
  suffices K_ : ∀ (H : Heap) (locs : List Loc), va_P D clW (wO cy ad I S) H → va_S A s.heap H locs → W p l e ({ frames := 1, cells := 0, slots := 0, locals := 20 }) s m ([.ref (ad 1), .int z, .int sl, .int v, .int x, .int y] : List Value).toArray below meth c H locs 0 0 Q (F0 m 0 ls []) from K_ _ _ hP hS
  clear hP hS
  intro H locs hP hS
  have hown : s.vm.findClass RX3 = some m.cls := hown
  have hl : lv_has ls 6 [(0, .ref (ad 1)), (1, .int z), (2, .int sl), (3, .int v), (4, .int x), (5, .int y)] := hl
  refine lv_aload_n hx hb dX3_add_0 rfl (lv_at hl 0 rfl) ?_
  refine rZ_call (P := ¬ (I 1) < 60) (va_runV (As := []) (rest := []) ⟨hx, hb, hml, hown, hts⟩ (c_X3_isFull l D cy ad I S) (cw_X3_32 hts rfl rfl ⟨Nat.le_of_ble_eq_true rfl, Nat.le_of_ble_eq_true rfl⟩) (preVR (ci := 3) (q0 := 0) hK hP rfl rfl) rfl rfl hl.1 rfl (lv_room (Nat.le_of_ble_eq_true rfl)) dX3_add_1 ⟨Nat.le_of_ble_eq_true rfl, Nat.le_of_ble_eq_true rfl⟩) (fun b1_1 => ?_) (fun b1_1 => ?_)
  · exact absurd (by rw [hn]; exact nd_lt (a := n) (b := 60) (by omega) (by omega) (by omega)) b1_1
  · refine lv_if_ne (tgt := 69) hx hb dX3_add_4 (by decide) (fun c => absurd (by decide) c) (fun _ => ?_)
    refine lv_aload_n hx hb dX3_add_7 rfl (lv_at hl 0 rfl) ?_
    refine lv_dup hx hb dX3_add_8 rfl ?_
    refine gf_X3_28 hx hb hts hown hK hP 0 rfl (v := .int (I 1)) rfl dX3_add_9 ?_
    refine top_eq hn ?_
    refine lv_iconst (v := 1) hx hb dX3_add_12 (by decide) ?_
    refine lv_iadd hx hb dX3_add_13 ?_
    refine top_eq (y := nI (n + 1)) (nI_add n 1) ?_
    refine pf_X3_28 hx hb hts hown hK hP hD hS 0 rfl (Nat.le_of_ble_eq_true rfl) dX3_add_14 (fun H locs hP hD hS => ?_)
    have hP : va_P D clW (wO cy ad (va_up I 1 (nI (n + 1))) S) H := hP
    have hD : va_D A (wO cy ad (va_up I 1 (nI (n + 1))) S) := hD
    refine lv_aload_n hx hb dX3_add_17 rfl (lv_at hl 0 rfl) ?_
    refine gf_X3_9 hx hb hts hown hK hP 0 rfl (v := .ref (ad 2)) rfl dX3_add_18 ?_
    refine lv_aload_n hx hb dX3_add_21 rfl (lv_at hl 0 rfl) ?_
    refine gf_X3_28 hx hb hts hown hK hP 0 rfl (v := .int (nI (n + 1))) rfl dX3_add_22 ?_
    refine lv_iload_n hx hb dX3_add_25 rfl (lv_at hl 1 rfl) ?_
    refine ast_C hx hb hK hP hD hS 1 rfl (i := (n + 1)) (x := z) (by omega) (by decide) hz dX3_add_26 (fun H locs hP hD hS => ?_)
    have hP : va_P D clW (wO cy ad (va_up I 1 (nI (n + 1))) (va_up S 2 (upd (S 2) (n + 1) z))) H := hP
    have hD : va_D A (wO cy ad (va_up I 1 (nI (n + 1))) (va_up S 2 (upd (S 2) (n + 1) z))) := hD
    refine lv_aload_n hx hb dX3_add_27 rfl (lv_at hl 0 rfl) ?_
    refine gf_X3_15 hx hb hts hown hK hP 0 rfl (v := .ref (ad 3)) rfl dX3_add_28 ?_
    refine lv_aload_n hx hb dX3_add_31 rfl (lv_at hl 0 rfl) ?_
    refine gf_X3_28 hx hb hts hown hK hP 0 rfl (v := .int (nI (n + 1))) rfl dX3_add_32 ?_
    refine lv_iload_n hx hb dX3_add_35 rfl (lv_at hl 2 rfl) ?_
    refine ast_I hx hb hK hP hD hS 2 rfl (i := (n + 1)) (x := sl) (by omega) (by decide) dX3_add_36 (fun H locs hP hD hS => ?_)
    have hP : va_P D clW (wO cy ad (va_up I 1 (nI (n + 1))) (va_up (va_up S 2 (upd (S 2) (n + 1) z)) 3 (upd (S 3) (n + 1) sl))) H := hP
    have hD : va_D A (wO cy ad (va_up I 1 (nI (n + 1))) (va_up (va_up S 2 (upd (S 2) (n + 1) z)) 3 (upd (S 3) (n + 1) sl))) := hD
    refine lv_aload_n hx hb dX3_add_37 rfl (lv_at hl 0 rfl) ?_
    refine gf_X3_19 hx hb hts hown hK hP 0 rfl (v := .ref (ad 4)) rfl dX3_add_38 ?_
    refine lv_aload_n hx hb dX3_add_41 rfl (lv_at hl 0 rfl) ?_
    refine gf_X3_28 hx hb hts hown hK hP 0 rfl (v := .int (nI (n + 1))) rfl dX3_add_42 ?_
    refine lv_iload_n hx hb dX3_add_45 rfl (lv_at hl 3 rfl) ?_
    refine ast_I hx hb hK hP hD hS 3 rfl (i := (n + 1)) (x := v) (by omega) (by decide) dX3_add_46 (fun H locs hP hD hS => ?_)
    have hP : va_P D clW (wO cy ad (va_up I 1 (nI (n + 1))) (va_up (va_up (va_up S 2 (upd (S 2) (n + 1) z)) 3 (upd (S 3) (n + 1) sl)) 4 (upd (S 4) (n + 1) v))) H := hP
    have hD : va_D A (wO cy ad (va_up I 1 (nI (n + 1))) (va_up (va_up (va_up S 2 (upd (S 2) (n + 1) z)) 3 (upd (S 3) (n + 1) sl)) 4 (upd (S 4) (n + 1) v))) := hD
    refine lv_aload_n hx hb dX3_add_47 rfl (lv_at hl 0 rfl) ?_
    refine gf_X3_22 hx hb hts hown hK hP 0 rfl (v := .ref (ad 5)) rfl dX3_add_48 ?_
    refine lv_aload_n hx hb dX3_add_51 rfl (lv_at hl 0 rfl) ?_
    refine gf_X3_28 hx hb hts hown hK hP 0 rfl (v := .int (nI (n + 1))) rfl dX3_add_52 ?_
    refine lv_iload hx hb dX3_add_55 (lv_at hl 4 rfl) ?_
    refine ast_I hx hb hK hP hD hS 4 rfl (i := (n + 1)) (x := x) (by omega) (by decide) dX3_add_57 (fun H locs hP hD hS => ?_)
    have hP : va_P D clW (wO cy ad (va_up I 1 (nI (n + 1))) (va_up (va_up (va_up (va_up S 2 (upd (S 2) (n + 1) z)) 3 (upd (S 3) (n + 1) sl)) 4 (upd (S 4) (n + 1) v)) 5 (upd (S 5) (n + 1) x))) H := hP
    have hD : va_D A (wO cy ad (va_up I 1 (nI (n + 1))) (va_up (va_up (va_up (va_up S 2 (upd (S 2) (n + 1) z)) 3 (upd (S 3) (n + 1) sl)) 4 (upd (S 4) (n + 1) v)) 5 (upd (S 5) (n + 1) x))) := hD
    refine lv_aload_n hx hb dX3_add_58 rfl (lv_at hl 0 rfl) ?_
    refine gf_X3_25 hx hb hts hown hK hP 0 rfl (v := .ref (ad 6)) rfl dX3_add_59 ?_
    refine lv_aload_n hx hb dX3_add_62 rfl (lv_at hl 0 rfl) ?_
    refine gf_X3_28 hx hb hts hown hK hP 0 rfl (v := .int (nI (n + 1))) rfl dX3_add_63 ?_
    refine lv_iload hx hb dX3_add_66 (lv_at hl 5 rfl) ?_
    refine ast_I hx hb hK hP hD hS 5 rfl (i := (n + 1)) (x := y) (by omega) (by decide) dX3_add_68 (fun H locs hP hD hS => ?_)
    have hP : va_P D clW (wO cy ad (va_up I 1 (nI (n + 1))) (va_up (va_up (va_up (va_up (va_up S 2 (upd (S 2) (n + 1) z)) 3 (upd (S 3) (n + 1) sl)) 4 (upd (S 4) (n + 1) v)) 5 (upd (S 5) (n + 1) x)) 6 (upd (S 6) (n + 1) y))) H := hP
    have hD : va_D A (wO cy ad (va_up I 1 (nI (n + 1))) (va_up (va_up (va_up (va_up (va_up S 2 (upd (S 2) (n + 1) z)) 3 (upd (S 3) (n + 1) sl)) 4 (upd (S 4) (n + 1) v)) 5 (upd (S 5) (n + 1) x)) 6 (upd (S 6) (n + 1) y))) := hD
    refine lv_aload_n hx hb dX3_add_69 rfl (lv_at hl 0 rfl) ?_
    refine gf_X3_28 hx hb hts hown hK hP 0 rfl (v := .int (nI (n + 1))) rfl dX3_add_70 ?_
    have hP : va_P D clW (wO cy ad (va_up I 1 (nI (n + 1))) (va_up (va_up (va_up (va_up (va_up S 2 (upd (S 2) (n + 1) z)) 3 (upd (S 3) (n + 1) sl)) 4 (upd (S 4) (n + 1) v)) 5 (upd (S 5) (n + 1) x)) 6 (upd (S 6) (n + 1) y))) H := hP
    have hD : va_D A (wO cy ad (va_up I 1 (nI (n + 1))) (va_up (va_up (va_up (va_up (va_up S 2 (upd (S 2) (n + 1) z)) 3 (upd (S 3) (n + 1) sl)) 4 (upd (S 4) (n + 1) v)) 5 (upd (S 5) (n + 1) x)) 6 (upd (S 6) (n + 1) y))) := hD.addr rfl
    exact wI_ret () hS hP hx hb hr hlocks dX3_add_73 (Nat.le_of_ble_eq_true rfl) (Nat.le_of_ble_eq_true rfl) hQ rfl
set_option maxHeartbeats 4000000 in
set_option maxRecDepth 100000 in
theorem c_X3_kind (l : Launch) (D : va_G) (cy : Nat → ClassId) (ad : Nat → Nat) (I : AI) (S : AS) (j : Nat) (n : Nat) (hn : I 1 = nI n) (hn6 : n ≤ 60) (hj1 : 1 ≤ j) (hj : j ≤ n) (hz : narrow .char (.int (S 2 j)) = .int (S 2 j)) : Met l yX3_kind (Cond.code yX3_kind cX3_kind 2 (some .char) :: wsL_law) ({ frames := 0, cells := 0, slots := 0, locals := 0 }) (va_Pc [.ref (ad 1), .int (nI j)] (rdB D cy (wO cy ad I S))) (rdI (fun r => r = S 2 j)) 0 0 noA := by
  refine enter (cc := cX3_kind) (by decide) (Nat.le_of_ble_eq_true rfl) ?_
  intro p e s m below meth c hx hb hr hml hown hts hlocks hin hv Q hQ ls hl
  obtain ⟨hP, hK⟩ := hv
  have hown : s.vm.findClass RX3 = some m.cls := hown
  have hl : lv_has ls 2 [(0, .ref (ad 1)), (1, .int (nI j))] := hl
  refine lv_iload_n hx hb dX3_kind_0 rfl (lv_at hl 1 rfl) ?_
  refine lv_iconst (v := 1) hx hb dX3_kind_1 (by decide) ?_
  refine lv_icmp_lt (tgt := 22) hx hb dX3_kind_2 (by decide) (fun c => absurd c (nd_nlt (a := j) (b := 1) (by omega) (by omega) (by omega))) (fun _ => ?_)
  refine lv_iload_n hx hb dX3_kind_5 rfl (lv_at hl 1 rfl) ?_
  refine lv_aload_n hx hb dX3_kind_6 rfl (lv_at hl 0 rfl) ?_
  refine gf_X3_28 hx hb hts hown hK hP 0 rfl (v := .int (I 1)) rfl dX3_kind_7 ?_
  refine top_eq hn ?_
  refine lv_icmp_gt (tgt := 22) hx hb dX3_kind_10 (by decide) (fun c => absurd c (nd_nlt (a := n) (b := j) (by omega) (by omega) (by omega))) (fun _ => ?_)
  refine lv_aload_n hx hb dX3_kind_13 rfl (lv_at hl 0 rfl) ?_
  refine gf_X3_9 hx hb hts hown hK hP 0 rfl (v := .ref (ad 2)) rfl dX3_kind_14 ?_
  refine lv_iload_n hx hb dX3_kind_17 rfl (lv_at hl 1 rfl) ?_
  refine ald_C (f := (S 2)) hx hb hK hP 1 rfl (i := j) (by omega) (by decide) dX3_kind_18 ?_
  refine lv_goto (tgt := 24) hx hb dX3_kind_19 (by decide) ?_
  exact rZ_ret hx hb hr hlocks dX3_kind_24 hz hQ rfl
set_option maxHeartbeats 4000000 in
set_option maxRecDepth 100000 in
theorem c_X3_slot (l : Launch) (D : va_G) (cy : Nat → ClassId) (ad : Nat → Nat) (I : AI) (S : AS) (j : Nat) (n : Nat) (hn : I 1 = nI n) (hn6 : n ≤ 60) (hj1 : 1 ≤ j) (hj : j ≤ n) : Met l yX3_slot (Cond.code yX3_slot cX3_slot 2 (some .int) :: wsL_law) ({ frames := 0, cells := 0, slots := 0, locals := 0 }) (va_Pc [.ref (ad 1), .int (nI j)] (rdB D cy (wO cy ad I S))) (rdI (fun r => r = S 3 j)) 0 0 noA := by
  refine enter (cc := cX3_slot) (by decide) (Nat.le_of_ble_eq_true rfl) ?_
  intro p e s m below meth c hx hb hr hml hown hts hlocks hin hv Q hQ ls hl
  obtain ⟨hP, hK⟩ := hv
  have hown : s.vm.findClass RX3 = some m.cls := hown
  have hl : lv_has ls 2 [(0, .ref (ad 1)), (1, .int (nI j))] := hl
  refine lv_iload_n hx hb dX3_slot_0 rfl (lv_at hl 1 rfl) ?_
  refine lv_iconst (v := 1) hx hb dX3_slot_1 (by decide) ?_
  refine lv_icmp_lt (tgt := 22) hx hb dX3_slot_2 (by decide) (fun c => absurd c (nd_nlt (a := j) (b := 1) (by omega) (by omega) (by omega))) (fun _ => ?_)
  refine lv_iload_n hx hb dX3_slot_5 rfl (lv_at hl 1 rfl) ?_
  refine lv_aload_n hx hb dX3_slot_6 rfl (lv_at hl 0 rfl) ?_
  refine gf_X3_28 hx hb hts hown hK hP 0 rfl (v := .int (I 1)) rfl dX3_slot_7 ?_
  refine top_eq hn ?_
  refine lv_icmp_gt (tgt := 22) hx hb dX3_slot_10 (by decide) (fun c => absurd c (nd_nlt (a := n) (b := j) (by omega) (by omega) (by omega))) (fun _ => ?_)
  refine lv_aload_n hx hb dX3_slot_13 rfl (lv_at hl 0 rfl) ?_
  refine gf_X3_15 hx hb hts hown hK hP 0 rfl (v := .ref (ad 3)) rfl dX3_slot_14 ?_
  refine lv_iload_n hx hb dX3_slot_17 rfl (lv_at hl 1 rfl) ?_
  refine ald_I (f := (S 3)) hx hb hK hP 2 rfl (i := j) (by omega) (by decide) dX3_slot_18 ?_
  refine lv_goto (tgt := 23) hx hb dX3_slot_19 (by decide) ?_
  exact rI_ret hx hb hr hlocks dX3_slot_23 hQ rfl
set_option maxHeartbeats 4000000 in
set_option maxRecDepth 100000 in
theorem c_X3_replayInto_16 (l : Launch) (D : va_G) (cy : Nat → ClassId) (ad : Nat → Nat) (I : AI) (S : AS) (sz : Nat) (sl : Int32) (t : Nat) (n : Nat) (hn : I 1 = nI n) (hn6 : n ≤ 60) (ht : t ≤ n) (fr : Nat → Nat) (to : Nat → Nat) (hfr : ∀ i : Nat, 1 ≤ i → i ≤ n → S 5 i = nI (fr i) ∧ S 6 i = nI (to i) ∧ fr i ≤ to i ∧ to i ≤ 100) : Met l yX3_replayInto (Cond.code yX3_replayInto cX3_replayInto 5 none :: wsL_law) ({ frames := 3, cells := 0, slots := 0, locals := 58 }) (va_Pc [.ref (ad 1), .ref (ad 16), .int sl, .int (nI t)] (wrB D cy (wO cy ad I S ++ wK cy ad 16 S) sz)) (va_Qv (S := Unit) (fun u => True) (fun u t9 => va_P D clW (wO cy ad I (va_up (va_up S 17 (rpKN S sl fr to (S 17) t)) 18 (rpVN S sl fr to (S 18) t)) ++ wK cy ad 16 (va_up (va_up S 17 (rpKN S sl fr to (S 17) t)) 18 (rpVN S sl fr to (S 18) t))) t9.heap) (va_A (wO cy ad I S ++ wK cy ad 16 S) sz)) 0 0 (va_A (wO cy ad I S ++ wK cy ad 16 S) sz) := by
  refine enter (cc := cX3_replayInto) (by decide) (Nat.le_of_ble_eq_true rfl) ?_
  intro p e s m below meth c hx hb hr hml hown hts hlocks hin hv Q hQ ls hl
  obtain ⟨hsz, hP, hK, hD0⟩ := hv
  subst hsz
  have hD := hD0.self (sz := s.heap.size)
  generalize hAe : va_A (wO cy ad I S ++ wK cy ad 16 S) s.heap.size = A at hD hQ ⊢
  have hA : ∀ q : Nat, s.heap.size ≤ q → A q := fun q h => by rw [← hAe]; exact Or.inr h
  have hS : va_S A s.heap s.heap [] := va_S.rf
  suffices K_ : ∀ (H : Heap) (locs : List Loc), va_P D clW (wO cy ad I S ++ wK cy ad 16 S) H → va_S A s.heap H locs → W p l e ({ frames := 3, cells := 0, slots := 0, locals := 58 }) s m ([.ref (ad 1), .ref (ad 16), .int sl, .int (nI t)] : List Value).toArray below meth c H locs 0 0 Q (F0 m 0 ls []) from K_ _ _ hP hS
  clear hP hS
  intro H locs hP hS
  have hown : s.vm.findClass RX3 = some m.cls := hown
  have hl : lv_has ls 5 [(0, .ref (ad 1)), (1, .ref (ad 16)), (2, .int sl), (3, .int (nI t))] := hl
  refine lv_aload_n hx hb dX3_replayInto_0 rfl (lv_at hl 1 rfl) ?_
  refine wV_call (va_runV (As := []) (rest := []) ⟨hx, hb, hml, hown, hts⟩ (c_X1_forget_16 l D cy ad S H.size) (cw_X3_36 hts rfl rfl ⟨Nat.le_of_ble_eq_true rfl, Nat.le_of_ble_eq_true rfl⟩) (preVW (ci := 1) (q0 := 0) hK (hP.sub [6, 7, 8] rfl) (hD.sub [6, 7, 8] (by decide) rfl) rfl rfl) rfl rfl hl.1 rfl (lv_room (Nat.le_of_ble_eq_true rfl)) dX3_replayInto_1 ⟨Nat.le_of_ble_eq_true rfl, Nat.le_of_ble_eq_true rfl⟩) hP hD hS hA [6, 7, 8] rfl [.inl 0, .inl 1, .inl 2, .inl 3, .inl 4, .inl 5, .inr 0, .inr 1, .inr 2] (by decide) (fun u => (wO cy ad I (va_up (va_up S 17 (putF (S 17) 0 100 0)) 18 (putF (S 18) 0 100 0)) ++ wK cy ad 16 (va_up (va_up S 17 (putF (S 17) 0 100 0)) 18 (putF (S 18) 0 100 0)))) (fun _ => rfl) (fun _ => rfl) (fun u1_1 H locs q1_1 hP hD hS hkp => ?_)
  have hP : va_P D clW (wO cy ad I (va_up (va_up S 17 (putF (S 17) 0 100 0)) 18 (putF (S 18) 0 100 0)) ++ wK cy ad 16 (va_up (va_up S 17 (putF (S 17) 0 100 0)) 18 (putF (S 18) 0 100 0))) H := hP
  have hD : va_D A (wO cy ad I (va_up (va_up S 17 (putF (S 17) 0 100 0)) 18 (putF (S 18) 0 100 0)) ++ wK cy ad 16 (va_up (va_up S 17 (putF (S 17) 0 100 0)) 18 (putF (S 18) 0 100 0))) := hD
  refine lv_iconst (v := 1) hx hb dX3_replayInto_4 (by decide) ?_
  refine lv_istore (lv' := [(4, .int 1), (0, .ref (ad 1)), (1, .ref (ad 16)), (2, .int sl), (3, .int (nI t))]) hx hb dX3_replayInto_5 hl (by decide) rfl (fun ls hl => ?_)
  have L7 : ∀ (n_7 i : Nat), i ≤ t → t + 1 ≤ i + n_7 → ∀ (H : Heap) (locs : List Loc), va_P D clW (wO cy ad I (va_up (va_up S 17 (rpKN S sl fr to (S 17) i)) 18 (rpVN S sl fr to (S 18) i)) ++ wK cy ad 16 (va_up (va_up S 17 (rpKN S sl fr to (S 17) i)) 18 (rpVN S sl fr to (S 18) i))) H → va_D A (wO cy ad I (va_up (va_up S 17 (rpKN S sl fr to (S 17) i)) 18 (rpVN S sl fr to (S 18) i)) ++ wK cy ad 16 (va_up (va_up S 17 (rpKN S sl fr to (S 17) i)) 18 (rpVN S sl fr to (S 18) i))) → va_S A s.heap H locs → ∀ (ls : Array Slot), lv_has ls 5 [(4, .int (nI (i + 1))), (0, .ref (ad 1)), (1, .ref (ad 16)), (2, .int sl), (3, .int (nI t))] → W p l e { frames := 3, cells := 0, slots := 0, locals := 58 } s m ([.ref (ad 1), .ref (ad 16), .int sl, .int (nI t)] : List Value).toArray below meth c H locs 0 0 Q (F0 m 7 ls []) := by
    clear hl
    intro n_7
    induction n_7 with
    | zero => intro i  hle_7 hn_7; exact absurd hn_7 (by omega)
    | succ n_7 ih7 =>
      intro i  hle_7 hn_7  H locs hP hD hS ls hl
      refine lv_iload hx hb dX3_replayInto_7 (lv_at hl 0 rfl) ?_
      refine lv_iload_n hx hb dX3_replayInto_9 rfl (lv_at hl 4 rfl) ?_
      refine lv_icmp_gt (tgt := 81) hx hb dX3_replayInto_10 (by decide) (fun c10_2 => ?_) (fun c10_2 => ?_)
      · have fi : t < i + 1 := nt_lt (a := t) (b := i + 1) (by omega) (by omega) c10_2
        have e_3 : (rpKN S sl fr to (S 17) i) = (rpKN S sl fr to (S 17) t) := (by rw [show i = t by omega])
        have e_4 : (rpVN S sl fr to (S 18) i) = (rpVN S sl fr to (S 18) t) := (by rw [show i = t by omega])
        have hP : va_P D clW (wO cy ad I (va_up (va_up S 17 (rpKN S sl fr to (S 17) t)) 18 (rpVN S sl fr to (S 18) t)) ++ wK cy ad 16 (va_up (va_up S 17 (rpKN S sl fr to (S 17) t)) 18 (rpVN S sl fr to (S 18) t))) H := by rw [← e_3, ← e_4]; exact hP
        have hD : va_D A (wO cy ad I (va_up (va_up S 17 (rpKN S sl fr to (S 17) t)) 18 (rpVN S sl fr to (S 18) t)) ++ wK cy ad 16 (va_up (va_up S 17 (rpKN S sl fr to (S 17) t)) 18 (rpVN S sl fr to (S 18) t))) := hD.addr rfl
        exact wV_ret () hS hP hx hb hr hlocks dX3_replayInto_81 (Nat.le_of_ble_eq_true rfl) (Nat.le_of_ble_eq_true rfl) hQ trivial
      · have fi : i + 1 ≤ t := nt_nlt (a := t) (b := i + 1) (by omega) (by omega) c10_2
        have hfi := hfr (i + 1) (by omega) (by omega)
        refine lv_iload hx hb dX3_replayInto_13 (lv_at hl 0 rfl) ?_
        refine lv_aload_n hx hb dX3_replayInto_15 rfl (lv_at hl 1 rfl) ?_
        refine gf_X3_28 hx hb hts hown hK hP 0 rfl (v := .int (I 1)) rfl dX3_replayInto_16 ?_
        refine top_eq hn ?_
        refine lv_icmp_gt (tgt := 81) hx hb dX3_replayInto_19 (by decide) (fun c => absurd c (nd_nlt (a := n) (b := (i + 1)) (by omega) (by omega) (by omega))) (fun _ => ?_)
        refine lv_aload_n hx hb dX3_replayInto_22 rfl (lv_at hl 1 rfl) ?_
        refine gf_X3_15 hx hb hts hown hK hP 0 rfl (v := .ref (ad 3)) rfl dX3_replayInto_23 ?_
        refine lv_iload hx hb dX3_replayInto_26 (lv_at hl 0 rfl) ?_
        refine ald_I (f := (S 3)) hx hb hK hP 2 rfl (i := (i + 1)) (by omega) (by decide) dX3_replayInto_28 ?_
        refine lv_iload_n hx hb dX3_replayInto_29 rfl (lv_at hl 3 rfl) ?_
        refine lv_icmp_ne (tgt := 75) hx hb dX3_replayInto_30 (by decide) (fun c30_5 => ?_) (fun c30_5 => ?_)
        · refine lv_iinc (v := (nI ((i + 1) + 1))) (lv' := [(4, .int (nI ((i + 1) + 1))), (0, .ref (ad 1)), (1, .ref (ad 16)), (2, .int sl), (3, .int (nI t))]) hx hb dX3_replayInto_75 hl (k := 0) rfl (nI_1 (i + 1)) (by decide) rfl (fun ls hl => ?_)
          refine lv_goto (tgt := 7) hx hb dX3_replayInto_78 (by decide) ?_
          have e_6 : (rpKN S sl fr to (S 17) i) = (rpKN S sl fr to (S 17) (i + 1)) := (if_neg c30_5).symm
          have e_7 : (rpVN S sl fr to (S 18) i) = (rpVN S sl fr to (S 18) (i + 1)) := (if_neg c30_5).symm
          have hP : va_P D clW (wO cy ad I (va_up (va_up S 17 (rpKN S sl fr to (S 17) (i + 1))) 18 (rpVN S sl fr to (S 18) (i + 1))) ++ wK cy ad 16 (va_up (va_up S 17 (rpKN S sl fr to (S 17) (i + 1))) 18 (rpVN S sl fr to (S 18) (i + 1)))) H := by rw [← e_6, ← e_7]; exact hP
          have hD : va_D A (wO cy ad I (va_up (va_up S 17 (rpKN S sl fr to (S 17) (i + 1))) 18 (rpVN S sl fr to (S 18) (i + 1))) ++ wK cy ad 16 (va_up (va_up S 17 (rpKN S sl fr to (S 17) (i + 1))) 18 (rpVN S sl fr to (S 18) (i + 1)))) := hD.addr rfl
          exact ih7 (i + 1) (by omega) (by omega) _ _ hP hD hS ls (lv_sub hl [0, 1, 2, 3, 4] rfl)
        · refine lv_aload_n hx hb dX3_replayInto_33 rfl (lv_at hl 2 rfl) ?_
          refine lv_aload_n hx hb dX3_replayInto_34 rfl (lv_at hl 1 rfl) ?_
          refine gf_X3_22 hx hb hts hown hK hP 0 rfl (v := .ref (ad 5)) rfl dX3_replayInto_35 ?_
          refine lv_iload hx hb dX3_replayInto_38 (lv_at hl 0 rfl) ?_
          refine ald_I (f := (S 5)) hx hb hK hP 4 rfl (i := (i + 1)) (by omega) (by decide) dX3_replayInto_40 ?_
          refine top_eq (y := nI (fr (i + 1))) hfi.1 ?_
          refine lv_aload_n hx hb dX3_replayInto_41 rfl (lv_at hl 1 rfl) ?_
          refine gf_X3_25 hx hb hts hown hK hP 0 rfl (v := .ref (ad 6)) rfl dX3_replayInto_42 ?_
          refine lv_iload hx hb dX3_replayInto_45 (lv_at hl 0 rfl) ?_
          refine ald_I (f := (S 6)) hx hb hK hP 5 rfl (i := (i + 1)) (by omega) (by decide) dX3_replayInto_47 ?_
          refine top_eq (y := nI (to (i + 1))) hfi.2.1 ?_
          refine lv_aload_n hx hb dX3_replayInto_48 rfl (lv_at hl 1 rfl) ?_
          refine gf_X3_9 hx hb hts hown hK hP 0 rfl (v := .ref (ad 2)) rfl dX3_replayInto_49 ?_
          refine lv_iload hx hb dX3_replayInto_52 (lv_at hl 0 rfl) ?_
          refine ald_C (f := (S 2)) hx hb hK hP 1 rfl (i := (i + 1)) (by omega) (by decide) dX3_replayInto_54 ?_
          refine lv_bipush (v := 114) hx hb dX3_replayInto_55 (by decide) ?_
          refine lv_icmp_eq (tgt := 64) hx hb dX3_replayInto_57 (by decide) (fun c57_8 => ?_) (fun c57_8 => ?_)
          · refine lv_iconst (v := 0) hx hb dX3_replayInto_64 (by decide) ?_
            refine lv_aload_n hx hb dX3_replayInto_65 rfl (lv_at hl 1 rfl) ?_
            refine gf_X3_19 hx hb hts hown hK hP 0 rfl (v := .ref (ad 4)) rfl dX3_replayInto_66 ?_
            refine lv_iload hx hb dX3_replayInto_69 (lv_at hl 0 rfl) ?_
            refine ald_I (f := (S 4)) hx hb hK hP 3 rfl (i := (i + 1)) (by omega) (by decide) dX3_replayInto_71 ?_
            refine wV_call (va_runV (As := [.int (nI (fr (i + 1))), .int (nI (to (i + 1))), .int 0, .int ((S 4) (i + 1))]) (rest := []) ⟨hx, hb, hml, hown, hts⟩ (c_X1_put_16 l D cy ad (va_up (va_up S 17 (rpKN S sl fr to (S 17) i)) 18 (rpVN S sl fr to (S 18) i)) H.size (fr (i + 1)) (to (i + 1)) 0 ((S 4) (i + 1)) hfi.2.2.1 hfi.2.2.2 rfl) (cw_X3_41 hts rfl rfl ⟨Nat.le_of_ble_eq_true rfl, Nat.le_of_ble_eq_true rfl⟩) (preVW (ci := 1) (q0 := 0) hK (hP.sub [6, 7, 8] rfl) (hD.sub [6, 7, 8] (by decide) rfl) rfl rfl) rfl rfl hl.1 rfl (lv_room (Nat.le_of_ble_eq_true rfl)) dX3_replayInto_72 ⟨Nat.le_of_ble_eq_true rfl, Nat.le_of_ble_eq_true rfl⟩) hP hD hS hA [6, 7, 8] rfl [.inl 0, .inl 1, .inl 2, .inl 3, .inl 4, .inl 5, .inr 0, .inr 1, .inr 2] (by decide) (fun u => (wO cy ad I (va_up (va_up S 17 (putF (rpKN S sl fr to (S 17) i) (fr (i + 1)) (to (i + 1)) 0)) 18 (putF (rpVN S sl fr to (S 18) i) (fr (i + 1)) (to (i + 1)) ((S 4) (i + 1)))) ++ wK cy ad 16 (va_up (va_up S 17 (putF (rpKN S sl fr to (S 17) i) (fr (i + 1)) (to (i + 1)) 0)) 18 (putF (rpVN S sl fr to (S 18) i) (fr (i + 1)) (to (i + 1)) ((S 4) (i + 1)))))) (fun _ => rfl) (fun _ => rfl) (fun u72_9 H locs q72_9 hP hD hS hkp => ?_)
            have hP : va_P D clW (wO cy ad I (va_up (va_up S 17 (putF (rpKN S sl fr to (S 17) i) (fr (i + 1)) (to (i + 1)) 0)) 18 (putF (rpVN S sl fr to (S 18) i) (fr (i + 1)) (to (i + 1)) ((S 4) (i + 1)))) ++ wK cy ad 16 (va_up (va_up S 17 (putF (rpKN S sl fr to (S 17) i) (fr (i + 1)) (to (i + 1)) 0)) 18 (putF (rpVN S sl fr to (S 18) i) (fr (i + 1)) (to (i + 1)) ((S 4) (i + 1))))) H := hP
            have hD : va_D A (wO cy ad I (va_up (va_up S 17 (putF (rpKN S sl fr to (S 17) i) (fr (i + 1)) (to (i + 1)) 0)) 18 (putF (rpVN S sl fr to (S 18) i) (fr (i + 1)) (to (i + 1)) ((S 4) (i + 1)))) ++ wK cy ad 16 (va_up (va_up S 17 (putF (rpKN S sl fr to (S 17) i) (fr (i + 1)) (to (i + 1)) 0)) 18 (putF (rpVN S sl fr to (S 18) i) (fr (i + 1)) (to (i + 1)) ((S 4) (i + 1))))) := hD
            refine lv_iinc (v := (nI ((i + 1) + 1))) (lv' := [(4, .int (nI ((i + 1) + 1))), (0, .ref (ad 1)), (1, .ref (ad 16)), (2, .int sl), (3, .int (nI t))]) hx hb dX3_replayInto_75 hl (k := 0) rfl (nI_1 (i + 1)) (by decide) rfl (fun ls hl => ?_)
            refine lv_goto (tgt := 7) hx hb dX3_replayInto_78 (by decide) ?_
            have e_10 : (putF (rpKN S sl fr to (S 17) i) (fr (i + 1)) (to (i + 1)) 0) = (rpKN S sl fr to (S 17) (i + 1)) := (by rw [rpKN, if_pos c30_5, if_pos c57_8])
            have e_11 : (putF (rpVN S sl fr to (S 18) i) (fr (i + 1)) (to (i + 1)) ((S 4) (i + 1))) = (rpVN S sl fr to (S 18) (i + 1)) := (if_pos c30_5).symm
            have hP : va_P D clW (wO cy ad I (va_up (va_up S 17 (rpKN S sl fr to (S 17) (i + 1))) 18 (rpVN S sl fr to (S 18) (i + 1))) ++ wK cy ad 16 (va_up (va_up S 17 (rpKN S sl fr to (S 17) (i + 1))) 18 (rpVN S sl fr to (S 18) (i + 1)))) H := by rw [← e_10, ← e_11]; exact hP
            have hD : va_D A (wO cy ad I (va_up (va_up S 17 (rpKN S sl fr to (S 17) (i + 1))) 18 (rpVN S sl fr to (S 18) (i + 1))) ++ wK cy ad 16 (va_up (va_up S 17 (rpKN S sl fr to (S 17) (i + 1))) 18 (rpVN S sl fr to (S 18) (i + 1)))) := hD.addr rfl
            exact ih7 (i + 1) (by omega) (by omega) _ _ hP hD hS ls (lv_sub hl [0, 1, 2, 3, 4] rfl)
          · refine lv_iconst (v := 1) hx hb dX3_replayInto_60 (by decide) ?_
            refine lv_goto (tgt := 65) hx hb dX3_replayInto_61 (by decide) ?_
            refine lv_aload_n hx hb dX3_replayInto_65 rfl (lv_at hl 1 rfl) ?_
            refine gf_X3_19 hx hb hts hown hK hP 0 rfl (v := .ref (ad 4)) rfl dX3_replayInto_66 ?_
            refine lv_iload hx hb dX3_replayInto_69 (lv_at hl 0 rfl) ?_
            refine ald_I (f := (S 4)) hx hb hK hP 3 rfl (i := (i + 1)) (by omega) (by decide) dX3_replayInto_71 ?_
            refine wV_call (va_runV (As := [.int (nI (fr (i + 1))), .int (nI (to (i + 1))), .int 1, .int ((S 4) (i + 1))]) (rest := []) ⟨hx, hb, hml, hown, hts⟩ (c_X1_put_16 l D cy ad (va_up (va_up S 17 (rpKN S sl fr to (S 17) i)) 18 (rpVN S sl fr to (S 18) i)) H.size (fr (i + 1)) (to (i + 1)) 1 ((S 4) (i + 1)) hfi.2.2.1 hfi.2.2.2 rfl) (cw_X3_41 hts rfl rfl ⟨Nat.le_of_ble_eq_true rfl, Nat.le_of_ble_eq_true rfl⟩) (preVW (ci := 1) (q0 := 0) hK (hP.sub [6, 7, 8] rfl) (hD.sub [6, 7, 8] (by decide) rfl) rfl rfl) rfl rfl hl.1 rfl (lv_room (Nat.le_of_ble_eq_true rfl)) dX3_replayInto_72 ⟨Nat.le_of_ble_eq_true rfl, Nat.le_of_ble_eq_true rfl⟩) hP hD hS hA [6, 7, 8] rfl [.inl 0, .inl 1, .inl 2, .inl 3, .inl 4, .inl 5, .inr 0, .inr 1, .inr 2] (by decide) (fun u => (wO cy ad I (va_up (va_up S 17 (putF (rpKN S sl fr to (S 17) i) (fr (i + 1)) (to (i + 1)) 1)) 18 (putF (rpVN S sl fr to (S 18) i) (fr (i + 1)) (to (i + 1)) ((S 4) (i + 1)))) ++ wK cy ad 16 (va_up (va_up S 17 (putF (rpKN S sl fr to (S 17) i) (fr (i + 1)) (to (i + 1)) 1)) 18 (putF (rpVN S sl fr to (S 18) i) (fr (i + 1)) (to (i + 1)) ((S 4) (i + 1)))))) (fun _ => rfl) (fun _ => rfl) (fun u72_12 H locs q72_12 hP hD hS hkp => ?_)
            have hP : va_P D clW (wO cy ad I (va_up (va_up S 17 (putF (rpKN S sl fr to (S 17) i) (fr (i + 1)) (to (i + 1)) 1)) 18 (putF (rpVN S sl fr to (S 18) i) (fr (i + 1)) (to (i + 1)) ((S 4) (i + 1)))) ++ wK cy ad 16 (va_up (va_up S 17 (putF (rpKN S sl fr to (S 17) i) (fr (i + 1)) (to (i + 1)) 1)) 18 (putF (rpVN S sl fr to (S 18) i) (fr (i + 1)) (to (i + 1)) ((S 4) (i + 1))))) H := hP
            have hD : va_D A (wO cy ad I (va_up (va_up S 17 (putF (rpKN S sl fr to (S 17) i) (fr (i + 1)) (to (i + 1)) 1)) 18 (putF (rpVN S sl fr to (S 18) i) (fr (i + 1)) (to (i + 1)) ((S 4) (i + 1)))) ++ wK cy ad 16 (va_up (va_up S 17 (putF (rpKN S sl fr to (S 17) i) (fr (i + 1)) (to (i + 1)) 1)) 18 (putF (rpVN S sl fr to (S 18) i) (fr (i + 1)) (to (i + 1)) ((S 4) (i + 1))))) := hD
            refine lv_iinc (v := (nI ((i + 1) + 1))) (lv' := [(4, .int (nI ((i + 1) + 1))), (0, .ref (ad 1)), (1, .ref (ad 16)), (2, .int sl), (3, .int (nI t))]) hx hb dX3_replayInto_75 hl (k := 0) rfl (nI_1 (i + 1)) (by decide) rfl (fun ls hl => ?_)
            refine lv_goto (tgt := 7) hx hb dX3_replayInto_78 (by decide) ?_
            have e_13 : (putF (rpKN S sl fr to (S 17) i) (fr (i + 1)) (to (i + 1)) 1) = (rpKN S sl fr to (S 17) (i + 1)) := (by rw [rpKN, if_pos c30_5, if_neg c57_8])
            have e_14 : (putF (rpVN S sl fr to (S 18) i) (fr (i + 1)) (to (i + 1)) ((S 4) (i + 1))) = (rpVN S sl fr to (S 18) (i + 1)) := (if_pos c30_5).symm
            have hP : va_P D clW (wO cy ad I (va_up (va_up S 17 (rpKN S sl fr to (S 17) (i + 1))) 18 (rpVN S sl fr to (S 18) (i + 1))) ++ wK cy ad 16 (va_up (va_up S 17 (rpKN S sl fr to (S 17) (i + 1))) 18 (rpVN S sl fr to (S 18) (i + 1)))) H := by rw [← e_13, ← e_14]; exact hP
            have hD : va_D A (wO cy ad I (va_up (va_up S 17 (rpKN S sl fr to (S 17) (i + 1))) 18 (rpVN S sl fr to (S 18) (i + 1))) ++ wK cy ad 16 (va_up (va_up S 17 (rpKN S sl fr to (S 17) (i + 1))) 18 (rpVN S sl fr to (S 18) (i + 1)))) := hD.addr rfl
            exact ih7 (i + 1) (by omega) (by omega) _ _ hP hD hS ls (lv_sub hl [0, 1, 2, 3, 4] rfl)
  have e_15 : (putF (S 17) 0 100 0) = (rpKN S sl fr to (S 17) 0) := rfl
  have e_16 : (putF (S 18) 0 100 0) = (rpVN S sl fr to (S 18) 0) := rfl
  have hP : va_P D clW (wO cy ad I (va_up (va_up S 17 (rpKN S sl fr to (S 17) 0)) 18 (rpVN S sl fr to (S 18) 0)) ++ wK cy ad 16 (va_up (va_up S 17 (rpKN S sl fr to (S 17) 0)) 18 (rpVN S sl fr to (S 18) 0))) H := by rw [← e_15, ← e_16]; exact hP
  have hD : va_D A (wO cy ad I (va_up (va_up S 17 (rpKN S sl fr to (S 17) 0)) 18 (rpVN S sl fr to (S 18) 0)) ++ wK cy ad 16 (va_up (va_up S 17 (rpKN S sl fr to (S 17) 0)) 18 (rpVN S sl fr to (S 18) 0))) := hD.addr rfl
  exact L7 (t + 1) 0 (by omega) (by omega) _ _ hP hD hS ls (lv_sub hl [0, 1, 2, 3, 4] rfl)
set_option maxHeartbeats 4000000 in
set_option maxRecDepth 100000 in
theorem c_X3_replayInto_19 (l : Launch) (D : va_G) (cy : Nat → ClassId) (ad : Nat → Nat) (I : AI) (S : AS) (sz : Nat) (sl : Int32) (t : Nat) (n : Nat) (hn : I 1 = nI n) (hn6 : n ≤ 60) (ht : t ≤ n) (fr : Nat → Nat) (to : Nat → Nat) (hfr : ∀ i : Nat, 1 ≤ i → i ≤ n → S 5 i = nI (fr i) ∧ S 6 i = nI (to i) ∧ fr i ≤ to i ∧ to i ≤ 100) : Met l yX3_replayInto (Cond.code yX3_replayInto cX3_replayInto 5 none :: wsL_law) ({ frames := 3, cells := 0, slots := 0, locals := 58 }) (va_Pc [.ref (ad 1), .ref (ad 19), .int sl, .int (nI t)] (wrB D cy (wO cy ad I S ++ wK cy ad 19 S) sz)) (va_Qv (S := Unit) (fun u => True) (fun u t9 => va_P D clW (wO cy ad I (va_up (va_up S 20 (rpKN S sl fr to (S 20) t)) 21 (rpVN S sl fr to (S 21) t)) ++ wK cy ad 19 (va_up (va_up S 20 (rpKN S sl fr to (S 20) t)) 21 (rpVN S sl fr to (S 21) t))) t9.heap) (va_A (wO cy ad I S ++ wK cy ad 19 S) sz)) 0 0 (va_A (wO cy ad I S ++ wK cy ad 19 S) sz) := by
  refine enter (cc := cX3_replayInto) (by decide) (Nat.le_of_ble_eq_true rfl) ?_
  intro p e s m below meth c hx hb hr hml hown hts hlocks hin hv Q hQ ls hl
  obtain ⟨hsz, hP, hK, hD0⟩ := hv
  subst hsz
  have hD := hD0.self (sz := s.heap.size)
  generalize hAe : va_A (wO cy ad I S ++ wK cy ad 19 S) s.heap.size = A at hD hQ ⊢
  have hA : ∀ q : Nat, s.heap.size ≤ q → A q := fun q h => by rw [← hAe]; exact Or.inr h
  have hS : va_S A s.heap s.heap [] := va_S.rf
  suffices K_ : ∀ (H : Heap) (locs : List Loc), va_P D clW (wO cy ad I S ++ wK cy ad 19 S) H → va_S A s.heap H locs → W p l e ({ frames := 3, cells := 0, slots := 0, locals := 58 }) s m ([.ref (ad 1), .ref (ad 19), .int sl, .int (nI t)] : List Value).toArray below meth c H locs 0 0 Q (F0 m 0 ls []) from K_ _ _ hP hS
  clear hP hS
  intro H locs hP hS
  have hown : s.vm.findClass RX3 = some m.cls := hown
  have hl : lv_has ls 5 [(0, .ref (ad 1)), (1, .ref (ad 19)), (2, .int sl), (3, .int (nI t))] := hl
  refine lv_aload_n hx hb dX3_replayInto_0 rfl (lv_at hl 1 rfl) ?_
  refine wV_call (va_runV (As := []) (rest := []) ⟨hx, hb, hml, hown, hts⟩ (c_X1_forget_19 l D cy ad S H.size) (cw_X3_36 hts rfl rfl ⟨Nat.le_of_ble_eq_true rfl, Nat.le_of_ble_eq_true rfl⟩) (preVW (ci := 1) (q0 := 0) hK (hP.sub [6, 7, 8] rfl) (hD.sub [6, 7, 8] (by decide) rfl) rfl rfl) rfl rfl hl.1 rfl (lv_room (Nat.le_of_ble_eq_true rfl)) dX3_replayInto_1 ⟨Nat.le_of_ble_eq_true rfl, Nat.le_of_ble_eq_true rfl⟩) hP hD hS hA [6, 7, 8] rfl [.inl 0, .inl 1, .inl 2, .inl 3, .inl 4, .inl 5, .inr 0, .inr 1, .inr 2] (by decide) (fun u => (wO cy ad I (va_up (va_up S 20 (putF (S 20) 0 100 0)) 21 (putF (S 21) 0 100 0)) ++ wK cy ad 19 (va_up (va_up S 20 (putF (S 20) 0 100 0)) 21 (putF (S 21) 0 100 0)))) (fun _ => rfl) (fun _ => rfl) (fun u1_1 H locs q1_1 hP hD hS hkp => ?_)
  have hP : va_P D clW (wO cy ad I (va_up (va_up S 20 (putF (S 20) 0 100 0)) 21 (putF (S 21) 0 100 0)) ++ wK cy ad 19 (va_up (va_up S 20 (putF (S 20) 0 100 0)) 21 (putF (S 21) 0 100 0))) H := hP
  have hD : va_D A (wO cy ad I (va_up (va_up S 20 (putF (S 20) 0 100 0)) 21 (putF (S 21) 0 100 0)) ++ wK cy ad 19 (va_up (va_up S 20 (putF (S 20) 0 100 0)) 21 (putF (S 21) 0 100 0))) := hD
  refine lv_iconst (v := 1) hx hb dX3_replayInto_4 (by decide) ?_
  refine lv_istore (lv' := [(4, .int 1), (0, .ref (ad 1)), (1, .ref (ad 19)), (2, .int sl), (3, .int (nI t))]) hx hb dX3_replayInto_5 hl (by decide) rfl (fun ls hl => ?_)
  have L7 : ∀ (n_7 i : Nat), i ≤ t → t + 1 ≤ i + n_7 → ∀ (H : Heap) (locs : List Loc), va_P D clW (wO cy ad I (va_up (va_up S 20 (rpKN S sl fr to (S 20) i)) 21 (rpVN S sl fr to (S 21) i)) ++ wK cy ad 19 (va_up (va_up S 20 (rpKN S sl fr to (S 20) i)) 21 (rpVN S sl fr to (S 21) i))) H → va_D A (wO cy ad I (va_up (va_up S 20 (rpKN S sl fr to (S 20) i)) 21 (rpVN S sl fr to (S 21) i)) ++ wK cy ad 19 (va_up (va_up S 20 (rpKN S sl fr to (S 20) i)) 21 (rpVN S sl fr to (S 21) i))) → va_S A s.heap H locs → ∀ (ls : Array Slot), lv_has ls 5 [(4, .int (nI (i + 1))), (0, .ref (ad 1)), (1, .ref (ad 19)), (2, .int sl), (3, .int (nI t))] → W p l e { frames := 3, cells := 0, slots := 0, locals := 58 } s m ([.ref (ad 1), .ref (ad 19), .int sl, .int (nI t)] : List Value).toArray below meth c H locs 0 0 Q (F0 m 7 ls []) := by
    clear hl
    intro n_7
    induction n_7 with
    | zero => intro i  hle_7 hn_7; exact absurd hn_7 (by omega)
    | succ n_7 ih7 =>
      intro i  hle_7 hn_7  H locs hP hD hS ls hl
      refine lv_iload hx hb dX3_replayInto_7 (lv_at hl 0 rfl) ?_
      refine lv_iload_n hx hb dX3_replayInto_9 rfl (lv_at hl 4 rfl) ?_
      refine lv_icmp_gt (tgt := 81) hx hb dX3_replayInto_10 (by decide) (fun c10_2 => ?_) (fun c10_2 => ?_)
      · have fi : t < i + 1 := nt_lt (a := t) (b := i + 1) (by omega) (by omega) c10_2
        have e_3 : (rpKN S sl fr to (S 20) i) = (rpKN S sl fr to (S 20) t) := (by rw [show i = t by omega])
        have e_4 : (rpVN S sl fr to (S 21) i) = (rpVN S sl fr to (S 21) t) := (by rw [show i = t by omega])
        have hP : va_P D clW (wO cy ad I (va_up (va_up S 20 (rpKN S sl fr to (S 20) t)) 21 (rpVN S sl fr to (S 21) t)) ++ wK cy ad 19 (va_up (va_up S 20 (rpKN S sl fr to (S 20) t)) 21 (rpVN S sl fr to (S 21) t))) H := by rw [← e_3, ← e_4]; exact hP
        have hD : va_D A (wO cy ad I (va_up (va_up S 20 (rpKN S sl fr to (S 20) t)) 21 (rpVN S sl fr to (S 21) t)) ++ wK cy ad 19 (va_up (va_up S 20 (rpKN S sl fr to (S 20) t)) 21 (rpVN S sl fr to (S 21) t))) := hD.addr rfl
        exact wV_ret () hS hP hx hb hr hlocks dX3_replayInto_81 (Nat.le_of_ble_eq_true rfl) (Nat.le_of_ble_eq_true rfl) hQ trivial
      · have fi : i + 1 ≤ t := nt_nlt (a := t) (b := i + 1) (by omega) (by omega) c10_2
        have hfi := hfr (i + 1) (by omega) (by omega)
        refine lv_iload hx hb dX3_replayInto_13 (lv_at hl 0 rfl) ?_
        refine lv_aload_n hx hb dX3_replayInto_15 rfl (lv_at hl 1 rfl) ?_
        refine gf_X3_28 hx hb hts hown hK hP 0 rfl (v := .int (I 1)) rfl dX3_replayInto_16 ?_
        refine top_eq hn ?_
        refine lv_icmp_gt (tgt := 81) hx hb dX3_replayInto_19 (by decide) (fun c => absurd c (nd_nlt (a := n) (b := (i + 1)) (by omega) (by omega) (by omega))) (fun _ => ?_)
        refine lv_aload_n hx hb dX3_replayInto_22 rfl (lv_at hl 1 rfl) ?_
        refine gf_X3_15 hx hb hts hown hK hP 0 rfl (v := .ref (ad 3)) rfl dX3_replayInto_23 ?_
        refine lv_iload hx hb dX3_replayInto_26 (lv_at hl 0 rfl) ?_
        refine ald_I (f := (S 3)) hx hb hK hP 2 rfl (i := (i + 1)) (by omega) (by decide) dX3_replayInto_28 ?_
        refine lv_iload_n hx hb dX3_replayInto_29 rfl (lv_at hl 3 rfl) ?_
        refine lv_icmp_ne (tgt := 75) hx hb dX3_replayInto_30 (by decide) (fun c30_5 => ?_) (fun c30_5 => ?_)
        · refine lv_iinc (v := (nI ((i + 1) + 1))) (lv' := [(4, .int (nI ((i + 1) + 1))), (0, .ref (ad 1)), (1, .ref (ad 19)), (2, .int sl), (3, .int (nI t))]) hx hb dX3_replayInto_75 hl (k := 0) rfl (nI_1 (i + 1)) (by decide) rfl (fun ls hl => ?_)
          refine lv_goto (tgt := 7) hx hb dX3_replayInto_78 (by decide) ?_
          have e_6 : (rpKN S sl fr to (S 20) i) = (rpKN S sl fr to (S 20) (i + 1)) := (if_neg c30_5).symm
          have e_7 : (rpVN S sl fr to (S 21) i) = (rpVN S sl fr to (S 21) (i + 1)) := (if_neg c30_5).symm
          have hP : va_P D clW (wO cy ad I (va_up (va_up S 20 (rpKN S sl fr to (S 20) (i + 1))) 21 (rpVN S sl fr to (S 21) (i + 1))) ++ wK cy ad 19 (va_up (va_up S 20 (rpKN S sl fr to (S 20) (i + 1))) 21 (rpVN S sl fr to (S 21) (i + 1)))) H := by rw [← e_6, ← e_7]; exact hP
          have hD : va_D A (wO cy ad I (va_up (va_up S 20 (rpKN S sl fr to (S 20) (i + 1))) 21 (rpVN S sl fr to (S 21) (i + 1))) ++ wK cy ad 19 (va_up (va_up S 20 (rpKN S sl fr to (S 20) (i + 1))) 21 (rpVN S sl fr to (S 21) (i + 1)))) := hD.addr rfl
          exact ih7 (i + 1) (by omega) (by omega) _ _ hP hD hS ls (lv_sub hl [0, 1, 2, 3, 4] rfl)
        · refine lv_aload_n hx hb dX3_replayInto_33 rfl (lv_at hl 2 rfl) ?_
          refine lv_aload_n hx hb dX3_replayInto_34 rfl (lv_at hl 1 rfl) ?_
          refine gf_X3_22 hx hb hts hown hK hP 0 rfl (v := .ref (ad 5)) rfl dX3_replayInto_35 ?_
          refine lv_iload hx hb dX3_replayInto_38 (lv_at hl 0 rfl) ?_
          refine ald_I (f := (S 5)) hx hb hK hP 4 rfl (i := (i + 1)) (by omega) (by decide) dX3_replayInto_40 ?_
          refine top_eq (y := nI (fr (i + 1))) hfi.1 ?_
          refine lv_aload_n hx hb dX3_replayInto_41 rfl (lv_at hl 1 rfl) ?_
          refine gf_X3_25 hx hb hts hown hK hP 0 rfl (v := .ref (ad 6)) rfl dX3_replayInto_42 ?_
          refine lv_iload hx hb dX3_replayInto_45 (lv_at hl 0 rfl) ?_
          refine ald_I (f := (S 6)) hx hb hK hP 5 rfl (i := (i + 1)) (by omega) (by decide) dX3_replayInto_47 ?_
          refine top_eq (y := nI (to (i + 1))) hfi.2.1 ?_
          refine lv_aload_n hx hb dX3_replayInto_48 rfl (lv_at hl 1 rfl) ?_
          refine gf_X3_9 hx hb hts hown hK hP 0 rfl (v := .ref (ad 2)) rfl dX3_replayInto_49 ?_
          refine lv_iload hx hb dX3_replayInto_52 (lv_at hl 0 rfl) ?_
          refine ald_C (f := (S 2)) hx hb hK hP 1 rfl (i := (i + 1)) (by omega) (by decide) dX3_replayInto_54 ?_
          refine lv_bipush (v := 114) hx hb dX3_replayInto_55 (by decide) ?_
          refine lv_icmp_eq (tgt := 64) hx hb dX3_replayInto_57 (by decide) (fun c57_8 => ?_) (fun c57_8 => ?_)
          · refine lv_iconst (v := 0) hx hb dX3_replayInto_64 (by decide) ?_
            refine lv_aload_n hx hb dX3_replayInto_65 rfl (lv_at hl 1 rfl) ?_
            refine gf_X3_19 hx hb hts hown hK hP 0 rfl (v := .ref (ad 4)) rfl dX3_replayInto_66 ?_
            refine lv_iload hx hb dX3_replayInto_69 (lv_at hl 0 rfl) ?_
            refine ald_I (f := (S 4)) hx hb hK hP 3 rfl (i := (i + 1)) (by omega) (by decide) dX3_replayInto_71 ?_
            refine wV_call (va_runV (As := [.int (nI (fr (i + 1))), .int (nI (to (i + 1))), .int 0, .int ((S 4) (i + 1))]) (rest := []) ⟨hx, hb, hml, hown, hts⟩ (c_X1_put_19 l D cy ad (va_up (va_up S 20 (rpKN S sl fr to (S 20) i)) 21 (rpVN S sl fr to (S 21) i)) H.size (fr (i + 1)) (to (i + 1)) 0 ((S 4) (i + 1)) hfi.2.2.1 hfi.2.2.2 rfl) (cw_X3_41 hts rfl rfl ⟨Nat.le_of_ble_eq_true rfl, Nat.le_of_ble_eq_true rfl⟩) (preVW (ci := 1) (q0 := 0) hK (hP.sub [6, 7, 8] rfl) (hD.sub [6, 7, 8] (by decide) rfl) rfl rfl) rfl rfl hl.1 rfl (lv_room (Nat.le_of_ble_eq_true rfl)) dX3_replayInto_72 ⟨Nat.le_of_ble_eq_true rfl, Nat.le_of_ble_eq_true rfl⟩) hP hD hS hA [6, 7, 8] rfl [.inl 0, .inl 1, .inl 2, .inl 3, .inl 4, .inl 5, .inr 0, .inr 1, .inr 2] (by decide) (fun u => (wO cy ad I (va_up (va_up S 20 (putF (rpKN S sl fr to (S 20) i) (fr (i + 1)) (to (i + 1)) 0)) 21 (putF (rpVN S sl fr to (S 21) i) (fr (i + 1)) (to (i + 1)) ((S 4) (i + 1)))) ++ wK cy ad 19 (va_up (va_up S 20 (putF (rpKN S sl fr to (S 20) i) (fr (i + 1)) (to (i + 1)) 0)) 21 (putF (rpVN S sl fr to (S 21) i) (fr (i + 1)) (to (i + 1)) ((S 4) (i + 1)))))) (fun _ => rfl) (fun _ => rfl) (fun u72_9 H locs q72_9 hP hD hS hkp => ?_)
            have hP : va_P D clW (wO cy ad I (va_up (va_up S 20 (putF (rpKN S sl fr to (S 20) i) (fr (i + 1)) (to (i + 1)) 0)) 21 (putF (rpVN S sl fr to (S 21) i) (fr (i + 1)) (to (i + 1)) ((S 4) (i + 1)))) ++ wK cy ad 19 (va_up (va_up S 20 (putF (rpKN S sl fr to (S 20) i) (fr (i + 1)) (to (i + 1)) 0)) 21 (putF (rpVN S sl fr to (S 21) i) (fr (i + 1)) (to (i + 1)) ((S 4) (i + 1))))) H := hP
            have hD : va_D A (wO cy ad I (va_up (va_up S 20 (putF (rpKN S sl fr to (S 20) i) (fr (i + 1)) (to (i + 1)) 0)) 21 (putF (rpVN S sl fr to (S 21) i) (fr (i + 1)) (to (i + 1)) ((S 4) (i + 1)))) ++ wK cy ad 19 (va_up (va_up S 20 (putF (rpKN S sl fr to (S 20) i) (fr (i + 1)) (to (i + 1)) 0)) 21 (putF (rpVN S sl fr to (S 21) i) (fr (i + 1)) (to (i + 1)) ((S 4) (i + 1))))) := hD
            refine lv_iinc (v := (nI ((i + 1) + 1))) (lv' := [(4, .int (nI ((i + 1) + 1))), (0, .ref (ad 1)), (1, .ref (ad 19)), (2, .int sl), (3, .int (nI t))]) hx hb dX3_replayInto_75 hl (k := 0) rfl (nI_1 (i + 1)) (by decide) rfl (fun ls hl => ?_)
            refine lv_goto (tgt := 7) hx hb dX3_replayInto_78 (by decide) ?_
            have e_10 : (putF (rpKN S sl fr to (S 20) i) (fr (i + 1)) (to (i + 1)) 0) = (rpKN S sl fr to (S 20) (i + 1)) := (by rw [rpKN, if_pos c30_5, if_pos c57_8])
            have e_11 : (putF (rpVN S sl fr to (S 21) i) (fr (i + 1)) (to (i + 1)) ((S 4) (i + 1))) = (rpVN S sl fr to (S 21) (i + 1)) := (if_pos c30_5).symm
            have hP : va_P D clW (wO cy ad I (va_up (va_up S 20 (rpKN S sl fr to (S 20) (i + 1))) 21 (rpVN S sl fr to (S 21) (i + 1))) ++ wK cy ad 19 (va_up (va_up S 20 (rpKN S sl fr to (S 20) (i + 1))) 21 (rpVN S sl fr to (S 21) (i + 1)))) H := by rw [← e_10, ← e_11]; exact hP
            have hD : va_D A (wO cy ad I (va_up (va_up S 20 (rpKN S sl fr to (S 20) (i + 1))) 21 (rpVN S sl fr to (S 21) (i + 1))) ++ wK cy ad 19 (va_up (va_up S 20 (rpKN S sl fr to (S 20) (i + 1))) 21 (rpVN S sl fr to (S 21) (i + 1)))) := hD.addr rfl
            exact ih7 (i + 1) (by omega) (by omega) _ _ hP hD hS ls (lv_sub hl [0, 1, 2, 3, 4] rfl)
          · refine lv_iconst (v := 1) hx hb dX3_replayInto_60 (by decide) ?_
            refine lv_goto (tgt := 65) hx hb dX3_replayInto_61 (by decide) ?_
            refine lv_aload_n hx hb dX3_replayInto_65 rfl (lv_at hl 1 rfl) ?_
            refine gf_X3_19 hx hb hts hown hK hP 0 rfl (v := .ref (ad 4)) rfl dX3_replayInto_66 ?_
            refine lv_iload hx hb dX3_replayInto_69 (lv_at hl 0 rfl) ?_
            refine ald_I (f := (S 4)) hx hb hK hP 3 rfl (i := (i + 1)) (by omega) (by decide) dX3_replayInto_71 ?_
            refine wV_call (va_runV (As := [.int (nI (fr (i + 1))), .int (nI (to (i + 1))), .int 1, .int ((S 4) (i + 1))]) (rest := []) ⟨hx, hb, hml, hown, hts⟩ (c_X1_put_19 l D cy ad (va_up (va_up S 20 (rpKN S sl fr to (S 20) i)) 21 (rpVN S sl fr to (S 21) i)) H.size (fr (i + 1)) (to (i + 1)) 1 ((S 4) (i + 1)) hfi.2.2.1 hfi.2.2.2 rfl) (cw_X3_41 hts rfl rfl ⟨Nat.le_of_ble_eq_true rfl, Nat.le_of_ble_eq_true rfl⟩) (preVW (ci := 1) (q0 := 0) hK (hP.sub [6, 7, 8] rfl) (hD.sub [6, 7, 8] (by decide) rfl) rfl rfl) rfl rfl hl.1 rfl (lv_room (Nat.le_of_ble_eq_true rfl)) dX3_replayInto_72 ⟨Nat.le_of_ble_eq_true rfl, Nat.le_of_ble_eq_true rfl⟩) hP hD hS hA [6, 7, 8] rfl [.inl 0, .inl 1, .inl 2, .inl 3, .inl 4, .inl 5, .inr 0, .inr 1, .inr 2] (by decide) (fun u => (wO cy ad I (va_up (va_up S 20 (putF (rpKN S sl fr to (S 20) i) (fr (i + 1)) (to (i + 1)) 1)) 21 (putF (rpVN S sl fr to (S 21) i) (fr (i + 1)) (to (i + 1)) ((S 4) (i + 1)))) ++ wK cy ad 19 (va_up (va_up S 20 (putF (rpKN S sl fr to (S 20) i) (fr (i + 1)) (to (i + 1)) 1)) 21 (putF (rpVN S sl fr to (S 21) i) (fr (i + 1)) (to (i + 1)) ((S 4) (i + 1)))))) (fun _ => rfl) (fun _ => rfl) (fun u72_12 H locs q72_12 hP hD hS hkp => ?_)
            have hP : va_P D clW (wO cy ad I (va_up (va_up S 20 (putF (rpKN S sl fr to (S 20) i) (fr (i + 1)) (to (i + 1)) 1)) 21 (putF (rpVN S sl fr to (S 21) i) (fr (i + 1)) (to (i + 1)) ((S 4) (i + 1)))) ++ wK cy ad 19 (va_up (va_up S 20 (putF (rpKN S sl fr to (S 20) i) (fr (i + 1)) (to (i + 1)) 1)) 21 (putF (rpVN S sl fr to (S 21) i) (fr (i + 1)) (to (i + 1)) ((S 4) (i + 1))))) H := hP
            have hD : va_D A (wO cy ad I (va_up (va_up S 20 (putF (rpKN S sl fr to (S 20) i) (fr (i + 1)) (to (i + 1)) 1)) 21 (putF (rpVN S sl fr to (S 21) i) (fr (i + 1)) (to (i + 1)) ((S 4) (i + 1)))) ++ wK cy ad 19 (va_up (va_up S 20 (putF (rpKN S sl fr to (S 20) i) (fr (i + 1)) (to (i + 1)) 1)) 21 (putF (rpVN S sl fr to (S 21) i) (fr (i + 1)) (to (i + 1)) ((S 4) (i + 1))))) := hD
            refine lv_iinc (v := (nI ((i + 1) + 1))) (lv' := [(4, .int (nI ((i + 1) + 1))), (0, .ref (ad 1)), (1, .ref (ad 19)), (2, .int sl), (3, .int (nI t))]) hx hb dX3_replayInto_75 hl (k := 0) rfl (nI_1 (i + 1)) (by decide) rfl (fun ls hl => ?_)
            refine lv_goto (tgt := 7) hx hb dX3_replayInto_78 (by decide) ?_
            have e_13 : (putF (rpKN S sl fr to (S 20) i) (fr (i + 1)) (to (i + 1)) 1) = (rpKN S sl fr to (S 20) (i + 1)) := (by rw [rpKN, if_pos c30_5, if_neg c57_8])
            have e_14 : (putF (rpVN S sl fr to (S 21) i) (fr (i + 1)) (to (i + 1)) ((S 4) (i + 1))) = (rpVN S sl fr to (S 21) (i + 1)) := (if_pos c30_5).symm
            have hP : va_P D clW (wO cy ad I (va_up (va_up S 20 (rpKN S sl fr to (S 20) (i + 1))) 21 (rpVN S sl fr to (S 21) (i + 1))) ++ wK cy ad 19 (va_up (va_up S 20 (rpKN S sl fr to (S 20) (i + 1))) 21 (rpVN S sl fr to (S 21) (i + 1)))) H := by rw [← e_13, ← e_14]; exact hP
            have hD : va_D A (wO cy ad I (va_up (va_up S 20 (rpKN S sl fr to (S 20) (i + 1))) 21 (rpVN S sl fr to (S 21) (i + 1))) ++ wK cy ad 19 (va_up (va_up S 20 (rpKN S sl fr to (S 20) (i + 1))) 21 (rpVN S sl fr to (S 21) (i + 1)))) := hD.addr rfl
            exact ih7 (i + 1) (by omega) (by omega) _ _ hP hD hS ls (lv_sub hl [0, 1, 2, 3, 4] rfl)
  have e_15 : (putF (S 20) 0 100 0) = (rpKN S sl fr to (S 20) 0) := rfl
  have e_16 : (putF (S 21) 0 100 0) = (rpVN S sl fr to (S 21) 0) := rfl
  have hP : va_P D clW (wO cy ad I (va_up (va_up S 20 (rpKN S sl fr to (S 20) 0)) 21 (rpVN S sl fr to (S 21) 0)) ++ wK cy ad 19 (va_up (va_up S 20 (rpKN S sl fr to (S 20) 0)) 21 (rpVN S sl fr to (S 21) 0))) H := by rw [← e_15, ← e_16]; exact hP
  have hD : va_D A (wO cy ad I (va_up (va_up S 20 (rpKN S sl fr to (S 20) 0)) 21 (rpVN S sl fr to (S 21) 0)) ++ wK cy ad 19 (va_up (va_up S 20 (rpKN S sl fr to (S 20) 0)) 21 (rpVN S sl fr to (S 21) 0))) := hD.addr rfl
  exact L7 (t + 1) 0 (by omega) (by omega) _ _ hP hD hS ls (lv_sub hl [0, 1, 2, 3, 4] rfl)
