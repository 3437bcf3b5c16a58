/-! the law's book -/
theorem gf_X7_7 {p : Program} {l : Launch} {e : Env} {R : Room} {s : State} {m : MethodId} {args : Array Value} {below : List Frame} {meth : Method} {c : Code} {H : Heap} {locs : List Loc} {cells slots : Nat} {Q : State → Prop} {cc : ByteArray} {pc : Nat} {ls : Array Slot} {rest : List Value} {D : va_G} {cy : Nat → ClassId} {a : Nat} {ws : va_W} (hx : p.tables.exec = Jvm.exec) (hb : c.code = cc) (hts : ∀ w ∈ wsL_law, w.before args s = true) (hown : s.vm.findClass RX7 = some m.cls) (hK : va_K D clW (tyW cy) s) (hP : va_P D clW ws H) (q0 : Nat) {fs : List Value} (he : ws[q0]? = some (a, .inr (7, fs))) {v : Value} (hv : fs[0]? = some v) (hdg : decode cc pc = .ok (.getfield 7, 3)) (kk : W p l e R s m args below meth c H locs cells slots Q (F0 m (pc + 3) ls (v :: rest))) : W p l e R s m args below meth c H locs cells slots Q (F0 m pc ls (.ref a :: rest)) := va_get (own := RX7) (ref := RX7) (C := RX7) (T := TX7) (N := 12) (ci := 7) hx hb hts inlX7 hown hK hP q0 he rfl 0 (by decide) (hts _ wm_87) (fun _ h => h) hv hdg kk
theorem gf_X7_13 {p : Program} {l : Launch} {e : Env} {R : Room} {s : State} {m : MethodId} {args : Array Value} {below : List Frame} {meth : Method} {c : Code} {H : Heap} {locs : List Loc} {cells slots : Nat} {Q : State → Prop} {cc : ByteArray} {pc : Nat} {ls : Array Slot} {rest : List Value} {D : va_G} {cy : Nat → ClassId} {a : Nat} {ws : va_W} (hx : p.tables.exec = Jvm.exec) (hb : c.code = cc) (hts : ∀ w ∈ wsL_law, w.before args s = true) (hown : s.vm.findClass RX7 = some m.cls) (hK : va_K D clW (tyW cy) s) (hP : va_P D clW ws H) (q0 : Nat) {fs : List Value} (he : ws[q0]? = some (a, .inr (7, fs))) {v : Value} (hv : fs[1]? = some v) (hdg : decode cc pc = .ok (.getfield 13, 3)) (kk : W p l e R s m args below meth c H locs cells slots Q (F0 m (pc + 3) ls (v :: rest))) : W p l e R s m args below meth c H locs cells slots Q (F0 m pc ls (.ref a :: rest)) := va_get (own := RX7) (ref := RX7) (C := RX7) (T := TX7) (N := 12) (ci := 7) hx hb hts inlX7 hown hK hP q0 he rfl 1 (by decide) (hts _ wm_88) (fun _ h => h) hv hdg kk
theorem gf_X7_16 {p : Program} {l : Launch} {e : Env} {R : Room} {s : State} {m : MethodId} {args : Array Value} {below : List Frame} {meth : Method} {c : Code} {H : Heap} {locs : List Loc} {cells slots : Nat} {Q : State → Prop} {cc : ByteArray} {pc : Nat} {ls : Array Slot} {rest : List Value} {D : va_G} {cy : Nat → ClassId} {a : Nat} {ws : va_W} (hx : p.tables.exec = Jvm.exec) (hb : c.code = cc) (hts : ∀ w ∈ wsL_law, w.before args s = true) (hown : s.vm.findClass RX7 = some m.cls) (hK : va_K D clW (tyW cy) s) (hP : va_P D clW ws H) (q0 : Nat) {fs : List Value} (he : ws[q0]? = some (a, .inr (7, fs))) {v : Value} (hv : fs[2]? = some v) (hdg : decode cc pc = .ok (.getfield 16, 3)) (kk : W p l e R s m args below meth c H locs cells slots Q (F0 m (pc + 3) ls (v :: rest))) : W p l e R s m args below meth c H locs cells slots Q (F0 m pc ls (.ref a :: rest)) := va_get (own := RX7) (ref := RX7) (C := RX7) (T := TX7) (N := 12) (ci := 7) hx hb hts inlX7 hown hK hP q0 he rfl 2 (by decide) (hts _ wm_89) (fun _ h => h) hv hdg kk
theorem gf_X7_19 {p : Program} {l : Launch} {e : Env} {R : Room} {s : State} {m : MethodId} {args : Array Value} {below : List Frame} {meth : Method} {c : Code} {H : Heap} {locs : List Loc} {cells slots : Nat} {Q : State → Prop} {cc : ByteArray} {pc : Nat} {ls : Array Slot} {rest : List Value} {D : va_G} {cy : Nat → ClassId} {a : Nat} {ws : va_W} (hx : p.tables.exec = Jvm.exec) (hb : c.code = cc) (hts : ∀ w ∈ wsL_law, w.before args s = true) (hown : s.vm.findClass RX7 = some m.cls) (hK : va_K D clW (tyW cy) s) (hP : va_P D clW ws H) (q0 : Nat) {fs : List Value} (he : ws[q0]? = some (a, .inr (7, fs))) {v : Value} (hv : fs[3]? = some v) (hdg : decode cc pc = .ok (.getfield 19, 3)) (kk : W p l e R s m args below meth c H locs cells slots Q (F0 m (pc + 3) ls (v :: rest))) : W p l e R s m args below meth c H locs cells slots Q (F0 m pc ls (.ref a :: rest)) := va_get (own := RX7) (ref := RX7) (C := RX7) (T := TX7) (N := 12) (ci := 7) hx hb hts inlX7 hown hK hP q0 he rfl 3 (by decide) (hts _ wm_90) (fun _ h => h) hv hdg kk
theorem gf_X7_22 {p : Program} {l : Launch} {e : Env} {R : Room} {s : State} {m : MethodId} {args : Array Value} {below : List Frame} {meth : Method} {c : Code} {H : Heap} {locs : List Loc} {cells slots : Nat} {Q : State → Prop} {cc : ByteArray} {pc : Nat} {ls : Array Slot} {rest : List Value} {D : va_G} {cy : Nat → ClassId} {a : Nat} {ws : va_W} (hx : p.tables.exec = Jvm.exec) (hb : c.code = cc) (hts : ∀ w ∈ wsL_law, w.before args s = true) (hown : s.vm.findClass RX7 = some m.cls) (hK : va_K D clW (tyW cy) s) (hP : va_P D clW ws H) (q0 : Nat) {fs : List Value} (he : ws[q0]? = some (a, .inr (7, fs))) {v : Value} (hv : fs[4]? = some v) (hdg : decode cc pc = .ok (.getfield 22, 3)) (kk : W p l e R s m args below meth c H locs cells slots Q (F0 m (pc + 3) ls (v :: rest))) : W p l e R s m args below meth c H locs cells slots Q (F0 m pc ls (.ref a :: rest)) := va_get (own := RX7) (ref := RX7) (C := RX7) (T := TX7) (N := 12) (ci := 7) hx hb hts inlX7 hown hK hP q0 he rfl 4 (by decide) (hts _ wm_91) (fun _ h => h) hv hdg kk
theorem gf_X7_25 {p : Program} {l : Launch} {e : Env} {R : Room} {s : State} {m : MethodId} {args : Array Value} {below : List Frame} {meth : Method} {c : Code} {H : Heap} {locs : List Loc} {cells slots : Nat} {Q : State → Prop} {cc : ByteArray} {pc : Nat} {ls : Array Slot} {rest : List Value} {D : va_G} {cy : Nat → ClassId} {a : Nat} {ws : va_W} (hx : p.tables.exec = Jvm.exec) (hb : c.code = cc) (hts : ∀ w ∈ wsL_law, w.before args s = true) (hown : s.vm.findClass RX7 = some m.cls) (hK : va_K D clW (tyW cy) s) (hP : va_P D clW ws H) (q0 : Nat) {fs : List Value} (he : ws[q0]? = some (a, .inr (7, fs))) {v : Value} (hv : fs[5]? = some v) (hdg : decode cc pc = .ok (.getfield 25, 3)) (kk : W p l e R s m args below meth c H locs cells slots Q (F0 m (pc + 3) ls (v :: rest))) : W p l e R s m args below meth c H locs cells slots Q (F0 m pc ls (.ref a :: rest)) := va_get (own := RX7) (ref := RX7) (C := RX7) (T := TX7) (N := 12) (ci := 7) hx hb hts inlX7 hown hK hP q0 he rfl 5 (by decide) (hts _ wm_92) (fun _ h => h) hv hdg kk
theorem gf_X7_32 {p : Program} {l : Launch} {e : Env} {R : Room} {s : State} {m : MethodId} {args : Array Value} {below : List Frame} {meth : Method} {c : Code} {H : Heap} {locs : List Loc} {cells slots : Nat} {Q : State → Prop} {cc : ByteArray} {pc : Nat} {ls : Array Slot} {rest : List Value} {D : va_G} {cy : Nat → ClassId} {a : Nat} {ws : va_W} (hx : p.tables.exec = Jvm.exec) (hb : c.code = cc) (hts : ∀ w ∈ wsL_law, w.before args s = true) (hown : s.vm.findClass RX7 = some m.cls) (hK : va_K D clW (tyW cy) s) (hP : va_P D clW ws H) (q0 : Nat) {fs : List Value} (he : ws[q0]? = some (a, .inr (7, fs))) {v : Value} (hv : fs[10]? = some v) (hdg : decode cc pc = .ok (.getfield 32, 3)) (kk : W p l e R s m args below meth c H locs cells slots Q (F0 m (pc + 3) ls (v :: rest))) : W p l e R s m args below meth c H locs cells slots Q (F0 m pc ls (.ref a :: rest)) := va_get (own := RX7) (ref := RX7) (C := RX7) (T := TX7) (N := 12) (ci := 7) hx hb hts inlX7 hown hK hP q0 he rfl 10 (by decide) (hts _ wm_94) (fun _ h => h) hv hdg kk
theorem gf_X7_36 {p : Program} {l : Launch} {e : Env} {R : Room} {s : State} {m : MethodId} {args : Array Value} {below : List Frame} {meth : Method} {c : Code} {H : Heap} {locs : List Loc} {cells slots : Nat} {Q : State → Prop} {cc : ByteArray} {pc : Nat} {ls : Array Slot} {rest : List Value} {D : va_G} {cy : Nat → ClassId} {a : Nat} {ws : va_W} (hx : p.tables.exec = Jvm.exec) (hb : c.code = cc) (hts : ∀ w ∈ wsL_law, w.before args s = true) (hown : s.vm.findClass RX7 = some m.cls) (hK : va_K D clW (tyW cy) s) (hP : va_P D clW ws H) (q0 : Nat) {fs : List Value} (he : ws[q0]? = some (a, .inr (7, fs))) {v : Value} (hv : fs[11]? = some v) (hdg : decode cc pc = .ok (.getfield 36, 3)) (kk : W p l e R s m args below meth c H locs cells slots Q (F0 m (pc + 3) ls (v :: rest))) : W p l e R s m args below meth c H locs cells slots Q (F0 m pc ls (.ref a :: rest)) := va_get (own := RX7) (ref := RX7) (C := RX7) (T := TX7) (N := 12) (ci := 7) hx hb hts inlX7 hown hK hP q0 he rfl 11 (by decide) (hts _ wm_95) (fun _ h => h) hv hdg kk
theorem gf_X7_39 {p : Program} {l : Launch} {e : Env} {R : Room} {s : State} {m : MethodId} {args : Array Value} {below : List Frame} {meth : Method} {c : Code} {H : Heap} {locs : List Loc} {cells slots : Nat} {Q : State → Prop} {cc : ByteArray} {pc : Nat} {ls : Array Slot} {rest : List Value} {D : va_G} {cy : Nat → ClassId} {a : Nat} {ws : va_W} (hx : p.tables.exec = Jvm.exec) (hb : c.code = cc) (hts : ∀ w ∈ wsL_law, w.before args s = true) (hown : s.vm.findClass RX7 = some m.cls) (hK : va_K D clW (tyW cy) s) (hP : va_P D clW ws H) (q0 : Nat) {fs : List Value} (he : ws[q0]? = some (a, .inr (7, fs))) {v : Value} (hv : fs[7]? = some v) (hdg : decode cc pc = .ok (.getfield 39, 3)) (kk : W p l e R s m args below meth c H locs cells slots Q (F0 m (pc + 3) ls (v :: rest))) : W p l e R s m args below meth c H locs cells slots Q (F0 m pc ls (.ref a :: rest)) := va_get (own := RX7) (ref := RX7) (C := RX7) (T := TX7) (N := 12) (ci := 7) hx hb hts inlX7 hown hK hP q0 he rfl 7 (by decide) (hts _ wm_122) (fun _ h => h) hv hdg kk
theorem pf_X7_39 {p : Program} {l : Launch} {e : Env} {R : Room} {s : State} {m : MethodId} {args : Array Value} {below : List Frame} {meth : Method} {c : Code} {H : Heap} {locs : List Loc} {cells slots : Nat} {Q : State → Prop} {cc : ByteArray} {pc : Nat} {ls : Array Slot} {rest : List Value} {D : va_G} {cy : Nat → ClassId} {a : Nat} {ws : va_W} {A : Nat → Prop} {H0 : Heap} (hx : p.tables.exec = Jvm.exec) (hb : c.code = cc) (hts : ∀ w ∈ wsL_law, w.before args s = true) (hown : s.vm.findClass RX7 = some m.cls) (hK : va_K D clW (tyW cy) s) (hP : va_P D clW ws H) (hD : va_D A ws) (hS : va_S A H0 H locs) (q0 : Nat) {fs : List Value} (he : ws[q0]? = some (a, .inr (7, fs))) {x : Int32} (hl : 7 < fs.length) (hdg : decode cc pc = .ok (.putfield 39, 3)) (kk : ∀ (H1 : Heap) (locs1 : List Loc), va_P D clW (ws.set q0 (a, .inr (7, fs.set 7 (.int x)))) H1 → va_D A (ws.set q0 (a, .inr (7, fs.set 7 (.int x)))) → va_S A H0 H1 locs1 → W p l e R s m args below meth c H1 locs1 cells slots Q (F0 m (pc + 3) ls rest)) : W p l e R s m args below meth c H locs cells slots Q (F0 m pc ls (.int x :: .ref a :: rest)) := va_put (own := RX7) (ref := RX7) (C := RX7) (T := TX7) (N := 12) (ci := 7) (ty := .int) hx hb hts inlX7 tyX7 tyX7_ok nmX7 hown hK hP hD hS q0 he rfl 7 (by decide) (hts _ wm_122) (fun _ h => h) rfl (by decide +kernel) rfl rfl hl hdg kk
theorem gf_X7_43 {p : Program} {l : Launch} {e : Env} {R : Room} {s : State} {m : MethodId} {args : Array Value} {below : List Frame} {meth : Method} {c : Code} {H : Heap} {locs : List Loc} {cells slots : Nat} {Q : State → Prop} {cc : ByteArray} {pc : Nat} {ls : Array Slot} {rest : List Value} {D : va_G} {cy : Nat → ClassId} {a : Nat} {ws : va_W} (hx : p.tables.exec = Jvm.exec) (hb : c.code = cc) (hts : ∀ w ∈ wsL_law, w.before args s = true) (hown : s.vm.findClass RX7 = some m.cls) (hK : va_K D clW (tyW cy) s) (hP : va_P D clW ws H) (q0 : Nat) {fs : List Value} (he : ws[q0]? = some (a, .inr (7, fs))) {v : Value} (hv : fs[8]? = some v) (hdg : decode cc pc = .ok (.getfield 43, 3)) (kk : W p l e R s m args below meth c H locs cells slots Q (F0 m (pc + 3) ls (v :: rest))) : W p l e R s m args below meth c H locs cells slots Q (F0 m pc ls (.ref a :: rest)) := va_get (own := RX7) (ref := RX7) (C := RX7) (T := TX7) (N := 12) (ci := 7) hx hb hts inlX7 hown hK hP q0 he rfl 8 (by decide) (hts _ wm_135) (fun _ h => h) hv hdg kk
theorem pf_X7_43 {p : Program} {l : Launch} {e : Env} {R : Room} {s : State} {m : MethodId} {args : Array Value} {below : List Frame} {meth : Method} {c : Code} {H : Heap} {locs : List Loc} {cells slots : Nat} {Q : State → Prop} {cc : ByteArray} {pc : Nat} {ls : Array Slot} {rest : List Value} {D : va_G} {cy : Nat → ClassId} {a : Nat} {ws : va_W} {A : Nat → Prop} {H0 : Heap} (hx : p.tables.exec = Jvm.exec) (hb : c.code = cc) (hts : ∀ w ∈ wsL_law, w.before args s = true) (hown : s.vm.findClass RX7 = some m.cls) (hK : va_K D clW (tyW cy) s) (hP : va_P D clW ws H) (hD : va_D A ws) (hS : va_S A H0 H locs) (q0 : Nat) {fs : List Value} (he : ws[q0]? = some (a, .inr (7, fs))) {x : Int32} (hl : 8 < fs.length) (hdg : decode cc pc = .ok (.putfield 43, 3)) (kk : ∀ (H1 : Heap) (locs1 : List Loc), va_P D clW (ws.set q0 (a, .inr (7, fs.set 8 (.int x)))) H1 → va_D A (ws.set q0 (a, .inr (7, fs.set 8 (.int x)))) → va_S A H0 H1 locs1 → W p l e R s m args below meth c H1 locs1 cells slots Q (F0 m (pc + 3) ls rest)) : W p l e R s m args below meth c H locs cells slots Q (F0 m pc ls (.int x :: .ref a :: rest)) := va_put (own := RX7) (ref := RX7) (C := RX7) (T := TX7) (N := 12) (ci := 7) (ty := .int) hx hb hts inlX7 tyX7 tyX7_ok nmX7 hown hK hP hD hS q0 he rfl 8 (by decide) (hts _ wm_135) (fun _ h => h) rfl (by decide +kernel) rfl rfl hl hdg kk
theorem cw_X7_46 {R : Room} {s : State} {args : Array Value} {rm : Room} {mc ms : Nat} (hts : ∀ w ∈ wsL_law, w.before args s = true) (hrc : rm.cells = mc) (hrs : rm.slots = ms) (hR : rm.frames + 1 ≤ R.frames ∧ 8 + (5 + 11) + rm.locals ≤ R.locals) : CallW R s args RX7 RX7 46 yX7_isHit cX7_isHit 5 (some .boolean) (Cond.code yX7_isHit cX7_isHit 5 (some .boolean) :: wsL_law) rm mc ms 4 := cwV 4 hts (gUV wm_127 wm_128 wm_129 wm_5 wm_130) rfl hrc hrs (by decide +kernel) hR
set_option maxHeartbeats 4000000 in
set_option maxRecDepth 100000 in
theorem c_X7_open (l : Launch) (D : va_G) (cy : Nat → ClassId) (ad : Nat → Nat) (I : AI) (S : AS) (sz : Nat) (x : Int32) (v : Int32) (a : Int32) (b : Int32) (k : Nat) (hk : I 0 = nI k) (hk9 : k < 120) : Met l yX7_open (Cond.code yX7_open cX7_open 5 none :: wsL_law) ({ frames := 0, cells := 0, slots := 0, locals := 0 }) (va_Pc [.ref (ad 0), .int x, .int v, .int a, .int b] (wrB D cy (wM cy ad I S) sz)) (va_Qv (S := Unit) (fun u => True) (fun u t9 => va_P D clW (wM cy ad (va_up I 0 (nI (k + 1))) (va_up (va_up (va_up (va_up (va_up (va_up S 1 (upd (S 1) k x)) 2 (upd (S 2) k v)) 3 (upd (S 3) k a)) 4 (upd (S 4) k b)) 5 (upd (S 5) k (I 1))) 6 (upd (S 6) k (-1)))) t9.heap) (va_A (wM cy ad I S) sz)) 0 0 (va_A (wM cy ad I S) sz) := by
  refine enter (cc := cX7_open) (by decide) (Nat.le_of_ble_eq_true rfl) ?_
  intro p e s m below meth c hx hb hr hml hown hts hlocks hin hv Q hQ ls hl
  obtain ⟨hsz, hP, hK, hD0⟩ := hv
  subst hsz
  have hD := hD0.self (sz := s.heap.size)
  generalize hAe : va_A (wM cy ad I S) s.heap.size = A at hD hQ ⊢
  have hA : ∀ q : Nat, s.heap.size ≤ q → A q := fun q h => by rw [← hAe]; exact Or.inr h
  have hS : va_S A s.heap s.heap [] := va_S.rf
  suffices K_ : ∀ (H : Heap) (locs : List Loc), va_P D clW (wM cy ad I S) H → va_S A s.heap H locs → W p l e ({ frames := 0, cells := 0, slots := 0, locals := 0 }) s m ([.ref (ad 0), .int x, .int v, .int a, .int b] : List Value).toArray below meth c H locs 0 0 Q (F0 m 0 ls []) from K_ _ _ hP hS
  clear hP hS
  intro H locs hP hS
  have hown : s.vm.findClass RX7 = some m.cls := hown
  have hl : lv_has ls 5 [(0, .ref (ad 0)), (1, .int x), (2, .int v), (3, .int a), (4, .int b)] := hl
  refine lv_aload_n hx hb dX7_open_0 rfl (lv_at hl 0 rfl) ?_
  refine gf_X7_7 hx hb hts hown hK hP 0 rfl (v := .ref (ad 1)) rfl dX7_open_1 ?_
  refine lv_aload_n hx hb dX7_open_4 rfl (lv_at hl 0 rfl) ?_
  refine gf_X7_39 hx hb hts hown hK hP 0 rfl (v := .int (I 0)) rfl dX7_open_5 ?_
  refine top_eq hk ?_
  refine lv_iload_n hx hb dX7_open_8 rfl (lv_at hl 1 rfl) ?_
  refine ast_I hx hb hK hP hD hS 1 rfl (i := k) (x := x) (by omega) (by decide) dX7_open_9 (fun H locs hP hD hS => ?_)
  have hP : va_P D clW (wM cy ad I (va_up S 1 (upd (S 1) k x))) H := hP
  have hD : va_D A (wM cy ad I (va_up S 1 (upd (S 1) k x))) := hD
  refine lv_aload_n hx hb dX7_open_10 rfl (lv_at hl 0 rfl) ?_
  refine gf_X7_13 hx hb hts hown hK hP 0 rfl (v := .ref (ad 2)) rfl dX7_open_11 ?_
  refine lv_aload_n hx hb dX7_open_14 rfl (lv_at hl 0 rfl) ?_
  refine gf_X7_39 hx hb hts hown hK hP 0 rfl (v := .int (I 0)) rfl dX7_open_15 ?_
  refine top_eq hk ?_
  refine lv_iload_n hx hb dX7_open_18 rfl (lv_at hl 2 rfl) ?_
  refine ast_I hx hb hK hP hD hS 2 rfl (i := k) (x := v) (by omega) (by decide) dX7_open_19 (fun H locs hP hD hS => ?_)
  have hP : va_P D clW (wM cy ad I (va_up (va_up S 1 (upd (S 1) k x)) 2 (upd (S 2) k v))) H := hP
  have hD : va_D A (wM cy ad I (va_up (va_up S 1 (upd (S 1) k x)) 2 (upd (S 2) k v))) := hD
  refine lv_aload_n hx hb dX7_open_20 rfl (lv_at hl 0 rfl) ?_
  refine gf_X7_16 hx hb hts hown hK hP 0 rfl (v := .ref (ad 3)) rfl dX7_open_21 ?_
  refine lv_aload_n hx hb dX7_open_24 rfl (lv_at hl 0 rfl) ?_
  refine gf_X7_39 hx hb hts hown hK hP 0 rfl (v := .int (I 0)) rfl dX7_open_25 ?_
  refine top_eq hk ?_
  refine lv_iload_n hx hb dX7_open_28 rfl (lv_at hl 3 rfl) ?_
  refine ast_I hx hb hK hP hD hS 3 rfl (i := k) (x := a) (by omega) (by decide) dX7_open_29 (fun H locs hP hD hS => ?_)
  have hP : va_P D clW (wM cy ad I (va_up (va_up (va_up S 1 (upd (S 1) k x)) 2 (upd (S 2) k v)) 3 (upd (S 3) k a))) H := hP
  have hD : va_D A (wM cy ad I (va_up (va_up (va_up S 1 (upd (S 1) k x)) 2 (upd (S 2) k v)) 3 (upd (S 3) k a))) := hD
  refine lv_aload_n hx hb dX7_open_30 rfl (lv_at hl 0 rfl) ?_
  refine gf_X7_19 hx hb hts hown hK hP 0 rfl (v := .ref (ad 4)) rfl dX7_open_31 ?_
  refine lv_aload_n hx hb dX7_open_34 rfl (lv_at hl 0 rfl) ?_
  refine gf_X7_39 hx hb hts hown hK hP 0 rfl (v := .int (I 0)) rfl dX7_open_35 ?_
  refine top_eq hk ?_
  refine lv_iload hx hb dX7_open_38 (lv_at hl 4 rfl) ?_
  refine ast_I hx hb hK hP hD hS 4 rfl (i := k) (x := b) (by omega) (by decide) dX7_open_40 (fun H locs hP hD hS => ?_)
  have hP : va_P D clW (wM cy ad I (va_up (va_up (va_up (va_up S 1 (upd (S 1) k x)) 2 (upd (S 2) k v)) 3 (upd (S 3) k a)) 4 (upd (S 4) k b))) H := hP
  have hD : va_D A (wM cy ad I (va_up (va_up (va_up (va_up S 1 (upd (S 1) k x)) 2 (upd (S 2) k v)) 3 (upd (S 3) k a)) 4 (upd (S 4) k b))) := hD
  refine lv_aload_n hx hb dX7_open_41 rfl (lv_at hl 0 rfl) ?_
  refine gf_X7_22 hx hb hts hown hK hP 0 rfl (v := .ref (ad 5)) rfl dX7_open_42 ?_
  refine lv_aload_n hx hb dX7_open_45 rfl (lv_at hl 0 rfl) ?_
  refine gf_X7_39 hx hb hts hown hK hP 0 rfl (v := .int (I 0)) rfl dX7_open_46 ?_
  refine top_eq hk ?_
  refine lv_aload_n hx hb dX7_open_49 rfl (lv_at hl 0 rfl) ?_
  refine gf_X7_43 hx hb hts hown hK hP 0 rfl (v := .int (I 1)) rfl dX7_open_50 ?_
  refine ast_I hx hb hK hP hD hS 5 rfl (i := k) (x := (I 1)) (by omega) (by decide) dX7_open_53 (fun H locs hP hD hS => ?_)
  have hP : va_P D clW (wM cy ad I (va_up (va_up (va_up (va_up (va_up S 1 (upd (S 1) k x)) 2 (upd (S 2) k v)) 3 (upd (S 3) k a)) 4 (upd (S 4) k b)) 5 (upd (S 5) k (I 1)))) H := hP
  have hD : va_D A (wM cy ad I (va_up (va_up (va_up (va_up (va_up S 1 (upd (S 1) k x)) 2 (upd (S 2) k v)) 3 (upd (S 3) k a)) 4 (upd (S 4) k b)) 5 (upd (S 5) k (I 1)))) := hD
  refine lv_aload_n hx hb dX7_open_54 rfl (lv_at hl 0 rfl) ?_
  refine gf_X7_25 hx hb hts hown hK hP 0 rfl (v := .ref (ad 6)) rfl dX7_open_55 ?_
  refine lv_aload_n hx hb dX7_open_58 rfl (lv_at hl 0 rfl) ?_
  refine gf_X7_39 hx hb hts hown hK hP 0 rfl (v := .int (I 0)) rfl dX7_open_59 ?_
  refine top_eq hk ?_
  refine lv_iconst (v := (-1)) hx hb dX7_open_62 (by decide) ?_
  refine ast_I hx hb hK hP hD hS 6 rfl (i := k) (x := (-1)) (by omega) (by decide) dX7_open_63 (fun H locs hP hD hS => ?_)
  have hP : va_P D clW (wM cy ad I (va_up (va_up (va_up (va_up (va_up (va_up S 1 (upd (S 1) k x)) 2 (upd (S 2) k v)) 3 (upd (S 3) k a)) 4 (upd (S 4) k b)) 5 (upd (S 5) k (I 1))) 6 (upd (S 6) k (-1)))) H := hP
  have hD : va_D A (wM cy ad I (va_up (va_up (va_up (va_up (va_up (va_up S 1 (upd (S 1) k x)) 2 (upd (S 2) k v)) 3 (upd (S 3) k a)) 4 (upd (S 4) k b)) 5 (upd (S 5) k (I 1))) 6 (upd (S 6) k (-1)))) := hD
  refine lv_aload_n hx hb dX7_open_64 rfl (lv_at hl 0 rfl) ?_
  refine lv_dup hx hb dX7_open_65 rfl ?_
  refine gf_X7_39 hx hb hts hown hK hP 0 rfl (v := .int (I 0)) rfl dX7_open_66 ?_
  refine top_eq hk ?_
  refine lv_iconst (v := 1) hx hb dX7_open_69 (by decide) ?_
  refine lv_iadd hx hb dX7_open_70 ?_
  refine top_eq (y := nI (k + 1)) (nI_add k 1) ?_
  refine pf_X7_39 hx hb hts hown hK hP hD hS 0 rfl (Nat.le_of_ble_eq_true rfl) dX7_open_71 (fun H locs hP hD hS => ?_)
  have hP : va_P D clW (wM cy ad (va_up I 0 (nI (k + 1))) (va_up (va_up (va_up (va_up (va_up (va_up S 1 (upd (S 1) k x)) 2 (upd (S 2) k v)) 3 (upd (S 3) k a)) 4 (upd (S 4) k b)) 5 (upd (S 5) k (I 1))) 6 (upd (S 6) k (-1)))) H := hP
  have hD : va_D A (wM cy ad (va_up I 0 (nI (k + 1))) (va_up (va_up (va_up (va_up (va_up (va_up S 1 (upd (S 1) k x)) 2 (upd (S 2) k v)) 3 (upd (S 3) k a)) 4 (upd (S 4) k b)) 5 (upd (S 5) k (I 1))) 6 (upd (S 6) k (-1)))) := hD
  have hP : va_P D clW (wM cy ad (va_up I 0 (nI (k + 1))) (va_up (va_up (va_up (va_up (va_up (va_up S 1 (upd (S 1) k x)) 2 (upd (S 2) k v)) 3 (upd (S 3) k a)) 4 (upd (S 4) k b)) 5 (upd (S 5) k (I 1))) 6 (upd (S 6) k (-1)))) H := hP
  have hD : va_D A (wM cy ad (va_up I 0 (nI (k + 1))) (va_up (va_up (va_up (va_up (va_up (va_up S 1 (upd (S 1) k x)) 2 (upd (S 2) k v)) 3 (upd (S 3) k a)) 4 (upd (S 4) k b)) 5 (upd (S 5) k (I 1))) 6 (upd (S 6) k (-1)))) := hD.addr rfl
  exact wV_ret () hS hP hx hb hr hlocks dX7_open_74 (Nat.le_of_ble_eq_true rfl) (Nat.le_of_ble_eq_true rfl) hQ trivial

set_option maxHeartbeats 4000000 in
set_option maxRecDepth 100000 in
theorem c_X7_isHit (l : Launch) (D : va_G) (cy : Nat → ClassId) (ad : Nat → Nat) (I : AI) (S : AS) (i : Nat) (p9 : Int32) (a : Int32) (b : Int32) (hi : i < 120) : Met l yX7_isHit (Cond.code yX7_isHit cX7_isHit 5 (some .boolean) :: wsL_law) ({ frames := 0, cells := 0, slots := 0, locals := 0 }) (va_Pc [.ref (ad 0), .int (nI i), .int p9, .int a, .int b] (rdB D cy (wM cy ad I S))) (rdI (fun r => r = if hbP S p9 a b i then 1 else 0)) 0 0 noA := by
  refine enter (cc := cX7_isHit) (by decide) (Nat.le_of_ble_eq_true rfl) ?_
  intro p e s m below meth c hx hb hr hml hown hts hlocks hin hv Q hQ ls hl
  obtain ⟨hP, hK⟩ := hv
  have hown : s.vm.findClass RX7 = some m.cls := hown
  have hl : lv_has ls 5 [(0, .ref (ad 0)), (1, .int (nI i)), (2, .int p9), (3, .int a), (4, .int b)] := hl
  refine lv_aload_n hx hb dX7_isHit_0 rfl (lv_at hl 0 rfl) ?_
  refine gf_X7_7 hx hb hts hown hK hP 0 rfl (v := .ref (ad 1)) rfl dX7_isHit_1 ?_
  refine lv_iload_n hx hb dX7_isHit_4 rfl (lv_at hl 1 rfl) ?_
  refine ald_I (f := (S 1)) hx hb hK hP 1 rfl (i := i) (by omega) (by decide) dX7_isHit_5 ?_
  refine lv_iload_n hx hb dX7_isHit_6 rfl (lv_at hl 2 rfl) ?_
  refine lv_icmp_ne (tgt := 44) hx hb dX7_isHit_7 (by decide) (fun c7_1 => ?_) (fun c7_1 => ?_)
  · refine lv_iconst (v := 0) hx hb dX7_isHit_44 (by decide) ?_
    exact rZ_ret hx hb hr hlocks dX7_isHit_45 narZ0 hQ (by simp [hbP, c7_1])
  · refine lv_aload_n hx hb dX7_isHit_10 rfl (lv_at hl 0 rfl) ?_
    refine gf_X7_25 hx hb hts hown hK hP 0 rfl (v := .ref (ad 6)) rfl dX7_isHit_11 ?_
    refine lv_iload_n hx hb dX7_isHit_14 rfl (lv_at hl 1 rfl) ?_
    refine ald_I (f := (S 6)) hx hb hK hP 6 rfl (i := i) (by omega) (by decide) dX7_isHit_15 ?_
    refine lv_if_ge (tgt := 44) hx hb dX7_isHit_16 (by decide) (fun c16_2 => ?_) (fun c16_2 => ?_)
    · refine lv_iconst (v := 0) hx hb dX7_isHit_44 (by decide) ?_
      exact rZ_ret hx hb hr hlocks dX7_isHit_45 narZ0 hQ (by simp [hbP, c7_1, c16_2])
    · refine lv_aload_n hx hb dX7_isHit_19 rfl (lv_at hl 0 rfl) ?_
      refine gf_X7_16 hx hb hts hown hK hP 0 rfl (v := .ref (ad 3)) rfl dX7_isHit_20 ?_
      refine lv_iload_n hx hb dX7_isHit_23 rfl (lv_at hl 1 rfl) ?_
      refine ald_I (f := (S 3)) hx hb hK hP 3 rfl (i := i) (by omega) (by decide) dX7_isHit_24 ?_
      refine lv_iload hx hb dX7_isHit_25 (lv_at hl 4 rfl) ?_
      refine lv_icmp_ge (tgt := 44) hx hb dX7_isHit_27 (by decide) (fun c27_3 => ?_) (fun c27_3 => ?_)
      · refine lv_iconst (v := 0) hx hb dX7_isHit_44 (by decide) ?_
        exact rZ_ret hx hb hr hlocks dX7_isHit_45 narZ0 hQ (by simp [hbP, c7_1, c16_2, c27_3])
      · refine lv_iload_n hx hb dX7_isHit_30 rfl (lv_at hl 3 rfl) ?_
        refine lv_aload_n hx hb dX7_isHit_31 rfl (lv_at hl 0 rfl) ?_
        refine gf_X7_19 hx hb hts hown hK hP 0 rfl (v := .ref (ad 4)) rfl dX7_isHit_32 ?_
        refine lv_iload_n hx hb dX7_isHit_35 rfl (lv_at hl 1 rfl) ?_
        refine ald_I (f := (S 4)) hx hb hK hP 4 rfl (i := i) (by omega) (by decide) dX7_isHit_36 ?_
        refine lv_icmp_ge (tgt := 44) hx hb dX7_isHit_37 (by decide) (fun c37_4 => ?_) (fun c37_4 => ?_)
        · refine lv_iconst (v := 0) hx hb dX7_isHit_44 (by decide) ?_
          exact rZ_ret hx hb hr hlocks dX7_isHit_45 narZ0 hQ (by simp [hbP, c7_1, c16_2, c27_3, c37_4])
        · refine lv_iconst (v := 1) hx hb dX7_isHit_40 (by decide) ?_
          refine lv_goto (tgt := 45) hx hb dX7_isHit_41 (by decide) ?_
          exact rZ_ret hx hb hr hlocks dX7_isHit_45 narZ1 hQ (by simp [hbP, c7_1, c16_2, c27_3, c37_4])

set_option maxHeartbeats 4000000 in
set_option maxRecDepth 100000 in
theorem c_X7_begin (l : Launch) (D : va_G) (cy : Nat → ClassId) (ad : Nat → Nat) (I : AI) (S : AS) (sz : Nat) (z : Int32) (x : Int32) (n : Nat) (hn : I 1 = nI n) (hn4 : n + 1 < 40) (hz : vp_nar .char z = z) : Met l yX7_begin (Cond.code yX7_begin cX7_begin 3 none :: wsL_law) ({ frames := 0, cells := 0, slots := 0, locals := 0 }) (va_Pc [.ref (ad 0), .int z, .int x] (wrB D cy (wM cy ad I S) sz)) (va_Qv (S := Unit) (fun u => True) (fun u t9 => va_P D clW (wM cy ad (va_up I 1 (nI (n + 1))) (va_up (va_up S 8 (upd (S 8) (n + 1) z)) 9 (upd (S 9) (n + 1) x))) t9.heap) (va_A (wM cy ad I S) sz)) 0 0 (va_A (wM cy ad I S) sz) := by
  refine enter (cc := cX7_begin) (by decide) (Nat.le_of_ble_eq_true rfl) ?_
  intro p e s m below meth c hx hb hr hml hown hts hlocks hin hv Q hQ ls hl
  obtain ⟨hsz, hP, hK, hD0⟩ := hv
  subst hsz
  have hD := hD0.self (sz := s.heap.size)
  generalize hAe : va_A (wM cy ad I S) s.heap.size = A at hD hQ ⊢
  have hA : ∀ q : Nat, s.heap.size ≤ q → A q := fun q h => by rw [← hAe]; exact Or.inr h
  have hS : va_S A s.heap s.heap [] := va_S.rf
  suffices K_ : ∀ (H : Heap) (locs : List Loc), va_P D clW (wM cy ad I S) H → va_S A s.heap H locs → W p l e ({ frames := 0, cells := 0, slots := 0, locals := 0 }) s m ([.ref (ad 0), .int z, .int x] : List Value).toArray below meth c H locs 0 0 Q (F0 m 0 ls []) from K_ _ _ hP hS
  clear hP hS
  intro H locs hP hS
  have hown : s.vm.findClass RX7 = some m.cls := hown
  have hl : lv_has ls 3 [(0, .ref (ad 0)), (1, .int z), (2, .int x)] := hl
  refine lv_aload_n hx hb dX7_begin_0 rfl (lv_at hl 0 rfl) ?_
  refine lv_dup hx hb dX7_begin_1 rfl ?_
  refine gf_X7_43 hx hb hts hown hK hP 0 rfl (v := .int (I 1)) rfl dX7_begin_2 ?_
  refine top_eq hn ?_
  refine lv_iconst (v := 1) hx hb dX7_begin_5 (by decide) ?_
  refine lv_iadd hx hb dX7_begin_6 ?_
  refine top_eq (y := nI (n + 1)) (nI_add n 1) ?_
  refine pf_X7_43 hx hb hts hown hK hP hD hS 0 rfl (Nat.le_of_ble_eq_true rfl) dX7_begin_7 (fun H locs hP hD hS => ?_)
  have hP : va_P D clW (wM cy ad (va_up I 1 (nI (n + 1))) S) H := hP
  have hD : va_D A (wM cy ad (va_up I 1 (nI (n + 1))) S) := hD
  refine lv_aload_n hx hb dX7_begin_10 rfl (lv_at hl 0 rfl) ?_
  refine gf_X7_32 hx hb hts hown hK hP 0 rfl (v := .ref (ad 8)) rfl dX7_begin_11 ?_
  refine lv_aload_n hx hb dX7_begin_14 rfl (lv_at hl 0 rfl) ?_
  refine gf_X7_43 hx hb hts hown hK hP 0 rfl (v := .int (nI (n + 1))) rfl dX7_begin_15 ?_
  refine lv_iload_n hx hb dX7_begin_18 rfl (lv_at hl 1 rfl) ?_
  refine ast_C hx hb hK hP hD hS 8 rfl (i := (n + 1)) (x := z) (by omega) (by decide) hz dX7_begin_19 (fun H locs hP hD hS => ?_)
  have hP : va_P D clW (wM cy ad (va_up I 1 (nI (n + 1))) (va_up S 8 (upd (S 8) (n + 1) z))) H := hP
  have hD : va_D A (wM cy ad (va_up I 1 (nI (n + 1))) (va_up S 8 (upd (S 8) (n + 1) z))) := hD
  refine lv_aload_n hx hb dX7_begin_20 rfl (lv_at hl 0 rfl) ?_
  refine gf_X7_36 hx hb hts hown hK hP 0 rfl (v := .ref (ad 9)) rfl dX7_begin_21 ?_
  refine lv_aload_n hx hb dX7_begin_24 rfl (lv_at hl 0 rfl) ?_
  refine gf_X7_43 hx hb hts hown hK hP 0 rfl (v := .int (nI (n + 1))) rfl dX7_begin_25 ?_
  refine lv_iload_n hx hb dX7_begin_28 rfl (lv_at hl 2 rfl) ?_
  refine ast_I hx hb hK hP hD hS 9 rfl (i := (n + 1)) (x := x) (by omega) (by decide) dX7_begin_29 (fun H locs hP hD hS => ?_)
  have hP : va_P D clW (wM cy ad (va_up I 1 (nI (n + 1))) (va_up (va_up S 8 (upd (S 8) (n + 1) z)) 9 (upd (S 9) (n + 1) x))) H := hP
  have hD : va_D A (wM cy ad (va_up I 1 (nI (n + 1))) (va_up (va_up S 8 (upd (S 8) (n + 1) z)) 9 (upd (S 9) (n + 1) x))) := hD
  have hP : va_P D clW (wM cy ad (va_up I 1 (nI (n + 1))) (va_up (va_up S 8 (upd (S 8) (n + 1) z)) 9 (upd (S 9) (n + 1) x))) H := hP
  have hD : va_D A (wM cy ad (va_up I 1 (nI (n + 1))) (va_up (va_up S 8 (upd (S 8) (n + 1) z)) 9 (upd (S 9) (n + 1) x))) := hD.addr rfl
  exact wV_ret () hS hP hx hb hr hlocks dX7_begin_30 (Nat.le_of_ble_eq_true rfl) (Nat.le_of_ble_eq_true rfl) hQ trivial

set_option maxHeartbeats 4000000 in
set_option maxRecDepth 100000 in
theorem c_X7_close (l : Launch) (D : va_G) (cy : Nat → ClassId) (ad : Nat → Nat) (I : AI) (S : AS) (sz : Nat) (p9 : Int32) (a : Int32) (b : Int32) (k : Nat) (hk : I 0 = nI k) (hk9 : k < 120) (fa : Nat) (hfa : fa < 100) (hfr : ∀ i : Nat, i < k → S 3 i = nI fa) (hnot : ∀ i : Nat, i + 1 < k → ¬ hbP S p9 a b i) (hlast : 0 < k → hbP S p9 a b (k - 1)) (ha : a ≤ nI fa) (hb9 : ∀ i : Nat, i < k → S 4 i ≤ b) : Met l yX7_close (Cond.code yX7_close cX7_close 8 (some .int) :: wsL_law) ({ frames := 1, cells := 0, slots := 0, locals := 24 }) (va_Pc [.ref (ad 0), .int p9, .int a, .int b] (wrB D cy (wM cy ad I S) sz)) (va_Qi (S := Unit) (fun r u => r = (if 0 < k then 1 else 0)) (fun u t9 => va_P D clW (wM cy ad I (va_up S 6 (if 0 < k then upd (S 6) (k - 1) (I 1) else S 6))) t9.heap) (va_A (wM cy ad I S) sz)) 0 0 (va_A (wM cy ad I S) sz) := by
  refine enter (cc := cX7_close) (by decide) (Nat.le_of_ble_eq_true rfl) ?_
  intro p e s m below meth c hx hb hr hml hown hts hlocks hin hv Q hQ ls hl
  obtain ⟨hsz, hP, hK, hD0⟩ := hv
  subst hsz
  have hD := hD0.self (sz := s.heap.size)
  generalize hAe : va_A (wM cy ad I S) s.heap.size = A at hD hQ ⊢
  have hA : ∀ q : Nat, s.heap.size ≤ q → A q := fun q h => by rw [← hAe]; exact Or.inr h
  have hS : va_S A s.heap s.heap [] := va_S.rf
  suffices K_ : ∀ (H : Heap) (locs : List Loc), va_P D clW (wM cy ad I S) H → va_S A s.heap H locs → W p l e ({ frames := 1, cells := 0, slots := 0, locals := 24 }) s m ([.ref (ad 0), .int p9, .int a, .int b] : List Value).toArray below meth c H locs 0 0 Q (F0 m 0 ls []) from K_ _ _ hP hS
  clear hP hS
  intro H locs hP hS
  have hown : s.vm.findClass RX7 = some m.cls := hown
  have hl : lv_has ls 8 [(0, .ref (ad 0)), (1, .int p9), (2, .int a), (3, .int b)] := hl
  refine lv_aload_n hx hb dX7_close_0 rfl (lv_at hl 0 rfl) ?_
  refine gf_X7_39 hx hb hts hown hK hP 0 rfl (v := .int (I 0)) rfl dX7_close_1 ?_
  refine top_eq hk ?_
  refine lv_istore (lv' := [(4, .int (nI k)), (0, .ref (ad 0)), (1, .int p9), (2, .int a), (3, .int b)]) hx hb dX7_close_4 hl (by decide) rfl (fun ls hl => ?_)
  refine lv_iconst (v := 0) hx hb dX7_close_6 (by decide) ?_
  refine lv_istore (lv' := [(5, .int 0), (4, .int (nI k)), (0, .ref (ad 0)), (1, .int p9), (2, .int a), (3, .int b)]) hx hb dX7_close_7 hl (by decide) rfl (fun ls hl => ?_)
  refine lv_iconst (v := 0) hx hb dX7_close_9 (by decide) ?_
  refine lv_istore (lv' := [(6, .int 0), (5, .int 0), (4, .int (nI k)), (0, .ref (ad 0)), (1, .int p9), (2, .int a), (3, .int b)]) hx hb dX7_close_10 hl (by decide) rfl (fun ls hl => ?_)
  have hl : lv_has ls 8 [(6, .int 0), (5, .int (clR k fa 0 0)), (4, .int (nI k)), (0, .ref (ad 0)), (1, .int p9), (2, .int a), (3, .int b)] := by rw [clR_0]; exact hl
  have L12 : ∀ (n_12 d : Nat), d ≤ 100 → 100 + 1 ≤ d + n_12 → ∀ (H : Heap) (locs : List Loc), va_P D clW (wM cy ad I (va_up S 6 (clS (S 6) k fa (I 1) d 0))) H → va_D A (wM cy ad I (va_up S 6 (clS (S 6) k fa (I 1) d 0))) → va_S A s.heap H locs → ∀ (ls : Array Slot), lv_has ls 8 [(6, .int (nI d)), (5, .int (clR k fa d 0)), (4, .int (nI k)), (0, .ref (ad 0)), (1, .int p9), (2, .int a), (3, .int b)] → W p l e { frames := 1, cells := 0, slots := 0, locals := 24 } s m ([.ref (ad 0), .int p9, .int a, .int b] : List Value).toArray below meth c H locs 0 0 Q (F0 m 12 ls []) := by
    clear hl
    intro n_12
    induction n_12 with
    | zero => intro d  hle_12 hn_12; exact absurd hn_12 (by omega)
    | succ n_12 ih12 =>
      intro d  hle_12 hn_12  H locs hP hD hS ls hl
      refine lv_iload hx hb dX7_close_12 (lv_at hl 0 rfl) ?_
      refine lv_bipush (v := 100) hx hb dX7_close_14 (by decide) ?_
      refine lv_icmp_ge (tgt := 141) hx hb dX7_close_16 (by decide) (fun c16_1 => ?_) (fun c16_1 => ?_)
      · have f16_1 : 100 ≤ d := nt_le (a := 100) (b := d) (by omega) (by omega) c16_1
        refine lv_iload hx hb dX7_close_141 (lv_at hl 1 rfl) ?_
        have e_2 : (clS (S 6) k fa (I 1) d 0) = (if 0 < k then upd (S 6) (k - 1) (I 1) else S 6) := (by rw [show d = 100 by omega]; exact clS_end hfa)
        have hP : va_P D clW (wM cy ad I (va_up S 6 (if 0 < k then upd (S 6) (k - 1) (I 1) else S 6))) H := by rw [← e_2]; exact hP
        have hD : va_D A (wM cy ad I (va_up S 6 (if 0 < k then upd (S 6) (k - 1) (I 1) else S 6))) := hD.addr rfl
        exact wI_ret () hS hP hx hb hr hlocks dX7_close_143 (Nat.le_of_ble_eq_true rfl) (Nat.le_of_ble_eq_true rfl) hQ (by rw [show d = 100 by omega]; exact clR_end hfa)
      · have fd : d < 100 := nt_nle (a := 100) (b := d) (by omega) (by omega) c16_1
        refine lv_iconst (v := 0) hx hb dX7_close_19 (by decide) ?_
        refine lv_istore (lv' := [(7, .int 0), (6, .int (nI d)), (5, .int (clR k fa d 0)), (4, .int (nI k)), (0, .ref (ad 0)), (1, .int p9), (2, .int a), (3, .int b)]) hx hb dX7_close_20 hl (by decide) rfl (fun ls hl => ?_)
        have L22 : ∀ (n_22 i : Nat), i ≤ k → k + 1 ≤ i + n_22 → ∀ (H : Heap) (locs : List Loc), va_P D clW (wM cy ad I (va_up S 6 (clS (S 6) k fa (I 1) d i))) H → va_D A (wM cy ad I (va_up S 6 (clS (S 6) k fa (I 1) d i))) → va_S A s.heap H locs → ∀ (ls : Array Slot), lv_has ls 8 [(7, .int (nI i)), (6, .int (nI d)), (5, .int (clR k fa d i)), (4, .int (nI k)), (0, .ref (ad 0)), (1, .int p9), (2, .int a), (3, .int b)] → W p l e { frames := 1, cells := 0, slots := 0, locals := 24 } s m ([.ref (ad 0), .int p9, .int a, .int b] : List Value).toArray below meth c H locs 0 0 Q (F0 m 22 ls []) := by
          clear hl
          intro n_22
          induction n_22 with
          | zero => intro i  hle_22 hn_22; exact absurd hn_22 (by omega)
          | succ n_22 ih22 =>
            intro i  hle_22 hn_22  H locs hP hD hS ls hl
            refine lv_iload hx hb dX7_close_22 (lv_at hl 0 rfl) ?_
            refine lv_iload hx hb dX7_close_24 (lv_at hl 3 rfl) ?_
            refine lv_icmp_ge (tgt := 135) hx hb dX7_close_26 (by decide) (fun c26_3 => ?_) (fun c26_3 => ?_)
            · have f26_3 : k ≤ i := nt_le (a := k) (b := i) (by omega) (by omega) c26_3
              refine lv_iinc (v := (nI (d + 1))) (lv' := [(6, .int (nI (d + 1))), (7, .int (nI i)), (5, .int (clR k fa d i)), (4, .int (nI k)), (0, .ref (ad 0)), (1, .int p9), (2, .int a), (3, .int b)]) hx hb dX7_close_135 hl (k := 1) rfl (nI_1 d) (by decide) rfl (fun ls hl => ?_)
              refine lv_goto (tgt := 12) hx hb dX7_close_138 (by decide) ?_
              have e_4 : (clR k fa d i) = (clR k fa (d + 1) 0) := (by rw [show i = k by omega]; exact clR_row)
              have hl : lv_has ls 8 [(6, .int (nI (d + 1))), (7, .int (nI i)), (5, .int (clR k fa (d + 1) 0)), (4, .int (nI k)), (0, .ref (ad 0)), (1, .int p9), (2, .int a), (3, .int b)] := by rw [← e_4]; exact hl
              have e_5 : (clS (S 6) k fa (I 1) d i) = (clS (S 6) k fa (I 1) (d + 1) 0) := (by rw [show i = k by omega]; exact clS_row)
              have hP : va_P D clW (wM cy ad I (va_up S 6 (clS (S 6) k fa (I 1) (d + 1) 0))) H := by rw [← e_5]; exact hP
              have hD : va_D A (wM cy ad I (va_up S 6 (clS (S 6) k fa (I 1) (d + 1) 0))) := hD.addr rfl
              exact ih12 (d + 1) (by omega) (by omega) _ _ hP hD hS ls (lv_sub hl [0, 2, 3, 4, 5, 6, 7] rfl)
            · have fi : i < k := nt_nle (a := k) (b := i) (by omega) (by omega) c26_3
              refine lv_aload_n hx hb dX7_close_29 rfl (lv_at hl 4 rfl) ?_
              refine gf_X7_16 hx hb hts hown hK hP 0 rfl (v := .ref (ad 3)) rfl dX7_close_30 ?_
              refine lv_iload hx hb dX7_close_33 (lv_at hl 0 rfl) ?_
              refine ald_I (f := (S 3)) hx hb hK hP 3 rfl (i := i) (by omega) (by decide) dX7_close_35 ?_
              refine top_eq (y := nI fa) (hfr i fi) ?_
              refine lv_iload hx hb dX7_close_36 (lv_at hl 1 rfl) ?_
              refine lv_icmp_ne (tgt := 129) hx hb dX7_close_38 (by decide) (fun c38_6 => ?_) (fun c38_6 => ?_)
              · have fd2 : ¬ fa = d := fun q => c38_6 (by rw [q])
                refine lv_iinc (v := (nI (i + 1))) (lv' := [(7, .int (nI (i + 1))), (6, .int (nI d)), (5, .int (clR k fa d i)), (4, .int (nI k)), (0, .ref (ad 0)), (1, .int p9), (2, .int a), (3, .int b)]) hx hb dX7_close_129 hl (k := 0) rfl (nI_1 i) (by decide) rfl (fun ls hl => ?_)
                refine lv_goto (tgt := 22) hx hb dX7_close_132 (by decide) ?_
                have e_7 : (clR k fa d i) = (clR k fa d (i + 1)) := (clR_ne fd2)
                have hl : lv_has ls 8 [(7, .int (nI (i + 1))), (6, .int (nI d)), (5, .int (clR k fa d (i + 1))), (4, .int (nI k)), (0, .ref (ad 0)), (1, .int p9), (2, .int a), (3, .int b)] := by rw [← e_7]; exact hl
                have e_8 : (clS (S 6) k fa (I 1) d i) = (clS (S 6) k fa (I 1) d (i + 1)) := (clS_ne fd2)
                have hP : va_P D clW (wM cy ad I (va_up S 6 (clS (S 6) k fa (I 1) d (i + 1)))) H := by rw [← e_8]; exact hP
                have hD : va_D A (wM cy ad I (va_up S 6 (clS (S 6) k fa (I 1) d (i + 1)))) := hD.addr rfl
                exact ih22 (i + 1) (by omega) (by omega) _ _ hP hD hS ls (lv_sub hl [0, 1, 2, 3, 4, 5, 6, 7] rfl)
              · have fd2 : fa = d := nI_inj0 (by omega) (by omega) c38_6
                have e41 : (clS (S 6) k fa (I 1) d i) = S 6 := clS_no fd2 fi
                rw [e41] at hP
                have hP : va_P D clW (wM cy ad I S) H := hP
                have hD : va_D A (wM cy ad I S) := hD.addr rfl
                refine lv_aload_n hx hb dX7_close_41 rfl (lv_at hl 4 rfl) ?_
                refine lv_iload hx hb dX7_close_42 (lv_at hl 0 rfl) ?_
                refine lv_iload_n hx hb dX7_close_44 rfl (lv_at hl 5 rfl) ?_
                refine lv_iload_n hx hb dX7_close_45 rfl (lv_at hl 6 rfl) ?_
                refine lv_iload_n hx hb dX7_close_46 rfl (lv_at hl 7 rfl) ?_
                refine rZ_call (P := hbP S p9 a b i) (va_runV (As := [.int (nI i), .int p9, .int a, .int b]) (rest := []) ⟨hx, hb, hml, hown, hts⟩ (c_X7_isHit l D cy ad I S i p9 a b (by omega)) (cw_X7_46 hts rfl rfl ⟨Nat.le_of_ble_eq_true rfl, Nat.le_of_ble_eq_true rfl⟩) (preVR (ci := 7) (q0 := 0) hK hP rfl rfl) rfl rfl hl.1 rfl (lv_room (Nat.le_of_ble_eq_true rfl)) dX7_close_47 ⟨Nat.le_of_ble_eq_true rfl, Nat.le_of_ble_eq_true rfl⟩) (fun b47_9 => ?_) (fun b47_9 => ?_)
                · have hik : i + 1 = k := Nat.le_antisymm fi (Nat.not_lt.mp (fun q => hnot i q b47_9))
                  refine lv_if_eq (tgt := 129) hx hb dX7_close_50 (by decide) (fun c => absurd c (by decide)) (fun _ => ?_)
                  refine lv_aload_n hx hb dX7_close_53 rfl (lv_at hl 4 rfl) ?_
                  refine gf_X7_25 hx hb hts hown hK hP 0 rfl (v := .ref (ad 6)) rfl dX7_close_54 ?_
                  refine lv_iload hx hb dX7_close_57 (lv_at hl 0 rfl) ?_
                  refine lv_aload_n hx hb dX7_close_59 rfl (lv_at hl 4 rfl) ?_
                  refine gf_X7_43 hx hb hts hown hK hP 0 rfl (v := .int (I 1)) rfl dX7_close_60 ?_
                  refine ast_I hx hb hK hP hD hS 6 rfl (i := i) (x := (I 1)) (by omega) (by decide) dX7_close_63 (fun H locs hP hD hS => ?_)
                  have hP : va_P D clW (wM cy ad I (va_up S 6 (upd (S 6) i (I 1)))) H := hP
                  have hD : va_D A (wM cy ad I (va_up S 6 (upd (S 6) i (I 1)))) := hD
                  refine lv_iinc (v := ((clR k fa d i) + 1)) (lv' := [(5, .int ((clR k fa d i) + 1)), (7, .int (nI i)), (6, .int (nI d)), (4, .int (nI k)), (0, .ref (ad 0)), (1, .int p9), (2, .int a), (3, .int b)]) hx hb dX7_close_64 hl (k := 2) rfl rfl (by decide) rfl (fun ls hl => ?_)
                  refine lv_aload_n hx hb dX7_close_67 rfl (lv_at hl 4 rfl) ?_
                  refine gf_X7_16 hx hb hts hown hK hP 0 rfl (v := .ref (ad 3)) rfl dX7_close_68 ?_
                  refine lv_iload hx hb dX7_close_71 (lv_at hl 1 rfl) ?_
                  refine ald_I (f := (S 3)) hx hb hK hP 3 rfl (i := i) (by omega) (by decide) dX7_close_73 ?_
                  refine top_eq (y := nI fa) (hfr i fi) ?_
                  refine lv_iload_n hx hb dX7_close_74 rfl (lv_at hl 6 rfl) ?_
                  refine lv_icmp_ge (tgt := 98) hx hb dX7_close_75 (by decide) (fun _ => ?_) (fun c => absurd ha c)
                  refine lv_iload_n hx hb dX7_close_98 rfl (lv_at hl 7 rfl) ?_
                  refine lv_aload_n hx hb dX7_close_99 rfl (lv_at hl 4 rfl) ?_
                  refine gf_X7_19 hx hb hts hown hK hP 0 rfl (v := .ref (ad 4)) rfl dX7_close_100 ?_
                  refine lv_iload hx hb dX7_close_103 (lv_at hl 1 rfl) ?_
                  refine ald_I (f := (S 4)) hx hb hK hP 4 rfl (i := i) (by omega) (by decide) dX7_close_105 ?_
                  refine lv_icmp_ge (tgt := 129) hx hb dX7_close_106 (by decide) (fun _ => ?_) (fun c => absurd (hb9 i fi) c)
                  refine lv_iinc (v := (nI (i + 1))) (lv' := [(7, .int (nI (i + 1))), (5, .int ((clR k fa d i) + 1)), (6, .int (nI d)), (4, .int (nI k)), (0, .ref (ad 0)), (1, .int p9), (2, .int a), (3, .int b)]) hx hb dX7_close_129 hl (k := 1) rfl (nI_1 i) (by decide) rfl (fun ls hl => ?_)
                  refine lv_goto (tgt := 22) hx hb dX7_close_132 (by decide) ?_
                  have e_10 : ((clR k fa d i) + 1) = (clR k fa d (i + 1)) := (clR_hit hik fd2)
                  have hl : lv_has ls 8 [(7, .int (nI (i + 1))), (5, .int (clR k fa d (i + 1))), (6, .int (nI d)), (4, .int (nI k)), (0, .ref (ad 0)), (1, .int p9), (2, .int a), (3, .int b)] := by rw [← e_10]; exact hl
                  have e_11 : (upd (S 6) i (I 1)) = (clS (S 6) k fa (I 1) d (i + 1)) := (clS_hit hik fd2)
                  have hP : va_P D clW (wM cy ad I (va_up S 6 (clS (S 6) k fa (I 1) d (i + 1)))) H := by rw [← e_11]; exact hP
                  have hD : va_D A (wM cy ad I (va_up S 6 (clS (S 6) k fa (I 1) d (i + 1)))) := hD.addr rfl
                  exact ih22 (i + 1) (by omega) (by omega) _ _ hP hD hS ls (lv_sub hl [0, 2, 1, 3, 4, 5, 6, 7] rfl)
                · have hik : ¬ i + 1 = k := fun q => b47_9 (by have h9 := hlast (by omega); rw [show k - 1 = i by omega] at h9; exact h9)
                  refine lv_if_eq (tgt := 129) hx hb dX7_close_50 (by decide) (fun _ => ?_) (fun c => absurd (by decide) c)
                  refine lv_iinc (v := (nI (i + 1))) (lv' := [(7, .int (nI (i + 1))), (6, .int (nI d)), (5, .int (clR k fa d i)), (4, .int (nI k)), (0, .ref (ad 0)), (1, .int p9), (2, .int a), (3, .int b)]) hx hb dX7_close_129 hl (k := 0) rfl (nI_1 i) (by decide) rfl (fun ls hl => ?_)
                  refine lv_goto (tgt := 22) hx hb dX7_close_132 (by decide) ?_
                  have e_12 : (clR k fa d i) = (clR k fa d (i + 1)) := (clR_miss hik fd2 fi)
                  have hl : lv_has ls 8 [(7, .int (nI (i + 1))), (6, .int (nI d)), (5, .int (clR k fa d (i + 1))), (4, .int (nI k)), (0, .ref (ad 0)), (1, .int p9), (2, .int a), (3, .int b)] := by rw [← e_12]; exact hl
                  have e_13 : (S 6) = (clS (S 6) k fa (I 1) d (i + 1)) := (clS_miss hik fd2 fi)
                  have hP : va_P D clW (wM cy ad I (va_up S 6 (clS (S 6) k fa (I 1) d (i + 1)))) H := by rw [← e_13]; exact hP
                  have hD : va_D A (wM cy ad I (va_up S 6 (clS (S 6) k fa (I 1) d (i + 1)))) := hD.addr rfl
                  exact ih22 (i + 1) (by omega) (by omega) _ _ hP hD hS ls (lv_sub hl [0, 1, 2, 3, 4, 5, 6, 7] rfl)
        have hP : va_P D clW (wM cy ad I (va_up S 6 (clS (S 6) k fa (I 1) d 0))) H := hP
        have hD : va_D A (wM cy ad I (va_up S 6 (clS (S 6) k fa (I 1) d 0))) := hD.addr rfl
        exact L22 (k + 1) 0 (by omega) (by omega) _ _ hP hD hS ls (lv_sub hl [0, 1, 2, 3, 4, 5, 6, 7] rfl)
  have e_14 : (S 6) = (clS (S 6) k fa (I 1) 0 0) := (clS_0).symm
  have hP : va_P D clW (wM cy ad I (va_up S 6 (clS (S 6) k fa (I 1) 0 0))) H := by rw [← e_14]; exact hP
  have hD : va_D A (wM cy ad I (va_up S 6 (clS (S 6) k fa (I 1) 0 0))) := hD.addr rfl
  exact L12 (100 + 1) 0 (by omega) (by omega) _ _ hP hD hS ls (lv_sub hl [0, 1, 2, 3, 4, 5, 6] rfl)
set_option maxHeartbeats 4000000 in
set_option maxRecDepth 100000 in
theorem c_X7_init (l : Launch) (D : va_G) (cy : Nat → ClassId) (h0 sz : Nat) : Met l yX7_init (Cond.code yX7_init cX7_init 1 none :: wsL_law) ({ frames := 1, cells := 9, slots := 920, locals := 14 }) (va_Pc [.ref h0] (wrB D cy [(h0, .inr (7, [.null, .null, .null, .null, .null, .null, .null, .int 0, .int 0, .int 0, .null, .null]))] sz)) (va_Qv (S := Nat → Nat) (fun u => u 0 = h0) (fun u t9 => va_P D clW (wM cy u I0 S0) t9.heap ∧ va_D (va_A [(h0, .inr (7, [.null, .null, .null, .null, .null, .null, .null, .int 0, .int 0, .int 0, .null, .null]))] sz) (wM cy u I0 S0)) (va_A [(h0, .inr (7, [.null, .null, .null, .null, .null, .null, .null, .int 0, .int 0, .int 0, .null, .null]))] sz)) 9 920 (va_A [(h0, .inr (7, [.null, .null, .null, .null, .null, .null, .null, .int 0, .int 0, .int 0, .null, .null]))] sz) := by
  refine enter (cc := cX7_init) (by decide) (Nat.le_of_ble_eq_true rfl) ?_
  intro p e s m below meth c hx hb hr hml hown hts hlocks hin0 hv Q hQ ls hl
  have hin : meth.name = "<init>" := hin0 rfl
  obtain ⟨hsz, hP, hK, hD0⟩ := hv
  subst hsz
  have hD := hD0.self (sz := s.heap.size)
  generalize hAe : va_A [(h0, .inr (7, [.null, .null, .null, .null, .null, .null, .null, .int 0, .int 0, .int 0, .null, .null]))] s.heap.size = A at hD hQ ⊢
  have hA : ∀ q : Nat, s.heap.size ≤ q → A q := fun q h => by rw [← hAe]; exact Or.inr h
  have hS : va_S A s.heap s.heap [] := va_S.rf
  suffices K_ : ∀ (H : Heap) (locs : List Loc), va_P D clW [(h0, .inr (7, [.null, .null, .null, .null, .null, .null, .null, .int 0, .int 0, .int 0, .null, .null]))] H → va_S A s.heap H locs → W p l e ({ frames := 1, cells := 9, slots := 920, locals := 14 }) s m ([.ref h0] : List Value).toArray below meth c H locs 0 0 Q (F0 m 0 ls []) from K_ _ _ hP hS
  clear hP hS
  intro H locs hP hS
  have hown : s.vm.findClass RX7 = some m.cls := hown
  have hl : lv_has ls 1 [(0, .ref h0)] := hl
  refine lv_aload_n hx hb dX7_init_0 rfl (lv_at hl 0 rfl) ?_
  refine W.objInit hx hb hown (hts _ wm_86) (hts _ wm_10) (hts _ wm_11) rfl (by rw [hml]; exact hl.1) rfl dX7_init_1 (Nat.le_of_ble_eq_true rfl) (Nat.le_of_ble_eq_true rfl) ?_
  refine W.eq (g2 := F0 m 4 ls []) rfl ?_
  refine lv_aload_n hx hb dX7_init_4 rfl (lv_at hl 0 rfl) ?_
  refine lv_bipush (v := 120) hx hb dX7_init_5 (by decide) ?_
  refine newAr (atype := .int) (ty := .int) (cyj := cy 1) 1 rfl (fun _ h => h) hx hb (hts _ wm_43) rfl hK hP hD hS hA (N' := 120) (a0 := (120, .inl (fun _ => 0))) (fun _ => rfl) (by decide) (by decide) (Nat.le_of_ble_eq_true rfl) (Nat.le_of_ble_eq_true rfl) (Nat.le_of_ble_eq_true rfl) dX7_init_7 (fun q7 H hP hD hS => ?_)
  have hP : va_P D clW [(h0, .inr (7, [.null, .null, .null, .null, .null, .null, .null, .int 0, .int 0, .int 0, .null, .null])), (q7, .inl (cy 1, 120, .inl (fun _ => 0)))] H := hP
  have hD : va_D A [(h0, .inr (7, [.null, .null, .null, .null, .null, .null, .null, .int 0, .int 0, .int 0, .null, .null])), (q7, .inl (cy 1, 120, .inl (fun _ => 0)))] := hD
  refine va_putF (D := D) (ci := 7) (v := .ref q7) (ty := tyX7 0) (C := RX7) (T := TX7) (N := 12) hx hb hts inlX7 tyX7 tyX7_ok nmX7 hown hK hP hD hS 0 rfl rfl 0 (by decide) (hts _ wm_87) (fun _ h9 => h9) rfl hin rfl (tyX7_ok 0 (by decide)) rfl rfl (Nat.le_of_ble_eq_true rfl) dX7_init_9 (fun H locs hP hD hS => ?_)
  have hP : va_P D clW [(h0, .inr (7, [.ref q7, .null, .null, .null, .null, .null, .null, .int 0, .int 0, .int 0, .null, .null])), (q7, .inl (cy 1, 120, .inl (fun _ => 0)))] H := hP
  have hD : va_D A [(h0, .inr (7, [.ref q7, .null, .null, .null, .null, .null, .null, .int 0, .int 0, .int 0, .null, .null])), (q7, .inl (cy 1, 120, .inl (fun _ => 0)))] := hD
  refine lv_aload_n hx hb dX7_init_12 rfl (lv_at hl 0 rfl) ?_
  refine lv_bipush (v := 120) hx hb dX7_init_13 (by decide) ?_
  refine newAr (atype := .int) (ty := .int) (cyj := cy 1) 1 rfl (fun _ h => h) hx hb (hts _ wm_43) rfl hK hP hD hS hA (N' := 120) (a0 := (120, .inl (fun _ => 0))) (fun _ => rfl) (by decide) (by decide) (Nat.le_of_ble_eq_true rfl) (Nat.le_of_ble_eq_true rfl) (Nat.le_of_ble_eq_true rfl) dX7_init_15 (fun q15 H hP hD hS => ?_)
  have hP : va_P D clW [(h0, .inr (7, [.ref q7, .null, .null, .null, .null, .null, .null, .int 0, .int 0, .int 0, .null, .null])), (q7, .inl (cy 1, 120, .inl (fun _ => 0))), (q15, .inl (cy 1, 120, .inl (fun _ => 0)))] H := hP
  have hD : va_D A [(h0, .inr (7, [.ref q7, .null, .null, .null, .null, .null, .null, .int 0, .int 0, .int 0, .null, .null])), (q7, .inl (cy 1, 120, .inl (fun _ => 0))), (q15, .inl (cy 1, 120, .inl (fun _ => 0)))] := hD
  refine va_putF (D := D) (ci := 7) (v := .ref q15) (ty := tyX7 1) (C := RX7) (T := TX7) (N := 12) hx hb hts inlX7 tyX7 tyX7_ok nmX7 hown hK hP hD hS 0 rfl rfl 1 (by decide) (hts _ wm_88) (fun _ h9 => h9) rfl hin rfl (tyX7_ok 1 (by decide)) rfl rfl (Nat.le_of_ble_eq_true rfl) dX7_init_17 (fun H locs hP hD hS => ?_)
  have hP : va_P D clW [(h0, .inr (7, [.ref q7, .ref q15, .null, .null, .null, .null, .null, .int 0, .int 0, .int 0, .null, .null])), (q7, .inl (cy 1, 120, .inl (fun _ => 0))), (q15, .inl (cy 1, 120, .inl (fun _ => 0)))] H := hP
  have hD : va_D A [(h0, .inr (7, [.ref q7, .ref q15, .null, .null, .null, .null, .null, .int 0, .int 0, .int 0, .null, .null])), (q7, .inl (cy 1, 120, .inl (fun _ => 0))), (q15, .inl (cy 1, 120, .inl (fun _ => 0)))] := hD
  refine lv_aload_n hx hb dX7_init_20 rfl (lv_at hl 0 rfl) ?_
  refine lv_bipush (v := 120) hx hb dX7_init_21 (by decide) ?_
  refine newAr (atype := .int) (ty := .int) (cyj := cy 1) 1 rfl (fun _ h => h) hx hb (hts _ wm_43) rfl hK hP hD hS hA (N' := 120) (a0 := (120, .inl (fun _ => 0))) (fun _ => rfl) (by decide) (by decide) (Nat.le_of_ble_eq_true rfl) (Nat.le_of_ble_eq_true rfl) (Nat.le_of_ble_eq_true rfl) dX7_init_23 (fun q23 H hP hD hS => ?_)
  have hP : va_P D clW [(h0, .inr (7, [.ref q7, .ref q15, .null, .null, .null, .null, .null, .int 0, .int 0, .int 0, .null, .null])), (q7, .inl (cy 1, 120, .inl (fun _ => 0))), (q15, .inl (cy 1, 120, .inl (fun _ => 0))), (q23, .inl (cy 1, 120, .inl (fun _ => 0)))] H := hP
  have hD : va_D A [(h0, .inr (7, [.ref q7, .ref q15, .null, .null, .null, .null, .null, .int 0, .int 0, .int 0, .null, .null])), (q7, .inl (cy 1, 120, .inl (fun _ => 0))), (q15, .inl (cy 1, 120, .inl (fun _ => 0))), (q23, .inl (cy 1, 120, .inl (fun _ => 0)))] := hD
  refine va_putF (D := D) (ci := 7) (v := .ref q23) (ty := tyX7 2) (C := RX7) (T := TX7) (N := 12) hx hb hts inlX7 tyX7 tyX7_ok nmX7 hown hK hP hD hS 0 rfl rfl 2 (by decide) (hts _ wm_89) (fun _ h9 => h9) rfl hin rfl (tyX7_ok 2 (by decide)) rfl rfl (Nat.le_of_ble_eq_true rfl) dX7_init_25 (fun H locs hP hD hS => ?_)
  have hP : va_P D clW [(h0, .inr (7, [.ref q7, .ref q15, .ref q23, .null, .null, .null, .null, .int 0, .int 0, .int 0, .null, .null])), (q7, .inl (cy 1, 120, .inl (fun _ => 0))), (q15, .inl (cy 1, 120, .inl (fun _ => 0))), (q23, .inl (cy 1, 120, .inl (fun _ => 0)))] H := hP
  have hD : va_D A [(h0, .inr (7, [.ref q7, .ref q15, .ref q23, .null, .null, .null, .null, .int 0, .int 0, .int 0, .null, .null])), (q7, .inl (cy 1, 120, .inl (fun _ => 0))), (q15, .inl (cy 1, 120, .inl (fun _ => 0))), (q23, .inl (cy 1, 120, .inl (fun _ => 0)))] := hD
  refine lv_aload_n hx hb dX7_init_28 rfl (lv_at hl 0 rfl) ?_
  refine lv_bipush (v := 120) hx hb dX7_init_29 (by decide) ?_
  refine newAr (atype := .int) (ty := .int) (cyj := cy 1) 1 rfl (fun _ h => h) hx hb (hts _ wm_43) rfl hK hP hD hS hA (N' := 120) (a0 := (120, .inl (fun _ => 0))) (fun _ => rfl) (by decide) (by decide) (Nat.le_of_ble_eq_true rfl) (Nat.le_of_ble_eq_true rfl) (Nat.le_of_ble_eq_true rfl) dX7_init_31 (fun q31 H hP hD hS => ?_)
  have hP : va_P D clW [(h0, .inr (7, [.ref q7, .ref q15, .ref q23, .null, .null, .null, .null, .int 0, .int 0, .int 0, .null, .null])), (q7, .inl (cy 1, 120, .inl (fun _ => 0))), (q15, .inl (cy 1, 120, .inl (fun _ => 0))), (q23, .inl (cy 1, 120, .inl (fun _ => 0))), (q31, .inl (cy 1, 120, .inl (fun _ => 0)))] H := hP
  have hD : va_D A [(h0, .inr (7, [.ref q7, .ref q15, .ref q23, .null, .null, .null, .null, .int 0, .int 0, .int 0, .null, .null])), (q7, .inl (cy 1, 120, .inl (fun _ => 0))), (q15, .inl (cy 1, 120, .inl (fun _ => 0))), (q23, .inl (cy 1, 120, .inl (fun _ => 0))), (q31, .inl (cy 1, 120, .inl (fun _ => 0)))] := hD
  refine va_putF (D := D) (ci := 7) (v := .ref q31) (ty := tyX7 3) (C := RX7) (T := TX7) (N := 12) hx hb hts inlX7 tyX7 tyX7_ok nmX7 hown hK hP hD hS 0 rfl rfl 3 (by decide) (hts _ wm_90) (fun _ h9 => h9) rfl hin rfl (tyX7_ok 3 (by decide)) rfl rfl (Nat.le_of_ble_eq_true rfl) dX7_init_33 (fun H locs hP hD hS => ?_)
  have hP : va_P D clW [(h0, .inr (7, [.ref q7, .ref q15, .ref q23, .ref q31, .null, .null, .null, .int 0, .int 0, .int 0, .null, .null])), (q7, .inl (cy 1, 120, .inl (fun _ => 0))), (q15, .inl (cy 1, 120, .inl (fun _ => 0))), (q23, .inl (cy 1, 120, .inl (fun _ => 0))), (q31, .inl (cy 1, 120, .inl (fun _ => 0)))] H := hP
  have hD : va_D A [(h0, .inr (7, [.ref q7, .ref q15, .ref q23, .ref q31, .null, .null, .null, .int 0, .int 0, .int 0, .null, .null])), (q7, .inl (cy 1, 120, .inl (fun _ => 0))), (q15, .inl (cy 1, 120, .inl (fun _ => 0))), (q23, .inl (cy 1, 120, .inl (fun _ => 0))), (q31, .inl (cy 1, 120, .inl (fun _ => 0)))] := hD
  refine lv_aload_n hx hb dX7_init_36 rfl (lv_at hl 0 rfl) ?_
  refine lv_bipush (v := 120) hx hb dX7_init_37 (by decide) ?_
  refine newAr (atype := .int) (ty := .int) (cyj := cy 1) 1 rfl (fun _ h => h) hx hb (hts _ wm_43) rfl hK hP hD hS hA (N' := 120) (a0 := (120, .inl (fun _ => 0))) (fun _ => rfl) (by decide) (by decide) (Nat.le_of_ble_eq_true rfl) (Nat.le_of_ble_eq_true rfl) (Nat.le_of_ble_eq_true rfl) dX7_init_39 (fun q39 H hP hD hS => ?_)
  have hP : va_P D clW [(h0, .inr (7, [.ref q7, .ref q15, .ref q23, .ref q31, .null, .null, .null, .int 0, .int 0, .int 0, .null, .null])), (q7, .inl (cy 1, 120, .inl (fun _ => 0))), (q15, .inl (cy 1, 120, .inl (fun _ => 0))), (q23, .inl (cy 1, 120, .inl (fun _ => 0))), (q31, .inl (cy 1, 120, .inl (fun _ => 0))), (q39, .inl (cy 1, 120, .inl (fun _ => 0)))] H := hP
  have hD : va_D A [(h0, .inr (7, [.ref q7, .ref q15, .ref q23, .ref q31, .null, .null, .null, .int 0, .int 0, .int 0, .null, .null])), (q7, .inl (cy 1, 120, .inl (fun _ => 0))), (q15, .inl (cy 1, 120, .inl (fun _ => 0))), (q23, .inl (cy 1, 120, .inl (fun _ => 0))), (q31, .inl (cy 1, 120, .inl (fun _ => 0))), (q39, .inl (cy 1, 120, .inl (fun _ => 0)))] := hD
  refine va_putF (D := D) (ci := 7) (v := .ref q39) (ty := tyX7 4) (C := RX7) (T := TX7) (N := 12) hx hb hts inlX7 tyX7 tyX7_ok nmX7 hown hK hP hD hS 0 rfl rfl 4 (by decide) (hts _ wm_91) (fun _ h9 => h9) rfl hin rfl (tyX7_ok 4 (by decide)) rfl rfl (Nat.le_of_ble_eq_true rfl) dX7_init_41 (fun H locs hP hD hS => ?_)
  have hP : va_P D clW [(h0, .inr (7, [.ref q7, .ref q15, .ref q23, .ref q31, .ref q39, .null, .null, .int 0, .int 0, .int 0, .null, .null])), (q7, .inl (cy 1, 120, .inl (fun _ => 0))), (q15, .inl (cy 1, 120, .inl (fun _ => 0))), (q23, .inl (cy 1, 120, .inl (fun _ => 0))), (q31, .inl (cy 1, 120, .inl (fun _ => 0))), (q39, .inl (cy 1, 120, .inl (fun _ => 0)))] H := hP
  have hD : va_D A [(h0, .inr (7, [.ref q7, .ref q15, .ref q23, .ref q31, .ref q39, .null, .null, .int 0, .int 0, .int 0, .null, .null])), (q7, .inl (cy 1, 120, .inl (fun _ => 0))), (q15, .inl (cy 1, 120, .inl (fun _ => 0))), (q23, .inl (cy 1, 120, .inl (fun _ => 0))), (q31, .inl (cy 1, 120, .inl (fun _ => 0))), (q39, .inl (cy 1, 120, .inl (fun _ => 0)))] := hD
  refine lv_aload_n hx hb dX7_init_44 rfl (lv_at hl 0 rfl) ?_
  refine lv_bipush (v := 120) hx hb dX7_init_45 (by decide) ?_
  refine newAr (atype := .int) (ty := .int) (cyj := cy 1) 1 rfl (fun _ h => h) hx hb (hts _ wm_43) rfl hK hP hD hS hA (N' := 120) (a0 := (120, .inl (fun _ => 0))) (fun _ => rfl) (by decide) (by decide) (Nat.le_of_ble_eq_true rfl) (Nat.le_of_ble_eq_true rfl) (Nat.le_of_ble_eq_true rfl) dX7_init_47 (fun q47 H hP hD hS => ?_)
  have hP : va_P D clW [(h0, .inr (7, [.ref q7, .ref q15, .ref q23, .ref q31, .ref q39, .null, .null, .int 0, .int 0, .int 0, .null, .null])), (q7, .inl (cy 1, 120, .inl (fun _ => 0))), (q15, .inl (cy 1, 120, .inl (fun _ => 0))), (q23, .inl (cy 1, 120, .inl (fun _ => 0))), (q31, .inl (cy 1, 120, .inl (fun _ => 0))), (q39, .inl (cy 1, 120, .inl (fun _ => 0))), (q47, .inl (cy 1, 120, .inl (fun _ => 0)))] H := hP
  have hD : va_D A [(h0, .inr (7, [.ref q7, .ref q15, .ref q23, .ref q31, .ref q39, .null, .null, .int 0, .int 0, .int 0, .null, .null])), (q7, .inl (cy 1, 120, .inl (fun _ => 0))), (q15, .inl (cy 1, 120, .inl (fun _ => 0))), (q23, .inl (cy 1, 120, .inl (fun _ => 0))), (q31, .inl (cy 1, 120, .inl (fun _ => 0))), (q39, .inl (cy 1, 120, .inl (fun _ => 0))), (q47, .inl (cy 1, 120, .inl (fun _ => 0)))] := hD
  refine va_putF (D := D) (ci := 7) (v := .ref q47) (ty := tyX7 5) (C := RX7) (T := TX7) (N := 12) hx hb hts inlX7 tyX7 tyX7_ok nmX7 hown hK hP hD hS 0 rfl rfl 5 (by decide) (hts _ wm_92) (fun _ h9 => h9) rfl hin rfl (tyX7_ok 5 (by decide)) rfl rfl (Nat.le_of_ble_eq_true rfl) dX7_init_49 (fun H locs hP hD hS => ?_)
  have hP : va_P D clW [(h0, .inr (7, [.ref q7, .ref q15, .ref q23, .ref q31, .ref q39, .ref q47, .null, .int 0, .int 0, .int 0, .null, .null])), (q7, .inl (cy 1, 120, .inl (fun _ => 0))), (q15, .inl (cy 1, 120, .inl (fun _ => 0))), (q23, .inl (cy 1, 120, .inl (fun _ => 0))), (q31, .inl (cy 1, 120, .inl (fun _ => 0))), (q39, .inl (cy 1, 120, .inl (fun _ => 0))), (q47, .inl (cy 1, 120, .inl (fun _ => 0)))] H := hP
  have hD : va_D A [(h0, .inr (7, [.ref q7, .ref q15, .ref q23, .ref q31, .ref q39, .ref q47, .null, .int 0, .int 0, .int 0, .null, .null])), (q7, .inl (cy 1, 120, .inl (fun _ => 0))), (q15, .inl (cy 1, 120, .inl (fun _ => 0))), (q23, .inl (cy 1, 120, .inl (fun _ => 0))), (q31, .inl (cy 1, 120, .inl (fun _ => 0))), (q39, .inl (cy 1, 120, .inl (fun _ => 0))), (q47, .inl (cy 1, 120, .inl (fun _ => 0)))] := hD
  refine lv_aload_n hx hb dX7_init_52 rfl (lv_at hl 0 rfl) ?_
  refine lv_bipush (v := 120) hx hb dX7_init_53 (by decide) ?_
  refine newAr (atype := .boolean) (ty := .boolean) (cyj := cy 2) 2 rfl (fun _ h => h) hx hb (hts _ wm_68) rfl hK hP hD hS hA (N' := 120) (a0 := (120, .inl (fun _ => 0))) (fun _ => rfl) (by decide) (by decide) (Nat.le_of_ble_eq_true rfl) (Nat.le_of_ble_eq_true rfl) (Nat.le_of_ble_eq_true rfl) dX7_init_55 (fun q55 H hP hD hS => ?_)
  have hP : va_P D clW [(h0, .inr (7, [.ref q7, .ref q15, .ref q23, .ref q31, .ref q39, .ref q47, .null, .int 0, .int 0, .int 0, .null, .null])), (q7, .inl (cy 1, 120, .inl (fun _ => 0))), (q15, .inl (cy 1, 120, .inl (fun _ => 0))), (q23, .inl (cy 1, 120, .inl (fun _ => 0))), (q31, .inl (cy 1, 120, .inl (fun _ => 0))), (q39, .inl (cy 1, 120, .inl (fun _ => 0))), (q47, .inl (cy 1, 120, .inl (fun _ => 0))), (q55, .inl (cy 2, 120, .inl (fun _ => 0)))] H := hP
  have hD : va_D A [(h0, .inr (7, [.ref q7, .ref q15, .ref q23, .ref q31, .ref q39, .ref q47, .null, .int 0, .int 0, .int 0, .null, .null])), (q7, .inl (cy 1, 120, .inl (fun _ => 0))), (q15, .inl (cy 1, 120, .inl (fun _ => 0))), (q23, .inl (cy 1, 120, .inl (fun _ => 0))), (q31, .inl (cy 1, 120, .inl (fun _ => 0))), (q39, .inl (cy 1, 120, .inl (fun _ => 0))), (q47, .inl (cy 1, 120, .inl (fun _ => 0))), (q55, .inl (cy 2, 120, .inl (fun _ => 0)))] := hD
  refine va_putF (D := D) (ci := 7) (v := .ref q55) (ty := tyX7 6) (C := RX7) (T := TX7) (N := 12) hx hb hts inlX7 tyX7 tyX7_ok nmX7 hown hK hP hD hS 0 rfl rfl 6 (by decide) (hts _ wm_93) (fun _ h9 => h9) rfl hin rfl (tyX7_ok 6 (by decide)) rfl rfl (Nat.le_of_ble_eq_true rfl) dX7_init_57 (fun H locs hP hD hS => ?_)
  have hP : va_P D clW [(h0, .inr (7, [.ref q7, .ref q15, .ref q23, .ref q31, .ref q39, .ref q47, .ref q55, .int 0, .int 0, .int 0, .null, .null])), (q7, .inl (cy 1, 120, .inl (fun _ => 0))), (q15, .inl (cy 1, 120, .inl (fun _ => 0))), (q23, .inl (cy 1, 120, .inl (fun _ => 0))), (q31, .inl (cy 1, 120, .inl (fun _ => 0))), (q39, .inl (cy 1, 120, .inl (fun _ => 0))), (q47, .inl (cy 1, 120, .inl (fun _ => 0))), (q55, .inl (cy 2, 120, .inl (fun _ => 0)))] H := hP
  have hD : va_D A [(h0, .inr (7, [.ref q7, .ref q15, .ref q23, .ref q31, .ref q39, .ref q47, .ref q55, .int 0, .int 0, .int 0, .null, .null])), (q7, .inl (cy 1, 120, .inl (fun _ => 0))), (q15, .inl (cy 1, 120, .inl (fun _ => 0))), (q23, .inl (cy 1, 120, .inl (fun _ => 0))), (q31, .inl (cy 1, 120, .inl (fun _ => 0))), (q39, .inl (cy 1, 120, .inl (fun _ => 0))), (q47, .inl (cy 1, 120, .inl (fun _ => 0))), (q55, .inl (cy 2, 120, .inl (fun _ => 0)))] := hD
  refine lv_aload_n hx hb dX7_init_60 rfl (lv_at hl 0 rfl) ?_
  refine lv_bipush (v := 40) hx hb dX7_init_61 (by decide) ?_
  refine newAr (atype := .char) (ty := .char) (cyj := cy 0) 0 rfl (fun _ h => h) hx hb (hts _ wm_41) rfl hK hP hD hS hA (N' := 40) (a0 := (40, .inl (fun _ => 0))) (fun _ => rfl) (by decide) (by decide) (Nat.le_of_ble_eq_true rfl) (Nat.le_of_ble_eq_true rfl) (Nat.le_of_ble_eq_true rfl) dX7_init_63 (fun q63 H hP hD hS => ?_)
  have hP : va_P D clW [(h0, .inr (7, [.ref q7, .ref q15, .ref q23, .ref q31, .ref q39, .ref q47, .ref q55, .int 0, .int 0, .int 0, .null, .null])), (q7, .inl (cy 1, 120, .inl (fun _ => 0))), (q15, .inl (cy 1, 120, .inl (fun _ => 0))), (q23, .inl (cy 1, 120, .inl (fun _ => 0))), (q31, .inl (cy 1, 120, .inl (fun _ => 0))), (q39, .inl (cy 1, 120, .inl (fun _ => 0))), (q47, .inl (cy 1, 120, .inl (fun _ => 0))), (q55, .inl (cy 2, 120, .inl (fun _ => 0))), (q63, .inl (cy 0, 40, .inl (fun _ => 0)))] H := hP
  have hD : va_D A [(h0, .inr (7, [.ref q7, .ref q15, .ref q23, .ref q31, .ref q39, .ref q47, .ref q55, .int 0, .int 0, .int 0, .null, .null])), (q7, .inl (cy 1, 120, .inl (fun _ => 0))), (q15, .inl (cy 1, 120, .inl (fun _ => 0))), (q23, .inl (cy 1, 120, .inl (fun _ => 0))), (q31, .inl (cy 1, 120, .inl (fun _ => 0))), (q39, .inl (cy 1, 120, .inl (fun _ => 0))), (q47, .inl (cy 1, 120, .inl (fun _ => 0))), (q55, .inl (cy 2, 120, .inl (fun _ => 0))), (q63, .inl (cy 0, 40, .inl (fun _ => 0)))] := hD
  refine va_putF (D := D) (ci := 7) (v := .ref q63) (ty := tyX7 10) (C := RX7) (T := TX7) (N := 12) hx hb hts inlX7 tyX7 tyX7_ok nmX7 hown hK hP hD hS 0 rfl rfl 10 (by decide) (hts _ wm_94) (fun _ h9 => h9) rfl hin rfl (tyX7_ok 10 (by decide)) rfl rfl (Nat.le_of_ble_eq_true rfl) dX7_init_65 (fun H locs hP hD hS => ?_)
  have hP : va_P D clW [(h0, .inr (7, [.ref q7, .ref q15, .ref q23, .ref q31, .ref q39, .ref q47, .ref q55, .int 0, .int 0, .int 0, .ref q63, .null])), (q7, .inl (cy 1, 120, .inl (fun _ => 0))), (q15, .inl (cy 1, 120, .inl (fun _ => 0))), (q23, .inl (cy 1, 120, .inl (fun _ => 0))), (q31, .inl (cy 1, 120, .inl (fun _ => 0))), (q39, .inl (cy 1, 120, .inl (fun _ => 0))), (q47, .inl (cy 1, 120, .inl (fun _ => 0))), (q55, .inl (cy 2, 120, .inl (fun _ => 0))), (q63, .inl (cy 0, 40, .inl (fun _ => 0)))] H := hP
  have hD : va_D A [(h0, .inr (7, [.ref q7, .ref q15, .ref q23, .ref q31, .ref q39, .ref q47, .ref q55, .int 0, .int 0, .int 0, .ref q63, .null])), (q7, .inl (cy 1, 120, .inl (fun _ => 0))), (q15, .inl (cy 1, 120, .inl (fun _ => 0))), (q23, .inl (cy 1, 120, .inl (fun _ => 0))), (q31, .inl (cy 1, 120, .inl (fun _ => 0))), (q39, .inl (cy 1, 120, .inl (fun _ => 0))), (q47, .inl (cy 1, 120, .inl (fun _ => 0))), (q55, .inl (cy 2, 120, .inl (fun _ => 0))), (q63, .inl (cy 0, 40, .inl (fun _ => 0)))] := hD
  refine lv_aload_n hx hb dX7_init_68 rfl (lv_at hl 0 rfl) ?_
  refine lv_bipush (v := 40) hx hb dX7_init_69 (by decide) ?_
  refine newAr (atype := .int) (ty := .int) (cyj := cy 1) 1 rfl (fun _ h => h) hx hb (hts _ wm_43) rfl hK hP hD hS hA (N' := 40) (a0 := (40, .inl (fun _ => 0))) (fun _ => rfl) (by decide) (by decide) (Nat.le_of_ble_eq_true rfl) (Nat.le_of_ble_eq_true rfl) (Nat.le_of_ble_eq_true rfl) dX7_init_71 (fun q71 H hP hD hS => ?_)
  have hP : va_P D clW [(h0, .inr (7, [.ref q7, .ref q15, .ref q23, .ref q31, .ref q39, .ref q47, .ref q55, .int 0, .int 0, .int 0, .ref q63, .null])), (q7, .inl (cy 1, 120, .inl (fun _ => 0))), (q15, .inl (cy 1, 120, .inl (fun _ => 0))), (q23, .inl (cy 1, 120, .inl (fun _ => 0))), (q31, .inl (cy 1, 120, .inl (fun _ => 0))), (q39, .inl (cy 1, 120, .inl (fun _ => 0))), (q47, .inl (cy 1, 120, .inl (fun _ => 0))), (q55, .inl (cy 2, 120, .inl (fun _ => 0))), (q63, .inl (cy 0, 40, .inl (fun _ => 0))), (q71, .inl (cy 1, 40, .inl (fun _ => 0)))] H := hP
  have hD : va_D A [(h0, .inr (7, [.ref q7, .ref q15, .ref q23, .ref q31, .ref q39, .ref q47, .ref q55, .int 0, .int 0, .int 0, .ref q63, .null])), (q7, .inl (cy 1, 120, .inl (fun _ => 0))), (q15, .inl (cy 1, 120, .inl (fun _ => 0))), (q23, .inl (cy 1, 120, .inl (fun _ => 0))), (q31, .inl (cy 1, 120, .inl (fun _ => 0))), (q39, .inl (cy 1, 120, .inl (fun _ => 0))), (q47, .inl (cy 1, 120, .inl (fun _ => 0))), (q55, .inl (cy 2, 120, .inl (fun _ => 0))), (q63, .inl (cy 0, 40, .inl (fun _ => 0))), (q71, .inl (cy 1, 40, .inl (fun _ => 0)))] := hD
  refine va_putF (D := D) (ci := 7) (v := .ref q71) (ty := tyX7 11) (C := RX7) (T := TX7) (N := 12) hx hb hts inlX7 tyX7 tyX7_ok nmX7 hown hK hP hD hS 0 rfl rfl 11 (by decide) (hts _ wm_95) (fun _ h9 => h9) rfl hin rfl (tyX7_ok 11 (by decide)) rfl rfl (Nat.le_of_ble_eq_true rfl) dX7_init_73 (fun H locs hP hD hS => ?_)
  have hP : va_P D clW [(h0, .inr (7, [.ref q7, .ref q15, .ref q23, .ref q31, .ref q39, .ref q47, .ref q55, .int 0, .int 0, .int 0, .ref q63, .ref q71])), (q7, .inl (cy 1, 120, .inl (fun _ => 0))), (q15, .inl (cy 1, 120, .inl (fun _ => 0))), (q23, .inl (cy 1, 120, .inl (fun _ => 0))), (q31, .inl (cy 1, 120, .inl (fun _ => 0))), (q39, .inl (cy 1, 120, .inl (fun _ => 0))), (q47, .inl (cy 1, 120, .inl (fun _ => 0))), (q55, .inl (cy 2, 120, .inl (fun _ => 0))), (q63, .inl (cy 0, 40, .inl (fun _ => 0))), (q71, .inl (cy 1, 40, .inl (fun _ => 0)))] H := hP
  have hD : va_D A [(h0, .inr (7, [.ref q7, .ref q15, .ref q23, .ref q31, .ref q39, .ref q47, .ref q55, .int 0, .int 0, .int 0, .ref q63, .ref q71])), (q7, .inl (cy 1, 120, .inl (fun _ => 0))), (q15, .inl (cy 1, 120, .inl (fun _ => 0))), (q23, .inl (cy 1, 120, .inl (fun _ => 0))), (q31, .inl (cy 1, 120, .inl (fun _ => 0))), (q39, .inl (cy 1, 120, .inl (fun _ => 0))), (q47, .inl (cy 1, 120, .inl (fun _ => 0))), (q55, .inl (cy 2, 120, .inl (fun _ => 0))), (q63, .inl (cy 0, 40, .inl (fun _ => 0))), (q71, .inl (cy 1, 40, .inl (fun _ => 0)))] := hD
  exact cV_ret (B := fun u t9 => va_P D clW (wM cy u I0 S0) t9.heap ∧ va_D A (wM cy u I0 S0)) ((fun k => if k = 1 then q7 else if k = 2 then q15 else if k = 3 then q23 else if k = 4 then q31 else if k = 5 then q39 else if k = 6 then q47 else if k = 7 then q55 else if k = 8 then q63 else if k = 9 then q71 else h0) : Nat → Nat) hS hx hb hr hlocks dX7_init_76 (Nat.le_of_ble_eq_true rfl) (Nat.le_of_ble_eq_true rfl) hQ rfl (fun t ht => ⟨by rw [ht]; exact hP, hD⟩)
