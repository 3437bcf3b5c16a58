theorem gf_X7_9 {p : Program} {l : Launch} {e : Env} {R : Room} {s : State} {m : MethodId} {args : Array Value} {below : List Frame} {meth : Method} {c : Code} {H : Heap} {locs : List Loc} {cells slots : Nat} {Q : State → Prop} {cc : ByteArray} {pc : Nat} {ls : Array Slot} {rest : List Value} {D : va_G} {cy : Nat → ClassId} {a : Nat} {ws : va_W} (hx : p.tables.exec = Jvm.exec) (hb : c.code = cc) (hts : ∀ w ∈ wsL_law, w.before args s = true) (hown : s.vm.findClass RX7 = some m.cls) (hK : va_K D clW (tyW cy) s) (hP : va_P D clW ws H) (q0 : Nat) {fs : List Value} (he : ws[q0]? = some (a, .inr (7, fs))) {v : Value} (hv : fs[3]? = some v) (hdg : decode cc pc = .ok (.getfield 9, 3)) (kk : W p l e R s m args below meth c H locs cells slots Q (F0 m (pc + 3) ls (v :: rest))) : W p l e R s m args below meth c H locs cells slots Q (F0 m pc ls (.ref a :: rest)) := va_get (own := RX7) (ref := RX7) (C := RX7) (T := TX7) (N := 27) (ci := 7) hx hb hts inlX7 hown hK hP q0 he rfl 3 (by decide) (hts _ wm_90) (fun _ h => h) hv hdg kk
theorem gf_X7_13 {p : Program} {l : Launch} {e : Env} {R : Room} {s : State} {m : MethodId} {args : Array Value} {below : List Frame} {meth : Method} {c : Code} {H : Heap} {locs : List Loc} {cells slots : Nat} {Q : State → Prop} {cc : ByteArray} {pc : Nat} {ls : Array Slot} {rest : List Value} {D : va_G} {cy : Nat → ClassId} {a : Nat} {ws : va_W} (hx : p.tables.exec = Jvm.exec) (hb : c.code = cc) (hts : ∀ w ∈ wsL_law, w.before args s = true) (hown : s.vm.findClass RX7 = some m.cls) (hK : va_K D clW (tyW cy) s) (hP : va_P D clW ws H) (q0 : Nat) {fs : List Value} (he : ws[q0]? = some (a, .inr (7, fs))) {v : Value} (hv : fs[4]? = some v) (hdg : decode cc pc = .ok (.getfield 13, 3)) (kk : W p l e R s m args below meth c H locs cells slots Q (F0 m (pc + 3) ls (v :: rest))) : W p l e R s m args below meth c H locs cells slots Q (F0 m pc ls (.ref a :: rest)) := va_get (own := RX7) (ref := RX7) (C := RX7) (T := TX7) (N := 27) (ci := 7) hx hb hts inlX7 hown hK hP q0 he rfl 4 (by decide) (hts _ wm_91) (fun _ h => h) hv hdg kk
theorem gf_X7_17 {p : Program} {l : Launch} {e : Env} {R : Room} {s : State} {m : MethodId} {args : Array Value} {below : List Frame} {meth : Method} {c : Code} {H : Heap} {locs : List Loc} {cells slots : Nat} {Q : State → Prop} {cc : ByteArray} {pc : Nat} {ls : Array Slot} {rest : List Value} {D : va_G} {cy : Nat → ClassId} {a : Nat} {ws : va_W} (hx : p.tables.exec = Jvm.exec) (hb : c.code = cc) (hts : ∀ w ∈ wsL_law, w.before args s = true) (hown : s.vm.findClass RX7 = some m.cls) (hK : va_K D clW (tyW cy) s) (hP : va_P D clW ws H) (q0 : Nat) {fs : List Value} (he : ws[q0]? = some (a, .inr (7, fs))) {v : Value} (hv : fs[7]? = some v) (hdg : decode cc pc = .ok (.getfield 17, 3)) (kk : W p l e R s m args below meth c H locs cells slots Q (F0 m (pc + 3) ls (v :: rest))) : W p l e R s m args below meth c H locs cells slots Q (F0 m pc ls (.ref a :: rest)) := va_get (own := RX7) (ref := RX7) (C := RX7) (T := TX7) (N := 27) (ci := 7) hx hb hts inlX7 hown hK hP q0 he rfl 7 (by decide) (hts _ wm_92) (fun _ h => h) hv hdg kk
theorem gf_X7_20 {p : Program} {l : Launch} {e : Env} {R : Room} {s : State} {m : MethodId} {args : Array Value} {below : List Frame} {meth : Method} {c : Code} {H : Heap} {locs : List Loc} {cells slots : Nat} {Q : State → Prop} {cc : ByteArray} {pc : Nat} {ls : Array Slot} {rest : List Value} {D : va_G} {cy : Nat → ClassId} {a : Nat} {ws : va_W} (hx : p.tables.exec = Jvm.exec) (hb : c.code = cc) (hts : ∀ w ∈ wsL_law, w.before args s = true) (hown : s.vm.findClass RX7 = some m.cls) (hK : va_K D clW (tyW cy) s) (hP : va_P D clW ws H) (q0 : Nat) {fs : List Value} (he : ws[q0]? = some (a, .inr (7, fs))) {v : Value} (hv : fs[8]? = some v) (hdg : decode cc pc = .ok (.getfield 20, 3)) (kk : W p l e R s m args below meth c H locs cells slots Q (F0 m (pc + 3) ls (v :: rest))) : W p l e R s m args below meth c H locs cells slots Q (F0 m pc ls (.ref a :: rest)) := va_get (own := RX7) (ref := RX7) (C := RX7) (T := TX7) (N := 27) (ci := 7) hx hb hts inlX7 hown hK hP q0 he rfl 8 (by decide) (hts _ wm_93) (fun _ h => h) hv hdg kk
theorem gf_X7_23 {p : Program} {l : Launch} {e : Env} {R : Room} {s : State} {m : MethodId} {args : Array Value} {below : List Frame} {meth : Method} {c : Code} {H : Heap} {locs : List Loc} {cells slots : Nat} {Q : State → Prop} {cc : ByteArray} {pc : Nat} {ls : Array Slot} {rest : List Value} {D : va_G} {cy : Nat → ClassId} {a : Nat} {ws : va_W} (hx : p.tables.exec = Jvm.exec) (hb : c.code = cc) (hts : ∀ w ∈ wsL_law, w.before args s = true) (hown : s.vm.findClass RX7 = some m.cls) (hK : va_K D clW (tyW cy) s) (hP : va_P D clW ws H) (q0 : Nat) {fs : List Value} (he : ws[q0]? = some (a, .inr (7, fs))) {v : Value} (hv : fs[9]? = some v) (hdg : decode cc pc = .ok (.getfield 23, 3)) (kk : W p l e R s m args below meth c H locs cells slots Q (F0 m (pc + 3) ls (v :: rest))) : W p l e R s m args below meth c H locs cells slots Q (F0 m pc ls (.ref a :: rest)) := va_get (own := RX7) (ref := RX7) (C := RX7) (T := TX7) (N := 27) (ci := 7) hx hb hts inlX7 hown hK hP q0 he rfl 9 (by decide) (hts _ wm_94) (fun _ h => h) hv hdg kk
theorem gf_X7_26 {p : Program} {l : Launch} {e : Env} {R : Room} {s : State} {m : MethodId} {args : Array Value} {below : List Frame} {meth : Method} {c : Code} {H : Heap} {locs : List Loc} {cells slots : Nat} {Q : State → Prop} {cc : ByteArray} {pc : Nat} {ls : Array Slot} {rest : List Value} {D : va_G} {cy : Nat → ClassId} {a : Nat} {ws : va_W} (hx : p.tables.exec = Jvm.exec) (hb : c.code = cc) (hts : ∀ w ∈ wsL_law, w.before args s = true) (hown : s.vm.findClass RX7 = some m.cls) (hK : va_K D clW (tyW cy) s) (hP : va_P D clW ws H) (q0 : Nat) {fs : List Value} (he : ws[q0]? = some (a, .inr (7, fs))) {v : Value} (hv : fs[10]? = some v) (hdg : decode cc pc = .ok (.getfield 26, 3)) (kk : W p l e R s m args below meth c H locs cells slots Q (F0 m (pc + 3) ls (v :: rest))) : W p l e R s m args below meth c H locs cells slots Q (F0 m pc ls (.ref a :: rest)) := va_get (own := RX7) (ref := RX7) (C := RX7) (T := TX7) (N := 27) (ci := 7) hx hb hts inlX7 hown hK hP q0 he rfl 10 (by decide) (hts _ wm_95) (fun _ h => h) hv hdg kk
theorem gf_X7_29 {p : Program} {l : Launch} {e : Env} {R : Room} {s : State} {m : MethodId} {args : Array Value} {below : List Frame} {meth : Method} {c : Code} {H : Heap} {locs : List Loc} {cells slots : Nat} {Q : State → Prop} {cc : ByteArray} {pc : Nat} {ls : Array Slot} {rest : List Value} {D : va_G} {cy : Nat → ClassId} {a : Nat} {ws : va_W} (hx : p.tables.exec = Jvm.exec) (hb : c.code = cc) (hts : ∀ w ∈ wsL_law, w.before args s = true) (hown : s.vm.findClass RX7 = some m.cls) (hK : va_K D clW (tyW cy) s) (hP : va_P D clW ws H) (q0 : Nat) {fs : List Value} (he : ws[q0]? = some (a, .inr (7, fs))) {v : Value} (hv : fs[11]? = some v) (hdg : decode cc pc = .ok (.getfield 29, 3)) (kk : W p l e R s m args below meth c H locs cells slots Q (F0 m (pc + 3) ls (v :: rest))) : W p l e R s m args below meth c H locs cells slots Q (F0 m pc ls (.ref a :: rest)) := va_get (own := RX7) (ref := RX7) (C := RX7) (T := TX7) (N := 27) (ci := 7) hx hb hts inlX7 hown hK hP q0 he rfl 11 (by decide) (hts _ wm_96) (fun _ h => h) hv hdg kk
theorem gf_X7_32 {p : Program} {l : Launch} {e : Env} {R : Room} {s : State} {m : MethodId} {args : Array Value} {below : List Frame} {meth : Method} {c : Code} {H : Heap} {locs : List Loc} {cells slots : Nat} {Q : State → Prop} {cc : ByteArray} {pc : Nat} {ls : Array Slot} {rest : List Value} {D : va_G} {cy : Nat → ClassId} {a : Nat} {ws : va_W} (hx : p.tables.exec = Jvm.exec) (hb : c.code = cc) (hts : ∀ w ∈ wsL_law, w.before args s = true) (hown : s.vm.findClass RX7 = some m.cls) (hK : va_K D clW (tyW cy) s) (hP : va_P D clW ws H) (q0 : Nat) {fs : List Value} (he : ws[q0]? = some (a, .inr (7, fs))) {v : Value} (hv : fs[12]? = some v) (hdg : decode cc pc = .ok (.getfield 32, 3)) (kk : W p l e R s m args below meth c H locs cells slots Q (F0 m (pc + 3) ls (v :: rest))) : W p l e R s m args below meth c H locs cells slots Q (F0 m pc ls (.ref a :: rest)) := va_get (own := RX7) (ref := RX7) (C := RX7) (T := TX7) (N := 27) (ci := 7) hx hb hts inlX7 hown hK hP q0 he rfl 12 (by decide) (hts _ wm_97) (fun _ h => h) hv hdg kk
theorem gf_X7_35 {p : Program} {l : Launch} {e : Env} {R : Room} {s : State} {m : MethodId} {args : Array Value} {below : List Frame} {meth : Method} {c : Code} {H : Heap} {locs : List Loc} {cells slots : Nat} {Q : State → Prop} {cc : ByteArray} {pc : Nat} {ls : Array Slot} {rest : List Value} {D : va_G} {cy : Nat → ClassId} {a : Nat} {ws : va_W} (hx : p.tables.exec = Jvm.exec) (hb : c.code = cc) (hts : ∀ w ∈ wsL_law, w.before args s = true) (hown : s.vm.findClass RX7 = some m.cls) (hK : va_K D clW (tyW cy) s) (hP : va_P D clW ws H) (q0 : Nat) {fs : List Value} (he : ws[q0]? = some (a, .inr (7, fs))) {v : Value} (hv : fs[13]? = some v) (hdg : decode cc pc = .ok (.getfield 35, 3)) (kk : W p l e R s m args below meth c H locs cells slots Q (F0 m (pc + 3) ls (v :: rest))) : W p l e R s m args below meth c H locs cells slots Q (F0 m pc ls (.ref a :: rest)) := va_get (own := RX7) (ref := RX7) (C := RX7) (T := TX7) (N := 27) (ci := 7) hx hb hts inlX7 hown hK hP q0 he rfl 13 (by decide) (hts _ wm_98) (fun _ h => h) hv hdg kk
theorem gf_X7_60 {p : Program} {l : Launch} {e : Env} {R : Room} {s : State} {m : MethodId} {args : Array Value} {below : List Frame} {meth : Method} {c : Code} {H : Heap} {locs : List Loc} {cells slots : Nat} {Q : State → Prop} {cc : ByteArray} {pc : Nat} {ls : Array Slot} {rest : List Value} {D : va_G} {cy : Nat → ClassId} {a : Nat} {ws : va_W} (hx : p.tables.exec = Jvm.exec) (hb : c.code = cc) (hts : ∀ w ∈ wsL_law, w.before args s = true) (hown : s.vm.findClass RX7 = some m.cls) (hK : va_K D clW (tyW cy) s) (hP : va_P D clW ws H) (q0 : Nat) {fs : List Value} (he : ws[q0]? = some (a, .inr (7, fs))) {v : Value} (hv : fs[0]? = some v) (hdg : decode cc pc = .ok (.getfield 60, 3)) (kk : W p l e R s m args below meth c H locs cells slots Q (F0 m (pc + 3) ls (v :: rest))) : W p l e R s m args below meth c H locs cells slots Q (F0 m pc ls (.ref a :: rest)) := va_get (own := RX7) (ref := RX7) (C := RX7) (T := TX7) (N := 27) (ci := 7) hx hb hts inlX7 hown hK hP q0 he rfl 0 (by decide) (hts _ wm_126) (fun _ h => h) hv hdg kk
theorem pf_X7_60 {p : Program} {l : Launch} {e : Env} {R : Room} {s : State} {m : MethodId} {args : Array Value} {below : List Frame} {meth : Method} {c : Code} {H : Heap} {locs : List Loc} {cells slots : Nat} {Q : State → Prop} {cc : ByteArray} {pc : Nat} {ls : Array Slot} {rest : List Value} {D : va_G} {cy : Nat → ClassId} {a : Nat} {ws : va_W} {A : Nat → Prop} {H0 : Heap} (hx : p.tables.exec = Jvm.exec) (hb : c.code = cc) (hts : ∀ w ∈ wsL_law, w.before args s = true) (hown : s.vm.findClass RX7 = some m.cls) (hK : va_K D clW (tyW cy) s) (hP : va_P D clW ws H) (hD : va_D A ws) (hS : va_S A H0 H locs) (q0 : Nat) {fs : List Value} (he : ws[q0]? = some (a, .inr (7, fs))) {x : Int32} (hl : 0 < fs.length) (hdg : decode cc pc = .ok (.putfield 60, 3)) (kk : ∀ (H1 : Heap) (locs1 : List Loc), va_P D clW (ws.set q0 (a, .inr (7, fs.set 0 (.int x)))) H1 → va_D A (ws.set q0 (a, .inr (7, fs.set 0 (.int x)))) → va_S A H0 H1 locs1 → W p l e R s m args below meth c H1 locs1 cells slots Q (F0 m (pc + 3) ls rest)) : W p l e R s m args below meth c H locs cells slots Q (F0 m pc ls (.int x :: .ref a :: rest)) := va_put (own := RX7) (ref := RX7) (C := RX7) (T := TX7) (N := 27) (ci := 7) (ty := .int) hx hb hts inlX7 tyX7 tyX7_ok nmX7 hown hK hP hD hS q0 he rfl 0 (by decide) (hts _ wm_126) (fun _ h => h) rfl (by decide +kernel) rfl rfl hl hdg kk
theorem gf_X7_64 {p : Program} {l : Launch} {e : Env} {R : Room} {s : State} {m : MethodId} {args : Array Value} {below : List Frame} {meth : Method} {c : Code} {H : Heap} {locs : List Loc} {cells slots : Nat} {Q : State → Prop} {cc : ByteArray} {pc : Nat} {ls : Array Slot} {rest : List Value} {D : va_G} {cy : Nat → ClassId} {a : Nat} {ws : va_W} (hx : p.tables.exec = Jvm.exec) (hb : c.code = cc) (hts : ∀ w ∈ wsL_law, w.before args s = true) (hown : s.vm.findClass RX7 = some m.cls) (hK : va_K D clW (tyW cy) s) (hP : va_P D clW ws H) (q0 : Nat) {fs : List Value} (he : ws[q0]? = some (a, .inr (7, fs))) {v : Value} (hv : fs[1]? = some v) (hdg : decode cc pc = .ok (.getfield 64, 3)) (kk : W p l e R s m args below meth c H locs cells slots Q (F0 m (pc + 3) ls (v :: rest))) : W p l e R s m args below meth c H locs cells slots Q (F0 m pc ls (.ref a :: rest)) := va_get (own := RX7) (ref := RX7) (C := RX7) (T := TX7) (N := 27) (ci := 7) hx hb hts inlX7 hown hK hP q0 he rfl 1 (by decide) (hts _ wm_121) (fun _ h => h) hv hdg kk
theorem pf_X7_64 {p : Program} {l : Launch} {e : Env} {R : Room} {s : State} {m : MethodId} {args : Array Value} {below : List Frame} {meth : Method} {c : Code} {H : Heap} {locs : List Loc} {cells slots : Nat} {Q : State → Prop} {cc : ByteArray} {pc : Nat} {ls : Array Slot} {rest : List Value} {D : va_G} {cy : Nat → ClassId} {a : Nat} {ws : va_W} {A : Nat → Prop} {H0 : Heap} (hx : p.tables.exec = Jvm.exec) (hb : c.code = cc) (hts : ∀ w ∈ wsL_law, w.before args s = true) (hown : s.vm.findClass RX7 = some m.cls) (hK : va_K D clW (tyW cy) s) (hP : va_P D clW ws H) (hD : va_D A ws) (hS : va_S A H0 H locs) (q0 : Nat) {fs : List Value} (he : ws[q0]? = some (a, .inr (7, fs))) {x : Int32} (hl : 1 < fs.length) (hdg : decode cc pc = .ok (.putfield 64, 3)) (kk : ∀ (H1 : Heap) (locs1 : List Loc), va_P D clW (ws.set q0 (a, .inr (7, fs.set 1 (.int x)))) H1 → va_D A (ws.set q0 (a, .inr (7, fs.set 1 (.int x)))) → va_S A H0 H1 locs1 → W p l e R s m args below meth c H1 locs1 cells slots Q (F0 m (pc + 3) ls rest)) : W p l e R s m args below meth c H locs cells slots Q (F0 m pc ls (.int x :: .ref a :: rest)) := va_put (own := RX7) (ref := RX7) (C := RX7) (T := TX7) (N := 27) (ci := 7) (ty := .int) hx hb hts inlX7 tyX7 tyX7_ok nmX7 hown hK hP hD hS q0 he rfl 1 (by decide) (hts _ wm_121) (fun _ h => h) rfl (by decide +kernel) rfl rfl hl hdg kk
theorem gf_X7_75 {p : Program} {l : Launch} {e : Env} {R : Room} {s : State} {m : MethodId} {args : Array Value} {below : List Frame} {meth : Method} {c : Code} {H : Heap} {locs : List Loc} {cells slots : Nat} {Q : State → Prop} {cc : ByteArray} {pc : Nat} {ls : Array Slot} {rest : List Value} {D : va_G} {cy : Nat → ClassId} {a : Nat} {ws : va_W} (hx : p.tables.exec = Jvm.exec) (hb : c.code = cc) (hts : ∀ w ∈ wsL_law, w.before args s = true) (hown : s.vm.findClass RX7 = some m.cls) (hK : va_K D clW (tyW cy) s) (hP : va_P D clW ws H) (q0 : Nat) {fs : List Value} (he : ws[q0]? = some (a, .inr (7, fs))) {v : Value} (hv : fs[5]? = some v) (hdg : decode cc pc = .ok (.getfield 75, 3)) (kk : W p l e R s m args below meth c H locs cells slots Q (F0 m (pc + 3) ls (v :: rest))) : W p l e R s m args below meth c H locs cells slots Q (F0 m pc ls (.ref a :: rest)) := va_get (own := RX7) (ref := RX7) (C := RX7) (T := TX7) (N := 27) (ci := 7) hx hb hts inlX7 hown hK hP q0 he rfl 5 (by decide) (hts _ wm_249) (fun _ h => h) hv hdg kk
theorem pf_X7_75 {p : Program} {l : Launch} {e : Env} {R : Room} {s : State} {m : MethodId} {args : Array Value} {below : List Frame} {meth : Method} {c : Code} {H : Heap} {locs : List Loc} {cells slots : Nat} {Q : State → Prop} {cc : ByteArray} {pc : Nat} {ls : Array Slot} {rest : List Value} {D : va_G} {cy : Nat → ClassId} {a : Nat} {ws : va_W} {A : Nat → Prop} {H0 : Heap} (hx : p.tables.exec = Jvm.exec) (hb : c.code = cc) (hts : ∀ w ∈ wsL_law, w.before args s = true) (hown : s.vm.findClass RX7 = some m.cls) (hK : va_K D clW (tyW cy) s) (hP : va_P D clW ws H) (hD : va_D A ws) (hS : va_S A H0 H locs) (q0 : Nat) {fs : List Value} (he : ws[q0]? = some (a, .inr (7, fs))) {x : Int32} (hl : 5 < fs.length) (hdg : decode cc pc = .ok (.putfield 75, 3)) (kk : ∀ (H1 : Heap) (locs1 : List Loc), va_P D clW (ws.set q0 (a, .inr (7, fs.set 5 (.int x)))) H1 → va_D A (ws.set q0 (a, .inr (7, fs.set 5 (.int x)))) → va_S A H0 H1 locs1 → W p l e R s m args below meth c H1 locs1 cells slots Q (F0 m (pc + 3) ls rest)) : W p l e R s m args below meth c H locs cells slots Q (F0 m pc ls (.int x :: .ref a :: rest)) := va_put (own := RX7) (ref := RX7) (C := RX7) (T := TX7) (N := 27) (ci := 7) (ty := .int) hx hb hts inlX7 tyX7 tyX7_ok nmX7 hown hK hP hD hS q0 he rfl 5 (by decide) (hts _ wm_249) (fun _ h => h) rfl (by decide +kernel) rfl rfl hl hdg kk
theorem gf_X7_78 {p : Program} {l : Launch} {e : Env} {R : Room} {s : State} {m : MethodId} {args : Array Value} {below : List Frame} {meth : Method} {c : Code} {H : Heap} {locs : List Loc} {cells slots : Nat} {Q : State → Prop} {cc : ByteArray} {pc : Nat} {ls : Array Slot} {rest : List Value} {D : va_G} {cy : Nat → ClassId} {a : Nat} {ws : va_W} (hx : p.tables.exec = Jvm.exec) (hb : c.code = cc) (hts : ∀ w ∈ wsL_law, w.before args s = true) (hown : s.vm.findClass RX7 = some m.cls) (hK : va_K D clW (tyW cy) s) (hP : va_P D clW ws H) (q0 : Nat) {fs : List Value} (he : ws[q0]? = some (a, .inr (7, fs))) {v : Value} (hv : fs[2]? = some v) (hdg : decode cc pc = .ok (.getfield 78, 3)) (kk : W p l e R s m args below meth c H locs cells slots Q (F0 m (pc + 3) ls (v :: rest))) : W p l e R s m args below meth c H locs cells slots Q (F0 m pc ls (.ref a :: rest)) := va_get (own := RX7) (ref := RX7) (C := RX7) (T := TX7) (N := 27) (ci := 7) hx hb hts inlX7 hown hK hP q0 he rfl 2 (by decide) (hts _ wm_223) (fun _ h => h) hv hdg kk
theorem pf_X7_78 {p : Program} {l : Launch} {e : Env} {R : Room} {s : State} {m : MethodId} {args : Array Value} {below : List Frame} {meth : Method} {c : Code} {H : Heap} {locs : List Loc} {cells slots : Nat} {Q : State → Prop} {cc : ByteArray} {pc : Nat} {ls : Array Slot} {rest : List Value} {D : va_G} {cy : Nat → ClassId} {a : Nat} {ws : va_W} {A : Nat → Prop} {H0 : Heap} (hx : p.tables.exec = Jvm.exec) (hb : c.code = cc) (hts : ∀ w ∈ wsL_law, w.before args s = true) (hown : s.vm.findClass RX7 = some m.cls) (hK : va_K D clW (tyW cy) s) (hP : va_P D clW ws H) (hD : va_D A ws) (hS : va_S A H0 H locs) (q0 : Nat) {fs : List Value} (he : ws[q0]? = some (a, .inr (7, fs))) {x : Int32} (hl : 2 < fs.length) (hdg : decode cc pc = .ok (.putfield 78, 3)) (kk : ∀ (H1 : Heap) (locs1 : List Loc), va_P D clW (ws.set q0 (a, .inr (7, fs.set 2 (.int x)))) H1 → va_D A (ws.set q0 (a, .inr (7, fs.set 2 (.int x)))) → va_S A H0 H1 locs1 → W p l e R s m args below meth c H1 locs1 cells slots Q (F0 m (pc + 3) ls rest)) : W p l e R s m args below meth c H locs cells slots Q (F0 m pc ls (.int x :: .ref a :: rest)) := va_put (own := RX7) (ref := RX7) (C := RX7) (T := TX7) (N := 27) (ci := 7) (ty := .int) hx hb hts inlX7 tyX7 tyX7_ok nmX7 hown hK hP hD hS q0 he rfl 2 (by decide) (hts _ wm_223) (fun _ h => h) rfl (by decide +kernel) rfl rfl hl hdg kk
theorem gf_X7_115 {p : Program} {l : Launch} {e : Env} {R : Room} {s : State} {m : MethodId} {args : Array Value} {below : List Frame} {meth : Method} {c : Code} {H : Heap} {locs : List Loc} {cells slots : Nat} {Q : State → Prop} {cc : ByteArray} {pc : Nat} {ls : Array Slot} {rest : List Value} {D : va_G} {cy : Nat → ClassId} {a : Nat} {ws : va_W} (hx : p.tables.exec = Jvm.exec) (hb : c.code = cc) (hts : ∀ w ∈ wsL_law, w.before args s = true) (hown : s.vm.findClass RX7 = some m.cls) (hK : va_K D clW (tyW cy) s) (hP : va_P D clW ws H) (q0 : Nat) {fs : List Value} (he : ws[q0]? = some (a, .inr (7, fs))) {v : Value} (hv : fs[6]? = some v) (hdg : decode cc pc = .ok (.getfield 115, 3)) (kk : W p l e R s m args below meth c H locs cells slots Q (F0 m (pc + 3) ls (v :: rest))) : W p l e R s m args below meth c H locs cells slots Q (F0 m pc ls (.ref a :: rest)) := va_get (own := RX7) (ref := RX7) (C := RX7) (T := TX7) (N := 27) (ci := 7) hx hb hts inlX7 hown hK hP q0 he rfl 6 (by decide) (hts _ wm_371) (fun _ h => h) hv hdg kk
theorem gf_X7_121 {p : Program} {l : Launch} {e : Env} {R : Room} {s : State} {m : MethodId} {args : Array Value} {below : List Frame} {meth : Method} {c : Code} {H : Heap} {locs : List Loc} {cells slots : Nat} {Q : State → Prop} {cc : ByteArray} {pc : Nat} {ls : Array Slot} {rest : List Value} {D : va_G} {cy : Nat → ClassId} {a : Nat} {ws : va_W} (hx : p.tables.exec = Jvm.exec) (hb : c.code = cc) (hts : ∀ w ∈ wsL_law, w.before args s = true) (hown : s.vm.findClass RX7 = some m.cls) (hK : va_K D clW (tyW cy) s) (hP : va_P D clW ws H) (q0 : Nat) {fs : List Value} (he : ws[q0]? = some (a, .inr (7, fs))) {v : Value} (hv : fs[14]? = some v) (hdg : decode cc pc = .ok (.getfield 121, 3)) (kk : W p l e R s m args below meth c H locs cells slots Q (F0 m (pc + 3) ls (v :: rest))) : W p l e R s m args below meth c H locs cells slots Q (F0 m pc ls (.ref a :: rest)) := va_get (own := RX7) (ref := RX7) (C := RX7) (T := TX7) (N := 27) (ci := 7) hx hb hts inlX7 hown hK hP q0 he rfl 14 (by decide) (hts _ wm_477) (fun _ h => h) hv hdg kk
theorem cw_X7_67 {R : Room} {s : State} {args : Array Value} {rm : Room} {mc ms : Nat} (hts : ∀ w ∈ wsL_law, w.before args s = true) (hrc : rm.cells = mc) (hrs : rm.slots = ms) (hR : rm.frames + 1 ≤ R.frames ∧ 8 + (3 + 11) + rm.locals ≤ R.locals) : CallB R s args RX7 67 yX7_in cX7_in 3 (some .boolean) (Cond.code yX7_in cX7_in 3 (some .boolean) :: wsL_law) rm mc ms 3 ∧ (Cond.static yX7_in).before args s = true := va_cwS 3 hts (gUS wm_228 wm_229 wm_5 wm_230) rfl hrc hrs (by decide +kernel) hR
theorem cw_X7_71 {R : Room} {s : State} {args : Array Value} {rm : Room} {mc ms : Nat} (hts : ∀ w ∈ wsL_law, w.before args s = true) (hrc : rm.cells = mc) (hrs : rm.slots = ms) (hR : rm.frames + 1 ≤ R.frames ∧ 8 + (2 + 11) + rm.locals ≤ R.locals) : CallW R s args RX7 RX7 71 yX7_goesOn cX7_goesOn 2 (some .boolean) (Cond.code yX7_goesOn cX7_goesOn 2 (some .boolean) :: wsL_law) rm mc ms 1 := cwV 1 hts (gUV wm_122 wm_123 wm_124 wm_5 wm_125) rfl hrc hrs (by decide +kernel) hR
theorem cw_X7_81 {R : Room} {s : State} {args : Array Value} {rm : Room} {mc ms : Nat} (hts : ∀ w ∈ wsL_law, w.before args s = true) (hrc : rm.cells = mc) (hrs : rm.slots = ms) (hR : rm.frames + 1 ≤ R.frames ∧ 8 + (2 + 11) + rm.locals ≤ R.locals) : CallW R s args RX7 RX7 81 yX7_isOpen cX7_isOpen 2 (some .boolean) (Cond.code yX7_isOpen cX7_isOpen 2 (some .boolean) :: wsL_law) rm mc ms 1 := cwV 1 hts (gUV wm_250 wm_251 wm_252 wm_5 wm_253) rfl hrc hrs (by decide +kernel) hR
theorem cw_X7_118 {R : Room} {s : State} {args : Array Value} {rm : Room} {mc ms : Nat} (hts : ∀ w ∈ wsL_law, w.before args s = true) (hrc : rm.cells = mc) (hrs : rm.slots = ms) (hR : rm.frames + 1 ≤ R.frames ∧ 8 + (2 + 11) + rm.locals ≤ R.locals) : CallW R s args RX7 RX7 118 yX7_isFact cX7_isFact 2 (some .boolean) (Cond.code yX7_isFact cX7_isFact 2 (some .boolean) :: wsL_law) rm mc ms 1 := cwV 1 hts (gUV wm_401 wm_402 wm_403 wm_5 wm_404) rfl hrc hrs (by decide +kernel) hR
set_option maxHeartbeats 4000000 in
set_option maxRecDepth 100000 in
theorem c_X7_thrown (l : Launch) (D : va_G) (cy : Nat → ClassId) (ad : Nat → Nat) (I : AI) (S : AS) : Met l yX7_thrown (Cond.code yX7_thrown cX7_thrown 1 (some .int) :: wsL_law) ({ frames := 0, cells := 0, slots := 0, locals := 0 }) (va_Pc [.ref (ad 0)] (rdB D cy (wM cy ad I S))) (rdI (fun r => r = I 0)) 0 0 noA := by
  refine enter (cc := cX7_thrown) (by decide) (Nat.le_of_ble_eq_true rfl) ?_
  intro p e s m below meth c hx hb hr hml hown hts hlocks hin hv Q hQ ls hl
  obtain ⟨hP, hK⟩ := hv
  have hown : s.vm.findClass RX7 = some m.cls := hown
  have hl : lv_has ls 1 [(0, .ref (ad 0))] := hl
  refine lv_aload_n hx hb dX7_thrown_0 rfl (lv_at hl 0 rfl) ?_
  refine gf_X7_60 hx hb hts hown hK hP 0 rfl (v := .int (I 0)) rfl dX7_thrown_1 ?_
  exact rI_ret hx hb hr hlocks dX7_thrown_4 hQ rfl

set_option maxHeartbeats 4000000 in
set_option maxRecDepth 100000 in
theorem c_X7_in (l : Launch) (D : va_G) (cy : Nat → ClassId) (v : Int32) (lo : Int32) (hi : Int32) : Met l yX7_in (Cond.code yX7_in cX7_in 3 (some .boolean) :: wsL_law) ({ frames := 0, cells := 0, slots := 0, locals := 0 }) (va_Pc [.int v, .int lo, .int hi] (rdB D cy [])) (rdI (fun r => r = if inB v lo hi = true then 1 else 0)) 0 0 noA := by
  refine enter (cc := cX7_in) (by decide) (Nat.le_of_ble_eq_true rfl) ?_
  intro p e s m below meth c hx hb hr hml hown hts hlocks hin hv Q hQ ls hl
  obtain ⟨hP, hK⟩ := hv
  have hown : s.vm.findClass RX7 = some m.cls := hown
  have hl : lv_has ls 3 [(0, .int v), (1, .int lo), (2, .int hi)] := hl
  refine lv_iload_n hx hb dX7_in_0 rfl (lv_at hl 0 rfl) ?_
  refine lv_iload_n hx hb dX7_in_1 rfl (lv_at hl 1 rfl) ?_
  refine lv_icmp_lt (tgt := 14) hx hb dX7_in_2 (by decide) (fun c2_1 => ?_) (fun c2_1 => ?_)
  · refine lv_iconst (v := 0) hx hb dX7_in_14 (by decide) ?_
    exact rZ_ret hx hb hr hlocks dX7_in_15 narZ0 hQ (by simp [inB, c2_1])
  · refine lv_iload_n hx hb dX7_in_5 rfl (lv_at hl 0 rfl) ?_
    refine lv_iload_n hx hb dX7_in_6 rfl (lv_at hl 2 rfl) ?_
    refine lv_icmp_gt (tgt := 14) hx hb dX7_in_7 (by decide) (fun c7_2 => ?_) (fun c7_2 => ?_)
    · refine lv_iconst (v := 0) hx hb dX7_in_14 (by decide) ?_
      exact rZ_ret hx hb hr hlocks dX7_in_15 narZ0 hQ (by simp [inB, c2_1, c7_2])
    · refine lv_iconst (v := 1) hx hb dX7_in_10 (by decide) ?_
      refine lv_goto (tgt := 15) hx hb dX7_in_11 (by decide) ?_
      exact rZ_ret hx hb hr hlocks dX7_in_15 narZ1 hQ (by simp [inB, c2_1, c7_2])

set_option maxHeartbeats 4000000 in
set_option maxRecDepth 100000 in
theorem c_X7_placeOf (l : Launch) (D : va_G) (cy : Nat → ClassId) (x : Int32) (b : Int32) : Met l yX7_placeOf (Cond.code yX7_placeOf cX7_placeOf 2 (some .int) :: wsL_law) ({ frames := 0, cells := 0, slots := 0, locals := 0 }) (va_Pc [.int x, .int b] (rdB D cy [])) (rdI (fun r => r = slM x b)) 0 0 noA := by
  refine enter (cc := cX7_placeOf) (by decide) (Nat.le_of_ble_eq_true rfl) ?_
  intro p e s m below meth c hx hb hr hml hown hts hlocks hin hv Q hQ ls hl
  obtain ⟨hP, hK⟩ := hv
  have hown : s.vm.findClass RX7 = some m.cls := hown
  have hl : lv_has ls 2 [(0, .int x), (1, .int b)] := hl
  refine lv_iconst (v := 3) hx hb dX7_placeOf_0 (by decide) ?_
  refine lv_iload_n hx hb dX7_placeOf_1 rfl (lv_at hl 0 rfl) ?_
  refine lv_imul hx hb dX7_placeOf_2 ?_
  refine lv_iload_n hx hb dX7_placeOf_3 rfl (lv_at hl 1 rfl) ?_
  refine lv_iadd hx hb dX7_placeOf_4 ?_
  exact rI_ret hx hb hr hlocks dX7_placeOf_5 hQ rfl

set_option maxHeartbeats 4000000 in
set_option maxRecDepth 100000 in
theorem c_X7_areDays (l : Launch) (D : va_G) (cy : Nat → ClassId) (x : Int32) (y : Int32) : Met l yX7_areDays (Cond.code yX7_areDays cX7_areDays 2 (some .boolean) :: wsL_law) ({ frames := 0, cells := 0, slots := 0, locals := 0 }) (va_Pc [.int x, .int y] (rdB D cy [])) (rdI (fun r => r = if daB x y = true then 1 else 0)) 0 0 noA := by
  refine enter (cc := cX7_areDays) (by decide) (Nat.le_of_ble_eq_true rfl) ?_
  intro p e s m below meth c hx hb hr hml hown hts hlocks hin hv Q hQ ls hl
  obtain ⟨hP, hK⟩ := hv
  have hown : s.vm.findClass RX7 = some m.cls := hown
  have hl : lv_has ls 2 [(0, .int x), (1, .int y)] := hl
  refine lv_iload_n hx hb dX7_areDays_0 rfl (lv_at hl 0 rfl) ?_
  refine lv_if_lt (tgt := 19) hx hb dX7_areDays_1 (by decide) (fun c1_1 => ?_) (fun c1_1 => ?_)
  · refine lv_iconst (v := 0) hx hb dX7_areDays_19 (by decide) ?_
    exact rZ_ret hx hb hr hlocks dX7_areDays_20 narZ0 hQ (by simp [daB, c1_1])
  · refine lv_iload_n hx hb dX7_areDays_4 rfl (lv_at hl 1 rfl) ?_
    refine lv_iload_n hx hb dX7_areDays_5 rfl (lv_at hl 0 rfl) ?_
    refine lv_icmp_le (tgt := 19) hx hb dX7_areDays_6 (by decide) (fun c6_2 => ?_) (fun c6_2 => ?_)
    · refine lv_iconst (v := 0) hx hb dX7_areDays_19 (by decide) ?_
      exact rZ_ret hx hb hr hlocks dX7_areDays_20 narZ0 hQ (by simp [daB, c1_1, c6_2])
    · refine lv_iload_n hx hb dX7_areDays_9 rfl (lv_at hl 1 rfl) ?_
      refine lv_bipush (v := 100) hx hb dX7_areDays_10 (by decide) ?_
      refine lv_icmp_gt (tgt := 19) hx hb dX7_areDays_12 (by decide) (fun c12_3 => ?_) (fun c12_3 => ?_)
      · refine lv_iconst (v := 0) hx hb dX7_areDays_19 (by decide) ?_
        exact rZ_ret hx hb hr hlocks dX7_areDays_20 narZ0 hQ (by simp [daB, c1_1, c6_2, c12_3])
      · refine lv_iconst (v := 1) hx hb dX7_areDays_15 (by decide) ?_
        refine lv_goto (tgt := 20) hx hb dX7_areDays_16 (by decide) ?_
        exact rZ_ret hx hb hr hlocks dX7_areDays_20 narZ1 hQ (by simp [daB, c1_1, c6_2, c12_3])

set_option maxHeartbeats 4000000 in
set_option maxRecDepth 100000 in
theorem c_X7_goesOn (l : Launch) (D : va_G) (cy : Nat → ClassId) (ad : Nat → Nat) (I : AI) (S : AS) (sz : Nat) (z : Int32) : Met l yX7_goesOn (Cond.code yX7_goesOn cX7_goesOn 2 (some .boolean) :: wsL_law) ({ frames := 0, cells := 0, slots := 0, locals := 0 }) (va_Pc [.ref (ad 0), .int z] (wrB D cy (wM cy ad I S) sz)) (va_Qi (S := Unit) (fun r u => r = if z = 0 then 1 else 0) (fun u t9 => va_P D clW (wM cy ad (va_up I 0 z) S) t9.heap) (va_A (wM cy ad I S) sz)) 0 0 (va_A (wM cy ad I S) sz) := by
  refine enter (cc := cX7_goesOn) (by decide) (Nat.le_of_ble_eq_true rfl) ?_
  intro p e s m below meth c hx hb hr hml hown hts hlocks hin hv Q hQ ls hl
  obtain ⟨hsz, hP, hK, hD0⟩ := hv
  subst hsz
  have hD := hD0.self (sz := s.heap.size)
  generalize hAe : va_A (wM cy ad I S) s.heap.size = A at hD hQ ⊢
  have hA : ∀ q : Nat, s.heap.size ≤ q → A q := fun q h => by rw [← hAe]; exact Or.inr h
  have hS : va_S A s.heap s.heap [] := va_S.rf
  suffices K_ : ∀ (H : Heap) (locs : List Loc), va_P D clW (wM cy ad I S) H → va_S A s.heap H locs → W p l e ({ frames := 0, cells := 0, slots := 0, locals := 0 }) s m ([.ref (ad 0), .int z] : List Value).toArray below meth c H locs 0 0 Q (F0 m 0 ls []) from K_ _ _ hP hS
  clear hP hS
  intro H locs hP hS
  have hown : s.vm.findClass RX7 = some m.cls := hown
  have hl : lv_has ls 2 [(0, .ref (ad 0)), (1, .int z)] := hl
  refine lv_aload_n hx hb dX7_goesOn_0 rfl (lv_at hl 0 rfl) ?_
  refine lv_iload_n hx hb dX7_goesOn_1 rfl (lv_at hl 1 rfl) ?_
  refine pf_X7_60 hx hb hts hown hK hP hD hS 0 rfl (Nat.le_of_ble_eq_true rfl) dX7_goesOn_2 (fun H locs hP hD hS => ?_)
  have hP : va_P D clW (wM cy ad (va_up I 0 z) S) H := hP
  have hD : va_D A (wM cy ad (va_up I 0 z) S) := hD
  refine lv_iload_n hx hb dX7_goesOn_5 rfl (lv_at hl 1 rfl) ?_
  refine lv_if_ne (tgt := 13) hx hb dX7_goesOn_6 (by decide) (fun c6_1 => ?_) (fun c6_1 => ?_)
  · refine lv_iconst (v := 0) hx hb dX7_goesOn_13 (by decide) ?_
    have hP : va_P D clW (wM cy ad (va_up I 0 z) S) H := hP
    have hD : va_D A (wM cy ad (va_up I 0 z) S) := hD.addr rfl
    exact wZ_ret () hS hP hx hb hr hlocks dX7_goesOn_14 narZ0 (Nat.le_of_ble_eq_true rfl) (Nat.le_of_ble_eq_true rfl) hQ (by simp [c6_1])
  · refine lv_iconst (v := 1) hx hb dX7_goesOn_9 (by decide) ?_
    refine lv_goto (tgt := 14) hx hb dX7_goesOn_10 (by decide) ?_
    have hP : va_P D clW (wM cy ad (va_up I 0 z) S) H := hP
    have hD : va_D A (wM cy ad (va_up I 0 z) S) := hD.addr rfl
    exact wZ_ret () hS hP hx hb hr hlocks dX7_goesOn_14 narZ1 (Nat.le_of_ble_eq_true rfl) (Nat.le_of_ble_eq_true rfl) hQ (by simp [c6_1])

set_option maxHeartbeats 4000000 in
set_option maxRecDepth 100000 in
theorem c_X7_isPlace (l : Launch) (D : va_G) (cy : Nat → ClassId) (ad : Nat → Nat) (I : AI) (S : AS) (x : Int32) (b : Int32) : Met l yX7_isPlace (Cond.code yX7_isPlace cX7_isPlace 3 (some .boolean) :: wsL_law) ({ frames := 1, cells := 0, slots := 0, locals := 22 }) (va_Pc [.ref (ad 0), .int x, .int b] (rdB D cy (wM cy ad I S))) (rdI (fun r => r = if mplB (I 1) x b = true then 1 else 0)) 0 0 noA := by
  refine enter (cc := cX7_isPlace) (by decide) (Nat.le_of_ble_eq_true rfl) ?_
  intro p e s m below meth c hx hb hr hml hown hts hlocks hin hv Q hQ ls hl
  obtain ⟨hP, hK⟩ := hv
  have hown : s.vm.findClass RX7 = some m.cls := hown
  have hl : lv_has ls 3 [(0, .ref (ad 0)), (1, .int x), (2, .int b)] := hl
  refine lv_iload_n hx hb dX7_isPlace_0 rfl (lv_at hl 1 rfl) ?_
  refine lv_iconst (v := 0) hx hb dX7_isPlace_1 (by decide) ?_
  refine lv_aload_n hx hb dX7_isPlace_2 rfl (lv_at hl 0 rfl) ?_
  refine gf_X7_64 hx hb hts hown hK hP 0 rfl (v := .int (I 1)) rfl dX7_isPlace_3 ?_
  refine lv_iconst (v := 1) hx hb dX7_isPlace_6 (by decide) ?_
  refine lv_isub hx hb dX7_isPlace_7 ?_
  refine rZ_call (P := inB x 0 ((I 1) - 1) = true) (va_runS (As := [.int x, .int 0, .int ((I 1) - 1)]) (rest := []) ⟨hx, hb, hml, hown, hts⟩ (c_X7_in l D cy x 0 ((I 1) - 1)) (cw_X7_67 hts rfl rfl ⟨Nat.le_of_ble_eq_true rfl, Nat.le_of_ble_eq_true rfl⟩) (preSR hK (hP.sub [] rfl)) rfl rfl hl.1 rfl (lv_room (Nat.le_of_ble_eq_true rfl)) dX7_isPlace_8 ⟨Nat.le_of_ble_eq_true rfl, Nat.le_of_ble_eq_true rfl⟩) (fun b8_1 => ?_) (fun b8_1 => ?_)
  · refine lv_if_eq (tgt := 27) hx hb dX7_isPlace_11 (by decide) (fun c => absurd c (by decide)) (fun _ => ?_)
    refine lv_iload_n hx hb dX7_isPlace_14 rfl (lv_at hl 2 rfl) ?_
    refine lv_iconst (v := 0) hx hb dX7_isPlace_15 (by decide) ?_
    refine lv_iconst (v := 2) hx hb dX7_isPlace_16 (by decide) ?_
    refine rZ_call (P := inB b 0 2 = true) (va_runS (As := [.int b, .int 0, .int 2]) (rest := []) ⟨hx, hb, hml, hown, hts⟩ (c_X7_in l D cy b 0 2) (cw_X7_67 hts rfl rfl ⟨Nat.le_of_ble_eq_true rfl, Nat.le_of_ble_eq_true rfl⟩) (preSR hK (hP.sub [] rfl)) rfl rfl hl.1 rfl (lv_room (Nat.le_of_ble_eq_true rfl)) dX7_isPlace_17 ⟨Nat.le_of_ble_eq_true rfl, Nat.le_of_ble_eq_true rfl⟩) (fun b17_2 => ?_) (fun b17_2 => ?_)
    · refine lv_if_eq (tgt := 27) hx hb dX7_isPlace_20 (by decide) (fun c => absurd c (by decide)) (fun _ => ?_)
      refine lv_iconst (v := 1) hx hb dX7_isPlace_23 (by decide) ?_
      refine lv_goto (tgt := 28) hx hb dX7_isPlace_24 (by decide) ?_
      exact rZ_ret hx hb hr hlocks dX7_isPlace_28 narZ1 hQ (by simp [mplB, b8_1, b17_2])
    · refine lv_if_eq (tgt := 27) hx hb dX7_isPlace_20 (by decide) (fun _ => ?_) (fun c => absurd (by decide) c)
      refine lv_iconst (v := 0) hx hb dX7_isPlace_27 (by decide) ?_
      exact rZ_ret hx hb hr hlocks dX7_isPlace_28 narZ0 hQ (by simp [mplB, b8_1, b17_2])
  · refine lv_if_eq (tgt := 27) hx hb dX7_isPlace_11 (by decide) (fun _ => ?_) (fun c => absurd (by decide) c)
    refine lv_iconst (v := 0) hx hb dX7_isPlace_27 (by decide) ?_
    exact rZ_ret hx hb hr hlocks dX7_isPlace_28 narZ0 hQ (by simp [mplB, b8_1])

set_option maxHeartbeats 4000000 in
set_option maxRecDepth 100000 in
theorem c_X7_isOpen (l : Launch) (D : va_G) (cy : Nat → ClassId) (ad : Nat → Nat) (I : AI) (S : AS) (i : Nat) (hi : i < 256) : Met l yX7_isOpen (Cond.code yX7_isOpen cX7_isOpen 2 (some .boolean) :: wsL_law) ({ frames := 0, cells := 0, slots := 0, locals := 0 }) (va_Pc [.ref (ad 0), .int (nI i)] (rdB D cy (wM cy ad I S))) (rdI (fun r => r = if opB S i = true then 1 else 0)) 0 0 noA := by
  refine enter (cc := cX7_isOpen) (by decide) (Nat.le_of_ble_eq_true rfl) ?_
  intro p e s m below meth c hx hb hr hml hown hts hlocks hin hv Q hQ ls hl
  obtain ⟨hP, hK⟩ := hv
  have hown : s.vm.findClass RX7 = some m.cls := hown
  have hl : lv_has ls 2 [(0, .ref (ad 0)), (1, .int (nI i))] := hl
  refine lv_aload_n hx hb dX7_isOpen_0 rfl (lv_at hl 0 rfl) ?_
  refine gf_X7_35 hx hb hts hown hK hP 0 rfl (v := .ref (ad 9)) rfl dX7_isOpen_1 ?_
  refine lv_iload_n hx hb dX7_isOpen_4 rfl (lv_at hl 1 rfl) ?_
  refine ald_Z (f := (S 9)) hx hb hK hP 9 rfl (i := i) (by omega) (by decide) dX7_isOpen_5 ?_
  refine lv_if_ne (tgt := 23) hx hb dX7_isOpen_6 (by decide) (fun c6_1 => ?_) (fun c6_1 => ?_)
  · refine lv_iconst (v := 0) hx hb dX7_isOpen_23 (by decide) ?_
    exact rZ_ret hx hb hr hlocks dX7_isOpen_24 narZ0 hQ (by simp [opB, c6_1])
  · refine lv_aload_n hx hb dX7_isOpen_9 rfl (lv_at hl 0 rfl) ?_
    refine gf_X7_32 hx hb hts hown hK hP 0 rfl (v := .ref (ad 8)) rfl dX7_isOpen_10 ?_
    refine lv_iload_n hx hb dX7_isOpen_13 rfl (lv_at hl 1 rfl) ?_
    refine ald_I (f := (S 8)) hx hb hK hP 8 rfl (i := i) (by omega) (by decide) dX7_isOpen_14 ?_
    refine lv_iconst (v := (-1)) hx hb dX7_isOpen_15 (by decide) ?_
    refine lv_icmp_ne (tgt := 23) hx hb dX7_isOpen_16 (by decide) (fun c16_2 => ?_) (fun c16_2 => ?_)
    · refine lv_iconst (v := 0) hx hb dX7_isOpen_23 (by decide) ?_
      exact rZ_ret hx hb hr hlocks dX7_isOpen_24 narZ0 hQ (by simp [opB, c6_1, c16_2])
    · refine lv_iconst (v := 1) hx hb dX7_isOpen_19 (by decide) ?_
      refine lv_goto (tgt := 24) hx hb dX7_isOpen_20 (by decide) ?_
      exact rZ_ret hx hb hr hlocks dX7_isOpen_24 narZ1 hQ (by simp [opB, c6_1, c16_2])

set_option maxHeartbeats 4000000 in
set_option maxRecDepth 100000 in
theorem c_X7_addEntity (l : Launch) (D : va_G) (cy : Nat → ClassId) (ad : Nat → Nat) (I : AI) (S : AS) (sz : Nat) (en : Nat) (hen : I 1 = nI en) (hen6 : en ≤ 6) : Met l yX7_addEntity (Cond.code yX7_addEntity cX7_addEntity 1 (some .int) :: wsL_law) ({ frames := 1, cells := 0, slots := 0, locals := 21 }) (va_Pc [.ref (ad 0)] (wrB D cy (wM cy ad I S) sz)) (va_Qi (S := AI × AS) (fun r u => (en = 6 ∧ u.1 = va_up I 0 1 ∧ u.2 = S) ∨ (en < 6 ∧ r = nI en ∧ u.1 = va_up (va_up I 0 0) 1 (nI (en + 1)) ∧ u.2 = S)) (fun u t9 => va_P D clW (wM cy ad u.1 u.2) t9.heap) (va_A (wM cy ad I S) sz)) 0 0 (va_A (wM cy ad I S) sz) := by
  refine enter (cc := cX7_addEntity) (by decide) (Nat.le_of_ble_eq_true rfl) ?_
  intro p e s m below meth c hx hb hr hml hown hts hlocks hin hv Q hQ ls hl
  obtain ⟨hsz, hP, hK, hD0⟩ := hv
  subst hsz
  have hD := hD0.self (sz := s.heap.size)
  generalize hAe : va_A (wM cy ad I S) s.heap.size = A at hD hQ ⊢
  have hA : ∀ q : Nat, s.heap.size ≤ q → A q := fun q h => by rw [← hAe]; exact Or.inr h
  have hS : va_S A s.heap s.heap [] := va_S.rf
  suffices K_ : ∀ (H : Heap) (locs : List Loc), va_P D clW (wM cy ad I S) H → va_S A s.heap H locs → W p l e ({ frames := 1, cells := 0, slots := 0, locals := 21 }) s m ([.ref (ad 0)] : List Value).toArray below meth c H locs 0 0 Q (F0 m 0 ls []) from K_ _ _ hP hS
  clear hP hS
  intro H locs hP hS
  have hown : s.vm.findClass RX7 = some m.cls := hown
  have hl : lv_has ls 1 [(0, .ref (ad 0))] := hl
  refine lv_aload_n hx hb dX7_addEntity_0 rfl (lv_at hl 0 rfl) ?_
  refine lv_aload_n hx hb dX7_addEntity_1 rfl (lv_at hl 0 rfl) ?_
  refine gf_X7_64 hx hb hts hown hK hP 0 rfl (v := .int (I 1)) rfl dX7_addEntity_2 ?_
  refine top_eq hen ?_
  refine lv_bipush (v := 6) hx hb dX7_addEntity_5 (by decide) ?_
  refine lv_icmp_ne (tgt := 14) hx hb dX7_addEntity_7 (by decide) (fun c7_1 => ?_) (fun c7_1 => ?_)
  · have f7_1 : en ≠ 6 := nt_ne (a := en) (b := 6) (by omega) (by omega) c7_1
    refine lv_iconst (v := 0) hx hb dX7_addEntity_14 (by decide) ?_
    refine wI_call (va_runV (As := [.int 0]) (rest := []) ⟨hx, hb, hml, hown, hts⟩ (c_X7_goesOn l D cy ad I S H.size 0) (cw_X7_71 hts rfl rfl ⟨Nat.le_of_ble_eq_true rfl, Nat.le_of_ble_eq_true rfl⟩) (preVW (ci := 7) (q0 := 0) hK hP hD rfl rfl) rfl rfl hl.1 rfl (lv_room (Nat.le_of_ble_eq_true rfl)) dX7_addEntity_15 ⟨Nat.le_of_ble_eq_true rfl, Nat.le_of_ble_eq_true rfl⟩) hP hD hS hA [0, 1, 2, 3, 4, 5, 6, 7, 8, 9, 10, 11, 12, 13, 14, 15, 16] rfl [.inr 0, .inr 1, .inr 2, .inr 3, .inr 4, .inr 5, .inr 6, .inr 7, .inr 8, .inr 9, .inr 10, .inr 11, .inr 12, .inr 13, .inr 14, .inr 15, .inr 16] (by decide) (fun u => (wM cy ad (va_up I 0 0) S)) (fun _ => rfl) (fun _ => rfl) (fun r15_2 u15_2 H locs q15_2 hP hD hS hkp => ?_)
    have hP : va_P D clW (wM cy ad (va_up I 0 0) S) H := hP
    have hD : va_D A (wM cy ad (va_up I 0 0) S) := hD
    rw [if_pos rfl] at q15_2
    subst q15_2
    refine lv_if_ne (tgt := 23) hx hb dX7_addEntity_18 (by decide) (fun _ => ?_) (fun c => absurd c (by decide))
    refine lv_aload_n hx hb dX7_addEntity_23 rfl (lv_at hl 0 rfl) ?_
    refine lv_dup hx hb dX7_addEntity_24 rfl ?_
    refine gf_X7_64 hx hb hts hown hK hP 0 rfl (v := .int (I 1)) rfl dX7_addEntity_25 ?_
    refine top_eq hen ?_
    refine lv_iconst (v := 1) hx hb dX7_addEntity_28 (by decide) ?_
    refine lv_iadd hx hb dX7_addEntity_29 ?_
    refine top_eq (y := nI (en + 1)) (nI_add en 1) ?_
    refine pf_X7_64 hx hb hts hown hK hP hD hS 0 rfl (Nat.le_of_ble_eq_true rfl) dX7_addEntity_30 (fun H locs hP hD hS => ?_)
    have hP : va_P D clW (wM cy ad (va_up (va_up I 0 0) 1 (nI (en + 1))) S) H := hP
    have hD : va_D A (wM cy ad (va_up (va_up I 0 0) 1 (nI (en + 1))) S) := hD
    refine lv_aload_n hx hb dX7_addEntity_33 rfl (lv_at hl 0 rfl) ?_
    refine gf_X7_64 hx hb hts hown hK hP 0 rfl (v := .int (nI (en + 1))) rfl dX7_addEntity_34 ?_
    refine lv_iconst (v := 1) hx hb dX7_addEntity_37 (by decide) ?_
    refine lv_isub hx hb dX7_addEntity_38 ?_
    refine top_eq (y := nI en) (nI_pred en) ?_
    exact wI_ret ((va_up (va_up I 0 0) 1 (nI (en + 1))), S) hS hP hx hb hr hlocks dX7_addEntity_39 (Nat.le_of_ble_eq_true rfl) (Nat.le_of_ble_eq_true rfl) hQ (Or.inr ⟨by omega, rfl, rfl, rfl⟩)
  · have f7_1 : en = 6 := nt_eq (a := en) (b := 6) (by omega) (by omega) c7_1
    refine lv_iconst (v := 1) hx hb dX7_addEntity_10 (by decide) ?_
    refine lv_goto (tgt := 15) hx hb dX7_addEntity_11 (by decide) ?_
    refine wI_call (va_runV (As := [.int 1]) (rest := []) ⟨hx, hb, hml, hown, hts⟩ (c_X7_goesOn l D cy ad I S H.size 1) (cw_X7_71 hts rfl rfl ⟨Nat.le_of_ble_eq_true rfl, Nat.le_of_ble_eq_true rfl⟩) (preVW (ci := 7) (q0 := 0) hK hP hD rfl rfl) rfl rfl hl.1 rfl (lv_room (Nat.le_of_ble_eq_true rfl)) dX7_addEntity_15 ⟨Nat.le_of_ble_eq_true rfl, Nat.le_of_ble_eq_true rfl⟩) hP hD hS hA [0, 1, 2, 3, 4, 5, 6, 7, 8, 9, 10, 11, 12, 13, 14, 15, 16] rfl [.inr 0, .inr 1, .inr 2, .inr 3, .inr 4, .inr 5, .inr 6, .inr 7, .inr 8, .inr 9, .inr 10, .inr 11, .inr 12, .inr 13, .inr 14, .inr 15, .inr 16] (by decide) (fun u => (wM cy ad (va_up I 0 1) S)) (fun _ => rfl) (fun _ => rfl) (fun r15_3 u15_3 H locs q15_3 hP hD hS hkp => ?_)
    have hP : va_P D clW (wM cy ad (va_up I 0 1) S) H := hP
    have hD : va_D A (wM cy ad (va_up I 0 1) S) := hD
    rw [if_neg (by decide)] at q15_3
    subst q15_3
    refine lv_if_ne (tgt := 23) hx hb dX7_addEntity_18 (by decide) (fun c => absurd (by decide) c) (fun _ => ?_)
    refine lv_iconst (v := 0) hx hb dX7_addEntity_21 (by decide) ?_
    exact wI_ret ((va_up I 0 1), S) hS hP hx hb hr hlocks dX7_addEntity_22 (Nat.le_of_ble_eq_true rfl) (Nat.le_of_ble_eq_true rfl) hQ (Or.inl ⟨f7_1, rfl, rfl⟩)

set_option maxHeartbeats 4000000 in
set_option maxRecDepth 100000 in
theorem c_X7_entityCount (l : Launch) (D : va_G) (cy : Nat → ClassId) (ad : Nat → Nat) (I : AI) (S : AS) (sz : Nat) : Met l yX7_entityCount (Cond.code yX7_entityCount cX7_entityCount 1 (some .int) :: wsL_law) ({ frames := 0, cells := 0, slots := 0, locals := 0 }) (va_Pc [.ref (ad 0)] (wrB D cy (wM cy ad I S) sz)) (va_Qi (S := Unit) (fun r u => r = I 1) (fun u t9 => va_P D clW (wM cy ad (va_up I 0 0) S) t9.heap) (va_A (wM cy ad I S) sz)) 0 0 (va_A (wM cy ad I S) sz) := by
  refine enter (cc := cX7_entityCount) (by decide) (Nat.le_of_ble_eq_true rfl) ?_
  intro p e s m below meth c hx hb hr hml hown hts hlocks hin hv Q hQ ls hl
  obtain ⟨hsz, hP, hK, hD0⟩ := hv
  subst hsz
  have hD := hD0.self (sz := s.heap.size)
  generalize hAe : va_A (wM cy ad I S) s.heap.size = A at hD hQ ⊢
  have hA : ∀ q : Nat, s.heap.size ≤ q → A q := fun q h => by rw [← hAe]; exact Or.inr h
  have hS : va_S A s.heap s.heap [] := va_S.rf
  suffices K_ : ∀ (H : Heap) (locs : List Loc), va_P D clW (wM cy ad I S) H → va_S A s.heap H locs → W p l e ({ frames := 0, cells := 0, slots := 0, locals := 0 }) s m ([.ref (ad 0)] : List Value).toArray below meth c H locs 0 0 Q (F0 m 0 ls []) from K_ _ _ hP hS
  clear hP hS
  intro H locs hP hS
  have hown : s.vm.findClass RX7 = some m.cls := hown
  have hl : lv_has ls 1 [(0, .ref (ad 0))] := hl
  refine lv_aload_n hx hb dX7_entityCount_0 rfl (lv_at hl 0 rfl) ?_
  refine lv_iconst (v := 0) hx hb dX7_entityCount_1 (by decide) ?_
  refine pf_X7_60 hx hb hts hown hK hP hD hS 0 rfl (Nat.le_of_ble_eq_true rfl) dX7_entityCount_2 (fun H locs hP hD hS => ?_)
  have hP : va_P D clW (wM cy ad (va_up I 0 0) S) H := hP
  have hD : va_D A (wM cy ad (va_up I 0 0) S) := hD
  refine lv_aload_n hx hb dX7_entityCount_5 rfl (lv_at hl 0 rfl) ?_
  refine gf_X7_64 hx hb hts hown hK hP 0 rfl (v := .int (I 1)) rfl dX7_entityCount_6 ?_
  have hP : va_P D clW (wM cy ad (va_up I 0 0) S) H := hP
  have hD : va_D A (wM cy ad (va_up I 0 0) S) := hD.addr rfl
  exact wI_ret () hS hP hx hb hr hlocks dX7_entityCount_9 (Nat.le_of_ble_eq_true rfl) (Nat.le_of_ble_eq_true rfl) hQ rfl

set_option maxHeartbeats 4000000 in
set_option maxRecDepth 100000 in
theorem c_X7_clock (l : Launch) (D : va_G) (cy : Nat → ClassId) (ad : Nat → Nat) (I : AI) (S : AS) (sz : Nat) : Met l yX7_clock (Cond.code yX7_clock cX7_clock 1 (some .int) :: wsL_law) ({ frames := 0, cells := 0, slots := 0, locals := 0 }) (va_Pc [.ref (ad 0)] (wrB D cy (wM cy ad I S) sz)) (va_Qi (S := Unit) (fun r u => r = I 2) (fun u t9 => va_P D clW (wM cy ad (va_up I 0 0) S) t9.heap) (va_A (wM cy ad I S) sz)) 0 0 (va_A (wM cy ad I S) sz) := by
  refine enter (cc := cX7_clock) (by decide) (Nat.le_of_ble_eq_true rfl) ?_
  intro p e s m below meth c hx hb hr hml hown hts hlocks hin hv Q hQ ls hl
  obtain ⟨hsz, hP, hK, hD0⟩ := hv
  subst hsz
  have hD := hD0.self (sz := s.heap.size)
  generalize hAe : va_A (wM cy ad I S) s.heap.size = A at hD hQ ⊢
  have hA : ∀ q : Nat, s.heap.size ≤ q → A q := fun q h => by rw [← hAe]; exact Or.inr h
  have hS : va_S A s.heap s.heap [] := va_S.rf
  suffices K_ : ∀ (H : Heap) (locs : List Loc), va_P D clW (wM cy ad I S) H → va_S A s.heap H locs → W p l e ({ frames := 0, cells := 0, slots := 0, locals := 0 }) s m ([.ref (ad 0)] : List Value).toArray below meth c H locs 0 0 Q (F0 m 0 ls []) from K_ _ _ hP hS
  clear hP hS
  intro H locs hP hS
  have hown : s.vm.findClass RX7 = some m.cls := hown
  have hl : lv_has ls 1 [(0, .ref (ad 0))] := hl
  refine lv_aload_n hx hb dX7_clock_0 rfl (lv_at hl 0 rfl) ?_
  refine lv_iconst (v := 0) hx hb dX7_clock_1 (by decide) ?_
  refine pf_X7_60 hx hb hts hown hK hP hD hS 0 rfl (Nat.le_of_ble_eq_true rfl) dX7_clock_2 (fun H locs hP hD hS => ?_)
  have hP : va_P D clW (wM cy ad (va_up I 0 0) S) H := hP
  have hD : va_D A (wM cy ad (va_up I 0 0) S) := hD
  refine lv_aload_n hx hb dX7_clock_5 rfl (lv_at hl 0 rfl) ?_
  refine gf_X7_78 hx hb hts hown hK hP 0 rfl (v := .int (I 2)) rfl dX7_clock_6 ?_
  have hP : va_P D clW (wM cy ad (va_up I 0 0) S) H := hP
  have hD : va_D A (wM cy ad (va_up I 0 0) S) := hD.addr rfl
  exact wI_ret () hS hP hx hb hr hlocks dX7_clock_9 (Nat.le_of_ble_eq_true rfl) (Nat.le_of_ble_eq_true rfl) hQ rfl

set_option maxHeartbeats 4000000 in
set_option maxRecDepth 100000 in
theorem c_X7_horizon (l : Launch) (D : va_G) (cy : Nat → ClassId) (ad : Nat → Nat) (I : AI) (S : AS) (sz : Nat) : Met l yX7_horizon (Cond.code yX7_horizon cX7_horizon 1 (some .int) :: wsL_law) ({ frames := 0, cells := 0, slots := 0, locals := 0 }) (va_Pc [.ref (ad 0)] (wrB D cy (wM cy ad I S) sz)) (va_Qi (S := Unit) (fun r u => r = I 5) (fun u t9 => va_P D clW (wM cy ad (va_up I 0 0) S) t9.heap) (va_A (wM cy ad I S) sz)) 0 0 (va_A (wM cy ad I S) sz) := by
  refine enter (cc := cX7_horizon) (by decide) (Nat.le_of_ble_eq_true rfl) ?_
  intro p e s m below meth c hx hb hr hml hown hts hlocks hin hv Q hQ ls hl
  obtain ⟨hsz, hP, hK, hD0⟩ := hv
  subst hsz
  have hD := hD0.self (sz := s.heap.size)
  generalize hAe : va_A (wM cy ad I S) s.heap.size = A at hD hQ ⊢
  have hA : ∀ q : Nat, s.heap.size ≤ q → A q := fun q h => by rw [← hAe]; exact Or.inr h
  have hS : va_S A s.heap s.heap [] := va_S.rf
  suffices K_ : ∀ (H : Heap) (locs : List Loc), va_P D clW (wM cy ad I S) H → va_S A s.heap H locs → W p l e ({ frames := 0, cells := 0, slots := 0, locals := 0 }) s m ([.ref (ad 0)] : List Value).toArray below meth c H locs 0 0 Q (F0 m 0 ls []) from K_ _ _ hP hS
  clear hP hS
  intro H locs hP hS
  have hown : s.vm.findClass RX7 = some m.cls := hown
  have hl : lv_has ls 1 [(0, .ref (ad 0))] := hl
  refine lv_aload_n hx hb dX7_horizon_0 rfl (lv_at hl 0 rfl) ?_
  refine lv_iconst (v := 0) hx hb dX7_horizon_1 (by decide) ?_
  refine pf_X7_60 hx hb hts hown hK hP hD hS 0 rfl (Nat.le_of_ble_eq_true rfl) dX7_horizon_2 (fun H locs hP hD hS => ?_)
  have hP : va_P D clW (wM cy ad (va_up I 0 0) S) H := hP
  have hD : va_D A (wM cy ad (va_up I 0 0) S) := hD
  refine lv_aload_n hx hb dX7_horizon_5 rfl (lv_at hl 0 rfl) ?_
  refine gf_X7_121 hx hb hts hown hK hP 0 rfl (v := .int (I 5)) rfl dX7_horizon_6 ?_
  have hP : va_P D clW (wM cy ad (va_up I 0 0) S) H := hP
  have hD : va_D A (wM cy ad (va_up I 0 0) S) := hD.addr rfl
  exact wI_ret () hS hP hx hb hr hlocks dX7_horizon_9 (Nat.le_of_ble_eq_true rfl) (Nat.le_of_ble_eq_true rfl) hQ rfl

set_option maxHeartbeats 4000000 in
set_option maxRecDepth 100000 in
theorem c_X7_factCount (l : Launch) (D : va_G) (cy : Nat → ClassId) (ad : Nat → Nat) (I : AI) (S : AS) (sz : Nat) : Met l yX7_factCount (Cond.code yX7_factCount cX7_factCount 1 (some .int) :: wsL_law) ({ frames := 0, cells := 0, slots := 0, locals := 0 }) (va_Pc [.ref (ad 0)] (wrB D cy (wM cy ad I S) sz)) (va_Qi (S := Unit) (fun r u => r = I 3 - I 4) (fun u t9 => va_P D clW (wM cy ad (va_up I 0 0) S) t9.heap) (va_A (wM cy ad I S) sz)) 0 0 (va_A (wM cy ad I S) sz) := by
  refine enter (cc := cX7_factCount) (by decide) (Nat.le_of_ble_eq_true rfl) ?_
  intro p e s m below meth c hx hb hr hml hown hts hlocks hin hv Q hQ ls hl
  obtain ⟨hsz, hP, hK, hD0⟩ := hv
  subst hsz
  have hD := hD0.self (sz := s.heap.size)
  generalize hAe : va_A (wM cy ad I S) s.heap.size = A at hD hQ ⊢
  have hA : ∀ q : Nat, s.heap.size ≤ q → A q := fun q h => by rw [← hAe]; exact Or.inr h
  have hS : va_S A s.heap s.heap [] := va_S.rf
  suffices K_ : ∀ (H : Heap) (locs : List Loc), va_P D clW (wM cy ad I S) H → va_S A s.heap H locs → W p l e ({ frames := 0, cells := 0, slots := 0, locals := 0 }) s m ([.ref (ad 0)] : List Value).toArray below meth c H locs 0 0 Q (F0 m 0 ls []) from K_ _ _ hP hS
  clear hP hS
  intro H locs hP hS
  have hown : s.vm.findClass RX7 = some m.cls := hown
  have hl : lv_has ls 1 [(0, .ref (ad 0))] := hl
  refine lv_aload_n hx hb dX7_factCount_0 rfl (lv_at hl 0 rfl) ?_
  refine lv_iconst (v := 0) hx hb dX7_factCount_1 (by decide) ?_
  refine pf_X7_60 hx hb hts hown hK hP hD hS 0 rfl (Nat.le_of_ble_eq_true rfl) dX7_factCount_2 (fun H locs hP hD hS => ?_)
  have hP : va_P D clW (wM cy ad (va_up I 0 0) S) H := hP
  have hD : va_D A (wM cy ad (va_up I 0 0) S) := hD
  refine lv_aload_n hx hb dX7_factCount_5 rfl (lv_at hl 0 rfl) ?_
  refine gf_X7_75 hx hb hts hown hK hP 0 rfl (v := .int (I 3)) rfl dX7_factCount_6 ?_
  refine lv_aload_n hx hb dX7_factCount_9 rfl (lv_at hl 0 rfl) ?_
  refine gf_X7_115 hx hb hts hown hK hP 0 rfl (v := .int (I 4)) rfl dX7_factCount_10 ?_
  refine lv_isub hx hb dX7_factCount_13 ?_
  have hP : va_P D clW (wM cy ad (va_up I 0 0) S) H := hP
  have hD : va_D A (wM cy ad (va_up I 0 0) S) := hD.addr rfl
  exact wI_ret () hS hP hx hb hr hlocks dX7_factCount_14 (Nat.le_of_ble_eq_true rfl) (Nat.le_of_ble_eq_true rfl) hQ rfl

set_option maxHeartbeats 4000000 in
set_option maxRecDepth 100000 in
theorem c_X7_opens (l : Launch) (D : va_G) (cy : Nat → ClassId) (ad : Nat → Nat) (I : AI) (S : AS) (sz : Nat) (sl : Int32) (v : Int32) (x : Int32) (y : Int32) (k : Nat) (hk : I 3 = nI k) (hk9 : k < 256) : Met l yX7_opens (Cond.code yX7_opens cX7_opens 5 none :: wsL_law) ({ frames := 0, cells := 0, slots := 0, locals := 0 }) (va_Pc [.ref (ad 0), .int sl, .int v, .int x, .int y] (wrB D cy (wM cy ad I S) sz)) (va_Qv (S := Unit) (fun u => True) (fun u t9 => va_P D clW (wM cy ad (va_up I 3 (nI (k + 1))) (va_up (va_up (va_up (va_up (va_up (va_up S 3 (upd (S 3) k sl)) 4 (upd (S 4) k v)) 5 (upd (S 5) k x)) 6 (upd (S 6) k y)) 7 (upd (S 7) k (I 2))) 8 (upd (S 8) k (-1)))) t9.heap) (va_A (wM cy ad I S) sz)) 0 0 (va_A (wM cy ad I S) sz) := by
  refine enter (cc := cX7_opens) (by decide) (Nat.le_of_ble_eq_true rfl) ?_
  intro p e s m below meth c hx hb hr hml hown hts hlocks hin hv Q hQ ls hl
  obtain ⟨hsz, hP, hK, hD0⟩ := hv
  subst hsz
  have hD := hD0.self (sz := s.heap.size)
  generalize hAe : va_A (wM cy ad I S) s.heap.size = A at hD hQ ⊢
  have hA : ∀ q : Nat, s.heap.size ≤ q → A q := fun q h => by rw [← hAe]; exact Or.inr h
  have hS : va_S A s.heap s.heap [] := va_S.rf
  suffices K_ : ∀ (H : Heap) (locs : List Loc), va_P D clW (wM cy ad I S) H → va_S A s.heap H locs → W p l e ({ frames := 0, cells := 0, slots := 0, locals := 0 }) s m ([.ref (ad 0), .int sl, .int v, .int x, .int y] : List Value).toArray below meth c H locs 0 0 Q (F0 m 0 ls []) from K_ _ _ hP hS
  clear hP hS
  intro H locs hP hS
  have hown : s.vm.findClass RX7 = some m.cls := hown
  have hl : lv_has ls 5 [(0, .ref (ad 0)), (1, .int sl), (2, .int v), (3, .int x), (4, .int y)] := hl
  refine lv_aload_n hx hb dX7_opens_0 rfl (lv_at hl 0 rfl) ?_
  refine gf_X7_17 hx hb hts hown hK hP 0 rfl (v := .ref (ad 3)) rfl dX7_opens_1 ?_
  refine lv_aload_n hx hb dX7_opens_4 rfl (lv_at hl 0 rfl) ?_
  refine gf_X7_75 hx hb hts hown hK hP 0 rfl (v := .int (I 3)) rfl dX7_opens_5 ?_
  refine top_eq hk ?_
  refine lv_iload_n hx hb dX7_opens_8 rfl (lv_at hl 1 rfl) ?_
  refine ast_I hx hb hK hP hD hS 3 rfl (i := k) (x := sl) (by omega) (by decide) dX7_opens_9 (fun H locs hP hD hS => ?_)
  have hP : va_P D clW (wM cy ad I (va_up S 3 (upd (S 3) k sl))) H := hP
  have hD : va_D A (wM cy ad I (va_up S 3 (upd (S 3) k sl))) := hD
  refine lv_aload_n hx hb dX7_opens_10 rfl (lv_at hl 0 rfl) ?_
  refine gf_X7_20 hx hb hts hown hK hP 0 rfl (v := .ref (ad 4)) rfl dX7_opens_11 ?_
  refine lv_aload_n hx hb dX7_opens_14 rfl (lv_at hl 0 rfl) ?_
  refine gf_X7_75 hx hb hts hown hK hP 0 rfl (v := .int (I 3)) rfl dX7_opens_15 ?_
  refine top_eq hk ?_
  refine lv_iload_n hx hb dX7_opens_18 rfl (lv_at hl 2 rfl) ?_
  refine ast_I hx hb hK hP hD hS 4 rfl (i := k) (x := v) (by omega) (by decide) dX7_opens_19 (fun H locs hP hD hS => ?_)
  have hP : va_P D clW (wM cy ad I (va_up (va_up S 3 (upd (S 3) k sl)) 4 (upd (S 4) k v))) H := hP
  have hD : va_D A (wM cy ad I (va_up (va_up S 3 (upd (S 3) k sl)) 4 (upd (S 4) k v))) := hD
  refine lv_aload_n hx hb dX7_opens_20 rfl (lv_at hl 0 rfl) ?_
  refine gf_X7_23 hx hb hts hown hK hP 0 rfl (v := .ref (ad 5)) rfl dX7_opens_21 ?_
  refine lv_aload_n hx hb dX7_opens_24 rfl (lv_at hl 0 rfl) ?_
  refine gf_X7_75 hx hb hts hown hK hP 0 rfl (v := .int (I 3)) rfl dX7_opens_25 ?_
  refine top_eq hk ?_
  refine lv_iload_n hx hb dX7_opens_28 rfl (lv_at hl 3 rfl) ?_
  refine ast_I hx hb hK hP hD hS 5 rfl (i := k) (x := x) (by omega) (by decide) dX7_opens_29 (fun H locs hP hD hS => ?_)
  have hP : va_P D clW (wM cy ad I (va_up (va_up (va_up S 3 (upd (S 3) k sl)) 4 (upd (S 4) k v)) 5 (upd (S 5) k x))) H := hP
  have hD : va_D A (wM cy ad I (va_up (va_up (va_up S 3 (upd (S 3) k sl)) 4 (upd (S 4) k v)) 5 (upd (S 5) k x))) := hD
  refine lv_aload_n hx hb dX7_opens_30 rfl (lv_at hl 0 rfl) ?_
  refine gf_X7_26 hx hb hts hown hK hP 0 rfl (v := .ref (ad 6)) rfl dX7_opens_31 ?_
  refine lv_aload_n hx hb dX7_opens_34 rfl (lv_at hl 0 rfl) ?_
  refine gf_X7_75 hx hb hts hown hK hP 0 rfl (v := .int (I 3)) rfl dX7_opens_35 ?_
  refine top_eq hk ?_
  refine lv_iload hx hb dX7_opens_38 (lv_at hl 4 rfl) ?_
  refine ast_I hx hb hK hP hD hS 6 rfl (i := k) (x := y) (by omega) (by decide) dX7_opens_40 (fun H locs hP hD hS => ?_)
  have hP : va_P D clW (wM cy ad I (va_up (va_up (va_up (va_up S 3 (upd (S 3) k sl)) 4 (upd (S 4) k v)) 5 (upd (S 5) k x)) 6 (upd (S 6) k y))) H := hP
  have hD : va_D A (wM cy ad I (va_up (va_up (va_up (va_up S 3 (upd (S 3) k sl)) 4 (upd (S 4) k v)) 5 (upd (S 5) k x)) 6 (upd (S 6) k y))) := hD
  refine lv_aload_n hx hb dX7_opens_41 rfl (lv_at hl 0 rfl) ?_
  refine gf_X7_29 hx hb hts hown hK hP 0 rfl (v := .ref (ad 7)) rfl dX7_opens_42 ?_
  refine lv_aload_n hx hb dX7_opens_45 rfl (lv_at hl 0 rfl) ?_
  refine gf_X7_75 hx hb hts hown hK hP 0 rfl (v := .int (I 3)) rfl dX7_opens_46 ?_
  refine top_eq hk ?_
  refine lv_aload_n hx hb dX7_opens_49 rfl (lv_at hl 0 rfl) ?_
  refine gf_X7_78 hx hb hts hown hK hP 0 rfl (v := .int (I 2)) rfl dX7_opens_50 ?_
  refine ast_I hx hb hK hP hD hS 7 rfl (i := k) (x := (I 2)) (by omega) (by decide) dX7_opens_53 (fun H locs hP hD hS => ?_)
  have hP : va_P D clW (wM cy ad I (va_up (va_up (va_up (va_up (va_up S 3 (upd (S 3) k sl)) 4 (upd (S 4) k v)) 5 (upd (S 5) k x)) 6 (upd (S 6) k y)) 7 (upd (S 7) k (I 2)))) H := hP
  have hD : va_D A (wM cy ad I (va_up (va_up (va_up (va_up (va_up S 3 (upd (S 3) k sl)) 4 (upd (S 4) k v)) 5 (upd (S 5) k x)) 6 (upd (S 6) k y)) 7 (upd (S 7) k (I 2)))) := hD
  refine lv_aload_n hx hb dX7_opens_54 rfl (lv_at hl 0 rfl) ?_
  refine gf_X7_32 hx hb hts hown hK hP 0 rfl (v := .ref (ad 8)) rfl dX7_opens_55 ?_
  refine lv_aload_n hx hb dX7_opens_58 rfl (lv_at hl 0 rfl) ?_
  refine gf_X7_75 hx hb hts hown hK hP 0 rfl (v := .int (I 3)) rfl dX7_opens_59 ?_
  refine top_eq hk ?_
  refine lv_iconst (v := (-1)) hx hb dX7_opens_62 (by decide) ?_
  refine ast_I hx hb hK hP hD hS 8 rfl (i := k) (x := (-1)) (by omega) (by decide) dX7_opens_63 (fun H locs hP hD hS => ?_)
  have hP : va_P D clW (wM cy ad I (va_up (va_up (va_up (va_up (va_up (va_up S 3 (upd (S 3) k sl)) 4 (upd (S 4) k v)) 5 (upd (S 5) k x)) 6 (upd (S 6) k y)) 7 (upd (S 7) k (I 2))) 8 (upd (S 8) k (-1)))) H := hP
  have hD : va_D A (wM cy ad I (va_up (va_up (va_up (va_up (va_up (va_up S 3 (upd (S 3) k sl)) 4 (upd (S 4) k v)) 5 (upd (S 5) k x)) 6 (upd (S 6) k y)) 7 (upd (S 7) k (I 2))) 8 (upd (S 8) k (-1)))) := hD
  refine lv_aload_n hx hb dX7_opens_64 rfl (lv_at hl 0 rfl) ?_
  refine lv_dup hx hb dX7_opens_65 rfl ?_
  refine gf_X7_75 hx hb hts hown hK hP 0 rfl (v := .int (I 3)) rfl dX7_opens_66 ?_
  refine top_eq hk ?_
  refine lv_iconst (v := 1) hx hb dX7_opens_69 (by decide) ?_
  refine lv_iadd hx hb dX7_opens_70 ?_
  refine top_eq (y := nI (k + 1)) (nI_add k 1) ?_
  refine pf_X7_75 hx hb hts hown hK hP hD hS 0 rfl (Nat.le_of_ble_eq_true rfl) dX7_opens_71 (fun H locs hP hD hS => ?_)
  have hP : va_P D clW (wM cy ad (va_up I 3 (nI (k + 1))) (va_up (va_up (va_up (va_up (va_up (va_up S 3 (upd (S 3) k sl)) 4 (upd (S 4) k v)) 5 (upd (S 5) k x)) 6 (upd (S 6) k y)) 7 (upd (S 7) k (I 2))) 8 (upd (S 8) k (-1)))) H := hP
  have hD : va_D A (wM cy ad (va_up I 3 (nI (k + 1))) (va_up (va_up (va_up (va_up (va_up (va_up S 3 (upd (S 3) k sl)) 4 (upd (S 4) k v)) 5 (upd (S 5) k x)) 6 (upd (S 6) k y)) 7 (upd (S 7) k (I 2))) 8 (upd (S 8) k (-1)))) := hD
  have hP : va_P D clW (wM cy ad (va_up I 3 (nI (k + 1))) (va_up (va_up (va_up (va_up (va_up (va_up S 3 (upd (S 3) k sl)) 4 (upd (S 4) k v)) 5 (upd (S 5) k x)) 6 (upd (S 6) k y)) 7 (upd (S 7) k (I 2))) 8 (upd (S 8) k (-1)))) H := hP
  have hD : va_D A (wM cy ad (va_up I 3 (nI (k + 1))) (va_up (va_up (va_up (va_up (va_up (va_up S 3 (upd (S 3) k sl)) 4 (upd (S 4) k v)) 5 (upd (S 5) k x)) 6 (upd (S 6) k y)) 7 (upd (S 7) k (I 2))) 8 (upd (S 8) k (-1)))) := hD.addr rfl
  exact wV_ret () hS hP hx hb hr hlocks dX7_opens_74 (Nat.le_of_ble_eq_true rfl) (Nat.le_of_ble_eq_true rfl) hQ trivial

set_option maxHeartbeats 4000000 in
set_option maxRecDepth 100000 in
theorem c_X7_meets (l : Launch) (D : va_G) (cy : Nat → ClassId) (ad : Nat → Nat) (I : AI) (S : AS) (wh : Int32) (a : Int32) (b : Int32) (si : Int32) (k : Nat) (hk : I 3 = nI k) (hk8 : k ≤ 256) : Met l yX7_meets (Cond.code yX7_meets cX7_meets 8 (some .int) :: wsL_law) ({ frames := 1, cells := 0, slots := 0, locals := 21 }) (va_Pc [.ref (ad 0), .int wh, .int a, .int b, .int si] (rdB D cy (wM cy ad I S))) (rdI (fun r => r = mtN S wh a b si k)) 0 0 noA := by
  refine enter (cc := cX7_meets) (by decide) (Nat.le_of_ble_eq_true rfl) ?_
  intro p e s m below meth c hx hb hr hml hown hts hlocks hin hv Q hQ ls hl
  obtain ⟨hP, hK⟩ := hv
  have hown : s.vm.findClass RX7 = some m.cls := hown
  have hl : lv_has ls 8 [(0, .ref (ad 0)), (1, .int wh), (2, .int a), (3, .int b), (4, .int si)] := hl
  refine lv_iconst (v := (-1)) hx hb dX7_meets_0 (by decide) ?_
  refine lv_istore (lv' := [(5, .int (-1)), (0, .ref (ad 0)), (1, .int wh), (2, .int a), (3, .int b), (4, .int si)]) hx hb dX7_meets_1 hl (by decide) rfl (fun ls hl => ?_)
  refine lv_iconst (v := 0) hx hb dX7_meets_3 (by decide) ?_
  refine lv_istore (lv' := [(6, .int 0), (5, .int (-1)), (0, .ref (ad 0)), (1, .int wh), (2, .int a), (3, .int b), (4, .int si)]) hx hb dX7_meets_4 hl (by decide) rfl (fun ls hl => ?_)
  have L6 : ∀ (n_6 i : Nat), i ≤ k → k + 1 ≤ i + n_6 → ∀ (ls : Array Slot), lv_has ls 8 [(6, .int (nI i)), (5, .int (mtN S wh a b si i)), (0, .ref (ad 0)), (1, .int wh), (2, .int a), (3, .int b), (4, .int si)] → W p l e { frames := 1, cells := 0, slots := 0, locals := 21 } s m ([.ref (ad 0), .int wh, .int a, .int b, .int si] : List Value).toArray below meth c s.heap [] 0 0 Q (F0 m 6 ls []) := by
    clear hl
    intro n_6
    induction n_6 with
    | zero => intro i  hle_6 hn_6; exact absurd hn_6 (by omega)
    | succ n_6 ih6 =>
      intro i  hle_6 hn_6   ls hl
      refine lv_iload hx hb dX7_meets_6 (lv_at hl 0 rfl) ?_
      refine lv_aload_n hx hb dX7_meets_8 rfl (lv_at hl 2 rfl) ?_
      refine gf_X7_75 hx hb hts hown hK hP 0 rfl (v := .int (I 3)) rfl dX7_meets_9 ?_
      refine top_eq hk ?_
      refine lv_icmp_ge (tgt := 119) hx hb dX7_meets_12 (by decide) (fun c12_1 => ?_) (fun c12_1 => ?_)
      · have f12_1 : k ≤ i := nt_le (a := k) (b := i) (by omega) (by omega) c12_1
        refine lv_iload hx hb dX7_meets_119 (lv_at hl 1 rfl) ?_
        exact rI_ret hx hb hr hlocks dX7_meets_121 hQ (by rw [show i = k by omega])
      · have f12_1 : i < k := nt_nle (a := k) (b := i) (by omega) (by omega) c12_1
        refine lv_aload_n hx hb dX7_meets_15 rfl (lv_at hl 2 rfl) ?_
        refine gf_X7_17 hx hb hts hown hK hP 0 rfl (v := .ref (ad 3)) rfl dX7_meets_16 ?_
        refine lv_iload hx hb dX7_meets_19 (lv_at hl 0 rfl) ?_
        refine ald_I (f := (S 3)) hx hb hK hP 3 rfl (i := i) (by omega) (by decide) dX7_meets_21 ?_
        refine lv_iload_n hx hb dX7_meets_22 rfl (lv_at hl 3 rfl) ?_
        refine lv_icmp_ne (tgt := 73) hx hb dX7_meets_23 (by decide) (fun c23_2 => ?_) (fun c23_2 => ?_)
        · refine lv_iconst (v := 0) hx hb dX7_meets_73 (by decide) ?_
          refine lv_istore (lv' := [(7, .int 0), (6, .int (nI i)), (5, .int (mtN S wh a b si i)), (0, .ref (ad 0)), (1, .int wh), (2, .int a), (3, .int b), (4, .int si)]) hx hb dX7_meets_74 hl (by decide) rfl (fun ls hl => ?_)
          refine lv_iload hx hb dX7_meets_76 (lv_at hl 0 rfl) ?_
          refine lv_if_eq (tgt := 109) hx hb dX7_meets_78 (by decide) (fun _ => ?_) (fun c => absurd (by decide) c)
          refine lv_iload hx hb dX7_meets_109 (lv_at hl 2 rfl) ?_
          refine lv_istore (lv' := [(5, .int (mtN S wh a b si i)), (7, .int 0), (6, .int (nI i)), (0, .ref (ad 0)), (1, .int wh), (2, .int a), (3, .int b), (4, .int si)]) hx hb dX7_meets_111 hl (by decide) rfl (fun ls hl => ?_)
          refine lv_iinc (v := (nI (i + 1))) (lv' := [(6, .int (nI (i + 1))), (5, .int (mtN S wh a b si i)), (7, .int 0), (0, .ref (ad 0)), (1, .int wh), (2, .int a), (3, .int b), (4, .int si)]) hx hb dX7_meets_113 hl (k := 2) rfl (nI_1 i) (by decide) rfl (fun ls hl => ?_)
          refine lv_goto (tgt := 6) hx hb dX7_meets_116 (by decide) ?_
          have e_3 : (mtN S wh a b si i) = (mtN S wh a b si (i + 1)) := (mt_f (fun h => by first | exact c23_2 h.1.1 | exact absurd c23_2 (Int32.not_le.mpr h.1.1))).symm
          have hl : lv_has ls 8 [(6, .int (nI (i + 1))), (5, .int (mtN S wh a b si (i + 1))), (7, .int 0), (0, .ref (ad 0)), (1, .int wh), (2, .int a), (3, .int b), (4, .int si)] := by rw [← e_3]; exact hl
          exact ih6 (i + 1) (by omega) (by omega) ls (lv_sub hl [0, 1, 3, 4, 5, 6, 7] rfl)
        · refine lv_aload_n hx hb dX7_meets_26 rfl (lv_at hl 2 rfl) ?_
          refine lv_iload hx hb dX7_meets_27 (lv_at hl 0 rfl) ?_
          refine rZ_call (P := opB S i = true) (va_runV (As := [.int (nI i)]) (rest := []) ⟨hx, hb, hml, hown, hts⟩ (c_X7_isOpen l D cy ad I S i (by omega)) (cw_X7_81 hts rfl rfl ⟨Nat.le_of_ble_eq_true rfl, Nat.le_of_ble_eq_true rfl⟩) (preVR (ci := 7) (q0 := 0) hK hP rfl rfl) rfl rfl hl.1 rfl (lv_room (Nat.le_of_ble_eq_true rfl)) dX7_meets_29 ⟨Nat.le_of_ble_eq_true rfl, Nat.le_of_ble_eq_true rfl⟩) (fun b29_4 => ?_) (fun b29_4 => ?_)
          · refine lv_if_eq (tgt := 73) hx hb dX7_meets_32 (by decide) (fun c => absurd c (by decide)) (fun _ => ?_)
            refine lv_aload_n hx hb dX7_meets_35 rfl (lv_at hl 2 rfl) ?_
            refine gf_X7_29 hx hb hts hown hK hP 0 rfl (v := .ref (ad 7)) rfl dX7_meets_36 ?_
            refine lv_iload hx hb dX7_meets_39 (lv_at hl 0 rfl) ?_
            refine ald_I (f := (S 7)) hx hb hK hP 7 rfl (i := i) (by omega) (by decide) dX7_meets_41 ?_
            refine lv_iload hx hb dX7_meets_42 (lv_at hl 6 rfl) ?_
            refine lv_icmp_ge (tgt := 73) hx hb dX7_meets_44 (by decide) (fun c44_5 => ?_) (fun c44_5 => ?_)
            · refine lv_iconst (v := 0) hx hb dX7_meets_73 (by decide) ?_
              refine lv_istore (lv' := [(7, .int 0), (6, .int (nI i)), (5, .int (mtN S wh a b si i)), (0, .ref (ad 0)), (1, .int wh), (2, .int a), (3, .int b), (4, .int si)]) hx hb dX7_meets_74 hl (by decide) rfl (fun ls hl => ?_)
              refine lv_iload hx hb dX7_meets_76 (lv_at hl 0 rfl) ?_
              refine lv_if_eq (tgt := 109) hx hb dX7_meets_78 (by decide) (fun _ => ?_) (fun c => absurd (by decide) c)
              refine lv_iload hx hb dX7_meets_109 (lv_at hl 2 rfl) ?_
              refine lv_istore (lv' := [(5, .int (mtN S wh a b si i)), (7, .int 0), (6, .int (nI i)), (0, .ref (ad 0)), (1, .int wh), (2, .int a), (3, .int b), (4, .int si)]) hx hb dX7_meets_111 hl (by decide) rfl (fun ls hl => ?_)
              refine lv_iinc (v := (nI (i + 1))) (lv' := [(6, .int (nI (i + 1))), (5, .int (mtN S wh a b si i)), (7, .int 0), (0, .ref (ad 0)), (1, .int wh), (2, .int a), (3, .int b), (4, .int si)]) hx hb dX7_meets_113 hl (k := 2) rfl (nI_1 i) (by decide) rfl (fun ls hl => ?_)
              refine lv_goto (tgt := 6) hx hb dX7_meets_116 (by decide) ?_
              have e_6 : (mtN S wh a b si i) = (mtN S wh a b si (i + 1)) := (mt_f (fun h => by first | exact c44_5 h.1.2.2.1 | exact absurd c44_5 (Int32.not_le.mpr h.1.2.2.1))).symm
              have hl : lv_has ls 8 [(6, .int (nI (i + 1))), (5, .int (mtN S wh a b si (i + 1))), (7, .int 0), (0, .ref (ad 0)), (1, .int wh), (2, .int a), (3, .int b), (4, .int si)] := by rw [← e_6]; exact hl
              exact ih6 (i + 1) (by omega) (by omega) ls (lv_sub hl [0, 1, 3, 4, 5, 6, 7] rfl)
            · refine lv_aload_n hx hb dX7_meets_47 rfl (lv_at hl 2 rfl) ?_
              refine gf_X7_23 hx hb hts hown hK hP 0 rfl (v := .ref (ad 5)) rfl dX7_meets_48 ?_
              refine lv_iload hx hb dX7_meets_51 (lv_at hl 0 rfl) ?_
              refine ald_I (f := (S 5)) hx hb hK hP 5 rfl (i := i) (by omega) (by decide) dX7_meets_53 ?_
              refine lv_iload_n hx hb dX7_meets_54 rfl (lv_at hl 5 rfl) ?_
              refine lv_icmp_ge (tgt := 73) hx hb dX7_meets_55 (by decide) (fun c55_7 => ?_) (fun c55_7 => ?_)
              · refine lv_iconst (v := 0) hx hb dX7_meets_73 (by decide) ?_
                refine lv_istore (lv' := [(7, .int 0), (6, .int (nI i)), (5, .int (mtN S wh a b si i)), (0, .ref (ad 0)), (1, .int wh), (2, .int a), (3, .int b), (4, .int si)]) hx hb dX7_meets_74 hl (by decide) rfl (fun ls hl => ?_)
                refine lv_iload hx hb dX7_meets_76 (lv_at hl 0 rfl) ?_
                refine lv_if_eq (tgt := 109) hx hb dX7_meets_78 (by decide) (fun _ => ?_) (fun c => absurd (by decide) c)
                refine lv_iload hx hb dX7_meets_109 (lv_at hl 2 rfl) ?_
                refine lv_istore (lv' := [(5, .int (mtN S wh a b si i)), (7, .int 0), (6, .int (nI i)), (0, .ref (ad 0)), (1, .int wh), (2, .int a), (3, .int b), (4, .int si)]) hx hb dX7_meets_111 hl (by decide) rfl (fun ls hl => ?_)
                refine lv_iinc (v := (nI (i + 1))) (lv' := [(6, .int (nI (i + 1))), (5, .int (mtN S wh a b si i)), (7, .int 0), (0, .ref (ad 0)), (1, .int wh), (2, .int a), (3, .int b), (4, .int si)]) hx hb dX7_meets_113 hl (k := 2) rfl (nI_1 i) (by decide) rfl (fun ls hl => ?_)
                refine lv_goto (tgt := 6) hx hb dX7_meets_116 (by decide) ?_
                have e_8 : (mtN S wh a b si i) = (mtN S wh a b si (i + 1)) := (mt_f (fun h => by first | exact c55_7 h.1.2.2.2.1 | exact absurd c55_7 (Int32.not_le.mpr h.1.2.2.2.1))).symm
                have hl : lv_has ls 8 [(6, .int (nI (i + 1))), (5, .int (mtN S wh a b si (i + 1))), (7, .int 0), (0, .ref (ad 0)), (1, .int wh), (2, .int a), (3, .int b), (4, .int si)] := by rw [← e_8]; exact hl
                exact ih6 (i + 1) (by omega) (by omega) ls (lv_sub hl [0, 1, 3, 4, 5, 6, 7] rfl)
              · refine lv_aload_n hx hb dX7_meets_58 rfl (lv_at hl 2 rfl) ?_
                refine gf_X7_26 hx hb hts hown hK hP 0 rfl (v := .ref (ad 6)) rfl dX7_meets_59 ?_
                refine lv_iload hx hb dX7_meets_62 (lv_at hl 0 rfl) ?_
                refine ald_I (f := (S 6)) hx hb hK hP 6 rfl (i := i) (by omega) (by decide) dX7_meets_64 ?_
                refine lv_iload_n hx hb dX7_meets_65 rfl (lv_at hl 4 rfl) ?_
                refine lv_icmp_le (tgt := 73) hx hb dX7_meets_66 (by decide) (fun c66_9 => ?_) (fun c66_9 => ?_)
                · refine lv_iconst (v := 0) hx hb dX7_meets_73 (by decide) ?_
                  refine lv_istore (lv' := [(7, .int 0), (6, .int (nI i)), (5, .int (mtN S wh a b si i)), (0, .ref (ad 0)), (1, .int wh), (2, .int a), (3, .int b), (4, .int si)]) hx hb dX7_meets_74 hl (by decide) rfl (fun ls hl => ?_)
                  refine lv_iload hx hb dX7_meets_76 (lv_at hl 0 rfl) ?_
                  refine lv_if_eq (tgt := 109) hx hb dX7_meets_78 (by decide) (fun _ => ?_) (fun c => absurd (by decide) c)
                  refine lv_iload hx hb dX7_meets_109 (lv_at hl 2 rfl) ?_
                  refine lv_istore (lv' := [(5, .int (mtN S wh a b si i)), (7, .int 0), (6, .int (nI i)), (0, .ref (ad 0)), (1, .int wh), (2, .int a), (3, .int b), (4, .int si)]) hx hb dX7_meets_111 hl (by decide) rfl (fun ls hl => ?_)
                  refine lv_iinc (v := (nI (i + 1))) (lv' := [(6, .int (nI (i + 1))), (5, .int (mtN S wh a b si i)), (7, .int 0), (0, .ref (ad 0)), (1, .int wh), (2, .int a), (3, .int b), (4, .int si)]) hx hb dX7_meets_113 hl (k := 2) rfl (nI_1 i) (by decide) rfl (fun ls hl => ?_)
                  refine lv_goto (tgt := 6) hx hb dX7_meets_116 (by decide) ?_
                  have e_10 : (mtN S wh a b si i) = (mtN S wh a b si (i + 1)) := (mt_f (fun h => by first | exact c66_9 h.1.2.2.2.2 | exact absurd c66_9 (Int32.not_le.mpr h.1.2.2.2.2))).symm
                  have hl : lv_has ls 8 [(6, .int (nI (i + 1))), (5, .int (mtN S wh a b si (i + 1))), (7, .int 0), (0, .ref (ad 0)), (1, .int wh), (2, .int a), (3, .int b), (4, .int si)] := by rw [← e_10]; exact hl
                  exact ih6 (i + 1) (by omega) (by omega) ls (lv_sub hl [0, 1, 3, 4, 5, 6, 7] rfl)
                · refine lv_iconst (v := 1) hx hb dX7_meets_69 (by decide) ?_
                  refine lv_goto (tgt := 74) hx hb dX7_meets_70 (by decide) ?_
                  refine lv_istore (lv' := [(7, .int 1), (6, .int (nI i)), (5, .int (mtN S wh a b si i)), (0, .ref (ad 0)), (1, .int wh), (2, .int a), (3, .int b), (4, .int si)]) hx hb dX7_meets_74 hl (by decide) rfl (fun ls hl => ?_)
                  refine lv_iload hx hb dX7_meets_76 (lv_at hl 0 rfl) ?_
                  refine lv_if_eq (tgt := 109) hx hb dX7_meets_78 (by decide) (fun c => absurd c (by decide)) (fun _ => ?_)
                  rcases mtN_is S wh a b si i with hbm | ⟨j, hj, hbm⟩
                  · have hl : lv_has ls 8 [(7, .int 1), (6, .int (nI i)), (5, .int (-1)), (0, .ref (ad 0)), (1, .int wh), (2, .int a), (3, .int b), (4, .int si)] := by rw [← hbm]; exact hl
                    refine lv_iload hx hb dX7_meets_81 (lv_at hl 2 rfl) ?_
                    refine lv_iconst (v := (-1)) hx hb dX7_meets_83 (by decide) ?_
                    refine lv_icmp_eq (tgt := 104) hx hb dX7_meets_84 (by decide) (fun _ => ?_) (fun c => absurd (by decide) c)
                    refine lv_iload hx hb dX7_meets_104 (lv_at hl 1 rfl) ?_
                    refine lv_goto (tgt := 111) hx hb dX7_meets_106 (by decide) ?_
                    refine lv_istore (lv' := [(5, .int (nI i)), (7, .int 1), (6, .int (nI i)), (0, .ref (ad 0)), (1, .int wh), (2, .int a), (3, .int b), (4, .int si)]) hx hb dX7_meets_111 hl (by decide) rfl (fun ls hl => ?_)
                    refine lv_iinc (v := (nI (i + 1))) (lv' := [(6, .int (nI (i + 1))), (5, .int (nI i)), (7, .int 1), (0, .ref (ad 0)), (1, .int wh), (2, .int a), (3, .int b), (4, .int si)]) hx hb dX7_meets_113 hl (k := 2) rfl (nI_1 i) (by decide) rfl (fun ls hl => ?_)
                    refine lv_goto (tgt := 6) hx hb dX7_meets_116 (by decide) ?_
                    have e_11 : (nI i) = (mtN S wh a b si (i + 1)) := (mt_t ⟨c23_2, b29_4, (Int32.not_le.mp c44_5), (Int32.not_le.mp c55_7), (Int32.not_le.mp c66_9)⟩ (Or.inl hbm)).symm
                    have hl : lv_has ls 8 [(6, .int (nI (i + 1))), (5, .int (mtN S wh a b si (i + 1))), (7, .int 1), (0, .ref (ad 0)), (1, .int wh), (2, .int a), (3, .int b), (4, .int si)] := by rw [← e_11]; exact hl
                    exact ih6 (i + 1) (by omega) (by omega) ls (lv_sub hl [0, 1, 3, 4, 5, 6, 7] rfl)
                  · have hl : lv_has ls 8 [(7, .int 1), (6, .int (nI i)), (5, .int (nI j)), (0, .ref (ad 0)), (1, .int wh), (2, .int a), (3, .int b), (4, .int si)] := by rw [← hbm]; exact hl
                    refine lv_iload hx hb dX7_meets_81 (lv_at hl 2 rfl) ?_
                    refine lv_iconst (v := (-1)) hx hb dX7_meets_83 (by decide) ?_
                    refine lv_icmp_eq (tgt := 104) hx hb dX7_meets_84 (by decide) (fun c => absurd c (nI_m1 (by omega))) (fun _ => ?_)
                    refine lv_aload_n hx hb dX7_meets_87 rfl (lv_at hl 3 rfl) ?_
                    refine gf_X7_23 hx hb hts hown hK hP 0 rfl (v := .ref (ad 5)) rfl dX7_meets_88 ?_
                    refine lv_iload hx hb dX7_meets_91 (lv_at hl 1 rfl) ?_
                    refine ald_I (f := (S 5)) hx hb hK hP 5 rfl (i := i) (by omega) (by decide) dX7_meets_93 ?_
                    refine lv_aload_n hx hb dX7_meets_94 rfl (lv_at hl 3 rfl) ?_
                    refine gf_X7_23 hx hb hts hown hK hP 0 rfl (v := .ref (ad 5)) rfl dX7_meets_95 ?_
                    refine lv_iload hx hb dX7_meets_98 (lv_at hl 2 rfl) ?_
                    refine ald_I (f := (S 5)) hx hb hK hP 5 rfl (i := j) (by omega) (by decide) dX7_meets_100 ?_
                    refine lv_icmp_ge (tgt := 109) hx hb dX7_meets_101 (by decide) (fun c101_12 => ?_) (fun c101_12 => ?_)
                    · refine lv_iload hx hb dX7_meets_109 (lv_at hl 2 rfl) ?_
                      refine lv_istore (lv' := [(5, .int (nI j)), (7, .int 1), (6, .int (nI i)), (0, .ref (ad 0)), (1, .int wh), (2, .int a), (3, .int b), (4, .int si)]) hx hb dX7_meets_111 hl (by decide) rfl (fun ls hl => ?_)
                      refine lv_iinc (v := (nI (i + 1))) (lv' := [(6, .int (nI (i + 1))), (5, .int (nI j)), (7, .int 1), (0, .ref (ad 0)), (1, .int wh), (2, .int a), (3, .int b), (4, .int si)]) hx hb dX7_meets_113 hl (k := 2) rfl (nI_1 i) (by decide) rfl (fun ls hl => ?_)
                      refine lv_goto (tgt := 6) hx hb dX7_meets_116 (by decide) ?_
                      have e_13 : (nI j) = (mtN S wh a b si (i + 1)) := ((mt_f (fun h => h.2.elim (fun q => by rw [hbm] at q; exact nI_m1 (by omega) q) (fun q => by rw [hbm, nI_clamp (by omega)] at q; exact absurd c101_12 (Int32.not_le.mpr q)))).trans hbm).symm
                      have hl : lv_has ls 8 [(6, .int (nI (i + 1))), (5, .int (mtN S wh a b si (i + 1))), (7, .int 1), (0, .ref (ad 0)), (1, .int wh), (2, .int a), (3, .int b), (4, .int si)] := by rw [← e_13]; exact hl
                      exact ih6 (i + 1) (by omega) (by omega) ls (lv_sub hl [0, 1, 3, 4, 5, 6, 7] rfl)
                    · refine lv_iload hx hb dX7_meets_104 (lv_at hl 1 rfl) ?_
                      refine lv_goto (tgt := 111) hx hb dX7_meets_106 (by decide) ?_
                      refine lv_istore (lv' := [(5, .int (nI i)), (7, .int 1), (6, .int (nI i)), (0, .ref (ad 0)), (1, .int wh), (2, .int a), (3, .int b), (4, .int si)]) hx hb dX7_meets_111 hl (by decide) rfl (fun ls hl => ?_)
                      refine lv_iinc (v := (nI (i + 1))) (lv' := [(6, .int (nI (i + 1))), (5, .int (nI i)), (7, .int 1), (0, .ref (ad 0)), (1, .int wh), (2, .int a), (3, .int b), (4, .int si)]) hx hb dX7_meets_113 hl (k := 2) rfl (nI_1 i) (by decide) rfl (fun ls hl => ?_)
                      refine lv_goto (tgt := 6) hx hb dX7_meets_116 (by decide) ?_
                      have e_14 : (nI i) = (mtN S wh a b si (i + 1)) := (mt_t ⟨c23_2, b29_4, (Int32.not_le.mp c44_5), (Int32.not_le.mp c55_7), (Int32.not_le.mp c66_9)⟩ (Or.inr (by rw [hbm, nI_clamp (by omega)]; exact Int32.not_le.mp c101_12))).symm
                      have hl : lv_has ls 8 [(6, .int (nI (i + 1))), (5, .int (mtN S wh a b si (i + 1))), (7, .int 1), (0, .ref (ad 0)), (1, .int wh), (2, .int a), (3, .int b), (4, .int si)] := by rw [← e_14]; exact hl
                      exact ih6 (i + 1) (by omega) (by omega) ls (lv_sub hl [0, 1, 3, 4, 5, 6, 7] rfl)
          · refine lv_if_eq (tgt := 73) hx hb dX7_meets_32 (by decide) (fun _ => ?_) (fun c => absurd (by decide) c)
            refine lv_iconst (v := 0) hx hb dX7_meets_73 (by decide) ?_
            refine lv_istore (lv' := [(7, .int 0), (6, .int (nI i)), (5, .int (mtN S wh a b si i)), (0, .ref (ad 0)), (1, .int wh), (2, .int a), (3, .int b), (4, .int si)]) hx hb dX7_meets_74 hl (by decide) rfl (fun ls hl => ?_)
            refine lv_iload hx hb dX7_meets_76 (lv_at hl 0 rfl) ?_
            refine lv_if_eq (tgt := 109) hx hb dX7_meets_78 (by decide) (fun _ => ?_) (fun c => absurd (by decide) c)
            refine lv_iload hx hb dX7_meets_109 (lv_at hl 2 rfl) ?_
            refine lv_istore (lv' := [(5, .int (mtN S wh a b si i)), (7, .int 0), (6, .int (nI i)), (0, .ref (ad 0)), (1, .int wh), (2, .int a), (3, .int b), (4, .int si)]) hx hb dX7_meets_111 hl (by decide) rfl (fun ls hl => ?_)
            refine lv_iinc (v := (nI (i + 1))) (lv' := [(6, .int (nI (i + 1))), (5, .int (mtN S wh a b si i)), (7, .int 0), (0, .ref (ad 0)), (1, .int wh), (2, .int a), (3, .int b), (4, .int si)]) hx hb dX7_meets_113 hl (k := 2) rfl (nI_1 i) (by decide) rfl (fun ls hl => ?_)
            refine lv_goto (tgt := 6) hx hb dX7_meets_116 (by decide) ?_
            have e_15 : (mtN S wh a b si i) = (mtN S wh a b si (i + 1)) := (mt_f (fun h => by first | exact b29_4 h.1.2.1 | exact absurd b29_4 (Int32.not_le.mpr h.1.2.1))).symm
            have hl : lv_has ls 8 [(6, .int (nI (i + 1))), (5, .int (mtN S wh a b si (i + 1))), (7, .int 0), (0, .ref (ad 0)), (1, .int wh), (2, .int a), (3, .int b), (4, .int si)] := by rw [← e_15]; exact hl
            exact ih6 (i + 1) (by omega) (by omega) ls (lv_sub hl [0, 1, 3, 4, 5, 6, 7] rfl)
  exact L6 (k + 1) 0 (by omega) (by omega) ls (lv_sub hl [0, 1, 2, 3, 4, 5, 6] rfl)

set_option maxHeartbeats 4000000 in
set_option maxRecDepth 100000 in
theorem c_X7_begins (l : Launch) (D : va_G) (cy : Nat → ClassId) (ad : Nat → Nat) (I : AI) (S : AS) (sz : Nat) (z : Int32) (x : Int32) (n : Nat) (hn : I 2 = nI n) (hn6 : n < 60) (hz : vp_nar .char z = z) : Met l yX7_begins (Cond.code yX7_begins cX7_begins 3 none :: wsL_law) ({ frames := 0, cells := 0, slots := 0, locals := 0 }) (va_Pc [.ref (ad 0), .int z, .int x] (wrB D cy (wM cy ad I S) sz)) (va_Qv (S := Unit) (fun u => True) (fun u t9 => va_P D clW (wM cy ad (va_up I 2 (nI (n + 1))) (va_up (va_up S 1 (upd (S 1) (n + 1) z)) 2 (upd (S 2) (n + 1) x))) t9.heap) (va_A (wM cy ad I S) sz)) 0 0 (va_A (wM cy ad I S) sz) := by
  refine enter (cc := cX7_begins) (by decide) (Nat.le_of_ble_eq_true rfl) ?_
  intro p e s m below meth c hx hb hr hml hown hts hlocks hin hv Q hQ ls hl
  obtain ⟨hsz, hP, hK, hD0⟩ := hv
  subst hsz
  have hD := hD0.self (sz := s.heap.size)
  generalize hAe : va_A (wM cy ad I S) s.heap.size = A at hD hQ ⊢
  have hA : ∀ q : Nat, s.heap.size ≤ q → A q := fun q h => by rw [← hAe]; exact Or.inr h
  have hS : va_S A s.heap s.heap [] := va_S.rf
  suffices K_ : ∀ (H : Heap) (locs : List Loc), va_P D clW (wM cy ad I S) H → va_S A s.heap H locs → W p l e ({ frames := 0, cells := 0, slots := 0, locals := 0 }) s m ([.ref (ad 0), .int z, .int x] : List Value).toArray below meth c H locs 0 0 Q (F0 m 0 ls []) from K_ _ _ hP hS
  clear hP hS
  intro H locs hP hS
  have hown : s.vm.findClass RX7 = some m.cls := hown
  have hl : lv_has ls 3 [(0, .ref (ad 0)), (1, .int z), (2, .int x)] := hl
  refine lv_aload_n hx hb dX7_begins_0 rfl (lv_at hl 0 rfl) ?_
  refine lv_dup hx hb dX7_begins_1 rfl ?_
  refine gf_X7_78 hx hb hts hown hK hP 0 rfl (v := .int (I 2)) rfl dX7_begins_2 ?_
  refine top_eq hn ?_
  refine lv_iconst (v := 1) hx hb dX7_begins_5 (by decide) ?_
  refine lv_iadd hx hb dX7_begins_6 ?_
  refine top_eq (y := nI (n + 1)) (nI_add n 1) ?_
  refine pf_X7_78 hx hb hts hown hK hP hD hS 0 rfl (Nat.le_of_ble_eq_true rfl) dX7_begins_7 (fun H locs hP hD hS => ?_)
  have hP : va_P D clW (wM cy ad (va_up I 2 (nI (n + 1))) S) H := hP
  have hD : va_D A (wM cy ad (va_up I 2 (nI (n + 1))) S) := hD
  refine lv_aload_n hx hb dX7_begins_10 rfl (lv_at hl 0 rfl) ?_
  refine gf_X7_9 hx hb hts hown hK hP 0 rfl (v := .ref (ad 1)) rfl dX7_begins_11 ?_
  refine lv_aload_n hx hb dX7_begins_14 rfl (lv_at hl 0 rfl) ?_
  refine gf_X7_78 hx hb hts hown hK hP 0 rfl (v := .int (nI (n + 1))) rfl dX7_begins_15 ?_
  refine lv_iload_n hx hb dX7_begins_18 rfl (lv_at hl 1 rfl) ?_
  refine ast_C hx hb hK hP hD hS 1 rfl (i := (n + 1)) (x := z) (by omega) (by decide) hz dX7_begins_19 (fun H locs hP hD hS => ?_)
  have hP : va_P D clW (wM cy ad (va_up I 2 (nI (n + 1))) (va_up S 1 (upd (S 1) (n + 1) z))) H := hP
  have hD : va_D A (wM cy ad (va_up I 2 (nI (n + 1))) (va_up S 1 (upd (S 1) (n + 1) z))) := hD
  refine lv_aload_n hx hb dX7_begins_20 rfl (lv_at hl 0 rfl) ?_
  refine gf_X7_13 hx hb hts hown hK hP 0 rfl (v := .ref (ad 2)) rfl dX7_begins_21 ?_
  refine lv_aload_n hx hb dX7_begins_24 rfl (lv_at hl 0 rfl) ?_
  refine gf_X7_78 hx hb hts hown hK hP 0 rfl (v := .int (nI (n + 1))) rfl dX7_begins_25 ?_
  refine lv_iload_n hx hb dX7_begins_28 rfl (lv_at hl 2 rfl) ?_
  refine ast_I hx hb hK hP hD hS 2 rfl (i := (n + 1)) (x := x) (by omega) (by decide) dX7_begins_29 (fun H locs hP hD hS => ?_)
  have hP : va_P D clW (wM cy ad (va_up I 2 (nI (n + 1))) (va_up (va_up S 1 (upd (S 1) (n + 1) z)) 2 (upd (S 2) (n + 1) x))) H := hP
  have hD : va_D A (wM cy ad (va_up I 2 (nI (n + 1))) (va_up (va_up S 1 (upd (S 1) (n + 1) z)) 2 (upd (S 2) (n + 1) x))) := hD
  have hP : va_P D clW (wM cy ad (va_up I 2 (nI (n + 1))) (va_up (va_up S 1 (upd (S 1) (n + 1) z)) 2 (upd (S 2) (n + 1) x))) H := hP
  have hD : va_D A (wM cy ad (va_up I 2 (nI (n + 1))) (va_up (va_up S 1 (upd (S 1) (n + 1) z)) 2 (upd (S 2) (n + 1) x))) := hD.addr rfl
  exact wV_ret () hS hP hx hb hr hlocks dX7_begins_30 (Nat.le_of_ble_eq_true rfl) (Nat.le_of_ble_eq_true rfl) hQ trivial

set_option maxHeartbeats 4000000 in
set_option maxRecDepth 100000 in
theorem c_X7_openCount (l : Launch) (D : va_G) (cy : Nat → ClassId) (ad : Nat → Nat) (I : AI) (S : AS) (sz : Nat) (k : Nat) (hk : I 3 = nI k) (hk8 : k ≤ 256) : Met l yX7_openCount (Cond.code yX7_openCount cX7_openCount 3 (some .int) :: wsL_law) ({ frames := 1, cells := 0, slots := 0, locals := 21 }) (va_Pc [.ref (ad 0)] (wrB D cy (wM cy ad I S) sz)) (va_Qi (S := Unit) (fun r u => r = moN S k) (fun u t9 => va_P D clW (wM cy ad (va_up I 0 0) S) t9.heap) (va_A (wM cy ad I S) sz)) 0 0 (va_A (wM cy ad I S) sz) := by
  refine enter (cc := cX7_openCount) (by decide) (Nat.le_of_ble_eq_true rfl) ?_
  intro p e s m below meth c hx hb hr hml hown hts hlocks hin hv Q hQ ls hl
  obtain ⟨hsz, hP, hK, hD0⟩ := hv
  subst hsz
  have hD := hD0.self (sz := s.heap.size)
  generalize hAe : va_A (wM cy ad I S) s.heap.size = A at hD hQ ⊢
  have hA : ∀ q : Nat, s.heap.size ≤ q → A q := fun q h => by rw [← hAe]; exact Or.inr h
  have hS : va_S A s.heap s.heap [] := va_S.rf
  suffices K_ : ∀ (H : Heap) (locs : List Loc), va_P D clW (wM cy ad I S) H → va_S A s.heap H locs → W p l e ({ frames := 1, cells := 0, slots := 0, locals := 21 }) s m ([.ref (ad 0)] : List Value).toArray below meth c H locs 0 0 Q (F0 m 0 ls []) from K_ _ _ hP hS
  clear hP hS
  intro H locs hP hS
  have hown : s.vm.findClass RX7 = some m.cls := hown
  have hl : lv_has ls 3 [(0, .ref (ad 0))] := hl
  refine lv_aload_n hx hb dX7_openCount_0 rfl (lv_at hl 0 rfl) ?_
  refine lv_iconst (v := 0) hx hb dX7_openCount_1 (by decide) ?_
  refine pf_X7_60 hx hb hts hown hK hP hD hS 0 rfl (Nat.le_of_ble_eq_true rfl) dX7_openCount_2 (fun H locs hP hD hS => ?_)
  have hP : va_P D clW (wM cy ad (va_up I 0 0) S) H := hP
  have hD : va_D A (wM cy ad (va_up I 0 0) S) := hD
  refine lv_iconst (v := 0) hx hb dX7_openCount_5 (by decide) ?_
  refine lv_istore_n (lv' := [(1, .int 0), (0, .ref (ad 0))]) hx hb dX7_openCount_6 rfl hl (by decide) rfl (fun ls hl => ?_)
  refine lv_iconst (v := 0) hx hb dX7_openCount_7 (by decide) ?_
  refine lv_istore_n (lv' := [(2, .int 0), (1, .int 0), (0, .ref (ad 0))]) hx hb dX7_openCount_8 rfl hl (by decide) rfl (fun ls hl => ?_)
  have L9 : ∀ (n_9 i : Nat), i ≤ k → k + 1 ≤ i + n_9 → ∀ (H : Heap) (locs : List Loc), va_P D clW (wM cy ad (va_up I 0 0) S) H → va_D A (wM cy ad (va_up I 0 0) S) → va_S A s.heap H locs → ∀ (ls : Array Slot), lv_has ls 3 [(2, .int (nI i)), (1, .int (moN S i)), (0, .ref (ad 0))] → W p l e { frames := 1, cells := 0, slots := 0, locals := 21 } s m ([.ref (ad 0)] : List Value).toArray below meth c H locs 0 0 Q (F0 m 9 ls []) := by
    clear hl
    intro n_9
    induction n_9 with
    | zero => intro i  hle_9 hn_9; exact absurd hn_9 (by omega)
    | succ n_9 ih9 =>
      intro i  hle_9 hn_9  H locs hP hD hS ls hl
      refine lv_iload_n hx hb dX7_openCount_9 rfl (lv_at hl 0 rfl) ?_
      refine lv_aload_n hx hb dX7_openCount_10 rfl (lv_at hl 2 rfl) ?_
      refine gf_X7_75 hx hb hts hown hK hP 0 rfl (v := .int (I 3)) rfl dX7_openCount_11 ?_
      refine top_eq hk ?_
      refine lv_icmp_ge (tgt := 39) hx hb dX7_openCount_14 (by decide) (fun c14_1 => ?_) (fun c14_1 => ?_)
      · have f14_1 : k ≤ i := nt_le (a := k) (b := i) (by omega) (by omega) c14_1
        refine lv_iload_n hx hb dX7_openCount_39 rfl (lv_at hl 1 rfl) ?_
        have hP : va_P D clW (wM cy ad (va_up I 0 0) S) H := hP
        have hD : va_D A (wM cy ad (va_up I 0 0) S) := hD.addr rfl
        exact wI_ret () hS hP hx hb hr hlocks dX7_openCount_40 (Nat.le_of_ble_eq_true rfl) (Nat.le_of_ble_eq_true rfl) hQ (by rw [show i = k by omega])
      · have f14_1 : i < k := nt_nle (a := k) (b := i) (by omega) (by omega) c14_1
        refine lv_iload_n hx hb dX7_openCount_17 rfl (lv_at hl 1 rfl) ?_
        refine lv_aload_n hx hb dX7_openCount_18 rfl (lv_at hl 2 rfl) ?_
        refine lv_iload_n hx hb dX7_openCount_19 rfl (lv_at hl 0 rfl) ?_
        refine rZ_call (P := opB S i = true) (va_runV (As := [.int (nI i)]) (rest := [.int (moN S i)]) ⟨hx, hb, hml, hown, hts⟩ (c_X7_isOpen l D cy ad (va_up I 0 0) S i (by omega)) (cw_X7_81 hts rfl rfl ⟨Nat.le_of_ble_eq_true rfl, Nat.le_of_ble_eq_true rfl⟩) (preVR (ci := 7) (q0 := 0) hK hP rfl rfl) rfl rfl hl.1 rfl (lv_room (Nat.le_of_ble_eq_true rfl)) dX7_openCount_20 ⟨Nat.le_of_ble_eq_true rfl, Nat.le_of_ble_eq_true rfl⟩) (fun b20_2 => ?_) (fun b20_2 => ?_)
        · refine lv_if_eq (tgt := 30) hx hb dX7_openCount_23 (by decide) (fun c => absurd c (by decide)) (fun _ => ?_)
          refine lv_iconst (v := 1) hx hb dX7_openCount_26 (by decide) ?_
          refine lv_goto (tgt := 31) hx hb dX7_openCount_27 (by decide) ?_
          refine lv_iadd hx hb dX7_openCount_31 ?_
          refine lv_istore_n (lv' := [(1, .int ((moN S i) + 1)), (2, .int (nI i)), (0, .ref (ad 0))]) hx hb dX7_openCount_32 rfl hl (by decide) rfl (fun ls hl => ?_)
          refine lv_iinc (v := (nI (i + 1))) (lv' := [(2, .int (nI (i + 1))), (1, .int ((moN S i) + 1)), (0, .ref (ad 0))]) hx hb dX7_openCount_33 hl (k := 1) rfl (nI_1 i) (by decide) rfl (fun ls hl => ?_)
          refine lv_goto (tgt := 9) hx hb dX7_openCount_36 (by decide) ?_
          have e_3 : ((moN S i) + 1) = (moN S (i + 1)) := (by rw [moN, if_pos b20_2])
          have hl : lv_has ls 3 [(2, .int (nI (i + 1))), (1, .int (moN S (i + 1))), (0, .ref (ad 0))] := by rw [← e_3]; exact hl
          have hP : va_P D clW (wM cy ad (va_up I 0 0) S) H := hP
          have hD : va_D A (wM cy ad (va_up I 0 0) S) := hD.addr rfl
          exact ih9 (i + 1) (by omega) (by omega) _ _ hP hD hS ls (lv_sub hl [0, 1, 2] rfl)
        · refine lv_if_eq (tgt := 30) hx hb dX7_openCount_23 (by decide) (fun _ => ?_) (fun c => absurd (by decide) c)
          refine lv_iconst (v := 0) hx hb dX7_openCount_30 (by decide) ?_
          refine lv_iadd hx hb dX7_openCount_31 ?_
          refine lv_istore_n (lv' := [(1, .int ((moN S i) + 0)), (2, .int (nI i)), (0, .ref (ad 0))]) hx hb dX7_openCount_32 rfl hl (by decide) rfl (fun ls hl => ?_)
          refine lv_iinc (v := (nI (i + 1))) (lv' := [(2, .int (nI (i + 1))), (1, .int ((moN S i) + 0)), (0, .ref (ad 0))]) hx hb dX7_openCount_33 hl (k := 1) rfl (nI_1 i) (by decide) rfl (fun ls hl => ?_)
          refine lv_goto (tgt := 9) hx hb dX7_openCount_36 (by decide) ?_
          have e_4 : ((moN S i) + 0) = (moN S (i + 1)) := (by rw [moN, if_neg (fun h => by first | exact b20_2 h | exact h b20_2)])
          have hl : lv_has ls 3 [(2, .int (nI (i + 1))), (1, .int (moN S (i + 1))), (0, .ref (ad 0))] := by rw [← e_4]; exact hl
          have hP : va_P D clW (wM cy ad (va_up I 0 0) S) H := hP
          have hD : va_D A (wM cy ad (va_up I 0 0) S) := hD.addr rfl
          exact ih9 (i + 1) (by omega) (by omega) _ _ hP hD hS ls (lv_sub hl [0, 1, 2] rfl)
  have hP : va_P D clW (wM cy ad (va_up I 0 0) S) H := hP
  have hD : va_D A (wM cy ad (va_up I 0 0) S) := hD.addr rfl
  exact L9 (k + 1) 0 (by omega) (by omega) _ _ hP hD hS ls (lv_sub hl [0, 1, 2] rfl)

set_option maxHeartbeats 4000000 in
set_option maxRecDepth 100000 in
theorem c_X7_isFact (l : Launch) (D : va_G) (cy : Nat → ClassId) (ad : Nat → Nat) (I : AI) (S : AS) (sz : Nat) (x : Int32) (k : Nat) (hk : I 3 = nI k) (hk8 : k ≤ 256) : Met l yX7_isFact (Cond.code yX7_isFact cX7_isFact 2 (some .boolean) :: wsL_law) ({ frames := 1, cells := 0, slots := 0, locals := 22 }) (va_Pc [.ref (ad 0), .int x] (wrB D cy (wM cy ad I S) sz)) (va_Qi (S := Unit) (fun r u => r = if mfB S (nI k) x = true then 1 else 0) (fun u t9 => va_P D clW (wM cy ad (va_up I 0 (if mfB S (nI k) x = true then 0 else 1)) S) t9.heap) (va_A (wM cy ad I S) sz)) 0 0 (va_A (wM cy ad I S) sz) := by
  refine enter (cc := cX7_isFact) (by decide) (Nat.le_of_ble_eq_true rfl) ?_
  intro p e s m below meth c hx hb hr hml hown hts hlocks hin hv Q hQ ls hl
  obtain ⟨hsz, hP, hK, hD0⟩ := hv
  subst hsz
  have hD := hD0.self (sz := s.heap.size)
  generalize hAe : va_A (wM cy ad I S) s.heap.size = A at hD hQ ⊢
  have hA : ∀ q : Nat, s.heap.size ≤ q → A q := fun q h => by rw [← hAe]; exact Or.inr h
  have hS : va_S A s.heap s.heap [] := va_S.rf
  suffices K_ : ∀ (H : Heap) (locs : List Loc), va_P D clW (wM cy ad I S) H → va_S A s.heap H locs → W p l e ({ frames := 1, cells := 0, slots := 0, locals := 22 }) s m ([.ref (ad 0), .int x] : List Value).toArray below meth c H locs 0 0 Q (F0 m 0 ls []) from K_ _ _ hP hS
  clear hP hS
  intro H locs hP hS
  have hown : s.vm.findClass RX7 = some m.cls := hown
  have hl : lv_has ls 2 [(0, .ref (ad 0)), (1, .int x)] := hl
  refine lv_aload_n hx hb dX7_isFact_0 rfl (lv_at hl 0 rfl) ?_
  refine lv_iload_n hx hb dX7_isFact_1 rfl (lv_at hl 1 rfl) ?_
  refine lv_iconst (v := 0) hx hb dX7_isFact_2 (by decide) ?_
  refine lv_aload_n hx hb dX7_isFact_3 rfl (lv_at hl 0 rfl) ?_
  refine gf_X7_75 hx hb hts hown hK hP 0 rfl (v := .int (I 3)) rfl dX7_isFact_4 ?_
  refine top_eq hk ?_
  refine lv_iconst (v := 1) hx hb dX7_isFact_7 (by decide) ?_
  refine lv_isub hx hb dX7_isFact_8 ?_
  refine rZ_call (P := inB x 0 ((nI k) - 1) = true) (va_runS (As := [.int x, .int 0, .int ((nI k) - 1)]) (rest := [.ref (ad 0)]) ⟨hx, hb, hml, hown, hts⟩ (c_X7_in l D cy x 0 ((nI k) - 1)) (cw_X7_67 hts rfl rfl ⟨Nat.le_of_ble_eq_true rfl, Nat.le_of_ble_eq_true rfl⟩) (preSR hK (hP.sub [] rfl)) rfl rfl hl.1 rfl (lv_room (Nat.le_of_ble_eq_true rfl)) dX7_isFact_9 ⟨Nat.le_of_ble_eq_true rfl, Nat.le_of_ble_eq_true rfl⟩) (fun b9_1 => ?_) (fun b9_1 => ?_)
  · obtain ⟨j, hj, hxj⟩ := in_vp b9_1 hk8 (by decide)
    refine lv_if_eq (tgt := 24) hx hb dX7_isFact_12 (by decide) (fun c => absurd c (by decide)) (fun _ => ?_)
    refine lv_aload_n hx hb dX7_isFact_15 rfl (lv_at hl 0 rfl) ?_
    refine gf_X7_35 hx hb hts hown hK hP 0 rfl (v := .ref (ad 9)) rfl dX7_isFact_16 ?_
    refine lv_iload_n hx hb dX7_isFact_19 rfl (lv_at hl 1 rfl) ?_
    refine ald_Zx (f := (S 9)) hx hb hK hP 9 rfl (by rw [hxj]; exact vp_in_nI (by omega) (by decide)) dX7_isFact_20 ?_
    refine lv_if_eq (tgt := 28) hx hb dX7_isFact_21 (by decide) (fun c21_2 => ?_) (fun c21_2 => ?_)
    · refine lv_iconst (v := 0) hx hb dX7_isFact_28 (by decide) ?_
      refine wI_call (va_runV (As := [.int 0]) (rest := []) ⟨hx, hb, hml, hown, hts⟩ (c_X7_goesOn l D cy ad I S H.size 0) (cw_X7_71 hts rfl rfl ⟨Nat.le_of_ble_eq_true rfl, Nat.le_of_ble_eq_true rfl⟩) (preVW (ci := 7) (q0 := 0) hK hP hD rfl rfl) rfl rfl hl.1 rfl (lv_room (Nat.le_of_ble_eq_true rfl)) dX7_isFact_29 ⟨Nat.le_of_ble_eq_true rfl, Nat.le_of_ble_eq_true rfl⟩) hP hD hS hA [0, 1, 2, 3, 4, 5, 6, 7, 8, 9, 10, 11, 12, 13, 14, 15, 16] rfl [.inr 0, .inr 1, .inr 2, .inr 3, .inr 4, .inr 5, .inr 6, .inr 7, .inr 8, .inr 9, .inr 10, .inr 11, .inr 12, .inr 13, .inr 14, .inr 15, .inr 16] (by decide) (fun u => (wM cy ad (va_up I 0 0) S)) (fun _ => rfl) (fun _ => rfl) (fun r29_3 u29_3 H locs q29_3 hP hD hS hkp => ?_)
      have hP : va_P D clW (wM cy ad (va_up I 0 0) S) H := hP
      have hD : va_D A (wM cy ad (va_up I 0 0) S) := hD
      rw [if_pos rfl] at q29_3
      subst q29_3
      have e_4 : (0 : Int32) = (if mfB S (nI k) x = true then 0 else 1) := (by simp [mfB, b9_1, c21_2])
      have hP : va_P D clW (wM cy ad (va_up I 0 (if mfB S (nI k) x = true then 0 else 1)) S) H := by rw [← e_4]; exact hP
      have hD : va_D A (wM cy ad (va_up I 0 (if mfB S (nI k) x = true then 0 else 1)) S) := hD.addr rfl
      exact wZ_ret () hS hP hx hb hr hlocks dX7_isFact_32 narZ1 (Nat.le_of_ble_eq_true rfl) (Nat.le_of_ble_eq_true rfl) hQ (by simp [mfB, b9_1, c21_2])
    · refine lv_iconst (v := 1) hx hb dX7_isFact_24 (by decide) ?_
      refine lv_goto (tgt := 29) hx hb dX7_isFact_25 (by decide) ?_
      refine wI_call (va_runV (As := [.int 1]) (rest := []) ⟨hx, hb, hml, hown, hts⟩ (c_X7_goesOn l D cy ad I S H.size 1) (cw_X7_71 hts rfl rfl ⟨Nat.le_of_ble_eq_true rfl, Nat.le_of_ble_eq_true rfl⟩) (preVW (ci := 7) (q0 := 0) hK hP hD rfl rfl) rfl rfl hl.1 rfl (lv_room (Nat.le_of_ble_eq_true rfl)) dX7_isFact_29 ⟨Nat.le_of_ble_eq_true rfl, Nat.le_of_ble_eq_true rfl⟩) hP hD hS hA [0, 1, 2, 3, 4, 5, 6, 7, 8, 9, 10, 11, 12, 13, 14, 15, 16] rfl [.inr 0, .inr 1, .inr 2, .inr 3, .inr 4, .inr 5, .inr 6, .inr 7, .inr 8, .inr 9, .inr 10, .inr 11, .inr 12, .inr 13, .inr 14, .inr 15, .inr 16] (by decide) (fun u => (wM cy ad (va_up I 0 1) S)) (fun _ => rfl) (fun _ => rfl) (fun r29_5 u29_5 H locs q29_5 hP hD hS hkp => ?_)
      have hP : va_P D clW (wM cy ad (va_up I 0 1) S) H := hP
      have hD : va_D A (wM cy ad (va_up I 0 1) S) := hD
      rw [if_neg (by decide)] at q29_5
      subst q29_5
      have e_6 : (1 : Int32) = (if mfB S (nI k) x = true then 0 else 1) := (by simp [mfB, b9_1, c21_2])
      have hP : va_P D clW (wM cy ad (va_up I 0 (if mfB S (nI k) x = true then 0 else 1)) S) H := by rw [← e_6]; exact hP
      have hD : va_D A (wM cy ad (va_up I 0 (if mfB S (nI k) x = true then 0 else 1)) S) := hD.addr rfl
      exact wZ_ret () hS hP hx hb hr hlocks dX7_isFact_32 narZ0 (Nat.le_of_ble_eq_true rfl) (Nat.le_of_ble_eq_true rfl) hQ (by simp [mfB, b9_1, c21_2])
  · refine lv_if_eq (tgt := 24) hx hb dX7_isFact_12 (by decide) (fun _ => ?_) (fun c => absurd (by decide) c)
    refine lv_iconst (v := 1) hx hb dX7_isFact_24 (by decide) ?_
    refine lv_goto (tgt := 29) hx hb dX7_isFact_25 (by decide) ?_
    refine wI_call (va_runV (As := [.int 1]) (rest := []) ⟨hx, hb, hml, hown, hts⟩ (c_X7_goesOn l D cy ad I S H.size 1) (cw_X7_71 hts rfl rfl ⟨Nat.le_of_ble_eq_true rfl, Nat.le_of_ble_eq_true rfl⟩) (preVW (ci := 7) (q0 := 0) hK hP hD rfl rfl) rfl rfl hl.1 rfl (lv_room (Nat.le_of_ble_eq_true rfl)) dX7_isFact_29 ⟨Nat.le_of_ble_eq_true rfl, Nat.le_of_ble_eq_true rfl⟩) hP hD hS hA [0, 1, 2, 3, 4, 5, 6, 7, 8, 9, 10, 11, 12, 13, 14, 15, 16] rfl [.inr 0, .inr 1, .inr 2, .inr 3, .inr 4, .inr 5, .inr 6, .inr 7, .inr 8, .inr 9, .inr 10, .inr 11, .inr 12, .inr 13, .inr 14, .inr 15, .inr 16] (by decide) (fun u => (wM cy ad (va_up I 0 1) S)) (fun _ => rfl) (fun _ => rfl) (fun r29_7 u29_7 H locs q29_7 hP hD hS hkp => ?_)
    have hP : va_P D clW (wM cy ad (va_up I 0 1) S) H := hP
    have hD : va_D A (wM cy ad (va_up I 0 1) S) := hD
    rw [if_neg (by decide)] at q29_7
    subst q29_7
    have e_8 : (1 : Int32) = (if mfB S (nI k) x = true then 0 else 1) := (by simp [mfB, b9_1])
    have hP : va_P D clW (wM cy ad (va_up I 0 (if mfB S (nI k) x = true then 0 else 1)) S) H := by rw [← e_8]; exact hP
    have hD : va_D A (wM cy ad (va_up I 0 (if mfB S (nI k) x = true then 0 else 1)) S) := hD.addr rfl
    exact wZ_ret () hS hP hx hb hr hlocks dX7_isFact_32 narZ0 (Nat.le_of_ble_eq_true rfl) (Nat.le_of_ble_eq_true rfl) hQ (by simp [mfB, b9_1])

set_option maxHeartbeats 4000000 in
set_option maxRecDepth 100000 in
theorem c_X7_factValue (l : Launch) (D : va_G) (cy : Nat → ClassId) (ad : Nat → Nat) (I : AI) (S : AS) (sz : Nat) (x : Int32) (k : Nat) (hk : I 3 = nI k) (hk8 : k ≤ 256) : Met l yX7_factValue (Cond.code yX7_factValue cX7_factValue 2 (some .int) :: wsL_law) ({ frames := 2, cells := 0, slots := 0, locals := 43 }) (va_Pc [.ref (ad 0), .int x] (wrB D cy (wM cy ad I S) sz)) (va_Qi (S := Unit) (fun r u => r = (if mfB S (nI k) x = true then S 4 x.toNatClampNeg else 0)) (fun u t9 => va_P D clW (wM cy ad (va_up I 0 (if mfB S (nI k) x = true then 0 else 1)) S) t9.heap) (va_A (wM cy ad I S) sz)) 0 0 (va_A (wM cy ad I S) sz) := by
  refine enter (cc := cX7_factValue) (by decide) (Nat.le_of_ble_eq_true rfl) ?_
  intro p e s m below meth c hx hb hr hml hown hts hlocks hin hv Q hQ ls hl
  obtain ⟨hsz, hP, hK, hD0⟩ := hv
  subst hsz
  have hD := hD0.self (sz := s.heap.size)
  generalize hAe : va_A (wM cy ad I S) s.heap.size = A at hD hQ ⊢
  have hA : ∀ q : Nat, s.heap.size ≤ q → A q := fun q h => by rw [← hAe]; exact Or.inr h
  have hS : va_S A s.heap s.heap [] := va_S.rf
  suffices K_ : ∀ (H : Heap) (locs : List Loc), va_P D clW (wM cy ad I S) H → va_S A s.heap H locs → W p l e ({ frames := 2, cells := 0, slots := 0, locals := 43 }) s m ([.ref (ad 0), .int x] : List Value).toArray below meth c H locs 0 0 Q (F0 m 0 ls []) from K_ _ _ hP hS
  clear hP hS
  intro H locs hP hS
  have hown : s.vm.findClass RX7 = some m.cls := hown
  have hl : lv_has ls 2 [(0, .ref (ad 0)), (1, .int x)] := hl
  refine lv_aload_n hx hb dX7_factValue_0 rfl (lv_at hl 0 rfl) ?_
  refine lv_iload_n hx hb dX7_factValue_1 rfl (lv_at hl 1 rfl) ?_
  refine wI_call (va_runV (As := [.int x]) (rest := []) ⟨hx, hb, hml, hown, hts⟩ (c_X7_isFact l D cy ad I S H.size x k hk hk8) (cw_X7_118 hts rfl rfl ⟨Nat.le_of_ble_eq_true rfl, Nat.le_of_ble_eq_true rfl⟩) (preVW (ci := 7) (q0 := 0) hK hP hD rfl rfl) rfl rfl hl.1 rfl (lv_room (Nat.le_of_ble_eq_true rfl)) dX7_factValue_2 ⟨Nat.le_of_ble_eq_true rfl, Nat.le_of_ble_eq_true rfl⟩) hP hD hS hA [0, 1, 2, 3, 4, 5, 6, 7, 8, 9, 10, 11, 12, 13, 14, 15, 16] rfl [.inr 0, .inr 1, .inr 2, .inr 3, .inr 4, .inr 5, .inr 6, .inr 7, .inr 8, .inr 9, .inr 10, .inr 11, .inr 12, .inr 13, .inr 14, .inr 15, .inr 16] (by decide) (fun u => (wM cy ad (va_up I 0 (if mfB S (nI k) x = true then 0 else 1)) S)) (fun _ => rfl) (fun _ => rfl) (fun r2_1 u2_1 H locs q2_1 hP hD hS hkp => ?_)
  have hP : va_P D clW (wM cy ad (va_up I 0 (if mfB S (nI k) x = true then 0 else 1)) S) H := hP
  have hD : va_D A (wM cy ad (va_up I 0 (if mfB S (nI k) x = true then 0 else 1)) S) := hD
  by_cases b2_1 : mfB S (nI k) x = true
  · rw [if_pos b2_1] at q2_1
    subst q2_1
    obtain ⟨j, hj, hxj⟩ := in_vp (Bool.and_eq_true_iff.mp b2_1).1 hk8 (by decide)
    refine lv_if_eq (tgt := 17) hx hb dX7_factValue_5 (by decide) (fun c => absurd c (by decide)) (fun _ => ?_)
    refine lv_aload_n hx hb dX7_factValue_8 rfl (lv_at hl 0 rfl) ?_
    refine gf_X7_20 hx hb hts hown hK hP 0 rfl (v := .ref (ad 4)) rfl dX7_factValue_9 ?_
    refine lv_iload_n hx hb dX7_factValue_12 rfl (lv_at hl 1 rfl) ?_
    refine ald_Ix (f := (S 4)) hx hb hK hP 4 rfl (by rw [hxj]; exact vp_in_nI (by omega) (by decide)) dX7_factValue_13 ?_
    refine lv_goto (tgt := 18) hx hb dX7_factValue_14 (by decide) ?_
    have hP : va_P D clW (wM cy ad (va_up I 0 (if mfB S (nI k) x = true then 0 else 1)) S) H := hP
    have hD : va_D A (wM cy ad (va_up I 0 (if mfB S (nI k) x = true then 0 else 1)) S) := hD.addr rfl
    exact wI_ret () hS hP hx hb hr hlocks dX7_factValue_18 (Nat.le_of_ble_eq_true rfl) (Nat.le_of_ble_eq_true rfl) hQ (if_pos b2_1).symm
  · rw [if_neg b2_1] at q2_1
    subst q2_1
    refine lv_if_eq (tgt := 17) hx hb dX7_factValue_5 (by decide) (fun _ => ?_) (fun c => absurd (by decide) c)
    refine lv_iconst (v := 0) hx hb dX7_factValue_17 (by decide) ?_
    have hP : va_P D clW (wM cy ad (va_up I 0 (if mfB S (nI k) x = true then 0 else 1)) S) H := hP
    have hD : va_D A (wM cy ad (va_up I 0 (if mfB S (nI k) x = true then 0 else 1)) S) := hD.addr rfl
    exact wI_ret () hS hP hx hb hr hlocks dX7_factValue_18 (Nat.le_of_ble_eq_true rfl) (Nat.le_of_ble_eq_true rfl) hQ (if_neg b2_1).symm

set_option maxHeartbeats 4000000 in
set_option maxRecDepth 100000 in
theorem c_X7_factFrom (l : Launch) (D : va_G) (cy : Nat → ClassId) (ad : Nat → Nat) (I : AI) (S : AS) (sz : Nat) (x : Int32) (k : Nat) (hk : I 3 = nI k) (hk8 : k ≤ 256) : Met l yX7_factFrom (Cond.code yX7_factFrom cX7_factFrom 2 (some .int) :: wsL_law) ({ frames := 2, cells := 0, slots := 0, locals := 43 }) (va_Pc [.ref (ad 0), .int x] (wrB D cy (wM cy ad I S) sz)) (va_Qi (S := Unit) (fun r u => r = (if mfB S (nI k) x = true then S 5 x.toNatClampNeg else 0)) (fun u t9 => va_P D clW (wM cy ad (va_up I 0 (if mfB S (nI k) x = true then 0 else 1)) S) t9.heap) (va_A (wM cy ad I S) sz)) 0 0 (va_A (wM cy ad I S) sz) := by
  refine enter (cc := cX7_factFrom) (by decide) (Nat.le_of_ble_eq_true rfl) ?_
  intro p e s m below meth c hx hb hr hml hown hts hlocks hin hv Q hQ ls hl
  obtain ⟨hsz, hP, hK, hD0⟩ := hv
  subst hsz
  have hD := hD0.self (sz := s.heap.size)
  generalize hAe : va_A (wM cy ad I S) s.heap.size = A at hD hQ ⊢
  have hA : ∀ q : Nat, s.heap.size ≤ q → A q := fun q h => by rw [← hAe]; exact Or.inr h
  have hS : va_S A s.heap s.heap [] := va_S.rf
  suffices K_ : ∀ (H : Heap) (locs : List Loc), va_P D clW (wM cy ad I S) H → va_S A s.heap H locs → W p l e ({ frames := 2, cells := 0, slots := 0, locals := 43 }) s m ([.ref (ad 0), .int x] : List Value).toArray below meth c H locs 0 0 Q (F0 m 0 ls []) from K_ _ _ hP hS
  clear hP hS
  intro H locs hP hS
  have hown : s.vm.findClass RX7 = some m.cls := hown
  have hl : lv_has ls 2 [(0, .ref (ad 0)), (1, .int x)] := hl
  refine lv_aload_n hx hb dX7_factFrom_0 rfl (lv_at hl 0 rfl) ?_
  refine lv_iload_n hx hb dX7_factFrom_1 rfl (lv_at hl 1 rfl) ?_
  refine wI_call (va_runV (As := [.int x]) (rest := []) ⟨hx, hb, hml, hown, hts⟩ (c_X7_isFact l D cy ad I S H.size x k hk hk8) (cw_X7_118 hts rfl rfl ⟨Nat.le_of_ble_eq_true rfl, Nat.le_of_ble_eq_true rfl⟩) (preVW (ci := 7) (q0 := 0) hK hP hD rfl rfl) rfl rfl hl.1 rfl (lv_room (Nat.le_of_ble_eq_true rfl)) dX7_factFrom_2 ⟨Nat.le_of_ble_eq_true rfl, Nat.le_of_ble_eq_true rfl⟩) hP hD hS hA [0, 1, 2, 3, 4, 5, 6, 7, 8, 9, 10, 11, 12, 13, 14, 15, 16] rfl [.inr 0, .inr 1, .inr 2, .inr 3, .inr 4, .inr 5, .inr 6, .inr 7, .inr 8, .inr 9, .inr 10, .inr 11, .inr 12, .inr 13, .inr 14, .inr 15, .inr 16] (by decide) (fun u => (wM cy ad (va_up I 0 (if mfB S (nI k) x = true then 0 else 1)) S)) (fun _ => rfl) (fun _ => rfl) (fun r2_1 u2_1 H locs q2_1 hP hD hS hkp => ?_)
  have hP : va_P D clW (wM cy ad (va_up I 0 (if mfB S (nI k) x = true then 0 else 1)) S) H := hP
  have hD : va_D A (wM cy ad (va_up I 0 (if mfB S (nI k) x = true then 0 else 1)) S) := hD
  by_cases b2_1 : mfB S (nI k) x = true
  · rw [if_pos b2_1] at q2_1
    subst q2_1
    obtain ⟨j, hj, hxj⟩ := in_vp (Bool.and_eq_true_iff.mp b2_1).1 hk8 (by decide)
    refine lv_if_eq (tgt := 17) hx hb dX7_factFrom_5 (by decide) (fun c => absurd c (by decide)) (fun _ => ?_)
    refine lv_aload_n hx hb dX7_factFrom_8 rfl (lv_at hl 0 rfl) ?_
    refine gf_X7_23 hx hb hts hown hK hP 0 rfl (v := .ref (ad 5)) rfl dX7_factFrom_9 ?_
    refine lv_iload_n hx hb dX7_factFrom_12 rfl (lv_at hl 1 rfl) ?_
    refine ald_Ix (f := (S 5)) hx hb hK hP 5 rfl (by rw [hxj]; exact vp_in_nI (by omega) (by decide)) dX7_factFrom_13 ?_
    refine lv_goto (tgt := 18) hx hb dX7_factFrom_14 (by decide) ?_
    have hP : va_P D clW (wM cy ad (va_up I 0 (if mfB S (nI k) x = true then 0 else 1)) S) H := hP
    have hD : va_D A (wM cy ad (va_up I 0 (if mfB S (nI k) x = true then 0 else 1)) S) := hD.addr rfl
    exact wI_ret () hS hP hx hb hr hlocks dX7_factFrom_18 (Nat.le_of_ble_eq_true rfl) (Nat.le_of_ble_eq_true rfl) hQ (if_pos b2_1).symm
  · rw [if_neg b2_1] at q2_1
    subst q2_1
    refine lv_if_eq (tgt := 17) hx hb dX7_factFrom_5 (by decide) (fun _ => ?_) (fun c => absurd (by decide) c)
    refine lv_iconst (v := 0) hx hb dX7_factFrom_17 (by decide) ?_
    have hP : va_P D clW (wM cy ad (va_up I 0 (if mfB S (nI k) x = true then 0 else 1)) S) H := hP
    have hD : va_D A (wM cy ad (va_up I 0 (if mfB S (nI k) x = true then 0 else 1)) S) := hD.addr rfl
    exact wI_ret () hS hP hx hb hr hlocks dX7_factFrom_18 (Nat.le_of_ble_eq_true rfl) (Nat.le_of_ble_eq_true rfl) hQ (if_neg b2_1).symm

set_option maxHeartbeats 4000000 in
set_option maxRecDepth 100000 in
theorem c_X7_factTo (l : Launch) (D : va_G) (cy : Nat → ClassId) (ad : Nat → Nat) (I : AI) (S : AS) (sz : Nat) (x : Int32) (k : Nat) (hk : I 3 = nI k) (hk8 : k ≤ 256) : Met l yX7_factTo (Cond.code yX7_factTo cX7_factTo 2 (some .int) :: wsL_law) ({ frames := 2, cells := 0, slots := 0, locals := 43 }) (va_Pc [.ref (ad 0), .int x] (wrB D cy (wM cy ad I S) sz)) (va_Qi (S := Unit) (fun r u => r = (if mfB S (nI k) x = true then S 6 x.toNatClampNeg else 0)) (fun u t9 => va_P D clW (wM cy ad (va_up I 0 (if mfB S (nI k) x = true then 0 else 1)) S) t9.heap) (va_A (wM cy ad I S) sz)) 0 0 (va_A (wM cy ad I S) sz) := by
  refine enter (cc := cX7_factTo) (by decide) (Nat.le_of_ble_eq_true rfl) ?_
  intro p e s m below meth c hx hb hr hml hown hts hlocks hin hv Q hQ ls hl
  obtain ⟨hsz, hP, hK, hD0⟩ := hv
  subst hsz
  have hD := hD0.self (sz := s.heap.size)
  generalize hAe : va_A (wM cy ad I S) s.heap.size = A at hD hQ ⊢
  have hA : ∀ q : Nat, s.heap.size ≤ q → A q := fun q h => by rw [← hAe]; exact Or.inr h
  have hS : va_S A s.heap s.heap [] := va_S.rf
  suffices K_ : ∀ (H : Heap) (locs : List Loc), va_P D clW (wM cy ad I S) H → va_S A s.heap H locs → W p l e ({ frames := 2, cells := 0, slots := 0, locals := 43 }) s m ([.ref (ad 0), .int x] : List Value).toArray below meth c H locs 0 0 Q (F0 m 0 ls []) from K_ _ _ hP hS
  clear hP hS
  intro H locs hP hS
  have hown : s.vm.findClass RX7 = some m.cls := hown
  have hl : lv_has ls 2 [(0, .ref (ad 0)), (1, .int x)] := hl
  refine lv_aload_n hx hb dX7_factTo_0 rfl (lv_at hl 0 rfl) ?_
  refine lv_iload_n hx hb dX7_factTo_1 rfl (lv_at hl 1 rfl) ?_
  refine wI_call (va_runV (As := [.int x]) (rest := []) ⟨hx, hb, hml, hown, hts⟩ (c_X7_isFact l D cy ad I S H.size x k hk hk8) (cw_X7_118 hts rfl rfl ⟨Nat.le_of_ble_eq_true rfl, Nat.le_of_ble_eq_true rfl⟩) (preVW (ci := 7) (q0 := 0) hK hP hD rfl rfl) rfl rfl hl.1 rfl (lv_room (Nat.le_of_ble_eq_true rfl)) dX7_factTo_2 ⟨Nat.le_of_ble_eq_true rfl, Nat.le_of_ble_eq_true rfl⟩) hP hD hS hA [0, 1, 2, 3, 4, 5, 6, 7, 8, 9, 10, 11, 12, 13, 14, 15, 16] rfl [.inr 0, .inr 1, .inr 2, .inr 3, .inr 4, .inr 5, .inr 6, .inr 7, .inr 8, .inr 9, .inr 10, .inr 11, .inr 12, .inr 13, .inr 14, .inr 15, .inr 16] (by decide) (fun u => (wM cy ad (va_up I 0 (if mfB S (nI k) x = true then 0 else 1)) S)) (fun _ => rfl) (fun _ => rfl) (fun r2_1 u2_1 H locs q2_1 hP hD hS hkp => ?_)
  have hP : va_P D clW (wM cy ad (va_up I 0 (if mfB S (nI k) x = true then 0 else 1)) S) H := hP
  have hD : va_D A (wM cy ad (va_up I 0 (if mfB S (nI k) x = true then 0 else 1)) S) := hD
  by_cases b2_1 : mfB S (nI k) x = true
  · rw [if_pos b2_1] at q2_1
    subst q2_1
    obtain ⟨j, hj, hxj⟩ := in_vp (Bool.and_eq_true_iff.mp b2_1).1 hk8 (by decide)
    refine lv_if_eq (tgt := 17) hx hb dX7_factTo_5 (by decide) (fun c => absurd c (by decide)) (fun _ => ?_)
    refine lv_aload_n hx hb dX7_factTo_8 rfl (lv_at hl 0 rfl) ?_
    refine gf_X7_26 hx hb hts hown hK hP 0 rfl (v := .ref (ad 6)) rfl dX7_factTo_9 ?_
    refine lv_iload_n hx hb dX7_factTo_12 rfl (lv_at hl 1 rfl) ?_
    refine ald_Ix (f := (S 6)) hx hb hK hP 6 rfl (by rw [hxj]; exact vp_in_nI (by omega) (by decide)) dX7_factTo_13 ?_
    refine lv_goto (tgt := 18) hx hb dX7_factTo_14 (by decide) ?_
    have hP : va_P D clW (wM cy ad (va_up I 0 (if mfB S (nI k) x = true then 0 else 1)) S) H := hP
    have hD : va_D A (wM cy ad (va_up I 0 (if mfB S (nI k) x = true then 0 else 1)) S) := hD.addr rfl
    exact wI_ret () hS hP hx hb hr hlocks dX7_factTo_18 (Nat.le_of_ble_eq_true rfl) (Nat.le_of_ble_eq_true rfl) hQ (if_pos b2_1).symm
  · rw [if_neg b2_1] at q2_1
    subst q2_1
    refine lv_if_eq (tgt := 17) hx hb dX7_factTo_5 (by decide) (fun _ => ?_) (fun c => absurd (by decide) c)
    refine lv_iconst (v := 0) hx hb dX7_factTo_17 (by decide) ?_
    have hP : va_P D clW (wM cy ad (va_up I 0 (if mfB S (nI k) x = true then 0 else 1)) S) H := hP
    have hD : va_D A (wM cy ad (va_up I 0 (if mfB S (nI k) x = true then 0 else 1)) S) := hD.addr rfl
    exact wI_ret () hS hP hx hb hr hlocks dX7_factTo_18 (Nat.le_of_ble_eq_true rfl) (Nat.le_of_ble_eq_true rfl) hQ (if_neg b2_1).symm

set_option maxHeartbeats 4000000 in
set_option maxRecDepth 100000 in
theorem c_X7_openedAt (l : Launch) (D : va_G) (cy : Nat → ClassId) (ad : Nat → Nat) (I : AI) (S : AS) (sz : Nat) (x : Int32) (k : Nat) (hk : I 3 = nI k) (hk8 : k ≤ 256) : Met l yX7_openedAt (Cond.code yX7_openedAt cX7_openedAt 2 (some .int) :: wsL_law) ({ frames := 2, cells := 0, slots := 0, locals := 43 }) (va_Pc [.ref (ad 0), .int x] (wrB D cy (wM cy ad I S) sz)) (va_Qi (S := Unit) (fun r u => r = (if mfB S (nI k) x = true then S 7 x.toNatClampNeg else 0)) (fun u t9 => va_P D clW (wM cy ad (va_up I 0 (if mfB S (nI k) x = true then 0 else 1)) S) t9.heap) (va_A (wM cy ad I S) sz)) 0 0 (va_A (wM cy ad I S) sz) := by
  refine enter (cc := cX7_openedAt) (by decide) (Nat.le_of_ble_eq_true rfl) ?_
  intro p e s m below meth c hx hb hr hml hown hts hlocks hin hv Q hQ ls hl
  obtain ⟨hsz, hP, hK, hD0⟩ := hv
  subst hsz
  have hD := hD0.self (sz := s.heap.size)
  generalize hAe : va_A (wM cy ad I S) s.heap.size = A at hD hQ ⊢
  have hA : ∀ q : Nat, s.heap.size ≤ q → A q := fun q h => by rw [← hAe]; exact Or.inr h
  have hS : va_S A s.heap s.heap [] := va_S.rf
  suffices K_ : ∀ (H : Heap) (locs : List Loc), va_P D clW (wM cy ad I S) H → va_S A s.heap H locs → W p l e ({ frames := 2, cells := 0, slots := 0, locals := 43 }) s m ([.ref (ad 0), .int x] : List Value).toArray below meth c H locs 0 0 Q (F0 m 0 ls []) from K_ _ _ hP hS
  clear hP hS
  intro H locs hP hS
  have hown : s.vm.findClass RX7 = some m.cls := hown
  have hl : lv_has ls 2 [(0, .ref (ad 0)), (1, .int x)] := hl
  refine lv_aload_n hx hb dX7_openedAt_0 rfl (lv_at hl 0 rfl) ?_
  refine lv_iload_n hx hb dX7_openedAt_1 rfl (lv_at hl 1 rfl) ?_
  refine wI_call (va_runV (As := [.int x]) (rest := []) ⟨hx, hb, hml, hown, hts⟩ (c_X7_isFact l D cy ad I S H.size x k hk hk8) (cw_X7_118 hts rfl rfl ⟨Nat.le_of_ble_eq_true rfl, Nat.le_of_ble_eq_true rfl⟩) (preVW (ci := 7) (q0 := 0) hK hP hD rfl rfl) rfl rfl hl.1 rfl (lv_room (Nat.le_of_ble_eq_true rfl)) dX7_openedAt_2 ⟨Nat.le_of_ble_eq_true rfl, Nat.le_of_ble_eq_true rfl⟩) hP hD hS hA [0, 1, 2, 3, 4, 5, 6, 7, 8, 9, 10, 11, 12, 13, 14, 15, 16] rfl [.inr 0, .inr 1, .inr 2, .inr 3, .inr 4, .inr 5, .inr 6, .inr 7, .inr 8, .inr 9, .inr 10, .inr 11, .inr 12, .inr 13, .inr 14, .inr 15, .inr 16] (by decide) (fun u => (wM cy ad (va_up I 0 (if mfB S (nI k) x = true then 0 else 1)) S)) (fun _ => rfl) (fun _ => rfl) (fun r2_1 u2_1 H locs q2_1 hP hD hS hkp => ?_)
  have hP : va_P D clW (wM cy ad (va_up I 0 (if mfB S (nI k) x = true then 0 else 1)) S) H := hP
  have hD : va_D A (wM cy ad (va_up I 0 (if mfB S (nI k) x = true then 0 else 1)) S) := hD
  by_cases b2_1 : mfB S (nI k) x = true
  · rw [if_pos b2_1] at q2_1
    subst q2_1
    obtain ⟨j, hj, hxj⟩ := in_vp (Bool.and_eq_true_iff.mp b2_1).1 hk8 (by decide)
    refine lv_if_eq (tgt := 17) hx hb dX7_openedAt_5 (by decide) (fun c => absurd c (by decide)) (fun _ => ?_)
    refine lv_aload_n hx hb dX7_openedAt_8 rfl (lv_at hl 0 rfl) ?_
    refine gf_X7_29 hx hb hts hown hK hP 0 rfl (v := .ref (ad 7)) rfl dX7_openedAt_9 ?_
    refine lv_iload_n hx hb dX7_openedAt_12 rfl (lv_at hl 1 rfl) ?_
    refine ald_Ix (f := (S 7)) hx hb hK hP 7 rfl (by rw [hxj]; exact vp_in_nI (by omega) (by decide)) dX7_openedAt_13 ?_
    refine lv_goto (tgt := 18) hx hb dX7_openedAt_14 (by decide) ?_
    have hP : va_P D clW (wM cy ad (va_up I 0 (if mfB S (nI k) x = true then 0 else 1)) S) H := hP
    have hD : va_D A (wM cy ad (va_up I 0 (if mfB S (nI k) x = true then 0 else 1)) S) := hD.addr rfl
    exact wI_ret () hS hP hx hb hr hlocks dX7_openedAt_18 (Nat.le_of_ble_eq_true rfl) (Nat.le_of_ble_eq_true rfl) hQ (if_pos b2_1).symm
  · rw [if_neg b2_1] at q2_1
    subst q2_1
    refine lv_if_eq (tgt := 17) hx hb dX7_openedAt_5 (by decide) (fun _ => ?_) (fun c => absurd (by decide) c)
    refine lv_iconst (v := 0) hx hb dX7_openedAt_17 (by decide) ?_
    have hP : va_P D clW (wM cy ad (va_up I 0 (if mfB S (nI k) x = true then 0 else 1)) S) H := hP
    have hD : va_D A (wM cy ad (va_up I 0 (if mfB S (nI k) x = true then 0 else 1)) S) := hD.addr rfl
    exact wI_ret () hS hP hx hb hr hlocks dX7_openedAt_18 (Nat.le_of_ble_eq_true rfl) (Nat.le_of_ble_eq_true rfl) hQ (if_neg b2_1).symm

set_option maxHeartbeats 4000000 in
set_option maxRecDepth 100000 in
theorem c_X7_closedAt (l : Launch) (D : va_G) (cy : Nat → ClassId) (ad : Nat → Nat) (I : AI) (S : AS) (sz : Nat) (x : Int32) (k : Nat) (hk : I 3 = nI k) (hk8 : k ≤ 256) : Met l yX7_closedAt (Cond.code yX7_closedAt cX7_closedAt 2 (some .int) :: wsL_law) ({ frames := 2, cells := 0, slots := 0, locals := 43 }) (va_Pc [.ref (ad 0), .int x] (wrB D cy (wM cy ad I S) sz)) (va_Qi (S := Unit) (fun r u => r = (if mfB S (nI k) x = true then S 8 x.toNatClampNeg else 0)) (fun u t9 => va_P D clW (wM cy ad (va_up I 0 (if mfB S (nI k) x = true then 0 else 1)) S) t9.heap) (va_A (wM cy ad I S) sz)) 0 0 (va_A (wM cy ad I S) sz) := by
  refine enter (cc := cX7_closedAt) (by decide) (Nat.le_of_ble_eq_true rfl) ?_
  intro p e s m below meth c hx hb hr hml hown hts hlocks hin hv Q hQ ls hl
  obtain ⟨hsz, hP, hK, hD0⟩ := hv
  subst hsz
  have hD := hD0.self (sz := s.heap.size)
  generalize hAe : va_A (wM cy ad I S) s.heap.size = A at hD hQ ⊢
  have hA : ∀ q : Nat, s.heap.size ≤ q → A q := fun q h => by rw [← hAe]; exact Or.inr h
  have hS : va_S A s.heap s.heap [] := va_S.rf
  suffices K_ : ∀ (H : Heap) (locs : List Loc), va_P D clW (wM cy ad I S) H → va_S A s.heap H locs → W p l e ({ frames := 2, cells := 0, slots := 0, locals := 43 }) s m ([.ref (ad 0), .int x] : List Value).toArray below meth c H locs 0 0 Q (F0 m 0 ls []) from K_ _ _ hP hS
  clear hP hS
  intro H locs hP hS
  have hown : s.vm.findClass RX7 = some m.cls := hown
  have hl : lv_has ls 2 [(0, .ref (ad 0)), (1, .int x)] := hl
  refine lv_aload_n hx hb dX7_closedAt_0 rfl (lv_at hl 0 rfl) ?_
  refine lv_iload_n hx hb dX7_closedAt_1 rfl (lv_at hl 1 rfl) ?_
  refine wI_call (va_runV (As := [.int x]) (rest := []) ⟨hx, hb, hml, hown, hts⟩ (c_X7_isFact l D cy ad I S H.size x k hk hk8) (cw_X7_118 hts rfl rfl ⟨Nat.le_of_ble_eq_true rfl, Nat.le_of_ble_eq_true rfl⟩) (preVW (ci := 7) (q0 := 0) hK hP hD rfl rfl) rfl rfl hl.1 rfl (lv_room (Nat.le_of_ble_eq_true rfl)) dX7_closedAt_2 ⟨Nat.le_of_ble_eq_true rfl, Nat.le_of_ble_eq_true rfl⟩) hP hD hS hA [0, 1, 2, 3, 4, 5, 6, 7, 8, 9, 10, 11, 12, 13, 14, 15, 16] rfl [.inr 0, .inr 1, .inr 2, .inr 3, .inr 4, .inr 5, .inr 6, .inr 7, .inr 8, .inr 9, .inr 10, .inr 11, .inr 12, .inr 13, .inr 14, .inr 15, .inr 16] (by decide) (fun u => (wM cy ad (va_up I 0 (if mfB S (nI k) x = true then 0 else 1)) S)) (fun _ => rfl) (fun _ => rfl) (fun r2_1 u2_1 H locs q2_1 hP hD hS hkp => ?_)
  have hP : va_P D clW (wM cy ad (va_up I 0 (if mfB S (nI k) x = true then 0 else 1)) S) H := hP
  have hD : va_D A (wM cy ad (va_up I 0 (if mfB S (nI k) x = true then 0 else 1)) S) := hD
  by_cases b2_1 : mfB S (nI k) x = true
  · rw [if_pos b2_1] at q2_1
    subst q2_1
    obtain ⟨j, hj, hxj⟩ := in_vp (Bool.and_eq_true_iff.mp b2_1).1 hk8 (by decide)
    refine lv_if_eq (tgt := 17) hx hb dX7_closedAt_5 (by decide) (fun c => absurd c (by decide)) (fun _ => ?_)
    refine lv_aload_n hx hb dX7_closedAt_8 rfl (lv_at hl 0 rfl) ?_
    refine gf_X7_32 hx hb hts hown hK hP 0 rfl (v := .ref (ad 8)) rfl dX7_closedAt_9 ?_
    refine lv_iload_n hx hb dX7_closedAt_12 rfl (lv_at hl 1 rfl) ?_
    refine ald_Ix (f := (S 8)) hx hb hK hP 8 rfl (by rw [hxj]; exact vp_in_nI (by omega) (by decide)) dX7_closedAt_13 ?_
    refine lv_goto (tgt := 18) hx hb dX7_closedAt_14 (by decide) ?_
    have hP : va_P D clW (wM cy ad (va_up I 0 (if mfB S (nI k) x = true then 0 else 1)) S) H := hP
    have hD : va_D A (wM cy ad (va_up I 0 (if mfB S (nI k) x = true then 0 else 1)) S) := hD.addr rfl
    exact wI_ret () hS hP hx hb hr hlocks dX7_closedAt_18 (Nat.le_of_ble_eq_true rfl) (Nat.le_of_ble_eq_true rfl) hQ (if_pos b2_1).symm
  · rw [if_neg b2_1] at q2_1
    subst q2_1
    refine lv_if_eq (tgt := 17) hx hb dX7_closedAt_5 (by decide) (fun _ => ?_) (fun c => absurd (by decide) c)
    refine lv_iconst (v := 0) hx hb dX7_closedAt_17 (by decide) ?_
    have hP : va_P D clW (wM cy ad (va_up I 0 (if mfB S (nI k) x = true then 0 else 1)) S) H := hP
    have hD : va_D A (wM cy ad (va_up I 0 (if mfB S (nI k) x = true then 0 else 1)) S) := hD.addr rfl
    exact wI_ret () hS hP hx hb hr hlocks dX7_closedAt_18 (Nat.le_of_ble_eq_true rfl) (Nat.le_of_ble_eq_true rfl) hQ (if_neg b2_1).symm
