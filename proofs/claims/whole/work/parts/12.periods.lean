theorem gf_X4_9 {p : Program} {l : Launch} {e : Env} {R : Room} {s : State} {m : MethodId} {args : Array Value} {below : List Frame} {meth : Method} {c : Code} {H : Heap} {locs : List Loc} {cells slots : Nat} {Q : State → Prop} {cc : ByteArray} {pc : Nat} {ls : Array Slot} {rest : List Value} {D : va_G} {cy : Nat → ClassId} {a : Nat} {ws : va_W} (hx : p.tables.exec = Jvm.exec) (hb : c.code = cc) (hts : ∀ w ∈ wsL_law, w.before args s = true) (hown : s.vm.findClass RX4 = some m.cls) (hK : va_K D clW (tyW cy) s) (hP : va_P D clW ws H) (q0 : Nat) {fs : List Value} (he : ws[q0]? = some (a, .inr (4, fs))) {v : Value} (hv : fs[0]? = some v) (hdg : decode cc pc = .ok (.getfield 9, 3)) (kk : W p l e R s m args below meth c H locs cells slots Q (F0 m (pc + 3) ls (v :: rest))) : W p l e R s m args below meth c H locs cells slots Q (F0 m pc ls (.ref a :: rest)) := va_get (own := RX4) (ref := RX4) (C := RX4) (T := TX4) (N := 3) (ci := 4) hx hb hts inlX4 hown hK hP q0 he rfl 0 (by decide) (hts _ wm_76) (fun _ h => h) hv hdg kk
theorem gf_X4_15 {p : Program} {l : Launch} {e : Env} {R : Room} {s : State} {m : MethodId} {args : Array Value} {below : List Frame} {meth : Method} {c : Code} {H : Heap} {locs : List Loc} {cells slots : Nat} {Q : State → Prop} {cc : ByteArray} {pc : Nat} {ls : Array Slot} {rest : List Value} {D : va_G} {cy : Nat → ClassId} {a : Nat} {ws : va_W} (hx : p.tables.exec = Jvm.exec) (hb : c.code = cc) (hts : ∀ w ∈ wsL_law, w.before args s = true) (hown : s.vm.findClass RX4 = some m.cls) (hK : va_K D clW (tyW cy) s) (hP : va_P D clW ws H) (q0 : Nat) {fs : List Value} (he : ws[q0]? = some (a, .inr (4, fs))) {v : Value} (hv : fs[1]? = some v) (hdg : decode cc pc = .ok (.getfield 15, 3)) (kk : W p l e R s m args below meth c H locs cells slots Q (F0 m (pc + 3) ls (v :: rest))) : W p l e R s m args below meth c H locs cells slots Q (F0 m pc ls (.ref a :: rest)) := va_get (own := RX4) (ref := RX4) (C := RX4) (T := TX4) (N := 3) (ci := 4) hx hb hts inlX4 hown hK hP q0 he rfl 1 (by decide) (hts _ wm_77) (fun _ h => h) hv hdg kk
theorem gf_X4_18 {p : Program} {l : Launch} {e : Env} {R : Room} {s : State} {m : MethodId} {args : Array Value} {below : List Frame} {meth : Method} {c : Code} {H : Heap} {locs : List Loc} {cells slots : Nat} {Q : State → Prop} {cc : ByteArray} {pc : Nat} {ls : Array Slot} {rest : List Value} {D : va_G} {cy : Nat → ClassId} {a : Nat} {ws : va_W} (hx : p.tables.exec = Jvm.exec) (hb : c.code = cc) (hts : ∀ w ∈ wsL_law, w.before args s = true) (hown : s.vm.findClass RX4 = some m.cls) (hK : va_K D clW (tyW cy) s) (hP : va_P D clW ws H) (q0 : Nat) {fs : List Value} (he : ws[q0]? = some (a, .inr (4, fs))) {v : Value} (hv : fs[2]? = some v) (hdg : decode cc pc = .ok (.getfield 18, 3)) (kk : W p l e R s m args below meth c H locs cells slots Q (F0 m (pc + 3) ls (v :: rest))) : W p l e R s m args below meth c H locs cells slots Q (F0 m pc ls (.ref a :: rest)) := va_get (own := RX4) (ref := RX4) (C := RX4) (T := TX4) (N := 3) (ci := 4) hx hb hts inlX4 hown hK hP q0 he rfl 2 (by decide) (hts _ wm_78) (fun _ h => h) hv hdg kk
theorem pf_X4_18 {p : Program} {l : Launch} {e : Env} {R : Room} {s : State} {m : MethodId} {args : Array Value} {below : List Frame} {meth : Method} {c : Code} {H : Heap} {locs : List Loc} {cells slots : Nat} {Q : State → Prop} {cc : ByteArray} {pc : Nat} {ls : Array Slot} {rest : List Value} {D : va_G} {cy : Nat → ClassId} {a : Nat} {ws : va_W} {A : Nat → Prop} {H0 : Heap} (hx : p.tables.exec = Jvm.exec) (hb : c.code = cc) (hts : ∀ w ∈ wsL_law, w.before args s = true) (hown : s.vm.findClass RX4 = some m.cls) (hK : va_K D clW (tyW cy) s) (hP : va_P D clW ws H) (hD : va_D A ws) (hS : va_S A H0 H locs) (q0 : Nat) {fs : List Value} (he : ws[q0]? = some (a, .inr (4, fs))) {x : Int32} (hl : 2 < fs.length) (hdg : decode cc pc = .ok (.putfield 18, 3)) (kk : ∀ (H1 : Heap) (locs1 : List Loc), va_P D clW (ws.set q0 (a, .inr (4, fs.set 2 (.int x)))) H1 → va_D A (ws.set q0 (a, .inr (4, fs.set 2 (.int x)))) → va_S A H0 H1 locs1 → W p l e R s m args below meth c H1 locs1 cells slots Q (F0 m (pc + 3) ls rest)) : W p l e R s m args below meth c H locs cells slots Q (F0 m pc ls (.int x :: .ref a :: rest)) := va_put (own := RX4) (ref := RX4) (C := RX4) (T := TX4) (N := 3) (ci := 4) (ty := .int) hx hb hts inlX4 tyX4 tyX4_ok nmX4 hown hK hP hD hS q0 he rfl 2 (by decide) (hts _ wm_78) (fun _ h => h) rfl (by decide +kernel) rfl rfl hl hdg kk
theorem cw_X4_22 {R : Room} {s : State} {args : Array Value} {rm : Room} {mc ms : Nat} (hts : ∀ w ∈ wsL_law, w.before args s = true) (hrc : rm.cells = mc) (hrs : rm.slots = ms) (hR : rm.frames + 1 ≤ R.frames ∧ 8 + (2 + 11) + rm.locals ≤ R.locals) : CallW R s args RX4 RX1 22 yX1_isAsTheDayBefore cX1_isAsTheDayBefore 2 (some .boolean) (Cond.code yX1_isAsTheDayBefore cX1_isAsTheDayBefore 2 (some .boolean) :: wsL_law) rm mc ms 1 := cwV 1 hts (gUV wm_614 wm_615 wm_616 wm_29 wm_617) rfl hrc hrs (by decide +kernel) hR
theorem cw_X4_28 {R : Room} {s : State} {args : Array Value} {rm : Room} {mc ms : Nat} (hts : ∀ w ∈ wsL_law, w.before args s = true) (hrc : rm.cells = mc) (hrs : rm.slots = ms) (hR : rm.frames + 1 ≤ R.frames ∧ 8 + (1 + 11) + rm.locals ≤ R.locals) : CallW R s args RX4 RX4 28 yX4_lengthenLast cX4_lengthenLast 1 none (Cond.code yX4_lengthenLast cX4_lengthenLast 1 none :: wsL_law) rm mc ms 0 := cwV 0 hts (gUV wm_619 wm_620 wm_621 wm_34 wm_622) rfl hrc hrs (by decide +kernel) hR
theorem cw_X4_31 {R : Room} {s : State} {args : Array Value} {rm : Room} {mc ms : Nat} (hts : ∀ w ∈ wsL_law, w.before args s = true) (hrc : rm.cells = mc) (hrs : rm.slots = ms) (hR : rm.frames + 1 ≤ R.frames ∧ 8 + (2 + 11) + rm.locals ≤ R.locals) : CallW R s args RX4 RX1 31 yX1_has cX1_has 2 (some .boolean) (Cond.code yX1_has cX1_has 2 (some .boolean) :: wsL_law) rm mc ms 1 := cwV 1 hts (gUV wm_623 wm_557 wm_558 wm_29 wm_559) rfl hrc hrs (by decide +kernel) hR
theorem cw_X4_34 {R : Room} {s : State} {args : Array Value} {rm : Room} {mc ms : Nat} (hts : ∀ w ∈ wsL_law, w.before args s = true) (hrc : rm.cells = mc) (hrs : rm.slots = ms) (hR : rm.frames + 1 ≤ R.frames ∧ 8 + (2 + 11) + rm.locals ≤ R.locals) : CallW R s args RX4 RX4 34 yX4_begin cX4_begin 2 none (Cond.code yX4_begin cX4_begin 2 none :: wsL_law) rm mc ms 1 := cwV 1 hts (gUV wm_624 wm_625 wm_626 wm_34 wm_627) rfl hrc hrs (by decide +kernel) hR
set_option maxHeartbeats 4000000 in
set_option maxRecDepth 100000 in
theorem c_X4_size (l : Launch) (D : va_G) (cy : Nat → ClassId) (ad : Nat → Nat) (I : AI) (S : AS) : Met l yX4_size (Cond.code yX4_size cX4_size 1 (some .int) :: wsL_law) ({ frames := 0, cells := 0, slots := 0, locals := 0 }) (va_Pc [.ref (ad 22)] (rdB D cy (wP cy ad I S))) (rdI (fun r => r = I 5)) 0 0 noA := by
  refine enter (cc := cX4_size) (by decide) (Nat.le_of_ble_eq_true rfl) ?_
  intro p e s m below meth c hx hb hr hml hown hts hlocks hin hv Q hQ ls hl
  obtain ⟨hP, hK⟩ := hv
  have hown : s.vm.findClass RX4 = some m.cls := hown
  have hl : lv_has ls 1 [(0, .ref (ad 22))] := hl
  refine lv_aload_n hx hb dX4_size_0 rfl (lv_at hl 0 rfl) ?_
  refine gf_X4_18 hx hb hts hown hK hP 0 rfl (v := .int (I 5)) rfl dX4_size_1 ?_
  exact rI_ret hx hb hr hlocks dX4_size_4 hQ rfl

set_option maxHeartbeats 4000000 in
set_option maxRecDepth 100000 in
theorem c_X4_firstDay (l : Launch) (D : va_G) (cy : Nat → ClassId) (ad : Nat → Nat) (I : AI) (S : AS) (j : Nat) (n : Nat) (hn : I 5 = nI n) (hn6 : n ≤ 100) (hj : j < n) : Met l yX4_firstDay (Cond.code yX4_firstDay cX4_firstDay 2 (some .int) :: wsL_law) ({ frames := 0, cells := 0, slots := 0, locals := 0 }) (va_Pc [.ref (ad 22), .int (nI j)] (rdB D cy (wP cy ad I S))) (rdI (fun r => r = S 23 j)) 0 0 noA := by
  refine enter (cc := cX4_firstDay) (by decide) (Nat.le_of_ble_eq_true rfl) ?_
  intro p e s m below meth c hx hb hr hml hown hts hlocks hin hv Q hQ ls hl
  obtain ⟨hP, hK⟩ := hv
  have hown : s.vm.findClass RX4 = some m.cls := hown
  have hl : lv_has ls 2 [(0, .ref (ad 22)), (1, .int (nI j))] := hl
  refine lv_iload_n hx hb dX4_firstDay_0 rfl (lv_at hl 1 rfl) ?_
  refine lv_if_lt (tgt := 21) hx hb dX4_firstDay_1 (by decide) (fun c => absurd c (nI_pos (by omega))) (fun _ => ?_)
  refine lv_iload_n hx hb dX4_firstDay_4 rfl (lv_at hl 1 rfl) ?_
  refine lv_aload_n hx hb dX4_firstDay_5 rfl (lv_at hl 0 rfl) ?_
  refine gf_X4_18 hx hb hts hown hK hP 0 rfl (v := .int (I 5)) rfl dX4_firstDay_6 ?_
  refine top_eq hn ?_
  refine lv_icmp_ge (tgt := 21) hx hb dX4_firstDay_9 (by decide) (fun c => absurd c (nd_nle (a := n) (b := j) (by omega) (by omega) (by omega))) (fun _ => ?_)
  refine lv_aload_n hx hb dX4_firstDay_12 rfl (lv_at hl 0 rfl) ?_
  refine gf_X4_9 hx hb hts hown hK hP 0 rfl (v := .ref (ad 23)) rfl dX4_firstDay_13 ?_
  refine lv_iload_n hx hb dX4_firstDay_16 rfl (lv_at hl 1 rfl) ?_
  refine ald_I (f := (S 23)) hx hb hK hP 1 rfl (i := j) (by omega) (by decide) dX4_firstDay_17 ?_
  refine lv_goto (tgt := 22) hx hb dX4_firstDay_18 (by decide) ?_
  exact rI_ret hx hb hr hlocks dX4_firstDay_22 hQ rfl

set_option maxHeartbeats 4000000 in
set_option maxRecDepth 100000 in
theorem c_X4_dayAfter (l : Launch) (D : va_G) (cy : Nat → ClassId) (ad : Nat → Nat) (I : AI) (S : AS) (j : Nat) (n : Nat) (hn : I 5 = nI n) (hn6 : n ≤ 100) (hj : j < n) : Met l yX4_dayAfter (Cond.code yX4_dayAfter cX4_dayAfter 2 (some .int) :: wsL_law) ({ frames := 0, cells := 0, slots := 0, locals := 0 }) (va_Pc [.ref (ad 22), .int (nI j)] (rdB D cy (wP cy ad I S))) (rdI (fun r => r = S 24 j)) 0 0 noA := by
  refine enter (cc := cX4_dayAfter) (by decide) (Nat.le_of_ble_eq_true rfl) ?_
  intro p e s m below meth c hx hb hr hml hown hts hlocks hin hv Q hQ ls hl
  obtain ⟨hP, hK⟩ := hv
  have hown : s.vm.findClass RX4 = some m.cls := hown
  have hl : lv_has ls 2 [(0, .ref (ad 22)), (1, .int (nI j))] := hl
  refine lv_iload_n hx hb dX4_dayAfter_0 rfl (lv_at hl 1 rfl) ?_
  refine lv_if_lt (tgt := 21) hx hb dX4_dayAfter_1 (by decide) (fun c => absurd c (nI_pos (by omega))) (fun _ => ?_)
  refine lv_iload_n hx hb dX4_dayAfter_4 rfl (lv_at hl 1 rfl) ?_
  refine lv_aload_n hx hb dX4_dayAfter_5 rfl (lv_at hl 0 rfl) ?_
  refine gf_X4_18 hx hb hts hown hK hP 0 rfl (v := .int (I 5)) rfl dX4_dayAfter_6 ?_
  refine top_eq hn ?_
  refine lv_icmp_ge (tgt := 21) hx hb dX4_dayAfter_9 (by decide) (fun c => absurd c (nd_nle (a := n) (b := j) (by omega) (by omega) (by omega))) (fun _ => ?_)
  refine lv_aload_n hx hb dX4_dayAfter_12 rfl (lv_at hl 0 rfl) ?_
  refine gf_X4_15 hx hb hts hown hK hP 0 rfl (v := .ref (ad 24)) rfl dX4_dayAfter_13 ?_
  refine lv_iload_n hx hb dX4_dayAfter_16 rfl (lv_at hl 1 rfl) ?_
  refine ald_I (f := (S 24)) hx hb hK hP 2 rfl (i := j) (by omega) (by decide) dX4_dayAfter_17 ?_
  refine lv_goto (tgt := 22) hx hb dX4_dayAfter_18 (by decide) ?_
  exact rI_ret hx hb hr hlocks dX4_dayAfter_22 hQ rfl

set_option maxHeartbeats 4000000 in
set_option maxRecDepth 100000 in
theorem c_X4_begin (l : Launch) (D : va_G) (cy : Nat → ClassId) (ad : Nat → Nat) (I : AI) (S : AS) (sz : Nat) (d : Nat) (n : Nat) (hn : I 5 = nI n) (hn6 : n < 100) : Met l yX4_begin (Cond.code yX4_begin cX4_begin 2 none :: wsL_law) ({ frames := 0, cells := 0, slots := 0, locals := 0 }) (va_Pc [.ref (ad 22), .int (nI d)] (wrB D cy (wP cy ad I S) sz)) (va_Qv (S := Unit) (fun u => True) (fun u t9 => va_P D clW (wP cy ad (va_up I 5 (nI (n + 1))) (va_up (va_up S 23 (upd (S 23) n (nI d))) 24 (upd (S 24) n (nI (d + 1))))) t9.heap) (va_A (wP cy ad I S) sz)) 0 0 (va_A (wP cy ad I S) sz) := by
  refine enter (cc := cX4_begin) (by decide) (Nat.le_of_ble_eq_true rfl) ?_
  intro p e s m below meth c hx hb hr hml hown hts hlocks hin hv Q hQ ls hl
  obtain ⟨hsz, hP, hK, hD0⟩ := hv
  subst hsz
  have hD := hD0.self (sz := s.heap.size)
  generalize hAe : va_A (wP cy ad I S) s.heap.size = A at hD hQ ⊢
  have hA : ∀ q : Nat, s.heap.size ≤ q → A q := fun q h => by rw [← hAe]; exact Or.inr h
  have hS : va_S A s.heap s.heap [] := va_S.rf
  suffices K_ : ∀ (H : Heap) (locs : List Loc), va_P D clW (wP cy ad I S) H → va_S A s.heap H locs → W p l e ({ frames := 0, cells := 0, slots := 0, locals := 0 }) s m ([.ref (ad 22), .int (nI d)] : List Value).toArray below meth c H locs 0 0 Q (F0 m 0 ls []) from K_ _ _ hP hS
  clear hP hS
  intro H locs hP hS
  have hown : s.vm.findClass RX4 = some m.cls := hown
  have hl : lv_has ls 2 [(0, .ref (ad 22)), (1, .int (nI d))] := hl
  refine lv_aload_n hx hb dX4_begin_0 rfl (lv_at hl 0 rfl) ?_
  refine gf_X4_18 hx hb hts hown hK hP 0 rfl (v := .int (I 5)) rfl dX4_begin_1 ?_
  refine top_eq hn ?_
  refine lv_bipush (v := 100) hx hb dX4_begin_4 (by decide) ?_
  refine lv_icmp_ge (tgt := 41) hx hb dX4_begin_6 (by decide) (fun c => absurd c (nd_nle (a := 100) (b := n) (by omega) (by omega) (by omega))) (fun _ => ?_)
  refine lv_aload_n hx hb dX4_begin_9 rfl (lv_at hl 0 rfl) ?_
  refine gf_X4_9 hx hb hts hown hK hP 0 rfl (v := .ref (ad 23)) rfl dX4_begin_10 ?_
  refine lv_aload_n hx hb dX4_begin_13 rfl (lv_at hl 0 rfl) ?_
  refine gf_X4_18 hx hb hts hown hK hP 0 rfl (v := .int (I 5)) rfl dX4_begin_14 ?_
  refine top_eq hn ?_
  refine lv_iload_n hx hb dX4_begin_17 rfl (lv_at hl 1 rfl) ?_
  refine ast_I hx hb hK hP hD hS 1 rfl (i := n) (x := (nI d)) (by omega) (by decide) dX4_begin_18 (fun H locs hP hD hS => ?_)
  have hP : va_P D clW (wP cy ad I (va_up S 23 (upd (S 23) n (nI d)))) H := hP
  have hD : va_D A (wP cy ad I (va_up S 23 (upd (S 23) n (nI d)))) := hD
  refine lv_aload_n hx hb dX4_begin_19 rfl (lv_at hl 0 rfl) ?_
  refine gf_X4_15 hx hb hts hown hK hP 0 rfl (v := .ref (ad 24)) rfl dX4_begin_20 ?_
  refine lv_aload_n hx hb dX4_begin_23 rfl (lv_at hl 0 rfl) ?_
  refine gf_X4_18 hx hb hts hown hK hP 0 rfl (v := .int (I 5)) rfl dX4_begin_24 ?_
  refine top_eq hn ?_
  refine lv_iload_n hx hb dX4_begin_27 rfl (lv_at hl 1 rfl) ?_
  refine lv_iconst (v := 1) hx hb dX4_begin_28 (by decide) ?_
  refine lv_iadd hx hb dX4_begin_29 ?_
  refine top_eq (y := nI (d + 1)) (nI_add d 1) ?_
  refine ast_I hx hb hK hP hD hS 2 rfl (i := n) (x := (nI (d + 1))) (by omega) (by decide) dX4_begin_30 (fun H locs hP hD hS => ?_)
  have hP : va_P D clW (wP cy ad I (va_up (va_up S 23 (upd (S 23) n (nI d))) 24 (upd (S 24) n (nI (d + 1))))) H := hP
  have hD : va_D A (wP cy ad I (va_up (va_up S 23 (upd (S 23) n (nI d))) 24 (upd (S 24) n (nI (d + 1))))) := hD
  refine lv_aload_n hx hb dX4_begin_31 rfl (lv_at hl 0 rfl) ?_
  refine lv_dup hx hb dX4_begin_32 rfl ?_
  refine gf_X4_18 hx hb hts hown hK hP 0 rfl (v := .int (I 5)) rfl dX4_begin_33 ?_
  refine top_eq hn ?_
  refine lv_iconst (v := 1) hx hb dX4_begin_36 (by decide) ?_
  refine lv_iadd hx hb dX4_begin_37 ?_
  refine top_eq (y := nI (n + 1)) (nI_add n 1) ?_
  refine pf_X4_18 hx hb hts hown hK hP hD hS 0 rfl (Nat.le_of_ble_eq_true rfl) dX4_begin_38 (fun H locs hP hD hS => ?_)
  have hP : va_P D clW (wP cy ad (va_up I 5 (nI (n + 1))) (va_up (va_up S 23 (upd (S 23) n (nI d))) 24 (upd (S 24) n (nI (d + 1))))) H := hP
  have hD : va_D A (wP cy ad (va_up I 5 (nI (n + 1))) (va_up (va_up S 23 (upd (S 23) n (nI d))) 24 (upd (S 24) n (nI (d + 1))))) := hD
  have hP : va_P D clW (wP cy ad (va_up I 5 (nI (n + 1))) (va_up (va_up S 23 (upd (S 23) n (nI d))) 24 (upd (S 24) n (nI (d + 1))))) H := hP
  have hD : va_D A (wP cy ad (va_up I 5 (nI (n + 1))) (va_up (va_up S 23 (upd (S 23) n (nI d))) 24 (upd (S 24) n (nI (d + 1))))) := hD.addr rfl
  exact wV_ret () hS hP hx hb hr hlocks dX4_begin_41 (Nat.le_of_ble_eq_true rfl) (Nat.le_of_ble_eq_true rfl) hQ trivial

set_option maxHeartbeats 4000000 in
set_option maxRecDepth 100000 in
theorem c_X4_lengthenLast (l : Launch) (D : va_G) (cy : Nat → ClassId) (ad : Nat → Nat) (I : AI) (S : AS) (sz : Nat) (n : Nat) (hn : I 5 = nI n) (hn6 : n ≤ 100) : Met l yX4_lengthenLast (Cond.code yX4_lengthenLast cX4_lengthenLast 1 none :: wsL_law) ({ frames := 0, cells := 0, slots := 0, locals := 0 }) (va_Pc [.ref (ad 22)] (wrB D cy (wP cy ad I S) sz)) (va_Qv (S := Unit) (fun u => True) (fun u t9 => va_P D clW (wP cy ad I (va_up S 24 (if n = 0 then (S 24) else upd (S 24) (n - 1) ((S 24) (n - 1) + 1)))) t9.heap) (va_A (wP cy ad I S) sz)) 0 0 (va_A (wP cy ad I S) sz) := by
  refine enter (cc := cX4_lengthenLast) (by decide) (Nat.le_of_ble_eq_true rfl) ?_
  intro p e s m below meth c hx hb hr hml hown hts hlocks hin hv Q hQ ls hl
  obtain ⟨hsz, hP, hK, hD0⟩ := hv
  subst hsz
  have hD := hD0.self (sz := s.heap.size)
  generalize hAe : va_A (wP cy ad I S) s.heap.size = A at hD hQ ⊢
  have hA : ∀ q : Nat, s.heap.size ≤ q → A q := fun q h => by rw [← hAe]; exact Or.inr h
  have hS : va_S A s.heap s.heap [] := va_S.rf
  suffices K_ : ∀ (H : Heap) (locs : List Loc), va_P D clW (wP cy ad I S) H → va_S A s.heap H locs → W p l e ({ frames := 0, cells := 0, slots := 0, locals := 0 }) s m ([.ref (ad 22)] : List Value).toArray below meth c H locs 0 0 Q (F0 m 0 ls []) from K_ _ _ hP hS
  clear hP hS
  intro H locs hP hS
  have hown : s.vm.findClass RX4 = some m.cls := hown
  have hl : lv_has ls 1 [(0, .ref (ad 22))] := hl
  refine lv_aload_n hx hb dX4_lengthenLast_0 rfl (lv_at hl 0 rfl) ?_
  refine gf_X4_18 hx hb hts hown hK hP 0 rfl (v := .int (I 5)) rfl dX4_lengthenLast_1 ?_
  refine top_eq hn ?_
  refine lv_if_le (tgt := 22) hx hb dX4_lengthenLast_4 (by decide) (fun c4_1 => ?_) (fun c4_1 => ?_)
  · have f4 : n = 0 := by have := nt_le (a := n) (b := 0) (by omega) (by omega) c4_1; omega
    have e_2 : (S 24) = (if n = 0 then (S 24) else upd (S 24) (n - 1) ((S 24) (n - 1) + 1)) := (by rw [if_pos f4])
    have hP : va_P D clW (wP cy ad I (va_up S 24 (if n = 0 then (S 24) else upd (S 24) (n - 1) ((S 24) (n - 1) + 1)))) H := by rw [← e_2]; exact hP
    have hD : va_D A (wP cy ad I (va_up S 24 (if n = 0 then (S 24) else upd (S 24) (n - 1) ((S 24) (n - 1) + 1)))) := hD.addr rfl
    exact wV_ret () hS hP hx hb hr hlocks dX4_lengthenLast_22 (Nat.le_of_ble_eq_true rfl) (Nat.le_of_ble_eq_true rfl) hQ trivial
  · have f4 : 0 < n := nt_nle (a := n) (b := 0) (by omega) (by omega) c4_1
    refine lv_aload_n hx hb dX4_lengthenLast_7 rfl (lv_at hl 0 rfl) ?_
    refine gf_X4_15 hx hb hts hown hK hP 0 rfl (v := .ref (ad 24)) rfl dX4_lengthenLast_8 ?_
    refine lv_aload_n hx hb dX4_lengthenLast_11 rfl (lv_at hl 0 rfl) ?_
    refine gf_X4_18 hx hb hts hown hK hP 0 rfl (v := .int (I 5)) rfl dX4_lengthenLast_12 ?_
    refine top_eq hn ?_
    refine lv_iconst (v := 1) hx hb dX4_lengthenLast_15 (by decide) ?_
    refine lv_isub hx hb dX4_lengthenLast_16 ?_
    refine top_eq (y := nI (n - 1)) (pk_sub (a := n) (b := 1) (by omega)) ?_
    refine lv_dup2_11 hx hb dX4_lengthenLast_17 rfl rfl ?_
    refine ald_I (f := (S 24)) hx hb hK hP 2 rfl (i := (n - 1)) (by omega) (by decide) dX4_lengthenLast_18 ?_
    refine lv_iconst (v := 1) hx hb dX4_lengthenLast_19 (by decide) ?_
    refine lv_iadd hx hb dX4_lengthenLast_20 ?_
    refine ast_I hx hb hK hP hD hS 2 rfl (i := (n - 1)) (x := (((S 24) (n - 1)) + 1)) (by omega) (by decide) dX4_lengthenLast_21 (fun H locs hP hD hS => ?_)
    have hP : va_P D clW (wP cy ad I (va_up S 24 (upd (S 24) (n - 1) (((S 24) (n - 1)) + 1)))) H := hP
    have hD : va_D A (wP cy ad I (va_up S 24 (upd (S 24) (n - 1) (((S 24) (n - 1)) + 1)))) := hD
    have e_3 : (upd (S 24) (n - 1) (((S 24) (n - 1)) + 1)) = (if n = 0 then (S 24) else upd (S 24) (n - 1) ((S 24) (n - 1) + 1)) := (by rw [if_neg (by omega)])
    have hP : va_P D clW (wP cy ad I (va_up S 24 (if n = 0 then (S 24) else upd (S 24) (n - 1) ((S 24) (n - 1) + 1)))) H := by rw [← e_3]; exact hP
    have hD : va_D A (wP cy ad I (va_up S 24 (if n = 0 then (S 24) else upd (S 24) (n - 1) ((S 24) (n - 1) + 1)))) := hD.addr rfl
    exact wV_ret () hS hP hx hb hr hlocks dX4_lengthenLast_22 (Nat.le_of_ble_eq_true rfl) (Nat.le_of_ble_eq_true rfl) hQ trivial

set_option maxHeartbeats 4000000 in
set_option maxRecDepth 100000 in
theorem c_X4_list (l : Launch) (D : va_G) (cy : Nat → ClassId) (ad : Nat → Nat) (I : AI) (S : AS) (sz : Nat) : Met l yX4_list (Cond.code yX4_list cX4_list 4 none :: wsL_law) ({ frames := 3, cells := 0, slots := 0, locals := 63 }) (va_Pc [.ref (ad 22), .ref (ad 16), .ref (ad 19)] (wrB D cy (wP cy ad I S ++ wK cy ad 16 S ++ wK cy ad 19 S) sz)) (va_Qv (S := Unit) (fun u => True) (fun u t9 => va_P D clW (wP cy ad (va_up I 5 (nI (plS (S 17) (S 18) (S 20) (S 21) (S 23) (S 24) 100).1)) (va_up (va_up S 23 (plS (S 17) (S 18) (S 20) (S 21) (S 23) (S 24) 100).2.1) 24 (plS (S 17) (S 18) (S 20) (S 21) (S 23) (S 24) 100).2.2) ++ wK cy ad 16 (va_up (va_up S 23 (plS (S 17) (S 18) (S 20) (S 21) (S 23) (S 24) 100).2.1) 24 (plS (S 17) (S 18) (S 20) (S 21) (S 23) (S 24) 100).2.2) ++ wK cy ad 19 (va_up (va_up S 23 (plS (S 17) (S 18) (S 20) (S 21) (S 23) (S 24) 100).2.1) 24 (plS (S 17) (S 18) (S 20) (S 21) (S 23) (S 24) 100).2.2)) t9.heap) (va_A (wP cy ad I S ++ wK cy ad 16 S ++ wK cy ad 19 S) sz)) 0 0 (va_A (wP cy ad I S ++ wK cy ad 16 S ++ wK cy ad 19 S) sz) := by
  refine enter (cc := cX4_list) (by decide) (Nat.le_of_ble_eq_true rfl) ?_
  intro p e s m below meth c hx hb hr hml hown hts hlocks hin hv Q hQ ls hl
  obtain ⟨hsz, hP, hK, hD0⟩ := hv
  subst hsz
  have hD := hD0.self (sz := s.heap.size)
  generalize hAe : va_A (wP cy ad I S ++ wK cy ad 16 S ++ wK cy ad 19 S) s.heap.size = A at hD hQ ⊢
  have hA : ∀ q : Nat, s.heap.size ≤ q → A q := fun q h => by rw [← hAe]; exact Or.inr h
  have hS : va_S A s.heap s.heap [] := va_S.rf
  suffices K_ : ∀ (H : Heap) (locs : List Loc), va_P D clW (wP cy ad I S ++ wK cy ad 16 S ++ wK cy ad 19 S) H → va_S A s.heap H locs → W p l e ({ frames := 3, cells := 0, slots := 0, locals := 63 }) s m ([.ref (ad 22), .ref (ad 16), .ref (ad 19)] : List Value).toArray below meth c H locs 0 0 Q (F0 m 0 ls []) from K_ _ _ hP hS
  clear hP hS
  intro H locs hP hS
  have hown : s.vm.findClass RX4 = some m.cls := hown
  have hl : lv_has ls 4 [(0, .ref (ad 22)), (1, .ref (ad 16)), (2, .ref (ad 19))] := hl
  refine lv_aload_n hx hb dX4_list_0 rfl (lv_at hl 0 rfl) ?_
  refine lv_iconst (v := 0) hx hb dX4_list_1 (by decide) ?_
  refine pf_X4_18 hx hb hts hown hK hP hD hS 0 rfl (Nat.le_of_ble_eq_true rfl) dX4_list_2 (fun H locs hP hD hS => ?_)
  have hP : va_P D clW (wP cy ad (va_up I 5 0) S ++ wK cy ad 16 S ++ wK cy ad 19 S) H := hP
  have hD : va_D A (wP cy ad (va_up I 5 0) S ++ wK cy ad 16 S ++ wK cy ad 19 S) := hD
  refine lv_iconst (v := 0) hx hb dX4_list_5 (by decide) ?_
  refine lv_istore_n (lv' := [(3, .int 0), (0, .ref (ad 22)), (1, .ref (ad 16)), (2, .ref (ad 19))]) hx hb dX4_list_6 rfl hl (by decide) rfl (fun ls hl => ?_)
  have L7 : ∀ (n_7 i : Nat), i ≤ 100 → 100 + 1 ≤ i + n_7 → ∀ (H : Heap) (locs : List Loc), va_P D clW (wP cy ad (va_up I 5 (nI (plS (S 17) (S 18) (S 20) (S 21) (S 23) (S 24) i).1)) (va_up (va_up S 23 (plS (S 17) (S 18) (S 20) (S 21) (S 23) (S 24) i).2.1) 24 (plS (S 17) (S 18) (S 20) (S 21) (S 23) (S 24) i).2.2) ++ wK cy ad 16 (va_up (va_up S 23 (plS (S 17) (S 18) (S 20) (S 21) (S 23) (S 24) i).2.1) 24 (plS (S 17) (S 18) (S 20) (S 21) (S 23) (S 24) i).2.2) ++ wK cy ad 19 (va_up (va_up S 23 (plS (S 17) (S 18) (S 20) (S 21) (S 23) (S 24) i).2.1) 24 (plS (S 17) (S 18) (S 20) (S 21) (S 23) (S 24) i).2.2)) H → va_D A (wP cy ad (va_up I 5 (nI (plS (S 17) (S 18) (S 20) (S 21) (S 23) (S 24) i).1)) (va_up (va_up S 23 (plS (S 17) (S 18) (S 20) (S 21) (S 23) (S 24) i).2.1) 24 (plS (S 17) (S 18) (S 20) (S 21) (S 23) (S 24) i).2.2) ++ wK cy ad 16 (va_up (va_up S 23 (plS (S 17) (S 18) (S 20) (S 21) (S 23) (S 24) i).2.1) 24 (plS (S 17) (S 18) (S 20) (S 21) (S 23) (S 24) i).2.2) ++ wK cy ad 19 (va_up (va_up S 23 (plS (S 17) (S 18) (S 20) (S 21) (S 23) (S 24) i).2.1) 24 (plS (S 17) (S 18) (S 20) (S 21) (S 23) (S 24) i).2.2)) → va_S A s.heap H locs → ∀ (ls : Array Slot), lv_has ls 4 [(3, .int (nI i)), (0, .ref (ad 22)), (1, .ref (ad 16)), (2, .ref (ad 19))] → W p l e { frames := 3, cells := 0, slots := 0, locals := 63 } s m ([.ref (ad 22), .ref (ad 16), .ref (ad 19)] : List Value).toArray below meth c H locs 0 0 Q (F0 m 7 ls []) := by
    clear hl
    intro n_7
    induction n_7 with
    | zero => intro i  hle_7 hn_7; exact absurd hn_7 (by omega)
    | succ n_7 ih7 =>
      intro i  hle_7 hn_7  H locs hP hD hS ls hl
      have hpl := plS_le (S 17) (S 18) (S 20) (S 21) (S 23) (S 24) i
      refine lv_iload_n hx hb dX4_list_7 rfl (lv_at hl 0 rfl) ?_
      refine lv_bipush (v := 100) hx hb dX4_list_8 (by decide) ?_
      refine lv_icmp_ge (tgt := 63) hx hb dX4_list_10 (by decide) (fun c10_1 => ?_) (fun c10_1 => ?_)
      · have f10_1 : 100 ≤ i := nt_le (a := 100) (b := i) (by omega) (by omega) c10_1
        have e_2 : (nI (plS (S 17) (S 18) (S 20) (S 21) (S 23) (S 24) i).1) = (nI (plS (S 17) (S 18) (S 20) (S 21) (S 23) (S 24) 100).1) := (by rw [show i = 100 by omega])
        have e_3 : (plS (S 17) (S 18) (S 20) (S 21) (S 23) (S 24) i).2.1 = (plS (S 17) (S 18) (S 20) (S 21) (S 23) (S 24) 100).2.1 := (by rw [show i = 100 by omega])
        have e_4 : (plS (S 17) (S 18) (S 20) (S 21) (S 23) (S 24) i).2.2 = (plS (S 17) (S 18) (S 20) (S 21) (S 23) (S 24) 100).2.2 := (by rw [show i = 100 by omega])
        have hP : va_P D clW (wP cy ad (va_up I 5 (nI (plS (S 17) (S 18) (S 20) (S 21) (S 23) (S 24) 100).1)) (va_up (va_up S 23 (plS (S 17) (S 18) (S 20) (S 21) (S 23) (S 24) 100).2.1) 24 (plS (S 17) (S 18) (S 20) (S 21) (S 23) (S 24) 100).2.2) ++ wK cy ad 16 (va_up (va_up S 23 (plS (S 17) (S 18) (S 20) (S 21) (S 23) (S 24) 100).2.1) 24 (plS (S 17) (S 18) (S 20) (S 21) (S 23) (S 24) 100).2.2) ++ wK cy ad 19 (va_up (va_up S 23 (plS (S 17) (S 18) (S 20) (S 21) (S 23) (S 24) 100).2.1) 24 (plS (S 17) (S 18) (S 20) (S 21) (S 23) (S 24) 100).2.2)) H := by rw [← e_2, ← e_3, ← e_4]; exact hP
        have hD : va_D A (wP cy ad (va_up I 5 (nI (plS (S 17) (S 18) (S 20) (S 21) (S 23) (S 24) 100).1)) (va_up (va_up S 23 (plS (S 17) (S 18) (S 20) (S 21) (S 23) (S 24) 100).2.1) 24 (plS (S 17) (S 18) (S 20) (S 21) (S 23) (S 24) 100).2.2) ++ wK cy ad 16 (va_up (va_up S 23 (plS (S 17) (S 18) (S 20) (S 21) (S 23) (S 24) 100).2.1) 24 (plS (S 17) (S 18) (S 20) (S 21) (S 23) (S 24) 100).2.2) ++ wK cy ad 19 (va_up (va_up S 23 (plS (S 17) (S 18) (S 20) (S 21) (S 23) (S 24) 100).2.1) 24 (plS (S 17) (S 18) (S 20) (S 21) (S 23) (S 24) 100).2.2)) := hD.addr rfl
        exact wV_ret () hS hP hx hb hr hlocks dX4_list_63 (Nat.le_of_ble_eq_true rfl) (Nat.le_of_ble_eq_true rfl) hQ trivial
      · have f10_1 : i < 100 := nt_nle (a := 100) (b := i) (by omega) (by omega) c10_1
        refine lv_aload_n hx hb dX4_list_13 rfl (lv_at hl 2 rfl) ?_
        refine lv_iload_n hx hb dX4_list_14 rfl (lv_at hl 0 rfl) ?_
        refine rZ_call (P := asB ((S 17)) ((S 18)) (nI i) = true) (va_runV (As := [.int (nI i)]) (rest := []) ⟨hx, hb, hml, hown, hts⟩ (c_X1_isAsTheDayBefore_16 l D cy ad (va_up (va_up S 23 (plS (S 17) (S 18) (S 20) (S 21) (S 23) (S 24) i).2.1) 24 (plS (S 17) (S 18) (S 20) (S 21) (S 23) (S 24) i).2.2) (nI i)) (cw_X4_22 hts rfl rfl ⟨Nat.le_of_ble_eq_true rfl, Nat.le_of_ble_eq_true rfl⟩) (preVR (ci := 1) (q0 := 0) hK (hP.sub [3, 4, 5] rfl) rfl rfl) rfl rfl hl.1 rfl (lv_room (Nat.le_of_ble_eq_true rfl)) dX4_list_15 ⟨Nat.le_of_ble_eq_true rfl, Nat.le_of_ble_eq_true rfl⟩) (fun b15_5 => ?_) (fun b15_5 => ?_)
        · refine lv_if_eq (tgt := 36) hx hb dX4_list_18 (by decide) (fun c => absurd c (by decide)) (fun _ => ?_)
          refine lv_aload_n hx hb dX4_list_21 rfl (lv_at hl 3 rfl) ?_
          refine lv_iload_n hx hb dX4_list_22 rfl (lv_at hl 0 rfl) ?_
          refine rZ_call (P := asB ((S 20)) ((S 21)) (nI i) = true) (va_runV (As := [.int (nI i)]) (rest := []) ⟨hx, hb, hml, hown, hts⟩ (c_X1_isAsTheDayBefore_19 l D cy ad (va_up (va_up S 23 (plS (S 17) (S 18) (S 20) (S 21) (S 23) (S 24) i).2.1) 24 (plS (S 17) (S 18) (S 20) (S 21) (S 23) (S 24) i).2.2) (nI i)) (cw_X4_22 hts rfl rfl ⟨Nat.le_of_ble_eq_true rfl, Nat.le_of_ble_eq_true rfl⟩) (preVR (ci := 1) (q0 := 0) hK (hP.sub [6, 7, 8] rfl) rfl rfl) rfl rfl hl.1 rfl (lv_room (Nat.le_of_ble_eq_true rfl)) dX4_list_23 ⟨Nat.le_of_ble_eq_true rfl, Nat.le_of_ble_eq_true rfl⟩) (fun b23_6 => ?_) (fun b23_6 => ?_)
          · refine lv_if_eq (tgt := 36) hx hb dX4_list_26 (by decide) (fun c => absurd c (by decide)) (fun _ => ?_)
            refine lv_aload_n hx hb dX4_list_29 rfl (lv_at hl 1 rfl) ?_
            refine wV_call (va_runV (As := []) (rest := []) ⟨hx, hb, hml, hown, hts⟩ (c_X4_lengthenLast l D cy ad (va_up I 5 (nI (plS (S 17) (S 18) (S 20) (S 21) (S 23) (S 24) i).1)) (va_up (va_up S 23 (plS (S 17) (S 18) (S 20) (S 21) (S 23) (S 24) i).2.1) 24 (plS (S 17) (S 18) (S 20) (S 21) (S 23) (S 24) i).2.2) H.size (plS (S 17) (S 18) (S 20) (S 21) (S 23) (S 24) i).1 rfl (by omega)) (cw_X4_28 hts rfl rfl ⟨Nat.le_of_ble_eq_true rfl, Nat.le_of_ble_eq_true rfl⟩) (preVW (ci := 4) (q0 := 0) hK (hP.sub [0, 1, 2] rfl) (hD.sub [0, 1, 2] (by decide) rfl) rfl rfl) rfl rfl hl.1 rfl (lv_room (Nat.le_of_ble_eq_true rfl)) dX4_list_30 ⟨Nat.le_of_ble_eq_true rfl, Nat.le_of_ble_eq_true rfl⟩) hP hD hS hA [0, 1, 2] rfl [.inr 0, .inr 1, .inr 2, .inl 3, .inl 4, .inl 5, .inl 6, .inl 7, .inl 8] (by decide) (fun u => (wP cy ad (va_up I 5 (nI (plS (S 17) (S 18) (S 20) (S 21) (S 23) (S 24) i).1)) (va_up (va_up S 23 (plS (S 17) (S 18) (S 20) (S 21) (S 23) (S 24) i).2.1) 24 (if (plS (S 17) (S 18) (S 20) (S 21) (S 23) (S 24) i).1 = 0 then (plS (S 17) (S 18) (S 20) (S 21) (S 23) (S 24) i).2.2 else upd (plS (S 17) (S 18) (S 20) (S 21) (S 23) (S 24) i).2.2 ((plS (S 17) (S 18) (S 20) (S 21) (S 23) (S 24) i).1 - 1) ((plS (S 17) (S 18) (S 20) (S 21) (S 23) (S 24) i).2.2 ((plS (S 17) (S 18) (S 20) (S 21) (S 23) (S 24) i).1 - 1) + 1))) ++ wK cy ad 16 (va_up (va_up S 23 (plS (S 17) (S 18) (S 20) (S 21) (S 23) (S 24) i).2.1) 24 (if (plS (S 17) (S 18) (S 20) (S 21) (S 23) (S 24) i).1 = 0 then (plS (S 17) (S 18) (S 20) (S 21) (S 23) (S 24) i).2.2 else upd (plS (S 17) (S 18) (S 20) (S 21) (S 23) (S 24) i).2.2 ((plS (S 17) (S 18) (S 20) (S 21) (S 23) (S 24) i).1 - 1) ((plS (S 17) (S 18) (S 20) (S 21) (S 23) (S 24) i).2.2 ((plS (S 17) (S 18) (S 20) (S 21) (S 23) (S 24) i).1 - 1) + 1))) ++ wK cy ad 19 (va_up (va_up S 23 (plS (S 17) (S 18) (S 20) (S 21) (S 23) (S 24) i).2.1) 24 (if (plS (S 17) (S 18) (S 20) (S 21) (S 23) (S 24) i).1 = 0 then (plS (S 17) (S 18) (S 20) (S 21) (S 23) (S 24) i).2.2 else upd (plS (S 17) (S 18) (S 20) (S 21) (S 23) (S 24) i).2.2 ((plS (S 17) (S 18) (S 20) (S 21) (S 23) (S 24) i).1 - 1) ((plS (S 17) (S 18) (S 20) (S 21) (S 23) (S 24) i).2.2 ((plS (S 17) (S 18) (S 20) (S 21) (S 23) (S 24) i).1 - 1) + 1))))) (fun _ => rfl) (fun _ => rfl) (fun u30_7 H locs q30_7 hP hD hS hkp => ?_)
            have hP : va_P D clW (wP cy ad (va_up I 5 (nI (plS (S 17) (S 18) (S 20) (S 21) (S 23) (S 24) i).1)) (va_up (va_up S 23 (plS (S 17) (S 18) (S 20) (S 21) (S 23) (S 24) i).2.1) 24 (if (plS (S 17) (S 18) (S 20) (S 21) (S 23) (S 24) i).1 = 0 then (plS (S 17) (S 18) (S 20) (S 21) (S 23) (S 24) i).2.2 else upd (plS (S 17) (S 18) (S 20) (S 21) (S 23) (S 24) i).2.2 ((plS (S 17) (S 18) (S 20) (S 21) (S 23) (S 24) i).1 - 1) ((plS (S 17) (S 18) (S 20) (S 21) (S 23) (S 24) i).2.2 ((plS (S 17) (S 18) (S 20) (S 21) (S 23) (S 24) i).1 - 1) + 1))) ++ wK cy ad 16 (va_up (va_up S 23 (plS (S 17) (S 18) (S 20) (S 21) (S 23) (S 24) i).2.1) 24 (if (plS (S 17) (S 18) (S 20) (S 21) (S 23) (S 24) i).1 = 0 then (plS (S 17) (S 18) (S 20) (S 21) (S 23) (S 24) i).2.2 else upd (plS (S 17) (S 18) (S 20) (S 21) (S 23) (S 24) i).2.2 ((plS (S 17) (S 18) (S 20) (S 21) (S 23) (S 24) i).1 - 1) ((plS (S 17) (S 18) (S 20) (S 21) (S 23) (S 24) i).2.2 ((plS (S 17) (S 18) (S 20) (S 21) (S 23) (S 24) i).1 - 1) + 1))) ++ wK cy ad 19 (va_up (va_up S 23 (plS (S 17) (S 18) (S 20) (S 21) (S 23) (S 24) i).2.1) 24 (if (plS (S 17) (S 18) (S 20) (S 21) (S 23) (S 24) i).1 = 0 then (plS (S 17) (S 18) (S 20) (S 21) (S 23) (S 24) i).2.2 else upd (plS (S 17) (S 18) (S 20) (S 21) (S 23) (S 24) i).2.2 ((plS (S 17) (S 18) (S 20) (S 21) (S 23) (S 24) i).1 - 1) ((plS (S 17) (S 18) (S 20) (S 21) (S 23) (S 24) i).2.2 ((plS (S 17) (S 18) (S 20) (S 21) (S 23) (S 24) i).1 - 1) + 1)))) H := hP
            have hD : va_D A (wP cy ad (va_up I 5 (nI (plS (S 17) (S 18) (S 20) (S 21) (S 23) (S 24) i).1)) (va_up (va_up S 23 (plS (S 17) (S 18) (S 20) (S 21) (S 23) (S 24) i).2.1) 24 (if (plS (S 17) (S 18) (S 20) (S 21) (S 23) (S 24) i).1 = 0 then (plS (S 17) (S 18) (S 20) (S 21) (S 23) (S 24) i).2.2 else upd (plS (S 17) (S 18) (S 20) (S 21) (S 23) (S 24) i).2.2 ((plS (S 17) (S 18) (S 20) (S 21) (S 23) (S 24) i).1 - 1) ((plS (S 17) (S 18) (S 20) (S 21) (S 23) (S 24) i).2.2 ((plS (S 17) (S 18) (S 20) (S 21) (S 23) (S 24) i).1 - 1) + 1))) ++ wK cy ad 16 (va_up (va_up S 23 (plS (S 17) (S 18) (S 20) (S 21) (S 23) (S 24) i).2.1) 24 (if (plS (S 17) (S 18) (S 20) (S 21) (S 23) (S 24) i).1 = 0 then (plS (S 17) (S 18) (S 20) (S 21) (S 23) (S 24) i).2.2 else upd (plS (S 17) (S 18) (S 20) (S 21) (S 23) (S 24) i).2.2 ((plS (S 17) (S 18) (S 20) (S 21) (S 23) (S 24) i).1 - 1) ((plS (S 17) (S 18) (S 20) (S 21) (S 23) (S 24) i).2.2 ((plS (S 17) (S 18) (S 20) (S 21) (S 23) (S 24) i).1 - 1) + 1))) ++ wK cy ad 19 (va_up (va_up S 23 (plS (S 17) (S 18) (S 20) (S 21) (S 23) (S 24) i).2.1) 24 (if (plS (S 17) (S 18) (S 20) (S 21) (S 23) (S 24) i).1 = 0 then (plS (S 17) (S 18) (S 20) (S 21) (S 23) (S 24) i).2.2 else upd (plS (S 17) (S 18) (S 20) (S 21) (S 23) (S 24) i).2.2 ((plS (S 17) (S 18) (S 20) (S 21) (S 23) (S 24) i).1 - 1) ((plS (S 17) (S 18) (S 20) (S 21) (S 23) (S 24) i).2.2 ((plS (S 17) (S 18) (S 20) (S 21) (S 23) (S 24) i).1 - 1) + 1)))) := hD
            refine lv_goto (tgt := 57) hx hb dX4_list_33 (by decide) ?_
            refine lv_iinc (v := (nI (i + 1))) (lv' := [(3, .int (nI (i + 1))), (0, .ref (ad 22)), (1, .ref (ad 16)), (2, .ref (ad 19))]) hx hb dX4_list_57 hl (k := 0) rfl (nI_1 i) (by decide) rfl (fun ls hl => ?_)
            refine lv_goto (tgt := 7) hx hb dX4_list_60 (by decide) ?_
            have e_8 : (nI (plS (S 17) (S 18) (S 20) (S 21) (S 23) (S 24) i).1) = (nI (plS (S 17) (S 18) (S 20) (S 21) (S 23) (S 24) (i + 1)).1) := (by rw [(plS_a b15_5 b23_6)])
            have e_9 : (plS (S 17) (S 18) (S 20) (S 21) (S 23) (S 24) i).2.1 = (plS (S 17) (S 18) (S 20) (S 21) (S 23) (S 24) (i + 1)).2.1 := (by rw [(plS_a b15_5 b23_6)])
            have e_10 : (if (plS (S 17) (S 18) (S 20) (S 21) (S 23) (S 24) i).1 = 0 then (plS (S 17) (S 18) (S 20) (S 21) (S 23) (S 24) i).2.2 else upd (plS (S 17) (S 18) (S 20) (S 21) (S 23) (S 24) i).2.2 ((plS (S 17) (S 18) (S 20) (S 21) (S 23) (S 24) i).1 - 1) ((plS (S 17) (S 18) (S 20) (S 21) (S 23) (S 24) i).2.2 ((plS (S 17) (S 18) (S 20) (S 21) (S 23) (S 24) i).1 - 1) + 1)) = (plS (S 17) (S 18) (S 20) (S 21) (S 23) (S 24) (i + 1)).2.2 := (by rw [(plS_a b15_5 b23_6)])
            have hP : va_P D clW (wP cy ad (va_up I 5 (nI (plS (S 17) (S 18) (S 20) (S 21) (S 23) (S 24) (i + 1)).1)) (va_up (va_up S 23 (plS (S 17) (S 18) (S 20) (S 21) (S 23) (S 24) (i + 1)).2.1) 24 (plS (S 17) (S 18) (S 20) (S 21) (S 23) (S 24) (i + 1)).2.2) ++ wK cy ad 16 (va_up (va_up S 23 (plS (S 17) (S 18) (S 20) (S 21) (S 23) (S 24) (i + 1)).2.1) 24 (plS (S 17) (S 18) (S 20) (S 21) (S 23) (S 24) (i + 1)).2.2) ++ wK cy ad 19 (va_up (va_up S 23 (plS (S 17) (S 18) (S 20) (S 21) (S 23) (S 24) (i + 1)).2.1) 24 (plS (S 17) (S 18) (S 20) (S 21) (S 23) (S 24) (i + 1)).2.2)) H := by rw [← e_8, ← e_9, ← e_10]; exact hP
            have hD : va_D A (wP cy ad (va_up I 5 (nI (plS (S 17) (S 18) (S 20) (S 21) (S 23) (S 24) (i + 1)).1)) (va_up (va_up S 23 (plS (S 17) (S 18) (S 20) (S 21) (S 23) (S 24) (i + 1)).2.1) 24 (plS (S 17) (S 18) (S 20) (S 21) (S 23) (S 24) (i + 1)).2.2) ++ wK cy ad 16 (va_up (va_up S 23 (plS (S 17) (S 18) (S 20) (S 21) (S 23) (S 24) (i + 1)).2.1) 24 (plS (S 17) (S 18) (S 20) (S 21) (S 23) (S 24) (i + 1)).2.2) ++ wK cy ad 19 (va_up (va_up S 23 (plS (S 17) (S 18) (S 20) (S 21) (S 23) (S 24) (i + 1)).2.1) 24 (plS (S 17) (S 18) (S 20) (S 21) (S 23) (S 24) (i + 1)).2.2)) := hD.addr rfl
            exact ih7 (i + 1) (by omega) (by omega) _ _ hP hD hS ls (lv_sub hl [0, 1, 2, 3] rfl)
          · refine lv_if_eq (tgt := 36) hx hb dX4_list_26 (by decide) (fun _ => ?_) (fun c => absurd (by decide) c)
            refine lv_aload_n hx hb dX4_list_36 rfl (lv_at hl 2 rfl) ?_
            refine lv_iload_n hx hb dX4_list_37 rfl (lv_at hl 0 rfl) ?_
            refine rZ_call (P := kb ((S 17)) (nI i) = true) (va_runV (As := [.int (nI i)]) (rest := []) ⟨hx, hb, hml, hown, hts⟩ (c_X1_has_16 l D cy ad (va_up (va_up S 23 (plS (S 17) (S 18) (S 20) (S 21) (S 23) (S 24) i).2.1) 24 (plS (S 17) (S 18) (S 20) (S 21) (S 23) (S 24) i).2.2) (nI i)) (cw_X4_31 hts rfl rfl ⟨Nat.le_of_ble_eq_true rfl, Nat.le_of_ble_eq_true rfl⟩) (preVR (ci := 1) (q0 := 0) hK (hP.sub [3, 4, 5] rfl) rfl rfl) rfl rfl hl.1 rfl (lv_room (Nat.le_of_ble_eq_true rfl)) dX4_list_38 ⟨Nat.le_of_ble_eq_true rfl, Nat.le_of_ble_eq_true rfl⟩) (fun b38_11 => ?_) (fun b38_11 => ?_)
            · refine lv_if_eq (tgt := 57) hx hb dX4_list_41 (by decide) (fun c => absurd c (by decide)) (fun _ => ?_)
              refine lv_aload_n hx hb dX4_list_44 rfl (lv_at hl 3 rfl) ?_
              refine lv_iload_n hx hb dX4_list_45 rfl (lv_at hl 0 rfl) ?_
              refine rZ_call (P := kb ((S 20)) (nI i) = true) (va_runV (As := [.int (nI i)]) (rest := []) ⟨hx, hb, hml, hown, hts⟩ (c_X1_has_19 l D cy ad (va_up (va_up S 23 (plS (S 17) (S 18) (S 20) (S 21) (S 23) (S 24) i).2.1) 24 (plS (S 17) (S 18) (S 20) (S 21) (S 23) (S 24) i).2.2) (nI i)) (cw_X4_31 hts rfl rfl ⟨Nat.le_of_ble_eq_true rfl, Nat.le_of_ble_eq_true rfl⟩) (preVR (ci := 1) (q0 := 0) hK (hP.sub [6, 7, 8] rfl) rfl rfl) rfl rfl hl.1 rfl (lv_room (Nat.le_of_ble_eq_true rfl)) dX4_list_46 ⟨Nat.le_of_ble_eq_true rfl, Nat.le_of_ble_eq_true rfl⟩) (fun b46_12 => ?_) (fun b46_12 => ?_)
              · refine lv_if_eq (tgt := 57) hx hb dX4_list_49 (by decide) (fun c => absurd c (by decide)) (fun _ => ?_)
                refine lv_aload_n hx hb dX4_list_52 rfl (lv_at hl 1 rfl) ?_
                refine lv_iload_n hx hb dX4_list_53 rfl (lv_at hl 0 rfl) ?_
                refine wV_call (va_runV (As := [.int (nI i)]) (rest := []) ⟨hx, hb, hml, hown, hts⟩ (c_X4_begin l D cy ad (va_up I 5 (nI (plS (S 17) (S 18) (S 20) (S 21) (S 23) (S 24) i).1)) (va_up (va_up S 23 (plS (S 17) (S 18) (S 20) (S 21) (S 23) (S 24) i).2.1) 24 (plS (S 17) (S 18) (S 20) (S 21) (S 23) (S 24) i).2.2) H.size i (plS (S 17) (S 18) (S 20) (S 21) (S 23) (S 24) i).1 rfl (by omega)) (cw_X4_34 hts rfl rfl ⟨Nat.le_of_ble_eq_true rfl, Nat.le_of_ble_eq_true rfl⟩) (preVW (ci := 4) (q0 := 0) hK (hP.sub [0, 1, 2] rfl) (hD.sub [0, 1, 2] (by decide) rfl) rfl rfl) rfl rfl hl.1 rfl (lv_room (Nat.le_of_ble_eq_true rfl)) dX4_list_54 ⟨Nat.le_of_ble_eq_true rfl, Nat.le_of_ble_eq_true rfl⟩) hP hD hS hA [0, 1, 2] rfl [.inr 0, .inr 1, .inr 2, .inl 3, .inl 4, .inl 5, .inl 6, .inl 7, .inl 8] (by decide) (fun u => (wP cy ad (va_up I 5 (nI ((plS (S 17) (S 18) (S 20) (S 21) (S 23) (S 24) i).1 + 1))) (va_up (va_up S 23 (upd (plS (S 17) (S 18) (S 20) (S 21) (S 23) (S 24) i).2.1 (plS (S 17) (S 18) (S 20) (S 21) (S 23) (S 24) i).1 (nI i))) 24 (upd (plS (S 17) (S 18) (S 20) (S 21) (S 23) (S 24) i).2.2 (plS (S 17) (S 18) (S 20) (S 21) (S 23) (S 24) i).1 (nI (i + 1)))) ++ wK cy ad 16 (va_up (va_up S 23 (upd (plS (S 17) (S 18) (S 20) (S 21) (S 23) (S 24) i).2.1 (plS (S 17) (S 18) (S 20) (S 21) (S 23) (S 24) i).1 (nI i))) 24 (upd (plS (S 17) (S 18) (S 20) (S 21) (S 23) (S 24) i).2.2 (plS (S 17) (S 18) (S 20) (S 21) (S 23) (S 24) i).1 (nI (i + 1)))) ++ wK cy ad 19 (va_up (va_up S 23 (upd (plS (S 17) (S 18) (S 20) (S 21) (S 23) (S 24) i).2.1 (plS (S 17) (S 18) (S 20) (S 21) (S 23) (S 24) i).1 (nI i))) 24 (upd (plS (S 17) (S 18) (S 20) (S 21) (S 23) (S 24) i).2.2 (plS (S 17) (S 18) (S 20) (S 21) (S 23) (S 24) i).1 (nI (i + 1)))))) (fun _ => rfl) (fun _ => rfl) (fun u54_13 H locs q54_13 hP hD hS hkp => ?_)
                have hP : va_P D clW (wP cy ad (va_up I 5 (nI ((plS (S 17) (S 18) (S 20) (S 21) (S 23) (S 24) i).1 + 1))) (va_up (va_up S 23 (upd (plS (S 17) (S 18) (S 20) (S 21) (S 23) (S 24) i).2.1 (plS (S 17) (S 18) (S 20) (S 21) (S 23) (S 24) i).1 (nI i))) 24 (upd (plS (S 17) (S 18) (S 20) (S 21) (S 23) (S 24) i).2.2 (plS (S 17) (S 18) (S 20) (S 21) (S 23) (S 24) i).1 (nI (i + 1)))) ++ wK cy ad 16 (va_up (va_up S 23 (upd (plS (S 17) (S 18) (S 20) (S 21) (S 23) (S 24) i).2.1 (plS (S 17) (S 18) (S 20) (S 21) (S 23) (S 24) i).1 (nI i))) 24 (upd (plS (S 17) (S 18) (S 20) (S 21) (S 23) (S 24) i).2.2 (plS (S 17) (S 18) (S 20) (S 21) (S 23) (S 24) i).1 (nI (i + 1)))) ++ wK cy ad 19 (va_up (va_up S 23 (upd (plS (S 17) (S 18) (S 20) (S 21) (S 23) (S 24) i).2.1 (plS (S 17) (S 18) (S 20) (S 21) (S 23) (S 24) i).1 (nI i))) 24 (upd (plS (S 17) (S 18) (S 20) (S 21) (S 23) (S 24) i).2.2 (plS (S 17) (S 18) (S 20) (S 21) (S 23) (S 24) i).1 (nI (i + 1))))) H := hP
                have hD : va_D A (wP cy ad (va_up I 5 (nI ((plS (S 17) (S 18) (S 20) (S 21) (S 23) (S 24) i).1 + 1))) (va_up (va_up S 23 (upd (plS (S 17) (S 18) (S 20) (S 21) (S 23) (S 24) i).2.1 (plS (S 17) (S 18) (S 20) (S 21) (S 23) (S 24) i).1 (nI i))) 24 (upd (plS (S 17) (S 18) (S 20) (S 21) (S 23) (S 24) i).2.2 (plS (S 17) (S 18) (S 20) (S 21) (S 23) (S 24) i).1 (nI (i + 1)))) ++ wK cy ad 16 (va_up (va_up S 23 (upd (plS (S 17) (S 18) (S 20) (S 21) (S 23) (S 24) i).2.1 (plS (S 17) (S 18) (S 20) (S 21) (S 23) (S 24) i).1 (nI i))) 24 (upd (plS (S 17) (S 18) (S 20) (S 21) (S 23) (S 24) i).2.2 (plS (S 17) (S 18) (S 20) (S 21) (S 23) (S 24) i).1 (nI (i + 1)))) ++ wK cy ad 19 (va_up (va_up S 23 (upd (plS (S 17) (S 18) (S 20) (S 21) (S 23) (S 24) i).2.1 (plS (S 17) (S 18) (S 20) (S 21) (S 23) (S 24) i).1 (nI i))) 24 (upd (plS (S 17) (S 18) (S 20) (S 21) (S 23) (S 24) i).2.2 (plS (S 17) (S 18) (S 20) (S 21) (S 23) (S 24) i).1 (nI (i + 1))))) := hD
                refine lv_iinc (v := (nI (i + 1))) (lv' := [(3, .int (nI (i + 1))), (0, .ref (ad 22)), (1, .ref (ad 16)), (2, .ref (ad 19))]) hx hb dX4_list_57 hl (k := 0) rfl (nI_1 i) (by decide) rfl (fun ls hl => ?_)
                refine lv_goto (tgt := 7) hx hb dX4_list_60 (by decide) ?_
                have e_14 : (nI ((plS (S 17) (S 18) (S 20) (S 21) (S 23) (S 24) i).1 + 1)) = (nI (plS (S 17) (S 18) (S 20) (S 21) (S 23) (S 24) (i + 1)).1) := (by rw [(plS_b (fun h => b23_6 h.2) b38_11 b46_12)])
                have e_15 : (upd (plS (S 17) (S 18) (S 20) (S 21) (S 23) (S 24) i).2.1 (plS (S 17) (S 18) (S 20) (S 21) (S 23) (S 24) i).1 (nI i)) = (plS (S 17) (S 18) (S 20) (S 21) (S 23) (S 24) (i + 1)).2.1 := (by rw [(plS_b (fun h => b23_6 h.2) b38_11 b46_12)])
                have e_16 : (upd (plS (S 17) (S 18) (S 20) (S 21) (S 23) (S 24) i).2.2 (plS (S 17) (S 18) (S 20) (S 21) (S 23) (S 24) i).1 (nI (i + 1))) = (plS (S 17) (S 18) (S 20) (S 21) (S 23) (S 24) (i + 1)).2.2 := (by rw [(plS_b (fun h => b23_6 h.2) b38_11 b46_12)])
                have hP : va_P D clW (wP cy ad (va_up I 5 (nI (plS (S 17) (S 18) (S 20) (S 21) (S 23) (S 24) (i + 1)).1)) (va_up (va_up S 23 (plS (S 17) (S 18) (S 20) (S 21) (S 23) (S 24) (i + 1)).2.1) 24 (plS (S 17) (S 18) (S 20) (S 21) (S 23) (S 24) (i + 1)).2.2) ++ wK cy ad 16 (va_up (va_up S 23 (plS (S 17) (S 18) (S 20) (S 21) (S 23) (S 24) (i + 1)).2.1) 24 (plS (S 17) (S 18) (S 20) (S 21) (S 23) (S 24) (i + 1)).2.2) ++ wK cy ad 19 (va_up (va_up S 23 (plS (S 17) (S 18) (S 20) (S 21) (S 23) (S 24) (i + 1)).2.1) 24 (plS (S 17) (S 18) (S 20) (S 21) (S 23) (S 24) (i + 1)).2.2)) H := by rw [← e_14, ← e_15, ← e_16]; exact hP
                have hD : va_D A (wP cy ad (va_up I 5 (nI (plS (S 17) (S 18) (S 20) (S 21) (S 23) (S 24) (i + 1)).1)) (va_up (va_up S 23 (plS (S 17) (S 18) (S 20) (S 21) (S 23) (S 24) (i + 1)).2.1) 24 (plS (S 17) (S 18) (S 20) (S 21) (S 23) (S 24) (i + 1)).2.2) ++ wK cy ad 16 (va_up (va_up S 23 (plS (S 17) (S 18) (S 20) (S 21) (S 23) (S 24) (i + 1)).2.1) 24 (plS (S 17) (S 18) (S 20) (S 21) (S 23) (S 24) (i + 1)).2.2) ++ wK cy ad 19 (va_up (va_up S 23 (plS (S 17) (S 18) (S 20) (S 21) (S 23) (S 24) (i + 1)).2.1) 24 (plS (S 17) (S 18) (S 20) (S 21) (S 23) (S 24) (i + 1)).2.2)) := hD.addr rfl
                exact ih7 (i + 1) (by omega) (by omega) _ _ hP hD hS ls (lv_sub hl [0, 1, 2, 3] rfl)
              · refine lv_if_eq (tgt := 57) hx hb dX4_list_49 (by decide) (fun _ => ?_) (fun c => absurd (by decide) c)
                refine lv_iinc (v := (nI (i + 1))) (lv' := [(3, .int (nI (i + 1))), (0, .ref (ad 22)), (1, .ref (ad 16)), (2, .ref (ad 19))]) hx hb dX4_list_57 hl (k := 0) rfl (nI_1 i) (by decide) rfl (fun ls hl => ?_)
                refine lv_goto (tgt := 7) hx hb dX4_list_60 (by decide) ?_
                have e_17 : (nI (plS (S 17) (S 18) (S 20) (S 21) (S 23) (S 24) i).1) = (nI (plS (S 17) (S 18) (S 20) (S 21) (S 23) (S 24) (i + 1)).1) := (by rw [(plS_c (fun h => b23_6 h.2) (fun h => b46_12 h.2))])
                have e_18 : (plS (S 17) (S 18) (S 20) (S 21) (S 23) (S 24) i).2.1 = (plS (S 17) (S 18) (S 20) (S 21) (S 23) (S 24) (i + 1)).2.1 := (by rw [(plS_c (fun h => b23_6 h.2) (fun h => b46_12 h.2))])
                have e_19 : (plS (S 17) (S 18) (S 20) (S 21) (S 23) (S 24) i).2.2 = (plS (S 17) (S 18) (S 20) (S 21) (S 23) (S 24) (i + 1)).2.2 := (by rw [(plS_c (fun h => b23_6 h.2) (fun h => b46_12 h.2))])
                have hP : va_P D clW (wP cy ad (va_up I 5 (nI (plS (S 17) (S 18) (S 20) (S 21) (S 23) (S 24) (i + 1)).1)) (va_up (va_up S 23 (plS (S 17) (S 18) (S 20) (S 21) (S 23) (S 24) (i + 1)).2.1) 24 (plS (S 17) (S 18) (S 20) (S 21) (S 23) (S 24) (i + 1)).2.2) ++ wK cy ad 16 (va_up (va_up S 23 (plS (S 17) (S 18) (S 20) (S 21) (S 23) (S 24) (i + 1)).2.1) 24 (plS (S 17) (S 18) (S 20) (S 21) (S 23) (S 24) (i + 1)).2.2) ++ wK cy ad 19 (va_up (va_up S 23 (plS (S 17) (S 18) (S 20) (S 21) (S 23) (S 24) (i + 1)).2.1) 24 (plS (S 17) (S 18) (S 20) (S 21) (S 23) (S 24) (i + 1)).2.2)) H := by rw [← e_17, ← e_18, ← e_19]; exact hP
                have hD : va_D A (wP cy ad (va_up I 5 (nI (plS (S 17) (S 18) (S 20) (S 21) (S 23) (S 24) (i + 1)).1)) (va_up (va_up S 23 (plS (S 17) (S 18) (S 20) (S 21) (S 23) (S 24) (i + 1)).2.1) 24 (plS (S 17) (S 18) (S 20) (S 21) (S 23) (S 24) (i + 1)).2.2) ++ wK cy ad 16 (va_up (va_up S 23 (plS (S 17) (S 18) (S 20) (S 21) (S 23) (S 24) (i + 1)).2.1) 24 (plS (S 17) (S 18) (S 20) (S 21) (S 23) (S 24) (i + 1)).2.2) ++ wK cy ad 19 (va_up (va_up S 23 (plS (S 17) (S 18) (S 20) (S 21) (S 23) (S 24) (i + 1)).2.1) 24 (plS (S 17) (S 18) (S 20) (S 21) (S 23) (S 24) (i + 1)).2.2)) := hD.addr rfl
                exact ih7 (i + 1) (by omega) (by omega) _ _ hP hD hS ls (lv_sub hl [0, 1, 2, 3] rfl)
            · refine lv_if_eq (tgt := 57) hx hb dX4_list_41 (by decide) (fun _ => ?_) (fun c => absurd (by decide) c)
              refine lv_iinc (v := (nI (i + 1))) (lv' := [(3, .int (nI (i + 1))), (0, .ref (ad 22)), (1, .ref (ad 16)), (2, .ref (ad 19))]) hx hb dX4_list_57 hl (k := 0) rfl (nI_1 i) (by decide) rfl (fun ls hl => ?_)
              refine lv_goto (tgt := 7) hx hb dX4_list_60 (by decide) ?_
              have e_20 : (nI (plS (S 17) (S 18) (S 20) (S 21) (S 23) (S 24) i).1) = (nI (plS (S 17) (S 18) (S 20) (S 21) (S 23) (S 24) (i + 1)).1) := (by rw [(plS_c (fun h => b23_6 h.2) (fun h => b38_11 h.1))])
              have e_21 : (plS (S 17) (S 18) (S 20) (S 21) (S 23) (S 24) i).2.1 = (plS (S 17) (S 18) (S 20) (S 21) (S 23) (S 24) (i + 1)).2.1 := (by rw [(plS_c (fun h => b23_6 h.2) (fun h => b38_11 h.1))])
              have e_22 : (plS (S 17) (S 18) (S 20) (S 21) (S 23) (S 24) i).2.2 = (plS (S 17) (S 18) (S 20) (S 21) (S 23) (S 24) (i + 1)).2.2 := (by rw [(plS_c (fun h => b23_6 h.2) (fun h => b38_11 h.1))])
              have hP : va_P D clW (wP cy ad (va_up I 5 (nI (plS (S 17) (S 18) (S 20) (S 21) (S 23) (S 24) (i + 1)).1)) (va_up (va_up S 23 (plS (S 17) (S 18) (S 20) (S 21) (S 23) (S 24) (i + 1)).2.1) 24 (plS (S 17) (S 18) (S 20) (S 21) (S 23) (S 24) (i + 1)).2.2) ++ wK cy ad 16 (va_up (va_up S 23 (plS (S 17) (S 18) (S 20) (S 21) (S 23) (S 24) (i + 1)).2.1) 24 (plS (S 17) (S 18) (S 20) (S 21) (S 23) (S 24) (i + 1)).2.2) ++ wK cy ad 19 (va_up (va_up S 23 (plS (S 17) (S 18) (S 20) (S 21) (S 23) (S 24) (i + 1)).2.1) 24 (plS (S 17) (S 18) (S 20) (S 21) (S 23) (S 24) (i + 1)).2.2)) H := by rw [← e_20, ← e_21, ← e_22]; exact hP
              have hD : va_D A (wP cy ad (va_up I 5 (nI (plS (S 17) (S 18) (S 20) (S 21) (S 23) (S 24) (i + 1)).1)) (va_up (va_up S 23 (plS (S 17) (S 18) (S 20) (S 21) (S 23) (S 24) (i + 1)).2.1) 24 (plS (S 17) (S 18) (S 20) (S 21) (S 23) (S 24) (i + 1)).2.2) ++ wK cy ad 16 (va_up (va_up S 23 (plS (S 17) (S 18) (S 20) (S 21) (S 23) (S 24) (i + 1)).2.1) 24 (plS (S 17) (S 18) (S 20) (S 21) (S 23) (S 24) (i + 1)).2.2) ++ wK cy ad 19 (va_up (va_up S 23 (plS (S 17) (S 18) (S 20) (S 21) (S 23) (S 24) (i + 1)).2.1) 24 (plS (S 17) (S 18) (S 20) (S 21) (S 23) (S 24) (i + 1)).2.2)) := hD.addr rfl
              exact ih7 (i + 1) (by omega) (by omega) _ _ hP hD hS ls (lv_sub hl [0, 1, 2, 3] rfl)
        · refine lv_if_eq (tgt := 36) hx hb dX4_list_18 (by decide) (fun _ => ?_) (fun c => absurd (by decide) c)
          refine lv_aload_n hx hb dX4_list_36 rfl (lv_at hl 2 rfl) ?_
          refine lv_iload_n hx hb dX4_list_37 rfl (lv_at hl 0 rfl) ?_
          refine rZ_call (P := kb ((S 17)) (nI i) = true) (va_runV (As := [.int (nI i)]) (rest := []) ⟨hx, hb, hml, hown, hts⟩ (c_X1_has_16 l D cy ad (va_up (va_up S 23 (plS (S 17) (S 18) (S 20) (S 21) (S 23) (S 24) i).2.1) 24 (plS (S 17) (S 18) (S 20) (S 21) (S 23) (S 24) i).2.2) (nI i)) (cw_X4_31 hts rfl rfl ⟨Nat.le_of_ble_eq_true rfl, Nat.le_of_ble_eq_true rfl⟩) (preVR (ci := 1) (q0 := 0) hK (hP.sub [3, 4, 5] rfl) rfl rfl) rfl rfl hl.1 rfl (lv_room (Nat.le_of_ble_eq_true rfl)) dX4_list_38 ⟨Nat.le_of_ble_eq_true rfl, Nat.le_of_ble_eq_true rfl⟩) (fun b38_23 => ?_) (fun b38_23 => ?_)
          · refine lv_if_eq (tgt := 57) hx hb dX4_list_41 (by decide) (fun c => absurd c (by decide)) (fun _ => ?_)
            refine lv_aload_n hx hb dX4_list_44 rfl (lv_at hl 3 rfl) ?_
            refine lv_iload_n hx hb dX4_list_45 rfl (lv_at hl 0 rfl) ?_
            refine rZ_call (P := kb ((S 20)) (nI i) = true) (va_runV (As := [.int (nI i)]) (rest := []) ⟨hx, hb, hml, hown, hts⟩ (c_X1_has_19 l D cy ad (va_up (va_up S 23 (plS (S 17) (S 18) (S 20) (S 21) (S 23) (S 24) i).2.1) 24 (plS (S 17) (S 18) (S 20) (S 21) (S 23) (S 24) i).2.2) (nI i)) (cw_X4_31 hts rfl rfl ⟨Nat.le_of_ble_eq_true rfl, Nat.le_of_ble_eq_true rfl⟩) (preVR (ci := 1) (q0 := 0) hK (hP.sub [6, 7, 8] rfl) rfl rfl) rfl rfl hl.1 rfl (lv_room (Nat.le_of_ble_eq_true rfl)) dX4_list_46 ⟨Nat.le_of_ble_eq_true rfl, Nat.le_of_ble_eq_true rfl⟩) (fun b46_24 => ?_) (fun b46_24 => ?_)
            · refine lv_if_eq (tgt := 57) hx hb dX4_list_49 (by decide) (fun c => absurd c (by decide)) (fun _ => ?_)
              refine lv_aload_n hx hb dX4_list_52 rfl (lv_at hl 1 rfl) ?_
              refine lv_iload_n hx hb dX4_list_53 rfl (lv_at hl 0 rfl) ?_
              refine wV_call (va_runV (As := [.int (nI i)]) (rest := []) ⟨hx, hb, hml, hown, hts⟩ (c_X4_begin l D cy ad (va_up I 5 (nI (plS (S 17) (S 18) (S 20) (S 21) (S 23) (S 24) i).1)) (va_up (va_up S 23 (plS (S 17) (S 18) (S 20) (S 21) (S 23) (S 24) i).2.1) 24 (plS (S 17) (S 18) (S 20) (S 21) (S 23) (S 24) i).2.2) H.size i (plS (S 17) (S 18) (S 20) (S 21) (S 23) (S 24) i).1 rfl (by omega)) (cw_X4_34 hts rfl rfl ⟨Nat.le_of_ble_eq_true rfl, Nat.le_of_ble_eq_true rfl⟩) (preVW (ci := 4) (q0 := 0) hK (hP.sub [0, 1, 2] rfl) (hD.sub [0, 1, 2] (by decide) rfl) rfl rfl) rfl rfl hl.1 rfl (lv_room (Nat.le_of_ble_eq_true rfl)) dX4_list_54 ⟨Nat.le_of_ble_eq_true rfl, Nat.le_of_ble_eq_true rfl⟩) hP hD hS hA [0, 1, 2] rfl [.inr 0, .inr 1, .inr 2, .inl 3, .inl 4, .inl 5, .inl 6, .inl 7, .inl 8] (by decide) (fun u => (wP cy ad (va_up I 5 (nI ((plS (S 17) (S 18) (S 20) (S 21) (S 23) (S 24) i).1 + 1))) (va_up (va_up S 23 (upd (plS (S 17) (S 18) (S 20) (S 21) (S 23) (S 24) i).2.1 (plS (S 17) (S 18) (S 20) (S 21) (S 23) (S 24) i).1 (nI i))) 24 (upd (plS (S 17) (S 18) (S 20) (S 21) (S 23) (S 24) i).2.2 (plS (S 17) (S 18) (S 20) (S 21) (S 23) (S 24) i).1 (nI (i + 1)))) ++ wK cy ad 16 (va_up (va_up S 23 (upd (plS (S 17) (S 18) (S 20) (S 21) (S 23) (S 24) i).2.1 (plS (S 17) (S 18) (S 20) (S 21) (S 23) (S 24) i).1 (nI i))) 24 (upd (plS (S 17) (S 18) (S 20) (S 21) (S 23) (S 24) i).2.2 (plS (S 17) (S 18) (S 20) (S 21) (S 23) (S 24) i).1 (nI (i + 1)))) ++ wK cy ad 19 (va_up (va_up S 23 (upd (plS (S 17) (S 18) (S 20) (S 21) (S 23) (S 24) i).2.1 (plS (S 17) (S 18) (S 20) (S 21) (S 23) (S 24) i).1 (nI i))) 24 (upd (plS (S 17) (S 18) (S 20) (S 21) (S 23) (S 24) i).2.2 (plS (S 17) (S 18) (S 20) (S 21) (S 23) (S 24) i).1 (nI (i + 1)))))) (fun _ => rfl) (fun _ => rfl) (fun u54_25 H locs q54_25 hP hD hS hkp => ?_)
              have hP : va_P D clW (wP cy ad (va_up I 5 (nI ((plS (S 17) (S 18) (S 20) (S 21) (S 23) (S 24) i).1 + 1))) (va_up (va_up S 23 (upd (plS (S 17) (S 18) (S 20) (S 21) (S 23) (S 24) i).2.1 (plS (S 17) (S 18) (S 20) (S 21) (S 23) (S 24) i).1 (nI i))) 24 (upd (plS (S 17) (S 18) (S 20) (S 21) (S 23) (S 24) i).2.2 (plS (S 17) (S 18) (S 20) (S 21) (S 23) (S 24) i).1 (nI (i + 1)))) ++ wK cy ad 16 (va_up (va_up S 23 (upd (plS (S 17) (S 18) (S 20) (S 21) (S 23) (S 24) i).2.1 (plS (S 17) (S 18) (S 20) (S 21) (S 23) (S 24) i).1 (nI i))) 24 (upd (plS (S 17) (S 18) (S 20) (S 21) (S 23) (S 24) i).2.2 (plS (S 17) (S 18) (S 20) (S 21) (S 23) (S 24) i).1 (nI (i + 1)))) ++ wK cy ad 19 (va_up (va_up S 23 (upd (plS (S 17) (S 18) (S 20) (S 21) (S 23) (S 24) i).2.1 (plS (S 17) (S 18) (S 20) (S 21) (S 23) (S 24) i).1 (nI i))) 24 (upd (plS (S 17) (S 18) (S 20) (S 21) (S 23) (S 24) i).2.2 (plS (S 17) (S 18) (S 20) (S 21) (S 23) (S 24) i).1 (nI (i + 1))))) H := hP
              have hD : va_D A (wP cy ad (va_up I 5 (nI ((plS (S 17) (S 18) (S 20) (S 21) (S 23) (S 24) i).1 + 1))) (va_up (va_up S 23 (upd (plS (S 17) (S 18) (S 20) (S 21) (S 23) (S 24) i).2.1 (plS (S 17) (S 18) (S 20) (S 21) (S 23) (S 24) i).1 (nI i))) 24 (upd (plS (S 17) (S 18) (S 20) (S 21) (S 23) (S 24) i).2.2 (plS (S 17) (S 18) (S 20) (S 21) (S 23) (S 24) i).1 (nI (i + 1)))) ++ wK cy ad 16 (va_up (va_up S 23 (upd (plS (S 17) (S 18) (S 20) (S 21) (S 23) (S 24) i).2.1 (plS (S 17) (S 18) (S 20) (S 21) (S 23) (S 24) i).1 (nI i))) 24 (upd (plS (S 17) (S 18) (S 20) (S 21) (S 23) (S 24) i).2.2 (plS (S 17) (S 18) (S 20) (S 21) (S 23) (S 24) i).1 (nI (i + 1)))) ++ wK cy ad 19 (va_up (va_up S 23 (upd (plS (S 17) (S 18) (S 20) (S 21) (S 23) (S 24) i).2.1 (plS (S 17) (S 18) (S 20) (S 21) (S 23) (S 24) i).1 (nI i))) 24 (upd (plS (S 17) (S 18) (S 20) (S 21) (S 23) (S 24) i).2.2 (plS (S 17) (S 18) (S 20) (S 21) (S 23) (S 24) i).1 (nI (i + 1))))) := hD
              refine lv_iinc (v := (nI (i + 1))) (lv' := [(3, .int (nI (i + 1))), (0, .ref (ad 22)), (1, .ref (ad 16)), (2, .ref (ad 19))]) hx hb dX4_list_57 hl (k := 0) rfl (nI_1 i) (by decide) rfl (fun ls hl => ?_)
              refine lv_goto (tgt := 7) hx hb dX4_list_60 (by decide) ?_
              have e_26 : (nI ((plS (S 17) (S 18) (S 20) (S 21) (S 23) (S 24) i).1 + 1)) = (nI (plS (S 17) (S 18) (S 20) (S 21) (S 23) (S 24) (i + 1)).1) := (by rw [(plS_b (fun h => b15_5 h.1) b38_23 b46_24)])
              have e_27 : (upd (plS (S 17) (S 18) (S 20) (S 21) (S 23) (S 24) i).2.1 (plS (S 17) (S 18) (S 20) (S 21) (S 23) (S 24) i).1 (nI i)) = (plS (S 17) (S 18) (S 20) (S 21) (S 23) (S 24) (i + 1)).2.1 := (by rw [(plS_b (fun h => b15_5 h.1) b38_23 b46_24)])
              have e_28 : (upd (plS (S 17) (S 18) (S 20) (S 21) (S 23) (S 24) i).2.2 (plS (S 17) (S 18) (S 20) (S 21) (S 23) (S 24) i).1 (nI (i + 1))) = (plS (S 17) (S 18) (S 20) (S 21) (S 23) (S 24) (i + 1)).2.2 := (by rw [(plS_b (fun h => b15_5 h.1) b38_23 b46_24)])
              have hP : va_P D clW (wP cy ad (va_up I 5 (nI (plS (S 17) (S 18) (S 20) (S 21) (S 23) (S 24) (i + 1)).1)) (va_up (va_up S 23 (plS (S 17) (S 18) (S 20) (S 21) (S 23) (S 24) (i + 1)).2.1) 24 (plS (S 17) (S 18) (S 20) (S 21) (S 23) (S 24) (i + 1)).2.2) ++ wK cy ad 16 (va_up (va_up S 23 (plS (S 17) (S 18) (S 20) (S 21) (S 23) (S 24) (i + 1)).2.1) 24 (plS (S 17) (S 18) (S 20) (S 21) (S 23) (S 24) (i + 1)).2.2) ++ wK cy ad 19 (va_up (va_up S 23 (plS (S 17) (S 18) (S 20) (S 21) (S 23) (S 24) (i + 1)).2.1) 24 (plS (S 17) (S 18) (S 20) (S 21) (S 23) (S 24) (i + 1)).2.2)) H := by rw [← e_26, ← e_27, ← e_28]; exact hP
              have hD : va_D A (wP cy ad (va_up I 5 (nI (plS (S 17) (S 18) (S 20) (S 21) (S 23) (S 24) (i + 1)).1)) (va_up (va_up S 23 (plS (S 17) (S 18) (S 20) (S 21) (S 23) (S 24) (i + 1)).2.1) 24 (plS (S 17) (S 18) (S 20) (S 21) (S 23) (S 24) (i + 1)).2.2) ++ wK cy ad 16 (va_up (va_up S 23 (plS (S 17) (S 18) (S 20) (S 21) (S 23) (S 24) (i + 1)).2.1) 24 (plS (S 17) (S 18) (S 20) (S 21) (S 23) (S 24) (i + 1)).2.2) ++ wK cy ad 19 (va_up (va_up S 23 (plS (S 17) (S 18) (S 20) (S 21) (S 23) (S 24) (i + 1)).2.1) 24 (plS (S 17) (S 18) (S 20) (S 21) (S 23) (S 24) (i + 1)).2.2)) := hD.addr rfl
              exact ih7 (i + 1) (by omega) (by omega) _ _ hP hD hS ls (lv_sub hl [0, 1, 2, 3] rfl)
            · refine lv_if_eq (tgt := 57) hx hb dX4_list_49 (by decide) (fun _ => ?_) (fun c => absurd (by decide) c)
              refine lv_iinc (v := (nI (i + 1))) (lv' := [(3, .int (nI (i + 1))), (0, .ref (ad 22)), (1, .ref (ad 16)), (2, .ref (ad 19))]) hx hb dX4_list_57 hl (k := 0) rfl (nI_1 i) (by decide) rfl (fun ls hl => ?_)
              refine lv_goto (tgt := 7) hx hb dX4_list_60 (by decide) ?_
              have e_29 : (nI (plS (S 17) (S 18) (S 20) (S 21) (S 23) (S 24) i).1) = (nI (plS (S 17) (S 18) (S 20) (S 21) (S 23) (S 24) (i + 1)).1) := (by rw [(plS_c (fun h => b15_5 h.1) (fun h => b46_24 h.2))])
              have e_30 : (plS (S 17) (S 18) (S 20) (S 21) (S 23) (S 24) i).2.1 = (plS (S 17) (S 18) (S 20) (S 21) (S 23) (S 24) (i + 1)).2.1 := (by rw [(plS_c (fun h => b15_5 h.1) (fun h => b46_24 h.2))])
              have e_31 : (plS (S 17) (S 18) (S 20) (S 21) (S 23) (S 24) i).2.2 = (plS (S 17) (S 18) (S 20) (S 21) (S 23) (S 24) (i + 1)).2.2 := (by rw [(plS_c (fun h => b15_5 h.1) (fun h => b46_24 h.2))])
              have hP : va_P D clW (wP cy ad (va_up I 5 (nI (plS (S 17) (S 18) (S 20) (S 21) (S 23) (S 24) (i + 1)).1)) (va_up (va_up S 23 (plS (S 17) (S 18) (S 20) (S 21) (S 23) (S 24) (i + 1)).2.1) 24 (plS (S 17) (S 18) (S 20) (S 21) (S 23) (S 24) (i + 1)).2.2) ++ wK cy ad 16 (va_up (va_up S 23 (plS (S 17) (S 18) (S 20) (S 21) (S 23) (S 24) (i + 1)).2.1) 24 (plS (S 17) (S 18) (S 20) (S 21) (S 23) (S 24) (i + 1)).2.2) ++ wK cy ad 19 (va_up (va_up S 23 (plS (S 17) (S 18) (S 20) (S 21) (S 23) (S 24) (i + 1)).2.1) 24 (plS (S 17) (S 18) (S 20) (S 21) (S 23) (S 24) (i + 1)).2.2)) H := by rw [← e_29, ← e_30, ← e_31]; exact hP
              have hD : va_D A (wP cy ad (va_up I 5 (nI (plS (S 17) (S 18) (S 20) (S 21) (S 23) (S 24) (i + 1)).1)) (va_up (va_up S 23 (plS (S 17) (S 18) (S 20) (S 21) (S 23) (S 24) (i + 1)).2.1) 24 (plS (S 17) (S 18) (S 20) (S 21) (S 23) (S 24) (i + 1)).2.2) ++ wK cy ad 16 (va_up (va_up S 23 (plS (S 17) (S 18) (S 20) (S 21) (S 23) (S 24) (i + 1)).2.1) 24 (plS (S 17) (S 18) (S 20) (S 21) (S 23) (S 24) (i + 1)).2.2) ++ wK cy ad 19 (va_up (va_up S 23 (plS (S 17) (S 18) (S 20) (S 21) (S 23) (S 24) (i + 1)).2.1) 24 (plS (S 17) (S 18) (S 20) (S 21) (S 23) (S 24) (i + 1)).2.2)) := hD.addr rfl
              exact ih7 (i + 1) (by omega) (by omega) _ _ hP hD hS ls (lv_sub hl [0, 1, 2, 3] rfl)
          · refine lv_if_eq (tgt := 57) hx hb dX4_list_41 (by decide) (fun _ => ?_) (fun c => absurd (by decide) c)
            refine lv_iinc (v := (nI (i + 1))) (lv' := [(3, .int (nI (i + 1))), (0, .ref (ad 22)), (1, .ref (ad 16)), (2, .ref (ad 19))]) hx hb dX4_list_57 hl (k := 0) rfl (nI_1 i) (by decide) rfl (fun ls hl => ?_)
            refine lv_goto (tgt := 7) hx hb dX4_list_60 (by decide) ?_
            have e_32 : (nI (plS (S 17) (S 18) (S 20) (S 21) (S 23) (S 24) i).1) = (nI (plS (S 17) (S 18) (S 20) (S 21) (S 23) (S 24) (i + 1)).1) := (by rw [(plS_c (fun h => b15_5 h.1) (fun h => b38_23 h.1))])
            have e_33 : (plS (S 17) (S 18) (S 20) (S 21) (S 23) (S 24) i).2.1 = (plS (S 17) (S 18) (S 20) (S 21) (S 23) (S 24) (i + 1)).2.1 := (by rw [(plS_c (fun h => b15_5 h.1) (fun h => b38_23 h.1))])
            have e_34 : (plS (S 17) (S 18) (S 20) (S 21) (S 23) (S 24) i).2.2 = (plS (S 17) (S 18) (S 20) (S 21) (S 23) (S 24) (i + 1)).2.2 := (by rw [(plS_c (fun h => b15_5 h.1) (fun h => b38_23 h.1))])
            have hP : va_P D clW (wP cy ad (va_up I 5 (nI (plS (S 17) (S 18) (S 20) (S 21) (S 23) (S 24) (i + 1)).1)) (va_up (va_up S 23 (plS (S 17) (S 18) (S 20) (S 21) (S 23) (S 24) (i + 1)).2.1) 24 (plS (S 17) (S 18) (S 20) (S 21) (S 23) (S 24) (i + 1)).2.2) ++ wK cy ad 16 (va_up (va_up S 23 (plS (S 17) (S 18) (S 20) (S 21) (S 23) (S 24) (i + 1)).2.1) 24 (plS (S 17) (S 18) (S 20) (S 21) (S 23) (S 24) (i + 1)).2.2) ++ wK cy ad 19 (va_up (va_up S 23 (plS (S 17) (S 18) (S 20) (S 21) (S 23) (S 24) (i + 1)).2.1) 24 (plS (S 17) (S 18) (S 20) (S 21) (S 23) (S 24) (i + 1)).2.2)) H := by rw [← e_32, ← e_33, ← e_34]; exact hP
            have hD : va_D A (wP cy ad (va_up I 5 (nI (plS (S 17) (S 18) (S 20) (S 21) (S 23) (S 24) (i + 1)).1)) (va_up (va_up S 23 (plS (S 17) (S 18) (S 20) (S 21) (S 23) (S 24) (i + 1)).2.1) 24 (plS (S 17) (S 18) (S 20) (S 21) (S 23) (S 24) (i + 1)).2.2) ++ wK cy ad 16 (va_up (va_up S 23 (plS (S 17) (S 18) (S 20) (S 21) (S 23) (S 24) (i + 1)).2.1) 24 (plS (S 17) (S 18) (S 20) (S 21) (S 23) (S 24) (i + 1)).2.2) ++ wK cy ad 19 (va_up (va_up S 23 (plS (S 17) (S 18) (S 20) (S 21) (S 23) (S 24) (i + 1)).2.1) 24 (plS (S 17) (S 18) (S 20) (S 21) (S 23) (S 24) (i + 1)).2.2)) := hD.addr rfl
            exact ih7 (i + 1) (by omega) (by omega) _ _ hP hD hS ls (lv_sub hl [0, 1, 2, 3] rfl)
  have e_35 : 0 = (nI (plS (S 17) (S 18) (S 20) (S 21) (S 23) (S 24) 0).1) := rfl
  have e_36 : (S 23) = (plS (S 17) (S 18) (S 20) (S 21) (S 23) (S 24) 0).2.1 := rfl
  have e_37 : (S 24) = (plS (S 17) (S 18) (S 20) (S 21) (S 23) (S 24) 0).2.2 := rfl
  have hP : va_P D clW (wP cy ad (va_up I 5 (nI (plS (S 17) (S 18) (S 20) (S 21) (S 23) (S 24) 0).1)) (va_up (va_up S 23 (plS (S 17) (S 18) (S 20) (S 21) (S 23) (S 24) 0).2.1) 24 (plS (S 17) (S 18) (S 20) (S 21) (S 23) (S 24) 0).2.2) ++ wK cy ad 16 (va_up (va_up S 23 (plS (S 17) (S 18) (S 20) (S 21) (S 23) (S 24) 0).2.1) 24 (plS (S 17) (S 18) (S 20) (S 21) (S 23) (S 24) 0).2.2) ++ wK cy ad 19 (va_up (va_up S 23 (plS (S 17) (S 18) (S 20) (S 21) (S 23) (S 24) 0).2.1) 24 (plS (S 17) (S 18) (S 20) (S 21) (S 23) (S 24) 0).2.2)) H := by rw [← e_35, ← e_36, ← e_37]; exact hP
  have hD : va_D A (wP cy ad (va_up I 5 (nI (plS (S 17) (S 18) (S 20) (S 21) (S 23) (S 24) 0).1)) (va_up (va_up S 23 (plS (S 17) (S 18) (S 20) (S 21) (S 23) (S 24) 0).2.1) 24 (plS (S 17) (S 18) (S 20) (S 21) (S 23) (S 24) 0).2.2) ++ wK cy ad 16 (va_up (va_up S 23 (plS (S 17) (S 18) (S 20) (S 21) (S 23) (S 24) 0).2.1) 24 (plS (S 17) (S 18) (S 20) (S 21) (S 23) (S 24) 0).2.2) ++ wK cy ad 19 (va_up (va_up S 23 (plS (S 17) (S 18) (S 20) (S 21) (S 23) (S 24) 0).2.1) 24 (plS (S 17) (S 18) (S 20) (S 21) (S 23) (S 24) 0).2.2)) := hD.addr rfl
  exact L7 (100 + 1) 0 (by omega) (by omega) _ _ hP hD hS ls (lv_sub hl [0, 1, 2, 3] rfl)
