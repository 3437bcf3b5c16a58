theorem gf_X7_42 {p : Program} {l : Launch} {e : Env} {R : Room} {s : State} {m : MethodId} {args : Array Value} {below : List Frame} {meth : Method} {c : Code} {H : Heap} {locs : List Loc} {cells slots : Nat} {Q : State → Prop} {cc : ByteArray} {pc : Nat} {ls : Array Slot} {rest : List Value} {D : va_G} {cy : Nat → ClassId} {a : Nat} {ws : va_W} (hx : p.tables.exec = Jvm.exec) (hb : c.code = cc) (hts : ∀ w ∈ wsL_law, w.before args s = true) (hown : s.vm.findClass RX7 = some m.cls) (hK : va_K D clW (tyW cy) s) (hP : va_P D clW ws H) (q0 : Nat) {fs : List Value} (he : ws[q0]? = some (a, .inr (7, fs))) {v : Value} (hv : fs[16]? = some v) (hdg : decode cc pc = .ok (.getfield 42, 3)) (kk : W p l e R s m args below meth c H locs cells slots Q (F0 m (pc + 3) ls (v :: rest))) : W p l e R s m args below meth c H locs cells slots Q (F0 m pc ls (.ref a :: rest)) := va_get (own := RX7) (ref := RX7) (C := RX7) (T := TX7) (N := 27) (ci := 7) hx hb hts inlX7 hown hK hP q0 he rfl 16 (by decide) (hts _ wm_100) (fun _ h => h) hv hdg kk
theorem gf_X7_45 {p : Program} {l : Launch} {e : Env} {R : Room} {s : State} {m : MethodId} {args : Array Value} {below : List Frame} {meth : Method} {c : Code} {H : Heap} {locs : List Loc} {cells slots : Nat} {Q : State → Prop} {cc : ByteArray} {pc : Nat} {ls : Array Slot} {rest : List Value} {D : va_G} {cy : Nat → ClassId} {a : Nat} {ws : va_W} (hx : p.tables.exec = Jvm.exec) (hb : c.code = cc) (hts : ∀ w ∈ wsL_law, w.before args s = true) (hown : s.vm.findClass RX7 = some m.cls) (hK : va_K D clW (tyW cy) s) (hP : va_P D clW ws H) (q0 : Nat) {fs : List Value} (he : ws[q0]? = some (a, .inr (7, fs))) {v : Value} (hv : fs[18]? = some v) (hdg : decode cc pc = .ok (.getfield 45, 3)) (kk : W p l e R s m args below meth c H locs cells slots Q (F0 m (pc + 3) ls (v :: rest))) : W p l e R s m args below meth c H locs cells slots Q (F0 m pc ls (.ref a :: rest)) := va_get (own := RX7) (ref := RX7) (C := RX7) (T := TX7) (N := 27) (ci := 7) hx hb hts inlX7 hown hK hP q0 he rfl 18 (by decide) (hts _ wm_101) (fun _ h => h) hv hdg kk
theorem gf_X7_48 {p : Program} {l : Launch} {e : Env} {R : Room} {s : State} {m : MethodId} {args : Array Value} {below : List Frame} {meth : Method} {c : Code} {H : Heap} {locs : List Loc} {cells slots : Nat} {Q : State → Prop} {cc : ByteArray} {pc : Nat} {ls : Array Slot} {rest : List Value} {D : va_G} {cy : Nat → ClassId} {a : Nat} {ws : va_W} (hx : p.tables.exec = Jvm.exec) (hb : c.code = cc) (hts : ∀ w ∈ wsL_law, w.before args s = true) (hown : s.vm.findClass RX7 = some m.cls) (hK : va_K D clW (tyW cy) s) (hP : va_P D clW ws H) (q0 : Nat) {fs : List Value} (he : ws[q0]? = some (a, .inr (7, fs))) {v : Value} (hv : fs[19]? = some v) (hdg : decode cc pc = .ok (.getfield 48, 3)) (kk : W p l e R s m args below meth c H locs cells slots Q (F0 m (pc + 3) ls (v :: rest))) : W p l e R s m args below meth c H locs cells slots Q (F0 m pc ls (.ref a :: rest)) := va_get (own := RX7) (ref := RX7) (C := RX7) (T := TX7) (N := 27) (ci := 7) hx hb hts inlX7 hown hK hP q0 he rfl 19 (by decide) (hts _ wm_102) (fun _ h => h) hv hdg kk
theorem gf_X7_136 {p : Program} {l : Launch} {e : Env} {R : Room} {s : State} {m : MethodId} {args : Array Value} {below : List Frame} {meth : Method} {c : Code} {H : Heap} {locs : List Loc} {cells slots : Nat} {Q : State → Prop} {cc : ByteArray} {pc : Nat} {ls : Array Slot} {rest : List Value} {D : va_G} {cy : Nat → ClassId} {a : Nat} {ws : va_W} (hx : p.tables.exec = Jvm.exec) (hb : c.code = cc) (hts : ∀ w ∈ wsL_law, w.before args s = true) (hown : s.vm.findClass RX7 = some m.cls) (hK : va_K D clW (tyW cy) s) (hP : va_P D clW ws H) (q0 : Nat) {fs : List Value} (he : ws[q0]? = some (a, .inr (7, fs))) {v : Value} (hv : fs[17]? = some v) (hdg : decode cc pc = .ok (.getfield 136, 3)) (kk : W p l e R s m args below meth c H locs cells slots Q (F0 m (pc + 3) ls (v :: rest))) : W p l e R s m args below meth c H locs cells slots Q (F0 m pc ls (.ref a :: rest)) := va_get (own := RX7) (ref := RX7) (C := RX7) (T := TX7) (N := 27) (ci := 7) hx hb hts inlX7 hown hK hP q0 he rfl 17 (by decide) (hts _ wm_636) (fun _ h => h) hv hdg kk
theorem pf_X7_136 {p : Program} {l : Launch} {e : Env} {R : Room} {s : State} {m : MethodId} {args : Array Value} {below : List Frame} {meth : Method} {c : Code} {H : Heap} {locs : List Loc} {cells slots : Nat} {Q : State → Prop} {cc : ByteArray} {pc : Nat} {ls : Array Slot} {rest : List Value} {D : va_G} {cy : Nat → ClassId} {a : Nat} {ws : va_W} {A : Nat → Prop} {H0 : Heap} (hx : p.tables.exec = Jvm.exec) (hb : c.code = cc) (hts : ∀ w ∈ wsL_law, w.before args s = true) (hown : s.vm.findClass RX7 = some m.cls) (hK : va_K D clW (tyW cy) s) (hP : va_P D clW ws H) (hD : va_D A ws) (hS : va_S A H0 H locs) (q0 : Nat) {fs : List Value} (he : ws[q0]? = some (a, .inr (7, fs))) {x : Int32} (hl : 17 < fs.length) (hdg : decode cc pc = .ok (.putfield 136, 3)) (kk : ∀ (H1 : Heap) (locs1 : List Loc), va_P D clW (ws.set q0 (a, .inr (7, fs.set 17 (.int x)))) H1 → va_D A (ws.set q0 (a, .inr (7, fs.set 17 (.int x)))) → va_S A H0 H1 locs1 → W p l e R s m args below meth c H1 locs1 cells slots Q (F0 m (pc + 3) ls rest)) : W p l e R s m args below meth c H locs cells slots Q (F0 m pc ls (.int x :: .ref a :: rest)) := va_put (own := RX7) (ref := RX7) (C := RX7) (T := TX7) (N := 27) (ci := 7) (ty := .int) hx hb hts inlX7 tyX7 tyX7_ok nmX7 hown hK hP hD hS q0 he rfl 17 (by decide) (hts _ wm_636) (fun _ h => h) rfl (by decide +kernel) rfl rfl hl hdg kk
theorem cw_X7_130 {R : Room} {s : State} {args : Array Value} {rm : Room} {mc ms : Nat} (hts : ∀ w ∈ wsL_law, w.before args s = true) (hrc : rm.cells = mc) (hrs : rm.slots = ms) (hR : rm.frames + 1 ≤ R.frames ∧ 8 + (7 + 11) + rm.locals ≤ R.locals) : CallW R s args RX7 RX7 130 yX7_valueAt cX7_valueAt 7 (some .int) (Cond.code yX7_valueAt cX7_valueAt 7 (some .int) :: wsL_law) rm mc ms 4 := cwV 4 hts (gUV wm_569 wm_532 wm_533 wm_5 wm_534) rfl hrc hrs (by decide +kernel) hR
theorem cw_X7_133 {R : Room} {s : State} {args : Array Value} {rm : Room} {mc ms : Nat} (hts : ∀ w ∈ wsL_law, w.before args s = true) (hrc : rm.cells = mc) (hrs : rm.slots = ms) (hR : rm.frames + 1 ≤ R.frames ∧ 8 + (4 + 11) + rm.locals ≤ R.locals) : CallW R s args RX7 RX7 133 yX7_askFault cX7_askFault 4 (some .int) (Cond.code yX7_askFault cX7_askFault 4 (some .int) :: wsL_law) rm mc ms 3 := cwV 3 hts (gUV wm_581 wm_582 wm_583 wm_5 wm_584) rfl hrc hrs (by decide +kernel) hR
theorem cw_X7_139 {R : Room} {s : State} {args : Array Value} {rm : Room} {mc ms : Nat} (hts : ∀ w ∈ wsL_law, w.before args s = true) (hrc : rm.cells = mc) (hrs : rm.slots = ms) (hR : rm.frames + 1 ≤ R.frames ∧ 8 + (4 + 11) + rm.locals ≤ R.locals) : CallW R s args RX7 RX7 139 yX7_isLike cX7_isLike 4 (some .boolean) (Cond.code yX7_isLike cX7_isLike 4 (some .boolean) :: wsL_law) rm mc ms 3 := cwV 3 hts (gUV wm_645 wm_646 wm_647 wm_5 wm_648) rfl hrc hrs (by decide +kernel) hR
set_option maxHeartbeats 4000000 in
set_option maxRecDepth 100000 in
theorem c_X7_valueAt (l : Launch) (D : va_G) (cy : Nat → ClassId) (ad : Nat → Nat) (I : AI) (S : AS) (sz : Nat) (x : Int32) (b : Int32) (d : Int32) (t : Int32) (k : Nat) (hk : I 3 = nI k) (hk8 : k ≤ 256) (fr : Nat → Nat) (to : Nat → Nat) (hfr : ∀ i : Nat, i < k → S 5 i = nI (fr i) ∧ S 6 i = nI (to i) ∧ fr i ≤ to i ∧ to i ≤ 100) : Met l yX7_valueAt (Cond.code yX7_valueAt cX7_valueAt 7 (some .int) :: wsL_law) ({ frames := 3, cells := 0, slots := 0, locals := 68 }) (va_Pc [.ref (ad 0), .int x, .int b, .int d, .int t] (wrB D cy (wM cy ad I S) sz)) (va_Qi (S := AI × AS) (fun r u => msc I S u.1 u.2 ∧ (dfC I x b d t = 0 → (lkM S (slM x b) t fr to k d.toNatClampNeg = -1 ∧ u.1 0 = 4) ∨ (¬ lkM S (slM x b) t fr to k d.toNatClampNeg = -1 ∧ u.1 0 = 0 ∧ r = S 4 (lkM S (slM x b) t fr to k d.toNatClampNeg).toNatClampNeg)) ∧ (¬ dfC I x b d t = 0 → u.1 0 = dfC I x b d t)) (fun u t9 => va_P D clW (wM cy ad u.1 u.2) t9.heap) (va_A (wM cy ad I S) sz)) 0 0 (va_A (wM cy ad I S) sz) := by
  refine enter (cc := cX7_valueAt) (by decide) (Nat.le_of_ble_eq_true rfl) ?_
  intro p e s m below meth c hx hb hr hml hown hts hlocks hin hv Q hQ ls hl
  obtain ⟨hsz, hP, hK, hD0⟩ := hv
  subst hsz
  have hD := hD0.self (sz := s.heap.size)
  generalize hAe : va_A (wM cy ad I S) s.heap.size = A at hD hQ ⊢
  have hA : ∀ q : Nat, s.heap.size ≤ q → A q := fun q h => by rw [← hAe]; exact Or.inr h
  have hS : va_S A s.heap s.heap [] := va_S.rf
  suffices K_ : ∀ (H : Heap) (locs : List Loc), va_P D clW (wM cy ad I S) H → va_S A s.heap H locs → W p l e ({ frames := 3, cells := 0, slots := 0, locals := 68 }) s m ([.ref (ad 0), .int x, .int b, .int d, .int t] : List Value).toArray below meth c H locs 0 0 Q (F0 m 0 ls []) from K_ _ _ hP hS
  clear hP hS
  intro H locs hP hS
  have hown : s.vm.findClass RX7 = some m.cls := hown
  have hl : lv_has ls 7 [(0, .ref (ad 0)), (1, .int x), (2, .int b), (3, .int d), (4, .int t)] := hl
  refine lv_aload_n hx hb dX7_valueAt_0 rfl (lv_at hl 0 rfl) ?_
  refine lv_iload_n hx hb dX7_valueAt_1 rfl (lv_at hl 1 rfl) ?_
  refine lv_iload_n hx hb dX7_valueAt_2 rfl (lv_at hl 2 rfl) ?_
  refine lv_iload_n hx hb dX7_valueAt_3 rfl (lv_at hl 3 rfl) ?_
  refine lv_iload hx hb dX7_valueAt_4 (lv_at hl 4 rfl) ?_
  refine rI_call (va_runV (As := [.int x, .int b, .int d, .int t]) (rest := []) ⟨hx, hb, hml, hown, hts⟩ (c_X7_dayFault l D cy ad I S x b d t) (cw_X7_124 hts rfl rfl ⟨Nat.le_of_ble_eq_true rfl, Nat.le_of_ble_eq_true rfl⟩) (preVR (ci := 7) (q0 := 0) hK hP rfl rfl) rfl rfl hl.1 rfl (lv_room (Nat.le_of_ble_eq_true rfl)) dX7_valueAt_6 ⟨Nat.le_of_ble_eq_true rfl, Nat.le_of_ble_eq_true rfl⟩) (fun r hr_ => ?_)
  subst hr_
  refine lv_istore (lv' := [(5, .int (dfC I x b d t)), (0, .ref (ad 0)), (1, .int x), (2, .int b), (3, .int d), (4, .int t)]) hx hb dX7_valueAt_9 hl (by decide) rfl (fun ls hl => ?_)
  refine lv_iload hx hb dX7_valueAt_11 (lv_at hl 0 rfl) ?_
  refine lv_if_ne (tgt := 31) hx hb dX7_valueAt_13 (by decide) (fun c13_1 => ?_) (fun c13_1 => ?_)
  · refine lv_iconst (v := (-1)) hx hb dX7_valueAt_31 (by decide) ?_
    refine lv_istore (lv' := [(6, .int (-1)), (5, .int (dfC I x b d t)), (0, .ref (ad 0)), (1, .int x), (2, .int b), (3, .int d), (4, .int t)]) hx hb dX7_valueAt_32 hl (by decide) rfl (fun ls hl => ?_)
    refine lv_aload_n hx hb dX7_valueAt_34 rfl (lv_at hl 2 rfl) ?_
    refine lv_iload hx hb dX7_valueAt_35 (lv_at hl 1 rfl) ?_
    refine lv_if_ne (tgt := 50) hx hb dX7_valueAt_37 (by decide) (fun _ => ?_) (fun c => absurd c c13_1)
    refine lv_iload hx hb dX7_valueAt_50 (lv_at hl 1 rfl) ?_
    refine wI_call (va_runV (As := [.int (dfC I x b d t)]) (rest := []) ⟨hx, hb, hml, hown, hts⟩ (c_X7_goesOn l D cy ad I S H.size (dfC I x b d t)) (cw_X7_71 hts rfl rfl ⟨Nat.le_of_ble_eq_true rfl, Nat.le_of_ble_eq_true rfl⟩) (preVW (ci := 7) (q0 := 0) hK hP hD rfl rfl) rfl rfl hl.1 rfl (lv_room (Nat.le_of_ble_eq_true rfl)) dX7_valueAt_52 ⟨Nat.le_of_ble_eq_true rfl, Nat.le_of_ble_eq_true rfl⟩) hP hD hS hA [0, 1, 2, 3, 4, 5, 6, 7, 8, 9, 10, 11, 12, 13, 14, 15, 16] rfl [.inr 0, .inr 1, .inr 2, .inr 3, .inr 4, .inr 5, .inr 6, .inr 7, .inr 8, .inr 9, .inr 10, .inr 11, .inr 12, .inr 13, .inr 14, .inr 15, .inr 16] (by decide) (fun u => (wM cy ad (va_up I 0 (dfC I x b d t)) S)) (fun _ => rfl) (fun _ => rfl) (fun r52_2 u52_2 H locs q52_2 hP hD hS hkp => ?_)
    have hP : va_P D clW (wM cy ad (va_up I 0 (dfC I x b d t)) S) H := hP
    have hD : va_D A (wM cy ad (va_up I 0 (dfC I x b d t)) S) := hD
    rw [if_neg c13_1] at q52_2
    subst q52_2
    refine lv_if_eq (tgt := 68) hx hb dX7_valueAt_55 (by decide) (fun _ => ?_) (fun c => absurd (by decide) c)
    refine lv_iconst (v := 0) hx hb dX7_valueAt_68 (by decide) ?_
    exact wI_ret ((va_up I 0 (dfC I x b d t)), S) hS hP hx hb hr hlocks dX7_valueAt_69 (Nat.le_of_ble_eq_true rfl) (Nat.le_of_ble_eq_true rfl) hQ ⟨(msc_I (msc_0 I S) (by decide) _), fun q => absurd q c13_1, fun _ => rfl⟩
  · obtain ⟨j, hj, hdj⟩ := dfC_d c13_1
    have hl : lv_has ls 7 [(5, .int (dfC I x b d t)), (0, .ref (ad 0)), (1, .int x), (2, .int b), (3, .int (nI j)), (4, .int t)] := by rw [← hdj]; exact hl
    refine lv_aload_n hx hb dX7_valueAt_16 rfl (lv_at hl 1 rfl) ?_
    refine lv_iload_n hx hb dX7_valueAt_17 rfl (lv_at hl 2 rfl) ?_
    refine lv_iload_n hx hb dX7_valueAt_18 rfl (lv_at hl 3 rfl) ?_
    refine rI_call (va_runS (As := [.int x, .int b]) (rest := [.ref (ad 0)]) ⟨hx, hb, hml, hown, hts⟩ (c_X7_placeOf l D cy x b) (cw_X7_103 hts rfl rfl ⟨Nat.le_of_ble_eq_true rfl, Nat.le_of_ble_eq_true rfl⟩) (preSR hK (hP.sub [] rfl)) rfl rfl hl.1 rfl (lv_room (Nat.le_of_ble_eq_true rfl)) dX7_valueAt_19 ⟨Nat.le_of_ble_eq_true rfl, Nat.le_of_ble_eq_true rfl⟩) (fun r hr_ => ?_)
    subst hr_
    refine lv_iload_n hx hb dX7_valueAt_22 rfl (lv_at hl 4 rfl) ?_
    refine lv_iload hx hb dX7_valueAt_23 (lv_at hl 5 rfl) ?_
    refine wI_call (va_runV (As := [.int (slM x b), .int (nI j), .int t]) (rest := []) ⟨hx, hb, hml, hown, hts⟩ (c_X7_factOn l D cy ad I S H.size (slM x b) j t k hk hk8 fr to hfr (by omega)) (cw_X7_127 hts rfl rfl ⟨Nat.le_of_ble_eq_true rfl, Nat.le_of_ble_eq_true rfl⟩) (preVW (ci := 7) (q0 := 0) hK hP hD rfl rfl) rfl rfl hl.1 rfl (lv_room (Nat.le_of_ble_eq_true rfl)) dX7_valueAt_25 ⟨Nat.le_of_ble_eq_true rfl, Nat.le_of_ble_eq_true rfl⟩) hP hD hS hA [0, 1, 2, 3, 4, 5, 6, 7, 8, 9, 10, 11, 12, 13, 14, 15, 16] rfl [.inr 0, .inr 1, .inr 2, .inr 3, .inr 4, .inr 5, .inr 6, .inr 7, .inr 8, .inr 9, .inr 10, .inr 11, .inr 12, .inr 13, .inr 14, .inr 15, .inr 16] (by decide) (fun u => (wM cy ad I (va_up S 10 (lkN S (slM x b) t fr to (S 10) k)))) (fun _ => rfl) (fun _ => rfl) (fun r25_3 u25_3 H locs q25_3 hP hD hS hkp => ?_)
    have hP : va_P D clW (wM cy ad I (va_up S 10 (lkN S (slM x b) t fr to (S 10) k))) H := hP
    have hD : va_D A (wM cy ad I (va_up S 10 (lkN S (slM x b) t fr to (S 10) k))) := hD
    subst q25_3
    refine lv_goto (tgt := 32) hx hb dX7_valueAt_28 (by decide) ?_
    refine lv_istore (lv' := [(6, .int (lkN S (slM x b) t fr to (S 10) k j)), (5, .int (dfC I x b d t)), (0, .ref (ad 0)), (1, .int x), (2, .int b), (3, .int (nI j)), (4, .int t)]) hx hb dX7_valueAt_32 hl (by decide) rfl (fun ls hl => ?_)
    refine lv_aload_n hx hb dX7_valueAt_34 rfl (lv_at hl 2 rfl) ?_
    refine lv_iload hx hb dX7_valueAt_35 (lv_at hl 1 rfl) ?_
    refine lv_if_ne (tgt := 50) hx hb dX7_valueAt_37 (by decide) (fun c => absurd c13_1 c) (fun _ => ?_)
    refine lv_iload hx hb dX7_valueAt_40 (lv_at hl 0 rfl) ?_
    refine lv_iconst (v := (-1)) hx hb dX7_valueAt_42 (by decide) ?_
    refine lv_icmp_ne (tgt := 50) hx hb dX7_valueAt_43 (by decide) (fun c43_4 => ?_) (fun c43_4 => ?_)
    · refine lv_iload hx hb dX7_valueAt_50 (lv_at hl 1 rfl) ?_
      refine wI_call (va_runV (As := [.int (dfC I x b d t)]) (rest := []) ⟨hx, hb, hml, hown, hts⟩ (c_X7_goesOn l D cy ad I (va_up S 10 (lkN S (slM x b) t fr to (S 10) k)) H.size (dfC I x b d t)) (cw_X7_71 hts rfl rfl ⟨Nat.le_of_ble_eq_true rfl, Nat.le_of_ble_eq_true rfl⟩) (preVW (ci := 7) (q0 := 0) hK hP hD rfl rfl) rfl rfl hl.1 rfl (lv_room (Nat.le_of_ble_eq_true rfl)) dX7_valueAt_52 ⟨Nat.le_of_ble_eq_true rfl, Nat.le_of_ble_eq_true rfl⟩) hP hD hS hA [0, 1, 2, 3, 4, 5, 6, 7, 8, 9, 10, 11, 12, 13, 14, 15, 16] rfl [.inr 0, .inr 1, .inr 2, .inr 3, .inr 4, .inr 5, .inr 6, .inr 7, .inr 8, .inr 9, .inr 10, .inr 11, .inr 12, .inr 13, .inr 14, .inr 15, .inr 16] (by decide) (fun u => (wM cy ad (va_up I 0 (dfC I x b d t)) (va_up S 10 (lkN S (slM x b) t fr to (S 10) k)))) (fun _ => rfl) (fun _ => rfl) (fun r52_5 u52_5 H locs q52_5 hP hD hS hkp => ?_)
      have hP : va_P D clW (wM cy ad (va_up I 0 (dfC I x b d t)) (va_up S 10 (lkN S (slM x b) t fr to (S 10) k))) H := hP
      have hD : va_D A (wM cy ad (va_up I 0 (dfC I x b d t)) (va_up S 10 (lkN S (slM x b) t fr to (S 10) k))) := hD
      rw [if_pos c13_1] at q52_5
      subst q52_5
      refine lv_if_eq (tgt := 68) hx hb dX7_valueAt_55 (by decide) (fun c => absurd c (by decide)) (fun _ => ?_)
      refine lv_aload_n hx hb dX7_valueAt_58 rfl (lv_at hl 2 rfl) ?_
      refine gf_X7_20 hx hb hts hown hK hP 0 rfl (v := .ref (ad 4)) rfl dX7_valueAt_59 ?_
      refine lv_iload hx hb dX7_valueAt_62 (lv_at hl 0 rfl) ?_
      refine ald_Ix (f := (S 4)) hx hb hK hP 4 rfl (row_in (lk_row S (slM x b) t fr to (S 10) k) hk8 (by decide) hj c43_4) dX7_valueAt_64 ?_
      refine lv_goto (tgt := 69) hx hb dX7_valueAt_65 (by decide) ?_
      exact wI_ret ((va_up I 0 (dfC I x b d t)), (va_up S 10 (lkN S (slM x b) t fr to (S 10) k))) hS hP hx hb hr hlocks dX7_valueAt_69 (Nat.le_of_ble_eq_true rfl) (Nat.le_of_ble_eq_true rfl) hQ ⟨(msc_S (msc_I (msc_0 I S) (by decide) _) (by decide) _), fun _ => Or.inr ⟨by rw [hdj, nI_clamp (by omega)]; exact c43_4, c13_1, by rw [hdj, nI_clamp (by omega)]⟩, fun q => absurd c13_1 q⟩
    · refine lv_iconst (v := 4) hx hb dX7_valueAt_46 (by decide) ?_
      refine lv_goto (tgt := 52) hx hb dX7_valueAt_47 (by decide) ?_
      refine wI_call (va_runV (As := [.int 4]) (rest := []) ⟨hx, hb, hml, hown, hts⟩ (c_X7_goesOn l D cy ad I (va_up S 10 (lkN S (slM x b) t fr to (S 10) k)) H.size 4) (cw_X7_71 hts rfl rfl ⟨Nat.le_of_ble_eq_true rfl, Nat.le_of_ble_eq_true rfl⟩) (preVW (ci := 7) (q0 := 0) hK hP hD rfl rfl) rfl rfl hl.1 rfl (lv_room (Nat.le_of_ble_eq_true rfl)) dX7_valueAt_52 ⟨Nat.le_of_ble_eq_true rfl, Nat.le_of_ble_eq_true rfl⟩) hP hD hS hA [0, 1, 2, 3, 4, 5, 6, 7, 8, 9, 10, 11, 12, 13, 14, 15, 16] rfl [.inr 0, .inr 1, .inr 2, .inr 3, .inr 4, .inr 5, .inr 6, .inr 7, .inr 8, .inr 9, .inr 10, .inr 11, .inr 12, .inr 13, .inr 14, .inr 15, .inr 16] (by decide) (fun u => (wM cy ad (va_up I 0 4) (va_up S 10 (lkN S (slM x b) t fr to (S 10) k)))) (fun _ => rfl) (fun _ => rfl) (fun r52_6 u52_6 H locs q52_6 hP hD hS hkp => ?_)
      have hP : va_P D clW (wM cy ad (va_up I 0 4) (va_up S 10 (lkN S (slM x b) t fr to (S 10) k))) H := hP
      have hD : va_D A (wM cy ad (va_up I 0 4) (va_up S 10 (lkN S (slM x b) t fr to (S 10) k))) := hD
      rw [if_neg (by decide)] at q52_6
      subst q52_6
      refine lv_if_eq (tgt := 68) hx hb dX7_valueAt_55 (by decide) (fun _ => ?_) (fun c => absurd (by decide) c)
      refine lv_iconst (v := 0) hx hb dX7_valueAt_68 (by decide) ?_
      exact wI_ret ((va_up I 0 4), (va_up S 10 (lkN S (slM x b) t fr to (S 10) k))) hS hP hx hb hr hlocks dX7_valueAt_69 (Nat.le_of_ble_eq_true rfl) (Nat.le_of_ble_eq_true rfl) hQ ⟨(msc_S (msc_I (msc_0 I S) (by decide) _) (by decide) _), fun _ => Or.inl (by rw [hdj, nI_clamp (by omega)]; exact ⟨c43_4, rfl⟩), fun q => absurd c13_1 q⟩

set_option maxHeartbeats 4000000 in
set_option maxRecDepth 100000 in
theorem c_X7_valueByReplay (l : Launch) (D : va_G) (cy : Nat → ClassId) (ad : Nat → Nat) (I : AI) (S : AS) (sz : Nat) (x : Int32) (b : Int32) (d : Int32) (t : Int32) (k : Nat) (hk : I 3 = nI k) (hk8 : k ≤ 256) (fr : Nat → Nat) (to : Nat → Nat) (hfr : ∀ i : Nat, i < k → S 5 i = nI (fr i) ∧ S 6 i = nI (to i) ∧ fr i ≤ to i ∧ to i ≤ 100) : Met l yX7_valueByReplay (Cond.code yX7_valueByReplay cX7_valueByReplay 5 (some .int) :: wsL_law) ({ frames := 4, cells := 0, slots := 0, locals := 94 }) (va_Pc [.ref (ad 0), .int x, .int b, .int d, .int t] (wrB D cy (wM cy ad I S) sz)) (va_Qi (S := AI × AS) (fun r u => msc I S u.1 u.2 ∧ (dfC I x b d t = 0 → (lkM S (slM x b) t fr to k d.toNatClampNeg = -1 ∧ u.1 0 = 4) ∨ (¬ lkM S (slM x b) t fr to k d.toNatClampNeg = -1 ∧ u.1 0 = 0 ∧ r = S 4 (lkM S (slM x b) t fr to k d.toNatClampNeg).toNatClampNeg)) ∧ (¬ dfC I x b d t = 0 → u.1 0 = dfC I x b d t)) (fun u t9 => va_P D clW (wM cy ad u.1 u.2) t9.heap) (va_A (wM cy ad I S) sz)) 0 0 (va_A (wM cy ad I S) sz) := by
  refine enter (cc := cX7_valueByReplay) (by decide) (Nat.le_of_ble_eq_true rfl) ?_
  intro p e s m below meth c hx hb hr hml hown hts hlocks hin hv Q hQ ls hl
  obtain ⟨hsz, hP, hK, hD0⟩ := hv
  subst hsz
  have hD := hD0.self (sz := s.heap.size)
  generalize hAe : va_A (wM cy ad I S) s.heap.size = A at hD hQ ⊢
  have hA : ∀ q : Nat, s.heap.size ≤ q → A q := fun q h => by rw [← hAe]; exact Or.inr h
  have hS : va_S A s.heap s.heap [] := va_S.rf
  suffices K_ : ∀ (H : Heap) (locs : List Loc), va_P D clW (wM cy ad I S) H → va_S A s.heap H locs → W p l e ({ frames := 4, cells := 0, slots := 0, locals := 94 }) s m ([.ref (ad 0), .int x, .int b, .int d, .int t] : List Value).toArray below meth c H locs 0 0 Q (F0 m 0 ls []) from K_ _ _ hP hS
  clear hP hS
  intro H locs hP hS
  have hown : s.vm.findClass RX7 = some m.cls := hown
  have hl : lv_has ls 5 [(0, .ref (ad 0)), (1, .int x), (2, .int b), (3, .int d), (4, .int t)] := hl
  refine lv_aload_n hx hb dX7_valueByReplay_0 rfl (lv_at hl 0 rfl) ?_
  refine lv_iload_n hx hb dX7_valueByReplay_1 rfl (lv_at hl 1 rfl) ?_
  refine lv_iload_n hx hb dX7_valueByReplay_2 rfl (lv_at hl 2 rfl) ?_
  refine lv_iload_n hx hb dX7_valueByReplay_3 rfl (lv_at hl 3 rfl) ?_
  refine lv_iload hx hb dX7_valueByReplay_4 (lv_at hl 4 rfl) ?_
  refine wI_call (va_runV (As := [.int x, .int b, .int d, .int t]) (rest := []) ⟨hx, hb, hml, hown, hts⟩ (c_X7_valueAt l D cy ad I S H.size x b d t k hk hk8 fr to hfr) (cw_X7_130 hts rfl rfl ⟨Nat.le_of_ble_eq_true rfl, Nat.le_of_ble_eq_true rfl⟩) (preVW (ci := 7) (q0 := 0) hK hP hD rfl rfl) rfl rfl hl.1 rfl (lv_room (Nat.le_of_ble_eq_true rfl)) dX7_valueByReplay_6 ⟨Nat.le_of_ble_eq_true rfl, Nat.le_of_ble_eq_true rfl⟩) hP hD hS hA [0, 1, 2, 3, 4, 5, 6, 7, 8, 9, 10, 11, 12, 13, 14, 15, 16] rfl [.inr 0, .inr 1, .inr 2, .inr 3, .inr 4, .inr 5, .inr 6, .inr 7, .inr 8, .inr 9, .inr 10, .inr 11, .inr 12, .inr 13, .inr 14, .inr 15, .inr 16] (by decide) (fun u => (wM cy ad u.1 u.2)) (fun _ => rfl) (fun _ => rfl) (fun r6_1 u6_1 H locs q6_1 hP hD hS hkp => ?_)
  obtain ⟨I2_1, S2_1⟩ := u6_1
  have hP : va_P D clW (wM cy ad I2_1 S2_1) H := hP
  have hD : va_D A (wM cy ad I2_1 S2_1) := hD
  exact wI_ret (I2_1, S2_1) hS hP hx hb hr hlocks dX7_valueByReplay_9 (Nat.le_of_ble_eq_true rfl) (Nat.le_of_ble_eq_true rfl) hQ q6_1

set_option maxHeartbeats 4000000 in
set_option maxRecDepth 100000 in
theorem c_X7_knownDays (l : Launch) (D : va_G) (cy : Nat → ClassId) (ad : Nat → Nat) (I : AI) (S : AS) (sz : Nat) (x : Int32) (b : Int32) (t : Int32) (k : Nat) (hk : I 3 = nI k) (hk8 : k ≤ 256) (fr : Nat → Nat) (to : Nat → Nat) (hfr : ∀ i : Nat, i < k → S 5 i = nI (fr i) ∧ S 6 i = nI (to i) ∧ fr i ≤ to i ∧ to i ≤ 100) : Met l yX7_knownDays (Cond.code yX7_knownDays cX7_knownDays 6 (some .int) :: wsL_law) ({ frames := 3, cells := 0, slots := 0, locals := 67 }) (va_Pc [.ref (ad 0), .int x, .int b, .int t] (wrB D cy (wM cy ad I S) sz)) (va_Qi (S := AI × AS) (fun r u => msc I S u.1 u.2 ∧ u.1 0 = afC I x b t ∧ (afC I x b t = 0 → r = kdN (lkM S (slM x b) t fr to k) 100)) (fun u t9 => va_P D clW (wM cy ad u.1 u.2) t9.heap) (va_A (wM cy ad I S) sz)) 0 0 (va_A (wM cy ad I S) sz) := by
  refine enter (cc := cX7_knownDays) (by decide) (Nat.le_of_ble_eq_true rfl) ?_
  intro p e s m below meth c hx hb hr hml hown hts hlocks hin hv Q hQ ls hl
  obtain ⟨hsz, hP, hK, hD0⟩ := hv
  subst hsz
  have hD := hD0.self (sz := s.heap.size)
  generalize hAe : va_A (wM cy ad I S) s.heap.size = A at hD hQ ⊢
  have hA : ∀ q : Nat, s.heap.size ≤ q → A q := fun q h => by rw [← hAe]; exact Or.inr h
  have hS : va_S A s.heap s.heap [] := va_S.rf
  suffices K_ : ∀ (H : Heap) (locs : List Loc), va_P D clW (wM cy ad I S) H → va_S A s.heap H locs → W p l e ({ frames := 3, cells := 0, slots := 0, locals := 67 }) s m ([.ref (ad 0), .int x, .int b, .int t] : List Value).toArray below meth c H locs 0 0 Q (F0 m 0 ls []) from K_ _ _ hP hS
  clear hP hS
  intro H locs hP hS
  have hown : s.vm.findClass RX7 = some m.cls := hown
  have hl : lv_has ls 6 [(0, .ref (ad 0)), (1, .int x), (2, .int b), (3, .int t)] := hl
  refine lv_aload_n hx hb dX7_knownDays_0 rfl (lv_at hl 0 rfl) ?_
  refine lv_aload_n hx hb dX7_knownDays_1 rfl (lv_at hl 0 rfl) ?_
  refine lv_iload_n hx hb dX7_knownDays_2 rfl (lv_at hl 1 rfl) ?_
  refine lv_iload_n hx hb dX7_knownDays_3 rfl (lv_at hl 2 rfl) ?_
  refine lv_iload_n hx hb dX7_knownDays_4 rfl (lv_at hl 3 rfl) ?_
  refine rI_call (va_runV (As := [.int x, .int b, .int t]) (rest := [.ref (ad 0)]) ⟨hx, hb, hml, hown, hts⟩ (c_X7_askFault l D cy ad I S x b t) (cw_X7_133 hts rfl rfl ⟨Nat.le_of_ble_eq_true rfl, Nat.le_of_ble_eq_true rfl⟩) (preVR (ci := 7) (q0 := 0) hK hP rfl rfl) rfl rfl hl.1 rfl (lv_room (Nat.le_of_ble_eq_true rfl)) dX7_knownDays_5 ⟨Nat.le_of_ble_eq_true rfl, Nat.le_of_ble_eq_true rfl⟩) (fun r hr_ => ?_)
  subst hr_
  refine wI_call (va_runV (As := [.int (afC I x b t)]) (rest := []) ⟨hx, hb, hml, hown, hts⟩ (c_X7_goesOn l D cy ad I S H.size (afC I x b t)) (cw_X7_71 hts rfl rfl ⟨Nat.le_of_ble_eq_true rfl, Nat.le_of_ble_eq_true rfl⟩) (preVW (ci := 7) (q0 := 0) hK hP hD rfl rfl) rfl rfl hl.1 rfl (lv_room (Nat.le_of_ble_eq_true rfl)) dX7_knownDays_8 ⟨Nat.le_of_ble_eq_true rfl, Nat.le_of_ble_eq_true rfl⟩) hP hD hS hA [0, 1, 2, 3, 4, 5, 6, 7, 8, 9, 10, 11, 12, 13, 14, 15, 16] rfl [.inr 0, .inr 1, .inr 2, .inr 3, .inr 4, .inr 5, .inr 6, .inr 7, .inr 8, .inr 9, .inr 10, .inr 11, .inr 12, .inr 13, .inr 14, .inr 15, .inr 16] (by decide) (fun u => (wM cy ad (va_up I 0 (afC I x b t)) S)) (fun _ => rfl) (fun _ => rfl) (fun r8_1 u8_1 H locs q8_1 hP hD hS hkp => ?_)
  have hP : va_P D clW (wM cy ad (va_up I 0 (afC I x b t)) S) H := hP
  have hD : va_D A (wM cy ad (va_up I 0 (afC I x b t)) S) := hD
  by_cases b8_1 : (afC I x b t) = 0
  · rw [if_pos b8_1] at q8_1
    subst q8_1
    refine lv_if_ne (tgt := 16) hx hb dX7_knownDays_11 (by decide) (fun _ => ?_) (fun c => absurd c (by decide))
    refine lv_aload_n hx hb dX7_knownDays_16 rfl (lv_at hl 0 rfl) ?_
    refine lv_aload_n hx hb dX7_knownDays_17 rfl (lv_at hl 0 rfl) ?_
    refine gf_X7_39 hx hb hts hown hK hP 0 rfl (v := .ref (ad 10)) rfl dX7_knownDays_18 ?_
    refine lv_iload_n hx hb dX7_knownDays_21 rfl (lv_at hl 1 rfl) ?_
    refine lv_iload_n hx hb dX7_knownDays_22 rfl (lv_at hl 2 rfl) ?_
    refine rI_call (va_runS (As := [.int x, .int b]) (rest := [.ref (ad 10), .ref (ad 0)]) ⟨hx, hb, hml, hown, hts⟩ (c_X7_placeOf l D cy x b) (cw_X7_103 hts rfl rfl ⟨Nat.le_of_ble_eq_true rfl, Nat.le_of_ble_eq_true rfl⟩) (preSR hK (hP.sub [] rfl)) rfl rfl hl.1 rfl (lv_room (Nat.le_of_ble_eq_true rfl)) dX7_knownDays_23 ⟨Nat.le_of_ble_eq_true rfl, Nat.le_of_ble_eq_true rfl⟩) (fun r hr_ => ?_)
    subst hr_
    refine lv_iload_n hx hb dX7_knownDays_26 rfl (lv_at hl 3 rfl) ?_
    refine wV_call (va_runV (As := [.ref (ad 10), .int (slM x b), .int t]) (rest := []) ⟨hx, hb, hml, hown, hts⟩ (c_X7_looksAt_10 l D cy ad (va_up I 0 (afC I x b t)) S H.size (slM x b) t k hk hk8 fr to hfr) (cw_X7_111 hts rfl rfl ⟨Nat.le_of_ble_eq_true rfl, Nat.le_of_ble_eq_true rfl⟩) (preVW (ci := 7) (q0 := 0) hK hP hD rfl rfl) rfl rfl hl.1 rfl (lv_room (Nat.le_of_ble_eq_true rfl)) dX7_knownDays_27 ⟨Nat.le_of_ble_eq_true rfl, Nat.le_of_ble_eq_true rfl⟩) hP hD hS hA [0, 1, 2, 3, 4, 5, 6, 7, 8, 9, 10, 11, 12, 13, 14, 15, 16] rfl [.inr 0, .inr 1, .inr 2, .inr 3, .inr 4, .inr 5, .inr 6, .inr 7, .inr 8, .inr 9, .inr 10, .inr 11, .inr 12, .inr 13, .inr 14, .inr 15, .inr 16] (by decide) (fun u => (wM cy ad (va_up I 0 (afC I x b t)) (va_up S 10 (lkN S (slM x b) t fr to (S 10) k)))) (fun _ => rfl) (fun _ => rfl) (fun u27_2 H locs q27_2 hP hD hS hkp => ?_)
    have hP : va_P D clW (wM cy ad (va_up I 0 (afC I x b t)) (va_up S 10 (lkN S (slM x b) t fr to (S 10) k))) H := hP
    have hD : va_D A (wM cy ad (va_up I 0 (afC I x b t)) (va_up S 10 (lkN S (slM x b) t fr to (S 10) k))) := hD
    refine lv_iconst (v := 0) hx hb dX7_knownDays_30 (by decide) ?_
    refine lv_istore (lv' := [(4, .int 0), (0, .ref (ad 0)), (1, .int x), (2, .int b), (3, .int t)]) hx hb dX7_knownDays_31 hl (by decide) rfl (fun ls hl => ?_)
    refine lv_iconst (v := 0) hx hb dX7_knownDays_33 (by decide) ?_
    refine lv_istore (lv' := [(5, .int 0), (4, .int 0), (0, .ref (ad 0)), (1, .int x), (2, .int b), (3, .int t)]) hx hb dX7_knownDays_34 hl (by decide) rfl (fun ls hl => ?_)
    have L36 : ∀ (n_36 i : Nat), i ≤ 100 → 100 + 1 ≤ i + n_36 → ∀ (H : Heap) (locs : List Loc), va_P D clW (wM cy ad (va_up I 0 (afC I x b t)) (va_up S 10 (lkN S (slM x b) t fr to (S 10) k))) H → va_D A (wM cy ad (va_up I 0 (afC I x b t)) (va_up S 10 (lkN S (slM x b) t fr to (S 10) k))) → va_S A s.heap H locs → ∀ (ls : Array Slot), lv_has ls 6 [(5, .int (nI i)), (4, .int (kdN (lkM S (slM x b) t fr to k) i)), (0, .ref (ad 0)), (1, .int x), (2, .int b), (3, .int t)] → W p l e { frames := 3, cells := 0, slots := 0, locals := 67 } s m ([.ref (ad 0), .int x, .int b, .int t] : List Value).toArray below meth c H locs 0 0 Q (F0 m 36 ls []) := by
      clear hl
      intro n_36
      induction n_36 with
      | zero => intro i  hle_36 hn_36; exact absurd hn_36 (by omega)
      | succ n_36 ih36 =>
        intro i  hle_36 hn_36  H locs hP hD hS ls hl
        refine lv_iload hx hb dX7_knownDays_36 (lv_at hl 0 rfl) ?_
        refine lv_bipush (v := 100) hx hb dX7_knownDays_38 (by decide) ?_
        refine lv_icmp_ge (tgt := 70) hx hb dX7_knownDays_40 (by decide) (fun c40_3 => ?_) (fun c40_3 => ?_)
        · have f40_3 : 100 ≤ i := nt_le (a := 100) (b := i) (by omega) (by omega) c40_3
          refine lv_iload hx hb dX7_knownDays_70 (lv_at hl 1 rfl) ?_
          exact wI_ret ((va_up I 0 (afC I x b t)), (va_up S 10 (lkN S (slM x b) t fr to (S 10) k))) hS hP hx hb hr hlocks dX7_knownDays_72 (Nat.le_of_ble_eq_true rfl) (Nat.le_of_ble_eq_true rfl) hQ ⟨(msc_S (msc_I (msc_0 I S) (by decide) _) (by decide) _), rfl, fun _ => by rw [show i = 100 by omega]⟩
        · have f40_3 : i < 100 := nt_nle (a := 100) (b := i) (by omega) (by omega) c40_3
          refine lv_iload hx hb dX7_knownDays_43 (lv_at hl 1 rfl) ?_
          refine lv_aload_n hx hb dX7_knownDays_45 rfl (lv_at hl 2 rfl) ?_
          refine gf_X7_39 hx hb hts hown hK hP 0 rfl (v := .ref (ad 10)) rfl dX7_knownDays_46 ?_
          refine lv_iload hx hb dX7_knownDays_49 (lv_at hl 0 rfl) ?_
          refine ald_I (f := (lkN S (slM x b) t fr to (S 10) k)) hx hb hK hP 10 rfl (i := i) (by omega) (by decide) dX7_knownDays_51 ?_
          refine lv_iconst (v := (-1)) hx hb dX7_knownDays_52 (by decide) ?_
          refine lv_icmp_ne (tgt := 60) hx hb dX7_knownDays_53 (by decide) (fun c53_4 => ?_) (fun c53_4 => ?_)
          · refine lv_iconst (v := 1) hx hb dX7_knownDays_60 (by decide) ?_
            refine lv_iadd hx hb dX7_knownDays_61 ?_
            refine lv_istore (lv' := [(4, .int ((kdN (lkM S (slM x b) t fr to k) i) + 1)), (5, .int (nI i)), (0, .ref (ad 0)), (1, .int x), (2, .int b), (3, .int t)]) hx hb dX7_knownDays_62 hl (by decide) rfl (fun ls hl => ?_)
            refine lv_iinc (v := (nI (i + 1))) (lv' := [(5, .int (nI (i + 1))), (4, .int ((kdN (lkM S (slM x b) t fr to k) i) + 1)), (0, .ref (ad 0)), (1, .int x), (2, .int b), (3, .int t)]) hx hb dX7_knownDays_64 hl (k := 1) rfl (nI_1 i) (by decide) rfl (fun ls hl => ?_)
            refine lv_goto (tgt := 36) hx hb dX7_knownDays_67 (by decide) ?_
            have e_5 : ((kdN (lkM S (slM x b) t fr to k) i) + 1) = (kdN (lkM S (slM x b) t fr to k) (i + 1)) := (kd_f c53_4).symm
            have hl : lv_has ls 6 [(5, .int (nI (i + 1))), (4, .int (kdN (lkM S (slM x b) t fr to k) (i + 1))), (0, .ref (ad 0)), (1, .int x), (2, .int b), (3, .int t)] := by rw [← e_5]; exact hl
            have hP : va_P D clW (wM cy ad (va_up I 0 (afC I x b t)) (va_up S 10 (lkN S (slM x b) t fr to (S 10) k))) H := hP
            have hD : va_D A (wM cy ad (va_up I 0 (afC I x b t)) (va_up S 10 (lkN S (slM x b) t fr to (S 10) k))) := hD.addr rfl
            exact ih36 (i + 1) (by omega) (by omega) _ _ hP hD hS ls (lv_sub hl [0, 1, 2, 3, 4, 5] rfl)
          · refine lv_iconst (v := 0) hx hb dX7_knownDays_56 (by decide) ?_
            refine lv_goto (tgt := 61) hx hb dX7_knownDays_57 (by decide) ?_
            refine lv_iadd hx hb dX7_knownDays_61 ?_
            refine lv_istore (lv' := [(4, .int ((kdN (lkM S (slM x b) t fr to k) i) + 0)), (5, .int (nI i)), (0, .ref (ad 0)), (1, .int x), (2, .int b), (3, .int t)]) hx hb dX7_knownDays_62 hl (by decide) rfl (fun ls hl => ?_)
            refine lv_iinc (v := (nI (i + 1))) (lv' := [(5, .int (nI (i + 1))), (4, .int ((kdN (lkM S (slM x b) t fr to k) i) + 0)), (0, .ref (ad 0)), (1, .int x), (2, .int b), (3, .int t)]) hx hb dX7_knownDays_64 hl (k := 1) rfl (nI_1 i) (by decide) rfl (fun ls hl => ?_)
            refine lv_goto (tgt := 36) hx hb dX7_knownDays_67 (by decide) ?_
            have e_6 : ((kdN (lkM S (slM x b) t fr to k) i) + 0) = (kdN (lkM S (slM x b) t fr to k) (i + 1)) := (kd_t c53_4).symm
            have hl : lv_has ls 6 [(5, .int (nI (i + 1))), (4, .int (kdN (lkM S (slM x b) t fr to k) (i + 1))), (0, .ref (ad 0)), (1, .int x), (2, .int b), (3, .int t)] := by rw [← e_6]; exact hl
            have hP : va_P D clW (wM cy ad (va_up I 0 (afC I x b t)) (va_up S 10 (lkN S (slM x b) t fr to (S 10) k))) H := hP
            have hD : va_D A (wM cy ad (va_up I 0 (afC I x b t)) (va_up S 10 (lkN S (slM x b) t fr to (S 10) k))) := hD.addr rfl
            exact ih36 (i + 1) (by omega) (by omega) _ _ hP hD hS ls (lv_sub hl [0, 1, 2, 3, 4, 5] rfl)
    have hP : va_P D clW (wM cy ad (va_up I 0 (afC I x b t)) (va_up S 10 (lkN S (slM x b) t fr to (S 10) k))) H := hP
    have hD : va_D A (wM cy ad (va_up I 0 (afC I x b t)) (va_up S 10 (lkN S (slM x b) t fr to (S 10) k))) := hD.addr rfl
    exact L36 (100 + 1) 0 (by omega) (by omega) _ _ hP hD hS ls (lv_sub hl [0, 1, 2, 3, 4, 5] rfl)
  · rw [if_neg b8_1] at q8_1
    subst q8_1
    refine lv_if_ne (tgt := 16) hx hb dX7_knownDays_11 (by decide) (fun c => absurd (by decide) c) (fun _ => ?_)
    refine lv_iconst (v := 0) hx hb dX7_knownDays_14 (by decide) ?_
    exact wI_ret ((va_up I 0 (afC I x b t)), S) hS hP hx hb hr hlocks dX7_knownDays_15 (Nat.le_of_ble_eq_true rfl) (Nat.le_of_ble_eq_true rfl) hQ ⟨(msc_I (msc_0 I S) (by decide) _), rfl, fun q => absurd q b8_1⟩

set_option maxHeartbeats 4000000 in
set_option maxRecDepth 100000 in
theorem c_X7_isLike_10 (l : Launch) (D : va_G) (cy : Nat → ClassId) (ad : Nat → Nat) (I : AI) (S : AS) (d : Nat) (e9 : Nat) (k : Nat) (hk8 : k ≤ 256) (hrow : rowP k (S 10)) (hd : d < 100) (he : e9 < 100) : Met l yX7_isLike (Cond.code yX7_isLike cX7_isLike 4 (some .boolean) :: wsL_law) ({ frames := 0, cells := 0, slots := 0, locals := 0 }) (va_Pc [.ref (ad 0), .ref (ad 10), .int (nI d), .int (nI e9)] (rdB D cy (wM cy ad I S))) (rdI (fun r => r = if likeB (S 4) (S 10) d e9 = true then 1 else 0)) 0 0 noA := by
  refine enter (cc := cX7_isLike) (by decide) (Nat.le_of_ble_eq_true rfl) ?_
  intro p e s m below meth c hx hb hr hml hown hts hlocks hin hv Q hQ ls hl
  obtain ⟨hP, hK⟩ := hv
  have hown : s.vm.findClass RX7 = some m.cls := hown
  have hl : lv_has ls 4 [(0, .ref (ad 0)), (1, .ref (ad 10)), (2, .int (nI d)), (3, .int (nI e9))] := hl
  refine lv_aload_n hx hb dX7_isLike_0 rfl (lv_at hl 1 rfl) ?_
  refine lv_iload_n hx hb dX7_isLike_1 rfl (lv_at hl 2 rfl) ?_
  refine ald_I (f := (S 10)) hx hb hK hP 10 rfl (i := d) (by omega) (by decide) dX7_isLike_2 ?_
  refine lv_iconst (v := (-1)) hx hb dX7_isLike_3 (by decide) ?_
  refine lv_icmp_eq (tgt := 37) hx hb dX7_isLike_4 (by decide) (fun c4_1 => ?_) (fun c4_1 => ?_)
  · refine lv_iconst (v := 0) hx hb dX7_isLike_37 (by decide) ?_
    exact rZ_ret hx hb hr hlocks dX7_isLike_38 narZ0 hQ (by simp [likeB, c4_1])
  · refine lv_aload_n hx hb dX7_isLike_7 rfl (lv_at hl 1 rfl) ?_
    refine lv_iload_n hx hb dX7_isLike_8 rfl (lv_at hl 3 rfl) ?_
    refine ald_I (f := (S 10)) hx hb hK hP 10 rfl (i := e9) (by omega) (by decide) dX7_isLike_9 ?_
    refine lv_iconst (v := (-1)) hx hb dX7_isLike_10 (by decide) ?_
    refine lv_icmp_eq (tgt := 37) hx hb dX7_isLike_11 (by decide) (fun c11_2 => ?_) (fun c11_2 => ?_)
    · refine lv_iconst (v := 0) hx hb dX7_isLike_37 (by decide) ?_
      exact rZ_ret hx hb hr hlocks dX7_isLike_38 narZ0 hQ (by simp [likeB, c4_1, c11_2])
    · refine lv_aload_n hx hb dX7_isLike_14 rfl (lv_at hl 0 rfl) ?_
      refine gf_X7_20 hx hb hts hown hK hP 0 rfl (v := .ref (ad 4)) rfl dX7_isLike_15 ?_
      refine lv_aload_n hx hb dX7_isLike_18 rfl (lv_at hl 1 rfl) ?_
      refine lv_iload_n hx hb dX7_isLike_19 rfl (lv_at hl 2 rfl) ?_
      refine ald_I (f := (S 10)) hx hb hK hP 10 rfl (i := d) (by omega) (by decide) dX7_isLike_20 ?_
      refine ald_Ix (f := (S 4)) hx hb hK hP 4 rfl (row_in hrow hk8 (by decide) hd c4_1) dX7_isLike_21 ?_
      refine lv_aload_n hx hb dX7_isLike_22 rfl (lv_at hl 0 rfl) ?_
      refine gf_X7_20 hx hb hts hown hK hP 0 rfl (v := .ref (ad 4)) rfl dX7_isLike_23 ?_
      refine lv_aload_n hx hb dX7_isLike_26 rfl (lv_at hl 1 rfl) ?_
      refine lv_iload_n hx hb dX7_isLike_27 rfl (lv_at hl 3 rfl) ?_
      refine ald_I (f := (S 10)) hx hb hK hP 10 rfl (i := e9) (by omega) (by decide) dX7_isLike_28 ?_
      refine ald_Ix (f := (S 4)) hx hb hK hP 4 rfl (row_in hrow hk8 (by decide) he c11_2) dX7_isLike_29 ?_
      refine lv_icmp_ne (tgt := 37) hx hb dX7_isLike_30 (by decide) (fun c30_3 => ?_) (fun c30_3 => ?_)
      · refine lv_iconst (v := 0) hx hb dX7_isLike_37 (by decide) ?_
        exact rZ_ret hx hb hr hlocks dX7_isLike_38 narZ0 hQ (by simp [likeB, c4_1, c11_2, c30_3])
      · refine lv_iconst (v := 1) hx hb dX7_isLike_33 (by decide) ?_
        refine lv_goto (tgt := 38) hx hb dX7_isLike_34 (by decide) ?_
        exact rZ_ret hx hb hr hlocks dX7_isLike_38 narZ1 hQ (by simp [likeB, c4_1, c11_2, c30_3])

set_option maxHeartbeats 4000000 in
set_option maxRecDepth 100000 in
theorem c_X7_isLike_11 (l : Launch) (D : va_G) (cy : Nat → ClassId) (ad : Nat → Nat) (I : AI) (S : AS) (d : Nat) (e9 : Nat) (k : Nat) (hk8 : k ≤ 256) (hrow : rowP k (S 11)) (hd : d < 100) (he : e9 < 100) : Met l yX7_isLike (Cond.code yX7_isLike cX7_isLike 4 (some .boolean) :: wsL_law) ({ frames := 0, cells := 0, slots := 0, locals := 0 }) (va_Pc [.ref (ad 0), .ref (ad 11), .int (nI d), .int (nI e9)] (rdB D cy (wM cy ad I S))) (rdI (fun r => r = if likeB (S 4) (S 11) d e9 = true then 1 else 0)) 0 0 noA := by
  refine enter (cc := cX7_isLike) (by decide) (Nat.le_of_ble_eq_true rfl) ?_
  intro p e s m below meth c hx hb hr hml hown hts hlocks hin hv Q hQ ls hl
  obtain ⟨hP, hK⟩ := hv
  have hown : s.vm.findClass RX7 = some m.cls := hown
  have hl : lv_has ls 4 [(0, .ref (ad 0)), (1, .ref (ad 11)), (2, .int (nI d)), (3, .int (nI e9))] := hl
  refine lv_aload_n hx hb dX7_isLike_0 rfl (lv_at hl 1 rfl) ?_
  refine lv_iload_n hx hb dX7_isLike_1 rfl (lv_at hl 2 rfl) ?_
  refine ald_I (f := (S 11)) hx hb hK hP 11 rfl (i := d) (by omega) (by decide) dX7_isLike_2 ?_
  refine lv_iconst (v := (-1)) hx hb dX7_isLike_3 (by decide) ?_
  refine lv_icmp_eq (tgt := 37) hx hb dX7_isLike_4 (by decide) (fun c4_1 => ?_) (fun c4_1 => ?_)
  · refine lv_iconst (v := 0) hx hb dX7_isLike_37 (by decide) ?_
    exact rZ_ret hx hb hr hlocks dX7_isLike_38 narZ0 hQ (by simp [likeB, c4_1])
  · refine lv_aload_n hx hb dX7_isLike_7 rfl (lv_at hl 1 rfl) ?_
    refine lv_iload_n hx hb dX7_isLike_8 rfl (lv_at hl 3 rfl) ?_
    refine ald_I (f := (S 11)) hx hb hK hP 11 rfl (i := e9) (by omega) (by decide) dX7_isLike_9 ?_
    refine lv_iconst (v := (-1)) hx hb dX7_isLike_10 (by decide) ?_
    refine lv_icmp_eq (tgt := 37) hx hb dX7_isLike_11 (by decide) (fun c11_2 => ?_) (fun c11_2 => ?_)
    · refine lv_iconst (v := 0) hx hb dX7_isLike_37 (by decide) ?_
      exact rZ_ret hx hb hr hlocks dX7_isLike_38 narZ0 hQ (by simp [likeB, c4_1, c11_2])
    · refine lv_aload_n hx hb dX7_isLike_14 rfl (lv_at hl 0 rfl) ?_
      refine gf_X7_20 hx hb hts hown hK hP 0 rfl (v := .ref (ad 4)) rfl dX7_isLike_15 ?_
      refine lv_aload_n hx hb dX7_isLike_18 rfl (lv_at hl 1 rfl) ?_
      refine lv_iload_n hx hb dX7_isLike_19 rfl (lv_at hl 2 rfl) ?_
      refine ald_I (f := (S 11)) hx hb hK hP 11 rfl (i := d) (by omega) (by decide) dX7_isLike_20 ?_
      refine ald_Ix (f := (S 4)) hx hb hK hP 4 rfl (row_in hrow hk8 (by decide) hd c4_1) dX7_isLike_21 ?_
      refine lv_aload_n hx hb dX7_isLike_22 rfl (lv_at hl 0 rfl) ?_
      refine gf_X7_20 hx hb hts hown hK hP 0 rfl (v := .ref (ad 4)) rfl dX7_isLike_23 ?_
      refine lv_aload_n hx hb dX7_isLike_26 rfl (lv_at hl 1 rfl) ?_
      refine lv_iload_n hx hb dX7_isLike_27 rfl (lv_at hl 3 rfl) ?_
      refine ald_I (f := (S 11)) hx hb hK hP 11 rfl (i := e9) (by omega) (by decide) dX7_isLike_28 ?_
      refine ald_Ix (f := (S 4)) hx hb hK hP 4 rfl (row_in hrow hk8 (by decide) he c11_2) dX7_isLike_29 ?_
      refine lv_icmp_ne (tgt := 37) hx hb dX7_isLike_30 (by decide) (fun c30_3 => ?_) (fun c30_3 => ?_)
      · refine lv_iconst (v := 0) hx hb dX7_isLike_37 (by decide) ?_
        exact rZ_ret hx hb hr hlocks dX7_isLike_38 narZ0 hQ (by simp [likeB, c4_1, c11_2, c30_3])
      · refine lv_iconst (v := 1) hx hb dX7_isLike_33 (by decide) ?_
        refine lv_goto (tgt := 38) hx hb dX7_isLike_34 (by decide) ?_
        exact rZ_ret hx hb hr hlocks dX7_isLike_38 narZ1 hQ (by simp [likeB, c4_1, c11_2, c30_3])

set_option maxHeartbeats 4000000 in
set_option maxRecDepth 100000 in
theorem c_X7_finds_0 (l : Launch) (D : va_G) (cy : Nat → ClassId) (ad : Nat → Nat) (I : AI) (S : AS) (sz : Nat) (k : Nat) (hk8 : k ≤ 256) (hrow : rowP k (S 10)) : Met l yX7_finds (Cond.code yX7_finds cX7_finds 4 none :: wsL_law) ({ frames := 1, cells := 0, slots := 0, locals := 23 }) (va_Pc [.ref (ad 0), .int 0] (wrB D cy (wM cy ad I S) sz)) (va_Qv (S := Unit) (fun u => True) (fun u t9 => va_P D clW (wM cy ad (va_up I 6 (nI (pmS (S 4) (S 10) (S 11) false (S 12) (S 13) 100).1)) (va_up (va_up S 12 (pmS (S 4) (S 10) (S 11) false (S 12) (S 13) 100).2.1) 13 (pmS (S 4) (S 10) (S 11) false (S 12) (S 13) 100).2.2)) t9.heap) (va_A (wM cy ad I S) sz)) 0 0 (va_A (wM cy ad I S) sz) := by
  refine enter (cc := cX7_finds) (by decide) (Nat.le_of_ble_eq_true rfl) ?_
  intro p e s m below meth c hx hb hr hml hown hts hlocks hin hv Q hQ ls hl
  obtain ⟨hsz, hP, hK, hD0⟩ := hv
  subst hsz
  have hD := hD0.self (sz := s.heap.size)
  generalize hAe : va_A (wM cy ad I S) s.heap.size = A at hD hQ ⊢
  have hA : ∀ q : Nat, s.heap.size ≤ q → A q := fun q h => by rw [← hAe]; exact Or.inr h
  have hS : va_S A s.heap s.heap [] := va_S.rf
  suffices K_ : ∀ (H : Heap) (locs : List Loc), va_P D clW (wM cy ad I S) H → va_S A s.heap H locs → W p l e ({ frames := 1, cells := 0, slots := 0, locals := 23 }) s m ([.ref (ad 0), .int 0] : List Value).toArray below meth c H locs 0 0 Q (F0 m 0 ls []) from K_ _ _ hP hS
  clear hP hS
  intro H locs hP hS
  have hown : s.vm.findClass RX7 = some m.cls := hown
  have hl : lv_has ls 4 [(0, .ref (ad 0)), (1, .int 0)] := hl
  refine lv_aload_n hx hb dX7_finds_0 rfl (lv_at hl 0 rfl) ?_
  refine lv_iconst (v := 0) hx hb dX7_finds_1 (by decide) ?_
  refine pf_X7_136 hx hb hts hown hK hP hD hS 0 rfl (Nat.le_of_ble_eq_true rfl) dX7_finds_2 (fun H locs hP hD hS => ?_)
  have hP : va_P D clW (wM cy ad (va_up I 6 0) S) H := hP
  have hD : va_D A (wM cy ad (va_up I 6 0) S) := hD
  refine lv_iconst (v := 0) hx hb dX7_finds_5 (by decide) ?_
  refine lv_istore_n (lv' := [(2, .int 0), (0, .ref (ad 0)), (1, .int 0)]) hx hb dX7_finds_6 rfl hl (by decide) rfl (fun ls hl => ?_)
  have L7 : ∀ (n_7 d : Nat), d ≤ 100 → 100 + 1 ≤ d + n_7 → ∀ (H : Heap) (locs : List Loc), va_P D clW (wM cy ad (va_up I 6 (nI (pmS (S 4) (S 10) (S 11) false (S 12) (S 13) d).1)) (va_up (va_up S 12 (pmS (S 4) (S 10) (S 11) false (S 12) (S 13) d).2.1) 13 (pmS (S 4) (S 10) (S 11) false (S 12) (S 13) d).2.2)) H → va_D A (wM cy ad (va_up I 6 (nI (pmS (S 4) (S 10) (S 11) false (S 12) (S 13) d).1)) (va_up (va_up S 12 (pmS (S 4) (S 10) (S 11) false (S 12) (S 13) d).2.1) 13 (pmS (S 4) (S 10) (S 11) false (S 12) (S 13) d).2.2)) → va_S A s.heap H locs → ∀ (ls : Array Slot), lv_has ls 4 [(2, .int (nI d)), (0, .ref (ad 0)), (1, .int 0)] → W p l e { frames := 1, cells := 0, slots := 0, locals := 23 } s m ([.ref (ad 0), .int 0] : List Value).toArray below meth c H locs 0 0 Q (F0 m 7 ls []) := by
    clear hl
    intro n_7
    induction n_7 with
    | zero => intro d  hle_7 hn_7; exact absurd hn_7 (by omega)
    | succ n_7 ih7 =>
      intro d  hle_7 hn_7  H locs hP hD hS ls hl
      have hpl := pmS_le (S 4) (S 10) (S 11) false (S 12) (S 13) d
      refine lv_iload_n hx hb dX7_finds_7 rfl (lv_at hl 0 rfl) ?_
      refine lv_bipush (v := 100) hx hb dX7_finds_8 (by decide) ?_
      refine lv_icmp_ge (tgt := 146) hx hb dX7_finds_10 (by decide) (fun c10_1 => ?_) (fun c10_1 => ?_)
      · have f10_1 : 100 ≤ d := nt_le (a := 100) (b := d) (by omega) (by omega) c10_1
        have e_2 : (nI (pmS (S 4) (S 10) (S 11) false (S 12) (S 13) d).1) = (nI (pmS (S 4) (S 10) (S 11) false (S 12) (S 13) 100).1) := (by rw [show d = 100 by omega])
        have e_3 : (pmS (S 4) (S 10) (S 11) false (S 12) (S 13) d).2.1 = (pmS (S 4) (S 10) (S 11) false (S 12) (S 13) 100).2.1 := (by rw [show d = 100 by omega])
        have e_4 : (pmS (S 4) (S 10) (S 11) false (S 12) (S 13) d).2.2 = (pmS (S 4) (S 10) (S 11) false (S 12) (S 13) 100).2.2 := (by rw [show d = 100 by omega])
        have hP : va_P D clW (wM cy ad (va_up I 6 (nI (pmS (S 4) (S 10) (S 11) false (S 12) (S 13) 100).1)) (va_up (va_up S 12 (pmS (S 4) (S 10) (S 11) false (S 12) (S 13) 100).2.1) 13 (pmS (S 4) (S 10) (S 11) false (S 12) (S 13) 100).2.2)) H := by rw [← e_2, ← e_3, ← e_4]; exact hP
        have hD : va_D A (wM cy ad (va_up I 6 (nI (pmS (S 4) (S 10) (S 11) false (S 12) (S 13) 100).1)) (va_up (va_up S 12 (pmS (S 4) (S 10) (S 11) false (S 12) (S 13) 100).2.1) 13 (pmS (S 4) (S 10) (S 11) false (S 12) (S 13) 100).2.2)) := hD.addr rfl
        exact wV_ret () hS hP hx hb hr hlocks dX7_finds_146 (Nat.le_of_ble_eq_true rfl) (Nat.le_of_ble_eq_true rfl) hQ trivial
      · have f10_1 : d < 100 := nt_nle (a := 100) (b := d) (by omega) (by omega) c10_1
        refine lv_aload_n hx hb dX7_finds_13 rfl (lv_at hl 1 rfl) ?_
        refine gf_X7_39 hx hb hts hown hK hP 0 rfl (v := .ref (ad 10)) rfl dX7_finds_14 ?_
        refine lv_iload_n hx hb dX7_finds_17 rfl (lv_at hl 0 rfl) ?_
        refine ald_I (f := (S 10)) hx hb hK hP 10 rfl (i := d) (by omega) (by decide) dX7_finds_18 ?_
        refine lv_iconst (v := (-1)) hx hb dX7_finds_19 (by decide) ?_
        refine lv_icmp_eq (tgt := 140) hx hb dX7_finds_20 (by decide) (fun c20_5 => ?_) (fun c20_5 => ?_)
        · refine lv_iinc (v := (nI (d + 1))) (lv' := [(2, .int (nI (d + 1))), (0, .ref (ad 0)), (1, .int 0)]) hx hb dX7_finds_140 hl (k := 0) rfl (nI_1 d) (by decide) rfl (fun ls hl => ?_)
          refine lv_goto (tgt := 7) hx hb dX7_finds_143 (by decide) ?_
          have e_6 : (nI (pmS (S 4) (S 10) (S 11) false (S 12) (S 13) d).1) = (nI (pmS (S 4) (S 10) (S 11) false (S 12) (S 13) (d + 1)).1) := (by rw [pm_skip (by simp [skB, c20_5])])
          have e_7 : (pmS (S 4) (S 10) (S 11) false (S 12) (S 13) d).2.1 = (pmS (S 4) (S 10) (S 11) false (S 12) (S 13) (d + 1)).2.1 := (by rw [pm_skip (by simp [skB, c20_5])])
          have e_8 : (pmS (S 4) (S 10) (S 11) false (S 12) (S 13) d).2.2 = (pmS (S 4) (S 10) (S 11) false (S 12) (S 13) (d + 1)).2.2 := (by rw [pm_skip (by simp [skB, c20_5])])
          have hP : va_P D clW (wM cy ad (va_up I 6 (nI (pmS (S 4) (S 10) (S 11) false (S 12) (S 13) (d + 1)).1)) (va_up (va_up S 12 (pmS (S 4) (S 10) (S 11) false (S 12) (S 13) (d + 1)).2.1) 13 (pmS (S 4) (S 10) (S 11) false (S 12) (S 13) (d + 1)).2.2)) H := by rw [← e_6, ← e_7, ← e_8]; exact hP
          have hD : va_D A (wM cy ad (va_up I 6 (nI (pmS (S 4) (S 10) (S 11) false (S 12) (S 13) (d + 1)).1)) (va_up (va_up S 12 (pmS (S 4) (S 10) (S 11) false (S 12) (S 13) (d + 1)).2.1) 13 (pmS (S 4) (S 10) (S 11) false (S 12) (S 13) (d + 1)).2.2)) := hD.addr rfl
          exact ih7 (d + 1) (by omega) (by omega) _ _ hP hD hS ls (lv_sub hl [0, 1, 2] rfl)
        · refine lv_iload_n hx hb dX7_finds_23 rfl (lv_at hl 2 rfl) ?_
          refine lv_if_eq (tgt := 40) hx hb dX7_finds_24 (by decide) (fun _ => ?_) (fun c => absurd (by decide) c)
          refine lv_aload_n hx hb dX7_finds_40 rfl (lv_at hl 1 rfl) ?_
          refine gf_X7_136 hx hb hts hown hK hP 0 rfl (v := .int (nI (pmS (S 4) (S 10) (S 11) false (S 12) (S 13) d).1)) rfl dX7_finds_41 ?_
          refine lv_if_le (tgt := 100) hx hb dX7_finds_44 (by decide) (fun c44_9 => ?_) (fun c44_9 => ?_)
          · have f44_9 : (pmS (S 4) (S 10) (S 11) false (S 12) (S 13) d).1 ≤ 0 := nt_le (a := (pmS (S 4) (S 10) (S 11) false (S 12) (S 13) d).1) (b := 0) (by omega) (by omega) c44_9
            refine lv_iconst (v := 0) hx hb dX7_finds_100 (by decide) ?_
            refine lv_istore_n (lv' := [(3, .int 0), (2, .int (nI d)), (0, .ref (ad 0)), (1, .int 0)]) hx hb dX7_finds_101 rfl hl (by decide) rfl (fun ls hl => ?_)
            refine lv_iload_n hx hb dX7_finds_102 rfl (lv_at hl 0 rfl) ?_
            refine lv_if_ne (tgt := 126) hx hb dX7_finds_103 (by decide) (fun c => absurd (by decide) c) (fun _ => ?_)
            refine lv_aload_n hx hb dX7_finds_106 rfl (lv_at hl 2 rfl) ?_
            refine gf_X7_45 hx hb hts hown hK hP 0 rfl (v := .ref (ad 12)) rfl dX7_finds_107 ?_
            refine lv_aload_n hx hb dX7_finds_110 rfl (lv_at hl 2 rfl) ?_
            refine gf_X7_136 hx hb hts hown hK hP 0 rfl (v := .int (nI (pmS (S 4) (S 10) (S 11) false (S 12) (S 13) d).1)) rfl dX7_finds_111 ?_
            refine lv_iload_n hx hb dX7_finds_114 rfl (lv_at hl 1 rfl) ?_
            refine ast_I hx hb hK hP hD hS 12 rfl (i := (pmS (S 4) (S 10) (S 11) false (S 12) (S 13) d).1) (x := (nI d)) (by omega) (by decide) dX7_finds_115 (fun H locs hP hD hS => ?_)
            have hP : va_P D clW (wM cy ad (va_up I 6 (nI (pmS (S 4) (S 10) (S 11) false (S 12) (S 13) d).1)) (va_up (va_up S 13 (pmS (S 4) (S 10) (S 11) false (S 12) (S 13) d).2.2) 12 (upd (pmS (S 4) (S 10) (S 11) false (S 12) (S 13) d).2.1 (pmS (S 4) (S 10) (S 11) false (S 12) (S 13) d).1 (nI d)))) H := hP
            have hD : va_D A (wM cy ad (va_up I 6 (nI (pmS (S 4) (S 10) (S 11) false (S 12) (S 13) d).1)) (va_up (va_up S 13 (pmS (S 4) (S 10) (S 11) false (S 12) (S 13) d).2.2) 12 (upd (pmS (S 4) (S 10) (S 11) false (S 12) (S 13) d).2.1 (pmS (S 4) (S 10) (S 11) false (S 12) (S 13) d).1 (nI d)))) := hD
            refine lv_aload_n hx hb dX7_finds_116 rfl (lv_at hl 2 rfl) ?_
            refine lv_dup hx hb dX7_finds_117 rfl ?_
            refine gf_X7_136 hx hb hts hown hK hP 0 rfl (v := .int (nI (pmS (S 4) (S 10) (S 11) false (S 12) (S 13) d).1)) rfl dX7_finds_118 ?_
            refine lv_iconst (v := 1) hx hb dX7_finds_121 (by decide) ?_
            refine lv_iadd hx hb dX7_finds_122 ?_
            refine top_eq (y := nI ((pmS (S 4) (S 10) (S 11) false (S 12) (S 13) d).1 + 1)) (nI_add (pmS (S 4) (S 10) (S 11) false (S 12) (S 13) d).1 1) ?_
            refine pf_X7_136 hx hb hts hown hK hP hD hS 0 rfl (Nat.le_of_ble_eq_true rfl) dX7_finds_123 (fun H locs hP hD hS => ?_)
            have hP : va_P D clW (wM cy ad (va_up I 6 (nI ((pmS (S 4) (S 10) (S 11) false (S 12) (S 13) d).1 + 1))) (va_up (va_up S 13 (pmS (S 4) (S 10) (S 11) false (S 12) (S 13) d).2.2) 12 (upd (pmS (S 4) (S 10) (S 11) false (S 12) (S 13) d).2.1 (pmS (S 4) (S 10) (S 11) false (S 12) (S 13) d).1 (nI d)))) H := hP
            have hD : va_D A (wM cy ad (va_up I 6 (nI ((pmS (S 4) (S 10) (S 11) false (S 12) (S 13) d).1 + 1))) (va_up (va_up S 13 (pmS (S 4) (S 10) (S 11) false (S 12) (S 13) d).2.2) 12 (upd (pmS (S 4) (S 10) (S 11) false (S 12) (S 13) d).2.1 (pmS (S 4) (S 10) (S 11) false (S 12) (S 13) d).1 (nI d)))) := hD
            refine lv_aload_n hx hb dX7_finds_126 rfl (lv_at hl 2 rfl) ?_
            refine gf_X7_48 hx hb hts hown hK hP 0 rfl (v := .ref (ad 13)) rfl dX7_finds_127 ?_
            refine lv_aload_n hx hb dX7_finds_130 rfl (lv_at hl 2 rfl) ?_
            refine gf_X7_136 hx hb hts hown hK hP 0 rfl (v := .int (nI ((pmS (S 4) (S 10) (S 11) false (S 12) (S 13) d).1 + 1))) rfl dX7_finds_131 ?_
            refine lv_iconst (v := 1) hx hb dX7_finds_134 (by decide) ?_
            refine lv_isub hx hb dX7_finds_135 ?_
            refine top_eq (y := nI (pmS (S 4) (S 10) (S 11) false (S 12) (S 13) d).1) (nI_pred _) ?_
            refine lv_iload_n hx hb dX7_finds_136 rfl (lv_at hl 1 rfl) ?_
            refine lv_iconst (v := 1) hx hb dX7_finds_137 (by decide) ?_
            refine lv_iadd hx hb dX7_finds_138 ?_
            refine top_eq (y := nI (d + 1)) (nI_add d 1) ?_
            refine ast_I hx hb hK hP hD hS 13 rfl (i := (pmS (S 4) (S 10) (S 11) false (S 12) (S 13) d).1) (x := (nI (d + 1))) (by omega) (by decide) dX7_finds_139 (fun H locs hP hD hS => ?_)
            have hP : va_P D clW (wM cy ad (va_up I 6 (nI ((pmS (S 4) (S 10) (S 11) false (S 12) (S 13) d).1 + 1))) (va_up (va_up S 12 (upd (pmS (S 4) (S 10) (S 11) false (S 12) (S 13) d).2.1 (pmS (S 4) (S 10) (S 11) false (S 12) (S 13) d).1 (nI d))) 13 (upd (pmS (S 4) (S 10) (S 11) false (S 12) (S 13) d).2.2 (pmS (S 4) (S 10) (S 11) false (S 12) (S 13) d).1 (nI (d + 1))))) H := hP
            have hD : va_D A (wM cy ad (va_up I 6 (nI ((pmS (S 4) (S 10) (S 11) false (S 12) (S 13) d).1 + 1))) (va_up (va_up S 12 (upd (pmS (S 4) (S 10) (S 11) false (S 12) (S 13) d).2.1 (pmS (S 4) (S 10) (S 11) false (S 12) (S 13) d).1 (nI d))) 13 (upd (pmS (S 4) (S 10) (S 11) false (S 12) (S 13) d).2.2 (pmS (S 4) (S 10) (S 11) false (S 12) (S 13) d).1 (nI (d + 1))))) := hD
            refine lv_iinc (v := (nI (d + 1))) (lv' := [(2, .int (nI (d + 1))), (3, .int 0), (0, .ref (ad 0)), (1, .int 0)]) hx hb dX7_finds_140 hl (k := 1) rfl (nI_1 d) (by decide) rfl (fun ls hl => ?_)
            refine lv_goto (tgt := 7) hx hb dX7_finds_143 (by decide) ?_
            have e_10 : (nI ((pmS (S 4) (S 10) (S 11) false (S 12) (S 13) d).1 + 1)) = (nI (pmS (S 4) (S 10) (S 11) false (S 12) (S 13) (d + 1)).1) := (by rw [pm_new (by simp [skB, c20_5]) (by simp [goB, show ¬ 0 < (pmS (S 4) (S 10) (S 11) false (S 12) (S 13) d).1 by omega])])
            have e_11 : (upd (pmS (S 4) (S 10) (S 11) false (S 12) (S 13) d).2.1 (pmS (S 4) (S 10) (S 11) false (S 12) (S 13) d).1 (nI d)) = (pmS (S 4) (S 10) (S 11) false (S 12) (S 13) (d + 1)).2.1 := (by rw [pm_new (by simp [skB, c20_5]) (by simp [goB, show ¬ 0 < (pmS (S 4) (S 10) (S 11) false (S 12) (S 13) d).1 by omega])])
            have e_12 : (upd (pmS (S 4) (S 10) (S 11) false (S 12) (S 13) d).2.2 (pmS (S 4) (S 10) (S 11) false (S 12) (S 13) d).1 (nI (d + 1))) = (pmS (S 4) (S 10) (S 11) false (S 12) (S 13) (d + 1)).2.2 := (by rw [pm_new (by simp [skB, c20_5]) (by simp [goB, show ¬ 0 < (pmS (S 4) (S 10) (S 11) false (S 12) (S 13) d).1 by omega])])
            have hP : va_P D clW (wM cy ad (va_up I 6 (nI (pmS (S 4) (S 10) (S 11) false (S 12) (S 13) (d + 1)).1)) (va_up (va_up S 12 (pmS (S 4) (S 10) (S 11) false (S 12) (S 13) (d + 1)).2.1) 13 (pmS (S 4) (S 10) (S 11) false (S 12) (S 13) (d + 1)).2.2)) H := by rw [← e_10, ← e_11, ← e_12]; exact hP
            have hD : va_D A (wM cy ad (va_up I 6 (nI (pmS (S 4) (S 10) (S 11) false (S 12) (S 13) (d + 1)).1)) (va_up (va_up S 12 (pmS (S 4) (S 10) (S 11) false (S 12) (S 13) (d + 1)).2.1) 13 (pmS (S 4) (S 10) (S 11) false (S 12) (S 13) (d + 1)).2.2)) := hD.addr rfl
            exact ih7 (d + 1) (by omega) (by omega) _ _ hP hD hS ls (lv_sub hl [0, 2, 3] rfl)
          · have f44_9 : 0 < (pmS (S 4) (S 10) (S 11) false (S 12) (S 13) d).1 := nt_nle (a := (pmS (S 4) (S 10) (S 11) false (S 12) (S 13) d).1) (b := 0) (by omega) (by omega) c44_9
            refine lv_aload_n hx hb dX7_finds_47 rfl (lv_at hl 1 rfl) ?_
            refine gf_X7_48 hx hb hts hown hK hP 0 rfl (v := .ref (ad 13)) rfl dX7_finds_48 ?_
            refine lv_aload_n hx hb dX7_finds_51 rfl (lv_at hl 1 rfl) ?_
            refine gf_X7_136 hx hb hts hown hK hP 0 rfl (v := .int (nI (pmS (S 4) (S 10) (S 11) false (S 12) (S 13) d).1)) rfl dX7_finds_52 ?_
            refine lv_iconst (v := 1) hx hb dX7_finds_55 (by decide) ?_
            refine lv_isub hx hb dX7_finds_56 ?_
            refine top_eq (y := nI ((pmS (S 4) (S 10) (S 11) false (S 12) (S 13) d).1 - 1)) (pk_sub (a := (pmS (S 4) (S 10) (S 11) false (S 12) (S 13) d).1) (b := 1) (by omega)) ?_
            refine ald_I (f := (pmS (S 4) (S 10) (S 11) false (S 12) (S 13) d).2.2) hx hb hK hP 13 rfl (i := ((pmS (S 4) (S 10) (S 11) false (S 12) (S 13) d).1 - 1)) (by omega) (by decide) dX7_finds_57 ?_
            refine lv_iload_n hx hb dX7_finds_58 rfl (lv_at hl 0 rfl) ?_
            refine lv_icmp_ne (tgt := 100) hx hb dX7_finds_59 (by decide) (fun c59_13 => ?_) (fun c59_13 => ?_)
            · refine lv_iconst (v := 0) hx hb dX7_finds_100 (by decide) ?_
              refine lv_istore_n (lv' := [(3, .int 0), (2, .int (nI d)), (0, .ref (ad 0)), (1, .int 0)]) hx hb dX7_finds_101 rfl hl (by decide) rfl (fun ls hl => ?_)
              refine lv_iload_n hx hb dX7_finds_102 rfl (lv_at hl 0 rfl) ?_
              refine lv_if_ne (tgt := 126) hx hb dX7_finds_103 (by decide) (fun c => absurd (by decide) c) (fun _ => ?_)
              refine lv_aload_n hx hb dX7_finds_106 rfl (lv_at hl 2 rfl) ?_
              refine gf_X7_45 hx hb hts hown hK hP 0 rfl (v := .ref (ad 12)) rfl dX7_finds_107 ?_
              refine lv_aload_n hx hb dX7_finds_110 rfl (lv_at hl 2 rfl) ?_
              refine gf_X7_136 hx hb hts hown hK hP 0 rfl (v := .int (nI (pmS (S 4) (S 10) (S 11) false (S 12) (S 13) d).1)) rfl dX7_finds_111 ?_
              refine lv_iload_n hx hb dX7_finds_114 rfl (lv_at hl 1 rfl) ?_
              refine ast_I hx hb hK hP hD hS 12 rfl (i := (pmS (S 4) (S 10) (S 11) false (S 12) (S 13) d).1) (x := (nI d)) (by omega) (by decide) dX7_finds_115 (fun H locs hP hD hS => ?_)
              have hP : va_P D clW (wM cy ad (va_up I 6 (nI (pmS (S 4) (S 10) (S 11) false (S 12) (S 13) d).1)) (va_up (va_up S 13 (pmS (S 4) (S 10) (S 11) false (S 12) (S 13) d).2.2) 12 (upd (pmS (S 4) (S 10) (S 11) false (S 12) (S 13) d).2.1 (pmS (S 4) (S 10) (S 11) false (S 12) (S 13) d).1 (nI d)))) H := hP
              have hD : va_D A (wM cy ad (va_up I 6 (nI (pmS (S 4) (S 10) (S 11) false (S 12) (S 13) d).1)) (va_up (va_up S 13 (pmS (S 4) (S 10) (S 11) false (S 12) (S 13) d).2.2) 12 (upd (pmS (S 4) (S 10) (S 11) false (S 12) (S 13) d).2.1 (pmS (S 4) (S 10) (S 11) false (S 12) (S 13) d).1 (nI d)))) := hD
              refine lv_aload_n hx hb dX7_finds_116 rfl (lv_at hl 2 rfl) ?_
              refine lv_dup hx hb dX7_finds_117 rfl ?_
              refine gf_X7_136 hx hb hts hown hK hP 0 rfl (v := .int (nI (pmS (S 4) (S 10) (S 11) false (S 12) (S 13) d).1)) rfl dX7_finds_118 ?_
              refine lv_iconst (v := 1) hx hb dX7_finds_121 (by decide) ?_
              refine lv_iadd hx hb dX7_finds_122 ?_
              refine top_eq (y := nI ((pmS (S 4) (S 10) (S 11) false (S 12) (S 13) d).1 + 1)) (nI_add (pmS (S 4) (S 10) (S 11) false (S 12) (S 13) d).1 1) ?_
              refine pf_X7_136 hx hb hts hown hK hP hD hS 0 rfl (Nat.le_of_ble_eq_true rfl) dX7_finds_123 (fun H locs hP hD hS => ?_)
              have hP : va_P D clW (wM cy ad (va_up I 6 (nI ((pmS (S 4) (S 10) (S 11) false (S 12) (S 13) d).1 + 1))) (va_up (va_up S 13 (pmS (S 4) (S 10) (S 11) false (S 12) (S 13) d).2.2) 12 (upd (pmS (S 4) (S 10) (S 11) false (S 12) (S 13) d).2.1 (pmS (S 4) (S 10) (S 11) false (S 12) (S 13) d).1 (nI d)))) H := hP
              have hD : va_D A (wM cy ad (va_up I 6 (nI ((pmS (S 4) (S 10) (S 11) false (S 12) (S 13) d).1 + 1))) (va_up (va_up S 13 (pmS (S 4) (S 10) (S 11) false (S 12) (S 13) d).2.2) 12 (upd (pmS (S 4) (S 10) (S 11) false (S 12) (S 13) d).2.1 (pmS (S 4) (S 10) (S 11) false (S 12) (S 13) d).1 (nI d)))) := hD
              refine lv_aload_n hx hb dX7_finds_126 rfl (lv_at hl 2 rfl) ?_
              refine gf_X7_48 hx hb hts hown hK hP 0 rfl (v := .ref (ad 13)) rfl dX7_finds_127 ?_
              refine lv_aload_n hx hb dX7_finds_130 rfl (lv_at hl 2 rfl) ?_
              refine gf_X7_136 hx hb hts hown hK hP 0 rfl (v := .int (nI ((pmS (S 4) (S 10) (S 11) false (S 12) (S 13) d).1 + 1))) rfl dX7_finds_131 ?_
              refine lv_iconst (v := 1) hx hb dX7_finds_134 (by decide) ?_
              refine lv_isub hx hb dX7_finds_135 ?_
              refine top_eq (y := nI (pmS (S 4) (S 10) (S 11) false (S 12) (S 13) d).1) (nI_pred _) ?_
              refine lv_iload_n hx hb dX7_finds_136 rfl (lv_at hl 1 rfl) ?_
              refine lv_iconst (v := 1) hx hb dX7_finds_137 (by decide) ?_
              refine lv_iadd hx hb dX7_finds_138 ?_
              refine top_eq (y := nI (d + 1)) (nI_add d 1) ?_
              refine ast_I hx hb hK hP hD hS 13 rfl (i := (pmS (S 4) (S 10) (S 11) false (S 12) (S 13) d).1) (x := (nI (d + 1))) (by omega) (by decide) dX7_finds_139 (fun H locs hP hD hS => ?_)
              have hP : va_P D clW (wM cy ad (va_up I 6 (nI ((pmS (S 4) (S 10) (S 11) false (S 12) (S 13) d).1 + 1))) (va_up (va_up S 12 (upd (pmS (S 4) (S 10) (S 11) false (S 12) (S 13) d).2.1 (pmS (S 4) (S 10) (S 11) false (S 12) (S 13) d).1 (nI d))) 13 (upd (pmS (S 4) (S 10) (S 11) false (S 12) (S 13) d).2.2 (pmS (S 4) (S 10) (S 11) false (S 12) (S 13) d).1 (nI (d + 1))))) H := hP
              have hD : va_D A (wM cy ad (va_up I 6 (nI ((pmS (S 4) (S 10) (S 11) false (S 12) (S 13) d).1 + 1))) (va_up (va_up S 12 (upd (pmS (S 4) (S 10) (S 11) false (S 12) (S 13) d).2.1 (pmS (S 4) (S 10) (S 11) false (S 12) (S 13) d).1 (nI d))) 13 (upd (pmS (S 4) (S 10) (S 11) false (S 12) (S 13) d).2.2 (pmS (S 4) (S 10) (S 11) false (S 12) (S 13) d).1 (nI (d + 1))))) := hD
              refine lv_iinc (v := (nI (d + 1))) (lv' := [(2, .int (nI (d + 1))), (3, .int 0), (0, .ref (ad 0)), (1, .int 0)]) hx hb dX7_finds_140 hl (k := 1) rfl (nI_1 d) (by decide) rfl (fun ls hl => ?_)
              refine lv_goto (tgt := 7) hx hb dX7_finds_143 (by decide) ?_
              have e_14 : (nI ((pmS (S 4) (S 10) (S 11) false (S 12) (S 13) d).1 + 1)) = (nI (pmS (S 4) (S 10) (S 11) false (S 12) (S 13) (d + 1)).1) := (by rw [pm_new (by simp [skB, c20_5]) (by simp [goB, f44_9, c59_13])])
              have e_15 : (upd (pmS (S 4) (S 10) (S 11) false (S 12) (S 13) d).2.1 (pmS (S 4) (S 10) (S 11) false (S 12) (S 13) d).1 (nI d)) = (pmS (S 4) (S 10) (S 11) false (S 12) (S 13) (d + 1)).2.1 := (by rw [pm_new (by simp [skB, c20_5]) (by simp [goB, f44_9, c59_13])])
              have e_16 : (upd (pmS (S 4) (S 10) (S 11) false (S 12) (S 13) d).2.2 (pmS (S 4) (S 10) (S 11) false (S 12) (S 13) d).1 (nI (d + 1))) = (pmS (S 4) (S 10) (S 11) false (S 12) (S 13) (d + 1)).2.2 := (by rw [pm_new (by simp [skB, c20_5]) (by simp [goB, f44_9, c59_13])])
              have hP : va_P D clW (wM cy ad (va_up I 6 (nI (pmS (S 4) (S 10) (S 11) false (S 12) (S 13) (d + 1)).1)) (va_up (va_up S 12 (pmS (S 4) (S 10) (S 11) false (S 12) (S 13) (d + 1)).2.1) 13 (pmS (S 4) (S 10) (S 11) false (S 12) (S 13) (d + 1)).2.2)) H := by rw [← e_14, ← e_15, ← e_16]; exact hP
              have hD : va_D A (wM cy ad (va_up I 6 (nI (pmS (S 4) (S 10) (S 11) false (S 12) (S 13) (d + 1)).1)) (va_up (va_up S 12 (pmS (S 4) (S 10) (S 11) false (S 12) (S 13) (d + 1)).2.1) 13 (pmS (S 4) (S 10) (S 11) false (S 12) (S 13) (d + 1)).2.2)) := hD.addr rfl
              exact ih7 (d + 1) (by omega) (by omega) _ _ hP hD hS ls (lv_sub hl [0, 2, 3] rfl)
            · refine lv_aload_n hx hb dX7_finds_62 rfl (lv_at hl 1 rfl) ?_
              refine lv_aload_n hx hb dX7_finds_63 rfl (lv_at hl 1 rfl) ?_
              refine gf_X7_39 hx hb hts hown hK hP 0 rfl (v := .ref (ad 10)) rfl dX7_finds_64 ?_
              refine lv_iload_n hx hb dX7_finds_67 rfl (lv_at hl 0 rfl) ?_
              refine lv_iload_n hx hb dX7_finds_68 rfl (lv_at hl 0 rfl) ?_
              refine lv_iconst (v := 1) hx hb dX7_finds_69 (by decide) ?_
              refine lv_isub hx hb dX7_finds_70 ?_
              refine top_eq (y := nI (d - 1)) (pk_sub (a := d) (b := 1) (by omega)) ?_
              refine rZ_call (P := likeB ((S 4)) ((S 10)) d (d - 1) = true) (va_runV (As := [.ref (ad 10), .int (nI d), .int (nI (d - 1))]) (rest := []) ⟨hx, hb, hml, hown, hts⟩ (c_X7_isLike_10 l D cy ad (va_up I 6 (nI (pmS (S 4) (S 10) (S 11) false (S 12) (S 13) d).1)) (va_up (va_up S 12 (pmS (S 4) (S 10) (S 11) false (S 12) (S 13) d).2.1) 13 (pmS (S 4) (S 10) (S 11) false (S 12) (S 13) d).2.2) d (d - 1) k hk8 hrow (by omega) (by omega)) (cw_X7_139 hts rfl rfl ⟨Nat.le_of_ble_eq_true rfl, Nat.le_of_ble_eq_true rfl⟩) (preVR (ci := 7) (q0 := 0) hK hP rfl rfl) rfl rfl hl.1 rfl (lv_room (Nat.le_of_ble_eq_true rfl)) dX7_finds_71 ⟨Nat.le_of_ble_eq_true rfl, Nat.le_of_ble_eq_true rfl⟩) (fun b71_17 => ?_) (fun b71_17 => ?_)
              · refine lv_if_eq (tgt := 100) hx hb dX7_finds_74 (by decide) (fun c => absurd c (by decide)) (fun _ => ?_)
                refine lv_iload_n hx hb dX7_finds_77 rfl (lv_at hl 2 rfl) ?_
                refine lv_if_eq (tgt := 96) hx hb dX7_finds_78 (by decide) (fun _ => ?_) (fun c => absurd (by decide) c)
                refine lv_iconst (v := 1) hx hb dX7_finds_96 (by decide) ?_
                refine lv_goto (tgt := 101) hx hb dX7_finds_97 (by decide) ?_
                refine lv_istore_n (lv' := [(3, .int 1), (2, .int (nI d)), (0, .ref (ad 0)), (1, .int 0)]) hx hb dX7_finds_101 rfl hl (by decide) rfl (fun ls hl => ?_)
                refine lv_iload_n hx hb dX7_finds_102 rfl (lv_at hl 0 rfl) ?_
                refine lv_if_ne (tgt := 126) hx hb dX7_finds_103 (by decide) (fun _ => ?_) (fun c => absurd c (by decide))
                refine lv_aload_n hx hb dX7_finds_126 rfl (lv_at hl 2 rfl) ?_
                refine gf_X7_48 hx hb hts hown hK hP 0 rfl (v := .ref (ad 13)) rfl dX7_finds_127 ?_
                refine lv_aload_n hx hb dX7_finds_130 rfl (lv_at hl 2 rfl) ?_
                refine gf_X7_136 hx hb hts hown hK hP 0 rfl (v := .int (nI (pmS (S 4) (S 10) (S 11) false (S 12) (S 13) d).1)) rfl dX7_finds_131 ?_
                refine lv_iconst (v := 1) hx hb dX7_finds_134 (by decide) ?_
                refine lv_isub hx hb dX7_finds_135 ?_
                refine top_eq (y := nI ((pmS (S 4) (S 10) (S 11) false (S 12) (S 13) d).1 - 1)) (pk_sub (a := (pmS (S 4) (S 10) (S 11) false (S 12) (S 13) d).1) (b := 1) (by omega)) ?_
                refine lv_iload_n hx hb dX7_finds_136 rfl (lv_at hl 1 rfl) ?_
                refine lv_iconst (v := 1) hx hb dX7_finds_137 (by decide) ?_
                refine lv_iadd hx hb dX7_finds_138 ?_
                refine top_eq (y := nI (d + 1)) (nI_add d 1) ?_
                refine ast_I hx hb hK hP hD hS 13 rfl (i := ((pmS (S 4) (S 10) (S 11) false (S 12) (S 13) d).1 - 1)) (x := (nI (d + 1))) (by omega) (by decide) dX7_finds_139 (fun H locs hP hD hS => ?_)
                have hP : va_P D clW (wM cy ad (va_up I 6 (nI (pmS (S 4) (S 10) (S 11) false (S 12) (S 13) d).1)) (va_up (va_up S 12 (pmS (S 4) (S 10) (S 11) false (S 12) (S 13) d).2.1) 13 (upd (pmS (S 4) (S 10) (S 11) false (S 12) (S 13) d).2.2 ((pmS (S 4) (S 10) (S 11) false (S 12) (S 13) d).1 - 1) (nI (d + 1))))) H := hP
                have hD : va_D A (wM cy ad (va_up I 6 (nI (pmS (S 4) (S 10) (S 11) false (S 12) (S 13) d).1)) (va_up (va_up S 12 (pmS (S 4) (S 10) (S 11) false (S 12) (S 13) d).2.1) 13 (upd (pmS (S 4) (S 10) (S 11) false (S 12) (S 13) d).2.2 ((pmS (S 4) (S 10) (S 11) false (S 12) (S 13) d).1 - 1) (nI (d + 1))))) := hD
                refine lv_iinc (v := (nI (d + 1))) (lv' := [(2, .int (nI (d + 1))), (3, .int 1), (0, .ref (ad 0)), (1, .int 0)]) hx hb dX7_finds_140 hl (k := 1) rfl (nI_1 d) (by decide) rfl (fun ls hl => ?_)
                refine lv_goto (tgt := 7) hx hb dX7_finds_143 (by decide) ?_
                have e_18 : (nI (pmS (S 4) (S 10) (S 11) false (S 12) (S 13) d).1) = (nI (pmS (S 4) (S 10) (S 11) false (S 12) (S 13) (d + 1)).1) := (by rw [pm_go (by simp [skB, c20_5]) (by simp [goB, f44_9, c59_13, b71_17])])
                have e_19 : (pmS (S 4) (S 10) (S 11) false (S 12) (S 13) d).2.1 = (pmS (S 4) (S 10) (S 11) false (S 12) (S 13) (d + 1)).2.1 := (by rw [pm_go (by simp [skB, c20_5]) (by simp [goB, f44_9, c59_13, b71_17])])
                have e_20 : (upd (pmS (S 4) (S 10) (S 11) false (S 12) (S 13) d).2.2 ((pmS (S 4) (S 10) (S 11) false (S 12) (S 13) d).1 - 1) (nI (d + 1))) = (pmS (S 4) (S 10) (S 11) false (S 12) (S 13) (d + 1)).2.2 := (by rw [pm_go (by simp [skB, c20_5]) (by simp [goB, f44_9, c59_13, b71_17])])
                have hP : va_P D clW (wM cy ad (va_up I 6 (nI (pmS (S 4) (S 10) (S 11) false (S 12) (S 13) (d + 1)).1)) (va_up (va_up S 12 (pmS (S 4) (S 10) (S 11) false (S 12) (S 13) (d + 1)).2.1) 13 (pmS (S 4) (S 10) (S 11) false (S 12) (S 13) (d + 1)).2.2)) H := by rw [← e_18, ← e_19, ← e_20]; exact hP
                have hD : va_D A (wM cy ad (va_up I 6 (nI (pmS (S 4) (S 10) (S 11) false (S 12) (S 13) (d + 1)).1)) (va_up (va_up S 12 (pmS (S 4) (S 10) (S 11) false (S 12) (S 13) (d + 1)).2.1) 13 (pmS (S 4) (S 10) (S 11) false (S 12) (S 13) (d + 1)).2.2)) := hD.addr rfl
                exact ih7 (d + 1) (by omega) (by omega) _ _ hP hD hS ls (lv_sub hl [0, 2, 3] rfl)
              · refine lv_if_eq (tgt := 100) hx hb dX7_finds_74 (by decide) (fun _ => ?_) (fun c => absurd (by decide) c)
                refine lv_iconst (v := 0) hx hb dX7_finds_100 (by decide) ?_
                refine lv_istore_n (lv' := [(3, .int 0), (2, .int (nI d)), (0, .ref (ad 0)), (1, .int 0)]) hx hb dX7_finds_101 rfl hl (by decide) rfl (fun ls hl => ?_)
                refine lv_iload_n hx hb dX7_finds_102 rfl (lv_at hl 0 rfl) ?_
                refine lv_if_ne (tgt := 126) hx hb dX7_finds_103 (by decide) (fun c => absurd (by decide) c) (fun _ => ?_)
                refine lv_aload_n hx hb dX7_finds_106 rfl (lv_at hl 2 rfl) ?_
                refine gf_X7_45 hx hb hts hown hK hP 0 rfl (v := .ref (ad 12)) rfl dX7_finds_107 ?_
                refine lv_aload_n hx hb dX7_finds_110 rfl (lv_at hl 2 rfl) ?_
                refine gf_X7_136 hx hb hts hown hK hP 0 rfl (v := .int (nI (pmS (S 4) (S 10) (S 11) false (S 12) (S 13) d).1)) rfl dX7_finds_111 ?_
                refine lv_iload_n hx hb dX7_finds_114 rfl (lv_at hl 1 rfl) ?_
                refine ast_I hx hb hK hP hD hS 12 rfl (i := (pmS (S 4) (S 10) (S 11) false (S 12) (S 13) d).1) (x := (nI d)) (by omega) (by decide) dX7_finds_115 (fun H locs hP hD hS => ?_)
                have hP : va_P D clW (wM cy ad (va_up I 6 (nI (pmS (S 4) (S 10) (S 11) false (S 12) (S 13) d).1)) (va_up (va_up S 13 (pmS (S 4) (S 10) (S 11) false (S 12) (S 13) d).2.2) 12 (upd (pmS (S 4) (S 10) (S 11) false (S 12) (S 13) d).2.1 (pmS (S 4) (S 10) (S 11) false (S 12) (S 13) d).1 (nI d)))) H := hP
                have hD : va_D A (wM cy ad (va_up I 6 (nI (pmS (S 4) (S 10) (S 11) false (S 12) (S 13) d).1)) (va_up (va_up S 13 (pmS (S 4) (S 10) (S 11) false (S 12) (S 13) d).2.2) 12 (upd (pmS (S 4) (S 10) (S 11) false (S 12) (S 13) d).2.1 (pmS (S 4) (S 10) (S 11) false (S 12) (S 13) d).1 (nI d)))) := hD
                refine lv_aload_n hx hb dX7_finds_116 rfl (lv_at hl 2 rfl) ?_
                refine lv_dup hx hb dX7_finds_117 rfl ?_
                refine gf_X7_136 hx hb hts hown hK hP 0 rfl (v := .int (nI (pmS (S 4) (S 10) (S 11) false (S 12) (S 13) d).1)) rfl dX7_finds_118 ?_
                refine lv_iconst (v := 1) hx hb dX7_finds_121 (by decide) ?_
                refine lv_iadd hx hb dX7_finds_122 ?_
                refine top_eq (y := nI ((pmS (S 4) (S 10) (S 11) false (S 12) (S 13) d).1 + 1)) (nI_add (pmS (S 4) (S 10) (S 11) false (S 12) (S 13) d).1 1) ?_
                refine pf_X7_136 hx hb hts hown hK hP hD hS 0 rfl (Nat.le_of_ble_eq_true rfl) dX7_finds_123 (fun H locs hP hD hS => ?_)
                have hP : va_P D clW (wM cy ad (va_up I 6 (nI ((pmS (S 4) (S 10) (S 11) false (S 12) (S 13) d).1 + 1))) (va_up (va_up S 13 (pmS (S 4) (S 10) (S 11) false (S 12) (S 13) d).2.2) 12 (upd (pmS (S 4) (S 10) (S 11) false (S 12) (S 13) d).2.1 (pmS (S 4) (S 10) (S 11) false (S 12) (S 13) d).1 (nI d)))) H := hP
                have hD : va_D A (wM cy ad (va_up I 6 (nI ((pmS (S 4) (S 10) (S 11) false (S 12) (S 13) d).1 + 1))) (va_up (va_up S 13 (pmS (S 4) (S 10) (S 11) false (S 12) (S 13) d).2.2) 12 (upd (pmS (S 4) (S 10) (S 11) false (S 12) (S 13) d).2.1 (pmS (S 4) (S 10) (S 11) false (S 12) (S 13) d).1 (nI d)))) := hD
                refine lv_aload_n hx hb dX7_finds_126 rfl (lv_at hl 2 rfl) ?_
                refine gf_X7_48 hx hb hts hown hK hP 0 rfl (v := .ref (ad 13)) rfl dX7_finds_127 ?_
                refine lv_aload_n hx hb dX7_finds_130 rfl (lv_at hl 2 rfl) ?_
                refine gf_X7_136 hx hb hts hown hK hP 0 rfl (v := .int (nI ((pmS (S 4) (S 10) (S 11) false (S 12) (S 13) d).1 + 1))) rfl dX7_finds_131 ?_
                refine lv_iconst (v := 1) hx hb dX7_finds_134 (by decide) ?_
                refine lv_isub hx hb dX7_finds_135 ?_
                refine top_eq (y := nI (pmS (S 4) (S 10) (S 11) false (S 12) (S 13) d).1) (nI_pred _) ?_
                refine lv_iload_n hx hb dX7_finds_136 rfl (lv_at hl 1 rfl) ?_
                refine lv_iconst (v := 1) hx hb dX7_finds_137 (by decide) ?_
                refine lv_iadd hx hb dX7_finds_138 ?_
                refine top_eq (y := nI (d + 1)) (nI_add d 1) ?_
                refine ast_I hx hb hK hP hD hS 13 rfl (i := (pmS (S 4) (S 10) (S 11) false (S 12) (S 13) d).1) (x := (nI (d + 1))) (by omega) (by decide) dX7_finds_139 (fun H locs hP hD hS => ?_)
                have hP : va_P D clW (wM cy ad (va_up I 6 (nI ((pmS (S 4) (S 10) (S 11) false (S 12) (S 13) d).1 + 1))) (va_up (va_up S 12 (upd (pmS (S 4) (S 10) (S 11) false (S 12) (S 13) d).2.1 (pmS (S 4) (S 10) (S 11) false (S 12) (S 13) d).1 (nI d))) 13 (upd (pmS (S 4) (S 10) (S 11) false (S 12) (S 13) d).2.2 (pmS (S 4) (S 10) (S 11) false (S 12) (S 13) d).1 (nI (d + 1))))) H := hP
                have hD : va_D A (wM cy ad (va_up I 6 (nI ((pmS (S 4) (S 10) (S 11) false (S 12) (S 13) d).1 + 1))) (va_up (va_up S 12 (upd (pmS (S 4) (S 10) (S 11) false (S 12) (S 13) d).2.1 (pmS (S 4) (S 10) (S 11) false (S 12) (S 13) d).1 (nI d))) 13 (upd (pmS (S 4) (S 10) (S 11) false (S 12) (S 13) d).2.2 (pmS (S 4) (S 10) (S 11) false (S 12) (S 13) d).1 (nI (d + 1))))) := hD
                refine lv_iinc (v := (nI (d + 1))) (lv' := [(2, .int (nI (d + 1))), (3, .int 0), (0, .ref (ad 0)), (1, .int 0)]) hx hb dX7_finds_140 hl (k := 1) rfl (nI_1 d) (by decide) rfl (fun ls hl => ?_)
                refine lv_goto (tgt := 7) hx hb dX7_finds_143 (by decide) ?_
                have e_21 : (nI ((pmS (S 4) (S 10) (S 11) false (S 12) (S 13) d).1 + 1)) = (nI (pmS (S 4) (S 10) (S 11) false (S 12) (S 13) (d + 1)).1) := (by rw [pm_new (by simp [skB, c20_5]) (by simp [goB, f44_9, c59_13, b71_17])])
                have e_22 : (upd (pmS (S 4) (S 10) (S 11) false (S 12) (S 13) d).2.1 (pmS (S 4) (S 10) (S 11) false (S 12) (S 13) d).1 (nI d)) = (pmS (S 4) (S 10) (S 11) false (S 12) (S 13) (d + 1)).2.1 := (by rw [pm_new (by simp [skB, c20_5]) (by simp [goB, f44_9, c59_13, b71_17])])
                have e_23 : (upd (pmS (S 4) (S 10) (S 11) false (S 12) (S 13) d).2.2 (pmS (S 4) (S 10) (S 11) false (S 12) (S 13) d).1 (nI (d + 1))) = (pmS (S 4) (S 10) (S 11) false (S 12) (S 13) (d + 1)).2.2 := (by rw [pm_new (by simp [skB, c20_5]) (by simp [goB, f44_9, c59_13, b71_17])])
                have hP : va_P D clW (wM cy ad (va_up I 6 (nI (pmS (S 4) (S 10) (S 11) false (S 12) (S 13) (d + 1)).1)) (va_up (va_up S 12 (pmS (S 4) (S 10) (S 11) false (S 12) (S 13) (d + 1)).2.1) 13 (pmS (S 4) (S 10) (S 11) false (S 12) (S 13) (d + 1)).2.2)) H := by rw [← e_21, ← e_22, ← e_23]; exact hP
                have hD : va_D A (wM cy ad (va_up I 6 (nI (pmS (S 4) (S 10) (S 11) false (S 12) (S 13) (d + 1)).1)) (va_up (va_up S 12 (pmS (S 4) (S 10) (S 11) false (S 12) (S 13) (d + 1)).2.1) 13 (pmS (S 4) (S 10) (S 11) false (S 12) (S 13) (d + 1)).2.2)) := hD.addr rfl
                exact ih7 (d + 1) (by omega) (by omega) _ _ hP hD hS ls (lv_sub hl [0, 2, 3] rfl)
  have e_24 : (0 : Int32) = (nI (pmS (S 4) (S 10) (S 11) false (S 12) (S 13) 0).1) := rfl
  have e_25 : (S 12) = (pmS (S 4) (S 10) (S 11) false (S 12) (S 13) 0).2.1 := rfl
  have e_26 : (S 13) = (pmS (S 4) (S 10) (S 11) false (S 12) (S 13) 0).2.2 := rfl
  have hP : va_P D clW (wM cy ad (va_up I 6 (nI (pmS (S 4) (S 10) (S 11) false (S 12) (S 13) 0).1)) (va_up (va_up S 12 (pmS (S 4) (S 10) (S 11) false (S 12) (S 13) 0).2.1) 13 (pmS (S 4) (S 10) (S 11) false (S 12) (S 13) 0).2.2)) H := by rw [← e_24, ← e_25, ← e_26]; exact hP
  have hD : va_D A (wM cy ad (va_up I 6 (nI (pmS (S 4) (S 10) (S 11) false (S 12) (S 13) 0).1)) (va_up (va_up S 12 (pmS (S 4) (S 10) (S 11) false (S 12) (S 13) 0).2.1) 13 (pmS (S 4) (S 10) (S 11) false (S 12) (S 13) 0).2.2)) := hD.addr rfl
  exact L7 (100 + 1) 0 (by omega) (by omega) _ _ hP hD hS ls (lv_sub hl [0, 1, 2] rfl)

set_option maxHeartbeats 4000000 in
set_option maxRecDepth 100000 in
theorem c_X7_finds_1 (l : Launch) (D : va_G) (cy : Nat → ClassId) (ad : Nat → Nat) (I : AI) (S : AS) (sz : Nat) (k : Nat) (hk8 : k ≤ 256) (hrow : rowP k (S 10)) (hro2 : rowP k (S 11)) : Met l yX7_finds (Cond.code yX7_finds cX7_finds 4 none :: wsL_law) ({ frames := 1, cells := 0, slots := 0, locals := 23 }) (va_Pc [.ref (ad 0), .int 1] (wrB D cy (wM cy ad I S) sz)) (va_Qv (S := Unit) (fun u => True) (fun u t9 => va_P D clW (wM cy ad (va_up I 6 (nI (pmS (S 4) (S 10) (S 11) true (S 12) (S 13) 100).1)) (va_up (va_up S 12 (pmS (S 4) (S 10) (S 11) true (S 12) (S 13) 100).2.1) 13 (pmS (S 4) (S 10) (S 11) true (S 12) (S 13) 100).2.2)) t9.heap) (va_A (wM cy ad I S) sz)) 0 0 (va_A (wM cy ad I S) sz) := by
  refine enter (cc := cX7_finds) (by decide) (Nat.le_of_ble_eq_true rfl) ?_
  intro p e s m below meth c hx hb hr hml hown hts hlocks hin hv Q hQ ls hl
  obtain ⟨hsz, hP, hK, hD0⟩ := hv
  subst hsz
  have hD := hD0.self (sz := s.heap.size)
  generalize hAe : va_A (wM cy ad I S) s.heap.size = A at hD hQ ⊢
  have hA : ∀ q : Nat, s.heap.size ≤ q → A q := fun q h => by rw [← hAe]; exact Or.inr h
  have hS : va_S A s.heap s.heap [] := va_S.rf
  suffices K_ : ∀ (H : Heap) (locs : List Loc), va_P D clW (wM cy ad I S) H → va_S A s.heap H locs → W p l e ({ frames := 1, cells := 0, slots := 0, locals := 23 }) s m ([.ref (ad 0), .int 1] : List Value).toArray below meth c H locs 0 0 Q (F0 m 0 ls []) from K_ _ _ hP hS
  clear hP hS
  intro H locs hP hS
  have hown : s.vm.findClass RX7 = some m.cls := hown
  have hl : lv_has ls 4 [(0, .ref (ad 0)), (1, .int 1)] := hl
  refine lv_aload_n hx hb dX7_finds_0 rfl (lv_at hl 0 rfl) ?_
  refine lv_iconst (v := 0) hx hb dX7_finds_1 (by decide) ?_
  refine pf_X7_136 hx hb hts hown hK hP hD hS 0 rfl (Nat.le_of_ble_eq_true rfl) dX7_finds_2 (fun H locs hP hD hS => ?_)
  have hP : va_P D clW (wM cy ad (va_up I 6 0) S) H := hP
  have hD : va_D A (wM cy ad (va_up I 6 0) S) := hD
  refine lv_iconst (v := 0) hx hb dX7_finds_5 (by decide) ?_
  refine lv_istore_n (lv' := [(2, .int 0), (0, .ref (ad 0)), (1, .int 1)]) hx hb dX7_finds_6 rfl hl (by decide) rfl (fun ls hl => ?_)
  have L7 : ∀ (n_7 d : Nat), d ≤ 100 → 100 + 1 ≤ d + n_7 → ∀ (H : Heap) (locs : List Loc), va_P D clW (wM cy ad (va_up I 6 (nI (pmS (S 4) (S 10) (S 11) true (S 12) (S 13) d).1)) (va_up (va_up S 12 (pmS (S 4) (S 10) (S 11) true (S 12) (S 13) d).2.1) 13 (pmS (S 4) (S 10) (S 11) true (S 12) (S 13) d).2.2)) H → va_D A (wM cy ad (va_up I 6 (nI (pmS (S 4) (S 10) (S 11) true (S 12) (S 13) d).1)) (va_up (va_up S 12 (pmS (S 4) (S 10) (S 11) true (S 12) (S 13) d).2.1) 13 (pmS (S 4) (S 10) (S 11) true (S 12) (S 13) d).2.2)) → va_S A s.heap H locs → ∀ (ls : Array Slot), lv_has ls 4 [(2, .int (nI d)), (0, .ref (ad 0)), (1, .int 1)] → W p l e { frames := 1, cells := 0, slots := 0, locals := 23 } s m ([.ref (ad 0), .int 1] : List Value).toArray below meth c H locs 0 0 Q (F0 m 7 ls []) := by
    clear hl
    intro n_7
    induction n_7 with
    | zero => intro d  hle_7 hn_7; exact absurd hn_7 (by omega)
    | succ n_7 ih7 =>
      intro d  hle_7 hn_7  H locs hP hD hS ls hl
      have hpl := pmS_le (S 4) (S 10) (S 11) true (S 12) (S 13) d
      refine lv_iload_n hx hb dX7_finds_7 rfl (lv_at hl 0 rfl) ?_
      refine lv_bipush (v := 100) hx hb dX7_finds_8 (by decide) ?_
      refine lv_icmp_ge (tgt := 146) hx hb dX7_finds_10 (by decide) (fun c10_1 => ?_) (fun c10_1 => ?_)
      · have f10_1 : 100 ≤ d := nt_le (a := 100) (b := d) (by omega) (by omega) c10_1
        have e_2 : (nI (pmS (S 4) (S 10) (S 11) true (S 12) (S 13) d).1) = (nI (pmS (S 4) (S 10) (S 11) true (S 12) (S 13) 100).1) := (by rw [show d = 100 by omega])
        have e_3 : (pmS (S 4) (S 10) (S 11) true (S 12) (S 13) d).2.1 = (pmS (S 4) (S 10) (S 11) true (S 12) (S 13) 100).2.1 := (by rw [show d = 100 by omega])
        have e_4 : (pmS (S 4) (S 10) (S 11) true (S 12) (S 13) d).2.2 = (pmS (S 4) (S 10) (S 11) true (S 12) (S 13) 100).2.2 := (by rw [show d = 100 by omega])
        have hP : va_P D clW (wM cy ad (va_up I 6 (nI (pmS (S 4) (S 10) (S 11) true (S 12) (S 13) 100).1)) (va_up (va_up S 12 (pmS (S 4) (S 10) (S 11) true (S 12) (S 13) 100).2.1) 13 (pmS (S 4) (S 10) (S 11) true (S 12) (S 13) 100).2.2)) H := by rw [← e_2, ← e_3, ← e_4]; exact hP
        have hD : va_D A (wM cy ad (va_up I 6 (nI (pmS (S 4) (S 10) (S 11) true (S 12) (S 13) 100).1)) (va_up (va_up S 12 (pmS (S 4) (S 10) (S 11) true (S 12) (S 13) 100).2.1) 13 (pmS (S 4) (S 10) (S 11) true (S 12) (S 13) 100).2.2)) := hD.addr rfl
        exact wV_ret () hS hP hx hb hr hlocks dX7_finds_146 (Nat.le_of_ble_eq_true rfl) (Nat.le_of_ble_eq_true rfl) hQ trivial
      · have f10_1 : d < 100 := nt_nle (a := 100) (b := d) (by omega) (by omega) c10_1
        refine lv_aload_n hx hb dX7_finds_13 rfl (lv_at hl 1 rfl) ?_
        refine gf_X7_39 hx hb hts hown hK hP 0 rfl (v := .ref (ad 10)) rfl dX7_finds_14 ?_
        refine lv_iload_n hx hb dX7_finds_17 rfl (lv_at hl 0 rfl) ?_
        refine ald_I (f := (S 10)) hx hb hK hP 10 rfl (i := d) (by omega) (by decide) dX7_finds_18 ?_
        refine lv_iconst (v := (-1)) hx hb dX7_finds_19 (by decide) ?_
        refine lv_icmp_eq (tgt := 140) hx hb dX7_finds_20 (by decide) (fun c20_5 => ?_) (fun c20_5 => ?_)
        · refine lv_iinc (v := (nI (d + 1))) (lv' := [(2, .int (nI (d + 1))), (0, .ref (ad 0)), (1, .int 1)]) hx hb dX7_finds_140 hl (k := 0) rfl (nI_1 d) (by decide) rfl (fun ls hl => ?_)
          refine lv_goto (tgt := 7) hx hb dX7_finds_143 (by decide) ?_
          have e_6 : (nI (pmS (S 4) (S 10) (S 11) true (S 12) (S 13) d).1) = (nI (pmS (S 4) (S 10) (S 11) true (S 12) (S 13) (d + 1)).1) := (by rw [pm_skip (by simp [skB, c20_5])])
          have e_7 : (pmS (S 4) (S 10) (S 11) true (S 12) (S 13) d).2.1 = (pmS (S 4) (S 10) (S 11) true (S 12) (S 13) (d + 1)).2.1 := (by rw [pm_skip (by simp [skB, c20_5])])
          have e_8 : (pmS (S 4) (S 10) (S 11) true (S 12) (S 13) d).2.2 = (pmS (S 4) (S 10) (S 11) true (S 12) (S 13) (d + 1)).2.2 := (by rw [pm_skip (by simp [skB, c20_5])])
          have hP : va_P D clW (wM cy ad (va_up I 6 (nI (pmS (S 4) (S 10) (S 11) true (S 12) (S 13) (d + 1)).1)) (va_up (va_up S 12 (pmS (S 4) (S 10) (S 11) true (S 12) (S 13) (d + 1)).2.1) 13 (pmS (S 4) (S 10) (S 11) true (S 12) (S 13) (d + 1)).2.2)) H := by rw [← e_6, ← e_7, ← e_8]; exact hP
          have hD : va_D A (wM cy ad (va_up I 6 (nI (pmS (S 4) (S 10) (S 11) true (S 12) (S 13) (d + 1)).1)) (va_up (va_up S 12 (pmS (S 4) (S 10) (S 11) true (S 12) (S 13) (d + 1)).2.1) 13 (pmS (S 4) (S 10) (S 11) true (S 12) (S 13) (d + 1)).2.2)) := hD.addr rfl
          exact ih7 (d + 1) (by omega) (by omega) _ _ hP hD hS ls (lv_sub hl [0, 1, 2] rfl)
        · refine lv_iload_n hx hb dX7_finds_23 rfl (lv_at hl 2 rfl) ?_
          refine lv_if_eq (tgt := 40) hx hb dX7_finds_24 (by decide) (fun c => absurd c (by decide)) (fun _ => ?_)
          refine lv_aload_n hx hb dX7_finds_27 rfl (lv_at hl 1 rfl) ?_
          refine gf_X7_42 hx hb hts hown hK hP 0 rfl (v := .ref (ad 11)) rfl dX7_finds_28 ?_
          refine lv_iload_n hx hb dX7_finds_31 rfl (lv_at hl 0 rfl) ?_
          refine ald_I (f := (S 11)) hx hb hK hP 11 rfl (i := d) (by omega) (by decide) dX7_finds_32 ?_
          refine lv_iconst (v := (-1)) hx hb dX7_finds_33 (by decide) ?_
          refine lv_icmp_ne (tgt := 40) hx hb dX7_finds_34 (by decide) (fun c34_9 => ?_) (fun c34_9 => ?_)
          · refine lv_aload_n hx hb dX7_finds_40 rfl (lv_at hl 1 rfl) ?_
            refine gf_X7_136 hx hb hts hown hK hP 0 rfl (v := .int (nI (pmS (S 4) (S 10) (S 11) true (S 12) (S 13) d).1)) rfl dX7_finds_41 ?_
            refine lv_if_le (tgt := 100) hx hb dX7_finds_44 (by decide) (fun c44_10 => ?_) (fun c44_10 => ?_)
            · have f44_10 : (pmS (S 4) (S 10) (S 11) true (S 12) (S 13) d).1 ≤ 0 := nt_le (a := (pmS (S 4) (S 10) (S 11) true (S 12) (S 13) d).1) (b := 0) (by omega) (by omega) c44_10
              refine lv_iconst (v := 0) hx hb dX7_finds_100 (by decide) ?_
              refine lv_istore_n (lv' := [(3, .int 0), (2, .int (nI d)), (0, .ref (ad 0)), (1, .int 1)]) hx hb dX7_finds_101 rfl hl (by decide) rfl (fun ls hl => ?_)
              refine lv_iload_n hx hb dX7_finds_102 rfl (lv_at hl 0 rfl) ?_
              refine lv_if_ne (tgt := 126) hx hb dX7_finds_103 (by decide) (fun c => absurd (by decide) c) (fun _ => ?_)
              refine lv_aload_n hx hb dX7_finds_106 rfl (lv_at hl 2 rfl) ?_
              refine gf_X7_45 hx hb hts hown hK hP 0 rfl (v := .ref (ad 12)) rfl dX7_finds_107 ?_
              refine lv_aload_n hx hb dX7_finds_110 rfl (lv_at hl 2 rfl) ?_
              refine gf_X7_136 hx hb hts hown hK hP 0 rfl (v := .int (nI (pmS (S 4) (S 10) (S 11) true (S 12) (S 13) d).1)) rfl dX7_finds_111 ?_
              refine lv_iload_n hx hb dX7_finds_114 rfl (lv_at hl 1 rfl) ?_
              refine ast_I hx hb hK hP hD hS 12 rfl (i := (pmS (S 4) (S 10) (S 11) true (S 12) (S 13) d).1) (x := (nI d)) (by omega) (by decide) dX7_finds_115 (fun H locs hP hD hS => ?_)
              have hP : va_P D clW (wM cy ad (va_up I 6 (nI (pmS (S 4) (S 10) (S 11) true (S 12) (S 13) d).1)) (va_up (va_up S 13 (pmS (S 4) (S 10) (S 11) true (S 12) (S 13) d).2.2) 12 (upd (pmS (S 4) (S 10) (S 11) true (S 12) (S 13) d).2.1 (pmS (S 4) (S 10) (S 11) true (S 12) (S 13) d).1 (nI d)))) H := hP
              have hD : va_D A (wM cy ad (va_up I 6 (nI (pmS (S 4) (S 10) (S 11) true (S 12) (S 13) d).1)) (va_up (va_up S 13 (pmS (S 4) (S 10) (S 11) true (S 12) (S 13) d).2.2) 12 (upd (pmS (S 4) (S 10) (S 11) true (S 12) (S 13) d).2.1 (pmS (S 4) (S 10) (S 11) true (S 12) (S 13) d).1 (nI d)))) := hD
              refine lv_aload_n hx hb dX7_finds_116 rfl (lv_at hl 2 rfl) ?_
              refine lv_dup hx hb dX7_finds_117 rfl ?_
              refine gf_X7_136 hx hb hts hown hK hP 0 rfl (v := .int (nI (pmS (S 4) (S 10) (S 11) true (S 12) (S 13) d).1)) rfl dX7_finds_118 ?_
              refine lv_iconst (v := 1) hx hb dX7_finds_121 (by decide) ?_
              refine lv_iadd hx hb dX7_finds_122 ?_
              refine top_eq (y := nI ((pmS (S 4) (S 10) (S 11) true (S 12) (S 13) d).1 + 1)) (nI_add (pmS (S 4) (S 10) (S 11) true (S 12) (S 13) d).1 1) ?_
              refine pf_X7_136 hx hb hts hown hK hP hD hS 0 rfl (Nat.le_of_ble_eq_true rfl) dX7_finds_123 (fun H locs hP hD hS => ?_)
              have hP : va_P D clW (wM cy ad (va_up I 6 (nI ((pmS (S 4) (S 10) (S 11) true (S 12) (S 13) d).1 + 1))) (va_up (va_up S 13 (pmS (S 4) (S 10) (S 11) true (S 12) (S 13) d).2.2) 12 (upd (pmS (S 4) (S 10) (S 11) true (S 12) (S 13) d).2.1 (pmS (S 4) (S 10) (S 11) true (S 12) (S 13) d).1 (nI d)))) H := hP
              have hD : va_D A (wM cy ad (va_up I 6 (nI ((pmS (S 4) (S 10) (S 11) true (S 12) (S 13) d).1 + 1))) (va_up (va_up S 13 (pmS (S 4) (S 10) (S 11) true (S 12) (S 13) d).2.2) 12 (upd (pmS (S 4) (S 10) (S 11) true (S 12) (S 13) d).2.1 (pmS (S 4) (S 10) (S 11) true (S 12) (S 13) d).1 (nI d)))) := hD
              refine lv_aload_n hx hb dX7_finds_126 rfl (lv_at hl 2 rfl) ?_
              refine gf_X7_48 hx hb hts hown hK hP 0 rfl (v := .ref (ad 13)) rfl dX7_finds_127 ?_
              refine lv_aload_n hx hb dX7_finds_130 rfl (lv_at hl 2 rfl) ?_
              refine gf_X7_136 hx hb hts hown hK hP 0 rfl (v := .int (nI ((pmS (S 4) (S 10) (S 11) true (S 12) (S 13) d).1 + 1))) rfl dX7_finds_131 ?_
              refine lv_iconst (v := 1) hx hb dX7_finds_134 (by decide) ?_
              refine lv_isub hx hb dX7_finds_135 ?_
              refine top_eq (y := nI (pmS (S 4) (S 10) (S 11) true (S 12) (S 13) d).1) (nI_pred _) ?_
              refine lv_iload_n hx hb dX7_finds_136 rfl (lv_at hl 1 rfl) ?_
              refine lv_iconst (v := 1) hx hb dX7_finds_137 (by decide) ?_
              refine lv_iadd hx hb dX7_finds_138 ?_
              refine top_eq (y := nI (d + 1)) (nI_add d 1) ?_
              refine ast_I hx hb hK hP hD hS 13 rfl (i := (pmS (S 4) (S 10) (S 11) true (S 12) (S 13) d).1) (x := (nI (d + 1))) (by omega) (by decide) dX7_finds_139 (fun H locs hP hD hS => ?_)
              have hP : va_P D clW (wM cy ad (va_up I 6 (nI ((pmS (S 4) (S 10) (S 11) true (S 12) (S 13) d).1 + 1))) (va_up (va_up S 12 (upd (pmS (S 4) (S 10) (S 11) true (S 12) (S 13) d).2.1 (pmS (S 4) (S 10) (S 11) true (S 12) (S 13) d).1 (nI d))) 13 (upd (pmS (S 4) (S 10) (S 11) true (S 12) (S 13) d).2.2 (pmS (S 4) (S 10) (S 11) true (S 12) (S 13) d).1 (nI (d + 1))))) H := hP
              have hD : va_D A (wM cy ad (va_up I 6 (nI ((pmS (S 4) (S 10) (S 11) true (S 12) (S 13) d).1 + 1))) (va_up (va_up S 12 (upd (pmS (S 4) (S 10) (S 11) true (S 12) (S 13) d).2.1 (pmS (S 4) (S 10) (S 11) true (S 12) (S 13) d).1 (nI d))) 13 (upd (pmS (S 4) (S 10) (S 11) true (S 12) (S 13) d).2.2 (pmS (S 4) (S 10) (S 11) true (S 12) (S 13) d).1 (nI (d + 1))))) := hD
              refine lv_iinc (v := (nI (d + 1))) (lv' := [(2, .int (nI (d + 1))), (3, .int 0), (0, .ref (ad 0)), (1, .int 1)]) hx hb dX7_finds_140 hl (k := 1) rfl (nI_1 d) (by decide) rfl (fun ls hl => ?_)
              refine lv_goto (tgt := 7) hx hb dX7_finds_143 (by decide) ?_
              have e_11 : (nI ((pmS (S 4) (S 10) (S 11) true (S 12) (S 13) d).1 + 1)) = (nI (pmS (S 4) (S 10) (S 11) true (S 12) (S 13) (d + 1)).1) := (by rw [pm_new (by simp [skB, c20_5, c34_9]) (by simp [goB, show ¬ 0 < (pmS (S 4) (S 10) (S 11) true (S 12) (S 13) d).1 by omega])])
              have e_12 : (upd (pmS (S 4) (S 10) (S 11) true (S 12) (S 13) d).2.1 (pmS (S 4) (S 10) (S 11) true (S 12) (S 13) d).1 (nI d)) = (pmS (S 4) (S 10) (S 11) true (S 12) (S 13) (d + 1)).2.1 := (by rw [pm_new (by simp [skB, c20_5, c34_9]) (by simp [goB, show ¬ 0 < (pmS (S 4) (S 10) (S 11) true (S 12) (S 13) d).1 by omega])])
              have e_13 : (upd (pmS (S 4) (S 10) (S 11) true (S 12) (S 13) d).2.2 (pmS (S 4) (S 10) (S 11) true (S 12) (S 13) d).1 (nI (d + 1))) = (pmS (S 4) (S 10) (S 11) true (S 12) (S 13) (d + 1)).2.2 := (by rw [pm_new (by simp [skB, c20_5, c34_9]) (by simp [goB, show ¬ 0 < (pmS (S 4) (S 10) (S 11) true (S 12) (S 13) d).1 by omega])])
              have hP : va_P D clW (wM cy ad (va_up I 6 (nI (pmS (S 4) (S 10) (S 11) true (S 12) (S 13) (d + 1)).1)) (va_up (va_up S 12 (pmS (S 4) (S 10) (S 11) true (S 12) (S 13) (d + 1)).2.1) 13 (pmS (S 4) (S 10) (S 11) true (S 12) (S 13) (d + 1)).2.2)) H := by rw [← e_11, ← e_12, ← e_13]; exact hP
              have hD : va_D A (wM cy ad (va_up I 6 (nI (pmS (S 4) (S 10) (S 11) true (S 12) (S 13) (d + 1)).1)) (va_up (va_up S 12 (pmS (S 4) (S 10) (S 11) true (S 12) (S 13) (d + 1)).2.1) 13 (pmS (S 4) (S 10) (S 11) true (S 12) (S 13) (d + 1)).2.2)) := hD.addr rfl
              exact ih7 (d + 1) (by omega) (by omega) _ _ hP hD hS ls (lv_sub hl [0, 2, 3] rfl)
            · have f44_10 : 0 < (pmS (S 4) (S 10) (S 11) true (S 12) (S 13) d).1 := nt_nle (a := (pmS (S 4) (S 10) (S 11) true (S 12) (S 13) d).1) (b := 0) (by omega) (by omega) c44_10
              refine lv_aload_n hx hb dX7_finds_47 rfl (lv_at hl 1 rfl) ?_
              refine gf_X7_48 hx hb hts hown hK hP 0 rfl (v := .ref (ad 13)) rfl dX7_finds_48 ?_
              refine lv_aload_n hx hb dX7_finds_51 rfl (lv_at hl 1 rfl) ?_
              refine gf_X7_136 hx hb hts hown hK hP 0 rfl (v := .int (nI (pmS (S 4) (S 10) (S 11) true (S 12) (S 13) d).1)) rfl dX7_finds_52 ?_
              refine lv_iconst (v := 1) hx hb dX7_finds_55 (by decide) ?_
              refine lv_isub hx hb dX7_finds_56 ?_
              refine top_eq (y := nI ((pmS (S 4) (S 10) (S 11) true (S 12) (S 13) d).1 - 1)) (pk_sub (a := (pmS (S 4) (S 10) (S 11) true (S 12) (S 13) d).1) (b := 1) (by omega)) ?_
              refine ald_I (f := (pmS (S 4) (S 10) (S 11) true (S 12) (S 13) d).2.2) hx hb hK hP 13 rfl (i := ((pmS (S 4) (S 10) (S 11) true (S 12) (S 13) d).1 - 1)) (by omega) (by decide) dX7_finds_57 ?_
              refine lv_iload_n hx hb dX7_finds_58 rfl (lv_at hl 0 rfl) ?_
              refine lv_icmp_ne (tgt := 100) hx hb dX7_finds_59 (by decide) (fun c59_14 => ?_) (fun c59_14 => ?_)
              · refine lv_iconst (v := 0) hx hb dX7_finds_100 (by decide) ?_
                refine lv_istore_n (lv' := [(3, .int 0), (2, .int (nI d)), (0, .ref (ad 0)), (1, .int 1)]) hx hb dX7_finds_101 rfl hl (by decide) rfl (fun ls hl => ?_)
                refine lv_iload_n hx hb dX7_finds_102 rfl (lv_at hl 0 rfl) ?_
                refine lv_if_ne (tgt := 126) hx hb dX7_finds_103 (by decide) (fun c => absurd (by decide) c) (fun _ => ?_)
                refine lv_aload_n hx hb dX7_finds_106 rfl (lv_at hl 2 rfl) ?_
                refine gf_X7_45 hx hb hts hown hK hP 0 rfl (v := .ref (ad 12)) rfl dX7_finds_107 ?_
                refine lv_aload_n hx hb dX7_finds_110 rfl (lv_at hl 2 rfl) ?_
                refine gf_X7_136 hx hb hts hown hK hP 0 rfl (v := .int (nI (pmS (S 4) (S 10) (S 11) true (S 12) (S 13) d).1)) rfl dX7_finds_111 ?_
                refine lv_iload_n hx hb dX7_finds_114 rfl (lv_at hl 1 rfl) ?_
                refine ast_I hx hb hK hP hD hS 12 rfl (i := (pmS (S 4) (S 10) (S 11) true (S 12) (S 13) d).1) (x := (nI d)) (by omega) (by decide) dX7_finds_115 (fun H locs hP hD hS => ?_)
                have hP : va_P D clW (wM cy ad (va_up I 6 (nI (pmS (S 4) (S 10) (S 11) true (S 12) (S 13) d).1)) (va_up (va_up S 13 (pmS (S 4) (S 10) (S 11) true (S 12) (S 13) d).2.2) 12 (upd (pmS (S 4) (S 10) (S 11) true (S 12) (S 13) d).2.1 (pmS (S 4) (S 10) (S 11) true (S 12) (S 13) d).1 (nI d)))) H := hP
                have hD : va_D A (wM cy ad (va_up I 6 (nI (pmS (S 4) (S 10) (S 11) true (S 12) (S 13) d).1)) (va_up (va_up S 13 (pmS (S 4) (S 10) (S 11) true (S 12) (S 13) d).2.2) 12 (upd (pmS (S 4) (S 10) (S 11) true (S 12) (S 13) d).2.1 (pmS (S 4) (S 10) (S 11) true (S 12) (S 13) d).1 (nI d)))) := hD
                refine lv_aload_n hx hb dX7_finds_116 rfl (lv_at hl 2 rfl) ?_
                refine lv_dup hx hb dX7_finds_117 rfl ?_
                refine gf_X7_136 hx hb hts hown hK hP 0 rfl (v := .int (nI (pmS (S 4) (S 10) (S 11) true (S 12) (S 13) d).1)) rfl dX7_finds_118 ?_
                refine lv_iconst (v := 1) hx hb dX7_finds_121 (by decide) ?_
                refine lv_iadd hx hb dX7_finds_122 ?_
                refine top_eq (y := nI ((pmS (S 4) (S 10) (S 11) true (S 12) (S 13) d).1 + 1)) (nI_add (pmS (S 4) (S 10) (S 11) true (S 12) (S 13) d).1 1) ?_
                refine pf_X7_136 hx hb hts hown hK hP hD hS 0 rfl (Nat.le_of_ble_eq_true rfl) dX7_finds_123 (fun H locs hP hD hS => ?_)
                have hP : va_P D clW (wM cy ad (va_up I 6 (nI ((pmS (S 4) (S 10) (S 11) true (S 12) (S 13) d).1 + 1))) (va_up (va_up S 13 (pmS (S 4) (S 10) (S 11) true (S 12) (S 13) d).2.2) 12 (upd (pmS (S 4) (S 10) (S 11) true (S 12) (S 13) d).2.1 (pmS (S 4) (S 10) (S 11) true (S 12) (S 13) d).1 (nI d)))) H := hP
                have hD : va_D A (wM cy ad (va_up I 6 (nI ((pmS (S 4) (S 10) (S 11) true (S 12) (S 13) d).1 + 1))) (va_up (va_up S 13 (pmS (S 4) (S 10) (S 11) true (S 12) (S 13) d).2.2) 12 (upd (pmS (S 4) (S 10) (S 11) true (S 12) (S 13) d).2.1 (pmS (S 4) (S 10) (S 11) true (S 12) (S 13) d).1 (nI d)))) := hD
                refine lv_aload_n hx hb dX7_finds_126 rfl (lv_at hl 2 rfl) ?_
                refine gf_X7_48 hx hb hts hown hK hP 0 rfl (v := .ref (ad 13)) rfl dX7_finds_127 ?_
                refine lv_aload_n hx hb dX7_finds_130 rfl (lv_at hl 2 rfl) ?_
                refine gf_X7_136 hx hb hts hown hK hP 0 rfl (v := .int (nI ((pmS (S 4) (S 10) (S 11) true (S 12) (S 13) d).1 + 1))) rfl dX7_finds_131 ?_
                refine lv_iconst (v := 1) hx hb dX7_finds_134 (by decide) ?_
                refine lv_isub hx hb dX7_finds_135 ?_
                refine top_eq (y := nI (pmS (S 4) (S 10) (S 11) true (S 12) (S 13) d).1) (nI_pred _) ?_
                refine lv_iload_n hx hb dX7_finds_136 rfl (lv_at hl 1 rfl) ?_
                refine lv_iconst (v := 1) hx hb dX7_finds_137 (by decide) ?_
                refine lv_iadd hx hb dX7_finds_138 ?_
                refine top_eq (y := nI (d + 1)) (nI_add d 1) ?_
                refine ast_I hx hb hK hP hD hS 13 rfl (i := (pmS (S 4) (S 10) (S 11) true (S 12) (S 13) d).1) (x := (nI (d + 1))) (by omega) (by decide) dX7_finds_139 (fun H locs hP hD hS => ?_)
                have hP : va_P D clW (wM cy ad (va_up I 6 (nI ((pmS (S 4) (S 10) (S 11) true (S 12) (S 13) d).1 + 1))) (va_up (va_up S 12 (upd (pmS (S 4) (S 10) (S 11) true (S 12) (S 13) d).2.1 (pmS (S 4) (S 10) (S 11) true (S 12) (S 13) d).1 (nI d))) 13 (upd (pmS (S 4) (S 10) (S 11) true (S 12) (S 13) d).2.2 (pmS (S 4) (S 10) (S 11) true (S 12) (S 13) d).1 (nI (d + 1))))) H := hP
                have hD : va_D A (wM cy ad (va_up I 6 (nI ((pmS (S 4) (S 10) (S 11) true (S 12) (S 13) d).1 + 1))) (va_up (va_up S 12 (upd (pmS (S 4) (S 10) (S 11) true (S 12) (S 13) d).2.1 (pmS (S 4) (S 10) (S 11) true (S 12) (S 13) d).1 (nI d))) 13 (upd (pmS (S 4) (S 10) (S 11) true (S 12) (S 13) d).2.2 (pmS (S 4) (S 10) (S 11) true (S 12) (S 13) d).1 (nI (d + 1))))) := hD
                refine lv_iinc (v := (nI (d + 1))) (lv' := [(2, .int (nI (d + 1))), (3, .int 0), (0, .ref (ad 0)), (1, .int 1)]) hx hb dX7_finds_140 hl (k := 1) rfl (nI_1 d) (by decide) rfl (fun ls hl => ?_)
                refine lv_goto (tgt := 7) hx hb dX7_finds_143 (by decide) ?_
                have e_15 : (nI ((pmS (S 4) (S 10) (S 11) true (S 12) (S 13) d).1 + 1)) = (nI (pmS (S 4) (S 10) (S 11) true (S 12) (S 13) (d + 1)).1) := (by rw [pm_new (by simp [skB, c20_5, c34_9]) (by simp [goB, f44_10, c59_14])])
                have e_16 : (upd (pmS (S 4) (S 10) (S 11) true (S 12) (S 13) d).2.1 (pmS (S 4) (S 10) (S 11) true (S 12) (S 13) d).1 (nI d)) = (pmS (S 4) (S 10) (S 11) true (S 12) (S 13) (d + 1)).2.1 := (by rw [pm_new (by simp [skB, c20_5, c34_9]) (by simp [goB, f44_10, c59_14])])
                have e_17 : (upd (pmS (S 4) (S 10) (S 11) true (S 12) (S 13) d).2.2 (pmS (S 4) (S 10) (S 11) true (S 12) (S 13) d).1 (nI (d + 1))) = (pmS (S 4) (S 10) (S 11) true (S 12) (S 13) (d + 1)).2.2 := (by rw [pm_new (by simp [skB, c20_5, c34_9]) (by simp [goB, f44_10, c59_14])])
                have hP : va_P D clW (wM cy ad (va_up I 6 (nI (pmS (S 4) (S 10) (S 11) true (S 12) (S 13) (d + 1)).1)) (va_up (va_up S 12 (pmS (S 4) (S 10) (S 11) true (S 12) (S 13) (d + 1)).2.1) 13 (pmS (S 4) (S 10) (S 11) true (S 12) (S 13) (d + 1)).2.2)) H := by rw [← e_15, ← e_16, ← e_17]; exact hP
                have hD : va_D A (wM cy ad (va_up I 6 (nI (pmS (S 4) (S 10) (S 11) true (S 12) (S 13) (d + 1)).1)) (va_up (va_up S 12 (pmS (S 4) (S 10) (S 11) true (S 12) (S 13) (d + 1)).2.1) 13 (pmS (S 4) (S 10) (S 11) true (S 12) (S 13) (d + 1)).2.2)) := hD.addr rfl
                exact ih7 (d + 1) (by omega) (by omega) _ _ hP hD hS ls (lv_sub hl [0, 2, 3] rfl)
              · refine lv_aload_n hx hb dX7_finds_62 rfl (lv_at hl 1 rfl) ?_
                refine lv_aload_n hx hb dX7_finds_63 rfl (lv_at hl 1 rfl) ?_
                refine gf_X7_39 hx hb hts hown hK hP 0 rfl (v := .ref (ad 10)) rfl dX7_finds_64 ?_
                refine lv_iload_n hx hb dX7_finds_67 rfl (lv_at hl 0 rfl) ?_
                refine lv_iload_n hx hb dX7_finds_68 rfl (lv_at hl 0 rfl) ?_
                refine lv_iconst (v := 1) hx hb dX7_finds_69 (by decide) ?_
                refine lv_isub hx hb dX7_finds_70 ?_
                refine top_eq (y := nI (d - 1)) (pk_sub (a := d) (b := 1) (by omega)) ?_
                refine rZ_call (P := likeB ((S 4)) ((S 10)) d (d - 1) = true) (va_runV (As := [.ref (ad 10), .int (nI d), .int (nI (d - 1))]) (rest := []) ⟨hx, hb, hml, hown, hts⟩ (c_X7_isLike_10 l D cy ad (va_up I 6 (nI (pmS (S 4) (S 10) (S 11) true (S 12) (S 13) d).1)) (va_up (va_up S 12 (pmS (S 4) (S 10) (S 11) true (S 12) (S 13) d).2.1) 13 (pmS (S 4) (S 10) (S 11) true (S 12) (S 13) d).2.2) d (d - 1) k hk8 hrow (by omega) (by omega)) (cw_X7_139 hts rfl rfl ⟨Nat.le_of_ble_eq_true rfl, Nat.le_of_ble_eq_true rfl⟩) (preVR (ci := 7) (q0 := 0) hK hP rfl rfl) rfl rfl hl.1 rfl (lv_room (Nat.le_of_ble_eq_true rfl)) dX7_finds_71 ⟨Nat.le_of_ble_eq_true rfl, Nat.le_of_ble_eq_true rfl⟩) (fun b71_18 => ?_) (fun b71_18 => ?_)
                · refine lv_if_eq (tgt := 100) hx hb dX7_finds_74 (by decide) (fun c => absurd c (by decide)) (fun _ => ?_)
                  refine lv_iload_n hx hb dX7_finds_77 rfl (lv_at hl 2 rfl) ?_
                  refine lv_if_eq (tgt := 96) hx hb dX7_finds_78 (by decide) (fun c => absurd c (by decide)) (fun _ => ?_)
                  refine lv_aload_n hx hb dX7_finds_81 rfl (lv_at hl 1 rfl) ?_
                  refine lv_aload_n hx hb dX7_finds_82 rfl (lv_at hl 1 rfl) ?_
                  refine gf_X7_42 hx hb hts hown hK hP 0 rfl (v := .ref (ad 11)) rfl dX7_finds_83 ?_
                  refine lv_iload_n hx hb dX7_finds_86 rfl (lv_at hl 0 rfl) ?_
                  refine lv_iload_n hx hb dX7_finds_87 rfl (lv_at hl 0 rfl) ?_
                  refine lv_iconst (v := 1) hx hb dX7_finds_88 (by decide) ?_
                  refine lv_isub hx hb dX7_finds_89 ?_
                  refine top_eq (y := nI (d - 1)) (pk_sub (a := d) (b := 1) (by omega)) ?_
                  refine rZ_call (P := likeB ((S 4)) ((S 11)) d (d - 1) = true) (va_runV (As := [.ref (ad 11), .int (nI d), .int (nI (d - 1))]) (rest := []) ⟨hx, hb, hml, hown, hts⟩ (c_X7_isLike_11 l D cy ad (va_up I 6 (nI (pmS (S 4) (S 10) (S 11) true (S 12) (S 13) d).1)) (va_up (va_up S 12 (pmS (S 4) (S 10) (S 11) true (S 12) (S 13) d).2.1) 13 (pmS (S 4) (S 10) (S 11) true (S 12) (S 13) d).2.2) d (d - 1) k hk8 hro2 (by omega) (by omega)) (cw_X7_139 hts rfl rfl ⟨Nat.le_of_ble_eq_true rfl, Nat.le_of_ble_eq_true rfl⟩) (preVR (ci := 7) (q0 := 0) hK hP rfl rfl) rfl rfl hl.1 rfl (lv_room (Nat.le_of_ble_eq_true rfl)) dX7_finds_90 ⟨Nat.le_of_ble_eq_true rfl, Nat.le_of_ble_eq_true rfl⟩) (fun b90_19 => ?_) (fun b90_19 => ?_)
                  · refine lv_if_eq (tgt := 100) hx hb dX7_finds_93 (by decide) (fun c => absurd c (by decide)) (fun _ => ?_)
                    refine lv_iconst (v := 1) hx hb dX7_finds_96 (by decide) ?_
                    refine lv_goto (tgt := 101) hx hb dX7_finds_97 (by decide) ?_
                    refine lv_istore_n (lv' := [(3, .int 1), (2, .int (nI d)), (0, .ref (ad 0)), (1, .int 1)]) hx hb dX7_finds_101 rfl hl (by decide) rfl (fun ls hl => ?_)
                    refine lv_iload_n hx hb dX7_finds_102 rfl (lv_at hl 0 rfl) ?_
                    refine lv_if_ne (tgt := 126) hx hb dX7_finds_103 (by decide) (fun _ => ?_) (fun c => absurd c (by decide))
                    refine lv_aload_n hx hb dX7_finds_126 rfl (lv_at hl 2 rfl) ?_
                    refine gf_X7_48 hx hb hts hown hK hP 0 rfl (v := .ref (ad 13)) rfl dX7_finds_127 ?_
                    refine lv_aload_n hx hb dX7_finds_130 rfl (lv_at hl 2 rfl) ?_
                    refine gf_X7_136 hx hb hts hown hK hP 0 rfl (v := .int (nI (pmS (S 4) (S 10) (S 11) true (S 12) (S 13) d).1)) rfl dX7_finds_131 ?_
                    refine lv_iconst (v := 1) hx hb dX7_finds_134 (by decide) ?_
                    refine lv_isub hx hb dX7_finds_135 ?_
                    refine top_eq (y := nI ((pmS (S 4) (S 10) (S 11) true (S 12) (S 13) d).1 - 1)) (pk_sub (a := (pmS (S 4) (S 10) (S 11) true (S 12) (S 13) d).1) (b := 1) (by omega)) ?_
                    refine lv_iload_n hx hb dX7_finds_136 rfl (lv_at hl 1 rfl) ?_
                    refine lv_iconst (v := 1) hx hb dX7_finds_137 (by decide) ?_
                    refine lv_iadd hx hb dX7_finds_138 ?_
                    refine top_eq (y := nI (d + 1)) (nI_add d 1) ?_
                    refine ast_I hx hb hK hP hD hS 13 rfl (i := ((pmS (S 4) (S 10) (S 11) true (S 12) (S 13) d).1 - 1)) (x := (nI (d + 1))) (by omega) (by decide) dX7_finds_139 (fun H locs hP hD hS => ?_)
                    have hP : va_P D clW (wM cy ad (va_up I 6 (nI (pmS (S 4) (S 10) (S 11) true (S 12) (S 13) d).1)) (va_up (va_up S 12 (pmS (S 4) (S 10) (S 11) true (S 12) (S 13) d).2.1) 13 (upd (pmS (S 4) (S 10) (S 11) true (S 12) (S 13) d).2.2 ((pmS (S 4) (S 10) (S 11) true (S 12) (S 13) d).1 - 1) (nI (d + 1))))) H := hP
                    have hD : va_D A (wM cy ad (va_up I 6 (nI (pmS (S 4) (S 10) (S 11) true (S 12) (S 13) d).1)) (va_up (va_up S 12 (pmS (S 4) (S 10) (S 11) true (S 12) (S 13) d).2.1) 13 (upd (pmS (S 4) (S 10) (S 11) true (S 12) (S 13) d).2.2 ((pmS (S 4) (S 10) (S 11) true (S 12) (S 13) d).1 - 1) (nI (d + 1))))) := hD
                    refine lv_iinc (v := (nI (d + 1))) (lv' := [(2, .int (nI (d + 1))), (3, .int 1), (0, .ref (ad 0)), (1, .int 1)]) hx hb dX7_finds_140 hl (k := 1) rfl (nI_1 d) (by decide) rfl (fun ls hl => ?_)
                    refine lv_goto (tgt := 7) hx hb dX7_finds_143 (by decide) ?_
                    have e_20 : (nI (pmS (S 4) (S 10) (S 11) true (S 12) (S 13) d).1) = (nI (pmS (S 4) (S 10) (S 11) true (S 12) (S 13) (d + 1)).1) := (by rw [pm_go (by simp [skB, c20_5, c34_9]) (by simp [goB, f44_10, c59_14, b71_18, b90_19])])
                    have e_21 : (pmS (S 4) (S 10) (S 11) true (S 12) (S 13) d).2.1 = (pmS (S 4) (S 10) (S 11) true (S 12) (S 13) (d + 1)).2.1 := (by rw [pm_go (by simp [skB, c20_5, c34_9]) (by simp [goB, f44_10, c59_14, b71_18, b90_19])])
                    have e_22 : (upd (pmS (S 4) (S 10) (S 11) true (S 12) (S 13) d).2.2 ((pmS (S 4) (S 10) (S 11) true (S 12) (S 13) d).1 - 1) (nI (d + 1))) = (pmS (S 4) (S 10) (S 11) true (S 12) (S 13) (d + 1)).2.2 := (by rw [pm_go (by simp [skB, c20_5, c34_9]) (by simp [goB, f44_10, c59_14, b71_18, b90_19])])
                    have hP : va_P D clW (wM cy ad (va_up I 6 (nI (pmS (S 4) (S 10) (S 11) true (S 12) (S 13) (d + 1)).1)) (va_up (va_up S 12 (pmS (S 4) (S 10) (S 11) true (S 12) (S 13) (d + 1)).2.1) 13 (pmS (S 4) (S 10) (S 11) true (S 12) (S 13) (d + 1)).2.2)) H := by rw [← e_20, ← e_21, ← e_22]; exact hP
                    have hD : va_D A (wM cy ad (va_up I 6 (nI (pmS (S 4) (S 10) (S 11) true (S 12) (S 13) (d + 1)).1)) (va_up (va_up S 12 (pmS (S 4) (S 10) (S 11) true (S 12) (S 13) (d + 1)).2.1) 13 (pmS (S 4) (S 10) (S 11) true (S 12) (S 13) (d + 1)).2.2)) := hD.addr rfl
                    exact ih7 (d + 1) (by omega) (by omega) _ _ hP hD hS ls (lv_sub hl [0, 2, 3] rfl)
                  · refine lv_if_eq (tgt := 100) hx hb dX7_finds_93 (by decide) (fun _ => ?_) (fun c => absurd (by decide) c)
                    refine lv_iconst (v := 0) hx hb dX7_finds_100 (by decide) ?_
                    refine lv_istore_n (lv' := [(3, .int 0), (2, .int (nI d)), (0, .ref (ad 0)), (1, .int 1)]) hx hb dX7_finds_101 rfl hl (by decide) rfl (fun ls hl => ?_)
                    refine lv_iload_n hx hb dX7_finds_102 rfl (lv_at hl 0 rfl) ?_
                    refine lv_if_ne (tgt := 126) hx hb dX7_finds_103 (by decide) (fun c => absurd (by decide) c) (fun _ => ?_)
                    refine lv_aload_n hx hb dX7_finds_106 rfl (lv_at hl 2 rfl) ?_
                    refine gf_X7_45 hx hb hts hown hK hP 0 rfl (v := .ref (ad 12)) rfl dX7_finds_107 ?_
                    refine lv_aload_n hx hb dX7_finds_110 rfl (lv_at hl 2 rfl) ?_
                    refine gf_X7_136 hx hb hts hown hK hP 0 rfl (v := .int (nI (pmS (S 4) (S 10) (S 11) true (S 12) (S 13) d).1)) rfl dX7_finds_111 ?_
                    refine lv_iload_n hx hb dX7_finds_114 rfl (lv_at hl 1 rfl) ?_
                    refine ast_I hx hb hK hP hD hS 12 rfl (i := (pmS (S 4) (S 10) (S 11) true (S 12) (S 13) d).1) (x := (nI d)) (by omega) (by decide) dX7_finds_115 (fun H locs hP hD hS => ?_)
                    have hP : va_P D clW (wM cy ad (va_up I 6 (nI (pmS (S 4) (S 10) (S 11) true (S 12) (S 13) d).1)) (va_up (va_up S 13 (pmS (S 4) (S 10) (S 11) true (S 12) (S 13) d).2.2) 12 (upd (pmS (S 4) (S 10) (S 11) true (S 12) (S 13) d).2.1 (pmS (S 4) (S 10) (S 11) true (S 12) (S 13) d).1 (nI d)))) H := hP
                    have hD : va_D A (wM cy ad (va_up I 6 (nI (pmS (S 4) (S 10) (S 11) true (S 12) (S 13) d).1)) (va_up (va_up S 13 (pmS (S 4) (S 10) (S 11) true (S 12) (S 13) d).2.2) 12 (upd (pmS (S 4) (S 10) (S 11) true (S 12) (S 13) d).2.1 (pmS (S 4) (S 10) (S 11) true (S 12) (S 13) d).1 (nI d)))) := hD
                    refine lv_aload_n hx hb dX7_finds_116 rfl (lv_at hl 2 rfl) ?_
                    refine lv_dup hx hb dX7_finds_117 rfl ?_
                    refine gf_X7_136 hx hb hts hown hK hP 0 rfl (v := .int (nI (pmS (S 4) (S 10) (S 11) true (S 12) (S 13) d).1)) rfl dX7_finds_118 ?_
                    refine lv_iconst (v := 1) hx hb dX7_finds_121 (by decide) ?_
                    refine lv_iadd hx hb dX7_finds_122 ?_
                    refine top_eq (y := nI ((pmS (S 4) (S 10) (S 11) true (S 12) (S 13) d).1 + 1)) (nI_add (pmS (S 4) (S 10) (S 11) true (S 12) (S 13) d).1 1) ?_
                    refine pf_X7_136 hx hb hts hown hK hP hD hS 0 rfl (Nat.le_of_ble_eq_true rfl) dX7_finds_123 (fun H locs hP hD hS => ?_)
                    have hP : va_P D clW (wM cy ad (va_up I 6 (nI ((pmS (S 4) (S 10) (S 11) true (S 12) (S 13) d).1 + 1))) (va_up (va_up S 13 (pmS (S 4) (S 10) (S 11) true (S 12) (S 13) d).2.2) 12 (upd (pmS (S 4) (S 10) (S 11) true (S 12) (S 13) d).2.1 (pmS (S 4) (S 10) (S 11) true (S 12) (S 13) d).1 (nI d)))) H := hP
                    have hD : va_D A (wM cy ad (va_up I 6 (nI ((pmS (S 4) (S 10) (S 11) true (S 12) (S 13) d).1 + 1))) (va_up (va_up S 13 (pmS (S 4) (S 10) (S 11) true (S 12) (S 13) d).2.2) 12 (upd (pmS (S 4) (S 10) (S 11) true (S 12) (S 13) d).2.1 (pmS (S 4) (S 10) (S 11) true (S 12) (S 13) d).1 (nI d)))) := hD
                    refine lv_aload_n hx hb dX7_finds_126 rfl (lv_at hl 2 rfl) ?_
                    refine gf_X7_48 hx hb hts hown hK hP 0 rfl (v := .ref (ad 13)) rfl dX7_finds_127 ?_
                    refine lv_aload_n hx hb dX7_finds_130 rfl (lv_at hl 2 rfl) ?_
                    refine gf_X7_136 hx hb hts hown hK hP 0 rfl (v := .int (nI ((pmS (S 4) (S 10) (S 11) true (S 12) (S 13) d).1 + 1))) rfl dX7_finds_131 ?_
                    refine lv_iconst (v := 1) hx hb dX7_finds_134 (by decide) ?_
                    refine lv_isub hx hb dX7_finds_135 ?_
                    refine top_eq (y := nI (pmS (S 4) (S 10) (S 11) true (S 12) (S 13) d).1) (nI_pred _) ?_
                    refine lv_iload_n hx hb dX7_finds_136 rfl (lv_at hl 1 rfl) ?_
                    refine lv_iconst (v := 1) hx hb dX7_finds_137 (by decide) ?_
                    refine lv_iadd hx hb dX7_finds_138 ?_
                    refine top_eq (y := nI (d + 1)) (nI_add d 1) ?_
                    refine ast_I hx hb hK hP hD hS 13 rfl (i := (pmS (S 4) (S 10) (S 11) true (S 12) (S 13) d).1) (x := (nI (d + 1))) (by omega) (by decide) dX7_finds_139 (fun H locs hP hD hS => ?_)
                    have hP : va_P D clW (wM cy ad (va_up I 6 (nI ((pmS (S 4) (S 10) (S 11) true (S 12) (S 13) d).1 + 1))) (va_up (va_up S 12 (upd (pmS (S 4) (S 10) (S 11) true (S 12) (S 13) d).2.1 (pmS (S 4) (S 10) (S 11) true (S 12) (S 13) d).1 (nI d))) 13 (upd (pmS (S 4) (S 10) (S 11) true (S 12) (S 13) d).2.2 (pmS (S 4) (S 10) (S 11) true (S 12) (S 13) d).1 (nI (d + 1))))) H := hP
                    have hD : va_D A (wM cy ad (va_up I 6 (nI ((pmS (S 4) (S 10) (S 11) true (S 12) (S 13) d).1 + 1))) (va_up (va_up S 12 (upd (pmS (S 4) (S 10) (S 11) true (S 12) (S 13) d).2.1 (pmS (S 4) (S 10) (S 11) true (S 12) (S 13) d).1 (nI d))) 13 (upd (pmS (S 4) (S 10) (S 11) true (S 12) (S 13) d).2.2 (pmS (S 4) (S 10) (S 11) true (S 12) (S 13) d).1 (nI (d + 1))))) := hD
                    refine lv_iinc (v := (nI (d + 1))) (lv' := [(2, .int (nI (d + 1))), (3, .int 0), (0, .ref (ad 0)), (1, .int 1)]) hx hb dX7_finds_140 hl (k := 1) rfl (nI_1 d) (by decide) rfl (fun ls hl => ?_)
                    refine lv_goto (tgt := 7) hx hb dX7_finds_143 (by decide) ?_
                    have e_23 : (nI ((pmS (S 4) (S 10) (S 11) true (S 12) (S 13) d).1 + 1)) = (nI (pmS (S 4) (S 10) (S 11) true (S 12) (S 13) (d + 1)).1) := (by rw [pm_new (by simp [skB, c20_5, c34_9]) (by simp [goB, f44_10, c59_14, b71_18, b90_19])])
                    have e_24 : (upd (pmS (S 4) (S 10) (S 11) true (S 12) (S 13) d).2.1 (pmS (S 4) (S 10) (S 11) true (S 12) (S 13) d).1 (nI d)) = (pmS (S 4) (S 10) (S 11) true (S 12) (S 13) (d + 1)).2.1 := (by rw [pm_new (by simp [skB, c20_5, c34_9]) (by simp [goB, f44_10, c59_14, b71_18, b90_19])])
                    have e_25 : (upd (pmS (S 4) (S 10) (S 11) true (S 12) (S 13) d).2.2 (pmS (S 4) (S 10) (S 11) true (S 12) (S 13) d).1 (nI (d + 1))) = (pmS (S 4) (S 10) (S 11) true (S 12) (S 13) (d + 1)).2.2 := (by rw [pm_new (by simp [skB, c20_5, c34_9]) (by simp [goB, f44_10, c59_14, b71_18, b90_19])])
                    have hP : va_P D clW (wM cy ad (va_up I 6 (nI (pmS (S 4) (S 10) (S 11) true (S 12) (S 13) (d + 1)).1)) (va_up (va_up S 12 (pmS (S 4) (S 10) (S 11) true (S 12) (S 13) (d + 1)).2.1) 13 (pmS (S 4) (S 10) (S 11) true (S 12) (S 13) (d + 1)).2.2)) H := by rw [← e_23, ← e_24, ← e_25]; exact hP
                    have hD : va_D A (wM cy ad (va_up I 6 (nI (pmS (S 4) (S 10) (S 11) true (S 12) (S 13) (d + 1)).1)) (va_up (va_up S 12 (pmS (S 4) (S 10) (S 11) true (S 12) (S 13) (d + 1)).2.1) 13 (pmS (S 4) (S 10) (S 11) true (S 12) (S 13) (d + 1)).2.2)) := hD.addr rfl
                    exact ih7 (d + 1) (by omega) (by omega) _ _ hP hD hS ls (lv_sub hl [0, 2, 3] rfl)
                · refine lv_if_eq (tgt := 100) hx hb dX7_finds_74 (by decide) (fun _ => ?_) (fun c => absurd (by decide) c)
                  refine lv_iconst (v := 0) hx hb dX7_finds_100 (by decide) ?_
                  refine lv_istore_n (lv' := [(3, .int 0), (2, .int (nI d)), (0, .ref (ad 0)), (1, .int 1)]) hx hb dX7_finds_101 rfl hl (by decide) rfl (fun ls hl => ?_)
                  refine lv_iload_n hx hb dX7_finds_102 rfl (lv_at hl 0 rfl) ?_
                  refine lv_if_ne (tgt := 126) hx hb dX7_finds_103 (by decide) (fun c => absurd (by decide) c) (fun _ => ?_)
                  refine lv_aload_n hx hb dX7_finds_106 rfl (lv_at hl 2 rfl) ?_
                  refine gf_X7_45 hx hb hts hown hK hP 0 rfl (v := .ref (ad 12)) rfl dX7_finds_107 ?_
                  refine lv_aload_n hx hb dX7_finds_110 rfl (lv_at hl 2 rfl) ?_
                  refine gf_X7_136 hx hb hts hown hK hP 0 rfl (v := .int (nI (pmS (S 4) (S 10) (S 11) true (S 12) (S 13) d).1)) rfl dX7_finds_111 ?_
                  refine lv_iload_n hx hb dX7_finds_114 rfl (lv_at hl 1 rfl) ?_
                  refine ast_I hx hb hK hP hD hS 12 rfl (i := (pmS (S 4) (S 10) (S 11) true (S 12) (S 13) d).1) (x := (nI d)) (by omega) (by decide) dX7_finds_115 (fun H locs hP hD hS => ?_)
                  have hP : va_P D clW (wM cy ad (va_up I 6 (nI (pmS (S 4) (S 10) (S 11) true (S 12) (S 13) d).1)) (va_up (va_up S 13 (pmS (S 4) (S 10) (S 11) true (S 12) (S 13) d).2.2) 12 (upd (pmS (S 4) (S 10) (S 11) true (S 12) (S 13) d).2.1 (pmS (S 4) (S 10) (S 11) true (S 12) (S 13) d).1 (nI d)))) H := hP
                  have hD : va_D A (wM cy ad (va_up I 6 (nI (pmS (S 4) (S 10) (S 11) true (S 12) (S 13) d).1)) (va_up (va_up S 13 (pmS (S 4) (S 10) (S 11) true (S 12) (S 13) d).2.2) 12 (upd (pmS (S 4) (S 10) (S 11) true (S 12) (S 13) d).2.1 (pmS (S 4) (S 10) (S 11) true (S 12) (S 13) d).1 (nI d)))) := hD
                  refine lv_aload_n hx hb dX7_finds_116 rfl (lv_at hl 2 rfl) ?_
                  refine lv_dup hx hb dX7_finds_117 rfl ?_
                  refine gf_X7_136 hx hb hts hown hK hP 0 rfl (v := .int (nI (pmS (S 4) (S 10) (S 11) true (S 12) (S 13) d).1)) rfl dX7_finds_118 ?_
                  refine lv_iconst (v := 1) hx hb dX7_finds_121 (by decide) ?_
                  refine lv_iadd hx hb dX7_finds_122 ?_
                  refine top_eq (y := nI ((pmS (S 4) (S 10) (S 11) true (S 12) (S 13) d).1 + 1)) (nI_add (pmS (S 4) (S 10) (S 11) true (S 12) (S 13) d).1 1) ?_
                  refine pf_X7_136 hx hb hts hown hK hP hD hS 0 rfl (Nat.le_of_ble_eq_true rfl) dX7_finds_123 (fun H locs hP hD hS => ?_)
                  have hP : va_P D clW (wM cy ad (va_up I 6 (nI ((pmS (S 4) (S 10) (S 11) true (S 12) (S 13) d).1 + 1))) (va_up (va_up S 13 (pmS (S 4) (S 10) (S 11) true (S 12) (S 13) d).2.2) 12 (upd (pmS (S 4) (S 10) (S 11) true (S 12) (S 13) d).2.1 (pmS (S 4) (S 10) (S 11) true (S 12) (S 13) d).1 (nI d)))) H := hP
                  have hD : va_D A (wM cy ad (va_up I 6 (nI ((pmS (S 4) (S 10) (S 11) true (S 12) (S 13) d).1 + 1))) (va_up (va_up S 13 (pmS (S 4) (S 10) (S 11) true (S 12) (S 13) d).2.2) 12 (upd (pmS (S 4) (S 10) (S 11) true (S 12) (S 13) d).2.1 (pmS (S 4) (S 10) (S 11) true (S 12) (S 13) d).1 (nI d)))) := hD
                  refine lv_aload_n hx hb dX7_finds_126 rfl (lv_at hl 2 rfl) ?_
                  refine gf_X7_48 hx hb hts hown hK hP 0 rfl (v := .ref (ad 13)) rfl dX7_finds_127 ?_
                  refine lv_aload_n hx hb dX7_finds_130 rfl (lv_at hl 2 rfl) ?_
                  refine gf_X7_136 hx hb hts hown hK hP 0 rfl (v := .int (nI ((pmS (S 4) (S 10) (S 11) true (S 12) (S 13) d).1 + 1))) rfl dX7_finds_131 ?_
                  refine lv_iconst (v := 1) hx hb dX7_finds_134 (by decide) ?_
                  refine lv_isub hx hb dX7_finds_135 ?_
                  refine top_eq (y := nI (pmS (S 4) (S 10) (S 11) true (S 12) (S 13) d).1) (nI_pred _) ?_
                  refine lv_iload_n hx hb dX7_finds_136 rfl (lv_at hl 1 rfl) ?_
                  refine lv_iconst (v := 1) hx hb dX7_finds_137 (by decide) ?_
                  refine lv_iadd hx hb dX7_finds_138 ?_
                  refine top_eq (y := nI (d + 1)) (nI_add d 1) ?_
                  refine ast_I hx hb hK hP hD hS 13 rfl (i := (pmS (S 4) (S 10) (S 11) true (S 12) (S 13) d).1) (x := (nI (d + 1))) (by omega) (by decide) dX7_finds_139 (fun H locs hP hD hS => ?_)
                  have hP : va_P D clW (wM cy ad (va_up I 6 (nI ((pmS (S 4) (S 10) (S 11) true (S 12) (S 13) d).1 + 1))) (va_up (va_up S 12 (upd (pmS (S 4) (S 10) (S 11) true (S 12) (S 13) d).2.1 (pmS (S 4) (S 10) (S 11) true (S 12) (S 13) d).1 (nI d))) 13 (upd (pmS (S 4) (S 10) (S 11) true (S 12) (S 13) d).2.2 (pmS (S 4) (S 10) (S 11) true (S 12) (S 13) d).1 (nI (d + 1))))) H := hP
                  have hD : va_D A (wM cy ad (va_up I 6 (nI ((pmS (S 4) (S 10) (S 11) true (S 12) (S 13) d).1 + 1))) (va_up (va_up S 12 (upd (pmS (S 4) (S 10) (S 11) true (S 12) (S 13) d).2.1 (pmS (S 4) (S 10) (S 11) true (S 12) (S 13) d).1 (nI d))) 13 (upd (pmS (S 4) (S 10) (S 11) true (S 12) (S 13) d).2.2 (pmS (S 4) (S 10) (S 11) true (S 12) (S 13) d).1 (nI (d + 1))))) := hD
                  refine lv_iinc (v := (nI (d + 1))) (lv' := [(2, .int (nI (d + 1))), (3, .int 0), (0, .ref (ad 0)), (1, .int 1)]) hx hb dX7_finds_140 hl (k := 1) rfl (nI_1 d) (by decide) rfl (fun ls hl => ?_)
                  refine lv_goto (tgt := 7) hx hb dX7_finds_143 (by decide) ?_
                  have e_26 : (nI ((pmS (S 4) (S 10) (S 11) true (S 12) (S 13) d).1 + 1)) = (nI (pmS (S 4) (S 10) (S 11) true (S 12) (S 13) (d + 1)).1) := (by rw [pm_new (by simp [skB, c20_5, c34_9]) (by simp [goB, f44_10, c59_14, b71_18])])
                  have e_27 : (upd (pmS (S 4) (S 10) (S 11) true (S 12) (S 13) d).2.1 (pmS (S 4) (S 10) (S 11) true (S 12) (S 13) d).1 (nI d)) = (pmS (S 4) (S 10) (S 11) true (S 12) (S 13) (d + 1)).2.1 := (by rw [pm_new (by simp [skB, c20_5, c34_9]) (by simp [goB, f44_10, c59_14, b71_18])])
                  have e_28 : (upd (pmS (S 4) (S 10) (S 11) true (S 12) (S 13) d).2.2 (pmS (S 4) (S 10) (S 11) true (S 12) (S 13) d).1 (nI (d + 1))) = (pmS (S 4) (S 10) (S 11) true (S 12) (S 13) (d + 1)).2.2 := (by rw [pm_new (by simp [skB, c20_5, c34_9]) (by simp [goB, f44_10, c59_14, b71_18])])
                  have hP : va_P D clW (wM cy ad (va_up I 6 (nI (pmS (S 4) (S 10) (S 11) true (S 12) (S 13) (d + 1)).1)) (va_up (va_up S 12 (pmS (S 4) (S 10) (S 11) true (S 12) (S 13) (d + 1)).2.1) 13 (pmS (S 4) (S 10) (S 11) true (S 12) (S 13) (d + 1)).2.2)) H := by rw [← e_26, ← e_27, ← e_28]; exact hP
                  have hD : va_D A (wM cy ad (va_up I 6 (nI (pmS (S 4) (S 10) (S 11) true (S 12) (S 13) (d + 1)).1)) (va_up (va_up S 12 (pmS (S 4) (S 10) (S 11) true (S 12) (S 13) (d + 1)).2.1) 13 (pmS (S 4) (S 10) (S 11) true (S 12) (S 13) (d + 1)).2.2)) := hD.addr rfl
                  exact ih7 (d + 1) (by omega) (by omega) _ _ hP hD hS ls (lv_sub hl [0, 2, 3] rfl)
          · refine lv_goto (tgt := 140) hx hb dX7_finds_37 (by decide) ?_
            refine lv_iinc (v := (nI (d + 1))) (lv' := [(2, .int (nI (d + 1))), (0, .ref (ad 0)), (1, .int 1)]) hx hb dX7_finds_140 hl (k := 0) rfl (nI_1 d) (by decide) rfl (fun ls hl => ?_)
            refine lv_goto (tgt := 7) hx hb dX7_finds_143 (by decide) ?_
            have e_29 : (nI (pmS (S 4) (S 10) (S 11) true (S 12) (S 13) d).1) = (nI (pmS (S 4) (S 10) (S 11) true (S 12) (S 13) (d + 1)).1) := (by rw [pm_skip (by simp [skB, c20_5, c34_9])])
            have e_30 : (pmS (S 4) (S 10) (S 11) true (S 12) (S 13) d).2.1 = (pmS (S 4) (S 10) (S 11) true (S 12) (S 13) (d + 1)).2.1 := (by rw [pm_skip (by simp [skB, c20_5, c34_9])])
            have e_31 : (pmS (S 4) (S 10) (S 11) true (S 12) (S 13) d).2.2 = (pmS (S 4) (S 10) (S 11) true (S 12) (S 13) (d + 1)).2.2 := (by rw [pm_skip (by simp [skB, c20_5, c34_9])])
            have hP : va_P D clW (wM cy ad (va_up I 6 (nI (pmS (S 4) (S 10) (S 11) true (S 12) (S 13) (d + 1)).1)) (va_up (va_up S 12 (pmS (S 4) (S 10) (S 11) true (S 12) (S 13) (d + 1)).2.1) 13 (pmS (S 4) (S 10) (S 11) true (S 12) (S 13) (d + 1)).2.2)) H := by rw [← e_29, ← e_30, ← e_31]; exact hP
            have hD : va_D A (wM cy ad (va_up I 6 (nI (pmS (S 4) (S 10) (S 11) true (S 12) (S 13) (d + 1)).1)) (va_up (va_up S 12 (pmS (S 4) (S 10) (S 11) true (S 12) (S 13) (d + 1)).2.1) 13 (pmS (S 4) (S 10) (S 11) true (S 12) (S 13) (d + 1)).2.2)) := hD.addr rfl
            exact ih7 (d + 1) (by omega) (by omega) _ _ hP hD hS ls (lv_sub hl [0, 1, 2] rfl)
  have e_32 : (0 : Int32) = (nI (pmS (S 4) (S 10) (S 11) true (S 12) (S 13) 0).1) := rfl
  have e_33 : (S 12) = (pmS (S 4) (S 10) (S 11) true (S 12) (S 13) 0).2.1 := rfl
  have e_34 : (S 13) = (pmS (S 4) (S 10) (S 11) true (S 12) (S 13) 0).2.2 := rfl
  have hP : va_P D clW (wM cy ad (va_up I 6 (nI (pmS (S 4) (S 10) (S 11) true (S 12) (S 13) 0).1)) (va_up (va_up S 12 (pmS (S 4) (S 10) (S 11) true (S 12) (S 13) 0).2.1) 13 (pmS (S 4) (S 10) (S 11) true (S 12) (S 13) 0).2.2)) H := by rw [← e_32, ← e_33, ← e_34]; exact hP
  have hD : va_D A (wM cy ad (va_up I 6 (nI (pmS (S 4) (S 10) (S 11) true (S 12) (S 13) 0).1)) (va_up (va_up S 12 (pmS (S 4) (S 10) (S 11) true (S 12) (S 13) 0).2.1) 13 (pmS (S 4) (S 10) (S 11) true (S 12) (S 13) 0).2.2)) := hD.addr rfl
  exact L7 (100 + 1) 0 (by omega) (by omega) _ _ hP hD hS ls (lv_sub hl [0, 1, 2] rfl)
