theorem pf_X0_30 {p : Program} {l : Launch} {e : Env} {R : Room} {s : State} {m : MethodId} {args : Array Value} {below : List Frame} {meth : Method} {c : Code} {H : Heap} {locs : List Loc} {cells slots : Nat} {Q : State → Prop} {cc : ByteArray} {pc : Nat} {ls : Array Slot} {rest : List Value} {D : va_G} {cy : Nat → ClassId} {a : Nat} {ws : va_W} {A : Nat → Prop} {H0 : Heap} (hx : p.tables.exec = Jvm.exec) (hb : c.code = cc) (hts : ∀ w ∈ wsL_law, w.before args s = true) (hown : s.vm.findClass RX0 = some m.cls) (hK : va_K D clW (tyW cy) s) (hP : va_P D clW ws H) (hD : va_D A ws) (hS : va_S A H0 H locs) (q0 : Nat) {fs : List Value} (he : ws[q0]? = some (a, .inr (0, fs))) {x : Int32} (hl : 6 < fs.length) (hdg : decode cc pc = .ok (.putfield 30, 3)) (kk : ∀ (H1 : Heap) (locs1 : List Loc), va_P D clW (ws.set q0 (a, .inr (0, fs.set 6 (.int x)))) H1 → va_D A (ws.set q0 (a, .inr (0, fs.set 6 (.int x)))) → va_S A H0 H1 locs1 → W p l e R s m args below meth c H1 locs1 cells slots Q (F0 m (pc + 3) ls rest)) : W p l e R s m args below meth c H locs cells slots Q (F0 m pc ls (.int x :: .ref a :: rest)) := va_put (own := RX0) (ref := RX0) (C := RX0) (T := TX0) (N := 8) (ci := 0) (ty := .int) hx hb hts inlX0 tyX0 tyX0_ok nmX0 hown hK hP hD hS q0 he rfl 6 (by decide) (hts _ wm_58) (fun _ h => h) rfl (by decide +kernel) rfl rfl hl hdg kk
theorem pf_X0_34 {p : Program} {l : Launch} {e : Env} {R : Room} {s : State} {m : MethodId} {args : Array Value} {below : List Frame} {meth : Method} {c : Code} {H : Heap} {locs : List Loc} {cells slots : Nat} {Q : State → Prop} {cc : ByteArray} {pc : Nat} {ls : Array Slot} {rest : List Value} {D : va_G} {cy : Nat → ClassId} {a : Nat} {ws : va_W} {A : Nat → Prop} {H0 : Heap} (hx : p.tables.exec = Jvm.exec) (hb : c.code = cc) (hts : ∀ w ∈ wsL_law, w.before args s = true) (hown : s.vm.findClass RX0 = some m.cls) (hK : va_K D clW (tyW cy) s) (hP : va_P D clW ws H) (hD : va_D A ws) (hS : va_S A H0 H locs) (q0 : Nat) {fs : List Value} (he : ws[q0]? = some (a, .inr (0, fs))) {x : Int32} (hl : 7 < fs.length) (hdg : decode cc pc = .ok (.putfield 34, 3)) (kk : ∀ (H1 : Heap) (locs1 : List Loc), va_P D clW (ws.set q0 (a, .inr (0, fs.set 7 (.int x)))) H1 → va_D A (ws.set q0 (a, .inr (0, fs.set 7 (.int x)))) → va_S A H0 H1 locs1 → W p l e R s m args below meth c H1 locs1 cells slots Q (F0 m (pc + 3) ls rest)) : W p l e R s m args below meth c H locs cells slots Q (F0 m pc ls (.int x :: .ref a :: rest)) := va_put (own := RX0) (ref := RX0) (C := RX0) (T := TX0) (N := 8) (ci := 0) (ty := .int) hx hb hts inlX0 tyX0 tyX0_ok nmX0 hown hK hP hD hS q0 he rfl 7 (by decide) (hts _ wm_59) (fun _ h => h) rfl (by decide +kernel) rfl rfl hl hdg kk
theorem cw_X0_59 {R : Room} {s : State} {args : Array Value} {rm : Room} {mc ms : Nat} (hts : ∀ w ∈ wsL_law, w.before args s = true) (hrc : rm.cells = mc) (hrs : rm.slots = ms) (hR : rm.frames + 1 ≤ R.frames ∧ 8 + (1 + 11) + rm.locals ≤ R.locals) : CallW R s args RX0 RX1 59 yX1_forget cX1_forget 1 none (Cond.code yX1_forget cX1_forget 1 none :: wsL_law) rm mc ms 0 := cwV 0 hts (gUV wm_378 wm_379 wm_380 wm_27 wm_381) rfl hrc hrs (by decide +kernel) hR
theorem cw_X0_64 {R : Room} {s : State} {args : Array Value} {rm : Room} {mc ms : Nat} (hts : ∀ w ∈ wsL_law, w.before args s = true) (hrc : rm.cells = mc) (hrs : rm.slots = ms) (hR : rm.frames + 1 ≤ R.frames ∧ 8 + (6 + 11) + rm.locals ≤ R.locals) : CallW R s args RX0 RX1 64 yX1_put cX1_put 6 none (Cond.code yX1_put cX1_put 6 none :: wsL_law) rm mc ms 4 := cwV 4 hts (gUV wm_387 wm_383 wm_384 wm_27 wm_385) rfl hrc hrs (by decide +kernel) hR
theorem cw_X0_72 {R : Room} {s : State} {args : Array Value} {rm : Room} {mc ms : Nat} (hts : ∀ w ∈ wsL_law, w.before args s = true) (hrc : rm.cells = mc) (hrs : rm.slots = ms) (hR : rm.frames + 1 ≤ R.frames ∧ 8 + (3 + 11) + rm.locals ≤ R.locals) : CallW R s args RX0 RX0 72 yX0_countKept cX0_countKept 3 (some .int) (Cond.code yX0_countKept cX0_countKept 3 (some .int) :: wsL_law) rm mc ms 0 := cwV 0 hts (gUV wm_273 wm_274 wm_275 wm_18 wm_276) rfl hrc hrs (by decide +kernel) hR
set_option maxHeartbeats 4000000 in
set_option maxRecDepth 100000 in
theorem c_X0_open (l : Launch) (D : va_G) (cy : Nat → ClassId) (ad : Nat → Nat) (I : AI) (S : AS) (sz : Nat) (sl : Int32) (v : Int32) (x : Int32) (y : Int32) (t : Int32) (k : Nat) (hk : I 2 = nI k) (hk9 : k < 180) : Met l yX0_open (Cond.code yX0_open cX0_open 6 none :: wsL_law) ({ frames := 0, cells := 0, slots := 0, locals := 0 }) (va_Pc [.ref (ad 7), .int sl, .int v, .int x, .int y, .int t] (wrB D cy (wF cy ad I S) sz)) (va_Qv (S := Unit) (fun u => True) (fun u t9 => va_P D clW (wF cy ad (va_up I 2 (nI (k + 1))) (va_up (va_up (va_up (va_up (va_up (va_up S 8 (upd (S 8) k sl)) 9 (upd (S 9) k v)) 10 (upd (S 10) k x)) 11 (upd (S 11) k y)) 12 (upd (S 12) k t)) 13 (upd (S 13) k (-1)))) t9.heap) (va_A (wF cy ad I S) sz)) 0 0 (va_A (wF cy ad I S) sz) := by
  refine enter (cc := cX0_open) (by decide) (Nat.le_of_ble_eq_true rfl) ?_
  intro p e s m below meth c hx hb hr hml hown hts hlocks hin hv Q hQ ls hl
  obtain ⟨hsz, hP, hK, hD0⟩ := hv
  subst hsz
  have hD := hD0.self (sz := s.heap.size)
  generalize hAe : va_A (wF cy ad I S) s.heap.size = A at hD hQ ⊢
  have hA : ∀ q : Nat, s.heap.size ≤ q → A q := fun q h => by rw [← hAe]; exact Or.inr h
  have hS : va_S A s.heap s.heap [] := va_S.rf
  suffices K_ : ∀ (H : Heap) (locs : List Loc), va_P D clW (wF cy ad I S) H → va_S A s.heap H locs → W p l e ({ frames := 0, cells := 0, slots := 0, locals := 0 }) s m ([.ref (ad 7), .int sl, .int v, .int x, .int y, .int t] : List Value).toArray below meth c H locs 0 0 Q (F0 m 0 ls []) from K_ _ _ hP hS
  clear hP hS
  intro H locs hP hS
  have hown : s.vm.findClass RX0 = some m.cls := hown
  have hl : lv_has ls 6 [(0, .ref (ad 7)), (1, .int sl), (2, .int v), (3, .int x), (4, .int y), (5, .int t)] := hl
  refine lv_aload_n hx hb dX0_open_0 rfl (lv_at hl 0 rfl) ?_
  refine gf_X0_30 hx hb hts hown hK hP 0 rfl (v := .int (I 2)) rfl dX0_open_1 ?_
  refine top_eq hk ?_
  refine lv_sipush (v := 180) hx hb dX0_open_4 (by decide) ?_
  refine lv_icmp_ge (tgt := 82) hx hb dX0_open_7 (by decide) (fun c => absurd c (nd_nle (a := 180) (b := k) (by omega) (by omega) (by omega))) (fun _ => ?_)
  refine lv_aload_n hx hb dX0_open_10 rfl (lv_at hl 0 rfl) ?_
  refine gf_X0_9 hx hb hts hown hK hP 0 rfl (v := .ref (ad 8)) rfl dX0_open_11 ?_
  refine lv_aload_n hx hb dX0_open_14 rfl (lv_at hl 0 rfl) ?_
  refine gf_X0_30 hx hb hts hown hK hP 0 rfl (v := .int (I 2)) rfl dX0_open_15 ?_
  refine top_eq hk ?_
  refine lv_iload_n hx hb dX0_open_18 rfl (lv_at hl 1 rfl) ?_
  refine ast_I hx hb hK hP hD hS 1 rfl (i := k) (x := sl) (by omega) (by decide) dX0_open_19 (fun H locs hP hD hS => ?_)
  have hP : va_P D clW (wF cy ad I (va_up S 8 (upd (S 8) k sl))) H := hP
  have hD : va_D A (wF cy ad I (va_up S 8 (upd (S 8) k sl))) := hD
  refine lv_aload_n hx hb dX0_open_20 rfl (lv_at hl 0 rfl) ?_
  refine gf_X0_15 hx hb hts hown hK hP 0 rfl (v := .ref (ad 9)) rfl dX0_open_21 ?_
  refine lv_aload_n hx hb dX0_open_24 rfl (lv_at hl 0 rfl) ?_
  refine gf_X0_30 hx hb hts hown hK hP 0 rfl (v := .int (I 2)) rfl dX0_open_25 ?_
  refine top_eq hk ?_
  refine lv_iload_n hx hb dX0_open_28 rfl (lv_at hl 2 rfl) ?_
  refine ast_I hx hb hK hP hD hS 2 rfl (i := k) (x := v) (by omega) (by decide) dX0_open_29 (fun H locs hP hD hS => ?_)
  have hP : va_P D clW (wF cy ad I (va_up (va_up S 8 (upd (S 8) k sl)) 9 (upd (S 9) k v))) H := hP
  have hD : va_D A (wF cy ad I (va_up (va_up S 8 (upd (S 8) k sl)) 9 (upd (S 9) k v))) := hD
  refine lv_aload_n hx hb dX0_open_30 rfl (lv_at hl 0 rfl) ?_
  refine gf_X0_18 hx hb hts hown hK hP 0 rfl (v := .ref (ad 10)) rfl dX0_open_31 ?_
  refine lv_aload_n hx hb dX0_open_34 rfl (lv_at hl 0 rfl) ?_
  refine gf_X0_30 hx hb hts hown hK hP 0 rfl (v := .int (I 2)) rfl dX0_open_35 ?_
  refine top_eq hk ?_
  refine lv_iload_n hx hb dX0_open_38 rfl (lv_at hl 3 rfl) ?_
  refine ast_I hx hb hK hP hD hS 3 rfl (i := k) (x := x) (by omega) (by decide) dX0_open_39 (fun H locs hP hD hS => ?_)
  have hP : va_P D clW (wF cy ad I (va_up (va_up (va_up S 8 (upd (S 8) k sl)) 9 (upd (S 9) k v)) 10 (upd (S 10) k x))) H := hP
  have hD : va_D A (wF cy ad I (va_up (va_up (va_up S 8 (upd (S 8) k sl)) 9 (upd (S 9) k v)) 10 (upd (S 10) k x))) := hD
  refine lv_aload_n hx hb dX0_open_40 rfl (lv_at hl 0 rfl) ?_
  refine gf_X0_21 hx hb hts hown hK hP 0 rfl (v := .ref (ad 11)) rfl dX0_open_41 ?_
  refine lv_aload_n hx hb dX0_open_44 rfl (lv_at hl 0 rfl) ?_
  refine gf_X0_30 hx hb hts hown hK hP 0 rfl (v := .int (I 2)) rfl dX0_open_45 ?_
  refine top_eq hk ?_
  refine lv_iload hx hb dX0_open_48 (lv_at hl 4 rfl) ?_
  refine ast_I hx hb hK hP hD hS 4 rfl (i := k) (x := y) (by omega) (by decide) dX0_open_50 (fun H locs hP hD hS => ?_)
  have hP : va_P D clW (wF cy ad I (va_up (va_up (va_up (va_up S 8 (upd (S 8) k sl)) 9 (upd (S 9) k v)) 10 (upd (S 10) k x)) 11 (upd (S 11) k y))) H := hP
  have hD : va_D A (wF cy ad I (va_up (va_up (va_up (va_up S 8 (upd (S 8) k sl)) 9 (upd (S 9) k v)) 10 (upd (S 10) k x)) 11 (upd (S 11) k y))) := hD
  refine lv_aload_n hx hb dX0_open_51 rfl (lv_at hl 0 rfl) ?_
  refine gf_X0_24 hx hb hts hown hK hP 0 rfl (v := .ref (ad 12)) rfl dX0_open_52 ?_
  refine lv_aload_n hx hb dX0_open_55 rfl (lv_at hl 0 rfl) ?_
  refine gf_X0_30 hx hb hts hown hK hP 0 rfl (v := .int (I 2)) rfl dX0_open_56 ?_
  refine top_eq hk ?_
  refine lv_iload hx hb dX0_open_59 (lv_at hl 5 rfl) ?_
  refine ast_I hx hb hK hP hD hS 5 rfl (i := k) (x := t) (by omega) (by decide) dX0_open_61 (fun H locs hP hD hS => ?_)
  have hP : va_P D clW (wF cy ad I (va_up (va_up (va_up (va_up (va_up S 8 (upd (S 8) k sl)) 9 (upd (S 9) k v)) 10 (upd (S 10) k x)) 11 (upd (S 11) k y)) 12 (upd (S 12) k t))) H := hP
  have hD : va_D A (wF cy ad I (va_up (va_up (va_up (va_up (va_up S 8 (upd (S 8) k sl)) 9 (upd (S 9) k v)) 10 (upd (S 10) k x)) 11 (upd (S 11) k y)) 12 (upd (S 12) k t))) := hD
  refine lv_aload_n hx hb dX0_open_62 rfl (lv_at hl 0 rfl) ?_
  refine gf_X0_27 hx hb hts hown hK hP 0 rfl (v := .ref (ad 13)) rfl dX0_open_63 ?_
  refine lv_aload_n hx hb dX0_open_66 rfl (lv_at hl 0 rfl) ?_
  refine gf_X0_30 hx hb hts hown hK hP 0 rfl (v := .int (I 2)) rfl dX0_open_67 ?_
  refine top_eq hk ?_
  refine lv_iconst (v := (-1)) hx hb dX0_open_70 (by decide) ?_
  refine ast_I hx hb hK hP hD hS 6 rfl (i := k) (x := (-1)) (by omega) (by decide) dX0_open_71 (fun H locs hP hD hS => ?_)
  have hP : va_P D clW (wF cy ad I (va_up (va_up (va_up (va_up (va_up (va_up S 8 (upd (S 8) k sl)) 9 (upd (S 9) k v)) 10 (upd (S 10) k x)) 11 (upd (S 11) k y)) 12 (upd (S 12) k t)) 13 (upd (S 13) k (-1)))) H := hP
  have hD : va_D A (wF cy ad I (va_up (va_up (va_up (va_up (va_up (va_up S 8 (upd (S 8) k sl)) 9 (upd (S 9) k v)) 10 (upd (S 10) k x)) 11 (upd (S 11) k y)) 12 (upd (S 12) k t)) 13 (upd (S 13) k (-1)))) := hD
  refine lv_aload_n hx hb dX0_open_72 rfl (lv_at hl 0 rfl) ?_
  refine lv_dup hx hb dX0_open_73 rfl ?_
  refine gf_X0_30 hx hb hts hown hK hP 0 rfl (v := .int (I 2)) rfl dX0_open_74 ?_
  refine top_eq hk ?_
  refine lv_iconst (v := 1) hx hb dX0_open_77 (by decide) ?_
  refine lv_iadd hx hb dX0_open_78 ?_
  refine top_eq (y := nI (k + 1)) (nI_add k 1) ?_
  refine pf_X0_30 hx hb hts hown hK hP hD hS 0 rfl (Nat.le_of_ble_eq_true rfl) dX0_open_79 (fun H locs hP hD hS => ?_)
  have hP : va_P D clW (wF cy ad (va_up I 2 (nI (k + 1))) (va_up (va_up (va_up (va_up (va_up (va_up S 8 (upd (S 8) k sl)) 9 (upd (S 9) k v)) 10 (upd (S 10) k x)) 11 (upd (S 11) k y)) 12 (upd (S 12) k t)) 13 (upd (S 13) k (-1)))) H := hP
  have hD : va_D A (wF cy ad (va_up I 2 (nI (k + 1))) (va_up (va_up (va_up (va_up (va_up (va_up S 8 (upd (S 8) k sl)) 9 (upd (S 9) k v)) 10 (upd (S 10) k x)) 11 (upd (S 11) k y)) 12 (upd (S 12) k t)) 13 (upd (S 13) k (-1)))) := hD
  have hP : va_P D clW (wF cy ad (va_up I 2 (nI (k + 1))) (va_up (va_up (va_up (va_up (va_up (va_up S 8 (upd (S 8) k sl)) 9 (upd (S 9) k v)) 10 (upd (S 10) k x)) 11 (upd (S 11) k y)) 12 (upd (S 12) k t)) 13 (upd (S 13) k (-1)))) H := hP
  have hD : va_D A (wF cy ad (va_up I 2 (nI (k + 1))) (va_up (va_up (va_up (va_up (va_up (va_up S 8 (upd (S 8) k sl)) 9 (upd (S 9) k v)) 10 (upd (S 10) k x)) 11 (upd (S 11) k y)) 12 (upd (S 12) k t)) 13 (upd (S 13) k (-1)))) := hD.addr rfl
  exact wV_ret () hS hP hx hb hr hlocks dX0_open_82 (Nat.le_of_ble_eq_true rfl) (Nat.le_of_ble_eq_true rfl) hQ trivial
set_option maxHeartbeats 4000000 in
set_option maxRecDepth 100000 in
theorem c_X0_readInto_16 (l : Launch) (D : va_G) (cy : Nat → ClassId) (ad : Nat → Nat) (I : AI) (S : AS) (sz : Nat) (sl : Int32) (t : Int32) (k : Nat) (hk : I 2 = nI k) (hk8 : k ≤ 180) (fr : Nat → Nat) (to : Nat → Nat) (hfr : ∀ i : Nat, i < k → S 10 i = nI (fr i) ∧ S 11 i = nI (to i) ∧ fr i ≤ to i ∧ to i ≤ 100) : Met l yX0_readInto (Cond.code yX0_readInto cX0_readInto 5 none :: wsL_law) ({ frames := 3, cells := 0, slots := 0, locals := 58 }) (va_Pc [.ref (ad 7), .ref (ad 16), .int sl, .int t] (wrB D cy (wF cy ad I S ++ wK cy ad 16 S) sz)) (va_Qv (S := Unit) (fun u => True) (fun u t9 => va_P D clW (wF cy ad I (va_up (va_up S 17 (rdKN S sl t fr to (S 17) k)) 18 (rdVN S sl t fr to (S 18) k)) ++ wK cy ad 16 (va_up (va_up S 17 (rdKN S sl t fr to (S 17) k)) 18 (rdVN S sl t fr to (S 18) k))) t9.heap) (va_A (wF cy ad I S ++ wK cy ad 16 S) sz)) 0 0 (va_A (wF cy ad I S ++ wK cy ad 16 S) sz) := by
  refine enter (cc := cX0_readInto) (by decide) (Nat.le_of_ble_eq_true rfl) ?_
  intro p e s m below meth c hx hb hr hml hown hts hlocks hin hv Q hQ ls hl
  obtain ⟨hsz, hP, hK, hD0⟩ := hv
  subst hsz
  have hD := hD0.self (sz := s.heap.size)
  generalize hAe : va_A (wF cy ad I S ++ wK cy ad 16 S) s.heap.size = A at hD hQ ⊢
  have hA : ∀ q : Nat, s.heap.size ≤ q → A q := fun q h => by rw [← hAe]; exact Or.inr h
  have hS : va_S A s.heap s.heap [] := va_S.rf
  suffices K_ : ∀ (H : Heap) (locs : List Loc), va_P D clW (wF cy ad I S ++ wK cy ad 16 S) H → va_S A s.heap H locs → W p l e ({ frames := 3, cells := 0, slots := 0, locals := 58 }) s m ([.ref (ad 7), .ref (ad 16), .int sl, .int t] : List Value).toArray below meth c H locs 0 0 Q (F0 m 0 ls []) from K_ _ _ hP hS
  clear hP hS
  intro H locs hP hS
  have hown : s.vm.findClass RX0 = some m.cls := hown
  have hl : lv_has ls 5 [(0, .ref (ad 7)), (1, .ref (ad 16)), (2, .int sl), (3, .int t)] := hl
  refine lv_aload_n hx hb dX0_readInto_0 rfl (lv_at hl 1 rfl) ?_
  refine wV_call (va_runV (As := []) (rest := []) ⟨hx, hb, hml, hown, hts⟩ (c_X1_forget_16 l D cy ad S H.size) (cw_X0_59 hts rfl rfl ⟨Nat.le_of_ble_eq_true rfl, Nat.le_of_ble_eq_true rfl⟩) (preVW (ci := 1) (q0 := 0) hK (hP.sub [7, 8, 9] rfl) (hD.sub [7, 8, 9] (by decide) rfl) rfl rfl) rfl rfl hl.1 rfl (lv_room (Nat.le_of_ble_eq_true rfl)) dX0_readInto_1 ⟨Nat.le_of_ble_eq_true rfl, Nat.le_of_ble_eq_true rfl⟩) hP hD hS hA [7, 8, 9] rfl [.inl 0, .inl 1, .inl 2, .inl 3, .inl 4, .inl 5, .inl 6, .inr 0, .inr 1, .inr 2] (by decide) (fun u => (wF cy ad I (va_up (va_up S 17 (putF (S 17) 0 100 0)) 18 (putF (S 18) 0 100 0)) ++ wK cy ad 16 (va_up (va_up S 17 (putF (S 17) 0 100 0)) 18 (putF (S 18) 0 100 0)))) (fun _ => rfl) (fun _ => rfl) (fun u1_1 H locs q1_1 hP hD hS hkp => ?_)
  have hP : va_P D clW (wF cy ad I (va_up (va_up S 17 (putF (S 17) 0 100 0)) 18 (putF (S 18) 0 100 0)) ++ wK cy ad 16 (va_up (va_up S 17 (putF (S 17) 0 100 0)) 18 (putF (S 18) 0 100 0))) H := hP
  have hD : va_D A (wF cy ad I (va_up (va_up S 17 (putF (S 17) 0 100 0)) 18 (putF (S 18) 0 100 0)) ++ wK cy ad 16 (va_up (va_up S 17 (putF (S 17) 0 100 0)) 18 (putF (S 18) 0 100 0))) := hD
  refine lv_iconst (v := 0) hx hb dX0_readInto_4 (by decide) ?_
  refine lv_istore (lv' := [(4, .int 0), (0, .ref (ad 7)), (1, .ref (ad 16)), (2, .int sl), (3, .int t)]) hx hb dX0_readInto_5 hl (by decide) rfl (fun ls hl => ?_)
  have L7 : ∀ (n_7 i : Nat), i ≤ k → k + 1 ≤ i + n_7 → ∀ (H : Heap) (locs : List Loc), va_P D clW (wF cy ad I (va_up (va_up S 17 (rdKN S sl t fr to (S 17) i)) 18 (rdVN S sl t fr to (S 18) i)) ++ wK cy ad 16 (va_up (va_up S 17 (rdKN S sl t fr to (S 17) i)) 18 (rdVN S sl t fr to (S 18) i))) H → va_D A (wF cy ad I (va_up (va_up S 17 (rdKN S sl t fr to (S 17) i)) 18 (rdVN S sl t fr to (S 18) i)) ++ wK cy ad 16 (va_up (va_up S 17 (rdKN S sl t fr to (S 17) i)) 18 (rdVN S sl t fr to (S 18) i))) → va_S A s.heap H locs → ∀ (ls : Array Slot), lv_has ls 5 [(4, .int (nI i)), (0, .ref (ad 7)), (1, .ref (ad 16)), (2, .int sl), (3, .int t)] → W p l e { frames := 3, cells := 0, slots := 0, locals := 58 } s m ([.ref (ad 7), .ref (ad 16), .int sl, .int t] : List Value).toArray below meth c H locs 0 0 Q (F0 m 7 ls []) := by
    clear hl
    intro n_7
    induction n_7 with
    | zero => intro i  hle_7 hn_7; exact absurd hn_7 (by omega)
    | succ n_7 ih7 =>
      intro i  hle_7 hn_7  H locs hP hD hS ls hl
      refine lv_iload hx hb dX0_readInto_7 (lv_at hl 0 rfl) ?_
      refine lv_aload_n hx hb dX0_readInto_9 rfl (lv_at hl 1 rfl) ?_
      refine gf_X0_30 hx hb hts hown hK hP 0 rfl (v := .int (I 2)) rfl dX0_readInto_10 ?_
      refine top_eq hk ?_
      refine lv_icmp_ge (tgt := 69) hx hb dX0_readInto_13 (by decide) (fun c13_2 => ?_) (fun c13_2 => ?_)
      · have f13_2 : k ≤ i := nt_le (a := k) (b := i) (by omega) (by omega) c13_2
        have e_3 : (rdKN S sl t fr to (S 17) i) = (rdKN S sl t fr to (S 17) k) := (by rw [show i = k by omega])
        have e_4 : (rdVN S sl t fr to (S 18) i) = (rdVN S sl t fr to (S 18) k) := (by rw [show i = k by omega])
        have hP : va_P D clW (wF cy ad I (va_up (va_up S 17 (rdKN S sl t fr to (S 17) k)) 18 (rdVN S sl t fr to (S 18) k)) ++ wK cy ad 16 (va_up (va_up S 17 (rdKN S sl t fr to (S 17) k)) 18 (rdVN S sl t fr to (S 18) k))) H := by rw [← e_3, ← e_4]; exact hP
        have hD : va_D A (wF cy ad I (va_up (va_up S 17 (rdKN S sl t fr to (S 17) k)) 18 (rdVN S sl t fr to (S 18) k)) ++ wK cy ad 16 (va_up (va_up S 17 (rdKN S sl t fr to (S 17) k)) 18 (rdVN S sl t fr to (S 18) k))) := hD.addr rfl
        exact wV_ret () hS hP hx hb hr hlocks dX0_readInto_69 (Nat.le_of_ble_eq_true rfl) (Nat.le_of_ble_eq_true rfl) hQ trivial
      · have fi : i < k := nt_nle (a := k) (b := i) (by omega) (by omega) c13_2
        have hfi := hfr i fi
        refine lv_aload_n hx hb dX0_readInto_16 rfl (lv_at hl 1 rfl) ?_
        refine gf_X0_9 hx hb hts hown hK hP 0 rfl (v := .ref (ad 8)) rfl dX0_readInto_17 ?_
        refine lv_iload hx hb dX0_readInto_20 (lv_at hl 0 rfl) ?_
        refine ald_I (f := (S 8)) hx hb hK hP 1 rfl (i := i) (by omega) (by decide) dX0_readInto_22 ?_
        refine lv_iload_n hx hb dX0_readInto_23 rfl (lv_at hl 3 rfl) ?_
        refine lv_icmp_ne (tgt := 63) hx hb dX0_readInto_24 (by decide) (fun c24_5 => ?_) (fun c24_5 => ?_)
        · refine lv_iinc (v := (nI (i + 1))) (lv' := [(4, .int (nI (i + 1))), (0, .ref (ad 7)), (1, .ref (ad 16)), (2, .int sl), (3, .int t)]) hx hb dX0_readInto_63 hl (k := 0) rfl (nI_1 i) (by decide) rfl (fun ls hl => ?_)
          refine lv_goto (tgt := 7) hx hb dX0_readInto_66 (by decide) ?_
          have e_6 : (rdKN S sl t fr to (S 17) i) = (rdKN S sl t fr to (S 17) (i + 1)) := (if_neg (fun h => by first | exact c24_5 h.1 | exact h.1 c24_5)).symm
          have e_7 : (rdVN S sl t fr to (S 18) i) = (rdVN S sl t fr to (S 18) (i + 1)) := (if_neg (fun h => by first | exact c24_5 h.1 | exact h.1 c24_5)).symm
          have hP : va_P D clW (wF cy ad I (va_up (va_up S 17 (rdKN S sl t fr to (S 17) (i + 1))) 18 (rdVN S sl t fr to (S 18) (i + 1))) ++ wK cy ad 16 (va_up (va_up S 17 (rdKN S sl t fr to (S 17) (i + 1))) 18 (rdVN S sl t fr to (S 18) (i + 1)))) H := by rw [← e_6, ← e_7]; exact hP
          have hD : va_D A (wF cy ad I (va_up (va_up S 17 (rdKN S sl t fr to (S 17) (i + 1))) 18 (rdVN S sl t fr to (S 18) (i + 1))) ++ wK cy ad 16 (va_up (va_up S 17 (rdKN S sl t fr to (S 17) (i + 1))) 18 (rdVN S sl t fr to (S 18) (i + 1)))) := hD.addr rfl
          exact ih7 (i + 1) (by omega) (by omega) _ _ hP hD hS ls (lv_sub hl [0, 1, 2, 3, 4] rfl)
        · refine lv_aload_n hx hb dX0_readInto_27 rfl (lv_at hl 1 rfl) ?_
          refine lv_iload hx hb dX0_readInto_28 (lv_at hl 0 rfl) ?_
          refine lv_iload_n hx hb dX0_readInto_30 rfl (lv_at hl 4 rfl) ?_
          refine rZ_call (P := liveP ((S 12) i) ((S 13) i) t) (va_runV (As := [.int (nI i), .int t]) (rest := []) ⟨hx, hb, hml, hown, hts⟩ (c_X0_isLive l D cy ad I (va_up (va_up S 17 (rdKN S sl t fr to (S 17) i)) 18 (rdVN S sl t fr to (S 18) i)) i t (by omega)) (cw_X0_55 hts rfl rfl ⟨Nat.le_of_ble_eq_true rfl, Nat.le_of_ble_eq_true rfl⟩) (preVR (ci := 0) (q0 := 0) hK (hP.sub [0, 1, 2, 3, 4, 5, 6] rfl) rfl rfl) rfl rfl hl.1 rfl (lv_room (Nat.le_of_ble_eq_true rfl)) dX0_readInto_31 ⟨Nat.le_of_ble_eq_true rfl, Nat.le_of_ble_eq_true rfl⟩) (fun b31_8 => ?_) (fun b31_8 => ?_)
          · refine lv_if_eq (tgt := 63) hx hb dX0_readInto_34 (by decide) (fun c => absurd c (by decide)) (fun _ => ?_)
            refine lv_aload_n hx hb dX0_readInto_37 rfl (lv_at hl 2 rfl) ?_
            refine lv_aload_n hx hb dX0_readInto_38 rfl (lv_at hl 1 rfl) ?_
            refine gf_X0_18 hx hb hts hown hK hP 0 rfl (v := .ref (ad 10)) rfl dX0_readInto_39 ?_
            refine lv_iload hx hb dX0_readInto_42 (lv_at hl 0 rfl) ?_
            refine ald_I (f := (S 10)) hx hb hK hP 3 rfl (i := i) (by omega) (by decide) dX0_readInto_44 ?_
            refine top_eq (y := nI (fr i)) hfi.1 ?_
            refine lv_aload_n hx hb dX0_readInto_45 rfl (lv_at hl 1 rfl) ?_
            refine gf_X0_21 hx hb hts hown hK hP 0 rfl (v := .ref (ad 11)) rfl dX0_readInto_46 ?_
            refine lv_iload hx hb dX0_readInto_49 (lv_at hl 0 rfl) ?_
            refine ald_I (f := (S 11)) hx hb hK hP 4 rfl (i := i) (by omega) (by decide) dX0_readInto_51 ?_
            refine top_eq (y := nI (to i)) hfi.2.1 ?_
            refine lv_iconst (v := 1) hx hb dX0_readInto_52 (by decide) ?_
            refine lv_aload_n hx hb dX0_readInto_53 rfl (lv_at hl 1 rfl) ?_
            refine gf_X0_15 hx hb hts hown hK hP 0 rfl (v := .ref (ad 9)) rfl dX0_readInto_54 ?_
            refine lv_iload hx hb dX0_readInto_57 (lv_at hl 0 rfl) ?_
            refine ald_I (f := (S 9)) hx hb hK hP 2 rfl (i := i) (by omega) (by decide) dX0_readInto_59 ?_
            refine wV_call (va_runV (As := [.int (nI (fr i)), .int (nI (to i)), .int 1, .int ((S 9) i)]) (rest := []) ⟨hx, hb, hml, hown, hts⟩ (c_X1_put_16 l D cy ad (va_up (va_up S 17 (rdKN S sl t fr to (S 17) i)) 18 (rdVN S sl t fr to (S 18) i)) H.size (fr i) (to i) 1 ((S 9) i) hfi.2.2.1 hfi.2.2.2 rfl) (cw_X0_64 hts rfl rfl ⟨Nat.le_of_ble_eq_true rfl, Nat.le_of_ble_eq_true rfl⟩) (preVW (ci := 1) (q0 := 0) hK (hP.sub [7, 8, 9] rfl) (hD.sub [7, 8, 9] (by decide) rfl) rfl rfl) rfl rfl hl.1 rfl (lv_room (Nat.le_of_ble_eq_true rfl)) dX0_readInto_60 ⟨Nat.le_of_ble_eq_true rfl, Nat.le_of_ble_eq_true rfl⟩) hP hD hS hA [7, 8, 9] rfl [.inl 0, .inl 1, .inl 2, .inl 3, .inl 4, .inl 5, .inl 6, .inr 0, .inr 1, .inr 2] (by decide) (fun u => (wF cy ad I (va_up (va_up S 17 (putF (rdKN S sl t fr to (S 17) i) (fr i) (to i) 1)) 18 (putF (rdVN S sl t fr to (S 18) i) (fr i) (to i) ((S 9) i))) ++ wK cy ad 16 (va_up (va_up S 17 (putF (rdKN S sl t fr to (S 17) i) (fr i) (to i) 1)) 18 (putF (rdVN S sl t fr to (S 18) i) (fr i) (to i) ((S 9) i))))) (fun _ => rfl) (fun _ => rfl) (fun u60_9 H locs q60_9 hP hD hS hkp => ?_)
            have hP : va_P D clW (wF cy ad I (va_up (va_up S 17 (putF (rdKN S sl t fr to (S 17) i) (fr i) (to i) 1)) 18 (putF (rdVN S sl t fr to (S 18) i) (fr i) (to i) ((S 9) i))) ++ wK cy ad 16 (va_up (va_up S 17 (putF (rdKN S sl t fr to (S 17) i) (fr i) (to i) 1)) 18 (putF (rdVN S sl t fr to (S 18) i) (fr i) (to i) ((S 9) i)))) H := hP
            have hD : va_D A (wF cy ad I (va_up (va_up S 17 (putF (rdKN S sl t fr to (S 17) i) (fr i) (to i) 1)) 18 (putF (rdVN S sl t fr to (S 18) i) (fr i) (to i) ((S 9) i))) ++ wK cy ad 16 (va_up (va_up S 17 (putF (rdKN S sl t fr to (S 17) i) (fr i) (to i) 1)) 18 (putF (rdVN S sl t fr to (S 18) i) (fr i) (to i) ((S 9) i)))) := hD
            refine lv_iinc (v := (nI (i + 1))) (lv' := [(4, .int (nI (i + 1))), (0, .ref (ad 7)), (1, .ref (ad 16)), (2, .int sl), (3, .int t)]) hx hb dX0_readInto_63 hl (k := 0) rfl (nI_1 i) (by decide) rfl (fun ls hl => ?_)
            refine lv_goto (tgt := 7) hx hb dX0_readInto_66 (by decide) ?_
            have e_10 : (putF (rdKN S sl t fr to (S 17) i) (fr i) (to i) 1) = (rdKN S sl t fr to (S 17) (i + 1)) := (if_pos ⟨c24_5, b31_8⟩).symm
            have e_11 : (putF (rdVN S sl t fr to (S 18) i) (fr i) (to i) ((S 9) i)) = (rdVN S sl t fr to (S 18) (i + 1)) := (if_pos ⟨c24_5, b31_8⟩).symm
            have hP : va_P D clW (wF cy ad I (va_up (va_up S 17 (rdKN S sl t fr to (S 17) (i + 1))) 18 (rdVN S sl t fr to (S 18) (i + 1))) ++ wK cy ad 16 (va_up (va_up S 17 (rdKN S sl t fr to (S 17) (i + 1))) 18 (rdVN S sl t fr to (S 18) (i + 1)))) H := by rw [← e_10, ← e_11]; exact hP
            have hD : va_D A (wF cy ad I (va_up (va_up S 17 (rdKN S sl t fr to (S 17) (i + 1))) 18 (rdVN S sl t fr to (S 18) (i + 1))) ++ wK cy ad 16 (va_up (va_up S 17 (rdKN S sl t fr to (S 17) (i + 1))) 18 (rdVN S sl t fr to (S 18) (i + 1)))) := hD.addr rfl
            exact ih7 (i + 1) (by omega) (by omega) _ _ hP hD hS ls (lv_sub hl [0, 1, 2, 3, 4] rfl)
          · refine lv_if_eq (tgt := 63) hx hb dX0_readInto_34 (by decide) (fun _ => ?_) (fun c => absurd (by decide) c)
            refine lv_iinc (v := (nI (i + 1))) (lv' := [(4, .int (nI (i + 1))), (0, .ref (ad 7)), (1, .ref (ad 16)), (2, .int sl), (3, .int t)]) hx hb dX0_readInto_63 hl (k := 0) rfl (nI_1 i) (by decide) rfl (fun ls hl => ?_)
            refine lv_goto (tgt := 7) hx hb dX0_readInto_66 (by decide) ?_
            have e_12 : (rdKN S sl t fr to (S 17) i) = (rdKN S sl t fr to (S 17) (i + 1)) := (if_neg (fun h => by first | exact b31_8 h.2 | exact h.2 b31_8)).symm
            have e_13 : (rdVN S sl t fr to (S 18) i) = (rdVN S sl t fr to (S 18) (i + 1)) := (if_neg (fun h => by first | exact b31_8 h.2 | exact h.2 b31_8)).symm
            have hP : va_P D clW (wF cy ad I (va_up (va_up S 17 (rdKN S sl t fr to (S 17) (i + 1))) 18 (rdVN S sl t fr to (S 18) (i + 1))) ++ wK cy ad 16 (va_up (va_up S 17 (rdKN S sl t fr to (S 17) (i + 1))) 18 (rdVN S sl t fr to (S 18) (i + 1)))) H := by rw [← e_12, ← e_13]; exact hP
            have hD : va_D A (wF cy ad I (va_up (va_up S 17 (rdKN S sl t fr to (S 17) (i + 1))) 18 (rdVN S sl t fr to (S 18) (i + 1))) ++ wK cy ad 16 (va_up (va_up S 17 (rdKN S sl t fr to (S 17) (i + 1))) 18 (rdVN S sl t fr to (S 18) (i + 1)))) := hD.addr rfl
            exact ih7 (i + 1) (by omega) (by omega) _ _ hP hD hS ls (lv_sub hl [0, 1, 2, 3, 4] rfl)
  have e_14 : (putF (S 17) 0 100 0) = (rdKN S sl t fr to (S 17) 0) := rfl
  have e_15 : (putF (S 18) 0 100 0) = (rdVN S sl t fr to (S 18) 0) := rfl
  have hP : va_P D clW (wF cy ad I (va_up (va_up S 17 (rdKN S sl t fr to (S 17) 0)) 18 (rdVN S sl t fr to (S 18) 0)) ++ wK cy ad 16 (va_up (va_up S 17 (rdKN S sl t fr to (S 17) 0)) 18 (rdVN S sl t fr to (S 18) 0))) H := by rw [← e_14, ← e_15]; exact hP
  have hD : va_D A (wF cy ad I (va_up (va_up S 17 (rdKN S sl t fr to (S 17) 0)) 18 (rdVN S sl t fr to (S 18) 0)) ++ wK cy ad 16 (va_up (va_up S 17 (rdKN S sl t fr to (S 17) 0)) 18 (rdVN S sl t fr to (S 18) 0))) := hD.addr rfl
  exact L7 (k + 1) 0 (by omega) (by omega) _ _ hP hD hS ls (lv_sub hl [0, 1, 2, 3, 4] rfl)
set_option maxHeartbeats 4000000 in
set_option maxRecDepth 100000 in
theorem c_X0_readInto_19 (l : Launch) (D : va_G) (cy : Nat → ClassId) (ad : Nat → Nat) (I : AI) (S : AS) (sz : Nat) (sl : Int32) (t : Int32) (k : Nat) (hk : I 2 = nI k) (hk8 : k ≤ 180) (fr : Nat → Nat) (to : Nat → Nat) (hfr : ∀ i : Nat, i < k → S 10 i = nI (fr i) ∧ S 11 i = nI (to i) ∧ fr i ≤ to i ∧ to i ≤ 100) : Met l yX0_readInto (Cond.code yX0_readInto cX0_readInto 5 none :: wsL_law) ({ frames := 3, cells := 0, slots := 0, locals := 58 }) (va_Pc [.ref (ad 7), .ref (ad 19), .int sl, .int t] (wrB D cy (wF cy ad I S ++ wK cy ad 19 S) sz)) (va_Qv (S := Unit) (fun u => True) (fun u t9 => va_P D clW (wF cy ad I (va_up (va_up S 20 (rdKN S sl t fr to (S 20) k)) 21 (rdVN S sl t fr to (S 21) k)) ++ wK cy ad 19 (va_up (va_up S 20 (rdKN S sl t fr to (S 20) k)) 21 (rdVN S sl t fr to (S 21) k))) t9.heap) (va_A (wF cy ad I S ++ wK cy ad 19 S) sz)) 0 0 (va_A (wF cy ad I S ++ wK cy ad 19 S) sz) := by
  refine enter (cc := cX0_readInto) (by decide) (Nat.le_of_ble_eq_true rfl) ?_
  intro p e s m below meth c hx hb hr hml hown hts hlocks hin hv Q hQ ls hl
  obtain ⟨hsz, hP, hK, hD0⟩ := hv
  subst hsz
  have hD := hD0.self (sz := s.heap.size)
  generalize hAe : va_A (wF cy ad I S ++ wK cy ad 19 S) s.heap.size = A at hD hQ ⊢
  have hA : ∀ q : Nat, s.heap.size ≤ q → A q := fun q h => by rw [← hAe]; exact Or.inr h
  have hS : va_S A s.heap s.heap [] := va_S.rf
  suffices K_ : ∀ (H : Heap) (locs : List Loc), va_P D clW (wF cy ad I S ++ wK cy ad 19 S) H → va_S A s.heap H locs → W p l e ({ frames := 3, cells := 0, slots := 0, locals := 58 }) s m ([.ref (ad 7), .ref (ad 19), .int sl, .int t] : List Value).toArray below meth c H locs 0 0 Q (F0 m 0 ls []) from K_ _ _ hP hS
  clear hP hS
  intro H locs hP hS
  have hown : s.vm.findClass RX0 = some m.cls := hown
  have hl : lv_has ls 5 [(0, .ref (ad 7)), (1, .ref (ad 19)), (2, .int sl), (3, .int t)] := hl
  refine lv_aload_n hx hb dX0_readInto_0 rfl (lv_at hl 1 rfl) ?_
  refine wV_call (va_runV (As := []) (rest := []) ⟨hx, hb, hml, hown, hts⟩ (c_X1_forget_19 l D cy ad S H.size) (cw_X0_59 hts rfl rfl ⟨Nat.le_of_ble_eq_true rfl, Nat.le_of_ble_eq_true rfl⟩) (preVW (ci := 1) (q0 := 0) hK (hP.sub [7, 8, 9] rfl) (hD.sub [7, 8, 9] (by decide) rfl) rfl rfl) rfl rfl hl.1 rfl (lv_room (Nat.le_of_ble_eq_true rfl)) dX0_readInto_1 ⟨Nat.le_of_ble_eq_true rfl, Nat.le_of_ble_eq_true rfl⟩) hP hD hS hA [7, 8, 9] rfl [.inl 0, .inl 1, .inl 2, .inl 3, .inl 4, .inl 5, .inl 6, .inr 0, .inr 1, .inr 2] (by decide) (fun u => (wF cy ad I (va_up (va_up S 20 (putF (S 20) 0 100 0)) 21 (putF (S 21) 0 100 0)) ++ wK cy ad 19 (va_up (va_up S 20 (putF (S 20) 0 100 0)) 21 (putF (S 21) 0 100 0)))) (fun _ => rfl) (fun _ => rfl) (fun u1_1 H locs q1_1 hP hD hS hkp => ?_)
  have hP : va_P D clW (wF cy ad I (va_up (va_up S 20 (putF (S 20) 0 100 0)) 21 (putF (S 21) 0 100 0)) ++ wK cy ad 19 (va_up (va_up S 20 (putF (S 20) 0 100 0)) 21 (putF (S 21) 0 100 0))) H := hP
  have hD : va_D A (wF cy ad I (va_up (va_up S 20 (putF (S 20) 0 100 0)) 21 (putF (S 21) 0 100 0)) ++ wK cy ad 19 (va_up (va_up S 20 (putF (S 20) 0 100 0)) 21 (putF (S 21) 0 100 0))) := hD
  refine lv_iconst (v := 0) hx hb dX0_readInto_4 (by decide) ?_
  refine lv_istore (lv' := [(4, .int 0), (0, .ref (ad 7)), (1, .ref (ad 19)), (2, .int sl), (3, .int t)]) hx hb dX0_readInto_5 hl (by decide) rfl (fun ls hl => ?_)
  have L7 : ∀ (n_7 i : Nat), i ≤ k → k + 1 ≤ i + n_7 → ∀ (H : Heap) (locs : List Loc), va_P D clW (wF cy ad I (va_up (va_up S 20 (rdKN S sl t fr to (S 20) i)) 21 (rdVN S sl t fr to (S 21) i)) ++ wK cy ad 19 (va_up (va_up S 20 (rdKN S sl t fr to (S 20) i)) 21 (rdVN S sl t fr to (S 21) i))) H → va_D A (wF cy ad I (va_up (va_up S 20 (rdKN S sl t fr to (S 20) i)) 21 (rdVN S sl t fr to (S 21) i)) ++ wK cy ad 19 (va_up (va_up S 20 (rdKN S sl t fr to (S 20) i)) 21 (rdVN S sl t fr to (S 21) i))) → va_S A s.heap H locs → ∀ (ls : Array Slot), lv_has ls 5 [(4, .int (nI i)), (0, .ref (ad 7)), (1, .ref (ad 19)), (2, .int sl), (3, .int t)] → W p l e { frames := 3, cells := 0, slots := 0, locals := 58 } s m ([.ref (ad 7), .ref (ad 19), .int sl, .int t] : List Value).toArray below meth c H locs 0 0 Q (F0 m 7 ls []) := by
    clear hl
    intro n_7
    induction n_7 with
    | zero => intro i  hle_7 hn_7; exact absurd hn_7 (by omega)
    | succ n_7 ih7 =>
      intro i  hle_7 hn_7  H locs hP hD hS ls hl
      refine lv_iload hx hb dX0_readInto_7 (lv_at hl 0 rfl) ?_
      refine lv_aload_n hx hb dX0_readInto_9 rfl (lv_at hl 1 rfl) ?_
      refine gf_X0_30 hx hb hts hown hK hP 0 rfl (v := .int (I 2)) rfl dX0_readInto_10 ?_
      refine top_eq hk ?_
      refine lv_icmp_ge (tgt := 69) hx hb dX0_readInto_13 (by decide) (fun c13_2 => ?_) (fun c13_2 => ?_)
      · have f13_2 : k ≤ i := nt_le (a := k) (b := i) (by omega) (by omega) c13_2
        have e_3 : (rdKN S sl t fr to (S 20) i) = (rdKN S sl t fr to (S 20) k) := (by rw [show i = k by omega])
        have e_4 : (rdVN S sl t fr to (S 21) i) = (rdVN S sl t fr to (S 21) k) := (by rw [show i = k by omega])
        have hP : va_P D clW (wF cy ad I (va_up (va_up S 20 (rdKN S sl t fr to (S 20) k)) 21 (rdVN S sl t fr to (S 21) k)) ++ wK cy ad 19 (va_up (va_up S 20 (rdKN S sl t fr to (S 20) k)) 21 (rdVN S sl t fr to (S 21) k))) H := by rw [← e_3, ← e_4]; exact hP
        have hD : va_D A (wF cy ad I (va_up (va_up S 20 (rdKN S sl t fr to (S 20) k)) 21 (rdVN S sl t fr to (S 21) k)) ++ wK cy ad 19 (va_up (va_up S 20 (rdKN S sl t fr to (S 20) k)) 21 (rdVN S sl t fr to (S 21) k))) := hD.addr rfl
        exact wV_ret () hS hP hx hb hr hlocks dX0_readInto_69 (Nat.le_of_ble_eq_true rfl) (Nat.le_of_ble_eq_true rfl) hQ trivial
      · have fi : i < k := nt_nle (a := k) (b := i) (by omega) (by omega) c13_2
        have hfi := hfr i fi
        refine lv_aload_n hx hb dX0_readInto_16 rfl (lv_at hl 1 rfl) ?_
        refine gf_X0_9 hx hb hts hown hK hP 0 rfl (v := .ref (ad 8)) rfl dX0_readInto_17 ?_
        refine lv_iload hx hb dX0_readInto_20 (lv_at hl 0 rfl) ?_
        refine ald_I (f := (S 8)) hx hb hK hP 1 rfl (i := i) (by omega) (by decide) dX0_readInto_22 ?_
        refine lv_iload_n hx hb dX0_readInto_23 rfl (lv_at hl 3 rfl) ?_
        refine lv_icmp_ne (tgt := 63) hx hb dX0_readInto_24 (by decide) (fun c24_5 => ?_) (fun c24_5 => ?_)
        · refine lv_iinc (v := (nI (i + 1))) (lv' := [(4, .int (nI (i + 1))), (0, .ref (ad 7)), (1, .ref (ad 19)), (2, .int sl), (3, .int t)]) hx hb dX0_readInto_63 hl (k := 0) rfl (nI_1 i) (by decide) rfl (fun ls hl => ?_)
          refine lv_goto (tgt := 7) hx hb dX0_readInto_66 (by decide) ?_
          have e_6 : (rdKN S sl t fr to (S 20) i) = (rdKN S sl t fr to (S 20) (i + 1)) := (if_neg (fun h => by first | exact c24_5 h.1 | exact h.1 c24_5)).symm
          have e_7 : (rdVN S sl t fr to (S 21) i) = (rdVN S sl t fr to (S 21) (i + 1)) := (if_neg (fun h => by first | exact c24_5 h.1 | exact h.1 c24_5)).symm
          have hP : va_P D clW (wF cy ad I (va_up (va_up S 20 (rdKN S sl t fr to (S 20) (i + 1))) 21 (rdVN S sl t fr to (S 21) (i + 1))) ++ wK cy ad 19 (va_up (va_up S 20 (rdKN S sl t fr to (S 20) (i + 1))) 21 (rdVN S sl t fr to (S 21) (i + 1)))) H := by rw [← e_6, ← e_7]; exact hP
          have hD : va_D A (wF cy ad I (va_up (va_up S 20 (rdKN S sl t fr to (S 20) (i + 1))) 21 (rdVN S sl t fr to (S 21) (i + 1))) ++ wK cy ad 19 (va_up (va_up S 20 (rdKN S sl t fr to (S 20) (i + 1))) 21 (rdVN S sl t fr to (S 21) (i + 1)))) := hD.addr rfl
          exact ih7 (i + 1) (by omega) (by omega) _ _ hP hD hS ls (lv_sub hl [0, 1, 2, 3, 4] rfl)
        · refine lv_aload_n hx hb dX0_readInto_27 rfl (lv_at hl 1 rfl) ?_
          refine lv_iload hx hb dX0_readInto_28 (lv_at hl 0 rfl) ?_
          refine lv_iload_n hx hb dX0_readInto_30 rfl (lv_at hl 4 rfl) ?_
          refine rZ_call (P := liveP ((S 12) i) ((S 13) i) t) (va_runV (As := [.int (nI i), .int t]) (rest := []) ⟨hx, hb, hml, hown, hts⟩ (c_X0_isLive l D cy ad I (va_up (va_up S 20 (rdKN S sl t fr to (S 20) i)) 21 (rdVN S sl t fr to (S 21) i)) i t (by omega)) (cw_X0_55 hts rfl rfl ⟨Nat.le_of_ble_eq_true rfl, Nat.le_of_ble_eq_true rfl⟩) (preVR (ci := 0) (q0 := 0) hK (hP.sub [0, 1, 2, 3, 4, 5, 6] rfl) rfl rfl) rfl rfl hl.1 rfl (lv_room (Nat.le_of_ble_eq_true rfl)) dX0_readInto_31 ⟨Nat.le_of_ble_eq_true rfl, Nat.le_of_ble_eq_true rfl⟩) (fun b31_8 => ?_) (fun b31_8 => ?_)
          · refine lv_if_eq (tgt := 63) hx hb dX0_readInto_34 (by decide) (fun c => absurd c (by decide)) (fun _ => ?_)
            refine lv_aload_n hx hb dX0_readInto_37 rfl (lv_at hl 2 rfl) ?_
            refine lv_aload_n hx hb dX0_readInto_38 rfl (lv_at hl 1 rfl) ?_
            refine gf_X0_18 hx hb hts hown hK hP 0 rfl (v := .ref (ad 10)) rfl dX0_readInto_39 ?_
            refine lv_iload hx hb dX0_readInto_42 (lv_at hl 0 rfl) ?_
            refine ald_I (f := (S 10)) hx hb hK hP 3 rfl (i := i) (by omega) (by decide) dX0_readInto_44 ?_
            refine top_eq (y := nI (fr i)) hfi.1 ?_
            refine lv_aload_n hx hb dX0_readInto_45 rfl (lv_at hl 1 rfl) ?_
            refine gf_X0_21 hx hb hts hown hK hP 0 rfl (v := .ref (ad 11)) rfl dX0_readInto_46 ?_
            refine lv_iload hx hb dX0_readInto_49 (lv_at hl 0 rfl) ?_
            refine ald_I (f := (S 11)) hx hb hK hP 4 rfl (i := i) (by omega) (by decide) dX0_readInto_51 ?_
            refine top_eq (y := nI (to i)) hfi.2.1 ?_
            refine lv_iconst (v := 1) hx hb dX0_readInto_52 (by decide) ?_
            refine lv_aload_n hx hb dX0_readInto_53 rfl (lv_at hl 1 rfl) ?_
            refine gf_X0_15 hx hb hts hown hK hP 0 rfl (v := .ref (ad 9)) rfl dX0_readInto_54 ?_
            refine lv_iload hx hb dX0_readInto_57 (lv_at hl 0 rfl) ?_
            refine ald_I (f := (S 9)) hx hb hK hP 2 rfl (i := i) (by omega) (by decide) dX0_readInto_59 ?_
            refine wV_call (va_runV (As := [.int (nI (fr i)), .int (nI (to i)), .int 1, .int ((S 9) i)]) (rest := []) ⟨hx, hb, hml, hown, hts⟩ (c_X1_put_19 l D cy ad (va_up (va_up S 20 (rdKN S sl t fr to (S 20) i)) 21 (rdVN S sl t fr to (S 21) i)) H.size (fr i) (to i) 1 ((S 9) i) hfi.2.2.1 hfi.2.2.2 rfl) (cw_X0_64 hts rfl rfl ⟨Nat.le_of_ble_eq_true rfl, Nat.le_of_ble_eq_true rfl⟩) (preVW (ci := 1) (q0 := 0) hK (hP.sub [7, 8, 9] rfl) (hD.sub [7, 8, 9] (by decide) rfl) rfl rfl) rfl rfl hl.1 rfl (lv_room (Nat.le_of_ble_eq_true rfl)) dX0_readInto_60 ⟨Nat.le_of_ble_eq_true rfl, Nat.le_of_ble_eq_true rfl⟩) hP hD hS hA [7, 8, 9] rfl [.inl 0, .inl 1, .inl 2, .inl 3, .inl 4, .inl 5, .inl 6, .inr 0, .inr 1, .inr 2] (by decide) (fun u => (wF cy ad I (va_up (va_up S 20 (putF (rdKN S sl t fr to (S 20) i) (fr i) (to i) 1)) 21 (putF (rdVN S sl t fr to (S 21) i) (fr i) (to i) ((S 9) i))) ++ wK cy ad 19 (va_up (va_up S 20 (putF (rdKN S sl t fr to (S 20) i) (fr i) (to i) 1)) 21 (putF (rdVN S sl t fr to (S 21) i) (fr i) (to i) ((S 9) i))))) (fun _ => rfl) (fun _ => rfl) (fun u60_9 H locs q60_9 hP hD hS hkp => ?_)
            have hP : va_P D clW (wF cy ad I (va_up (va_up S 20 (putF (rdKN S sl t fr to (S 20) i) (fr i) (to i) 1)) 21 (putF (rdVN S sl t fr to (S 21) i) (fr i) (to i) ((S 9) i))) ++ wK cy ad 19 (va_up (va_up S 20 (putF (rdKN S sl t fr to (S 20) i) (fr i) (to i) 1)) 21 (putF (rdVN S sl t fr to (S 21) i) (fr i) (to i) ((S 9) i)))) H := hP
            have hD : va_D A (wF cy ad I (va_up (va_up S 20 (putF (rdKN S sl t fr to (S 20) i) (fr i) (to i) 1)) 21 (putF (rdVN S sl t fr to (S 21) i) (fr i) (to i) ((S 9) i))) ++ wK cy ad 19 (va_up (va_up S 20 (putF (rdKN S sl t fr to (S 20) i) (fr i) (to i) 1)) 21 (putF (rdVN S sl t fr to (S 21) i) (fr i) (to i) ((S 9) i)))) := hD
            refine lv_iinc (v := (nI (i + 1))) (lv' := [(4, .int (nI (i + 1))), (0, .ref (ad 7)), (1, .ref (ad 19)), (2, .int sl), (3, .int t)]) hx hb dX0_readInto_63 hl (k := 0) rfl (nI_1 i) (by decide) rfl (fun ls hl => ?_)
            refine lv_goto (tgt := 7) hx hb dX0_readInto_66 (by decide) ?_
            have e_10 : (putF (rdKN S sl t fr to (S 20) i) (fr i) (to i) 1) = (rdKN S sl t fr to (S 20) (i + 1)) := (if_pos ⟨c24_5, b31_8⟩).symm
            have e_11 : (putF (rdVN S sl t fr to (S 21) i) (fr i) (to i) ((S 9) i)) = (rdVN S sl t fr to (S 21) (i + 1)) := (if_pos ⟨c24_5, b31_8⟩).symm
            have hP : va_P D clW (wF cy ad I (va_up (va_up S 20 (rdKN S sl t fr to (S 20) (i + 1))) 21 (rdVN S sl t fr to (S 21) (i + 1))) ++ wK cy ad 19 (va_up (va_up S 20 (rdKN S sl t fr to (S 20) (i + 1))) 21 (rdVN S sl t fr to (S 21) (i + 1)))) H := by rw [← e_10, ← e_11]; exact hP
            have hD : va_D A (wF cy ad I (va_up (va_up S 20 (rdKN S sl t fr to (S 20) (i + 1))) 21 (rdVN S sl t fr to (S 21) (i + 1))) ++ wK cy ad 19 (va_up (va_up S 20 (rdKN S sl t fr to (S 20) (i + 1))) 21 (rdVN S sl t fr to (S 21) (i + 1)))) := hD.addr rfl
            exact ih7 (i + 1) (by omega) (by omega) _ _ hP hD hS ls (lv_sub hl [0, 1, 2, 3, 4] rfl)
          · refine lv_if_eq (tgt := 63) hx hb dX0_readInto_34 (by decide) (fun _ => ?_) (fun c => absurd (by decide) c)
            refine lv_iinc (v := (nI (i + 1))) (lv' := [(4, .int (nI (i + 1))), (0, .ref (ad 7)), (1, .ref (ad 19)), (2, .int sl), (3, .int t)]) hx hb dX0_readInto_63 hl (k := 0) rfl (nI_1 i) (by decide) rfl (fun ls hl => ?_)
            refine lv_goto (tgt := 7) hx hb dX0_readInto_66 (by decide) ?_
            have e_12 : (rdKN S sl t fr to (S 20) i) = (rdKN S sl t fr to (S 20) (i + 1)) := (if_neg (fun h => by first | exact b31_8 h.2 | exact h.2 b31_8)).symm
            have e_13 : (rdVN S sl t fr to (S 21) i) = (rdVN S sl t fr to (S 21) (i + 1)) := (if_neg (fun h => by first | exact b31_8 h.2 | exact h.2 b31_8)).symm
            have hP : va_P D clW (wF cy ad I (va_up (va_up S 20 (rdKN S sl t fr to (S 20) (i + 1))) 21 (rdVN S sl t fr to (S 21) (i + 1))) ++ wK cy ad 19 (va_up (va_up S 20 (rdKN S sl t fr to (S 20) (i + 1))) 21 (rdVN S sl t fr to (S 21) (i + 1)))) H := by rw [← e_12, ← e_13]; exact hP
            have hD : va_D A (wF cy ad I (va_up (va_up S 20 (rdKN S sl t fr to (S 20) (i + 1))) 21 (rdVN S sl t fr to (S 21) (i + 1))) ++ wK cy ad 19 (va_up (va_up S 20 (rdKN S sl t fr to (S 20) (i + 1))) 21 (rdVN S sl t fr to (S 21) (i + 1)))) := hD.addr rfl
            exact ih7 (i + 1) (by omega) (by omega) _ _ hP hD hS ls (lv_sub hl [0, 1, 2, 3, 4] rfl)
  have e_14 : (putF (S 20) 0 100 0) = (rdKN S sl t fr to (S 20) 0) := rfl
  have e_15 : (putF (S 21) 0 100 0) = (rdVN S sl t fr to (S 21) 0) := rfl
  have hP : va_P D clW (wF cy ad I (va_up (va_up S 20 (rdKN S sl t fr to (S 20) 0)) 21 (rdVN S sl t fr to (S 21) 0)) ++ wK cy ad 19 (va_up (va_up S 20 (rdKN S sl t fr to (S 20) 0)) 21 (rdVN S sl t fr to (S 21) 0))) H := by rw [← e_14, ← e_15]; exact hP
  have hD : va_D A (wF cy ad I (va_up (va_up S 20 (rdKN S sl t fr to (S 20) 0)) 21 (rdVN S sl t fr to (S 21) 0)) ++ wK cy ad 19 (va_up (va_up S 20 (rdKN S sl t fr to (S 20) 0)) 21 (rdVN S sl t fr to (S 21) 0))) := hD.addr rfl
  exact L7 (k + 1) 0 (by omega) (by omega) _ _ hP hD hS ls (lv_sub hl [0, 1, 2, 3, 4] rfl)
set_option maxHeartbeats 4000000 in
set_option maxRecDepth 100000 in
theorem c_X0_remove (l : Launch) (D : va_G) (cy : Nat → ClassId) (ad : Nat → Nat) (I : AI) (S : AS) (sz : Nat) (t : Int32) (k : Nat) (hk : I 2 = nI k) (hk8 : k ≤ 180) : Met l yX0_remove (Cond.code yX0_remove cX0_remove 3 (some .int) :: wsL_law) ({ frames := 2, cells := 0, slots := 0, locals := 43 }) (va_Pc [.ref (ad 7), .int t] (wrB D cy (wF cy ad I S) sz)) (va_Qi (S := Unit) (fun r u => r = ckN S k (I 3) k - ckN S k t k) (fun u t9 => va_P D clW (wF cy ad (va_up I 3 t) S) t9.heap) (va_A (wF cy ad I S) sz)) 0 0 (va_A (wF cy ad I S) sz) := by
  refine enter (cc := cX0_remove) (by decide) (Nat.le_of_ble_eq_true rfl) ?_
  intro p e s m below meth c hx hb hr hml hown hts hlocks hin hv Q hQ ls hl
  obtain ⟨hsz, hP, hK, hD0⟩ := hv
  subst hsz
  have hD := hD0.self (sz := s.heap.size)
  generalize hAe : va_A (wF cy ad I S) s.heap.size = A at hD hQ ⊢
  have hA : ∀ q : Nat, s.heap.size ≤ q → A q := fun q h => by rw [← hAe]; exact Or.inr h
  have hS : va_S A s.heap s.heap [] := va_S.rf
  suffices K_ : ∀ (H : Heap) (locs : List Loc), va_P D clW (wF cy ad I S) H → va_S A s.heap H locs → W p l e ({ frames := 2, cells := 0, slots := 0, locals := 43 }) s m ([.ref (ad 7), .int t] : List Value).toArray below meth c H locs 0 0 Q (F0 m 0 ls []) from K_ _ _ hP hS
  clear hP hS
  intro H locs hP hS
  have hown : s.vm.findClass RX0 = some m.cls := hown
  have hl : lv_has ls 3 [(0, .ref (ad 7)), (1, .int t)] := hl
  refine lv_aload_n hx hb dX0_remove_0 rfl (lv_at hl 0 rfl) ?_
  refine rI_call (va_runV (As := []) (rest := []) ⟨hx, hb, hml, hown, hts⟩ (c_X0_countKept l D cy ad I S k hk hk8) (cw_X0_72 hts rfl rfl ⟨Nat.le_of_ble_eq_true rfl, Nat.le_of_ble_eq_true rfl⟩) (preVR (ci := 0) (q0 := 0) hK hP rfl rfl) rfl rfl hl.1 rfl (lv_room (Nat.le_of_ble_eq_true rfl)) dX0_remove_1 ⟨Nat.le_of_ble_eq_true rfl, Nat.le_of_ble_eq_true rfl⟩) (fun r hr_ => ?_)
  subst hr_
  refine top_eq (y := (ckN S k ((I 3)) k)) rfl ?_
  refine lv_istore_n (lv' := [(2, .int (ckN S k ((I 3)) k)), (0, .ref (ad 7)), (1, .int t)]) hx hb dX0_remove_4 rfl hl (by decide) rfl (fun ls hl => ?_)
  refine lv_aload_n hx hb dX0_remove_5 rfl (lv_at hl 1 rfl) ?_
  refine lv_iload_n hx hb dX0_remove_6 rfl (lv_at hl 2 rfl) ?_
  refine pf_X0_34 hx hb hts hown hK hP hD hS 0 rfl (Nat.le_of_ble_eq_true rfl) dX0_remove_7 (fun H locs hP hD hS => ?_)
  have hP : va_P D clW (wF cy ad (va_up I 3 t) S) H := hP
  have hD : va_D A (wF cy ad (va_up I 3 t) S) := hD
  refine lv_iload_n hx hb dX0_remove_10 rfl (lv_at hl 0 rfl) ?_
  refine lv_aload_n hx hb dX0_remove_11 rfl (lv_at hl 1 rfl) ?_
  refine rI_call (va_runV (As := []) (rest := [.int (ckN S k ((I 3)) k)]) ⟨hx, hb, hml, hown, hts⟩ (c_X0_countKept l D cy ad (va_up I 3 t) S k hk hk8) (cw_X0_72 hts rfl rfl ⟨Nat.le_of_ble_eq_true rfl, Nat.le_of_ble_eq_true rfl⟩) (preVR (ci := 0) (q0 := 0) hK hP rfl rfl) rfl rfl hl.1 rfl (lv_room (Nat.le_of_ble_eq_true rfl)) dX0_remove_12 ⟨Nat.le_of_ble_eq_true rfl, Nat.le_of_ble_eq_true rfl⟩) (fun r hr_ => ?_)
  subst hr_
  refine top_eq (y := (ckN S k (t) k)) rfl ?_
  refine lv_isub hx hb dX0_remove_15 ?_
  have hP : va_P D clW (wF cy ad (va_up I 3 t) S) H := hP
  have hD : va_D A (wF cy ad (va_up I 3 t) S) := hD.addr rfl
  exact wI_ret () hS hP hx hb hr hlocks dX0_remove_16 (Nat.le_of_ble_eq_true rfl) (Nat.le_of_ble_eq_true rfl) hQ rfl
