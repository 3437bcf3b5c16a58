theorem gf_X2_9 {p : Program} {l : Launch} {e : Env} {R : Room} {s : State} {m : MethodId} {args : Array Value} {below : List Frame} {meth : Method} {c : Code} {H : Heap} {locs : List Loc} {cells slots : Nat} {Q : State → Prop} {cc : ByteArray} {pc : Nat} {ls : Array Slot} {rest : List Value} {D : va_G} {cy : Nat → ClassId} {a : Nat} {ws : va_W} (hx : p.tables.exec = Jvm.exec) (hb : c.code = cc) (hts : ∀ w ∈ wsL_law, w.before args s = true) (hown : s.vm.findClass RX2 = some m.cls) (hK : va_K D clW (tyW cy) s) (hP : va_P D clW ws H) (q0 : Nat) {fs : List Value} (he : ws[q0]? = some (a, .inr (2, fs))) {v : Value} (hv : fs[0]? = some v) (hdg : decode cc pc = .ok (.getfield 9, 3)) (kk : W p l e R s m args below meth c H locs cells slots Q (F0 m (pc + 3) ls (v :: rest))) : W p l e R s m args below meth c H locs cells slots Q (F0 m pc ls (.ref a :: rest)) := va_get (own := RX2) (ref := RX2) (C := RX2) (T := TX2) (N := 2) (ci := 2) hx hb hts inlX2 hown hK hP q0 he rfl 0 (by decide) (hts _ wm_65) (fun _ h => h) hv hdg kk
theorem gf_X2_15 {p : Program} {l : Launch} {e : Env} {R : Room} {s : State} {m : MethodId} {args : Array Value} {below : List Frame} {meth : Method} {c : Code} {H : Heap} {locs : List Loc} {cells slots : Nat} {Q : State → Prop} {cc : ByteArray} {pc : Nat} {ls : Array Slot} {rest : List Value} {D : va_G} {cy : Nat → ClassId} {a : Nat} {ws : va_W} (hx : p.tables.exec = Jvm.exec) (hb : c.code = cc) (hts : ∀ w ∈ wsL_law, w.before args s = true) (hown : s.vm.findClass RX2 = some m.cls) (hK : va_K D clW (tyW cy) s) (hP : va_P D clW ws H) (q0 : Nat) {fs : List Value} (he : ws[q0]? = some (a, .inr (2, fs))) {v : Value} (hv : fs[1]? = some v) (hdg : decode cc pc = .ok (.getfield 15, 3)) (kk : W p l e R s m args below meth c H locs cells slots Q (F0 m (pc + 3) ls (v :: rest))) : W p l e R s m args below meth c H locs cells slots Q (F0 m pc ls (.ref a :: rest)) := va_get (own := RX2) (ref := RX2) (C := RX2) (T := TX2) (N := 2) (ci := 2) hx hb hts inlX2 hown hK hP q0 he rfl 1 (by decide) (hts _ wm_66) (fun _ h => h) hv hdg kk
theorem pf_X2_15 {p : Program} {l : Launch} {e : Env} {R : Room} {s : State} {m : MethodId} {args : Array Value} {below : List Frame} {meth : Method} {c : Code} {H : Heap} {locs : List Loc} {cells slots : Nat} {Q : State → Prop} {cc : ByteArray} {pc : Nat} {ls : Array Slot} {rest : List Value} {D : va_G} {cy : Nat → ClassId} {a : Nat} {ws : va_W} {A : Nat → Prop} {H0 : Heap} (hx : p.tables.exec = Jvm.exec) (hb : c.code = cc) (hts : ∀ w ∈ wsL_law, w.before args s = true) (hown : s.vm.findClass RX2 = some m.cls) (hK : va_K D clW (tyW cy) s) (hP : va_P D clW ws H) (hD : va_D A ws) (hS : va_S A H0 H locs) (q0 : Nat) {fs : List Value} (he : ws[q0]? = some (a, .inr (2, fs))) {x : Int32} (hl : 1 < fs.length) (hdg : decode cc pc = .ok (.putfield 15, 3)) (kk : ∀ (H1 : Heap) (locs1 : List Loc), va_P D clW (ws.set q0 (a, .inr (2, fs.set 1 (.int x)))) H1 → va_D A (ws.set q0 (a, .inr (2, fs.set 1 (.int x)))) → va_S A H0 H1 locs1 → W p l e R s m args below meth c H1 locs1 cells slots Q (F0 m (pc + 3) ls rest)) : W p l e R s m args below meth c H locs cells slots Q (F0 m pc ls (.int x :: .ref a :: rest)) := va_put (own := RX2) (ref := RX2) (C := RX2) (T := TX2) (N := 2) (ci := 2) (ty := .int) hx hb hts inlX2 tyX2 tyX2_ok nmX2 hown hK hP hD hS q0 he rfl 1 (by decide) (hts _ wm_66) (fun _ h => h) rfl (by decide +kernel) rfl rfl hl hdg kk
theorem cw_X2_19 {R : Room} {s : State} {args : Array Value} {rm : Room} {mc ms : Nat} (hts : ∀ w ∈ wsL_law, w.before args s = true) (hrc : rm.cells = mc) (hrs : rm.slots = ms) (hR : rm.frames + 1 ≤ R.frames ∧ 8 + (1 + 11) + rm.locals ≤ R.locals) : CallW R s args RX2 RX4 19 yX4_size cX4_size 1 (some .int) (Cond.code yX4_size cX4_size 1 (some .int) :: wsL_law) rm mc ms 0 := cwV 0 hts (gUV wm_939 wm_629 wm_630 wm_34 wm_631) rfl hrc hrs (by decide +kernel) hR
theorem cw_X2_25 {R : Room} {s : State} {args : Array Value} {rm : Room} {mc ms : Nat} (hts : ∀ w ∈ wsL_law, w.before args s = true) (hrc : rm.cells = mc) (hrs : rm.slots = ms) (hR : rm.frames + 1 ≤ R.frames ∧ 8 + (2 + 11) + rm.locals ≤ R.locals) : CallW R s args RX2 RX2 25 yX2_put cX2_put 2 none (Cond.code yX2_put cX2_put 2 none :: wsL_law) rm mc ms 1 := cwV 1 hts (gUV wm_940 wm_941 wm_942 wm_24 wm_943) rfl hrc hrs (by decide +kernel) hR
theorem cw_X2_29 {R : Room} {s : State} {args : Array Value} {rm : Room} {mc ms : Nat} (hts : ∀ w ∈ wsL_law, w.before args s = true) (hrc : rm.cells = mc) (hrs : rm.slots = ms) (hR : rm.frames + 1 ≤ R.frames ∧ 8 + (2 + 11) + rm.locals ≤ R.locals) : CallW R s args RX2 RX4 29 yX4_firstDay cX4_firstDay 2 (some .int) (Cond.code yX4_firstDay cX4_firstDay 2 (some .int) :: wsL_law) rm mc ms 1 := cwV 1 hts (gUV wm_944 wm_661 wm_662 wm_34 wm_663) rfl hrc hrs (by decide +kernel) hR
theorem cw_X2_33 {R : Room} {s : State} {args : Array Value} {rm : Room} {mc ms : Nat} (hts : ∀ w ∈ wsL_law, w.before args s = true) (hrc : rm.cells = mc) (hrs : rm.slots = ms) (hR : rm.frames + 1 ≤ R.frames ∧ 8 + (6 + 11) + rm.locals ≤ R.locals) : CallW R s args RX2 RX2 33 yX2_putNumber cX2_putNumber 6 none (Cond.code yX2_putNumber cX2_putNumber 6 none :: wsL_law) rm mc ms 1 := cwV 1 hts (gUV wm_945 wm_946 wm_947 wm_24 wm_948) rfl hrc hrs (by decide +kernel) hR
theorem cw_X2_37 {R : Room} {s : State} {args : Array Value} {rm : Room} {mc ms : Nat} (hts : ∀ w ∈ wsL_law, w.before args s = true) (hrc : rm.cells = mc) (hrs : rm.slots = ms) (hR : rm.frames + 1 ≤ R.frames ∧ 8 + (2 + 11) + rm.locals ≤ R.locals) : CallW R s args RX2 RX4 37 yX4_dayAfter cX4_dayAfter 2 (some .int) (Cond.code yX4_dayAfter cX4_dayAfter 2 (some .int) :: wsL_law) rm mc ms 1 := cwV 1 hts (gUV wm_952 wm_680 wm_681 wm_34 wm_682) rfl hrc hrs (by decide +kernel) hR
theorem cw_X2_40 {R : Room} {s : State} {args : Array Value} {rm : Room} {mc ms : Nat} (hts : ∀ w ∈ wsL_law, w.before args s = true) (hrc : rm.cells = mc) (hrs : rm.slots = ms) (hR : rm.frames + 1 ≤ R.frames ∧ 8 + (2 + 11) + rm.locals ≤ R.locals) : CallW R s args RX2 RX1 40 yX1_value cX1_value 2 (some .int) (Cond.code yX1_value cX1_value 2 (some .int) :: wsL_law) rm mc ms 1 := cwV 1 hts (gUV wm_953 wm_561 wm_562 wm_29 wm_563) rfl hrc hrs (by decide +kernel) hR
set_option maxHeartbeats 4000000 in
set_option maxRecDepth 100000 in
theorem c_X2_size (l : Launch) (D : va_G) (cy : Nat → ClassId) (ad : Nat → Nat) (I : AI) (S : AS) : Met l yX2_size (Cond.code yX2_size cX2_size 1 (some .int) :: wsL_law) ({ frames := 0, cells := 0, slots := 0, locals := 0 }) (va_Pc [.ref (ad 14)] (rdB D cy (wN cy ad I S))) (rdI (fun r => r = I 4)) 0 0 noA := by
  refine enter (cc := cX2_size) (by decide) (Nat.le_of_ble_eq_true rfl) ?_
  intro p e s m below meth c hx hb hr hml hown hts hlocks hin hv Q hQ ls hl
  obtain ⟨hP, hK⟩ := hv
  have hown : s.vm.findClass RX2 = some m.cls := hown
  have hl : lv_has ls 1 [(0, .ref (ad 14))] := hl
  refine lv_aload_n hx hb dX2_size_0 rfl (lv_at hl 0 rfl) ?_
  refine gf_X2_15 hx hb hts hown hK hP 0 rfl (v := .int (I 4)) rfl dX2_size_1 ?_
  exact rI_ret hx hb hr hlocks dX2_size_4 hQ rfl

set_option maxHeartbeats 4000000 in
set_option maxRecDepth 100000 in
theorem c_X2_sign (l : Launch) (D : va_G) (cy : Nat → ClassId) (ad : Nat → Nat) (I : AI) (S : AS) (j : Nat) (n : Nat) (hn : I 4 = nI n) (hn6 : n ≤ 1900) (hj : j < n) (hz : narrow .char (.int (S 15 j)) = .int (S 15 j)) : Met l yX2_sign (Cond.code yX2_sign cX2_sign 2 (some .char) :: wsL_law) ({ frames := 0, cells := 0, slots := 0, locals := 0 }) (va_Pc [.ref (ad 14), .int (nI j)] (rdB D cy (wN cy ad I S))) (rdI (fun r => r = S 15 j)) 0 0 noA := by
  refine enter (cc := cX2_sign) (by decide) (Nat.le_of_ble_eq_true rfl) ?_
  intro p e s m below meth c hx hb hr hml hown hts hlocks hin hv Q hQ ls hl
  obtain ⟨hP, hK⟩ := hv
  have hown : s.vm.findClass RX2 = some m.cls := hown
  have hl : lv_has ls 2 [(0, .ref (ad 14)), (1, .int (nI j))] := hl
  refine lv_iload_n hx hb dX2_sign_0 rfl (lv_at hl 1 rfl) ?_
  refine lv_if_lt (tgt := 21) hx hb dX2_sign_1 (by decide) (fun c => absurd c (nI_pos (by omega))) (fun _ => ?_)
  refine lv_iload_n hx hb dX2_sign_4 rfl (lv_at hl 1 rfl) ?_
  refine lv_aload_n hx hb dX2_sign_5 rfl (lv_at hl 0 rfl) ?_
  refine gf_X2_15 hx hb hts hown hK hP 0 rfl (v := .int (I 4)) rfl dX2_sign_6 ?_
  refine top_eq hn ?_
  refine lv_icmp_ge (tgt := 21) hx hb dX2_sign_9 (by decide) (fun c => absurd c (nd_nle (a := n) (b := j) (by omega) (by omega) (by omega))) (fun _ => ?_)
  refine lv_aload_n hx hb dX2_sign_12 rfl (lv_at hl 0 rfl) ?_
  refine gf_X2_9 hx hb hts hown hK hP 0 rfl (v := .ref (ad 15)) rfl dX2_sign_13 ?_
  refine lv_iload_n hx hb dX2_sign_16 rfl (lv_at hl 1 rfl) ?_
  refine ald_C (f := (S 15)) hx hb hK hP 1 rfl (i := j) (by omega) (by decide) dX2_sign_17 ?_
  refine lv_goto (tgt := 23) hx hb dX2_sign_18 (by decide) ?_
  exact rZ_ret hx hb hr hlocks dX2_sign_23 hz hQ rfl

set_option maxHeartbeats 4000000 in
set_option maxRecDepth 100000 in
theorem c_X2_put (l : Launch) (D : va_G) (cy : Nat → ClassId) (ad : Nat → Nat) (I : AI) (S : AS) (sz : Nat) (z : Int32) (n : Nat) (hn : I 4 = nI n) (hn6 : n < 1900) (hz : vp_nar .char z = z) : Met l yX2_put (Cond.code yX2_put cX2_put 2 none :: wsL_law) ({ frames := 0, cells := 0, slots := 0, locals := 0 }) (va_Pc [.ref (ad 14), .int z] (wrB D cy (wN cy ad I S) sz)) (va_Qv (S := Unit) (fun u => True) (fun u t9 => va_P D clW (wN cy ad (va_up I 4 (nI (n + 1))) (va_up S 15 (upd (S 15) n z))) t9.heap) (va_A (wN cy ad I S) sz)) 0 0 (va_A (wN cy ad I S) sz) := by
  refine enter (cc := cX2_put) (by decide) (Nat.le_of_ble_eq_true rfl) ?_
  intro p e s m below meth c hx hb hr hml hown hts hlocks hin hv Q hQ ls hl
  obtain ⟨hsz, hP, hK, hD0⟩ := hv
  subst hsz
  have hD := hD0.self (sz := s.heap.size)
  generalize hAe : va_A (wN cy ad I S) s.heap.size = A at hD hQ ⊢
  have hA : ∀ q : Nat, s.heap.size ≤ q → A q := fun q h => by rw [← hAe]; exact Or.inr h
  have hS : va_S A s.heap s.heap [] := va_S.rf
  suffices K_ : ∀ (H : Heap) (locs : List Loc), va_P D clW (wN cy ad I S) H → va_S A s.heap H locs → W p l e ({ frames := 0, cells := 0, slots := 0, locals := 0 }) s m ([.ref (ad 14), .int z] : List Value).toArray below meth c H locs 0 0 Q (F0 m 0 ls []) from K_ _ _ hP hS
  clear hP hS
  intro H locs hP hS
  have hown : s.vm.findClass RX2 = some m.cls := hown
  have hl : lv_has ls 2 [(0, .ref (ad 14)), (1, .int z)] := hl
  refine lv_aload_n hx hb dX2_put_0 rfl (lv_at hl 0 rfl) ?_
  refine gf_X2_15 hx hb hts hown hK hP 0 rfl (v := .int (I 4)) rfl dX2_put_1 ?_
  refine top_eq hn ?_
  refine lv_aload_n hx hb dX2_put_4 rfl (lv_at hl 0 rfl) ?_
  refine gf_X2_9 hx hb hts hown hK hP 0 rfl (v := .ref (ad 15)) rfl dX2_put_5 ?_
  refine va_alen hx hb hK hP 1 0 rfl rfl (v := 1900) rfl dX2_put_8 ?_
  refine lv_icmp_ge (tgt := 32) hx hb dX2_put_9 (by decide) (fun c => absurd c (nd_nle (a := 1900) (b := n) (by omega) (by omega) (by omega))) (fun _ => ?_)
  refine lv_aload_n hx hb dX2_put_12 rfl (lv_at hl 0 rfl) ?_
  refine gf_X2_9 hx hb hts hown hK hP 0 rfl (v := .ref (ad 15)) rfl dX2_put_13 ?_
  refine lv_aload_n hx hb dX2_put_16 rfl (lv_at hl 0 rfl) ?_
  refine gf_X2_15 hx hb hts hown hK hP 0 rfl (v := .int (I 4)) rfl dX2_put_17 ?_
  refine top_eq hn ?_
  refine lv_iload_n hx hb dX2_put_20 rfl (lv_at hl 1 rfl) ?_
  refine ast_C hx hb hK hP hD hS 1 rfl (i := n) (x := z) (by omega) (by decide) hz dX2_put_21 (fun H locs hP hD hS => ?_)
  have hP : va_P D clW (wN cy ad I (va_up S 15 (upd (S 15) n z))) H := hP
  have hD : va_D A (wN cy ad I (va_up S 15 (upd (S 15) n z))) := hD
  refine lv_aload_n hx hb dX2_put_22 rfl (lv_at hl 0 rfl) ?_
  refine lv_dup hx hb dX2_put_23 rfl ?_
  refine gf_X2_15 hx hb hts hown hK hP 0 rfl (v := .int (I 4)) rfl dX2_put_24 ?_
  refine top_eq hn ?_
  refine lv_iconst (v := 1) hx hb dX2_put_27 (by decide) ?_
  refine lv_iadd hx hb dX2_put_28 ?_
  refine top_eq (y := nI (n + 1)) (nI_add n 1) ?_
  refine pf_X2_15 hx hb hts hown hK hP hD hS 0 rfl (Nat.le_of_ble_eq_true rfl) dX2_put_29 (fun H locs hP hD hS => ?_)
  have hP : va_P D clW (wN cy ad (va_up I 4 (nI (n + 1))) (va_up S 15 (upd (S 15) n z))) H := hP
  have hD : va_D A (wN cy ad (va_up I 4 (nI (n + 1))) (va_up S 15 (upd (S 15) n z))) := hD
  have hP : va_P D clW (wN cy ad (va_up I 4 (nI (n + 1))) (va_up S 15 (upd (S 15) n z))) H := hP
  have hD : va_D A (wN cy ad (va_up I 4 (nI (n + 1))) (va_up S 15 (upd (S 15) n z))) := hD.addr rfl
  exact wV_ret () hS hP hx hb hr hlocks dX2_put_32 (Nat.le_of_ble_eq_true rfl) (Nat.le_of_ble_eq_true rfl) hQ trivial

set_option maxHeartbeats 4000000 in
set_option maxRecDepth 100000 in
theorem c_X2_putNumber (l : Launch) (D : va_G) (cy : Nat → ClassId) (ad : Nat → Nat) (I : AI) (S : AS) (sz : Nat) (v : Int32) (n : Nat) (hn : I 4 = nI n) (hn11 : n + 11 ≤ 1900) : Met l yX2_putNumber (Cond.code yX2_putNumber cX2_putNumber 6 none :: wsL_law) ({ frames := 1, cells := 0, slots := 0, locals := 21 }) (va_Pc [.ref (ad 14), .int v] (wrB D cy (wN cy ad I S) sz)) (va_Qv (S := Unit) (fun u => True) (fun u t9 => va_P D clW (wN cy ad (va_up I 4 (nI (n + (numL v).length))) (va_up S 15 (appL (S 15) n (numL v)))) t9.heap) (va_A (wN cy ad I S) sz)) 0 0 (va_A (wN cy ad I S) sz) := by
  refine enter (cc := cX2_putNumber) (by decide) (Nat.le_of_ble_eq_true rfl) ?_
  intro p e s m below meth c hx hb hr hml hown hts hlocks hin hv Q hQ ls hl
  obtain ⟨hsz, hP, hK, hD0⟩ := hv
  subst hsz
  have hD := hD0.self (sz := s.heap.size)
  generalize hAe : va_A (wN cy ad I S) s.heap.size = A at hD hQ ⊢
  have hA : ∀ q : Nat, s.heap.size ≤ q → A q := fun q h => by rw [← hAe]; exact Or.inr h
  have hS : va_S A s.heap s.heap [] := va_S.rf
  suffices K_ : ∀ (H : Heap) (locs : List Loc), va_P D clW (wN cy ad I S) H → va_S A s.heap H locs → W p l e ({ frames := 1, cells := 0, slots := 0, locals := 21 }) s m ([.ref (ad 14), .int v] : List Value).toArray below meth c H locs 0 0 Q (F0 m 0 ls []) from K_ _ _ hP hS
  clear hP hS
  intro H locs hP hS
  have hown : s.vm.findClass RX2 = some m.cls := hown
  have hl : lv_has ls 6 [(0, .ref (ad 14)), (1, .int v)] := hl
  obtain ⟨w, hw⟩ : ∃ w : Nat, w = v.toInt.natAbs := ⟨_, rfl⟩
  have hw9 : w ≤ 2147483648 := by rw [hw]; exact natAbs_le v
  refine lv_iload_n hx hb dX2_putNumber_0 rfl (lv_at hl 1 rfl) ?_
  refine lv_i2l (v := v.toInt64) hx hb dX2_putNumber_1 rfl ?_
  refine lv_lstore_n (lv' := [(2, .long v.toInt64), (0, .ref (ad 14)), (1, .int v)]) hx hb dX2_putNumber_2 rfl hl (by decide) rfl (fun ls hl => ?_)
  refine lv_lload_n hx hb dX2_putNumber_3 rfl (lv_at hl 0 rfl) ?_
  refine lv_lconst (v := 0) hx hb dX2_putNumber_4 (by decide) ?_
  refine lc_ge (tgt := 18) hx hb dX2_putNumber_5 dX2_putNumber_6 (by decide) (fun c6_1 => ?_) (fun c6_1 => ?_)
  · have hv : ¬ v < 0 := l_neg.mp c6_1
    have el : v.toInt64 = lN w := by rw [hw]; exact l_abs_p hv
    rw [el] at hl
    refine lv_ldc2 hx hb hown (hts _ wm_949) dX2_putNumber_18 ?_
    refine lv_lstore (lv' := [(4, .long (1000000000)), (2, .long (lN w)), (0, .ref (ad 14)), (1, .int v)]) hx hb dX2_putNumber_21 hl (by decide) rfl (fun ls hl => ?_)
    have L23 : ∀ (n_23 i : Nat), i ≤ 10 → 10 + 1 ≤ i + n_23 → ∀ (H : Heap) (locs : List Loc), va_P D clW (wN cy ad (va_up I 4 (nI (n + (dgL w i).length))) (va_up S 15 (appL (S 15) n (dgL w i)))) H → va_D A (wN cy ad (va_up I 4 (nI (n + (dgL w i).length))) (va_up S 15 (appL (S 15) n (dgL w i)))) → va_S A s.heap H locs → ∀ (ls : Array Slot), lv_has ls 6 [(4, .long (lN (uN i))), (2, .long (lN w)), (0, .ref (ad 14)), (1, .int v)] → W p l e { frames := 1, cells := 0, slots := 0, locals := 21 } s m ([.ref (ad 14), .int v] : List Value).toArray below meth c H locs 0 0 Q (F0 m 23 ls []) := by
      clear hl
      intro n_23
      induction n_23 with
      | zero => intro i  hle_23 hn_23; exact absurd hn_23 (by omega)
      | succ n_23 ih23 =>
        intro i  hle_23 hn_23  H locs hP hD hS ls hl
        have hdl := dg_len w i
        have hul := uN_le i
        refine lv_lload hx hb dX2_putNumber_23 (lv_at hl 0 rfl) ?_
        refine lv_lconst (v := 0) hx hb dX2_putNumber_25 (by decide) ?_
        refine lc_le (tgt := 73) hx hb dX2_putNumber_26 dX2_putNumber_27 (by decide) (fun c27_2 => ?_) (fun c27_2 => ?_)
        · have fu : uN i ≤ 0 := (pk_lLE (a := uN i) (b := 0) (by omega) (by omega)).mp c27_2
          have fi : i = 10 := by
            rcases Nat.lt_or_ge i 10 with q | q
            · have := uN_pos i q; omega
            · omega
          have e_3 : (nI (n + (dgL w i).length)) = (nI (n + (numL v).length)) := (by rw [show i = 10 by omega, numL_p hv, hw])
          have e_4 : (appL (S 15) n (dgL w i)) = (appL (S 15) n (numL v)) := (by rw [show i = 10 by omega, numL_p hv, hw])
          have hP : va_P D clW (wN cy ad (va_up I 4 (nI (n + (numL v).length))) (va_up S 15 (appL (S 15) n (numL v)))) H := by rw [← e_3, ← e_4]; exact hP
          have hD : va_D A (wN cy ad (va_up I 4 (nI (n + (numL v).length))) (va_up S 15 (appL (S 15) n (numL v)))) := hD.addr rfl
          exact wV_ret () hS hP hx hb hr hlocks dX2_putNumber_73 (Nat.le_of_ble_eq_true rfl) (Nat.le_of_ble_eq_true rfl) hQ trivial
        · have fu : 0 < uN i := Nat.lt_of_not_le (fun q => c27_2 ((pk_lLE (a := uN i) (b := 0) (by omega) (by omega)).mpr q))
          have fi : i < 10 := by
            rcases Nat.lt_or_ge i 10 with q | q
            · exact q
            · rw [show i = 10 by omega, uN_10] at fu; omega
          have fnz : ¬ lN (uN i) = 0 := fun q => by
            have := (pk_lEQ (a := uN i) (b := 0) (by omega) (by omega)).mp q
            omega
          refine lv_lload_n hx hb dX2_putNumber_30 rfl (lv_at hl 1 rfl) ?_
          refine lv_lload hx hb dX2_putNumber_31 (lv_at hl 0 rfl) ?_
          refine lc_ge (tgt := 44) hx hb dX2_putNumber_33 dX2_putNumber_34 (by decide) (fun c34_5 => ?_) (fun c34_5 => ?_)
          · have fa : uN i ≤ w := (pk_lLE (a := uN i) (b := w) (by omega) (by omega)).mp c34_5
            refine lv_aload_n hx hb dX2_putNumber_44 rfl (lv_at hl 2 rfl) ?_
            refine lv_ldc2 hx hb hown (hts _ wm_950) dX2_putNumber_45 ?_
            refine lv_lload_n hx hb dX2_putNumber_48 rfl (lv_at hl 1 rfl) ?_
            refine lv_lload hx hb dX2_putNumber_49 (lv_at hl 0 rfl) ?_
            refine lv_ldiv hx hb dX2_putNumber_51 fnz ?_
            refine top_eqL (y := lN (w / uN i)) (pk_lDiv (by omega) fu (by omega)) ?_
            refine lv_ldc2 hx hb hown (hts _ wm_951) dX2_putNumber_52 ?_
            refine lv_lrem hx hb dX2_putNumber_55 (by decide) ?_
            refine top_eqL (y := lN (w / uN i % 10)) (pk_lRem (a := w / uN i) (b := 10) (Nat.lt_of_le_of_lt (Nat.div_le_self _ _) (by omega)) (by decide) (by decide)) ?_
            refine lv_ladd hx hb dX2_putNumber_56 ?_
            refine top_eqL (y := lN (48 + w / uN i % 10)) (lN_add 48 (w / uN i % 10)) ?_
            refine lv_l2i (v := (lN (48 + w / uN i % 10)).toInt32) hx hb dX2_putNumber_57 rfl ?_
            refine top_eq (y := nI (48 + w / uN i % 10)) (lN_i _) ?_
            refine lv_i2c (v := ((nI (48 + w / uN i % 10)).toUInt32 % 65536).toInt32) hx hb dX2_putNumber_58 rfl ?_
            refine top_eq (y := nI (48 + w / uN i % 10)) (c_nI (by omega)) ?_
            refine wV_call (va_runV (As := [.int (nI (48 + w / uN i % 10))]) (rest := []) ⟨hx, hb, hml, hown, hts⟩ (c_X2_put l D cy ad (va_up I 4 (nI (n + (dgL w i).length))) (va_up S 15 (appL (S 15) n (dgL w i))) H.size (nI (48 + w / uN i % 10)) (n + (dgL w i).length) rfl (by omega) (nar_c (by omega))) (cw_X2_25 hts rfl rfl ⟨Nat.le_of_ble_eq_true rfl, Nat.le_of_ble_eq_true rfl⟩) (preVW (ci := 2) (q0 := 0) hK hP hD rfl rfl) rfl rfl hl.1 rfl (lv_room (Nat.le_of_ble_eq_true rfl)) dX2_putNumber_59 ⟨Nat.le_of_ble_eq_true rfl, Nat.le_of_ble_eq_true rfl⟩) hP hD hS hA [0, 1] rfl [.inr 0, .inr 1] (by decide) (fun u => (wN cy ad (va_up I 4 (nI ((n + (dgL w i).length) + 1))) (va_up S 15 (upd (appL (S 15) n (dgL w i)) (n + (dgL w i).length) (nI (48 + w / uN i % 10)))))) (fun _ => rfl) (fun _ => rfl) (fun u59_6 H locs q59_6 hP hD hS hkp => ?_)
            have hP : va_P D clW (wN cy ad (va_up I 4 (nI ((n + (dgL w i).length) + 1))) (va_up S 15 (upd (appL (S 15) n (dgL w i)) (n + (dgL w i).length) (nI (48 + w / uN i % 10))))) H := hP
            have hD : va_D A (wN cy ad (va_up I 4 (nI ((n + (dgL w i).length) + 1))) (va_up S 15 (upd (appL (S 15) n (dgL w i)) (n + (dgL w i).length) (nI (48 + w / uN i % 10))))) := hD
            refine lv_lload hx hb dX2_putNumber_62 (lv_at hl 0 rfl) ?_
            refine lv_ldc2 hx hb hown (hts _ wm_951) dX2_putNumber_64 ?_
            refine lv_ldiv hx hb dX2_putNumber_67 (by decide) ?_
            refine top_eqL (y := lN (uN (i + 1))) (by rw [← uN_s]; exact pk_lDiv (a := uN i) (b := 10) (by omega) (by decide) (by decide)) ?_
            refine lv_lstore (lv' := [(4, .long (lN (uN (i + 1)))), (2, .long (lN w)), (0, .ref (ad 14)), (1, .int v)]) hx hb dX2_putNumber_68 hl (by decide) rfl (fun ls hl => ?_)
            refine lv_goto (tgt := 23) hx hb dX2_putNumber_70 (by decide) ?_
            have e_7 : (nI ((n + (dgL w i).length) + 1)) = (nI (n + (dgL w (i + 1)).length)) := (by rw [dg_t (Or.inl fa), List.length_append]; rfl)
            have e_8 : (upd (appL (S 15) n (dgL w i)) (n + (dgL w i).length) (nI (48 + w / uN i % 10))) = (appL (S 15) n (dgL w (i + 1))) := (by rw [dg_t (Or.inl fa), appL_snoc])
            have hP : va_P D clW (wN cy ad (va_up I 4 (nI (n + (dgL w (i + 1)).length))) (va_up S 15 (appL (S 15) n (dgL w (i + 1))))) H := by rw [← e_7, ← e_8]; exact hP
            have hD : va_D A (wN cy ad (va_up I 4 (nI (n + (dgL w (i + 1)).length))) (va_up S 15 (appL (S 15) n (dgL w (i + 1))))) := hD.addr rfl
            exact ih23 (i + 1) (by omega) (by omega) _ _ hP hD hS ls (lv_sub hl [0, 1, 2, 3] rfl)
          · have fa : ¬ uN i ≤ w := fun q => c34_5 ((pk_lLE (a := uN i) (b := w) (by omega) (by omega)).mpr q)
            refine lv_lload hx hb dX2_putNumber_37 (lv_at hl 0 rfl) ?_
            refine lv_lconst (v := 1) hx hb dX2_putNumber_39 (by decide) ?_
            refine lc_ne (tgt := 62) hx hb dX2_putNumber_40 dX2_putNumber_41 (by decide) (fun c41_9 => ?_) (fun c41_9 => ?_)
            · have fb : ¬ uN i = 1 := fun q => c41_9 (by rw [q]; rfl)
              refine lv_lload hx hb dX2_putNumber_62 (lv_at hl 0 rfl) ?_
              refine lv_ldc2 hx hb hown (hts _ wm_951) dX2_putNumber_64 ?_
              refine lv_ldiv hx hb dX2_putNumber_67 (by decide) ?_
              refine top_eqL (y := lN (uN (i + 1))) (by rw [← uN_s]; exact pk_lDiv (a := uN i) (b := 10) (by omega) (by decide) (by decide)) ?_
              refine lv_lstore (lv' := [(4, .long (lN (uN (i + 1)))), (2, .long (lN w)), (0, .ref (ad 14)), (1, .int v)]) hx hb dX2_putNumber_68 hl (by decide) rfl (fun ls hl => ?_)
              refine lv_goto (tgt := 23) hx hb dX2_putNumber_70 (by decide) ?_
              have e_10 : (nI (n + (dgL w i).length)) = (nI (n + (dgL w (i + 1)).length)) := (by rw [dg_f (fun q => q.elim (fun q => by omega) fb)])
              have e_11 : (appL (S 15) n (dgL w i)) = (appL (S 15) n (dgL w (i + 1))) := (by rw [dg_f (fun q => q.elim (fun q => by omega) fb)])
              have hP : va_P D clW (wN cy ad (va_up I 4 (nI (n + (dgL w (i + 1)).length))) (va_up S 15 (appL (S 15) n (dgL w (i + 1))))) H := by rw [← e_10, ← e_11]; exact hP
              have hD : va_D A (wN cy ad (va_up I 4 (nI (n + (dgL w (i + 1)).length))) (va_up S 15 (appL (S 15) n (dgL w (i + 1))))) := hD.addr rfl
              exact ih23 (i + 1) (by omega) (by omega) _ _ hP hD hS ls (lv_sub hl [0, 1, 2, 3] rfl)
            · have fb : uN i = 1 := (pk_lEQ (a := uN i) (b := 1) (by omega) (by omega)).mp c41_9
              refine lv_aload_n hx hb dX2_putNumber_44 rfl (lv_at hl 2 rfl) ?_
              refine lv_ldc2 hx hb hown (hts _ wm_950) dX2_putNumber_45 ?_
              refine lv_lload_n hx hb dX2_putNumber_48 rfl (lv_at hl 1 rfl) ?_
              refine lv_lload hx hb dX2_putNumber_49 (lv_at hl 0 rfl) ?_
              refine lv_ldiv hx hb dX2_putNumber_51 fnz ?_
              refine top_eqL (y := lN (w / uN i)) (pk_lDiv (by omega) fu (by omega)) ?_
              refine lv_ldc2 hx hb hown (hts _ wm_951) dX2_putNumber_52 ?_
              refine lv_lrem hx hb dX2_putNumber_55 (by decide) ?_
              refine top_eqL (y := lN (w / uN i % 10)) (pk_lRem (a := w / uN i) (b := 10) (Nat.lt_of_le_of_lt (Nat.div_le_self _ _) (by omega)) (by decide) (by decide)) ?_
              refine lv_ladd hx hb dX2_putNumber_56 ?_
              refine top_eqL (y := lN (48 + w / uN i % 10)) (lN_add 48 (w / uN i % 10)) ?_
              refine lv_l2i (v := (lN (48 + w / uN i % 10)).toInt32) hx hb dX2_putNumber_57 rfl ?_
              refine top_eq (y := nI (48 + w / uN i % 10)) (lN_i _) ?_
              refine lv_i2c (v := ((nI (48 + w / uN i % 10)).toUInt32 % 65536).toInt32) hx hb dX2_putNumber_58 rfl ?_
              refine top_eq (y := nI (48 + w / uN i % 10)) (c_nI (by omega)) ?_
              refine wV_call (va_runV (As := [.int (nI (48 + w / uN i % 10))]) (rest := []) ⟨hx, hb, hml, hown, hts⟩ (c_X2_put l D cy ad (va_up I 4 (nI (n + (dgL w i).length))) (va_up S 15 (appL (S 15) n (dgL w i))) H.size (nI (48 + w / uN i % 10)) (n + (dgL w i).length) rfl (by omega) (nar_c (by omega))) (cw_X2_25 hts rfl rfl ⟨Nat.le_of_ble_eq_true rfl, Nat.le_of_ble_eq_true rfl⟩) (preVW (ci := 2) (q0 := 0) hK hP hD rfl rfl) rfl rfl hl.1 rfl (lv_room (Nat.le_of_ble_eq_true rfl)) dX2_putNumber_59 ⟨Nat.le_of_ble_eq_true rfl, Nat.le_of_ble_eq_true rfl⟩) hP hD hS hA [0, 1] rfl [.inr 0, .inr 1] (by decide) (fun u => (wN cy ad (va_up I 4 (nI ((n + (dgL w i).length) + 1))) (va_up S 15 (upd (appL (S 15) n (dgL w i)) (n + (dgL w i).length) (nI (48 + w / uN i % 10)))))) (fun _ => rfl) (fun _ => rfl) (fun u59_12 H locs q59_12 hP hD hS hkp => ?_)
              have hP : va_P D clW (wN cy ad (va_up I 4 (nI ((n + (dgL w i).length) + 1))) (va_up S 15 (upd (appL (S 15) n (dgL w i)) (n + (dgL w i).length) (nI (48 + w / uN i % 10))))) H := hP
              have hD : va_D A (wN cy ad (va_up I 4 (nI ((n + (dgL w i).length) + 1))) (va_up S 15 (upd (appL (S 15) n (dgL w i)) (n + (dgL w i).length) (nI (48 + w / uN i % 10))))) := hD
              refine lv_lload hx hb dX2_putNumber_62 (lv_at hl 0 rfl) ?_
              refine lv_ldc2 hx hb hown (hts _ wm_951) dX2_putNumber_64 ?_
              refine lv_ldiv hx hb dX2_putNumber_67 (by decide) ?_
              refine top_eqL (y := lN (uN (i + 1))) (by rw [← uN_s]; exact pk_lDiv (a := uN i) (b := 10) (by omega) (by decide) (by decide)) ?_
              refine lv_lstore (lv' := [(4, .long (lN (uN (i + 1)))), (2, .long (lN w)), (0, .ref (ad 14)), (1, .int v)]) hx hb dX2_putNumber_68 hl (by decide) rfl (fun ls hl => ?_)
              refine lv_goto (tgt := 23) hx hb dX2_putNumber_70 (by decide) ?_
              have e_13 : (nI ((n + (dgL w i).length) + 1)) = (nI (n + (dgL w (i + 1)).length)) := (by rw [dg_t (Or.inr fb), List.length_append]; rfl)
              have e_14 : (upd (appL (S 15) n (dgL w i)) (n + (dgL w i).length) (nI (48 + w / uN i % 10))) = (appL (S 15) n (dgL w (i + 1))) := (by rw [dg_t (Or.inr fb), appL_snoc])
              have hP : va_P D clW (wN cy ad (va_up I 4 (nI (n + (dgL w (i + 1)).length))) (va_up S 15 (appL (S 15) n (dgL w (i + 1))))) H := by rw [← e_13, ← e_14]; exact hP
              have hD : va_D A (wN cy ad (va_up I 4 (nI (n + (dgL w (i + 1)).length))) (va_up S 15 (appL (S 15) n (dgL w (i + 1))))) := hD.addr rfl
              exact ih23 (i + 1) (by omega) (by omega) _ _ hP hD hS ls (lv_sub hl [0, 1, 2, 3] rfl)
    have e_15 : (I 4) = (nI (n + (dgL w 0).length)) := hn
    have e_16 : (S 15) = (appL (S 15) n (dgL w 0)) := rfl
    have hP : va_P D clW (wN cy ad (va_up I 4 (nI (n + (dgL w 0).length))) (va_up S 15 (appL (S 15) n (dgL w 0)))) H := by rw [← e_15, ← e_16]; exact hP
    have hD : va_D A (wN cy ad (va_up I 4 (nI (n + (dgL w 0).length))) (va_up S 15 (appL (S 15) n (dgL w 0)))) := hD.addr rfl
    exact L23 (10 + 1) 0 (by omega) (by omega) _ _ hP hD hS ls (lv_sub hl [0, 1, 2, 3] rfl)
  · refine lv_aload_n hx hb dX2_putNumber_9 rfl (lv_at hl 1 rfl) ?_
    refine lv_bipush (v := 45) hx hb dX2_putNumber_10 (by decide) ?_
    refine wV_call (va_runV (As := [.int 45]) (rest := []) ⟨hx, hb, hml, hown, hts⟩ (c_X2_put l D cy ad I S H.size 45 n hn (by omega) rfl) (cw_X2_25 hts rfl rfl ⟨Nat.le_of_ble_eq_true rfl, Nat.le_of_ble_eq_true rfl⟩) (preVW (ci := 2) (q0 := 0) hK hP hD rfl rfl) rfl rfl hl.1 rfl (lv_room (Nat.le_of_ble_eq_true rfl)) dX2_putNumber_12 ⟨Nat.le_of_ble_eq_true rfl, Nat.le_of_ble_eq_true rfl⟩) hP hD hS hA [0, 1] rfl [.inr 0, .inr 1] (by decide) (fun u => (wN cy ad (va_up I 4 (nI (n + 1))) (va_up S 15 (upd (S 15) n 45)))) (fun _ => rfl) (fun _ => rfl) (fun u12_17 H locs q12_17 hP hD hS hkp => ?_)
    have hP : va_P D clW (wN cy ad (va_up I 4 (nI (n + 1))) (va_up S 15 (upd (S 15) n 45))) H := hP
    have hD : va_D A (wN cy ad (va_up I 4 (nI (n + 1))) (va_up S 15 (upd (S 15) n 45))) := hD
    refine lv_lload_n hx hb dX2_putNumber_15 rfl (lv_at hl 0 rfl) ?_
    refine lv_lneg hx hb dX2_putNumber_16 ?_
    refine lv_lstore_n (lv' := [(2, .long (-v.toInt64)), (0, .ref (ad 14)), (1, .int v)]) hx hb dX2_putNumber_17 rfl hl (by decide) rfl (fun ls hl => ?_)
    have hv : v < 0 := Decidable.of_not_not (fun q => c6_1 (l_neg.mpr q))
    have el : (-v.toInt64) = lN w := by rw [hw]; exact l_abs_n hv
    rw [el] at hl
    refine lv_ldc2 hx hb hown (hts _ wm_949) dX2_putNumber_18 ?_
    refine lv_lstore (lv' := [(4, .long (1000000000)), (2, .long (lN w)), (0, .ref (ad 14)), (1, .int v)]) hx hb dX2_putNumber_21 hl (by decide) rfl (fun ls hl => ?_)
    have L23 : ∀ (n_23 i : Nat), i ≤ 10 → 10 + 1 ≤ i + n_23 → ∀ (H : Heap) (locs : List Loc), va_P D clW (wN cy ad (va_up I 4 (nI (n + 1 + (dgL w i).length))) (va_up S 15 (appL (upd (S 15) n 45) (n + 1) (dgL w i)))) H → va_D A (wN cy ad (va_up I 4 (nI (n + 1 + (dgL w i).length))) (va_up S 15 (appL (upd (S 15) n 45) (n + 1) (dgL w i)))) → va_S A s.heap H locs → ∀ (ls : Array Slot), lv_has ls 6 [(4, .long (lN (uN i))), (2, .long (lN w)), (0, .ref (ad 14)), (1, .int v)] → W p l e { frames := 1, cells := 0, slots := 0, locals := 21 } s m ([.ref (ad 14), .int v] : List Value).toArray below meth c H locs 0 0 Q (F0 m 23 ls []) := by
      clear hl
      intro n_23
      induction n_23 with
      | zero => intro i  hle_23 hn_23; exact absurd hn_23 (by omega)
      | succ n_23 ih23 =>
        intro i  hle_23 hn_23  H locs hP hD hS ls hl
        have hdl := dg_len w i
        have hul := uN_le i
        refine lv_lload hx hb dX2_putNumber_23 (lv_at hl 0 rfl) ?_
        refine lv_lconst (v := 0) hx hb dX2_putNumber_25 (by decide) ?_
        refine lc_le (tgt := 73) hx hb dX2_putNumber_26 dX2_putNumber_27 (by decide) (fun c27_18 => ?_) (fun c27_18 => ?_)
        · have fu : uN i ≤ 0 := (pk_lLE (a := uN i) (b := 0) (by omega) (by omega)).mp c27_18
          have fi : i = 10 := by
            rcases Nat.lt_or_ge i 10 with q | q
            · have := uN_pos i q; omega
            · omega
          have e_19 : (nI (n + 1 + (dgL w i).length)) = (nI (n + (numL v).length)) := (by rw [show i = 10 by omega, numL_n hv, hw, List.length_cons, show n + 1 + (dgL v.toInt.natAbs 10).length = n + ((dgL v.toInt.natAbs 10).length + 1) by omega])
          have e_20 : (appL (upd (S 15) n 45) (n + 1) (dgL w i)) = (appL (S 15) n (numL v)) := (by rw [show i = 10 by omega, numL_n hv, hw]; rfl)
          have hP : va_P D clW (wN cy ad (va_up I 4 (nI (n + (numL v).length))) (va_up S 15 (appL (S 15) n (numL v)))) H := by rw [← e_19, ← e_20]; exact hP
          have hD : va_D A (wN cy ad (va_up I 4 (nI (n + (numL v).length))) (va_up S 15 (appL (S 15) n (numL v)))) := hD.addr rfl
          exact wV_ret () hS hP hx hb hr hlocks dX2_putNumber_73 (Nat.le_of_ble_eq_true rfl) (Nat.le_of_ble_eq_true rfl) hQ trivial
        · have fu : 0 < uN i := Nat.lt_of_not_le (fun q => c27_18 ((pk_lLE (a := uN i) (b := 0) (by omega) (by omega)).mpr q))
          have fi : i < 10 := by
            rcases Nat.lt_or_ge i 10 with q | q
            · exact q
            · rw [show i = 10 by omega, uN_10] at fu; omega
          have fnz : ¬ lN (uN i) = 0 := fun q => by
            have := (pk_lEQ (a := uN i) (b := 0) (by omega) (by omega)).mp q
            omega
          refine lv_lload_n hx hb dX2_putNumber_30 rfl (lv_at hl 1 rfl) ?_
          refine lv_lload hx hb dX2_putNumber_31 (lv_at hl 0 rfl) ?_
          refine lc_ge (tgt := 44) hx hb dX2_putNumber_33 dX2_putNumber_34 (by decide) (fun c34_21 => ?_) (fun c34_21 => ?_)
          · have fa : uN i ≤ w := (pk_lLE (a := uN i) (b := w) (by omega) (by omega)).mp c34_21
            refine lv_aload_n hx hb dX2_putNumber_44 rfl (lv_at hl 2 rfl) ?_
            refine lv_ldc2 hx hb hown (hts _ wm_950) dX2_putNumber_45 ?_
            refine lv_lload_n hx hb dX2_putNumber_48 rfl (lv_at hl 1 rfl) ?_
            refine lv_lload hx hb dX2_putNumber_49 (lv_at hl 0 rfl) ?_
            refine lv_ldiv hx hb dX2_putNumber_51 fnz ?_
            refine top_eqL (y := lN (w / uN i)) (pk_lDiv (by omega) fu (by omega)) ?_
            refine lv_ldc2 hx hb hown (hts _ wm_951) dX2_putNumber_52 ?_
            refine lv_lrem hx hb dX2_putNumber_55 (by decide) ?_
            refine top_eqL (y := lN (w / uN i % 10)) (pk_lRem (a := w / uN i) (b := 10) (Nat.lt_of_le_of_lt (Nat.div_le_self _ _) (by omega)) (by decide) (by decide)) ?_
            refine lv_ladd hx hb dX2_putNumber_56 ?_
            refine top_eqL (y := lN (48 + w / uN i % 10)) (lN_add 48 (w / uN i % 10)) ?_
            refine lv_l2i (v := (lN (48 + w / uN i % 10)).toInt32) hx hb dX2_putNumber_57 rfl ?_
            refine top_eq (y := nI (48 + w / uN i % 10)) (lN_i _) ?_
            refine lv_i2c (v := ((nI (48 + w / uN i % 10)).toUInt32 % 65536).toInt32) hx hb dX2_putNumber_58 rfl ?_
            refine top_eq (y := nI (48 + w / uN i % 10)) (c_nI (by omega)) ?_
            refine wV_call (va_runV (As := [.int (nI (48 + w / uN i % 10))]) (rest := []) ⟨hx, hb, hml, hown, hts⟩ (c_X2_put l D cy ad (va_up I 4 (nI (n + 1 + (dgL w i).length))) (va_up S 15 (appL (upd (S 15) n 45) (n + 1) (dgL w i))) H.size (nI (48 + w / uN i % 10)) (n + 1 + (dgL w i).length) rfl (by omega) (nar_c (by omega))) (cw_X2_25 hts rfl rfl ⟨Nat.le_of_ble_eq_true rfl, Nat.le_of_ble_eq_true rfl⟩) (preVW (ci := 2) (q0 := 0) hK hP hD rfl rfl) rfl rfl hl.1 rfl (lv_room (Nat.le_of_ble_eq_true rfl)) dX2_putNumber_59 ⟨Nat.le_of_ble_eq_true rfl, Nat.le_of_ble_eq_true rfl⟩) hP hD hS hA [0, 1] rfl [.inr 0, .inr 1] (by decide) (fun u => (wN cy ad (va_up I 4 (nI ((n + 1 + (dgL w i).length) + 1))) (va_up S 15 (upd (appL (upd (S 15) n 45) (n + 1) (dgL w i)) (n + 1 + (dgL w i).length) (nI (48 + w / uN i % 10)))))) (fun _ => rfl) (fun _ => rfl) (fun u59_22 H locs q59_22 hP hD hS hkp => ?_)
            have hP : va_P D clW (wN cy ad (va_up I 4 (nI ((n + 1 + (dgL w i).length) + 1))) (va_up S 15 (upd (appL (upd (S 15) n 45) (n + 1) (dgL w i)) (n + 1 + (dgL w i).length) (nI (48 + w / uN i % 10))))) H := hP
            have hD : va_D A (wN cy ad (va_up I 4 (nI ((n + 1 + (dgL w i).length) + 1))) (va_up S 15 (upd (appL (upd (S 15) n 45) (n + 1) (dgL w i)) (n + 1 + (dgL w i).length) (nI (48 + w / uN i % 10))))) := hD
            refine lv_lload hx hb dX2_putNumber_62 (lv_at hl 0 rfl) ?_
            refine lv_ldc2 hx hb hown (hts _ wm_951) dX2_putNumber_64 ?_
            refine lv_ldiv hx hb dX2_putNumber_67 (by decide) ?_
            refine top_eqL (y := lN (uN (i + 1))) (by rw [← uN_s]; exact pk_lDiv (a := uN i) (b := 10) (by omega) (by decide) (by decide)) ?_
            refine lv_lstore (lv' := [(4, .long (lN (uN (i + 1)))), (2, .long (lN w)), (0, .ref (ad 14)), (1, .int v)]) hx hb dX2_putNumber_68 hl (by decide) rfl (fun ls hl => ?_)
            refine lv_goto (tgt := 23) hx hb dX2_putNumber_70 (by decide) ?_
            have e_23 : (nI ((n + 1 + (dgL w i).length) + 1)) = (nI (n + 1 + (dgL w (i + 1)).length)) := (by rw [dg_t (Or.inl fa), List.length_append]; rfl)
            have e_24 : (upd (appL (upd (S 15) n 45) (n + 1) (dgL w i)) (n + 1 + (dgL w i).length) (nI (48 + w / uN i % 10))) = (appL (upd (S 15) n 45) (n + 1) (dgL w (i + 1))) := (by rw [dg_t (Or.inl fa), appL_snoc])
            have hP : va_P D clW (wN cy ad (va_up I 4 (nI (n + 1 + (dgL w (i + 1)).length))) (va_up S 15 (appL (upd (S 15) n 45) (n + 1) (dgL w (i + 1))))) H := by rw [← e_23, ← e_24]; exact hP
            have hD : va_D A (wN cy ad (va_up I 4 (nI (n + 1 + (dgL w (i + 1)).length))) (va_up S 15 (appL (upd (S 15) n 45) (n + 1) (dgL w (i + 1))))) := hD.addr rfl
            exact ih23 (i + 1) (by omega) (by omega) _ _ hP hD hS ls (lv_sub hl [0, 1, 2, 3] rfl)
          · have fa : ¬ uN i ≤ w := fun q => c34_21 ((pk_lLE (a := uN i) (b := w) (by omega) (by omega)).mpr q)
            refine lv_lload hx hb dX2_putNumber_37 (lv_at hl 0 rfl) ?_
            refine lv_lconst (v := 1) hx hb dX2_putNumber_39 (by decide) ?_
            refine lc_ne (tgt := 62) hx hb dX2_putNumber_40 dX2_putNumber_41 (by decide) (fun c41_25 => ?_) (fun c41_25 => ?_)
            · have fb : ¬ uN i = 1 := fun q => c41_25 (by rw [q]; rfl)
              refine lv_lload hx hb dX2_putNumber_62 (lv_at hl 0 rfl) ?_
              refine lv_ldc2 hx hb hown (hts _ wm_951) dX2_putNumber_64 ?_
              refine lv_ldiv hx hb dX2_putNumber_67 (by decide) ?_
              refine top_eqL (y := lN (uN (i + 1))) (by rw [← uN_s]; exact pk_lDiv (a := uN i) (b := 10) (by omega) (by decide) (by decide)) ?_
              refine lv_lstore (lv' := [(4, .long (lN (uN (i + 1)))), (2, .long (lN w)), (0, .ref (ad 14)), (1, .int v)]) hx hb dX2_putNumber_68 hl (by decide) rfl (fun ls hl => ?_)
              refine lv_goto (tgt := 23) hx hb dX2_putNumber_70 (by decide) ?_
              have e_26 : (nI (n + 1 + (dgL w i).length)) = (nI (n + 1 + (dgL w (i + 1)).length)) := (by rw [dg_f (fun q => q.elim (fun q => by omega) fb)])
              have e_27 : (appL (upd (S 15) n 45) (n + 1) (dgL w i)) = (appL (upd (S 15) n 45) (n + 1) (dgL w (i + 1))) := (by rw [dg_f (fun q => q.elim (fun q => by omega) fb)])
              have hP : va_P D clW (wN cy ad (va_up I 4 (nI (n + 1 + (dgL w (i + 1)).length))) (va_up S 15 (appL (upd (S 15) n 45) (n + 1) (dgL w (i + 1))))) H := by rw [← e_26, ← e_27]; exact hP
              have hD : va_D A (wN cy ad (va_up I 4 (nI (n + 1 + (dgL w (i + 1)).length))) (va_up S 15 (appL (upd (S 15) n 45) (n + 1) (dgL w (i + 1))))) := hD.addr rfl
              exact ih23 (i + 1) (by omega) (by omega) _ _ hP hD hS ls (lv_sub hl [0, 1, 2, 3] rfl)
            · have fb : uN i = 1 := (pk_lEQ (a := uN i) (b := 1) (by omega) (by omega)).mp c41_25
              refine lv_aload_n hx hb dX2_putNumber_44 rfl (lv_at hl 2 rfl) ?_
              refine lv_ldc2 hx hb hown (hts _ wm_950) dX2_putNumber_45 ?_
              refine lv_lload_n hx hb dX2_putNumber_48 rfl (lv_at hl 1 rfl) ?_
              refine lv_lload hx hb dX2_putNumber_49 (lv_at hl 0 rfl) ?_
              refine lv_ldiv hx hb dX2_putNumber_51 fnz ?_
              refine top_eqL (y := lN (w / uN i)) (pk_lDiv (by omega) fu (by omega)) ?_
              refine lv_ldc2 hx hb hown (hts _ wm_951) dX2_putNumber_52 ?_
              refine lv_lrem hx hb dX2_putNumber_55 (by decide) ?_
              refine top_eqL (y := lN (w / uN i % 10)) (pk_lRem (a := w / uN i) (b := 10) (Nat.lt_of_le_of_lt (Nat.div_le_self _ _) (by omega)) (by decide) (by decide)) ?_
              refine lv_ladd hx hb dX2_putNumber_56 ?_
              refine top_eqL (y := lN (48 + w / uN i % 10)) (lN_add 48 (w / uN i % 10)) ?_
              refine lv_l2i (v := (lN (48 + w / uN i % 10)).toInt32) hx hb dX2_putNumber_57 rfl ?_
              refine top_eq (y := nI (48 + w / uN i % 10)) (lN_i _) ?_
              refine lv_i2c (v := ((nI (48 + w / uN i % 10)).toUInt32 % 65536).toInt32) hx hb dX2_putNumber_58 rfl ?_
              refine top_eq (y := nI (48 + w / uN i % 10)) (c_nI (by omega)) ?_
              refine wV_call (va_runV (As := [.int (nI (48 + w / uN i % 10))]) (rest := []) ⟨hx, hb, hml, hown, hts⟩ (c_X2_put l D cy ad (va_up I 4 (nI (n + 1 + (dgL w i).length))) (va_up S 15 (appL (upd (S 15) n 45) (n + 1) (dgL w i))) H.size (nI (48 + w / uN i % 10)) (n + 1 + (dgL w i).length) rfl (by omega) (nar_c (by omega))) (cw_X2_25 hts rfl rfl ⟨Nat.le_of_ble_eq_true rfl, Nat.le_of_ble_eq_true rfl⟩) (preVW (ci := 2) (q0 := 0) hK hP hD rfl rfl) rfl rfl hl.1 rfl (lv_room (Nat.le_of_ble_eq_true rfl)) dX2_putNumber_59 ⟨Nat.le_of_ble_eq_true rfl, Nat.le_of_ble_eq_true rfl⟩) hP hD hS hA [0, 1] rfl [.inr 0, .inr 1] (by decide) (fun u => (wN cy ad (va_up I 4 (nI ((n + 1 + (dgL w i).length) + 1))) (va_up S 15 (upd (appL (upd (S 15) n 45) (n + 1) (dgL w i)) (n + 1 + (dgL w i).length) (nI (48 + w / uN i % 10)))))) (fun _ => rfl) (fun _ => rfl) (fun u59_28 H locs q59_28 hP hD hS hkp => ?_)
              have hP : va_P D clW (wN cy ad (va_up I 4 (nI ((n + 1 + (dgL w i).length) + 1))) (va_up S 15 (upd (appL (upd (S 15) n 45) (n + 1) (dgL w i)) (n + 1 + (dgL w i).length) (nI (48 + w / uN i % 10))))) H := hP
              have hD : va_D A (wN cy ad (va_up I 4 (nI ((n + 1 + (dgL w i).length) + 1))) (va_up S 15 (upd (appL (upd (S 15) n 45) (n + 1) (dgL w i)) (n + 1 + (dgL w i).length) (nI (48 + w / uN i % 10))))) := hD
              refine lv_lload hx hb dX2_putNumber_62 (lv_at hl 0 rfl) ?_
              refine lv_ldc2 hx hb hown (hts _ wm_951) dX2_putNumber_64 ?_
              refine lv_ldiv hx hb dX2_putNumber_67 (by decide) ?_
              refine top_eqL (y := lN (uN (i + 1))) (by rw [← uN_s]; exact pk_lDiv (a := uN i) (b := 10) (by omega) (by decide) (by decide)) ?_
              refine lv_lstore (lv' := [(4, .long (lN (uN (i + 1)))), (2, .long (lN w)), (0, .ref (ad 14)), (1, .int v)]) hx hb dX2_putNumber_68 hl (by decide) rfl (fun ls hl => ?_)
              refine lv_goto (tgt := 23) hx hb dX2_putNumber_70 (by decide) ?_
              have e_29 : (nI ((n + 1 + (dgL w i).length) + 1)) = (nI (n + 1 + (dgL w (i + 1)).length)) := (by rw [dg_t (Or.inr fb), List.length_append]; rfl)
              have e_30 : (upd (appL (upd (S 15) n 45) (n + 1) (dgL w i)) (n + 1 + (dgL w i).length) (nI (48 + w / uN i % 10))) = (appL (upd (S 15) n 45) (n + 1) (dgL w (i + 1))) := (by rw [dg_t (Or.inr fb), appL_snoc])
              have hP : va_P D clW (wN cy ad (va_up I 4 (nI (n + 1 + (dgL w (i + 1)).length))) (va_up S 15 (appL (upd (S 15) n 45) (n + 1) (dgL w (i + 1))))) H := by rw [← e_29, ← e_30]; exact hP
              have hD : va_D A (wN cy ad (va_up I 4 (nI (n + 1 + (dgL w (i + 1)).length))) (va_up S 15 (appL (upd (S 15) n 45) (n + 1) (dgL w (i + 1))))) := hD.addr rfl
              exact ih23 (i + 1) (by omega) (by omega) _ _ hP hD hS ls (lv_sub hl [0, 1, 2, 3] rfl)
    have e_31 : (nI (n + 1)) = (nI (n + 1 + (dgL w 0).length)) := rfl
    have e_32 : (upd (S 15) n 45) = (appL (upd (S 15) n 45) (n + 1) (dgL w 0)) := rfl
    have hP : va_P D clW (wN cy ad (va_up I 4 (nI (n + 1 + (dgL w 0).length))) (va_up S 15 (appL (upd (S 15) n 45) (n + 1) (dgL w 0)))) H := by rw [← e_31, ← e_32]; exact hP
    have hD : va_D A (wN cy ad (va_up I 4 (nI (n + 1 + (dgL w 0).length))) (va_up S 15 (appL (upd (S 15) n 45) (n + 1) (dgL w 0)))) := hD.addr rfl
    exact L23 (10 + 1) 0 (by omega) (by omega) _ _ hP hD hS ls (lv_sub hl [0, 1, 2, 3] rfl)

set_option maxHeartbeats 4000000 in
set_option maxRecDepth 100000 in
theorem c_X2_write (l : Launch) (D : va_G) (cy : Nat → ClassId) (ad : Nat → Nat) (I : AI) (S : AS) (sz : Nat) (q : Nat) (hq : I 5 = nI q) (hq6 : q ≤ 100) (hF : ∀ j : Nat, j < q → ∃ x : Nat, S 23 j = nI x ∧ x < 100) (hT : ∀ j : Nat, j < q → ∃ y : Nat, S 24 j = nI y ∧ y ≤ 100) : Met l yX2_write (Cond.code yX2_write cX2_write 4 none :: wsL_law) ({ frames := 2, cells := 0, slots := 0, locals := 46 }) (va_Pc [.ref (ad 14), .ref (ad 22), .ref (ad 16)] (wrB D cy (wN cy ad I S ++ wP cy ad I S ++ wK cy ad 16 S) sz)) (va_Qv (S := Unit) (fun u => True) (fun u t9 => va_P D clW (wN cy ad (va_up I 4 (nI (wrL S q).length)) (va_up S 15 (appL (S 15) 0 (wrL S q))) ++ wP cy ad (va_up I 4 (nI (wrL S q).length)) (va_up S 15 (appL (S 15) 0 (wrL S q))) ++ wK cy ad 16 (va_up S 15 (appL (S 15) 0 (wrL S q)))) t9.heap) (va_A (wN cy ad I S ++ wP cy ad I S ++ wK cy ad 16 S) sz)) 0 0 (va_A (wN cy ad I S ++ wP cy ad I S ++ wK cy ad 16 S) sz) := by
  refine enter (cc := cX2_write) (by decide) (Nat.le_of_ble_eq_true rfl) ?_
  intro p e s m below meth c hx hb hr hml hown hts hlocks hin hv Q hQ ls hl
  obtain ⟨hsz, hP, hK, hD0⟩ := hv
  subst hsz
  have hD := hD0.self (sz := s.heap.size)
  generalize hAe : va_A (wN cy ad I S ++ wP cy ad I S ++ wK cy ad 16 S) s.heap.size = A at hD hQ ⊢
  have hA : ∀ q : Nat, s.heap.size ≤ q → A q := fun q h => by rw [← hAe]; exact Or.inr h
  have hS : va_S A s.heap s.heap [] := va_S.rf
  suffices K_ : ∀ (H : Heap) (locs : List Loc), va_P D clW (wN cy ad I S ++ wP cy ad I S ++ wK cy ad 16 S) H → va_S A s.heap H locs → W p l e ({ frames := 2, cells := 0, slots := 0, locals := 46 }) s m ([.ref (ad 14), .ref (ad 22), .ref (ad 16)] : List Value).toArray below meth c H locs 0 0 Q (F0 m 0 ls []) from K_ _ _ hP hS
  clear hP hS
  intro H locs hP hS
  have hown : s.vm.findClass RX2 = some m.cls := hown
  have hl : lv_has ls 4 [(0, .ref (ad 14)), (1, .ref (ad 22)), (2, .ref (ad 16))] := hl
  refine lv_aload_n hx hb dX2_write_0 rfl (lv_at hl 0 rfl) ?_
  refine lv_iconst (v := 0) hx hb dX2_write_1 (by decide) ?_
  refine pf_X2_15 hx hb hts hown hK hP hD hS 0 rfl (Nat.le_of_ble_eq_true rfl) dX2_write_2 (fun H locs hP hD hS => ?_)
  have hP : va_P D clW (wN cy ad (va_up I 4 0) S ++ wP cy ad (va_up I 4 0) S ++ wK cy ad 16 S) H := hP
  have hD : va_D A (wN cy ad (va_up I 4 0) S ++ wP cy ad (va_up I 4 0) S ++ wK cy ad 16 S) := hD
  refine lv_iconst (v := 0) hx hb dX2_write_5 (by decide) ?_
  refine lv_istore_n (lv' := [(3, .int 0), (0, .ref (ad 14)), (1, .ref (ad 22)), (2, .ref (ad 16))]) hx hb dX2_write_6 rfl hl (by decide) rfl (fun ls hl => ?_)
  have L7 : ∀ (n_7 i : Nat), i ≤ q → q + 1 ≤ i + n_7 → ∀ (H : Heap) (locs : List Loc), va_P D clW (wN cy ad (va_up I 4 (nI (wrL S i).length)) (va_up S 15 (appL (S 15) 0 (wrL S i))) ++ wP cy ad (va_up I 4 (nI (wrL S i).length)) (va_up S 15 (appL (S 15) 0 (wrL S i))) ++ wK cy ad 16 (va_up S 15 (appL (S 15) 0 (wrL S i)))) H → va_D A (wN cy ad (va_up I 4 (nI (wrL S i).length)) (va_up S 15 (appL (S 15) 0 (wrL S i))) ++ wP cy ad (va_up I 4 (nI (wrL S i).length)) (va_up S 15 (appL (S 15) 0 (wrL S i))) ++ wK cy ad 16 (va_up S 15 (appL (S 15) 0 (wrL S i)))) → va_S A s.heap H locs → ∀ (ls : Array Slot), lv_has ls 4 [(3, .int (nI i)), (0, .ref (ad 14)), (1, .ref (ad 22)), (2, .ref (ad 16))] → W p l e { frames := 2, cells := 0, slots := 0, locals := 46 } s m ([.ref (ad 14), .ref (ad 22), .ref (ad 16)] : List Value).toArray below meth c H locs 0 0 Q (F0 m 7 ls []) := by
    clear hl
    intro n_7
    induction n_7 with
    | zero => intro i  hle_7 hn_7; exact absurd hn_7 (by omega)
    | succ n_7 ih7 =>
      intro i  hle_7 hn_7  H locs hP hD hS ls hl
      have hwl := wrL_len hF hT (i := i) (by omega)
      refine lv_iload_n hx hb dX2_write_7 rfl (lv_at hl 0 rfl) ?_
      refine lv_aload_n hx hb dX2_write_8 rfl (lv_at hl 2 rfl) ?_
      refine rI_call (va_runV (As := []) (rest := [.int (nI i)]) ⟨hx, hb, hml, hown, hts⟩ (c_X4_size l D cy ad (va_up I 4 (nI (wrL S i).length)) (va_up S 15 (appL (S 15) 0 (wrL S i)))) (cw_X2_19 hts rfl rfl ⟨Nat.le_of_ble_eq_true rfl, Nat.le_of_ble_eq_true rfl⟩) (preVR (ci := 4) (q0 := 0) hK (hP.sub [2, 3, 4] rfl) rfl rfl) rfl rfl hl.1 rfl (lv_room (Nat.le_of_ble_eq_true rfl)) dX2_write_9 ⟨Nat.le_of_ble_eq_true rfl, Nat.le_of_ble_eq_true rfl⟩) (fun r hr_ => ?_)
      subst hr_
      refine top_eq hq ?_
      refine lv_icmp_ge (tgt := 74) hx hb dX2_write_12 (by decide) (fun c12_1 => ?_) (fun c12_1 => ?_)
      · have f12_1 : q ≤ i := nt_le (a := q) (b := i) (by omega) (by omega) c12_1
        have e_2 : (nI (wrL S i).length) = (nI (wrL S q).length) := (by rw [show i = q by omega])
        have e_3 : (appL (S 15) 0 (wrL S i)) = (appL (S 15) 0 (wrL S q)) := (by rw [show i = q by omega])
        have hP : va_P D clW (wN cy ad (va_up I 4 (nI (wrL S q).length)) (va_up S 15 (appL (S 15) 0 (wrL S q))) ++ wP cy ad (va_up I 4 (nI (wrL S q).length)) (va_up S 15 (appL (S 15) 0 (wrL S q))) ++ wK cy ad 16 (va_up S 15 (appL (S 15) 0 (wrL S q)))) H := by rw [← e_2, ← e_3]; exact hP
        have hD : va_D A (wN cy ad (va_up I 4 (nI (wrL S q).length)) (va_up S 15 (appL (S 15) 0 (wrL S q))) ++ wP cy ad (va_up I 4 (nI (wrL S q).length)) (va_up S 15 (appL (S 15) 0 (wrL S q))) ++ wK cy ad 16 (va_up S 15 (appL (S 15) 0 (wrL S q)))) := hD.addr rfl
        exact wV_ret () hS hP hx hb hr hlocks dX2_write_74 (Nat.le_of_ble_eq_true rfl) (Nat.le_of_ble_eq_true rfl) hQ trivial
      · have fi : i < q := nt_nle (a := q) (b := i) (by omega) (by omega) c12_1
        have hel := enL_len (hF i fi) (hT i fi)
        refine lv_iload_n hx hb dX2_write_15 rfl (lv_at hl 0 rfl) ?_
        refine lv_if_le (tgt := 25) hx hb dX2_write_16 (by decide) (fun c16_4 => ?_) (fun c16_4 => ?_)
        · have f16 : i ≤ 0 := nt_le (a := i) (b := 0) (by omega) (by omega) c16_4
          refine lv_aload_n hx hb dX2_write_25 rfl (lv_at hl 1 rfl) ?_
          refine lv_aload_n hx hb dX2_write_26 rfl (lv_at hl 2 rfl) ?_
          refine lv_iload_n hx hb dX2_write_27 rfl (lv_at hl 0 rfl) ?_
          refine rI_call (va_runV (As := [.int (nI i)]) (rest := [.ref (ad 14)]) ⟨hx, hb, hml, hown, hts⟩ (c_X4_firstDay l D cy ad (va_up I 4 (nI (wrL S i).length)) (va_up S 15 (appL (S 15) 0 (wrL S i))) i q hq (by omega) (by omega)) (cw_X2_29 hts rfl rfl ⟨Nat.le_of_ble_eq_true rfl, Nat.le_of_ble_eq_true rfl⟩) (preVR (ci := 4) (q0 := 0) hK (hP.sub [2, 3, 4] rfl) rfl rfl) rfl rfl hl.1 rfl (lv_room (Nat.le_of_ble_eq_true rfl)) dX2_write_28 ⟨Nat.le_of_ble_eq_true rfl, Nat.le_of_ble_eq_true rfl⟩) (fun r hr_ => ?_)
          subst hr_
          refine top_eq (y := ((S 23) i)) rfl ?_
          refine wV_call (va_runV (As := [.int ((S 23) i)]) (rest := []) ⟨hx, hb, hml, hown, hts⟩ (c_X2_putNumber l D cy ad (va_up I 4 (nI (wrL S i).length)) (va_up S 15 (appL (S 15) 0 (wrL S i))) H.size ((S 23) i) ((wrL S i).length) rfl (by omega)) (cw_X2_33 hts rfl rfl ⟨Nat.le_of_ble_eq_true rfl, Nat.le_of_ble_eq_true rfl⟩) (preVW (ci := 2) (q0 := 0) hK (hP.sub [0, 1] rfl) (hD.sub [0, 1] (by decide) rfl) rfl rfl) rfl rfl hl.1 rfl (lv_room (Nat.le_of_ble_eq_true rfl)) dX2_write_31 ⟨Nat.le_of_ble_eq_true rfl, Nat.le_of_ble_eq_true rfl⟩) hP hD hS hA [0, 1] rfl [.inr 0, .inr 1, .inl 2, .inl 3, .inl 4, .inl 5, .inl 6, .inl 7] (by decide) (fun u => (wN cy ad (va_up I 4 (nI (((wrL S i).length) + (numL ((S 23) i)).length))) (va_up S 15 (appL (appL (S 15) 0 (wrL S i)) ((wrL S i).length) (numL ((S 23) i)))) ++ wP cy ad (va_up I 4 (nI (((wrL S i).length) + (numL ((S 23) i)).length))) (va_up S 15 (appL (appL (S 15) 0 (wrL S i)) ((wrL S i).length) (numL ((S 23) i)))) ++ wK cy ad 16 (va_up S 15 (appL (appL (S 15) 0 (wrL S i)) ((wrL S i).length) (numL ((S 23) i)))))) (fun _ => rfl) (fun _ => rfl) (fun u31_5 H locs q31_5 hP hD hS hkp => ?_)
          have hP : va_P D clW (wN cy ad (va_up I 4 (nI (((wrL S i).length) + (numL ((S 23) i)).length))) (va_up S 15 (appL (appL (S 15) 0 (wrL S i)) ((wrL S i).length) (numL ((S 23) i)))) ++ wP cy ad (va_up I 4 (nI (((wrL S i).length) + (numL ((S 23) i)).length))) (va_up S 15 (appL (appL (S 15) 0 (wrL S i)) ((wrL S i).length) (numL ((S 23) i)))) ++ wK cy ad 16 (va_up S 15 (appL (appL (S 15) 0 (wrL S i)) ((wrL S i).length) (numL ((S 23) i))))) H := hP
          have hD : va_D A (wN cy ad (va_up I 4 (nI (((wrL S i).length) + (numL ((S 23) i)).length))) (va_up S 15 (appL (appL (S 15) 0 (wrL S i)) ((wrL S i).length) (numL ((S 23) i)))) ++ wP cy ad (va_up I 4 (nI (((wrL S i).length) + (numL ((S 23) i)).length))) (va_up S 15 (appL (appL (S 15) 0 (wrL S i)) ((wrL S i).length) (numL ((S 23) i)))) ++ wK cy ad 16 (va_up S 15 (appL (appL (S 15) 0 (wrL S i)) ((wrL S i).length) (numL ((S 23) i))))) := hD
          refine lv_aload_n hx hb dX2_write_34 rfl (lv_at hl 1 rfl) ?_
          refine lv_bipush (v := 45) hx hb dX2_write_35 (by decide) ?_
          refine wV_call (va_runV (As := [.int 45]) (rest := []) ⟨hx, hb, hml, hown, hts⟩ (c_X2_put l D cy ad (va_up I 4 (nI (((wrL S i).length) + (numL ((S 23) i)).length))) (va_up S 15 (appL (appL (S 15) 0 (wrL S i)) ((wrL S i).length) (numL ((S 23) i)))) H.size 45 ((wrL S i).length + (numL (S 23 i)).length) rfl (by omega) rfl) (cw_X2_25 hts rfl rfl ⟨Nat.le_of_ble_eq_true rfl, Nat.le_of_ble_eq_true rfl⟩) (preVW (ci := 2) (q0 := 0) hK (hP.sub [0, 1] rfl) (hD.sub [0, 1] (by decide) rfl) rfl rfl) rfl rfl hl.1 rfl (lv_room (Nat.le_of_ble_eq_true rfl)) dX2_write_37 ⟨Nat.le_of_ble_eq_true rfl, Nat.le_of_ble_eq_true rfl⟩) hP hD hS hA [0, 1] rfl [.inr 0, .inr 1, .inl 2, .inl 3, .inl 4, .inl 5, .inl 6, .inl 7] (by decide) (fun u => (wN cy ad (va_up I 4 (nI (((wrL S i).length + (numL (S 23 i)).length) + 1))) (va_up S 15 (upd (appL (appL (S 15) 0 (wrL S i)) ((wrL S i).length) (numL ((S 23) i))) ((wrL S i).length + (numL (S 23 i)).length) 45)) ++ wP cy ad (va_up I 4 (nI (((wrL S i).length + (numL (S 23 i)).length) + 1))) (va_up S 15 (upd (appL (appL (S 15) 0 (wrL S i)) ((wrL S i).length) (numL ((S 23) i))) ((wrL S i).length + (numL (S 23 i)).length) 45)) ++ wK cy ad 16 (va_up S 15 (upd (appL (appL (S 15) 0 (wrL S i)) ((wrL S i).length) (numL ((S 23) i))) ((wrL S i).length + (numL (S 23 i)).length) 45)))) (fun _ => rfl) (fun _ => rfl) (fun u37_6 H locs q37_6 hP hD hS hkp => ?_)
          have hP : va_P D clW (wN cy ad (va_up I 4 (nI (((wrL S i).length + (numL (S 23 i)).length) + 1))) (va_up S 15 (upd (appL (appL (S 15) 0 (wrL S i)) ((wrL S i).length) (numL ((S 23) i))) ((wrL S i).length + (numL (S 23 i)).length) 45)) ++ wP cy ad (va_up I 4 (nI (((wrL S i).length + (numL (S 23 i)).length) + 1))) (va_up S 15 (upd (appL (appL (S 15) 0 (wrL S i)) ((wrL S i).length) (numL ((S 23) i))) ((wrL S i).length + (numL (S 23 i)).length) 45)) ++ wK cy ad 16 (va_up S 15 (upd (appL (appL (S 15) 0 (wrL S i)) ((wrL S i).length) (numL ((S 23) i))) ((wrL S i).length + (numL (S 23 i)).length) 45))) H := hP
          have hD : va_D A (wN cy ad (va_up I 4 (nI (((wrL S i).length + (numL (S 23 i)).length) + 1))) (va_up S 15 (upd (appL (appL (S 15) 0 (wrL S i)) ((wrL S i).length) (numL ((S 23) i))) ((wrL S i).length + (numL (S 23 i)).length) 45)) ++ wP cy ad (va_up I 4 (nI (((wrL S i).length + (numL (S 23 i)).length) + 1))) (va_up S 15 (upd (appL (appL (S 15) 0 (wrL S i)) ((wrL S i).length) (numL ((S 23) i))) ((wrL S i).length + (numL (S 23 i)).length) 45)) ++ wK cy ad 16 (va_up S 15 (upd (appL (appL (S 15) 0 (wrL S i)) ((wrL S i).length) (numL ((S 23) i))) ((wrL S i).length + (numL (S 23 i)).length) 45))) := hD
          refine lv_aload_n hx hb dX2_write_40 rfl (lv_at hl 1 rfl) ?_
          refine lv_aload_n hx hb dX2_write_41 rfl (lv_at hl 2 rfl) ?_
          refine lv_iload_n hx hb dX2_write_42 rfl (lv_at hl 0 rfl) ?_
          refine rI_call (va_runV (As := [.int (nI i)]) (rest := [.ref (ad 14)]) ⟨hx, hb, hml, hown, hts⟩ (c_X4_dayAfter l D cy ad (va_up I 4 (nI (((wrL S i).length + (numL (S 23 i)).length) + 1))) (va_up S 15 (upd (appL (appL (S 15) 0 (wrL S i)) ((wrL S i).length) (numL ((S 23) i))) ((wrL S i).length + (numL (S 23 i)).length) 45)) i q hq (by omega) (by omega)) (cw_X2_37 hts rfl rfl ⟨Nat.le_of_ble_eq_true rfl, Nat.le_of_ble_eq_true rfl⟩) (preVR (ci := 4) (q0 := 0) hK (hP.sub [2, 3, 4] rfl) rfl rfl) rfl rfl hl.1 rfl (lv_room (Nat.le_of_ble_eq_true rfl)) dX2_write_43 ⟨Nat.le_of_ble_eq_true rfl, Nat.le_of_ble_eq_true rfl⟩) (fun r hr_ => ?_)
          subst hr_
          refine top_eq (y := ((S 24) i)) rfl ?_
          refine wV_call (va_runV (As := [.int ((S 24) i)]) (rest := []) ⟨hx, hb, hml, hown, hts⟩ (c_X2_putNumber l D cy ad (va_up I 4 (nI (((wrL S i).length + (numL (S 23 i)).length) + 1))) (va_up S 15 (upd (appL (appL (S 15) 0 (wrL S i)) ((wrL S i).length) (numL ((S 23) i))) ((wrL S i).length + (numL (S 23 i)).length) 45)) H.size ((S 24) i) ((wrL S i).length + (numL (S 23 i)).length + 1) rfl (by omega)) (cw_X2_33 hts rfl rfl ⟨Nat.le_of_ble_eq_true rfl, Nat.le_of_ble_eq_true rfl⟩) (preVW (ci := 2) (q0 := 0) hK (hP.sub [0, 1] rfl) (hD.sub [0, 1] (by decide) rfl) rfl rfl) rfl rfl hl.1 rfl (lv_room (Nat.le_of_ble_eq_true rfl)) dX2_write_46 ⟨Nat.le_of_ble_eq_true rfl, Nat.le_of_ble_eq_true rfl⟩) hP hD hS hA [0, 1] rfl [.inr 0, .inr 1, .inl 2, .inl 3, .inl 4, .inl 5, .inl 6, .inl 7] (by decide) (fun u => (wN cy ad (va_up I 4 (nI (((wrL S i).length + (numL (S 23 i)).length + 1) + (numL ((S 24) i)).length))) (va_up S 15 (appL (upd (appL (appL (S 15) 0 (wrL S i)) ((wrL S i).length) (numL ((S 23) i))) ((wrL S i).length + (numL (S 23 i)).length) 45) ((wrL S i).length + (numL (S 23 i)).length + 1) (numL ((S 24) i)))) ++ wP cy ad (va_up I 4 (nI (((wrL S i).length + (numL (S 23 i)).length + 1) + (numL ((S 24) i)).length))) (va_up S 15 (appL (upd (appL (appL (S 15) 0 (wrL S i)) ((wrL S i).length) (numL ((S 23) i))) ((wrL S i).length + (numL (S 23 i)).length) 45) ((wrL S i).length + (numL (S 23 i)).length + 1) (numL ((S 24) i)))) ++ wK cy ad 16 (va_up S 15 (appL (upd (appL (appL (S 15) 0 (wrL S i)) ((wrL S i).length) (numL ((S 23) i))) ((wrL S i).length + (numL (S 23 i)).length) 45) ((wrL S i).length + (numL (S 23 i)).length + 1) (numL ((S 24) i)))))) (fun _ => rfl) (fun _ => rfl) (fun u46_7 H locs q46_7 hP hD hS hkp => ?_)
          have hP : va_P D clW (wN cy ad (va_up I 4 (nI (((wrL S i).length + (numL (S 23 i)).length + 1) + (numL ((S 24) i)).length))) (va_up S 15 (appL (upd (appL (appL (S 15) 0 (wrL S i)) ((wrL S i).length) (numL ((S 23) i))) ((wrL S i).length + (numL (S 23 i)).length) 45) ((wrL S i).length + (numL (S 23 i)).length + 1) (numL ((S 24) i)))) ++ wP cy ad (va_up I 4 (nI (((wrL S i).length + (numL (S 23 i)).length + 1) + (numL ((S 24) i)).length))) (va_up S 15 (appL (upd (appL (appL (S 15) 0 (wrL S i)) ((wrL S i).length) (numL ((S 23) i))) ((wrL S i).length + (numL (S 23 i)).length) 45) ((wrL S i).length + (numL (S 23 i)).length + 1) (numL ((S 24) i)))) ++ wK cy ad 16 (va_up S 15 (appL (upd (appL (appL (S 15) 0 (wrL S i)) ((wrL S i).length) (numL ((S 23) i))) ((wrL S i).length + (numL (S 23 i)).length) 45) ((wrL S i).length + (numL (S 23 i)).length + 1) (numL ((S 24) i))))) H := hP
          have hD : va_D A (wN cy ad (va_up I 4 (nI (((wrL S i).length + (numL (S 23 i)).length + 1) + (numL ((S 24) i)).length))) (va_up S 15 (appL (upd (appL (appL (S 15) 0 (wrL S i)) ((wrL S i).length) (numL ((S 23) i))) ((wrL S i).length + (numL (S 23 i)).length) 45) ((wrL S i).length + (numL (S 23 i)).length + 1) (numL ((S 24) i)))) ++ wP cy ad (va_up I 4 (nI (((wrL S i).length + (numL (S 23 i)).length + 1) + (numL ((S 24) i)).length))) (va_up S 15 (appL (upd (appL (appL (S 15) 0 (wrL S i)) ((wrL S i).length) (numL ((S 23) i))) ((wrL S i).length + (numL (S 23 i)).length) 45) ((wrL S i).length + (numL (S 23 i)).length + 1) (numL ((S 24) i)))) ++ wK cy ad 16 (va_up S 15 (appL (upd (appL (appL (S 15) 0 (wrL S i)) ((wrL S i).length) (numL ((S 23) i))) ((wrL S i).length + (numL (S 23 i)).length) 45) ((wrL S i).length + (numL (S 23 i)).length + 1) (numL ((S 24) i))))) := hD
          refine lv_aload_n hx hb dX2_write_49 rfl (lv_at hl 1 rfl) ?_
          refine lv_bipush (v := 61) hx hb dX2_write_50 (by decide) ?_
          refine wV_call (va_runV (As := [.int 61]) (rest := []) ⟨hx, hb, hml, hown, hts⟩ (c_X2_put l D cy ad (va_up I 4 (nI (((wrL S i).length + (numL (S 23 i)).length + 1) + (numL ((S 24) i)).length))) (va_up S 15 (appL (upd (appL (appL (S 15) 0 (wrL S i)) ((wrL S i).length) (numL ((S 23) i))) ((wrL S i).length + (numL (S 23 i)).length) 45) ((wrL S i).length + (numL (S 23 i)).length + 1) (numL ((S 24) i)))) H.size 61 ((wrL S i).length + (numL (S 23 i)).length + 1 + (numL (S 24 i)).length) rfl (by omega) rfl) (cw_X2_25 hts rfl rfl ⟨Nat.le_of_ble_eq_true rfl, Nat.le_of_ble_eq_true rfl⟩) (preVW (ci := 2) (q0 := 0) hK (hP.sub [0, 1] rfl) (hD.sub [0, 1] (by decide) rfl) rfl rfl) rfl rfl hl.1 rfl (lv_room (Nat.le_of_ble_eq_true rfl)) dX2_write_52 ⟨Nat.le_of_ble_eq_true rfl, Nat.le_of_ble_eq_true rfl⟩) hP hD hS hA [0, 1] rfl [.inr 0, .inr 1, .inl 2, .inl 3, .inl 4, .inl 5, .inl 6, .inl 7] (by decide) (fun u => (wN cy ad (va_up I 4 (nI (((wrL S i).length + (numL (S 23 i)).length + 1 + (numL (S 24 i)).length) + 1))) (va_up S 15 (upd (appL (upd (appL (appL (S 15) 0 (wrL S i)) ((wrL S i).length) (numL ((S 23) i))) ((wrL S i).length + (numL (S 23 i)).length) 45) ((wrL S i).length + (numL (S 23 i)).length + 1) (numL ((S 24) i))) ((wrL S i).length + (numL (S 23 i)).length + 1 + (numL (S 24 i)).length) 61)) ++ wP cy ad (va_up I 4 (nI (((wrL S i).length + (numL (S 23 i)).length + 1 + (numL (S 24 i)).length) + 1))) (va_up S 15 (upd (appL (upd (appL (appL (S 15) 0 (wrL S i)) ((wrL S i).length) (numL ((S 23) i))) ((wrL S i).length + (numL (S 23 i)).length) 45) ((wrL S i).length + (numL (S 23 i)).length + 1) (numL ((S 24) i))) ((wrL S i).length + (numL (S 23 i)).length + 1 + (numL (S 24 i)).length) 61)) ++ wK cy ad 16 (va_up S 15 (upd (appL (upd (appL (appL (S 15) 0 (wrL S i)) ((wrL S i).length) (numL ((S 23) i))) ((wrL S i).length + (numL (S 23 i)).length) 45) ((wrL S i).length + (numL (S 23 i)).length + 1) (numL ((S 24) i))) ((wrL S i).length + (numL (S 23 i)).length + 1 + (numL (S 24 i)).length) 61)))) (fun _ => rfl) (fun _ => rfl) (fun u52_8 H locs q52_8 hP hD hS hkp => ?_)
          have hP : va_P D clW (wN cy ad (va_up I 4 (nI (((wrL S i).length + (numL (S 23 i)).length + 1 + (numL (S 24 i)).length) + 1))) (va_up S 15 (upd (appL (upd (appL (appL (S 15) 0 (wrL S i)) ((wrL S i).length) (numL ((S 23) i))) ((wrL S i).length + (numL (S 23 i)).length) 45) ((wrL S i).length + (numL (S 23 i)).length + 1) (numL ((S 24) i))) ((wrL S i).length + (numL (S 23 i)).length + 1 + (numL (S 24 i)).length) 61)) ++ wP cy ad (va_up I 4 (nI (((wrL S i).length + (numL (S 23 i)).length + 1 + (numL (S 24 i)).length) + 1))) (va_up S 15 (upd (appL (upd (appL (appL (S 15) 0 (wrL S i)) ((wrL S i).length) (numL ((S 23) i))) ((wrL S i).length + (numL (S 23 i)).length) 45) ((wrL S i).length + (numL (S 23 i)).length + 1) (numL ((S 24) i))) ((wrL S i).length + (numL (S 23 i)).length + 1 + (numL (S 24 i)).length) 61)) ++ wK cy ad 16 (va_up S 15 (upd (appL (upd (appL (appL (S 15) 0 (wrL S i)) ((wrL S i).length) (numL ((S 23) i))) ((wrL S i).length + (numL (S 23 i)).length) 45) ((wrL S i).length + (numL (S 23 i)).length + 1) (numL ((S 24) i))) ((wrL S i).length + (numL (S 23 i)).length + 1 + (numL (S 24 i)).length) 61))) H := hP
          have hD : va_D A (wN cy ad (va_up I 4 (nI (((wrL S i).length + (numL (S 23 i)).length + 1 + (numL (S 24 i)).length) + 1))) (va_up S 15 (upd (appL (upd (appL (appL (S 15) 0 (wrL S i)) ((wrL S i).length) (numL ((S 23) i))) ((wrL S i).length + (numL (S 23 i)).length) 45) ((wrL S i).length + (numL (S 23 i)).length + 1) (numL ((S 24) i))) ((wrL S i).length + (numL (S 23 i)).length + 1 + (numL (S 24 i)).length) 61)) ++ wP cy ad (va_up I 4 (nI (((wrL S i).length + (numL (S 23 i)).length + 1 + (numL (S 24 i)).length) + 1))) (va_up S 15 (upd (appL (upd (appL (appL (S 15) 0 (wrL S i)) ((wrL S i).length) (numL ((S 23) i))) ((wrL S i).length + (numL (S 23 i)).length) 45) ((wrL S i).length + (numL (S 23 i)).length + 1) (numL ((S 24) i))) ((wrL S i).length + (numL (S 23 i)).length + 1 + (numL (S 24 i)).length) 61)) ++ wK cy ad 16 (va_up S 15 (upd (appL (upd (appL (appL (S 15) 0 (wrL S i)) ((wrL S i).length) (numL ((S 23) i))) ((wrL S i).length + (numL (S 23 i)).length) 45) ((wrL S i).length + (numL (S 23 i)).length + 1) (numL ((S 24) i))) ((wrL S i).length + (numL (S 23 i)).length + 1 + (numL (S 24 i)).length) 61))) := hD
          refine lv_aload_n hx hb dX2_write_55 rfl (lv_at hl 1 rfl) ?_
          refine lv_aload_n hx hb dX2_write_56 rfl (lv_at hl 3 rfl) ?_
          refine lv_aload_n hx hb dX2_write_57 rfl (lv_at hl 2 rfl) ?_
          refine lv_iload_n hx hb dX2_write_58 rfl (lv_at hl 0 rfl) ?_
          refine rI_call (va_runV (As := [.int (nI i)]) (rest := [.ref (ad 16), .ref (ad 14)]) ⟨hx, hb, hml, hown, hts⟩ (c_X4_firstDay l D cy ad (va_up I 4 (nI (((wrL S i).length + (numL (S 23 i)).length + 1 + (numL (S 24 i)).length) + 1))) (va_up S 15 (upd (appL (upd (appL (appL (S 15) 0 (wrL S i)) ((wrL S i).length) (numL ((S 23) i))) ((wrL S i).length + (numL (S 23 i)).length) 45) ((wrL S i).length + (numL (S 23 i)).length + 1) (numL ((S 24) i))) ((wrL S i).length + (numL (S 23 i)).length + 1 + (numL (S 24 i)).length) 61)) i q hq (by omega) (by omega)) (cw_X2_29 hts rfl rfl ⟨Nat.le_of_ble_eq_true rfl, Nat.le_of_ble_eq_true rfl⟩) (preVR (ci := 4) (q0 := 0) hK (hP.sub [2, 3, 4] rfl) rfl rfl) rfl rfl hl.1 rfl (lv_room (Nat.le_of_ble_eq_true rfl)) dX2_write_59 ⟨Nat.le_of_ble_eq_true rfl, Nat.le_of_ble_eq_true rfl⟩) (fun r hr_ => ?_)
          subst hr_
          refine top_eq (y := ((S 23) i)) rfl ?_
          refine rI_call (va_runV (As := [.int ((S 23) i)]) (rest := [.ref (ad 14)]) ⟨hx, hb, hml, hown, hts⟩ (c_X1_value_16 l D cy ad (va_up S 15 (upd (appL (upd (appL (appL (S 15) 0 (wrL S i)) ((wrL S i).length) (numL ((S 23) i))) ((wrL S i).length + (numL (S 23 i)).length) 45) ((wrL S i).length + (numL (S 23 i)).length + 1) (numL ((S 24) i))) ((wrL S i).length + (numL (S 23 i)).length + 1 + (numL (S 24 i)).length) 61)) ((S 23) i)) (cw_X2_40 hts rfl rfl ⟨Nat.le_of_ble_eq_true rfl, Nat.le_of_ble_eq_true rfl⟩) (preVR (ci := 1) (q0 := 0) hK (hP.sub [5, 6, 7] rfl) rfl rfl) rfl rfl hl.1 rfl (lv_room (Nat.le_of_ble_eq_true rfl)) dX2_write_62 ⟨Nat.le_of_ble_eq_true rfl, Nat.le_of_ble_eq_true rfl⟩) (fun r hr_ => ?_)
          subst hr_
          refine top_eq (y := (vlI ((S 17)) ((S 18)) ((S 23) i))) rfl ?_
          refine wV_call (va_runV (As := [.int (vlI ((S 17)) ((S 18)) ((S 23) i))]) (rest := []) ⟨hx, hb, hml, hown, hts⟩ (c_X2_putNumber l D cy ad (va_up I 4 (nI (((wrL S i).length + (numL (S 23 i)).length + 1 + (numL (S 24 i)).length) + 1))) (va_up S 15 (upd (appL (upd (appL (appL (S 15) 0 (wrL S i)) ((wrL S i).length) (numL ((S 23) i))) ((wrL S i).length + (numL (S 23 i)).length) 45) ((wrL S i).length + (numL (S 23 i)).length + 1) (numL ((S 24) i))) ((wrL S i).length + (numL (S 23 i)).length + 1 + (numL (S 24 i)).length) 61)) H.size (vlI ((S 17)) ((S 18)) ((S 23) i)) ((wrL S i).length + (numL (S 23 i)).length + 1 + (numL (S 24 i)).length + 1) rfl (by omega)) (cw_X2_33 hts rfl rfl ⟨Nat.le_of_ble_eq_true rfl, Nat.le_of_ble_eq_true rfl⟩) (preVW (ci := 2) (q0 := 0) hK (hP.sub [0, 1] rfl) (hD.sub [0, 1] (by decide) rfl) rfl rfl) rfl rfl hl.1 rfl (lv_room (Nat.le_of_ble_eq_true rfl)) dX2_write_65 ⟨Nat.le_of_ble_eq_true rfl, Nat.le_of_ble_eq_true rfl⟩) hP hD hS hA [0, 1] rfl [.inr 0, .inr 1, .inl 2, .inl 3, .inl 4, .inl 5, .inl 6, .inl 7] (by decide) (fun u => (wN cy ad (va_up I 4 (nI (((wrL S i).length + (numL (S 23 i)).length + 1 + (numL (S 24 i)).length + 1) + (numL (vlI ((S 17)) ((S 18)) ((S 23) i))).length))) (va_up S 15 (appL (upd (appL (upd (appL (appL (S 15) 0 (wrL S i)) ((wrL S i).length) (numL ((S 23) i))) ((wrL S i).length + (numL (S 23 i)).length) 45) ((wrL S i).length + (numL (S 23 i)).length + 1) (numL ((S 24) i))) ((wrL S i).length + (numL (S 23 i)).length + 1 + (numL (S 24 i)).length) 61) ((wrL S i).length + (numL (S 23 i)).length + 1 + (numL (S 24 i)).length + 1) (numL (vlI ((S 17)) ((S 18)) ((S 23) i))))) ++ wP cy ad (va_up I 4 (nI (((wrL S i).length + (numL (S 23 i)).length + 1 + (numL (S 24 i)).length + 1) + (numL (vlI ((S 17)) ((S 18)) ((S 23) i))).length))) (va_up S 15 (appL (upd (appL (upd (appL (appL (S 15) 0 (wrL S i)) ((wrL S i).length) (numL ((S 23) i))) ((wrL S i).length + (numL (S 23 i)).length) 45) ((wrL S i).length + (numL (S 23 i)).length + 1) (numL ((S 24) i))) ((wrL S i).length + (numL (S 23 i)).length + 1 + (numL (S 24 i)).length) 61) ((wrL S i).length + (numL (S 23 i)).length + 1 + (numL (S 24 i)).length + 1) (numL (vlI ((S 17)) ((S 18)) ((S 23) i))))) ++ wK cy ad 16 (va_up S 15 (appL (upd (appL (upd (appL (appL (S 15) 0 (wrL S i)) ((wrL S i).length) (numL ((S 23) i))) ((wrL S i).length + (numL (S 23 i)).length) 45) ((wrL S i).length + (numL (S 23 i)).length + 1) (numL ((S 24) i))) ((wrL S i).length + (numL (S 23 i)).length + 1 + (numL (S 24 i)).length) 61) ((wrL S i).length + (numL (S 23 i)).length + 1 + (numL (S 24 i)).length + 1) (numL (vlI ((S 17)) ((S 18)) ((S 23) i))))))) (fun _ => rfl) (fun _ => rfl) (fun u65_9 H locs q65_9 hP hD hS hkp => ?_)
          have hP : va_P D clW (wN cy ad (va_up I 4 (nI (((wrL S i).length + (numL (S 23 i)).length + 1 + (numL (S 24 i)).length + 1) + (numL (vlI ((S 17)) ((S 18)) ((S 23) i))).length))) (va_up S 15 (appL (upd (appL (upd (appL (appL (S 15) 0 (wrL S i)) ((wrL S i).length) (numL ((S 23) i))) ((wrL S i).length + (numL (S 23 i)).length) 45) ((wrL S i).length + (numL (S 23 i)).length + 1) (numL ((S 24) i))) ((wrL S i).length + (numL (S 23 i)).length + 1 + (numL (S 24 i)).length) 61) ((wrL S i).length + (numL (S 23 i)).length + 1 + (numL (S 24 i)).length + 1) (numL (vlI ((S 17)) ((S 18)) ((S 23) i))))) ++ wP cy ad (va_up I 4 (nI (((wrL S i).length + (numL (S 23 i)).length + 1 + (numL (S 24 i)).length + 1) + (numL (vlI ((S 17)) ((S 18)) ((S 23) i))).length))) (va_up S 15 (appL (upd (appL (upd (appL (appL (S 15) 0 (wrL S i)) ((wrL S i).length) (numL ((S 23) i))) ((wrL S i).length + (numL (S 23 i)).length) 45) ((wrL S i).length + (numL (S 23 i)).length + 1) (numL ((S 24) i))) ((wrL S i).length + (numL (S 23 i)).length + 1 + (numL (S 24 i)).length) 61) ((wrL S i).length + (numL (S 23 i)).length + 1 + (numL (S 24 i)).length + 1) (numL (vlI ((S 17)) ((S 18)) ((S 23) i))))) ++ wK cy ad 16 (va_up S 15 (appL (upd (appL (upd (appL (appL (S 15) 0 (wrL S i)) ((wrL S i).length) (numL ((S 23) i))) ((wrL S i).length + (numL (S 23 i)).length) 45) ((wrL S i).length + (numL (S 23 i)).length + 1) (numL ((S 24) i))) ((wrL S i).length + (numL (S 23 i)).length + 1 + (numL (S 24 i)).length) 61) ((wrL S i).length + (numL (S 23 i)).length + 1 + (numL (S 24 i)).length + 1) (numL (vlI ((S 17)) ((S 18)) ((S 23) i)))))) H := hP
          have hD : va_D A (wN cy ad (va_up I 4 (nI (((wrL S i).length + (numL (S 23 i)).length + 1 + (numL (S 24 i)).length + 1) + (numL (vlI ((S 17)) ((S 18)) ((S 23) i))).length))) (va_up S 15 (appL (upd (appL (upd (appL (appL (S 15) 0 (wrL S i)) ((wrL S i).length) (numL ((S 23) i))) ((wrL S i).length + (numL (S 23 i)).length) 45) ((wrL S i).length + (numL (S 23 i)).length + 1) (numL ((S 24) i))) ((wrL S i).length + (numL (S 23 i)).length + 1 + (numL (S 24 i)).length) 61) ((wrL S i).length + (numL (S 23 i)).length + 1 + (numL (S 24 i)).length + 1) (numL (vlI ((S 17)) ((S 18)) ((S 23) i))))) ++ wP cy ad (va_up I 4 (nI (((wrL S i).length + (numL (S 23 i)).length + 1 + (numL (S 24 i)).length + 1) + (numL (vlI ((S 17)) ((S 18)) ((S 23) i))).length))) (va_up S 15 (appL (upd (appL (upd (appL (appL (S 15) 0 (wrL S i)) ((wrL S i).length) (numL ((S 23) i))) ((wrL S i).length + (numL (S 23 i)).length) 45) ((wrL S i).length + (numL (S 23 i)).length + 1) (numL ((S 24) i))) ((wrL S i).length + (numL (S 23 i)).length + 1 + (numL (S 24 i)).length) 61) ((wrL S i).length + (numL (S 23 i)).length + 1 + (numL (S 24 i)).length + 1) (numL (vlI ((S 17)) ((S 18)) ((S 23) i))))) ++ wK cy ad 16 (va_up S 15 (appL (upd (appL (upd (appL (appL (S 15) 0 (wrL S i)) ((wrL S i).length) (numL ((S 23) i))) ((wrL S i).length + (numL (S 23 i)).length) 45) ((wrL S i).length + (numL (S 23 i)).length + 1) (numL ((S 24) i))) ((wrL S i).length + (numL (S 23 i)).length + 1 + (numL (S 24 i)).length) 61) ((wrL S i).length + (numL (S 23 i)).length + 1 + (numL (S 24 i)).length + 1) (numL (vlI ((S 17)) ((S 18)) ((S 23) i)))))) := hD
          refine lv_iinc (v := (nI (i + 1))) (lv' := [(3, .int (nI (i + 1))), (0, .ref (ad 14)), (1, .ref (ad 22)), (2, .ref (ad 16))]) hx hb dX2_write_68 hl (k := 0) rfl (nI_1 i) (by decide) rfl (fun ls hl => ?_)
          refine lv_goto (tgt := 7) hx hb dX2_write_71 (by decide) ?_
          have e_10 : (nI (((wrL S i).length + (numL (S 23 i)).length + 1 + (numL (S 24 i)).length + 1) + (numL (vlI ((S 17)) ((S 18)) ((S 23) i))).length)) = (nI (wrL S (i + 1)).length) := (by rw [wrL_0 (by omega), List.length_append, enL, len3]; congr 1; omega)
          have e_11 : (appL (upd (appL (upd (appL (appL (S 15) 0 (wrL S i)) ((wrL S i).length) (numL ((S 23) i))) ((wrL S i).length + (numL (S 23 i)).length) 45) ((wrL S i).length + (numL (S 23 i)).length + 1) (numL ((S 24) i))) ((wrL S i).length + (numL (S 23 i)).length + 1 + (numL (S 24 i)).length) 61) ((wrL S i).length + (numL (S 23 i)).length + 1 + (numL (S 24 i)).length + 1) (numL (vlI ((S 17)) ((S 18)) ((S 23) i)))) = (appL (S 15) 0 (wrL S (i + 1))) := (by rw [wrL_0 (by omega), appL_app, Nat.zero_add]; exact app3 _ _ _ _ _)
          have hP : va_P D clW (wN cy ad (va_up I 4 (nI (wrL S (i + 1)).length)) (va_up S 15 (appL (S 15) 0 (wrL S (i + 1)))) ++ wP cy ad (va_up I 4 (nI (wrL S (i + 1)).length)) (va_up S 15 (appL (S 15) 0 (wrL S (i + 1)))) ++ wK cy ad 16 (va_up S 15 (appL (S 15) 0 (wrL S (i + 1))))) H := by rw [← e_10, ← e_11]; exact hP
          have hD : va_D A (wN cy ad (va_up I 4 (nI (wrL S (i + 1)).length)) (va_up S 15 (appL (S 15) 0 (wrL S (i + 1)))) ++ wP cy ad (va_up I 4 (nI (wrL S (i + 1)).length)) (va_up S 15 (appL (S 15) 0 (wrL S (i + 1)))) ++ wK cy ad 16 (va_up S 15 (appL (S 15) 0 (wrL S (i + 1))))) := hD.addr rfl
          exact ih7 (i + 1) (by omega) (by omega) _ _ hP hD hS ls (lv_sub hl [0, 1, 2, 3] rfl)
        · have f16 : 0 < i := nt_nle (a := i) (b := 0) (by omega) (by omega) c16_4
          refine lv_aload_n hx hb dX2_write_19 rfl (lv_at hl 1 rfl) ?_
          refine lv_bipush (v := 32) hx hb dX2_write_20 (by decide) ?_
          refine wV_call (va_runV (As := [.int 32]) (rest := []) ⟨hx, hb, hml, hown, hts⟩ (c_X2_put l D cy ad (va_up I 4 (nI (wrL S i).length)) (va_up S 15 (appL (S 15) 0 (wrL S i))) H.size 32 ((wrL S i).length) rfl (by omega) rfl) (cw_X2_25 hts rfl rfl ⟨Nat.le_of_ble_eq_true rfl, Nat.le_of_ble_eq_true rfl⟩) (preVW (ci := 2) (q0 := 0) hK (hP.sub [0, 1] rfl) (hD.sub [0, 1] (by decide) rfl) rfl rfl) rfl rfl hl.1 rfl (lv_room (Nat.le_of_ble_eq_true rfl)) dX2_write_22 ⟨Nat.le_of_ble_eq_true rfl, Nat.le_of_ble_eq_true rfl⟩) hP hD hS hA [0, 1] rfl [.inr 0, .inr 1, .inl 2, .inl 3, .inl 4, .inl 5, .inl 6, .inl 7] (by decide) (fun u => (wN cy ad (va_up I 4 (nI (((wrL S i).length) + 1))) (va_up S 15 (upd (appL (S 15) 0 (wrL S i)) ((wrL S i).length) 32)) ++ wP cy ad (va_up I 4 (nI (((wrL S i).length) + 1))) (va_up S 15 (upd (appL (S 15) 0 (wrL S i)) ((wrL S i).length) 32)) ++ wK cy ad 16 (va_up S 15 (upd (appL (S 15) 0 (wrL S i)) ((wrL S i).length) 32)))) (fun _ => rfl) (fun _ => rfl) (fun u22_12 H locs q22_12 hP hD hS hkp => ?_)
          have hP : va_P D clW (wN cy ad (va_up I 4 (nI (((wrL S i).length) + 1))) (va_up S 15 (upd (appL (S 15) 0 (wrL S i)) ((wrL S i).length) 32)) ++ wP cy ad (va_up I 4 (nI (((wrL S i).length) + 1))) (va_up S 15 (upd (appL (S 15) 0 (wrL S i)) ((wrL S i).length) 32)) ++ wK cy ad 16 (va_up S 15 (upd (appL (S 15) 0 (wrL S i)) ((wrL S i).length) 32))) H := hP
          have hD : va_D A (wN cy ad (va_up I 4 (nI (((wrL S i).length) + 1))) (va_up S 15 (upd (appL (S 15) 0 (wrL S i)) ((wrL S i).length) 32)) ++ wP cy ad (va_up I 4 (nI (((wrL S i).length) + 1))) (va_up S 15 (upd (appL (S 15) 0 (wrL S i)) ((wrL S i).length) 32)) ++ wK cy ad 16 (va_up S 15 (upd (appL (S 15) 0 (wrL S i)) ((wrL S i).length) 32))) := hD
          refine lv_aload_n hx hb dX2_write_25 rfl (lv_at hl 1 rfl) ?_
          refine lv_aload_n hx hb dX2_write_26 rfl (lv_at hl 2 rfl) ?_
          refine lv_iload_n hx hb dX2_write_27 rfl (lv_at hl 0 rfl) ?_
          refine rI_call (va_runV (As := [.int (nI i)]) (rest := [.ref (ad 14)]) ⟨hx, hb, hml, hown, hts⟩ (c_X4_firstDay l D cy ad (va_up I 4 (nI (((wrL S i).length) + 1))) (va_up S 15 (upd (appL (S 15) 0 (wrL S i)) ((wrL S i).length) 32)) i q hq (by omega) (by omega)) (cw_X2_29 hts rfl rfl ⟨Nat.le_of_ble_eq_true rfl, Nat.le_of_ble_eq_true rfl⟩) (preVR (ci := 4) (q0 := 0) hK (hP.sub [2, 3, 4] rfl) rfl rfl) rfl rfl hl.1 rfl (lv_room (Nat.le_of_ble_eq_true rfl)) dX2_write_28 ⟨Nat.le_of_ble_eq_true rfl, Nat.le_of_ble_eq_true rfl⟩) (fun r hr_ => ?_)
          subst hr_
          refine top_eq (y := ((S 23) i)) rfl ?_
          refine wV_call (va_runV (As := [.int ((S 23) i)]) (rest := []) ⟨hx, hb, hml, hown, hts⟩ (c_X2_putNumber l D cy ad (va_up I 4 (nI (((wrL S i).length) + 1))) (va_up S 15 (upd (appL (S 15) 0 (wrL S i)) ((wrL S i).length) 32)) H.size ((S 23) i) ((wrL S i).length + 1) rfl (by omega)) (cw_X2_33 hts rfl rfl ⟨Nat.le_of_ble_eq_true rfl, Nat.le_of_ble_eq_true rfl⟩) (preVW (ci := 2) (q0 := 0) hK (hP.sub [0, 1] rfl) (hD.sub [0, 1] (by decide) rfl) rfl rfl) rfl rfl hl.1 rfl (lv_room (Nat.le_of_ble_eq_true rfl)) dX2_write_31 ⟨Nat.le_of_ble_eq_true rfl, Nat.le_of_ble_eq_true rfl⟩) hP hD hS hA [0, 1] rfl [.inr 0, .inr 1, .inl 2, .inl 3, .inl 4, .inl 5, .inl 6, .inl 7] (by decide) (fun u => (wN cy ad (va_up I 4 (nI (((wrL S i).length + 1) + (numL ((S 23) i)).length))) (va_up S 15 (appL (upd (appL (S 15) 0 (wrL S i)) ((wrL S i).length) 32) ((wrL S i).length + 1) (numL ((S 23) i)))) ++ wP cy ad (va_up I 4 (nI (((wrL S i).length + 1) + (numL ((S 23) i)).length))) (va_up S 15 (appL (upd (appL (S 15) 0 (wrL S i)) ((wrL S i).length) 32) ((wrL S i).length + 1) (numL ((S 23) i)))) ++ wK cy ad 16 (va_up S 15 (appL (upd (appL (S 15) 0 (wrL S i)) ((wrL S i).length) 32) ((wrL S i).length + 1) (numL ((S 23) i)))))) (fun _ => rfl) (fun _ => rfl) (fun u31_13 H locs q31_13 hP hD hS hkp => ?_)
          have hP : va_P D clW (wN cy ad (va_up I 4 (nI (((wrL S i).length + 1) + (numL ((S 23) i)).length))) (va_up S 15 (appL (upd (appL (S 15) 0 (wrL S i)) ((wrL S i).length) 32) ((wrL S i).length + 1) (numL ((S 23) i)))) ++ wP cy ad (va_up I 4 (nI (((wrL S i).length + 1) + (numL ((S 23) i)).length))) (va_up S 15 (appL (upd (appL (S 15) 0 (wrL S i)) ((wrL S i).length) 32) ((wrL S i).length + 1) (numL ((S 23) i)))) ++ wK cy ad 16 (va_up S 15 (appL (upd (appL (S 15) 0 (wrL S i)) ((wrL S i).length) 32) ((wrL S i).length + 1) (numL ((S 23) i))))) H := hP
          have hD : va_D A (wN cy ad (va_up I 4 (nI (((wrL S i).length + 1) + (numL ((S 23) i)).length))) (va_up S 15 (appL (upd (appL (S 15) 0 (wrL S i)) ((wrL S i).length) 32) ((wrL S i).length + 1) (numL ((S 23) i)))) ++ wP cy ad (va_up I 4 (nI (((wrL S i).length + 1) + (numL ((S 23) i)).length))) (va_up S 15 (appL (upd (appL (S 15) 0 (wrL S i)) ((wrL S i).length) 32) ((wrL S i).length + 1) (numL ((S 23) i)))) ++ wK cy ad 16 (va_up S 15 (appL (upd (appL (S 15) 0 (wrL S i)) ((wrL S i).length) 32) ((wrL S i).length + 1) (numL ((S 23) i))))) := hD
          refine lv_aload_n hx hb dX2_write_34 rfl (lv_at hl 1 rfl) ?_
          refine lv_bipush (v := 45) hx hb dX2_write_35 (by decide) ?_
          refine wV_call (va_runV (As := [.int 45]) (rest := []) ⟨hx, hb, hml, hown, hts⟩ (c_X2_put l D cy ad (va_up I 4 (nI (((wrL S i).length + 1) + (numL ((S 23) i)).length))) (va_up S 15 (appL (upd (appL (S 15) 0 (wrL S i)) ((wrL S i).length) 32) ((wrL S i).length + 1) (numL ((S 23) i)))) H.size 45 ((wrL S i).length + 1 + (numL (S 23 i)).length) rfl (by omega) rfl) (cw_X2_25 hts rfl rfl ⟨Nat.le_of_ble_eq_true rfl, Nat.le_of_ble_eq_true rfl⟩) (preVW (ci := 2) (q0 := 0) hK (hP.sub [0, 1] rfl) (hD.sub [0, 1] (by decide) rfl) rfl rfl) rfl rfl hl.1 rfl (lv_room (Nat.le_of_ble_eq_true rfl)) dX2_write_37 ⟨Nat.le_of_ble_eq_true rfl, Nat.le_of_ble_eq_true rfl⟩) hP hD hS hA [0, 1] rfl [.inr 0, .inr 1, .inl 2, .inl 3, .inl 4, .inl 5, .inl 6, .inl 7] (by decide) (fun u => (wN cy ad (va_up I 4 (nI (((wrL S i).length + 1 + (numL (S 23 i)).length) + 1))) (va_up S 15 (upd (appL (upd (appL (S 15) 0 (wrL S i)) ((wrL S i).length) 32) ((wrL S i).length + 1) (numL ((S 23) i))) ((wrL S i).length + 1 + (numL (S 23 i)).length) 45)) ++ wP cy ad (va_up I 4 (nI (((wrL S i).length + 1 + (numL (S 23 i)).length) + 1))) (va_up S 15 (upd (appL (upd (appL (S 15) 0 (wrL S i)) ((wrL S i).length) 32) ((wrL S i).length + 1) (numL ((S 23) i))) ((wrL S i).length + 1 + (numL (S 23 i)).length) 45)) ++ wK cy ad 16 (va_up S 15 (upd (appL (upd (appL (S 15) 0 (wrL S i)) ((wrL S i).length) 32) ((wrL S i).length + 1) (numL ((S 23) i))) ((wrL S i).length + 1 + (numL (S 23 i)).length) 45)))) (fun _ => rfl) (fun _ => rfl) (fun u37_14 H locs q37_14 hP hD hS hkp => ?_)
          have hP : va_P D clW (wN cy ad (va_up I 4 (nI (((wrL S i).length + 1 + (numL (S 23 i)).length) + 1))) (va_up S 15 (upd (appL (upd (appL (S 15) 0 (wrL S i)) ((wrL S i).length) 32) ((wrL S i).length + 1) (numL ((S 23) i))) ((wrL S i).length + 1 + (numL (S 23 i)).length) 45)) ++ wP cy ad (va_up I 4 (nI (((wrL S i).length + 1 + (numL (S 23 i)).length) + 1))) (va_up S 15 (upd (appL (upd (appL (S 15) 0 (wrL S i)) ((wrL S i).length) 32) ((wrL S i).length + 1) (numL ((S 23) i))) ((wrL S i).length + 1 + (numL (S 23 i)).length) 45)) ++ wK cy ad 16 (va_up S 15 (upd (appL (upd (appL (S 15) 0 (wrL S i)) ((wrL S i).length) 32) ((wrL S i).length + 1) (numL ((S 23) i))) ((wrL S i).length + 1 + (numL (S 23 i)).length) 45))) H := hP
          have hD : va_D A (wN cy ad (va_up I 4 (nI (((wrL S i).length + 1 + (numL (S 23 i)).length) + 1))) (va_up S 15 (upd (appL (upd (appL (S 15) 0 (wrL S i)) ((wrL S i).length) 32) ((wrL S i).length + 1) (numL ((S 23) i))) ((wrL S i).length + 1 + (numL (S 23 i)).length) 45)) ++ wP cy ad (va_up I 4 (nI (((wrL S i).length + 1 + (numL (S 23 i)).length) + 1))) (va_up S 15 (upd (appL (upd (appL (S 15) 0 (wrL S i)) ((wrL S i).length) 32) ((wrL S i).length + 1) (numL ((S 23) i))) ((wrL S i).length + 1 + (numL (S 23 i)).length) 45)) ++ wK cy ad 16 (va_up S 15 (upd (appL (upd (appL (S 15) 0 (wrL S i)) ((wrL S i).length) 32) ((wrL S i).length + 1) (numL ((S 23) i))) ((wrL S i).length + 1 + (numL (S 23 i)).length) 45))) := hD
          refine lv_aload_n hx hb dX2_write_40 rfl (lv_at hl 1 rfl) ?_
          refine lv_aload_n hx hb dX2_write_41 rfl (lv_at hl 2 rfl) ?_
          refine lv_iload_n hx hb dX2_write_42 rfl (lv_at hl 0 rfl) ?_
          refine rI_call (va_runV (As := [.int (nI i)]) (rest := [.ref (ad 14)]) ⟨hx, hb, hml, hown, hts⟩ (c_X4_dayAfter l D cy ad (va_up I 4 (nI (((wrL S i).length + 1 + (numL (S 23 i)).length) + 1))) (va_up S 15 (upd (appL (upd (appL (S 15) 0 (wrL S i)) ((wrL S i).length) 32) ((wrL S i).length + 1) (numL ((S 23) i))) ((wrL S i).length + 1 + (numL (S 23 i)).length) 45)) i q hq (by omega) (by omega)) (cw_X2_37 hts rfl rfl ⟨Nat.le_of_ble_eq_true rfl, Nat.le_of_ble_eq_true rfl⟩) (preVR (ci := 4) (q0 := 0) hK (hP.sub [2, 3, 4] rfl) rfl rfl) rfl rfl hl.1 rfl (lv_room (Nat.le_of_ble_eq_true rfl)) dX2_write_43 ⟨Nat.le_of_ble_eq_true rfl, Nat.le_of_ble_eq_true rfl⟩) (fun r hr_ => ?_)
          subst hr_
          refine top_eq (y := ((S 24) i)) rfl ?_
          refine wV_call (va_runV (As := [.int ((S 24) i)]) (rest := []) ⟨hx, hb, hml, hown, hts⟩ (c_X2_putNumber l D cy ad (va_up I 4 (nI (((wrL S i).length + 1 + (numL (S 23 i)).length) + 1))) (va_up S 15 (upd (appL (upd (appL (S 15) 0 (wrL S i)) ((wrL S i).length) 32) ((wrL S i).length + 1) (numL ((S 23) i))) ((wrL S i).length + 1 + (numL (S 23 i)).length) 45)) H.size ((S 24) i) ((wrL S i).length + 1 + (numL (S 23 i)).length + 1) rfl (by omega)) (cw_X2_33 hts rfl rfl ⟨Nat.le_of_ble_eq_true rfl, Nat.le_of_ble_eq_true rfl⟩) (preVW (ci := 2) (q0 := 0) hK (hP.sub [0, 1] rfl) (hD.sub [0, 1] (by decide) rfl) rfl rfl) rfl rfl hl.1 rfl (lv_room (Nat.le_of_ble_eq_true rfl)) dX2_write_46 ⟨Nat.le_of_ble_eq_true rfl, Nat.le_of_ble_eq_true rfl⟩) hP hD hS hA [0, 1] rfl [.inr 0, .inr 1, .inl 2, .inl 3, .inl 4, .inl 5, .inl 6, .inl 7] (by decide) (fun u => (wN cy ad (va_up I 4 (nI (((wrL S i).length + 1 + (numL (S 23 i)).length + 1) + (numL ((S 24) i)).length))) (va_up S 15 (appL (upd (appL (upd (appL (S 15) 0 (wrL S i)) ((wrL S i).length) 32) ((wrL S i).length + 1) (numL ((S 23) i))) ((wrL S i).length + 1 + (numL (S 23 i)).length) 45) ((wrL S i).length + 1 + (numL (S 23 i)).length + 1) (numL ((S 24) i)))) ++ wP cy ad (va_up I 4 (nI (((wrL S i).length + 1 + (numL (S 23 i)).length + 1) + (numL ((S 24) i)).length))) (va_up S 15 (appL (upd (appL (upd (appL (S 15) 0 (wrL S i)) ((wrL S i).length) 32) ((wrL S i).length + 1) (numL ((S 23) i))) ((wrL S i).length + 1 + (numL (S 23 i)).length) 45) ((wrL S i).length + 1 + (numL (S 23 i)).length + 1) (numL ((S 24) i)))) ++ wK cy ad 16 (va_up S 15 (appL (upd (appL (upd (appL (S 15) 0 (wrL S i)) ((wrL S i).length) 32) ((wrL S i).length + 1) (numL ((S 23) i))) ((wrL S i).length + 1 + (numL (S 23 i)).length) 45) ((wrL S i).length + 1 + (numL (S 23 i)).length + 1) (numL ((S 24) i)))))) (fun _ => rfl) (fun _ => rfl) (fun u46_15 H locs q46_15 hP hD hS hkp => ?_)
          have hP : va_P D clW (wN cy ad (va_up I 4 (nI (((wrL S i).length + 1 + (numL (S 23 i)).length + 1) + (numL ((S 24) i)).length))) (va_up S 15 (appL (upd (appL (upd (appL (S 15) 0 (wrL S i)) ((wrL S i).length) 32) ((wrL S i).length + 1) (numL ((S 23) i))) ((wrL S i).length + 1 + (numL (S 23 i)).length) 45) ((wrL S i).length + 1 + (numL (S 23 i)).length + 1) (numL ((S 24) i)))) ++ wP cy ad (va_up I 4 (nI (((wrL S i).length + 1 + (numL (S 23 i)).length + 1) + (numL ((S 24) i)).length))) (va_up S 15 (appL (upd (appL (upd (appL (S 15) 0 (wrL S i)) ((wrL S i).length) 32) ((wrL S i).length + 1) (numL ((S 23) i))) ((wrL S i).length + 1 + (numL (S 23 i)).length) 45) ((wrL S i).length + 1 + (numL (S 23 i)).length + 1) (numL ((S 24) i)))) ++ wK cy ad 16 (va_up S 15 (appL (upd (appL (upd (appL (S 15) 0 (wrL S i)) ((wrL S i).length) 32) ((wrL S i).length + 1) (numL ((S 23) i))) ((wrL S i).length + 1 + (numL (S 23 i)).length) 45) ((wrL S i).length + 1 + (numL (S 23 i)).length + 1) (numL ((S 24) i))))) H := hP
          have hD : va_D A (wN cy ad (va_up I 4 (nI (((wrL S i).length + 1 + (numL (S 23 i)).length + 1) + (numL ((S 24) i)).length))) (va_up S 15 (appL (upd (appL (upd (appL (S 15) 0 (wrL S i)) ((wrL S i).length) 32) ((wrL S i).length + 1) (numL ((S 23) i))) ((wrL S i).length + 1 + (numL (S 23 i)).length) 45) ((wrL S i).length + 1 + (numL (S 23 i)).length + 1) (numL ((S 24) i)))) ++ wP cy ad (va_up I 4 (nI (((wrL S i).length + 1 + (numL (S 23 i)).length + 1) + (numL ((S 24) i)).length))) (va_up S 15 (appL (upd (appL (upd (appL (S 15) 0 (wrL S i)) ((wrL S i).length) 32) ((wrL S i).length + 1) (numL ((S 23) i))) ((wrL S i).length + 1 + (numL (S 23 i)).length) 45) ((wrL S i).length + 1 + (numL (S 23 i)).length + 1) (numL ((S 24) i)))) ++ wK cy ad 16 (va_up S 15 (appL (upd (appL (upd (appL (S 15) 0 (wrL S i)) ((wrL S i).length) 32) ((wrL S i).length + 1) (numL ((S 23) i))) ((wrL S i).length + 1 + (numL (S 23 i)).length) 45) ((wrL S i).length + 1 + (numL (S 23 i)).length + 1) (numL ((S 24) i))))) := hD
          refine lv_aload_n hx hb dX2_write_49 rfl (lv_at hl 1 rfl) ?_
          refine lv_bipush (v := 61) hx hb dX2_write_50 (by decide) ?_
          refine wV_call (va_runV (As := [.int 61]) (rest := []) ⟨hx, hb, hml, hown, hts⟩ (c_X2_put l D cy ad (va_up I 4 (nI (((wrL S i).length + 1 + (numL (S 23 i)).length + 1) + (numL ((S 24) i)).length))) (va_up S 15 (appL (upd (appL (upd (appL (S 15) 0 (wrL S i)) ((wrL S i).length) 32) ((wrL S i).length + 1) (numL ((S 23) i))) ((wrL S i).length + 1 + (numL (S 23 i)).length) 45) ((wrL S i).length + 1 + (numL (S 23 i)).length + 1) (numL ((S 24) i)))) H.size 61 ((wrL S i).length + 1 + (numL (S 23 i)).length + 1 + (numL (S 24 i)).length) rfl (by omega) rfl) (cw_X2_25 hts rfl rfl ⟨Nat.le_of_ble_eq_true rfl, Nat.le_of_ble_eq_true rfl⟩) (preVW (ci := 2) (q0 := 0) hK (hP.sub [0, 1] rfl) (hD.sub [0, 1] (by decide) rfl) rfl rfl) rfl rfl hl.1 rfl (lv_room (Nat.le_of_ble_eq_true rfl)) dX2_write_52 ⟨Nat.le_of_ble_eq_true rfl, Nat.le_of_ble_eq_true rfl⟩) hP hD hS hA [0, 1] rfl [.inr 0, .inr 1, .inl 2, .inl 3, .inl 4, .inl 5, .inl 6, .inl 7] (by decide) (fun u => (wN cy ad (va_up I 4 (nI (((wrL S i).length + 1 + (numL (S 23 i)).length + 1 + (numL (S 24 i)).length) + 1))) (va_up S 15 (upd (appL (upd (appL (upd (appL (S 15) 0 (wrL S i)) ((wrL S i).length) 32) ((wrL S i).length + 1) (numL ((S 23) i))) ((wrL S i).length + 1 + (numL (S 23 i)).length) 45) ((wrL S i).length + 1 + (numL (S 23 i)).length + 1) (numL ((S 24) i))) ((wrL S i).length + 1 + (numL (S 23 i)).length + 1 + (numL (S 24 i)).length) 61)) ++ wP cy ad (va_up I 4 (nI (((wrL S i).length + 1 + (numL (S 23 i)).length + 1 + (numL (S 24 i)).length) + 1))) (va_up S 15 (upd (appL (upd (appL (upd (appL (S 15) 0 (wrL S i)) ((wrL S i).length) 32) ((wrL S i).length + 1) (numL ((S 23) i))) ((wrL S i).length + 1 + (numL (S 23 i)).length) 45) ((wrL S i).length + 1 + (numL (S 23 i)).length + 1) (numL ((S 24) i))) ((wrL S i).length + 1 + (numL (S 23 i)).length + 1 + (numL (S 24 i)).length) 61)) ++ wK cy ad 16 (va_up S 15 (upd (appL (upd (appL (upd (appL (S 15) 0 (wrL S i)) ((wrL S i).length) 32) ((wrL S i).length + 1) (numL ((S 23) i))) ((wrL S i).length + 1 + (numL (S 23 i)).length) 45) ((wrL S i).length + 1 + (numL (S 23 i)).length + 1) (numL ((S 24) i))) ((wrL S i).length + 1 + (numL (S 23 i)).length + 1 + (numL (S 24 i)).length) 61)))) (fun _ => rfl) (fun _ => rfl) (fun u52_16 H locs q52_16 hP hD hS hkp => ?_)
          have hP : va_P D clW (wN cy ad (va_up I 4 (nI (((wrL S i).length + 1 + (numL (S 23 i)).length + 1 + (numL (S 24 i)).length) + 1))) (va_up S 15 (upd (appL (upd (appL (upd (appL (S 15) 0 (wrL S i)) ((wrL S i).length) 32) ((wrL S i).length + 1) (numL ((S 23) i))) ((wrL S i).length + 1 + (numL (S 23 i)).length) 45) ((wrL S i).length + 1 + (numL (S 23 i)).length + 1) (numL ((S 24) i))) ((wrL S i).length + 1 + (numL (S 23 i)).length + 1 + (numL (S 24 i)).length) 61)) ++ wP cy ad (va_up I 4 (nI (((wrL S i).length + 1 + (numL (S 23 i)).length + 1 + (numL (S 24 i)).length) + 1))) (va_up S 15 (upd (appL (upd (appL (upd (appL (S 15) 0 (wrL S i)) ((wrL S i).length) 32) ((wrL S i).length + 1) (numL ((S 23) i))) ((wrL S i).length + 1 + (numL (S 23 i)).length) 45) ((wrL S i).length + 1 + (numL (S 23 i)).length + 1) (numL ((S 24) i))) ((wrL S i).length + 1 + (numL (S 23 i)).length + 1 + (numL (S 24 i)).length) 61)) ++ wK cy ad 16 (va_up S 15 (upd (appL (upd (appL (upd (appL (S 15) 0 (wrL S i)) ((wrL S i).length) 32) ((wrL S i).length + 1) (numL ((S 23) i))) ((wrL S i).length + 1 + (numL (S 23 i)).length) 45) ((wrL S i).length + 1 + (numL (S 23 i)).length + 1) (numL ((S 24) i))) ((wrL S i).length + 1 + (numL (S 23 i)).length + 1 + (numL (S 24 i)).length) 61))) H := hP
          have hD : va_D A (wN cy ad (va_up I 4 (nI (((wrL S i).length + 1 + (numL (S 23 i)).length + 1 + (numL (S 24 i)).length) + 1))) (va_up S 15 (upd (appL (upd (appL (upd (appL (S 15) 0 (wrL S i)) ((wrL S i).length) 32) ((wrL S i).length + 1) (numL ((S 23) i))) ((wrL S i).length + 1 + (numL (S 23 i)).length) 45) ((wrL S i).length + 1 + (numL (S 23 i)).length + 1) (numL ((S 24) i))) ((wrL S i).length + 1 + (numL (S 23 i)).length + 1 + (numL (S 24 i)).length) 61)) ++ wP cy ad (va_up I 4 (nI (((wrL S i).length + 1 + (numL (S 23 i)).length + 1 + (numL (S 24 i)).length) + 1))) (va_up S 15 (upd (appL (upd (appL (upd (appL (S 15) 0 (wrL S i)) ((wrL S i).length) 32) ((wrL S i).length + 1) (numL ((S 23) i))) ((wrL S i).length + 1 + (numL (S 23 i)).length) 45) ((wrL S i).length + 1 + (numL (S 23 i)).length + 1) (numL ((S 24) i))) ((wrL S i).length + 1 + (numL (S 23 i)).length + 1 + (numL (S 24 i)).length) 61)) ++ wK cy ad 16 (va_up S 15 (upd (appL (upd (appL (upd (appL (S 15) 0 (wrL S i)) ((wrL S i).length) 32) ((wrL S i).length + 1) (numL ((S 23) i))) ((wrL S i).length + 1 + (numL (S 23 i)).length) 45) ((wrL S i).length + 1 + (numL (S 23 i)).length + 1) (numL ((S 24) i))) ((wrL S i).length + 1 + (numL (S 23 i)).length + 1 + (numL (S 24 i)).length) 61))) := hD
          refine lv_aload_n hx hb dX2_write_55 rfl (lv_at hl 1 rfl) ?_
          refine lv_aload_n hx hb dX2_write_56 rfl (lv_at hl 3 rfl) ?_
          refine lv_aload_n hx hb dX2_write_57 rfl (lv_at hl 2 rfl) ?_
          refine lv_iload_n hx hb dX2_write_58 rfl (lv_at hl 0 rfl) ?_
          refine rI_call (va_runV (As := [.int (nI i)]) (rest := [.ref (ad 16), .ref (ad 14)]) ⟨hx, hb, hml, hown, hts⟩ (c_X4_firstDay l D cy ad (va_up I 4 (nI (((wrL S i).length + 1 + (numL (S 23 i)).length + 1 + (numL (S 24 i)).length) + 1))) (va_up S 15 (upd (appL (upd (appL (upd (appL (S 15) 0 (wrL S i)) ((wrL S i).length) 32) ((wrL S i).length + 1) (numL ((S 23) i))) ((wrL S i).length + 1 + (numL (S 23 i)).length) 45) ((wrL S i).length + 1 + (numL (S 23 i)).length + 1) (numL ((S 24) i))) ((wrL S i).length + 1 + (numL (S 23 i)).length + 1 + (numL (S 24 i)).length) 61)) i q hq (by omega) (by omega)) (cw_X2_29 hts rfl rfl ⟨Nat.le_of_ble_eq_true rfl, Nat.le_of_ble_eq_true rfl⟩) (preVR (ci := 4) (q0 := 0) hK (hP.sub [2, 3, 4] rfl) rfl rfl) rfl rfl hl.1 rfl (lv_room (Nat.le_of_ble_eq_true rfl)) dX2_write_59 ⟨Nat.le_of_ble_eq_true rfl, Nat.le_of_ble_eq_true rfl⟩) (fun r hr_ => ?_)
          subst hr_
          refine top_eq (y := ((S 23) i)) rfl ?_
          refine rI_call (va_runV (As := [.int ((S 23) i)]) (rest := [.ref (ad 14)]) ⟨hx, hb, hml, hown, hts⟩ (c_X1_value_16 l D cy ad (va_up S 15 (upd (appL (upd (appL (upd (appL (S 15) 0 (wrL S i)) ((wrL S i).length) 32) ((wrL S i).length + 1) (numL ((S 23) i))) ((wrL S i).length + 1 + (numL (S 23 i)).length) 45) ((wrL S i).length + 1 + (numL (S 23 i)).length + 1) (numL ((S 24) i))) ((wrL S i).length + 1 + (numL (S 23 i)).length + 1 + (numL (S 24 i)).length) 61)) ((S 23) i)) (cw_X2_40 hts rfl rfl ⟨Nat.le_of_ble_eq_true rfl, Nat.le_of_ble_eq_true rfl⟩) (preVR (ci := 1) (q0 := 0) hK (hP.sub [5, 6, 7] rfl) rfl rfl) rfl rfl hl.1 rfl (lv_room (Nat.le_of_ble_eq_true rfl)) dX2_write_62 ⟨Nat.le_of_ble_eq_true rfl, Nat.le_of_ble_eq_true rfl⟩) (fun r hr_ => ?_)
          subst hr_
          refine top_eq (y := (vlI ((S 17)) ((S 18)) ((S 23) i))) rfl ?_
          refine wV_call (va_runV (As := [.int (vlI ((S 17)) ((S 18)) ((S 23) i))]) (rest := []) ⟨hx, hb, hml, hown, hts⟩ (c_X2_putNumber l D cy ad (va_up I 4 (nI (((wrL S i).length + 1 + (numL (S 23 i)).length + 1 + (numL (S 24 i)).length) + 1))) (va_up S 15 (upd (appL (upd (appL (upd (appL (S 15) 0 (wrL S i)) ((wrL S i).length) 32) ((wrL S i).length + 1) (numL ((S 23) i))) ((wrL S i).length + 1 + (numL (S 23 i)).length) 45) ((wrL S i).length + 1 + (numL (S 23 i)).length + 1) (numL ((S 24) i))) ((wrL S i).length + 1 + (numL (S 23 i)).length + 1 + (numL (S 24 i)).length) 61)) H.size (vlI ((S 17)) ((S 18)) ((S 23) i)) ((wrL S i).length + 1 + (numL (S 23 i)).length + 1 + (numL (S 24 i)).length + 1) rfl (by omega)) (cw_X2_33 hts rfl rfl ⟨Nat.le_of_ble_eq_true rfl, Nat.le_of_ble_eq_true rfl⟩) (preVW (ci := 2) (q0 := 0) hK (hP.sub [0, 1] rfl) (hD.sub [0, 1] (by decide) rfl) rfl rfl) rfl rfl hl.1 rfl (lv_room (Nat.le_of_ble_eq_true rfl)) dX2_write_65 ⟨Nat.le_of_ble_eq_true rfl, Nat.le_of_ble_eq_true rfl⟩) hP hD hS hA [0, 1] rfl [.inr 0, .inr 1, .inl 2, .inl 3, .inl 4, .inl 5, .inl 6, .inl 7] (by decide) (fun u => (wN cy ad (va_up I 4 (nI (((wrL S i).length + 1 + (numL (S 23 i)).length + 1 + (numL (S 24 i)).length + 1) + (numL (vlI ((S 17)) ((S 18)) ((S 23) i))).length))) (va_up S 15 (appL (upd (appL (upd (appL (upd (appL (S 15) 0 (wrL S i)) ((wrL S i).length) 32) ((wrL S i).length + 1) (numL ((S 23) i))) ((wrL S i).length + 1 + (numL (S 23 i)).length) 45) ((wrL S i).length + 1 + (numL (S 23 i)).length + 1) (numL ((S 24) i))) ((wrL S i).length + 1 + (numL (S 23 i)).length + 1 + (numL (S 24 i)).length) 61) ((wrL S i).length + 1 + (numL (S 23 i)).length + 1 + (numL (S 24 i)).length + 1) (numL (vlI ((S 17)) ((S 18)) ((S 23) i))))) ++ wP cy ad (va_up I 4 (nI (((wrL S i).length + 1 + (numL (S 23 i)).length + 1 + (numL (S 24 i)).length + 1) + (numL (vlI ((S 17)) ((S 18)) ((S 23) i))).length))) (va_up S 15 (appL (upd (appL (upd (appL (upd (appL (S 15) 0 (wrL S i)) ((wrL S i).length) 32) ((wrL S i).length + 1) (numL ((S 23) i))) ((wrL S i).length + 1 + (numL (S 23 i)).length) 45) ((wrL S i).length + 1 + (numL (S 23 i)).length + 1) (numL ((S 24) i))) ((wrL S i).length + 1 + (numL (S 23 i)).length + 1 + (numL (S 24 i)).length) 61) ((wrL S i).length + 1 + (numL (S 23 i)).length + 1 + (numL (S 24 i)).length + 1) (numL (vlI ((S 17)) ((S 18)) ((S 23) i))))) ++ wK cy ad 16 (va_up S 15 (appL (upd (appL (upd (appL (upd (appL (S 15) 0 (wrL S i)) ((wrL S i).length) 32) ((wrL S i).length + 1) (numL ((S 23) i))) ((wrL S i).length + 1 + (numL (S 23 i)).length) 45) ((wrL S i).length + 1 + (numL (S 23 i)).length + 1) (numL ((S 24) i))) ((wrL S i).length + 1 + (numL (S 23 i)).length + 1 + (numL (S 24 i)).length) 61) ((wrL S i).length + 1 + (numL (S 23 i)).length + 1 + (numL (S 24 i)).length + 1) (numL (vlI ((S 17)) ((S 18)) ((S 23) i))))))) (fun _ => rfl) (fun _ => rfl) (fun u65_17 H locs q65_17 hP hD hS hkp => ?_)
          have hP : va_P D clW (wN cy ad (va_up I 4 (nI (((wrL S i).length + 1 + (numL (S 23 i)).length + 1 + (numL (S 24 i)).length + 1) + (numL (vlI ((S 17)) ((S 18)) ((S 23) i))).length))) (va_up S 15 (appL (upd (appL (upd (appL (upd (appL (S 15) 0 (wrL S i)) ((wrL S i).length) 32) ((wrL S i).length + 1) (numL ((S 23) i))) ((wrL S i).length + 1 + (numL (S 23 i)).length) 45) ((wrL S i).length + 1 + (numL (S 23 i)).length + 1) (numL ((S 24) i))) ((wrL S i).length + 1 + (numL (S 23 i)).length + 1 + (numL (S 24 i)).length) 61) ((wrL S i).length + 1 + (numL (S 23 i)).length + 1 + (numL (S 24 i)).length + 1) (numL (vlI ((S 17)) ((S 18)) ((S 23) i))))) ++ wP cy ad (va_up I 4 (nI (((wrL S i).length + 1 + (numL (S 23 i)).length + 1 + (numL (S 24 i)).length + 1) + (numL (vlI ((S 17)) ((S 18)) ((S 23) i))).length))) (va_up S 15 (appL (upd (appL (upd (appL (upd (appL (S 15) 0 (wrL S i)) ((wrL S i).length) 32) ((wrL S i).length + 1) (numL ((S 23) i))) ((wrL S i).length + 1 + (numL (S 23 i)).length) 45) ((wrL S i).length + 1 + (numL (S 23 i)).length + 1) (numL ((S 24) i))) ((wrL S i).length + 1 + (numL (S 23 i)).length + 1 + (numL (S 24 i)).length) 61) ((wrL S i).length + 1 + (numL (S 23 i)).length + 1 + (numL (S 24 i)).length + 1) (numL (vlI ((S 17)) ((S 18)) ((S 23) i))))) ++ wK cy ad 16 (va_up S 15 (appL (upd (appL (upd (appL (upd (appL (S 15) 0 (wrL S i)) ((wrL S i).length) 32) ((wrL S i).length + 1) (numL ((S 23) i))) ((wrL S i).length + 1 + (numL (S 23 i)).length) 45) ((wrL S i).length + 1 + (numL (S 23 i)).length + 1) (numL ((S 24) i))) ((wrL S i).length + 1 + (numL (S 23 i)).length + 1 + (numL (S 24 i)).length) 61) ((wrL S i).length + 1 + (numL (S 23 i)).length + 1 + (numL (S 24 i)).length + 1) (numL (vlI ((S 17)) ((S 18)) ((S 23) i)))))) H := hP
          have hD : va_D A (wN cy ad (va_up I 4 (nI (((wrL S i).length + 1 + (numL (S 23 i)).length + 1 + (numL (S 24 i)).length + 1) + (numL (vlI ((S 17)) ((S 18)) ((S 23) i))).length))) (va_up S 15 (appL (upd (appL (upd (appL (upd (appL (S 15) 0 (wrL S i)) ((wrL S i).length) 32) ((wrL S i).length + 1) (numL ((S 23) i))) ((wrL S i).length + 1 + (numL (S 23 i)).length) 45) ((wrL S i).length + 1 + (numL (S 23 i)).length + 1) (numL ((S 24) i))) ((wrL S i).length + 1 + (numL (S 23 i)).length + 1 + (numL (S 24 i)).length) 61) ((wrL S i).length + 1 + (numL (S 23 i)).length + 1 + (numL (S 24 i)).length + 1) (numL (vlI ((S 17)) ((S 18)) ((S 23) i))))) ++ wP cy ad (va_up I 4 (nI (((wrL S i).length + 1 + (numL (S 23 i)).length + 1 + (numL (S 24 i)).length + 1) + (numL (vlI ((S 17)) ((S 18)) ((S 23) i))).length))) (va_up S 15 (appL (upd (appL (upd (appL (upd (appL (S 15) 0 (wrL S i)) ((wrL S i).length) 32) ((wrL S i).length + 1) (numL ((S 23) i))) ((wrL S i).length + 1 + (numL (S 23 i)).length) 45) ((wrL S i).length + 1 + (numL (S 23 i)).length + 1) (numL ((S 24) i))) ((wrL S i).length + 1 + (numL (S 23 i)).length + 1 + (numL (S 24 i)).length) 61) ((wrL S i).length + 1 + (numL (S 23 i)).length + 1 + (numL (S 24 i)).length + 1) (numL (vlI ((S 17)) ((S 18)) ((S 23) i))))) ++ wK cy ad 16 (va_up S 15 (appL (upd (appL (upd (appL (upd (appL (S 15) 0 (wrL S i)) ((wrL S i).length) 32) ((wrL S i).length + 1) (numL ((S 23) i))) ((wrL S i).length + 1 + (numL (S 23 i)).length) 45) ((wrL S i).length + 1 + (numL (S 23 i)).length + 1) (numL ((S 24) i))) ((wrL S i).length + 1 + (numL (S 23 i)).length + 1 + (numL (S 24 i)).length) 61) ((wrL S i).length + 1 + (numL (S 23 i)).length + 1 + (numL (S 24 i)).length + 1) (numL (vlI ((S 17)) ((S 18)) ((S 23) i)))))) := hD
          refine lv_iinc (v := (nI (i + 1))) (lv' := [(3, .int (nI (i + 1))), (0, .ref (ad 14)), (1, .ref (ad 22)), (2, .ref (ad 16))]) hx hb dX2_write_68 hl (k := 0) rfl (nI_1 i) (by decide) rfl (fun ls hl => ?_)
          refine lv_goto (tgt := 7) hx hb dX2_write_71 (by decide) ?_
          have e_18 : (nI (((wrL S i).length + 1 + (numL (S 23 i)).length + 1 + (numL (S 24 i)).length + 1) + (numL (vlI ((S 17)) ((S 18)) ((S 23) i))).length)) = (nI (wrL S (i + 1)).length) := (by rw [wrL_1 (by omega), List.length_append, List.length_append, List.length_singleton, enL, len3]; congr 1; omega)
          have e_19 : (appL (upd (appL (upd (appL (upd (appL (S 15) 0 (wrL S i)) ((wrL S i).length) 32) ((wrL S i).length + 1) (numL ((S 23) i))) ((wrL S i).length + 1 + (numL (S 23 i)).length) 45) ((wrL S i).length + 1 + (numL (S 23 i)).length + 1) (numL ((S 24) i))) ((wrL S i).length + 1 + (numL (S 23 i)).length + 1 + (numL (S 24 i)).length) 61) ((wrL S i).length + 1 + (numL (S 23 i)).length + 1 + (numL (S 24 i)).length + 1) (numL (vlI ((S 17)) ((S 18)) ((S 23) i)))) = (appL (S 15) 0 (wrL S (i + 1))) := (by rw [wrL_1 (by omega), appL_app, appL_snoc, List.length_append, List.length_singleton]; simp only [Nat.zero_add]; exact app3 _ _ _ _ _)
          have hP : va_P D clW (wN cy ad (va_up I 4 (nI (wrL S (i + 1)).length)) (va_up S 15 (appL (S 15) 0 (wrL S (i + 1)))) ++ wP cy ad (va_up I 4 (nI (wrL S (i + 1)).length)) (va_up S 15 (appL (S 15) 0 (wrL S (i + 1)))) ++ wK cy ad 16 (va_up S 15 (appL (S 15) 0 (wrL S (i + 1))))) H := by rw [← e_18, ← e_19]; exact hP
          have hD : va_D A (wN cy ad (va_up I 4 (nI (wrL S (i + 1)).length)) (va_up S 15 (appL (S 15) 0 (wrL S (i + 1)))) ++ wP cy ad (va_up I 4 (nI (wrL S (i + 1)).length)) (va_up S 15 (appL (S 15) 0 (wrL S (i + 1)))) ++ wK cy ad 16 (va_up S 15 (appL (S 15) 0 (wrL S (i + 1))))) := hD.addr rfl
          exact ih7 (i + 1) (by omega) (by omega) _ _ hP hD hS ls (lv_sub hl [0, 1, 2, 3] rfl)
  have e_20 : 0 = (nI (wrL S 0).length) := rfl
  have e_21 : (S 15) = (appL (S 15) 0 (wrL S 0)) := rfl
  have hP : va_P D clW (wN cy ad (va_up I 4 (nI (wrL S 0).length)) (va_up S 15 (appL (S 15) 0 (wrL S 0))) ++ wP cy ad (va_up I 4 (nI (wrL S 0).length)) (va_up S 15 (appL (S 15) 0 (wrL S 0))) ++ wK cy ad 16 (va_up S 15 (appL (S 15) 0 (wrL S 0)))) H := by rw [← e_20, ← e_21]; exact hP
  have hD : va_D A (wN cy ad (va_up I 4 (nI (wrL S 0).length)) (va_up S 15 (appL (S 15) 0 (wrL S 0))) ++ wP cy ad (va_up I 4 (nI (wrL S 0).length)) (va_up S 15 (appL (S 15) 0 (wrL S 0))) ++ wK cy ad 16 (va_up S 15 (appL (S 15) 0 (wrL S 0)))) := hD.addr rfl
  exact L7 (q + 1) 0 (by omega) (by omega) _ _ hP hD hS ls (lv_sub hl [0, 1, 2, 3] rfl)
