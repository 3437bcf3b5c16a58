theorem gf_X1_9 {p : Program} {l : Launch} {e : Env} {R : Room} {s : State} {m : MethodId} {args : Array Value} {below : List Frame} {meth : Method} {c : Code} {H : Heap} {locs : List Loc} {cells slots : Nat} {Q : State → Prop} {cc : ByteArray} {pc : Nat} {ls : Array Slot} {rest : List Value} {D : va_G} {cy : Nat → ClassId} {a : Nat} {ws : va_W} (hx : p.tables.exec = Jvm.exec) (hb : c.code = cc) (hts : ∀ w ∈ wsL_law, w.before args s = true) (hown : s.vm.findClass RX1 = some m.cls) (hK : va_K D clW (tyW cy) s) (hP : va_P D clW ws H) (q0 : Nat) {fs : List Value} (he : ws[q0]? = some (a, .inr (1, fs))) {v : Value} (hv : fs[0]? = some v) (hdg : decode cc pc = .ok (.getfield 9, 3)) (kk : W p l e R s m args below meth c H locs cells slots Q (F0 m (pc + 3) ls (v :: rest))) : W p l e R s m args below meth c H locs cells slots Q (F0 m pc ls (.ref a :: rest)) := va_get (own := RX1) (ref := RX1) (C := RX1) (T := TX1) (N := 2) (ci := 1) hx hb hts inlX1 hown hK hP q0 he rfl 0 (by decide) (hts _ wm_69) (fun _ h => h) hv hdg kk
theorem gf_X1_15 {p : Program} {l : Launch} {e : Env} {R : Room} {s : State} {m : MethodId} {args : Array Value} {below : List Frame} {meth : Method} {c : Code} {H : Heap} {locs : List Loc} {cells slots : Nat} {Q : State → Prop} {cc : ByteArray} {pc : Nat} {ls : Array Slot} {rest : List Value} {D : va_G} {cy : Nat → ClassId} {a : Nat} {ws : va_W} (hx : p.tables.exec = Jvm.exec) (hb : c.code = cc) (hts : ∀ w ∈ wsL_law, w.before args s = true) (hown : s.vm.findClass RX1 = some m.cls) (hK : va_K D clW (tyW cy) s) (hP : va_P D clW ws H) (q0 : Nat) {fs : List Value} (he : ws[q0]? = some (a, .inr (1, fs))) {v : Value} (hv : fs[1]? = some v) (hdg : decode cc pc = .ok (.getfield 15, 3)) (kk : W p l e R s m args below meth c H locs cells slots Q (F0 m (pc + 3) ls (v :: rest))) : W p l e R s m args below meth c H locs cells slots Q (F0 m pc ls (.ref a :: rest)) := va_get (own := RX1) (ref := RX1) (C := RX1) (T := TX1) (N := 2) (ci := 1) hx hb hts inlX1 hown hK hP q0 he rfl 1 (by decide) (hts _ wm_70) (fun _ h => h) hv hdg kk
theorem cw_X1_19 {R : Room} {s : State} {args : Array Value} {rm : Room} {mc ms : Nat} (hts : ∀ w ∈ wsL_law, w.before args s = true) (hrc : rm.cells = mc) (hrs : rm.slots = ms) (hR : rm.frames + 1 ≤ R.frames ∧ 8 + (6 + 11) + rm.locals ≤ R.locals) : CallW R s args RX1 RX1 19 yX1_put cX1_put 6 none (Cond.code yX1_put cX1_put 6 none :: wsL_law) rm mc ms 4 := cwV 4 hts (gUV wm_382 wm_383 wm_384 wm_27 wm_385) rfl hrc hrs (by decide +kernel) hR
theorem cw_X1_29 {R : Room} {s : State} {args : Array Value} {rm : Room} {mc ms : Nat} (hts : ∀ w ∈ wsL_law, w.before args s = true) (hrc : rm.cells = mc) (hrs : rm.slots = ms) (hR : rm.frames + 1 ≤ R.frames ∧ 8 + (2 + 11) + rm.locals ≤ R.locals) : CallW R s args RX1 RX1 29 yX1_has cX1_has 2 (some .boolean) (Cond.code yX1_has cX1_has 2 (some .boolean) :: wsL_law) rm mc ms 1 := cwV 1 hts (gUV wm_398 wm_399 wm_400 wm_27 wm_401) rfl hrc hrs (by decide +kernel) hR
theorem cw_X1_33 {R : Room} {s : State} {args : Array Value} {rm : Room} {mc ms : Nat} (hts : ∀ w ∈ wsL_law, w.before args s = true) (hrc : rm.cells = mc) (hrs : rm.slots = ms) (hR : rm.frames + 1 ≤ R.frames ∧ 8 + (2 + 11) + rm.locals ≤ R.locals) : CallW R s args RX1 RX1 33 yX1_value cX1_value 2 (some .int) (Cond.code yX1_value cX1_value 2 (some .int) :: wsL_law) rm mc ms 1 := cwV 1 hts (gUV wm_406 wm_407 wm_408 wm_27 wm_409) rfl hrc hrs (by decide +kernel) hR
set_option maxHeartbeats 4000000 in
set_option maxRecDepth 100000 in
theorem c_X1_has_16 (l : Launch) (D : va_G) (cy : Nat → ClassId) (ad : Nat → Nat) (S : AS) (x : Int32) : Met l yX1_has (Cond.code yX1_has cX1_has 2 (some .boolean) :: wsL_law) ({ frames := 0, cells := 0, slots := 0, locals := 0 }) (va_Pc [.ref (ad 16), .int x] (rdB D cy (wK cy ad 16 S))) (rdI (fun r => r = if kb (S 17) x = true then 1 else 0)) 0 0 noA := by
  refine enter (cc := cX1_has) (by decide) (Nat.le_of_ble_eq_true rfl) ?_
  intro p e s m below meth c hx hb hr hml hown hts hlocks hin hv Q hQ ls hl
  obtain ⟨hP, hK⟩ := hv
  have hown : s.vm.findClass RX1 = some m.cls := hown
  have hl : lv_has ls 2 [(0, .ref (ad 16)), (1, .int x)] := hl
  refine lv_iload_n hx hb dX1_has_0 rfl (lv_at hl 1 rfl) ?_
  refine lv_if_lt (tgt := 23) hx hb dX1_has_1 (by decide) (fun c1_1 => ?_) (fun c1_1 => ?_)
  · refine lv_iconst (v := 0) hx hb dX1_has_23 (by decide) ?_
    exact rZ_ret hx hb hr hlocks dX1_has_24 narZ0 hQ (by simp [kb, c1_1])
  · refine lv_iload_n hx hb dX1_has_4 rfl (lv_at hl 1 rfl) ?_
    refine lv_bipush (v := 100) hx hb dX1_has_5 (by decide) ?_
    refine lv_icmp_ge (tgt := 23) hx hb dX1_has_7 (by decide) (fun c7_2 => ?_) (fun c7_2 => ?_)
    · refine lv_iconst (v := 0) hx hb dX1_has_23 (by decide) ?_
      exact rZ_ret hx hb hr hlocks dX1_has_24 narZ0 hQ (by simp [kb, c1_1, c7_2])
    · refine lv_aload_n hx hb dX1_has_10 rfl (lv_at hl 0 rfl) ?_
      refine gf_X1_9 hx hb hts hown hK hP 0 rfl (v := .ref (ad 17)) rfl dX1_has_11 ?_
      refine lv_iload_n hx hb dX1_has_14 rfl (lv_at hl 1 rfl) ?_
      refine ald_Zx (f := (S 17)) hx hb hK hP 1 rfl (vpi_of (k := 100) c1_1 c7_2 (Nat.le_refl _) (by decide)) dX1_has_15 ?_
      refine lv_if_eq (tgt := 23) hx hb dX1_has_16 (by decide) (fun c16_3 => ?_) (fun c16_3 => ?_)
      · refine lv_iconst (v := 0) hx hb dX1_has_23 (by decide) ?_
        exact rZ_ret hx hb hr hlocks dX1_has_24 narZ0 hQ (by simp [kb, c1_1, c7_2, c16_3])
      · refine lv_iconst (v := 1) hx hb dX1_has_19 (by decide) ?_
        refine lv_goto (tgt := 24) hx hb dX1_has_20 (by decide) ?_
        exact rZ_ret hx hb hr hlocks dX1_has_24 narZ1 hQ (by simp [kb, c1_1, c7_2, c16_3])
set_option maxHeartbeats 4000000 in
set_option maxRecDepth 100000 in
theorem c_X1_value_16 (l : Launch) (D : va_G) (cy : Nat → ClassId) (ad : Nat → Nat) (S : AS) (x : Int32) : Met l yX1_value (Cond.code yX1_value cX1_value 2 (some .int) :: wsL_law) ({ frames := 1, cells := 0, slots := 0, locals := 21 }) (va_Pc [.ref (ad 16), .int x] (rdB D cy (wK cy ad 16 S))) (rdI (fun r => r = vlI (S 17) (S 18) x)) 0 0 noA := by
  refine enter (cc := cX1_value) (by decide) (Nat.le_of_ble_eq_true rfl) ?_
  intro p e s m below meth c hx hb hr hml hown hts hlocks hin hv Q hQ ls hl
  obtain ⟨hP, hK⟩ := hv
  have hown : s.vm.findClass RX1 = some m.cls := hown
  have hl : lv_has ls 2 [(0, .ref (ad 16)), (1, .int x)] := hl
  refine lv_aload_n hx hb dX1_value_0 rfl (lv_at hl 0 rfl) ?_
  refine lv_iload_n hx hb dX1_value_1 rfl (lv_at hl 1 rfl) ?_
  refine rZ_call (P := kb ((S 17)) x = true) (va_runV (As := [.int x]) (rest := []) ⟨hx, hb, hml, hown, hts⟩ (c_X1_has_16 l D cy ad S x) (cw_X1_29 hts rfl rfl ⟨Nat.le_of_ble_eq_true rfl, Nat.le_of_ble_eq_true rfl⟩) (preVR (ci := 1) (q0 := 0) hK hP rfl rfl) rfl rfl hl.1 rfl (lv_room (Nat.le_of_ble_eq_true rfl)) dX1_value_2 ⟨Nat.le_of_ble_eq_true rfl, Nat.le_of_ble_eq_true rfl⟩) (fun b2_1 => ?_) (fun b2_1 => ?_)
  · refine lv_if_eq (tgt := 17) hx hb dX1_value_5 (by decide) (fun c => absurd c (by decide)) (fun _ => ?_)
    refine lv_aload_n hx hb dX1_value_8 rfl (lv_at hl 0 rfl) ?_
    refine gf_X1_15 hx hb hts hown hK hP 0 rfl (v := .ref (ad 18)) rfl dX1_value_9 ?_
    refine lv_iload_n hx hb dX1_value_12 rfl (lv_at hl 1 rfl) ?_
    refine ald_Ix (f := (S 18)) hx hb hK hP 2 rfl (kb_in b2_1) dX1_value_13 ?_
    refine lv_goto (tgt := 18) hx hb dX1_value_14 (by decide) ?_
    exact rI_ret hx hb hr hlocks dX1_value_18 hQ (by simp [vlI, b2_1])
  · refine lv_if_eq (tgt := 17) hx hb dX1_value_5 (by decide) (fun _ => ?_) (fun c => absurd (by decide) c)
    refine lv_iconst (v := 0) hx hb dX1_value_17 (by decide) ?_
    exact rI_ret hx hb hr hlocks dX1_value_18 hQ (by simp [vlI, b2_1])
set_option maxHeartbeats 4000000 in
set_option maxRecDepth 100000 in
theorem c_X1_put_16 (l : Launch) (D : va_G) (cy : Nat → ClassId) (ad : Nat → Nat) (S : AS) (sz : Nat) (x : Nat) (y : Nat) (z : Int32) (v : Int32) (hxy : x ≤ y) (hy : y ≤ 100) (hz : vp_nar .boolean z = z) : Met l yX1_put (Cond.code yX1_put cX1_put 6 none :: wsL_law) ({ frames := 1, cells := 0, slots := 0, locals := 13 }) (va_Pc [.ref (ad 16), .int (nI x), .int (nI y), .int z, .int v] (wrB D cy (wK cy ad 16 S) sz)) (va_Qv (S := Unit) (fun u => True) (fun u t9 => va_P D clW (wK cy ad 16 (va_up (va_up S 17 (putF (S 17) x y z)) 18 (putF (S 18) x y v))) t9.heap) (va_A (wK cy ad 16 S) sz)) 0 0 (va_A (wK cy ad 16 S) sz) := by
  refine enter (cc := cX1_put) (by decide) (Nat.le_of_ble_eq_true rfl) ?_
  intro p e s m below meth c hx hb hr hml hown hts hlocks hin hv Q hQ ls hl
  obtain ⟨hsz, hP, hK, hD0⟩ := hv
  subst hsz
  have hD := hD0.self (sz := s.heap.size)
  generalize hAe : va_A (wK cy ad 16 S) s.heap.size = A at hD hQ ⊢
  have hA : ∀ q : Nat, s.heap.size ≤ q → A q := fun q h => by rw [← hAe]; exact Or.inr h
  have hS : va_S A s.heap s.heap [] := va_S.rf
  suffices K_ : ∀ (H : Heap) (locs : List Loc), va_P D clW (wK cy ad 16 S) H → va_S A s.heap H locs → W p l e ({ frames := 1, cells := 0, slots := 0, locals := 13 }) s m ([.ref (ad 16), .int (nI x), .int (nI y), .int z, .int v] : List Value).toArray below meth c H locs 0 0 Q (F0 m 0 ls []) from K_ _ _ hP hS
  clear hP hS
  intro H locs hP hS
  have hown : s.vm.findClass RX1 = some m.cls := hown
  have hl : lv_has ls 6 [(0, .ref (ad 16)), (1, .int (nI x)), (2, .int (nI y)), (3, .int z), (4, .int v)] := hl
  refine lv_iload_n hx hb dX1_put_0 rfl (lv_at hl 1 rfl) ?_
  refine lv_iconst (v := 0) hx hb dX1_put_1 (by decide) ?_
  refine va_mmax hx hb (hml.trans hl.1.symm) hown (hts _ wm_386) (hts _ wm_125) (hts _ wm_112) (hts _ wm_126) (Nat.le_of_ble_eq_true rfl) (Nat.le_of_ble_eq_true rfl) (Nat.le_of_ble_eq_true rfl) (Nat.le_of_ble_eq_true rfl) dX1_put_2 ?_
  refine top_eq (y := nI x) (if_neg (nI_pos (by omega))) ?_
  refine lv_istore (lv' := [(5, .int (nI x)), (0, .ref (ad 16)), (1, .int (nI x)), (2, .int (nI y)), (3, .int z), (4, .int v)]) hx hb dX1_put_5 hl (by decide) rfl (fun ls hl => ?_)
  have L7 : ∀ (n_7 i : Nat), i ≤ y → y + 1 ≤ i + n_7 → x ≤ i → ∀ (H : Heap) (locs : List Loc), va_P D clW (wK cy ad 16 (va_up (va_up S 17 (putF (S 17) x i z)) 18 (putF (S 18) x i v))) H → va_D A (wK cy ad 16 (va_up (va_up S 17 (putF (S 17) x i z)) 18 (putF (S 18) x i v))) → va_S A s.heap H locs → ∀ (ls : Array Slot), lv_has ls 6 [(5, .int (nI i)), (0, .ref (ad 16)), (1, .int (nI x)), (2, .int (nI y)), (3, .int z), (4, .int v)] → W p l e { frames := 1, cells := 0, slots := 0, locals := 13 } s m ([.ref (ad 16), .int (nI x), .int (nI y), .int z, .int v] : List Value).toArray below meth c H locs 0 0 Q (F0 m 7 ls []) := by
    clear hl
    intro n_7
    induction n_7 with
    | zero => intro i  hle_7 hn_7; exact absurd hn_7 (by omega)
    | succ n_7 ih7 =>
      intro i  hle_7 hn_7 hxi H locs hP hD hS ls hl
      refine lv_iload hx hb dX1_put_7 (lv_at hl 0 rfl) ?_
      refine lv_iload_n hx hb dX1_put_9 rfl (lv_at hl 3 rfl) ?_
      refine lv_icmp_ge (tgt := 43) hx hb dX1_put_10 (by decide) (fun c10_1 => ?_) (fun c10_1 => ?_)
      · have f10_1 : y ≤ i := nt_le (a := y) (b := i) (by omega) (by omega) c10_1
        have e_2 : (putF (S 17) x i z) = (putF (S 17) x y z) := (by rw [show i = y by omega])
        have e_3 : (putF (S 18) x i v) = (putF (S 18) x y v) := (by rw [show i = y by omega])
        have hP : va_P D clW (wK cy ad 16 (va_up (va_up S 17 (putF (S 17) x y z)) 18 (putF (S 18) x y v))) H := by rw [← e_2, ← e_3]; exact hP
        have hD : va_D A (wK cy ad 16 (va_up (va_up S 17 (putF (S 17) x y z)) 18 (putF (S 18) x y v))) := hD.addr rfl
        exact wV_ret () hS hP hx hb hr hlocks dX1_put_43 (Nat.le_of_ble_eq_true rfl) (Nat.le_of_ble_eq_true rfl) hQ trivial
      · have f10_1 : i < y := nt_nle (a := y) (b := i) (by omega) (by omega) c10_1
        refine lv_iload hx hb dX1_put_13 (lv_at hl 0 rfl) ?_
        refine lv_bipush (v := 100) hx hb dX1_put_15 (by decide) ?_
        refine lv_icmp_ge (tgt := 43) hx hb dX1_put_17 (by decide) (fun c17_4 => ?_) (fun c17_4 => ?_)
        · have f17_4 : 100 ≤ i := nt_le (a := 100) (b := i) (by omega) (by omega) c17_4
          have e_5 : (putF (S 17) x i z) = (putF (S 17) x y z) := (by rw [show i = y by omega])
          have e_6 : (putF (S 18) x i v) = (putF (S 18) x y v) := (by rw [show i = y by omega])
          have hP : va_P D clW (wK cy ad 16 (va_up (va_up S 17 (putF (S 17) x y z)) 18 (putF (S 18) x y v))) H := by rw [← e_5, ← e_6]; exact hP
          have hD : va_D A (wK cy ad 16 (va_up (va_up S 17 (putF (S 17) x y z)) 18 (putF (S 18) x y v))) := hD.addr rfl
          exact wV_ret () hS hP hx hb hr hlocks dX1_put_43 (Nat.le_of_ble_eq_true rfl) (Nat.le_of_ble_eq_true rfl) hQ trivial
        · have f17_4 : i < 100 := nt_nle (a := 100) (b := i) (by omega) (by omega) c17_4
          refine lv_aload_n hx hb dX1_put_20 rfl (lv_at hl 1 rfl) ?_
          refine gf_X1_9 hx hb hts hown hK hP 0 rfl (v := .ref (ad 17)) rfl dX1_put_21 ?_
          refine lv_iload hx hb dX1_put_24 (lv_at hl 0 rfl) ?_
          refine lv_iload_n hx hb dX1_put_26 rfl (lv_at hl 4 rfl) ?_
          refine ast_Z hx hb hK hP hD hS 1 rfl (i := i) (x := z) (by omega) (by decide) hz dX1_put_27 (fun H locs hP hD hS => ?_)
          have hP : va_P D clW (wK cy ad 16 (va_up (va_up S 18 (putF (S 18) x i v)) 17 (upd (putF (S 17) x i z) i z))) H := hP
          have hD : va_D A (wK cy ad 16 (va_up (va_up S 18 (putF (S 18) x i v)) 17 (upd (putF (S 17) x i z) i z))) := hD
          refine lv_aload_n hx hb dX1_put_28 rfl (lv_at hl 1 rfl) ?_
          refine gf_X1_15 hx hb hts hown hK hP 0 rfl (v := .ref (ad 18)) rfl dX1_put_29 ?_
          refine lv_iload hx hb dX1_put_32 (lv_at hl 0 rfl) ?_
          refine lv_iload hx hb dX1_put_34 (lv_at hl 5 rfl) ?_
          refine ast_I hx hb hK hP hD hS 2 rfl (i := i) (x := v) (by omega) (by decide) dX1_put_36 (fun H locs hP hD hS => ?_)
          have hP : va_P D clW (wK cy ad 16 (va_up (va_up S 17 (upd (putF (S 17) x i z) i z)) 18 (upd (putF (S 18) x i v) i v))) H := hP
          have hD : va_D A (wK cy ad 16 (va_up (va_up S 17 (upd (putF (S 17) x i z) i z)) 18 (upd (putF (S 18) x i v) i v))) := hD
          refine lv_iinc (v := (nI (i + 1))) (lv' := [(5, .int (nI (i + 1))), (0, .ref (ad 16)), (1, .int (nI x)), (2, .int (nI y)), (3, .int z), (4, .int v)]) hx hb dX1_put_37 hl (k := 0) rfl (nI_1 i) (by decide) rfl (fun ls hl => ?_)
          refine lv_goto (tgt := 7) hx hb dX1_put_40 (by decide) ?_
          have e_7 : (upd (putF (S 17) x i z) i z) = (putF (S 17) x (i + 1) z) := (putF_s _ hxi)
          have e_8 : (upd (putF (S 18) x i v) i v) = (putF (S 18) x (i + 1) v) := (putF_s _ hxi)
          have hP : va_P D clW (wK cy ad 16 (va_up (va_up S 17 (putF (S 17) x (i + 1) z)) 18 (putF (S 18) x (i + 1) v))) H := by rw [← e_7, ← e_8]; exact hP
          have hD : va_D A (wK cy ad 16 (va_up (va_up S 17 (putF (S 17) x (i + 1) z)) 18 (putF (S 18) x (i + 1) v))) := hD.addr rfl
          exact ih7 (i + 1) (by omega) (by omega) (by omega) _ _ hP hD hS ls (lv_sub hl [0, 1, 2, 3, 4, 5] rfl)
  have e_9 : (S 17) = (putF (S 17) x x z) := (putF_0 _ _ _)
  have e_10 : (S 18) = (putF (S 18) x x v) := (putF_0 _ _ _)
  have hP : va_P D clW (wK cy ad 16 (va_up (va_up S 17 (putF (S 17) x x z)) 18 (putF (S 18) x x v))) H := by rw [← e_9, ← e_10]; exact hP
  have hD : va_D A (wK cy ad 16 (va_up (va_up S 17 (putF (S 17) x x z)) 18 (putF (S 18) x x v))) := hD.addr rfl
  exact L7 (y + 1) x (by omega) (by omega) (by omega) _ _ hP hD hS ls (lv_sub hl [0, 1, 2, 3, 4, 5] rfl)
set_option maxHeartbeats 4000000 in
set_option maxRecDepth 100000 in
theorem c_X1_forget_16 (l : Launch) (D : va_G) (cy : Nat → ClassId) (ad : Nat → Nat) (S : AS) (sz : Nat) : Met l yX1_forget (Cond.code yX1_forget cX1_forget 1 none :: wsL_law) ({ frames := 2, cells := 0, slots := 0, locals := 38 }) (va_Pc [.ref (ad 16)] (wrB D cy (wK cy ad 16 S) sz)) (va_Qv (S := Unit) (fun u => True) (fun u t9 => va_P D clW (wK cy ad 16 (va_up (va_up S 17 (putF (S 17) 0 100 0)) 18 (putF (S 18) 0 100 0))) t9.heap) (va_A (wK cy ad 16 S) sz)) 0 0 (va_A (wK cy ad 16 S) sz) := by
  refine enter (cc := cX1_forget) (by decide) (Nat.le_of_ble_eq_true rfl) ?_
  intro p e s m below meth c hx hb hr hml hown hts hlocks hin hv Q hQ ls hl
  obtain ⟨hsz, hP, hK, hD0⟩ := hv
  subst hsz
  have hD := hD0.self (sz := s.heap.size)
  generalize hAe : va_A (wK cy ad 16 S) s.heap.size = A at hD hQ ⊢
  have hA : ∀ q : Nat, s.heap.size ≤ q → A q := fun q h => by rw [← hAe]; exact Or.inr h
  have hS : va_S A s.heap s.heap [] := va_S.rf
  suffices K_ : ∀ (H : Heap) (locs : List Loc), va_P D clW (wK cy ad 16 S) H → va_S A s.heap H locs → W p l e ({ frames := 2, cells := 0, slots := 0, locals := 38 }) s m ([.ref (ad 16)] : List Value).toArray below meth c H locs 0 0 Q (F0 m 0 ls []) from K_ _ _ hP hS
  clear hP hS
  intro H locs hP hS
  have hown : s.vm.findClass RX1 = some m.cls := hown
  have hl : lv_has ls 1 [(0, .ref (ad 16))] := hl
  refine lv_aload_n hx hb dX1_forget_0 rfl (lv_at hl 0 rfl) ?_
  refine lv_iconst (v := 0) hx hb dX1_forget_1 (by decide) ?_
  refine lv_bipush (v := 100) hx hb dX1_forget_2 (by decide) ?_
  refine lv_iconst (v := 0) hx hb dX1_forget_4 (by decide) ?_
  refine lv_iconst (v := 0) hx hb dX1_forget_5 (by decide) ?_
  refine wV_call (va_runV (As := [.int 0, .int 100, .int 0, .int 0]) (rest := []) ⟨hx, hb, hml, hown, hts⟩ (c_X1_put_16 l D cy ad S H.size 0 100 0 0 (by omega) (by omega) rfl) (cw_X1_19 hts rfl rfl ⟨Nat.le_of_ble_eq_true rfl, Nat.le_of_ble_eq_true rfl⟩) (preVW (ci := 1) (q0 := 0) hK hP hD rfl rfl) rfl rfl hl.1 rfl (lv_room (Nat.le_of_ble_eq_true rfl)) dX1_forget_6 ⟨Nat.le_of_ble_eq_true rfl, Nat.le_of_ble_eq_true rfl⟩) hP hD hS hA [0, 1, 2] rfl [.inr 0, .inr 1, .inr 2] (by decide) (fun u => (wK cy ad 16 (va_up (va_up S 17 (putF (S 17) 0 100 0)) 18 (putF (S 18) 0 100 0)))) (fun _ => rfl) (fun _ => rfl) (fun u6_1 H locs q6_1 hP hD hS hkp => ?_)
  have hP : va_P D clW (wK cy ad 16 (va_up (va_up S 17 (putF (S 17) 0 100 0)) 18 (putF (S 18) 0 100 0))) H := hP
  have hD : va_D A (wK cy ad 16 (va_up (va_up S 17 (putF (S 17) 0 100 0)) 18 (putF (S 18) 0 100 0))) := hD
  have hP : va_P D clW (wK cy ad 16 (va_up (va_up S 17 (putF (S 17) 0 100 0)) 18 (putF (S 18) 0 100 0))) H := hP
  have hD : va_D A (wK cy ad 16 (va_up (va_up S 17 (putF (S 17) 0 100 0)) 18 (putF (S 18) 0 100 0))) := hD.addr rfl
  exact wV_ret () hS hP hx hb hr hlocks dX1_forget_9 (Nat.le_of_ble_eq_true rfl) (Nat.le_of_ble_eq_true rfl) hQ trivial
set_option maxHeartbeats 4000000 in
set_option maxRecDepth 100000 in
theorem c_X1_has_19 (l : Launch) (D : va_G) (cy : Nat → ClassId) (ad : Nat → Nat) (S : AS) (x : Int32) : Met l yX1_has (Cond.code yX1_has cX1_has 2 (some .boolean) :: wsL_law) ({ frames := 0, cells := 0, slots := 0, locals := 0 }) (va_Pc [.ref (ad 19), .int x] (rdB D cy (wK cy ad 19 S))) (rdI (fun r => r = if kb (S 20) x = true then 1 else 0)) 0 0 noA := by
  refine enter (cc := cX1_has) (by decide) (Nat.le_of_ble_eq_true rfl) ?_
  intro p e s m below meth c hx hb hr hml hown hts hlocks hin hv Q hQ ls hl
  obtain ⟨hP, hK⟩ := hv
  have hown : s.vm.findClass RX1 = some m.cls := hown
  have hl : lv_has ls 2 [(0, .ref (ad 19)), (1, .int x)] := hl
  refine lv_iload_n hx hb dX1_has_0 rfl (lv_at hl 1 rfl) ?_
  refine lv_if_lt (tgt := 23) hx hb dX1_has_1 (by decide) (fun c1_1 => ?_) (fun c1_1 => ?_)
  · refine lv_iconst (v := 0) hx hb dX1_has_23 (by decide) ?_
    exact rZ_ret hx hb hr hlocks dX1_has_24 narZ0 hQ (by simp [kb, c1_1])
  · refine lv_iload_n hx hb dX1_has_4 rfl (lv_at hl 1 rfl) ?_
    refine lv_bipush (v := 100) hx hb dX1_has_5 (by decide) ?_
    refine lv_icmp_ge (tgt := 23) hx hb dX1_has_7 (by decide) (fun c7_2 => ?_) (fun c7_2 => ?_)
    · refine lv_iconst (v := 0) hx hb dX1_has_23 (by decide) ?_
      exact rZ_ret hx hb hr hlocks dX1_has_24 narZ0 hQ (by simp [kb, c1_1, c7_2])
    · refine lv_aload_n hx hb dX1_has_10 rfl (lv_at hl 0 rfl) ?_
      refine gf_X1_9 hx hb hts hown hK hP 0 rfl (v := .ref (ad 20)) rfl dX1_has_11 ?_
      refine lv_iload_n hx hb dX1_has_14 rfl (lv_at hl 1 rfl) ?_
      refine ald_Zx (f := (S 20)) hx hb hK hP 1 rfl (vpi_of (k := 100) c1_1 c7_2 (Nat.le_refl _) (by decide)) dX1_has_15 ?_
      refine lv_if_eq (tgt := 23) hx hb dX1_has_16 (by decide) (fun c16_3 => ?_) (fun c16_3 => ?_)
      · refine lv_iconst (v := 0) hx hb dX1_has_23 (by decide) ?_
        exact rZ_ret hx hb hr hlocks dX1_has_24 narZ0 hQ (by simp [kb, c1_1, c7_2, c16_3])
      · refine lv_iconst (v := 1) hx hb dX1_has_19 (by decide) ?_
        refine lv_goto (tgt := 24) hx hb dX1_has_20 (by decide) ?_
        exact rZ_ret hx hb hr hlocks dX1_has_24 narZ1 hQ (by simp [kb, c1_1, c7_2, c16_3])
set_option maxHeartbeats 4000000 in
set_option maxRecDepth 100000 in
theorem c_X1_value_19 (l : Launch) (D : va_G) (cy : Nat → ClassId) (ad : Nat → Nat) (S : AS) (x : Int32) : Met l yX1_value (Cond.code yX1_value cX1_value 2 (some .int) :: wsL_law) ({ frames := 1, cells := 0, slots := 0, locals := 21 }) (va_Pc [.ref (ad 19), .int x] (rdB D cy (wK cy ad 19 S))) (rdI (fun r => r = vlI (S 20) (S 21) x)) 0 0 noA := by
  refine enter (cc := cX1_value) (by decide) (Nat.le_of_ble_eq_true rfl) ?_
  intro p e s m below meth c hx hb hr hml hown hts hlocks hin hv Q hQ ls hl
  obtain ⟨hP, hK⟩ := hv
  have hown : s.vm.findClass RX1 = some m.cls := hown
  have hl : lv_has ls 2 [(0, .ref (ad 19)), (1, .int x)] := hl
  refine lv_aload_n hx hb dX1_value_0 rfl (lv_at hl 0 rfl) ?_
  refine lv_iload_n hx hb dX1_value_1 rfl (lv_at hl 1 rfl) ?_
  refine rZ_call (P := kb ((S 20)) x = true) (va_runV (As := [.int x]) (rest := []) ⟨hx, hb, hml, hown, hts⟩ (c_X1_has_19 l D cy ad S x) (cw_X1_29 hts rfl rfl ⟨Nat.le_of_ble_eq_true rfl, Nat.le_of_ble_eq_true rfl⟩) (preVR (ci := 1) (q0 := 0) hK hP rfl rfl) rfl rfl hl.1 rfl (lv_room (Nat.le_of_ble_eq_true rfl)) dX1_value_2 ⟨Nat.le_of_ble_eq_true rfl, Nat.le_of_ble_eq_true rfl⟩) (fun b2_1 => ?_) (fun b2_1 => ?_)
  · refine lv_if_eq (tgt := 17) hx hb dX1_value_5 (by decide) (fun c => absurd c (by decide)) (fun _ => ?_)
    refine lv_aload_n hx hb dX1_value_8 rfl (lv_at hl 0 rfl) ?_
    refine gf_X1_15 hx hb hts hown hK hP 0 rfl (v := .ref (ad 21)) rfl dX1_value_9 ?_
    refine lv_iload_n hx hb dX1_value_12 rfl (lv_at hl 1 rfl) ?_
    refine ald_Ix (f := (S 21)) hx hb hK hP 2 rfl (kb_in b2_1) dX1_value_13 ?_
    refine lv_goto (tgt := 18) hx hb dX1_value_14 (by decide) ?_
    exact rI_ret hx hb hr hlocks dX1_value_18 hQ (by simp [vlI, b2_1])
  · refine lv_if_eq (tgt := 17) hx hb dX1_value_5 (by decide) (fun _ => ?_) (fun c => absurd (by decide) c)
    refine lv_iconst (v := 0) hx hb dX1_value_17 (by decide) ?_
    exact rI_ret hx hb hr hlocks dX1_value_18 hQ (by simp [vlI, b2_1])
set_option maxHeartbeats 4000000 in
set_option maxRecDepth 100000 in
theorem c_X1_put_19 (l : Launch) (D : va_G) (cy : Nat → ClassId) (ad : Nat → Nat) (S : AS) (sz : Nat) (x : Nat) (y : Nat) (z : Int32) (v : Int32) (hxy : x ≤ y) (hy : y ≤ 100) (hz : vp_nar .boolean z = z) : Met l yX1_put (Cond.code yX1_put cX1_put 6 none :: wsL_law) ({ frames := 1, cells := 0, slots := 0, locals := 13 }) (va_Pc [.ref (ad 19), .int (nI x), .int (nI y), .int z, .int v] (wrB D cy (wK cy ad 19 S) sz)) (va_Qv (S := Unit) (fun u => True) (fun u t9 => va_P D clW (wK cy ad 19 (va_up (va_up S 20 (putF (S 20) x y z)) 21 (putF (S 21) x y v))) t9.heap) (va_A (wK cy ad 19 S) sz)) 0 0 (va_A (wK cy ad 19 S) sz) := by
  refine enter (cc := cX1_put) (by decide) (Nat.le_of_ble_eq_true rfl) ?_
  intro p e s m below meth c hx hb hr hml hown hts hlocks hin hv Q hQ ls hl
  obtain ⟨hsz, hP, hK, hD0⟩ := hv
  subst hsz
  have hD := hD0.self (sz := s.heap.size)
  generalize hAe : va_A (wK cy ad 19 S) s.heap.size = A at hD hQ ⊢
  have hA : ∀ q : Nat, s.heap.size ≤ q → A q := fun q h => by rw [← hAe]; exact Or.inr h
  have hS : va_S A s.heap s.heap [] := va_S.rf
  suffices K_ : ∀ (H : Heap) (locs : List Loc), va_P D clW (wK cy ad 19 S) H → va_S A s.heap H locs → W p l e ({ frames := 1, cells := 0, slots := 0, locals := 13 }) s m ([.ref (ad 19), .int (nI x), .int (nI y), .int z, .int v] : List Value).toArray below meth c H locs 0 0 Q (F0 m 0 ls []) from K_ _ _ hP hS
  clear hP hS
  intro H locs hP hS
  have hown : s.vm.findClass RX1 = some m.cls := hown
  have hl : lv_has ls 6 [(0, .ref (ad 19)), (1, .int (nI x)), (2, .int (nI y)), (3, .int z), (4, .int v)] := hl
  refine lv_iload_n hx hb dX1_put_0 rfl (lv_at hl 1 rfl) ?_
  refine lv_iconst (v := 0) hx hb dX1_put_1 (by decide) ?_
  refine va_mmax hx hb (hml.trans hl.1.symm) hown (hts _ wm_386) (hts _ wm_125) (hts _ wm_112) (hts _ wm_126) (Nat.le_of_ble_eq_true rfl) (Nat.le_of_ble_eq_true rfl) (Nat.le_of_ble_eq_true rfl) (Nat.le_of_ble_eq_true rfl) dX1_put_2 ?_
  refine top_eq (y := nI x) (if_neg (nI_pos (by omega))) ?_
  refine lv_istore (lv' := [(5, .int (nI x)), (0, .ref (ad 19)), (1, .int (nI x)), (2, .int (nI y)), (3, .int z), (4, .int v)]) hx hb dX1_put_5 hl (by decide) rfl (fun ls hl => ?_)
  have L7 : ∀ (n_7 i : Nat), i ≤ y → y + 1 ≤ i + n_7 → x ≤ i → ∀ (H : Heap) (locs : List Loc), va_P D clW (wK cy ad 19 (va_up (va_up S 20 (putF (S 20) x i z)) 21 (putF (S 21) x i v))) H → va_D A (wK cy ad 19 (va_up (va_up S 20 (putF (S 20) x i z)) 21 (putF (S 21) x i v))) → va_S A s.heap H locs → ∀ (ls : Array Slot), lv_has ls 6 [(5, .int (nI i)), (0, .ref (ad 19)), (1, .int (nI x)), (2, .int (nI y)), (3, .int z), (4, .int v)] → W p l e { frames := 1, cells := 0, slots := 0, locals := 13 } s m ([.ref (ad 19), .int (nI x), .int (nI y), .int z, .int v] : List Value).toArray below meth c H locs 0 0 Q (F0 m 7 ls []) := by
    clear hl
    intro n_7
    induction n_7 with
    | zero => intro i  hle_7 hn_7; exact absurd hn_7 (by omega)
    | succ n_7 ih7 =>
      intro i  hle_7 hn_7 hxi H locs hP hD hS ls hl
      refine lv_iload hx hb dX1_put_7 (lv_at hl 0 rfl) ?_
      refine lv_iload_n hx hb dX1_put_9 rfl (lv_at hl 3 rfl) ?_
      refine lv_icmp_ge (tgt := 43) hx hb dX1_put_10 (by decide) (fun c10_1 => ?_) (fun c10_1 => ?_)
      · have f10_1 : y ≤ i := nt_le (a := y) (b := i) (by omega) (by omega) c10_1
        have e_2 : (putF (S 20) x i z) = (putF (S 20) x y z) := (by rw [show i = y by omega])
        have e_3 : (putF (S 21) x i v) = (putF (S 21) x y v) := (by rw [show i = y by omega])
        have hP : va_P D clW (wK cy ad 19 (va_up (va_up S 20 (putF (S 20) x y z)) 21 (putF (S 21) x y v))) H := by rw [← e_2, ← e_3]; exact hP
        have hD : va_D A (wK cy ad 19 (va_up (va_up S 20 (putF (S 20) x y z)) 21 (putF (S 21) x y v))) := hD.addr rfl
        exact wV_ret () hS hP hx hb hr hlocks dX1_put_43 (Nat.le_of_ble_eq_true rfl) (Nat.le_of_ble_eq_true rfl) hQ trivial
      · have f10_1 : i < y := nt_nle (a := y) (b := i) (by omega) (by omega) c10_1
        refine lv_iload hx hb dX1_put_13 (lv_at hl 0 rfl) ?_
        refine lv_bipush (v := 100) hx hb dX1_put_15 (by decide) ?_
        refine lv_icmp_ge (tgt := 43) hx hb dX1_put_17 (by decide) (fun c17_4 => ?_) (fun c17_4 => ?_)
        · have f17_4 : 100 ≤ i := nt_le (a := 100) (b := i) (by omega) (by omega) c17_4
          have e_5 : (putF (S 20) x i z) = (putF (S 20) x y z) := (by rw [show i = y by omega])
          have e_6 : (putF (S 21) x i v) = (putF (S 21) x y v) := (by rw [show i = y by omega])
          have hP : va_P D clW (wK cy ad 19 (va_up (va_up S 20 (putF (S 20) x y z)) 21 (putF (S 21) x y v))) H := by rw [← e_5, ← e_6]; exact hP
          have hD : va_D A (wK cy ad 19 (va_up (va_up S 20 (putF (S 20) x y z)) 21 (putF (S 21) x y v))) := hD.addr rfl
          exact wV_ret () hS hP hx hb hr hlocks dX1_put_43 (Nat.le_of_ble_eq_true rfl) (Nat.le_of_ble_eq_true rfl) hQ trivial
        · have f17_4 : i < 100 := nt_nle (a := 100) (b := i) (by omega) (by omega) c17_4
          refine lv_aload_n hx hb dX1_put_20 rfl (lv_at hl 1 rfl) ?_
          refine gf_X1_9 hx hb hts hown hK hP 0 rfl (v := .ref (ad 20)) rfl dX1_put_21 ?_
          refine lv_iload hx hb dX1_put_24 (lv_at hl 0 rfl) ?_
          refine lv_iload_n hx hb dX1_put_26 rfl (lv_at hl 4 rfl) ?_
          refine ast_Z hx hb hK hP hD hS 1 rfl (i := i) (x := z) (by omega) (by decide) hz dX1_put_27 (fun H locs hP hD hS => ?_)
          have hP : va_P D clW (wK cy ad 19 (va_up (va_up S 21 (putF (S 21) x i v)) 20 (upd (putF (S 20) x i z) i z))) H := hP
          have hD : va_D A (wK cy ad 19 (va_up (va_up S 21 (putF (S 21) x i v)) 20 (upd (putF (S 20) x i z) i z))) := hD
          refine lv_aload_n hx hb dX1_put_28 rfl (lv_at hl 1 rfl) ?_
          refine gf_X1_15 hx hb hts hown hK hP 0 rfl (v := .ref (ad 21)) rfl dX1_put_29 ?_
          refine lv_iload hx hb dX1_put_32 (lv_at hl 0 rfl) ?_
          refine lv_iload hx hb dX1_put_34 (lv_at hl 5 rfl) ?_
          refine ast_I hx hb hK hP hD hS 2 rfl (i := i) (x := v) (by omega) (by decide) dX1_put_36 (fun H locs hP hD hS => ?_)
          have hP : va_P D clW (wK cy ad 19 (va_up (va_up S 20 (upd (putF (S 20) x i z) i z)) 21 (upd (putF (S 21) x i v) i v))) H := hP
          have hD : va_D A (wK cy ad 19 (va_up (va_up S 20 (upd (putF (S 20) x i z) i z)) 21 (upd (putF (S 21) x i v) i v))) := hD
          refine lv_iinc (v := (nI (i + 1))) (lv' := [(5, .int (nI (i + 1))), (0, .ref (ad 19)), (1, .int (nI x)), (2, .int (nI y)), (3, .int z), (4, .int v)]) hx hb dX1_put_37 hl (k := 0) rfl (nI_1 i) (by decide) rfl (fun ls hl => ?_)
          refine lv_goto (tgt := 7) hx hb dX1_put_40 (by decide) ?_
          have e_7 : (upd (putF (S 20) x i z) i z) = (putF (S 20) x (i + 1) z) := (putF_s _ hxi)
          have e_8 : (upd (putF (S 21) x i v) i v) = (putF (S 21) x (i + 1) v) := (putF_s _ hxi)
          have hP : va_P D clW (wK cy ad 19 (va_up (va_up S 20 (putF (S 20) x (i + 1) z)) 21 (putF (S 21) x (i + 1) v))) H := by rw [← e_7, ← e_8]; exact hP
          have hD : va_D A (wK cy ad 19 (va_up (va_up S 20 (putF (S 20) x (i + 1) z)) 21 (putF (S 21) x (i + 1) v))) := hD.addr rfl
          exact ih7 (i + 1) (by omega) (by omega) (by omega) _ _ hP hD hS ls (lv_sub hl [0, 1, 2, 3, 4, 5] rfl)
  have e_9 : (S 20) = (putF (S 20) x x z) := (putF_0 _ _ _)
  have e_10 : (S 21) = (putF (S 21) x x v) := (putF_0 _ _ _)
  have hP : va_P D clW (wK cy ad 19 (va_up (va_up S 20 (putF (S 20) x x z)) 21 (putF (S 21) x x v))) H := by rw [← e_9, ← e_10]; exact hP
  have hD : va_D A (wK cy ad 19 (va_up (va_up S 20 (putF (S 20) x x z)) 21 (putF (S 21) x x v))) := hD.addr rfl
  exact L7 (y + 1) x (by omega) (by omega) (by omega) _ _ hP hD hS ls (lv_sub hl [0, 1, 2, 3, 4, 5] rfl)
set_option maxHeartbeats 4000000 in
set_option maxRecDepth 100000 in
theorem c_X1_forget_19 (l : Launch) (D : va_G) (cy : Nat → ClassId) (ad : Nat → Nat) (S : AS) (sz : Nat) : Met l yX1_forget (Cond.code yX1_forget cX1_forget 1 none :: wsL_law) ({ frames := 2, cells := 0, slots := 0, locals := 38 }) (va_Pc [.ref (ad 19)] (wrB D cy (wK cy ad 19 S) sz)) (va_Qv (S := Unit) (fun u => True) (fun u t9 => va_P D clW (wK cy ad 19 (va_up (va_up S 20 (putF (S 20) 0 100 0)) 21 (putF (S 21) 0 100 0))) t9.heap) (va_A (wK cy ad 19 S) sz)) 0 0 (va_A (wK cy ad 19 S) sz) := by
  refine enter (cc := cX1_forget) (by decide) (Nat.le_of_ble_eq_true rfl) ?_
  intro p e s m below meth c hx hb hr hml hown hts hlocks hin hv Q hQ ls hl
  obtain ⟨hsz, hP, hK, hD0⟩ := hv
  subst hsz
  have hD := hD0.self (sz := s.heap.size)
  generalize hAe : va_A (wK cy ad 19 S) s.heap.size = A at hD hQ ⊢
  have hA : ∀ q : Nat, s.heap.size ≤ q → A q := fun q h => by rw [← hAe]; exact Or.inr h
  have hS : va_S A s.heap s.heap [] := va_S.rf
  suffices K_ : ∀ (H : Heap) (locs : List Loc), va_P D clW (wK cy ad 19 S) H → va_S A s.heap H locs → W p l e ({ frames := 2, cells := 0, slots := 0, locals := 38 }) s m ([.ref (ad 19)] : List Value).toArray below meth c H locs 0 0 Q (F0 m 0 ls []) from K_ _ _ hP hS
  clear hP hS
  intro H locs hP hS
  have hown : s.vm.findClass RX1 = some m.cls := hown
  have hl : lv_has ls 1 [(0, .ref (ad 19))] := hl
  refine lv_aload_n hx hb dX1_forget_0 rfl (lv_at hl 0 rfl) ?_
  refine lv_iconst (v := 0) hx hb dX1_forget_1 (by decide) ?_
  refine lv_bipush (v := 100) hx hb dX1_forget_2 (by decide) ?_
  refine lv_iconst (v := 0) hx hb dX1_forget_4 (by decide) ?_
  refine lv_iconst (v := 0) hx hb dX1_forget_5 (by decide) ?_
  refine wV_call (va_runV (As := [.int 0, .int 100, .int 0, .int 0]) (rest := []) ⟨hx, hb, hml, hown, hts⟩ (c_X1_put_19 l D cy ad S H.size 0 100 0 0 (by omega) (by omega) rfl) (cw_X1_19 hts rfl rfl ⟨Nat.le_of_ble_eq_true rfl, Nat.le_of_ble_eq_true rfl⟩) (preVW (ci := 1) (q0 := 0) hK hP hD rfl rfl) rfl rfl hl.1 rfl (lv_room (Nat.le_of_ble_eq_true rfl)) dX1_forget_6 ⟨Nat.le_of_ble_eq_true rfl, Nat.le_of_ble_eq_true rfl⟩) hP hD hS hA [0, 1, 2] rfl [.inr 0, .inr 1, .inr 2] (by decide) (fun u => (wK cy ad 19 (va_up (va_up S 20 (putF (S 20) 0 100 0)) 21 (putF (S 21) 0 100 0)))) (fun _ => rfl) (fun _ => rfl) (fun u6_1 H locs q6_1 hP hD hS hkp => ?_)
  have hP : va_P D clW (wK cy ad 19 (va_up (va_up S 20 (putF (S 20) 0 100 0)) 21 (putF (S 21) 0 100 0))) H := hP
  have hD : va_D A (wK cy ad 19 (va_up (va_up S 20 (putF (S 20) 0 100 0)) 21 (putF (S 21) 0 100 0))) := hD
  have hP : va_P D clW (wK cy ad 19 (va_up (va_up S 20 (putF (S 20) 0 100 0)) 21 (putF (S 21) 0 100 0))) H := hP
  have hD : va_D A (wK cy ad 19 (va_up (va_up S 20 (putF (S 20) 0 100 0)) 21 (putF (S 21) 0 100 0))) := hD.addr rfl
  exact wV_ret () hS hP hx hb hr hlocks dX1_forget_9 (Nat.le_of_ble_eq_true rfl) (Nat.le_of_ble_eq_true rfl) hQ trivial
set_option maxHeartbeats 4000000 in
set_option maxRecDepth 100000 in
theorem c_X1_countCommon_16_19 (l : Launch) (D : va_G) (cy : Nat → ClassId) (ad : Nat → Nat) (S : AS) : Met l yX1_countCommon (Cond.code yX1_countCommon cX1_countCommon 4 (some .int) :: wsL_law) ({ frames := 1, cells := 0, slots := 0, locals := 21 }) (va_Pc [.ref (ad 16), .ref (ad 19)] (rdB D cy (wK cy ad 16 S ++ wK cy ad 19 S))) (rdI (fun r => r = ccN (S 17) (S 20) 100)) 0 0 noA := by
  refine enter (cc := cX1_countCommon) (by decide) (Nat.le_of_ble_eq_true rfl) ?_
  intro p e s m below meth c hx hb hr hml hown hts hlocks hin hv Q hQ ls hl
  obtain ⟨hP, hK⟩ := hv
  have hown : s.vm.findClass RX1 = some m.cls := hown
  have hl : lv_has ls 4 [(0, .ref (ad 16)), (1, .ref (ad 19))] := hl
  refine lv_iconst (v := 0) hx hb dX1_countCommon_0 (by decide) ?_
  refine lv_istore_n (lv' := [(2, .int 0), (0, .ref (ad 16)), (1, .ref (ad 19))]) hx hb dX1_countCommon_1 rfl hl (by decide) rfl (fun ls hl => ?_)
  refine lv_iconst (v := 0) hx hb dX1_countCommon_2 (by decide) ?_
  refine lv_istore_n (lv' := [(3, .int 0), (2, .int 0), (0, .ref (ad 16)), (1, .ref (ad 19))]) hx hb dX1_countCommon_3 rfl hl (by decide) rfl (fun ls hl => ?_)
  have L4 : ∀ (n_4 i : Nat), i ≤ 100 → 100 + 1 ≤ i + n_4 → ∀ (ls : Array Slot), lv_has ls 4 [(3, .int (nI i)), (2, .int (ccN (S 17) (S 20) i)), (0, .ref (ad 16)), (1, .ref (ad 19))] → W p l e { frames := 1, cells := 0, slots := 0, locals := 21 } s m ([.ref (ad 16), .ref (ad 19)] : List Value).toArray below meth c s.heap [] 0 0 Q (F0 m 4 ls []) := by
    clear hl
    intro n_4
    induction n_4 with
    | zero => intro i  hle_4 hn_4; exact absurd hn_4 (by omega)
    | succ n_4 ih4 =>
      intro i  hle_4 hn_4   ls hl
      refine lv_iload_n hx hb dX1_countCommon_4 rfl (lv_at hl 0 rfl) ?_
      refine lv_bipush (v := 100) hx hb dX1_countCommon_5 (by decide) ?_
      refine lv_icmp_ge (tgt := 40) hx hb dX1_countCommon_7 (by decide) (fun c7_1 => ?_) (fun c7_1 => ?_)
      · have f7_1 : 100 ≤ i := nt_le (a := 100) (b := i) (by omega) (by omega) c7_1
        refine lv_iload_n hx hb dX1_countCommon_40 rfl (lv_at hl 1 rfl) ?_
        exact rI_ret hx hb hr hlocks dX1_countCommon_41 hQ (by rw [show i = 100 by omega])
      · have f7_1 : i < 100 := nt_nle (a := 100) (b := i) (by omega) (by omega) c7_1
        refine lv_iload_n hx hb dX1_countCommon_10 rfl (lv_at hl 1 rfl) ?_
        refine lv_aload_n hx hb dX1_countCommon_11 rfl (lv_at hl 2 rfl) ?_
        refine lv_iload_n hx hb dX1_countCommon_12 rfl (lv_at hl 0 rfl) ?_
        refine rZ_call (P := kb ((S 17)) (nI i) = true) (va_runV (As := [.int (nI i)]) (rest := [.int (ccN (S 17) (S 20) i)]) ⟨hx, hb, hml, hown, hts⟩ (c_X1_has_16 l D cy ad S (nI i)) (cw_X1_29 hts rfl rfl ⟨Nat.le_of_ble_eq_true rfl, Nat.le_of_ble_eq_true rfl⟩) (preVR (ci := 1) (q0 := 0) hK (hP.sub [0, 1, 2] rfl) rfl rfl) rfl rfl hl.1 rfl (lv_room (Nat.le_of_ble_eq_true rfl)) dX1_countCommon_13 ⟨Nat.le_of_ble_eq_true rfl, Nat.le_of_ble_eq_true rfl⟩) (fun b13_2 => ?_) (fun b13_2 => ?_)
        · refine lv_if_eq (tgt := 31) hx hb dX1_countCommon_16 (by decide) (fun c => absurd c (by decide)) (fun _ => ?_)
          refine lv_aload_n hx hb dX1_countCommon_19 rfl (lv_at hl 3 rfl) ?_
          refine lv_iload_n hx hb dX1_countCommon_20 rfl (lv_at hl 0 rfl) ?_
          refine rZ_call (P := kb ((S 20)) (nI i) = true) (va_runV (As := [.int (nI i)]) (rest := [.int (ccN (S 17) (S 20) i)]) ⟨hx, hb, hml, hown, hts⟩ (c_X1_has_19 l D cy ad S (nI i)) (cw_X1_29 hts rfl rfl ⟨Nat.le_of_ble_eq_true rfl, Nat.le_of_ble_eq_true rfl⟩) (preVR (ci := 1) (q0 := 0) hK (hP.sub [3, 4, 5] rfl) rfl rfl) rfl rfl hl.1 rfl (lv_room (Nat.le_of_ble_eq_true rfl)) dX1_countCommon_21 ⟨Nat.le_of_ble_eq_true rfl, Nat.le_of_ble_eq_true rfl⟩) (fun b21_3 => ?_) (fun b21_3 => ?_)
          · refine lv_if_eq (tgt := 31) hx hb dX1_countCommon_24 (by decide) (fun c => absurd c (by decide)) (fun _ => ?_)
            refine lv_iconst (v := 1) hx hb dX1_countCommon_27 (by decide) ?_
            refine lv_goto (tgt := 32) hx hb dX1_countCommon_28 (by decide) ?_
            refine lv_iadd hx hb dX1_countCommon_32 ?_
            refine lv_istore_n (lv' := [(2, .int ((ccN (S 17) (S 20) i) + 1)), (3, .int (nI i)), (0, .ref (ad 16)), (1, .ref (ad 19))]) hx hb dX1_countCommon_33 rfl hl (by decide) rfl (fun ls hl => ?_)
            refine lv_iinc (v := (nI (i + 1))) (lv' := [(3, .int (nI (i + 1))), (2, .int ((ccN (S 17) (S 20) i) + 1)), (0, .ref (ad 16)), (1, .ref (ad 19))]) hx hb dX1_countCommon_34 hl (k := 1) rfl (nI_1 i) (by decide) rfl (fun ls hl => ?_)
            refine lv_goto (tgt := 4) hx hb dX1_countCommon_37 (by decide) ?_
            have e_4 : ((ccN (S 17) (S 20) i) + 1) = (ccN (S 17) (S 20) (i + 1)) := (by simp [ccN, b13_2, b21_3])
            have hl : lv_has ls 4 [(3, .int (nI (i + 1))), (2, .int (ccN (S 17) (S 20) (i + 1))), (0, .ref (ad 16)), (1, .ref (ad 19))] := by rw [← e_4]; exact hl
            exact ih4 (i + 1) (by omega) (by omega) ls (lv_sub hl [0, 1, 2, 3] rfl)
          · refine lv_if_eq (tgt := 31) hx hb dX1_countCommon_24 (by decide) (fun _ => ?_) (fun c => absurd (by decide) c)
            refine lv_iconst (v := 0) hx hb dX1_countCommon_31 (by decide) ?_
            refine lv_iadd hx hb dX1_countCommon_32 ?_
            refine lv_istore_n (lv' := [(2, .int ((ccN (S 17) (S 20) i) + 0)), (3, .int (nI i)), (0, .ref (ad 16)), (1, .ref (ad 19))]) hx hb dX1_countCommon_33 rfl hl (by decide) rfl (fun ls hl => ?_)
            refine lv_iinc (v := (nI (i + 1))) (lv' := [(3, .int (nI (i + 1))), (2, .int ((ccN (S 17) (S 20) i) + 0)), (0, .ref (ad 16)), (1, .ref (ad 19))]) hx hb dX1_countCommon_34 hl (k := 1) rfl (nI_1 i) (by decide) rfl (fun ls hl => ?_)
            refine lv_goto (tgt := 4) hx hb dX1_countCommon_37 (by decide) ?_
            have e_5 : ((ccN (S 17) (S 20) i) + 0) = (ccN (S 17) (S 20) (i + 1)) := (by simp [ccN, b13_2, b21_3])
            have hl : lv_has ls 4 [(3, .int (nI (i + 1))), (2, .int (ccN (S 17) (S 20) (i + 1))), (0, .ref (ad 16)), (1, .ref (ad 19))] := by rw [← e_5]; exact hl
            exact ih4 (i + 1) (by omega) (by omega) ls (lv_sub hl [0, 1, 2, 3] rfl)
        · refine lv_if_eq (tgt := 31) hx hb dX1_countCommon_16 (by decide) (fun _ => ?_) (fun c => absurd (by decide) c)
          refine lv_iconst (v := 0) hx hb dX1_countCommon_31 (by decide) ?_
          refine lv_iadd hx hb dX1_countCommon_32 ?_
          refine lv_istore_n (lv' := [(2, .int ((ccN (S 17) (S 20) i) + 0)), (3, .int (nI i)), (0, .ref (ad 16)), (1, .ref (ad 19))]) hx hb dX1_countCommon_33 rfl hl (by decide) rfl (fun ls hl => ?_)
          refine lv_iinc (v := (nI (i + 1))) (lv' := [(3, .int (nI (i + 1))), (2, .int ((ccN (S 17) (S 20) i) + 0)), (0, .ref (ad 16)), (1, .ref (ad 19))]) hx hb dX1_countCommon_34 hl (k := 1) rfl (nI_1 i) (by decide) rfl (fun ls hl => ?_)
          refine lv_goto (tgt := 4) hx hb dX1_countCommon_37 (by decide) ?_
          have e_6 : ((ccN (S 17) (S 20) i) + 0) = (ccN (S 17) (S 20) (i + 1)) := (by simp [ccN, b13_2])
          have hl : lv_has ls 4 [(3, .int (nI (i + 1))), (2, .int (ccN (S 17) (S 20) (i + 1))), (0, .ref (ad 16)), (1, .ref (ad 19))] := by rw [← e_6]; exact hl
          exact ih4 (i + 1) (by omega) (by omega) ls (lv_sub hl [0, 1, 2, 3] rfl)
  exact L4 (100 + 1) 0 (by omega) (by omega) ls (lv_sub hl [0, 1, 2, 3] rfl)
set_option maxHeartbeats 4000000 in
set_option maxRecDepth 100000 in
theorem c_X1_countDifferent_16_19 (l : Launch) (D : va_G) (cy : Nat → ClassId) (ad : Nat → Nat) (S : AS) : Met l yX1_countDifferent (Cond.code yX1_countDifferent cX1_countDifferent 4 (some .int) :: wsL_law) ({ frames := 2, cells := 0, slots := 0, locals := 42 }) (va_Pc [.ref (ad 16), .ref (ad 19)] (rdB D cy (wK cy ad 16 S ++ wK cy ad 19 S))) (rdI (fun r => r = cfN (S 17) (S 18) (S 20) (S 21) 100)) 0 0 noA := by
  refine enter (cc := cX1_countDifferent) (by decide) (Nat.le_of_ble_eq_true rfl) ?_
  intro p e s m below meth c hx hb hr hml hown hts hlocks hin hv Q hQ ls hl
  obtain ⟨hP, hK⟩ := hv
  have hown : s.vm.findClass RX1 = some m.cls := hown
  have hl : lv_has ls 4 [(0, .ref (ad 16)), (1, .ref (ad 19))] := hl
  refine lv_iconst (v := 0) hx hb dX1_countDifferent_0 (by decide) ?_
  refine lv_istore_n (lv' := [(2, .int 0), (0, .ref (ad 16)), (1, .ref (ad 19))]) hx hb dX1_countDifferent_1 rfl hl (by decide) rfl (fun ls hl => ?_)
  refine lv_iconst (v := 0) hx hb dX1_countDifferent_2 (by decide) ?_
  refine lv_istore_n (lv' := [(3, .int 0), (2, .int 0), (0, .ref (ad 16)), (1, .ref (ad 19))]) hx hb dX1_countDifferent_3 rfl hl (by decide) rfl (fun ls hl => ?_)
  have L4 : ∀ (n_4 i : Nat), i ≤ 100 → 100 + 1 ≤ i + n_4 → ∀ (ls : Array Slot), lv_has ls 4 [(3, .int (nI i)), (2, .int (cfN (S 17) (S 18) (S 20) (S 21) i)), (0, .ref (ad 16)), (1, .ref (ad 19))] → W p l e { frames := 2, cells := 0, slots := 0, locals := 42 } s m ([.ref (ad 16), .ref (ad 19)] : List Value).toArray below meth c s.heap [] 0 0 Q (F0 m 4 ls []) := by
    clear hl
    intro n_4
    induction n_4 with
    | zero => intro i  hle_4 hn_4; exact absurd hn_4 (by omega)
    | succ n_4 ih4 =>
      intro i  hle_4 hn_4   ls hl
      refine lv_iload_n hx hb dX1_countDifferent_4 rfl (lv_at hl 0 rfl) ?_
      refine lv_bipush (v := 100) hx hb dX1_countDifferent_5 (by decide) ?_
      refine lv_icmp_ge (tgt := 50) hx hb dX1_countDifferent_7 (by decide) (fun c7_1 => ?_) (fun c7_1 => ?_)
      · have f7_1 : 100 ≤ i := nt_le (a := 100) (b := i) (by omega) (by omega) c7_1
        refine lv_iload_n hx hb dX1_countDifferent_50 rfl (lv_at hl 1 rfl) ?_
        exact rI_ret hx hb hr hlocks dX1_countDifferent_51 hQ (by rw [show i = 100 by omega])
      · have f7_1 : i < 100 := nt_nle (a := 100) (b := i) (by omega) (by omega) c7_1
        refine lv_iload_n hx hb dX1_countDifferent_10 rfl (lv_at hl 1 rfl) ?_
        refine lv_aload_n hx hb dX1_countDifferent_11 rfl (lv_at hl 2 rfl) ?_
        refine lv_iload_n hx hb dX1_countDifferent_12 rfl (lv_at hl 0 rfl) ?_
        refine rZ_call (P := kb ((S 17)) (nI i) = true) (va_runV (As := [.int (nI i)]) (rest := [.int (cfN (S 17) (S 18) (S 20) (S 21) i)]) ⟨hx, hb, hml, hown, hts⟩ (c_X1_has_16 l D cy ad S (nI i)) (cw_X1_29 hts rfl rfl ⟨Nat.le_of_ble_eq_true rfl, Nat.le_of_ble_eq_true rfl⟩) (preVR (ci := 1) (q0 := 0) hK (hP.sub [0, 1, 2] rfl) rfl rfl) rfl rfl hl.1 rfl (lv_room (Nat.le_of_ble_eq_true rfl)) dX1_countDifferent_13 ⟨Nat.le_of_ble_eq_true rfl, Nat.le_of_ble_eq_true rfl⟩) (fun b13_2 => ?_) (fun b13_2 => ?_)
        · refine lv_aload_n hx hb dX1_countDifferent_16 rfl (lv_at hl 3 rfl) ?_
          refine lv_iload_n hx hb dX1_countDifferent_17 rfl (lv_at hl 0 rfl) ?_
          refine rZ_call (P := kb ((S 20)) (nI i) = true) (va_runV (As := [.int (nI i)]) (rest := [.int 1, .int (cfN (S 17) (S 18) (S 20) (S 21) i)]) ⟨hx, hb, hml, hown, hts⟩ (c_X1_has_19 l D cy ad S (nI i)) (cw_X1_29 hts rfl rfl ⟨Nat.le_of_ble_eq_true rfl, Nat.le_of_ble_eq_true rfl⟩) (preVR (ci := 1) (q0 := 0) hK (hP.sub [3, 4, 5] rfl) rfl rfl) rfl rfl hl.1 rfl (lv_room (Nat.le_of_ble_eq_true rfl)) dX1_countDifferent_18 ⟨Nat.le_of_ble_eq_true rfl, Nat.le_of_ble_eq_true rfl⟩) (fun b18_3 => ?_) (fun b18_3 => ?_)
          · refine lv_icmp_ne (tgt := 37) hx hb dX1_countDifferent_21 (by decide) (fun c => absurd (by decide) c) (fun _ => ?_)
            refine lv_aload_n hx hb dX1_countDifferent_24 rfl (lv_at hl 2 rfl) ?_
            refine lv_iload_n hx hb dX1_countDifferent_25 rfl (lv_at hl 0 rfl) ?_
            refine rI_call (va_runV (As := [.int (nI i)]) (rest := [.int (cfN (S 17) (S 18) (S 20) (S 21) i)]) ⟨hx, hb, hml, hown, hts⟩ (c_X1_value_16 l D cy ad S (nI i)) (cw_X1_33 hts rfl rfl ⟨Nat.le_of_ble_eq_true rfl, Nat.le_of_ble_eq_true rfl⟩) (preVR (ci := 1) (q0 := 0) hK (hP.sub [0, 1, 2] rfl) rfl rfl) rfl rfl hl.1 rfl (lv_room (Nat.le_of_ble_eq_true rfl)) dX1_countDifferent_26 ⟨Nat.le_of_ble_eq_true rfl, Nat.le_of_ble_eq_true rfl⟩) (fun r hr_ => ?_)
            subst hr_
            refine top_eq (y := (vlI ((S 17)) ((S 18)) (nI i))) rfl ?_
            refine lv_aload_n hx hb dX1_countDifferent_29 rfl (lv_at hl 3 rfl) ?_
            refine lv_iload_n hx hb dX1_countDifferent_30 rfl (lv_at hl 0 rfl) ?_
            refine rI_call (va_runV (As := [.int (nI i)]) (rest := [.int (vlI ((S 17)) ((S 18)) (nI i)), .int (cfN (S 17) (S 18) (S 20) (S 21) i)]) ⟨hx, hb, hml, hown, hts⟩ (c_X1_value_19 l D cy ad S (nI i)) (cw_X1_33 hts rfl rfl ⟨Nat.le_of_ble_eq_true rfl, Nat.le_of_ble_eq_true rfl⟩) (preVR (ci := 1) (q0 := 0) hK (hP.sub [3, 4, 5] rfl) rfl rfl) rfl rfl hl.1 rfl (lv_room (Nat.le_of_ble_eq_true rfl)) dX1_countDifferent_31 ⟨Nat.le_of_ble_eq_true rfl, Nat.le_of_ble_eq_true rfl⟩) (fun r hr_ => ?_)
            subst hr_
            refine top_eq (y := (vlI ((S 20)) ((S 21)) (nI i))) rfl ?_
            refine lv_icmp_eq (tgt := 41) hx hb dX1_countDifferent_34 (by decide) (fun c34_4 => ?_) (fun c34_4 => ?_)
            · refine lv_iconst (v := 0) hx hb dX1_countDifferent_41 (by decide) ?_
              refine lv_iadd hx hb dX1_countDifferent_42 ?_
              refine lv_istore_n (lv' := [(2, .int ((cfN (S 17) (S 18) (S 20) (S 21) i) + 0)), (3, .int (nI i)), (0, .ref (ad 16)), (1, .ref (ad 19))]) hx hb dX1_countDifferent_43 rfl hl (by decide) rfl (fun ls hl => ?_)
              refine lv_iinc (v := (nI (i + 1))) (lv' := [(3, .int (nI (i + 1))), (2, .int ((cfN (S 17) (S 18) (S 20) (S 21) i) + 0)), (0, .ref (ad 16)), (1, .ref (ad 19))]) hx hb dX1_countDifferent_44 hl (k := 1) rfl (nI_1 i) (by decide) rfl (fun ls hl => ?_)
              refine lv_goto (tgt := 4) hx hb dX1_countDifferent_47 (by decide) ?_
              have e_5 : ((cfN (S 17) (S 18) (S 20) (S 21) i) + 0) = (cfN (S 17) (S 18) (S 20) (S 21) (i + 1)) := (by simp [cfN, dfB, b13_2, b18_3, c34_4])
              have hl : lv_has ls 4 [(3, .int (nI (i + 1))), (2, .int (cfN (S 17) (S 18) (S 20) (S 21) (i + 1))), (0, .ref (ad 16)), (1, .ref (ad 19))] := by rw [← e_5]; exact hl
              exact ih4 (i + 1) (by omega) (by omega) ls (lv_sub hl [0, 1, 2, 3] rfl)
            · refine lv_iconst (v := 1) hx hb dX1_countDifferent_37 (by decide) ?_
              refine lv_goto (tgt := 42) hx hb dX1_countDifferent_38 (by decide) ?_
              refine lv_iadd hx hb dX1_countDifferent_42 ?_
              refine lv_istore_n (lv' := [(2, .int ((cfN (S 17) (S 18) (S 20) (S 21) i) + 1)), (3, .int (nI i)), (0, .ref (ad 16)), (1, .ref (ad 19))]) hx hb dX1_countDifferent_43 rfl hl (by decide) rfl (fun ls hl => ?_)
              refine lv_iinc (v := (nI (i + 1))) (lv' := [(3, .int (nI (i + 1))), (2, .int ((cfN (S 17) (S 18) (S 20) (S 21) i) + 1)), (0, .ref (ad 16)), (1, .ref (ad 19))]) hx hb dX1_countDifferent_44 hl (k := 1) rfl (nI_1 i) (by decide) rfl (fun ls hl => ?_)
              refine lv_goto (tgt := 4) hx hb dX1_countDifferent_47 (by decide) ?_
              have e_6 : ((cfN (S 17) (S 18) (S 20) (S 21) i) + 1) = (cfN (S 17) (S 18) (S 20) (S 21) (i + 1)) := (by simp [cfN, dfB, b13_2, b18_3, c34_4])
              have hl : lv_has ls 4 [(3, .int (nI (i + 1))), (2, .int (cfN (S 17) (S 18) (S 20) (S 21) (i + 1))), (0, .ref (ad 16)), (1, .ref (ad 19))] := by rw [← e_6]; exact hl
              exact ih4 (i + 1) (by omega) (by omega) ls (lv_sub hl [0, 1, 2, 3] rfl)
          · refine lv_icmp_ne (tgt := 37) hx hb dX1_countDifferent_21 (by decide) (fun _ => ?_) (fun c => absurd c (by decide))
            refine lv_iconst (v := 1) hx hb dX1_countDifferent_37 (by decide) ?_
            refine lv_goto (tgt := 42) hx hb dX1_countDifferent_38 (by decide) ?_
            refine lv_iadd hx hb dX1_countDifferent_42 ?_
            refine lv_istore_n (lv' := [(2, .int ((cfN (S 17) (S 18) (S 20) (S 21) i) + 1)), (3, .int (nI i)), (0, .ref (ad 16)), (1, .ref (ad 19))]) hx hb dX1_countDifferent_43 rfl hl (by decide) rfl (fun ls hl => ?_)
            refine lv_iinc (v := (nI (i + 1))) (lv' := [(3, .int (nI (i + 1))), (2, .int ((cfN (S 17) (S 18) (S 20) (S 21) i) + 1)), (0, .ref (ad 16)), (1, .ref (ad 19))]) hx hb dX1_countDifferent_44 hl (k := 1) rfl (nI_1 i) (by decide) rfl (fun ls hl => ?_)
            refine lv_goto (tgt := 4) hx hb dX1_countDifferent_47 (by decide) ?_
            have e_7 : ((cfN (S 17) (S 18) (S 20) (S 21) i) + 1) = (cfN (S 17) (S 18) (S 20) (S 21) (i + 1)) := (by simp [cfN, dfB, b13_2, b18_3])
            have hl : lv_has ls 4 [(3, .int (nI (i + 1))), (2, .int (cfN (S 17) (S 18) (S 20) (S 21) (i + 1))), (0, .ref (ad 16)), (1, .ref (ad 19))] := by rw [← e_7]; exact hl
            exact ih4 (i + 1) (by omega) (by omega) ls (lv_sub hl [0, 1, 2, 3] rfl)
        · refine lv_aload_n hx hb dX1_countDifferent_16 rfl (lv_at hl 3 rfl) ?_
          refine lv_iload_n hx hb dX1_countDifferent_17 rfl (lv_at hl 0 rfl) ?_
          refine rZ_call (P := kb ((S 20)) (nI i) = true) (va_runV (As := [.int (nI i)]) (rest := [.int 0, .int (cfN (S 17) (S 18) (S 20) (S 21) i)]) ⟨hx, hb, hml, hown, hts⟩ (c_X1_has_19 l D cy ad S (nI i)) (cw_X1_29 hts rfl rfl ⟨Nat.le_of_ble_eq_true rfl, Nat.le_of_ble_eq_true rfl⟩) (preVR (ci := 1) (q0 := 0) hK (hP.sub [3, 4, 5] rfl) rfl rfl) rfl rfl hl.1 rfl (lv_room (Nat.le_of_ble_eq_true rfl)) dX1_countDifferent_18 ⟨Nat.le_of_ble_eq_true rfl, Nat.le_of_ble_eq_true rfl⟩) (fun b18_8 => ?_) (fun b18_8 => ?_)
          · refine lv_icmp_ne (tgt := 37) hx hb dX1_countDifferent_21 (by decide) (fun _ => ?_) (fun c => absurd c (by decide))
            refine lv_iconst (v := 1) hx hb dX1_countDifferent_37 (by decide) ?_
            refine lv_goto (tgt := 42) hx hb dX1_countDifferent_38 (by decide) ?_
            refine lv_iadd hx hb dX1_countDifferent_42 ?_
            refine lv_istore_n (lv' := [(2, .int ((cfN (S 17) (S 18) (S 20) (S 21) i) + 1)), (3, .int (nI i)), (0, .ref (ad 16)), (1, .ref (ad 19))]) hx hb dX1_countDifferent_43 rfl hl (by decide) rfl (fun ls hl => ?_)
            refine lv_iinc (v := (nI (i + 1))) (lv' := [(3, .int (nI (i + 1))), (2, .int ((cfN (S 17) (S 18) (S 20) (S 21) i) + 1)), (0, .ref (ad 16)), (1, .ref (ad 19))]) hx hb dX1_countDifferent_44 hl (k := 1) rfl (nI_1 i) (by decide) rfl (fun ls hl => ?_)
            refine lv_goto (tgt := 4) hx hb dX1_countDifferent_47 (by decide) ?_
            have e_9 : ((cfN (S 17) (S 18) (S 20) (S 21) i) + 1) = (cfN (S 17) (S 18) (S 20) (S 21) (i + 1)) := (by simp [cfN, dfB, b13_2, b18_8])
            have hl : lv_has ls 4 [(3, .int (nI (i + 1))), (2, .int (cfN (S 17) (S 18) (S 20) (S 21) (i + 1))), (0, .ref (ad 16)), (1, .ref (ad 19))] := by rw [← e_9]; exact hl
            exact ih4 (i + 1) (by omega) (by omega) ls (lv_sub hl [0, 1, 2, 3] rfl)
          · refine lv_icmp_ne (tgt := 37) hx hb dX1_countDifferent_21 (by decide) (fun c => absurd (by decide) c) (fun _ => ?_)
            refine lv_aload_n hx hb dX1_countDifferent_24 rfl (lv_at hl 2 rfl) ?_
            refine lv_iload_n hx hb dX1_countDifferent_25 rfl (lv_at hl 0 rfl) ?_
            refine rI_call (va_runV (As := [.int (nI i)]) (rest := [.int (cfN (S 17) (S 18) (S 20) (S 21) i)]) ⟨hx, hb, hml, hown, hts⟩ (c_X1_value_16 l D cy ad S (nI i)) (cw_X1_33 hts rfl rfl ⟨Nat.le_of_ble_eq_true rfl, Nat.le_of_ble_eq_true rfl⟩) (preVR (ci := 1) (q0 := 0) hK (hP.sub [0, 1, 2] rfl) rfl rfl) rfl rfl hl.1 rfl (lv_room (Nat.le_of_ble_eq_true rfl)) dX1_countDifferent_26 ⟨Nat.le_of_ble_eq_true rfl, Nat.le_of_ble_eq_true rfl⟩) (fun r hr_ => ?_)
            subst hr_
            refine top_eq (y := (vlI ((S 17)) ((S 18)) (nI i))) rfl ?_
            refine lv_aload_n hx hb dX1_countDifferent_29 rfl (lv_at hl 3 rfl) ?_
            refine lv_iload_n hx hb dX1_countDifferent_30 rfl (lv_at hl 0 rfl) ?_
            refine rI_call (va_runV (As := [.int (nI i)]) (rest := [.int (vlI ((S 17)) ((S 18)) (nI i)), .int (cfN (S 17) (S 18) (S 20) (S 21) i)]) ⟨hx, hb, hml, hown, hts⟩ (c_X1_value_19 l D cy ad S (nI i)) (cw_X1_33 hts rfl rfl ⟨Nat.le_of_ble_eq_true rfl, Nat.le_of_ble_eq_true rfl⟩) (preVR (ci := 1) (q0 := 0) hK (hP.sub [3, 4, 5] rfl) rfl rfl) rfl rfl hl.1 rfl (lv_room (Nat.le_of_ble_eq_true rfl)) dX1_countDifferent_31 ⟨Nat.le_of_ble_eq_true rfl, Nat.le_of_ble_eq_true rfl⟩) (fun r hr_ => ?_)
            subst hr_
            refine top_eq (y := (vlI ((S 20)) ((S 21)) (nI i))) rfl ?_
            refine lv_icmp_eq (tgt := 41) hx hb dX1_countDifferent_34 (by decide) (fun c34_10 => ?_) (fun c34_10 => ?_)
            · refine lv_iconst (v := 0) hx hb dX1_countDifferent_41 (by decide) ?_
              refine lv_iadd hx hb dX1_countDifferent_42 ?_
              refine lv_istore_n (lv' := [(2, .int ((cfN (S 17) (S 18) (S 20) (S 21) i) + 0)), (3, .int (nI i)), (0, .ref (ad 16)), (1, .ref (ad 19))]) hx hb dX1_countDifferent_43 rfl hl (by decide) rfl (fun ls hl => ?_)
              refine lv_iinc (v := (nI (i + 1))) (lv' := [(3, .int (nI (i + 1))), (2, .int ((cfN (S 17) (S 18) (S 20) (S 21) i) + 0)), (0, .ref (ad 16)), (1, .ref (ad 19))]) hx hb dX1_countDifferent_44 hl (k := 1) rfl (nI_1 i) (by decide) rfl (fun ls hl => ?_)
              refine lv_goto (tgt := 4) hx hb dX1_countDifferent_47 (by decide) ?_
              have e_11 : ((cfN (S 17) (S 18) (S 20) (S 21) i) + 0) = (cfN (S 17) (S 18) (S 20) (S 21) (i + 1)) := (by simp [cfN, dfB, b13_2, b18_8, c34_10])
              have hl : lv_has ls 4 [(3, .int (nI (i + 1))), (2, .int (cfN (S 17) (S 18) (S 20) (S 21) (i + 1))), (0, .ref (ad 16)), (1, .ref (ad 19))] := by rw [← e_11]; exact hl
              exact ih4 (i + 1) (by omega) (by omega) ls (lv_sub hl [0, 1, 2, 3] rfl)
            · refine lv_iconst (v := 1) hx hb dX1_countDifferent_37 (by decide) ?_
              refine lv_goto (tgt := 42) hx hb dX1_countDifferent_38 (by decide) ?_
              refine lv_iadd hx hb dX1_countDifferent_42 ?_
              refine lv_istore_n (lv' := [(2, .int ((cfN (S 17) (S 18) (S 20) (S 21) i) + 1)), (3, .int (nI i)), (0, .ref (ad 16)), (1, .ref (ad 19))]) hx hb dX1_countDifferent_43 rfl hl (by decide) rfl (fun ls hl => ?_)
              refine lv_iinc (v := (nI (i + 1))) (lv' := [(3, .int (nI (i + 1))), (2, .int ((cfN (S 17) (S 18) (S 20) (S 21) i) + 1)), (0, .ref (ad 16)), (1, .ref (ad 19))]) hx hb dX1_countDifferent_44 hl (k := 1) rfl (nI_1 i) (by decide) rfl (fun ls hl => ?_)
              refine lv_goto (tgt := 4) hx hb dX1_countDifferent_47 (by decide) ?_
              have e_12 : ((cfN (S 17) (S 18) (S 20) (S 21) i) + 1) = (cfN (S 17) (S 18) (S 20) (S 21) (i + 1)) := (by simp [cfN, dfB, b13_2, b18_8, c34_10])
              have hl : lv_has ls 4 [(3, .int (nI (i + 1))), (2, .int (cfN (S 17) (S 18) (S 20) (S 21) (i + 1))), (0, .ref (ad 16)), (1, .ref (ad 19))] := by rw [← e_12]; exact hl
              exact ih4 (i + 1) (by omega) (by omega) ls (lv_sub hl [0, 1, 2, 3] rfl)
  exact L4 (100 + 1) 0 (by omega) (by omega) ls (lv_sub hl [0, 1, 2, 3] rfl)
set_option maxHeartbeats 4000000 in
set_option maxRecDepth 100000 in
theorem c_X1_countCommon_16_16 (l : Launch) (D : va_G) (cy : Nat → ClassId) (ad : Nat → Nat) (S : AS) : Met l yX1_countCommon (Cond.code yX1_countCommon cX1_countCommon 4 (some .int) :: wsL_law) ({ frames := 1, cells := 0, slots := 0, locals := 21 }) (va_Pc [.ref (ad 16), .ref (ad 16)] (rdB D cy (wK cy ad 16 S))) (rdI (fun r => r = ccN (S 17) (S 17) 100)) 0 0 noA := by
  refine enter (cc := cX1_countCommon) (by decide) (Nat.le_of_ble_eq_true rfl) ?_
  intro p e s m below meth c hx hb hr hml hown hts hlocks hin hv Q hQ ls hl
  obtain ⟨hP, hK⟩ := hv
  have hown : s.vm.findClass RX1 = some m.cls := hown
  have hl : lv_has ls 4 [(0, .ref (ad 16)), (1, .ref (ad 16))] := hl
  refine lv_iconst (v := 0) hx hb dX1_countCommon_0 (by decide) ?_
  refine lv_istore_n (lv' := [(2, .int 0), (0, .ref (ad 16)), (1, .ref (ad 16))]) hx hb dX1_countCommon_1 rfl hl (by decide) rfl (fun ls hl => ?_)
  refine lv_iconst (v := 0) hx hb dX1_countCommon_2 (by decide) ?_
  refine lv_istore_n (lv' := [(3, .int 0), (2, .int 0), (0, .ref (ad 16)), (1, .ref (ad 16))]) hx hb dX1_countCommon_3 rfl hl (by decide) rfl (fun ls hl => ?_)
  have L4 : ∀ (n_4 i : Nat), i ≤ 100 → 100 + 1 ≤ i + n_4 → ∀ (ls : Array Slot), lv_has ls 4 [(3, .int (nI i)), (2, .int (ccN (S 17) (S 17) i)), (0, .ref (ad 16)), (1, .ref (ad 16))] → W p l e { frames := 1, cells := 0, slots := 0, locals := 21 } s m ([.ref (ad 16), .ref (ad 16)] : List Value).toArray below meth c s.heap [] 0 0 Q (F0 m 4 ls []) := by
    clear hl
    intro n_4
    induction n_4 with
    | zero => intro i  hle_4 hn_4; exact absurd hn_4 (by omega)
    | succ n_4 ih4 =>
      intro i  hle_4 hn_4   ls hl
      refine lv_iload_n hx hb dX1_countCommon_4 rfl (lv_at hl 0 rfl) ?_
      refine lv_bipush (v := 100) hx hb dX1_countCommon_5 (by decide) ?_
      refine lv_icmp_ge (tgt := 40) hx hb dX1_countCommon_7 (by decide) (fun c7_1 => ?_) (fun c7_1 => ?_)
      · have f7_1 : 100 ≤ i := nt_le (a := 100) (b := i) (by omega) (by omega) c7_1
        refine lv_iload_n hx hb dX1_countCommon_40 rfl (lv_at hl 1 rfl) ?_
        exact rI_ret hx hb hr hlocks dX1_countCommon_41 hQ (by rw [show i = 100 by omega])
      · have f7_1 : i < 100 := nt_nle (a := 100) (b := i) (by omega) (by omega) c7_1
        refine lv_iload_n hx hb dX1_countCommon_10 rfl (lv_at hl 1 rfl) ?_
        refine lv_aload_n hx hb dX1_countCommon_11 rfl (lv_at hl 2 rfl) ?_
        refine lv_iload_n hx hb dX1_countCommon_12 rfl (lv_at hl 0 rfl) ?_
        refine rZ_call (P := kb ((S 17)) (nI i) = true) (va_runV (As := [.int (nI i)]) (rest := [.int (ccN (S 17) (S 17) i)]) ⟨hx, hb, hml, hown, hts⟩ (c_X1_has_16 l D cy ad S (nI i)) (cw_X1_29 hts rfl rfl ⟨Nat.le_of_ble_eq_true rfl, Nat.le_of_ble_eq_true rfl⟩) (preVR (ci := 1) (q0 := 0) hK hP rfl rfl) rfl rfl hl.1 rfl (lv_room (Nat.le_of_ble_eq_true rfl)) dX1_countCommon_13 ⟨Nat.le_of_ble_eq_true rfl, Nat.le_of_ble_eq_true rfl⟩) (fun b13_2 => ?_) (fun b13_2 => ?_)
        · refine lv_if_eq (tgt := 31) hx hb dX1_countCommon_16 (by decide) (fun c => absurd c (by decide)) (fun _ => ?_)
          refine lv_aload_n hx hb dX1_countCommon_19 rfl (lv_at hl 3 rfl) ?_
          refine lv_iload_n hx hb dX1_countCommon_20 rfl (lv_at hl 0 rfl) ?_
          refine rZ_call (P := kb ((S 17)) (nI i) = true) (va_runV (As := [.int (nI i)]) (rest := [.int (ccN (S 17) (S 17) i)]) ⟨hx, hb, hml, hown, hts⟩ (c_X1_has_16 l D cy ad S (nI i)) (cw_X1_29 hts rfl rfl ⟨Nat.le_of_ble_eq_true rfl, Nat.le_of_ble_eq_true rfl⟩) (preVR (ci := 1) (q0 := 0) hK hP rfl rfl) rfl rfl hl.1 rfl (lv_room (Nat.le_of_ble_eq_true rfl)) dX1_countCommon_21 ⟨Nat.le_of_ble_eq_true rfl, Nat.le_of_ble_eq_true rfl⟩) (fun b21_3 => ?_) (fun b21_3 => ?_)
          · refine lv_if_eq (tgt := 31) hx hb dX1_countCommon_24 (by decide) (fun c => absurd c (by decide)) (fun _ => ?_)
            refine lv_iconst (v := 1) hx hb dX1_countCommon_27 (by decide) ?_
            refine lv_goto (tgt := 32) hx hb dX1_countCommon_28 (by decide) ?_
            refine lv_iadd hx hb dX1_countCommon_32 ?_
            refine lv_istore_n (lv' := [(2, .int ((ccN (S 17) (S 17) i) + 1)), (3, .int (nI i)), (0, .ref (ad 16)), (1, .ref (ad 16))]) hx hb dX1_countCommon_33 rfl hl (by decide) rfl (fun ls hl => ?_)
            refine lv_iinc (v := (nI (i + 1))) (lv' := [(3, .int (nI (i + 1))), (2, .int ((ccN (S 17) (S 17) i) + 1)), (0, .ref (ad 16)), (1, .ref (ad 16))]) hx hb dX1_countCommon_34 hl (k := 1) rfl (nI_1 i) (by decide) rfl (fun ls hl => ?_)
            refine lv_goto (tgt := 4) hx hb dX1_countCommon_37 (by decide) ?_
            have e_4 : ((ccN (S 17) (S 17) i) + 1) = (ccN (S 17) (S 17) (i + 1)) := (by simp [ccN, b13_2, b21_3])
            have hl : lv_has ls 4 [(3, .int (nI (i + 1))), (2, .int (ccN (S 17) (S 17) (i + 1))), (0, .ref (ad 16)), (1, .ref (ad 16))] := by rw [← e_4]; exact hl
            exact ih4 (i + 1) (by omega) (by omega) ls (lv_sub hl [0, 1, 2, 3] rfl)
          · refine lv_if_eq (tgt := 31) hx hb dX1_countCommon_24 (by decide) (fun _ => ?_) (fun c => absurd (by decide) c)
            refine lv_iconst (v := 0) hx hb dX1_countCommon_31 (by decide) ?_
            refine lv_iadd hx hb dX1_countCommon_32 ?_
            refine lv_istore_n (lv' := [(2, .int ((ccN (S 17) (S 17) i) + 0)), (3, .int (nI i)), (0, .ref (ad 16)), (1, .ref (ad 16))]) hx hb dX1_countCommon_33 rfl hl (by decide) rfl (fun ls hl => ?_)
            refine lv_iinc (v := (nI (i + 1))) (lv' := [(3, .int (nI (i + 1))), (2, .int ((ccN (S 17) (S 17) i) + 0)), (0, .ref (ad 16)), (1, .ref (ad 16))]) hx hb dX1_countCommon_34 hl (k := 1) rfl (nI_1 i) (by decide) rfl (fun ls hl => ?_)
            refine lv_goto (tgt := 4) hx hb dX1_countCommon_37 (by decide) ?_
            have e_5 : ((ccN (S 17) (S 17) i) + 0) = (ccN (S 17) (S 17) (i + 1)) := (absurd b13_2 b21_3)
            have hl : lv_has ls 4 [(3, .int (nI (i + 1))), (2, .int (ccN (S 17) (S 17) (i + 1))), (0, .ref (ad 16)), (1, .ref (ad 16))] := by rw [← e_5]; exact hl
            exact ih4 (i + 1) (by omega) (by omega) ls (lv_sub hl [0, 1, 2, 3] rfl)
        · refine lv_if_eq (tgt := 31) hx hb dX1_countCommon_16 (by decide) (fun _ => ?_) (fun c => absurd (by decide) c)
          refine lv_iconst (v := 0) hx hb dX1_countCommon_31 (by decide) ?_
          refine lv_iadd hx hb dX1_countCommon_32 ?_
          refine lv_istore_n (lv' := [(2, .int ((ccN (S 17) (S 17) i) + 0)), (3, .int (nI i)), (0, .ref (ad 16)), (1, .ref (ad 16))]) hx hb dX1_countCommon_33 rfl hl (by decide) rfl (fun ls hl => ?_)
          refine lv_iinc (v := (nI (i + 1))) (lv' := [(3, .int (nI (i + 1))), (2, .int ((ccN (S 17) (S 17) i) + 0)), (0, .ref (ad 16)), (1, .ref (ad 16))]) hx hb dX1_countCommon_34 hl (k := 1) rfl (nI_1 i) (by decide) rfl (fun ls hl => ?_)
          refine lv_goto (tgt := 4) hx hb dX1_countCommon_37 (by decide) ?_
          have e_6 : ((ccN (S 17) (S 17) i) + 0) = (ccN (S 17) (S 17) (i + 1)) := (by simp [ccN, b13_2])
          have hl : lv_has ls 4 [(3, .int (nI (i + 1))), (2, .int (ccN (S 17) (S 17) (i + 1))), (0, .ref (ad 16)), (1, .ref (ad 16))] := by rw [← e_6]; exact hl
          exact ih4 (i + 1) (by omega) (by omega) ls (lv_sub hl [0, 1, 2, 3] rfl)
  exact L4 (100 + 1) 0 (by omega) (by omega) ls (lv_sub hl [0, 1, 2, 3] rfl)
