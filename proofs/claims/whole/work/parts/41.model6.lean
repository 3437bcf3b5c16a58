theorem gf_X7_154 {p : Program} {l : Launch} {e : Env} {R : Room} {s : State} {m : MethodId} {args : Array Value} {below : List Frame} {meth : Method} {c : Code} {H : Heap} {locs : List Loc} {cells slots : Nat} {Q : State → Prop} {cc : ByteArray} {pc : Nat} {ls : Array Slot} {rest : List Value} {D : va_G} {cy : Nat → ClassId} {a : Nat} {ws : va_W} (hx : p.tables.exec = Jvm.exec) (hb : c.code = cc) (hts : ∀ w ∈ wsL_law, w.before args s = true) (hown : s.vm.findClass RX7 = some m.cls) (hK : va_K D clW (tyW cy) s) (hP : va_P D clW ws H) (q0 : Nat) {fs : List Value} (he : ws[q0]? = some (a, .inr (7, fs))) {v : Value} (hv : fs[22]? = some v) (hdg : decode cc pc = .ok (.getfield 154, 3)) (kk : W p l e R s m args below meth c H locs cells slots Q (F0 m (pc + 3) ls (v :: rest))) : W p l e R s m args below meth c H locs cells slots Q (F0 m pc ls (.ref a :: rest)) := va_get (own := RX7) (ref := RX7) (C := RX7) (T := TX7) (N := 27) (ci := 7) hx hb hts inlX7 hown hK hP q0 he rfl 22 (by decide) (hts _ wm_753) (fun _ h => h) hv hdg kk
theorem pf_X7_154 {p : Program} {l : Launch} {e : Env} {R : Room} {s : State} {m : MethodId} {args : Array Value} {below : List Frame} {meth : Method} {c : Code} {H : Heap} {locs : List Loc} {cells slots : Nat} {Q : State → Prop} {cc : ByteArray} {pc : Nat} {ls : Array Slot} {rest : List Value} {D : va_G} {cy : Nat → ClassId} {a : Nat} {ws : va_W} {A : Nat → Prop} {H0 : Heap} (hx : p.tables.exec = Jvm.exec) (hb : c.code = cc) (hts : ∀ w ∈ wsL_law, w.before args s = true) (hown : s.vm.findClass RX7 = some m.cls) (hK : va_K D clW (tyW cy) s) (hP : va_P D clW ws H) (hD : va_D A ws) (hS : va_S A H0 H locs) (q0 : Nat) {fs : List Value} (he : ws[q0]? = some (a, .inr (7, fs))) {x : Int32} (hl : 22 < fs.length) (hdg : decode cc pc = .ok (.putfield 154, 3)) (kk : ∀ (H1 : Heap) (locs1 : List Loc), va_P D clW (ws.set q0 (a, .inr (7, fs.set 22 (.int x)))) H1 → va_D A (ws.set q0 (a, .inr (7, fs.set 22 (.int x)))) → va_S A H0 H1 locs1 → W p l e R s m args below meth c H1 locs1 cells slots Q (F0 m (pc + 3) ls rest)) : W p l e R s m args below meth c H locs cells slots Q (F0 m pc ls (.int x :: .ref a :: rest)) := va_put (own := RX7) (ref := RX7) (C := RX7) (T := TX7) (N := 27) (ci := 7) (ty := .int) hx hb hts inlX7 tyX7 tyX7_ok nmX7 hown hK hP hD hS q0 he rfl 22 (by decide) (hts _ wm_753) (fun _ h => h) rfl (by decide +kernel) rfl rfl hl hdg kk
theorem gf_X7_157 {p : Program} {l : Launch} {e : Env} {R : Room} {s : State} {m : MethodId} {args : Array Value} {below : List Frame} {meth : Method} {c : Code} {H : Heap} {locs : List Loc} {cells slots : Nat} {Q : State → Prop} {cc : ByteArray} {pc : Nat} {ls : Array Slot} {rest : List Value} {D : va_G} {cy : Nat → ClassId} {a : Nat} {ws : va_W} (hx : p.tables.exec = Jvm.exec) (hb : c.code = cc) (hts : ∀ w ∈ wsL_law, w.before args s = true) (hown : s.vm.findClass RX7 = some m.cls) (hK : va_K D clW (tyW cy) s) (hP : va_P D clW ws H) (q0 : Nat) {fs : List Value} (he : ws[q0]? = some (a, .inr (7, fs))) {v : Value} (hv : fs[23]? = some v) (hdg : decode cc pc = .ok (.getfield 157, 3)) (kk : W p l e R s m args below meth c H locs cells slots Q (F0 m (pc + 3) ls (v :: rest))) : W p l e R s m args below meth c H locs cells slots Q (F0 m pc ls (.ref a :: rest)) := va_get (own := RX7) (ref := RX7) (C := RX7) (T := TX7) (N := 27) (ci := 7) hx hb hts inlX7 hown hK hP q0 he rfl 23 (by decide) (hts _ wm_744) (fun _ h => h) hv hdg kk
theorem pf_X7_157 {p : Program} {l : Launch} {e : Env} {R : Room} {s : State} {m : MethodId} {args : Array Value} {below : List Frame} {meth : Method} {c : Code} {H : Heap} {locs : List Loc} {cells slots : Nat} {Q : State → Prop} {cc : ByteArray} {pc : Nat} {ls : Array Slot} {rest : List Value} {D : va_G} {cy : Nat → ClassId} {a : Nat} {ws : va_W} {A : Nat → Prop} {H0 : Heap} (hx : p.tables.exec = Jvm.exec) (hb : c.code = cc) (hts : ∀ w ∈ wsL_law, w.before args s = true) (hown : s.vm.findClass RX7 = some m.cls) (hK : va_K D clW (tyW cy) s) (hP : va_P D clW ws H) (hD : va_D A ws) (hS : va_S A H0 H locs) (q0 : Nat) {fs : List Value} (he : ws[q0]? = some (a, .inr (7, fs))) {x : Int32} (hn : narrow .boolean (.int x) = .int x) (hft : fits .boolean (.int x) = true) (hl : 23 < fs.length) (hdg : decode cc pc = .ok (.putfield 157, 3)) (kk : ∀ (H1 : Heap) (locs1 : List Loc), va_P D clW (ws.set q0 (a, .inr (7, fs.set 23 (.int x)))) H1 → va_D A (ws.set q0 (a, .inr (7, fs.set 23 (.int x)))) → va_S A H0 H1 locs1 → W p l e R s m args below meth c H1 locs1 cells slots Q (F0 m (pc + 3) ls rest)) : W p l e R s m args below meth c H locs cells slots Q (F0 m pc ls (.int x :: .ref a :: rest)) := va_put (own := RX7) (ref := RX7) (C := RX7) (T := TX7) (N := 27) (ci := 7) (ty := .boolean) hx hb hts inlX7 tyX7 tyX7_ok nmX7 hown hK hP hD hS q0 he rfl 23 (by decide) (hts _ wm_744) (fun _ h => h) rfl (by decide +kernel) hn hft hl hdg kk
theorem cw_X7_165 {R : Room} {s : State} {args : Array Value} {rm : Room} {mc ms : Nat} (hts : ∀ w ∈ wsL_law, w.before args s = true) (hrc : rm.cells = mc) (hrs : rm.slots = ms) (hR : rm.frames + 1 ≤ R.frames ∧ 8 + (4 + 11) + rm.locals ≤ R.locals) : CallW R s args RX7 RX7 165 yX7_allFault cX7_allFault 4 (some .int) (Cond.code yX7_allFault cX7_allFault 4 (some .int) :: wsL_law) rm mc ms 3 := cwV 3 hts (gUV wm_745 wm_746 wm_747 wm_5 wm_748) rfl hrc hrs (by decide +kernel) hR
theorem cw_X7_168 {R : Room} {s : State} {args : Array Value} {rm : Room} {mc ms : Nat} (hts : ∀ w ∈ wsL_law, w.before args s = true) (hrc : rm.cells = mc) (hrs : rm.slots = ms) (hR : rm.frames + 1 ≤ R.frames ∧ 8 + (8 + 11) + rm.locals ≤ R.locals) : CallW R s args RX7 RX7 168 yX7_sumOf cX7_sumOf 8 (some .long) (Cond.code yX7_sumOf cX7_sumOf 8 (some .long) :: wsL_law) rm mc ms 3 := cwV 3 hts (gUV wm_749 wm_750 wm_751 wm_5 wm_752) rfl hrc hrs (by decide +kernel) hR
set_option maxHeartbeats 4000000 in
set_option maxRecDepth 100000 in
theorem c_X7_sumOf (l : Launch) (D : va_G) (cy : Nat → ClassId) (ad : Nat → Nat) (I : AI) (S : AS) (sz : Nat) (b : Int32) (d : Nat) (t : Int32) (k : Nat) (hk : I 3 = nI k) (hk8 : k ≤ 256) (fr : Nat → Nat) (to : Nat → Nat) (hfr : ∀ i : Nat, i < k → S 5 i = nI (fr i) ∧ S 6 i = nI (to i) ∧ fr i ≤ to i ∧ to i ≤ 100) (en : Nat) (hen : I 1 = nI en) (hen6 : en ≤ 6) (hd : d < 100) : Met l yX7_sumOf (Cond.code yX7_sumOf cX7_sumOf 8 (some .long) :: wsL_law) ({ frames := 2, cells := 0, slots := 0, locals := 49 }) (va_Pc [.ref (ad 0), .int b, .int (nI d), .int t] (wrB D cy (wM cy ad I S) sz)) (va_Ql (S := (Nat → Int32)) (fun r u => r = (tsM S b t fr to k d en)) (fun u t9 => va_P D clW (wM cy ad (va_up (va_up I 8 (nI (tmM S b t fr to k d en))) 9 (bI (tlM S b t fr to k d en))) (va_up S 10 u)) t9.heap) (va_A (wM cy ad I S) sz)) 0 0 (va_A (wM cy ad I S) sz) := by
  refine enter (cc := cX7_sumOf) (by decide) (Nat.le_of_ble_eq_true rfl) ?_
  intro p e s m below meth c hx hb hr hml hown hts hlocks hin hv Q hQ ls hl
  obtain ⟨hsz, hP, hK, hD0⟩ := hv
  subst hsz
  have hD := hD0.self (sz := s.heap.size)
  generalize hAe : va_A (wM cy ad I S) s.heap.size = A at hD hQ ⊢
  have hA : ∀ q : Nat, s.heap.size ≤ q → A q := fun q h => by rw [← hAe]; exact Or.inr h
  have hS : va_S A s.heap s.heap [] := va_S.rf
  suffices K_ : ∀ (H : Heap) (locs : List Loc), va_P D clW (wM cy ad I S) H → va_S A s.heap H locs → W p l e ({ frames := 2, cells := 0, slots := 0, locals := 49 }) s m ([.ref (ad 0), .int b, .int (nI d), .int t] : List Value).toArray below meth c H locs 0 0 Q (F0 m 0 ls []) from K_ _ _ hP hS
  clear hP hS
  intro H locs hP hS
  have hown : s.vm.findClass RX7 = some m.cls := hown
  have hl : lv_has ls 8 [(0, .ref (ad 0)), (1, .int b), (2, .int (nI d)), (3, .int t)] := hl
  refine lv_lconst (v := 0) hx hb dX7_sumOf_0 (by decide) ?_
  refine lv_lstore (lv' := [(4, .long 0), (0, .ref (ad 0)), (1, .int b), (2, .int (nI d)), (3, .int t)]) hx hb dX7_sumOf_1 hl (by decide) rfl (fun ls hl => ?_)
  refine lv_aload_n hx hb dX7_sumOf_3 rfl (lv_at hl 1 rfl) ?_
  refine lv_iconst (v := 0) hx hb dX7_sumOf_4 (by decide) ?_
  refine pf_X7_154 hx hb hts hown hK hP hD hS 0 rfl (Nat.le_of_ble_eq_true rfl) dX7_sumOf_5 (fun H locs hP hD hS => ?_)
  have hP : va_P D clW (wM cy ad (va_up I 8 0) S) H := hP
  have hD : va_D A (wM cy ad (va_up I 8 0) S) := hD
  refine lv_aload_n hx hb dX7_sumOf_8 rfl (lv_at hl 1 rfl) ?_
  refine lv_iconst (v := 0) hx hb dX7_sumOf_9 (by decide) ?_
  refine pf_X7_157 hx hb hts hown hK hP hD hS 0 rfl rfl rfl (Nat.le_of_ble_eq_true rfl) dX7_sumOf_10 (fun H locs hP hD hS => ?_)
  have hP : va_P D clW (wM cy ad (va_up (va_up I 8 0) 9 0) S) H := hP
  have hD : va_D A (wM cy ad (va_up (va_up I 8 0) 9 0) S) := hD
  refine lv_iconst (v := 0) hx hb dX7_sumOf_13 (by decide) ?_
  refine lv_istore (lv' := [(6, .int 0), (4, .long 0), (0, .ref (ad 0)), (1, .int b), (2, .int (nI d)), (3, .int t)]) hx hb dX7_sumOf_14 hl (by decide) rfl (fun ls hl => ?_)
  have L16 : ∀ (n_16 i : Nat) (f1 : Nat → Int32), i ≤ en → en + 1 ≤ i + n_16 → ∀ (H : Heap) (locs : List Loc), va_P D clW (wM cy ad (va_up (va_up I 8 (nI (tmM S b t fr to k d i))) 9 (bI (tlM S b t fr to k d i))) (va_up S 10 f1)) H → va_D A (wM cy ad (va_up (va_up I 8 (nI (tmM S b t fr to k d i))) 9 (bI (tlM S b t fr to k d i))) (va_up S 10 f1)) → va_S A s.heap H locs → ∀ (ls : Array Slot), lv_has ls 8 [(6, .int (nI i)), (4, .long (tsM S b t fr to k d i)), (0, .ref (ad 0)), (1, .int b), (2, .int (nI d)), (3, .int t)] → W p l e { frames := 2, cells := 0, slots := 0, locals := 49 } s m ([.ref (ad 0), .int b, .int (nI d), .int t] : List Value).toArray below meth c H locs 0 0 Q (F0 m 16 ls []) := by
    clear hl
    intro n_16
    induction n_16 with
    | zero => intro i f1 hle_16 hn_16; exact absurd hn_16 (by omega)
    | succ n_16 ih16 =>
      intro i f1 hle_16 hn_16  H locs hP hD hS ls hl
      refine lv_iload hx hb dX7_sumOf_16 (lv_at hl 0 rfl) ?_
      refine lv_aload_n hx hb dX7_sumOf_18 rfl (lv_at hl 2 rfl) ?_
      refine gf_X7_64 hx hb hts hown hK hP 0 rfl (v := .int (I 1)) rfl dX7_sumOf_19 ?_
      refine top_eq hen ?_
      refine lv_icmp_ge (tgt := 122) hx hb dX7_sumOf_22 (by decide) (fun c22_1 => ?_) (fun c22_1 => ?_)
      · have fe : en ≤ i := nt_le (a := en) (b := i) (by omega) (by omega) c22_1
        obtain rfl : i = en := by omega
        refine lv_lload hx hb dX7_sumOf_122 (lv_at hl 1 rfl) ?_
        exact wL_ret f1 hS hP hx hb hr hlocks dX7_sumOf_124 (Nat.le_of_ble_eq_true rfl) (Nat.le_of_ble_eq_true rfl) hQ rfl
      · have f22_1 : i < en := nt_nle (a := en) (b := i) (by omega) (by omega) c22_1
        refine lv_aload_n hx hb dX7_sumOf_25 rfl (lv_at hl 2 rfl) ?_
        refine lv_iload hx hb dX7_sumOf_26 (lv_at hl 0 rfl) ?_
        refine lv_iload_n hx hb dX7_sumOf_28 rfl (lv_at hl 3 rfl) ?_
        refine rI_call (va_runS (As := [.int (nI i), .int b]) (rest := [.ref (ad 0)]) ⟨hx, hb, hml, hown, hts⟩ (c_X7_placeOf l D cy (nI i) b) (cw_X7_103 hts rfl rfl ⟨Nat.le_of_ble_eq_true rfl, Nat.le_of_ble_eq_true rfl⟩) (preSR hK (hP.sub [] rfl)) rfl rfl hl.1 rfl (lv_room (Nat.le_of_ble_eq_true rfl)) dX7_sumOf_29 ⟨Nat.le_of_ble_eq_true rfl, Nat.le_of_ble_eq_true rfl⟩) (fun r hr_ => ?_)
        subst hr_
        refine lv_iload_n hx hb dX7_sumOf_32 rfl (lv_at hl 4 rfl) ?_
        refine lv_iload_n hx hb dX7_sumOf_33 rfl (lv_at hl 5 rfl) ?_
        refine wI_call (va_runV (As := [.int (slM (nI i) b), .int (nI d), .int t]) (rest := []) ⟨hx, hb, hml, hown, hts⟩ (c_X7_factOn l D cy ad (va_up (va_up I 8 (nI (tmM S b t fr to k d i))) 9 (bI (tlM S b t fr to k d i))) (va_up S 10 f1) H.size (slM (nI i) b) d t k hk hk8 fr to hfr hd) (cw_X7_127 hts rfl rfl ⟨Nat.le_of_ble_eq_true rfl, Nat.le_of_ble_eq_true rfl⟩) (preVW (ci := 7) (q0 := 0) hK hP hD rfl rfl) rfl rfl hl.1 rfl (lv_room (Nat.le_of_ble_eq_true rfl)) dX7_sumOf_34 ⟨Nat.le_of_ble_eq_true rfl, Nat.le_of_ble_eq_true rfl⟩) hP hD hS hA [0, 1, 2, 3, 4, 5, 6, 7, 8, 9, 10, 11, 12, 13, 14, 15, 16] rfl [.inr 0, .inr 1, .inr 2, .inr 3, .inr 4, .inr 5, .inr 6, .inr 7, .inr 8, .inr 9, .inr 10, .inr 11, .inr 12, .inr 13, .inr 14, .inr 15, .inr 16] (by decide) (fun u => (wM cy ad (va_up (va_up I 8 (nI (tmM S b t fr to k d i))) 9 (bI (tlM S b t fr to k d i))) (va_up S 10 (lkN (va_up S 10 f1) (slM (nI i) b) t fr to f1 k)))) (fun _ => rfl) (fun _ => rfl) (fun r34_2 u34_2 H locs q34_2 hP hD hS hkp => ?_)
        have hP : va_P D clW (wM cy ad (va_up (va_up I 8 (nI (tmM S b t fr to k d i))) 9 (bI (tlM S b t fr to k d i))) (va_up S 10 (lkN (va_up S 10 f1) (slM (nI i) b) t fr to f1 k))) H := hP
        have hD : va_D A (wM cy ad (va_up (va_up I 8 (nI (tmM S b t fr to k d i))) 9 (bI (tlM S b t fr to k d i))) (va_up S 10 (lkN (va_up S 10 f1) (slM (nI i) b) t fr to f1 k))) := hD
        subst q34_2
        refine top_eq (y := fqM S b t fr to k d i) (lk_ind S _ t fr to _ _ k d hd) ?_
        refine lv_istore (lv' := [(7, .int (fqM S b t fr to k d i)), (6, .int (nI i)), (4, .long (tsM S b t fr to k d i)), (0, .ref (ad 0)), (1, .int b), (2, .int (nI d)), (3, .int t)]) hx hb dX7_sumOf_37 hl (by decide) rfl (fun ls hl => ?_)
        refine lv_lload hx hb dX7_sumOf_39 (lv_at hl 2 rfl) ?_
        refine lv_iload hx hb dX7_sumOf_41 (lv_at hl 0 rfl) ?_
        refine lv_iconst (v := (-1)) hx hb dX7_sumOf_43 (by decide) ?_
        refine lv_icmp_ne (tgt := 51) hx hb dX7_sumOf_44 (by decide) (fun c44_3 => ?_) (fun c44_3 => ?_)
        · refine lv_aload_n hx hb dX7_sumOf_51 rfl (lv_at hl 3 rfl) ?_
          refine gf_X7_20 hx hb hts hown hK hP 0 rfl (v := .ref (ad 4)) rfl dX7_sumOf_52 ?_
          refine lv_iload hx hb dX7_sumOf_55 (lv_at hl 0 rfl) ?_
          refine ald_Ix (f := (S 4)) hx hb hK hP 4 rfl (row_in (lk_row S (slM (nI i) b) t fr to (S 10) k) hk8 (by decide) hd c44_3) dX7_sumOf_57 ?_
          refine lv_i2l (v := ((S 4) (fqM S b t fr to k d i).toNatClampNeg).toInt64) hx hb dX7_sumOf_58 rfl ?_
          refine lv_ladd hx hb dX7_sumOf_59 ?_
          refine lv_lstore (lv' := [(4, .long ((tsM S b t fr to k d i) + (((S 4) (fqM S b t fr to k d i).toNatClampNeg).toInt64))), (7, .int (fqM S b t fr to k d i)), (6, .int (nI i)), (0, .ref (ad 0)), (1, .int b), (2, .int (nI d)), (3, .int t)]) hx hb dX7_sumOf_60 hl (by decide) rfl (fun ls hl => ?_)
          have ett : ((tsM S b t fr to k d i) + (((S 4) (fqM S b t fr to k d i).toNatClampNeg).toInt64)) = (tsM S b t fr to k d (i + 1)) := (ts_f c44_3).symm
          rw [ett] at hl
          refine lv_aload_n hx hb dX7_sumOf_62 rfl (lv_at hl 3 rfl) ?_
          refine lv_dup hx hb dX7_sumOf_63 rfl ?_
          refine gf_X7_154 hx hb hts hown hK hP 0 rfl (v := .int (nI (tmM S b t fr to k d i))) rfl dX7_sumOf_64 ?_
          refine lv_iload hx hb dX7_sumOf_67 (lv_at hl 1 rfl) ?_
          refine lv_iconst (v := (-1)) hx hb dX7_sumOf_69 (by decide) ?_
          refine lv_icmp_ne (tgt := 77) hx hb dX7_sumOf_70 (by decide) (fun _ => ?_) (fun c => absurd c c44_3)
          refine lv_iconst (v := 1) hx hb dX7_sumOf_77 (by decide) ?_
          refine lv_iadd hx hb dX7_sumOf_78 ?_
          refine top_eq (y := nI ((tmM S b t fr to k d i) + 1)) (nI_add (tmM S b t fr to k d i) 1) ?_
          refine pf_X7_154 hx hb hts hown hK hP hD hS 0 rfl (Nat.le_of_ble_eq_true rfl) dX7_sumOf_79 (fun H locs hP hD hS => ?_)
          have hP : va_P D clW (wM cy ad (va_up (va_up I 9 (bI (tlM S b t fr to k d i))) 8 (nI ((tmM S b t fr to k d i) + 1))) (va_up S 10 (lkN (va_up S 10 f1) (slM (nI i) b) t fr to f1 k))) H := hP
          have hD : va_D A (wM cy ad (va_up (va_up I 9 (bI (tlM S b t fr to k d i))) 8 (nI ((tmM S b t fr to k d i) + 1))) (va_up S 10 (lkN (va_up S 10 f1) (slM (nI i) b) t fr to f1 k))) := hD
          refine lv_aload_n hx hb dX7_sumOf_82 rfl (lv_at hl 3 rfl) ?_
          refine lv_aload_n hx hb dX7_sumOf_83 rfl (lv_at hl 3 rfl) ?_
          refine gf_X7_157 hx hb hts hown hK hP 0 rfl (v := .int (bI (tlM S b t fr to k d i))) rfl dX7_sumOf_84 ?_
          refine lv_if_ne (tgt := 108) hx hb dX7_sumOf_87 (by decide) (fun c87_4 => ?_) (fun c87_4 => ?_)
          · refine lv_iconst (v := 1) hx hb dX7_sumOf_108 (by decide) ?_
            refine lv_goto (tgt := 113) hx hb dX7_sumOf_109 (by decide) ?_
            refine pf_X7_157 hx hb hts hown hK hP hD hS 0 rfl rfl rfl (Nat.le_of_ble_eq_true rfl) dX7_sumOf_113 (fun H locs hP hD hS => ?_)
            have hP : va_P D clW (wM cy ad (va_up (va_up I 8 (nI ((tmM S b t fr to k d i) + 1))) 9 1) (va_up S 10 (lkN (va_up S 10 f1) (slM (nI i) b) t fr to f1 k))) H := hP
            have hD : va_D A (wM cy ad (va_up (va_up I 8 (nI ((tmM S b t fr to k d i) + 1))) 9 1) (va_up S 10 (lkN (va_up S 10 f1) (slM (nI i) b) t fr to f1 k))) := hD
            refine lv_iinc (v := (nI (i + 1))) (lv' := [(6, .int (nI (i + 1))), (4, .long (tsM S b t fr to k d (i + 1))), (7, .int (fqM S b t fr to k d i)), (0, .ref (ad 0)), (1, .int b), (2, .int (nI d)), (3, .int t)]) hx hb dX7_sumOf_116 hl (k := 2) rfl (nI_1 i) (by decide) rfl (fun ls hl => ?_)
            refine lv_goto (tgt := 16) hx hb dX7_sumOf_119 (by decide) ?_
            have e_5 : (nI ((tmM S b t fr to k d i) + 1)) = (nI (tmM S b t fr to k d (i + 1))) := (by rw [tm_f c44_3])
            have e_6 : (1 : Int32) = (bI (tlM S b t fr to k d (i + 1))) := (tl_t (by simp [tlM, bI_t c87_4]))
            have hP : va_P D clW (wM cy ad (va_up (va_up I 8 (nI (tmM S b t fr to k d (i + 1)))) 9 (bI (tlM S b t fr to k d (i + 1)))) (va_up S 10 (lkN (va_up S 10 f1) (slM (nI i) b) t fr to f1 k))) H := by rw [← e_5, ← e_6]; exact hP
            have hD : va_D A (wM cy ad (va_up (va_up I 8 (nI (tmM S b t fr to k d (i + 1)))) 9 (bI (tlM S b t fr to k d (i + 1)))) (va_up S 10 (lkN (va_up S 10 f1) (slM (nI i) b) t fr to f1 k))) := hD.addr rfl
            exact ih16 (i + 1) (lkN (va_up S 10 f1) (slM (nI i) b) t fr to f1 k) (by omega) (by omega) _ _ hP hD hS ls (lv_sub hl [0, 1, 3, 4, 5, 6] rfl)
          · refine lv_lload hx hb dX7_sumOf_90 (lv_at hl 0 rfl) ?_
            refine lv_ldc2 hx hb hown (hts _ wm_754) dX7_sumOf_92 ?_
            refine lc_gt (tgt := 108) hx hb dX7_sumOf_95 dX7_sumOf_96 (by decide) (fun c96_7 => ?_) (fun c96_7 => ?_)
            · refine lv_iconst (v := 1) hx hb dX7_sumOf_108 (by decide) ?_
              refine lv_goto (tgt := 113) hx hb dX7_sumOf_109 (by decide) ?_
              refine pf_X7_157 hx hb hts hown hK hP hD hS 0 rfl rfl rfl (Nat.le_of_ble_eq_true rfl) dX7_sumOf_113 (fun H locs hP hD hS => ?_)
              have hP : va_P D clW (wM cy ad (va_up (va_up I 8 (nI ((tmM S b t fr to k d i) + 1))) 9 1) (va_up S 10 (lkN (va_up S 10 f1) (slM (nI i) b) t fr to f1 k))) H := hP
              have hD : va_D A (wM cy ad (va_up (va_up I 8 (nI ((tmM S b t fr to k d i) + 1))) 9 1) (va_up S 10 (lkN (va_up S 10 f1) (slM (nI i) b) t fr to f1 k))) := hD
              refine lv_iinc (v := (nI (i + 1))) (lv' := [(6, .int (nI (i + 1))), (4, .long (tsM S b t fr to k d (i + 1))), (7, .int (fqM S b t fr to k d i)), (0, .ref (ad 0)), (1, .int b), (2, .int (nI d)), (3, .int t)]) hx hb dX7_sumOf_116 hl (k := 2) rfl (nI_1 i) (by decide) rfl (fun ls hl => ?_)
              refine lv_goto (tgt := 16) hx hb dX7_sumOf_119 (by decide) ?_
              have e_8 : (nI ((tmM S b t fr to k d i) + 1)) = (nI (tmM S b t fr to k d (i + 1))) := (by rw [tm_f c44_3])
              have e_9 : (1 : Int32) = (bI (tlM S b t fr to k d (i + 1))) := (tl_t (by simp [tlM, outB, bI_f c87_4, c96_7]))
              have hP : va_P D clW (wM cy ad (va_up (va_up I 8 (nI (tmM S b t fr to k d (i + 1)))) 9 (bI (tlM S b t fr to k d (i + 1)))) (va_up S 10 (lkN (va_up S 10 f1) (slM (nI i) b) t fr to f1 k))) H := by rw [← e_8, ← e_9]; exact hP
              have hD : va_D A (wM cy ad (va_up (va_up I 8 (nI (tmM S b t fr to k d (i + 1)))) 9 (bI (tlM S b t fr to k d (i + 1)))) (va_up S 10 (lkN (va_up S 10 f1) (slM (nI i) b) t fr to f1 k))) := hD.addr rfl
              exact ih16 (i + 1) (lkN (va_up S 10 f1) (slM (nI i) b) t fr to f1 k) (by omega) (by omega) _ _ hP hD hS ls (lv_sub hl [0, 1, 3, 4, 5, 6] rfl)
            · refine lv_lload hx hb dX7_sumOf_99 (lv_at hl 0 rfl) ?_
              refine lv_ldc2 hx hb hown (hts _ wm_755) dX7_sumOf_101 ?_
              refine lc_ge (tgt := 112) hx hb dX7_sumOf_104 dX7_sumOf_105 (by decide) (fun c105_10 => ?_) (fun c105_10 => ?_)
              · refine lv_iconst (v := 0) hx hb dX7_sumOf_112 (by decide) ?_
                refine pf_X7_157 hx hb hts hown hK hP hD hS 0 rfl rfl rfl (Nat.le_of_ble_eq_true rfl) dX7_sumOf_113 (fun H locs hP hD hS => ?_)
                have hP : va_P D clW (wM cy ad (va_up (va_up I 8 (nI ((tmM S b t fr to k d i) + 1))) 9 0) (va_up S 10 (lkN (va_up S 10 f1) (slM (nI i) b) t fr to f1 k))) H := hP
                have hD : va_D A (wM cy ad (va_up (va_up I 8 (nI ((tmM S b t fr to k d i) + 1))) 9 0) (va_up S 10 (lkN (va_up S 10 f1) (slM (nI i) b) t fr to f1 k))) := hD
                refine lv_iinc (v := (nI (i + 1))) (lv' := [(6, .int (nI (i + 1))), (4, .long (tsM S b t fr to k d (i + 1))), (7, .int (fqM S b t fr to k d i)), (0, .ref (ad 0)), (1, .int b), (2, .int (nI d)), (3, .int t)]) hx hb dX7_sumOf_116 hl (k := 2) rfl (nI_1 i) (by decide) rfl (fun ls hl => ?_)
                refine lv_goto (tgt := 16) hx hb dX7_sumOf_119 (by decide) ?_
                have e_11 : (nI ((tmM S b t fr to k d i) + 1)) = (nI (tmM S b t fr to k d (i + 1))) := (by rw [tm_f c44_3])
                have e_12 : (0 : Int32) = (bI (tlM S b t fr to k d (i + 1))) := (tl_f (by simp [tlM, outB, bI_f c87_4, c96_7, c105_10]))
                have hP : va_P D clW (wM cy ad (va_up (va_up I 8 (nI (tmM S b t fr to k d (i + 1)))) 9 (bI (tlM S b t fr to k d (i + 1)))) (va_up S 10 (lkN (va_up S 10 f1) (slM (nI i) b) t fr to f1 k))) H := by rw [← e_11, ← e_12]; exact hP
                have hD : va_D A (wM cy ad (va_up (va_up I 8 (nI (tmM S b t fr to k d (i + 1)))) 9 (bI (tlM S b t fr to k d (i + 1)))) (va_up S 10 (lkN (va_up S 10 f1) (slM (nI i) b) t fr to f1 k))) := hD.addr rfl
                exact ih16 (i + 1) (lkN (va_up S 10 f1) (slM (nI i) b) t fr to f1 k) (by omega) (by omega) _ _ hP hD hS ls (lv_sub hl [0, 1, 3, 4, 5, 6] rfl)
              · refine lv_iconst (v := 1) hx hb dX7_sumOf_108 (by decide) ?_
                refine lv_goto (tgt := 113) hx hb dX7_sumOf_109 (by decide) ?_
                refine pf_X7_157 hx hb hts hown hK hP hD hS 0 rfl rfl rfl (Nat.le_of_ble_eq_true rfl) dX7_sumOf_113 (fun H locs hP hD hS => ?_)
                have hP : va_P D clW (wM cy ad (va_up (va_up I 8 (nI ((tmM S b t fr to k d i) + 1))) 9 1) (va_up S 10 (lkN (va_up S 10 f1) (slM (nI i) b) t fr to f1 k))) H := hP
                have hD : va_D A (wM cy ad (va_up (va_up I 8 (nI ((tmM S b t fr to k d i) + 1))) 9 1) (va_up S 10 (lkN (va_up S 10 f1) (slM (nI i) b) t fr to f1 k))) := hD
                refine lv_iinc (v := (nI (i + 1))) (lv' := [(6, .int (nI (i + 1))), (4, .long (tsM S b t fr to k d (i + 1))), (7, .int (fqM S b t fr to k d i)), (0, .ref (ad 0)), (1, .int b), (2, .int (nI d)), (3, .int t)]) hx hb dX7_sumOf_116 hl (k := 2) rfl (nI_1 i) (by decide) rfl (fun ls hl => ?_)
                refine lv_goto (tgt := 16) hx hb dX7_sumOf_119 (by decide) ?_
                have e_13 : (nI ((tmM S b t fr to k d i) + 1)) = (nI (tmM S b t fr to k d (i + 1))) := (by rw [tm_f c44_3])
                have e_14 : (1 : Int32) = (bI (tlM S b t fr to k d (i + 1))) := (tl_t (by simp [tlM, outB, bI_f c87_4, c96_7, c105_10]))
                have hP : va_P D clW (wM cy ad (va_up (va_up I 8 (nI (tmM S b t fr to k d (i + 1)))) 9 (bI (tlM S b t fr to k d (i + 1)))) (va_up S 10 (lkN (va_up S 10 f1) (slM (nI i) b) t fr to f1 k))) H := by rw [← e_13, ← e_14]; exact hP
                have hD : va_D A (wM cy ad (va_up (va_up I 8 (nI (tmM S b t fr to k d (i + 1)))) 9 (bI (tlM S b t fr to k d (i + 1)))) (va_up S 10 (lkN (va_up S 10 f1) (slM (nI i) b) t fr to f1 k))) := hD.addr rfl
                exact ih16 (i + 1) (lkN (va_up S 10 f1) (slM (nI i) b) t fr to f1 k) (by omega) (by omega) _ _ hP hD hS ls (lv_sub hl [0, 1, 3, 4, 5, 6] rfl)
        · refine lv_lconst (v := 0) hx hb dX7_sumOf_47 (by decide) ?_
          refine lv_goto (tgt := 59) hx hb dX7_sumOf_48 (by decide) ?_
          refine lv_ladd hx hb dX7_sumOf_59 ?_
          refine lv_lstore (lv' := [(4, .long ((tsM S b t fr to k d i) + 0)), (7, .int (fqM S b t fr to k d i)), (6, .int (nI i)), (0, .ref (ad 0)), (1, .int b), (2, .int (nI d)), (3, .int t)]) hx hb dX7_sumOf_60 hl (by decide) rfl (fun ls hl => ?_)
          have ett : ((tsM S b t fr to k d i) + 0) = (tsM S b t fr to k d (i + 1)) := (ts_t c44_3).symm
          rw [ett] at hl
          refine lv_aload_n hx hb dX7_sumOf_62 rfl (lv_at hl 3 rfl) ?_
          refine lv_dup hx hb dX7_sumOf_63 rfl ?_
          refine gf_X7_154 hx hb hts hown hK hP 0 rfl (v := .int (nI (tmM S b t fr to k d i))) rfl dX7_sumOf_64 ?_
          refine lv_iload hx hb dX7_sumOf_67 (lv_at hl 1 rfl) ?_
          refine lv_iconst (v := (-1)) hx hb dX7_sumOf_69 (by decide) ?_
          refine lv_icmp_ne (tgt := 77) hx hb dX7_sumOf_70 (by decide) (fun c => absurd c44_3 c) (fun _ => ?_)
          refine lv_iconst (v := 0) hx hb dX7_sumOf_73 (by decide) ?_
          refine lv_goto (tgt := 78) hx hb dX7_sumOf_74 (by decide) ?_
          refine lv_iadd hx hb dX7_sumOf_78 ?_
          refine top_eq (y := nI ((tmM S b t fr to k d i) + 0)) (nI_add (tmM S b t fr to k d i) 0) ?_
          refine pf_X7_154 hx hb hts hown hK hP hD hS 0 rfl (Nat.le_of_ble_eq_true rfl) dX7_sumOf_79 (fun H locs hP hD hS => ?_)
          have hP : va_P D clW (wM cy ad (va_up (va_up I 9 (bI (tlM S b t fr to k d i))) 8 (nI ((tmM S b t fr to k d i) + 0))) (va_up S 10 (lkN (va_up S 10 f1) (slM (nI i) b) t fr to f1 k))) H := hP
          have hD : va_D A (wM cy ad (va_up (va_up I 9 (bI (tlM S b t fr to k d i))) 8 (nI ((tmM S b t fr to k d i) + 0))) (va_up S 10 (lkN (va_up S 10 f1) (slM (nI i) b) t fr to f1 k))) := hD
          refine lv_aload_n hx hb dX7_sumOf_82 rfl (lv_at hl 3 rfl) ?_
          refine lv_aload_n hx hb dX7_sumOf_83 rfl (lv_at hl 3 rfl) ?_
          refine gf_X7_157 hx hb hts hown hK hP 0 rfl (v := .int (bI (tlM S b t fr to k d i))) rfl dX7_sumOf_84 ?_
          refine lv_if_ne (tgt := 108) hx hb dX7_sumOf_87 (by decide) (fun c87_15 => ?_) (fun c87_15 => ?_)
          · refine lv_iconst (v := 1) hx hb dX7_sumOf_108 (by decide) ?_
            refine lv_goto (tgt := 113) hx hb dX7_sumOf_109 (by decide) ?_
            refine pf_X7_157 hx hb hts hown hK hP hD hS 0 rfl rfl rfl (Nat.le_of_ble_eq_true rfl) dX7_sumOf_113 (fun H locs hP hD hS => ?_)
            have hP : va_P D clW (wM cy ad (va_up (va_up I 8 (nI ((tmM S b t fr to k d i) + 0))) 9 1) (va_up S 10 (lkN (va_up S 10 f1) (slM (nI i) b) t fr to f1 k))) H := hP
            have hD : va_D A (wM cy ad (va_up (va_up I 8 (nI ((tmM S b t fr to k d i) + 0))) 9 1) (va_up S 10 (lkN (va_up S 10 f1) (slM (nI i) b) t fr to f1 k))) := hD
            refine lv_iinc (v := (nI (i + 1))) (lv' := [(6, .int (nI (i + 1))), (4, .long (tsM S b t fr to k d (i + 1))), (7, .int (fqM S b t fr to k d i)), (0, .ref (ad 0)), (1, .int b), (2, .int (nI d)), (3, .int t)]) hx hb dX7_sumOf_116 hl (k := 2) rfl (nI_1 i) (by decide) rfl (fun ls hl => ?_)
            refine lv_goto (tgt := 16) hx hb dX7_sumOf_119 (by decide) ?_
            have e_16 : (nI ((tmM S b t fr to k d i) + 0)) = (nI (tmM S b t fr to k d (i + 1))) := (by rw [tm_t c44_3])
            have e_17 : (1 : Int32) = (bI (tlM S b t fr to k d (i + 1))) := (tl_t (by simp [tlM, bI_t c87_15]))
            have hP : va_P D clW (wM cy ad (va_up (va_up I 8 (nI (tmM S b t fr to k d (i + 1)))) 9 (bI (tlM S b t fr to k d (i + 1)))) (va_up S 10 (lkN (va_up S 10 f1) (slM (nI i) b) t fr to f1 k))) H := by rw [← e_16, ← e_17]; exact hP
            have hD : va_D A (wM cy ad (va_up (va_up I 8 (nI (tmM S b t fr to k d (i + 1)))) 9 (bI (tlM S b t fr to k d (i + 1)))) (va_up S 10 (lkN (va_up S 10 f1) (slM (nI i) b) t fr to f1 k))) := hD.addr rfl
            exact ih16 (i + 1) (lkN (va_up S 10 f1) (slM (nI i) b) t fr to f1 k) (by omega) (by omega) _ _ hP hD hS ls (lv_sub hl [0, 1, 3, 4, 5, 6] rfl)
          · refine lv_lload hx hb dX7_sumOf_90 (lv_at hl 0 rfl) ?_
            refine lv_ldc2 hx hb hown (hts _ wm_754) dX7_sumOf_92 ?_
            refine lc_gt (tgt := 108) hx hb dX7_sumOf_95 dX7_sumOf_96 (by decide) (fun c96_18 => ?_) (fun c96_18 => ?_)
            · refine lv_iconst (v := 1) hx hb dX7_sumOf_108 (by decide) ?_
              refine lv_goto (tgt := 113) hx hb dX7_sumOf_109 (by decide) ?_
              refine pf_X7_157 hx hb hts hown hK hP hD hS 0 rfl rfl rfl (Nat.le_of_ble_eq_true rfl) dX7_sumOf_113 (fun H locs hP hD hS => ?_)
              have hP : va_P D clW (wM cy ad (va_up (va_up I 8 (nI ((tmM S b t fr to k d i) + 0))) 9 1) (va_up S 10 (lkN (va_up S 10 f1) (slM (nI i) b) t fr to f1 k))) H := hP
              have hD : va_D A (wM cy ad (va_up (va_up I 8 (nI ((tmM S b t fr to k d i) + 0))) 9 1) (va_up S 10 (lkN (va_up S 10 f1) (slM (nI i) b) t fr to f1 k))) := hD
              refine lv_iinc (v := (nI (i + 1))) (lv' := [(6, .int (nI (i + 1))), (4, .long (tsM S b t fr to k d (i + 1))), (7, .int (fqM S b t fr to k d i)), (0, .ref (ad 0)), (1, .int b), (2, .int (nI d)), (3, .int t)]) hx hb dX7_sumOf_116 hl (k := 2) rfl (nI_1 i) (by decide) rfl (fun ls hl => ?_)
              refine lv_goto (tgt := 16) hx hb dX7_sumOf_119 (by decide) ?_
              have e_19 : (nI ((tmM S b t fr to k d i) + 0)) = (nI (tmM S b t fr to k d (i + 1))) := (by rw [tm_t c44_3])
              have e_20 : (1 : Int32) = (bI (tlM S b t fr to k d (i + 1))) := (tl_t (by simp [tlM, outB, bI_f c87_15, c96_18]))
              have hP : va_P D clW (wM cy ad (va_up (va_up I 8 (nI (tmM S b t fr to k d (i + 1)))) 9 (bI (tlM S b t fr to k d (i + 1)))) (va_up S 10 (lkN (va_up S 10 f1) (slM (nI i) b) t fr to f1 k))) H := by rw [← e_19, ← e_20]; exact hP
              have hD : va_D A (wM cy ad (va_up (va_up I 8 (nI (tmM S b t fr to k d (i + 1)))) 9 (bI (tlM S b t fr to k d (i + 1)))) (va_up S 10 (lkN (va_up S 10 f1) (slM (nI i) b) t fr to f1 k))) := hD.addr rfl
              exact ih16 (i + 1) (lkN (va_up S 10 f1) (slM (nI i) b) t fr to f1 k) (by omega) (by omega) _ _ hP hD hS ls (lv_sub hl [0, 1, 3, 4, 5, 6] rfl)
            · refine lv_lload hx hb dX7_sumOf_99 (lv_at hl 0 rfl) ?_
              refine lv_ldc2 hx hb hown (hts _ wm_755) dX7_sumOf_101 ?_
              refine lc_ge (tgt := 112) hx hb dX7_sumOf_104 dX7_sumOf_105 (by decide) (fun c105_21 => ?_) (fun c105_21 => ?_)
              · refine lv_iconst (v := 0) hx hb dX7_sumOf_112 (by decide) ?_
                refine pf_X7_157 hx hb hts hown hK hP hD hS 0 rfl rfl rfl (Nat.le_of_ble_eq_true rfl) dX7_sumOf_113 (fun H locs hP hD hS => ?_)
                have hP : va_P D clW (wM cy ad (va_up (va_up I 8 (nI ((tmM S b t fr to k d i) + 0))) 9 0) (va_up S 10 (lkN (va_up S 10 f1) (slM (nI i) b) t fr to f1 k))) H := hP
                have hD : va_D A (wM cy ad (va_up (va_up I 8 (nI ((tmM S b t fr to k d i) + 0))) 9 0) (va_up S 10 (lkN (va_up S 10 f1) (slM (nI i) b) t fr to f1 k))) := hD
                refine lv_iinc (v := (nI (i + 1))) (lv' := [(6, .int (nI (i + 1))), (4, .long (tsM S b t fr to k d (i + 1))), (7, .int (fqM S b t fr to k d i)), (0, .ref (ad 0)), (1, .int b), (2, .int (nI d)), (3, .int t)]) hx hb dX7_sumOf_116 hl (k := 2) rfl (nI_1 i) (by decide) rfl (fun ls hl => ?_)
                refine lv_goto (tgt := 16) hx hb dX7_sumOf_119 (by decide) ?_
                have e_22 : (nI ((tmM S b t fr to k d i) + 0)) = (nI (tmM S b t fr to k d (i + 1))) := (by rw [tm_t c44_3])
                have e_23 : (0 : Int32) = (bI (tlM S b t fr to k d (i + 1))) := (tl_f (by simp [tlM, outB, bI_f c87_15, c96_18, c105_21]))
                have hP : va_P D clW (wM cy ad (va_up (va_up I 8 (nI (tmM S b t fr to k d (i + 1)))) 9 (bI (tlM S b t fr to k d (i + 1)))) (va_up S 10 (lkN (va_up S 10 f1) (slM (nI i) b) t fr to f1 k))) H := by rw [← e_22, ← e_23]; exact hP
                have hD : va_D A (wM cy ad (va_up (va_up I 8 (nI (tmM S b t fr to k d (i + 1)))) 9 (bI (tlM S b t fr to k d (i + 1)))) (va_up S 10 (lkN (va_up S 10 f1) (slM (nI i) b) t fr to f1 k))) := hD.addr rfl
                exact ih16 (i + 1) (lkN (va_up S 10 f1) (slM (nI i) b) t fr to f1 k) (by omega) (by omega) _ _ hP hD hS ls (lv_sub hl [0, 1, 3, 4, 5, 6] rfl)
              · refine lv_iconst (v := 1) hx hb dX7_sumOf_108 (by decide) ?_
                refine lv_goto (tgt := 113) hx hb dX7_sumOf_109 (by decide) ?_
                refine pf_X7_157 hx hb hts hown hK hP hD hS 0 rfl rfl rfl (Nat.le_of_ble_eq_true rfl) dX7_sumOf_113 (fun H locs hP hD hS => ?_)
                have hP : va_P D clW (wM cy ad (va_up (va_up I 8 (nI ((tmM S b t fr to k d i) + 0))) 9 1) (va_up S 10 (lkN (va_up S 10 f1) (slM (nI i) b) t fr to f1 k))) H := hP
                have hD : va_D A (wM cy ad (va_up (va_up I 8 (nI ((tmM S b t fr to k d i) + 0))) 9 1) (va_up S 10 (lkN (va_up S 10 f1) (slM (nI i) b) t fr to f1 k))) := hD
                refine lv_iinc (v := (nI (i + 1))) (lv' := [(6, .int (nI (i + 1))), (4, .long (tsM S b t fr to k d (i + 1))), (7, .int (fqM S b t fr to k d i)), (0, .ref (ad 0)), (1, .int b), (2, .int (nI d)), (3, .int t)]) hx hb dX7_sumOf_116 hl (k := 2) rfl (nI_1 i) (by decide) rfl (fun ls hl => ?_)
                refine lv_goto (tgt := 16) hx hb dX7_sumOf_119 (by decide) ?_
                have e_24 : (nI ((tmM S b t fr to k d i) + 0)) = (nI (tmM S b t fr to k d (i + 1))) := (by rw [tm_t c44_3])
                have e_25 : (1 : Int32) = (bI (tlM S b t fr to k d (i + 1))) := (tl_t (by simp [tlM, outB, bI_f c87_15, c96_18, c105_21]))
                have hP : va_P D clW (wM cy ad (va_up (va_up I 8 (nI (tmM S b t fr to k d (i + 1)))) 9 (bI (tlM S b t fr to k d (i + 1)))) (va_up S 10 (lkN (va_up S 10 f1) (slM (nI i) b) t fr to f1 k))) H := by rw [← e_24, ← e_25]; exact hP
                have hD : va_D A (wM cy ad (va_up (va_up I 8 (nI (tmM S b t fr to k d (i + 1)))) 9 (bI (tlM S b t fr to k d (i + 1)))) (va_up S 10 (lkN (va_up S 10 f1) (slM (nI i) b) t fr to f1 k))) := hD.addr rfl
                exact ih16 (i + 1) (lkN (va_up S 10 f1) (slM (nI i) b) t fr to f1 k) (by omega) (by omega) _ _ hP hD hS ls (lv_sub hl [0, 1, 3, 4, 5, 6] rfl)
  have e_26 : (0 : Int32) = (nI (tmM S b t fr to k d 0)) := rfl
  have e_27 : (0 : Int32) = (bI (tlM S b t fr to k d 0)) := rfl
  have hP : va_P D clW (wM cy ad (va_up (va_up I 8 (nI (tmM S b t fr to k d 0))) 9 (bI (tlM S b t fr to k d 0))) (va_up S 10 (S 10))) H := by rw [← e_26, ← e_27]; exact hP
  have hD : va_D A (wM cy ad (va_up (va_up I 8 (nI (tmM S b t fr to k d 0))) 9 (bI (tlM S b t fr to k d 0))) (va_up S 10 (S 10))) := hD.addr rfl
  exact L16 (en + 1) 0 (S 10) (by omega) (by omega) _ _ hP hD hS ls (lv_sub hl [0, 1, 2, 3, 4, 5] rfl)

set_option maxHeartbeats 4000000 in
set_option maxRecDepth 100000 in
theorem c_X7_total (l : Launch) (D : va_G) (cy : Nat → ClassId) (ad : Nat → Nat) (I : AI) (S : AS) (sz : Nat) (b : Int32) (d : Int32) (t : Int32) (k : Nat) (hk : I 3 = nI k) (hk8 : k ≤ 256) (fr : Nat → Nat) (to : Nat → Nat) (hfr : ∀ i : Nat, i < k → S 5 i = nI (fr i) ∧ S 6 i = nI (to i) ∧ fr i ≤ to i ∧ to i ≤ 100) (en : Nat) (hen : I 1 = nI en) (hen6 : en ≤ 6) : Met l yX7_total (Cond.code yX7_total cX7_total 7 (some .int) :: wsL_law) ({ frames := 3, cells := 0, slots := 0, locals := 76 }) (va_Pc [.ref (ad 0), .int b, .int d, .int t] (wrB D cy (wM cy ad I S) sz)) (va_Qi (S := AI × AS) (fun r u => msc I S u.1 u.2 ∧ (gfC I b d t = 0 → ((tlM S b t fr to k d.toNatClampNeg en) = true ∧ u.1 0 = 4) ∨ ((tlM S b t fr to k d.toNatClampNeg en) = false ∧ u.1 0 = 0 ∧ r = ((tsM S b t fr to k d.toNatClampNeg en)).toInt32)) ∧ (¬ gfC I b d t = 0 → u.1 0 = gfC I b d t)) (fun u t9 => va_P D clW (wM cy ad u.1 u.2) t9.heap) (va_A (wM cy ad I S) sz)) 0 0 (va_A (wM cy ad I S) sz) := by
  refine enter (cc := cX7_total) (by decide) (Nat.le_of_ble_eq_true rfl) ?_
  intro p e s m below meth c hx hb hr hml hown hts hlocks hin hv Q hQ ls hl
  obtain ⟨hsz, hP, hK, hD0⟩ := hv
  subst hsz
  have hD := hD0.self (sz := s.heap.size)
  generalize hAe : va_A (wM cy ad I S) s.heap.size = A at hD hQ ⊢
  have hA : ∀ q : Nat, s.heap.size ≤ q → A q := fun q h => by rw [← hAe]; exact Or.inr h
  have hS : va_S A s.heap s.heap [] := va_S.rf
  suffices K_ : ∀ (H : Heap) (locs : List Loc), va_P D clW (wM cy ad I S) H → va_S A s.heap H locs → W p l e ({ frames := 3, cells := 0, slots := 0, locals := 76 }) s m ([.ref (ad 0), .int b, .int d, .int t] : List Value).toArray below meth c H locs 0 0 Q (F0 m 0 ls []) from K_ _ _ hP hS
  clear hP hS
  intro H locs hP hS
  have hown : s.vm.findClass RX7 = some m.cls := hown
  have hl : lv_has ls 7 [(0, .ref (ad 0)), (1, .int b), (2, .int d), (3, .int t)] := hl
  refine lv_aload_n hx hb dX7_total_0 rfl (lv_at hl 0 rfl) ?_
  refine lv_iload_n hx hb dX7_total_1 rfl (lv_at hl 1 rfl) ?_
  refine lv_iload_n hx hb dX7_total_2 rfl (lv_at hl 2 rfl) ?_
  refine lv_iload_n hx hb dX7_total_3 rfl (lv_at hl 3 rfl) ?_
  refine rI_call (va_runV (As := [.int b, .int d, .int t]) (rest := []) ⟨hx, hb, hml, hown, hts⟩ (c_X7_allFault l D cy ad I S b d t) (cw_X7_165 hts rfl rfl ⟨Nat.le_of_ble_eq_true rfl, Nat.le_of_ble_eq_true rfl⟩) (preVR (ci := 7) (q0 := 0) hK hP rfl rfl) rfl rfl hl.1 rfl (lv_room (Nat.le_of_ble_eq_true rfl)) dX7_total_4 ⟨Nat.le_of_ble_eq_true rfl, Nat.le_of_ble_eq_true rfl⟩) (fun r hr_ => ?_)
  subst hr_
  refine lv_istore (lv' := [(4, .int (gfC I b d t)), (0, .ref (ad 0)), (1, .int b), (2, .int d), (3, .int t)]) hx hb dX7_total_7 hl (by decide) rfl (fun ls hl => ?_)
  refine lv_iload hx hb dX7_total_9 (lv_at hl 0 rfl) ?_
  refine lv_if_ne (tgt := 24) hx hb dX7_total_11 (by decide) (fun c11_1 => ?_) (fun c11_1 => ?_)
  · refine lv_lconst (v := 0) hx hb dX7_total_24 (by decide) ?_
    refine lv_lstore (lv' := [(5, .long 0), (4, .int (gfC I b d t)), (0, .ref (ad 0)), (1, .int b), (2, .int d), (3, .int t)]) hx hb dX7_total_25 hl (by decide) rfl (fun ls hl => ?_)
    refine lv_aload_n hx hb dX7_total_27 rfl (lv_at hl 2 rfl) ?_
    refine lv_iload hx hb dX7_total_28 (lv_at hl 1 rfl) ?_
    refine lv_if_ne (tgt := 44) hx hb dX7_total_30 (by decide) (fun _ => ?_) (fun c => absurd c c11_1)
    refine lv_iload hx hb dX7_total_44 (lv_at hl 1 rfl) ?_
    refine wI_call (va_runV (As := [.int (gfC I b d t)]) (rest := []) ⟨hx, hb, hml, hown, hts⟩ (c_X7_goesOn l D cy ad I S H.size (gfC I b d t)) (cw_X7_71 hts rfl rfl ⟨Nat.le_of_ble_eq_true rfl, Nat.le_of_ble_eq_true rfl⟩) (preVW (ci := 7) (q0 := 0) hK hP hD rfl rfl) rfl rfl hl.1 rfl (lv_room (Nat.le_of_ble_eq_true rfl)) dX7_total_46 ⟨Nat.le_of_ble_eq_true rfl, Nat.le_of_ble_eq_true rfl⟩) hP hD hS hA [0, 1, 2, 3, 4, 5, 6, 7, 8, 9, 10, 11, 12, 13, 14, 15, 16] rfl [.inr 0, .inr 1, .inr 2, .inr 3, .inr 4, .inr 5, .inr 6, .inr 7, .inr 8, .inr 9, .inr 10, .inr 11, .inr 12, .inr 13, .inr 14, .inr 15, .inr 16] (by decide) (fun u => (wM cy ad (va_up I 0 (gfC I b d t)) S)) (fun _ => rfl) (fun _ => rfl) (fun r46_2 u46_2 H locs q46_2 hP hD hS hkp => ?_)
    have hP : va_P D clW (wM cy ad (va_up I 0 (gfC I b d t)) S) H := hP
    have hD : va_D A (wM cy ad (va_up I 0 (gfC I b d t)) S) := hD
    rw [if_neg c11_1] at q46_2
    subst q46_2
    refine lv_if_eq (tgt := 58) hx hb dX7_total_49 (by decide) (fun _ => ?_) (fun c => absurd (by decide) c)
    refine lv_iconst (v := 0) hx hb dX7_total_58 (by decide) ?_
    exact wI_ret ((va_up I 0 (gfC I b d t)), S) hS hP hx hb hr hlocks dX7_total_59 (Nat.le_of_ble_eq_true rfl) (Nat.le_of_ble_eq_true rfl) hQ ⟨(msc_I (msc_0 I S) (by decide) _), fun q => absurd q c11_1, fun _ => rfl⟩
  · obtain ⟨j, hj, hdj⟩ := gfC_d c11_1
    have hl : lv_has ls 7 [(4, .int (gfC I b d t)), (0, .ref (ad 0)), (1, .int b), (2, .int (nI j)), (3, .int t)] := by rw [← hdj]; exact hl
    refine lv_aload_n hx hb dX7_total_14 rfl (lv_at hl 1 rfl) ?_
    refine lv_iload_n hx hb dX7_total_15 rfl (lv_at hl 2 rfl) ?_
    refine lv_iload_n hx hb dX7_total_16 rfl (lv_at hl 3 rfl) ?_
    refine lv_iload_n hx hb dX7_total_17 rfl (lv_at hl 4 rfl) ?_
    refine wL_call (va_runV (As := [.int b, .int (nI j), .int t]) (rest := []) ⟨hx, hb, hml, hown, hts⟩ (c_X7_sumOf l D cy ad I S H.size b j t k hk hk8 fr to hfr en hen hen6 hj) (cw_X7_168 hts rfl rfl ⟨Nat.le_of_ble_eq_true rfl, Nat.le_of_ble_eq_true rfl⟩) (preVW (ci := 7) (q0 := 0) hK hP hD rfl rfl) rfl rfl hl.1 rfl (lv_room (Nat.le_of_ble_eq_true rfl)) dX7_total_18 ⟨Nat.le_of_ble_eq_true rfl, Nat.le_of_ble_eq_true rfl⟩) hP hD hS hA [0, 1, 2, 3, 4, 5, 6, 7, 8, 9, 10, 11, 12, 13, 14, 15, 16] rfl [.inr 0, .inr 1, .inr 2, .inr 3, .inr 4, .inr 5, .inr 6, .inr 7, .inr 8, .inr 9, .inr 10, .inr 11, .inr 12, .inr 13, .inr 14, .inr 15, .inr 16] (by decide) (fun u => (wM cy ad (va_up (va_up I 8 (nI (tmM S b t fr to k j en))) 9 (bI (tlM S b t fr to k j en))) (va_up S 10 u))) (fun _ => rfl) (fun _ => rfl) (fun r18_3 u18_3 H locs q18_3 hP hD hS hkp => ?_)
    obtain ⟨f2_3, rfl⟩ : ∃ z, z = u18_3 := ⟨_, rfl⟩
    have hP : va_P D clW (wM cy ad (va_up (va_up I 8 (nI (tmM S b t fr to k j en))) 9 (bI (tlM S b t fr to k j en))) (va_up S 10 f2_3)) H := hP
    have hD : va_D A (wM cy ad (va_up (va_up I 8 (nI (tmM S b t fr to k j en))) 9 (bI (tlM S b t fr to k j en))) (va_up S 10 f2_3)) := hD
    subst q18_3
    have htm := tm_le S b t fr to k j en
    refine lv_goto (tgt := 25) hx hb dX7_total_21 (by decide) ?_
    refine lv_lstore (lv' := [(5, .long (tsM S b t fr to k j en)), (4, .int (gfC I b d t)), (0, .ref (ad 0)), (1, .int b), (2, .int (nI j)), (3, .int t)]) hx hb dX7_total_25 hl (by decide) rfl (fun ls hl => ?_)
    refine lv_aload_n hx hb dX7_total_27 rfl (lv_at hl 2 rfl) ?_
    refine lv_iload hx hb dX7_total_28 (lv_at hl 1 rfl) ?_
    refine lv_if_ne (tgt := 44) hx hb dX7_total_30 (by decide) (fun c => absurd c11_1 c) (fun _ => ?_)
    refine lv_aload_n hx hb dX7_total_33 rfl (lv_at hl 2 rfl) ?_
    refine gf_X7_157 hx hb hts hown hK hP 0 rfl (v := .int (bI (tlM S b t fr to k j en))) rfl dX7_total_34 ?_
    refine lv_if_eq (tgt := 44) hx hb dX7_total_37 (by decide) (fun c37_4 => ?_) (fun c37_4 => ?_)
    · refine lv_iload hx hb dX7_total_44 (lv_at hl 1 rfl) ?_
      refine wI_call (va_runV (As := [.int (gfC I b d t)]) (rest := []) ⟨hx, hb, hml, hown, hts⟩ (c_X7_goesOn l D cy ad (va_up (va_up I 8 (nI (tmM S b t fr to k j en))) 9 (bI (tlM S b t fr to k j en))) (va_up S 10 f2_3) H.size (gfC I b d t)) (cw_X7_71 hts rfl rfl ⟨Nat.le_of_ble_eq_true rfl, Nat.le_of_ble_eq_true rfl⟩) (preVW (ci := 7) (q0 := 0) hK hP hD rfl rfl) rfl rfl hl.1 rfl (lv_room (Nat.le_of_ble_eq_true rfl)) dX7_total_46 ⟨Nat.le_of_ble_eq_true rfl, Nat.le_of_ble_eq_true rfl⟩) hP hD hS hA [0, 1, 2, 3, 4, 5, 6, 7, 8, 9, 10, 11, 12, 13, 14, 15, 16] rfl [.inr 0, .inr 1, .inr 2, .inr 3, .inr 4, .inr 5, .inr 6, .inr 7, .inr 8, .inr 9, .inr 10, .inr 11, .inr 12, .inr 13, .inr 14, .inr 15, .inr 16] (by decide) (fun u => (wM cy ad (va_up (va_up (va_up I 8 (nI (tmM S b t fr to k j en))) 9 (bI (tlM S b t fr to k j en))) 0 (gfC I b d t)) (va_up S 10 f2_3))) (fun _ => rfl) (fun _ => rfl) (fun r46_5 u46_5 H locs q46_5 hP hD hS hkp => ?_)
      have hP : va_P D clW (wM cy ad (va_up (va_up (va_up I 8 (nI (tmM S b t fr to k j en))) 9 (bI (tlM S b t fr to k j en))) 0 (gfC I b d t)) (va_up S 10 f2_3)) H := hP
      have hD : va_D A (wM cy ad (va_up (va_up (va_up I 8 (nI (tmM S b t fr to k j en))) 9 (bI (tlM S b t fr to k j en))) 0 (gfC I b d t)) (va_up S 10 f2_3)) := hD
      rw [if_pos c11_1] at q46_5
      subst q46_5
      refine lv_if_eq (tgt := 58) hx hb dX7_total_49 (by decide) (fun c => absurd c (by decide)) (fun _ => ?_)
      refine lv_lload hx hb dX7_total_52 (lv_at hl 0 rfl) ?_
      refine lv_l2i (v := (tsM S b t fr to k j en).toInt32) hx hb dX7_total_54 rfl ?_
      refine lv_goto (tgt := 59) hx hb dX7_total_55 (by decide) ?_
      exact wI_ret ((va_up (va_up (va_up I 8 (nI (tmM S b t fr to k j en))) 9 (bI (tlM S b t fr to k j en))) 0 (gfC I b d t)), (va_up S 10 f2_3)) hS hP hx hb hr hlocks dX7_total_59 (Nat.le_of_ble_eq_true rfl) (Nat.le_of_ble_eq_true rfl) hQ ⟨(msc_S (msc_I (msc_I (msc_I (msc_0 I S) (by decide) _) (by decide) _) (by decide) _) (by decide) _), fun _ => Or.inr ⟨by rw [hdj, nI_clamp (by omega)]; exact bI_f c37_4, c11_1, by rw [hdj, nI_clamp (by omega)]⟩, fun q => absurd c11_1 q⟩
    · refine lv_iconst (v := 4) hx hb dX7_total_40 (by decide) ?_
      refine lv_goto (tgt := 46) hx hb dX7_total_41 (by decide) ?_
      refine wI_call (va_runV (As := [.int 4]) (rest := []) ⟨hx, hb, hml, hown, hts⟩ (c_X7_goesOn l D cy ad (va_up (va_up I 8 (nI (tmM S b t fr to k j en))) 9 (bI (tlM S b t fr to k j en))) (va_up S 10 f2_3) H.size 4) (cw_X7_71 hts rfl rfl ⟨Nat.le_of_ble_eq_true rfl, Nat.le_of_ble_eq_true rfl⟩) (preVW (ci := 7) (q0 := 0) hK hP hD rfl rfl) rfl rfl hl.1 rfl (lv_room (Nat.le_of_ble_eq_true rfl)) dX7_total_46 ⟨Nat.le_of_ble_eq_true rfl, Nat.le_of_ble_eq_true rfl⟩) hP hD hS hA [0, 1, 2, 3, 4, 5, 6, 7, 8, 9, 10, 11, 12, 13, 14, 15, 16] rfl [.inr 0, .inr 1, .inr 2, .inr 3, .inr 4, .inr 5, .inr 6, .inr 7, .inr 8, .inr 9, .inr 10, .inr 11, .inr 12, .inr 13, .inr 14, .inr 15, .inr 16] (by decide) (fun u => (wM cy ad (va_up (va_up (va_up I 8 (nI (tmM S b t fr to k j en))) 9 (bI (tlM S b t fr to k j en))) 0 4) (va_up S 10 f2_3))) (fun _ => rfl) (fun _ => rfl) (fun r46_6 u46_6 H locs q46_6 hP hD hS hkp => ?_)
      have hP : va_P D clW (wM cy ad (va_up (va_up (va_up I 8 (nI (tmM S b t fr to k j en))) 9 (bI (tlM S b t fr to k j en))) 0 4) (va_up S 10 f2_3)) H := hP
      have hD : va_D A (wM cy ad (va_up (va_up (va_up I 8 (nI (tmM S b t fr to k j en))) 9 (bI (tlM S b t fr to k j en))) 0 4) (va_up S 10 f2_3)) := hD
      rw [if_neg (by decide)] at q46_6
      subst q46_6
      refine lv_if_eq (tgt := 58) hx hb dX7_total_49 (by decide) (fun _ => ?_) (fun c => absurd (by decide) c)
      refine lv_iconst (v := 0) hx hb dX7_total_58 (by decide) ?_
      exact wI_ret ((va_up (va_up (va_up I 8 (nI (tmM S b t fr to k j en))) 9 (bI (tlM S b t fr to k j en))) 0 4), (va_up S 10 f2_3)) hS hP hx hb hr hlocks dX7_total_59 (Nat.le_of_ble_eq_true rfl) (Nat.le_of_ble_eq_true rfl) hQ ⟨(msc_S (msc_I (msc_I (msc_I (msc_0 I S) (by decide) _) (by decide) _) (by decide) _) (by decide) _), fun _ => Or.inl ⟨by rw [hdj, nI_clamp (by omega)]; exact bI_t c37_4, rfl⟩, fun q => absurd c11_1 q⟩

set_option maxHeartbeats 4000000 in
set_option maxRecDepth 100000 in
theorem c_X7_meanValue (l : Launch) (D : va_G) (cy : Nat → ClassId) (ad : Nat → Nat) (I : AI) (S : AS) (sz : Nat) (b : Int32) (d : Int32) (t : Int32) (k : Nat) (hk : I 3 = nI k) (hk8 : k ≤ 256) (fr : Nat → Nat) (to : Nat → Nat) (hfr : ∀ i : Nat, i < k → S 5 i = nI (fr i) ∧ S 6 i = nI (to i) ∧ fr i ≤ to i ∧ to i ≤ 100) (en : Nat) (hen : I 1 = nI en) (hen6 : en ≤ 6) : Met l yX7_meanValue (Cond.code yX7_meanValue cX7_meanValue 7 (some .double) :: wsL_law) ({ frames := 3, cells := 0, slots := 0, locals := 76 }) (va_Pc [.ref (ad 0), .int b, .int d, .int t] (wrB D cy (wM cy ad I S) sz)) (va_Qd (S := AI × AS) (fun r u => msc I S u.1 u.2 ∧ (gfC I b d t = 0 → ((tmM S b t fr to k d.toNatClampNeg en) = 0 ∧ u.1 0 = 4) ∨ ((tmM S b t fr to k d.toNatClampNeg en) ≠ 0 ∧ u.1 0 = 0 ∧ r = FP.ddiv (FP.l2d (tsM S b t fr to k d.toNatClampNeg en)) (FP.i2d (nI (tmM S b t fr to k d.toNatClampNeg en))))) ∧ (¬ gfC I b d t = 0 → u.1 0 = gfC I b d t)) (fun u t9 => va_P D clW (wM cy ad u.1 u.2) t9.heap) (va_A (wM cy ad I S) sz)) 0 0 (va_A (wM cy ad I S) sz) := by
  refine enter (cc := cX7_meanValue) (by decide) (Nat.le_of_ble_eq_true rfl) ?_
  intro p e s m below meth c hx hb hr hml hown hts hlocks hin hv Q hQ ls hl
  obtain ⟨hsz, hP, hK, hD0⟩ := hv
  subst hsz
  have hD := hD0.self (sz := s.heap.size)
  generalize hAe : va_A (wM cy ad I S) s.heap.size = A at hD hQ ⊢
  have hA : ∀ q : Nat, s.heap.size ≤ q → A q := fun q h => by rw [← hAe]; exact Or.inr h
  have hS : va_S A s.heap s.heap [] := va_S.rf
  suffices K_ : ∀ (H : Heap) (locs : List Loc), va_P D clW (wM cy ad I S) H → va_S A s.heap H locs → W p l e ({ frames := 3, cells := 0, slots := 0, locals := 76 }) s m ([.ref (ad 0), .int b, .int d, .int t] : List Value).toArray below meth c H locs 0 0 Q (F0 m 0 ls []) from K_ _ _ hP hS
  clear hP hS
  intro H locs hP hS
  have hown : s.vm.findClass RX7 = some m.cls := hown
  have hl : lv_has ls 7 [(0, .ref (ad 0)), (1, .int b), (2, .int d), (3, .int t)] := hl
  refine lv_aload_n hx hb dX7_meanValue_0 rfl (lv_at hl 0 rfl) ?_
  refine lv_iload_n hx hb dX7_meanValue_1 rfl (lv_at hl 1 rfl) ?_
  refine lv_iload_n hx hb dX7_meanValue_2 rfl (lv_at hl 2 rfl) ?_
  refine lv_iload_n hx hb dX7_meanValue_3 rfl (lv_at hl 3 rfl) ?_
  refine rI_call (va_runV (As := [.int b, .int d, .int t]) (rest := []) ⟨hx, hb, hml, hown, hts⟩ (c_X7_allFault l D cy ad I S b d t) (cw_X7_165 hts rfl rfl ⟨Nat.le_of_ble_eq_true rfl, Nat.le_of_ble_eq_true rfl⟩) (preVR (ci := 7) (q0 := 0) hK hP rfl rfl) rfl rfl hl.1 rfl (lv_room (Nat.le_of_ble_eq_true rfl)) dX7_meanValue_4 ⟨Nat.le_of_ble_eq_true rfl, Nat.le_of_ble_eq_true rfl⟩) (fun r hr_ => ?_)
  subst hr_
  refine lv_istore (lv' := [(4, .int (gfC I b d t)), (0, .ref (ad 0)), (1, .int b), (2, .int d), (3, .int t)]) hx hb dX7_meanValue_7 hl (by decide) rfl (fun ls hl => ?_)
  refine lv_iload hx hb dX7_meanValue_9 (lv_at hl 0 rfl) ?_
  refine lv_if_ne (tgt := 24) hx hb dX7_meanValue_11 (by decide) (fun c11_1 => ?_) (fun c11_1 => ?_)
  · refine lv_lconst (v := 0) hx hb dX7_meanValue_24 (by decide) ?_
    refine lv_lstore (lv' := [(5, .long 0), (4, .int (gfC I b d t)), (0, .ref (ad 0)), (1, .int b), (2, .int d), (3, .int t)]) hx hb dX7_meanValue_25 hl (by decide) rfl (fun ls hl => ?_)
    refine lv_aload_n hx hb dX7_meanValue_27 rfl (lv_at hl 2 rfl) ?_
    refine lv_iload hx hb dX7_meanValue_28 (lv_at hl 1 rfl) ?_
    refine lv_if_ne (tgt := 44) hx hb dX7_meanValue_30 (by decide) (fun _ => ?_) (fun c => absurd c c11_1)
    refine lv_iload hx hb dX7_meanValue_44 (lv_at hl 1 rfl) ?_
    refine wI_call (va_runV (As := [.int (gfC I b d t)]) (rest := []) ⟨hx, hb, hml, hown, hts⟩ (c_X7_goesOn l D cy ad I S H.size (gfC I b d t)) (cw_X7_71 hts rfl rfl ⟨Nat.le_of_ble_eq_true rfl, Nat.le_of_ble_eq_true rfl⟩) (preVW (ci := 7) (q0 := 0) hK hP hD rfl rfl) rfl rfl hl.1 rfl (lv_room (Nat.le_of_ble_eq_true rfl)) dX7_meanValue_46 ⟨Nat.le_of_ble_eq_true rfl, Nat.le_of_ble_eq_true rfl⟩) hP hD hS hA [0, 1, 2, 3, 4, 5, 6, 7, 8, 9, 10, 11, 12, 13, 14, 15, 16] rfl [.inr 0, .inr 1, .inr 2, .inr 3, .inr 4, .inr 5, .inr 6, .inr 7, .inr 8, .inr 9, .inr 10, .inr 11, .inr 12, .inr 13, .inr 14, .inr 15, .inr 16] (by decide) (fun u => (wM cy ad (va_up I 0 (gfC I b d t)) S)) (fun _ => rfl) (fun _ => rfl) (fun r46_2 u46_2 H locs q46_2 hP hD hS hkp => ?_)
    have hP : va_P D clW (wM cy ad (va_up I 0 (gfC I b d t)) S) H := hP
    have hD : va_D A (wM cy ad (va_up I 0 (gfC I b d t)) S) := hD
    rw [if_neg c11_1] at q46_2
    subst q46_2
    refine lv_if_eq (tgt := 64) hx hb dX7_meanValue_49 (by decide) (fun _ => ?_) (fun c => absurd (by decide) c)
    refine lv_dconst0 hx hb dX7_meanValue_64 ?_
    exact wD_ret ((va_up I 0 (gfC I b d t)), S) hS hP hx hb hr hlocks dX7_meanValue_65 (Nat.le_of_ble_eq_true rfl) (Nat.le_of_ble_eq_true rfl) hQ ⟨(msc_I (msc_0 I S) (by decide) _), fun q => absurd q c11_1, fun _ => rfl⟩
  · obtain ⟨j, hj, hdj⟩ := gfC_d c11_1
    have hl : lv_has ls 7 [(4, .int (gfC I b d t)), (0, .ref (ad 0)), (1, .int b), (2, .int (nI j)), (3, .int t)] := by rw [← hdj]; exact hl
    refine lv_aload_n hx hb dX7_meanValue_14 rfl (lv_at hl 1 rfl) ?_
    refine lv_iload_n hx hb dX7_meanValue_15 rfl (lv_at hl 2 rfl) ?_
    refine lv_iload_n hx hb dX7_meanValue_16 rfl (lv_at hl 3 rfl) ?_
    refine lv_iload_n hx hb dX7_meanValue_17 rfl (lv_at hl 4 rfl) ?_
    refine wL_call (va_runV (As := [.int b, .int (nI j), .int t]) (rest := []) ⟨hx, hb, hml, hown, hts⟩ (c_X7_sumOf l D cy ad I S H.size b j t k hk hk8 fr to hfr en hen hen6 hj) (cw_X7_168 hts rfl rfl ⟨Nat.le_of_ble_eq_true rfl, Nat.le_of_ble_eq_true rfl⟩) (preVW (ci := 7) (q0 := 0) hK hP hD rfl rfl) rfl rfl hl.1 rfl (lv_room (Nat.le_of_ble_eq_true rfl)) dX7_meanValue_18 ⟨Nat.le_of_ble_eq_true rfl, Nat.le_of_ble_eq_true rfl⟩) hP hD hS hA [0, 1, 2, 3, 4, 5, 6, 7, 8, 9, 10, 11, 12, 13, 14, 15, 16] rfl [.inr 0, .inr 1, .inr 2, .inr 3, .inr 4, .inr 5, .inr 6, .inr 7, .inr 8, .inr 9, .inr 10, .inr 11, .inr 12, .inr 13, .inr 14, .inr 15, .inr 16] (by decide) (fun u => (wM cy ad (va_up (va_up I 8 (nI (tmM S b t fr to k j en))) 9 (bI (tlM S b t fr to k j en))) (va_up S 10 u))) (fun _ => rfl) (fun _ => rfl) (fun r18_3 u18_3 H locs q18_3 hP hD hS hkp => ?_)
    obtain ⟨f2_3, rfl⟩ : ∃ z, z = u18_3 := ⟨_, rfl⟩
    have hP : va_P D clW (wM cy ad (va_up (va_up I 8 (nI (tmM S b t fr to k j en))) 9 (bI (tlM S b t fr to k j en))) (va_up S 10 f2_3)) H := hP
    have hD : va_D A (wM cy ad (va_up (va_up I 8 (nI (tmM S b t fr to k j en))) 9 (bI (tlM S b t fr to k j en))) (va_up S 10 f2_3)) := hD
    subst q18_3
    have htm := tm_le S b t fr to k j en
    refine lv_goto (tgt := 25) hx hb dX7_meanValue_21 (by decide) ?_
    refine lv_lstore (lv' := [(5, .long (tsM S b t fr to k j en)), (4, .int (gfC I b d t)), (0, .ref (ad 0)), (1, .int b), (2, .int (nI j)), (3, .int t)]) hx hb dX7_meanValue_25 hl (by decide) rfl (fun ls hl => ?_)
    refine lv_aload_n hx hb dX7_meanValue_27 rfl (lv_at hl 2 rfl) ?_
    refine lv_iload hx hb dX7_meanValue_28 (lv_at hl 1 rfl) ?_
    refine lv_if_ne (tgt := 44) hx hb dX7_meanValue_30 (by decide) (fun c => absurd c11_1 c) (fun _ => ?_)
    refine lv_aload_n hx hb dX7_meanValue_33 rfl (lv_at hl 2 rfl) ?_
    refine gf_X7_154 hx hb hts hown hK hP 0 rfl (v := .int (nI (tmM S b t fr to k j en))) rfl dX7_meanValue_34 ?_
    refine lv_if_ne (tgt := 44) hx hb dX7_meanValue_37 (by decide) (fun c37_4 => ?_) (fun c37_4 => ?_)
    · have f37_4 : (tmM S b t fr to k j en) ≠ 0 := nt_ne (a := (tmM S b t fr to k j en)) (b := 0) (by omega) (by omega) c37_4
      refine lv_iload hx hb dX7_meanValue_44 (lv_at hl 1 rfl) ?_
      refine wI_call (va_runV (As := [.int (gfC I b d t)]) (rest := []) ⟨hx, hb, hml, hown, hts⟩ (c_X7_goesOn l D cy ad (va_up (va_up I 8 (nI (tmM S b t fr to k j en))) 9 (bI (tlM S b t fr to k j en))) (va_up S 10 f2_3) H.size (gfC I b d t)) (cw_X7_71 hts rfl rfl ⟨Nat.le_of_ble_eq_true rfl, Nat.le_of_ble_eq_true rfl⟩) (preVW (ci := 7) (q0 := 0) hK hP hD rfl rfl) rfl rfl hl.1 rfl (lv_room (Nat.le_of_ble_eq_true rfl)) dX7_meanValue_46 ⟨Nat.le_of_ble_eq_true rfl, Nat.le_of_ble_eq_true rfl⟩) hP hD hS hA [0, 1, 2, 3, 4, 5, 6, 7, 8, 9, 10, 11, 12, 13, 14, 15, 16] rfl [.inr 0, .inr 1, .inr 2, .inr 3, .inr 4, .inr 5, .inr 6, .inr 7, .inr 8, .inr 9, .inr 10, .inr 11, .inr 12, .inr 13, .inr 14, .inr 15, .inr 16] (by decide) (fun u => (wM cy ad (va_up (va_up (va_up I 8 (nI (tmM S b t fr to k j en))) 9 (bI (tlM S b t fr to k j en))) 0 (gfC I b d t)) (va_up S 10 f2_3))) (fun _ => rfl) (fun _ => rfl) (fun r46_5 u46_5 H locs q46_5 hP hD hS hkp => ?_)
      have hP : va_P D clW (wM cy ad (va_up (va_up (va_up I 8 (nI (tmM S b t fr to k j en))) 9 (bI (tlM S b t fr to k j en))) 0 (gfC I b d t)) (va_up S 10 f2_3)) H := hP
      have hD : va_D A (wM cy ad (va_up (va_up (va_up I 8 (nI (tmM S b t fr to k j en))) 9 (bI (tlM S b t fr to k j en))) 0 (gfC I b d t)) (va_up S 10 f2_3)) := hD
      rw [if_pos c11_1] at q46_5
      subst q46_5
      refine lv_if_eq (tgt := 64) hx hb dX7_meanValue_49 (by decide) (fun c => absurd c (by decide)) (fun _ => ?_)
      refine lv_lload hx hb dX7_meanValue_52 (lv_at hl 0 rfl) ?_
      refine lv_l2d hx hb dX7_meanValue_54 ?_
      refine lv_aload_n hx hb dX7_meanValue_55 rfl (lv_at hl 2 rfl) ?_
      refine gf_X7_154 hx hb hts hown hK hP 0 rfl (v := .int (nI (tmM S b t fr to k j en))) rfl dX7_meanValue_56 ?_
      refine lv_i2d hx hb dX7_meanValue_59 ?_
      refine lv_ddiv hx hb dX7_meanValue_60 (dv_ok _ (by omega) (by omega)) ?_
      refine lv_goto (tgt := 65) hx hb dX7_meanValue_61 (by decide) ?_
      exact wD_ret ((va_up (va_up (va_up I 8 (nI (tmM S b t fr to k j en))) 9 (bI (tlM S b t fr to k j en))) 0 (gfC I b d t)), (va_up S 10 f2_3)) hS hP hx hb hr hlocks dX7_meanValue_65 (Nat.le_of_ble_eq_true rfl) (Nat.le_of_ble_eq_true rfl) hQ ⟨(msc_S (msc_I (msc_I (msc_I (msc_0 I S) (by decide) _) (by decide) _) (by decide) _) (by decide) _), fun _ => Or.inr ⟨by rw [hdj, nI_clamp (by omega)]; exact f37_4, c11_1, by rw [hdj, nI_clamp (by omega)]⟩, fun q => absurd c11_1 q⟩
    · have f37_4 : (tmM S b t fr to k j en) = 0 := nt_eq (a := (tmM S b t fr to k j en)) (b := 0) (by omega) (by omega) c37_4
      refine lv_iconst (v := 4) hx hb dX7_meanValue_40 (by decide) ?_
      refine lv_goto (tgt := 46) hx hb dX7_meanValue_41 (by decide) ?_
      refine wI_call (va_runV (As := [.int 4]) (rest := []) ⟨hx, hb, hml, hown, hts⟩ (c_X7_goesOn l D cy ad (va_up (va_up I 8 (nI (tmM S b t fr to k j en))) 9 (bI (tlM S b t fr to k j en))) (va_up S 10 f2_3) H.size 4) (cw_X7_71 hts rfl rfl ⟨Nat.le_of_ble_eq_true rfl, Nat.le_of_ble_eq_true rfl⟩) (preVW (ci := 7) (q0 := 0) hK hP hD rfl rfl) rfl rfl hl.1 rfl (lv_room (Nat.le_of_ble_eq_true rfl)) dX7_meanValue_46 ⟨Nat.le_of_ble_eq_true rfl, Nat.le_of_ble_eq_true rfl⟩) hP hD hS hA [0, 1, 2, 3, 4, 5, 6, 7, 8, 9, 10, 11, 12, 13, 14, 15, 16] rfl [.inr 0, .inr 1, .inr 2, .inr 3, .inr 4, .inr 5, .inr 6, .inr 7, .inr 8, .inr 9, .inr 10, .inr 11, .inr 12, .inr 13, .inr 14, .inr 15, .inr 16] (by decide) (fun u => (wM cy ad (va_up (va_up (va_up I 8 (nI (tmM S b t fr to k j en))) 9 (bI (tlM S b t fr to k j en))) 0 4) (va_up S 10 f2_3))) (fun _ => rfl) (fun _ => rfl) (fun r46_6 u46_6 H locs q46_6 hP hD hS hkp => ?_)
      have hP : va_P D clW (wM cy ad (va_up (va_up (va_up I 8 (nI (tmM S b t fr to k j en))) 9 (bI (tlM S b t fr to k j en))) 0 4) (va_up S 10 f2_3)) H := hP
      have hD : va_D A (wM cy ad (va_up (va_up (va_up I 8 (nI (tmM S b t fr to k j en))) 9 (bI (tlM S b t fr to k j en))) 0 4) (va_up S 10 f2_3)) := hD
      rw [if_neg (by decide)] at q46_6
      subst q46_6
      refine lv_if_eq (tgt := 64) hx hb dX7_meanValue_49 (by decide) (fun _ => ?_) (fun c => absurd (by decide) c)
      refine lv_dconst0 hx hb dX7_meanValue_64 ?_
      exact wD_ret ((va_up (va_up (va_up I 8 (nI (tmM S b t fr to k j en))) 9 (bI (tlM S b t fr to k j en))) 0 4), (va_up S 10 f2_3)) hS hP hx hb hr hlocks dX7_meanValue_65 (Nat.le_of_ble_eq_true rfl) (Nat.le_of_ble_eq_true rfl) hQ ⟨(msc_S (msc_I (msc_I (msc_I (msc_0 I S) (by decide) _) (by decide) _) (by decide) _) (by decide) _), fun _ => Or.inl ⟨by rw [hdj, nI_clamp (by omega)]; exact f37_4, rfl⟩, fun q => absurd c11_1 q⟩
