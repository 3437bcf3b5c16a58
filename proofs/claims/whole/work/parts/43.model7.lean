theorem gf_X7_54 {p : Program} {l : Launch} {e : Env} {R : Room} {s : State} {m : MethodId} {args : Array Value} {below : List Frame} {meth : Method} {c : Code} {H : Heap} {locs : List Loc} {cells slots : Nat} {Q : State → Prop} {cc : ByteArray} {pc : Nat} {ls : Array Slot} {rest : List Value} {D : va_G} {cy : Nat → ClassId} {a : Nat} {ws : va_W} (hx : p.tables.exec = Jvm.exec) (hb : c.code = cc) (hts : ∀ w ∈ wsL_law, w.before args s = true) (hown : s.vm.findClass RX7 = some m.cls) (hK : va_K D clW (tyW cy) s) (hP : va_P D clW ws H) (q0 : Nat) {fs : List Value} (he : ws[q0]? = some (a, .inr (7, fs))) {v : Value} (hv : fs[24]? = some v) (hdg : decode cc pc = .ok (.getfield 54, 3)) (kk : W p l e R s m args below meth c H locs cells slots Q (F0 m (pc + 3) ls (v :: rest))) : W p l e R s m args below meth c H locs cells slots Q (F0 m pc ls (.ref a :: rest)) := va_get (own := RX7) (ref := RX7) (C := RX7) (T := TX7) (N := 27) (ci := 7) hx hb hts inlX7 hown hK hP q0 he rfl 24 (by decide) (hts _ wm_104) (fun _ h => h) hv hdg kk
theorem gf_X7_57 {p : Program} {l : Launch} {e : Env} {R : Room} {s : State} {m : MethodId} {args : Array Value} {below : List Frame} {meth : Method} {c : Code} {H : Heap} {locs : List Loc} {cells slots : Nat} {Q : State → Prop} {cc : ByteArray} {pc : Nat} {ls : Array Slot} {rest : List Value} {D : va_G} {cy : Nat → ClassId} {a : Nat} {ws : va_W} (hx : p.tables.exec = Jvm.exec) (hb : c.code = cc) (hts : ∀ w ∈ wsL_law, w.before args s = true) (hown : s.vm.findClass RX7 = some m.cls) (hK : va_K D clW (tyW cy) s) (hP : va_P D clW ws H) (q0 : Nat) {fs : List Value} (he : ws[q0]? = some (a, .inr (7, fs))) {v : Value} (hv : fs[25]? = some v) (hdg : decode cc pc = .ok (.getfield 57, 3)) (kk : W p l e R s m args below meth c H locs cells slots Q (F0 m (pc + 3) ls (v :: rest))) : W p l e R s m args below meth c H locs cells slots Q (F0 m pc ls (.ref a :: rest)) := va_get (own := RX7) (ref := RX7) (C := RX7) (T := TX7) (N := 27) (ci := 7) hx hb hts inlX7 hown hK hP q0 he rfl 25 (by decide) (hts _ wm_105) (fun _ h => h) hv hdg kk
theorem gf_X7_180 {p : Program} {l : Launch} {e : Env} {R : Room} {s : State} {m : MethodId} {args : Array Value} {below : List Frame} {meth : Method} {c : Code} {H : Heap} {locs : List Loc} {cells slots : Nat} {Q : State → Prop} {cc : ByteArray} {pc : Nat} {ls : Array Slot} {rest : List Value} {D : va_G} {cy : Nat → ClassId} {a : Nat} {ws : va_W} (hx : p.tables.exec = Jvm.exec) (hb : c.code = cc) (hts : ∀ w ∈ wsL_law, w.before args s = true) (hown : s.vm.findClass RX7 = some m.cls) (hK : va_K D clW (tyW cy) s) (hP : va_P D clW ws H) (q0 : Nat) {fs : List Value} (he : ws[q0]? = some (a, .inr (7, fs))) {v : Value} (hv : fs[26]? = some v) (hdg : decode cc pc = .ok (.getfield 180, 3)) (kk : W p l e R s m args below meth c H locs cells slots Q (F0 m (pc + 3) ls (v :: rest))) : W p l e R s m args below meth c H locs cells slots Q (F0 m pc ls (.ref a :: rest)) := va_get (own := RX7) (ref := RX7) (C := RX7) (T := TX7) (N := 27) (ci := 7) hx hb hts inlX7 hown hK hP q0 he rfl 26 (by decide) (hts _ wm_876) (fun _ h => h) hv hdg kk
theorem pf_X7_180 {p : Program} {l : Launch} {e : Env} {R : Room} {s : State} {m : MethodId} {args : Array Value} {below : List Frame} {meth : Method} {c : Code} {H : Heap} {locs : List Loc} {cells slots : Nat} {Q : State → Prop} {cc : ByteArray} {pc : Nat} {ls : Array Slot} {rest : List Value} {D : va_G} {cy : Nat → ClassId} {a : Nat} {ws : va_W} {A : Nat → Prop} {H0 : Heap} (hx : p.tables.exec = Jvm.exec) (hb : c.code = cc) (hts : ∀ w ∈ wsL_law, w.before args s = true) (hown : s.vm.findClass RX7 = some m.cls) (hK : va_K D clW (tyW cy) s) (hP : va_P D clW ws H) (hD : va_D A ws) (hS : va_S A H0 H locs) (q0 : Nat) {fs : List Value} (he : ws[q0]? = some (a, .inr (7, fs))) {x : Int32} (hl : 26 < fs.length) (hdg : decode cc pc = .ok (.putfield 180, 3)) (kk : ∀ (H1 : Heap) (locs1 : List Loc), va_P D clW (ws.set q0 (a, .inr (7, fs.set 26 (.int x)))) H1 → va_D A (ws.set q0 (a, .inr (7, fs.set 26 (.int x)))) → va_S A H0 H1 locs1 → W p l e R s m args below meth c H1 locs1 cells slots Q (F0 m (pc + 3) ls rest)) : W p l e R s m args below meth c H locs cells slots Q (F0 m pc ls (.int x :: .ref a :: rest)) := va_put (own := RX7) (ref := RX7) (C := RX7) (T := TX7) (N := 27) (ci := 7) (ty := .int) hx hb hts inlX7 tyX7 tyX7_ok nmX7 hown hK hP hD hS q0 he rfl 26 (by decide) (hts _ wm_876) (fun _ h => h) rfl (by decide +kernel) rfl rfl hl hdg kk
theorem cw_X7_183 {R : Room} {s : State} {args : Array Value} {rm : Room} {mc ms : Nat} (hts : ∀ w ∈ wsL_law, w.before args s = true) (hrc : rm.cells = mc) (hrs : rm.slots = ms) (hR : rm.frames + 1 ≤ R.frames ∧ 8 + (8 + 11) + rm.locals ≤ R.locals) : CallW R s args RX7 RX7 183 yX7_findsVersions cX7_findsVersions 8 (some .boolean) (Cond.code yX7_findsVersions cX7_findsVersions 8 (some .boolean) :: wsL_law) rm mc ms 3 := cwV 3 hts (gUV wm_877 wm_878 wm_879 wm_5 wm_880) rfl hrc hrs (by decide +kernel) hR
theorem cw_X7_186 {R : Room} {s : State} {args : Array Value} {rm : Room} {mc ms : Nat} (hts : ∀ w ∈ wsL_law, w.before args s = true) (hrc : rm.cells = mc) (hrs : rm.slots = ms) (hR : rm.frames + 1 ≤ R.frames ∧ 8 + (5 + 11) + rm.locals ≤ R.locals) : CallW R s args RX7 RX7 186 yX7_findsVersion cX7_findsVersion 5 (some .boolean) (Cond.code yX7_findsVersion cX7_findsVersion 5 (some .boolean) :: wsL_law) rm mc ms 4 := cwV 4 hts (gUV wm_900 wm_901 wm_902 wm_5 wm_903) rfl hrc hrs (by decide +kernel) hR
set_option maxHeartbeats 4000000 in
set_option maxRecDepth 100000 in
theorem c_X7_findsVersions (l : Launch) (D : va_G) (cy : Nat → ClassId) (ad : Nat → Nat) (I : AI) (S : AS) (sz : Nat) (x : Int32) (b : Int32) (d : Int32) (k : Nat) (hk : I 3 = nI k) (hk8 : k ≤ 256) (fr : Nat → Nat) (to : Nat → Nat) (hfr : ∀ i : Nat, i < k → S 5 i = nI (fr i) ∧ S 6 i = nI (to i) ∧ fr i ≤ to i ∧ to i ≤ 100) (n : Nat) (hn : I 2 = nI n) (hn6 : n ≤ 60) (h : Nat) (hh : I 5 = nI h) (hhn : h ≤ n) : Met l yX7_findsVersions (Cond.code yX7_findsVersions cX7_findsVersions 8 (some .boolean) :: wsL_law) ({ frames := 2, cells := 0, slots := 0, locals := 49 }) (va_Pc [.ref (ad 0), .int x, .int b, .int d] (wrB D cy (wM cy ad I S) sz)) (va_Qi (S := AI × AS) (fun r u => (qmC I x b d = 0 ∧ r = 1 ∧ ∃ (f1 : Nat → Int32) (j : Nat), j < 100 ∧ d = nI j ∧ u.1 = (va_up (va_up I 0 0) 10 (nI (vmQ S (slM x b) fr to k j h n).1)) ∧ u.2 = (va_up (va_up (va_up S 10 f1) 15 (vmQ S (slM x b) fr to k j h n).2.1) 16 (vmQ S (slM x b) fr to k j h n).2.2)) ∨ (¬ qmC I x b d = 0 ∧ r = 0 ∧ u.1 = (va_up I 0 (qmC I x b d)) ∧ S = u.2)) (fun u t9 => va_P D clW (wM cy ad u.1 u.2) t9.heap) (va_A (wM cy ad I S) sz)) 0 0 (va_A (wM cy ad I S) sz) := by
  refine enter (cc := cX7_findsVersions) (by decide) (Nat.le_of_ble_eq_true rfl) ?_
  intro p e s m below meth c hx hb hr hml hown hts hlocks hin hv Q hQ ls hl
  obtain ⟨hsz, hP, hK, hD0⟩ := hv
  subst hsz
  have hD := hD0.self (sz := s.heap.size)
  generalize hAe : va_A (wM cy ad I S) s.heap.size = A at hD hQ ⊢
  have hA : ∀ q : Nat, s.heap.size ≤ q → A q := fun q h => by rw [← hAe]; exact Or.inr h
  have hS : va_S A s.heap s.heap [] := va_S.rf
  suffices K_ : ∀ (H : Heap) (locs : List Loc), va_P D clW (wM cy ad I S) H → va_S A s.heap H locs → W p l e ({ frames := 2, cells := 0, slots := 0, locals := 49 }) s m ([.ref (ad 0), .int x, .int b, .int d] : List Value).toArray below meth c H locs 0 0 Q (F0 m 0 ls []) from K_ _ _ hP hS
  clear hP hS
  intro H locs hP hS
  have hown : s.vm.findClass RX7 = some m.cls := hown
  have hl : lv_has ls 8 [(0, .ref (ad 0)), (1, .int x), (2, .int b), (3, .int d)] := hl
  refine lv_aload_n hx hb dX7_findsVersions_0 rfl (lv_at hl 0 rfl) ?_
  refine lv_aload_n hx hb dX7_findsVersions_1 rfl (lv_at hl 0 rfl) ?_
  refine lv_iload_n hx hb dX7_findsVersions_2 rfl (lv_at hl 1 rfl) ?_
  refine lv_iload_n hx hb dX7_findsVersions_3 rfl (lv_at hl 2 rfl) ?_
  refine rZ_call (P := mplB ((I 1)) x b = true) (va_runV (As := [.int x, .int b]) (rest := [.ref (ad 0)]) ⟨hx, hb, hml, hown, hts⟩ (c_X7_isPlace l D cy ad I S x b) (cw_X7_92 hts rfl rfl ⟨Nat.le_of_ble_eq_true rfl, Nat.le_of_ble_eq_true rfl⟩) (preVR (ci := 7) (q0 := 0) hK hP rfl rfl) rfl rfl hl.1 rfl (lv_room (Nat.le_of_ble_eq_true rfl)) dX7_findsVersions_4 ⟨Nat.le_of_ble_eq_true rfl, Nat.le_of_ble_eq_true rfl⟩) (fun b4_1 => ?_) (fun b4_1 => ?_)
  · refine lv_if_ne (tgt := 14) hx hb dX7_findsVersions_7 (by decide) (fun _ => ?_) (fun c => absurd c (by decide))
    refine lv_iload_n hx hb dX7_findsVersions_14 rfl (lv_at hl 3 rfl) ?_
    refine lv_iconst (v := 0) hx hb dX7_findsVersions_15 (by decide) ?_
    refine lv_bipush (v := 99) hx hb dX7_findsVersions_16 (by decide) ?_
    refine rZ_call (P := inB d 0 99 = true) (va_runS (As := [.int d, .int 0, .int 99]) (rest := [.ref (ad 0)]) ⟨hx, hb, hml, hown, hts⟩ (c_X7_in l D cy d 0 99) (cw_X7_67 hts rfl rfl ⟨Nat.le_of_ble_eq_true rfl, Nat.le_of_ble_eq_true rfl⟩) (preSR hK (hP.sub [] rfl)) rfl rfl hl.1 rfl (lv_room (Nat.le_of_ble_eq_true rfl)) dX7_findsVersions_18 ⟨Nat.le_of_ble_eq_true rfl, Nat.le_of_ble_eq_true rfl⟩) (fun b18_2 => ?_) (fun b18_2 => ?_)
    · obtain ⟨j, hj, hdj⟩ := in_100 b18_2
      refine lv_if_ne (tgt := 28) hx hb dX7_findsVersions_21 (by decide) (fun _ => ?_) (fun c => absurd c (by decide))
      refine lv_iconst (v := 0) hx hb dX7_findsVersions_28 (by decide) ?_
      refine wI_call (va_runV (As := [.int 0]) (rest := []) ⟨hx, hb, hml, hown, hts⟩ (c_X7_goesOn l D cy ad I S H.size 0) (cw_X7_71 hts rfl rfl ⟨Nat.le_of_ble_eq_true rfl, Nat.le_of_ble_eq_true rfl⟩) (preVW (ci := 7) (q0 := 0) hK hP hD rfl rfl) rfl rfl hl.1 rfl (lv_room (Nat.le_of_ble_eq_true rfl)) dX7_findsVersions_29 ⟨Nat.le_of_ble_eq_true rfl, Nat.le_of_ble_eq_true rfl⟩) hP hD hS hA [0, 1, 2, 3, 4, 5, 6, 7, 8, 9, 10, 11, 12, 13, 14, 15, 16] rfl [.inr 0, .inr 1, .inr 2, .inr 3, .inr 4, .inr 5, .inr 6, .inr 7, .inr 8, .inr 9, .inr 10, .inr 11, .inr 12, .inr 13, .inr 14, .inr 15, .inr 16] (by decide) (fun u => (wM cy ad (va_up I 0 0) S)) (fun _ => rfl) (fun _ => rfl) (fun r29_3 u29_3 H locs q29_3 hP hD hS hkp => ?_)
      have hP : va_P D clW (wM cy ad (va_up I 0 0) S) H := hP
      have hD : va_D A (wM cy ad (va_up I 0 0) S) := hD
      rw [if_pos rfl] at q29_3
      subst q29_3
      refine lv_if_ne (tgt := 37) hx hb dX7_findsVersions_32 (by decide) (fun _ => ?_) (fun c => absurd c (by decide))
      have hl : lv_has ls 8 [(0, .ref (ad 0)), (1, .int x), (2, .int b), (3, .int (nI j))] := by rw [← hdj]; exact hl
      refine lv_aload_n hx hb dX7_findsVersions_37 rfl (lv_at hl 0 rfl) ?_
      refine lv_iconst (v := 0) hx hb dX7_findsVersions_38 (by decide) ?_
      refine pf_X7_180 hx hb hts hown hK hP hD hS 0 rfl (Nat.le_of_ble_eq_true rfl) dX7_findsVersions_39 (fun H locs hP hD hS => ?_)
      have hP : va_P D clW (wM cy ad (va_up (va_up I 0 0) 10 0) S) H := hP
      have hD : va_D A (wM cy ad (va_up (va_up I 0 0) 10 0) S) := hD
      refine lv_aload_n hx hb dX7_findsVersions_42 rfl (lv_at hl 0 rfl) ?_
      refine gf_X7_121 hx hb hts hown hK hP 0 rfl (v := .int (I 5)) rfl dX7_findsVersions_43 ?_
      refine top_eq hh ?_
      refine lv_istore (lv' := [(4, .int (nI h)), (0, .ref (ad 0)), (1, .int x), (2, .int b), (3, .int (nI j))]) hx hb dX7_findsVersions_46 hl (by decide) rfl (fun ls hl => ?_)
      have L48 : ∀ (n_48 i : Nat) (f1 : Nat → Int32), i ≤ (n + 1 - h) → (n + 1 - h) + 1 ≤ i + n_48 → ∀ (H : Heap) (locs : List Loc), va_P D clW (wM cy ad (va_up (va_up I 0 0) 10 (nI (vmR (S 4) (fvG S (slM x b) fr to k j) h (S 15) (S 16) i).1)) (va_up (va_up (va_up S 10 f1) 15 (vmR (S 4) (fvG S (slM x b) fr to k j) h (S 15) (S 16) i).2.1) 16 (vmR (S 4) (fvG S (slM x b) fr to k j) h (S 15) (S 16) i).2.2)) H → va_D A (wM cy ad (va_up (va_up I 0 0) 10 (nI (vmR (S 4) (fvG S (slM x b) fr to k j) h (S 15) (S 16) i).1)) (va_up (va_up (va_up S 10 f1) 15 (vmR (S 4) (fvG S (slM x b) fr to k j) h (S 15) (S 16) i).2.1) 16 (vmR (S 4) (fvG S (slM x b) fr to k j) h (S 15) (S 16) i).2.2)) → va_S A s.heap H locs → ∀ (ls : Array Slot), lv_has ls 8 [(4, .int (nI (h + i))), (0, .ref (ad 0)), (1, .int x), (2, .int b), (3, .int (nI j))] → W p l e { frames := 2, cells := 0, slots := 0, locals := 49 } s m ([.ref (ad 0), .int x, .int b, .int d] : List Value).toArray below meth c H locs 0 0 Q (F0 m 48 ls []) := by
        clear hl
        intro n_48
        induction n_48 with
        | zero => intro i f1 hle_48 hn_48; exact absurd hn_48 (by omega)
        | succ n_48 ih48 =>
          intro i f1 hle_48 hn_48  H locs hP hD hS ls hl
          have hvl := vmR_le (S 4) (fvG S (slM x b) fr to k j) h (S 15) (S 16) i
          refine lv_iload hx hb dX7_findsVersions_48 (lv_at hl 0 rfl) ?_
          refine lv_aload_n hx hb dX7_findsVersions_50 rfl (lv_at hl 1 rfl) ?_
          refine gf_X7_78 hx hb hts hown hK hP 0 rfl (v := .int (I 2)) rfl dX7_findsVersions_51 ?_
          refine top_eq hn ?_
          refine lv_icmp_gt (tgt := 200) hx hb dX7_findsVersions_54 (by decide) (fun c54_4 => ?_) (fun c54_4 => ?_)
          · have f54 : n < h + i := nt_lt (a := n) (b := h + i) (by omega) (by omega) c54_4
            have ei : n + 1 - h = i := by omega
            rw [← ei] at hP hD
            refine lv_iconst (v := 1) hx hb dX7_findsVersions_200 (by decide) ?_
            exact wZ_ret ((va_up (va_up I 0 0) 10 (nI (vmQ S (slM x b) fr to k j h n).1)), (va_up (va_up (va_up S 10 f1) 15 (vmQ S (slM x b) fr to k j h n).2.1) 16 (vmQ S (slM x b) fr to k j h n).2.2)) hS hP hx hb hr hlocks dX7_findsVersions_201 narZ1 (Nat.le_of_ble_eq_true rfl) (Nat.le_of_ble_eq_true rfl) hQ (Or.inl ⟨(by simp [qmC, b4_1, b18_2]), rfl, f1, j, hj, hdj, rfl, rfl⟩)
          · have f54_4 : (h + i) ≤ n := nt_nlt (a := n) (b := (h + i)) (by omega) (by omega) c54_4
            refine lv_aload_n hx hb dX7_findsVersions_57 rfl (lv_at hl 1 rfl) ?_
            refine lv_iload_n hx hb dX7_findsVersions_58 rfl (lv_at hl 2 rfl) ?_
            refine lv_iload_n hx hb dX7_findsVersions_59 rfl (lv_at hl 3 rfl) ?_
            refine rI_call (va_runS (As := [.int x, .int b]) (rest := [.ref (ad 0)]) ⟨hx, hb, hml, hown, hts⟩ (c_X7_placeOf l D cy x b) (cw_X7_103 hts rfl rfl ⟨Nat.le_of_ble_eq_true rfl, Nat.le_of_ble_eq_true rfl⟩) (preSR hK (hP.sub [] rfl)) rfl rfl hl.1 rfl (lv_room (Nat.le_of_ble_eq_true rfl)) dX7_findsVersions_60 ⟨Nat.le_of_ble_eq_true rfl, Nat.le_of_ble_eq_true rfl⟩) (fun r hr_ => ?_)
            subst hr_
            refine lv_iload_n hx hb dX7_findsVersions_63 rfl (lv_at hl 4 rfl) ?_
            refine lv_iload hx hb dX7_findsVersions_64 (lv_at hl 0 rfl) ?_
            refine wI_call (va_runV (As := [.int (slM x b), .int (nI j), .int (nI (h + i))]) (rest := []) ⟨hx, hb, hml, hown, hts⟩ (c_X7_factOn l D cy ad (va_up (va_up I 0 0) 10 (nI (vmR (S 4) (fvG S (slM x b) fr to k j) h (S 15) (S 16) i).1)) (va_up (va_up (va_up S 10 f1) 15 (vmR (S 4) (fvG S (slM x b) fr to k j) h (S 15) (S 16) i).2.1) 16 (vmR (S 4) (fvG S (slM x b) fr to k j) h (S 15) (S 16) i).2.2) H.size (slM x b) j (nI (h + i)) k hk hk8 fr to hfr hj) (cw_X7_127 hts rfl rfl ⟨Nat.le_of_ble_eq_true rfl, Nat.le_of_ble_eq_true rfl⟩) (preVW (ci := 7) (q0 := 0) hK hP hD rfl rfl) rfl rfl hl.1 rfl (lv_room (Nat.le_of_ble_eq_true rfl)) dX7_findsVersions_66 ⟨Nat.le_of_ble_eq_true rfl, Nat.le_of_ble_eq_true rfl⟩) hP hD hS hA [0, 1, 2, 3, 4, 5, 6, 7, 8, 9, 10, 11, 12, 13, 14, 15, 16] rfl [.inr 0, .inr 1, .inr 2, .inr 3, .inr 4, .inr 5, .inr 6, .inr 7, .inr 8, .inr 9, .inr 10, .inr 11, .inr 12, .inr 13, .inr 14, .inr 15, .inr 16] (by decide) (fun u => (wM cy ad (va_up (va_up I 0 0) 10 (nI (vmR (S 4) (fvG S (slM x b) fr to k j) h (S 15) (S 16) i).1)) (va_up (va_up (va_up S 15 (vmR (S 4) (fvG S (slM x b) fr to k j) h (S 15) (S 16) i).2.1) 16 (vmR (S 4) (fvG S (slM x b) fr to k j) h (S 15) (S 16) i).2.2) 10 (lkN (va_up (va_up (va_up S 10 f1) 15 (vmR (S 4) (fvG S (slM x b) fr to k j) h (S 15) (S 16) i).2.1) 16 (vmR (S 4) (fvG S (slM x b) fr to k j) h (S 15) (S 16) i).2.2) (slM x b) (nI (h + i)) fr to f1 k)))) (fun _ => rfl) (fun _ => rfl) (fun r66_5 u66_5 H locs q66_5 hP hD hS hkp => ?_)
            have hP : va_P D clW (wM cy ad (va_up (va_up I 0 0) 10 (nI (vmR (S 4) (fvG S (slM x b) fr to k j) h (S 15) (S 16) i).1)) (va_up (va_up (va_up S 15 (vmR (S 4) (fvG S (slM x b) fr to k j) h (S 15) (S 16) i).2.1) 16 (vmR (S 4) (fvG S (slM x b) fr to k j) h (S 15) (S 16) i).2.2) 10 (lkN (va_up (va_up (va_up S 10 f1) 15 (vmR (S 4) (fvG S (slM x b) fr to k j) h (S 15) (S 16) i).2.1) 16 (vmR (S 4) (fvG S (slM x b) fr to k j) h (S 15) (S 16) i).2.2) (slM x b) (nI (h + i)) fr to f1 k))) H := hP
            have hD : va_D A (wM cy ad (va_up (va_up I 0 0) 10 (nI (vmR (S 4) (fvG S (slM x b) fr to k j) h (S 15) (S 16) i).1)) (va_up (va_up (va_up S 15 (vmR (S 4) (fvG S (slM x b) fr to k j) h (S 15) (S 16) i).2.1) 16 (vmR (S 4) (fvG S (slM x b) fr to k j) h (S 15) (S 16) i).2.2) 10 (lkN (va_up (va_up (va_up S 10 f1) 15 (vmR (S 4) (fvG S (slM x b) fr to k j) h (S 15) (S 16) i).2.1) 16 (vmR (S 4) (fvG S (slM x b) fr to k j) h (S 15) (S 16) i).2.2) (slM x b) (nI (h + i)) fr to f1 k))) := hD
            subst q66_5
            refine top_eq (y := fvG S (slM x b) fr to k j (h + i)) (lk_ind S _ _ fr to _ _ k j hj) ?_
            refine lv_istore (lv' := [(5, .int (fvG S (slM x b) fr to k j (h + i))), (4, .int (nI (h + i))), (0, .ref (ad 0)), (1, .int x), (2, .int b), (3, .int (nI j))]) hx hb dX7_findsVersions_69 hl (by decide) rfl (fun ls hl => ?_)
            refine lv_aload_n hx hb dX7_findsVersions_71 rfl (lv_at hl 2 rfl) ?_
            refine gf_X7_180 hx hb hts hown hK hP 0 rfl (v := .int (nI (vmR (S 4) (fvG S (slM x b) fr to k j) h (S 15) (S 16) i).1)) rfl dX7_findsVersions_72 ?_
            refine lv_if_ne (tgt := 82) hx hb dX7_findsVersions_75 (by decide) (fun c75_6 => ?_) (fun c75_6 => ?_)
            · have f75_6 : (vmR (S 4) (fvG S (slM x b) fr to k j) h (S 15) (S 16) i).1 ≠ 0 := nt_ne (a := (vmR (S 4) (fvG S (slM x b) fr to k j) h (S 15) (S 16) i).1) (b := 0) (by omega) (by omega) c75_6
              refine lv_aload_n hx hb dX7_findsVersions_82 rfl (lv_at hl 2 rfl) ?_
              refine gf_X7_57 hx hb hts hown hK hP 0 rfl (v := .ref (ad 16)) rfl dX7_findsVersions_83 ?_
              refine lv_aload_n hx hb dX7_findsVersions_86 rfl (lv_at hl 2 rfl) ?_
              refine gf_X7_180 hx hb hts hown hK hP 0 rfl (v := .int (nI (vmR (S 4) (fvG S (slM x b) fr to k j) h (S 15) (S 16) i).1)) rfl dX7_findsVersions_87 ?_
              refine lv_iconst (v := 1) hx hb dX7_findsVersions_90 (by decide) ?_
              refine lv_isub hx hb dX7_findsVersions_91 ?_
              refine top_eq (y := nI ((vmR (S 4) (fvG S (slM x b) fr to k j) h (S 15) (S 16) i).1 - 1)) (pk_sub (a := (vmR (S 4) (fvG S (slM x b) fr to k j) h (S 15) (S 16) i).1) (b := 1) (by omega)) ?_
              refine ald_I (f := (vmR (S 4) (fvG S (slM x b) fr to k j) h (S 15) (S 16) i).2.2) hx hb hK hP 16 rfl (i := ((vmR (S 4) (fvG S (slM x b) fr to k j) h (S 15) (S 16) i).1 - 1)) (by omega) (by decide) dX7_findsVersions_92 ?_
              refine lv_istore (lv' := [(6, .int ((vmR (S 4) (fvG S (slM x b) fr to k j) h (S 15) (S 16) i).2.2 ((vmR (S 4) (fvG S (slM x b) fr to k j) h (S 15) (S 16) i).1 - 1))), (5, .int (fvG S (slM x b) fr to k j (h + i))), (4, .int (nI (h + i))), (0, .ref (ad 0)), (1, .int x), (2, .int b), (3, .int (nI j))]) hx hb dX7_findsVersions_93 hl (by decide) rfl (fun ls hl => ?_)
              have elm : lastM (vmR (S 4) (fvG S (slM x b) fr to k j) h (S 15) (S 16) i) = ((vmR (S 4) (fvG S (slM x b) fr to k j) h (S 15) (S 16) i).2.2 ((vmR (S 4) (fvG S (slM x b) fr to k j) h (S 15) (S 16) i).1 - 1)) := if_neg f75_6
              have hl : lv_has ls 8 [(6, .int (lastM (vmR (S 4) (fvG S (slM x b) fr to k j) h (S 15) (S 16) i))), (5, .int (fvG S (slM x b) fr to k j (h + i))), (4, .int (nI (h + i))), (0, .ref (ad 0)), (1, .int x), (2, .int b), (3, .int (nI j))] := by rw [elm]; exact hl
              refine lv_aload_n hx hb dX7_findsVersions_95 rfl (lv_at hl 3 rfl) ?_
              refine gf_X7_180 hx hb hts hown hK hP 0 rfl (v := .int (nI (vmR (S 4) (fvG S (slM x b) fr to k j) h (S 15) (S 16) i).1)) rfl dX7_findsVersions_96 ?_
              refine lv_if_le (tgt := 154) hx hb dX7_findsVersions_99 (by decide) (fun c => absurd c (nd_nle (a := (vmR (S 4) (fvG S (slM x b) fr to k j) h (S 15) (S 16) i).1) (b := 0) (by omega) (by omega) (by omega))) (fun _ => ?_)
              refine lv_iload hx hb dX7_findsVersions_102 (lv_at hl 1 rfl) ?_
              refine lv_iconst (v := (-1)) hx hb dX7_findsVersions_104 (by decide) ?_
              refine lv_icmp_ne (tgt := 112) hx hb dX7_findsVersions_105 (by decide) (fun c105_7 => ?_) (fun c105_7 => ?_)
              · refine lv_iconst (v := 0) hx hb dX7_findsVersions_112 (by decide) ?_
                refine lv_iload hx hb dX7_findsVersions_113 (lv_at hl 0 rfl) ?_
                refine lv_iconst (v := (-1)) hx hb dX7_findsVersions_115 (by decide) ?_
                refine lv_icmp_ne (tgt := 123) hx hb dX7_findsVersions_116 (by decide) (fun c116_8 => ?_) (fun c116_8 => ?_)
                · refine lv_iconst (v := 0) hx hb dX7_findsVersions_123 (by decide) ?_
                  refine lv_icmp_ne (tgt := 154) hx hb dX7_findsVersions_124 (by decide) (fun c => absurd (by decide) c) (fun _ => ?_)
                  refine lv_iload hx hb dX7_findsVersions_127 (lv_at hl 1 rfl) ?_
                  refine lv_iconst (v := (-1)) hx hb dX7_findsVersions_129 (by decide) ?_
                  refine lv_icmp_eq (tgt := 150) hx hb dX7_findsVersions_130 (by decide) (fun c => absurd c c105_7) (fun _ => ?_)
                  refine lv_aload_n hx hb dX7_findsVersions_133 rfl (lv_at hl 3 rfl) ?_
                  refine gf_X7_20 hx hb hts hown hK hP 0 rfl (v := .ref (ad 4)) rfl dX7_findsVersions_134 ?_
                  refine lv_iload hx hb dX7_findsVersions_137 (lv_at hl 1 rfl) ?_
                  refine ald_Ix (f := (S 4)) hx hb hK hP 4 rfl (row_in (lk_row S (slM x b) (nI (h + i)) fr to (S 10) k) hk8 (by decide) hj c105_7) dX7_findsVersions_139 ?_
                  refine lv_aload_n hx hb dX7_findsVersions_140 rfl (lv_at hl 3 rfl) ?_
                  refine gf_X7_20 hx hb hts hown hK hP 0 rfl (v := .ref (ad 4)) rfl dX7_findsVersions_141 ?_
                  refine lv_iload hx hb dX7_findsVersions_144 (lv_at hl 0 rfl) ?_
                  refine ald_Ix (f := (S 4)) hx hb hK hP 4 rfl (lastM_in (vmR_row (fvG_row S (slM x b) fr to k hj) i) hk8 (by decide) c116_8) dX7_findsVersions_146 ?_
                  refine lv_icmp_ne (tgt := 154) hx hb dX7_findsVersions_147 (by decide) (fun c147_9 => ?_) (fun c147_9 => ?_)
                  · refine lv_iconst (v := 0) hx hb dX7_findsVersions_154 (by decide) ?_
                    refine lv_istore (lv' := [(7, .int 0), (6, .int (lastM (vmR (S 4) (fvG S (slM x b) fr to k j) h (S 15) (S 16) i))), (5, .int (fvG S (slM x b) fr to k j (h + i))), (4, .int (nI (h + i))), (0, .ref (ad 0)), (1, .int x), (2, .int b), (3, .int (nI j))]) hx hb dX7_findsVersions_155 hl (by decide) rfl (fun ls hl => ?_)
                    refine lv_iload hx hb dX7_findsVersions_157 (lv_at hl 0 rfl) ?_
                    refine lv_if_ne (tgt := 194) hx hb dX7_findsVersions_159 (by decide) (fun c => absurd (by decide) c) (fun _ => ?_)
                    refine lv_aload_n hx hb dX7_findsVersions_162 rfl (lv_at hl 4 rfl) ?_
                    refine gf_X7_54 hx hb hts hown hK hP 0 rfl (v := .ref (ad 15)) rfl dX7_findsVersions_163 ?_
                    refine lv_aload_n hx hb dX7_findsVersions_166 rfl (lv_at hl 4 rfl) ?_
                    refine gf_X7_180 hx hb hts hown hK hP 0 rfl (v := .int (nI (vmR (S 4) (fvG S (slM x b) fr to k j) h (S 15) (S 16) i).1)) rfl dX7_findsVersions_167 ?_
                    refine lv_iload hx hb dX7_findsVersions_170 (lv_at hl 3 rfl) ?_
                    refine ast_I hx hb hK hP hD hS 15 rfl (i := (vmR (S 4) (fvG S (slM x b) fr to k j) h (S 15) (S 16) i).1) (x := (nI (h + i))) (by omega) (by decide) dX7_findsVersions_172 (fun H locs hP hD hS => ?_)
                    have hP : va_P D clW (wM cy ad (va_up (va_up I 0 0) 10 (nI (vmR (S 4) (fvG S (slM x b) fr to k j) h (S 15) (S 16) i).1)) (va_up (va_up (va_up S 16 (vmR (S 4) (fvG S (slM x b) fr to k j) h (S 15) (S 16) i).2.2) 10 (lkN (va_up (va_up (va_up S 10 f1) 15 (vmR (S 4) (fvG S (slM x b) fr to k j) h (S 15) (S 16) i).2.1) 16 (vmR (S 4) (fvG S (slM x b) fr to k j) h (S 15) (S 16) i).2.2) (slM x b) (nI (h + i)) fr to f1 k)) 15 (upd (vmR (S 4) (fvG S (slM x b) fr to k j) h (S 15) (S 16) i).2.1 (vmR (S 4) (fvG S (slM x b) fr to k j) h (S 15) (S 16) i).1 (nI (h + i))))) H := hP
                    have hD : va_D A (wM cy ad (va_up (va_up I 0 0) 10 (nI (vmR (S 4) (fvG S (slM x b) fr to k j) h (S 15) (S 16) i).1)) (va_up (va_up (va_up S 16 (vmR (S 4) (fvG S (slM x b) fr to k j) h (S 15) (S 16) i).2.2) 10 (lkN (va_up (va_up (va_up S 10 f1) 15 (vmR (S 4) (fvG S (slM x b) fr to k j) h (S 15) (S 16) i).2.1) 16 (vmR (S 4) (fvG S (slM x b) fr to k j) h (S 15) (S 16) i).2.2) (slM x b) (nI (h + i)) fr to f1 k)) 15 (upd (vmR (S 4) (fvG S (slM x b) fr to k j) h (S 15) (S 16) i).2.1 (vmR (S 4) (fvG S (slM x b) fr to k j) h (S 15) (S 16) i).1 (nI (h + i))))) := hD
                    refine lv_aload_n hx hb dX7_findsVersions_173 rfl (lv_at hl 4 rfl) ?_
                    refine gf_X7_57 hx hb hts hown hK hP 0 rfl (v := .ref (ad 16)) rfl dX7_findsVersions_174 ?_
                    refine lv_aload_n hx hb dX7_findsVersions_177 rfl (lv_at hl 4 rfl) ?_
                    refine gf_X7_180 hx hb hts hown hK hP 0 rfl (v := .int (nI (vmR (S 4) (fvG S (slM x b) fr to k j) h (S 15) (S 16) i).1)) rfl dX7_findsVersions_178 ?_
                    refine lv_iload hx hb dX7_findsVersions_181 (lv_at hl 2 rfl) ?_
                    refine ast_I hx hb hK hP hD hS 16 rfl (i := (vmR (S 4) (fvG S (slM x b) fr to k j) h (S 15) (S 16) i).1) (x := (fvG S (slM x b) fr to k j (h + i))) (by omega) (by decide) dX7_findsVersions_183 (fun H locs hP hD hS => ?_)
                    have hP : va_P D clW (wM cy ad (va_up (va_up I 0 0) 10 (nI (vmR (S 4) (fvG S (slM x b) fr to k j) h (S 15) (S 16) i).1)) (va_up (va_up (va_up S 10 (lkN (va_up (va_up (va_up S 10 f1) 15 (vmR (S 4) (fvG S (slM x b) fr to k j) h (S 15) (S 16) i).2.1) 16 (vmR (S 4) (fvG S (slM x b) fr to k j) h (S 15) (S 16) i).2.2) (slM x b) (nI (h + i)) fr to f1 k)) 15 (upd (vmR (S 4) (fvG S (slM x b) fr to k j) h (S 15) (S 16) i).2.1 (vmR (S 4) (fvG S (slM x b) fr to k j) h (S 15) (S 16) i).1 (nI (h + i)))) 16 (upd (vmR (S 4) (fvG S (slM x b) fr to k j) h (S 15) (S 16) i).2.2 (vmR (S 4) (fvG S (slM x b) fr to k j) h (S 15) (S 16) i).1 (fvG S (slM x b) fr to k j (h + i))))) H := hP
                    have hD : va_D A (wM cy ad (va_up (va_up I 0 0) 10 (nI (vmR (S 4) (fvG S (slM x b) fr to k j) h (S 15) (S 16) i).1)) (va_up (va_up (va_up S 10 (lkN (va_up (va_up (va_up S 10 f1) 15 (vmR (S 4) (fvG S (slM x b) fr to k j) h (S 15) (S 16) i).2.1) 16 (vmR (S 4) (fvG S (slM x b) fr to k j) h (S 15) (S 16) i).2.2) (slM x b) (nI (h + i)) fr to f1 k)) 15 (upd (vmR (S 4) (fvG S (slM x b) fr to k j) h (S 15) (S 16) i).2.1 (vmR (S 4) (fvG S (slM x b) fr to k j) h (S 15) (S 16) i).1 (nI (h + i)))) 16 (upd (vmR (S 4) (fvG S (slM x b) fr to k j) h (S 15) (S 16) i).2.2 (vmR (S 4) (fvG S (slM x b) fr to k j) h (S 15) (S 16) i).1 (fvG S (slM x b) fr to k j (h + i))))) := hD
                    refine lv_aload_n hx hb dX7_findsVersions_184 rfl (lv_at hl 4 rfl) ?_
                    refine lv_dup hx hb dX7_findsVersions_185 rfl ?_
                    refine gf_X7_180 hx hb hts hown hK hP 0 rfl (v := .int (nI (vmR (S 4) (fvG S (slM x b) fr to k j) h (S 15) (S 16) i).1)) rfl dX7_findsVersions_186 ?_
                    refine lv_iconst (v := 1) hx hb dX7_findsVersions_189 (by decide) ?_
                    refine lv_iadd hx hb dX7_findsVersions_190 ?_
                    refine top_eq (y := nI ((vmR (S 4) (fvG S (slM x b) fr to k j) h (S 15) (S 16) i).1 + 1)) (nI_add (vmR (S 4) (fvG S (slM x b) fr to k j) h (S 15) (S 16) i).1 1) ?_
                    refine pf_X7_180 hx hb hts hown hK hP hD hS 0 rfl (Nat.le_of_ble_eq_true rfl) dX7_findsVersions_191 (fun H locs hP hD hS => ?_)
                    have hP : va_P D clW (wM cy ad (va_up (va_up I 0 0) 10 (nI ((vmR (S 4) (fvG S (slM x b) fr to k j) h (S 15) (S 16) i).1 + 1))) (va_up (va_up (va_up S 10 (lkN (va_up (va_up (va_up S 10 f1) 15 (vmR (S 4) (fvG S (slM x b) fr to k j) h (S 15) (S 16) i).2.1) 16 (vmR (S 4) (fvG S (slM x b) fr to k j) h (S 15) (S 16) i).2.2) (slM x b) (nI (h + i)) fr to f1 k)) 15 (upd (vmR (S 4) (fvG S (slM x b) fr to k j) h (S 15) (S 16) i).2.1 (vmR (S 4) (fvG S (slM x b) fr to k j) h (S 15) (S 16) i).1 (nI (h + i)))) 16 (upd (vmR (S 4) (fvG S (slM x b) fr to k j) h (S 15) (S 16) i).2.2 (vmR (S 4) (fvG S (slM x b) fr to k j) h (S 15) (S 16) i).1 (fvG S (slM x b) fr to k j (h + i))))) H := hP
                    have hD : va_D A (wM cy ad (va_up (va_up I 0 0) 10 (nI ((vmR (S 4) (fvG S (slM x b) fr to k j) h (S 15) (S 16) i).1 + 1))) (va_up (va_up (va_up S 10 (lkN (va_up (va_up (va_up S 10 f1) 15 (vmR (S 4) (fvG S (slM x b) fr to k j) h (S 15) (S 16) i).2.1) 16 (vmR (S 4) (fvG S (slM x b) fr to k j) h (S 15) (S 16) i).2.2) (slM x b) (nI (h + i)) fr to f1 k)) 15 (upd (vmR (S 4) (fvG S (slM x b) fr to k j) h (S 15) (S 16) i).2.1 (vmR (S 4) (fvG S (slM x b) fr to k j) h (S 15) (S 16) i).1 (nI (h + i)))) 16 (upd (vmR (S 4) (fvG S (slM x b) fr to k j) h (S 15) (S 16) i).2.2 (vmR (S 4) (fvG S (slM x b) fr to k j) h (S 15) (S 16) i).1 (fvG S (slM x b) fr to k j (h + i))))) := hD
                    refine lv_iinc (v := (nI ((h + i) + 1))) (lv' := [(4, .int (nI ((h + i) + 1))), (7, .int 0), (6, .int (lastM (vmR (S 4) (fvG S (slM x b) fr to k j) h (S 15) (S 16) i))), (5, .int (fvG S (slM x b) fr to k j (h + i))), (0, .ref (ad 0)), (1, .int x), (2, .int b), (3, .int (nI j))]) hx hb dX7_findsVersions_194 hl (k := 3) rfl (nI_1 (h + i)) (by decide) rfl (fun ls hl => ?_)
                    refine lv_goto (tgt := 48) hx hb dX7_findsVersions_197 (by decide) ?_
                    have e_10 : (nI ((h + i) + 1)) = (nI (h + (i + 1))) := rfl
                    have hl : lv_has ls 8 [(4, .int (nI (h + (i + 1)))), (7, .int 0), (6, .int (lastM (vmR (S 4) (fvG S (slM x b) fr to k j) h (S 15) (S 16) i))), (5, .int (fvG S (slM x b) fr to k j (h + i))), (0, .ref (ad 0)), (1, .int x), (2, .int b), (3, .int (nI j))] := by rw [← e_10]; exact hl
                    have e_11 : (nI ((vmR (S 4) (fvG S (slM x b) fr to k j) h (S 15) (S 16) i).1 + 1)) = (nI (vmR (S 4) (fvG S (slM x b) fr to k j) h (S 15) (S 16) (i + 1)).1) := (by rw [vmR_f (fun h9 => h9.2.2.elim c105_7 c147_9)])
                    have e_12 : (upd (vmR (S 4) (fvG S (slM x b) fr to k j) h (S 15) (S 16) i).2.1 (vmR (S 4) (fvG S (slM x b) fr to k j) h (S 15) (S 16) i).1 (nI (h + i))) = (vmR (S 4) (fvG S (slM x b) fr to k j) h (S 15) (S 16) (i + 1)).2.1 := (by rw [vmR_f (fun h9 => h9.2.2.elim c105_7 c147_9)])
                    have e_13 : (upd (vmR (S 4) (fvG S (slM x b) fr to k j) h (S 15) (S 16) i).2.2 (vmR (S 4) (fvG S (slM x b) fr to k j) h (S 15) (S 16) i).1 (fvG S (slM x b) fr to k j (h + i))) = (vmR (S 4) (fvG S (slM x b) fr to k j) h (S 15) (S 16) (i + 1)).2.2 := (by rw [vmR_f (fun h9 => h9.2.2.elim c105_7 c147_9)])
                    have hP : va_P D clW (wM cy ad (va_up (va_up I 0 0) 10 (nI (vmR (S 4) (fvG S (slM x b) fr to k j) h (S 15) (S 16) (i + 1)).1)) (va_up (va_up (va_up S 10 (lkN (va_up (va_up (va_up S 10 f1) 15 (vmR (S 4) (fvG S (slM x b) fr to k j) h (S 15) (S 16) i).2.1) 16 (vmR (S 4) (fvG S (slM x b) fr to k j) h (S 15) (S 16) i).2.2) (slM x b) (nI (h + i)) fr to f1 k)) 15 (vmR (S 4) (fvG S (slM x b) fr to k j) h (S 15) (S 16) (i + 1)).2.1) 16 (vmR (S 4) (fvG S (slM x b) fr to k j) h (S 15) (S 16) (i + 1)).2.2)) H := by rw [← e_11, ← e_12, ← e_13]; exact hP
                    have hD : va_D A (wM cy ad (va_up (va_up I 0 0) 10 (nI (vmR (S 4) (fvG S (slM x b) fr to k j) h (S 15) (S 16) (i + 1)).1)) (va_up (va_up (va_up S 10 (lkN (va_up (va_up (va_up S 10 f1) 15 (vmR (S 4) (fvG S (slM x b) fr to k j) h (S 15) (S 16) i).2.1) 16 (vmR (S 4) (fvG S (slM x b) fr to k j) h (S 15) (S 16) i).2.2) (slM x b) (nI (h + i)) fr to f1 k)) 15 (vmR (S 4) (fvG S (slM x b) fr to k j) h (S 15) (S 16) (i + 1)).2.1) 16 (vmR (S 4) (fvG S (slM x b) fr to k j) h (S 15) (S 16) (i + 1)).2.2)) := hD.addr rfl
                    exact ih48 (i + 1) (lkN (va_up (va_up (va_up S 10 f1) 15 (vmR (S 4) (fvG S (slM x b) fr to k j) h (S 15) (S 16) i).2.1) 16 (vmR (S 4) (fvG S (slM x b) fr to k j) h (S 15) (S 16) i).2.2) (slM x b) (nI (h + i)) fr to f1 k) (by omega) (by omega) _ _ hP hD hS ls (lv_sub hl [0, 4, 5, 6, 7] rfl)
                  · refine lv_iconst (v := 1) hx hb dX7_findsVersions_150 (by decide) ?_
                    refine lv_goto (tgt := 155) hx hb dX7_findsVersions_151 (by decide) ?_
                    refine lv_istore (lv' := [(7, .int 1), (6, .int (lastM (vmR (S 4) (fvG S (slM x b) fr to k j) h (S 15) (S 16) i))), (5, .int (fvG S (slM x b) fr to k j (h + i))), (4, .int (nI (h + i))), (0, .ref (ad 0)), (1, .int x), (2, .int b), (3, .int (nI j))]) hx hb dX7_findsVersions_155 hl (by decide) rfl (fun ls hl => ?_)
                    refine lv_iload hx hb dX7_findsVersions_157 (lv_at hl 0 rfl) ?_
                    refine lv_if_ne (tgt := 194) hx hb dX7_findsVersions_159 (by decide) (fun _ => ?_) (fun c => absurd c (by decide))
                    refine lv_iinc (v := (nI ((h + i) + 1))) (lv' := [(4, .int (nI ((h + i) + 1))), (7, .int 1), (6, .int (lastM (vmR (S 4) (fvG S (slM x b) fr to k j) h (S 15) (S 16) i))), (5, .int (fvG S (slM x b) fr to k j (h + i))), (0, .ref (ad 0)), (1, .int x), (2, .int b), (3, .int (nI j))]) hx hb dX7_findsVersions_194 hl (k := 3) rfl (nI_1 (h + i)) (by decide) rfl (fun ls hl => ?_)
                    refine lv_goto (tgt := 48) hx hb dX7_findsVersions_197 (by decide) ?_
                    have e_14 : (nI ((h + i) + 1)) = (nI (h + (i + 1))) := rfl
                    have hl : lv_has ls 8 [(4, .int (nI (h + (i + 1)))), (7, .int 1), (6, .int (lastM (vmR (S 4) (fvG S (slM x b) fr to k j) h (S 15) (S 16) i))), (5, .int (fvG S (slM x b) fr to k j (h + i))), (0, .ref (ad 0)), (1, .int x), (2, .int b), (3, .int (nI j))] := by rw [← e_14]; exact hl
                    have e_15 : (nI (vmR (S 4) (fvG S (slM x b) fr to k j) h (S 15) (S 16) i).1) = (nI (vmR (S 4) (fvG S (slM x b) fr to k j) h (S 15) (S 16) (i + 1)).1) := (by rw [vmR_t ⟨by omega, ⟨fun q => absurd q c105_7, fun q => absurd q c116_8⟩, Or.inr c147_9⟩])
                    have e_16 : (vmR (S 4) (fvG S (slM x b) fr to k j) h (S 15) (S 16) i).2.1 = (vmR (S 4) (fvG S (slM x b) fr to k j) h (S 15) (S 16) (i + 1)).2.1 := (by rw [vmR_t ⟨by omega, ⟨fun q => absurd q c105_7, fun q => absurd q c116_8⟩, Or.inr c147_9⟩])
                    have e_17 : (vmR (S 4) (fvG S (slM x b) fr to k j) h (S 15) (S 16) i).2.2 = (vmR (S 4) (fvG S (slM x b) fr to k j) h (S 15) (S 16) (i + 1)).2.2 := (by rw [vmR_t ⟨by omega, ⟨fun q => absurd q c105_7, fun q => absurd q c116_8⟩, Or.inr c147_9⟩])
                    have hP : va_P D clW (wM cy ad (va_up (va_up I 0 0) 10 (nI (vmR (S 4) (fvG S (slM x b) fr to k j) h (S 15) (S 16) (i + 1)).1)) (va_up (va_up (va_up S 10 (lkN (va_up (va_up (va_up S 10 f1) 15 (vmR (S 4) (fvG S (slM x b) fr to k j) h (S 15) (S 16) i).2.1) 16 (vmR (S 4) (fvG S (slM x b) fr to k j) h (S 15) (S 16) i).2.2) (slM x b) (nI (h + i)) fr to f1 k)) 15 (vmR (S 4) (fvG S (slM x b) fr to k j) h (S 15) (S 16) (i + 1)).2.1) 16 (vmR (S 4) (fvG S (slM x b) fr to k j) h (S 15) (S 16) (i + 1)).2.2)) H := by rw [← e_15, ← e_16, ← e_17]; exact hP
                    have hD : va_D A (wM cy ad (va_up (va_up I 0 0) 10 (nI (vmR (S 4) (fvG S (slM x b) fr to k j) h (S 15) (S 16) (i + 1)).1)) (va_up (va_up (va_up S 10 (lkN (va_up (va_up (va_up S 10 f1) 15 (vmR (S 4) (fvG S (slM x b) fr to k j) h (S 15) (S 16) i).2.1) 16 (vmR (S 4) (fvG S (slM x b) fr to k j) h (S 15) (S 16) i).2.2) (slM x b) (nI (h + i)) fr to f1 k)) 15 (vmR (S 4) (fvG S (slM x b) fr to k j) h (S 15) (S 16) (i + 1)).2.1) 16 (vmR (S 4) (fvG S (slM x b) fr to k j) h (S 15) (S 16) (i + 1)).2.2)) := hD.addr rfl
                    exact ih48 (i + 1) (lkN (va_up (va_up (va_up S 10 f1) 15 (vmR (S 4) (fvG S (slM x b) fr to k j) h (S 15) (S 16) i).2.1) 16 (vmR (S 4) (fvG S (slM x b) fr to k j) h (S 15) (S 16) i).2.2) (slM x b) (nI (h + i)) fr to f1 k) (by omega) (by omega) _ _ hP hD hS ls (lv_sub hl [0, 4, 5, 6, 7] rfl)
                · refine lv_iconst (v := 1) hx hb dX7_findsVersions_119 (by decide) ?_
                  refine lv_goto (tgt := 124) hx hb dX7_findsVersions_120 (by decide) ?_
                  refine lv_icmp_ne (tgt := 154) hx hb dX7_findsVersions_124 (by decide) (fun _ => ?_) (fun c => absurd c (by decide))
                  refine lv_iconst (v := 0) hx hb dX7_findsVersions_154 (by decide) ?_
                  refine lv_istore (lv' := [(7, .int 0), (6, .int (lastM (vmR (S 4) (fvG S (slM x b) fr to k j) h (S 15) (S 16) i))), (5, .int (fvG S (slM x b) fr to k j (h + i))), (4, .int (nI (h + i))), (0, .ref (ad 0)), (1, .int x), (2, .int b), (3, .int (nI j))]) hx hb dX7_findsVersions_155 hl (by decide) rfl (fun ls hl => ?_)
                  refine lv_iload hx hb dX7_findsVersions_157 (lv_at hl 0 rfl) ?_
                  refine lv_if_ne (tgt := 194) hx hb dX7_findsVersions_159 (by decide) (fun c => absurd (by decide) c) (fun _ => ?_)
                  refine lv_aload_n hx hb dX7_findsVersions_162 rfl (lv_at hl 4 rfl) ?_
                  refine gf_X7_54 hx hb hts hown hK hP 0 rfl (v := .ref (ad 15)) rfl dX7_findsVersions_163 ?_
                  refine lv_aload_n hx hb dX7_findsVersions_166 rfl (lv_at hl 4 rfl) ?_
                  refine gf_X7_180 hx hb hts hown hK hP 0 rfl (v := .int (nI (vmR (S 4) (fvG S (slM x b) fr to k j) h (S 15) (S 16) i).1)) rfl dX7_findsVersions_167 ?_
                  refine lv_iload hx hb dX7_findsVersions_170 (lv_at hl 3 rfl) ?_
                  refine ast_I hx hb hK hP hD hS 15 rfl (i := (vmR (S 4) (fvG S (slM x b) fr to k j) h (S 15) (S 16) i).1) (x := (nI (h + i))) (by omega) (by decide) dX7_findsVersions_172 (fun H locs hP hD hS => ?_)
                  have hP : va_P D clW (wM cy ad (va_up (va_up I 0 0) 10 (nI (vmR (S 4) (fvG S (slM x b) fr to k j) h (S 15) (S 16) i).1)) (va_up (va_up (va_up S 16 (vmR (S 4) (fvG S (slM x b) fr to k j) h (S 15) (S 16) i).2.2) 10 (lkN (va_up (va_up (va_up S 10 f1) 15 (vmR (S 4) (fvG S (slM x b) fr to k j) h (S 15) (S 16) i).2.1) 16 (vmR (S 4) (fvG S (slM x b) fr to k j) h (S 15) (S 16) i).2.2) (slM x b) (nI (h + i)) fr to f1 k)) 15 (upd (vmR (S 4) (fvG S (slM x b) fr to k j) h (S 15) (S 16) i).2.1 (vmR (S 4) (fvG S (slM x b) fr to k j) h (S 15) (S 16) i).1 (nI (h + i))))) H := hP
                  have hD : va_D A (wM cy ad (va_up (va_up I 0 0) 10 (nI (vmR (S 4) (fvG S (slM x b) fr to k j) h (S 15) (S 16) i).1)) (va_up (va_up (va_up S 16 (vmR (S 4) (fvG S (slM x b) fr to k j) h (S 15) (S 16) i).2.2) 10 (lkN (va_up (va_up (va_up S 10 f1) 15 (vmR (S 4) (fvG S (slM x b) fr to k j) h (S 15) (S 16) i).2.1) 16 (vmR (S 4) (fvG S (slM x b) fr to k j) h (S 15) (S 16) i).2.2) (slM x b) (nI (h + i)) fr to f1 k)) 15 (upd (vmR (S 4) (fvG S (slM x b) fr to k j) h (S 15) (S 16) i).2.1 (vmR (S 4) (fvG S (slM x b) fr to k j) h (S 15) (S 16) i).1 (nI (h + i))))) := hD
                  refine lv_aload_n hx hb dX7_findsVersions_173 rfl (lv_at hl 4 rfl) ?_
                  refine gf_X7_57 hx hb hts hown hK hP 0 rfl (v := .ref (ad 16)) rfl dX7_findsVersions_174 ?_
                  refine lv_aload_n hx hb dX7_findsVersions_177 rfl (lv_at hl 4 rfl) ?_
                  refine gf_X7_180 hx hb hts hown hK hP 0 rfl (v := .int (nI (vmR (S 4) (fvG S (slM x b) fr to k j) h (S 15) (S 16) i).1)) rfl dX7_findsVersions_178 ?_
                  refine lv_iload hx hb dX7_findsVersions_181 (lv_at hl 2 rfl) ?_
                  refine ast_I hx hb hK hP hD hS 16 rfl (i := (vmR (S 4) (fvG S (slM x b) fr to k j) h (S 15) (S 16) i).1) (x := (fvG S (slM x b) fr to k j (h + i))) (by omega) (by decide) dX7_findsVersions_183 (fun H locs hP hD hS => ?_)
                  have hP : va_P D clW (wM cy ad (va_up (va_up I 0 0) 10 (nI (vmR (S 4) (fvG S (slM x b) fr to k j) h (S 15) (S 16) i).1)) (va_up (va_up (va_up S 10 (lkN (va_up (va_up (va_up S 10 f1) 15 (vmR (S 4) (fvG S (slM x b) fr to k j) h (S 15) (S 16) i).2.1) 16 (vmR (S 4) (fvG S (slM x b) fr to k j) h (S 15) (S 16) i).2.2) (slM x b) (nI (h + i)) fr to f1 k)) 15 (upd (vmR (S 4) (fvG S (slM x b) fr to k j) h (S 15) (S 16) i).2.1 (vmR (S 4) (fvG S (slM x b) fr to k j) h (S 15) (S 16) i).1 (nI (h + i)))) 16 (upd (vmR (S 4) (fvG S (slM x b) fr to k j) h (S 15) (S 16) i).2.2 (vmR (S 4) (fvG S (slM x b) fr to k j) h (S 15) (S 16) i).1 (fvG S (slM x b) fr to k j (h + i))))) H := hP
                  have hD : va_D A (wM cy ad (va_up (va_up I 0 0) 10 (nI (vmR (S 4) (fvG S (slM x b) fr to k j) h (S 15) (S 16) i).1)) (va_up (va_up (va_up S 10 (lkN (va_up (va_up (va_up S 10 f1) 15 (vmR (S 4) (fvG S (slM x b) fr to k j) h (S 15) (S 16) i).2.1) 16 (vmR (S 4) (fvG S (slM x b) fr to k j) h (S 15) (S 16) i).2.2) (slM x b) (nI (h + i)) fr to f1 k)) 15 (upd (vmR (S 4) (fvG S (slM x b) fr to k j) h (S 15) (S 16) i).2.1 (vmR (S 4) (fvG S (slM x b) fr to k j) h (S 15) (S 16) i).1 (nI (h + i)))) 16 (upd (vmR (S 4) (fvG S (slM x b) fr to k j) h (S 15) (S 16) i).2.2 (vmR (S 4) (fvG S (slM x b) fr to k j) h (S 15) (S 16) i).1 (fvG S (slM x b) fr to k j (h + i))))) := hD
                  refine lv_aload_n hx hb dX7_findsVersions_184 rfl (lv_at hl 4 rfl) ?_
                  refine lv_dup hx hb dX7_findsVersions_185 rfl ?_
                  refine gf_X7_180 hx hb hts hown hK hP 0 rfl (v := .int (nI (vmR (S 4) (fvG S (slM x b) fr to k j) h (S 15) (S 16) i).1)) rfl dX7_findsVersions_186 ?_
                  refine lv_iconst (v := 1) hx hb dX7_findsVersions_189 (by decide) ?_
                  refine lv_iadd hx hb dX7_findsVersions_190 ?_
                  refine top_eq (y := nI ((vmR (S 4) (fvG S (slM x b) fr to k j) h (S 15) (S 16) i).1 + 1)) (nI_add (vmR (S 4) (fvG S (slM x b) fr to k j) h (S 15) (S 16) i).1 1) ?_
                  refine pf_X7_180 hx hb hts hown hK hP hD hS 0 rfl (Nat.le_of_ble_eq_true rfl) dX7_findsVersions_191 (fun H locs hP hD hS => ?_)
                  have hP : va_P D clW (wM cy ad (va_up (va_up I 0 0) 10 (nI ((vmR (S 4) (fvG S (slM x b) fr to k j) h (S 15) (S 16) i).1 + 1))) (va_up (va_up (va_up S 10 (lkN (va_up (va_up (va_up S 10 f1) 15 (vmR (S 4) (fvG S (slM x b) fr to k j) h (S 15) (S 16) i).2.1) 16 (vmR (S 4) (fvG S (slM x b) fr to k j) h (S 15) (S 16) i).2.2) (slM x b) (nI (h + i)) fr to f1 k)) 15 (upd (vmR (S 4) (fvG S (slM x b) fr to k j) h (S 15) (S 16) i).2.1 (vmR (S 4) (fvG S (slM x b) fr to k j) h (S 15) (S 16) i).1 (nI (h + i)))) 16 (upd (vmR (S 4) (fvG S (slM x b) fr to k j) h (S 15) (S 16) i).2.2 (vmR (S 4) (fvG S (slM x b) fr to k j) h (S 15) (S 16) i).1 (fvG S (slM x b) fr to k j (h + i))))) H := hP
                  have hD : va_D A (wM cy ad (va_up (va_up I 0 0) 10 (nI ((vmR (S 4) (fvG S (slM x b) fr to k j) h (S 15) (S 16) i).1 + 1))) (va_up (va_up (va_up S 10 (lkN (va_up (va_up (va_up S 10 f1) 15 (vmR (S 4) (fvG S (slM x b) fr to k j) h (S 15) (S 16) i).2.1) 16 (vmR (S 4) (fvG S (slM x b) fr to k j) h (S 15) (S 16) i).2.2) (slM x b) (nI (h + i)) fr to f1 k)) 15 (upd (vmR (S 4) (fvG S (slM x b) fr to k j) h (S 15) (S 16) i).2.1 (vmR (S 4) (fvG S (slM x b) fr to k j) h (S 15) (S 16) i).1 (nI (h + i)))) 16 (upd (vmR (S 4) (fvG S (slM x b) fr to k j) h (S 15) (S 16) i).2.2 (vmR (S 4) (fvG S (slM x b) fr to k j) h (S 15) (S 16) i).1 (fvG S (slM x b) fr to k j (h + i))))) := hD
                  refine lv_iinc (v := (nI ((h + i) + 1))) (lv' := [(4, .int (nI ((h + i) + 1))), (7, .int 0), (6, .int (lastM (vmR (S 4) (fvG S (slM x b) fr to k j) h (S 15) (S 16) i))), (5, .int (fvG S (slM x b) fr to k j (h + i))), (0, .ref (ad 0)), (1, .int x), (2, .int b), (3, .int (nI j))]) hx hb dX7_findsVersions_194 hl (k := 3) rfl (nI_1 (h + i)) (by decide) rfl (fun ls hl => ?_)
                  refine lv_goto (tgt := 48) hx hb dX7_findsVersions_197 (by decide) ?_
                  have e_18 : (nI ((h + i) + 1)) = (nI (h + (i + 1))) := rfl
                  have hl : lv_has ls 8 [(4, .int (nI (h + (i + 1)))), (7, .int 0), (6, .int (lastM (vmR (S 4) (fvG S (slM x b) fr to k j) h (S 15) (S 16) i))), (5, .int (fvG S (slM x b) fr to k j (h + i))), (0, .ref (ad 0)), (1, .int x), (2, .int b), (3, .int (nI j))] := by rw [← e_18]; exact hl
                  have e_19 : (nI ((vmR (S 4) (fvG S (slM x b) fr to k j) h (S 15) (S 16) i).1 + 1)) = (nI (vmR (S 4) (fvG S (slM x b) fr to k j) h (S 15) (S 16) (i + 1)).1) := (by rw [vmR_f (fun h9 => c105_7 (h9.2.1.mpr c116_8))])
                  have e_20 : (upd (vmR (S 4) (fvG S (slM x b) fr to k j) h (S 15) (S 16) i).2.1 (vmR (S 4) (fvG S (slM x b) fr to k j) h (S 15) (S 16) i).1 (nI (h + i))) = (vmR (S 4) (fvG S (slM x b) fr to k j) h (S 15) (S 16) (i + 1)).2.1 := (by rw [vmR_f (fun h9 => c105_7 (h9.2.1.mpr c116_8))])
                  have e_21 : (upd (vmR (S 4) (fvG S (slM x b) fr to k j) h (S 15) (S 16) i).2.2 (vmR (S 4) (fvG S (slM x b) fr to k j) h (S 15) (S 16) i).1 (fvG S (slM x b) fr to k j (h + i))) = (vmR (S 4) (fvG S (slM x b) fr to k j) h (S 15) (S 16) (i + 1)).2.2 := (by rw [vmR_f (fun h9 => c105_7 (h9.2.1.mpr c116_8))])
                  have hP : va_P D clW (wM cy ad (va_up (va_up I 0 0) 10 (nI (vmR (S 4) (fvG S (slM x b) fr to k j) h (S 15) (S 16) (i + 1)).1)) (va_up (va_up (va_up S 10 (lkN (va_up (va_up (va_up S 10 f1) 15 (vmR (S 4) (fvG S (slM x b) fr to k j) h (S 15) (S 16) i).2.1) 16 (vmR (S 4) (fvG S (slM x b) fr to k j) h (S 15) (S 16) i).2.2) (slM x b) (nI (h + i)) fr to f1 k)) 15 (vmR (S 4) (fvG S (slM x b) fr to k j) h (S 15) (S 16) (i + 1)).2.1) 16 (vmR (S 4) (fvG S (slM x b) fr to k j) h (S 15) (S 16) (i + 1)).2.2)) H := by rw [← e_19, ← e_20, ← e_21]; exact hP
                  have hD : va_D A (wM cy ad (va_up (va_up I 0 0) 10 (nI (vmR (S 4) (fvG S (slM x b) fr to k j) h (S 15) (S 16) (i + 1)).1)) (va_up (va_up (va_up S 10 (lkN (va_up (va_up (va_up S 10 f1) 15 (vmR (S 4) (fvG S (slM x b) fr to k j) h (S 15) (S 16) i).2.1) 16 (vmR (S 4) (fvG S (slM x b) fr to k j) h (S 15) (S 16) i).2.2) (slM x b) (nI (h + i)) fr to f1 k)) 15 (vmR (S 4) (fvG S (slM x b) fr to k j) h (S 15) (S 16) (i + 1)).2.1) 16 (vmR (S 4) (fvG S (slM x b) fr to k j) h (S 15) (S 16) (i + 1)).2.2)) := hD.addr rfl
                  exact ih48 (i + 1) (lkN (va_up (va_up (va_up S 10 f1) 15 (vmR (S 4) (fvG S (slM x b) fr to k j) h (S 15) (S 16) i).2.1) 16 (vmR (S 4) (fvG S (slM x b) fr to k j) h (S 15) (S 16) i).2.2) (slM x b) (nI (h + i)) fr to f1 k) (by omega) (by omega) _ _ hP hD hS ls (lv_sub hl [0, 4, 5, 6, 7] rfl)
              · refine lv_iconst (v := 1) hx hb dX7_findsVersions_108 (by decide) ?_
                refine lv_goto (tgt := 113) hx hb dX7_findsVersions_109 (by decide) ?_
                refine lv_iload hx hb dX7_findsVersions_113 (lv_at hl 0 rfl) ?_
                refine lv_iconst (v := (-1)) hx hb dX7_findsVersions_115 (by decide) ?_
                refine lv_icmp_ne (tgt := 123) hx hb dX7_findsVersions_116 (by decide) (fun c116_22 => ?_) (fun c116_22 => ?_)
                · refine lv_iconst (v := 0) hx hb dX7_findsVersions_123 (by decide) ?_
                  refine lv_icmp_ne (tgt := 154) hx hb dX7_findsVersions_124 (by decide) (fun _ => ?_) (fun c => absurd c (by decide))
                  refine lv_iconst (v := 0) hx hb dX7_findsVersions_154 (by decide) ?_
                  refine lv_istore (lv' := [(7, .int 0), (6, .int (lastM (vmR (S 4) (fvG S (slM x b) fr to k j) h (S 15) (S 16) i))), (5, .int (fvG S (slM x b) fr to k j (h + i))), (4, .int (nI (h + i))), (0, .ref (ad 0)), (1, .int x), (2, .int b), (3, .int (nI j))]) hx hb dX7_findsVersions_155 hl (by decide) rfl (fun ls hl => ?_)
                  refine lv_iload hx hb dX7_findsVersions_157 (lv_at hl 0 rfl) ?_
                  refine lv_if_ne (tgt := 194) hx hb dX7_findsVersions_159 (by decide) (fun c => absurd (by decide) c) (fun _ => ?_)
                  refine lv_aload_n hx hb dX7_findsVersions_162 rfl (lv_at hl 4 rfl) ?_
                  refine gf_X7_54 hx hb hts hown hK hP 0 rfl (v := .ref (ad 15)) rfl dX7_findsVersions_163 ?_
                  refine lv_aload_n hx hb dX7_findsVersions_166 rfl (lv_at hl 4 rfl) ?_
                  refine gf_X7_180 hx hb hts hown hK hP 0 rfl (v := .int (nI (vmR (S 4) (fvG S (slM x b) fr to k j) h (S 15) (S 16) i).1)) rfl dX7_findsVersions_167 ?_
                  refine lv_iload hx hb dX7_findsVersions_170 (lv_at hl 3 rfl) ?_
                  refine ast_I hx hb hK hP hD hS 15 rfl (i := (vmR (S 4) (fvG S (slM x b) fr to k j) h (S 15) (S 16) i).1) (x := (nI (h + i))) (by omega) (by decide) dX7_findsVersions_172 (fun H locs hP hD hS => ?_)
                  have hP : va_P D clW (wM cy ad (va_up (va_up I 0 0) 10 (nI (vmR (S 4) (fvG S (slM x b) fr to k j) h (S 15) (S 16) i).1)) (va_up (va_up (va_up S 16 (vmR (S 4) (fvG S (slM x b) fr to k j) h (S 15) (S 16) i).2.2) 10 (lkN (va_up (va_up (va_up S 10 f1) 15 (vmR (S 4) (fvG S (slM x b) fr to k j) h (S 15) (S 16) i).2.1) 16 (vmR (S 4) (fvG S (slM x b) fr to k j) h (S 15) (S 16) i).2.2) (slM x b) (nI (h + i)) fr to f1 k)) 15 (upd (vmR (S 4) (fvG S (slM x b) fr to k j) h (S 15) (S 16) i).2.1 (vmR (S 4) (fvG S (slM x b) fr to k j) h (S 15) (S 16) i).1 (nI (h + i))))) H := hP
                  have hD : va_D A (wM cy ad (va_up (va_up I 0 0) 10 (nI (vmR (S 4) (fvG S (slM x b) fr to k j) h (S 15) (S 16) i).1)) (va_up (va_up (va_up S 16 (vmR (S 4) (fvG S (slM x b) fr to k j) h (S 15) (S 16) i).2.2) 10 (lkN (va_up (va_up (va_up S 10 f1) 15 (vmR (S 4) (fvG S (slM x b) fr to k j) h (S 15) (S 16) i).2.1) 16 (vmR (S 4) (fvG S (slM x b) fr to k j) h (S 15) (S 16) i).2.2) (slM x b) (nI (h + i)) fr to f1 k)) 15 (upd (vmR (S 4) (fvG S (slM x b) fr to k j) h (S 15) (S 16) i).2.1 (vmR (S 4) (fvG S (slM x b) fr to k j) h (S 15) (S 16) i).1 (nI (h + i))))) := hD
                  refine lv_aload_n hx hb dX7_findsVersions_173 rfl (lv_at hl 4 rfl) ?_
                  refine gf_X7_57 hx hb hts hown hK hP 0 rfl (v := .ref (ad 16)) rfl dX7_findsVersions_174 ?_
                  refine lv_aload_n hx hb dX7_findsVersions_177 rfl (lv_at hl 4 rfl) ?_
                  refine gf_X7_180 hx hb hts hown hK hP 0 rfl (v := .int (nI (vmR (S 4) (fvG S (slM x b) fr to k j) h (S 15) (S 16) i).1)) rfl dX7_findsVersions_178 ?_
                  refine lv_iload hx hb dX7_findsVersions_181 (lv_at hl 2 rfl) ?_
                  refine ast_I hx hb hK hP hD hS 16 rfl (i := (vmR (S 4) (fvG S (slM x b) fr to k j) h (S 15) (S 16) i).1) (x := (fvG S (slM x b) fr to k j (h + i))) (by omega) (by decide) dX7_findsVersions_183 (fun H locs hP hD hS => ?_)
                  have hP : va_P D clW (wM cy ad (va_up (va_up I 0 0) 10 (nI (vmR (S 4) (fvG S (slM x b) fr to k j) h (S 15) (S 16) i).1)) (va_up (va_up (va_up S 10 (lkN (va_up (va_up (va_up S 10 f1) 15 (vmR (S 4) (fvG S (slM x b) fr to k j) h (S 15) (S 16) i).2.1) 16 (vmR (S 4) (fvG S (slM x b) fr to k j) h (S 15) (S 16) i).2.2) (slM x b) (nI (h + i)) fr to f1 k)) 15 (upd (vmR (S 4) (fvG S (slM x b) fr to k j) h (S 15) (S 16) i).2.1 (vmR (S 4) (fvG S (slM x b) fr to k j) h (S 15) (S 16) i).1 (nI (h + i)))) 16 (upd (vmR (S 4) (fvG S (slM x b) fr to k j) h (S 15) (S 16) i).2.2 (vmR (S 4) (fvG S (slM x b) fr to k j) h (S 15) (S 16) i).1 (fvG S (slM x b) fr to k j (h + i))))) H := hP
                  have hD : va_D A (wM cy ad (va_up (va_up I 0 0) 10 (nI (vmR (S 4) (fvG S (slM x b) fr to k j) h (S 15) (S 16) i).1)) (va_up (va_up (va_up S 10 (lkN (va_up (va_up (va_up S 10 f1) 15 (vmR (S 4) (fvG S (slM x b) fr to k j) h (S 15) (S 16) i).2.1) 16 (vmR (S 4) (fvG S (slM x b) fr to k j) h (S 15) (S 16) i).2.2) (slM x b) (nI (h + i)) fr to f1 k)) 15 (upd (vmR (S 4) (fvG S (slM x b) fr to k j) h (S 15) (S 16) i).2.1 (vmR (S 4) (fvG S (slM x b) fr to k j) h (S 15) (S 16) i).1 (nI (h + i)))) 16 (upd (vmR (S 4) (fvG S (slM x b) fr to k j) h (S 15) (S 16) i).2.2 (vmR (S 4) (fvG S (slM x b) fr to k j) h (S 15) (S 16) i).1 (fvG S (slM x b) fr to k j (h + i))))) := hD
                  refine lv_aload_n hx hb dX7_findsVersions_184 rfl (lv_at hl 4 rfl) ?_
                  refine lv_dup hx hb dX7_findsVersions_185 rfl ?_
                  refine gf_X7_180 hx hb hts hown hK hP 0 rfl (v := .int (nI (vmR (S 4) (fvG S (slM x b) fr to k j) h (S 15) (S 16) i).1)) rfl dX7_findsVersions_186 ?_
                  refine lv_iconst (v := 1) hx hb dX7_findsVersions_189 (by decide) ?_
                  refine lv_iadd hx hb dX7_findsVersions_190 ?_
                  refine top_eq (y := nI ((vmR (S 4) (fvG S (slM x b) fr to k j) h (S 15) (S 16) i).1 + 1)) (nI_add (vmR (S 4) (fvG S (slM x b) fr to k j) h (S 15) (S 16) i).1 1) ?_
                  refine pf_X7_180 hx hb hts hown hK hP hD hS 0 rfl (Nat.le_of_ble_eq_true rfl) dX7_findsVersions_191 (fun H locs hP hD hS => ?_)
                  have hP : va_P D clW (wM cy ad (va_up (va_up I 0 0) 10 (nI ((vmR (S 4) (fvG S (slM x b) fr to k j) h (S 15) (S 16) i).1 + 1))) (va_up (va_up (va_up S 10 (lkN (va_up (va_up (va_up S 10 f1) 15 (vmR (S 4) (fvG S (slM x b) fr to k j) h (S 15) (S 16) i).2.1) 16 (vmR (S 4) (fvG S (slM x b) fr to k j) h (S 15) (S 16) i).2.2) (slM x b) (nI (h + i)) fr to f1 k)) 15 (upd (vmR (S 4) (fvG S (slM x b) fr to k j) h (S 15) (S 16) i).2.1 (vmR (S 4) (fvG S (slM x b) fr to k j) h (S 15) (S 16) i).1 (nI (h + i)))) 16 (upd (vmR (S 4) (fvG S (slM x b) fr to k j) h (S 15) (S 16) i).2.2 (vmR (S 4) (fvG S (slM x b) fr to k j) h (S 15) (S 16) i).1 (fvG S (slM x b) fr to k j (h + i))))) H := hP
                  have hD : va_D A (wM cy ad (va_up (va_up I 0 0) 10 (nI ((vmR (S 4) (fvG S (slM x b) fr to k j) h (S 15) (S 16) i).1 + 1))) (va_up (va_up (va_up S 10 (lkN (va_up (va_up (va_up S 10 f1) 15 (vmR (S 4) (fvG S (slM x b) fr to k j) h (S 15) (S 16) i).2.1) 16 (vmR (S 4) (fvG S (slM x b) fr to k j) h (S 15) (S 16) i).2.2) (slM x b) (nI (h + i)) fr to f1 k)) 15 (upd (vmR (S 4) (fvG S (slM x b) fr to k j) h (S 15) (S 16) i).2.1 (vmR (S 4) (fvG S (slM x b) fr to k j) h (S 15) (S 16) i).1 (nI (h + i)))) 16 (upd (vmR (S 4) (fvG S (slM x b) fr to k j) h (S 15) (S 16) i).2.2 (vmR (S 4) (fvG S (slM x b) fr to k j) h (S 15) (S 16) i).1 (fvG S (slM x b) fr to k j (h + i))))) := hD
                  refine lv_iinc (v := (nI ((h + i) + 1))) (lv' := [(4, .int (nI ((h + i) + 1))), (7, .int 0), (6, .int (lastM (vmR (S 4) (fvG S (slM x b) fr to k j) h (S 15) (S 16) i))), (5, .int (fvG S (slM x b) fr to k j (h + i))), (0, .ref (ad 0)), (1, .int x), (2, .int b), (3, .int (nI j))]) hx hb dX7_findsVersions_194 hl (k := 3) rfl (nI_1 (h + i)) (by decide) rfl (fun ls hl => ?_)
                  refine lv_goto (tgt := 48) hx hb dX7_findsVersions_197 (by decide) ?_
                  have e_23 : (nI ((h + i) + 1)) = (nI (h + (i + 1))) := rfl
                  have hl : lv_has ls 8 [(4, .int (nI (h + (i + 1)))), (7, .int 0), (6, .int (lastM (vmR (S 4) (fvG S (slM x b) fr to k j) h (S 15) (S 16) i))), (5, .int (fvG S (slM x b) fr to k j (h + i))), (0, .ref (ad 0)), (1, .int x), (2, .int b), (3, .int (nI j))] := by rw [← e_23]; exact hl
                  have e_24 : (nI ((vmR (S 4) (fvG S (slM x b) fr to k j) h (S 15) (S 16) i).1 + 1)) = (nI (vmR (S 4) (fvG S (slM x b) fr to k j) h (S 15) (S 16) (i + 1)).1) := (by rw [vmR_f (fun h9 => c116_22 (h9.2.1.mp c105_7))])
                  have e_25 : (upd (vmR (S 4) (fvG S (slM x b) fr to k j) h (S 15) (S 16) i).2.1 (vmR (S 4) (fvG S (slM x b) fr to k j) h (S 15) (S 16) i).1 (nI (h + i))) = (vmR (S 4) (fvG S (slM x b) fr to k j) h (S 15) (S 16) (i + 1)).2.1 := (by rw [vmR_f (fun h9 => c116_22 (h9.2.1.mp c105_7))])
                  have e_26 : (upd (vmR (S 4) (fvG S (slM x b) fr to k j) h (S 15) (S 16) i).2.2 (vmR (S 4) (fvG S (slM x b) fr to k j) h (S 15) (S 16) i).1 (fvG S (slM x b) fr to k j (h + i))) = (vmR (S 4) (fvG S (slM x b) fr to k j) h (S 15) (S 16) (i + 1)).2.2 := (by rw [vmR_f (fun h9 => c116_22 (h9.2.1.mp c105_7))])
                  have hP : va_P D clW (wM cy ad (va_up (va_up I 0 0) 10 (nI (vmR (S 4) (fvG S (slM x b) fr to k j) h (S 15) (S 16) (i + 1)).1)) (va_up (va_up (va_up S 10 (lkN (va_up (va_up (va_up S 10 f1) 15 (vmR (S 4) (fvG S (slM x b) fr to k j) h (S 15) (S 16) i).2.1) 16 (vmR (S 4) (fvG S (slM x b) fr to k j) h (S 15) (S 16) i).2.2) (slM x b) (nI (h + i)) fr to f1 k)) 15 (vmR (S 4) (fvG S (slM x b) fr to k j) h (S 15) (S 16) (i + 1)).2.1) 16 (vmR (S 4) (fvG S (slM x b) fr to k j) h (S 15) (S 16) (i + 1)).2.2)) H := by rw [← e_24, ← e_25, ← e_26]; exact hP
                  have hD : va_D A (wM cy ad (va_up (va_up I 0 0) 10 (nI (vmR (S 4) (fvG S (slM x b) fr to k j) h (S 15) (S 16) (i + 1)).1)) (va_up (va_up (va_up S 10 (lkN (va_up (va_up (va_up S 10 f1) 15 (vmR (S 4) (fvG S (slM x b) fr to k j) h (S 15) (S 16) i).2.1) 16 (vmR (S 4) (fvG S (slM x b) fr to k j) h (S 15) (S 16) i).2.2) (slM x b) (nI (h + i)) fr to f1 k)) 15 (vmR (S 4) (fvG S (slM x b) fr to k j) h (S 15) (S 16) (i + 1)).2.1) 16 (vmR (S 4) (fvG S (slM x b) fr to k j) h (S 15) (S 16) (i + 1)).2.2)) := hD.addr rfl
                  exact ih48 (i + 1) (lkN (va_up (va_up (va_up S 10 f1) 15 (vmR (S 4) (fvG S (slM x b) fr to k j) h (S 15) (S 16) i).2.1) 16 (vmR (S 4) (fvG S (slM x b) fr to k j) h (S 15) (S 16) i).2.2) (slM x b) (nI (h + i)) fr to f1 k) (by omega) (by omega) _ _ hP hD hS ls (lv_sub hl [0, 4, 5, 6, 7] rfl)
                · refine lv_iconst (v := 1) hx hb dX7_findsVersions_119 (by decide) ?_
                  refine lv_goto (tgt := 124) hx hb dX7_findsVersions_120 (by decide) ?_
                  refine lv_icmp_ne (tgt := 154) hx hb dX7_findsVersions_124 (by decide) (fun c => absurd (by decide) c) (fun _ => ?_)
                  refine lv_iload hx hb dX7_findsVersions_127 (lv_at hl 1 rfl) ?_
                  refine lv_iconst (v := (-1)) hx hb dX7_findsVersions_129 (by decide) ?_
                  refine lv_icmp_eq (tgt := 150) hx hb dX7_findsVersions_130 (by decide) (fun _ => ?_) (fun c => absurd c105_7 c)
                  refine lv_iconst (v := 1) hx hb dX7_findsVersions_150 (by decide) ?_
                  refine lv_goto (tgt := 155) hx hb dX7_findsVersions_151 (by decide) ?_
                  refine lv_istore (lv' := [(7, .int 1), (6, .int (lastM (vmR (S 4) (fvG S (slM x b) fr to k j) h (S 15) (S 16) i))), (5, .int (fvG S (slM x b) fr to k j (h + i))), (4, .int (nI (h + i))), (0, .ref (ad 0)), (1, .int x), (2, .int b), (3, .int (nI j))]) hx hb dX7_findsVersions_155 hl (by decide) rfl (fun ls hl => ?_)
                  refine lv_iload hx hb dX7_findsVersions_157 (lv_at hl 0 rfl) ?_
                  refine lv_if_ne (tgt := 194) hx hb dX7_findsVersions_159 (by decide) (fun _ => ?_) (fun c => absurd c (by decide))
                  refine lv_iinc (v := (nI ((h + i) + 1))) (lv' := [(4, .int (nI ((h + i) + 1))), (7, .int 1), (6, .int (lastM (vmR (S 4) (fvG S (slM x b) fr to k j) h (S 15) (S 16) i))), (5, .int (fvG S (slM x b) fr to k j (h + i))), (0, .ref (ad 0)), (1, .int x), (2, .int b), (3, .int (nI j))]) hx hb dX7_findsVersions_194 hl (k := 3) rfl (nI_1 (h + i)) (by decide) rfl (fun ls hl => ?_)
                  refine lv_goto (tgt := 48) hx hb dX7_findsVersions_197 (by decide) ?_
                  have e_27 : (nI ((h + i) + 1)) = (nI (h + (i + 1))) := rfl
                  have hl : lv_has ls 8 [(4, .int (nI (h + (i + 1)))), (7, .int 1), (6, .int (lastM (vmR (S 4) (fvG S (slM x b) fr to k j) h (S 15) (S 16) i))), (5, .int (fvG S (slM x b) fr to k j (h + i))), (0, .ref (ad 0)), (1, .int x), (2, .int b), (3, .int (nI j))] := by rw [← e_27]; exact hl
                  have e_28 : (nI (vmR (S 4) (fvG S (slM x b) fr to k j) h (S 15) (S 16) i).1) = (nI (vmR (S 4) (fvG S (slM x b) fr to k j) h (S 15) (S 16) (i + 1)).1) := (by rw [vmR_t ⟨by omega, ⟨fun _ => c116_22, fun _ => c105_7⟩, Or.inl c105_7⟩])
                  have e_29 : (vmR (S 4) (fvG S (slM x b) fr to k j) h (S 15) (S 16) i).2.1 = (vmR (S 4) (fvG S (slM x b) fr to k j) h (S 15) (S 16) (i + 1)).2.1 := (by rw [vmR_t ⟨by omega, ⟨fun _ => c116_22, fun _ => c105_7⟩, Or.inl c105_7⟩])
                  have e_30 : (vmR (S 4) (fvG S (slM x b) fr to k j) h (S 15) (S 16) i).2.2 = (vmR (S 4) (fvG S (slM x b) fr to k j) h (S 15) (S 16) (i + 1)).2.2 := (by rw [vmR_t ⟨by omega, ⟨fun _ => c116_22, fun _ => c105_7⟩, Or.inl c105_7⟩])
                  have hP : va_P D clW (wM cy ad (va_up (va_up I 0 0) 10 (nI (vmR (S 4) (fvG S (slM x b) fr to k j) h (S 15) (S 16) (i + 1)).1)) (va_up (va_up (va_up S 10 (lkN (va_up (va_up (va_up S 10 f1) 15 (vmR (S 4) (fvG S (slM x b) fr to k j) h (S 15) (S 16) i).2.1) 16 (vmR (S 4) (fvG S (slM x b) fr to k j) h (S 15) (S 16) i).2.2) (slM x b) (nI (h + i)) fr to f1 k)) 15 (vmR (S 4) (fvG S (slM x b) fr to k j) h (S 15) (S 16) (i + 1)).2.1) 16 (vmR (S 4) (fvG S (slM x b) fr to k j) h (S 15) (S 16) (i + 1)).2.2)) H := by rw [← e_28, ← e_29, ← e_30]; exact hP
                  have hD : va_D A (wM cy ad (va_up (va_up I 0 0) 10 (nI (vmR (S 4) (fvG S (slM x b) fr to k j) h (S 15) (S 16) (i + 1)).1)) (va_up (va_up (va_up S 10 (lkN (va_up (va_up (va_up S 10 f1) 15 (vmR (S 4) (fvG S (slM x b) fr to k j) h (S 15) (S 16) i).2.1) 16 (vmR (S 4) (fvG S (slM x b) fr to k j) h (S 15) (S 16) i).2.2) (slM x b) (nI (h + i)) fr to f1 k)) 15 (vmR (S 4) (fvG S (slM x b) fr to k j) h (S 15) (S 16) (i + 1)).2.1) 16 (vmR (S 4) (fvG S (slM x b) fr to k j) h (S 15) (S 16) (i + 1)).2.2)) := hD.addr rfl
                  exact ih48 (i + 1) (lkN (va_up (va_up (va_up S 10 f1) 15 (vmR (S 4) (fvG S (slM x b) fr to k j) h (S 15) (S 16) i).2.1) 16 (vmR (S 4) (fvG S (slM x b) fr to k j) h (S 15) (S 16) i).2.2) (slM x b) (nI (h + i)) fr to f1 k) (by omega) (by omega) _ _ hP hD hS ls (lv_sub hl [0, 4, 5, 6, 7] rfl)
            · have f75_6 : (vmR (S 4) (fvG S (slM x b) fr to k j) h (S 15) (S 16) i).1 = 0 := nt_eq (a := (vmR (S 4) (fvG S (slM x b) fr to k j) h (S 15) (S 16) i).1) (b := 0) (by omega) (by omega) c75_6
              refine lv_iconst (v := (-1)) hx hb dX7_findsVersions_78 (by decide) ?_
              refine lv_goto (tgt := 93) hx hb dX7_findsVersions_79 (by decide) ?_
              refine lv_istore (lv' := [(6, .int (-1)), (5, .int (fvG S (slM x b) fr to k j (h + i))), (4, .int (nI (h + i))), (0, .ref (ad 0)), (1, .int x), (2, .int b), (3, .int (nI j))]) hx hb dX7_findsVersions_93 hl (by decide) rfl (fun ls hl => ?_)
              have elm : lastM (vmR (S 4) (fvG S (slM x b) fr to k j) h (S 15) (S 16) i) = (-1) := if_pos f75_6
              have hl : lv_has ls 8 [(6, .int (lastM (vmR (S 4) (fvG S (slM x b) fr to k j) h (S 15) (S 16) i))), (5, .int (fvG S (slM x b) fr to k j (h + i))), (4, .int (nI (h + i))), (0, .ref (ad 0)), (1, .int x), (2, .int b), (3, .int (nI j))] := by rw [elm]; exact hl
              refine lv_aload_n hx hb dX7_findsVersions_95 rfl (lv_at hl 3 rfl) ?_
              refine gf_X7_180 hx hb hts hown hK hP 0 rfl (v := .int (nI (vmR (S 4) (fvG S (slM x b) fr to k j) h (S 15) (S 16) i).1)) rfl dX7_findsVersions_96 ?_
              refine lv_if_le (tgt := 154) hx hb dX7_findsVersions_99 (by decide) (fun _ => ?_) (fun c => absurd (nd_le (a := (vmR (S 4) (fvG S (slM x b) fr to k j) h (S 15) (S 16) i).1) (b := 0) (by omega) (by omega) (by omega)) c)
              refine lv_iconst (v := 0) hx hb dX7_findsVersions_154 (by decide) ?_
              refine lv_istore (lv' := [(7, .int 0), (6, .int (lastM (vmR (S 4) (fvG S (slM x b) fr to k j) h (S 15) (S 16) i))), (5, .int (fvG S (slM x b) fr to k j (h + i))), (4, .int (nI (h + i))), (0, .ref (ad 0)), (1, .int x), (2, .int b), (3, .int (nI j))]) hx hb dX7_findsVersions_155 hl (by decide) rfl (fun ls hl => ?_)
              refine lv_iload hx hb dX7_findsVersions_157 (lv_at hl 0 rfl) ?_
              refine lv_if_ne (tgt := 194) hx hb dX7_findsVersions_159 (by decide) (fun c => absurd (by decide) c) (fun _ => ?_)
              refine lv_aload_n hx hb dX7_findsVersions_162 rfl (lv_at hl 4 rfl) ?_
              refine gf_X7_54 hx hb hts hown hK hP 0 rfl (v := .ref (ad 15)) rfl dX7_findsVersions_163 ?_
              refine lv_aload_n hx hb dX7_findsVersions_166 rfl (lv_at hl 4 rfl) ?_
              refine gf_X7_180 hx hb hts hown hK hP 0 rfl (v := .int (nI (vmR (S 4) (fvG S (slM x b) fr to k j) h (S 15) (S 16) i).1)) rfl dX7_findsVersions_167 ?_
              refine lv_iload hx hb dX7_findsVersions_170 (lv_at hl 3 rfl) ?_
              refine ast_I hx hb hK hP hD hS 15 rfl (i := (vmR (S 4) (fvG S (slM x b) fr to k j) h (S 15) (S 16) i).1) (x := (nI (h + i))) (by omega) (by decide) dX7_findsVersions_172 (fun H locs hP hD hS => ?_)
              have hP : va_P D clW (wM cy ad (va_up (va_up I 0 0) 10 (nI (vmR (S 4) (fvG S (slM x b) fr to k j) h (S 15) (S 16) i).1)) (va_up (va_up (va_up S 16 (vmR (S 4) (fvG S (slM x b) fr to k j) h (S 15) (S 16) i).2.2) 10 (lkN (va_up (va_up (va_up S 10 f1) 15 (vmR (S 4) (fvG S (slM x b) fr to k j) h (S 15) (S 16) i).2.1) 16 (vmR (S 4) (fvG S (slM x b) fr to k j) h (S 15) (S 16) i).2.2) (slM x b) (nI (h + i)) fr to f1 k)) 15 (upd (vmR (S 4) (fvG S (slM x b) fr to k j) h (S 15) (S 16) i).2.1 (vmR (S 4) (fvG S (slM x b) fr to k j) h (S 15) (S 16) i).1 (nI (h + i))))) H := hP
              have hD : va_D A (wM cy ad (va_up (va_up I 0 0) 10 (nI (vmR (S 4) (fvG S (slM x b) fr to k j) h (S 15) (S 16) i).1)) (va_up (va_up (va_up S 16 (vmR (S 4) (fvG S (slM x b) fr to k j) h (S 15) (S 16) i).2.2) 10 (lkN (va_up (va_up (va_up S 10 f1) 15 (vmR (S 4) (fvG S (slM x b) fr to k j) h (S 15) (S 16) i).2.1) 16 (vmR (S 4) (fvG S (slM x b) fr to k j) h (S 15) (S 16) i).2.2) (slM x b) (nI (h + i)) fr to f1 k)) 15 (upd (vmR (S 4) (fvG S (slM x b) fr to k j) h (S 15) (S 16) i).2.1 (vmR (S 4) (fvG S (slM x b) fr to k j) h (S 15) (S 16) i).1 (nI (h + i))))) := hD
              refine lv_aload_n hx hb dX7_findsVersions_173 rfl (lv_at hl 4 rfl) ?_
              refine gf_X7_57 hx hb hts hown hK hP 0 rfl (v := .ref (ad 16)) rfl dX7_findsVersions_174 ?_
              refine lv_aload_n hx hb dX7_findsVersions_177 rfl (lv_at hl 4 rfl) ?_
              refine gf_X7_180 hx hb hts hown hK hP 0 rfl (v := .int (nI (vmR (S 4) (fvG S (slM x b) fr to k j) h (S 15) (S 16) i).1)) rfl dX7_findsVersions_178 ?_
              refine lv_iload hx hb dX7_findsVersions_181 (lv_at hl 2 rfl) ?_
              refine ast_I hx hb hK hP hD hS 16 rfl (i := (vmR (S 4) (fvG S (slM x b) fr to k j) h (S 15) (S 16) i).1) (x := (fvG S (slM x b) fr to k j (h + i))) (by omega) (by decide) dX7_findsVersions_183 (fun H locs hP hD hS => ?_)
              have hP : va_P D clW (wM cy ad (va_up (va_up I 0 0) 10 (nI (vmR (S 4) (fvG S (slM x b) fr to k j) h (S 15) (S 16) i).1)) (va_up (va_up (va_up S 10 (lkN (va_up (va_up (va_up S 10 f1) 15 (vmR (S 4) (fvG S (slM x b) fr to k j) h (S 15) (S 16) i).2.1) 16 (vmR (S 4) (fvG S (slM x b) fr to k j) h (S 15) (S 16) i).2.2) (slM x b) (nI (h + i)) fr to f1 k)) 15 (upd (vmR (S 4) (fvG S (slM x b) fr to k j) h (S 15) (S 16) i).2.1 (vmR (S 4) (fvG S (slM x b) fr to k j) h (S 15) (S 16) i).1 (nI (h + i)))) 16 (upd (vmR (S 4) (fvG S (slM x b) fr to k j) h (S 15) (S 16) i).2.2 (vmR (S 4) (fvG S (slM x b) fr to k j) h (S 15) (S 16) i).1 (fvG S (slM x b) fr to k j (h + i))))) H := hP
              have hD : va_D A (wM cy ad (va_up (va_up I 0 0) 10 (nI (vmR (S 4) (fvG S (slM x b) fr to k j) h (S 15) (S 16) i).1)) (va_up (va_up (va_up S 10 (lkN (va_up (va_up (va_up S 10 f1) 15 (vmR (S 4) (fvG S (slM x b) fr to k j) h (S 15) (S 16) i).2.1) 16 (vmR (S 4) (fvG S (slM x b) fr to k j) h (S 15) (S 16) i).2.2) (slM x b) (nI (h + i)) fr to f1 k)) 15 (upd (vmR (S 4) (fvG S (slM x b) fr to k j) h (S 15) (S 16) i).2.1 (vmR (S 4) (fvG S (slM x b) fr to k j) h (S 15) (S 16) i).1 (nI (h + i)))) 16 (upd (vmR (S 4) (fvG S (slM x b) fr to k j) h (S 15) (S 16) i).2.2 (vmR (S 4) (fvG S (slM x b) fr to k j) h (S 15) (S 16) i).1 (fvG S (slM x b) fr to k j (h + i))))) := hD
              refine lv_aload_n hx hb dX7_findsVersions_184 rfl (lv_at hl 4 rfl) ?_
              refine lv_dup hx hb dX7_findsVersions_185 rfl ?_
              refine gf_X7_180 hx hb hts hown hK hP 0 rfl (v := .int (nI (vmR (S 4) (fvG S (slM x b) fr to k j) h (S 15) (S 16) i).1)) rfl dX7_findsVersions_186 ?_
              refine lv_iconst (v := 1) hx hb dX7_findsVersions_189 (by decide) ?_
              refine lv_iadd hx hb dX7_findsVersions_190 ?_
              refine top_eq (y := nI ((vmR (S 4) (fvG S (slM x b) fr to k j) h (S 15) (S 16) i).1 + 1)) (nI_add (vmR (S 4) (fvG S (slM x b) fr to k j) h (S 15) (S 16) i).1 1) ?_
              refine pf_X7_180 hx hb hts hown hK hP hD hS 0 rfl (Nat.le_of_ble_eq_true rfl) dX7_findsVersions_191 (fun H locs hP hD hS => ?_)
              have hP : va_P D clW (wM cy ad (va_up (va_up I 0 0) 10 (nI ((vmR (S 4) (fvG S (slM x b) fr to k j) h (S 15) (S 16) i).1 + 1))) (va_up (va_up (va_up S 10 (lkN (va_up (va_up (va_up S 10 f1) 15 (vmR (S 4) (fvG S (slM x b) fr to k j) h (S 15) (S 16) i).2.1) 16 (vmR (S 4) (fvG S (slM x b) fr to k j) h (S 15) (S 16) i).2.2) (slM x b) (nI (h + i)) fr to f1 k)) 15 (upd (vmR (S 4) (fvG S (slM x b) fr to k j) h (S 15) (S 16) i).2.1 (vmR (S 4) (fvG S (slM x b) fr to k j) h (S 15) (S 16) i).1 (nI (h + i)))) 16 (upd (vmR (S 4) (fvG S (slM x b) fr to k j) h (S 15) (S 16) i).2.2 (vmR (S 4) (fvG S (slM x b) fr to k j) h (S 15) (S 16) i).1 (fvG S (slM x b) fr to k j (h + i))))) H := hP
              have hD : va_D A (wM cy ad (va_up (va_up I 0 0) 10 (nI ((vmR (S 4) (fvG S (slM x b) fr to k j) h (S 15) (S 16) i).1 + 1))) (va_up (va_up (va_up S 10 (lkN (va_up (va_up (va_up S 10 f1) 15 (vmR (S 4) (fvG S (slM x b) fr to k j) h (S 15) (S 16) i).2.1) 16 (vmR (S 4) (fvG S (slM x b) fr to k j) h (S 15) (S 16) i).2.2) (slM x b) (nI (h + i)) fr to f1 k)) 15 (upd (vmR (S 4) (fvG S (slM x b) fr to k j) h (S 15) (S 16) i).2.1 (vmR (S 4) (fvG S (slM x b) fr to k j) h (S 15) (S 16) i).1 (nI (h + i)))) 16 (upd (vmR (S 4) (fvG S (slM x b) fr to k j) h (S 15) (S 16) i).2.2 (vmR (S 4) (fvG S (slM x b) fr to k j) h (S 15) (S 16) i).1 (fvG S (slM x b) fr to k j (h + i))))) := hD
              refine lv_iinc (v := (nI ((h + i) + 1))) (lv' := [(4, .int (nI ((h + i) + 1))), (7, .int 0), (6, .int (lastM (vmR (S 4) (fvG S (slM x b) fr to k j) h (S 15) (S 16) i))), (5, .int (fvG S (slM x b) fr to k j (h + i))), (0, .ref (ad 0)), (1, .int x), (2, .int b), (3, .int (nI j))]) hx hb dX7_findsVersions_194 hl (k := 3) rfl (nI_1 (h + i)) (by decide) rfl (fun ls hl => ?_)
              refine lv_goto (tgt := 48) hx hb dX7_findsVersions_197 (by decide) ?_
              have e_31 : (nI ((h + i) + 1)) = (nI (h + (i + 1))) := rfl
              have hl : lv_has ls 8 [(4, .int (nI (h + (i + 1)))), (7, .int 0), (6, .int (lastM (vmR (S 4) (fvG S (slM x b) fr to k j) h (S 15) (S 16) i))), (5, .int (fvG S (slM x b) fr to k j (h + i))), (0, .ref (ad 0)), (1, .int x), (2, .int b), (3, .int (nI j))] := by rw [← e_31]; exact hl
              have e_32 : (nI ((vmR (S 4) (fvG S (slM x b) fr to k j) h (S 15) (S 16) i).1 + 1)) = (nI (vmR (S 4) (fvG S (slM x b) fr to k j) h (S 15) (S 16) (i + 1)).1) := (by rw [vmR_f (fun h9 => absurd h9.1 (by omega))])
              have e_33 : (upd (vmR (S 4) (fvG S (slM x b) fr to k j) h (S 15) (S 16) i).2.1 (vmR (S 4) (fvG S (slM x b) fr to k j) h (S 15) (S 16) i).1 (nI (h + i))) = (vmR (S 4) (fvG S (slM x b) fr to k j) h (S 15) (S 16) (i + 1)).2.1 := (by rw [vmR_f (fun h9 => absurd h9.1 (by omega))])
              have e_34 : (upd (vmR (S 4) (fvG S (slM x b) fr to k j) h (S 15) (S 16) i).2.2 (vmR (S 4) (fvG S (slM x b) fr to k j) h (S 15) (S 16) i).1 (fvG S (slM x b) fr to k j (h + i))) = (vmR (S 4) (fvG S (slM x b) fr to k j) h (S 15) (S 16) (i + 1)).2.2 := (by rw [vmR_f (fun h9 => absurd h9.1 (by omega))])
              have hP : va_P D clW (wM cy ad (va_up (va_up I 0 0) 10 (nI (vmR (S 4) (fvG S (slM x b) fr to k j) h (S 15) (S 16) (i + 1)).1)) (va_up (va_up (va_up S 10 (lkN (va_up (va_up (va_up S 10 f1) 15 (vmR (S 4) (fvG S (slM x b) fr to k j) h (S 15) (S 16) i).2.1) 16 (vmR (S 4) (fvG S (slM x b) fr to k j) h (S 15) (S 16) i).2.2) (slM x b) (nI (h + i)) fr to f1 k)) 15 (vmR (S 4) (fvG S (slM x b) fr to k j) h (S 15) (S 16) (i + 1)).2.1) 16 (vmR (S 4) (fvG S (slM x b) fr to k j) h (S 15) (S 16) (i + 1)).2.2)) H := by rw [← e_32, ← e_33, ← e_34]; exact hP
              have hD : va_D A (wM cy ad (va_up (va_up I 0 0) 10 (nI (vmR (S 4) (fvG S (slM x b) fr to k j) h (S 15) (S 16) (i + 1)).1)) (va_up (va_up (va_up S 10 (lkN (va_up (va_up (va_up S 10 f1) 15 (vmR (S 4) (fvG S (slM x b) fr to k j) h (S 15) (S 16) i).2.1) 16 (vmR (S 4) (fvG S (slM x b) fr to k j) h (S 15) (S 16) i).2.2) (slM x b) (nI (h + i)) fr to f1 k)) 15 (vmR (S 4) (fvG S (slM x b) fr to k j) h (S 15) (S 16) (i + 1)).2.1) 16 (vmR (S 4) (fvG S (slM x b) fr to k j) h (S 15) (S 16) (i + 1)).2.2)) := hD.addr rfl
              exact ih48 (i + 1) (lkN (va_up (va_up (va_up S 10 f1) 15 (vmR (S 4) (fvG S (slM x b) fr to k j) h (S 15) (S 16) i).2.1) 16 (vmR (S 4) (fvG S (slM x b) fr to k j) h (S 15) (S 16) i).2.2) (slM x b) (nI (h + i)) fr to f1 k) (by omega) (by omega) _ _ hP hD hS ls (lv_sub hl [0, 4, 5, 6, 7] rfl)
      have e_35 : (0 : Int32) = (nI (vmR (S 4) (fvG S (slM x b) fr to k j) h (S 15) (S 16) 0).1) := rfl
      have e_36 : (S 15) = (vmR (S 4) (fvG S (slM x b) fr to k j) h (S 15) (S 16) 0).2.1 := rfl
      have e_37 : (S 16) = (vmR (S 4) (fvG S (slM x b) fr to k j) h (S 15) (S 16) 0).2.2 := rfl
      have hP : va_P D clW (wM cy ad (va_up (va_up I 0 0) 10 (nI (vmR (S 4) (fvG S (slM x b) fr to k j) h (S 15) (S 16) 0).1)) (va_up (va_up (va_up S 10 (S 10)) 15 (vmR (S 4) (fvG S (slM x b) fr to k j) h (S 15) (S 16) 0).2.1) 16 (vmR (S 4) (fvG S (slM x b) fr to k j) h (S 15) (S 16) 0).2.2)) H := by rw [← e_35, ← e_36, ← e_37]; exact hP
      have hD : va_D A (wM cy ad (va_up (va_up I 0 0) 10 (nI (vmR (S 4) (fvG S (slM x b) fr to k j) h (S 15) (S 16) 0).1)) (va_up (va_up (va_up S 10 (S 10)) 15 (vmR (S 4) (fvG S (slM x b) fr to k j) h (S 15) (S 16) 0).2.1) 16 (vmR (S 4) (fvG S (slM x b) fr to k j) h (S 15) (S 16) 0).2.2)) := hD.addr rfl
      exact L48 ((n + 1 - h) + 1) 0 (S 10) (by omega) (by omega) _ _ hP hD hS ls (lv_sub hl [0, 1, 2, 3, 4] rfl)
    · refine lv_if_ne (tgt := 28) hx hb dX7_findsVersions_21 (by decide) (fun c => absurd (by decide) c) (fun _ => ?_)
      refine lv_iconst (v := 2) hx hb dX7_findsVersions_24 (by decide) ?_
      refine lv_goto (tgt := 29) hx hb dX7_findsVersions_25 (by decide) ?_
      refine wI_call (va_runV (As := [.int 2]) (rest := []) ⟨hx, hb, hml, hown, hts⟩ (c_X7_goesOn l D cy ad I S H.size 2) (cw_X7_71 hts rfl rfl ⟨Nat.le_of_ble_eq_true rfl, Nat.le_of_ble_eq_true rfl⟩) (preVW (ci := 7) (q0 := 0) hK hP hD rfl rfl) rfl rfl hl.1 rfl (lv_room (Nat.le_of_ble_eq_true rfl)) dX7_findsVersions_29 ⟨Nat.le_of_ble_eq_true rfl, Nat.le_of_ble_eq_true rfl⟩) hP hD hS hA [0, 1, 2, 3, 4, 5, 6, 7, 8, 9, 10, 11, 12, 13, 14, 15, 16] rfl [.inr 0, .inr 1, .inr 2, .inr 3, .inr 4, .inr 5, .inr 6, .inr 7, .inr 8, .inr 9, .inr 10, .inr 11, .inr 12, .inr 13, .inr 14, .inr 15, .inr 16] (by decide) (fun u => (wM cy ad (va_up I 0 2) S)) (fun _ => rfl) (fun _ => rfl) (fun r29_38 u29_38 H locs q29_38 hP hD hS hkp => ?_)
      have hP : va_P D clW (wM cy ad (va_up I 0 2) S) H := hP
      have hD : va_D A (wM cy ad (va_up I 0 2) S) := hD
      rw [if_neg (by decide)] at q29_38
      subst q29_38
      refine lv_if_ne (tgt := 37) hx hb dX7_findsVersions_32 (by decide) (fun c => absurd (by decide) c) (fun _ => ?_)
      refine lv_iconst (v := 0) hx hb dX7_findsVersions_35 (by decide) ?_
      exact wZ_ret ((va_up I 0 2), S) hS hP hx hb hr hlocks dX7_findsVersions_36 narZ0 (Nat.le_of_ble_eq_true rfl) (Nat.le_of_ble_eq_true rfl) hQ (Or.inr ⟨by rw [show qmC I x b d = 2 from (by simp [qmC, b4_1, b18_2])]; decide, rfl, by rw [show qmC I x b d = 2 from (by simp [qmC, b4_1, b18_2])], rfl⟩)
  · refine lv_if_ne (tgt := 14) hx hb dX7_findsVersions_7 (by decide) (fun c => absurd (by decide) c) (fun _ => ?_)
    refine lv_iconst (v := 1) hx hb dX7_findsVersions_10 (by decide) ?_
    refine lv_goto (tgt := 29) hx hb dX7_findsVersions_11 (by decide) ?_
    refine wI_call (va_runV (As := [.int 1]) (rest := []) ⟨hx, hb, hml, hown, hts⟩ (c_X7_goesOn l D cy ad I S H.size 1) (cw_X7_71 hts rfl rfl ⟨Nat.le_of_ble_eq_true rfl, Nat.le_of_ble_eq_true rfl⟩) (preVW (ci := 7) (q0 := 0) hK hP hD rfl rfl) rfl rfl hl.1 rfl (lv_room (Nat.le_of_ble_eq_true rfl)) dX7_findsVersions_29 ⟨Nat.le_of_ble_eq_true rfl, Nat.le_of_ble_eq_true rfl⟩) hP hD hS hA [0, 1, 2, 3, 4, 5, 6, 7, 8, 9, 10, 11, 12, 13, 14, 15, 16] rfl [.inr 0, .inr 1, .inr 2, .inr 3, .inr 4, .inr 5, .inr 6, .inr 7, .inr 8, .inr 9, .inr 10, .inr 11, .inr 12, .inr 13, .inr 14, .inr 15, .inr 16] (by decide) (fun u => (wM cy ad (va_up I 0 1) S)) (fun _ => rfl) (fun _ => rfl) (fun r29_39 u29_39 H locs q29_39 hP hD hS hkp => ?_)
    have hP : va_P D clW (wM cy ad (va_up I 0 1) S) H := hP
    have hD : va_D A (wM cy ad (va_up I 0 1) S) := hD
    rw [if_neg (by decide)] at q29_39
    subst q29_39
    refine lv_if_ne (tgt := 37) hx hb dX7_findsVersions_32 (by decide) (fun c => absurd (by decide) c) (fun _ => ?_)
    refine lv_iconst (v := 0) hx hb dX7_findsVersions_35 (by decide) ?_
    exact wZ_ret ((va_up I 0 1), S) hS hP hx hb hr hlocks dX7_findsVersions_36 narZ0 (Nat.le_of_ble_eq_true rfl) (Nat.le_of_ble_eq_true rfl) hQ (Or.inr ⟨by rw [show qmC I x b d = 1 from (by simp [qmC, b4_1])]; decide, rfl, by rw [show qmC I x b d = 1 from (by simp [qmC, b4_1])], rfl⟩)

set_option maxHeartbeats 4000000 in
set_option maxRecDepth 100000 in
theorem c_X7_findsVersion (l : Launch) (D : va_G) (cy : Nat → ClassId) (ad : Nat → Nat) (I : AI) (S : AS) (sz : Nat) (x : Int32) (b : Int32) (d : Int32) (ix : Int32) (k : Nat) (hk : I 3 = nI k) (hk8 : k ≤ 256) (fr : Nat → Nat) (to : Nat → Nat) (hfr : ∀ i : Nat, i < k → S 5 i = nI (fr i) ∧ S 6 i = nI (to i) ∧ fr i ≤ to i ∧ to i ≤ 100) (n : Nat) (hn : I 2 = nI n) (hn6 : n ≤ 60) (h : Nat) (hh : I 5 = nI h) (hhn : h ≤ n) : Met l yX7_findsVersion (Cond.code yX7_findsVersion cX7_findsVersion 5 (some .boolean) :: wsL_law) ({ frames := 3, cells := 0, slots := 0, locals := 76 }) (va_Pc [.ref (ad 0), .int x, .int b, .int d, .int ix] (wrB D cy (wM cy ad I S) sz)) (va_Qi (S := AI × AS) (fun r u => (qmC I x b d = 0 ∧ ∃ (f1 : Nat → Int32) (j : Nat), j < 100 ∧ d = nI j ∧  inB ix 0 (nI (vmQ S (slM x b) fr to k j h n).1 - 1) = true ∧ r = 1 ∧ u.1 = (va_up (va_up I 10 (nI (vmQ S (slM x b) fr to k j h n).1)) 0 0) ∧ u.2 = (va_up (va_up (va_up S 10 f1) 15 (vmQ S (slM x b) fr to k j h n).2.1) 16 (vmQ S (slM x b) fr to k j h n).2.2)) ∨ (qmC I x b d = 0 ∧ ∃ (f1 : Nat → Int32) (j : Nat), j < 100 ∧ d = nI j ∧  ¬ inB ix 0 (nI (vmQ S (slM x b) fr to k j h n).1 - 1) = true ∧ r = 0 ∧ u.1 = (va_up (va_up I 10 (nI (vmQ S (slM x b) fr to k j h n).1)) 0 3) ∧ u.2 = (va_up (va_up (va_up S 10 f1) 15 (vmQ S (slM x b) fr to k j h n).2.1) 16 (vmQ S (slM x b) fr to k j h n).2.2)) ∨ (¬ qmC I x b d = 0 ∧ r = 0 ∧ u.1 = (va_up I 0 (qmC I x b d)) ∧ S = u.2)) (fun u t9 => va_P D clW (wM cy ad u.1 u.2) t9.heap) (va_A (wM cy ad I S) sz)) 0 0 (va_A (wM cy ad I S) sz) := by
  refine enter (cc := cX7_findsVersion) (by decide) (Nat.le_of_ble_eq_true rfl) ?_
  intro p e s m below meth c hx hb hr hml hown hts hlocks hin hv Q hQ ls hl
  obtain ⟨hsz, hP, hK, hD0⟩ := hv
  subst hsz
  have hD := hD0.self (sz := s.heap.size)
  generalize hAe : va_A (wM cy ad I S) s.heap.size = A at hD hQ ⊢
  have hA : ∀ q : Nat, s.heap.size ≤ q → A q := fun q h => by rw [← hAe]; exact Or.inr h
  have hS : va_S A s.heap s.heap [] := va_S.rf
  suffices K_ : ∀ (H : Heap) (locs : List Loc), va_P D clW (wM cy ad I S) H → va_S A s.heap H locs → W p l e ({ frames := 3, cells := 0, slots := 0, locals := 76 }) s m ([.ref (ad 0), .int x, .int b, .int d, .int ix] : List Value).toArray below meth c H locs 0 0 Q (F0 m 0 ls []) from K_ _ _ hP hS
  clear hP hS
  intro H locs hP hS
  have hown : s.vm.findClass RX7 = some m.cls := hown
  have hl : lv_has ls 5 [(0, .ref (ad 0)), (1, .int x), (2, .int b), (3, .int d), (4, .int ix)] := hl
  refine lv_aload_n hx hb dX7_findsVersion_0 rfl (lv_at hl 0 rfl) ?_
  refine lv_iload_n hx hb dX7_findsVersion_1 rfl (lv_at hl 1 rfl) ?_
  refine lv_iload_n hx hb dX7_findsVersion_2 rfl (lv_at hl 2 rfl) ?_
  refine lv_iload_n hx hb dX7_findsVersion_3 rfl (lv_at hl 3 rfl) ?_
  refine wI_call (va_runV (As := [.int x, .int b, .int d]) (rest := []) ⟨hx, hb, hml, hown, hts⟩ (c_X7_findsVersions l D cy ad I S H.size x b d k hk hk8 fr to hfr n hn hn6 h hh hhn) (cw_X7_183 hts rfl rfl ⟨Nat.le_of_ble_eq_true rfl, Nat.le_of_ble_eq_true rfl⟩) (preVW (ci := 7) (q0 := 0) hK hP hD rfl rfl) rfl rfl hl.1 rfl (lv_room (Nat.le_of_ble_eq_true rfl)) dX7_findsVersion_4 ⟨Nat.le_of_ble_eq_true rfl, Nat.le_of_ble_eq_true rfl⟩) hP hD hS hA [0, 1, 2, 3, 4, 5, 6, 7, 8, 9, 10, 11, 12, 13, 14, 15, 16] rfl [.inr 0, .inr 1, .inr 2, .inr 3, .inr 4, .inr 5, .inr 6, .inr 7, .inr 8, .inr 9, .inr 10, .inr 11, .inr 12, .inr 13, .inr 14, .inr 15, .inr 16] (by decide) (fun u => (wM cy ad u.1 u.2)) (fun _ => rfl) (fun _ => rfl) (fun r4_1 u4_1 H locs q4_1 hP hD hS hkp => ?_)
  obtain ⟨I2_1, S2_1⟩ := u4_1
  have hP : va_P D clW (wM cy ad I2_1 S2_1) H := hP
  have hD : va_D A (wM cy ad I2_1 S2_1) := hD
  rcases q4_1 with ⟨hcd, rfl, f1, j, hj, hdj, rfl, rfl⟩ | ⟨hcd, rfl, rfl, rfl⟩
  · have hP : va_P D clW (wM cy ad (va_up (va_up I 0 0) 10 (nI (vmQ S (slM x b) fr to k j h n).1)) (va_up (va_up (va_up S 10 f1) 15 (vmQ S (slM x b) fr to k j h n).2.1) 16 (vmQ S (slM x b) fr to k j h n).2.2)) H := hP
    have hD : va_D A (wM cy ad (va_up (va_up I 0 0) 10 (nI (vmQ S (slM x b) fr to k j h n).1)) (va_up (va_up (va_up S 10 f1) 15 (vmQ S (slM x b) fr to k j h n).2.1) 16 (vmQ S (slM x b) fr to k j h n).2.2)) := hD
    refine lv_if_eq (tgt := 41) hx hb dX7_findsVersion_7 (by decide) (fun c => absurd c (by decide)) (fun _ => ?_)
    refine lv_aload_n hx hb dX7_findsVersion_10 rfl (lv_at hl 0 rfl) ?_
    refine lv_iload hx hb dX7_findsVersion_11 (lv_at hl 4 rfl) ?_
    refine lv_iconst (v := 0) hx hb dX7_findsVersion_13 (by decide) ?_
    refine lv_aload_n hx hb dX7_findsVersion_14 rfl (lv_at hl 0 rfl) ?_
    refine gf_X7_180 hx hb hts hown hK hP 0 rfl (v := .int (nI (vmQ S (slM x b) fr to k j h n).1)) rfl dX7_findsVersion_15 ?_
    refine lv_iconst (v := 1) hx hb dX7_findsVersion_18 (by decide) ?_
    refine lv_isub hx hb dX7_findsVersion_19 ?_
    refine rZ_call (P := inB ix 0 ((nI (vmQ S (slM x b) fr to k j h n).1) - 1) = true) (va_runS (As := [.int ix, .int 0, .int ((nI (vmQ S (slM x b) fr to k j h n).1) - 1)]) (rest := [.ref (ad 0)]) ⟨hx, hb, hml, hown, hts⟩ (c_X7_in l D cy ix 0 ((nI (vmQ S (slM x b) fr to k j h n).1) - 1)) (cw_X7_67 hts rfl rfl ⟨Nat.le_of_ble_eq_true rfl, Nat.le_of_ble_eq_true rfl⟩) (preSR hK (hP.sub [] rfl)) rfl rfl hl.1 rfl (lv_room (Nat.le_of_ble_eq_true rfl)) dX7_findsVersion_20 ⟨Nat.le_of_ble_eq_true rfl, Nat.le_of_ble_eq_true rfl⟩) (fun b20_2 => ?_) (fun b20_2 => ?_)
    · refine lv_if_eq (tgt := 30) hx hb dX7_findsVersion_23 (by decide) (fun c => absurd c (by decide)) (fun _ => ?_)
      refine lv_iconst (v := 0) hx hb dX7_findsVersion_26 (by decide) ?_
      refine lv_goto (tgt := 31) hx hb dX7_findsVersion_27 (by decide) ?_
      refine wI_call (va_runV (As := [.int 0]) (rest := []) ⟨hx, hb, hml, hown, hts⟩ (c_X7_goesOn l D cy ad (va_up (va_up I 0 0) 10 (nI (vmQ S (slM x b) fr to k j h n).1)) (va_up (va_up (va_up S 10 f1) 15 (vmQ S (slM x b) fr to k j h n).2.1) 16 (vmQ S (slM x b) fr to k j h n).2.2) H.size 0) (cw_X7_71 hts rfl rfl ⟨Nat.le_of_ble_eq_true rfl, Nat.le_of_ble_eq_true rfl⟩) (preVW (ci := 7) (q0 := 0) hK hP hD rfl rfl) rfl rfl hl.1 rfl (lv_room (Nat.le_of_ble_eq_true rfl)) dX7_findsVersion_31 ⟨Nat.le_of_ble_eq_true rfl, Nat.le_of_ble_eq_true rfl⟩) hP hD hS hA [0, 1, 2, 3, 4, 5, 6, 7, 8, 9, 10, 11, 12, 13, 14, 15, 16] rfl [.inr 0, .inr 1, .inr 2, .inr 3, .inr 4, .inr 5, .inr 6, .inr 7, .inr 8, .inr 9, .inr 10, .inr 11, .inr 12, .inr 13, .inr 14, .inr 15, .inr 16] (by decide) (fun u => (wM cy ad (va_up (va_up I 10 (nI (vmQ S (slM x b) fr to k j h n).1)) 0 0) (va_up (va_up (va_up S 10 f1) 15 (vmQ S (slM x b) fr to k j h n).2.1) 16 (vmQ S (slM x b) fr to k j h n).2.2))) (fun _ => rfl) (fun _ => rfl) (fun r31_3 u31_3 H locs q31_3 hP hD hS hkp => ?_)
      have hP : va_P D clW (wM cy ad (va_up (va_up I 10 (nI (vmQ S (slM x b) fr to k j h n).1)) 0 0) (va_up (va_up (va_up S 10 f1) 15 (vmQ S (slM x b) fr to k j h n).2.1) 16 (vmQ S (slM x b) fr to k j h n).2.2)) H := hP
      have hD : va_D A (wM cy ad (va_up (va_up I 10 (nI (vmQ S (slM x b) fr to k j h n).1)) 0 0) (va_up (va_up (va_up S 10 f1) 15 (vmQ S (slM x b) fr to k j h n).2.1) 16 (vmQ S (slM x b) fr to k j h n).2.2)) := hD
      rw [if_pos rfl] at q31_3
      subst q31_3
      refine lv_if_eq (tgt := 41) hx hb dX7_findsVersion_34 (by decide) (fun c => absurd c (by decide)) (fun _ => ?_)
      refine lv_iconst (v := 1) hx hb dX7_findsVersion_37 (by decide) ?_
      refine lv_goto (tgt := 42) hx hb dX7_findsVersion_38 (by decide) ?_
      exact wZ_ret ((va_up (va_up I 10 (nI (vmQ S (slM x b) fr to k j h n).1)) 0 0), (va_up (va_up (va_up S 10 f1) 15 (vmQ S (slM x b) fr to k j h n).2.1) 16 (vmQ S (slM x b) fr to k j h n).2.2)) hS hP hx hb hr hlocks dX7_findsVersion_42 narZ1 (Nat.le_of_ble_eq_true rfl) (Nat.le_of_ble_eq_true rfl) hQ (Or.inl ⟨hcd, f1, j, hj, hdj, b20_2, rfl, rfl, rfl⟩)
    · refine lv_if_eq (tgt := 30) hx hb dX7_findsVersion_23 (by decide) (fun _ => ?_) (fun c => absurd (by decide) c)
      refine lv_iconst (v := 3) hx hb dX7_findsVersion_30 (by decide) ?_
      refine wI_call (va_runV (As := [.int 3]) (rest := []) ⟨hx, hb, hml, hown, hts⟩ (c_X7_goesOn l D cy ad (va_up (va_up I 0 0) 10 (nI (vmQ S (slM x b) fr to k j h n).1)) (va_up (va_up (va_up S 10 f1) 15 (vmQ S (slM x b) fr to k j h n).2.1) 16 (vmQ S (slM x b) fr to k j h n).2.2) H.size 3) (cw_X7_71 hts rfl rfl ⟨Nat.le_of_ble_eq_true rfl, Nat.le_of_ble_eq_true rfl⟩) (preVW (ci := 7) (q0 := 0) hK hP hD rfl rfl) rfl rfl hl.1 rfl (lv_room (Nat.le_of_ble_eq_true rfl)) dX7_findsVersion_31 ⟨Nat.le_of_ble_eq_true rfl, Nat.le_of_ble_eq_true rfl⟩) hP hD hS hA [0, 1, 2, 3, 4, 5, 6, 7, 8, 9, 10, 11, 12, 13, 14, 15, 16] rfl [.inr 0, .inr 1, .inr 2, .inr 3, .inr 4, .inr 5, .inr 6, .inr 7, .inr 8, .inr 9, .inr 10, .inr 11, .inr 12, .inr 13, .inr 14, .inr 15, .inr 16] (by decide) (fun u => (wM cy ad (va_up (va_up I 10 (nI (vmQ S (slM x b) fr to k j h n).1)) 0 3) (va_up (va_up (va_up S 10 f1) 15 (vmQ S (slM x b) fr to k j h n).2.1) 16 (vmQ S (slM x b) fr to k j h n).2.2))) (fun _ => rfl) (fun _ => rfl) (fun r31_4 u31_4 H locs q31_4 hP hD hS hkp => ?_)
      have hP : va_P D clW (wM cy ad (va_up (va_up I 10 (nI (vmQ S (slM x b) fr to k j h n).1)) 0 3) (va_up (va_up (va_up S 10 f1) 15 (vmQ S (slM x b) fr to k j h n).2.1) 16 (vmQ S (slM x b) fr to k j h n).2.2)) H := hP
      have hD : va_D A (wM cy ad (va_up (va_up I 10 (nI (vmQ S (slM x b) fr to k j h n).1)) 0 3) (va_up (va_up (va_up S 10 f1) 15 (vmQ S (slM x b) fr to k j h n).2.1) 16 (vmQ S (slM x b) fr to k j h n).2.2)) := hD
      rw [if_neg (by decide)] at q31_4
      subst q31_4
      refine lv_if_eq (tgt := 41) hx hb dX7_findsVersion_34 (by decide) (fun _ => ?_) (fun c => absurd (by decide) c)
      refine lv_iconst (v := 0) hx hb dX7_findsVersion_41 (by decide) ?_
      exact wZ_ret ((va_up (va_up I 10 (nI (vmQ S (slM x b) fr to k j h n).1)) 0 3), (va_up (va_up (va_up S 10 f1) 15 (vmQ S (slM x b) fr to k j h n).2.1) 16 (vmQ S (slM x b) fr to k j h n).2.2)) hS hP hx hb hr hlocks dX7_findsVersion_42 narZ0 (Nat.le_of_ble_eq_true rfl) (Nat.le_of_ble_eq_true rfl) hQ (Or.inr (Or.inl ⟨hcd, f1, j, hj, hdj, b20_2, rfl, rfl, rfl⟩))
  · have hP : va_P D clW (wM cy ad (va_up I 0 (qmC I x b d)) S) H := hP
    have hD : va_D A (wM cy ad (va_up I 0 (qmC I x b d)) S) := hD
    refine lv_if_eq (tgt := 41) hx hb dX7_findsVersion_7 (by decide) (fun _ => ?_) (fun c => absurd (by decide) c)
    refine lv_iconst (v := 0) hx hb dX7_findsVersion_41 (by decide) ?_
    exact wZ_ret ((va_up I 0 (qmC I x b d)), S) hS hP hx hb hr hlocks dX7_findsVersion_42 narZ0 (Nat.le_of_ble_eq_true rfl) (Nat.le_of_ble_eq_true rfl) hQ (Or.inr (Or.inr ⟨hcd, rfl, rfl, rfl⟩))

set_option maxHeartbeats 4000000 in
set_option maxRecDepth 100000 in
theorem c_X7_versionCount (l : Launch) (D : va_G) (cy : Nat → ClassId) (ad : Nat → Nat) (I : AI) (S : AS) (sz : Nat) (x : Int32) (b : Int32) (d : Int32) (k : Nat) (hk : I 3 = nI k) (hk8 : k ≤ 256) (fr : Nat → Nat) (to : Nat → Nat) (hfr : ∀ i : Nat, i < k → S 5 i = nI (fr i) ∧ S 6 i = nI (to i) ∧ fr i ≤ to i ∧ to i ≤ 100) (n : Nat) (hn : I 2 = nI n) (hn6 : n ≤ 60) (h : Nat) (hh : I 5 = nI h) (hhn : h ≤ n) : Met l yX7_versionCount (Cond.code yX7_versionCount cX7_versionCount 4 (some .int) :: wsL_law) ({ frames := 3, cells := 0, slots := 0, locals := 76 }) (va_Pc [.ref (ad 0), .int x, .int b, .int d] (wrB D cy (wM cy ad I S) sz)) (va_Qi (S := AI × AS) (fun r u => msc I S u.1 u.2 ∧ (¬ qmC I x b d = 0 → u.1 0 = qmC I x b d) ∧ (qmC I x b d = 0 → u.1 0 = 0 ∧ ∃ j : Nat, j < 100 ∧ d = nI j ∧ r = nI (vmQ S (slM x b) fr to k j h n).1)) (fun u t9 => va_P D clW (wM cy ad u.1 u.2) t9.heap) (va_A (wM cy ad I S) sz)) 0 0 (va_A (wM cy ad I S) sz) := by
  refine enter (cc := cX7_versionCount) (by decide) (Nat.le_of_ble_eq_true rfl) ?_
  intro p e s m below meth c hx hb hr hml hown hts hlocks hin hv Q hQ ls hl
  obtain ⟨hsz, hP, hK, hD0⟩ := hv
  subst hsz
  have hD := hD0.self (sz := s.heap.size)
  generalize hAe : va_A (wM cy ad I S) s.heap.size = A at hD hQ ⊢
  have hA : ∀ q : Nat, s.heap.size ≤ q → A q := fun q h => by rw [← hAe]; exact Or.inr h
  have hS : va_S A s.heap s.heap [] := va_S.rf
  suffices K_ : ∀ (H : Heap) (locs : List Loc), va_P D clW (wM cy ad I S) H → va_S A s.heap H locs → W p l e ({ frames := 3, cells := 0, slots := 0, locals := 76 }) s m ([.ref (ad 0), .int x, .int b, .int d] : List Value).toArray below meth c H locs 0 0 Q (F0 m 0 ls []) from K_ _ _ hP hS
  clear hP hS
  intro H locs hP hS
  have hown : s.vm.findClass RX7 = some m.cls := hown
  have hl : lv_has ls 4 [(0, .ref (ad 0)), (1, .int x), (2, .int b), (3, .int d)] := hl
  refine lv_aload_n hx hb dX7_versionCount_0 rfl (lv_at hl 0 rfl) ?_
  refine lv_iload_n hx hb dX7_versionCount_1 rfl (lv_at hl 1 rfl) ?_
  refine lv_iload_n hx hb dX7_versionCount_2 rfl (lv_at hl 2 rfl) ?_
  refine lv_iload_n hx hb dX7_versionCount_3 rfl (lv_at hl 3 rfl) ?_
  refine wI_call (va_runV (As := [.int x, .int b, .int d]) (rest := []) ⟨hx, hb, hml, hown, hts⟩ (c_X7_findsVersions l D cy ad I S H.size x b d k hk hk8 fr to hfr n hn hn6 h hh hhn) (cw_X7_183 hts rfl rfl ⟨Nat.le_of_ble_eq_true rfl, Nat.le_of_ble_eq_true rfl⟩) (preVW (ci := 7) (q0 := 0) hK hP hD rfl rfl) rfl rfl hl.1 rfl (lv_room (Nat.le_of_ble_eq_true rfl)) dX7_versionCount_4 ⟨Nat.le_of_ble_eq_true rfl, Nat.le_of_ble_eq_true rfl⟩) hP hD hS hA [0, 1, 2, 3, 4, 5, 6, 7, 8, 9, 10, 11, 12, 13, 14, 15, 16] rfl [.inr 0, .inr 1, .inr 2, .inr 3, .inr 4, .inr 5, .inr 6, .inr 7, .inr 8, .inr 9, .inr 10, .inr 11, .inr 12, .inr 13, .inr 14, .inr 15, .inr 16] (by decide) (fun u => (wM cy ad u.1 u.2)) (fun _ => rfl) (fun _ => rfl) (fun r4_1 u4_1 H locs q4_1 hP hD hS hkp => ?_)
  obtain ⟨I2_1, S2_1⟩ := u4_1
  have hP : va_P D clW (wM cy ad I2_1 S2_1) H := hP
  have hD : va_D A (wM cy ad I2_1 S2_1) := hD
  rcases q4_1 with ⟨hcd, rfl, f1, j, hj, hdj, rfl, rfl⟩ | ⟨hcd, rfl, rfl, rfl⟩
  · have hP : va_P D clW (wM cy ad (va_up (va_up I 0 0) 10 (nI (vmQ S (slM x b) fr to k j h n).1)) (va_up (va_up (va_up S 10 f1) 15 (vmQ S (slM x b) fr to k j h n).2.1) 16 (vmQ S (slM x b) fr to k j h n).2.2)) H := hP
    have hD : va_D A (wM cy ad (va_up (va_up I 0 0) 10 (nI (vmQ S (slM x b) fr to k j h n).1)) (va_up (va_up (va_up S 10 f1) 15 (vmQ S (slM x b) fr to k j h n).2.1) 16 (vmQ S (slM x b) fr to k j h n).2.2)) := hD
    refine lv_if_eq (tgt := 17) hx hb dX7_versionCount_7 (by decide) (fun c => absurd c (by decide)) (fun _ => ?_)
    refine lv_aload_n hx hb dX7_versionCount_10 rfl (lv_at hl 0 rfl) ?_
    refine gf_X7_180 hx hb hts hown hK hP 0 rfl (v := .int (nI (vmQ S (slM x b) fr to k j h n).1)) rfl dX7_versionCount_11 ?_
    refine lv_goto (tgt := 18) hx hb dX7_versionCount_14 (by decide) ?_
    exact wI_ret ((va_up (va_up I 0 0) 10 (nI (vmQ S (slM x b) fr to k j h n).1)), (va_up (va_up (va_up S 10 f1) 15 (vmQ S (slM x b) fr to k j h n).2.1) 16 (vmQ S (slM x b) fr to k j h n).2.2)) hS hP hx hb hr hlocks dX7_versionCount_18 (Nat.le_of_ble_eq_true rfl) (Nat.le_of_ble_eq_true rfl) hQ ⟨(msc_S (msc_S (msc_S (msc_I (msc_I (msc_0 I S) (by decide) _) (by decide) _) (by decide) _) (by decide) _) (by decide) _), fun q => absurd hcd q, fun _ => ⟨rfl, j, hj, hdj, rfl⟩⟩
  · have hP : va_P D clW (wM cy ad (va_up I 0 (qmC I x b d)) S) H := hP
    have hD : va_D A (wM cy ad (va_up I 0 (qmC I x b d)) S) := hD
    refine lv_if_eq (tgt := 17) hx hb dX7_versionCount_7 (by decide) (fun _ => ?_) (fun c => absurd (by decide) c)
    refine lv_iconst (v := 0) hx hb dX7_versionCount_17 (by decide) ?_
    exact wI_ret ((va_up I 0 (qmC I x b d)), S) hS hP hx hb hr hlocks dX7_versionCount_18 (Nat.le_of_ble_eq_true rfl) (Nat.le_of_ble_eq_true rfl) hQ ⟨(msc_I (msc_0 I S) (by decide) _), fun _ => rfl, fun q => absurd q hcd⟩

set_option maxHeartbeats 4000000 in
set_option maxRecDepth 100000 in
theorem c_X7_versionTick (l : Launch) (D : va_G) (cy : Nat → ClassId) (ad : Nat → Nat) (I : AI) (S : AS) (sz : Nat) (x : Int32) (b : Int32) (d : Int32) (ix : Int32) (k : Nat) (hk : I 3 = nI k) (hk8 : k ≤ 256) (fr : Nat → Nat) (to : Nat → Nat) (hfr : ∀ i : Nat, i < k → S 5 i = nI (fr i) ∧ S 6 i = nI (to i) ∧ fr i ≤ to i ∧ to i ≤ 100) (n : Nat) (hn : I 2 = nI n) (hn6 : n ≤ 60) (h : Nat) (hh : I 5 = nI h) (hhn : h ≤ n) : Met l yX7_versionTick (Cond.code yX7_versionTick cX7_versionTick 5 (some .int) :: wsL_law) ({ frames := 4, cells := 0, slots := 0, locals := 100 }) (va_Pc [.ref (ad 0), .int x, .int b, .int d, .int ix] (wrB D cy (wM cy ad I S) sz)) (va_Qi (S := AI × AS) (fun r u => msc I S u.1 u.2 ∧ (¬ qmC I x b d = 0 → u.1 0 = qmC I x b d) ∧ (qmC I x b d = 0 → ∃ j : Nat, j < 100 ∧ d = nI j ∧ ((inB ix 0 (nI (vmQ S (slM x b) fr to k j h n).1 - 1) = true ∧ u.1 0 = 0 ∧ r = (vmQ S (slM x b) fr to k j h n).2.1 ix.toNatClampNeg) ∨ (¬ inB ix 0 (nI (vmQ S (slM x b) fr to k j h n).1 - 1) = true ∧ u.1 0 = 3)))) (fun u t9 => va_P D clW (wM cy ad u.1 u.2) t9.heap) (va_A (wM cy ad I S) sz)) 0 0 (va_A (wM cy ad I S) sz) := by
  refine enter (cc := cX7_versionTick) (by decide) (Nat.le_of_ble_eq_true rfl) ?_
  intro p e s m below meth c hx hb hr hml hown hts hlocks hin hv Q hQ ls hl
  obtain ⟨hsz, hP, hK, hD0⟩ := hv
  subst hsz
  have hD := hD0.self (sz := s.heap.size)
  generalize hAe : va_A (wM cy ad I S) s.heap.size = A at hD hQ ⊢
  have hA : ∀ q : Nat, s.heap.size ≤ q → A q := fun q h => by rw [← hAe]; exact Or.inr h
  have hS : va_S A s.heap s.heap [] := va_S.rf
  suffices K_ : ∀ (H : Heap) (locs : List Loc), va_P D clW (wM cy ad I S) H → va_S A s.heap H locs → W p l e ({ frames := 4, cells := 0, slots := 0, locals := 100 }) s m ([.ref (ad 0), .int x, .int b, .int d, .int ix] : List Value).toArray below meth c H locs 0 0 Q (F0 m 0 ls []) from K_ _ _ hP hS
  clear hP hS
  intro H locs hP hS
  have hown : s.vm.findClass RX7 = some m.cls := hown
  have hl : lv_has ls 5 [(0, .ref (ad 0)), (1, .int x), (2, .int b), (3, .int d), (4, .int ix)] := hl
  refine lv_aload_n hx hb dX7_versionTick_0 rfl (lv_at hl 0 rfl) ?_
  refine lv_iload_n hx hb dX7_versionTick_1 rfl (lv_at hl 1 rfl) ?_
  refine lv_iload_n hx hb dX7_versionTick_2 rfl (lv_at hl 2 rfl) ?_
  refine lv_iload_n hx hb dX7_versionTick_3 rfl (lv_at hl 3 rfl) ?_
  refine lv_iload hx hb dX7_versionTick_4 (lv_at hl 4 rfl) ?_
  refine wI_call (va_runV (As := [.int x, .int b, .int d, .int ix]) (rest := []) ⟨hx, hb, hml, hown, hts⟩ (c_X7_findsVersion l D cy ad I S H.size x b d ix k hk hk8 fr to hfr n hn hn6 h hh hhn) (cw_X7_186 hts rfl rfl ⟨Nat.le_of_ble_eq_true rfl, Nat.le_of_ble_eq_true rfl⟩) (preVW (ci := 7) (q0 := 0) hK hP hD rfl rfl) rfl rfl hl.1 rfl (lv_room (Nat.le_of_ble_eq_true rfl)) dX7_versionTick_6 ⟨Nat.le_of_ble_eq_true rfl, Nat.le_of_ble_eq_true rfl⟩) hP hD hS hA [0, 1, 2, 3, 4, 5, 6, 7, 8, 9, 10, 11, 12, 13, 14, 15, 16] rfl [.inr 0, .inr 1, .inr 2, .inr 3, .inr 4, .inr 5, .inr 6, .inr 7, .inr 8, .inr 9, .inr 10, .inr 11, .inr 12, .inr 13, .inr 14, .inr 15, .inr 16] (by decide) (fun u => (wM cy ad u.1 u.2)) (fun _ => rfl) (fun _ => rfl) (fun r6_1 u6_1 H locs q6_1 hP hD hS hkp => ?_)
  obtain ⟨I2_1, S2_1⟩ := u6_1
  have hP : va_P D clW (wM cy ad I2_1 S2_1) H := hP
  have hD : va_D A (wM cy ad I2_1 S2_1) := hD
  rcases q6_1 with ⟨hcd, f1, j, hj, hdj, hix, rfl, rfl, rfl⟩ | ⟨hcd, f1, j, hj, hdj, hix, rfl, rfl, rfl⟩ | ⟨hcd, rfl, rfl, rfl⟩
  · have hP : va_P D clW (wM cy ad (va_up (va_up I 10 (nI (vmQ S (slM x b) fr to k j h n).1)) 0 0) (va_up (va_up (va_up S 10 f1) 15 (vmQ S (slM x b) fr to k j h n).2.1) 16 (vmQ S (slM x b) fr to k j h n).2.2)) H := hP
    have hD : va_D A (wM cy ad (va_up (va_up I 10 (nI (vmQ S (slM x b) fr to k j h n).1)) 0 0) (va_up (va_up (va_up S 10 f1) 15 (vmQ S (slM x b) fr to k j h n).2.1) 16 (vmQ S (slM x b) fr to k j h n).2.2)) := hD
    have hvl : (vmQ S (slM x b) fr to k j h n).1 ≤ 61 := Nat.le_trans (vmR_le (S 4) (fvG S (slM x b) fr to k j) h (S 15) (S 16) (n + 1 - h)) (by omega)
    obtain ⟨i, hi, hxi⟩ := in_vp hix (n := 61) hvl (by decide)
    refine lv_if_eq (tgt := 22) hx hb dX7_versionTick_9 (by decide) (fun c => absurd c (by decide)) (fun _ => ?_)
    refine lv_aload_n hx hb dX7_versionTick_12 rfl (lv_at hl 0 rfl) ?_
    refine gf_X7_54 hx hb hts hown hK hP 0 rfl (v := .ref (ad 15)) rfl dX7_versionTick_13 ?_
    refine lv_iload hx hb dX7_versionTick_16 (lv_at hl 4 rfl) ?_
    refine ald_Ix (f := (vmQ S (slM x b) fr to k j h n).2.1) hx hb hK hP 15 rfl (by rw [hxi]; exact vp_in_nI (by omega) (by decide)) dX7_versionTick_18 ?_
    refine lv_goto (tgt := 23) hx hb dX7_versionTick_19 (by decide) ?_
    exact wI_ret ((va_up (va_up I 10 (nI (vmQ S (slM x b) fr to k j h n).1)) 0 0), (va_up (va_up (va_up S 10 f1) 15 (vmQ S (slM x b) fr to k j h n).2.1) 16 (vmQ S (slM x b) fr to k j h n).2.2)) hS hP hx hb hr hlocks dX7_versionTick_23 (Nat.le_of_ble_eq_true rfl) (Nat.le_of_ble_eq_true rfl) hQ ⟨(msc_S (msc_S (msc_S (msc_I (msc_I (msc_0 I S) (by decide) _) (by decide) _) (by decide) _) (by decide) _) (by decide) _), fun q => absurd hcd q, fun _ => ⟨j, hj, hdj, Or.inl ⟨hix, rfl, rfl⟩⟩⟩
  · have hP : va_P D clW (wM cy ad (va_up (va_up I 10 (nI (vmQ S (slM x b) fr to k j h n).1)) 0 3) (va_up (va_up (va_up S 10 f1) 15 (vmQ S (slM x b) fr to k j h n).2.1) 16 (vmQ S (slM x b) fr to k j h n).2.2)) H := hP
    have hD : va_D A (wM cy ad (va_up (va_up I 10 (nI (vmQ S (slM x b) fr to k j h n).1)) 0 3) (va_up (va_up (va_up S 10 f1) 15 (vmQ S (slM x b) fr to k j h n).2.1) 16 (vmQ S (slM x b) fr to k j h n).2.2)) := hD
    refine lv_if_eq (tgt := 22) hx hb dX7_versionTick_9 (by decide) (fun _ => ?_) (fun c => absurd (by decide) c)
    refine lv_iconst (v := 0) hx hb dX7_versionTick_22 (by decide) ?_
    exact wI_ret ((va_up (va_up I 10 (nI (vmQ S (slM x b) fr to k j h n).1)) 0 3), (va_up (va_up (va_up S 10 f1) 15 (vmQ S (slM x b) fr to k j h n).2.1) 16 (vmQ S (slM x b) fr to k j h n).2.2)) hS hP hx hb hr hlocks dX7_versionTick_23 (Nat.le_of_ble_eq_true rfl) (Nat.le_of_ble_eq_true rfl) hQ ⟨(msc_S (msc_S (msc_S (msc_I (msc_I (msc_0 I S) (by decide) _) (by decide) _) (by decide) _) (by decide) _) (by decide) _), fun q => absurd hcd q, fun _ => ⟨j, hj, hdj, Or.inr ⟨hix, rfl⟩⟩⟩
  · have hP : va_P D clW (wM cy ad (va_up I 0 (qmC I x b d)) S) H := hP
    have hD : va_D A (wM cy ad (va_up I 0 (qmC I x b d)) S) := hD
    refine lv_if_eq (tgt := 22) hx hb dX7_versionTick_9 (by decide) (fun _ => ?_) (fun c => absurd (by decide) c)
    refine lv_iconst (v := 0) hx hb dX7_versionTick_22 (by decide) ?_
    exact wI_ret ((va_up I 0 (qmC I x b d)), S) hS hP hx hb hr hlocks dX7_versionTick_23 (Nat.le_of_ble_eq_true rfl) (Nat.le_of_ble_eq_true rfl) hQ ⟨(msc_I (msc_0 I S) (by decide) _), fun _ => rfl, fun q => absurd q hcd⟩

set_option maxHeartbeats 4000000 in
set_option maxRecDepth 100000 in
theorem c_X7_isVersionKnown (l : Launch) (D : va_G) (cy : Nat → ClassId) (ad : Nat → Nat) (I : AI) (S : AS) (sz : Nat) (x : Int32) (b : Int32) (d : Int32) (ix : Int32) (k : Nat) (hk : I 3 = nI k) (hk8 : k ≤ 256) (fr : Nat → Nat) (to : Nat → Nat) (hfr : ∀ i : Nat, i < k → S 5 i = nI (fr i) ∧ S 6 i = nI (to i) ∧ fr i ≤ to i ∧ to i ≤ 100) (n : Nat) (hn : I 2 = nI n) (hn6 : n ≤ 60) (h : Nat) (hh : I 5 = nI h) (hhn : h ≤ n) : Met l yX7_isVersionKnown (Cond.code yX7_isVersionKnown cX7_isVersionKnown 5 (some .boolean) :: wsL_law) ({ frames := 4, cells := 0, slots := 0, locals := 100 }) (va_Pc [.ref (ad 0), .int x, .int b, .int d, .int ix] (wrB D cy (wM cy ad I S) sz)) (va_Qi (S := AI × AS) (fun r u => msc I S u.1 u.2 ∧ (¬ qmC I x b d = 0 → u.1 0 = qmC I x b d) ∧ (qmC I x b d = 0 → ∃ j : Nat, j < 100 ∧ d = nI j ∧ ((inB ix 0 (nI (vmQ S (slM x b) fr to k j h n).1 - 1) = true ∧ u.1 0 = 0 ∧ r = if (vmQ S (slM x b) fr to k j h n).2.2 ix.toNatClampNeg = -1 then 0 else 1) ∨ (¬ inB ix 0 (nI (vmQ S (slM x b) fr to k j h n).1 - 1) = true ∧ u.1 0 = 3)))) (fun u t9 => va_P D clW (wM cy ad u.1 u.2) t9.heap) (va_A (wM cy ad I S) sz)) 0 0 (va_A (wM cy ad I S) sz) := by
  refine enter (cc := cX7_isVersionKnown) (by decide) (Nat.le_of_ble_eq_true rfl) ?_
  intro p e s m below meth c hx hb hr hml hown hts hlocks hin hv Q hQ ls hl
  obtain ⟨hsz, hP, hK, hD0⟩ := hv
  subst hsz
  have hD := hD0.self (sz := s.heap.size)
  generalize hAe : va_A (wM cy ad I S) s.heap.size = A at hD hQ ⊢
  have hA : ∀ q : Nat, s.heap.size ≤ q → A q := fun q h => by rw [← hAe]; exact Or.inr h
  have hS : va_S A s.heap s.heap [] := va_S.rf
  suffices K_ : ∀ (H : Heap) (locs : List Loc), va_P D clW (wM cy ad I S) H → va_S A s.heap H locs → W p l e ({ frames := 4, cells := 0, slots := 0, locals := 100 }) s m ([.ref (ad 0), .int x, .int b, .int d, .int ix] : List Value).toArray below meth c H locs 0 0 Q (F0 m 0 ls []) from K_ _ _ hP hS
  clear hP hS
  intro H locs hP hS
  have hown : s.vm.findClass RX7 = some m.cls := hown
  have hl : lv_has ls 5 [(0, .ref (ad 0)), (1, .int x), (2, .int b), (3, .int d), (4, .int ix)] := hl
  refine lv_aload_n hx hb dX7_isVersionKnown_0 rfl (lv_at hl 0 rfl) ?_
  refine lv_iload_n hx hb dX7_isVersionKnown_1 rfl (lv_at hl 1 rfl) ?_
  refine lv_iload_n hx hb dX7_isVersionKnown_2 rfl (lv_at hl 2 rfl) ?_
  refine lv_iload_n hx hb dX7_isVersionKnown_3 rfl (lv_at hl 3 rfl) ?_
  refine lv_iload hx hb dX7_isVersionKnown_4 (lv_at hl 4 rfl) ?_
  refine wI_call (va_runV (As := [.int x, .int b, .int d, .int ix]) (rest := []) ⟨hx, hb, hml, hown, hts⟩ (c_X7_findsVersion l D cy ad I S H.size x b d ix k hk hk8 fr to hfr n hn hn6 h hh hhn) (cw_X7_186 hts rfl rfl ⟨Nat.le_of_ble_eq_true rfl, Nat.le_of_ble_eq_true rfl⟩) (preVW (ci := 7) (q0 := 0) hK hP hD rfl rfl) rfl rfl hl.1 rfl (lv_room (Nat.le_of_ble_eq_true rfl)) dX7_isVersionKnown_6 ⟨Nat.le_of_ble_eq_true rfl, Nat.le_of_ble_eq_true rfl⟩) hP hD hS hA [0, 1, 2, 3, 4, 5, 6, 7, 8, 9, 10, 11, 12, 13, 14, 15, 16] rfl [.inr 0, .inr 1, .inr 2, .inr 3, .inr 4, .inr 5, .inr 6, .inr 7, .inr 8, .inr 9, .inr 10, .inr 11, .inr 12, .inr 13, .inr 14, .inr 15, .inr 16] (by decide) (fun u => (wM cy ad u.1 u.2)) (fun _ => rfl) (fun _ => rfl) (fun r6_1 u6_1 H locs q6_1 hP hD hS hkp => ?_)
  obtain ⟨I2_1, S2_1⟩ := u6_1
  have hP : va_P D clW (wM cy ad I2_1 S2_1) H := hP
  have hD : va_D A (wM cy ad I2_1 S2_1) := hD
  rcases q6_1 with ⟨hcd, f1, j, hj, hdj, hix, rfl, rfl, rfl⟩ | ⟨hcd, f1, j, hj, hdj, hix, rfl, rfl, rfl⟩ | ⟨hcd, rfl, rfl, rfl⟩
  · have hP : va_P D clW (wM cy ad (va_up (va_up I 10 (nI (vmQ S (slM x b) fr to k j h n).1)) 0 0) (va_up (va_up (va_up S 10 f1) 15 (vmQ S (slM x b) fr to k j h n).2.1) 16 (vmQ S (slM x b) fr to k j h n).2.2)) H := hP
    have hD : va_D A (wM cy ad (va_up (va_up I 10 (nI (vmQ S (slM x b) fr to k j h n).1)) 0 0) (va_up (va_up (va_up S 10 f1) 15 (vmQ S (slM x b) fr to k j h n).2.1) 16 (vmQ S (slM x b) fr to k j h n).2.2)) := hD
    have hvl : (vmQ S (slM x b) fr to k j h n).1 ≤ 61 := Nat.le_trans (vmR_le (S 4) (fvG S (slM x b) fr to k j) h (S 15) (S 16) (n + 1 - h)) (by omega)
    obtain ⟨i, hi, hxi⟩ := in_vp hix (n := 61) hvl (by decide)
    refine lv_if_eq (tgt := 27) hx hb dX7_isVersionKnown_9 (by decide) (fun c => absurd c (by decide)) (fun _ => ?_)
    refine lv_aload_n hx hb dX7_isVersionKnown_12 rfl (lv_at hl 0 rfl) ?_
    refine gf_X7_57 hx hb hts hown hK hP 0 rfl (v := .ref (ad 16)) rfl dX7_isVersionKnown_13 ?_
    refine lv_iload hx hb dX7_isVersionKnown_16 (lv_at hl 4 rfl) ?_
    refine ald_Ix (f := (vmQ S (slM x b) fr to k j h n).2.2) hx hb hK hP 16 rfl (by rw [hxi]; exact vp_in_nI (by omega) (by decide)) dX7_isVersionKnown_18 ?_
    refine lv_iconst (v := (-1)) hx hb dX7_isVersionKnown_19 (by decide) ?_
    refine lv_icmp_eq (tgt := 27) hx hb dX7_isVersionKnown_20 (by decide) (fun c20_2 => ?_) (fun c20_2 => ?_)
    · refine lv_iconst (v := 0) hx hb dX7_isVersionKnown_27 (by decide) ?_
      exact wZ_ret ((va_up (va_up I 10 (nI (vmQ S (slM x b) fr to k j h n).1)) 0 0), (va_up (va_up (va_up S 10 f1) 15 (vmQ S (slM x b) fr to k j h n).2.1) 16 (vmQ S (slM x b) fr to k j h n).2.2)) hS hP hx hb hr hlocks dX7_isVersionKnown_28 narZ0 (Nat.le_of_ble_eq_true rfl) (Nat.le_of_ble_eq_true rfl) hQ ⟨(msc_S (msc_S (msc_S (msc_I (msc_I (msc_0 I S) (by decide) _) (by decide) _) (by decide) _) (by decide) _) (by decide) _), fun q => absurd hcd q, fun _ => ⟨j, hj, hdj, Or.inl ⟨hix, rfl, (if_pos c20_2).symm⟩⟩⟩
    · refine lv_iconst (v := 1) hx hb dX7_isVersionKnown_23 (by decide) ?_
      refine lv_goto (tgt := 28) hx hb dX7_isVersionKnown_24 (by decide) ?_
      exact wZ_ret ((va_up (va_up I 10 (nI (vmQ S (slM x b) fr to k j h n).1)) 0 0), (va_up (va_up (va_up S 10 f1) 15 (vmQ S (slM x b) fr to k j h n).2.1) 16 (vmQ S (slM x b) fr to k j h n).2.2)) hS hP hx hb hr hlocks dX7_isVersionKnown_28 narZ1 (Nat.le_of_ble_eq_true rfl) (Nat.le_of_ble_eq_true rfl) hQ ⟨(msc_S (msc_S (msc_S (msc_I (msc_I (msc_0 I S) (by decide) _) (by decide) _) (by decide) _) (by decide) _) (by decide) _), fun q => absurd hcd q, fun _ => ⟨j, hj, hdj, Or.inl ⟨hix, rfl, (if_neg c20_2).symm⟩⟩⟩
  · have hP : va_P D clW (wM cy ad (va_up (va_up I 10 (nI (vmQ S (slM x b) fr to k j h n).1)) 0 3) (va_up (va_up (va_up S 10 f1) 15 (vmQ S (slM x b) fr to k j h n).2.1) 16 (vmQ S (slM x b) fr to k j h n).2.2)) H := hP
    have hD : va_D A (wM cy ad (va_up (va_up I 10 (nI (vmQ S (slM x b) fr to k j h n).1)) 0 3) (va_up (va_up (va_up S 10 f1) 15 (vmQ S (slM x b) fr to k j h n).2.1) 16 (vmQ S (slM x b) fr to k j h n).2.2)) := hD
    refine lv_if_eq (tgt := 27) hx hb dX7_isVersionKnown_9 (by decide) (fun _ => ?_) (fun c => absurd (by decide) c)
    refine lv_iconst (v := 0) hx hb dX7_isVersionKnown_27 (by decide) ?_
    exact wZ_ret ((va_up (va_up I 10 (nI (vmQ S (slM x b) fr to k j h n).1)) 0 3), (va_up (va_up (va_up S 10 f1) 15 (vmQ S (slM x b) fr to k j h n).2.1) 16 (vmQ S (slM x b) fr to k j h n).2.2)) hS hP hx hb hr hlocks dX7_isVersionKnown_28 narZ0 (Nat.le_of_ble_eq_true rfl) (Nat.le_of_ble_eq_true rfl) hQ ⟨(msc_S (msc_S (msc_S (msc_I (msc_I (msc_0 I S) (by decide) _) (by decide) _) (by decide) _) (by decide) _) (by decide) _), fun q => absurd hcd q, fun _ => ⟨j, hj, hdj, Or.inr ⟨hix, rfl⟩⟩⟩
  · have hP : va_P D clW (wM cy ad (va_up I 0 (qmC I x b d)) S) H := hP
    have hD : va_D A (wM cy ad (va_up I 0 (qmC I x b d)) S) := hD
    refine lv_if_eq (tgt := 27) hx hb dX7_isVersionKnown_9 (by decide) (fun _ => ?_) (fun c => absurd (by decide) c)
    refine lv_iconst (v := 0) hx hb dX7_isVersionKnown_27 (by decide) ?_
    exact wZ_ret ((va_up I 0 (qmC I x b d)), S) hS hP hx hb hr hlocks dX7_isVersionKnown_28 narZ0 (Nat.le_of_ble_eq_true rfl) (Nat.le_of_ble_eq_true rfl) hQ ⟨(msc_I (msc_0 I S) (by decide) _), fun _ => rfl, fun q => absurd q hcd⟩

set_option maxHeartbeats 4000000 in
set_option maxRecDepth 100000 in
theorem c_X7_versionValue (l : Launch) (D : va_G) (cy : Nat → ClassId) (ad : Nat → Nat) (I : AI) (S : AS) (sz : Nat) (x : Int32) (b : Int32) (d : Int32) (ix : Int32) (k : Nat) (hk : I 3 = nI k) (hk8 : k ≤ 256) (fr : Nat → Nat) (to : Nat → Nat) (hfr : ∀ i : Nat, i < k → S 5 i = nI (fr i) ∧ S 6 i = nI (to i) ∧ fr i ≤ to i ∧ to i ≤ 100) (n : Nat) (hn : I 2 = nI n) (hn6 : n ≤ 60) (h : Nat) (hh : I 5 = nI h) (hhn : h ≤ n) : Met l yX7_versionValue (Cond.code yX7_versionValue cX7_versionValue 6 (some .int) :: wsL_law) ({ frames := 4, cells := 0, slots := 0, locals := 100 }) (va_Pc [.ref (ad 0), .int x, .int b, .int d, .int ix] (wrB D cy (wM cy ad I S) sz)) (va_Qi (S := AI × AS) (fun r u => msc I S u.1 u.2 ∧ (¬ qmC I x b d = 0 → u.1 0 = qmC I x b d) ∧ (qmC I x b d = 0 → ∃ j : Nat, j < 100 ∧ d = nI j ∧ ((inB ix 0 (nI (vmQ S (slM x b) fr to k j h n).1 - 1) = true ∧ (((vmQ S (slM x b) fr to k j h n).2.2 ix.toNatClampNeg = -1 ∧ u.1 0 = 3) ∨ (¬ (vmQ S (slM x b) fr to k j h n).2.2 ix.toNatClampNeg = -1 ∧ u.1 0 = 0 ∧ r = S 4 ((vmQ S (slM x b) fr to k j h n).2.2 ix.toNatClampNeg).toNatClampNeg))) ∨ (¬ inB ix 0 (nI (vmQ S (slM x b) fr to k j h n).1 - 1) = true ∧ u.1 0 = 3)))) (fun u t9 => va_P D clW (wM cy ad u.1 u.2) t9.heap) (va_A (wM cy ad I S) sz)) 0 0 (va_A (wM cy ad I S) sz) := by
  refine enter (cc := cX7_versionValue) (by decide) (Nat.le_of_ble_eq_true rfl) ?_
  intro p e s m below meth c hx hb hr hml hown hts hlocks hin hv Q hQ ls hl
  obtain ⟨hsz, hP, hK, hD0⟩ := hv
  subst hsz
  have hD := hD0.self (sz := s.heap.size)
  generalize hAe : va_A (wM cy ad I S) s.heap.size = A at hD hQ ⊢
  have hA : ∀ q : Nat, s.heap.size ≤ q → A q := fun q h => by rw [← hAe]; exact Or.inr h
  have hS : va_S A s.heap s.heap [] := va_S.rf
  suffices K_ : ∀ (H : Heap) (locs : List Loc), va_P D clW (wM cy ad I S) H → va_S A s.heap H locs → W p l e ({ frames := 4, cells := 0, slots := 0, locals := 100 }) s m ([.ref (ad 0), .int x, .int b, .int d, .int ix] : List Value).toArray below meth c H locs 0 0 Q (F0 m 0 ls []) from K_ _ _ hP hS
  clear hP hS
  intro H locs hP hS
  have hown : s.vm.findClass RX7 = some m.cls := hown
  have hl : lv_has ls 6 [(0, .ref (ad 0)), (1, .int x), (2, .int b), (3, .int d), (4, .int ix)] := hl
  refine lv_aload_n hx hb dX7_versionValue_0 rfl (lv_at hl 0 rfl) ?_
  refine lv_iload_n hx hb dX7_versionValue_1 rfl (lv_at hl 1 rfl) ?_
  refine lv_iload_n hx hb dX7_versionValue_2 rfl (lv_at hl 2 rfl) ?_
  refine lv_iload_n hx hb dX7_versionValue_3 rfl (lv_at hl 3 rfl) ?_
  refine lv_iload hx hb dX7_versionValue_4 (lv_at hl 4 rfl) ?_
  refine wI_call (va_runV (As := [.int x, .int b, .int d, .int ix]) (rest := []) ⟨hx, hb, hml, hown, hts⟩ (c_X7_findsVersion l D cy ad I S H.size x b d ix k hk hk8 fr to hfr n hn hn6 h hh hhn) (cw_X7_186 hts rfl rfl ⟨Nat.le_of_ble_eq_true rfl, Nat.le_of_ble_eq_true rfl⟩) (preVW (ci := 7) (q0 := 0) hK hP hD rfl rfl) rfl rfl hl.1 rfl (lv_room (Nat.le_of_ble_eq_true rfl)) dX7_versionValue_6 ⟨Nat.le_of_ble_eq_true rfl, Nat.le_of_ble_eq_true rfl⟩) hP hD hS hA [0, 1, 2, 3, 4, 5, 6, 7, 8, 9, 10, 11, 12, 13, 14, 15, 16] rfl [.inr 0, .inr 1, .inr 2, .inr 3, .inr 4, .inr 5, .inr 6, .inr 7, .inr 8, .inr 9, .inr 10, .inr 11, .inr 12, .inr 13, .inr 14, .inr 15, .inr 16] (by decide) (fun u => (wM cy ad u.1 u.2)) (fun _ => rfl) (fun _ => rfl) (fun r6_1 u6_1 H locs q6_1 hP hD hS hkp => ?_)
  obtain ⟨I2_1, S2_1⟩ := u6_1
  have hP : va_P D clW (wM cy ad I2_1 S2_1) H := hP
  have hD : va_D A (wM cy ad I2_1 S2_1) := hD
  rcases q6_1 with ⟨hcd, f1, j, hj, hdj, hix, rfl, rfl, rfl⟩ | ⟨hcd, f1, j, hj, hdj, hix, rfl, rfl, rfl⟩ | ⟨hcd, rfl, rfl, rfl⟩
  · have hP : va_P D clW (wM cy ad (va_up (va_up I 10 (nI (vmQ S (slM x b) fr to k j h n).1)) 0 0) (va_up (va_up (va_up S 10 f1) 15 (vmQ S (slM x b) fr to k j h n).2.1) 16 (vmQ S (slM x b) fr to k j h n).2.2)) H := hP
    have hD : va_D A (wM cy ad (va_up (va_up I 10 (nI (vmQ S (slM x b) fr to k j h n).1)) 0 0) (va_up (va_up (va_up S 10 f1) 15 (vmQ S (slM x b) fr to k j h n).2.1) 16 (vmQ S (slM x b) fr to k j h n).2.2)) := hD
    have hvl : (vmQ S (slM x b) fr to k j h n).1 ≤ 61 := Nat.le_trans (vmR_le (S 4) (fvG S (slM x b) fr to k j) h (S 15) (S 16) (n + 1 - h)) (by omega)
    obtain ⟨i, hi, hxi⟩ := in_vp hix (n := 61) hvl (by decide)
    refine lv_if_eq (tgt := 39) hx hb dX7_versionValue_9 (by decide) (fun c => absurd c (by decide)) (fun _ => ?_)
    refine lv_aload_n hx hb dX7_versionValue_12 rfl (lv_at hl 0 rfl) ?_
    refine lv_aload_n hx hb dX7_versionValue_13 rfl (lv_at hl 0 rfl) ?_
    refine gf_X7_57 hx hb hts hown hK hP 0 rfl (v := .ref (ad 16)) rfl dX7_versionValue_14 ?_
    refine lv_iload hx hb dX7_versionValue_17 (lv_at hl 4 rfl) ?_
    refine ald_Ix (f := (vmQ S (slM x b) fr to k j h n).2.2) hx hb hK hP 16 rfl (by rw [hxi]; exact vp_in_nI (by omega) (by decide)) dX7_versionValue_19 ?_
    refine lv_iconst (v := (-1)) hx hb dX7_versionValue_20 (by decide) ?_
    refine lv_icmp_ne (tgt := 28) hx hb dX7_versionValue_21 (by decide) (fun c21_2 => ?_) (fun c21_2 => ?_)
    · refine lv_iconst (v := 0) hx hb dX7_versionValue_28 (by decide) ?_
      refine wI_call (va_runV (As := [.int 0]) (rest := []) ⟨hx, hb, hml, hown, hts⟩ (c_X7_goesOn l D cy ad (va_up (va_up I 10 (nI (vmQ S (slM x b) fr to k j h n).1)) 0 0) (va_up (va_up (va_up S 10 f1) 15 (vmQ S (slM x b) fr to k j h n).2.1) 16 (vmQ S (slM x b) fr to k j h n).2.2) H.size 0) (cw_X7_71 hts rfl rfl ⟨Nat.le_of_ble_eq_true rfl, Nat.le_of_ble_eq_true rfl⟩) (preVW (ci := 7) (q0 := 0) hK hP hD rfl rfl) rfl rfl hl.1 rfl (lv_room (Nat.le_of_ble_eq_true rfl)) dX7_versionValue_29 ⟨Nat.le_of_ble_eq_true rfl, Nat.le_of_ble_eq_true rfl⟩) hP hD hS hA [0, 1, 2, 3, 4, 5, 6, 7, 8, 9, 10, 11, 12, 13, 14, 15, 16] rfl [.inr 0, .inr 1, .inr 2, .inr 3, .inr 4, .inr 5, .inr 6, .inr 7, .inr 8, .inr 9, .inr 10, .inr 11, .inr 12, .inr 13, .inr 14, .inr 15, .inr 16] (by decide) (fun u => (wM cy ad (va_up (va_up I 10 (nI (vmQ S (slM x b) fr to k j h n).1)) 0 0) (va_up (va_up (va_up S 10 f1) 15 (vmQ S (slM x b) fr to k j h n).2.1) 16 (vmQ S (slM x b) fr to k j h n).2.2))) (fun _ => rfl) (fun _ => rfl) (fun r29_3 u29_3 H locs q29_3 hP hD hS hkp => ?_)
      have hP : va_P D clW (wM cy ad (va_up (va_up I 10 (nI (vmQ S (slM x b) fr to k j h n).1)) 0 0) (va_up (va_up (va_up S 10 f1) 15 (vmQ S (slM x b) fr to k j h n).2.1) 16 (vmQ S (slM x b) fr to k j h n).2.2)) H := hP
      have hD : va_D A (wM cy ad (va_up (va_up I 10 (nI (vmQ S (slM x b) fr to k j h n).1)) 0 0) (va_up (va_up (va_up S 10 f1) 15 (vmQ S (slM x b) fr to k j h n).2.1) 16 (vmQ S (slM x b) fr to k j h n).2.2)) := hD
      rw [if_pos rfl] at q29_3
      subst q29_3
      refine lv_if_eq (tgt := 39) hx hb dX7_versionValue_32 (by decide) (fun c => absurd c (by decide)) (fun _ => ?_)
      refine lv_iconst (v := 1) hx hb dX7_versionValue_35 (by decide) ?_
      refine lv_goto (tgt := 40) hx hb dX7_versionValue_36 (by decide) ?_
      refine lv_istore (lv' := [(5, .int 1), (0, .ref (ad 0)), (1, .int x), (2, .int b), (3, .int d), (4, .int ix)]) hx hb dX7_versionValue_40 hl (by decide) rfl (fun ls hl => ?_)
      refine lv_iload hx hb dX7_versionValue_42 (lv_at hl 0 rfl) ?_
      refine lv_if_eq (tgt := 62) hx hb dX7_versionValue_44 (by decide) (fun c => absurd c (by decide)) (fun _ => ?_)
      refine lv_aload_n hx hb dX7_versionValue_47 rfl (lv_at hl 1 rfl) ?_
      refine gf_X7_20 hx hb hts hown hK hP 0 rfl (v := .ref (ad 4)) rfl dX7_versionValue_48 ?_
      refine lv_aload_n hx hb dX7_versionValue_51 rfl (lv_at hl 1 rfl) ?_
      refine gf_X7_57 hx hb hts hown hK hP 0 rfl (v := .ref (ad 16)) rfl dX7_versionValue_52 ?_
      refine lv_iload hx hb dX7_versionValue_55 (lv_at hl 5 rfl) ?_
      refine ald_Ix (f := (vmQ S (slM x b) fr to k j h n).2.2) hx hb hK hP 16 rfl (by rw [hxi]; exact vp_in_nI (by omega) (by decide)) dX7_versionValue_57 ?_
      refine ald_Ix (f := (S 4)) hx hb hK hP 4 rfl (by rw [hxi, nI_clamp (by omega)]; exact vmQ_in hk8 (by decide) hj hi (by rw [hxi, nI_clamp (by omega)] at c21_2; exact c21_2)) dX7_versionValue_58 ?_
      refine lv_goto (tgt := 63) hx hb dX7_versionValue_59 (by decide) ?_
      exact wI_ret ((va_up (va_up I 10 (nI (vmQ S (slM x b) fr to k j h n).1)) 0 0), (va_up (va_up (va_up S 10 f1) 15 (vmQ S (slM x b) fr to k j h n).2.1) 16 (vmQ S (slM x b) fr to k j h n).2.2)) hS hP hx hb hr hlocks dX7_versionValue_63 (Nat.le_of_ble_eq_true rfl) (Nat.le_of_ble_eq_true rfl) hQ ⟨(msc_S (msc_S (msc_S (msc_I (msc_I (msc_0 I S) (by decide) _) (by decide) _) (by decide) _) (by decide) _) (by decide) _), fun q => absurd hcd q, fun _ => ⟨j, hj, hdj, Or.inl ⟨hix, Or.inr ⟨c21_2, rfl, rfl⟩⟩⟩⟩
    · refine lv_iconst (v := 3) hx hb dX7_versionValue_24 (by decide) ?_
      refine lv_goto (tgt := 29) hx hb dX7_versionValue_25 (by decide) ?_
      refine wI_call (va_runV (As := [.int 3]) (rest := []) ⟨hx, hb, hml, hown, hts⟩ (c_X7_goesOn l D cy ad (va_up (va_up I 10 (nI (vmQ S (slM x b) fr to k j h n).1)) 0 0) (va_up (va_up (va_up S 10 f1) 15 (vmQ S (slM x b) fr to k j h n).2.1) 16 (vmQ S (slM x b) fr to k j h n).2.2) H.size 3) (cw_X7_71 hts rfl rfl ⟨Nat.le_of_ble_eq_true rfl, Nat.le_of_ble_eq_true rfl⟩) (preVW (ci := 7) (q0 := 0) hK hP hD rfl rfl) rfl rfl hl.1 rfl (lv_room (Nat.le_of_ble_eq_true rfl)) dX7_versionValue_29 ⟨Nat.le_of_ble_eq_true rfl, Nat.le_of_ble_eq_true rfl⟩) hP hD hS hA [0, 1, 2, 3, 4, 5, 6, 7, 8, 9, 10, 11, 12, 13, 14, 15, 16] rfl [.inr 0, .inr 1, .inr 2, .inr 3, .inr 4, .inr 5, .inr 6, .inr 7, .inr 8, .inr 9, .inr 10, .inr 11, .inr 12, .inr 13, .inr 14, .inr 15, .inr 16] (by decide) (fun u => (wM cy ad (va_up (va_up I 10 (nI (vmQ S (slM x b) fr to k j h n).1)) 0 3) (va_up (va_up (va_up S 10 f1) 15 (vmQ S (slM x b) fr to k j h n).2.1) 16 (vmQ S (slM x b) fr to k j h n).2.2))) (fun _ => rfl) (fun _ => rfl) (fun r29_4 u29_4 H locs q29_4 hP hD hS hkp => ?_)
      have hP : va_P D clW (wM cy ad (va_up (va_up I 10 (nI (vmQ S (slM x b) fr to k j h n).1)) 0 3) (va_up (va_up (va_up S 10 f1) 15 (vmQ S (slM x b) fr to k j h n).2.1) 16 (vmQ S (slM x b) fr to k j h n).2.2)) H := hP
      have hD : va_D A (wM cy ad (va_up (va_up I 10 (nI (vmQ S (slM x b) fr to k j h n).1)) 0 3) (va_up (va_up (va_up S 10 f1) 15 (vmQ S (slM x b) fr to k j h n).2.1) 16 (vmQ S (slM x b) fr to k j h n).2.2)) := hD
      rw [if_neg (by decide)] at q29_4
      subst q29_4
      refine lv_if_eq (tgt := 39) hx hb dX7_versionValue_32 (by decide) (fun _ => ?_) (fun c => absurd (by decide) c)
      refine lv_iconst (v := 0) hx hb dX7_versionValue_39 (by decide) ?_
      refine lv_istore (lv' := [(5, .int 0), (0, .ref (ad 0)), (1, .int x), (2, .int b), (3, .int d), (4, .int ix)]) hx hb dX7_versionValue_40 hl (by decide) rfl (fun ls hl => ?_)
      refine lv_iload hx hb dX7_versionValue_42 (lv_at hl 0 rfl) ?_
      refine lv_if_eq (tgt := 62) hx hb dX7_versionValue_44 (by decide) (fun _ => ?_) (fun c => absurd (by decide) c)
      refine lv_iconst (v := 0) hx hb dX7_versionValue_62 (by decide) ?_
      exact wI_ret ((va_up (va_up I 10 (nI (vmQ S (slM x b) fr to k j h n).1)) 0 3), (va_up (va_up (va_up S 10 f1) 15 (vmQ S (slM x b) fr to k j h n).2.1) 16 (vmQ S (slM x b) fr to k j h n).2.2)) hS hP hx hb hr hlocks dX7_versionValue_63 (Nat.le_of_ble_eq_true rfl) (Nat.le_of_ble_eq_true rfl) hQ ⟨(msc_S (msc_S (msc_S (msc_I (msc_I (msc_0 I S) (by decide) _) (by decide) _) (by decide) _) (by decide) _) (by decide) _), fun q => absurd hcd q, fun _ => ⟨j, hj, hdj, Or.inl ⟨hix, Or.inl ⟨c21_2, rfl⟩⟩⟩⟩
  · have hP : va_P D clW (wM cy ad (va_up (va_up I 10 (nI (vmQ S (slM x b) fr to k j h n).1)) 0 3) (va_up (va_up (va_up S 10 f1) 15 (vmQ S (slM x b) fr to k j h n).2.1) 16 (vmQ S (slM x b) fr to k j h n).2.2)) H := hP
    have hD : va_D A (wM cy ad (va_up (va_up I 10 (nI (vmQ S (slM x b) fr to k j h n).1)) 0 3) (va_up (va_up (va_up S 10 f1) 15 (vmQ S (slM x b) fr to k j h n).2.1) 16 (vmQ S (slM x b) fr to k j h n).2.2)) := hD
    refine lv_if_eq (tgt := 39) hx hb dX7_versionValue_9 (by decide) (fun _ => ?_) (fun c => absurd (by decide) c)
    refine lv_iconst (v := 0) hx hb dX7_versionValue_39 (by decide) ?_
    refine lv_istore (lv' := [(5, .int 0), (0, .ref (ad 0)), (1, .int x), (2, .int b), (3, .int d), (4, .int ix)]) hx hb dX7_versionValue_40 hl (by decide) rfl (fun ls hl => ?_)
    refine lv_iload hx hb dX7_versionValue_42 (lv_at hl 0 rfl) ?_
    refine lv_if_eq (tgt := 62) hx hb dX7_versionValue_44 (by decide) (fun _ => ?_) (fun c => absurd (by decide) c)
    refine lv_iconst (v := 0) hx hb dX7_versionValue_62 (by decide) ?_
    exact wI_ret ((va_up (va_up I 10 (nI (vmQ S (slM x b) fr to k j h n).1)) 0 3), (va_up (va_up (va_up S 10 f1) 15 (vmQ S (slM x b) fr to k j h n).2.1) 16 (vmQ S (slM x b) fr to k j h n).2.2)) hS hP hx hb hr hlocks dX7_versionValue_63 (Nat.le_of_ble_eq_true rfl) (Nat.le_of_ble_eq_true rfl) hQ ⟨(msc_S (msc_S (msc_S (msc_I (msc_I (msc_0 I S) (by decide) _) (by decide) _) (by decide) _) (by decide) _) (by decide) _), fun q => absurd hcd q, fun _ => ⟨j, hj, hdj, Or.inr ⟨hix, rfl⟩⟩⟩
  · have hP : va_P D clW (wM cy ad (va_up I 0 (qmC I x b d)) S) H := hP
    have hD : va_D A (wM cy ad (va_up I 0 (qmC I x b d)) S) := hD
    refine lv_if_eq (tgt := 39) hx hb dX7_versionValue_9 (by decide) (fun _ => ?_) (fun c => absurd (by decide) c)
    refine lv_iconst (v := 0) hx hb dX7_versionValue_39 (by decide) ?_
    refine lv_istore (lv' := [(5, .int 0), (0, .ref (ad 0)), (1, .int x), (2, .int b), (3, .int d), (4, .int ix)]) hx hb dX7_versionValue_40 hl (by decide) rfl (fun ls hl => ?_)
    refine lv_iload hx hb dX7_versionValue_42 (lv_at hl 0 rfl) ?_
    refine lv_if_eq (tgt := 62) hx hb dX7_versionValue_44 (by decide) (fun _ => ?_) (fun c => absurd (by decide) c)
    refine lv_iconst (v := 0) hx hb dX7_versionValue_62 (by decide) ?_
    exact wI_ret ((va_up I 0 (qmC I x b d)), S) hS hP hx hb hr hlocks dX7_versionValue_63 (Nat.le_of_ble_eq_true rfl) (Nat.le_of_ble_eq_true rfl) hQ ⟨(msc_I (msc_0 I S) (by decide) _), fun _ => rfl, fun q => absurd q hcd⟩
