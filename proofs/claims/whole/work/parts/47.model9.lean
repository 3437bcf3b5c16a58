theorem pf_X7_115 {p : Program} {l : Launch} {e : Env} {R : Room} {s : State} {m : MethodId} {args : Array Value} {below : List Frame} {meth : Method} {c : Code} {H : Heap} {locs : List Loc} {cells slots : Nat} {Q : State → Prop} {cc : ByteArray} {pc : Nat} {ls : Array Slot} {rest : List Value} {D : va_G} {cy : Nat → ClassId} {a : Nat} {ws : va_W} {A : Nat → Prop} {H0 : Heap} (hx : p.tables.exec = Jvm.exec) (hb : c.code = cc) (hts : ∀ w ∈ wsL_law, w.before args s = true) (hown : s.vm.findClass RX7 = some m.cls) (hK : va_K D clW (tyW cy) s) (hP : va_P D clW ws H) (hD : va_D A ws) (hS : va_S A H0 H locs) (q0 : Nat) {fs : List Value} (he : ws[q0]? = some (a, .inr (7, fs))) {x : Int32} (hl : 6 < fs.length) (hdg : decode cc pc = .ok (.putfield 115, 3)) (kk : ∀ (H1 : Heap) (locs1 : List Loc), va_P D clW (ws.set q0 (a, .inr (7, fs.set 6 (.int x)))) H1 → va_D A (ws.set q0 (a, .inr (7, fs.set 6 (.int x)))) → va_S A H0 H1 locs1 → W p l e R s m args below meth c H1 locs1 cells slots Q (F0 m (pc + 3) ls rest)) : W p l e R s m args below meth c H locs cells slots Q (F0 m pc ls (.int x :: .ref a :: rest)) := va_put (own := RX7) (ref := RX7) (C := RX7) (T := TX7) (N := 27) (ci := 7) (ty := .int) hx hb hts inlX7 tyX7 tyX7_ok nmX7 hown hK hP hD hS q0 he rfl 6 (by decide) (hts _ wm_371) (fun _ h => h) rfl (by decide +kernel) rfl rfl hl hdg kk
theorem pf_X7_121 {p : Program} {l : Launch} {e : Env} {R : Room} {s : State} {m : MethodId} {args : Array Value} {below : List Frame} {meth : Method} {c : Code} {H : Heap} {locs : List Loc} {cells slots : Nat} {Q : State → Prop} {cc : ByteArray} {pc : Nat} {ls : Array Slot} {rest : List Value} {D : va_G} {cy : Nat → ClassId} {a : Nat} {ws : va_W} {A : Nat → Prop} {H0 : Heap} (hx : p.tables.exec = Jvm.exec) (hb : c.code = cc) (hts : ∀ w ∈ wsL_law, w.before args s = true) (hown : s.vm.findClass RX7 = some m.cls) (hK : va_K D clW (tyW cy) s) (hP : va_P D clW ws H) (hD : va_D A ws) (hS : va_S A H0 H locs) (q0 : Nat) {fs : List Value} (he : ws[q0]? = some (a, .inr (7, fs))) {x : Int32} (hl : 14 < fs.length) (hdg : decode cc pc = .ok (.putfield 121, 3)) (kk : ∀ (H1 : Heap) (locs1 : List Loc), va_P D clW (ws.set q0 (a, .inr (7, fs.set 14 (.int x)))) H1 → va_D A (ws.set q0 (a, .inr (7, fs.set 14 (.int x)))) → va_S A H0 H1 locs1 → W p l e R s m args below meth c H1 locs1 cells slots Q (F0 m (pc + 3) ls rest)) : W p l e R s m args below meth c H locs cells slots Q (F0 m pc ls (.int x :: .ref a :: rest)) := va_put (own := RX7) (ref := RX7) (C := RX7) (T := TX7) (N := 27) (ci := 7) (ty := .int) hx hb hts inlX7 tyX7 tyX7_ok nmX7 hown hK hP hD hS q0 he rfl 14 (by decide) (hts _ wm_477) (fun _ h => h) rfl (by decide +kernel) rfl rfl hl hdg kk
theorem cw_X7_84 {R : Room} {s : State} {args : Array Value} {rm : Room} {mc ms : Nat} (hts : ∀ w ∈ wsL_law, w.before args s = true) (hrc : rm.cells = mc) (hrs : rm.slots = ms) (hR : rm.frames + 1 ≤ R.frames ∧ 8 + (8 + 11) + rm.locals ≤ R.locals) : CallW R s args RX7 RX7 84 yX7_meets cX7_meets 8 (some .int) (Cond.code yX7_meets cX7_meets 8 (some .int) :: wsL_law) rm mc ms 4 := cwV 4 hts (gUV wm_245 wm_246 wm_247 wm_5 wm_248) rfl hrc hrs (by decide +kernel) hR
theorem cw_X7_88 {R : Room} {s : State} {args : Array Value} {rm : Room} {mc ms : Nat} (hts : ∀ w ∈ wsL_law, w.before args s = true) (hrc : rm.cells = mc) (hrs : rm.slots = ms) (hR : rm.frames + 1 ≤ R.frames ∧ 8 + (5 + 11) + rm.locals ≤ R.locals) : CallW R s args RX7 RX7 88 yX7_opens cX7_opens 5 none (Cond.code yX7_opens cX7_opens 5 none :: wsL_law) rm mc ms 4 := cwV 4 hts (gUV wm_254 wm_255 wm_256 wm_5 wm_257) rfl hrc hrs (by decide +kernel) hR
theorem cw_X7_96 {R : Room} {s : State} {args : Array Value} {rm : Room} {mc ms : Nat} (hts : ∀ w ∈ wsL_law, w.before args s = true) (hrc : rm.cells = mc) (hrs : rm.slots = ms) (hR : rm.frames + 1 ≤ R.frames ∧ 8 + (2 + 11) + rm.locals ≤ R.locals) : CallB R s args RX7 96 yX7_areDays cX7_areDays 2 (some .boolean) (Cond.code yX7_areDays cX7_areDays 2 (some .boolean) :: wsL_law) rm mc ms 2 ∧ (Cond.static yX7_areDays).before args s = true := va_cwS 2 hts (gUS wm_231 wm_232 wm_5 wm_233) rfl hrc hrs (by decide +kernel) hR
theorem cw_X7_99 {R : Room} {s : State} {args : Array Value} {rm : Room} {mc ms : Nat} (hts : ∀ w ∈ wsL_law, w.before args s = true) (hrc : rm.cells = mc) (hrs : rm.slots = ms) (hR : rm.frames + 1 ≤ R.frames ∧ 8 + (3 + 11) + rm.locals ≤ R.locals) : CallW R s args RX7 RX7 99 yX7_begins cX7_begins 3 none (Cond.code yX7_begins cX7_begins 3 none :: wsL_law) rm mc ms 2 := cwV 2 hts (gUV wm_234 wm_235 wm_236 wm_5 wm_237) rfl hrc hrs (by decide +kernel) hR
theorem cw_X7_107 {R : Room} {s : State} {args : Array Value} {rm : Room} {mc ms : Nat} (hts : ∀ w ∈ wsL_law, w.before args s = true) (hrc : rm.cells = mc) (hrs : rm.slots = ms) (hR : rm.frames + 1 ≤ R.frames ∧ 8 + (6 + 11) + rm.locals ≤ R.locals) : CallW R s args RX7 RX7 107 yX7_closes cX7_closes 6 (some .int) (Cond.code yX7_closes cX7_closes 6 (some .int) :: wsL_law) rm mc ms 3 := cwV 3 hts (gUV wm_241 wm_242 wm_243 wm_5 wm_244) rfl hrc hrs (by decide +kernel) hR
set_option maxHeartbeats 4000000 in
set_option maxRecDepth 100000 in
theorem c_X7_purge (l : Launch) (D : va_G) (cy : Nat → ClassId) (ad : Nat → Nat) (I : AI) (S : AS) (sz : Nat) (t : Int32) (k : Nat) (hk : I 3 = nI k) (hk8 : k ≤ 256) : Met l yX7_purge (Cond.code yX7_purge cX7_purge 4 (some .int) :: wsL_law) ({ frames := 1, cells := 0, slots := 0, locals := 22 }) (va_Pc [.ref (ad 0), .int t] (wrB D cy (wM cy ad I S) sz)) (va_Qi (S := AI × AS) (fun r u => (inB t (I 5) (I 2) = true ∧ r = pcN S t k ∧ u.1 = (va_up (va_up (va_up I 0 0) 4 (I 4 + pcN S t k)) 5 t) ∧ u.2 = va_up S 9 (pgN S t k)) ∨ (¬ inB t (I 5) (I 2) = true ∧ u.1 = va_up I 0 1 ∧ u.2 = S)) (fun u t9 => va_P D clW (wM cy ad u.1 u.2) t9.heap) (va_A (wM cy ad I S) sz)) 0 0 (va_A (wM cy ad I S) sz) := by
  refine enter (cc := cX7_purge) (by decide) (Nat.le_of_ble_eq_true rfl) ?_
  intro p e s m below meth c hx hb hr hml hown hts hlocks hin hv Q hQ ls hl
  obtain ⟨hsz, hP, hK, hD0⟩ := hv
  subst hsz
  have hD := hD0.self (sz := s.heap.size)
  generalize hAe : va_A (wM cy ad I S) s.heap.size = A at hD hQ ⊢
  have hA : ∀ q : Nat, s.heap.size ≤ q → A q := fun q h => by rw [← hAe]; exact Or.inr h
  have hS : va_S A s.heap s.heap [] := va_S.rf
  suffices K_ : ∀ (H : Heap) (locs : List Loc), va_P D clW (wM cy ad I S) H → va_S A s.heap H locs → W p l e ({ frames := 1, cells := 0, slots := 0, locals := 22 }) s m ([.ref (ad 0), .int t] : List Value).toArray below meth c H locs 0 0 Q (F0 m 0 ls []) from K_ _ _ hP hS
  clear hP hS
  intro H locs hP hS
  have hown : s.vm.findClass RX7 = some m.cls := hown
  have hl : lv_has ls 4 [(0, .ref (ad 0)), (1, .int t)] := hl
  refine lv_aload_n hx hb dX7_purge_0 rfl (lv_at hl 0 rfl) ?_
  refine lv_iload_n hx hb dX7_purge_1 rfl (lv_at hl 1 rfl) ?_
  refine lv_aload_n hx hb dX7_purge_2 rfl (lv_at hl 0 rfl) ?_
  refine gf_X7_121 hx hb hts hown hK hP 0 rfl (v := .int (I 5)) rfl dX7_purge_3 ?_
  refine lv_aload_n hx hb dX7_purge_6 rfl (lv_at hl 0 rfl) ?_
  refine gf_X7_78 hx hb hts hown hK hP 0 rfl (v := .int (I 2)) rfl dX7_purge_7 ?_
  refine rZ_call (P := inB t (I 5) (I 2) = true) (va_runS (As := [.int t, .int (I 5), .int (I 2)]) (rest := [.ref (ad 0)]) ⟨hx, hb, hml, hown, hts⟩ (c_X7_in l D cy t (I 5) (I 2)) (cw_X7_67 hts rfl rfl ⟨Nat.le_of_ble_eq_true rfl, Nat.le_of_ble_eq_true rfl⟩) (preSR hK (hP.sub [] rfl)) rfl rfl hl.1 rfl (lv_room (Nat.le_of_ble_eq_true rfl)) dX7_purge_10 ⟨Nat.le_of_ble_eq_true rfl, Nat.le_of_ble_eq_true rfl⟩) (fun b10_1 => ?_) (fun b10_1 => ?_)
  · refine lv_if_eq (tgt := 20) hx hb dX7_purge_13 (by decide) (fun c => absurd c (by decide)) (fun _ => ?_)
    refine lv_iconst (v := 0) hx hb dX7_purge_16 (by decide) ?_
    refine lv_goto (tgt := 21) hx hb dX7_purge_17 (by decide) ?_
    refine wI_call (va_runV (As := [.int 0]) (rest := []) ⟨hx, hb, hml, hown, hts⟩ (c_X7_goesOn l D cy ad I S H.size 0) (cw_X7_71 hts rfl rfl ⟨Nat.le_of_ble_eq_true rfl, Nat.le_of_ble_eq_true rfl⟩) (preVW (ci := 7) (q0 := 0) hK hP hD rfl rfl) rfl rfl hl.1 rfl (lv_room (Nat.le_of_ble_eq_true rfl)) dX7_purge_21 ⟨Nat.le_of_ble_eq_true rfl, Nat.le_of_ble_eq_true rfl⟩) hP hD hS hA [0, 1, 2, 3, 4, 5, 6, 7, 8, 9, 10, 11, 12, 13, 14, 15, 16] rfl [.inr 0, .inr 1, .inr 2, .inr 3, .inr 4, .inr 5, .inr 6, .inr 7, .inr 8, .inr 9, .inr 10, .inr 11, .inr 12, .inr 13, .inr 14, .inr 15, .inr 16] (by decide) (fun u => (wM cy ad (va_up I 0 0) S)) (fun _ => rfl) (fun _ => rfl) (fun r21_2 u21_2 H locs q21_2 hP hD hS hkp => ?_)
    have hP : va_P D clW (wM cy ad (va_up I 0 0) S) H := hP
    have hD : va_D A (wM cy ad (va_up I 0 0) S) := hD
    rw [if_pos rfl] at q21_2
    subst q21_2
    refine lv_if_ne (tgt := 29) hx hb dX7_purge_24 (by decide) (fun _ => ?_) (fun c => absurd c (by decide))
    refine lv_iconst (v := 0) hx hb dX7_purge_29 (by decide) ?_
    refine lv_istore_n (lv' := [(2, .int 0), (0, .ref (ad 0)), (1, .int t)]) hx hb dX7_purge_30 rfl hl (by decide) rfl (fun ls hl => ?_)
    refine lv_iconst (v := 0) hx hb dX7_purge_31 (by decide) ?_
    refine lv_istore_n (lv' := [(3, .int 0), (2, .int 0), (0, .ref (ad 0)), (1, .int t)]) hx hb dX7_purge_32 rfl hl (by decide) rfl (fun ls hl => ?_)
    have L33 : ∀ (n_33 i : Nat), i ≤ k → k + 1 ≤ i + n_33 → ∀ (H : Heap) (locs : List Loc), va_P D clW (wM cy ad (va_up I 0 0) (va_up S 9 (pgN S t i))) H → va_D A (wM cy ad (va_up I 0 0) (va_up S 9 (pgN S t i))) → va_S A s.heap H locs → ∀ (ls : Array Slot), lv_has ls 4 [(3, .int (nI i)), (2, .int (pcN S t i)), (0, .ref (ad 0)), (1, .int t)] → W p l e { frames := 1, cells := 0, slots := 0, locals := 22 } s m ([.ref (ad 0), .int t] : List Value).toArray below meth c H locs 0 0 Q (F0 m 33 ls []) := by
      clear hl
      intro n_33
      induction n_33 with
      | zero => intro i  hle_33 hn_33; exact absurd hn_33 (by omega)
      | succ n_33 ih33 =>
        intro i  hle_33 hn_33  H locs hP hD hS ls hl
        refine lv_iload_n hx hb dX7_purge_33 rfl (lv_at hl 0 rfl) ?_
        refine lv_aload_n hx hb dX7_purge_34 rfl (lv_at hl 2 rfl) ?_
        refine gf_X7_75 hx hb hts hown hK hP 0 rfl (v := .int (I 3)) rfl dX7_purge_35 ?_
        refine top_eq hk ?_
        refine lv_icmp_ge (tgt := 86) hx hb dX7_purge_38 (by decide) (fun c38_3 => ?_) (fun c38_3 => ?_)
        · have fk : k ≤ i := nt_le (a := k) (b := i) (by omega) (by omega) c38_3
          obtain rfl : i = k := by omega
          refine lv_aload_n hx hb dX7_purge_86 rfl (lv_at hl 2 rfl) ?_
          refine lv_dup hx hb dX7_purge_87 rfl ?_
          refine gf_X7_115 hx hb hts hown hK hP 0 rfl (v := .int (I 4)) rfl dX7_purge_88 ?_
          refine lv_iload_n hx hb dX7_purge_91 rfl (lv_at hl 1 rfl) ?_
          refine lv_iadd hx hb dX7_purge_92 ?_
          refine pf_X7_115 hx hb hts hown hK hP hD hS 0 rfl (Nat.le_of_ble_eq_true rfl) dX7_purge_93 (fun H locs hP hD hS => ?_)
          have hP : va_P D clW (wM cy ad (va_up (va_up I 0 0) 4 ((I 4) + (pcN S t i))) (va_up S 9 (pgN S t i))) H := hP
          have hD : va_D A (wM cy ad (va_up (va_up I 0 0) 4 ((I 4) + (pcN S t i))) (va_up S 9 (pgN S t i))) := hD
          refine lv_aload_n hx hb dX7_purge_96 rfl (lv_at hl 2 rfl) ?_
          refine lv_iload_n hx hb dX7_purge_97 rfl (lv_at hl 3 rfl) ?_
          refine pf_X7_121 hx hb hts hown hK hP hD hS 0 rfl (Nat.le_of_ble_eq_true rfl) dX7_purge_98 (fun H locs hP hD hS => ?_)
          have hP : va_P D clW (wM cy ad (va_up (va_up (va_up I 0 0) 4 ((I 4) + (pcN S t i))) 5 t) (va_up S 9 (pgN S t i))) H := hP
          have hD : va_D A (wM cy ad (va_up (va_up (va_up I 0 0) 4 ((I 4) + (pcN S t i))) 5 t) (va_up S 9 (pgN S t i))) := hD
          refine lv_iload_n hx hb dX7_purge_101 rfl (lv_at hl 1 rfl) ?_
          exact wI_ret ((va_up (va_up (va_up I 0 0) 4 ((I 4) + (pcN S t i))) 5 t), (va_up S 9 (pgN S t i))) hS hP hx hb hr hlocks dX7_purge_102 (Nat.le_of_ble_eq_true rfl) (Nat.le_of_ble_eq_true rfl) hQ (Or.inl ⟨b10_1, rfl, rfl, rfl⟩)
        · have f38_3 : i < k := nt_nle (a := k) (b := i) (by omega) (by omega) c38_3
          refine lv_aload_n hx hb dX7_purge_41 rfl (lv_at hl 2 rfl) ?_
          refine gf_X7_35 hx hb hts hown hK hP 0 rfl (v := .ref (ad 9)) rfl dX7_purge_42 ?_
          refine lv_iload_n hx hb dX7_purge_45 rfl (lv_at hl 0 rfl) ?_
          refine ald_Z (f := (pgN S t i)) hx hb hK hP 9 rfl (i := i) (by omega) (by decide) dX7_purge_46 ?_
          refine top_eq (y := S 9 i) (pgN_ge S t (Nat.le_refl i)) ?_
          refine lv_if_ne (tgt := 80) hx hb dX7_purge_47 (by decide) (fun c47_4 => ?_) (fun c47_4 => ?_)
          · refine lv_iinc (v := (nI (i + 1))) (lv' := [(3, .int (nI (i + 1))), (2, .int (pcN S t i)), (0, .ref (ad 0)), (1, .int t)]) hx hb dX7_purge_80 hl (k := 0) rfl (nI_1 i) (by decide) rfl (fun ls hl => ?_)
            refine lv_goto (tgt := 33) hx hb dX7_purge_83 (by decide) ?_
            have e_5 : (pcN S t i) = (pcN S t (i + 1)) := (pc_f (fun h9 => c47_4 h9.1)).symm
            have hl : lv_has ls 4 [(3, .int (nI (i + 1))), (2, .int (pcN S t (i + 1))), (0, .ref (ad 0)), (1, .int t)] := by rw [← e_5]; exact hl
            have e_6 : (pgN S t i) = (pgN S t (i + 1)) := (pg_f (fun h9 => c47_4 h9.1)).symm
            have hP : va_P D clW (wM cy ad (va_up I 0 0) (va_up S 9 (pgN S t (i + 1)))) H := by rw [← e_6]; exact hP
            have hD : va_D A (wM cy ad (va_up I 0 0) (va_up S 9 (pgN S t (i + 1)))) := hD.addr rfl
            exact ih33 (i + 1) (by omega) (by omega) _ _ hP hD hS ls (lv_sub hl [0, 1, 2, 3] rfl)
          · refine lv_aload_n hx hb dX7_purge_50 rfl (lv_at hl 2 rfl) ?_
            refine gf_X7_32 hx hb hts hown hK hP 0 rfl (v := .ref (ad 8)) rfl dX7_purge_51 ?_
            refine lv_iload_n hx hb dX7_purge_54 rfl (lv_at hl 0 rfl) ?_
            refine ald_I (f := (S 8)) hx hb hK hP 8 rfl (i := i) (by omega) (by decide) dX7_purge_55 ?_
            refine lv_iconst (v := (-1)) hx hb dX7_purge_56 (by decide) ?_
            refine lv_icmp_eq (tgt := 80) hx hb dX7_purge_57 (by decide) (fun c57_7 => ?_) (fun c57_7 => ?_)
            · refine lv_iinc (v := (nI (i + 1))) (lv' := [(3, .int (nI (i + 1))), (2, .int (pcN S t i)), (0, .ref (ad 0)), (1, .int t)]) hx hb dX7_purge_80 hl (k := 0) rfl (nI_1 i) (by decide) rfl (fun ls hl => ?_)
              refine lv_goto (tgt := 33) hx hb dX7_purge_83 (by decide) ?_
              have e_8 : (pcN S t i) = (pcN S t (i + 1)) := (pc_f (fun h9 => h9.2.1 c57_7)).symm
              have hl : lv_has ls 4 [(3, .int (nI (i + 1))), (2, .int (pcN S t (i + 1))), (0, .ref (ad 0)), (1, .int t)] := by rw [← e_8]; exact hl
              have e_9 : (pgN S t i) = (pgN S t (i + 1)) := (pg_f (fun h9 => h9.2.1 c57_7)).symm
              have hP : va_P D clW (wM cy ad (va_up I 0 0) (va_up S 9 (pgN S t (i + 1)))) H := by rw [← e_9]; exact hP
              have hD : va_D A (wM cy ad (va_up I 0 0) (va_up S 9 (pgN S t (i + 1)))) := hD.addr rfl
              exact ih33 (i + 1) (by omega) (by omega) _ _ hP hD hS ls (lv_sub hl [0, 1, 2, 3] rfl)
            · refine lv_aload_n hx hb dX7_purge_60 rfl (lv_at hl 2 rfl) ?_
              refine gf_X7_32 hx hb hts hown hK hP 0 rfl (v := .ref (ad 8)) rfl dX7_purge_61 ?_
              refine lv_iload_n hx hb dX7_purge_64 rfl (lv_at hl 0 rfl) ?_
              refine ald_I (f := (S 8)) hx hb hK hP 8 rfl (i := i) (by omega) (by decide) dX7_purge_65 ?_
              refine lv_iload_n hx hb dX7_purge_66 rfl (lv_at hl 3 rfl) ?_
              refine lv_icmp_gt (tgt := 80) hx hb dX7_purge_67 (by decide) (fun c67_10 => ?_) (fun c67_10 => ?_)
              · refine lv_iinc (v := (nI (i + 1))) (lv' := [(3, .int (nI (i + 1))), (2, .int (pcN S t i)), (0, .ref (ad 0)), (1, .int t)]) hx hb dX7_purge_80 hl (k := 0) rfl (nI_1 i) (by decide) rfl (fun ls hl => ?_)
                refine lv_goto (tgt := 33) hx hb dX7_purge_83 (by decide) ?_
                have e_11 : (pcN S t i) = (pcN S t (i + 1)) := (pc_f (fun h9 => h9.2.2 c67_10)).symm
                have hl : lv_has ls 4 [(3, .int (nI (i + 1))), (2, .int (pcN S t (i + 1))), (0, .ref (ad 0)), (1, .int t)] := by rw [← e_11]; exact hl
                have e_12 : (pgN S t i) = (pgN S t (i + 1)) := (pg_f (fun h9 => h9.2.2 c67_10)).symm
                have hP : va_P D clW (wM cy ad (va_up I 0 0) (va_up S 9 (pgN S t (i + 1)))) H := by rw [← e_12]; exact hP
                have hD : va_D A (wM cy ad (va_up I 0 0) (va_up S 9 (pgN S t (i + 1)))) := hD.addr rfl
                exact ih33 (i + 1) (by omega) (by omega) _ _ hP hD hS ls (lv_sub hl [0, 1, 2, 3] rfl)
              · refine lv_aload_n hx hb dX7_purge_70 rfl (lv_at hl 2 rfl) ?_
                refine gf_X7_35 hx hb hts hown hK hP 0 rfl (v := .ref (ad 9)) rfl dX7_purge_71 ?_
                refine lv_iload_n hx hb dX7_purge_74 rfl (lv_at hl 0 rfl) ?_
                refine lv_iconst (v := 1) hx hb dX7_purge_75 (by decide) ?_
                refine ast_Z hx hb hK hP hD hS 9 rfl (i := i) (x := 1) (by omega) (by decide) rfl dX7_purge_76 (fun H locs hP hD hS => ?_)
                have hP : va_P D clW (wM cy ad (va_up I 0 0) (va_up S 9 (upd (pgN S t i) i 1))) H := hP
                have hD : va_D A (wM cy ad (va_up I 0 0) (va_up S 9 (upd (pgN S t i) i 1))) := hD
                refine lv_iinc (v := ((pcN S t i) + 1)) (lv' := [(2, .int ((pcN S t i) + 1)), (3, .int (nI i)), (0, .ref (ad 0)), (1, .int t)]) hx hb dX7_purge_77 hl (k := 1) rfl rfl (by decide) rfl (fun ls hl => ?_)
                refine lv_iinc (v := (nI (i + 1))) (lv' := [(3, .int (nI (i + 1))), (2, .int ((pcN S t i) + 1)), (0, .ref (ad 0)), (1, .int t)]) hx hb dX7_purge_80 hl (k := 1) rfl (nI_1 i) (by decide) rfl (fun ls hl => ?_)
                refine lv_goto (tgt := 33) hx hb dX7_purge_83 (by decide) ?_
                have e_13 : ((pcN S t i) + 1) = (pcN S t (i + 1)) := (pc_t ⟨c47_4, c57_7, c67_10⟩).symm
                have hl : lv_has ls 4 [(3, .int (nI (i + 1))), (2, .int (pcN S t (i + 1))), (0, .ref (ad 0)), (1, .int t)] := by rw [← e_13]; exact hl
                have e_14 : (upd (pgN S t i) i 1) = (pgN S t (i + 1)) := (pg_t ⟨c47_4, c57_7, c67_10⟩).symm
                have hP : va_P D clW (wM cy ad (va_up I 0 0) (va_up S 9 (pgN S t (i + 1)))) H := by rw [← e_14]; exact hP
                have hD : va_D A (wM cy ad (va_up I 0 0) (va_up S 9 (pgN S t (i + 1)))) := hD.addr rfl
                exact ih33 (i + 1) (by omega) (by omega) _ _ hP hD hS ls (lv_sub hl [0, 1, 2, 3] rfl)
    have e_15 : (S 9) = (pgN S t 0) := rfl
    have hP : va_P D clW (wM cy ad (va_up I 0 0) (va_up S 9 (pgN S t 0))) H := by rw [← e_15]; exact hP
    have hD : va_D A (wM cy ad (va_up I 0 0) (va_up S 9 (pgN S t 0))) := hD.addr rfl
    exact L33 (k + 1) 0 (by omega) (by omega) _ _ hP hD hS ls (lv_sub hl [0, 1, 2, 3] rfl)
  · refine lv_if_eq (tgt := 20) hx hb dX7_purge_13 (by decide) (fun _ => ?_) (fun c => absurd (by decide) c)
    refine lv_iconst (v := 1) hx hb dX7_purge_20 (by decide) ?_
    refine wI_call (va_runV (As := [.int 1]) (rest := []) ⟨hx, hb, hml, hown, hts⟩ (c_X7_goesOn l D cy ad I S H.size 1) (cw_X7_71 hts rfl rfl ⟨Nat.le_of_ble_eq_true rfl, Nat.le_of_ble_eq_true rfl⟩) (preVW (ci := 7) (q0 := 0) hK hP hD rfl rfl) rfl rfl hl.1 rfl (lv_room (Nat.le_of_ble_eq_true rfl)) dX7_purge_21 ⟨Nat.le_of_ble_eq_true rfl, Nat.le_of_ble_eq_true rfl⟩) hP hD hS hA [0, 1, 2, 3, 4, 5, 6, 7, 8, 9, 10, 11, 12, 13, 14, 15, 16] rfl [.inr 0, .inr 1, .inr 2, .inr 3, .inr 4, .inr 5, .inr 6, .inr 7, .inr 8, .inr 9, .inr 10, .inr 11, .inr 12, .inr 13, .inr 14, .inr 15, .inr 16] (by decide) (fun u => (wM cy ad (va_up I 0 1) S)) (fun _ => rfl) (fun _ => rfl) (fun r21_16 u21_16 H locs q21_16 hP hD hS hkp => ?_)
    have hP : va_P D clW (wM cy ad (va_up I 0 1) S) H := hP
    have hD : va_D A (wM cy ad (va_up I 0 1) S) := hD
    rw [if_neg (by decide)] at q21_16
    subst q21_16
    refine lv_if_ne (tgt := 29) hx hb dX7_purge_24 (by decide) (fun c => absurd (by decide) c) (fun _ => ?_)
    refine lv_iconst (v := 0) hx hb dX7_purge_27 (by decide) ?_
    exact wI_ret ((va_up I 0 1), S) hS hP hx hb hr hlocks dX7_purge_28 (Nat.le_of_ble_eq_true rfl) (Nat.le_of_ble_eq_true rfl) hQ (Or.inr ⟨b10_1, rfl, rfl⟩)

set_option maxHeartbeats 4000000 in
set_option maxRecDepth 100000 in
theorem c_X7_closes (l : Launch) (D : va_G) (cy : Nat → ClassId) (ad : Nat → Nat) (I : AI) (S : AS) (sz : Nat) (wh : Int32) (a : Int32) (b : Int32) (k : Nat) (hk : I 3 = nI k) (hk8 : k ≤ 256) (mm : Nat) (hcl : clOK S k wh a b (I 2) mm) : Met l yX7_closes (Cond.code yX7_closes cX7_closes 6 (some .int) :: wsL_law) ({ frames := 2, cells := 0, slots := 0, locals := 48 }) (va_Pc [.ref (ad 0), .int wh, .int a, .int b] (wrB D cy (wM cy ad I S) sz)) (va_Qi (S := Nat × AS) (fun r u => r = nI mm ∧ clQ S k wh a b (I 2) mm = (u.1, u.2)) (fun u t9 => va_P D clW (wM cy ad (va_up I 3 (nI u.1)) u.2) t9.heap) (va_A (wM cy ad I S) sz)) 0 0 (va_A (wM cy ad I S) sz) := by
  refine enter (cc := cX7_closes) (by decide) (Nat.le_of_ble_eq_true rfl) ?_
  intro p e s m below meth c hx hb hr hml hown hts hlocks hin hv Q hQ ls hl
  obtain ⟨hsz, hP, hK, hD0⟩ := hv
  subst hsz
  have hD := hD0.self (sz := s.heap.size)
  generalize hAe : va_A (wM cy ad I S) s.heap.size = A at hD hQ ⊢
  have hA : ∀ q : Nat, s.heap.size ≤ q → A q := fun q h => by rw [← hAe]; exact Or.inr h
  have hS : va_S A s.heap s.heap [] := va_S.rf
  suffices K_ : ∀ (H : Heap) (locs : List Loc), va_P D clW (wM cy ad I S) H → va_S A s.heap H locs → W p l e ({ frames := 2, cells := 0, slots := 0, locals := 48 }) s m ([.ref (ad 0), .int wh, .int a, .int b] : List Value).toArray below meth c H locs 0 0 Q (F0 m 0 ls []) from K_ _ _ hP hS
  clear hP hS
  intro H locs hP hS
  have hown : s.vm.findClass RX7 = some m.cls := hown
  have hl : lv_has ls 6 [(0, .ref (ad 0)), (1, .int wh), (2, .int a), (3, .int b)] := hl
  refine lv_iconst (v := 0) hx hb dX7_closes_0 (by decide) ?_
  refine lv_istore (lv' := [(4, .int 0), (0, .ref (ad 0)), (1, .int wh), (2, .int a), (3, .int b)]) hx hb dX7_closes_1 hl (by decide) rfl (fun ls hl => ?_)
  refine lv_aload_n hx hb dX7_closes_3 rfl (lv_at hl 1 rfl) ?_
  refine lv_iload_n hx hb dX7_closes_4 rfl (lv_at hl 2 rfl) ?_
  refine lv_iload_n hx hb dX7_closes_5 rfl (lv_at hl 3 rfl) ?_
  refine lv_iload_n hx hb dX7_closes_6 rfl (lv_at hl 4 rfl) ?_
  refine lv_aload_n hx hb dX7_closes_7 rfl (lv_at hl 1 rfl) ?_
  refine gf_X7_78 hx hb hts hown hK hP 0 rfl (v := .int (I 2)) rfl dX7_closes_8 ?_
  refine rI_call (va_runV (As := [.int wh, .int a, .int b, .int (I 2)]) (rest := []) ⟨hx, hb, hml, hown, hts⟩ (c_X7_meets l D cy ad I S wh a b (I 2) k hk hk8) (cw_X7_84 hts rfl rfl ⟨Nat.le_of_ble_eq_true rfl, Nat.le_of_ble_eq_true rfl⟩) (preVR (ci := 7) (q0 := 0) hK hP rfl rfl) rfl rfl hl.1 rfl (lv_room (Nat.le_of_ble_eq_true rfl)) dX7_closes_11 ⟨Nat.le_of_ble_eq_true rfl, Nat.le_of_ble_eq_true rfl⟩) (fun r hr_ => ?_)
  subst hr_
  refine lv_istore (lv' := [(5, .int (mtN S wh a b (I 2) k)), (4, .int 0), (0, .ref (ad 0)), (1, .int wh), (2, .int a), (3, .int b)]) hx hb dX7_closes_14 hl (by decide) rfl (fun ls hl => ?_)
  have L16 : ∀ (n_16 j : Nat) (k1 : Nat) (S1 : AS), j ≤ mm → mm + 1 ≤ j + n_16 → clQ S k wh a b (I 2) j = (k1, S1) → k1 ≤ 256 → ∀ (H : Heap) (locs : List Loc), va_P D clW (wM cy ad (va_up I 3 (nI k1)) S1) H → va_D A (wM cy ad (va_up I 3 (nI k1)) S1) → va_S A s.heap H locs → ∀ (ls : Array Slot), lv_has ls 6 [(4, .int (nI j)), (5, .int (mtN S1 wh a b (I 2) k1)), (0, .ref (ad 0)), (1, .int wh), (2, .int a), (3, .int b)] → W p l e { frames := 2, cells := 0, slots := 0, locals := 48 } s m ([.ref (ad 0), .int wh, .int a, .int b] : List Value).toArray below meth c H locs 0 0 Q (F0 m 16 ls []) := by
    clear hl
    intro n_16
    induction n_16 with
    | zero => intro j k1 S1 hle_16 hn_16; exact absurd hn_16 (by omega)
    | succ n_16 ih16 =>
      intro j k1 S1 hle_16 hn_16 hq hk1 H locs hP hD hS ls hl
      refine lv_iload hx hb dX7_closes_16 (lv_at hl 1 rfl) ?_
      rcases mtN_is S1 wh a b (I 2) k1 with hbm | ⟨f9, hf9, hbm⟩
      · have hl : lv_has ls 6 [(4, .int (nI j)), (5, .int (-1)), (0, .ref (ad 0)), (1, .int wh), (2, .int a), (3, .int b)] := by rw [← hbm]; exact hl
        refine top_eq (y := (-1)) hbm ?_
        have hjm : j = mm := by
          rcases Nat.lt_or_ge j mm with q | q
          · exact absurd (by rw [hq]; exact hbm) (hcl.2 j q).2
          · omega
        subst hjm
        refine lv_iconst (v := (-1)) hx hb dX7_closes_18 (by decide) ?_
        refine lv_icmp_eq (tgt := 114) hx hb dX7_closes_19 (by decide) (fun _ => ?_) (fun c => absurd (by decide) c)
        refine lv_iload hx hb dX7_closes_114 (lv_at hl 0 rfl) ?_
        exact wI_ret (k1, S1) hS hP hx hb hr hlocks dX7_closes_116 (Nat.le_of_ble_eq_true rfl) (Nat.le_of_ble_eq_true rfl) hQ ⟨rfl, hq⟩
      · have hl : lv_has ls 6 [(4, .int (nI j)), (5, .int (nI f9)), (0, .ref (ad 0)), (1, .int wh), (2, .int a), (3, .int b)] := by rw [← hbm]; exact hl
        refine top_eq (y := (nI f9)) hbm ?_
        have hjm : j < mm := Nat.lt_of_le_of_ne hle_16 (fun q => by have h9 := hcl.1; rw [← q, hq] at h9; exact nI_m1 (by omega) (hbm.symm.trans h9))
        have hcap := (hcl.2 j hjm).1
        rw [hq] at hcap
        have hcap : k1 + 2 ≤ 256 := hcap
        refine lv_iconst (v := (-1)) hx hb dX7_closes_18 (by decide) ?_
        refine lv_icmp_eq (tgt := 114) hx hb dX7_closes_19 (by decide) (fun c => absurd c (nI_m1 (by omega))) (fun _ => ?_)
        refine lv_aload_n hx hb dX7_closes_22 rfl (lv_at hl 2 rfl) ?_
        refine gf_X7_32 hx hb hts hown hK hP 0 rfl (v := .ref (ad 8)) rfl dX7_closes_23 ?_
        refine lv_iload hx hb dX7_closes_26 (lv_at hl 1 rfl) ?_
        refine lv_aload_n hx hb dX7_closes_28 rfl (lv_at hl 2 rfl) ?_
        refine gf_X7_78 hx hb hts hown hK hP 0 rfl (v := .int (I 2)) rfl dX7_closes_29 ?_
        refine ast_I hx hb hK hP hD hS 8 rfl (i := f9) (x := (I 2)) (by omega) (by decide) dX7_closes_32 (fun H locs hP hD hS => ?_)
        have hP : va_P D clW (wM cy ad (va_up I 3 (nI k1)) (va_up S1 8 (upd (S1 8) f9 (I 2)))) H := hP
        have hD : va_D A (wM cy ad (va_up I 3 (nI k1)) (va_up S1 8 (upd (S1 8) f9 (I 2)))) := hD
        refine lv_aload_n hx hb dX7_closes_33 rfl (lv_at hl 2 rfl) ?_
        refine gf_X7_23 hx hb hts hown hK hP 0 rfl (v := .ref (ad 5)) rfl dX7_closes_34 ?_
        refine lv_iload hx hb dX7_closes_37 (lv_at hl 1 rfl) ?_
        refine ald_I (f := (S1 5)) hx hb hK hP 5 rfl (i := f9) (by omega) (by decide) dX7_closes_39 ?_
        refine lv_iload_n hx hb dX7_closes_40 rfl (lv_at hl 4 rfl) ?_
        refine lv_icmp_ge (tgt := 64) hx hb dX7_closes_41 (by decide) (fun c41_1 => ?_) (fun c41_1 => ?_)
        · refine lv_aload_n hx hb dX7_closes_64 rfl (lv_at hl 2 rfl) ?_
          refine gf_X7_26 hx hb hts hown hK hP 0 rfl (v := .ref (ad 6)) rfl dX7_closes_65 ?_
          refine lv_iload hx hb dX7_closes_68 (lv_at hl 1 rfl) ?_
          refine ald_I (f := (S1 6)) hx hb hK hP 6 rfl (i := f9) (by omega) (by decide) dX7_closes_70 ?_
          refine lv_iload_n hx hb dX7_closes_71 rfl (lv_at hl 5 rfl) ?_
          refine lv_icmp_le (tgt := 95) hx hb dX7_closes_72 (by decide) (fun c72_2 => ?_) (fun c72_2 => ?_)
          · refine lv_iinc (v := (nI (j + 1))) (lv' := [(4, .int (nI (j + 1))), (5, .int (nI f9)), (0, .ref (ad 0)), (1, .int wh), (2, .int a), (3, .int b)]) hx hb dX7_closes_95 hl (k := 0) rfl (nI_1 j) (by decide) rfl (fun ls hl => ?_)
            refine lv_aload_n hx hb dX7_closes_98 rfl (lv_at hl 2 rfl) ?_
            refine lv_iload_n hx hb dX7_closes_99 rfl (lv_at hl 3 rfl) ?_
            refine lv_iload_n hx hb dX7_closes_100 rfl (lv_at hl 4 rfl) ?_
            refine lv_iload_n hx hb dX7_closes_101 rfl (lv_at hl 5 rfl) ?_
            refine lv_aload_n hx hb dX7_closes_102 rfl (lv_at hl 2 rfl) ?_
            refine gf_X7_78 hx hb hts hown hK hP 0 rfl (v := .int (I 2)) rfl dX7_closes_103 ?_
            refine rI_call (va_runV (As := [.int wh, .int a, .int b, .int (I 2)]) (rest := []) ⟨hx, hb, hml, hown, hts⟩ (c_X7_meets l D cy ad (va_up I 3 (nI k1)) (cdM S1 f9 (I 2)) wh a b (I 2) k1 rfl (by omega)) (cw_X7_84 hts rfl rfl ⟨Nat.le_of_ble_eq_true rfl, Nat.le_of_ble_eq_true rfl⟩) (preVR (ci := 7) (q0 := 0) hK hP rfl rfl) rfl rfl hl.1 rfl (lv_room (Nat.le_of_ble_eq_true rfl)) dX7_closes_106 ⟨Nat.le_of_ble_eq_true rfl, Nat.le_of_ble_eq_true rfl⟩) (fun r hr_ => ?_)
            subst hr_
            refine lv_istore (lv' := [(5, .int (mtN (cdM S1 f9 (I 2)) wh a b (I 2) k1)), (4, .int (nI (j + 1))), (0, .ref (ad 0)), (1, .int wh), (2, .int a), (3, .int b)]) hx hb dX7_closes_109 hl (by decide) rfl (fun ls hl => ?_)
            refine lv_goto (tgt := 16) hx hb dX7_closes_111 (by decide) ?_
            have hP : va_P D clW (wM cy ad (va_up I 3 (nI k1)) (cdM S1 f9 (I 2))) H := hP
            have hD : va_D A (wM cy ad (va_up I 3 (nI k1)) (cdM S1 f9 (I 2))) := hD.addr rfl
            exact ih16 (j + 1) k1 (cdM S1 f9 (I 2)) (by omega) (by omega) (clQ_s hq hbm (by omega) (clF_00 (Int32.not_lt.mpr c41_1) (Int32.not_lt.mpr c72_2))) (by omega) _ _ hP hD hS ls (lv_sub hl [1, 0, 2, 3, 4, 5] rfl)
          · refine lv_aload_n hx hb dX7_closes_75 rfl (lv_at hl 2 rfl) ?_
            refine lv_iload_n hx hb dX7_closes_76 rfl (lv_at hl 3 rfl) ?_
            refine lv_aload_n hx hb dX7_closes_77 rfl (lv_at hl 2 rfl) ?_
            refine gf_X7_20 hx hb hts hown hK hP 0 rfl (v := .ref (ad 4)) rfl dX7_closes_78 ?_
            refine lv_iload hx hb dX7_closes_81 (lv_at hl 1 rfl) ?_
            refine ald_I (f := (S1 4)) hx hb hK hP 4 rfl (i := f9) (by omega) (by decide) dX7_closes_83 ?_
            refine lv_iload_n hx hb dX7_closes_84 rfl (lv_at hl 5 rfl) ?_
            refine lv_aload_n hx hb dX7_closes_85 rfl (lv_at hl 2 rfl) ?_
            refine gf_X7_26 hx hb hts hown hK hP 0 rfl (v := .ref (ad 6)) rfl dX7_closes_86 ?_
            refine lv_iload hx hb dX7_closes_89 (lv_at hl 1 rfl) ?_
            refine ald_I (f := (S1 6)) hx hb hK hP 6 rfl (i := f9) (by omega) (by decide) dX7_closes_91 ?_
            refine wV_call (va_runV (As := [.int wh, .int ((S1 4) f9), .int b, .int ((S1 6) f9)]) (rest := []) ⟨hx, hb, hml, hown, hts⟩ (c_X7_opens l D cy ad (va_up I 3 (nI k1)) (va_up S1 8 (upd (S1 8) f9 (I 2))) H.size wh ((S1 4) f9) b ((S1 6) f9) k1 rfl (by omega)) (cw_X7_88 hts rfl rfl ⟨Nat.le_of_ble_eq_true rfl, Nat.le_of_ble_eq_true rfl⟩) (preVW (ci := 7) (q0 := 0) hK hP hD rfl rfl) rfl rfl hl.1 rfl (lv_room (Nat.le_of_ble_eq_true rfl)) dX7_closes_92 ⟨Nat.le_of_ble_eq_true rfl, Nat.le_of_ble_eq_true rfl⟩) hP hD hS hA [0, 1, 2, 3, 4, 5, 6, 7, 8, 9, 10, 11, 12, 13, 14, 15, 16] rfl [.inr 0, .inr 1, .inr 2, .inr 3, .inr 4, .inr 5, .inr 6, .inr 7, .inr 8, .inr 9, .inr 10, .inr 11, .inr 12, .inr 13, .inr 14, .inr 15, .inr 16] (by decide) (fun u => (wM cy ad (va_up I 3 (nI (k1 + 1))) (va_up (va_up (va_up (va_up (va_up (va_up S1 3 (upd (S1 3) k1 wh)) 4 (upd (S1 4) k1 ((S1 4) f9))) 5 (upd (S1 5) k1 b)) 6 (upd (S1 6) k1 ((S1 6) f9))) 7 (upd (S1 7) k1 (I 2))) 8 (upd (upd (S1 8) f9 (I 2)) k1 (-1))))) (fun _ => rfl) (fun _ => rfl) (fun u92_3 H locs q92_3 hP hD hS hkp => ?_)
            have hP : va_P D clW (wM cy ad (va_up I 3 (nI (k1 + 1))) (va_up (va_up (va_up (va_up (va_up (va_up S1 3 (upd (S1 3) k1 wh)) 4 (upd (S1 4) k1 ((S1 4) f9))) 5 (upd (S1 5) k1 b)) 6 (upd (S1 6) k1 ((S1 6) f9))) 7 (upd (S1 7) k1 (I 2))) 8 (upd (upd (S1 8) f9 (I 2)) k1 (-1)))) H := hP
            have hD : va_D A (wM cy ad (va_up I 3 (nI (k1 + 1))) (va_up (va_up (va_up (va_up (va_up (va_up S1 3 (upd (S1 3) k1 wh)) 4 (upd (S1 4) k1 ((S1 4) f9))) 5 (upd (S1 5) k1 b)) 6 (upd (S1 6) k1 ((S1 6) f9))) 7 (upd (S1 7) k1 (I 2))) 8 (upd (upd (S1 8) f9 (I 2)) k1 (-1)))) := hD
            refine lv_iinc (v := (nI (j + 1))) (lv' := [(4, .int (nI (j + 1))), (5, .int (nI f9)), (0, .ref (ad 0)), (1, .int wh), (2, .int a), (3, .int b)]) hx hb dX7_closes_95 hl (k := 0) rfl (nI_1 j) (by decide) rfl (fun ls hl => ?_)
            refine lv_aload_n hx hb dX7_closes_98 rfl (lv_at hl 2 rfl) ?_
            refine lv_iload_n hx hb dX7_closes_99 rfl (lv_at hl 3 rfl) ?_
            refine lv_iload_n hx hb dX7_closes_100 rfl (lv_at hl 4 rfl) ?_
            refine lv_iload_n hx hb dX7_closes_101 rfl (lv_at hl 5 rfl) ?_
            refine lv_aload_n hx hb dX7_closes_102 rfl (lv_at hl 2 rfl) ?_
            refine gf_X7_78 hx hb hts hown hK hP 0 rfl (v := .int (I 2)) rfl dX7_closes_103 ?_
            refine rI_call (va_runV (As := [.int wh, .int a, .int b, .int (I 2)]) (rest := []) ⟨hx, hb, hml, hown, hts⟩ (c_X7_meets l D cy ad (va_up I 3 (nI (k1 + 1))) (opM (cdM S1 f9 (I 2)) k1 wh (S1 4 f9) b (S1 6 f9) (I 2)) wh a b (I 2) (k1 + 1) rfl (by omega)) (cw_X7_84 hts rfl rfl ⟨Nat.le_of_ble_eq_true rfl, Nat.le_of_ble_eq_true rfl⟩) (preVR (ci := 7) (q0 := 0) hK hP rfl rfl) rfl rfl hl.1 rfl (lv_room (Nat.le_of_ble_eq_true rfl)) dX7_closes_106 ⟨Nat.le_of_ble_eq_true rfl, Nat.le_of_ble_eq_true rfl⟩) (fun r hr_ => ?_)
            subst hr_
            refine lv_istore (lv' := [(5, .int (mtN (opM (cdM S1 f9 (I 2)) k1 wh (S1 4 f9) b (S1 6 f9) (I 2)) wh a b (I 2) (k1 + 1))), (4, .int (nI (j + 1))), (0, .ref (ad 0)), (1, .int wh), (2, .int a), (3, .int b)]) hx hb dX7_closes_109 hl (by decide) rfl (fun ls hl => ?_)
            refine lv_goto (tgt := 16) hx hb dX7_closes_111 (by decide) ?_
            have hP : va_P D clW (wM cy ad (va_up I 3 (nI (k1 + 1))) (opM (cdM S1 f9 (I 2)) k1 wh (S1 4 f9) b (S1 6 f9) (I 2))) H := hP
            have hD : va_D A (wM cy ad (va_up I 3 (nI (k1 + 1))) (opM (cdM S1 f9 (I 2)) k1 wh (S1 4 f9) b (S1 6 f9) (I 2))) := hD.addr rfl
            exact ih16 (j + 1) (k1 + 1) (opM (cdM S1 f9 (I 2)) k1 wh (S1 4 f9) b (S1 6 f9) (I 2)) (by omega) (by omega) (clQ_s hq hbm (by omega) (clF_01 (Int32.not_lt.mpr c41_1) (Int32.not_le.mp c72_2))) (by omega) _ _ hP hD hS ls (lv_sub hl [1, 0, 2, 3, 4, 5] rfl)
        · refine lv_aload_n hx hb dX7_closes_44 rfl (lv_at hl 2 rfl) ?_
          refine lv_iload_n hx hb dX7_closes_45 rfl (lv_at hl 3 rfl) ?_
          refine lv_aload_n hx hb dX7_closes_46 rfl (lv_at hl 2 rfl) ?_
          refine gf_X7_20 hx hb hts hown hK hP 0 rfl (v := .ref (ad 4)) rfl dX7_closes_47 ?_
          refine lv_iload hx hb dX7_closes_50 (lv_at hl 1 rfl) ?_
          refine ald_I (f := (S1 4)) hx hb hK hP 4 rfl (i := f9) (by omega) (by decide) dX7_closes_52 ?_
          refine lv_aload_n hx hb dX7_closes_53 rfl (lv_at hl 2 rfl) ?_
          refine gf_X7_23 hx hb hts hown hK hP 0 rfl (v := .ref (ad 5)) rfl dX7_closes_54 ?_
          refine lv_iload hx hb dX7_closes_57 (lv_at hl 1 rfl) ?_
          refine ald_I (f := (S1 5)) hx hb hK hP 5 rfl (i := f9) (by omega) (by decide) dX7_closes_59 ?_
          refine lv_iload_n hx hb dX7_closes_60 rfl (lv_at hl 4 rfl) ?_
          refine wV_call (va_runV (As := [.int wh, .int ((S1 4) f9), .int ((S1 5) f9), .int a]) (rest := []) ⟨hx, hb, hml, hown, hts⟩ (c_X7_opens l D cy ad (va_up I 3 (nI k1)) (va_up S1 8 (upd (S1 8) f9 (I 2))) H.size wh ((S1 4) f9) ((S1 5) f9) a k1 rfl (by omega)) (cw_X7_88 hts rfl rfl ⟨Nat.le_of_ble_eq_true rfl, Nat.le_of_ble_eq_true rfl⟩) (preVW (ci := 7) (q0 := 0) hK hP hD rfl rfl) rfl rfl hl.1 rfl (lv_room (Nat.le_of_ble_eq_true rfl)) dX7_closes_61 ⟨Nat.le_of_ble_eq_true rfl, Nat.le_of_ble_eq_true rfl⟩) hP hD hS hA [0, 1, 2, 3, 4, 5, 6, 7, 8, 9, 10, 11, 12, 13, 14, 15, 16] rfl [.inr 0, .inr 1, .inr 2, .inr 3, .inr 4, .inr 5, .inr 6, .inr 7, .inr 8, .inr 9, .inr 10, .inr 11, .inr 12, .inr 13, .inr 14, .inr 15, .inr 16] (by decide) (fun u => (wM cy ad (va_up I 3 (nI (k1 + 1))) (va_up (va_up (va_up (va_up (va_up (va_up S1 3 (upd (S1 3) k1 wh)) 4 (upd (S1 4) k1 ((S1 4) f9))) 5 (upd (S1 5) k1 ((S1 5) f9))) 6 (upd (S1 6) k1 a)) 7 (upd (S1 7) k1 (I 2))) 8 (upd (upd (S1 8) f9 (I 2)) k1 (-1))))) (fun _ => rfl) (fun _ => rfl) (fun u61_4 H locs q61_4 hP hD hS hkp => ?_)
          have hP : va_P D clW (wM cy ad (va_up I 3 (nI (k1 + 1))) (va_up (va_up (va_up (va_up (va_up (va_up S1 3 (upd (S1 3) k1 wh)) 4 (upd (S1 4) k1 ((S1 4) f9))) 5 (upd (S1 5) k1 ((S1 5) f9))) 6 (upd (S1 6) k1 a)) 7 (upd (S1 7) k1 (I 2))) 8 (upd (upd (S1 8) f9 (I 2)) k1 (-1)))) H := hP
          have hD : va_D A (wM cy ad (va_up I 3 (nI (k1 + 1))) (va_up (va_up (va_up (va_up (va_up (va_up S1 3 (upd (S1 3) k1 wh)) 4 (upd (S1 4) k1 ((S1 4) f9))) 5 (upd (S1 5) k1 ((S1 5) f9))) 6 (upd (S1 6) k1 a)) 7 (upd (S1 7) k1 (I 2))) 8 (upd (upd (S1 8) f9 (I 2)) k1 (-1)))) := hD
          refine lv_aload_n hx hb dX7_closes_64 rfl (lv_at hl 2 rfl) ?_
          refine gf_X7_26 hx hb hts hown hK hP 0 rfl (v := .ref (ad 6)) rfl dX7_closes_65 ?_
          refine lv_iload hx hb dX7_closes_68 (lv_at hl 1 rfl) ?_
          refine ald_I (f := (upd (S1 6) k1 a)) hx hb hK hP 6 rfl (i := f9) (by omega) (by decide) dX7_closes_70 ?_
          refine lv_iload_n hx hb dX7_closes_71 rfl (lv_at hl 5 rfl) ?_
          refine lv_icmp_le (tgt := 95) hx hb dX7_closes_72 (by decide) (fun c72_5 => ?_) (fun c72_5 => ?_)
          · refine lv_iinc (v := (nI (j + 1))) (lv' := [(4, .int (nI (j + 1))), (5, .int (nI f9)), (0, .ref (ad 0)), (1, .int wh), (2, .int a), (3, .int b)]) hx hb dX7_closes_95 hl (k := 0) rfl (nI_1 j) (by decide) rfl (fun ls hl => ?_)
            refine lv_aload_n hx hb dX7_closes_98 rfl (lv_at hl 2 rfl) ?_
            refine lv_iload_n hx hb dX7_closes_99 rfl (lv_at hl 3 rfl) ?_
            refine lv_iload_n hx hb dX7_closes_100 rfl (lv_at hl 4 rfl) ?_
            refine lv_iload_n hx hb dX7_closes_101 rfl (lv_at hl 5 rfl) ?_
            refine lv_aload_n hx hb dX7_closes_102 rfl (lv_at hl 2 rfl) ?_
            refine gf_X7_78 hx hb hts hown hK hP 0 rfl (v := .int (I 2)) rfl dX7_closes_103 ?_
            refine rI_call (va_runV (As := [.int wh, .int a, .int b, .int (I 2)]) (rest := []) ⟨hx, hb, hml, hown, hts⟩ (c_X7_meets l D cy ad (va_up I 3 (nI (k1 + 1))) (opM (cdM S1 f9 (I 2)) k1 wh (S1 4 f9) (S1 5 f9) a (I 2)) wh a b (I 2) (k1 + 1) rfl (by omega)) (cw_X7_84 hts rfl rfl ⟨Nat.le_of_ble_eq_true rfl, Nat.le_of_ble_eq_true rfl⟩) (preVR (ci := 7) (q0 := 0) hK hP rfl rfl) rfl rfl hl.1 rfl (lv_room (Nat.le_of_ble_eq_true rfl)) dX7_closes_106 ⟨Nat.le_of_ble_eq_true rfl, Nat.le_of_ble_eq_true rfl⟩) (fun r hr_ => ?_)
            subst hr_
            refine lv_istore (lv' := [(5, .int (mtN (opM (cdM S1 f9 (I 2)) k1 wh (S1 4 f9) (S1 5 f9) a (I 2)) wh a b (I 2) (k1 + 1))), (4, .int (nI (j + 1))), (0, .ref (ad 0)), (1, .int wh), (2, .int a), (3, .int b)]) hx hb dX7_closes_109 hl (by decide) rfl (fun ls hl => ?_)
            refine lv_goto (tgt := 16) hx hb dX7_closes_111 (by decide) ?_
            have hP : va_P D clW (wM cy ad (va_up I 3 (nI (k1 + 1))) (opM (cdM S1 f9 (I 2)) k1 wh (S1 4 f9) (S1 5 f9) a (I 2))) H := hP
            have hD : va_D A (wM cy ad (va_up I 3 (nI (k1 + 1))) (opM (cdM S1 f9 (I 2)) k1 wh (S1 4 f9) (S1 5 f9) a (I 2))) := hD.addr rfl
            exact ih16 (j + 1) (k1 + 1) (opM (cdM S1 f9 (I 2)) k1 wh (S1 4 f9) (S1 5 f9) a (I 2)) (by omega) (by omega) (clQ_s hq hbm (by omega) (clF_10 (Int32.not_le.mp c41_1) (Int32.not_lt.mpr c72_5))) (by omega) _ _ hP hD hS ls (lv_sub hl [1, 0, 2, 3, 4, 5] rfl)
          · refine lv_aload_n hx hb dX7_closes_75 rfl (lv_at hl 2 rfl) ?_
            refine lv_iload_n hx hb dX7_closes_76 rfl (lv_at hl 3 rfl) ?_
            refine lv_aload_n hx hb dX7_closes_77 rfl (lv_at hl 2 rfl) ?_
            refine gf_X7_20 hx hb hts hown hK hP 0 rfl (v := .ref (ad 4)) rfl dX7_closes_78 ?_
            refine lv_iload hx hb dX7_closes_81 (lv_at hl 1 rfl) ?_
            refine ald_I (f := (upd (S1 4) k1 ((S1 4) f9))) hx hb hK hP 4 rfl (i := f9) (by omega) (by decide) dX7_closes_83 ?_
            refine lv_iload_n hx hb dX7_closes_84 rfl (lv_at hl 5 rfl) ?_
            refine lv_aload_n hx hb dX7_closes_85 rfl (lv_at hl 2 rfl) ?_
            refine gf_X7_26 hx hb hts hown hK hP 0 rfl (v := .ref (ad 6)) rfl dX7_closes_86 ?_
            refine lv_iload hx hb dX7_closes_89 (lv_at hl 1 rfl) ?_
            refine ald_I (f := (upd (S1 6) k1 a)) hx hb hK hP 6 rfl (i := f9) (by omega) (by decide) dX7_closes_91 ?_
            refine wV_call (va_runV (As := [.int wh, .int ((upd (S1 4) k1 ((S1 4) f9)) f9), .int b, .int ((upd (S1 6) k1 a) f9)]) (rest := []) ⟨hx, hb, hml, hown, hts⟩ (c_X7_opens l D cy ad (va_up I 3 (nI (k1 + 1))) (va_up (va_up (va_up (va_up (va_up (va_up S1 3 (upd (S1 3) k1 wh)) 4 (upd (S1 4) k1 ((S1 4) f9))) 5 (upd (S1 5) k1 ((S1 5) f9))) 6 (upd (S1 6) k1 a)) 7 (upd (S1 7) k1 (I 2))) 8 (upd (upd (S1 8) f9 (I 2)) k1 (-1))) H.size wh ((upd (S1 4) k1 ((S1 4) f9)) f9) b ((upd (S1 6) k1 a) f9) (k1 + 1) rfl (by omega)) (cw_X7_88 hts rfl rfl ⟨Nat.le_of_ble_eq_true rfl, Nat.le_of_ble_eq_true rfl⟩) (preVW (ci := 7) (q0 := 0) hK hP hD rfl rfl) rfl rfl hl.1 rfl (lv_room (Nat.le_of_ble_eq_true rfl)) dX7_closes_92 ⟨Nat.le_of_ble_eq_true rfl, Nat.le_of_ble_eq_true rfl⟩) hP hD hS hA [0, 1, 2, 3, 4, 5, 6, 7, 8, 9, 10, 11, 12, 13, 14, 15, 16] rfl [.inr 0, .inr 1, .inr 2, .inr 3, .inr 4, .inr 5, .inr 6, .inr 7, .inr 8, .inr 9, .inr 10, .inr 11, .inr 12, .inr 13, .inr 14, .inr 15, .inr 16] (by decide) (fun u => (wM cy ad (va_up I 3 (nI ((k1 + 1) + 1))) (va_up (va_up (va_up (va_up (va_up (va_up S1 3 (upd (upd (S1 3) k1 wh) (k1 + 1) wh)) 4 (upd (upd (S1 4) k1 ((S1 4) f9)) (k1 + 1) ((upd (S1 4) k1 ((S1 4) f9)) f9))) 5 (upd (upd (S1 5) k1 ((S1 5) f9)) (k1 + 1) b)) 6 (upd (upd (S1 6) k1 a) (k1 + 1) ((upd (S1 6) k1 a) f9))) 7 (upd (upd (S1 7) k1 (I 2)) (k1 + 1) (I 2))) 8 (upd (upd (upd (S1 8) f9 (I 2)) k1 (-1)) (k1 + 1) (-1))))) (fun _ => rfl) (fun _ => rfl) (fun u92_6 H locs q92_6 hP hD hS hkp => ?_)
            have hP : va_P D clW (wM cy ad (va_up I 3 (nI ((k1 + 1) + 1))) (va_up (va_up (va_up (va_up (va_up (va_up S1 3 (upd (upd (S1 3) k1 wh) (k1 + 1) wh)) 4 (upd (upd (S1 4) k1 ((S1 4) f9)) (k1 + 1) ((upd (S1 4) k1 ((S1 4) f9)) f9))) 5 (upd (upd (S1 5) k1 ((S1 5) f9)) (k1 + 1) b)) 6 (upd (upd (S1 6) k1 a) (k1 + 1) ((upd (S1 6) k1 a) f9))) 7 (upd (upd (S1 7) k1 (I 2)) (k1 + 1) (I 2))) 8 (upd (upd (upd (S1 8) f9 (I 2)) k1 (-1)) (k1 + 1) (-1)))) H := hP
            have hD : va_D A (wM cy ad (va_up I 3 (nI ((k1 + 1) + 1))) (va_up (va_up (va_up (va_up (va_up (va_up S1 3 (upd (upd (S1 3) k1 wh) (k1 + 1) wh)) 4 (upd (upd (S1 4) k1 ((S1 4) f9)) (k1 + 1) ((upd (S1 4) k1 ((S1 4) f9)) f9))) 5 (upd (upd (S1 5) k1 ((S1 5) f9)) (k1 + 1) b)) 6 (upd (upd (S1 6) k1 a) (k1 + 1) ((upd (S1 6) k1 a) f9))) 7 (upd (upd (S1 7) k1 (I 2)) (k1 + 1) (I 2))) 8 (upd (upd (upd (S1 8) f9 (I 2)) k1 (-1)) (k1 + 1) (-1)))) := hD
            refine lv_iinc (v := (nI (j + 1))) (lv' := [(4, .int (nI (j + 1))), (5, .int (nI f9)), (0, .ref (ad 0)), (1, .int wh), (2, .int a), (3, .int b)]) hx hb dX7_closes_95 hl (k := 0) rfl (nI_1 j) (by decide) rfl (fun ls hl => ?_)
            refine lv_aload_n hx hb dX7_closes_98 rfl (lv_at hl 2 rfl) ?_
            refine lv_iload_n hx hb dX7_closes_99 rfl (lv_at hl 3 rfl) ?_
            refine lv_iload_n hx hb dX7_closes_100 rfl (lv_at hl 4 rfl) ?_
            refine lv_iload_n hx hb dX7_closes_101 rfl (lv_at hl 5 rfl) ?_
            refine lv_aload_n hx hb dX7_closes_102 rfl (lv_at hl 2 rfl) ?_
            refine gf_X7_78 hx hb hts hown hK hP 0 rfl (v := .int (I 2)) rfl dX7_closes_103 ?_
            refine rI_call (va_runV (As := [.int wh, .int a, .int b, .int (I 2)]) (rest := []) ⟨hx, hb, hml, hown, hts⟩ (c_X7_meets l D cy ad (va_up I 3 (nI ((k1 + 1) + 1))) (opM (opM (cdM S1 f9 (I 2)) k1 wh (S1 4 f9) (S1 5 f9) a (I 2)) (k1 + 1) wh (upd (S1 4) k1 (S1 4 f9) f9) b (upd (S1 6) k1 a f9) (I 2)) wh a b (I 2) ((k1 + 1) + 1) rfl (by omega)) (cw_X7_84 hts rfl rfl ⟨Nat.le_of_ble_eq_true rfl, Nat.le_of_ble_eq_true rfl⟩) (preVR (ci := 7) (q0 := 0) hK hP rfl rfl) rfl rfl hl.1 rfl (lv_room (Nat.le_of_ble_eq_true rfl)) dX7_closes_106 ⟨Nat.le_of_ble_eq_true rfl, Nat.le_of_ble_eq_true rfl⟩) (fun r hr_ => ?_)
            subst hr_
            refine lv_istore (lv' := [(5, .int (mtN (opM (opM (cdM S1 f9 (I 2)) k1 wh (S1 4 f9) (S1 5 f9) a (I 2)) (k1 + 1) wh (upd (S1 4) k1 (S1 4 f9) f9) b (upd (S1 6) k1 a f9) (I 2)) wh a b (I 2) ((k1 + 1) + 1))), (4, .int (nI (j + 1))), (0, .ref (ad 0)), (1, .int wh), (2, .int a), (3, .int b)]) hx hb dX7_closes_109 hl (by decide) rfl (fun ls hl => ?_)
            refine lv_goto (tgt := 16) hx hb dX7_closes_111 (by decide) ?_
            have hP : va_P D clW (wM cy ad (va_up I 3 (nI ((k1 + 1) + 1))) (opM (opM (cdM S1 f9 (I 2)) k1 wh (S1 4 f9) (S1 5 f9) a (I 2)) (k1 + 1) wh (upd (S1 4) k1 (S1 4 f9) f9) b (upd (S1 6) k1 a f9) (I 2))) H := hP
            have hD : va_D A (wM cy ad (va_up I 3 (nI ((k1 + 1) + 1))) (opM (opM (cdM S1 f9 (I 2)) k1 wh (S1 4 f9) (S1 5 f9) a (I 2)) (k1 + 1) wh (upd (S1 4) k1 (S1 4 f9) f9) b (upd (S1 6) k1 a f9) (I 2))) := hD.addr rfl
            exact ih16 (j + 1) ((k1 + 1) + 1) (opM (opM (cdM S1 f9 (I 2)) k1 wh (S1 4 f9) (S1 5 f9) a (I 2)) (k1 + 1) wh (upd (S1 4) k1 (S1 4 f9) f9) b (upd (S1 6) k1 a f9) (I 2)) (by omega) (by omega) (clQ_s hq hbm (by omega) (clF_11 (Int32.not_le.mp c41_1) (Int32.not_le.mp c72_5))) (by omega) _ _ hP hD hS ls (lv_sub hl [1, 0, 2, 3, 4, 5] rfl)
  have e_7 : (I 3) = (nI k) := hk
  have hP : va_P D clW (wM cy ad (va_up I 3 (nI k)) S) H := by rw [← e_7]; exact hP
  have hD : va_D A (wM cy ad (va_up I 3 (nI k)) S) := hD.addr rfl
  exact L16 (mm + 1) 0 k S (by omega) (by omega) rfl hk8 _ _ hP hD hS ls (lv_sub hl [1, 0, 2, 3, 4, 5] rfl)

set_option maxHeartbeats 4000000 in
set_option maxRecDepth 100000 in
theorem c_X7_tell (l : Launch) (D : va_G) (cy : Nat → ClassId) (ad : Nat → Nat) (I : AI) (S : AS) (sz : Nat) (x : Int32) (b : Int32) (v : Int32) (d : Int32) (d2 : Int32) (k : Nat) (hk : I 3 = nI k) (hk8 : k ≤ 256) (n : Nat) (hn : I 2 = nI n) (hn6 : n ≤ 60) (mm : Nat) (hto : tfC I n x b d d2 = 0 → clOK (bgS S n 116 x) k (slM x b) d d2 (nI (n + 1)) mm ∧ (clQ (bgS S n 116 x) k (slM x b) d d2 (nI (n + 1)) mm).1 < 256) : Met l yX7_tell (Cond.code yX7_tell cX7_tell 8 (some .int) :: wsL_law) ({ frames := 3, cells := 0, slots := 0, locals := 73 }) (va_Pc [.ref (ad 0), .int x, .int b, .int v, .int d, .int d2] (wrB D cy (wM cy ad I S) sz)) (va_Qi (S := AI × AS) (fun r u => (tfC I n x b d d2 = 0 ∧ r = nI mm ∧ ∃ (k2 : Nat) (S3 : AS), clQ (bgS S n 116 x) k (slM x b) d d2 (nI (n + 1)) mm = (k2, S3) ∧ u.1 = (va_up (va_up (va_up I 0 0) 2 (nI (n + 1))) 3 (nI (k2 + 1))) ∧ u.2 = opM S3 k2 (slM x b) v d d2 (nI (n + 1))) ∨ (¬ tfC I n x b d d2 = 0 ∧ u.1 = va_up I 0 (tfC I n x b d d2) ∧ u.2 = S)) (fun u t9 => va_P D clW (wM cy ad u.1 u.2) t9.heap) (va_A (wM cy ad I S) sz)) 0 0 (va_A (wM cy ad I S) sz) := by
  refine enter (cc := cX7_tell) (by decide) (Nat.le_of_ble_eq_true rfl) ?_
  intro p e s m below meth c hx hb hr hml hown hts hlocks hin hv Q hQ ls hl
  obtain ⟨hsz, hP, hK, hD0⟩ := hv
  subst hsz
  have hD := hD0.self (sz := s.heap.size)
  generalize hAe : va_A (wM cy ad I S) s.heap.size = A at hD hQ ⊢
  have hA : ∀ q : Nat, s.heap.size ≤ q → A q := fun q h => by rw [← hAe]; exact Or.inr h
  have hS : va_S A s.heap s.heap [] := va_S.rf
  suffices K_ : ∀ (H : Heap) (locs : List Loc), va_P D clW (wM cy ad I S) H → va_S A s.heap H locs → W p l e ({ frames := 3, cells := 0, slots := 0, locals := 73 }) s m ([.ref (ad 0), .int x, .int b, .int v, .int d, .int d2] : List Value).toArray below meth c H locs 0 0 Q (F0 m 0 ls []) from K_ _ _ hP hS
  clear hP hS
  intro H locs hP hS
  have hown : s.vm.findClass RX7 = some m.cls := hown
  have hl : lv_has ls 8 [(0, .ref (ad 0)), (1, .int x), (2, .int b), (3, .int v), (4, .int d), (5, .int d2)] := hl
  refine lv_aload_n hx hb dX7_tell_0 rfl (lv_at hl 0 rfl) ?_
  refine lv_iload_n hx hb dX7_tell_1 rfl (lv_at hl 1 rfl) ?_
  refine lv_iload_n hx hb dX7_tell_2 rfl (lv_at hl 2 rfl) ?_
  refine rZ_call (P := mplB ((I 1)) x b = true) (va_runV (As := [.int x, .int b]) (rest := []) ⟨hx, hb, hml, hown, hts⟩ (c_X7_isPlace l D cy ad I S x b) (cw_X7_92 hts rfl rfl ⟨Nat.le_of_ble_eq_true rfl, Nat.le_of_ble_eq_true rfl⟩) (preVR (ci := 7) (q0 := 0) hK hP rfl rfl) rfl rfl hl.1 rfl (lv_room (Nat.le_of_ble_eq_true rfl)) dX7_tell_3 ⟨Nat.le_of_ble_eq_true rfl, Nat.le_of_ble_eq_true rfl⟩) (fun b3_1 => ?_) (fun b3_1 => ?_)
  · refine lv_if_ne (tgt := 13) hx hb dX7_tell_6 (by decide) (fun _ => ?_) (fun c => absurd c (by decide))
    refine lv_iload hx hb dX7_tell_13 (lv_at hl 4 rfl) ?_
    refine lv_iload hx hb dX7_tell_15 (lv_at hl 5 rfl) ?_
    refine rZ_call (P := daB d d2 = true) (va_runS (As := [.int d, .int d2]) (rest := []) ⟨hx, hb, hml, hown, hts⟩ (c_X7_areDays l D cy d d2) (cw_X7_96 hts rfl rfl ⟨Nat.le_of_ble_eq_true rfl, Nat.le_of_ble_eq_true rfl⟩) (preSR hK (hP.sub [] rfl)) rfl rfl hl.1 rfl (lv_room (Nat.le_of_ble_eq_true rfl)) dX7_tell_17 ⟨Nat.le_of_ble_eq_true rfl, Nat.le_of_ble_eq_true rfl⟩) (fun b17_2 => ?_) (fun b17_2 => ?_)
    · refine lv_if_ne (tgt := 27) hx hb dX7_tell_20 (by decide) (fun _ => ?_) (fun c => absurd c (by decide))
      refine lv_aload_n hx hb dX7_tell_27 rfl (lv_at hl 0 rfl) ?_
      refine gf_X7_78 hx hb hts hown hK hP 0 rfl (v := .int (I 2)) rfl dX7_tell_28 ?_
      refine top_eq hn ?_
      refine lv_bipush (v := 60) hx hb dX7_tell_31 (by decide) ?_
      refine lv_icmp_ne (tgt := 40) hx hb dX7_tell_33 (by decide) (fun c33_3 => ?_) (fun c33_3 => ?_)
      · have f33_3 : n ≠ 60 := nt_ne (a := n) (b := 60) (by omega) (by omega) c33_3
        refine lv_iconst (v := 0) hx hb dX7_tell_40 (by decide) ?_
        refine lv_istore (lv' := [(6, .int 0), (0, .ref (ad 0)), (1, .int x), (2, .int b), (3, .int v), (4, .int d), (5, .int d2)]) hx hb dX7_tell_41 hl (by decide) rfl (fun ls hl => ?_)
        have hcode : tfC I n x b d d2 = 0 := by unfold tfC; rw [if_pos b3_1, if_pos b17_2, if_neg f33_3]
        refine lv_aload_n hx hb dX7_tell_43 rfl (lv_at hl 1 rfl) ?_
        refine lv_iload hx hb dX7_tell_44 (lv_at hl 0 rfl) ?_
        refine wI_call (va_runV (As := [.int 0]) (rest := []) ⟨hx, hb, hml, hown, hts⟩ (c_X7_goesOn l D cy ad I S H.size 0) (cw_X7_71 hts rfl rfl ⟨Nat.le_of_ble_eq_true rfl, Nat.le_of_ble_eq_true rfl⟩) (preVW (ci := 7) (q0 := 0) hK hP hD rfl rfl) rfl rfl hl.1 rfl (lv_room (Nat.le_of_ble_eq_true rfl)) dX7_tell_46 ⟨Nat.le_of_ble_eq_true rfl, Nat.le_of_ble_eq_true rfl⟩) hP hD hS hA [0, 1, 2, 3, 4, 5, 6, 7, 8, 9, 10, 11, 12, 13, 14, 15, 16] rfl [.inr 0, .inr 1, .inr 2, .inr 3, .inr 4, .inr 5, .inr 6, .inr 7, .inr 8, .inr 9, .inr 10, .inr 11, .inr 12, .inr 13, .inr 14, .inr 15, .inr 16] (by decide) (fun u => (wM cy ad (va_up I 0 0) S)) (fun _ => rfl) (fun _ => rfl) (fun r46_4 u46_4 H locs q46_4 hP hD hS hkp => ?_)
        have hP : va_P D clW (wM cy ad (va_up I 0 0) S) H := hP
        have hD : va_D A (wM cy ad (va_up I 0 0) S) := hD
        rw [if_pos rfl] at q46_4
        subst q46_4
        refine lv_if_ne (tgt := 54) hx hb dX7_tell_49 (by decide) (fun _ => ?_) (fun c => absurd c (by decide))
        obtain ⟨hco, hcb⟩ := hto hcode
        refine lv_aload_n hx hb dX7_tell_54 rfl (lv_at hl 1 rfl) ?_
        refine lv_bipush (v := 116) hx hb dX7_tell_55 (by decide) ?_
        refine lv_iload_n hx hb dX7_tell_57 rfl (lv_at hl 2 rfl) ?_
        refine wV_call (va_runV (As := [.int 116, .int x]) (rest := []) ⟨hx, hb, hml, hown, hts⟩ (c_X7_begins l D cy ad (va_up I 0 0) S H.size 116 x n hn (by omega) rfl) (cw_X7_99 hts rfl rfl ⟨Nat.le_of_ble_eq_true rfl, Nat.le_of_ble_eq_true rfl⟩) (preVW (ci := 7) (q0 := 0) hK hP hD rfl rfl) rfl rfl hl.1 rfl (lv_room (Nat.le_of_ble_eq_true rfl)) dX7_tell_58 ⟨Nat.le_of_ble_eq_true rfl, Nat.le_of_ble_eq_true rfl⟩) hP hD hS hA [0, 1, 2, 3, 4, 5, 6, 7, 8, 9, 10, 11, 12, 13, 14, 15, 16] rfl [.inr 0, .inr 1, .inr 2, .inr 3, .inr 4, .inr 5, .inr 6, .inr 7, .inr 8, .inr 9, .inr 10, .inr 11, .inr 12, .inr 13, .inr 14, .inr 15, .inr 16] (by decide) (fun u => (wM cy ad (va_up (va_up I 0 0) 2 (nI (n + 1))) (va_up (va_up S 1 (upd (S 1) (n + 1) 116)) 2 (upd (S 2) (n + 1) x)))) (fun _ => rfl) (fun _ => rfl) (fun u58_5 H locs q58_5 hP hD hS hkp => ?_)
        have hP : va_P D clW (wM cy ad (va_up (va_up I 0 0) 2 (nI (n + 1))) (va_up (va_up S 1 (upd (S 1) (n + 1) 116)) 2 (upd (S 2) (n + 1) x))) H := hP
        have hD : va_D A (wM cy ad (va_up (va_up I 0 0) 2 (nI (n + 1))) (va_up (va_up S 1 (upd (S 1) (n + 1) 116)) 2 (upd (S 2) (n + 1) x))) := hD
        refine lv_aload_n hx hb dX7_tell_61 rfl (lv_at hl 1 rfl) ?_
        refine lv_iload_n hx hb dX7_tell_62 rfl (lv_at hl 2 rfl) ?_
        refine lv_iload_n hx hb dX7_tell_63 rfl (lv_at hl 3 rfl) ?_
        refine rI_call (va_runS (As := [.int x, .int b]) (rest := [.ref (ad 0)]) ⟨hx, hb, hml, hown, hts⟩ (c_X7_placeOf l D cy x b) (cw_X7_103 hts rfl rfl ⟨Nat.le_of_ble_eq_true rfl, Nat.le_of_ble_eq_true rfl⟩) (preSR hK (hP.sub [] rfl)) rfl rfl hl.1 rfl (lv_room (Nat.le_of_ble_eq_true rfl)) dX7_tell_64 ⟨Nat.le_of_ble_eq_true rfl, Nat.le_of_ble_eq_true rfl⟩) (fun r hr_ => ?_)
        subst hr_
        refine lv_iload hx hb dX7_tell_67 (lv_at hl 5 rfl) ?_
        refine lv_iload hx hb dX7_tell_69 (lv_at hl 6 rfl) ?_
        refine wI_call (va_runV (As := [.int (slM x b), .int d, .int d2]) (rest := []) ⟨hx, hb, hml, hown, hts⟩ (c_X7_closes l D cy ad (va_up (va_up I 0 0) 2 (nI (n + 1))) (va_up (va_up S 1 (upd (S 1) (n + 1) 116)) 2 (upd (S 2) (n + 1) x)) H.size (slM x b) d d2 k hk hk8 mm hco) (cw_X7_107 hts rfl rfl ⟨Nat.le_of_ble_eq_true rfl, Nat.le_of_ble_eq_true rfl⟩) (preVW (ci := 7) (q0 := 0) hK hP hD rfl rfl) rfl rfl hl.1 rfl (lv_room (Nat.le_of_ble_eq_true rfl)) dX7_tell_71 ⟨Nat.le_of_ble_eq_true rfl, Nat.le_of_ble_eq_true rfl⟩) hP hD hS hA [0, 1, 2, 3, 4, 5, 6, 7, 8, 9, 10, 11, 12, 13, 14, 15, 16] rfl [.inr 0, .inr 1, .inr 2, .inr 3, .inr 4, .inr 5, .inr 6, .inr 7, .inr 8, .inr 9, .inr 10, .inr 11, .inr 12, .inr 13, .inr 14, .inr 15, .inr 16] (by decide) (fun u => (wM cy ad (va_up (va_up (va_up I 0 0) 2 (nI (n + 1))) 3 (nI u.1)) u.2)) (fun _ => rfl) (fun _ => rfl) (fun r71_6 u71_6 H locs q71_6 hP hD hS hkp => ?_)
        obtain ⟨k2_6, S2_6⟩ := u71_6
        have hP : va_P D clW (wM cy ad (va_up (va_up (va_up I 0 0) 2 (nI (n + 1))) 3 (nI k2_6)) S2_6) H := hP
        have hD : va_D A (wM cy ad (va_up (va_up (va_up I 0 0) 2 (nI (n + 1))) 3 (nI k2_6)) S2_6) := hD
        obtain ⟨rfl, hcq_6⟩ := q71_6
        have hk28 : (clQ (bgS S n 116 x) k (slM x b) d d2 (nI (n + 1)) mm).1 = k2_6 := congrArg Prod.fst hcq_6
        have hk29 : k2_6 < 256 := by omega
        refine lv_istore (lv' := [(7, .int (nI mm)), (6, .int 0), (0, .ref (ad 0)), (1, .int x), (2, .int b), (3, .int v), (4, .int d), (5, .int d2)]) hx hb dX7_tell_74 hl (by decide) rfl (fun ls hl => ?_)
        refine lv_aload_n hx hb dX7_tell_76 rfl (lv_at hl 2 rfl) ?_
        refine lv_iload_n hx hb dX7_tell_77 rfl (lv_at hl 3 rfl) ?_
        refine lv_iload_n hx hb dX7_tell_78 rfl (lv_at hl 4 rfl) ?_
        refine rI_call (va_runS (As := [.int x, .int b]) (rest := [.ref (ad 0)]) ⟨hx, hb, hml, hown, hts⟩ (c_X7_placeOf l D cy x b) (cw_X7_103 hts rfl rfl ⟨Nat.le_of_ble_eq_true rfl, Nat.le_of_ble_eq_true rfl⟩) (preSR hK (hP.sub [] rfl)) rfl rfl hl.1 rfl (lv_room (Nat.le_of_ble_eq_true rfl)) dX7_tell_79 ⟨Nat.le_of_ble_eq_true rfl, Nat.le_of_ble_eq_true rfl⟩) (fun r hr_ => ?_)
        subst hr_
        refine lv_iload_n hx hb dX7_tell_82 rfl (lv_at hl 5 rfl) ?_
        refine lv_iload hx hb dX7_tell_83 (lv_at hl 6 rfl) ?_
        refine lv_iload hx hb dX7_tell_85 (lv_at hl 7 rfl) ?_
        refine wV_call (va_runV (As := [.int (slM x b), .int v, .int d, .int d2]) (rest := []) ⟨hx, hb, hml, hown, hts⟩ (c_X7_opens l D cy ad (va_up (va_up (va_up I 0 0) 2 (nI (n + 1))) 3 (nI k2_6)) S2_6 H.size (slM x b) v d d2 k2_6 rfl (by omega)) (cw_X7_88 hts rfl rfl ⟨Nat.le_of_ble_eq_true rfl, Nat.le_of_ble_eq_true rfl⟩) (preVW (ci := 7) (q0 := 0) hK hP hD rfl rfl) rfl rfl hl.1 rfl (lv_room (Nat.le_of_ble_eq_true rfl)) dX7_tell_87 ⟨Nat.le_of_ble_eq_true rfl, Nat.le_of_ble_eq_true rfl⟩) hP hD hS hA [0, 1, 2, 3, 4, 5, 6, 7, 8, 9, 10, 11, 12, 13, 14, 15, 16] rfl [.inr 0, .inr 1, .inr 2, .inr 3, .inr 4, .inr 5, .inr 6, .inr 7, .inr 8, .inr 9, .inr 10, .inr 11, .inr 12, .inr 13, .inr 14, .inr 15, .inr 16] (by decide) (fun u => (wM cy ad (va_up (va_up (va_up I 0 0) 2 (nI (n + 1))) 3 (nI (k2_6 + 1))) (va_up (va_up (va_up (va_up (va_up (va_up S2_6 3 (upd (S2_6 3) k2_6 (slM x b))) 4 (upd (S2_6 4) k2_6 v)) 5 (upd (S2_6 5) k2_6 d)) 6 (upd (S2_6 6) k2_6 d2)) 7 (upd (S2_6 7) k2_6 (nI (n + 1)))) 8 (upd (S2_6 8) k2_6 (-1))))) (fun _ => rfl) (fun _ => rfl) (fun u87_7 H locs q87_7 hP hD hS hkp => ?_)
        have hP : va_P D clW (wM cy ad (va_up (va_up (va_up I 0 0) 2 (nI (n + 1))) 3 (nI (k2_6 + 1))) (va_up (va_up (va_up (va_up (va_up (va_up S2_6 3 (upd (S2_6 3) k2_6 (slM x b))) 4 (upd (S2_6 4) k2_6 v)) 5 (upd (S2_6 5) k2_6 d)) 6 (upd (S2_6 6) k2_6 d2)) 7 (upd (S2_6 7) k2_6 (nI (n + 1)))) 8 (upd (S2_6 8) k2_6 (-1)))) H := hP
        have hD : va_D A (wM cy ad (va_up (va_up (va_up I 0 0) 2 (nI (n + 1))) 3 (nI (k2_6 + 1))) (va_up (va_up (va_up (va_up (va_up (va_up S2_6 3 (upd (S2_6 3) k2_6 (slM x b))) 4 (upd (S2_6 4) k2_6 v)) 5 (upd (S2_6 5) k2_6 d)) 6 (upd (S2_6 6) k2_6 d2)) 7 (upd (S2_6 7) k2_6 (nI (n + 1)))) 8 (upd (S2_6 8) k2_6 (-1)))) := hD
        refine lv_iload hx hb dX7_tell_90 (lv_at hl 0 rfl) ?_
        exact wI_ret ((va_up (va_up (va_up I 0 0) 2 (nI (n + 1))) 3 (nI (k2_6 + 1))), (opM S2_6 k2_6 (slM x b) v d d2 (nI (n + 1)))) hS hP hx hb hr hlocks dX7_tell_92 (Nat.le_of_ble_eq_true rfl) (Nat.le_of_ble_eq_true rfl) hQ (Or.inl ⟨hcode, rfl, k2_6, S2_6, hcq_6, rfl, rfl⟩)
      · have f33_3 : n = 60 := nt_eq (a := n) (b := 60) (by omega) (by omega) c33_3
        refine lv_iconst (v := 3) hx hb dX7_tell_36 (by decide) ?_
        refine lv_goto (tgt := 41) hx hb dX7_tell_37 (by decide) ?_
        refine lv_istore (lv' := [(6, .int 3), (0, .ref (ad 0)), (1, .int x), (2, .int b), (3, .int v), (4, .int d), (5, .int d2)]) hx hb dX7_tell_41 hl (by decide) rfl (fun ls hl => ?_)
        have hcode : tfC I n x b d d2 = 3 := by unfold tfC; rw [if_pos b3_1, if_pos b17_2, if_pos f33_3]
        refine lv_aload_n hx hb dX7_tell_43 rfl (lv_at hl 1 rfl) ?_
        refine lv_iload hx hb dX7_tell_44 (lv_at hl 0 rfl) ?_
        refine wI_call (va_runV (As := [.int 3]) (rest := []) ⟨hx, hb, hml, hown, hts⟩ (c_X7_goesOn l D cy ad I S H.size 3) (cw_X7_71 hts rfl rfl ⟨Nat.le_of_ble_eq_true rfl, Nat.le_of_ble_eq_true rfl⟩) (preVW (ci := 7) (q0 := 0) hK hP hD rfl rfl) rfl rfl hl.1 rfl (lv_room (Nat.le_of_ble_eq_true rfl)) dX7_tell_46 ⟨Nat.le_of_ble_eq_true rfl, Nat.le_of_ble_eq_true rfl⟩) hP hD hS hA [0, 1, 2, 3, 4, 5, 6, 7, 8, 9, 10, 11, 12, 13, 14, 15, 16] rfl [.inr 0, .inr 1, .inr 2, .inr 3, .inr 4, .inr 5, .inr 6, .inr 7, .inr 8, .inr 9, .inr 10, .inr 11, .inr 12, .inr 13, .inr 14, .inr 15, .inr 16] (by decide) (fun u => (wM cy ad (va_up I 0 3) S)) (fun _ => rfl) (fun _ => rfl) (fun r46_8 u46_8 H locs q46_8 hP hD hS hkp => ?_)
        have hP : va_P D clW (wM cy ad (va_up I 0 3) S) H := hP
        have hD : va_D A (wM cy ad (va_up I 0 3) S) := hD
        rw [if_neg (by decide)] at q46_8
        subst q46_8
        refine lv_if_ne (tgt := 54) hx hb dX7_tell_49 (by decide) (fun c => absurd (by decide) c) (fun _ => ?_)
        refine lv_iconst (v := 0) hx hb dX7_tell_52 (by decide) ?_
        exact wI_ret ((va_up I 0 3), S) hS hP hx hb hr hlocks dX7_tell_53 (Nat.le_of_ble_eq_true rfl) (Nat.le_of_ble_eq_true rfl) hQ (Or.inr ⟨by rw [hcode]; decide, by rw [hcode], rfl⟩)
    · refine lv_if_ne (tgt := 27) hx hb dX7_tell_20 (by decide) (fun c => absurd (by decide) c) (fun _ => ?_)
      refine lv_iconst (v := 2) hx hb dX7_tell_23 (by decide) ?_
      refine lv_goto (tgt := 41) hx hb dX7_tell_24 (by decide) ?_
      refine lv_istore (lv' := [(6, .int 2), (0, .ref (ad 0)), (1, .int x), (2, .int b), (3, .int v), (4, .int d), (5, .int d2)]) hx hb dX7_tell_41 hl (by decide) rfl (fun ls hl => ?_)
      have hcode : tfC I n x b d d2 = 2 := by unfold tfC; rw [if_pos b3_1, if_neg b17_2]
      refine lv_aload_n hx hb dX7_tell_43 rfl (lv_at hl 1 rfl) ?_
      refine lv_iload hx hb dX7_tell_44 (lv_at hl 0 rfl) ?_
      refine wI_call (va_runV (As := [.int 2]) (rest := []) ⟨hx, hb, hml, hown, hts⟩ (c_X7_goesOn l D cy ad I S H.size 2) (cw_X7_71 hts rfl rfl ⟨Nat.le_of_ble_eq_true rfl, Nat.le_of_ble_eq_true rfl⟩) (preVW (ci := 7) (q0 := 0) hK hP hD rfl rfl) rfl rfl hl.1 rfl (lv_room (Nat.le_of_ble_eq_true rfl)) dX7_tell_46 ⟨Nat.le_of_ble_eq_true rfl, Nat.le_of_ble_eq_true rfl⟩) hP hD hS hA [0, 1, 2, 3, 4, 5, 6, 7, 8, 9, 10, 11, 12, 13, 14, 15, 16] rfl [.inr 0, .inr 1, .inr 2, .inr 3, .inr 4, .inr 5, .inr 6, .inr 7, .inr 8, .inr 9, .inr 10, .inr 11, .inr 12, .inr 13, .inr 14, .inr 15, .inr 16] (by decide) (fun u => (wM cy ad (va_up I 0 2) S)) (fun _ => rfl) (fun _ => rfl) (fun r46_9 u46_9 H locs q46_9 hP hD hS hkp => ?_)
      have hP : va_P D clW (wM cy ad (va_up I 0 2) S) H := hP
      have hD : va_D A (wM cy ad (va_up I 0 2) S) := hD
      rw [if_neg (by decide)] at q46_9
      subst q46_9
      refine lv_if_ne (tgt := 54) hx hb dX7_tell_49 (by decide) (fun c => absurd (by decide) c) (fun _ => ?_)
      refine lv_iconst (v := 0) hx hb dX7_tell_52 (by decide) ?_
      exact wI_ret ((va_up I 0 2), S) hS hP hx hb hr hlocks dX7_tell_53 (Nat.le_of_ble_eq_true rfl) (Nat.le_of_ble_eq_true rfl) hQ (Or.inr ⟨by rw [hcode]; decide, by rw [hcode], rfl⟩)
  · refine lv_if_ne (tgt := 13) hx hb dX7_tell_6 (by decide) (fun c => absurd (by decide) c) (fun _ => ?_)
    refine lv_iconst (v := 1) hx hb dX7_tell_9 (by decide) ?_
    refine lv_goto (tgt := 41) hx hb dX7_tell_10 (by decide) ?_
    refine lv_istore (lv' := [(6, .int 1), (0, .ref (ad 0)), (1, .int x), (2, .int b), (3, .int v), (4, .int d), (5, .int d2)]) hx hb dX7_tell_41 hl (by decide) rfl (fun ls hl => ?_)
    have hcode : tfC I n x b d d2 = 1 := by unfold tfC; rw [if_neg b3_1]
    refine lv_aload_n hx hb dX7_tell_43 rfl (lv_at hl 1 rfl) ?_
    refine lv_iload hx hb dX7_tell_44 (lv_at hl 0 rfl) ?_
    refine wI_call (va_runV (As := [.int 1]) (rest := []) ⟨hx, hb, hml, hown, hts⟩ (c_X7_goesOn l D cy ad I S H.size 1) (cw_X7_71 hts rfl rfl ⟨Nat.le_of_ble_eq_true rfl, Nat.le_of_ble_eq_true rfl⟩) (preVW (ci := 7) (q0 := 0) hK hP hD rfl rfl) rfl rfl hl.1 rfl (lv_room (Nat.le_of_ble_eq_true rfl)) dX7_tell_46 ⟨Nat.le_of_ble_eq_true rfl, Nat.le_of_ble_eq_true rfl⟩) hP hD hS hA [0, 1, 2, 3, 4, 5, 6, 7, 8, 9, 10, 11, 12, 13, 14, 15, 16] rfl [.inr 0, .inr 1, .inr 2, .inr 3, .inr 4, .inr 5, .inr 6, .inr 7, .inr 8, .inr 9, .inr 10, .inr 11, .inr 12, .inr 13, .inr 14, .inr 15, .inr 16] (by decide) (fun u => (wM cy ad (va_up I 0 1) S)) (fun _ => rfl) (fun _ => rfl) (fun r46_10 u46_10 H locs q46_10 hP hD hS hkp => ?_)
    have hP : va_P D clW (wM cy ad (va_up I 0 1) S) H := hP
    have hD : va_D A (wM cy ad (va_up I 0 1) S) := hD
    rw [if_neg (by decide)] at q46_10
    subst q46_10
    refine lv_if_ne (tgt := 54) hx hb dX7_tell_49 (by decide) (fun c => absurd (by decide) c) (fun _ => ?_)
    refine lv_iconst (v := 0) hx hb dX7_tell_52 (by decide) ?_
    exact wI_ret ((va_up I 0 1), S) hS hP hx hb hr hlocks dX7_tell_53 (Nat.le_of_ble_eq_true rfl) (Nat.le_of_ble_eq_true rfl) hQ (Or.inr ⟨by rw [hcode]; decide, by rw [hcode], rfl⟩)

set_option maxHeartbeats 4000000 in
set_option maxRecDepth 100000 in
theorem c_X7_retract (l : Launch) (D : va_G) (cy : Nat → ClassId) (ad : Nat → Nat) (I : AI) (S : AS) (sz : Nat) (x : Int32) (b : Int32) (d : Int32) (d2 : Int32) (k : Nat) (hk : I 3 = nI k) (hk8 : k ≤ 256) (fr : Nat → Nat) (to : Nat → Nat) (hfr : ∀ i : Nat, i < k → S 5 i = nI (fr i) ∧ S 6 i = nI (to i) ∧ fr i ≤ to i ∧ to i ≤ 100) (n : Nat) (hn : I 2 = nI n) (hn6 : n ≤ 60) (mm : Nat) (hto : rfC I n x b d d2 (rdays S (slM x b) n fr to k d d2) = 0 → clOK (bgS (va_up S 10 (lkN S (slM x b) (nI n) fr to (S 10) k)) n 114 x) k (slM x b) d d2 (nI (n + 1)) mm ∧ (clQ (bgS (va_up S 10 (lkN S (slM x b) (nI n) fr to (S 10) k)) n 114 x) k (slM x b) d d2 (nI (n + 1)) mm).1 ≤ 256) : Met l yX7_retract (Cond.code yX7_retract cX7_retract 8 (some .int) :: wsL_law) ({ frames := 3, cells := 0, slots := 0, locals := 73 }) (va_Pc [.ref (ad 0), .int x, .int b, .int d, .int d2] (wrB D cy (wM cy ad I S) sz)) (va_Qi (S := AI × AS) (fun r u => (rfC I n x b d d2 (rdays S (slM x b) n fr to k d d2) = 0 ∧ r = (rdays S (slM x b) n fr to k d d2) ∧ ∃ (k2 : Nat) (S3 : AS), clQ (bgS (va_up S 10 (lkN S (slM x b) (nI n) fr to (S 10) k)) n 114 x) k (slM x b) d d2 (nI (n + 1)) mm = (k2, S3) ∧ u.1 = (va_up (va_up (va_up I 0 0) 2 (nI (n + 1))) 3 (nI k2)) ∧ u.2 = S3) ∨ (¬ rfC I n x b d d2 (rdays S (slM x b) n fr to k d d2) = 0 ∧ u.1 0 = rfC I n x b d d2 (rdays S (slM x b) n fr to k d d2) ∧ msc I S u.1 u.2)) (fun u t9 => va_P D clW (wM cy ad u.1 u.2) t9.heap) (va_A (wM cy ad I S) sz)) 0 0 (va_A (wM cy ad I S) sz) := by
  refine enter (cc := cX7_retract) (by decide) (Nat.le_of_ble_eq_true rfl) ?_
  intro p e s m below meth c hx hb hr hml hown hts hlocks hin hv Q hQ ls hl
  obtain ⟨hsz, hP, hK, hD0⟩ := hv
  subst hsz
  have hD := hD0.self (sz := s.heap.size)
  generalize hAe : va_A (wM cy ad I S) s.heap.size = A at hD hQ ⊢
  have hA : ∀ q : Nat, s.heap.size ≤ q → A q := fun q h => by rw [← hAe]; exact Or.inr h
  have hS : va_S A s.heap s.heap [] := va_S.rf
  suffices K_ : ∀ (H : Heap) (locs : List Loc), va_P D clW (wM cy ad I S) H → va_S A s.heap H locs → W p l e ({ frames := 3, cells := 0, slots := 0, locals := 73 }) s m ([.ref (ad 0), .int x, .int b, .int d, .int d2] : List Value).toArray below meth c H locs 0 0 Q (F0 m 0 ls []) from K_ _ _ hP hS
  clear hP hS
  intro H locs hP hS
  have hown : s.vm.findClass RX7 = some m.cls := hown
  have hl : lv_has ls 8 [(0, .ref (ad 0)), (1, .int x), (2, .int b), (3, .int d), (4, .int d2)] := hl
  refine lv_aload_n hx hb dX7_retract_0 rfl (lv_at hl 0 rfl) ?_
  refine lv_iload_n hx hb dX7_retract_1 rfl (lv_at hl 1 rfl) ?_
  refine lv_iload_n hx hb dX7_retract_2 rfl (lv_at hl 2 rfl) ?_
  refine rZ_call (P := mplB ((I 1)) x b = true) (va_runV (As := [.int x, .int b]) (rest := []) ⟨hx, hb, hml, hown, hts⟩ (c_X7_isPlace l D cy ad I S x b) (cw_X7_92 hts rfl rfl ⟨Nat.le_of_ble_eq_true rfl, Nat.le_of_ble_eq_true rfl⟩) (preVR (ci := 7) (q0 := 0) hK hP rfl rfl) rfl rfl hl.1 rfl (lv_room (Nat.le_of_ble_eq_true rfl)) dX7_retract_3 ⟨Nat.le_of_ble_eq_true rfl, Nat.le_of_ble_eq_true rfl⟩) (fun b3_1 => ?_) (fun b3_1 => ?_)
  · refine lv_if_ne (tgt := 13) hx hb dX7_retract_6 (by decide) (fun _ => ?_) (fun c => absurd c (by decide))
    refine lv_iload_n hx hb dX7_retract_13 rfl (lv_at hl 3 rfl) ?_
    refine lv_iload hx hb dX7_retract_14 (lv_at hl 4 rfl) ?_
    refine rZ_call (P := daB d d2 = true) (va_runS (As := [.int d, .int d2]) (rest := []) ⟨hx, hb, hml, hown, hts⟩ (c_X7_areDays l D cy d d2) (cw_X7_96 hts rfl rfl ⟨Nat.le_of_ble_eq_true rfl, Nat.le_of_ble_eq_true rfl⟩) (preSR hK (hP.sub [] rfl)) rfl rfl hl.1 rfl (lv_room (Nat.le_of_ble_eq_true rfl)) dX7_retract_16 ⟨Nat.le_of_ble_eq_true rfl, Nat.le_of_ble_eq_true rfl⟩) (fun b16_2 => ?_) (fun b16_2 => ?_)
    · obtain ⟨x9, y9, hxy, hy9, hdx, hdy⟩ := da_of b16_2
      refine lv_if_ne (tgt := 26) hx hb dX7_retract_19 (by decide) (fun _ => ?_) (fun c => absurd c (by decide))
      refine lv_iconst (v := 0) hx hb dX7_retract_26 (by decide) ?_
      refine lv_istore (lv' := [(5, .int 0), (0, .ref (ad 0)), (1, .int x), (2, .int b), (3, .int d), (4, .int d2)]) hx hb dX7_retract_27 hl (by decide) rfl (fun ls hl => ?_)
      refine lv_iconst (v := 0) hx hb dX7_retract_29 (by decide) ?_
      refine lv_istore (lv' := [(6, .int 0), (5, .int 0), (0, .ref (ad 0)), (1, .int x), (2, .int b), (3, .int d), (4, .int d2)]) hx hb dX7_retract_30 hl (by decide) rfl (fun ls hl => ?_)
      refine lv_iload hx hb dX7_retract_32 (lv_at hl 1 rfl) ?_
      refine lv_if_ne (tgt := 116) hx hb dX7_retract_34 (by decide) (fun c => absurd (by decide) c) (fun _ => ?_)
      have hl : lv_has ls 8 [(6, .int 0), (5, .int 0), (0, .ref (ad 0)), (1, .int x), (2, .int b), (3, .int (nI x9)), (4, .int (nI y9))] := by rw [← hdx, ← hdy]; exact hl
      refine lv_aload_n hx hb dX7_retract_37 rfl (lv_at hl 2 rfl) ?_
      refine lv_aload_n hx hb dX7_retract_38 rfl (lv_at hl 2 rfl) ?_
      refine gf_X7_39 hx hb hts hown hK hP 0 rfl (v := .ref (ad 10)) rfl dX7_retract_39 ?_
      refine lv_iload_n hx hb dX7_retract_42 rfl (lv_at hl 3 rfl) ?_
      refine lv_iload_n hx hb dX7_retract_43 rfl (lv_at hl 4 rfl) ?_
      refine rI_call (va_runS (As := [.int x, .int b]) (rest := [.ref (ad 10), .ref (ad 0)]) ⟨hx, hb, hml, hown, hts⟩ (c_X7_placeOf l D cy x b) (cw_X7_103 hts rfl rfl ⟨Nat.le_of_ble_eq_true rfl, Nat.le_of_ble_eq_true rfl⟩) (preSR hK (hP.sub [] rfl)) rfl rfl hl.1 rfl (lv_room (Nat.le_of_ble_eq_true rfl)) dX7_retract_44 ⟨Nat.le_of_ble_eq_true rfl, Nat.le_of_ble_eq_true rfl⟩) (fun r hr_ => ?_)
      subst hr_
      refine lv_aload_n hx hb dX7_retract_47 rfl (lv_at hl 2 rfl) ?_
      refine gf_X7_78 hx hb hts hown hK hP 0 rfl (v := .int (I 2)) rfl dX7_retract_48 ?_
      refine top_eq hn ?_
      refine wV_call (va_runV (As := [.ref (ad 10), .int (slM x b), .int (nI n)]) (rest := []) ⟨hx, hb, hml, hown, hts⟩ (c_X7_looksAt_10 l D cy ad I S H.size (slM x b) (nI n) k hk hk8 fr to hfr) (cw_X7_111 hts rfl rfl ⟨Nat.le_of_ble_eq_true rfl, Nat.le_of_ble_eq_true rfl⟩) (preVW (ci := 7) (q0 := 0) hK hP hD rfl rfl) rfl rfl hl.1 rfl (lv_room (Nat.le_of_ble_eq_true rfl)) dX7_retract_51 ⟨Nat.le_of_ble_eq_true rfl, Nat.le_of_ble_eq_true rfl⟩) hP hD hS hA [0, 1, 2, 3, 4, 5, 6, 7, 8, 9, 10, 11, 12, 13, 14, 15, 16] rfl [.inr 0, .inr 1, .inr 2, .inr 3, .inr 4, .inr 5, .inr 6, .inr 7, .inr 8, .inr 9, .inr 10, .inr 11, .inr 12, .inr 13, .inr 14, .inr 15, .inr 16] (by decide) (fun u => (wM cy ad I (va_up S 10 (lkN S (slM x b) (nI n) fr to (S 10) k)))) (fun _ => rfl) (fun _ => rfl) (fun u51_3 H locs q51_3 hP hD hS hkp => ?_)
      have hP : va_P D clW (wM cy ad I (va_up S 10 (lkN S (slM x b) (nI n) fr to (S 10) k))) H := hP
      have hD : va_D A (wM cy ad I (va_up S 10 (lkN S (slM x b) (nI n) fr to (S 10) k))) := hD
      refine lv_iload_n hx hb dX7_retract_54 rfl (lv_at hl 5 rfl) ?_
      refine lv_istore (lv' := [(7, .int (nI x9)), (6, .int 0), (5, .int 0), (0, .ref (ad 0)), (1, .int x), (2, .int b), (3, .int (nI x9)), (4, .int (nI y9))]) hx hb dX7_retract_55 hl (by decide) rfl (fun ls hl => ?_)
      have L57 : ∀ (n_57 i : Nat), i ≤ (y9 - x9) → (y9 - x9) + 1 ≤ i + n_57 → ∀ (H : Heap) (locs : List Loc), va_P D clW (wM cy ad I (va_up S 10 (lkN S (slM x b) (nI n) fr to (S 10) k))) H → va_D A (wM cy ad I (va_up S 10 (lkN S (slM x b) (nI n) fr to (S 10) k))) → va_S A s.heap H locs → ∀ (ls : Array Slot), lv_has ls 8 [(7, .int (nI (x9 + i))), (6, .int (kcN (lkN S (slM x b) (nI n) fr to (S 10) k) x9 i)), (0, .ref (ad 0)), (1, .int x), (2, .int b), (3, .int (nI x9)), (4, .int (nI y9)), (5, .int 0)] → W p l e { frames := 3, cells := 0, slots := 0, locals := 73 } s m ([.ref (ad 0), .int x, .int b, .int d, .int d2] : List Value).toArray below meth c H locs 0 0 Q (F0 m 57 ls []) := by
        clear hl
        intro n_57
        induction n_57 with
        | zero => intro i  hle_57 hn_57; exact absurd hn_57 (by omega)
        | succ n_57 ih57 =>
          intro i  hle_57 hn_57  H locs hP hD hS ls hl
          refine lv_iload hx hb dX7_retract_57 (lv_at hl 0 rfl) ?_
          refine lv_iload hx hb dX7_retract_59 (lv_at hl 6 rfl) ?_
          refine lv_icmp_ge (tgt := 91) hx hb dX7_retract_61 (by decide) (fun c61_4 => ?_) (fun c61_4 => ?_)
          · have f61 : y9 ≤ x9 + i := nt_le (a := y9) (b := x9 + i) (by omega) (by omega) c61_4
            have ei : y9 - x9 = i := by omega
            have edd : (rdays S (slM x b) n fr to k d d2) = (kcN (lkN S (slM x b) (nI n) fr to (S 10) k) x9 i) := by rw [show rdays S (slM x b) n fr to k d d2 = kcN (lkM S (slM x b) (nI n) fr to k) d.toNatClampNeg (d2.toNatClampNeg - d.toNatClampNeg) from rfl, hdx, hdy, nI_clamp (by omega), nI_clamp (by omega), ei]
            have hl : lv_has ls 8 [(7, .int (nI (x9 + i))), (6, .int (rdays S (slM x b) n fr to k d d2)), (0, .ref (ad 0)), (1, .int x), (2, .int b), (3, .int (nI x9)), (4, .int (nI y9)), (5, .int 0)] := by rw [edd]; exact hl
            refine lv_iload hx hb dX7_retract_91 (lv_at hl 1 rfl) ?_
            refine lv_if_ne (tgt := 100) hx hb dX7_retract_93 (by decide) (fun c93_5 => ?_) (fun c93_5 => ?_)
            · refine lv_aload_n hx hb dX7_retract_100 rfl (lv_at hl 2 rfl) ?_
              refine gf_X7_78 hx hb hts hown hK hP 0 rfl (v := .int (I 2)) rfl dX7_retract_101 ?_
              refine top_eq hn ?_
              refine lv_bipush (v := 60) hx hb dX7_retract_104 (by decide) ?_
              refine lv_icmp_ne (tgt := 113) hx hb dX7_retract_106 (by decide) (fun c106_6 => ?_) (fun c106_6 => ?_)
              · have f106_6 : n ≠ 60 := nt_ne (a := n) (b := 60) (by omega) (by omega) c106_6
                refine lv_iconst (v := 0) hx hb dX7_retract_113 (by decide) ?_
                refine lv_istore (lv' := [(5, .int 0), (7, .int (nI (x9 + i))), (6, .int (rdays S (slM x b) n fr to k d d2)), (0, .ref (ad 0)), (1, .int x), (2, .int b), (3, .int (nI x9)), (4, .int (nI y9))]) hx hb dX7_retract_114 hl (by decide) rfl (fun ls hl => ?_)
                have hcode : rfC I n x b d d2 (rdays S (slM x b) n fr to k d d2) = 0 := by unfold rfC; rw [if_pos b3_1, if_pos b16_2, if_neg c93_5, if_neg f106_6]
                refine lv_aload_n hx hb dX7_retract_116 rfl (lv_at hl 3 rfl) ?_
                refine lv_iload hx hb dX7_retract_117 (lv_at hl 0 rfl) ?_
                refine wI_call (va_runV (As := [.int 0]) (rest := []) ⟨hx, hb, hml, hown, hts⟩ (c_X7_goesOn l D cy ad I (va_up S 10 (lkN S (slM x b) (nI n) fr to (S 10) k)) H.size 0) (cw_X7_71 hts rfl rfl ⟨Nat.le_of_ble_eq_true rfl, Nat.le_of_ble_eq_true rfl⟩) (preVW (ci := 7) (q0 := 0) hK hP hD rfl rfl) rfl rfl hl.1 rfl (lv_room (Nat.le_of_ble_eq_true rfl)) dX7_retract_119 ⟨Nat.le_of_ble_eq_true rfl, Nat.le_of_ble_eq_true rfl⟩) hP hD hS hA [0, 1, 2, 3, 4, 5, 6, 7, 8, 9, 10, 11, 12, 13, 14, 15, 16] rfl [.inr 0, .inr 1, .inr 2, .inr 3, .inr 4, .inr 5, .inr 6, .inr 7, .inr 8, .inr 9, .inr 10, .inr 11, .inr 12, .inr 13, .inr 14, .inr 15, .inr 16] (by decide) (fun u => (wM cy ad (va_up I 0 0) (va_up S 10 (lkN S (slM x b) (nI n) fr to (S 10) k)))) (fun _ => rfl) (fun _ => rfl) (fun r119_7 u119_7 H locs q119_7 hP hD hS hkp => ?_)
                have hP : va_P D clW (wM cy ad (va_up I 0 0) (va_up S 10 (lkN S (slM x b) (nI n) fr to (S 10) k))) H := hP
                have hD : va_D A (wM cy ad (va_up I 0 0) (va_up S 10 (lkN S (slM x b) (nI n) fr to (S 10) k))) := hD
                rw [if_pos rfl] at q119_7
                subst q119_7
                refine lv_if_ne (tgt := 127) hx hb dX7_retract_122 (by decide) (fun _ => ?_) (fun c => absurd c (by decide))
                have hl : lv_has ls 8 [(5, .int 0), (7, .int (nI (x9 + i))), (6, .int (rdays S (slM x b) n fr to k d d2)), (0, .ref (ad 0)), (1, .int x), (2, .int b), (3, .int d), (4, .int d2)] := by rw [← hdx, ← hdy] at hl; exact hl
                obtain ⟨hco, hcb⟩ := hto hcode
                refine lv_aload_n hx hb dX7_retract_127 rfl (lv_at hl 3 rfl) ?_
                refine lv_bipush (v := 114) hx hb dX7_retract_128 (by decide) ?_
                refine lv_iload_n hx hb dX7_retract_130 rfl (lv_at hl 4 rfl) ?_
                refine wV_call (va_runV (As := [.int 114, .int x]) (rest := []) ⟨hx, hb, hml, hown, hts⟩ (c_X7_begins l D cy ad (va_up I 0 0) (va_up S 10 (lkN S (slM x b) (nI n) fr to (S 10) k)) H.size 114 x n hn (by omega) rfl) (cw_X7_99 hts rfl rfl ⟨Nat.le_of_ble_eq_true rfl, Nat.le_of_ble_eq_true rfl⟩) (preVW (ci := 7) (q0 := 0) hK hP hD rfl rfl) rfl rfl hl.1 rfl (lv_room (Nat.le_of_ble_eq_true rfl)) dX7_retract_131 ⟨Nat.le_of_ble_eq_true rfl, Nat.le_of_ble_eq_true rfl⟩) hP hD hS hA [0, 1, 2, 3, 4, 5, 6, 7, 8, 9, 10, 11, 12, 13, 14, 15, 16] rfl [.inr 0, .inr 1, .inr 2, .inr 3, .inr 4, .inr 5, .inr 6, .inr 7, .inr 8, .inr 9, .inr 10, .inr 11, .inr 12, .inr 13, .inr 14, .inr 15, .inr 16] (by decide) (fun u => (wM cy ad (va_up (va_up I 0 0) 2 (nI (n + 1))) (va_up (va_up (va_up S 10 (lkN S (slM x b) (nI n) fr to (S 10) k)) 1 (upd (S 1) (n + 1) 114)) 2 (upd (S 2) (n + 1) x)))) (fun _ => rfl) (fun _ => rfl) (fun u131_8 H locs q131_8 hP hD hS hkp => ?_)
                have hP : va_P D clW (wM cy ad (va_up (va_up I 0 0) 2 (nI (n + 1))) (va_up (va_up (va_up S 10 (lkN S (slM x b) (nI n) fr to (S 10) k)) 1 (upd (S 1) (n + 1) 114)) 2 (upd (S 2) (n + 1) x))) H := hP
                have hD : va_D A (wM cy ad (va_up (va_up I 0 0) 2 (nI (n + 1))) (va_up (va_up (va_up S 10 (lkN S (slM x b) (nI n) fr to (S 10) k)) 1 (upd (S 1) (n + 1) 114)) 2 (upd (S 2) (n + 1) x))) := hD
                refine lv_aload_n hx hb dX7_retract_134 rfl (lv_at hl 3 rfl) ?_
                refine lv_iload_n hx hb dX7_retract_135 rfl (lv_at hl 4 rfl) ?_
                refine lv_iload_n hx hb dX7_retract_136 rfl (lv_at hl 5 rfl) ?_
                refine rI_call (va_runS (As := [.int x, .int b]) (rest := [.ref (ad 0)]) ⟨hx, hb, hml, hown, hts⟩ (c_X7_placeOf l D cy x b) (cw_X7_103 hts rfl rfl ⟨Nat.le_of_ble_eq_true rfl, Nat.le_of_ble_eq_true rfl⟩) (preSR hK (hP.sub [] rfl)) rfl rfl hl.1 rfl (lv_room (Nat.le_of_ble_eq_true rfl)) dX7_retract_137 ⟨Nat.le_of_ble_eq_true rfl, Nat.le_of_ble_eq_true rfl⟩) (fun r hr_ => ?_)
                subst hr_
                refine lv_iload_n hx hb dX7_retract_140 rfl (lv_at hl 6 rfl) ?_
                refine lv_iload hx hb dX7_retract_141 (lv_at hl 7 rfl) ?_
                refine wI_call (va_runV (As := [.int (slM x b), .int d, .int d2]) (rest := []) ⟨hx, hb, hml, hown, hts⟩ (c_X7_closes l D cy ad (va_up (va_up I 0 0) 2 (nI (n + 1))) (va_up (va_up (va_up S 10 (lkN S (slM x b) (nI n) fr to (S 10) k)) 1 (upd (S 1) (n + 1) 114)) 2 (upd (S 2) (n + 1) x)) H.size (slM x b) d d2 k hk hk8 mm hco) (cw_X7_107 hts rfl rfl ⟨Nat.le_of_ble_eq_true rfl, Nat.le_of_ble_eq_true rfl⟩) (preVW (ci := 7) (q0 := 0) hK hP hD rfl rfl) rfl rfl hl.1 rfl (lv_room (Nat.le_of_ble_eq_true rfl)) dX7_retract_143 ⟨Nat.le_of_ble_eq_true rfl, Nat.le_of_ble_eq_true rfl⟩) hP hD hS hA [0, 1, 2, 3, 4, 5, 6, 7, 8, 9, 10, 11, 12, 13, 14, 15, 16] rfl [.inr 0, .inr 1, .inr 2, .inr 3, .inr 4, .inr 5, .inr 6, .inr 7, .inr 8, .inr 9, .inr 10, .inr 11, .inr 12, .inr 13, .inr 14, .inr 15, .inr 16] (by decide) (fun u => (wM cy ad (va_up (va_up (va_up I 0 0) 2 (nI (n + 1))) 3 (nI u.1)) u.2)) (fun _ => rfl) (fun _ => rfl) (fun r143_9 u143_9 H locs q143_9 hP hD hS hkp => ?_)
                obtain ⟨k2_9, S2_9⟩ := u143_9
                have hP : va_P D clW (wM cy ad (va_up (va_up (va_up I 0 0) 2 (nI (n + 1))) 3 (nI k2_9)) S2_9) H := hP
                have hD : va_D A (wM cy ad (va_up (va_up (va_up I 0 0) 2 (nI (n + 1))) 3 (nI k2_9)) S2_9) := hD
                obtain ⟨rfl, hcq_9⟩ := q143_9
                refine lv_istore (lv' := [(7, .int (nI mm)), (5, .int 0), (6, .int (rdays S (slM x b) n fr to k d d2)), (0, .ref (ad 0)), (1, .int x), (2, .int b), (3, .int d), (4, .int d2)]) hx hb dX7_retract_146 hl (by decide) rfl (fun ls hl => ?_)
                refine lv_iload hx hb dX7_retract_148 (lv_at hl 2 rfl) ?_
                exact wI_ret ((va_up (va_up (va_up I 0 0) 2 (nI (n + 1))) 3 (nI k2_9)), S2_9) hS hP hx hb hr hlocks dX7_retract_150 (Nat.le_of_ble_eq_true rfl) (Nat.le_of_ble_eq_true rfl) hQ (Or.inl ⟨hcode, rfl, k2_9, S2_9, hcq_9, rfl, rfl⟩)
              · have f106_6 : n = 60 := nt_eq (a := n) (b := 60) (by omega) (by omega) c106_6
                refine lv_iconst (v := 4) hx hb dX7_retract_109 (by decide) ?_
                refine lv_goto (tgt := 114) hx hb dX7_retract_110 (by decide) ?_
                refine lv_istore (lv' := [(5, .int 4), (7, .int (nI (x9 + i))), (6, .int (rdays S (slM x b) n fr to k d d2)), (0, .ref (ad 0)), (1, .int x), (2, .int b), (3, .int (nI x9)), (4, .int (nI y9))]) hx hb dX7_retract_114 hl (by decide) rfl (fun ls hl => ?_)
                have hcode : rfC I n x b d d2 (rdays S (slM x b) n fr to k d d2) = 4 := by unfold rfC; rw [if_pos b3_1, if_pos b16_2, if_neg c93_5, if_pos f106_6]
                refine lv_aload_n hx hb dX7_retract_116 rfl (lv_at hl 3 rfl) ?_
                refine lv_iload hx hb dX7_retract_117 (lv_at hl 0 rfl) ?_
                refine wI_call (va_runV (As := [.int 4]) (rest := []) ⟨hx, hb, hml, hown, hts⟩ (c_X7_goesOn l D cy ad I (va_up S 10 (lkN S (slM x b) (nI n) fr to (S 10) k)) H.size 4) (cw_X7_71 hts rfl rfl ⟨Nat.le_of_ble_eq_true rfl, Nat.le_of_ble_eq_true rfl⟩) (preVW (ci := 7) (q0 := 0) hK hP hD rfl rfl) rfl rfl hl.1 rfl (lv_room (Nat.le_of_ble_eq_true rfl)) dX7_retract_119 ⟨Nat.le_of_ble_eq_true rfl, Nat.le_of_ble_eq_true rfl⟩) hP hD hS hA [0, 1, 2, 3, 4, 5, 6, 7, 8, 9, 10, 11, 12, 13, 14, 15, 16] rfl [.inr 0, .inr 1, .inr 2, .inr 3, .inr 4, .inr 5, .inr 6, .inr 7, .inr 8, .inr 9, .inr 10, .inr 11, .inr 12, .inr 13, .inr 14, .inr 15, .inr 16] (by decide) (fun u => (wM cy ad (va_up I 0 4) (va_up S 10 (lkN S (slM x b) (nI n) fr to (S 10) k)))) (fun _ => rfl) (fun _ => rfl) (fun r119_10 u119_10 H locs q119_10 hP hD hS hkp => ?_)
                have hP : va_P D clW (wM cy ad (va_up I 0 4) (va_up S 10 (lkN S (slM x b) (nI n) fr to (S 10) k))) H := hP
                have hD : va_D A (wM cy ad (va_up I 0 4) (va_up S 10 (lkN S (slM x b) (nI n) fr to (S 10) k))) := hD
                rw [if_neg (by decide)] at q119_10
                subst q119_10
                refine lv_if_ne (tgt := 127) hx hb dX7_retract_122 (by decide) (fun c => absurd (by decide) c) (fun _ => ?_)
                refine lv_iconst (v := 0) hx hb dX7_retract_125 (by decide) ?_
                exact wI_ret ((va_up I 0 4), (va_up S 10 (lkN S (slM x b) (nI n) fr to (S 10) k))) hS hP hx hb hr hlocks dX7_retract_126 (Nat.le_of_ble_eq_true rfl) (Nat.le_of_ble_eq_true rfl) hQ (Or.inr ⟨by rw [hcode]; decide, by rw [hcode]; rfl, (msc_S (msc_I (msc_0 I S) (by decide) _) (by decide) _)⟩)
            · refine lv_iconst (v := 3) hx hb dX7_retract_96 (by decide) ?_
              refine lv_goto (tgt := 114) hx hb dX7_retract_97 (by decide) ?_
              refine lv_istore (lv' := [(5, .int 3), (7, .int (nI (x9 + i))), (6, .int (rdays S (slM x b) n fr to k d d2)), (0, .ref (ad 0)), (1, .int x), (2, .int b), (3, .int (nI x9)), (4, .int (nI y9))]) hx hb dX7_retract_114 hl (by decide) rfl (fun ls hl => ?_)
              have hcode : rfC I n x b d d2 (rdays S (slM x b) n fr to k d d2) = 3 := by unfold rfC; rw [if_pos b3_1, if_pos b16_2, if_pos c93_5]
              refine lv_aload_n hx hb dX7_retract_116 rfl (lv_at hl 3 rfl) ?_
              refine lv_iload hx hb dX7_retract_117 (lv_at hl 0 rfl) ?_
              refine wI_call (va_runV (As := [.int 3]) (rest := []) ⟨hx, hb, hml, hown, hts⟩ (c_X7_goesOn l D cy ad I (va_up S 10 (lkN S (slM x b) (nI n) fr to (S 10) k)) H.size 3) (cw_X7_71 hts rfl rfl ⟨Nat.le_of_ble_eq_true rfl, Nat.le_of_ble_eq_true rfl⟩) (preVW (ci := 7) (q0 := 0) hK hP hD rfl rfl) rfl rfl hl.1 rfl (lv_room (Nat.le_of_ble_eq_true rfl)) dX7_retract_119 ⟨Nat.le_of_ble_eq_true rfl, Nat.le_of_ble_eq_true rfl⟩) hP hD hS hA [0, 1, 2, 3, 4, 5, 6, 7, 8, 9, 10, 11, 12, 13, 14, 15, 16] rfl [.inr 0, .inr 1, .inr 2, .inr 3, .inr 4, .inr 5, .inr 6, .inr 7, .inr 8, .inr 9, .inr 10, .inr 11, .inr 12, .inr 13, .inr 14, .inr 15, .inr 16] (by decide) (fun u => (wM cy ad (va_up I 0 3) (va_up S 10 (lkN S (slM x b) (nI n) fr to (S 10) k)))) (fun _ => rfl) (fun _ => rfl) (fun r119_11 u119_11 H locs q119_11 hP hD hS hkp => ?_)
              have hP : va_P D clW (wM cy ad (va_up I 0 3) (va_up S 10 (lkN S (slM x b) (nI n) fr to (S 10) k))) H := hP
              have hD : va_D A (wM cy ad (va_up I 0 3) (va_up S 10 (lkN S (slM x b) (nI n) fr to (S 10) k))) := hD
              rw [if_neg (by decide)] at q119_11
              subst q119_11
              refine lv_if_ne (tgt := 127) hx hb dX7_retract_122 (by decide) (fun c => absurd (by decide) c) (fun _ => ?_)
              refine lv_iconst (v := 0) hx hb dX7_retract_125 (by decide) ?_
              exact wI_ret ((va_up I 0 3), (va_up S 10 (lkN S (slM x b) (nI n) fr to (S 10) k))) hS hP hx hb hr hlocks dX7_retract_126 (Nat.le_of_ble_eq_true rfl) (Nat.le_of_ble_eq_true rfl) hQ (Or.inr ⟨by rw [hcode]; decide, by rw [hcode]; rfl, (msc_S (msc_I (msc_0 I S) (by decide) _) (by decide) _)⟩)
          · have f61_4 : (x9 + i) < y9 := nt_nle (a := y9) (b := (x9 + i)) (by omega) (by omega) c61_4
            refine lv_iload hx hb dX7_retract_64 (lv_at hl 1 rfl) ?_
            refine lv_aload_n hx hb dX7_retract_66 rfl (lv_at hl 2 rfl) ?_
            refine gf_X7_39 hx hb hts hown hK hP 0 rfl (v := .ref (ad 10)) rfl dX7_retract_67 ?_
            refine lv_iload hx hb dX7_retract_70 (lv_at hl 0 rfl) ?_
            refine ald_I (f := (lkN S (slM x b) (nI n) fr to (S 10) k)) hx hb hK hP 10 rfl (i := (x9 + i)) (by omega) (by decide) dX7_retract_72 ?_
            refine lv_iconst (v := (-1)) hx hb dX7_retract_73 (by decide) ?_
            refine lv_icmp_ne (tgt := 81) hx hb dX7_retract_74 (by decide) (fun c74_12 => ?_) (fun c74_12 => ?_)
            · refine lv_iconst (v := 1) hx hb dX7_retract_81 (by decide) ?_
              refine lv_iadd hx hb dX7_retract_82 ?_
              refine lv_istore (lv' := [(6, .int ((kcN (lkN S (slM x b) (nI n) fr to (S 10) k) x9 i) + 1)), (7, .int (nI (x9 + i))), (0, .ref (ad 0)), (1, .int x), (2, .int b), (3, .int (nI x9)), (4, .int (nI y9)), (5, .int 0)]) hx hb dX7_retract_83 hl (by decide) rfl (fun ls hl => ?_)
              refine lv_iinc (v := (nI ((x9 + i) + 1))) (lv' := [(7, .int (nI ((x9 + i) + 1))), (6, .int ((kcN (lkN S (slM x b) (nI n) fr to (S 10) k) x9 i) + 1)), (0, .ref (ad 0)), (1, .int x), (2, .int b), (3, .int (nI x9)), (4, .int (nI y9)), (5, .int 0)]) hx hb dX7_retract_85 hl (k := 1) rfl (nI_1 (x9 + i)) (by decide) rfl (fun ls hl => ?_)
              refine lv_goto (tgt := 57) hx hb dX7_retract_88 (by decide) ?_
              have e_13 : (nI ((x9 + i) + 1)) = (nI (x9 + (i + 1))) := rfl
              have e_14 : ((kcN (lkN S (slM x b) (nI n) fr to (S 10) k) x9 i) + 1) = (kcN (lkN S (slM x b) (nI n) fr to (S 10) k) x9 (i + 1)) := (kc_f c74_12).symm
              have hl : lv_has ls 8 [(7, .int (nI (x9 + (i + 1)))), (6, .int (kcN (lkN S (slM x b) (nI n) fr to (S 10) k) x9 (i + 1))), (0, .ref (ad 0)), (1, .int x), (2, .int b), (3, .int (nI x9)), (4, .int (nI y9)), (5, .int 0)] := by rw [← e_13, ← e_14]; exact hl
              have hP : va_P D clW (wM cy ad I (va_up S 10 (lkN S (slM x b) (nI n) fr to (S 10) k))) H := hP
              have hD : va_D A (wM cy ad I (va_up S 10 (lkN S (slM x b) (nI n) fr to (S 10) k))) := hD.addr rfl
              exact ih57 (i + 1) (by omega) (by omega) _ _ hP hD hS ls (lv_sub hl [0, 1, 2, 3, 4, 5, 6, 7] rfl)
            · refine lv_iconst (v := 0) hx hb dX7_retract_77 (by decide) ?_
              refine lv_goto (tgt := 82) hx hb dX7_retract_78 (by decide) ?_
              refine lv_iadd hx hb dX7_retract_82 ?_
              refine lv_istore (lv' := [(6, .int ((kcN (lkN S (slM x b) (nI n) fr to (S 10) k) x9 i) + 0)), (7, .int (nI (x9 + i))), (0, .ref (ad 0)), (1, .int x), (2, .int b), (3, .int (nI x9)), (4, .int (nI y9)), (5, .int 0)]) hx hb dX7_retract_83 hl (by decide) rfl (fun ls hl => ?_)
              refine lv_iinc (v := (nI ((x9 + i) + 1))) (lv' := [(7, .int (nI ((x9 + i) + 1))), (6, .int ((kcN (lkN S (slM x b) (nI n) fr to (S 10) k) x9 i) + 0)), (0, .ref (ad 0)), (1, .int x), (2, .int b), (3, .int (nI x9)), (4, .int (nI y9)), (5, .int 0)]) hx hb dX7_retract_85 hl (k := 1) rfl (nI_1 (x9 + i)) (by decide) rfl (fun ls hl => ?_)
              refine lv_goto (tgt := 57) hx hb dX7_retract_88 (by decide) ?_
              have e_15 : (nI ((x9 + i) + 1)) = (nI (x9 + (i + 1))) := rfl
              have e_16 : ((kcN (lkN S (slM x b) (nI n) fr to (S 10) k) x9 i) + 0) = (kcN (lkN S (slM x b) (nI n) fr to (S 10) k) x9 (i + 1)) := (kc_t c74_12).symm
              have hl : lv_has ls 8 [(7, .int (nI (x9 + (i + 1)))), (6, .int (kcN (lkN S (slM x b) (nI n) fr to (S 10) k) x9 (i + 1))), (0, .ref (ad 0)), (1, .int x), (2, .int b), (3, .int (nI x9)), (4, .int (nI y9)), (5, .int 0)] := by rw [← e_15, ← e_16]; exact hl
              have hP : va_P D clW (wM cy ad I (va_up S 10 (lkN S (slM x b) (nI n) fr to (S 10) k))) H := hP
              have hD : va_D A (wM cy ad I (va_up S 10 (lkN S (slM x b) (nI n) fr to (S 10) k))) := hD.addr rfl
              exact ih57 (i + 1) (by omega) (by omega) _ _ hP hD hS ls (lv_sub hl [0, 1, 2, 3, 4, 5, 6, 7] rfl)
      have hP : va_P D clW (wM cy ad I (va_up S 10 (lkN S (slM x b) (nI n) fr to (S 10) k))) H := hP
      have hD : va_D A (wM cy ad I (va_up S 10 (lkN S (slM x b) (nI n) fr to (S 10) k))) := hD.addr rfl
      exact L57 ((y9 - x9) + 1) 0 (by omega) (by omega) _ _ hP hD hS ls (lv_sub hl [0, 1, 3, 4, 5, 6, 7, 2] rfl)
    · refine lv_if_ne (tgt := 26) hx hb dX7_retract_19 (by decide) (fun c => absurd (by decide) c) (fun _ => ?_)
      refine lv_iconst (v := 2) hx hb dX7_retract_22 (by decide) ?_
      refine lv_goto (tgt := 27) hx hb dX7_retract_23 (by decide) ?_
      refine lv_istore (lv' := [(5, .int 2), (0, .ref (ad 0)), (1, .int x), (2, .int b), (3, .int d), (4, .int d2)]) hx hb dX7_retract_27 hl (by decide) rfl (fun ls hl => ?_)
      refine lv_iconst (v := 0) hx hb dX7_retract_29 (by decide) ?_
      refine lv_istore (lv' := [(6, .int 0), (5, .int 2), (0, .ref (ad 0)), (1, .int x), (2, .int b), (3, .int d), (4, .int d2)]) hx hb dX7_retract_30 hl (by decide) rfl (fun ls hl => ?_)
      refine lv_iload hx hb dX7_retract_32 (lv_at hl 1 rfl) ?_
      refine lv_if_ne (tgt := 116) hx hb dX7_retract_34 (by decide) (fun _ => ?_) (fun c => absurd c (by decide))
      have hcode : rfC I n x b d d2 (rdays S (slM x b) n fr to k d d2) = 2 := by unfold rfC; rw [if_pos b3_1, if_neg b16_2]
      refine lv_aload_n hx hb dX7_retract_116 rfl (lv_at hl 2 rfl) ?_
      refine lv_iload hx hb dX7_retract_117 (lv_at hl 1 rfl) ?_
      refine wI_call (va_runV (As := [.int 2]) (rest := []) ⟨hx, hb, hml, hown, hts⟩ (c_X7_goesOn l D cy ad I S H.size 2) (cw_X7_71 hts rfl rfl ⟨Nat.le_of_ble_eq_true rfl, Nat.le_of_ble_eq_true rfl⟩) (preVW (ci := 7) (q0 := 0) hK hP hD rfl rfl) rfl rfl hl.1 rfl (lv_room (Nat.le_of_ble_eq_true rfl)) dX7_retract_119 ⟨Nat.le_of_ble_eq_true rfl, Nat.le_of_ble_eq_true rfl⟩) hP hD hS hA [0, 1, 2, 3, 4, 5, 6, 7, 8, 9, 10, 11, 12, 13, 14, 15, 16] rfl [.inr 0, .inr 1, .inr 2, .inr 3, .inr 4, .inr 5, .inr 6, .inr 7, .inr 8, .inr 9, .inr 10, .inr 11, .inr 12, .inr 13, .inr 14, .inr 15, .inr 16] (by decide) (fun u => (wM cy ad (va_up I 0 2) S)) (fun _ => rfl) (fun _ => rfl) (fun r119_17 u119_17 H locs q119_17 hP hD hS hkp => ?_)
      have hP : va_P D clW (wM cy ad (va_up I 0 2) S) H := hP
      have hD : va_D A (wM cy ad (va_up I 0 2) S) := hD
      rw [if_neg (by decide)] at q119_17
      subst q119_17
      refine lv_if_ne (tgt := 127) hx hb dX7_retract_122 (by decide) (fun c => absurd (by decide) c) (fun _ => ?_)
      refine lv_iconst (v := 0) hx hb dX7_retract_125 (by decide) ?_
      exact wI_ret ((va_up I 0 2), S) hS hP hx hb hr hlocks dX7_retract_126 (Nat.le_of_ble_eq_true rfl) (Nat.le_of_ble_eq_true rfl) hQ (Or.inr ⟨by rw [hcode]; decide, by rw [hcode]; rfl, (msc_I (msc_0 I S) (by decide) _)⟩)
  · refine lv_if_ne (tgt := 13) hx hb dX7_retract_6 (by decide) (fun c => absurd (by decide) c) (fun _ => ?_)
    refine lv_iconst (v := 1) hx hb dX7_retract_9 (by decide) ?_
    refine lv_goto (tgt := 27) hx hb dX7_retract_10 (by decide) ?_
    refine lv_istore (lv' := [(5, .int 1), (0, .ref (ad 0)), (1, .int x), (2, .int b), (3, .int d), (4, .int d2)]) hx hb dX7_retract_27 hl (by decide) rfl (fun ls hl => ?_)
    refine lv_iconst (v := 0) hx hb dX7_retract_29 (by decide) ?_
    refine lv_istore (lv' := [(6, .int 0), (5, .int 1), (0, .ref (ad 0)), (1, .int x), (2, .int b), (3, .int d), (4, .int d2)]) hx hb dX7_retract_30 hl (by decide) rfl (fun ls hl => ?_)
    refine lv_iload hx hb dX7_retract_32 (lv_at hl 1 rfl) ?_
    refine lv_if_ne (tgt := 116) hx hb dX7_retract_34 (by decide) (fun _ => ?_) (fun c => absurd c (by decide))
    have hcode : rfC I n x b d d2 (rdays S (slM x b) n fr to k d d2) = 1 := by unfold rfC; rw [if_neg b3_1]
    refine lv_aload_n hx hb dX7_retract_116 rfl (lv_at hl 2 rfl) ?_
    refine lv_iload hx hb dX7_retract_117 (lv_at hl 1 rfl) ?_
    refine wI_call (va_runV (As := [.int 1]) (rest := []) ⟨hx, hb, hml, hown, hts⟩ (c_X7_goesOn l D cy ad I S H.size 1) (cw_X7_71 hts rfl rfl ⟨Nat.le_of_ble_eq_true rfl, Nat.le_of_ble_eq_true rfl⟩) (preVW (ci := 7) (q0 := 0) hK hP hD rfl rfl) rfl rfl hl.1 rfl (lv_room (Nat.le_of_ble_eq_true rfl)) dX7_retract_119 ⟨Nat.le_of_ble_eq_true rfl, Nat.le_of_ble_eq_true rfl⟩) hP hD hS hA [0, 1, 2, 3, 4, 5, 6, 7, 8, 9, 10, 11, 12, 13, 14, 15, 16] rfl [.inr 0, .inr 1, .inr 2, .inr 3, .inr 4, .inr 5, .inr 6, .inr 7, .inr 8, .inr 9, .inr 10, .inr 11, .inr 12, .inr 13, .inr 14, .inr 15, .inr 16] (by decide) (fun u => (wM cy ad (va_up I 0 1) S)) (fun _ => rfl) (fun _ => rfl) (fun r119_18 u119_18 H locs q119_18 hP hD hS hkp => ?_)
    have hP : va_P D clW (wM cy ad (va_up I 0 1) S) H := hP
    have hD : va_D A (wM cy ad (va_up I 0 1) S) := hD
    rw [if_neg (by decide)] at q119_18
    subst q119_18
    refine lv_if_ne (tgt := 127) hx hb dX7_retract_122 (by decide) (fun c => absurd (by decide) c) (fun _ => ?_)
    refine lv_iconst (v := 0) hx hb dX7_retract_125 (by decide) ?_
    exact wI_ret ((va_up I 0 1), S) hS hP hx hb hr hlocks dX7_retract_126 (Nat.le_of_ble_eq_true rfl) (Nat.le_of_ble_eq_true rfl) hQ (Or.inr ⟨by rw [hcode]; decide, by rw [hcode]; rfl, (msc_I (msc_0 I S) (by decide) _)⟩)

set_option maxHeartbeats 4000000 in
set_option maxRecDepth 100000 in
theorem c_X7_correct (l : Launch) (D : va_G) (cy : Nat → ClassId) (ad : Nat → Nat) (I : AI) (S : AS) (sz : Nat) (x : Int32) (b : Int32) (d : Int32) (v : Int32) (k : Nat) (hk : I 3 = nI k) (hk8 : k ≤ 256) (n : Nat) (hn : I 2 = nI n) (hn6 : n ≤ 60) (hk9 : k < 256) : Met l yX7_correct (Cond.code yX7_correct cX7_correct 7 (some .int) :: wsL_law) ({ frames := 2, cells := 0, slots := 0, locals := 48 }) (va_Pc [.ref (ad 0), .int x, .int b, .int d, .int v] (wrB D cy (wM cy ad I S) sz)) (va_Qi (S := AI × AS) (fun r u => (cfC I n x b d (mtN S (slM x b) d (d + 1) 62 k) = 0 ∧ ∃ j : Nat, j < k ∧ (mtN S (slM x b) d (d + 1) 62 k) = nI j ∧ r = S 6 j - S 5 j ∧ u.1 = (va_up (va_up (va_up I 0 0) 2 (nI (n + 1))) 3 (nI (k + 1))) ∧ u.2 = opM (cdM (bgS S n 99 x) j (nI (n + 1))) k (S 3 j) v (S 5 j) (S 6 j) (nI (n + 1))) ∨ (¬ cfC I n x b d (mtN S (slM x b) d (d + 1) 62 k) = 0 ∧ u.1 = va_up I 0 (cfC I n x b d (mtN S (slM x b) d (d + 1) 62 k)) ∧ u.2 = S)) (fun u t9 => va_P D clW (wM cy ad u.1 u.2) t9.heap) (va_A (wM cy ad I S) sz)) 0 0 (va_A (wM cy ad I S) sz) := by
  refine enter (cc := cX7_correct) (by decide) (Nat.le_of_ble_eq_true rfl) ?_
  intro p e s m below meth c hx hb hr hml hown hts hlocks hin hv Q hQ ls hl
  obtain ⟨hsz, hP, hK, hD0⟩ := hv
  subst hsz
  have hD := hD0.self (sz := s.heap.size)
  generalize hAe : va_A (wM cy ad I S) s.heap.size = A at hD hQ ⊢
  have hA : ∀ q : Nat, s.heap.size ≤ q → A q := fun q h => by rw [← hAe]; exact Or.inr h
  have hS : va_S A s.heap s.heap [] := va_S.rf
  suffices K_ : ∀ (H : Heap) (locs : List Loc), va_P D clW (wM cy ad I S) H → va_S A s.heap H locs → W p l e ({ frames := 2, cells := 0, slots := 0, locals := 48 }) s m ([.ref (ad 0), .int x, .int b, .int d, .int v] : List Value).toArray below meth c H locs 0 0 Q (F0 m 0 ls []) from K_ _ _ hP hS
  clear hP hS
  intro H locs hP hS
  have hown : s.vm.findClass RX7 = some m.cls := hown
  have hl : lv_has ls 7 [(0, .ref (ad 0)), (1, .int x), (2, .int b), (3, .int d), (4, .int v)] := hl
  refine lv_aload_n hx hb dX7_correct_0 rfl (lv_at hl 0 rfl) ?_
  refine lv_iload_n hx hb dX7_correct_1 rfl (lv_at hl 1 rfl) ?_
  refine lv_iload_n hx hb dX7_correct_2 rfl (lv_at hl 2 rfl) ?_
  refine rZ_call (P := mplB ((I 1)) x b = true) (va_runV (As := [.int x, .int b]) (rest := []) ⟨hx, hb, hml, hown, hts⟩ (c_X7_isPlace l D cy ad I S x b) (cw_X7_92 hts rfl rfl ⟨Nat.le_of_ble_eq_true rfl, Nat.le_of_ble_eq_true rfl⟩) (preVR (ci := 7) (q0 := 0) hK hP rfl rfl) rfl rfl hl.1 rfl (lv_room (Nat.le_of_ble_eq_true rfl)) dX7_correct_3 ⟨Nat.le_of_ble_eq_true rfl, Nat.le_of_ble_eq_true rfl⟩) (fun b3_1 => ?_) (fun b3_1 => ?_)
  · refine lv_if_ne (tgt := 13) hx hb dX7_correct_6 (by decide) (fun _ => ?_) (fun c => absurd c (by decide))
    refine lv_iload_n hx hb dX7_correct_13 rfl (lv_at hl 3 rfl) ?_
    refine lv_iconst (v := 0) hx hb dX7_correct_14 (by decide) ?_
    refine lv_bipush (v := 99) hx hb dX7_correct_15 (by decide) ?_
    refine rZ_call (P := inB d 0 99 = true) (va_runS (As := [.int d, .int 0, .int 99]) (rest := []) ⟨hx, hb, hml, hown, hts⟩ (c_X7_in l D cy d 0 99) (cw_X7_67 hts rfl rfl ⟨Nat.le_of_ble_eq_true rfl, Nat.le_of_ble_eq_true rfl⟩) (preSR hK (hP.sub [] rfl)) rfl rfl hl.1 rfl (lv_room (Nat.le_of_ble_eq_true rfl)) dX7_correct_17 ⟨Nat.le_of_ble_eq_true rfl, Nat.le_of_ble_eq_true rfl⟩) (fun b17_2 => ?_) (fun b17_2 => ?_)
    · refine lv_if_ne (tgt := 27) hx hb dX7_correct_20 (by decide) (fun _ => ?_) (fun c => absurd c (by decide))
      refine lv_iconst (v := 0) hx hb dX7_correct_27 (by decide) ?_
      refine lv_istore (lv' := [(5, .int 0), (0, .ref (ad 0)), (1, .int x), (2, .int b), (3, .int d), (4, .int v)]) hx hb dX7_correct_28 hl (by decide) rfl (fun ls hl => ?_)
      refine lv_iload hx hb dX7_correct_30 (lv_at hl 0 rfl) ?_
      refine lv_if_ne (tgt := 53) hx hb dX7_correct_32 (by decide) (fun c => absurd (by decide) c) (fun _ => ?_)
      refine lv_aload_n hx hb dX7_correct_35 rfl (lv_at hl 1 rfl) ?_
      refine lv_iload_n hx hb dX7_correct_36 rfl (lv_at hl 2 rfl) ?_
      refine lv_iload_n hx hb dX7_correct_37 rfl (lv_at hl 3 rfl) ?_
      refine rI_call (va_runS (As := [.int x, .int b]) (rest := [.ref (ad 0)]) ⟨hx, hb, hml, hown, hts⟩ (c_X7_placeOf l D cy x b) (cw_X7_103 hts rfl rfl ⟨Nat.le_of_ble_eq_true rfl, Nat.le_of_ble_eq_true rfl⟩) (preSR hK (hP.sub [] rfl)) rfl rfl hl.1 rfl (lv_room (Nat.le_of_ble_eq_true rfl)) dX7_correct_38 ⟨Nat.le_of_ble_eq_true rfl, Nat.le_of_ble_eq_true rfl⟩) (fun r hr_ => ?_)
      subst hr_
      refine lv_iload_n hx hb dX7_correct_41 rfl (lv_at hl 4 rfl) ?_
      refine lv_iload_n hx hb dX7_correct_42 rfl (lv_at hl 4 rfl) ?_
      refine lv_iconst (v := 1) hx hb dX7_correct_43 (by decide) ?_
      refine lv_iadd hx hb dX7_correct_44 ?_
      refine lv_bipush (v := 62) hx hb dX7_correct_45 (by decide) ?_
      refine rI_call (va_runV (As := [.int (slM x b), .int d, .int (d + 1), .int 62]) (rest := []) ⟨hx, hb, hml, hown, hts⟩ (c_X7_meets l D cy ad I S (slM x b) d (d + 1) 62 k hk hk8) (cw_X7_84 hts rfl rfl ⟨Nat.le_of_ble_eq_true rfl, Nat.le_of_ble_eq_true rfl⟩) (preVR (ci := 7) (q0 := 0) hK hP rfl rfl) rfl rfl hl.1 rfl (lv_room (Nat.le_of_ble_eq_true rfl)) dX7_correct_47 ⟨Nat.le_of_ble_eq_true rfl, Nat.le_of_ble_eq_true rfl⟩) (fun r hr_ => ?_)
      subst hr_
      refine lv_goto (tgt := 54) hx hb dX7_correct_50 (by decide) ?_
      refine lv_istore (lv' := [(6, .int (mtN S (slM x b) d (d + 1) 62 k)), (5, .int 0), (0, .ref (ad 0)), (1, .int x), (2, .int b), (3, .int d), (4, .int v)]) hx hb dX7_correct_54 hl (by decide) rfl (fun ls hl => ?_)
      rcases mtN_is S (slM x b) d (d + 1) 62 k with hbm | ⟨j9, hj9, hbm⟩
      · have hl : lv_has ls 7 [(6, .int (-1)), (5, .int 0), (0, .ref (ad 0)), (1, .int x), (2, .int b), (3, .int d), (4, .int v)] := by rw [← hbm]; exact hl
        have hbn : (mtN S (slM x b) d (d + 1) 62 k) = -1 := hbm
        refine lv_iload hx hb dX7_correct_56 (lv_at hl 1 rfl) ?_
        refine lv_if_ne (tgt := 88) hx hb dX7_correct_58 (by decide) (fun c => absurd (by decide) c) (fun _ => ?_)
        refine lv_iload hx hb dX7_correct_61 (lv_at hl 0 rfl) ?_
        refine lv_iconst (v := (-1)) hx hb dX7_correct_63 (by decide) ?_
        refine lv_icmp_ne (tgt := 71) hx hb dX7_correct_64 (by decide) (fun c => absurd (by decide) c) (fun _ => ?_)
        refine lv_iconst (v := 3) hx hb dX7_correct_67 (by decide) ?_
        refine lv_goto (tgt := 90) hx hb dX7_correct_68 (by decide) ?_
        refine lv_istore (lv' := [(5, .int 3), (6, .int (-1)), (0, .ref (ad 0)), (1, .int x), (2, .int b), (3, .int d), (4, .int v)]) hx hb dX7_correct_90 hl (by decide) rfl (fun ls hl => ?_)
        have hcode : cfC I n x b d (mtN S (slM x b) d (d + 1) 62 k) = 3 := by unfold cfC; rw [if_pos b3_1, if_pos b17_2, if_pos hbn]
        refine lv_aload_n hx hb dX7_correct_92 rfl (lv_at hl 2 rfl) ?_
        refine lv_iload hx hb dX7_correct_93 (lv_at hl 0 rfl) ?_
        refine wI_call (va_runV (As := [.int 3]) (rest := []) ⟨hx, hb, hml, hown, hts⟩ (c_X7_goesOn l D cy ad I S H.size 3) (cw_X7_71 hts rfl rfl ⟨Nat.le_of_ble_eq_true rfl, Nat.le_of_ble_eq_true rfl⟩) (preVW (ci := 7) (q0 := 0) hK hP hD rfl rfl) rfl rfl hl.1 rfl (lv_room (Nat.le_of_ble_eq_true rfl)) dX7_correct_95 ⟨Nat.le_of_ble_eq_true rfl, Nat.le_of_ble_eq_true rfl⟩) hP hD hS hA [0, 1, 2, 3, 4, 5, 6, 7, 8, 9, 10, 11, 12, 13, 14, 15, 16] rfl [.inr 0, .inr 1, .inr 2, .inr 3, .inr 4, .inr 5, .inr 6, .inr 7, .inr 8, .inr 9, .inr 10, .inr 11, .inr 12, .inr 13, .inr 14, .inr 15, .inr 16] (by decide) (fun u => (wM cy ad (va_up I 0 3) S)) (fun _ => rfl) (fun _ => rfl) (fun r95_3 u95_3 H locs q95_3 hP hD hS hkp => ?_)
        have hP : va_P D clW (wM cy ad (va_up I 0 3) S) H := hP
        have hD : va_D A (wM cy ad (va_up I 0 3) S) := hD
        rw [if_neg (by decide)] at q95_3
        subst q95_3
        refine lv_if_ne (tgt := 103) hx hb dX7_correct_98 (by decide) (fun c => absurd (by decide) c) (fun _ => ?_)
        refine lv_iconst (v := 0) hx hb dX7_correct_101 (by decide) ?_
        exact wI_ret ((va_up I 0 3), S) hS hP hx hb hr hlocks dX7_correct_102 (Nat.le_of_ble_eq_true rfl) (Nat.le_of_ble_eq_true rfl) hQ (Or.inr ⟨by rw [hcode]; decide, by rw [hcode], rfl⟩)
      · have hl : lv_has ls 7 [(6, .int (nI j9)), (5, .int 0), (0, .ref (ad 0)), (1, .int x), (2, .int b), (3, .int d), (4, .int v)] := by rw [← hbm]; exact hl
        have hbn : ¬ (mtN S (slM x b) d (d + 1) 62 k) = -1 := by rw [hbm]; exact nI_m1 (by omega)
        refine lv_iload hx hb dX7_correct_56 (lv_at hl 1 rfl) ?_
        refine lv_if_ne (tgt := 88) hx hb dX7_correct_58 (by decide) (fun c => absurd (by decide) c) (fun _ => ?_)
        refine lv_iload hx hb dX7_correct_61 (lv_at hl 0 rfl) ?_
        refine lv_iconst (v := (-1)) hx hb dX7_correct_63 (by decide) ?_
        refine lv_icmp_ne (tgt := 71) hx hb dX7_correct_64 (by decide) (fun _ => ?_) (fun c => absurd c (nI_m1 (by omega)))
        refine lv_aload_n hx hb dX7_correct_71 rfl (lv_at hl 2 rfl) ?_
        refine gf_X7_78 hx hb hts hown hK hP 0 rfl (v := .int (I 2)) rfl dX7_correct_72 ?_
        refine top_eq hn ?_
        refine lv_bipush (v := 60) hx hb dX7_correct_75 (by decide) ?_
        refine lv_icmp_ne (tgt := 84) hx hb dX7_correct_77 (by decide) (fun c77_4 => ?_) (fun c77_4 => ?_)
        · have f77_4 : n ≠ 60 := nt_ne (a := n) (b := 60) (by omega) (by omega) c77_4
          refine lv_iconst (v := 0) hx hb dX7_correct_84 (by decide) ?_
          refine lv_goto (tgt := 90) hx hb dX7_correct_85 (by decide) ?_
          refine lv_istore (lv' := [(5, .int 0), (6, .int (nI j9)), (0, .ref (ad 0)), (1, .int x), (2, .int b), (3, .int d), (4, .int v)]) hx hb dX7_correct_90 hl (by decide) rfl (fun ls hl => ?_)
          have hcode : cfC I n x b d (mtN S (slM x b) d (d + 1) 62 k) = 0 := by unfold cfC; rw [if_pos b3_1, if_pos b17_2, if_neg hbn, if_neg f77_4]
          refine lv_aload_n hx hb dX7_correct_92 rfl (lv_at hl 2 rfl) ?_
          refine lv_iload hx hb dX7_correct_93 (lv_at hl 0 rfl) ?_
          refine wI_call (va_runV (As := [.int 0]) (rest := []) ⟨hx, hb, hml, hown, hts⟩ (c_X7_goesOn l D cy ad I S H.size 0) (cw_X7_71 hts rfl rfl ⟨Nat.le_of_ble_eq_true rfl, Nat.le_of_ble_eq_true rfl⟩) (preVW (ci := 7) (q0 := 0) hK hP hD rfl rfl) rfl rfl hl.1 rfl (lv_room (Nat.le_of_ble_eq_true rfl)) dX7_correct_95 ⟨Nat.le_of_ble_eq_true rfl, Nat.le_of_ble_eq_true rfl⟩) hP hD hS hA [0, 1, 2, 3, 4, 5, 6, 7, 8, 9, 10, 11, 12, 13, 14, 15, 16] rfl [.inr 0, .inr 1, .inr 2, .inr 3, .inr 4, .inr 5, .inr 6, .inr 7, .inr 8, .inr 9, .inr 10, .inr 11, .inr 12, .inr 13, .inr 14, .inr 15, .inr 16] (by decide) (fun u => (wM cy ad (va_up I 0 0) S)) (fun _ => rfl) (fun _ => rfl) (fun r95_5 u95_5 H locs q95_5 hP hD hS hkp => ?_)
          have hP : va_P D clW (wM cy ad (va_up I 0 0) S) H := hP
          have hD : va_D A (wM cy ad (va_up I 0 0) S) := hD
          rw [if_pos rfl] at q95_5
          subst q95_5
          refine lv_if_ne (tgt := 103) hx hb dX7_correct_98 (by decide) (fun _ => ?_) (fun c => absurd c (by decide))
          refine lv_aload_n hx hb dX7_correct_103 rfl (lv_at hl 2 rfl) ?_
          refine lv_bipush (v := 99) hx hb dX7_correct_104 (by decide) ?_
          refine lv_iload_n hx hb dX7_correct_106 rfl (lv_at hl 3 rfl) ?_
          refine wV_call (va_runV (As := [.int 99, .int x]) (rest := []) ⟨hx, hb, hml, hown, hts⟩ (c_X7_begins l D cy ad (va_up I 0 0) S H.size 99 x n hn (by omega) rfl) (cw_X7_99 hts rfl rfl ⟨Nat.le_of_ble_eq_true rfl, Nat.le_of_ble_eq_true rfl⟩) (preVW (ci := 7) (q0 := 0) hK hP hD rfl rfl) rfl rfl hl.1 rfl (lv_room (Nat.le_of_ble_eq_true rfl)) dX7_correct_107 ⟨Nat.le_of_ble_eq_true rfl, Nat.le_of_ble_eq_true rfl⟩) hP hD hS hA [0, 1, 2, 3, 4, 5, 6, 7, 8, 9, 10, 11, 12, 13, 14, 15, 16] rfl [.inr 0, .inr 1, .inr 2, .inr 3, .inr 4, .inr 5, .inr 6, .inr 7, .inr 8, .inr 9, .inr 10, .inr 11, .inr 12, .inr 13, .inr 14, .inr 15, .inr 16] (by decide) (fun u => (wM cy ad (va_up (va_up I 0 0) 2 (nI (n + 1))) (va_up (va_up S 1 (upd (S 1) (n + 1) 99)) 2 (upd (S 2) (n + 1) x)))) (fun _ => rfl) (fun _ => rfl) (fun u107_6 H locs q107_6 hP hD hS hkp => ?_)
          have hP : va_P D clW (wM cy ad (va_up (va_up I 0 0) 2 (nI (n + 1))) (va_up (va_up S 1 (upd (S 1) (n + 1) 99)) 2 (upd (S 2) (n + 1) x))) H := hP
          have hD : va_D A (wM cy ad (va_up (va_up I 0 0) 2 (nI (n + 1))) (va_up (va_up S 1 (upd (S 1) (n + 1) 99)) 2 (upd (S 2) (n + 1) x))) := hD
          refine lv_aload_n hx hb dX7_correct_110 rfl (lv_at hl 2 rfl) ?_
          refine gf_X7_32 hx hb hts hown hK hP 0 rfl (v := .ref (ad 8)) rfl dX7_correct_111 ?_
          refine lv_iload hx hb dX7_correct_114 (lv_at hl 1 rfl) ?_
          refine lv_aload_n hx hb dX7_correct_116 rfl (lv_at hl 2 rfl) ?_
          refine gf_X7_78 hx hb hts hown hK hP 0 rfl (v := .int (nI (n + 1))) rfl dX7_correct_117 ?_
          refine ast_I hx hb hK hP hD hS 8 rfl (i := j9) (x := (nI (n + 1))) (by omega) (by decide) dX7_correct_120 (fun H locs hP hD hS => ?_)
          have hP : va_P D clW (wM cy ad (va_up (va_up I 0 0) 2 (nI (n + 1))) (va_up (va_up (va_up S 1 (upd (S 1) (n + 1) 99)) 2 (upd (S 2) (n + 1) x)) 8 (upd (S 8) j9 (nI (n + 1))))) H := hP
          have hD : va_D A (wM cy ad (va_up (va_up I 0 0) 2 (nI (n + 1))) (va_up (va_up (va_up S 1 (upd (S 1) (n + 1) 99)) 2 (upd (S 2) (n + 1) x)) 8 (upd (S 8) j9 (nI (n + 1))))) := hD
          refine lv_aload_n hx hb dX7_correct_121 rfl (lv_at hl 2 rfl) ?_
          refine lv_aload_n hx hb dX7_correct_122 rfl (lv_at hl 2 rfl) ?_
          refine gf_X7_17 hx hb hts hown hK hP 0 rfl (v := .ref (ad 3)) rfl dX7_correct_123 ?_
          refine lv_iload hx hb dX7_correct_126 (lv_at hl 1 rfl) ?_
          refine ald_I (f := (S 3)) hx hb hK hP 3 rfl (i := j9) (by omega) (by decide) dX7_correct_128 ?_
          refine lv_iload hx hb dX7_correct_129 (lv_at hl 6 rfl) ?_
          refine lv_aload_n hx hb dX7_correct_131 rfl (lv_at hl 2 rfl) ?_
          refine gf_X7_23 hx hb hts hown hK hP 0 rfl (v := .ref (ad 5)) rfl dX7_correct_132 ?_
          refine lv_iload hx hb dX7_correct_135 (lv_at hl 1 rfl) ?_
          refine ald_I (f := (S 5)) hx hb hK hP 5 rfl (i := j9) (by omega) (by decide) dX7_correct_137 ?_
          refine lv_aload_n hx hb dX7_correct_138 rfl (lv_at hl 2 rfl) ?_
          refine gf_X7_26 hx hb hts hown hK hP 0 rfl (v := .ref (ad 6)) rfl dX7_correct_139 ?_
          refine lv_iload hx hb dX7_correct_142 (lv_at hl 1 rfl) ?_
          refine ald_I (f := (S 6)) hx hb hK hP 6 rfl (i := j9) (by omega) (by decide) dX7_correct_144 ?_
          refine wV_call (va_runV (As := [.int ((S 3) j9), .int v, .int ((S 5) j9), .int ((S 6) j9)]) (rest := []) ⟨hx, hb, hml, hown, hts⟩ (c_X7_opens l D cy ad (va_up (va_up I 0 0) 2 (nI (n + 1))) (va_up (va_up (va_up S 1 (upd (S 1) (n + 1) 99)) 2 (upd (S 2) (n + 1) x)) 8 (upd (S 8) j9 (nI (n + 1)))) H.size ((S 3) j9) v ((S 5) j9) ((S 6) j9) k hk hk9) (cw_X7_88 hts rfl rfl ⟨Nat.le_of_ble_eq_true rfl, Nat.le_of_ble_eq_true rfl⟩) (preVW (ci := 7) (q0 := 0) hK hP hD rfl rfl) rfl rfl hl.1 rfl (lv_room (Nat.le_of_ble_eq_true rfl)) dX7_correct_145 ⟨Nat.le_of_ble_eq_true rfl, Nat.le_of_ble_eq_true rfl⟩) hP hD hS hA [0, 1, 2, 3, 4, 5, 6, 7, 8, 9, 10, 11, 12, 13, 14, 15, 16] rfl [.inr 0, .inr 1, .inr 2, .inr 3, .inr 4, .inr 5, .inr 6, .inr 7, .inr 8, .inr 9, .inr 10, .inr 11, .inr 12, .inr 13, .inr 14, .inr 15, .inr 16] (by decide) (fun u => (wM cy ad (va_up (va_up (va_up I 0 0) 2 (nI (n + 1))) 3 (nI (k + 1))) (va_up (va_up (va_up (va_up (va_up (va_up (va_up (va_up S 1 (upd (S 1) (n + 1) 99)) 2 (upd (S 2) (n + 1) x)) 3 (upd (S 3) k ((S 3) j9))) 4 (upd (S 4) k v)) 5 (upd (S 5) k ((S 5) j9))) 6 (upd (S 6) k ((S 6) j9))) 7 (upd (S 7) k (nI (n + 1)))) 8 (upd (upd (S 8) j9 (nI (n + 1))) k (-1))))) (fun _ => rfl) (fun _ => rfl) (fun u145_7 H locs q145_7 hP hD hS hkp => ?_)
          have hP : va_P D clW (wM cy ad (va_up (va_up (va_up I 0 0) 2 (nI (n + 1))) 3 (nI (k + 1))) (va_up (va_up (va_up (va_up (va_up (va_up (va_up (va_up S 1 (upd (S 1) (n + 1) 99)) 2 (upd (S 2) (n + 1) x)) 3 (upd (S 3) k ((S 3) j9))) 4 (upd (S 4) k v)) 5 (upd (S 5) k ((S 5) j9))) 6 (upd (S 6) k ((S 6) j9))) 7 (upd (S 7) k (nI (n + 1)))) 8 (upd (upd (S 8) j9 (nI (n + 1))) k (-1)))) H := hP
          have hD : va_D A (wM cy ad (va_up (va_up (va_up I 0 0) 2 (nI (n + 1))) 3 (nI (k + 1))) (va_up (va_up (va_up (va_up (va_up (va_up (va_up (va_up S 1 (upd (S 1) (n + 1) 99)) 2 (upd (S 2) (n + 1) x)) 3 (upd (S 3) k ((S 3) j9))) 4 (upd (S 4) k v)) 5 (upd (S 5) k ((S 5) j9))) 6 (upd (S 6) k ((S 6) j9))) 7 (upd (S 7) k (nI (n + 1)))) 8 (upd (upd (S 8) j9 (nI (n + 1))) k (-1)))) := hD
          refine lv_aload_n hx hb dX7_correct_148 rfl (lv_at hl 2 rfl) ?_
          refine gf_X7_26 hx hb hts hown hK hP 0 rfl (v := .ref (ad 6)) rfl dX7_correct_149 ?_
          refine lv_iload hx hb dX7_correct_152 (lv_at hl 1 rfl) ?_
          refine ald_I (f := (upd (S 6) k ((S 6) j9))) hx hb hK hP 6 rfl (i := j9) (by omega) (by decide) dX7_correct_154 ?_
          refine lv_aload_n hx hb dX7_correct_155 rfl (lv_at hl 2 rfl) ?_
          refine gf_X7_23 hx hb hts hown hK hP 0 rfl (v := .ref (ad 5)) rfl dX7_correct_156 ?_
          refine lv_iload hx hb dX7_correct_159 (lv_at hl 1 rfl) ?_
          refine ald_I (f := (upd (S 5) k ((S 5) j9))) hx hb hK hP 5 rfl (i := j9) (by omega) (by decide) dX7_correct_161 ?_
          refine lv_isub hx hb dX7_correct_162 ?_
          exact wI_ret ((va_up (va_up (va_up I 0 0) 2 (nI (n + 1))) 3 (nI (k + 1))), opM (cdM (bgS S n 99 x) j9 (nI (n + 1))) k (S 3 j9) v (S 5 j9) (S 6 j9) (nI (n + 1))) hS hP hx hb hr hlocks dX7_correct_163 (Nat.le_of_ble_eq_true rfl) (Nat.le_of_ble_eq_true rfl) hQ (Or.inl ⟨hcode, j9, hj9, hbm, by rw [pk_un (by omega), pk_un (by omega)], rfl, rfl⟩)
        · have f77_4 : n = 60 := nt_eq (a := n) (b := 60) (by omega) (by omega) c77_4
          refine lv_iconst (v := 4) hx hb dX7_correct_80 (by decide) ?_
          refine lv_goto (tgt := 90) hx hb dX7_correct_81 (by decide) ?_
          refine lv_istore (lv' := [(5, .int 4), (6, .int (nI j9)), (0, .ref (ad 0)), (1, .int x), (2, .int b), (3, .int d), (4, .int v)]) hx hb dX7_correct_90 hl (by decide) rfl (fun ls hl => ?_)
          have hcode : cfC I n x b d (mtN S (slM x b) d (d + 1) 62 k) = 4 := by unfold cfC; rw [if_pos b3_1, if_pos b17_2, if_neg hbn, if_pos f77_4]
          refine lv_aload_n hx hb dX7_correct_92 rfl (lv_at hl 2 rfl) ?_
          refine lv_iload hx hb dX7_correct_93 (lv_at hl 0 rfl) ?_
          refine wI_call (va_runV (As := [.int 4]) (rest := []) ⟨hx, hb, hml, hown, hts⟩ (c_X7_goesOn l D cy ad I S H.size 4) (cw_X7_71 hts rfl rfl ⟨Nat.le_of_ble_eq_true rfl, Nat.le_of_ble_eq_true rfl⟩) (preVW (ci := 7) (q0 := 0) hK hP hD rfl rfl) rfl rfl hl.1 rfl (lv_room (Nat.le_of_ble_eq_true rfl)) dX7_correct_95 ⟨Nat.le_of_ble_eq_true rfl, Nat.le_of_ble_eq_true rfl⟩) hP hD hS hA [0, 1, 2, 3, 4, 5, 6, 7, 8, 9, 10, 11, 12, 13, 14, 15, 16] rfl [.inr 0, .inr 1, .inr 2, .inr 3, .inr 4, .inr 5, .inr 6, .inr 7, .inr 8, .inr 9, .inr 10, .inr 11, .inr 12, .inr 13, .inr 14, .inr 15, .inr 16] (by decide) (fun u => (wM cy ad (va_up I 0 4) S)) (fun _ => rfl) (fun _ => rfl) (fun r95_8 u95_8 H locs q95_8 hP hD hS hkp => ?_)
          have hP : va_P D clW (wM cy ad (va_up I 0 4) S) H := hP
          have hD : va_D A (wM cy ad (va_up I 0 4) S) := hD
          rw [if_neg (by decide)] at q95_8
          subst q95_8
          refine lv_if_ne (tgt := 103) hx hb dX7_correct_98 (by decide) (fun c => absurd (by decide) c) (fun _ => ?_)
          refine lv_iconst (v := 0) hx hb dX7_correct_101 (by decide) ?_
          exact wI_ret ((va_up I 0 4), S) hS hP hx hb hr hlocks dX7_correct_102 (Nat.le_of_ble_eq_true rfl) (Nat.le_of_ble_eq_true rfl) hQ (Or.inr ⟨by rw [hcode]; decide, by rw [hcode], rfl⟩)
    · refine lv_if_ne (tgt := 27) hx hb dX7_correct_20 (by decide) (fun c => absurd (by decide) c) (fun _ => ?_)
      refine lv_iconst (v := 2) hx hb dX7_correct_23 (by decide) ?_
      refine lv_goto (tgt := 28) hx hb dX7_correct_24 (by decide) ?_
      refine lv_istore (lv' := [(5, .int 2), (0, .ref (ad 0)), (1, .int x), (2, .int b), (3, .int d), (4, .int v)]) hx hb dX7_correct_28 hl (by decide) rfl (fun ls hl => ?_)
      refine lv_iload hx hb dX7_correct_30 (lv_at hl 0 rfl) ?_
      refine lv_if_ne (tgt := 53) hx hb dX7_correct_32 (by decide) (fun _ => ?_) (fun c => absurd c (by decide))
      refine lv_iconst (v := (-1)) hx hb dX7_correct_53 (by decide) ?_
      refine lv_istore (lv' := [(6, .int (-1)), (5, .int 2), (0, .ref (ad 0)), (1, .int x), (2, .int b), (3, .int d), (4, .int v)]) hx hb dX7_correct_54 hl (by decide) rfl (fun ls hl => ?_)
      refine lv_iload hx hb dX7_correct_56 (lv_at hl 1 rfl) ?_
      refine lv_if_ne (tgt := 88) hx hb dX7_correct_58 (by decide) (fun _ => ?_) (fun c => absurd c (by decide))
      refine lv_iload hx hb dX7_correct_88 (lv_at hl 1 rfl) ?_
      refine lv_istore (lv' := [(5, .int 2), (6, .int (-1)), (0, .ref (ad 0)), (1, .int x), (2, .int b), (3, .int d), (4, .int v)]) hx hb dX7_correct_90 hl (by decide) rfl (fun ls hl => ?_)
      have hcode : cfC I n x b d (mtN S (slM x b) d (d + 1) 62 k) = 2 := by unfold cfC; rw [if_pos b3_1, if_neg b17_2]
      refine lv_aload_n hx hb dX7_correct_92 rfl (lv_at hl 2 rfl) ?_
      refine lv_iload hx hb dX7_correct_93 (lv_at hl 0 rfl) ?_
      refine wI_call (va_runV (As := [.int 2]) (rest := []) ⟨hx, hb, hml, hown, hts⟩ (c_X7_goesOn l D cy ad I S H.size 2) (cw_X7_71 hts rfl rfl ⟨Nat.le_of_ble_eq_true rfl, Nat.le_of_ble_eq_true rfl⟩) (preVW (ci := 7) (q0 := 0) hK hP hD rfl rfl) rfl rfl hl.1 rfl (lv_room (Nat.le_of_ble_eq_true rfl)) dX7_correct_95 ⟨Nat.le_of_ble_eq_true rfl, Nat.le_of_ble_eq_true rfl⟩) hP hD hS hA [0, 1, 2, 3, 4, 5, 6, 7, 8, 9, 10, 11, 12, 13, 14, 15, 16] rfl [.inr 0, .inr 1, .inr 2, .inr 3, .inr 4, .inr 5, .inr 6, .inr 7, .inr 8, .inr 9, .inr 10, .inr 11, .inr 12, .inr 13, .inr 14, .inr 15, .inr 16] (by decide) (fun u => (wM cy ad (va_up I 0 2) S)) (fun _ => rfl) (fun _ => rfl) (fun r95_9 u95_9 H locs q95_9 hP hD hS hkp => ?_)
      have hP : va_P D clW (wM cy ad (va_up I 0 2) S) H := hP
      have hD : va_D A (wM cy ad (va_up I 0 2) S) := hD
      rw [if_neg (by decide)] at q95_9
      subst q95_9
      refine lv_if_ne (tgt := 103) hx hb dX7_correct_98 (by decide) (fun c => absurd (by decide) c) (fun _ => ?_)
      refine lv_iconst (v := 0) hx hb dX7_correct_101 (by decide) ?_
      exact wI_ret ((va_up I 0 2), S) hS hP hx hb hr hlocks dX7_correct_102 (Nat.le_of_ble_eq_true rfl) (Nat.le_of_ble_eq_true rfl) hQ (Or.inr ⟨by rw [hcode]; decide, by rw [hcode], rfl⟩)
  · refine lv_if_ne (tgt := 13) hx hb dX7_correct_6 (by decide) (fun c => absurd (by decide) c) (fun _ => ?_)
    refine lv_iconst (v := 1) hx hb dX7_correct_9 (by decide) ?_
    refine lv_goto (tgt := 28) hx hb dX7_correct_10 (by decide) ?_
    refine lv_istore (lv' := [(5, .int 1), (0, .ref (ad 0)), (1, .int x), (2, .int b), (3, .int d), (4, .int v)]) hx hb dX7_correct_28 hl (by decide) rfl (fun ls hl => ?_)
    refine lv_iload hx hb dX7_correct_30 (lv_at hl 0 rfl) ?_
    refine lv_if_ne (tgt := 53) hx hb dX7_correct_32 (by decide) (fun _ => ?_) (fun c => absurd c (by decide))
    refine lv_iconst (v := (-1)) hx hb dX7_correct_53 (by decide) ?_
    refine lv_istore (lv' := [(6, .int (-1)), (5, .int 1), (0, .ref (ad 0)), (1, .int x), (2, .int b), (3, .int d), (4, .int v)]) hx hb dX7_correct_54 hl (by decide) rfl (fun ls hl => ?_)
    refine lv_iload hx hb dX7_correct_56 (lv_at hl 1 rfl) ?_
    refine lv_if_ne (tgt := 88) hx hb dX7_correct_58 (by decide) (fun _ => ?_) (fun c => absurd c (by decide))
    refine lv_iload hx hb dX7_correct_88 (lv_at hl 1 rfl) ?_
    refine lv_istore (lv' := [(5, .int 1), (6, .int (-1)), (0, .ref (ad 0)), (1, .int x), (2, .int b), (3, .int d), (4, .int v)]) hx hb dX7_correct_90 hl (by decide) rfl (fun ls hl => ?_)
    have hcode : cfC I n x b d (mtN S (slM x b) d (d + 1) 62 k) = 1 := by unfold cfC; rw [if_neg b3_1]
    refine lv_aload_n hx hb dX7_correct_92 rfl (lv_at hl 2 rfl) ?_
    refine lv_iload hx hb dX7_correct_93 (lv_at hl 0 rfl) ?_
    refine wI_call (va_runV (As := [.int 1]) (rest := []) ⟨hx, hb, hml, hown, hts⟩ (c_X7_goesOn l D cy ad I S H.size 1) (cw_X7_71 hts rfl rfl ⟨Nat.le_of_ble_eq_true rfl, Nat.le_of_ble_eq_true rfl⟩) (preVW (ci := 7) (q0 := 0) hK hP hD rfl rfl) rfl rfl hl.1 rfl (lv_room (Nat.le_of_ble_eq_true rfl)) dX7_correct_95 ⟨Nat.le_of_ble_eq_true rfl, Nat.le_of_ble_eq_true rfl⟩) hP hD hS hA [0, 1, 2, 3, 4, 5, 6, 7, 8, 9, 10, 11, 12, 13, 14, 15, 16] rfl [.inr 0, .inr 1, .inr 2, .inr 3, .inr 4, .inr 5, .inr 6, .inr 7, .inr 8, .inr 9, .inr 10, .inr 11, .inr 12, .inr 13, .inr 14, .inr 15, .inr 16] (by decide) (fun u => (wM cy ad (va_up I 0 1) S)) (fun _ => rfl) (fun _ => rfl) (fun r95_10 u95_10 H locs q95_10 hP hD hS hkp => ?_)
    have hP : va_P D clW (wM cy ad (va_up I 0 1) S) H := hP
    have hD : va_D A (wM cy ad (va_up I 0 1) S) := hD
    rw [if_neg (by decide)] at q95_10
    subst q95_10
    refine lv_if_ne (tgt := 103) hx hb dX7_correct_98 (by decide) (fun c => absurd (by decide) c) (fun _ => ?_)
    refine lv_iconst (v := 0) hx hb dX7_correct_101 (by decide) ?_
    exact wI_ret ((va_up I 0 1), S) hS hP hx hb hr hlocks dX7_correct_102 (Nat.le_of_ble_eq_true rfl) (Nat.le_of_ble_eq_true rfl) hQ (Or.inr ⟨by rw [hcode]; decide, by rw [hcode], rfl⟩)
