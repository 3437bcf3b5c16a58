/-! acts: a telling, a purge -/
theorem cw_L_105 {R : Room} {s : State} {args : Array Value} {rm : Room} {mc ms : Nat} (hts : ∀ w ∈ wsL_law, w.before args s = true) (hrc : rm.cells = mc) (hrs : rm.slots = ms) (hR : rm.frames + 1 ≤ R.frames ∧ 8 + (2 + 11) + rm.locals ≤ R.locals) : CallB R s args RL 105 yL_low cL_low 2 (some .int) (Cond.code yL_low cL_low 2 (some .int) :: wsL_law) rm mc ms 2 ∧ (Cond.static yL_low).before args s = true := va_cwS 2 hts (gUS wm_114 wm_115 wm_104 wm_116) rfl hrc hrs (by decide +kernel) hR
theorem cw_L_118 {R : Room} {s : State} {args : Array Value} {rm : Room} {mc ms : Nat} (hts : ∀ w ∈ wsL_law, w.before args s = true) (hrc : rm.cells = mc) (hrs : rm.slots = ms) (hR : rm.frames + 1 ≤ R.frames ∧ 8 + (3 + 11) + rm.locals ≤ R.locals) : CallW R s args RL RX7 118 yX7_begin cX7_begin 3 none (Cond.code yX7_begin cX7_begin 3 none :: wsL_law) rm mc ms 2 := cwV 2 hts (gUV wm_131 wm_132 wm_133 wm_5 wm_134) rfl hrc hrs (by decide +kernel) hR
theorem cw_L_122 {R : Room} {s : State} {args : Array Value} {rm : Room} {mc ms : Nat} (hts : ∀ w ∈ wsL_law, w.before args s = true) (hrc : rm.cells = mc) (hrs : rm.slots = ms) (hR : rm.frames + 1 ≤ R.frames ∧ 8 + (8 + 11) + rm.locals ≤ R.locals) : CallW R s args RL RX7 122 yX7_close cX7_close 8 (some .int) (Cond.code yX7_close cX7_close 8 (some .int) :: wsL_law) rm mc ms 3 := cwV 3 hts (gUV wm_136 wm_137 wm_138 wm_5 wm_139) rfl hrc hrs (by decide +kernel) hR
theorem cw_L_131 {R : Room} {s : State} {args : Array Value} {rm : Room} {mc ms : Nat} (hts : ∀ w ∈ wsL_law, w.before args s = true) (hrc : rm.cells = mc) (hrs : rm.slots = ms) (hR : rm.frames + 1 ≤ R.frames ∧ 8 + (5 + 11) + rm.locals ≤ R.locals) : CallW R s args RL RX7 131 yX7_open cX7_open 5 none (Cond.code yX7_open cX7_open 5 none :: wsL_law) rm mc ms 4 := cwV 4 hts (gUV wm_234 wm_141 wm_142 wm_5 wm_143) rfl hrc hrs (by decide +kernel) hR
theorem cw_L_137 {R : Room} {s : State} {args : Array Value} {rm : Room} {mc ms : Nat} (hts : ∀ w ∈ wsL_law, w.before args s = true) (hrc : rm.cells = mc) (hrs : rm.slots = ms) (hR : rm.frames + 1 ≤ R.frames ∧ 8 + (2 + 11) + rm.locals ≤ R.locals) : CallW R s args RL RX6 137 yX6_purge cX6_purge 2 (some .int) (Cond.code yX6_purge cX6_purge 2 (some .int) :: wsL_law) rm mc ms 1 := cwV 1 hts (gUV wm_261 wm_262 wm_263 wm_2 wm_264) rfl hrc hrs (by decide +kernel) hR
theorem cw_L_140 {R : Room} {s : State} {args : Array Value} {rm : Room} {mc ms : Nat} (hts : ∀ w ∈ wsL_law, w.before args s = true) (hrc : rm.cells = mc) (hrs : rm.slots = ms) (hR : rm.frames + 1 ≤ R.frames ∧ 8 + (6 + 11) + rm.locals ≤ R.locals) : CallW R s args RL RX6 140 yX6_tell cX6_tell 6 (some .int) (Cond.code yX6_tell cX6_tell 6 (some .int) :: wsL_law) rm mc ms 5 := cwV 5 hts (gUV wm_281 wm_282 wm_283 wm_2 wm_284) rfl hrc hrs (by decide +kernel) hR
set_option maxHeartbeats 4000000 in
set_option maxRecDepth 100000 in
theorem c_L_acts_T (l : Launch) (hl0 : l.stackTraces = false) (D : va_G) (cy : Nat → ClassId) (ad bd : Nat → Nat) (n h sz : Nat) (v : Int32) (hn : n < 30) (hh : h ≤ n) (hv0 : v = 0) : Met l yL_acts (Cond.code yL_acts cL_acts 10 (some .boolean) :: wsL_law) ({ frames := 9, cells := 3, slots := 18, locals := 170 }) (va_Pc [.ref (ad 0), .ref (bd 0), .int v] (lgB D cy (wLF cy ad bd n h) sz)) (va_Qi (S := Unit) (fun r _ => r = 1) (fun _ t9 => va_P D clW (wLF cy ad bd (n + 1) h) t9.heap ∧ sz ≤ t9.heap.size) (va_A (wLF cy ad bd n h) sz)) 3 18 (va_A (wLF cy ad bd n h) sz) := by
  subst hv0
  refine enter (cc := cL_acts) (by decide) (Nat.le_of_ble_eq_true rfl) ?_
  intro p e s m below meth c hx hb hr hml hown hts hlocks hin hv Q hQ ls hl
  obtain ⟨hN, hsz, hP, hK, hD0, hE, hZ⟩ := hv
  subst hsz
  have hD := hD0.self (sz := s.heap.size)
  generalize hAe : va_A (wLF cy ad bd n h) s.heap.size = A at hD hQ hZ ⊢
  have hA : ∀ q : Nat, s.heap.size ≤ q → A q := fun q h => by rw [← hAe]; exact Or.inr h
  have hS : va_S A s.heap s.heap [] := va_S.rf
  have hciv := fam_CIv (n := n) (h := h) (by omega) hh
  have hown : s.vm.findClass RL = some m.cls := hown
  have hl : lv_has ls 10 [(0, .ref (ad 0)), (1, .ref (bd 0)), (2, .int 0)] := hl
  suffices K_ : ∀ (H : Heap) (locs : List Loc), va_P D clW (wLF cy ad bd n h) H → va_S A s.heap H locs → W p l e ({ frames := 9, cells := 3, slots := 18, locals := 170 }) s m ([.ref (ad 0), .ref (bd 0), .int 0] : List Value).toArray below meth c H locs 0 0 Q (F0 m 0 ls []) from K_ _ _ hP hS
  clear hP hS
  intro H locs hP hS
  refine lv_iload_n hx hb dL_acts_0 rfl (lv_at hl 2 rfl) ?_
  refine lv_iconst (v := 3) hx hb dL_acts_1 (by decide) ?_
  refine lv_ishr hx hb dL_acts_2 ?_
  refine top_eq (y := 0) (by decide) ?_
  refine lv_bipush (v := 9) hx hb dL_acts_3 (by decide) ?_
  refine rI_call (va_runS (As := [.int 0, .int 9]) (rest := []) ⟨hx, hb, hml, hown, hts⟩ (c_L_low l 0 9 (by decide)) (cw_L_105 hts rfl rfl ⟨Nat.le_of_ble_eq_true rfl, Nat.le_of_ble_eq_true rfl⟩) preS0 rfl rfl hl.1 rfl (lv_room (Nat.le_of_ble_eq_true rfl)) dL_acts_5 ⟨(show 0 + 0 ≤ 3 by omega), (show 0 + 0 ≤ 18 by omega)⟩) (fun r hr_ => ?_)
  refine top_eq (y := 0) (hr_.trans (by decide)) ?_
  refine lv_istore_n (lv' := [(3, .int 0), (0, .ref (ad 0)), (1, .ref (bd 0)), (2, .int 0)]) hx hb dL_acts_8 rfl hl (by decide) rfl (fun ls hl => ?_)
  refine lv_iload_n hx hb dL_acts_9 rfl (lv_at hl 3 rfl) ?_
  refine lv_bipush (v := 7) hx hb dL_acts_10 (by decide) ?_
  refine lv_ishr hx hb dL_acts_12 ?_
  refine top_eq (y := 0) (by decide) ?_
  refine lv_bipush (v := 99) hx hb dL_acts_13 (by decide) ?_
  refine rI_call (va_runS (As := [.int 0, .int 99]) (rest := []) ⟨hx, hb, hml, hown, hts⟩ (c_L_low l 0 99 (by decide)) (cw_L_105 hts rfl rfl ⟨Nat.le_of_ble_eq_true rfl, Nat.le_of_ble_eq_true rfl⟩) preS0 rfl rfl hl.1 rfl (lv_room (Nat.le_of_ble_eq_true rfl)) dL_acts_15 ⟨(show 0 + 0 ≤ 3 by omega), (show 0 + 0 ≤ 18 by omega)⟩) (fun r hr_ => ?_)
  refine top_eq (y := 0) (hr_.trans (by decide)) ?_
  refine lv_istore (lv' := [(4, .int 0), (3, .int 0), (0, .ref (ad 0)), (1, .ref (bd 0)), (2, .int 0)]) hx hb dL_acts_18 hl (by decide) rfl (fun ls hl => ?_)
  refine lv_iload hx hb dL_acts_20 (lv_at hl 0 rfl) ?_
  refine lv_iconst (v := 1) hx hb dL_acts_22 (by decide) ?_
  refine lv_iadd hx hb dL_acts_23 ?_
  refine top_eq (y := 1) (by decide) ?_
  refine lv_iload_n hx hb dL_acts_24 rfl (lv_at hl 4 rfl) ?_
  refine lv_bipush (v := 13) hx hb dL_acts_25 (by decide) ?_
  refine lv_ishr hx hb dL_acts_27 ?_
  refine top_eq (y := 0) (by decide) ?_
  refine lv_bipush (v := 50) hx hb dL_acts_28 (by decide) ?_
  refine lv_bipush (v := 100) hx hb dL_acts_30 (by decide) ?_
  refine lv_iload hx hb dL_acts_32 (lv_at hl 0 rfl) ?_
  refine lv_isub hx hb dL_acts_34 ?_
  refine top_eq (y := 100) (by decide) ?_
  refine va_mmin hx hb (hml.trans hl.1.symm) hown (hts _ wm_110) (hts _ wm_111) (hts _ wm_112) (hts _ wm_113) (Nat.le_of_ble_eq_true rfl) (Nat.le_of_ble_eq_true rfl) (Nat.le_of_ble_eq_true rfl) (Nat.le_of_ble_eq_true rfl) dL_acts_35 ?_
  refine top_eq (y := 50) (by decide) ?_
  refine rI_call (va_runS (As := [.int 0, .int 50]) (rest := [.int 1]) ⟨hx, hb, hml, hown, hts⟩ (c_L_low l 0 50 (by decide)) (cw_L_105 hts rfl rfl ⟨Nat.le_of_ble_eq_true rfl, Nat.le_of_ble_eq_true rfl⟩) preS0 rfl rfl hl.1 rfl (lv_room (Nat.le_of_ble_eq_true rfl)) dL_acts_38 ⟨(show 0 + 0 ≤ 3 by omega), (show 0 + 0 ≤ 18 by omega)⟩) (fun r hr_ => ?_)
  refine top_eq (y := 0) (hr_.trans (by decide)) ?_
  refine lv_iadd hx hb dL_acts_41 ?_
  refine top_eq (y := 1) (by decide) ?_
  refine lv_istore (lv' := [(5, .int 1), (4, .int 0), (3, .int 0), (0, .ref (ad 0)), (1, .ref (bd 0)), (2, .int 0)]) hx hb dL_acts_42 hl (by decide) rfl (fun ls hl => ?_)
  refine lv_iload_n hx hb dL_acts_44 rfl (lv_at hl 5 rfl) ?_
  refine lv_bipush (v := 8) hx hb dL_acts_45 (by decide) ?_
  refine rI_call (va_runS (As := [.int 0, .int 8]) (rest := []) ⟨hx, hb, hml, hown, hts⟩ (c_L_low l 0 8 (by decide)) (cw_L_105 hts rfl rfl ⟨Nat.le_of_ble_eq_true rfl, Nat.le_of_ble_eq_true rfl⟩) preS0 rfl rfl hl.1 rfl (lv_room (Nat.le_of_ble_eq_true rfl)) dL_acts_47 ⟨(show 0 + 0 ≤ 3 by omega), (show 0 + 0 ≤ 18 by omega)⟩) (fun r hr_ => ?_)
  refine top_eq (y := 0) (hr_.trans (by decide)) ?_
  refine lv_tableOut (tgt := 412) hx hb dL_acts_50 (by decide) (by decide) ?_
  refine lv_aload_n hx hb dL_acts_412 rfl (lv_at hl 4 rfl) ?_
  refine lv_bipush (v := 116) hx hb dL_acts_413 (by decide) ?_
  refine lv_iload_n hx hb dL_acts_415 rfl (lv_at hl 2 rfl) ?_
  refine lv_iconst (v := 3) hx hb dL_acts_416 (by decide) ?_
  refine lv_idiv hx hb dL_acts_417 (by decide) ?_
  refine top_eq (y := 0) (by decide) ?_
  have hPb : va_P D clW ((wC cy ad (FI n h) (FS n)) ++ ((wM cy bd (GJ n h) (GT n h)) ++ [])) H := hP
  have hDb : va_D A ((wC cy ad (FI n h) (FS n)) ++ ((wM cy bd (GJ n h) (GT n h)) ++ [])) := hD
  refine bwV_call (va_runV (As := [.int 116, .int 0]) (rest := []) ⟨hx, hb, hml, hown, hts⟩ (c_X7_begin l D cy bd (GJ n h) (GT n h) H.size 116 0 n rfl (by omega) rfl) (cw_L_118 hts rfl rfl ⟨Nat.le_of_ble_eq_true rfl, Nat.le_of_ble_eq_true rfl⟩) (preVW (ci := 7) (q0 := 0) hK (blkY hPb) (blkYD hDb) rfl rfl) rfl rfl hl.1 rfl (lv_room (Nat.le_of_ble_eq_true rfl)) dL_acts_418 ⟨(show 0 + 0 ≤ 3 by omega), (show 0 + 0 ≤ 18 by omega)⟩) hPb hDb hS hA (fun _ => rfl) (fun u H1 locs1 hp_ hP hD hS => ?_)
  have hP : va_P D clW ((wC cy ad (FI n h) (FS n)) ++ ((wM cy bd (bJ1 n h) (bT1 n h)) ++ [])) H1 := hP
  have hD : va_D A ((wC cy ad (FI n h) (FS n)) ++ ((wM cy bd (bJ1 n h) (bT1 n h)) ++ [])) := hD
  refine lv_aload_n hx hb dL_acts_421 rfl (lv_at hl 4 rfl) ?_
  refine lv_iload_n hx hb dL_acts_422 rfl (lv_at hl 2 rfl) ?_
  refine lv_iload hx hb dL_acts_423 (lv_at hl 1 rfl) ?_
  refine lv_iload hx hb dL_acts_425 (lv_at hl 0 rfl) ?_
  have hb9 : ∀ i : Nat, i < n → (hbP (bT1 n h) 0 0 1 i ↔ i + 1 = n) := fun i hi => hb_f (h := h) hi (by omega) rfl rfl rfl rfl
  have hPb : va_P D clW ((wC cy ad (FI n h) (FS n)) ++ ((wM cy bd (bJ1 n h) (bT1 n h)) ++ [])) H1 := hP
  have hDb : va_D A ((wC cy ad (FI n h) (FS n)) ++ ((wM cy bd (bJ1 n h) (bT1 n h)) ++ [])) := hD
  refine bwI_call (va_runV (As := [.int 0, .int 0, .int 1]) (rest := []) ⟨hx, hb, hml, hown, hts⟩ (c_X7_close l D cy bd (bJ1 n h) (bT1 n h) H1.size 0 0 1 n rfl (by omega) 0 (by omega) (fun i _ => rfl) (fun i hi q => by have := (hb9 i (by omega)).mp q; omega) (fun hi => (hb9 (n - 1) (by omega)).mpr (by omega)) (by decide) (fun i hi => by rw [show bT1 n h 4 i = fTo n i from rfl, fTo_lt hi]; exact Int32.le_refl _)) (cw_L_122 hts rfl rfl ⟨Nat.le_of_ble_eq_true rfl, Nat.le_of_ble_eq_true rfl⟩) (preVW (ci := 7) (q0 := 0) hK (blkY hPb) (blkYD hDb) rfl rfl) rfl rfl hl.1 rfl (lv_room (Nat.le_of_ble_eq_true rfl)) dL_acts_427 ⟨(show 0 + 0 + 0 ≤ 3 by omega), (show 0 + 0 + 0 ≤ 18 by omega)⟩) hPb hDb hS hA (fun _ => rfl) (fun rc u H2 locs2 hrc_ hP hD hS => ?_)
  have hP : va_P D clW ((wC cy ad (FI n h) (FS n)) ++ ((wM cy bd (bJ1 n h) (bT2 n h)) ++ [])) H2 := hP
  have hD : va_D A ((wC cy ad (FI n h) (FS n)) ++ ((wM cy bd (bJ1 n h) (bT2 n h)) ++ [])) := hD
  have hcl : rc = if 0 < n then 1 else 0 := hrc_
  refine lv_istore (lv' := [(6, .int rc), (5, .int 1), (4, .int 0), (3, .int 0), (0, .ref (ad 0)), (1, .ref (bd 0)), (2, .int 0)]) hx hb dL_acts_430 hl (by decide) rfl (fun ls hl => ?_)
  refine lv_aload_n hx hb dL_acts_432 rfl (lv_at hl 5 rfl) ?_
  refine lv_iload_n hx hb dL_acts_433 rfl (lv_at hl 3 rfl) ?_
  refine lv_iload_n hx hb dL_acts_434 rfl (lv_at hl 6 rfl) ?_
  refine lv_bipush (v := 15) hx hb dL_acts_435 (by decide) ?_
  refine lv_ishr hx hb dL_acts_437 ?_
  refine top_eq (y := 0) (by decide) ?_
  refine lv_bipush (v := 9) hx hb dL_acts_438 (by decide) ?_
  refine rI_call (va_runS (As := [.int 0, .int 9]) (rest := [.int 0, .ref (bd 0)]) ⟨hx, hb, hml, hown, hts⟩ (c_L_low l 0 9 (by decide)) (cw_L_105 hts rfl rfl ⟨Nat.le_of_ble_eq_true rfl, Nat.le_of_ble_eq_true rfl⟩) preS0 rfl rfl hl.1 rfl (lv_room (Nat.le_of_ble_eq_true rfl)) dL_acts_440 ⟨(show 0 + 0 + 0 + 0 ≤ 3 by omega), (show 0 + 0 + 0 + 0 ≤ 18 by omega)⟩) (fun r hr_ => ?_)
  refine top_eq (y := 0) (hr_.trans (by decide)) ?_
  refine lv_iload hx hb dL_acts_443 (lv_at hl 2 rfl) ?_
  refine lv_iload hx hb dL_acts_445 (lv_at hl 1 rfl) ?_
  have hPb : va_P D clW ((wC cy ad (FI n h) (FS n)) ++ ((wM cy bd (bJ1 n h) (bT2 n h)) ++ [])) H2 := hP
  have hDb : va_D A ((wC cy ad (FI n h) (FS n)) ++ ((wM cy bd (bJ1 n h) (bT2 n h)) ++ [])) := hD
  refine bwV_call (va_runV (As := [.int 0, .int 0, .int 0, .int 1]) (rest := []) ⟨hx, hb, hml, hown, hts⟩ (c_X7_open l D cy bd (bJ1 n h) (bT2 n h) H2.size 0 0 0 1 n rfl (by omega)) (cw_L_131 hts rfl rfl ⟨Nat.le_of_ble_eq_true rfl, Nat.le_of_ble_eq_true rfl⟩) (preVW (ci := 7) (q0 := 0) hK (blkY hPb) (blkYD hDb) rfl rfl) rfl rfl hl.1 rfl (lv_room (Nat.le_of_ble_eq_true rfl)) dL_acts_447 ⟨(show 0 + 0 + 0 + 0 ≤ 3 by omega), (show 0 + 0 + 0 + 0 ≤ 18 by omega)⟩) hPb hDb hS hA (fun _ => rfl) (fun u H3 locs3 hp_ hP hD hS => ?_)
  have hP : va_P D clW ((wC cy ad (FI n h) (FS n)) ++ ((wM cy bd (GJ (n + 1) h) (GT (n + 1) h)) ++ [])) H3 := by
    rw [← bk_J, ← bk_T]; exact hP
  have hD : va_D A ((wC cy ad (FI n h) (FS n)) ++ ((wM cy bd (GJ (n + 1) h) (GT (n + 1) h)) ++ [])) := hD.addr rfl
  refine lv_aload_n hx hb dL_acts_450 rfl (lv_at hl 4 rfl) ?_
  refine lv_iload_n hx hb dL_acts_451 rfl (lv_at hl 3 rfl) ?_
  refine lv_iconst (v := 3) hx hb dL_acts_452 (by decide) ?_
  refine lv_idiv hx hb dL_acts_453 (by decide) ?_
  refine top_eq (y := 0) (by decide) ?_
  refine lv_iload_n hx hb dL_acts_454 rfl (lv_at hl 3 rfl) ?_
  refine lv_iconst (v := 3) hx hb dL_acts_455 (by decide) ?_
  refine lv_irem hx hb dL_acts_456 (by decide) ?_
  refine top_eq (y := 0) (by decide) ?_
  refine lv_iload_n hx hb dL_acts_457 rfl (lv_at hl 6 rfl) ?_
  refine lv_bipush (v := 15) hx hb dL_acts_458 (by decide) ?_
  refine lv_ishr hx hb dL_acts_460 ?_
  refine top_eq (y := 0) (by decide) ?_
  refine lv_bipush (v := 9) hx hb dL_acts_461 (by decide) ?_
  refine rI_call (va_runS (As := [.int 0, .int 9]) (rest := [.int 0, .int 0, .ref (ad 0)]) ⟨hx, hb, hml, hown, hts⟩ (c_L_low l 0 9 (by decide)) (cw_L_105 hts rfl rfl ⟨Nat.le_of_ble_eq_true rfl, Nat.le_of_ble_eq_true rfl⟩) preS0 rfl rfl hl.1 rfl (lv_room (Nat.le_of_ble_eq_true rfl)) dL_acts_463 ⟨(show 0 + 0 + 0 + 0 + 0 ≤ 3 by omega), (show 0 + 0 + 0 + 0 + 0 ≤ 18 by omega)⟩) (fun r hr_ => ?_)
  refine top_eq (y := 0) (hr_.trans (by decide)) ?_
  refine lv_iload hx hb dL_acts_466 (lv_at hl 2 rfl) ?_
  refine lv_iload hx hb dL_acts_468 (lv_at hl 1 rfl) ?_
  have hPc : va_P D clW ([] ++ ((wC cy ad (FI n h) (FS n)) ++ ((wM cy bd (GJ (n + 1) h) (GT (n + 1) h)) ++ []))) H3 := hP
  have hDc : va_D A ([] ++ ((wC cy ad (FI n h) (FS n)) ++ ((wM cy bd (GJ (n + 1) h) (GT (n + 1) h)) ++ []))) := hD
  have hpl : plP (FI n h 0) 0 0 := ⟨⟨by decide, by show (0 : Int32) < 3; decide⟩, by decide, by decide⟩
  have hdd : ddP 0 1 := ⟨by decide, by decide, by decide⟩
  have hft : FI n h 1 < 60 := nd_lt (a := n) (b := 60) (by omega) (by omega) (by omega)
  refine xcI_call (vx_runV (As := [.int 0, .int 0, .int 0, .int 0, .int 1]) (rest := []) ⟨hx, hb, hml, hown, hts⟩ (c_X6_tell l hl0 D cy ad (FI n h) (FS n) H3.size 0 0 0 0 1 n n h frZ (toN n) frZ (otN n) hciv) (cw_L_140 hts rfl rfl ⟨Nat.le_of_ble_eq_true rfl, Nat.le_of_ble_eq_true rfl⟩) (preVWX (ci := 6) (q0 := 0) hK hE (hZ.now hS) (blkF hDc hS hA) (blkY hPc) (blkYD hDc) rfl rfl) rfl rfl hl.1 rfl (lv_room (Nat.le_of_ble_eq_true rfl)) dL_acts_470 ⟨(show 0 + 0 + 0 + 0 + 3 ≤ 3 by omega), (show 0 + 0 + 0 + 0 + 18 ≤ 18 by omega)⟩) hPc hDc hS hA (fun _ => rfl) (fun _ => rfl) (fun E ce q9 ux H9 locs9 hpx hP hD hS hce hcv hcl => ?_) (fun r9 un H4 locs4 hr9 hP hD hS => ?_)
  · exact absurd hpx.1 (fun q => q.elim (fun q => q.2 hpl) (fun q => q.elim (fun q => q.2.2 hdd) (fun q => q.2.2.2 hft)))
  obtain ⟨I2, S2, k2⟩ := un
  obtain ⟨q1, q2, q3, q4, q5, q6, -⟩ := hr9
  dsimp only at q1 q2 q3 q4 q5 q6 hP hD
  obtain ⟨rfl, q8⟩ := clear_f (by omega) q2
  have q9 : k2 = n := (nt_eq (a := n) (b := k2) (by omega) (by omega) q5).symm
  subst q9
  have eI : va_up (va_up (va_up (FI k2 h) 1 (nI (k2 + 1))) 2 (nI (k2 + 1))) 3 (addI (FI k2 h) k2 3) = FI (k2 + 1) h := tell_I
  rw [eI, tell_S q8] at hP hD
  have hP : va_P D clW (wLF cy ad bd (k2 + 1) h) H4 := hP
  have hq : r9 = rc := q1.trans ((cn_f (by omega) (Nat.le_refl k2)).trans (by rw [hcl]; by_cases q : 0 < k2 <;> simp [q]))
  refine lv_iload hx hb dL_acts_473 (lv_at hl 0 rfl) ?_
  refine lv_icmp_ne (tgt := 482) hx hb dL_acts_475 (by decide) (fun c => absurd hq c) (fun _ => ?_)
  refine lv_iconst (v := 1) hx hb dL_acts_478 (by decide) ?_
  refine lv_goto (tgt := 483) hx hb dL_acts_479 (by decide) ?_
  exact gZ_ret () hS (fun t ht => ⟨by rw [ht]; exact hP, by rw [ht]; exact hS.1⟩) hx hb hr hlocks dL_acts_483 narZ1 (by omega) (by omega) hQ rfl
set_option maxHeartbeats 4000000 in
set_option maxRecDepth 100000 in
theorem c_L_acts_P (l : Launch) (hl0 : l.stackTraces = false) (D : va_G) (cy : Nat → ClassId) (ad bd : Nat → Nat) (n h q sz : Nat) (v : Int32) (hn : n ≤ 30) (hh : h ≤ n) (hq1 : h ≤ q) (hq2 : q ≤ n) (hv1 : lowI (v >>> (7 &&& 31)) 99 = 0) (hv2 : lowI v 8 = 7) (hv3 : lowI (v >>> (3 &&& 31)) (nI (n - h + 1)) = nI (q - h)) : Met l yL_acts (Cond.code yL_acts cL_acts 10 (some .boolean) :: wsL_law) ({ frames := 9, cells := 3, slots := 18, locals := 170 }) (va_Pc [.ref (ad 0), .ref (bd 0), .int v] (lgB D cy (wLF cy ad bd n h) sz)) (va_Qi (S := Unit) (fun r _ => r = 1) (fun _ t9 => va_P D clW (wLF cy ad bd n q) t9.heap ∧ sz ≤ t9.heap.size) (va_A (wLF cy ad bd n h) sz)) 3 18 (va_A (wLF cy ad bd n h) sz) := by
  refine enter (cc := cL_acts) (by decide) (Nat.le_of_ble_eq_true rfl) ?_
  intro p e s m below meth c hx hb hr hml hown hts hlocks hin hv Q hQ ls hl
  obtain ⟨hN, hsz, hP, hK, hD0, hE, hZ⟩ := hv
  subst hsz
  have hD := hD0.self (sz := s.heap.size)
  generalize hAe : va_A (wLF cy ad bd n h) s.heap.size = A at hD hQ hZ ⊢
  have hA : ∀ q : Nat, s.heap.size ≤ q → A q := fun q h => by rw [← hAe]; exact Or.inr h
  have hS : va_S A s.heap s.heap [] := va_S.rf
  have hciv := fam_CIv (n := n) (h := h) (by omega) hh
  have hown : s.vm.findClass RL = some m.cls := hown
  have hl : lv_has ls 10 [(0, .ref (ad 0)), (1, .ref (bd 0)), (2, .int v)] := hl
  suffices K_ : ∀ (H : Heap) (locs : List Loc), va_P D clW (wLF cy ad bd n h) H → va_S A s.heap H locs → W p l e ({ frames := 9, cells := 3, slots := 18, locals := 170 }) s m ([.ref (ad 0), .ref (bd 0), .int v] : List Value).toArray below meth c H locs 0 0 Q (F0 m 0 ls []) from K_ _ _ hP hS
  clear hP hS
  intro H locs hP hS
  refine lv_iload_n hx hb dL_acts_0 rfl (lv_at hl 2 rfl) ?_
  refine lv_iconst (v := 3) hx hb dL_acts_1 (by decide) ?_
  refine lv_ishr hx hb dL_acts_2 ?_
  refine lv_bipush (v := 9) hx hb dL_acts_3 (by decide) ?_
  refine rI_call (va_runS (As := [.int (v >>> (3 &&& 31)), .int 9]) (rest := []) ⟨hx, hb, hml, hown, hts⟩ (c_L_low l (v >>> (3 &&& 31)) 9 (by decide)) (cw_L_105 hts rfl rfl ⟨Nat.le_of_ble_eq_true rfl, Nat.le_of_ble_eq_true rfl⟩) preS0 rfl rfl hl.1 rfl (lv_room (Nat.le_of_ble_eq_true rfl)) dL_acts_5 ⟨(show 0 + 0 ≤ 3 by omega), (show 0 + 0 ≤ 18 by omega)⟩) (fun r hr_ => ?_)
  refine top_eq (y := lowI (v >>> (3 &&& 31)) 9) (hr_.trans rfl) ?_
  refine lv_istore_n (lv' := [(3, .int (lowI (v >>> (3 &&& 31)) 9)), (0, .ref (ad 0)), (1, .ref (bd 0)), (2, .int v)]) hx hb dL_acts_8 rfl hl (by decide) rfl (fun ls hl => ?_)
  refine lv_iload_n hx hb dL_acts_9 rfl (lv_at hl 3 rfl) ?_
  refine lv_bipush (v := 7) hx hb dL_acts_10 (by decide) ?_
  refine lv_ishr hx hb dL_acts_12 ?_
  refine lv_bipush (v := 99) hx hb dL_acts_13 (by decide) ?_
  refine rI_call (va_runS (As := [.int (v >>> (7 &&& 31)), .int 99]) (rest := []) ⟨hx, hb, hml, hown, hts⟩ (c_L_low l (v >>> (7 &&& 31)) 99 (by decide)) (cw_L_105 hts rfl rfl ⟨Nat.le_of_ble_eq_true rfl, Nat.le_of_ble_eq_true rfl⟩) preS0 rfl rfl hl.1 rfl (lv_room (Nat.le_of_ble_eq_true rfl)) dL_acts_15 ⟨(show 0 + 0 ≤ 3 by omega), (show 0 + 0 ≤ 18 by omega)⟩) (fun r hr_ => ?_)
  refine top_eq (y := 0) (hr_.trans hv1) ?_
  refine lv_istore (lv' := [(4, .int 0), (3, .int (lowI (v >>> (3 &&& 31)) 9)), (0, .ref (ad 0)), (1, .ref (bd 0)), (2, .int v)]) hx hb dL_acts_18 hl (by decide) rfl (fun ls hl => ?_)
  refine lv_iload hx hb dL_acts_20 (lv_at hl 0 rfl) ?_
  refine lv_iconst (v := 1) hx hb dL_acts_22 (by decide) ?_
  refine lv_iadd hx hb dL_acts_23 ?_
  refine top_eq (y := 1) (by decide) ?_
  refine lv_iload_n hx hb dL_acts_24 rfl (lv_at hl 4 rfl) ?_
  refine lv_bipush (v := 13) hx hb dL_acts_25 (by decide) ?_
  refine lv_ishr hx hb dL_acts_27 ?_
  refine lv_bipush (v := 50) hx hb dL_acts_28 (by decide) ?_
  refine lv_bipush (v := 100) hx hb dL_acts_30 (by decide) ?_
  refine lv_iload hx hb dL_acts_32 (lv_at hl 0 rfl) ?_
  refine lv_isub hx hb dL_acts_34 ?_
  refine top_eq (y := 100) (by decide) ?_
  refine va_mmin hx hb (hml.trans hl.1.symm) hown (hts _ wm_110) (hts _ wm_111) (hts _ wm_112) (hts _ wm_113) (Nat.le_of_ble_eq_true rfl) (Nat.le_of_ble_eq_true rfl) (Nat.le_of_ble_eq_true rfl) (Nat.le_of_ble_eq_true rfl) dL_acts_35 ?_
  refine top_eq (y := 50) (by decide) ?_
  refine rI_call (va_runS (As := [.int (v >>> (13 &&& 31)), .int 50]) (rest := [.int 1]) ⟨hx, hb, hml, hown, hts⟩ (c_L_low l (v >>> (13 &&& 31)) 50 (by decide)) (cw_L_105 hts rfl rfl ⟨Nat.le_of_ble_eq_true rfl, Nat.le_of_ble_eq_true rfl⟩) preS0 rfl rfl hl.1 rfl (lv_room (Nat.le_of_ble_eq_true rfl)) dL_acts_38 ⟨(show 0 + 0 ≤ 3 by omega), (show 0 + 0 ≤ 18 by omega)⟩) (fun r hr_ => ?_)
  refine top_eq (y := lowI (v >>> (13 &&& 31)) 50) (hr_.trans rfl) ?_
  refine lv_iadd hx hb dL_acts_41 ?_
  refine top_eq (y := (1 : Int32) + lowI (v >>> (13 &&& 31)) 50) rfl ?_
  refine lv_istore (lv' := [(5, .int ((1 : Int32) + lowI (v >>> (13 &&& 31)) 50)), (4, .int 0), (3, .int (lowI (v >>> (3 &&& 31)) 9)), (0, .ref (ad 0)), (1, .ref (bd 0)), (2, .int v)]) hx hb dL_acts_42 hl (by decide) rfl (fun ls hl => ?_)
  refine lv_iload_n hx hb dL_acts_44 rfl (lv_at hl 5 rfl) ?_
  refine lv_bipush (v := 8) hx hb dL_acts_45 (by decide) ?_
  refine rI_call (va_runS (As := [.int v, .int 8]) (rest := []) ⟨hx, hb, hml, hown, hts⟩ (c_L_low l v 8 (by decide)) (cw_L_105 hts rfl rfl ⟨Nat.le_of_ble_eq_true rfl, Nat.le_of_ble_eq_true rfl⟩) preS0 rfl rfl hl.1 rfl (lv_room (Nat.le_of_ble_eq_true rfl)) dL_acts_47 ⟨(show 0 + 0 ≤ 3 by omega), (show 0 + 0 ≤ 18 by omega)⟩) (fun r hr_ => ?_)
  refine top_eq (y := 7) (hr_.trans hv2) ?_
  refine lv_tableIn (off := 213) (tgt := 263) hx hb dL_acts_50 (by decide) (by decide) (by decide) (by decide) ?_
  refine lv_aload_n hx hb dL_acts_263 rfl (lv_at hl 4 rfl) ?_
  refine gN_89 hx hb hts hown hN hK hP 29 rfl (v := .int (nI h)) rfl dL_acts_264 ?_
  refine lv_iload_n hx hb dL_acts_267 rfl (lv_at hl 5 rfl) ?_
  refine lv_iconst (v := 3) hx hb dL_acts_268 (by decide) ?_
  refine lv_ishr hx hb dL_acts_269 ?_
  refine lv_aload_n hx hb dL_acts_270 rfl (lv_at hl 4 rfl) ?_
  refine gN_84 hx hb hts hown hN hK hP 29 rfl (v := .int (nI n)) rfl dL_acts_271 ?_
  refine lv_aload_n hx hb dL_acts_274 rfl (lv_at hl 4 rfl) ?_
  refine gN_89 hx hb hts hown hN hK hP 29 rfl (v := .int (nI h)) rfl dL_acts_275 ?_
  refine lv_isub hx hb dL_acts_278 ?_
  refine top_eq (y := nI (n - h)) (nI_subI hh) ?_
  refine lv_iconst (v := 1) hx hb dL_acts_279 (by decide) ?_
  refine lv_iadd hx hb dL_acts_280 ?_
  refine top_eq (y := nI ((n - h) + 1)) (nI_add (n - h) 1) ?_
  refine rI_call (va_runS (As := [.int (v >>> (3 &&& 31)), .int (nI ((n - h) + 1))]) (rest := [.int (nI h)]) ⟨hx, hb, hml, hown, hts⟩ (c_L_low l (v >>> (3 &&& 31)) (nI ((n - h) + 1)) (nI_ne0 (by omega) (by omega))) (cw_L_105 hts rfl rfl ⟨Nat.le_of_ble_eq_true rfl, Nat.le_of_ble_eq_true rfl⟩) preS0 rfl rfl hl.1 rfl (lv_room (Nat.le_of_ble_eq_true rfl)) dL_acts_281 ⟨(show 0 + 0 ≤ 3 by omega), (show 0 + 0 ≤ 18 by omega)⟩) (fun r hr_ => ?_)
  refine top_eq (y := nI (q - h)) (hr_.trans hv3) ?_
  refine lv_iadd hx hb dL_acts_284 ?_
  refine top_eq (y := nI q) (by rw [nI_add, show h + (q - h) = q by omega]) ?_
  refine lv_istore (lv' := [(6, .int (nI q)), (5, .int ((1 : Int32) + lowI (v >>> (13 &&& 31)) 50)), (4, .int 0), (3, .int (lowI (v >>> (3 &&& 31)) 9)), (0, .ref (ad 0)), (1, .ref (bd 0)), (2, .int v)]) hx hb dL_acts_285 hl (by decide) rfl (fun ls hl => ?_)
  refine lv_iconst (v := 0) hx hb dL_acts_287 (by decide) ?_
  refine lv_istore (lv' := [(7, .int 0), (6, .int (nI q)), (5, .int ((1 : Int32) + lowI (v >>> (13 &&& 31)) 50)), (4, .int 0), (3, .int (lowI (v >>> (3 &&& 31)) 9)), (0, .ref (ad 0)), (1, .ref (bd 0)), (2, .int v)]) hx hb dL_acts_288 hl (by decide) rfl (fun ls hl => ?_)
  refine lv_iconst (v := 0) hx hb dL_acts_290 (by decide) ?_
  refine lv_istore (lv' := [(8, .int 0), (7, .int 0), (6, .int (nI q)), (5, .int ((1 : Int32) + lowI (v >>> (13 &&& 31)) 50)), (4, .int 0), (3, .int (lowI (v >>> (3 &&& 31)) 9)), (0, .ref (ad 0)), (1, .ref (bd 0)), (2, .int v)]) hx hb dL_acts_291 hl (by decide) rfl (fun ls hl => ?_)
  have L293 : ∀ (f i : Nat), i ≤ n → n + 1 ≤ i + f → ∀ (H : Heap) (locs : List Loc), va_P D clW (wC cy ad (FI n h) (FS n) ++ ((wM cy bd (GJ n h) (va_up (GT n h) 7 (gnR h q i))) ++ [])) H → va_D A (wC cy ad (FI n h) (FS n) ++ ((wM cy bd (GJ n h) (va_up (GT n h) 7 (gnR h q i))) ++ [])) → va_S A s.heap H locs → ∀ (ls : Array Slot), lv_has ls 10 [(8, .int (nI i)), (7, .int (nI (puN h q i))), (6, .int (nI q)), (0, .ref (ad 0)), (1, .ref (bd 0)), (2, .int v)] → W p l e ({ frames := 9, cells := 3, slots := 18, locals := 170 }) s m ([.ref (ad 0), .ref (bd 0), .int v] : List Value).toArray below meth c H locs 0 0 Q (F0 m 293 ls []) := by
    clear hl hP hS
    intro f
    induction f with
    | zero => intro i h1 h2; exact absurd h2 (by omega)
    | succ f ih =>
      intro i hin hf H locs hP hD hS ls hl
      refine lv_iload hx hb dL_acts_293 (lv_at hl 0 rfl) ?_
      refine lv_aload_n hx hb dL_acts_295 rfl (lv_at hl 4 rfl) ?_
      refine gN_30 hx hb hts hown hN hK hP 29 rfl (v := .int (nI n)) rfl dL_acts_296 ?_
      refine lv_icmp_ge (tgt := 389) hx hb dL_acts_299 (by decide) (fun c1 => ?_) (fun c1 => ?_)
      · have fi : n ≤ i := nt_le (a := n) (b := i) (by omega) (by omega) c1
        obtain rfl : i = n := by omega
        have e7 : va_up (GT i h) 7 (gnR h q i) = GT i q := by rw [gnR_n hq1 hq2]; exact pu_T
        rw [e7] at hP hD
        refine lv_aload_n hx hb dL_acts_389 rfl (lv_at hl 4 rfl) ?_
        refine lv_iload hx hb dL_acts_390 (lv_at hl 2 rfl) ?_
        refine pN_89 hx hb hts hown hN hK hP hD hS 29 rfl (Nat.le_of_ble_eq_true rfl) dL_acts_392 (fun H locs hP hD hS => ?_)
        have hPc : va_P D clW ([] ++ ((wC cy ad (FI i h) (FS i)) ++ ((wM cy bd (GJ i q) (GT i q)) ++ []))) H := hP
        have hDc : va_D A ([] ++ ((wC cy ad (FI i h) (FS i)) ++ ((wM cy bd (GJ i q) (GT i q)) ++ []))) := hD.addr rfl
        refine lv_aload_n hx hb dL_acts_395 rfl (lv_at hl 3 rfl) ?_
        refine lv_iload hx hb dL_acts_396 (lv_at hl 2 rfl) ?_
        have hk9 : kpP (FI i h 3) (nI q) ∧ nI q ≤ FI i h 1 := ⟨nd_le (a := h) (b := q) hq1 (by omega) (by omega), nd_le (a := q) (b := i) hq2 (by omega) (by omega)⟩
        refine xcI_call (vx_runV (As := [.int (nI q)]) (rest := []) ⟨hx, hb, hml, hown, hts⟩ (c_X6_purge l hl0 D cy ad (FI i h) (FS i) H.size (nI q) i i h frZ (toN i) frZ (otN i) hciv) (cw_L_137 hts rfl rfl ⟨Nat.le_of_ble_eq_true rfl, Nat.le_of_ble_eq_true rfl⟩) (preVWX (ci := 6) (q0 := 0) hK hE (hZ.now hS) (blkF hDc hS hA) (blkY hPc) (blkYD hDc) rfl rfl) rfl rfl hl.1 rfl (lv_room (Nat.le_of_ble_eq_true rfl)) dL_acts_398 ⟨(show 0 + 1 ≤ 3 by omega), (show 0 + 6 ≤ 18 by omega)⟩) hPc hDc hS hA (fun _ => rfl) (fun _ => rfl) (fun E ce q9 ux H9 locs9 hpx hP hD hS hce hcv hcl => absurd hk9 hpx.1.2) (fun r9 un H4 locs4 hr9 hP hD hS => ?_)
        rw [purge_I] at hP hD
        have hP : va_P D clW (wLF cy ad bd i q) H4 := hP
        have hq : r9 = nI (puN h q i) := hr9.1.trans (purge_r (by omega) hq1 hq2)
        refine lv_iload hx hb dL_acts_401 (lv_at hl 1 rfl) ?_
        refine lv_icmp_ne (tgt := 410) hx hb dL_acts_403 (by decide) (fun c => absurd hq c) (fun _ => ?_)
        refine lv_iconst (v := 1) hx hb dL_acts_406 (by decide) ?_
        refine lv_goto (tgt := 411) hx hb dL_acts_407 (by decide) ?_
        exact gZ_ret () hS (fun t ht => ⟨by rw [ht]; exact hP, by rw [ht]; exact hS.1⟩) hx hb hr hlocks dL_acts_411 narZ1 (by omega) (by omega) hQ rfl
      · have fi : i < n := nt_nle (a := n) (b := i) (by omega) (by omega) c1
        by_cases hg : i + 1 < h
        · refine lv_aload_n hx hb dL_acts_302 rfl (lv_at hl 4 rfl) ?_
          refine gN_36 hx hb hts hown hN hK hP 29 rfl (v := .ref (bd 7)) rfl dL_acts_303 ?_
          refine lv_iload hx hb dL_acts_306 (lv_at hl 0 rfl) ?_
          refine ald_Z (f := (gnR h q i)) hx hb hK hP 36 rfl (i := i) (by omega) (by decide) dL_acts_308 ?_
          refine top_eq (y := 1) ((gnR_at h q i).trans (if_pos hg)) ?_
          refine lv_if_ne (tgt := 338) hx hb dL_acts_309 (by decide) (fun _ => ?_) (fun c => absurd c (by decide))
          refine lv_iconst (v := 0) hx hb dL_acts_338 (by decide) ?_
          refine lv_istore (lv' := [(9, .int 0), (8, .int (nI i)), (7, .int (nI (puN h q i))), (6, .int (nI q)), (0, .ref (ad 0)), (1, .ref (bd 0)), (2, .int v)]) hx hb dL_acts_339 hl (by decide) rfl (fun ls hl => ?_)
          refine lv_iload hx hb dL_acts_341 (lv_at hl 2 rfl) ?_
          refine lv_iload hx hb dL_acts_343 (lv_at hl 0 rfl) ?_
          refine lv_if_eq (tgt := 352) hx hb dL_acts_345 (by decide) (fun _ => ?_) (fun c => absurd (by decide) c)
          refine lv_iconst (v := 0) hx hb dL_acts_352 (by decide) ?_
          refine lv_iadd hx hb dL_acts_353 ?_
          refine top_eq (y := nI (puN h q (i + 1))) (by rw [show puN h q (i + 1) = puN h q i by unfold puN; omega]; exact Int32.add_zero _) ?_
          refine lv_istore (lv' := [(7, .int (nI (puN h q (i + 1)))), (9, .int 0), (8, .int (nI i)), (6, .int (nI q)), (0, .ref (ad 0)), (1, .ref (bd 0)), (2, .int v)]) hx hb dL_acts_354 hl (by decide) rfl (fun ls hl => ?_)
          refine lv_aload_n hx hb dL_acts_356 rfl (lv_at hl 5 rfl) ?_
          refine gN_36 hx hb hts hown hN hK hP 29 rfl (v := .ref (bd 7)) rfl dL_acts_357 ?_
          refine lv_iload hx hb dL_acts_360 (lv_at hl 2 rfl) ?_
          refine lv_aload_n hx hb dL_acts_362 rfl (lv_at hl 5 rfl) ?_
          refine gN_36 hx hb hts hown hN hK hP 29 rfl (v := .ref (bd 7)) rfl dL_acts_363 ?_
          refine lv_iload hx hb dL_acts_366 (lv_at hl 2 rfl) ?_
          refine ald_Z (f := (gnR h q i)) hx hb hK hP 36 rfl (i := i) (by omega) (by decide) dL_acts_368 ?_
          refine top_eq (y := 1) ((gnR_at h q i).trans (if_pos hg)) ?_
          refine lv_if_ne (tgt := 377) hx hb dL_acts_369 (by decide) (fun _ => ?_) (fun c => absurd c (by decide))
          refine lv_iconst (v := 1) hx hb dL_acts_377 (by decide) ?_
          refine lv_goto (tgt := 382) hx hb dL_acts_378 (by decide) ?_
          refine ast_Z hx hb hK hP hD hS 36 rfl (i := i) (x := 1) (by omega) (by decide) rfl dL_acts_382 (fun H locs hP hD hS => ?_)
          have e8 : upd (gnR h q i) i 1 = gnR h q (i + 1) := by rw [show (1 : Int32) = fGn q i from (if_pos (by omega)).symm]; exact gnR_s h q i
          have hP : va_P D clW (wC cy ad (FI n h) (FS n) ++ ((wM cy bd (GJ n h) (va_up (GT n h) 7 (gnR h q (i + 1)))) ++ [])) H := by rw [← e8]; exact hP
          have hD : va_D A (wC cy ad (FI n h) (FS n) ++ ((wM cy bd (GJ n h) (va_up (GT n h) 7 (gnR h q (i + 1)))) ++ [])) := hD.addr rfl
          refine lv_iinc (v := (nI (i + 1))) (lv' := [(8, .int (nI (i + 1))), (7, .int (nI (puN h q (i + 1)))), (9, .int 0), (6, .int (nI q)), (0, .ref (ad 0)), (1, .ref (bd 0)), (2, .int v)]) hx hb dL_acts_383 hl (k := 2) rfl (nI_1 i) (by decide) rfl (fun ls hl => ?_)
          refine lv_goto (tgt := 293) hx hb dL_acts_386 (by decide) ?_
          exact ih (i + 1) (by omega) (by omega) H locs hP hD hS ls (lv_sub hl [0, 1, 3, 4, 5, 6] rfl)
        · refine lv_aload_n hx hb dL_acts_302 rfl (lv_at hl 4 rfl) ?_
          refine gN_36 hx hb hts hown hN hK hP 29 rfl (v := .ref (bd 7)) rfl dL_acts_303 ?_
          refine lv_iload hx hb dL_acts_306 (lv_at hl 0 rfl) ?_
          refine ald_Z (f := (gnR h q i)) hx hb hK hP 36 rfl (i := i) (by omega) (by decide) dL_acts_308 ?_
          refine top_eq (y := 0) ((gnR_at h q i).trans (if_neg hg)) ?_
          by_cases hl9 : i + 1 < n
          · refine lv_if_ne (tgt := 338) hx hb dL_acts_309 (by decide) (fun c => absurd (by decide) c) (fun _ => ?_)
            refine lv_aload_n hx hb dL_acts_312 rfl (lv_at hl 4 rfl) ?_
            refine gN_40 hx hb hts hown hN hK hP 29 rfl (v := .ref (bd 6)) rfl dL_acts_313 ?_
            refine lv_iload hx hb dL_acts_316 (lv_at hl 0 rfl) ?_
            refine ald_I (f := (GT n h 6)) hx hb hK hP 35 rfl (i := i) (by omega) (by decide) dL_acts_318 ?_
            refine top_eq (y := nI (i + 2)) (fCl_lt hl9) ?_
            refine lv_if_lt (tgt := 338) hx hb dL_acts_319 (by decide) (fun c => absurd c (nd_nlt (a := (i + 2)) (b := 0) (by omega) (by omega) (by omega))) (fun _ => ?_)
            refine lv_aload_n hx hb dL_acts_322 rfl (lv_at hl 4 rfl) ?_
            refine gN_40 hx hb hts hown hN hK hP 29 rfl (v := .ref (bd 6)) rfl dL_acts_323 ?_
            refine lv_iload hx hb dL_acts_326 (lv_at hl 0 rfl) ?_
            refine ald_I (f := (GT n h 6)) hx hb hK hP 35 rfl (i := i) (by omega) (by decide) dL_acts_328 ?_
            refine top_eq (y := nI (i + 2)) (fCl_lt hl9) ?_
            refine lv_iload hx hb dL_acts_329 (lv_at hl 2 rfl) ?_
            refine lv_icmp_gt (tgt := 338) hx hb dL_acts_331 (by decide) (fun c2 => ?_) (fun c2 => ?_)
            · have f2 : q < i + 2 := nt_lt (a := q) (b := i + 2) (by omega) (by omega) c2
              refine lv_iconst (v := 0) hx hb dL_acts_338 (by decide) ?_
              refine lv_istore (lv' := [(9, .int 0), (8, .int (nI i)), (7, .int (nI (puN h q i))), (6, .int (nI q)), (0, .ref (ad 0)), (1, .ref (bd 0)), (2, .int v)]) hx hb dL_acts_339 hl (by decide) rfl (fun ls hl => ?_)
              refine lv_iload hx hb dL_acts_341 (lv_at hl 2 rfl) ?_
              refine lv_iload hx hb dL_acts_343 (lv_at hl 0 rfl) ?_
              refine lv_if_eq (tgt := 352) hx hb dL_acts_345 (by decide) (fun _ => ?_) (fun c => absurd (by decide) c)
              refine lv_iconst (v := 0) hx hb dL_acts_352 (by decide) ?_
              refine lv_iadd hx hb dL_acts_353 ?_
              refine top_eq (y := nI (puN h q (i + 1))) (by rw [show puN h q (i + 1) = puN h q i by unfold puN; omega]; exact Int32.add_zero _) ?_
              refine lv_istore (lv' := [(7, .int (nI (puN h q (i + 1)))), (9, .int 0), (8, .int (nI i)), (6, .int (nI q)), (0, .ref (ad 0)), (1, .ref (bd 0)), (2, .int v)]) hx hb dL_acts_354 hl (by decide) rfl (fun ls hl => ?_)
              refine lv_aload_n hx hb dL_acts_356 rfl (lv_at hl 5 rfl) ?_
              refine gN_36 hx hb hts hown hN hK hP 29 rfl (v := .ref (bd 7)) rfl dL_acts_357 ?_
              refine lv_iload hx hb dL_acts_360 (lv_at hl 2 rfl) ?_
              refine lv_aload_n hx hb dL_acts_362 rfl (lv_at hl 5 rfl) ?_
              refine gN_36 hx hb hts hown hN hK hP 29 rfl (v := .ref (bd 7)) rfl dL_acts_363 ?_
              refine lv_iload hx hb dL_acts_366 (lv_at hl 2 rfl) ?_
              refine ald_Z (f := (gnR h q i)) hx hb hK hP 36 rfl (i := i) (by omega) (by decide) dL_acts_368 ?_
              refine top_eq (y := 0) ((gnR_at h q i).trans (if_neg hg)) ?_
              refine lv_if_ne (tgt := 377) hx hb dL_acts_369 (by decide) (fun c => absurd (by decide) c) (fun _ => ?_)
              refine lv_iload hx hb dL_acts_372 (lv_at hl 1 rfl) ?_
              refine lv_if_eq (tgt := 381) hx hb dL_acts_374 (by decide) (fun _ => ?_) (fun c => absurd (by decide) c)
              refine lv_iconst (v := 0) hx hb dL_acts_381 (by decide) ?_
              refine ast_Z hx hb hK hP hD hS 36 rfl (i := i) (x := 0) (by omega) (by decide) rfl dL_acts_382 (fun H locs hP hD hS => ?_)
              have e8 : upd (gnR h q i) i 0 = gnR h q (i + 1) := by rw [show (0 : Int32) = fGn q i from (if_neg (by omega)).symm]; exact gnR_s h q i
              have hP : va_P D clW (wC cy ad (FI n h) (FS n) ++ ((wM cy bd (GJ n h) (va_up (GT n h) 7 (gnR h q (i + 1)))) ++ [])) H := by rw [← e8]; exact hP
              have hD : va_D A (wC cy ad (FI n h) (FS n) ++ ((wM cy bd (GJ n h) (va_up (GT n h) 7 (gnR h q (i + 1)))) ++ [])) := hD.addr rfl
              refine lv_iinc (v := (nI (i + 1))) (lv' := [(8, .int (nI (i + 1))), (7, .int (nI (puN h q (i + 1)))), (9, .int 0), (6, .int (nI q)), (0, .ref (ad 0)), (1, .ref (bd 0)), (2, .int v)]) hx hb dL_acts_383 hl (k := 2) rfl (nI_1 i) (by decide) rfl (fun ls hl => ?_)
              refine lv_goto (tgt := 293) hx hb dL_acts_386 (by decide) ?_
              exact ih (i + 1) (by omega) (by omega) H locs hP hD hS ls (lv_sub hl [0, 1, 3, 4, 5, 6] rfl)
            · have f2 : i + 2 ≤ q := nt_nlt (a := q) (b := i + 2) (by omega) (by omega) c2
              refine lv_iconst (v := 1) hx hb dL_acts_334 (by decide) ?_
              refine lv_goto (tgt := 339) hx hb dL_acts_335 (by decide) ?_
              refine lv_istore (lv' := [(9, .int 1), (8, .int (nI i)), (7, .int (nI (puN h q i))), (6, .int (nI q)), (0, .ref (ad 0)), (1, .ref (bd 0)), (2, .int v)]) hx hb dL_acts_339 hl (by decide) rfl (fun ls hl => ?_)
              refine lv_iload hx hb dL_acts_341 (lv_at hl 2 rfl) ?_
              refine lv_iload hx hb dL_acts_343 (lv_at hl 0 rfl) ?_
              refine lv_if_eq (tgt := 352) hx hb dL_acts_345 (by decide) (fun c => absurd c (by decide)) (fun _ => ?_)
              refine lv_iconst (v := 1) hx hb dL_acts_348 (by decide) ?_
              refine lv_goto (tgt := 353) hx hb dL_acts_349 (by decide) ?_
              refine lv_iadd hx hb dL_acts_353 ?_
              refine top_eq (y := nI (puN h q (i + 1))) (by rw [nI_1, show puN h q (i + 1) = puN h q i + 1 by unfold puN; omega]) ?_
              refine lv_istore (lv' := [(7, .int (nI (puN h q (i + 1)))), (9, .int 1), (8, .int (nI i)), (6, .int (nI q)), (0, .ref (ad 0)), (1, .ref (bd 0)), (2, .int v)]) hx hb dL_acts_354 hl (by decide) rfl (fun ls hl => ?_)
              refine lv_aload_n hx hb dL_acts_356 rfl (lv_at hl 5 rfl) ?_
              refine gN_36 hx hb hts hown hN hK hP 29 rfl (v := .ref (bd 7)) rfl dL_acts_357 ?_
              refine lv_iload hx hb dL_acts_360 (lv_at hl 2 rfl) ?_
              refine lv_aload_n hx hb dL_acts_362 rfl (lv_at hl 5 rfl) ?_
              refine gN_36 hx hb hts hown hN hK hP 29 rfl (v := .ref (bd 7)) rfl dL_acts_363 ?_
              refine lv_iload hx hb dL_acts_366 (lv_at hl 2 rfl) ?_
              refine ald_Z (f := (gnR h q i)) hx hb hK hP 36 rfl (i := i) (by omega) (by decide) dL_acts_368 ?_
              refine top_eq (y := 0) ((gnR_at h q i).trans (if_neg hg)) ?_
              refine lv_if_ne (tgt := 377) hx hb dL_acts_369 (by decide) (fun c => absurd (by decide) c) (fun _ => ?_)
              refine lv_iload hx hb dL_acts_372 (lv_at hl 1 rfl) ?_
              refine lv_if_eq (tgt := 381) hx hb dL_acts_374 (by decide) (fun c => absurd c (by decide)) (fun _ => ?_)
              refine lv_iconst (v := 1) hx hb dL_acts_377 (by decide) ?_
              refine lv_goto (tgt := 382) hx hb dL_acts_378 (by decide) ?_
              refine ast_Z hx hb hK hP hD hS 36 rfl (i := i) (x := 1) (by omega) (by decide) rfl dL_acts_382 (fun H locs hP hD hS => ?_)
              have e8 : upd (gnR h q i) i 1 = gnR h q (i + 1) := by rw [show (1 : Int32) = fGn q i from (if_pos (by omega)).symm]; exact gnR_s h q i
              have hP : va_P D clW (wC cy ad (FI n h) (FS n) ++ ((wM cy bd (GJ n h) (va_up (GT n h) 7 (gnR h q (i + 1)))) ++ [])) H := by rw [← e8]; exact hP
              have hD : va_D A (wC cy ad (FI n h) (FS n) ++ ((wM cy bd (GJ n h) (va_up (GT n h) 7 (gnR h q (i + 1)))) ++ [])) := hD.addr rfl
              refine lv_iinc (v := (nI (i + 1))) (lv' := [(8, .int (nI (i + 1))), (7, .int (nI (puN h q (i + 1)))), (9, .int 1), (6, .int (nI q)), (0, .ref (ad 0)), (1, .ref (bd 0)), (2, .int v)]) hx hb dL_acts_383 hl (k := 2) rfl (nI_1 i) (by decide) rfl (fun ls hl => ?_)
              refine lv_goto (tgt := 293) hx hb dL_acts_386 (by decide) ?_
              exact ih (i + 1) (by omega) (by omega) H locs hP hD hS ls (lv_sub hl [0, 1, 3, 4, 5, 6] rfl)
          · refine lv_if_ne (tgt := 338) hx hb dL_acts_309 (by decide) (fun c => absurd (by decide) c) (fun _ => ?_)
            refine lv_aload_n hx hb dL_acts_312 rfl (lv_at hl 4 rfl) ?_
            refine gN_40 hx hb hts hown hN hK hP 29 rfl (v := .ref (bd 6)) rfl dL_acts_313 ?_
            refine lv_iload hx hb dL_acts_316 (lv_at hl 0 rfl) ?_
            refine ald_I (f := (GT n h 6)) hx hb hK hP 35 rfl (i := i) (by omega) (by decide) dL_acts_318 ?_
            refine top_eq (y := (-1)) (fCl_eq (by omega)) ?_
            refine lv_if_lt (tgt := 338) hx hb dL_acts_319 (by decide) (fun _ => ?_) (fun c => absurd (by decide) c)
            refine lv_iconst (v := 0) hx hb dL_acts_338 (by decide) ?_
            refine lv_istore (lv' := [(9, .int 0), (8, .int (nI i)), (7, .int (nI (puN h q i))), (6, .int (nI q)), (0, .ref (ad 0)), (1, .ref (bd 0)), (2, .int v)]) hx hb dL_acts_339 hl (by decide) rfl (fun ls hl => ?_)
            refine lv_iload hx hb dL_acts_341 (lv_at hl 2 rfl) ?_
            refine lv_iload hx hb dL_acts_343 (lv_at hl 0 rfl) ?_
            refine lv_if_eq (tgt := 352) hx hb dL_acts_345 (by decide) (fun _ => ?_) (fun c => absurd (by decide) c)
            refine lv_iconst (v := 0) hx hb dL_acts_352 (by decide) ?_
            refine lv_iadd hx hb dL_acts_353 ?_
            refine top_eq (y := nI (puN h q (i + 1))) (by rw [show puN h q (i + 1) = puN h q i by unfold puN; omega]; exact Int32.add_zero _) ?_
            refine lv_istore (lv' := [(7, .int (nI (puN h q (i + 1)))), (9, .int 0), (8, .int (nI i)), (6, .int (nI q)), (0, .ref (ad 0)), (1, .ref (bd 0)), (2, .int v)]) hx hb dL_acts_354 hl (by decide) rfl (fun ls hl => ?_)
            refine lv_aload_n hx hb dL_acts_356 rfl (lv_at hl 5 rfl) ?_
            refine gN_36 hx hb hts hown hN hK hP 29 rfl (v := .ref (bd 7)) rfl dL_acts_357 ?_
            refine lv_iload hx hb dL_acts_360 (lv_at hl 2 rfl) ?_
            refine lv_aload_n hx hb dL_acts_362 rfl (lv_at hl 5 rfl) ?_
            refine gN_36 hx hb hts hown hN hK hP 29 rfl (v := .ref (bd 7)) rfl dL_acts_363 ?_
            refine lv_iload hx hb dL_acts_366 (lv_at hl 2 rfl) ?_
            refine ald_Z (f := (gnR h q i)) hx hb hK hP 36 rfl (i := i) (by omega) (by decide) dL_acts_368 ?_
            refine top_eq (y := 0) ((gnR_at h q i).trans (if_neg hg)) ?_
            refine lv_if_ne (tgt := 377) hx hb dL_acts_369 (by decide) (fun c => absurd (by decide) c) (fun _ => ?_)
            refine lv_iload hx hb dL_acts_372 (lv_at hl 1 rfl) ?_
            refine lv_if_eq (tgt := 381) hx hb dL_acts_374 (by decide) (fun _ => ?_) (fun c => absurd (by decide) c)
            refine lv_iconst (v := 0) hx hb dL_acts_381 (by decide) ?_
            refine ast_Z hx hb hK hP hD hS 36 rfl (i := i) (x := 0) (by omega) (by decide) rfl dL_acts_382 (fun H locs hP hD hS => ?_)
            have e8 : upd (gnR h q i) i 0 = gnR h q (i + 1) := by rw [show (0 : Int32) = fGn q i from (if_neg (by omega)).symm]; exact gnR_s h q i
            have hP : va_P D clW (wC cy ad (FI n h) (FS n) ++ ((wM cy bd (GJ n h) (va_up (GT n h) 7 (gnR h q (i + 1)))) ++ [])) H := by rw [← e8]; exact hP
            have hD : va_D A (wC cy ad (FI n h) (FS n) ++ ((wM cy bd (GJ n h) (va_up (GT n h) 7 (gnR h q (i + 1)))) ++ [])) := hD.addr rfl
            refine lv_iinc (v := (nI (i + 1))) (lv' := [(8, .int (nI (i + 1))), (7, .int (nI (puN h q (i + 1)))), (9, .int 0), (6, .int (nI q)), (0, .ref (ad 0)), (1, .ref (bd 0)), (2, .int v)]) hx hb dL_acts_383 hl (k := 2) rfl (nI_1 i) (by decide) rfl (fun ls hl => ?_)
            refine lv_goto (tgt := 293) hx hb dL_acts_386 (by decide) ?_
            exact ih (i + 1) (by omega) (by omega) H locs hP hD hS ls (lv_sub hl [0, 1, 3, 4, 5, 6] rfl)
  have hP : va_P D clW (wC cy ad (FI n h) (FS n) ++ ((wM cy bd (GJ n h) (va_up (GT n h) 7 (gnR h q 0))) ++ [])) H := by rw [gnR_0]; exact hP
  have hD : va_D A (wC cy ad (FI n h) (FS n) ++ ((wM cy bd (GJ n h) (va_up (GT n h) 7 (gnR h q 0))) ++ [])) := hD.addr rfl
  have hl : lv_has ls 10 [(8, .int (nI 0)), (7, .int (nI (puN h q 0))), (6, .int (nI q)), (0, .ref (ad 0)), (1, .ref (bd 0)), (2, .int v)] := by rw [show puN h q 0 = 0 by unfold puN; omega]; exact lv_sub hl [0, 1, 2, 6, 7, 8] rfl
  exact L293 (n + 1) 0 (by omega) (by omega) H locs hP hD hS ls hl
