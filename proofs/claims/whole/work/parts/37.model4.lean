theorem cw_X7_143 {R : Room} {s : State} {args : Array Value} {rm : Room} {mc ms : Nat} (hts : ∀ w ∈ wsL_law, w.before args s = true) (hrc : rm.cells = mc) (hrs : rm.slots = ms) (hR : rm.frames + 1 ≤ R.frames ∧ 8 + (4 + 11) + rm.locals ≤ R.locals) : CallW R s args RX7 RX7 143 yX7_finds cX7_finds 4 none (Cond.code yX7_finds cX7_finds 4 none :: wsL_law) rm mc ms 1 := cwV 1 hts (gUV wm_641 wm_642 wm_643 wm_5 wm_644) rfl hrc hrs (by decide +kernel) hR
theorem cw_X7_147 {R : Room} {s : State} {args : Array Value} {rm : Room} {mc ms : Nat} (hts : ∀ w ∈ wsL_law, w.before args s = true) (hrc : rm.cells = mc) (hrs : rm.slots = ms) (hR : rm.frames + 1 ≤ R.frames ∧ 8 + (4 + 11) + rm.locals ≤ R.locals) : CallW R s args RX7 RX7 147 yX7_findsPeriods cX7_findsPeriods 4 (some .boolean) (Cond.code yX7_findsPeriods cX7_findsPeriods 4 (some .boolean) :: wsL_law) rm mc ms 3 := cwV 3 hts (gUV wm_637 wm_638 wm_639 wm_5 wm_640) rfl hrc hrs (by decide +kernel) hR
theorem cw_X7_150 {R : Room} {s : State} {args : Array Value} {rm : Room} {mc ms : Nat} (hts : ∀ w ∈ wsL_law, w.before args s = true) (hrc : rm.cells = mc) (hrs : rm.slots = ms) (hR : rm.frames + 1 ≤ R.frames ∧ 8 + (5 + 11) + rm.locals ≤ R.locals) : CallW R s args RX7 RX7 150 yX7_findsPeriod cX7_findsPeriod 5 (some .boolean) (Cond.code yX7_findsPeriod cX7_findsPeriod 5 (some .boolean) :: wsL_law) rm mc ms 4 := cwV 4 hts (gUV wm_668 wm_669 wm_670 wm_5 wm_671) rfl hrc hrs (by decide +kernel) hR
set_option maxHeartbeats 4000000 in
set_option maxRecDepth 100000 in
theorem c_X7_findsPeriods (l : Launch) (D : va_G) (cy : Nat → ClassId) (ad : Nat → Nat) (I : AI) (S : AS) (sz : Nat) (x : Int32) (b : Int32) (t : Int32) (k : Nat) (hk : I 3 = nI k) (hk8 : k ≤ 256) (fr : Nat → Nat) (to : Nat → Nat) (hfr : ∀ i : Nat, i < k → S 5 i = nI (fr i) ∧ S 6 i = nI (to i) ∧ fr i ≤ to i ∧ to i ≤ 100) : Met l yX7_findsPeriods (Cond.code yX7_findsPeriods cX7_findsPeriods 4 (some .boolean) :: wsL_law) ({ frames := 3, cells := 0, slots := 0, locals := 67 }) (va_Pc [.ref (ad 0), .int x, .int b, .int t] (wrB D cy (wM cy ad I S) sz)) (va_Qi (S := AI × AS) (fun r u => (afC I x b t = 0 ∧ r = 1 ∧ u.1 = (va_up (va_up I 0 (afC I x b t)) 6 (nI (pmM S (slM x b) t fr to k).1)) ∧ u.2 = (va_up (va_up (va_up S 10 (lkN S (slM x b) t fr to (S 10) k)) 12 (pmM S (slM x b) t fr to k).2.1) 13 (pmM S (slM x b) t fr to k).2.2)) ∨ (¬ afC I x b t = 0 ∧ r = 0 ∧ u.1 = (va_up I 0 (afC I x b t)) ∧ S = u.2)) (fun u t9 => va_P D clW (wM cy ad u.1 u.2) t9.heap) (va_A (wM cy ad I S) sz)) 0 0 (va_A (wM cy ad I S) sz) := by
  refine enter (cc := cX7_findsPeriods) (by decide) (Nat.le_of_ble_eq_true rfl) ?_
  intro p e s m below meth c hx hb hr hml hown hts hlocks hin hv Q hQ ls hl
  obtain ⟨hsz, hP, hK, hD0⟩ := hv
  subst hsz
  have hD := hD0.self (sz := s.heap.size)
  generalize hAe : va_A (wM cy ad I S) s.heap.size = A at hD hQ ⊢
  have hA : ∀ q : Nat, s.heap.size ≤ q → A q := fun q h => by rw [← hAe]; exact Or.inr h
  have hS : va_S A s.heap s.heap [] := va_S.rf
  suffices K_ : ∀ (H : Heap) (locs : List Loc), va_P D clW (wM cy ad I S) H → va_S A s.heap H locs → W p l e ({ frames := 3, cells := 0, slots := 0, locals := 67 }) s m ([.ref (ad 0), .int x, .int b, .int t] : List Value).toArray below meth c H locs 0 0 Q (F0 m 0 ls []) from K_ _ _ hP hS
  clear hP hS
  intro H locs hP hS
  have hown : s.vm.findClass RX7 = some m.cls := hown
  have hl : lv_has ls 4 [(0, .ref (ad 0)), (1, .int x), (2, .int b), (3, .int t)] := hl
  refine lv_aload_n hx hb dX7_findsPeriods_0 rfl (lv_at hl 0 rfl) ?_
  refine lv_aload_n hx hb dX7_findsPeriods_1 rfl (lv_at hl 0 rfl) ?_
  refine lv_iload_n hx hb dX7_findsPeriods_2 rfl (lv_at hl 1 rfl) ?_
  refine lv_iload_n hx hb dX7_findsPeriods_3 rfl (lv_at hl 2 rfl) ?_
  refine lv_iload_n hx hb dX7_findsPeriods_4 rfl (lv_at hl 3 rfl) ?_
  refine rI_call (va_runV (As := [.int x, .int b, .int t]) (rest := [.ref (ad 0)]) ⟨hx, hb, hml, hown, hts⟩ (c_X7_askFault l D cy ad I S x b t) (cw_X7_133 hts rfl rfl ⟨Nat.le_of_ble_eq_true rfl, Nat.le_of_ble_eq_true rfl⟩) (preVR (ci := 7) (q0 := 0) hK hP rfl rfl) rfl rfl hl.1 rfl (lv_room (Nat.le_of_ble_eq_true rfl)) dX7_findsPeriods_5 ⟨Nat.le_of_ble_eq_true rfl, Nat.le_of_ble_eq_true rfl⟩) (fun r hr_ => ?_)
  subst hr_
  refine wI_call (va_runV (As := [.int (afC I x b t)]) (rest := []) ⟨hx, hb, hml, hown, hts⟩ (c_X7_goesOn l D cy ad I S H.size (afC I x b t)) (cw_X7_71 hts rfl rfl ⟨Nat.le_of_ble_eq_true rfl, Nat.le_of_ble_eq_true rfl⟩) (preVW (ci := 7) (q0 := 0) hK hP hD rfl rfl) rfl rfl hl.1 rfl (lv_room (Nat.le_of_ble_eq_true rfl)) dX7_findsPeriods_8 ⟨Nat.le_of_ble_eq_true rfl, Nat.le_of_ble_eq_true rfl⟩) hP hD hS hA [0, 1, 2, 3, 4, 5, 6, 7, 8, 9, 10, 11, 12, 13, 14, 15, 16] rfl [.inr 0, .inr 1, .inr 2, .inr 3, .inr 4, .inr 5, .inr 6, .inr 7, .inr 8, .inr 9, .inr 10, .inr 11, .inr 12, .inr 13, .inr 14, .inr 15, .inr 16] (by decide) (fun u => (wM cy ad (va_up I 0 (afC I x b t)) S)) (fun _ => rfl) (fun _ => rfl) (fun r8_1 u8_1 H locs q8_1 hP hD hS hkp => ?_)
  have hP : va_P D clW (wM cy ad (va_up I 0 (afC I x b t)) S) H := hP
  have hD : va_D A (wM cy ad (va_up I 0 (afC I x b t)) S) := hD
  by_cases b8_1 : (afC I x b t) = 0
  · rw [if_pos b8_1] at q8_1
    subst q8_1
    refine lv_if_ne (tgt := 16) hx hb dX7_findsPeriods_11 (by decide) (fun _ => ?_) (fun c => absurd c (by decide))
    refine lv_aload_n hx hb dX7_findsPeriods_16 rfl (lv_at hl 0 rfl) ?_
    refine lv_aload_n hx hb dX7_findsPeriods_17 rfl (lv_at hl 0 rfl) ?_
    refine gf_X7_39 hx hb hts hown hK hP 0 rfl (v := .ref (ad 10)) rfl dX7_findsPeriods_18 ?_
    refine lv_iload_n hx hb dX7_findsPeriods_21 rfl (lv_at hl 1 rfl) ?_
    refine lv_iload_n hx hb dX7_findsPeriods_22 rfl (lv_at hl 2 rfl) ?_
    refine rI_call (va_runS (As := [.int x, .int b]) (rest := [.ref (ad 10), .ref (ad 0)]) ⟨hx, hb, hml, hown, hts⟩ (c_X7_placeOf l D cy x b) (cw_X7_103 hts rfl rfl ⟨Nat.le_of_ble_eq_true rfl, Nat.le_of_ble_eq_true rfl⟩) (preSR hK (hP.sub [] rfl)) rfl rfl hl.1 rfl (lv_room (Nat.le_of_ble_eq_true rfl)) dX7_findsPeriods_23 ⟨Nat.le_of_ble_eq_true rfl, Nat.le_of_ble_eq_true rfl⟩) (fun r hr_ => ?_)
    subst hr_
    refine lv_iload_n hx hb dX7_findsPeriods_26 rfl (lv_at hl 3 rfl) ?_
    refine wV_call (va_runV (As := [.ref (ad 10), .int (slM x b), .int t]) (rest := []) ⟨hx, hb, hml, hown, hts⟩ (c_X7_looksAt_10 l D cy ad (va_up I 0 (afC I x b t)) S H.size (slM x b) t k hk hk8 fr to hfr) (cw_X7_111 hts rfl rfl ⟨Nat.le_of_ble_eq_true rfl, Nat.le_of_ble_eq_true rfl⟩) (preVW (ci := 7) (q0 := 0) hK hP hD rfl rfl) rfl rfl hl.1 rfl (lv_room (Nat.le_of_ble_eq_true rfl)) dX7_findsPeriods_27 ⟨Nat.le_of_ble_eq_true rfl, Nat.le_of_ble_eq_true rfl⟩) hP hD hS hA [0, 1, 2, 3, 4, 5, 6, 7, 8, 9, 10, 11, 12, 13, 14, 15, 16] rfl [.inr 0, .inr 1, .inr 2, .inr 3, .inr 4, .inr 5, .inr 6, .inr 7, .inr 8, .inr 9, .inr 10, .inr 11, .inr 12, .inr 13, .inr 14, .inr 15, .inr 16] (by decide) (fun u => (wM cy ad (va_up I 0 (afC I x b t)) (va_up S 10 (lkN S (slM x b) t fr to (S 10) k)))) (fun _ => rfl) (fun _ => rfl) (fun u27_2 H locs q27_2 hP hD hS hkp => ?_)
    have hP : va_P D clW (wM cy ad (va_up I 0 (afC I x b t)) (va_up S 10 (lkN S (slM x b) t fr to (S 10) k))) H := hP
    have hD : va_D A (wM cy ad (va_up I 0 (afC I x b t)) (va_up S 10 (lkN S (slM x b) t fr to (S 10) k))) := hD
    refine lv_aload_n hx hb dX7_findsPeriods_30 rfl (lv_at hl 0 rfl) ?_
    refine lv_iconst (v := 0) hx hb dX7_findsPeriods_31 (by decide) ?_
    refine wV_call (va_runV (As := [.int 0]) (rest := []) ⟨hx, hb, hml, hown, hts⟩ (c_X7_finds_0 l D cy ad (va_up I 0 (afC I x b t)) (va_up S 10 (lkN S (slM x b) t fr to (S 10) k)) H.size k hk8 (lk_row S (slM x b) t fr to (S 10) k)) (cw_X7_143 hts rfl rfl ⟨Nat.le_of_ble_eq_true rfl, Nat.le_of_ble_eq_true rfl⟩) (preVW (ci := 7) (q0 := 0) hK hP hD rfl rfl) rfl rfl hl.1 rfl (lv_room (Nat.le_of_ble_eq_true rfl)) dX7_findsPeriods_32 ⟨Nat.le_of_ble_eq_true rfl, Nat.le_of_ble_eq_true rfl⟩) hP hD hS hA [0, 1, 2, 3, 4, 5, 6, 7, 8, 9, 10, 11, 12, 13, 14, 15, 16] rfl [.inr 0, .inr 1, .inr 2, .inr 3, .inr 4, .inr 5, .inr 6, .inr 7, .inr 8, .inr 9, .inr 10, .inr 11, .inr 12, .inr 13, .inr 14, .inr 15, .inr 16] (by decide) (fun u => (wM cy ad (va_up (va_up I 0 (afC I x b t)) 6 (nI (pmS (S 4) (lkN S (slM x b) t fr to (S 10) k) (S 11) false (S 12) (S 13) 100).1)) (va_up (va_up (va_up S 10 (lkN S (slM x b) t fr to (S 10) k)) 12 (pmS (S 4) (lkN S (slM x b) t fr to (S 10) k) (S 11) false (S 12) (S 13) 100).2.1) 13 (pmS (S 4) (lkN S (slM x b) t fr to (S 10) k) (S 11) false (S 12) (S 13) 100).2.2))) (fun _ => rfl) (fun _ => rfl) (fun u32_3 H locs q32_3 hP hD hS hkp => ?_)
    have hP : va_P D clW (wM cy ad (va_up (va_up I 0 (afC I x b t)) 6 (nI (pmS (S 4) (lkN S (slM x b) t fr to (S 10) k) (S 11) false (S 12) (S 13) 100).1)) (va_up (va_up (va_up S 10 (lkN S (slM x b) t fr to (S 10) k)) 12 (pmS (S 4) (lkN S (slM x b) t fr to (S 10) k) (S 11) false (S 12) (S 13) 100).2.1) 13 (pmS (S 4) (lkN S (slM x b) t fr to (S 10) k) (S 11) false (S 12) (S 13) 100).2.2)) H := hP
    have hD : va_D A (wM cy ad (va_up (va_up I 0 (afC I x b t)) 6 (nI (pmS (S 4) (lkN S (slM x b) t fr to (S 10) k) (S 11) false (S 12) (S 13) 100).1)) (va_up (va_up (va_up S 10 (lkN S (slM x b) t fr to (S 10) k)) 12 (pmS (S 4) (lkN S (slM x b) t fr to (S 10) k) (S 11) false (S 12) (S 13) 100).2.1) 13 (pmS (S 4) (lkN S (slM x b) t fr to (S 10) k) (S 11) false (S 12) (S 13) 100).2.2)) := hD
    refine lv_iconst (v := 1) hx hb dX7_findsPeriods_35 (by decide) ?_
    exact wZ_ret ((va_up (va_up I 0 (afC I x b t)) 6 (nI (pmM S (slM x b) t fr to k).1)), (va_up (va_up (va_up S 10 (lkN S (slM x b) t fr to (S 10) k)) 12 (pmM S (slM x b) t fr to k).2.1) 13 (pmM S (slM x b) t fr to k).2.2)) hS hP hx hb hr hlocks dX7_findsPeriods_36 narZ1 (Nat.le_of_ble_eq_true rfl) (Nat.le_of_ble_eq_true rfl) hQ (Or.inl ⟨b8_1, rfl, rfl, rfl⟩)
  · rw [if_neg b8_1] at q8_1
    subst q8_1
    refine lv_if_ne (tgt := 16) hx hb dX7_findsPeriods_11 (by decide) (fun c => absurd (by decide) c) (fun _ => ?_)
    refine lv_iconst (v := 0) hx hb dX7_findsPeriods_14 (by decide) ?_
    exact wZ_ret ((va_up I 0 (afC I x b t)), S) hS hP hx hb hr hlocks dX7_findsPeriods_15 narZ0 (Nat.le_of_ble_eq_true rfl) (Nat.le_of_ble_eq_true rfl) hQ (Or.inr ⟨b8_1, rfl, rfl, rfl⟩)

set_option maxHeartbeats 4000000 in
set_option maxRecDepth 100000 in
theorem c_X7_findsPeriod (l : Launch) (D : va_G) (cy : Nat → ClassId) (ad : Nat → Nat) (I : AI) (S : AS) (sz : Nat) (x : Int32) (b : Int32) (t : Int32) (ix : Int32) (k : Nat) (hk : I 3 = nI k) (hk8 : k ≤ 256) (fr : Nat → Nat) (to : Nat → Nat) (hfr : ∀ i : Nat, i < k → S 5 i = nI (fr i) ∧ S 6 i = nI (to i) ∧ fr i ≤ to i ∧ to i ≤ 100) : Met l yX7_findsPeriod (Cond.code yX7_findsPeriod cX7_findsPeriod 5 (some .boolean) :: wsL_law) ({ frames := 4, cells := 0, slots := 0, locals := 90 }) (va_Pc [.ref (ad 0), .int x, .int b, .int t, .int ix] (wrB D cy (wM cy ad I S) sz)) (va_Qi (S := AI × AS) (fun r u => (afC I x b t = 0 ∧ inB ix 0 (nI (pmM S (slM x b) t fr to k).1 - 1) = true ∧ r = 1 ∧ u.1 = (va_up (va_up I 6 (nI (pmM S (slM x b) t fr to k).1)) 0 0) ∧ u.2 = (va_up (va_up (va_up S 10 (lkN S (slM x b) t fr to (S 10) k)) 12 (pmM S (slM x b) t fr to k).2.1) 13 (pmM S (slM x b) t fr to k).2.2)) ∨ (afC I x b t = 0 ∧ ¬ inB ix 0 (nI (pmM S (slM x b) t fr to k).1 - 1) = true ∧ r = 0 ∧ u.1 = (va_up (va_up I 6 (nI (pmM S (slM x b) t fr to k).1)) 0 4) ∧ u.2 = (va_up (va_up (va_up S 10 (lkN S (slM x b) t fr to (S 10) k)) 12 (pmM S (slM x b) t fr to k).2.1) 13 (pmM S (slM x b) t fr to k).2.2)) ∨ (¬ afC I x b t = 0 ∧ r = 0 ∧ u.1 = (va_up I 0 (afC I x b t)) ∧ S = u.2)) (fun u t9 => va_P D clW (wM cy ad u.1 u.2) t9.heap) (va_A (wM cy ad I S) sz)) 0 0 (va_A (wM cy ad I S) sz) := by
  refine enter (cc := cX7_findsPeriod) (by decide) (Nat.le_of_ble_eq_true rfl) ?_
  intro p e s m below meth c hx hb hr hml hown hts hlocks hin hv Q hQ ls hl
  obtain ⟨hsz, hP, hK, hD0⟩ := hv
  subst hsz
  have hD := hD0.self (sz := s.heap.size)
  generalize hAe : va_A (wM cy ad I S) s.heap.size = A at hD hQ ⊢
  have hA : ∀ q : Nat, s.heap.size ≤ q → A q := fun q h => by rw [← hAe]; exact Or.inr h
  have hS : va_S A s.heap s.heap [] := va_S.rf
  suffices K_ : ∀ (H : Heap) (locs : List Loc), va_P D clW (wM cy ad I S) H → va_S A s.heap H locs → W p l e ({ frames := 4, cells := 0, slots := 0, locals := 90 }) s m ([.ref (ad 0), .int x, .int b, .int t, .int ix] : List Value).toArray below meth c H locs 0 0 Q (F0 m 0 ls []) from K_ _ _ hP hS
  clear hP hS
  intro H locs hP hS
  have hown : s.vm.findClass RX7 = some m.cls := hown
  have hl : lv_has ls 5 [(0, .ref (ad 0)), (1, .int x), (2, .int b), (3, .int t), (4, .int ix)] := hl
  refine lv_aload_n hx hb dX7_findsPeriod_0 rfl (lv_at hl 0 rfl) ?_
  refine lv_iload_n hx hb dX7_findsPeriod_1 rfl (lv_at hl 1 rfl) ?_
  refine lv_iload_n hx hb dX7_findsPeriod_2 rfl (lv_at hl 2 rfl) ?_
  refine lv_iload_n hx hb dX7_findsPeriod_3 rfl (lv_at hl 3 rfl) ?_
  refine wI_call (va_runV (As := [.int x, .int b, .int t]) (rest := []) ⟨hx, hb, hml, hown, hts⟩ (c_X7_findsPeriods l D cy ad I S H.size x b t k hk hk8 fr to hfr) (cw_X7_147 hts rfl rfl ⟨Nat.le_of_ble_eq_true rfl, Nat.le_of_ble_eq_true rfl⟩) (preVW (ci := 7) (q0 := 0) hK hP hD rfl rfl) rfl rfl hl.1 rfl (lv_room (Nat.le_of_ble_eq_true rfl)) dX7_findsPeriod_4 ⟨Nat.le_of_ble_eq_true rfl, Nat.le_of_ble_eq_true rfl⟩) hP hD hS hA [0, 1, 2, 3, 4, 5, 6, 7, 8, 9, 10, 11, 12, 13, 14, 15, 16] rfl [.inr 0, .inr 1, .inr 2, .inr 3, .inr 4, .inr 5, .inr 6, .inr 7, .inr 8, .inr 9, .inr 10, .inr 11, .inr 12, .inr 13, .inr 14, .inr 15, .inr 16] (by decide) (fun u => (wM cy ad u.1 u.2)) (fun _ => rfl) (fun _ => rfl) (fun r4_1 u4_1 H locs q4_1 hP hD hS hkp => ?_)
  obtain ⟨I2_1, S2_1⟩ := u4_1
  have hP : va_P D clW (wM cy ad I2_1 S2_1) H := hP
  have hD : va_D A (wM cy ad I2_1 S2_1) := hD
  rcases q4_1 with ⟨hcd, rfl, rfl, rfl⟩ | ⟨hcd, rfl, rfl, rfl⟩
  · have hP : va_P D clW (wM cy ad (va_up (va_up I 0 (afC I x b t)) 6 (nI (pmM S (slM x b) t fr to k).1)) (va_up (va_up (va_up S 10 (lkN S (slM x b) t fr to (S 10) k)) 12 (pmM S (slM x b) t fr to k).2.1) 13 (pmM S (slM x b) t fr to k).2.2)) H := hP
    have hD : va_D A (wM cy ad (va_up (va_up I 0 (afC I x b t)) 6 (nI (pmM S (slM x b) t fr to k).1)) (va_up (va_up (va_up S 10 (lkN S (slM x b) t fr to (S 10) k)) 12 (pmM S (slM x b) t fr to k).2.1) 13 (pmM S (slM x b) t fr to k).2.2)) := hD
    refine lv_if_eq (tgt := 41) hx hb dX7_findsPeriod_7 (by decide) (fun c => absurd c (by decide)) (fun _ => ?_)
    refine lv_aload_n hx hb dX7_findsPeriod_10 rfl (lv_at hl 0 rfl) ?_
    refine lv_iload hx hb dX7_findsPeriod_11 (lv_at hl 4 rfl) ?_
    refine lv_iconst (v := 0) hx hb dX7_findsPeriod_13 (by decide) ?_
    refine lv_aload_n hx hb dX7_findsPeriod_14 rfl (lv_at hl 0 rfl) ?_
    refine gf_X7_136 hx hb hts hown hK hP 0 rfl (v := .int (nI (pmM S (slM x b) t fr to k).1)) rfl dX7_findsPeriod_15 ?_
    refine lv_iconst (v := 1) hx hb dX7_findsPeriod_18 (by decide) ?_
    refine lv_isub hx hb dX7_findsPeriod_19 ?_
    refine rZ_call (P := inB ix 0 ((nI (pmM S (slM x b) t fr to k).1) - 1) = true) (va_runS (As := [.int ix, .int 0, .int ((nI (pmM S (slM x b) t fr to k).1) - 1)]) (rest := [.ref (ad 0)]) ⟨hx, hb, hml, hown, hts⟩ (c_X7_in l D cy ix 0 ((nI (pmM S (slM x b) t fr to k).1) - 1)) (cw_X7_67 hts rfl rfl ⟨Nat.le_of_ble_eq_true rfl, Nat.le_of_ble_eq_true rfl⟩) (preSR hK (hP.sub [] rfl)) rfl rfl hl.1 rfl (lv_room (Nat.le_of_ble_eq_true rfl)) dX7_findsPeriod_20 ⟨Nat.le_of_ble_eq_true rfl, Nat.le_of_ble_eq_true rfl⟩) (fun b20_2 => ?_) (fun b20_2 => ?_)
    · refine lv_if_eq (tgt := 30) hx hb dX7_findsPeriod_23 (by decide) (fun c => absurd c (by decide)) (fun _ => ?_)
      refine lv_iconst (v := 0) hx hb dX7_findsPeriod_26 (by decide) ?_
      refine lv_goto (tgt := 31) hx hb dX7_findsPeriod_27 (by decide) ?_
      refine wI_call (va_runV (As := [.int 0]) (rest := []) ⟨hx, hb, hml, hown, hts⟩ (c_X7_goesOn l D cy ad (va_up (va_up I 0 (afC I x b t)) 6 (nI (pmM S (slM x b) t fr to k).1)) (va_up (va_up (va_up S 10 (lkN S (slM x b) t fr to (S 10) k)) 12 (pmM S (slM x b) t fr to k).2.1) 13 (pmM S (slM x b) t fr to k).2.2) H.size 0) (cw_X7_71 hts rfl rfl ⟨Nat.le_of_ble_eq_true rfl, Nat.le_of_ble_eq_true rfl⟩) (preVW (ci := 7) (q0 := 0) hK hP hD rfl rfl) rfl rfl hl.1 rfl (lv_room (Nat.le_of_ble_eq_true rfl)) dX7_findsPeriod_31 ⟨Nat.le_of_ble_eq_true rfl, Nat.le_of_ble_eq_true rfl⟩) hP hD hS hA [0, 1, 2, 3, 4, 5, 6, 7, 8, 9, 10, 11, 12, 13, 14, 15, 16] rfl [.inr 0, .inr 1, .inr 2, .inr 3, .inr 4, .inr 5, .inr 6, .inr 7, .inr 8, .inr 9, .inr 10, .inr 11, .inr 12, .inr 13, .inr 14, .inr 15, .inr 16] (by decide) (fun u => (wM cy ad (va_up (va_up I 6 (nI (pmM S (slM x b) t fr to k).1)) 0 0) (va_up (va_up (va_up S 10 (lkN S (slM x b) t fr to (S 10) k)) 12 (pmM S (slM x b) t fr to k).2.1) 13 (pmM S (slM x b) t fr to k).2.2))) (fun _ => rfl) (fun _ => rfl) (fun r31_3 u31_3 H locs q31_3 hP hD hS hkp => ?_)
      have hP : va_P D clW (wM cy ad (va_up (va_up I 6 (nI (pmM S (slM x b) t fr to k).1)) 0 0) (va_up (va_up (va_up S 10 (lkN S (slM x b) t fr to (S 10) k)) 12 (pmM S (slM x b) t fr to k).2.1) 13 (pmM S (slM x b) t fr to k).2.2)) H := hP
      have hD : va_D A (wM cy ad (va_up (va_up I 6 (nI (pmM S (slM x b) t fr to k).1)) 0 0) (va_up (va_up (va_up S 10 (lkN S (slM x b) t fr to (S 10) k)) 12 (pmM S (slM x b) t fr to k).2.1) 13 (pmM S (slM x b) t fr to k).2.2)) := hD
      rw [if_pos rfl] at q31_3
      subst q31_3
      refine lv_if_eq (tgt := 41) hx hb dX7_findsPeriod_34 (by decide) (fun c => absurd c (by decide)) (fun _ => ?_)
      refine lv_iconst (v := 1) hx hb dX7_findsPeriod_37 (by decide) ?_
      refine lv_goto (tgt := 42) hx hb dX7_findsPeriod_38 (by decide) ?_
      exact wZ_ret ((va_up (va_up I 6 (nI (pmM S (slM x b) t fr to k).1)) 0 0), (va_up (va_up (va_up S 10 (lkN S (slM x b) t fr to (S 10) k)) 12 (pmM S (slM x b) t fr to k).2.1) 13 (pmM S (slM x b) t fr to k).2.2)) hS hP hx hb hr hlocks dX7_findsPeriod_42 narZ1 (Nat.le_of_ble_eq_true rfl) (Nat.le_of_ble_eq_true rfl) hQ (Or.inl ⟨hcd, b20_2, rfl, rfl, rfl⟩)
    · refine lv_if_eq (tgt := 30) hx hb dX7_findsPeriod_23 (by decide) (fun _ => ?_) (fun c => absurd (by decide) c)
      refine lv_iconst (v := 4) hx hb dX7_findsPeriod_30 (by decide) ?_
      refine wI_call (va_runV (As := [.int 4]) (rest := []) ⟨hx, hb, hml, hown, hts⟩ (c_X7_goesOn l D cy ad (va_up (va_up I 0 (afC I x b t)) 6 (nI (pmM S (slM x b) t fr to k).1)) (va_up (va_up (va_up S 10 (lkN S (slM x b) t fr to (S 10) k)) 12 (pmM S (slM x b) t fr to k).2.1) 13 (pmM S (slM x b) t fr to k).2.2) H.size 4) (cw_X7_71 hts rfl rfl ⟨Nat.le_of_ble_eq_true rfl, Nat.le_of_ble_eq_true rfl⟩) (preVW (ci := 7) (q0 := 0) hK hP hD rfl rfl) rfl rfl hl.1 rfl (lv_room (Nat.le_of_ble_eq_true rfl)) dX7_findsPeriod_31 ⟨Nat.le_of_ble_eq_true rfl, Nat.le_of_ble_eq_true rfl⟩) hP hD hS hA [0, 1, 2, 3, 4, 5, 6, 7, 8, 9, 10, 11, 12, 13, 14, 15, 16] rfl [.inr 0, .inr 1, .inr 2, .inr 3, .inr 4, .inr 5, .inr 6, .inr 7, .inr 8, .inr 9, .inr 10, .inr 11, .inr 12, .inr 13, .inr 14, .inr 15, .inr 16] (by decide) (fun u => (wM cy ad (va_up (va_up I 6 (nI (pmM S (slM x b) t fr to k).1)) 0 4) (va_up (va_up (va_up S 10 (lkN S (slM x b) t fr to (S 10) k)) 12 (pmM S (slM x b) t fr to k).2.1) 13 (pmM S (slM x b) t fr to k).2.2))) (fun _ => rfl) (fun _ => rfl) (fun r31_4 u31_4 H locs q31_4 hP hD hS hkp => ?_)
      have hP : va_P D clW (wM cy ad (va_up (va_up I 6 (nI (pmM S (slM x b) t fr to k).1)) 0 4) (va_up (va_up (va_up S 10 (lkN S (slM x b) t fr to (S 10) k)) 12 (pmM S (slM x b) t fr to k).2.1) 13 (pmM S (slM x b) t fr to k).2.2)) H := hP
      have hD : va_D A (wM cy ad (va_up (va_up I 6 (nI (pmM S (slM x b) t fr to k).1)) 0 4) (va_up (va_up (va_up S 10 (lkN S (slM x b) t fr to (S 10) k)) 12 (pmM S (slM x b) t fr to k).2.1) 13 (pmM S (slM x b) t fr to k).2.2)) := hD
      rw [if_neg (by decide)] at q31_4
      subst q31_4
      refine lv_if_eq (tgt := 41) hx hb dX7_findsPeriod_34 (by decide) (fun _ => ?_) (fun c => absurd (by decide) c)
      refine lv_iconst (v := 0) hx hb dX7_findsPeriod_41 (by decide) ?_
      exact wZ_ret ((va_up (va_up I 6 (nI (pmM S (slM x b) t fr to k).1)) 0 4), (va_up (va_up (va_up S 10 (lkN S (slM x b) t fr to (S 10) k)) 12 (pmM S (slM x b) t fr to k).2.1) 13 (pmM S (slM x b) t fr to k).2.2)) hS hP hx hb hr hlocks dX7_findsPeriod_42 narZ0 (Nat.le_of_ble_eq_true rfl) (Nat.le_of_ble_eq_true rfl) hQ (Or.inr (Or.inl ⟨hcd, b20_2, rfl, rfl, rfl⟩))
  · have hP : va_P D clW (wM cy ad (va_up I 0 (afC I x b t)) S) H := hP
    have hD : va_D A (wM cy ad (va_up I 0 (afC I x b t)) S) := hD
    refine lv_if_eq (tgt := 41) hx hb dX7_findsPeriod_7 (by decide) (fun _ => ?_) (fun c => absurd (by decide) c)
    refine lv_iconst (v := 0) hx hb dX7_findsPeriod_41 (by decide) ?_
    exact wZ_ret ((va_up I 0 (afC I x b t)), S) hS hP hx hb hr hlocks dX7_findsPeriod_42 narZ0 (Nat.le_of_ble_eq_true rfl) (Nat.le_of_ble_eq_true rfl) hQ (Or.inr (Or.inr ⟨hcd, rfl, rfl, rfl⟩))

set_option maxHeartbeats 4000000 in
set_option maxRecDepth 100000 in
theorem c_X7_periodCount (l : Launch) (D : va_G) (cy : Nat → ClassId) (ad : Nat → Nat) (I : AI) (S : AS) (sz : Nat) (x : Int32) (b : Int32) (t : Int32) (k : Nat) (hk : I 3 = nI k) (hk8 : k ≤ 256) (fr : Nat → Nat) (to : Nat → Nat) (hfr : ∀ i : Nat, i < k → S 5 i = nI (fr i) ∧ S 6 i = nI (to i) ∧ fr i ≤ to i ∧ to i ≤ 100) : Met l yX7_periodCount (Cond.code yX7_periodCount cX7_periodCount 4 (some .int) :: wsL_law) ({ frames := 4, cells := 0, slots := 0, locals := 90 }) (va_Pc [.ref (ad 0), .int x, .int b, .int t] (wrB D cy (wM cy ad I S) sz)) (va_Qi (S := AI × AS) (fun r u => msc I S u.1 u.2 ∧ (¬ afC I x b t = 0 → u.1 0 = afC I x b t) ∧ (afC I x b t = 0 → u.1 0 = 0 ∧ r = nI (pmM S (slM x b) t fr to k).1)) (fun u t9 => va_P D clW (wM cy ad u.1 u.2) t9.heap) (va_A (wM cy ad I S) sz)) 0 0 (va_A (wM cy ad I S) sz) := by
  refine enter (cc := cX7_periodCount) (by decide) (Nat.le_of_ble_eq_true rfl) ?_
  intro p e s m below meth c hx hb hr hml hown hts hlocks hin hv Q hQ ls hl
  obtain ⟨hsz, hP, hK, hD0⟩ := hv
  subst hsz
  have hD := hD0.self (sz := s.heap.size)
  generalize hAe : va_A (wM cy ad I S) s.heap.size = A at hD hQ ⊢
  have hA : ∀ q : Nat, s.heap.size ≤ q → A q := fun q h => by rw [← hAe]; exact Or.inr h
  have hS : va_S A s.heap s.heap [] := va_S.rf
  suffices K_ : ∀ (H : Heap) (locs : List Loc), va_P D clW (wM cy ad I S) H → va_S A s.heap H locs → W p l e ({ frames := 4, cells := 0, slots := 0, locals := 90 }) s m ([.ref (ad 0), .int x, .int b, .int t] : List Value).toArray below meth c H locs 0 0 Q (F0 m 0 ls []) from K_ _ _ hP hS
  clear hP hS
  intro H locs hP hS
  have hown : s.vm.findClass RX7 = some m.cls := hown
  have hl : lv_has ls 4 [(0, .ref (ad 0)), (1, .int x), (2, .int b), (3, .int t)] := hl
  refine lv_aload_n hx hb dX7_periodCount_0 rfl (lv_at hl 0 rfl) ?_
  refine lv_iload_n hx hb dX7_periodCount_1 rfl (lv_at hl 1 rfl) ?_
  refine lv_iload_n hx hb dX7_periodCount_2 rfl (lv_at hl 2 rfl) ?_
  refine lv_iload_n hx hb dX7_periodCount_3 rfl (lv_at hl 3 rfl) ?_
  refine wI_call (va_runV (As := [.int x, .int b, .int t]) (rest := []) ⟨hx, hb, hml, hown, hts⟩ (c_X7_findsPeriods l D cy ad I S H.size x b t k hk hk8 fr to hfr) (cw_X7_147 hts rfl rfl ⟨Nat.le_of_ble_eq_true rfl, Nat.le_of_ble_eq_true rfl⟩) (preVW (ci := 7) (q0 := 0) hK hP hD rfl rfl) rfl rfl hl.1 rfl (lv_room (Nat.le_of_ble_eq_true rfl)) dX7_periodCount_4 ⟨Nat.le_of_ble_eq_true rfl, Nat.le_of_ble_eq_true rfl⟩) hP hD hS hA [0, 1, 2, 3, 4, 5, 6, 7, 8, 9, 10, 11, 12, 13, 14, 15, 16] rfl [.inr 0, .inr 1, .inr 2, .inr 3, .inr 4, .inr 5, .inr 6, .inr 7, .inr 8, .inr 9, .inr 10, .inr 11, .inr 12, .inr 13, .inr 14, .inr 15, .inr 16] (by decide) (fun u => (wM cy ad u.1 u.2)) (fun _ => rfl) (fun _ => rfl) (fun r4_1 u4_1 H locs q4_1 hP hD hS hkp => ?_)
  obtain ⟨I2_1, S2_1⟩ := u4_1
  have hP : va_P D clW (wM cy ad I2_1 S2_1) H := hP
  have hD : va_D A (wM cy ad I2_1 S2_1) := hD
  rcases q4_1 with ⟨hcd, rfl, rfl, rfl⟩ | ⟨hcd, rfl, rfl, rfl⟩
  · have hP : va_P D clW (wM cy ad (va_up (va_up I 0 (afC I x b t)) 6 (nI (pmM S (slM x b) t fr to k).1)) (va_up (va_up (va_up S 10 (lkN S (slM x b) t fr to (S 10) k)) 12 (pmM S (slM x b) t fr to k).2.1) 13 (pmM S (slM x b) t fr to k).2.2)) H := hP
    have hD : va_D A (wM cy ad (va_up (va_up I 0 (afC I x b t)) 6 (nI (pmM S (slM x b) t fr to k).1)) (va_up (va_up (va_up S 10 (lkN S (slM x b) t fr to (S 10) k)) 12 (pmM S (slM x b) t fr to k).2.1) 13 (pmM S (slM x b) t fr to k).2.2)) := hD
    refine lv_if_eq (tgt := 17) hx hb dX7_periodCount_7 (by decide) (fun c => absurd c (by decide)) (fun _ => ?_)
    refine lv_aload_n hx hb dX7_periodCount_10 rfl (lv_at hl 0 rfl) ?_
    refine gf_X7_136 hx hb hts hown hK hP 0 rfl (v := .int (nI (pmM S (slM x b) t fr to k).1)) rfl dX7_periodCount_11 ?_
    refine lv_goto (tgt := 18) hx hb dX7_periodCount_14 (by decide) ?_
    exact wI_ret ((va_up (va_up I 0 (afC I x b t)) 6 (nI (pmM S (slM x b) t fr to k).1)), (va_up (va_up (va_up S 10 (lkN S (slM x b) t fr to (S 10) k)) 12 (pmM S (slM x b) t fr to k).2.1) 13 (pmM S (slM x b) t fr to k).2.2)) hS hP hx hb hr hlocks dX7_periodCount_18 (Nat.le_of_ble_eq_true rfl) (Nat.le_of_ble_eq_true rfl) hQ ⟨(msc_S (msc_S (msc_S (msc_I (msc_I (msc_0 I S) (by decide) _) (by decide) _) (by decide) _) (by decide) _) (by decide) _), fun q => absurd hcd q, fun _ => ⟨hcd, rfl⟩⟩
  · have hP : va_P D clW (wM cy ad (va_up I 0 (afC I x b t)) S) H := hP
    have hD : va_D A (wM cy ad (va_up I 0 (afC I x b t)) S) := hD
    refine lv_if_eq (tgt := 17) hx hb dX7_periodCount_7 (by decide) (fun _ => ?_) (fun c => absurd (by decide) c)
    refine lv_iconst (v := 0) hx hb dX7_periodCount_17 (by decide) ?_
    exact wI_ret ((va_up I 0 (afC I x b t)), S) hS hP hx hb hr hlocks dX7_periodCount_18 (Nat.le_of_ble_eq_true rfl) (Nat.le_of_ble_eq_true rfl) hQ ⟨(msc_I (msc_0 I S) (by decide) _), fun _ => rfl, fun q => absurd q hcd⟩

set_option maxHeartbeats 4000000 in
set_option maxRecDepth 100000 in
theorem c_X7_periodFrom (l : Launch) (D : va_G) (cy : Nat → ClassId) (ad : Nat → Nat) (I : AI) (S : AS) (sz : Nat) (x : Int32) (b : Int32) (t : Int32) (ix : Int32) (k : Nat) (hk : I 3 = nI k) (hk8 : k ≤ 256) (fr : Nat → Nat) (to : Nat → Nat) (hfr : ∀ i : Nat, i < k → S 5 i = nI (fr i) ∧ S 6 i = nI (to i) ∧ fr i ≤ to i ∧ to i ≤ 100) : Met l yX7_periodFrom (Cond.code yX7_periodFrom cX7_periodFrom 5 (some .int) :: wsL_law) ({ frames := 5, cells := 0, slots := 0, locals := 114 }) (va_Pc [.ref (ad 0), .int x, .int b, .int t, .int ix] (wrB D cy (wM cy ad I S) sz)) (va_Qi (S := AI × AS) (fun r u => msc I S u.1 u.2 ∧ (¬ afC I x b t = 0 → u.1 0 = afC I x b t) ∧ (afC I x b t = 0 → (inB ix 0 (nI (pmM S (slM x b) t fr to k).1 - 1) = true ∧ u.1 0 = 0 ∧ r = (pmM S (slM x b) t fr to k).2.1 ix.toNatClampNeg) ∨ (¬ inB ix 0 (nI (pmM S (slM x b) t fr to k).1 - 1) = true ∧ u.1 0 = 4))) (fun u t9 => va_P D clW (wM cy ad u.1 u.2) t9.heap) (va_A (wM cy ad I S) sz)) 0 0 (va_A (wM cy ad I S) sz) := by
  refine enter (cc := cX7_periodFrom) (by decide) (Nat.le_of_ble_eq_true rfl) ?_
  intro p e s m below meth c hx hb hr hml hown hts hlocks hin hv Q hQ ls hl
  obtain ⟨hsz, hP, hK, hD0⟩ := hv
  subst hsz
  have hD := hD0.self (sz := s.heap.size)
  generalize hAe : va_A (wM cy ad I S) s.heap.size = A at hD hQ ⊢
  have hA : ∀ q : Nat, s.heap.size ≤ q → A q := fun q h => by rw [← hAe]; exact Or.inr h
  have hS : va_S A s.heap s.heap [] := va_S.rf
  suffices K_ : ∀ (H : Heap) (locs : List Loc), va_P D clW (wM cy ad I S) H → va_S A s.heap H locs → W p l e ({ frames := 5, cells := 0, slots := 0, locals := 114 }) s m ([.ref (ad 0), .int x, .int b, .int t, .int ix] : List Value).toArray below meth c H locs 0 0 Q (F0 m 0 ls []) from K_ _ _ hP hS
  clear hP hS
  intro H locs hP hS
  have hown : s.vm.findClass RX7 = some m.cls := hown
  have hl : lv_has ls 5 [(0, .ref (ad 0)), (1, .int x), (2, .int b), (3, .int t), (4, .int ix)] := hl
  refine lv_aload_n hx hb dX7_periodFrom_0 rfl (lv_at hl 0 rfl) ?_
  refine lv_iload_n hx hb dX7_periodFrom_1 rfl (lv_at hl 1 rfl) ?_
  refine lv_iload_n hx hb dX7_periodFrom_2 rfl (lv_at hl 2 rfl) ?_
  refine lv_iload_n hx hb dX7_periodFrom_3 rfl (lv_at hl 3 rfl) ?_
  refine lv_iload hx hb dX7_periodFrom_4 (lv_at hl 4 rfl) ?_
  refine wI_call (va_runV (As := [.int x, .int b, .int t, .int ix]) (rest := []) ⟨hx, hb, hml, hown, hts⟩ (c_X7_findsPeriod l D cy ad I S H.size x b t ix k hk hk8 fr to hfr) (cw_X7_150 hts rfl rfl ⟨Nat.le_of_ble_eq_true rfl, Nat.le_of_ble_eq_true rfl⟩) (preVW (ci := 7) (q0 := 0) hK hP hD rfl rfl) rfl rfl hl.1 rfl (lv_room (Nat.le_of_ble_eq_true rfl)) dX7_periodFrom_6 ⟨Nat.le_of_ble_eq_true rfl, Nat.le_of_ble_eq_true rfl⟩) hP hD hS hA [0, 1, 2, 3, 4, 5, 6, 7, 8, 9, 10, 11, 12, 13, 14, 15, 16] rfl [.inr 0, .inr 1, .inr 2, .inr 3, .inr 4, .inr 5, .inr 6, .inr 7, .inr 8, .inr 9, .inr 10, .inr 11, .inr 12, .inr 13, .inr 14, .inr 15, .inr 16] (by decide) (fun u => (wM cy ad u.1 u.2)) (fun _ => rfl) (fun _ => rfl) (fun r6_1 u6_1 H locs q6_1 hP hD hS hkp => ?_)
  obtain ⟨I2_1, S2_1⟩ := u6_1
  have hP : va_P D clW (wM cy ad I2_1 S2_1) H := hP
  have hD : va_D A (wM cy ad I2_1 S2_1) := hD
  rcases q6_1 with ⟨hcd, hix, rfl, rfl, rfl⟩ | ⟨hcd, hix, rfl, rfl, rfl⟩ | ⟨hcd, rfl, rfl, rfl⟩
  · have hP : va_P D clW (wM cy ad (va_up (va_up I 6 (nI (pmM S (slM x b) t fr to k).1)) 0 0) (va_up (va_up (va_up S 10 (lkN S (slM x b) t fr to (S 10) k)) 12 (pmM S (slM x b) t fr to k).2.1) 13 (pmM S (slM x b) t fr to k).2.2)) H := hP
    have hD : va_D A (wM cy ad (va_up (va_up I 6 (nI (pmM S (slM x b) t fr to k).1)) 0 0) (va_up (va_up (va_up S 10 (lkN S (slM x b) t fr to (S 10) k)) 12 (pmM S (slM x b) t fr to k).2.1) 13 (pmM S (slM x b) t fr to k).2.2)) := hD
    have hpl : (pmM S (slM x b) t fr to k).1 ≤ 100 := pmS_le (S 4) (lkM S (slM x b) t fr to k) (S 11) false (S 12) (S 13) 100
    obtain ⟨j, hj, hxj⟩ := in_vp hix (n := 100) hpl (by decide)
    have hj9 : j < 100 := Nat.lt_of_lt_of_le hj hpl
    refine lv_if_eq (tgt := 22) hx hb dX7_periodFrom_9 (by decide) (fun c => absurd c (by decide)) (fun _ => ?_)
    refine lv_aload_n hx hb dX7_periodFrom_12 rfl (lv_at hl 0 rfl) ?_
    refine gf_X7_45 hx hb hts hown hK hP 0 rfl (v := .ref (ad 12)) rfl dX7_periodFrom_13 ?_
    refine lv_iload hx hb dX7_periodFrom_16 (lv_at hl 4 rfl) ?_
    refine ald_Ix (f := (pmM S (slM x b) t fr to k).2.1) hx hb hK hP 12 rfl (by rw [hxj]; exact vp_in_nI (by omega) (by decide)) dX7_periodFrom_18 ?_
    refine lv_goto (tgt := 23) hx hb dX7_periodFrom_19 (by decide) ?_
    exact wI_ret ((va_up (va_up I 6 (nI (pmM S (slM x b) t fr to k).1)) 0 0), (va_up (va_up (va_up S 10 (lkN S (slM x b) t fr to (S 10) k)) 12 (pmM S (slM x b) t fr to k).2.1) 13 (pmM S (slM x b) t fr to k).2.2)) hS hP hx hb hr hlocks dX7_periodFrom_23 (Nat.le_of_ble_eq_true rfl) (Nat.le_of_ble_eq_true rfl) hQ ⟨(msc_S (msc_S (msc_S (msc_I (msc_I (msc_0 I S) (by decide) _) (by decide) _) (by decide) _) (by decide) _) (by decide) _), fun q => absurd hcd q, fun _ => Or.inl ⟨hix, rfl, rfl⟩⟩
  · have hP : va_P D clW (wM cy ad (va_up (va_up I 6 (nI (pmM S (slM x b) t fr to k).1)) 0 4) (va_up (va_up (va_up S 10 (lkN S (slM x b) t fr to (S 10) k)) 12 (pmM S (slM x b) t fr to k).2.1) 13 (pmM S (slM x b) t fr to k).2.2)) H := hP
    have hD : va_D A (wM cy ad (va_up (va_up I 6 (nI (pmM S (slM x b) t fr to k).1)) 0 4) (va_up (va_up (va_up S 10 (lkN S (slM x b) t fr to (S 10) k)) 12 (pmM S (slM x b) t fr to k).2.1) 13 (pmM S (slM x b) t fr to k).2.2)) := hD
    refine lv_if_eq (tgt := 22) hx hb dX7_periodFrom_9 (by decide) (fun _ => ?_) (fun c => absurd (by decide) c)
    refine lv_iconst (v := 0) hx hb dX7_periodFrom_22 (by decide) ?_
    exact wI_ret ((va_up (va_up I 6 (nI (pmM S (slM x b) t fr to k).1)) 0 4), (va_up (va_up (va_up S 10 (lkN S (slM x b) t fr to (S 10) k)) 12 (pmM S (slM x b) t fr to k).2.1) 13 (pmM S (slM x b) t fr to k).2.2)) hS hP hx hb hr hlocks dX7_periodFrom_23 (Nat.le_of_ble_eq_true rfl) (Nat.le_of_ble_eq_true rfl) hQ ⟨(msc_S (msc_S (msc_S (msc_I (msc_I (msc_0 I S) (by decide) _) (by decide) _) (by decide) _) (by decide) _) (by decide) _), fun q => absurd hcd q, fun _ => Or.inr ⟨hix, rfl⟩⟩
  · have hP : va_P D clW (wM cy ad (va_up I 0 (afC I x b t)) S) H := hP
    have hD : va_D A (wM cy ad (va_up I 0 (afC I x b t)) S) := hD
    refine lv_if_eq (tgt := 22) hx hb dX7_periodFrom_9 (by decide) (fun _ => ?_) (fun c => absurd (by decide) c)
    refine lv_iconst (v := 0) hx hb dX7_periodFrom_22 (by decide) ?_
    exact wI_ret ((va_up I 0 (afC I x b t)), S) hS hP hx hb hr hlocks dX7_periodFrom_23 (Nat.le_of_ble_eq_true rfl) (Nat.le_of_ble_eq_true rfl) hQ ⟨(msc_I (msc_0 I S) (by decide) _), fun _ => rfl, fun q => absurd q hcd⟩

set_option maxHeartbeats 4000000 in
set_option maxRecDepth 100000 in
theorem c_X7_periodTo (l : Launch) (D : va_G) (cy : Nat → ClassId) (ad : Nat → Nat) (I : AI) (S : AS) (sz : Nat) (x : Int32) (b : Int32) (t : Int32) (ix : Int32) (k : Nat) (hk : I 3 = nI k) (hk8 : k ≤ 256) (fr : Nat → Nat) (to : Nat → Nat) (hfr : ∀ i : Nat, i < k → S 5 i = nI (fr i) ∧ S 6 i = nI (to i) ∧ fr i ≤ to i ∧ to i ≤ 100) : Met l yX7_periodTo (Cond.code yX7_periodTo cX7_periodTo 5 (some .int) :: wsL_law) ({ frames := 5, cells := 0, slots := 0, locals := 114 }) (va_Pc [.ref (ad 0), .int x, .int b, .int t, .int ix] (wrB D cy (wM cy ad I S) sz)) (va_Qi (S := AI × AS) (fun r u => msc I S u.1 u.2 ∧ (¬ afC I x b t = 0 → u.1 0 = afC I x b t) ∧ (afC I x b t = 0 → (inB ix 0 (nI (pmM S (slM x b) t fr to k).1 - 1) = true ∧ u.1 0 = 0 ∧ r = (pmM S (slM x b) t fr to k).2.2 ix.toNatClampNeg) ∨ (¬ inB ix 0 (nI (pmM S (slM x b) t fr to k).1 - 1) = true ∧ u.1 0 = 4))) (fun u t9 => va_P D clW (wM cy ad u.1 u.2) t9.heap) (va_A (wM cy ad I S) sz)) 0 0 (va_A (wM cy ad I S) sz) := by
  refine enter (cc := cX7_periodTo) (by decide) (Nat.le_of_ble_eq_true rfl) ?_
  intro p e s m below meth c hx hb hr hml hown hts hlocks hin hv Q hQ ls hl
  obtain ⟨hsz, hP, hK, hD0⟩ := hv
  subst hsz
  have hD := hD0.self (sz := s.heap.size)
  generalize hAe : va_A (wM cy ad I S) s.heap.size = A at hD hQ ⊢
  have hA : ∀ q : Nat, s.heap.size ≤ q → A q := fun q h => by rw [← hAe]; exact Or.inr h
  have hS : va_S A s.heap s.heap [] := va_S.rf
  suffices K_ : ∀ (H : Heap) (locs : List Loc), va_P D clW (wM cy ad I S) H → va_S A s.heap H locs → W p l e ({ frames := 5, cells := 0, slots := 0, locals := 114 }) s m ([.ref (ad 0), .int x, .int b, .int t, .int ix] : List Value).toArray below meth c H locs 0 0 Q (F0 m 0 ls []) from K_ _ _ hP hS
  clear hP hS
  intro H locs hP hS
  have hown : s.vm.findClass RX7 = some m.cls := hown
  have hl : lv_has ls 5 [(0, .ref (ad 0)), (1, .int x), (2, .int b), (3, .int t), (4, .int ix)] := hl
  refine lv_aload_n hx hb dX7_periodTo_0 rfl (lv_at hl 0 rfl) ?_
  refine lv_iload_n hx hb dX7_periodTo_1 rfl (lv_at hl 1 rfl) ?_
  refine lv_iload_n hx hb dX7_periodTo_2 rfl (lv_at hl 2 rfl) ?_
  refine lv_iload_n hx hb dX7_periodTo_3 rfl (lv_at hl 3 rfl) ?_
  refine lv_iload hx hb dX7_periodTo_4 (lv_at hl 4 rfl) ?_
  refine wI_call (va_runV (As := [.int x, .int b, .int t, .int ix]) (rest := []) ⟨hx, hb, hml, hown, hts⟩ (c_X7_findsPeriod l D cy ad I S H.size x b t ix k hk hk8 fr to hfr) (cw_X7_150 hts rfl rfl ⟨Nat.le_of_ble_eq_true rfl, Nat.le_of_ble_eq_true rfl⟩) (preVW (ci := 7) (q0 := 0) hK hP hD rfl rfl) rfl rfl hl.1 rfl (lv_room (Nat.le_of_ble_eq_true rfl)) dX7_periodTo_6 ⟨Nat.le_of_ble_eq_true rfl, Nat.le_of_ble_eq_true rfl⟩) hP hD hS hA [0, 1, 2, 3, 4, 5, 6, 7, 8, 9, 10, 11, 12, 13, 14, 15, 16] rfl [.inr 0, .inr 1, .inr 2, .inr 3, .inr 4, .inr 5, .inr 6, .inr 7, .inr 8, .inr 9, .inr 10, .inr 11, .inr 12, .inr 13, .inr 14, .inr 15, .inr 16] (by decide) (fun u => (wM cy ad u.1 u.2)) (fun _ => rfl) (fun _ => rfl) (fun r6_1 u6_1 H locs q6_1 hP hD hS hkp => ?_)
  obtain ⟨I2_1, S2_1⟩ := u6_1
  have hP : va_P D clW (wM cy ad I2_1 S2_1) H := hP
  have hD : va_D A (wM cy ad I2_1 S2_1) := hD
  rcases q6_1 with ⟨hcd, hix, rfl, rfl, rfl⟩ | ⟨hcd, hix, rfl, rfl, rfl⟩ | ⟨hcd, rfl, rfl, rfl⟩
  · have hP : va_P D clW (wM cy ad (va_up (va_up I 6 (nI (pmM S (slM x b) t fr to k).1)) 0 0) (va_up (va_up (va_up S 10 (lkN S (slM x b) t fr to (S 10) k)) 12 (pmM S (slM x b) t fr to k).2.1) 13 (pmM S (slM x b) t fr to k).2.2)) H := hP
    have hD : va_D A (wM cy ad (va_up (va_up I 6 (nI (pmM S (slM x b) t fr to k).1)) 0 0) (va_up (va_up (va_up S 10 (lkN S (slM x b) t fr to (S 10) k)) 12 (pmM S (slM x b) t fr to k).2.1) 13 (pmM S (slM x b) t fr to k).2.2)) := hD
    have hpl : (pmM S (slM x b) t fr to k).1 ≤ 100 := pmS_le (S 4) (lkM S (slM x b) t fr to k) (S 11) false (S 12) (S 13) 100
    obtain ⟨j, hj, hxj⟩ := in_vp hix (n := 100) hpl (by decide)
    have hj9 : j < 100 := Nat.lt_of_lt_of_le hj hpl
    refine lv_if_eq (tgt := 22) hx hb dX7_periodTo_9 (by decide) (fun c => absurd c (by decide)) (fun _ => ?_)
    refine lv_aload_n hx hb dX7_periodTo_12 rfl (lv_at hl 0 rfl) ?_
    refine gf_X7_48 hx hb hts hown hK hP 0 rfl (v := .ref (ad 13)) rfl dX7_periodTo_13 ?_
    refine lv_iload hx hb dX7_periodTo_16 (lv_at hl 4 rfl) ?_
    refine ald_Ix (f := (pmM S (slM x b) t fr to k).2.2) hx hb hK hP 13 rfl (by rw [hxj]; exact vp_in_nI (by omega) (by decide)) dX7_periodTo_18 ?_
    refine lv_goto (tgt := 23) hx hb dX7_periodTo_19 (by decide) ?_
    exact wI_ret ((va_up (va_up I 6 (nI (pmM S (slM x b) t fr to k).1)) 0 0), (va_up (va_up (va_up S 10 (lkN S (slM x b) t fr to (S 10) k)) 12 (pmM S (slM x b) t fr to k).2.1) 13 (pmM S (slM x b) t fr to k).2.2)) hS hP hx hb hr hlocks dX7_periodTo_23 (Nat.le_of_ble_eq_true rfl) (Nat.le_of_ble_eq_true rfl) hQ ⟨(msc_S (msc_S (msc_S (msc_I (msc_I (msc_0 I S) (by decide) _) (by decide) _) (by decide) _) (by decide) _) (by decide) _), fun q => absurd hcd q, fun _ => Or.inl ⟨hix, rfl, rfl⟩⟩
  · have hP : va_P D clW (wM cy ad (va_up (va_up I 6 (nI (pmM S (slM x b) t fr to k).1)) 0 4) (va_up (va_up (va_up S 10 (lkN S (slM x b) t fr to (S 10) k)) 12 (pmM S (slM x b) t fr to k).2.1) 13 (pmM S (slM x b) t fr to k).2.2)) H := hP
    have hD : va_D A (wM cy ad (va_up (va_up I 6 (nI (pmM S (slM x b) t fr to k).1)) 0 4) (va_up (va_up (va_up S 10 (lkN S (slM x b) t fr to (S 10) k)) 12 (pmM S (slM x b) t fr to k).2.1) 13 (pmM S (slM x b) t fr to k).2.2)) := hD
    refine lv_if_eq (tgt := 22) hx hb dX7_periodTo_9 (by decide) (fun _ => ?_) (fun c => absurd (by decide) c)
    refine lv_iconst (v := 0) hx hb dX7_periodTo_22 (by decide) ?_
    exact wI_ret ((va_up (va_up I 6 (nI (pmM S (slM x b) t fr to k).1)) 0 4), (va_up (va_up (va_up S 10 (lkN S (slM x b) t fr to (S 10) k)) 12 (pmM S (slM x b) t fr to k).2.1) 13 (pmM S (slM x b) t fr to k).2.2)) hS hP hx hb hr hlocks dX7_periodTo_23 (Nat.le_of_ble_eq_true rfl) (Nat.le_of_ble_eq_true rfl) hQ ⟨(msc_S (msc_S (msc_S (msc_I (msc_I (msc_0 I S) (by decide) _) (by decide) _) (by decide) _) (by decide) _) (by decide) _), fun q => absurd hcd q, fun _ => Or.inr ⟨hix, rfl⟩⟩
  · have hP : va_P D clW (wM cy ad (va_up I 0 (afC I x b t)) S) H := hP
    have hD : va_D A (wM cy ad (va_up I 0 (afC I x b t)) S) := hD
    refine lv_if_eq (tgt := 22) hx hb dX7_periodTo_9 (by decide) (fun _ => ?_) (fun c => absurd (by decide) c)
    refine lv_iconst (v := 0) hx hb dX7_periodTo_22 (by decide) ?_
    exact wI_ret ((va_up I 0 (afC I x b t)), S) hS hP hx hb hr hlocks dX7_periodTo_23 (Nat.le_of_ble_eq_true rfl) (Nat.le_of_ble_eq_true rfl) hQ ⟨(msc_I (msc_0 I S) (by decide) _), fun _ => rfl, fun q => absurd q hcd⟩

set_option maxHeartbeats 4000000 in
set_option maxRecDepth 100000 in
theorem c_X7_periodValue (l : Launch) (D : va_G) (cy : Nat → ClassId) (ad : Nat → Nat) (I : AI) (S : AS) (sz : Nat) (x : Int32) (b : Int32) (t : Int32) (ix : Int32) (k : Nat) (hk : I 3 = nI k) (hk8 : k ≤ 256) (fr : Nat → Nat) (to : Nat → Nat) (hfr : ∀ i : Nat, i < k → S 5 i = nI (fr i) ∧ S 6 i = nI (to i) ∧ fr i ≤ to i ∧ to i ≤ 100) : Met l yX7_periodValue (Cond.code yX7_periodValue cX7_periodValue 5 (some .int) :: wsL_law) ({ frames := 5, cells := 0, slots := 0, locals := 114 }) (va_Pc [.ref (ad 0), .int x, .int b, .int t, .int ix] (wrB D cy (wM cy ad I S) sz)) (va_Qi (S := AI × AS) (fun r u => msc I S u.1 u.2 ∧ (¬ afC I x b t = 0 → u.1 0 = afC I x b t) ∧ (afC I x b t = 0 → (inB ix 0 (nI (pmM S (slM x b) t fr to k).1 - 1) = true ∧ u.1 0 = 0 ∧ r = S 4 (lkM S (slM x b) t fr to k ((pmM S (slM x b) t fr to k).2.1 ix.toNatClampNeg).toNatClampNeg).toNatClampNeg) ∨ (¬ inB ix 0 (nI (pmM S (slM x b) t fr to k).1 - 1) = true ∧ u.1 0 = 4))) (fun u t9 => va_P D clW (wM cy ad u.1 u.2) t9.heap) (va_A (wM cy ad I S) sz)) 0 0 (va_A (wM cy ad I S) sz) := by
  refine enter (cc := cX7_periodValue) (by decide) (Nat.le_of_ble_eq_true rfl) ?_
  intro p e s m below meth c hx hb hr hml hown hts hlocks hin hv Q hQ ls hl
  obtain ⟨hsz, hP, hK, hD0⟩ := hv
  subst hsz
  have hD := hD0.self (sz := s.heap.size)
  generalize hAe : va_A (wM cy ad I S) s.heap.size = A at hD hQ ⊢
  have hA : ∀ q : Nat, s.heap.size ≤ q → A q := fun q h => by rw [← hAe]; exact Or.inr h
  have hS : va_S A s.heap s.heap [] := va_S.rf
  suffices K_ : ∀ (H : Heap) (locs : List Loc), va_P D clW (wM cy ad I S) H → va_S A s.heap H locs → W p l e ({ frames := 5, cells := 0, slots := 0, locals := 114 }) s m ([.ref (ad 0), .int x, .int b, .int t, .int ix] : List Value).toArray below meth c H locs 0 0 Q (F0 m 0 ls []) from K_ _ _ hP hS
  clear hP hS
  intro H locs hP hS
  have hown : s.vm.findClass RX7 = some m.cls := hown
  have hl : lv_has ls 5 [(0, .ref (ad 0)), (1, .int x), (2, .int b), (3, .int t), (4, .int ix)] := hl
  refine lv_aload_n hx hb dX7_periodValue_0 rfl (lv_at hl 0 rfl) ?_
  refine lv_iload_n hx hb dX7_periodValue_1 rfl (lv_at hl 1 rfl) ?_
  refine lv_iload_n hx hb dX7_periodValue_2 rfl (lv_at hl 2 rfl) ?_
  refine lv_iload_n hx hb dX7_periodValue_3 rfl (lv_at hl 3 rfl) ?_
  refine lv_iload hx hb dX7_periodValue_4 (lv_at hl 4 rfl) ?_
  refine wI_call (va_runV (As := [.int x, .int b, .int t, .int ix]) (rest := []) ⟨hx, hb, hml, hown, hts⟩ (c_X7_findsPeriod l D cy ad I S H.size x b t ix k hk hk8 fr to hfr) (cw_X7_150 hts rfl rfl ⟨Nat.le_of_ble_eq_true rfl, Nat.le_of_ble_eq_true rfl⟩) (preVW (ci := 7) (q0 := 0) hK hP hD rfl rfl) rfl rfl hl.1 rfl (lv_room (Nat.le_of_ble_eq_true rfl)) dX7_periodValue_6 ⟨Nat.le_of_ble_eq_true rfl, Nat.le_of_ble_eq_true rfl⟩) hP hD hS hA [0, 1, 2, 3, 4, 5, 6, 7, 8, 9, 10, 11, 12, 13, 14, 15, 16] rfl [.inr 0, .inr 1, .inr 2, .inr 3, .inr 4, .inr 5, .inr 6, .inr 7, .inr 8, .inr 9, .inr 10, .inr 11, .inr 12, .inr 13, .inr 14, .inr 15, .inr 16] (by decide) (fun u => (wM cy ad u.1 u.2)) (fun _ => rfl) (fun _ => rfl) (fun r6_1 u6_1 H locs q6_1 hP hD hS hkp => ?_)
  obtain ⟨I2_1, S2_1⟩ := u6_1
  have hP : va_P D clW (wM cy ad I2_1 S2_1) H := hP
  have hD : va_D A (wM cy ad I2_1 S2_1) := hD
  rcases q6_1 with ⟨hcd, hix, rfl, rfl, rfl⟩ | ⟨hcd, hix, rfl, rfl, rfl⟩ | ⟨hcd, rfl, rfl, rfl⟩
  · have hP : va_P D clW (wM cy ad (va_up (va_up I 6 (nI (pmM S (slM x b) t fr to k).1)) 0 0) (va_up (va_up (va_up S 10 (lkN S (slM x b) t fr to (S 10) k)) 12 (pmM S (slM x b) t fr to k).2.1) 13 (pmM S (slM x b) t fr to k).2.2)) H := hP
    have hD : va_D A (wM cy ad (va_up (va_up I 6 (nI (pmM S (slM x b) t fr to k).1)) 0 0) (va_up (va_up (va_up S 10 (lkN S (slM x b) t fr to (S 10) k)) 12 (pmM S (slM x b) t fr to k).2.1) 13 (pmM S (slM x b) t fr to k).2.2)) := hD
    have hpl : (pmM S (slM x b) t fr to k).1 ≤ 100 := pmS_le (S 4) (lkM S (slM x b) t fr to k) (S 11) false (S 12) (S 13) 100
    obtain ⟨j, hj, hxj⟩ := in_vp hix (n := 100) hpl (by decide)
    have hj9 : j < 100 := Nat.lt_of_lt_of_le hj hpl
    refine lv_if_eq (tgt := 32) hx hb dX7_periodValue_9 (by decide) (fun c => absurd c (by decide)) (fun _ => ?_)
    refine lv_aload_n hx hb dX7_periodValue_12 rfl (lv_at hl 0 rfl) ?_
    refine gf_X7_20 hx hb hts hown hK hP 0 rfl (v := .ref (ad 4)) rfl dX7_periodValue_13 ?_
    refine lv_aload_n hx hb dX7_periodValue_16 rfl (lv_at hl 0 rfl) ?_
    refine gf_X7_39 hx hb hts hown hK hP 0 rfl (v := .ref (ad 10)) rfl dX7_periodValue_17 ?_
    refine lv_aload_n hx hb dX7_periodValue_20 rfl (lv_at hl 0 rfl) ?_
    refine gf_X7_45 hx hb hts hown hK hP 0 rfl (v := .ref (ad 12)) rfl dX7_periodValue_21 ?_
    refine lv_iload hx hb dX7_periodValue_24 (lv_at hl 4 rfl) ?_
    refine ald_Ix (f := (pmM S (slM x b) t fr to k).2.1) hx hb hK hP 12 rfl (by rw [hxj]; exact vp_in_nI (by omega) (by decide)) dX7_periodValue_26 ?_
    refine ald_Ix (f := (lkN S (slM x b) t fr to (S 10) k)) hx hb hK hP 10 rfl (by rw [hxj, nI_clamp (by omega)]; obtain ⟨⟨x9, h1, h2, h3⟩, _⟩ := pm_F (S 4) (lkM S (slM x b) t fr to k) (S 11) false (S 12) (S 13) 100 j hj; rw [h2]; exact vp_in_nI h1 (by decide)) dX7_periodValue_27 ?_
    refine ald_Ix (f := (S 4)) hx hb hK hP 4 rfl (by rw [hxj, nI_clamp (by omega)]; obtain ⟨⟨x9, h1, h2, h3⟩, _⟩ := pm_F (S 4) (lkM S (slM x b) t fr to k) (S 11) false (S 12) (S 13) 100 j hj; rw [h2, nI_clamp (by omega)]; exact row_in (lk_row S (slM x b) t fr to (S 10) k) hk8 (by decide) h1 h3) dX7_periodValue_28 ?_
    refine lv_goto (tgt := 33) hx hb dX7_periodValue_29 (by decide) ?_
    exact wI_ret ((va_up (va_up I 6 (nI (pmM S (slM x b) t fr to k).1)) 0 0), (va_up (va_up (va_up S 10 (lkN S (slM x b) t fr to (S 10) k)) 12 (pmM S (slM x b) t fr to k).2.1) 13 (pmM S (slM x b) t fr to k).2.2)) hS hP hx hb hr hlocks dX7_periodValue_33 (Nat.le_of_ble_eq_true rfl) (Nat.le_of_ble_eq_true rfl) hQ ⟨(msc_S (msc_S (msc_S (msc_I (msc_I (msc_0 I S) (by decide) _) (by decide) _) (by decide) _) (by decide) _) (by decide) _), fun q => absurd hcd q, fun _ => Or.inl ⟨hix, rfl, rfl⟩⟩
  · have hP : va_P D clW (wM cy ad (va_up (va_up I 6 (nI (pmM S (slM x b) t fr to k).1)) 0 4) (va_up (va_up (va_up S 10 (lkN S (slM x b) t fr to (S 10) k)) 12 (pmM S (slM x b) t fr to k).2.1) 13 (pmM S (slM x b) t fr to k).2.2)) H := hP
    have hD : va_D A (wM cy ad (va_up (va_up I 6 (nI (pmM S (slM x b) t fr to k).1)) 0 4) (va_up (va_up (va_up S 10 (lkN S (slM x b) t fr to (S 10) k)) 12 (pmM S (slM x b) t fr to k).2.1) 13 (pmM S (slM x b) t fr to k).2.2)) := hD
    refine lv_if_eq (tgt := 32) hx hb dX7_periodValue_9 (by decide) (fun _ => ?_) (fun c => absurd (by decide) c)
    refine lv_iconst (v := 0) hx hb dX7_periodValue_32 (by decide) ?_
    exact wI_ret ((va_up (va_up I 6 (nI (pmM S (slM x b) t fr to k).1)) 0 4), (va_up (va_up (va_up S 10 (lkN S (slM x b) t fr to (S 10) k)) 12 (pmM S (slM x b) t fr to k).2.1) 13 (pmM S (slM x b) t fr to k).2.2)) hS hP hx hb hr hlocks dX7_periodValue_33 (Nat.le_of_ble_eq_true rfl) (Nat.le_of_ble_eq_true rfl) hQ ⟨(msc_S (msc_S (msc_S (msc_I (msc_I (msc_0 I S) (by decide) _) (by decide) _) (by decide) _) (by decide) _) (by decide) _), fun q => absurd hcd q, fun _ => Or.inr ⟨hix, rfl⟩⟩
  · have hP : va_P D clW (wM cy ad (va_up I 0 (afC I x b t)) S) H := hP
    have hD : va_D A (wM cy ad (va_up I 0 (afC I x b t)) S) := hD
    refine lv_if_eq (tgt := 32) hx hb dX7_periodValue_9 (by decide) (fun _ => ?_) (fun c => absurd (by decide) c)
    refine lv_iconst (v := 0) hx hb dX7_periodValue_32 (by decide) ?_
    exact wI_ret ((va_up I 0 (afC I x b t)), S) hS hP hx hb hr hlocks dX7_periodValue_33 (Nat.le_of_ble_eq_true rfl) (Nat.le_of_ble_eq_true rfl) hQ ⟨(msc_I (msc_0 I S) (by decide) _), fun _ => rfl, fun q => absurd q hcd⟩

set_option maxHeartbeats 4000000 in
set_option maxRecDepth 100000 in
theorem c_X7_integral (l : Launch) (D : va_G) (cy : Nat → ClassId) (ad : Nat → Nat) (I : AI) (S : AS) (sz : Nat) (x : Int32) (b : Int32) (t : Int32) (k : Nat) (hk : I 3 = nI k) (hk8 : k ≤ 256) (fr : Nat → Nat) (to : Nat → Nat) (hfr : ∀ i : Nat, i < k → S 5 i = nI (fr i) ∧ S 6 i = nI (to i) ∧ fr i ≤ to i ∧ to i ≤ 100) : Met l yX7_integral (Cond.code yX7_integral cX7_integral 7 (some .long) :: wsL_law) ({ frames := 3, cells := 0, slots := 0, locals := 67 }) (va_Pc [.ref (ad 0), .int x, .int b, .int t] (wrB D cy (wM cy ad I S) sz)) (va_Ql (S := AI × AS) (fun r u => msc I S u.1 u.2 ∧ u.1 0 = afC I x b t ∧ (afC I x b t = 0 → r = igN (S 4) (lkM S (slM x b) t fr to k) 100)) (fun u t9 => va_P D clW (wM cy ad u.1 u.2) t9.heap) (va_A (wM cy ad I S) sz)) 0 0 (va_A (wM cy ad I S) sz) := by
  refine enter (cc := cX7_integral) (by decide) (Nat.le_of_ble_eq_true rfl) ?_
  intro p e s m below meth c hx hb hr hml hown hts hlocks hin hv Q hQ ls hl
  obtain ⟨hsz, hP, hK, hD0⟩ := hv
  subst hsz
  have hD := hD0.self (sz := s.heap.size)
  generalize hAe : va_A (wM cy ad I S) s.heap.size = A at hD hQ ⊢
  have hA : ∀ q : Nat, s.heap.size ≤ q → A q := fun q h => by rw [← hAe]; exact Or.inr h
  have hS : va_S A s.heap s.heap [] := va_S.rf
  suffices K_ : ∀ (H : Heap) (locs : List Loc), va_P D clW (wM cy ad I S) H → va_S A s.heap H locs → W p l e ({ frames := 3, cells := 0, slots := 0, locals := 67 }) s m ([.ref (ad 0), .int x, .int b, .int t] : List Value).toArray below meth c H locs 0 0 Q (F0 m 0 ls []) from K_ _ _ hP hS
  clear hP hS
  intro H locs hP hS
  have hown : s.vm.findClass RX7 = some m.cls := hown
  have hl : lv_has ls 7 [(0, .ref (ad 0)), (1, .int x), (2, .int b), (3, .int t)] := hl
  refine lv_aload_n hx hb dX7_integral_0 rfl (lv_at hl 0 rfl) ?_
  refine lv_aload_n hx hb dX7_integral_1 rfl (lv_at hl 0 rfl) ?_
  refine lv_iload_n hx hb dX7_integral_2 rfl (lv_at hl 1 rfl) ?_
  refine lv_iload_n hx hb dX7_integral_3 rfl (lv_at hl 2 rfl) ?_
  refine lv_iload_n hx hb dX7_integral_4 rfl (lv_at hl 3 rfl) ?_
  refine rI_call (va_runV (As := [.int x, .int b, .int t]) (rest := [.ref (ad 0)]) ⟨hx, hb, hml, hown, hts⟩ (c_X7_askFault l D cy ad I S x b t) (cw_X7_133 hts rfl rfl ⟨Nat.le_of_ble_eq_true rfl, Nat.le_of_ble_eq_true rfl⟩) (preVR (ci := 7) (q0 := 0) hK hP rfl rfl) rfl rfl hl.1 rfl (lv_room (Nat.le_of_ble_eq_true rfl)) dX7_integral_5 ⟨Nat.le_of_ble_eq_true rfl, Nat.le_of_ble_eq_true rfl⟩) (fun r hr_ => ?_)
  subst hr_
  refine wI_call (va_runV (As := [.int (afC I x b t)]) (rest := []) ⟨hx, hb, hml, hown, hts⟩ (c_X7_goesOn l D cy ad I S H.size (afC I x b t)) (cw_X7_71 hts rfl rfl ⟨Nat.le_of_ble_eq_true rfl, Nat.le_of_ble_eq_true rfl⟩) (preVW (ci := 7) (q0 := 0) hK hP hD rfl rfl) rfl rfl hl.1 rfl (lv_room (Nat.le_of_ble_eq_true rfl)) dX7_integral_8 ⟨Nat.le_of_ble_eq_true rfl, Nat.le_of_ble_eq_true rfl⟩) hP hD hS hA [0, 1, 2, 3, 4, 5, 6, 7, 8, 9, 10, 11, 12, 13, 14, 15, 16] rfl [.inr 0, .inr 1, .inr 2, .inr 3, .inr 4, .inr 5, .inr 6, .inr 7, .inr 8, .inr 9, .inr 10, .inr 11, .inr 12, .inr 13, .inr 14, .inr 15, .inr 16] (by decide) (fun u => (wM cy ad (va_up I 0 (afC I x b t)) S)) (fun _ => rfl) (fun _ => rfl) (fun r8_1 u8_1 H locs q8_1 hP hD hS hkp => ?_)
  have hP : va_P D clW (wM cy ad (va_up I 0 (afC I x b t)) S) H := hP
  have hD : va_D A (wM cy ad (va_up I 0 (afC I x b t)) S) := hD
  by_cases b8_1 : (afC I x b t) = 0
  · rw [if_pos b8_1] at q8_1
    subst q8_1
    refine lv_if_ne (tgt := 16) hx hb dX7_integral_11 (by decide) (fun _ => ?_) (fun c => absurd c (by decide))
    refine lv_aload_n hx hb dX7_integral_16 rfl (lv_at hl 0 rfl) ?_
    refine lv_aload_n hx hb dX7_integral_17 rfl (lv_at hl 0 rfl) ?_
    refine gf_X7_39 hx hb hts hown hK hP 0 rfl (v := .ref (ad 10)) rfl dX7_integral_18 ?_
    refine lv_iload_n hx hb dX7_integral_21 rfl (lv_at hl 1 rfl) ?_
    refine lv_iload_n hx hb dX7_integral_22 rfl (lv_at hl 2 rfl) ?_
    refine rI_call (va_runS (As := [.int x, .int b]) (rest := [.ref (ad 10), .ref (ad 0)]) ⟨hx, hb, hml, hown, hts⟩ (c_X7_placeOf l D cy x b) (cw_X7_103 hts rfl rfl ⟨Nat.le_of_ble_eq_true rfl, Nat.le_of_ble_eq_true rfl⟩) (preSR hK (hP.sub [] rfl)) rfl rfl hl.1 rfl (lv_room (Nat.le_of_ble_eq_true rfl)) dX7_integral_23 ⟨Nat.le_of_ble_eq_true rfl, Nat.le_of_ble_eq_true rfl⟩) (fun r hr_ => ?_)
    subst hr_
    refine lv_iload_n hx hb dX7_integral_26 rfl (lv_at hl 3 rfl) ?_
    refine wV_call (va_runV (As := [.ref (ad 10), .int (slM x b), .int t]) (rest := []) ⟨hx, hb, hml, hown, hts⟩ (c_X7_looksAt_10 l D cy ad (va_up I 0 (afC I x b t)) S H.size (slM x b) t k hk hk8 fr to hfr) (cw_X7_111 hts rfl rfl ⟨Nat.le_of_ble_eq_true rfl, Nat.le_of_ble_eq_true rfl⟩) (preVW (ci := 7) (q0 := 0) hK hP hD rfl rfl) rfl rfl hl.1 rfl (lv_room (Nat.le_of_ble_eq_true rfl)) dX7_integral_27 ⟨Nat.le_of_ble_eq_true rfl, Nat.le_of_ble_eq_true rfl⟩) hP hD hS hA [0, 1, 2, 3, 4, 5, 6, 7, 8, 9, 10, 11, 12, 13, 14, 15, 16] rfl [.inr 0, .inr 1, .inr 2, .inr 3, .inr 4, .inr 5, .inr 6, .inr 7, .inr 8, .inr 9, .inr 10, .inr 11, .inr 12, .inr 13, .inr 14, .inr 15, .inr 16] (by decide) (fun u => (wM cy ad (va_up I 0 (afC I x b t)) (va_up S 10 (lkN S (slM x b) t fr to (S 10) k)))) (fun _ => rfl) (fun _ => rfl) (fun u27_2 H locs q27_2 hP hD hS hkp => ?_)
    have hP : va_P D clW (wM cy ad (va_up I 0 (afC I x b t)) (va_up S 10 (lkN S (slM x b) t fr to (S 10) k))) H := hP
    have hD : va_D A (wM cy ad (va_up I 0 (afC I x b t)) (va_up S 10 (lkN S (slM x b) t fr to (S 10) k))) := hD
    refine lv_lconst (v := 0) hx hb dX7_integral_30 (by decide) ?_
    refine lv_lstore (lv' := [(4, .long 0), (0, .ref (ad 0)), (1, .int x), (2, .int b), (3, .int t)]) hx hb dX7_integral_31 hl (by decide) rfl (fun ls hl => ?_)
    refine lv_iconst (v := 0) hx hb dX7_integral_33 (by decide) ?_
    refine lv_istore (lv' := [(6, .int 0), (4, .long 0), (0, .ref (ad 0)), (1, .int x), (2, .int b), (3, .int t)]) hx hb dX7_integral_34 hl (by decide) rfl (fun ls hl => ?_)
    have L36 : ∀ (n_36 i : Nat), i ≤ 100 → 100 + 1 ≤ i + n_36 → ∀ (H : Heap) (locs : List Loc), va_P D clW (wM cy ad (va_up I 0 (afC I x b t)) (va_up S 10 (lkN S (slM x b) t fr to (S 10) k))) H → va_D A (wM cy ad (va_up I 0 (afC I x b t)) (va_up S 10 (lkN S (slM x b) t fr to (S 10) k))) → va_S A s.heap H locs → ∀ (ls : Array Slot), lv_has ls 7 [(6, .int (nI i)), (4, .long (igN (S 4) (lkM S (slM x b) t fr to k) i)), (0, .ref (ad 0)), (1, .int x), (2, .int b), (3, .int t)] → W p l e { frames := 3, cells := 0, slots := 0, locals := 67 } s m ([.ref (ad 0), .int x, .int b, .int t] : List Value).toArray below meth c H locs 0 0 Q (F0 m 36 ls []) := by
      clear hl
      intro n_36
      induction n_36 with
      | zero => intro i  hle_36 hn_36; exact absurd hn_36 (by omega)
      | succ n_36 ih36 =>
        intro i  hle_36 hn_36  H locs hP hD hS ls hl
        refine lv_iload hx hb dX7_integral_36 (lv_at hl 0 rfl) ?_
        refine lv_bipush (v := 100) hx hb dX7_integral_38 (by decide) ?_
        refine lv_icmp_ge (tgt := 82) hx hb dX7_integral_40 (by decide) (fun c40_3 => ?_) (fun c40_3 => ?_)
        · have f40_3 : 100 ≤ i := nt_le (a := 100) (b := i) (by omega) (by omega) c40_3
          refine lv_lload hx hb dX7_integral_82 (lv_at hl 1 rfl) ?_
          exact wL_ret ((va_up I 0 (afC I x b t)), (va_up S 10 (lkN S (slM x b) t fr to (S 10) k))) hS hP hx hb hr hlocks dX7_integral_84 (Nat.le_of_ble_eq_true rfl) (Nat.le_of_ble_eq_true rfl) hQ ⟨(msc_S (msc_I (msc_0 I S) (by decide) _) (by decide) _), rfl, fun _ => by rw [show i = 100 by omega]⟩
        · have f40_3 : i < 100 := nt_nle (a := 100) (b := i) (by omega) (by omega) c40_3
          refine lv_lload hx hb dX7_integral_43 (lv_at hl 1 rfl) ?_
          refine lv_aload_n hx hb dX7_integral_45 rfl (lv_at hl 2 rfl) ?_
          refine gf_X7_39 hx hb hts hown hK hP 0 rfl (v := .ref (ad 10)) rfl dX7_integral_46 ?_
          refine lv_iload hx hb dX7_integral_49 (lv_at hl 0 rfl) ?_
          refine ald_I (f := (lkN S (slM x b) t fr to (S 10) k)) hx hb hK hP 10 rfl (i := i) (by omega) (by decide) dX7_integral_51 ?_
          refine lv_iconst (v := (-1)) hx hb dX7_integral_52 (by decide) ?_
          refine lv_icmp_ne (tgt := 60) hx hb dX7_integral_53 (by decide) (fun c53_4 => ?_) (fun c53_4 => ?_)
          · refine lv_aload_n hx hb dX7_integral_60 rfl (lv_at hl 2 rfl) ?_
            refine gf_X7_20 hx hb hts hown hK hP 0 rfl (v := .ref (ad 4)) rfl dX7_integral_61 ?_
            refine lv_aload_n hx hb dX7_integral_64 rfl (lv_at hl 2 rfl) ?_
            refine gf_X7_39 hx hb hts hown hK hP 0 rfl (v := .ref (ad 10)) rfl dX7_integral_65 ?_
            refine lv_iload hx hb dX7_integral_68 (lv_at hl 0 rfl) ?_
            refine ald_I (f := (lkN S (slM x b) t fr to (S 10) k)) hx hb hK hP 10 rfl (i := i) (by omega) (by decide) dX7_integral_70 ?_
            refine ald_Ix (f := (S 4)) hx hb hK hP 4 rfl (row_in (lk_row S (slM x b) t fr to (S 10) k) hk8 (by decide) (by omega) c53_4) dX7_integral_71 ?_
            refine lv_i2l (v := ((S 4) ((lkN S (slM x b) t fr to (S 10) k) i).toNatClampNeg).toInt64) hx hb dX7_integral_72 rfl ?_
            refine lv_ladd hx hb dX7_integral_73 ?_
            refine lv_lstore (lv' := [(4, .long ((igN (S 4) (lkM S (slM x b) t fr to k) i) + (((S 4) ((lkN S (slM x b) t fr to (S 10) k) i).toNatClampNeg).toInt64))), (6, .int (nI i)), (0, .ref (ad 0)), (1, .int x), (2, .int b), (3, .int t)]) hx hb dX7_integral_74 hl (by decide) rfl (fun ls hl => ?_)
            refine lv_iinc (v := (nI (i + 1))) (lv' := [(6, .int (nI (i + 1))), (4, .long ((igN (S 4) (lkM S (slM x b) t fr to k) i) + (((S 4) ((lkN S (slM x b) t fr to (S 10) k) i).toNatClampNeg).toInt64))), (0, .ref (ad 0)), (1, .int x), (2, .int b), (3, .int t)]) hx hb dX7_integral_76 hl (k := 1) rfl (nI_1 i) (by decide) rfl (fun ls hl => ?_)
            refine lv_goto (tgt := 36) hx hb dX7_integral_79 (by decide) ?_
            have e_5 : ((igN (S 4) (lkM S (slM x b) t fr to k) i) + (((S 4) ((lkN S (slM x b) t fr to (S 10) k) i).toNatClampNeg).toInt64)) = (igN (S 4) (lkM S (slM x b) t fr to k) (i + 1)) := (ig_f c53_4).symm
            have hl : lv_has ls 7 [(6, .int (nI (i + 1))), (4, .long (igN (S 4) (lkM S (slM x b) t fr to k) (i + 1))), (0, .ref (ad 0)), (1, .int x), (2, .int b), (3, .int t)] := by rw [← e_5]; exact hl
            have hP : va_P D clW (wM cy ad (va_up I 0 (afC I x b t)) (va_up S 10 (lkN S (slM x b) t fr to (S 10) k))) H := hP
            have hD : va_D A (wM cy ad (va_up I 0 (afC I x b t)) (va_up S 10 (lkN S (slM x b) t fr to (S 10) k))) := hD.addr rfl
            exact ih36 (i + 1) (by omega) (by omega) _ _ hP hD hS ls (lv_sub hl [0, 1, 2, 3, 4, 5] rfl)
          · refine lv_lconst (v := 0) hx hb dX7_integral_56 (by decide) ?_
            refine lv_goto (tgt := 73) hx hb dX7_integral_57 (by decide) ?_
            refine lv_ladd hx hb dX7_integral_73 ?_
            refine lv_lstore (lv' := [(4, .long ((igN (S 4) (lkM S (slM x b) t fr to k) i) + 0)), (6, .int (nI i)), (0, .ref (ad 0)), (1, .int x), (2, .int b), (3, .int t)]) hx hb dX7_integral_74 hl (by decide) rfl (fun ls hl => ?_)
            refine lv_iinc (v := (nI (i + 1))) (lv' := [(6, .int (nI (i + 1))), (4, .long ((igN (S 4) (lkM S (slM x b) t fr to k) i) + 0)), (0, .ref (ad 0)), (1, .int x), (2, .int b), (3, .int t)]) hx hb dX7_integral_76 hl (k := 1) rfl (nI_1 i) (by decide) rfl (fun ls hl => ?_)
            refine lv_goto (tgt := 36) hx hb dX7_integral_79 (by decide) ?_
            have e_6 : ((igN (S 4) (lkM S (slM x b) t fr to k) i) + 0) = (igN (S 4) (lkM S (slM x b) t fr to k) (i + 1)) := (ig_t c53_4).symm
            have hl : lv_has ls 7 [(6, .int (nI (i + 1))), (4, .long (igN (S 4) (lkM S (slM x b) t fr to k) (i + 1))), (0, .ref (ad 0)), (1, .int x), (2, .int b), (3, .int t)] := by rw [← e_6]; exact hl
            have hP : va_P D clW (wM cy ad (va_up I 0 (afC I x b t)) (va_up S 10 (lkN S (slM x b) t fr to (S 10) k))) H := hP
            have hD : va_D A (wM cy ad (va_up I 0 (afC I x b t)) (va_up S 10 (lkN S (slM x b) t fr to (S 10) k))) := hD.addr rfl
            exact ih36 (i + 1) (by omega) (by omega) _ _ hP hD hS ls (lv_sub hl [0, 1, 2, 3, 4, 5] rfl)
    have hP : va_P D clW (wM cy ad (va_up I 0 (afC I x b t)) (va_up S 10 (lkN S (slM x b) t fr to (S 10) k))) H := hP
    have hD : va_D A (wM cy ad (va_up I 0 (afC I x b t)) (va_up S 10 (lkN S (slM x b) t fr to (S 10) k))) := hD.addr rfl
    exact L36 (100 + 1) 0 (by omega) (by omega) _ _ hP hD hS ls (lv_sub hl [0, 1, 2, 3, 4, 5] rfl)
  · rw [if_neg b8_1] at q8_1
    subst q8_1
    refine lv_if_ne (tgt := 16) hx hb dX7_integral_11 (by decide) (fun c => absurd (by decide) c) (fun _ => ?_)
    refine lv_lconst (v := 0) hx hb dX7_integral_14 (by decide) ?_
    exact wL_ret ((va_up I 0 (afC I x b t)), S) hS hP hx hb hr hlocks dX7_integral_15 (Nat.le_of_ble_eq_true rfl) (Nat.le_of_ble_eq_true rfl) hQ ⟨(msc_I (msc_0 I S) (by decide) _), rfl, fun q => absurd q b8_1⟩
