theorem cw_X7_172 {R : Room} {s : State} {args : Array Value} {rm : Room} {mc ms : Nat} (hts : ∀ w ∈ wsL_law, w.before args s = true) (hrc : rm.cells = mc) (hrs : rm.slots = ms) (hR : rm.frames + 1 ≤ R.frames ∧ 8 + (7 + 11) + rm.locals ≤ R.locals) : CallW R s args RX7 RX7 172 yX7_looksAtBoth cX7_looksAtBoth 7 (some .boolean) (Cond.code yX7_looksAtBoth cX7_looksAtBoth 7 (some .boolean) :: wsL_law) rm mc ms 5 := cwV 5 hts (gUV wm_778 wm_779 wm_780 wm_5 wm_781) rfl hrc hrs (by decide +kernel) hR
theorem cw_X7_176 {R : Room} {s : State} {args : Array Value} {rm : Room} {mc ms : Nat} (hts : ∀ w ∈ wsL_law, w.before args s = true) (hrc : rm.cells = mc) (hrs : rm.slots = ms) (hR : rm.frames + 1 ≤ R.frames ∧ 8 + (5 + 11) + rm.locals ≤ R.locals) : CallW R s args RX7 RX7 176 yX7_bothDays cX7_bothDays 5 (some .int) (Cond.code yX7_bothDays cX7_bothDays 5 (some .int) :: wsL_law) rm mc ms 1 := cwV 1 hts (gUV wm_819 wm_820 wm_821 wm_5 wm_822) rfl hrc hrs (by decide +kernel) hR
set_option maxHeartbeats 4000000 in
set_option maxRecDepth 100000 in
theorem c_X7_looksAtBoth (l : Launch) (D : va_G) (cy : Nat → ClassId) (ad : Nat → Nat) (I : AI) (S : AS) (sz : Nat) (x : Int32) (b : Int32) (x2 : Int32) (b2 : Int32) (t : Int32) (k : Nat) (hk : I 3 = nI k) (hk8 : k ≤ 256) (fr : Nat → Nat) (to : Nat → Nat) (hfr : ∀ i : Nat, i < k → S 5 i = nI (fr i) ∧ S 6 i = nI (to i) ∧ fr i ≤ to i ∧ to i ≤ 100) : Met l yX7_looksAtBoth (Cond.code yX7_looksAtBoth cX7_looksAtBoth 7 (some .boolean) :: wsL_law) ({ frames := 3, cells := 0, slots := 0, locals := 67 }) (va_Pc [.ref (ad 0), .int x, .int b, .int x2, .int b2, .int t] (wrB D cy (wM cy ad I S) sz)) (va_Qi (S := AI × AS) (fun r u => (jfC I x b x2 b2 t = 0 ∧ r = 1 ∧ u.1 = (va_up (va_up I 0 (jfC I x b x2 b2 t)) 6 (nI (pmJ S (slM x b) (slM x2 b2) t fr to k).1)) ∧ u.2 = (va_up (va_up (va_up (va_up S 10 (lkN S (slM x b) t fr to (S 10) k)) 11 (lkN S (slM x2 b2) t fr to (S 11) k)) 12 (pmJ S (slM x b) (slM x2 b2) t fr to k).2.1) 13 (pmJ S (slM x b) (slM x2 b2) t fr to k).2.2)) ∨ (¬ jfC I x b x2 b2 t = 0 ∧ r = 0 ∧ u.1 = (va_up I 0 (jfC I x b x2 b2 t)) ∧ S = u.2)) (fun u t9 => va_P D clW (wM cy ad u.1 u.2) t9.heap) (va_A (wM cy ad I S) sz)) 0 0 (va_A (wM cy ad I S) sz) := by
  refine enter (cc := cX7_looksAtBoth) (by decide) (Nat.le_of_ble_eq_true rfl) ?_
  intro p e s m below meth c hx hb hr hml hown hts hlocks hin hv Q hQ ls hl
  obtain ⟨hsz, hP, hK, hD0⟩ := hv
  subst hsz
  have hD := hD0.self (sz := s.heap.size)
  generalize hAe : va_A (wM cy ad I S) s.heap.size = A at hD hQ ⊢
  have hA : ∀ q : Nat, s.heap.size ≤ q → A q := fun q h => by rw [← hAe]; exact Or.inr h
  have hS : va_S A s.heap s.heap [] := va_S.rf
  suffices K_ : ∀ (H : Heap) (locs : List Loc), va_P D clW (wM cy ad I S) H → va_S A s.heap H locs → W p l e ({ frames := 3, cells := 0, slots := 0, locals := 67 }) s m ([.ref (ad 0), .int x, .int b, .int x2, .int b2, .int t] : List Value).toArray below meth c H locs 0 0 Q (F0 m 0 ls []) from K_ _ _ hP hS
  clear hP hS
  intro H locs hP hS
  have hown : s.vm.findClass RX7 = some m.cls := hown
  have hl : lv_has ls 7 [(0, .ref (ad 0)), (1, .int x), (2, .int b), (3, .int x2), (4, .int b2), (5, .int t)] := hl
  refine lv_aload_n hx hb dX7_looksAtBoth_0 rfl (lv_at hl 0 rfl) ?_
  refine lv_iload_n hx hb dX7_looksAtBoth_1 rfl (lv_at hl 1 rfl) ?_
  refine lv_iload_n hx hb dX7_looksAtBoth_2 rfl (lv_at hl 2 rfl) ?_
  refine lv_iload hx hb dX7_looksAtBoth_3 (lv_at hl 5 rfl) ?_
  refine rI_call (va_runV (As := [.int x, .int b, .int t]) (rest := []) ⟨hx, hb, hml, hown, hts⟩ (c_X7_askFault l D cy ad I S x b t) (cw_X7_133 hts rfl rfl ⟨Nat.le_of_ble_eq_true rfl, Nat.le_of_ble_eq_true rfl⟩) (preVR (ci := 7) (q0 := 0) hK hP rfl rfl) rfl rfl hl.1 rfl (lv_room (Nat.le_of_ble_eq_true rfl)) dX7_looksAtBoth_5 ⟨Nat.le_of_ble_eq_true rfl, Nat.le_of_ble_eq_true rfl⟩) (fun r hr_ => ?_)
  subst hr_
  refine lv_istore (lv' := [(6, .int (afC I x b t)), (0, .ref (ad 0)), (1, .int x), (2, .int b), (3, .int x2), (4, .int b2), (5, .int t)]) hx hb dX7_looksAtBoth_8 hl (by decide) rfl (fun ls hl => ?_)
  refine lv_aload_n hx hb dX7_looksAtBoth_10 rfl (lv_at hl 1 rfl) ?_
  refine lv_iload_n hx hb dX7_looksAtBoth_11 rfl (lv_at hl 4 rfl) ?_
  refine lv_iload hx hb dX7_looksAtBoth_12 (lv_at hl 5 rfl) ?_
  refine rZ_call (P := mplB ((I 1)) x2 b2 = true) (va_runV (As := [.int x2, .int b2]) (rest := []) ⟨hx, hb, hml, hown, hts⟩ (c_X7_isPlace l D cy ad I S x2 b2) (cw_X7_92 hts rfl rfl ⟨Nat.le_of_ble_eq_true rfl, Nat.le_of_ble_eq_true rfl⟩) (preVR (ci := 7) (q0 := 0) hK hP rfl rfl) rfl rfl hl.1 rfl (lv_room (Nat.le_of_ble_eq_true rfl)) dX7_looksAtBoth_14 ⟨Nat.le_of_ble_eq_true rfl, Nat.le_of_ble_eq_true rfl⟩) (fun b14_1 => ?_) (fun b14_1 => ?_)
  · refine lv_if_eq (tgt := 25) hx hb dX7_looksAtBoth_17 (by decide) (fun c => absurd c (by decide)) (fun _ => ?_)
    refine lv_iload hx hb dX7_looksAtBoth_20 (lv_at hl 0 rfl) ?_
    refine lv_goto (tgt := 26) hx hb dX7_looksAtBoth_22 (by decide) ?_
    refine lv_istore (lv' := [(6, .int (afC I x b t)), (0, .ref (ad 0)), (1, .int x), (2, .int b), (3, .int x2), (4, .int b2), (5, .int t)]) hx hb dX7_looksAtBoth_26 hl (by decide) rfl (fun ls hl => ?_)
    have hfe : jfC I x b x2 b2 t = (afC I x b t) := if_pos b14_1
    have hl : lv_has ls 7 [(6, .int (jfC I x b x2 b2 t)), (0, .ref (ad 0)), (1, .int x), (2, .int b), (3, .int x2), (4, .int b2), (5, .int t)] := by rw [hfe]; exact hl
    refine lv_aload_n hx hb dX7_looksAtBoth_28 rfl (lv_at hl 1 rfl) ?_
    refine lv_iload hx hb dX7_looksAtBoth_29 (lv_at hl 0 rfl) ?_
    refine wI_call (va_runV (As := [.int (jfC I x b x2 b2 t)]) (rest := []) ⟨hx, hb, hml, hown, hts⟩ (c_X7_goesOn l D cy ad I S H.size (jfC I x b x2 b2 t)) (cw_X7_71 hts rfl rfl ⟨Nat.le_of_ble_eq_true rfl, Nat.le_of_ble_eq_true rfl⟩) (preVW (ci := 7) (q0 := 0) hK hP hD rfl rfl) rfl rfl hl.1 rfl (lv_room (Nat.le_of_ble_eq_true rfl)) dX7_looksAtBoth_31 ⟨Nat.le_of_ble_eq_true rfl, Nat.le_of_ble_eq_true rfl⟩) hP hD hS hA [0, 1, 2, 3, 4, 5, 6, 7, 8, 9, 10, 11, 12, 13, 14, 15, 16] rfl [.inr 0, .inr 1, .inr 2, .inr 3, .inr 4, .inr 5, .inr 6, .inr 7, .inr 8, .inr 9, .inr 10, .inr 11, .inr 12, .inr 13, .inr 14, .inr 15, .inr 16] (by decide) (fun u => (wM cy ad (va_up I 0 (jfC I x b x2 b2 t)) S)) (fun _ => rfl) (fun _ => rfl) (fun r31_2 u31_2 H locs q31_2 hP hD hS hkp => ?_)
    have hP : va_P D clW (wM cy ad (va_up I 0 (jfC I x b x2 b2 t)) S) H := hP
    have hD : va_D A (wM cy ad (va_up I 0 (jfC I x b x2 b2 t)) S) := hD
    by_cases b31_2 : (jfC I x b x2 b2 t) = 0
    · rw [if_pos b31_2] at q31_2
      subst q31_2
      refine lv_if_ne (tgt := 39) hx hb dX7_looksAtBoth_34 (by decide) (fun _ => ?_) (fun c => absurd c (by decide))
      refine lv_aload_n hx hb dX7_looksAtBoth_39 rfl (lv_at hl 1 rfl) ?_
      refine lv_aload_n hx hb dX7_looksAtBoth_40 rfl (lv_at hl 1 rfl) ?_
      refine gf_X7_39 hx hb hts hown hK hP 0 rfl (v := .ref (ad 10)) rfl dX7_looksAtBoth_41 ?_
      refine lv_iload_n hx hb dX7_looksAtBoth_44 rfl (lv_at hl 2 rfl) ?_
      refine lv_iload_n hx hb dX7_looksAtBoth_45 rfl (lv_at hl 3 rfl) ?_
      refine rI_call (va_runS (As := [.int x, .int b]) (rest := [.ref (ad 10), .ref (ad 0)]) ⟨hx, hb, hml, hown, hts⟩ (c_X7_placeOf l D cy x b) (cw_X7_103 hts rfl rfl ⟨Nat.le_of_ble_eq_true rfl, Nat.le_of_ble_eq_true rfl⟩) (preSR hK (hP.sub [] rfl)) rfl rfl hl.1 rfl (lv_room (Nat.le_of_ble_eq_true rfl)) dX7_looksAtBoth_46 ⟨Nat.le_of_ble_eq_true rfl, Nat.le_of_ble_eq_true rfl⟩) (fun r hr_ => ?_)
      subst hr_
      refine lv_iload hx hb dX7_looksAtBoth_49 (lv_at hl 6 rfl) ?_
      refine wV_call (va_runV (As := [.ref (ad 10), .int (slM x b), .int t]) (rest := []) ⟨hx, hb, hml, hown, hts⟩ (c_X7_looksAt_10 l D cy ad (va_up I 0 (jfC I x b x2 b2 t)) S H.size (slM x b) t k hk hk8 fr to hfr) (cw_X7_111 hts rfl rfl ⟨Nat.le_of_ble_eq_true rfl, Nat.le_of_ble_eq_true rfl⟩) (preVW (ci := 7) (q0 := 0) hK hP hD rfl rfl) rfl rfl hl.1 rfl (lv_room (Nat.le_of_ble_eq_true rfl)) dX7_looksAtBoth_51 ⟨Nat.le_of_ble_eq_true rfl, Nat.le_of_ble_eq_true rfl⟩) hP hD hS hA [0, 1, 2, 3, 4, 5, 6, 7, 8, 9, 10, 11, 12, 13, 14, 15, 16] rfl [.inr 0, .inr 1, .inr 2, .inr 3, .inr 4, .inr 5, .inr 6, .inr 7, .inr 8, .inr 9, .inr 10, .inr 11, .inr 12, .inr 13, .inr 14, .inr 15, .inr 16] (by decide) (fun u => (wM cy ad (va_up I 0 (jfC I x b x2 b2 t)) (va_up S 10 (lkN S (slM x b) t fr to (S 10) k)))) (fun _ => rfl) (fun _ => rfl) (fun u51_3 H locs q51_3 hP hD hS hkp => ?_)
      have hP : va_P D clW (wM cy ad (va_up I 0 (jfC I x b x2 b2 t)) (va_up S 10 (lkN S (slM x b) t fr to (S 10) k))) H := hP
      have hD : va_D A (wM cy ad (va_up I 0 (jfC I x b x2 b2 t)) (va_up S 10 (lkN S (slM x b) t fr to (S 10) k))) := hD
      refine lv_aload_n hx hb dX7_looksAtBoth_54 rfl (lv_at hl 1 rfl) ?_
      refine lv_aload_n hx hb dX7_looksAtBoth_55 rfl (lv_at hl 1 rfl) ?_
      refine gf_X7_42 hx hb hts hown hK hP 0 rfl (v := .ref (ad 11)) rfl dX7_looksAtBoth_56 ?_
      refine lv_iload_n hx hb dX7_looksAtBoth_59 rfl (lv_at hl 4 rfl) ?_
      refine lv_iload hx hb dX7_looksAtBoth_60 (lv_at hl 5 rfl) ?_
      refine rI_call (va_runS (As := [.int x2, .int b2]) (rest := [.ref (ad 11), .ref (ad 0)]) ⟨hx, hb, hml, hown, hts⟩ (c_X7_placeOf l D cy x2 b2) (cw_X7_103 hts rfl rfl ⟨Nat.le_of_ble_eq_true rfl, Nat.le_of_ble_eq_true rfl⟩) (preSR hK (hP.sub [] rfl)) rfl rfl hl.1 rfl (lv_room (Nat.le_of_ble_eq_true rfl)) dX7_looksAtBoth_62 ⟨Nat.le_of_ble_eq_true rfl, Nat.le_of_ble_eq_true rfl⟩) (fun r hr_ => ?_)
      subst hr_
      refine lv_iload hx hb dX7_looksAtBoth_65 (lv_at hl 6 rfl) ?_
      refine wV_call (va_runV (As := [.ref (ad 11), .int (slM x2 b2), .int t]) (rest := []) ⟨hx, hb, hml, hown, hts⟩ (c_X7_looksAt_11 l D cy ad (va_up I 0 (jfC I x b x2 b2 t)) (va_up S 10 (lkN S (slM x b) t fr to (S 10) k)) H.size (slM x2 b2) t k hk hk8 fr to hfr) (cw_X7_111 hts rfl rfl ⟨Nat.le_of_ble_eq_true rfl, Nat.le_of_ble_eq_true rfl⟩) (preVW (ci := 7) (q0 := 0) hK hP hD rfl rfl) rfl rfl hl.1 rfl (lv_room (Nat.le_of_ble_eq_true rfl)) dX7_looksAtBoth_67 ⟨Nat.le_of_ble_eq_true rfl, Nat.le_of_ble_eq_true rfl⟩) hP hD hS hA [0, 1, 2, 3, 4, 5, 6, 7, 8, 9, 10, 11, 12, 13, 14, 15, 16] rfl [.inr 0, .inr 1, .inr 2, .inr 3, .inr 4, .inr 5, .inr 6, .inr 7, .inr 8, .inr 9, .inr 10, .inr 11, .inr 12, .inr 13, .inr 14, .inr 15, .inr 16] (by decide) (fun u => (wM cy ad (va_up I 0 (jfC I x b x2 b2 t)) (va_up (va_up S 10 (lkN S (slM x b) t fr to (S 10) k)) 11 (lkN (va_up S 10 (lkN S (slM x b) t fr to (S 10) k)) (slM x2 b2) t fr to (S 11) k)))) (fun _ => rfl) (fun _ => rfl) (fun u67_4 H locs q67_4 hP hD hS hkp => ?_)
      have hP : va_P D clW (wM cy ad (va_up I 0 (jfC I x b x2 b2 t)) (va_up (va_up S 10 (lkN S (slM x b) t fr to (S 10) k)) 11 (lkN (va_up S 10 (lkN S (slM x b) t fr to (S 10) k)) (slM x2 b2) t fr to (S 11) k))) H := hP
      have hD : va_D A (wM cy ad (va_up I 0 (jfC I x b x2 b2 t)) (va_up (va_up S 10 (lkN S (slM x b) t fr to (S 10) k)) 11 (lkN (va_up S 10 (lkN S (slM x b) t fr to (S 10) k)) (slM x2 b2) t fr to (S 11) k))) := hD
      refine lv_aload_n hx hb dX7_looksAtBoth_70 rfl (lv_at hl 1 rfl) ?_
      refine lv_iconst (v := 1) hx hb dX7_looksAtBoth_71 (by decide) ?_
      refine wV_call (va_runV (As := [.int 1]) (rest := []) ⟨hx, hb, hml, hown, hts⟩ (c_X7_finds_1 l D cy ad (va_up I 0 (jfC I x b x2 b2 t)) (va_up (va_up S 10 (lkN S (slM x b) t fr to (S 10) k)) 11 (lkN (va_up S 10 (lkN S (slM x b) t fr to (S 10) k)) (slM x2 b2) t fr to (S 11) k)) H.size k hk8 (lk_row S (slM x b) t fr to (S 10) k) (lk_row S (slM x2 b2) t fr to (S 11) k)) (cw_X7_143 hts rfl rfl ⟨Nat.le_of_ble_eq_true rfl, Nat.le_of_ble_eq_true rfl⟩) (preVW (ci := 7) (q0 := 0) hK hP hD rfl rfl) rfl rfl hl.1 rfl (lv_room (Nat.le_of_ble_eq_true rfl)) dX7_looksAtBoth_72 ⟨Nat.le_of_ble_eq_true rfl, Nat.le_of_ble_eq_true rfl⟩) hP hD hS hA [0, 1, 2, 3, 4, 5, 6, 7, 8, 9, 10, 11, 12, 13, 14, 15, 16] rfl [.inr 0, .inr 1, .inr 2, .inr 3, .inr 4, .inr 5, .inr 6, .inr 7, .inr 8, .inr 9, .inr 10, .inr 11, .inr 12, .inr 13, .inr 14, .inr 15, .inr 16] (by decide) (fun u => (wM cy ad (va_up (va_up I 0 (jfC I x b x2 b2 t)) 6 (nI (pmS (S 4) (lkN S (slM x b) t fr to (S 10) k) (lkN (va_up S 10 (lkN S (slM x b) t fr to (S 10) k)) (slM x2 b2) t fr to (S 11) k) true (S 12) (S 13) 100).1)) (va_up (va_up (va_up (va_up S 10 (lkN S (slM x b) t fr to (S 10) k)) 11 (lkN (va_up S 10 (lkN S (slM x b) t fr to (S 10) k)) (slM x2 b2) t fr to (S 11) k)) 12 (pmS (S 4) (lkN S (slM x b) t fr to (S 10) k) (lkN (va_up S 10 (lkN S (slM x b) t fr to (S 10) k)) (slM x2 b2) t fr to (S 11) k) true (S 12) (S 13) 100).2.1) 13 (pmS (S 4) (lkN S (slM x b) t fr to (S 10) k) (lkN (va_up S 10 (lkN S (slM x b) t fr to (S 10) k)) (slM x2 b2) t fr to (S 11) k) true (S 12) (S 13) 100).2.2))) (fun _ => rfl) (fun _ => rfl) (fun u72_5 H locs q72_5 hP hD hS hkp => ?_)
      have hP : va_P D clW (wM cy ad (va_up (va_up I 0 (jfC I x b x2 b2 t)) 6 (nI (pmS (S 4) (lkN S (slM x b) t fr to (S 10) k) (lkN (va_up S 10 (lkN S (slM x b) t fr to (S 10) k)) (slM x2 b2) t fr to (S 11) k) true (S 12) (S 13) 100).1)) (va_up (va_up (va_up (va_up S 10 (lkN S (slM x b) t fr to (S 10) k)) 11 (lkN (va_up S 10 (lkN S (slM x b) t fr to (S 10) k)) (slM x2 b2) t fr to (S 11) k)) 12 (pmS (S 4) (lkN S (slM x b) t fr to (S 10) k) (lkN (va_up S 10 (lkN S (slM x b) t fr to (S 10) k)) (slM x2 b2) t fr to (S 11) k) true (S 12) (S 13) 100).2.1) 13 (pmS (S 4) (lkN S (slM x b) t fr to (S 10) k) (lkN (va_up S 10 (lkN S (slM x b) t fr to (S 10) k)) (slM x2 b2) t fr to (S 11) k) true (S 12) (S 13) 100).2.2)) H := hP
      have hD : va_D A (wM cy ad (va_up (va_up I 0 (jfC I x b x2 b2 t)) 6 (nI (pmS (S 4) (lkN S (slM x b) t fr to (S 10) k) (lkN (va_up S 10 (lkN S (slM x b) t fr to (S 10) k)) (slM x2 b2) t fr to (S 11) k) true (S 12) (S 13) 100).1)) (va_up (va_up (va_up (va_up S 10 (lkN S (slM x b) t fr to (S 10) k)) 11 (lkN (va_up S 10 (lkN S (slM x b) t fr to (S 10) k)) (slM x2 b2) t fr to (S 11) k)) 12 (pmS (S 4) (lkN S (slM x b) t fr to (S 10) k) (lkN (va_up S 10 (lkN S (slM x b) t fr to (S 10) k)) (slM x2 b2) t fr to (S 11) k) true (S 12) (S 13) 100).2.1) 13 (pmS (S 4) (lkN S (slM x b) t fr to (S 10) k) (lkN (va_up S 10 (lkN S (slM x b) t fr to (S 10) k)) (slM x2 b2) t fr to (S 11) k) true (S 12) (S 13) 100).2.2)) := hD
      refine lv_iconst (v := 1) hx hb dX7_looksAtBoth_75 (by decide) ?_
      exact wZ_ret ((va_up (va_up I 0 (jfC I x b x2 b2 t)) 6 (nI (pmJ S (slM x b) (slM x2 b2) t fr to k).1)), (va_up (va_up (va_up (va_up S 10 (lkN S (slM x b) t fr to (S 10) k)) 11 (lkN S (slM x2 b2) t fr to (S 11) k)) 12 (pmJ S (slM x b) (slM x2 b2) t fr to k).2.1) 13 (pmJ S (slM x b) (slM x2 b2) t fr to k).2.2)) hS hP hx hb hr hlocks dX7_looksAtBoth_76 narZ1 (Nat.le_of_ble_eq_true rfl) (Nat.le_of_ble_eq_true rfl) hQ (Or.inl ⟨b31_2, rfl, rfl, rfl⟩)
    · rw [if_neg b31_2] at q31_2
      subst q31_2
      refine lv_if_ne (tgt := 39) hx hb dX7_looksAtBoth_34 (by decide) (fun c => absurd (by decide) c) (fun _ => ?_)
      refine lv_iconst (v := 0) hx hb dX7_looksAtBoth_37 (by decide) ?_
      exact wZ_ret ((va_up I 0 (jfC I x b x2 b2 t)), S) hS hP hx hb hr hlocks dX7_looksAtBoth_38 narZ0 (Nat.le_of_ble_eq_true rfl) (Nat.le_of_ble_eq_true rfl) hQ (Or.inr ⟨b31_2, rfl, rfl, rfl⟩)
  · refine lv_if_eq (tgt := 25) hx hb dX7_looksAtBoth_17 (by decide) (fun _ => ?_) (fun c => absurd (by decide) c)
    refine lv_iconst (v := 1) hx hb dX7_looksAtBoth_25 (by decide) ?_
    refine lv_istore (lv' := [(6, .int 1), (0, .ref (ad 0)), (1, .int x), (2, .int b), (3, .int x2), (4, .int b2), (5, .int t)]) hx hb dX7_looksAtBoth_26 hl (by decide) rfl (fun ls hl => ?_)
    have hfe : jfC I x b x2 b2 t = 1 := if_neg b14_1
    have hl : lv_has ls 7 [(6, .int (jfC I x b x2 b2 t)), (0, .ref (ad 0)), (1, .int x), (2, .int b), (3, .int x2), (4, .int b2), (5, .int t)] := by rw [hfe]; exact hl
    refine lv_aload_n hx hb dX7_looksAtBoth_28 rfl (lv_at hl 1 rfl) ?_
    refine lv_iload hx hb dX7_looksAtBoth_29 (lv_at hl 0 rfl) ?_
    refine wI_call (va_runV (As := [.int (jfC I x b x2 b2 t)]) (rest := []) ⟨hx, hb, hml, hown, hts⟩ (c_X7_goesOn l D cy ad I S H.size (jfC I x b x2 b2 t)) (cw_X7_71 hts rfl rfl ⟨Nat.le_of_ble_eq_true rfl, Nat.le_of_ble_eq_true rfl⟩) (preVW (ci := 7) (q0 := 0) hK hP hD rfl rfl) rfl rfl hl.1 rfl (lv_room (Nat.le_of_ble_eq_true rfl)) dX7_looksAtBoth_31 ⟨Nat.le_of_ble_eq_true rfl, Nat.le_of_ble_eq_true rfl⟩) hP hD hS hA [0, 1, 2, 3, 4, 5, 6, 7, 8, 9, 10, 11, 12, 13, 14, 15, 16] rfl [.inr 0, .inr 1, .inr 2, .inr 3, .inr 4, .inr 5, .inr 6, .inr 7, .inr 8, .inr 9, .inr 10, .inr 11, .inr 12, .inr 13, .inr 14, .inr 15, .inr 16] (by decide) (fun u => (wM cy ad (va_up I 0 (jfC I x b x2 b2 t)) S)) (fun _ => rfl) (fun _ => rfl) (fun r31_6 u31_6 H locs q31_6 hP hD hS hkp => ?_)
    have hP : va_P D clW (wM cy ad (va_up I 0 (jfC I x b x2 b2 t)) S) H := hP
    have hD : va_D A (wM cy ad (va_up I 0 (jfC I x b x2 b2 t)) S) := hD
    by_cases b31_6 : (jfC I x b x2 b2 t) = 0
    · rw [if_pos b31_6] at q31_6
      subst q31_6
      refine lv_if_ne (tgt := 39) hx hb dX7_looksAtBoth_34 (by decide) (fun _ => ?_) (fun c => absurd c (by decide))
      refine lv_aload_n hx hb dX7_looksAtBoth_39 rfl (lv_at hl 1 rfl) ?_
      refine lv_aload_n hx hb dX7_looksAtBoth_40 rfl (lv_at hl 1 rfl) ?_
      refine gf_X7_39 hx hb hts hown hK hP 0 rfl (v := .ref (ad 10)) rfl dX7_looksAtBoth_41 ?_
      refine lv_iload_n hx hb dX7_looksAtBoth_44 rfl (lv_at hl 2 rfl) ?_
      refine lv_iload_n hx hb dX7_looksAtBoth_45 rfl (lv_at hl 3 rfl) ?_
      refine rI_call (va_runS (As := [.int x, .int b]) (rest := [.ref (ad 10), .ref (ad 0)]) ⟨hx, hb, hml, hown, hts⟩ (c_X7_placeOf l D cy x b) (cw_X7_103 hts rfl rfl ⟨Nat.le_of_ble_eq_true rfl, Nat.le_of_ble_eq_true rfl⟩) (preSR hK (hP.sub [] rfl)) rfl rfl hl.1 rfl (lv_room (Nat.le_of_ble_eq_true rfl)) dX7_looksAtBoth_46 ⟨Nat.le_of_ble_eq_true rfl, Nat.le_of_ble_eq_true rfl⟩) (fun r hr_ => ?_)
      subst hr_
      refine lv_iload hx hb dX7_looksAtBoth_49 (lv_at hl 6 rfl) ?_
      refine wV_call (va_runV (As := [.ref (ad 10), .int (slM x b), .int t]) (rest := []) ⟨hx, hb, hml, hown, hts⟩ (c_X7_looksAt_10 l D cy ad (va_up I 0 (jfC I x b x2 b2 t)) S H.size (slM x b) t k hk hk8 fr to hfr) (cw_X7_111 hts rfl rfl ⟨Nat.le_of_ble_eq_true rfl, Nat.le_of_ble_eq_true rfl⟩) (preVW (ci := 7) (q0 := 0) hK hP hD rfl rfl) rfl rfl hl.1 rfl (lv_room (Nat.le_of_ble_eq_true rfl)) dX7_looksAtBoth_51 ⟨Nat.le_of_ble_eq_true rfl, Nat.le_of_ble_eq_true rfl⟩) hP hD hS hA [0, 1, 2, 3, 4, 5, 6, 7, 8, 9, 10, 11, 12, 13, 14, 15, 16] rfl [.inr 0, .inr 1, .inr 2, .inr 3, .inr 4, .inr 5, .inr 6, .inr 7, .inr 8, .inr 9, .inr 10, .inr 11, .inr 12, .inr 13, .inr 14, .inr 15, .inr 16] (by decide) (fun u => (wM cy ad (va_up I 0 (jfC I x b x2 b2 t)) (va_up S 10 (lkN S (slM x b) t fr to (S 10) k)))) (fun _ => rfl) (fun _ => rfl) (fun u51_7 H locs q51_7 hP hD hS hkp => ?_)
      have hP : va_P D clW (wM cy ad (va_up I 0 (jfC I x b x2 b2 t)) (va_up S 10 (lkN S (slM x b) t fr to (S 10) k))) H := hP
      have hD : va_D A (wM cy ad (va_up I 0 (jfC I x b x2 b2 t)) (va_up S 10 (lkN S (slM x b) t fr to (S 10) k))) := hD
      refine lv_aload_n hx hb dX7_looksAtBoth_54 rfl (lv_at hl 1 rfl) ?_
      refine lv_aload_n hx hb dX7_looksAtBoth_55 rfl (lv_at hl 1 rfl) ?_
      refine gf_X7_42 hx hb hts hown hK hP 0 rfl (v := .ref (ad 11)) rfl dX7_looksAtBoth_56 ?_
      refine lv_iload_n hx hb dX7_looksAtBoth_59 rfl (lv_at hl 4 rfl) ?_
      refine lv_iload hx hb dX7_looksAtBoth_60 (lv_at hl 5 rfl) ?_
      refine rI_call (va_runS (As := [.int x2, .int b2]) (rest := [.ref (ad 11), .ref (ad 0)]) ⟨hx, hb, hml, hown, hts⟩ (c_X7_placeOf l D cy x2 b2) (cw_X7_103 hts rfl rfl ⟨Nat.le_of_ble_eq_true rfl, Nat.le_of_ble_eq_true rfl⟩) (preSR hK (hP.sub [] rfl)) rfl rfl hl.1 rfl (lv_room (Nat.le_of_ble_eq_true rfl)) dX7_looksAtBoth_62 ⟨Nat.le_of_ble_eq_true rfl, Nat.le_of_ble_eq_true rfl⟩) (fun r hr_ => ?_)
      subst hr_
      refine lv_iload hx hb dX7_looksAtBoth_65 (lv_at hl 6 rfl) ?_
      refine wV_call (va_runV (As := [.ref (ad 11), .int (slM x2 b2), .int t]) (rest := []) ⟨hx, hb, hml, hown, hts⟩ (c_X7_looksAt_11 l D cy ad (va_up I 0 (jfC I x b x2 b2 t)) (va_up S 10 (lkN S (slM x b) t fr to (S 10) k)) H.size (slM x2 b2) t k hk hk8 fr to hfr) (cw_X7_111 hts rfl rfl ⟨Nat.le_of_ble_eq_true rfl, Nat.le_of_ble_eq_true rfl⟩) (preVW (ci := 7) (q0 := 0) hK hP hD rfl rfl) rfl rfl hl.1 rfl (lv_room (Nat.le_of_ble_eq_true rfl)) dX7_looksAtBoth_67 ⟨Nat.le_of_ble_eq_true rfl, Nat.le_of_ble_eq_true rfl⟩) hP hD hS hA [0, 1, 2, 3, 4, 5, 6, 7, 8, 9, 10, 11, 12, 13, 14, 15, 16] rfl [.inr 0, .inr 1, .inr 2, .inr 3, .inr 4, .inr 5, .inr 6, .inr 7, .inr 8, .inr 9, .inr 10, .inr 11, .inr 12, .inr 13, .inr 14, .inr 15, .inr 16] (by decide) (fun u => (wM cy ad (va_up I 0 (jfC I x b x2 b2 t)) (va_up (va_up S 10 (lkN S (slM x b) t fr to (S 10) k)) 11 (lkN (va_up S 10 (lkN S (slM x b) t fr to (S 10) k)) (slM x2 b2) t fr to (S 11) k)))) (fun _ => rfl) (fun _ => rfl) (fun u67_8 H locs q67_8 hP hD hS hkp => ?_)
      have hP : va_P D clW (wM cy ad (va_up I 0 (jfC I x b x2 b2 t)) (va_up (va_up S 10 (lkN S (slM x b) t fr to (S 10) k)) 11 (lkN (va_up S 10 (lkN S (slM x b) t fr to (S 10) k)) (slM x2 b2) t fr to (S 11) k))) H := hP
      have hD : va_D A (wM cy ad (va_up I 0 (jfC I x b x2 b2 t)) (va_up (va_up S 10 (lkN S (slM x b) t fr to (S 10) k)) 11 (lkN (va_up S 10 (lkN S (slM x b) t fr to (S 10) k)) (slM x2 b2) t fr to (S 11) k))) := hD
      refine lv_aload_n hx hb dX7_looksAtBoth_70 rfl (lv_at hl 1 rfl) ?_
      refine lv_iconst (v := 1) hx hb dX7_looksAtBoth_71 (by decide) ?_
      refine wV_call (va_runV (As := [.int 1]) (rest := []) ⟨hx, hb, hml, hown, hts⟩ (c_X7_finds_1 l D cy ad (va_up I 0 (jfC I x b x2 b2 t)) (va_up (va_up S 10 (lkN S (slM x b) t fr to (S 10) k)) 11 (lkN (va_up S 10 (lkN S (slM x b) t fr to (S 10) k)) (slM x2 b2) t fr to (S 11) k)) H.size k hk8 (lk_row S (slM x b) t fr to (S 10) k) (lk_row S (slM x2 b2) t fr to (S 11) k)) (cw_X7_143 hts rfl rfl ⟨Nat.le_of_ble_eq_true rfl, Nat.le_of_ble_eq_true rfl⟩) (preVW (ci := 7) (q0 := 0) hK hP hD rfl rfl) rfl rfl hl.1 rfl (lv_room (Nat.le_of_ble_eq_true rfl)) dX7_looksAtBoth_72 ⟨Nat.le_of_ble_eq_true rfl, Nat.le_of_ble_eq_true rfl⟩) hP hD hS hA [0, 1, 2, 3, 4, 5, 6, 7, 8, 9, 10, 11, 12, 13, 14, 15, 16] rfl [.inr 0, .inr 1, .inr 2, .inr 3, .inr 4, .inr 5, .inr 6, .inr 7, .inr 8, .inr 9, .inr 10, .inr 11, .inr 12, .inr 13, .inr 14, .inr 15, .inr 16] (by decide) (fun u => (wM cy ad (va_up (va_up I 0 (jfC I x b x2 b2 t)) 6 (nI (pmS (S 4) (lkN S (slM x b) t fr to (S 10) k) (lkN (va_up S 10 (lkN S (slM x b) t fr to (S 10) k)) (slM x2 b2) t fr to (S 11) k) true (S 12) (S 13) 100).1)) (va_up (va_up (va_up (va_up S 10 (lkN S (slM x b) t fr to (S 10) k)) 11 (lkN (va_up S 10 (lkN S (slM x b) t fr to (S 10) k)) (slM x2 b2) t fr to (S 11) k)) 12 (pmS (S 4) (lkN S (slM x b) t fr to (S 10) k) (lkN (va_up S 10 (lkN S (slM x b) t fr to (S 10) k)) (slM x2 b2) t fr to (S 11) k) true (S 12) (S 13) 100).2.1) 13 (pmS (S 4) (lkN S (slM x b) t fr to (S 10) k) (lkN (va_up S 10 (lkN S (slM x b) t fr to (S 10) k)) (slM x2 b2) t fr to (S 11) k) true (S 12) (S 13) 100).2.2))) (fun _ => rfl) (fun _ => rfl) (fun u72_9 H locs q72_9 hP hD hS hkp => ?_)
      have hP : va_P D clW (wM cy ad (va_up (va_up I 0 (jfC I x b x2 b2 t)) 6 (nI (pmS (S 4) (lkN S (slM x b) t fr to (S 10) k) (lkN (va_up S 10 (lkN S (slM x b) t fr to (S 10) k)) (slM x2 b2) t fr to (S 11) k) true (S 12) (S 13) 100).1)) (va_up (va_up (va_up (va_up S 10 (lkN S (slM x b) t fr to (S 10) k)) 11 (lkN (va_up S 10 (lkN S (slM x b) t fr to (S 10) k)) (slM x2 b2) t fr to (S 11) k)) 12 (pmS (S 4) (lkN S (slM x b) t fr to (S 10) k) (lkN (va_up S 10 (lkN S (slM x b) t fr to (S 10) k)) (slM x2 b2) t fr to (S 11) k) true (S 12) (S 13) 100).2.1) 13 (pmS (S 4) (lkN S (slM x b) t fr to (S 10) k) (lkN (va_up S 10 (lkN S (slM x b) t fr to (S 10) k)) (slM x2 b2) t fr to (S 11) k) true (S 12) (S 13) 100).2.2)) H := hP
      have hD : va_D A (wM cy ad (va_up (va_up I 0 (jfC I x b x2 b2 t)) 6 (nI (pmS (S 4) (lkN S (slM x b) t fr to (S 10) k) (lkN (va_up S 10 (lkN S (slM x b) t fr to (S 10) k)) (slM x2 b2) t fr to (S 11) k) true (S 12) (S 13) 100).1)) (va_up (va_up (va_up (va_up S 10 (lkN S (slM x b) t fr to (S 10) k)) 11 (lkN (va_up S 10 (lkN S (slM x b) t fr to (S 10) k)) (slM x2 b2) t fr to (S 11) k)) 12 (pmS (S 4) (lkN S (slM x b) t fr to (S 10) k) (lkN (va_up S 10 (lkN S (slM x b) t fr to (S 10) k)) (slM x2 b2) t fr to (S 11) k) true (S 12) (S 13) 100).2.1) 13 (pmS (S 4) (lkN S (slM x b) t fr to (S 10) k) (lkN (va_up S 10 (lkN S (slM x b) t fr to (S 10) k)) (slM x2 b2) t fr to (S 11) k) true (S 12) (S 13) 100).2.2)) := hD
      refine lv_iconst (v := 1) hx hb dX7_looksAtBoth_75 (by decide) ?_
      exact wZ_ret ((va_up (va_up I 0 (jfC I x b x2 b2 t)) 6 (nI (pmJ S (slM x b) (slM x2 b2) t fr to k).1)), (va_up (va_up (va_up (va_up S 10 (lkN S (slM x b) t fr to (S 10) k)) 11 (lkN S (slM x2 b2) t fr to (S 11) k)) 12 (pmJ S (slM x b) (slM x2 b2) t fr to k).2.1) 13 (pmJ S (slM x b) (slM x2 b2) t fr to k).2.2)) hS hP hx hb hr hlocks dX7_looksAtBoth_76 narZ1 (Nat.le_of_ble_eq_true rfl) (Nat.le_of_ble_eq_true rfl) hQ (Or.inl ⟨b31_6, rfl, rfl, rfl⟩)
    · rw [if_neg b31_6] at q31_6
      subst q31_6
      refine lv_if_ne (tgt := 39) hx hb dX7_looksAtBoth_34 (by decide) (fun c => absurd (by decide) c) (fun _ => ?_)
      refine lv_iconst (v := 0) hx hb dX7_looksAtBoth_37 (by decide) ?_
      exact wZ_ret ((va_up I 0 (jfC I x b x2 b2 t)), S) hS hP hx hb hr hlocks dX7_looksAtBoth_38 narZ0 (Nat.le_of_ble_eq_true rfl) (Nat.le_of_ble_eq_true rfl) hQ (Or.inr ⟨b31_6, rfl, rfl, rfl⟩)

set_option maxHeartbeats 4000000 in
set_option maxRecDepth 100000 in
theorem c_X7_joinCount (l : Launch) (D : va_G) (cy : Nat → ClassId) (ad : Nat → Nat) (I : AI) (S : AS) (sz : Nat) (x : Int32) (b : Int32) (x2 : Int32) (b2 : Int32) (t : Int32) (k : Nat) (hk : I 3 = nI k) (hk8 : k ≤ 256) (fr : Nat → Nat) (to : Nat → Nat) (hfr : ∀ i : Nat, i < k → S 5 i = nI (fr i) ∧ S 6 i = nI (to i) ∧ fr i ≤ to i ∧ to i ≤ 100) : Met l yX7_joinCount (Cond.code yX7_joinCount cX7_joinCount 6 (some .int) :: wsL_law) ({ frames := 4, cells := 0, slots := 0, locals := 93 }) (va_Pc [.ref (ad 0), .int x, .int b, .int x2, .int b2, .int t] (wrB D cy (wM cy ad I S) sz)) (va_Qi (S := AI × AS) (fun r u => msc I S u.1 u.2 ∧ (¬ jfC I x b x2 b2 t = 0 → u.1 0 = jfC I x b x2 b2 t) ∧ (jfC I x b x2 b2 t = 0 → u.1 0 = 0 ∧ r = nI (pmJ S (slM x b) (slM x2 b2) t fr to k).1)) (fun u t9 => va_P D clW (wM cy ad u.1 u.2) t9.heap) (va_A (wM cy ad I S) sz)) 0 0 (va_A (wM cy ad I S) sz) := by
  refine enter (cc := cX7_joinCount) (by decide) (Nat.le_of_ble_eq_true rfl) ?_
  intro p e s m below meth c hx hb hr hml hown hts hlocks hin hv Q hQ ls hl
  obtain ⟨hsz, hP, hK, hD0⟩ := hv
  subst hsz
  have hD := hD0.self (sz := s.heap.size)
  generalize hAe : va_A (wM cy ad I S) s.heap.size = A at hD hQ ⊢
  have hA : ∀ q : Nat, s.heap.size ≤ q → A q := fun q h => by rw [← hAe]; exact Or.inr h
  have hS : va_S A s.heap s.heap [] := va_S.rf
  suffices K_ : ∀ (H : Heap) (locs : List Loc), va_P D clW (wM cy ad I S) H → va_S A s.heap H locs → W p l e ({ frames := 4, cells := 0, slots := 0, locals := 93 }) s m ([.ref (ad 0), .int x, .int b, .int x2, .int b2, .int t] : List Value).toArray below meth c H locs 0 0 Q (F0 m 0 ls []) from K_ _ _ hP hS
  clear hP hS
  intro H locs hP hS
  have hown : s.vm.findClass RX7 = some m.cls := hown
  have hl : lv_has ls 6 [(0, .ref (ad 0)), (1, .int x), (2, .int b), (3, .int x2), (4, .int b2), (5, .int t)] := hl
  refine lv_aload_n hx hb dX7_joinCount_0 rfl (lv_at hl 0 rfl) ?_
  refine lv_iload_n hx hb dX7_joinCount_1 rfl (lv_at hl 1 rfl) ?_
  refine lv_iload_n hx hb dX7_joinCount_2 rfl (lv_at hl 2 rfl) ?_
  refine lv_iload_n hx hb dX7_joinCount_3 rfl (lv_at hl 3 rfl) ?_
  refine lv_iload hx hb dX7_joinCount_4 (lv_at hl 4 rfl) ?_
  refine lv_iload hx hb dX7_joinCount_6 (lv_at hl 5 rfl) ?_
  refine wI_call (va_runV (As := [.int x, .int b, .int x2, .int b2, .int t]) (rest := []) ⟨hx, hb, hml, hown, hts⟩ (c_X7_looksAtBoth l D cy ad I S H.size x b x2 b2 t k hk hk8 fr to hfr) (cw_X7_172 hts rfl rfl ⟨Nat.le_of_ble_eq_true rfl, Nat.le_of_ble_eq_true rfl⟩) (preVW (ci := 7) (q0 := 0) hK hP hD rfl rfl) rfl rfl hl.1 rfl (lv_room (Nat.le_of_ble_eq_true rfl)) dX7_joinCount_8 ⟨Nat.le_of_ble_eq_true rfl, Nat.le_of_ble_eq_true rfl⟩) hP hD hS hA [0, 1, 2, 3, 4, 5, 6, 7, 8, 9, 10, 11, 12, 13, 14, 15, 16] rfl [.inr 0, .inr 1, .inr 2, .inr 3, .inr 4, .inr 5, .inr 6, .inr 7, .inr 8, .inr 9, .inr 10, .inr 11, .inr 12, .inr 13, .inr 14, .inr 15, .inr 16] (by decide) (fun u => (wM cy ad u.1 u.2)) (fun _ => rfl) (fun _ => rfl) (fun r8_1 u8_1 H locs q8_1 hP hD hS hkp => ?_)
  obtain ⟨I2_1, S2_1⟩ := u8_1
  have hP : va_P D clW (wM cy ad I2_1 S2_1) H := hP
  have hD : va_D A (wM cy ad I2_1 S2_1) := hD
  rcases q8_1 with ⟨hcd, rfl, rfl, rfl⟩ | ⟨hcd, rfl, rfl, rfl⟩
  · have hP : va_P D clW (wM cy ad (va_up (va_up I 0 (jfC I x b x2 b2 t)) 6 (nI (pmJ S (slM x b) (slM x2 b2) t fr to k).1)) (va_up (va_up (va_up (va_up S 10 (lkN S (slM x b) t fr to (S 10) k)) 11 (lkN S (slM x2 b2) t fr to (S 11) k)) 12 (pmJ S (slM x b) (slM x2 b2) t fr to k).2.1) 13 (pmJ S (slM x b) (slM x2 b2) t fr to k).2.2)) H := hP
    have hD : va_D A (wM cy ad (va_up (va_up I 0 (jfC I x b x2 b2 t)) 6 (nI (pmJ S (slM x b) (slM x2 b2) t fr to k).1)) (va_up (va_up (va_up (va_up S 10 (lkN S (slM x b) t fr to (S 10) k)) 11 (lkN S (slM x2 b2) t fr to (S 11) k)) 12 (pmJ S (slM x b) (slM x2 b2) t fr to k).2.1) 13 (pmJ S (slM x b) (slM x2 b2) t fr to k).2.2)) := hD
    refine lv_if_eq (tgt := 21) hx hb dX7_joinCount_11 (by decide) (fun c => absurd c (by decide)) (fun _ => ?_)
    refine lv_aload_n hx hb dX7_joinCount_14 rfl (lv_at hl 0 rfl) ?_
    refine gf_X7_136 hx hb hts hown hK hP 0 rfl (v := .int (nI (pmJ S (slM x b) (slM x2 b2) t fr to k).1)) rfl dX7_joinCount_15 ?_
    refine lv_goto (tgt := 22) hx hb dX7_joinCount_18 (by decide) ?_
    exact wI_ret ((va_up (va_up I 0 (jfC I x b x2 b2 t)) 6 (nI (pmJ S (slM x b) (slM x2 b2) t fr to k).1)), (va_up (va_up (va_up (va_up S 10 (lkN S (slM x b) t fr to (S 10) k)) 11 (lkN S (slM x2 b2) t fr to (S 11) k)) 12 (pmJ S (slM x b) (slM x2 b2) t fr to k).2.1) 13 (pmJ S (slM x b) (slM x2 b2) t fr to k).2.2)) hS hP hx hb hr hlocks dX7_joinCount_22 (Nat.le_of_ble_eq_true rfl) (Nat.le_of_ble_eq_true rfl) hQ ⟨(msc_S (msc_S (msc_S (msc_S (msc_I (msc_I (msc_0 I S) (by decide) _) (by decide) _) (by decide) _) (by decide) _) (by decide) _) (by decide) _), fun q => absurd hcd q, fun _ => ⟨hcd, rfl⟩⟩
  · have hP : va_P D clW (wM cy ad (va_up I 0 (jfC I x b x2 b2 t)) S) H := hP
    have hD : va_D A (wM cy ad (va_up I 0 (jfC I x b x2 b2 t)) S) := hD
    refine lv_if_eq (tgt := 21) hx hb dX7_joinCount_11 (by decide) (fun _ => ?_) (fun c => absurd (by decide) c)
    refine lv_iconst (v := 0) hx hb dX7_joinCount_21 (by decide) ?_
    exact wI_ret ((va_up I 0 (jfC I x b x2 b2 t)), S) hS hP hx hb hr hlocks dX7_joinCount_22 (Nat.le_of_ble_eq_true rfl) (Nat.le_of_ble_eq_true rfl) hQ ⟨(msc_I (msc_0 I S) (by decide) _), fun _ => rfl, fun q => absurd q hcd⟩

set_option maxHeartbeats 4000000 in
set_option maxRecDepth 100000 in
theorem c_X7_joinFrom (l : Launch) (D : va_G) (cy : Nat → ClassId) (ad : Nat → Nat) (I : AI) (S : AS) (sz : Nat) (x : Int32) (b : Int32) (x2 : Int32) (b2 : Int32) (t : Int32) (ix : Int32) (k : Nat) (hk : I 3 = nI k) (hk8 : k ≤ 256) (fr : Nat → Nat) (to : Nat → Nat) (hfr : ∀ i : Nat, i < k → S 5 i = nI (fr i) ∧ S 6 i = nI (to i) ∧ fr i ≤ to i ∧ to i ≤ 100) : Met l yX7_joinFrom (Cond.code yX7_joinFrom cX7_joinFrom 8 (some .int) :: wsL_law) ({ frames := 4, cells := 0, slots := 0, locals := 93 }) (va_Pc [.ref (ad 0), .int x, .int b, .int x2, .int b2, .int t, .int ix] (wrB D cy (wM cy ad I S) sz)) (va_Qi (S := AI × AS) (fun r u => msc I S u.1 u.2 ∧ (¬ jfC I x b x2 b2 t = 0 → u.1 0 = jfC I x b x2 b2 t) ∧ (jfC I x b x2 b2 t = 0 → (inB ix 0 (nI (pmJ S (slM x b) (slM x2 b2) t fr to k).1 - 1) = true ∧ u.1 0 = 0 ∧ r = (pmJ S (slM x b) (slM x2 b2) t fr to k).2.1 ix.toNatClampNeg) ∨ (¬ inB ix 0 (nI (pmJ S (slM x b) (slM x2 b2) t fr to k).1 - 1) = true ∧ u.1 0 = 4))) (fun u t9 => va_P D clW (wM cy ad u.1 u.2) t9.heap) (va_A (wM cy ad I S) sz)) 0 0 (va_A (wM cy ad I S) sz) := by
  refine enter (cc := cX7_joinFrom) (by decide) (Nat.le_of_ble_eq_true rfl) ?_
  intro p e s m below meth c hx hb hr hml hown hts hlocks hin hv Q hQ ls hl
  obtain ⟨hsz, hP, hK, hD0⟩ := hv
  subst hsz
  have hD := hD0.self (sz := s.heap.size)
  generalize hAe : va_A (wM cy ad I S) s.heap.size = A at hD hQ ⊢
  have hA : ∀ q : Nat, s.heap.size ≤ q → A q := fun q h => by rw [← hAe]; exact Or.inr h
  have hS : va_S A s.heap s.heap [] := va_S.rf
  suffices K_ : ∀ (H : Heap) (locs : List Loc), va_P D clW (wM cy ad I S) H → va_S A s.heap H locs → W p l e ({ frames := 4, cells := 0, slots := 0, locals := 93 }) s m ([.ref (ad 0), .int x, .int b, .int x2, .int b2, .int t, .int ix] : List Value).toArray below meth c H locs 0 0 Q (F0 m 0 ls []) from K_ _ _ hP hS
  clear hP hS
  intro H locs hP hS
  have hown : s.vm.findClass RX7 = some m.cls := hown
  have hl : lv_has ls 8 [(0, .ref (ad 0)), (1, .int x), (2, .int b), (3, .int x2), (4, .int b2), (5, .int t), (6, .int ix)] := hl
  refine lv_aload_n hx hb dX7_joinFrom_0 rfl (lv_at hl 0 rfl) ?_
  refine lv_iload_n hx hb dX7_joinFrom_1 rfl (lv_at hl 1 rfl) ?_
  refine lv_iload_n hx hb dX7_joinFrom_2 rfl (lv_at hl 2 rfl) ?_
  refine lv_iload_n hx hb dX7_joinFrom_3 rfl (lv_at hl 3 rfl) ?_
  refine lv_iload hx hb dX7_joinFrom_4 (lv_at hl 4 rfl) ?_
  refine lv_iload hx hb dX7_joinFrom_6 (lv_at hl 5 rfl) ?_
  refine wI_call (va_runV (As := [.int x, .int b, .int x2, .int b2, .int t]) (rest := []) ⟨hx, hb, hml, hown, hts⟩ (c_X7_looksAtBoth l D cy ad I S H.size x b x2 b2 t k hk hk8 fr to hfr) (cw_X7_172 hts rfl rfl ⟨Nat.le_of_ble_eq_true rfl, Nat.le_of_ble_eq_true rfl⟩) (preVW (ci := 7) (q0 := 0) hK hP hD rfl rfl) rfl rfl hl.1 rfl (lv_room (Nat.le_of_ble_eq_true rfl)) dX7_joinFrom_8 ⟨Nat.le_of_ble_eq_true rfl, Nat.le_of_ble_eq_true rfl⟩) hP hD hS hA [0, 1, 2, 3, 4, 5, 6, 7, 8, 9, 10, 11, 12, 13, 14, 15, 16] rfl [.inr 0, .inr 1, .inr 2, .inr 3, .inr 4, .inr 5, .inr 6, .inr 7, .inr 8, .inr 9, .inr 10, .inr 11, .inr 12, .inr 13, .inr 14, .inr 15, .inr 16] (by decide) (fun u => (wM cy ad u.1 u.2)) (fun _ => rfl) (fun _ => rfl) (fun r8_1 u8_1 H locs q8_1 hP hD hS hkp => ?_)
  obtain ⟨I2_1, S2_1⟩ := u8_1
  have hP : va_P D clW (wM cy ad I2_1 S2_1) H := hP
  have hD : va_D A (wM cy ad I2_1 S2_1) := hD
  rcases q8_1 with ⟨hcd, rfl, rfl, rfl⟩ | ⟨hcd, rfl, rfl, rfl⟩
  · have hP : va_P D clW (wM cy ad (va_up (va_up I 0 (jfC I x b x2 b2 t)) 6 (nI (pmJ S (slM x b) (slM x2 b2) t fr to k).1)) (va_up (va_up (va_up (va_up S 10 (lkN S (slM x b) t fr to (S 10) k)) 11 (lkN S (slM x2 b2) t fr to (S 11) k)) 12 (pmJ S (slM x b) (slM x2 b2) t fr to k).2.1) 13 (pmJ S (slM x b) (slM x2 b2) t fr to k).2.2)) H := hP
    have hD : va_D A (wM cy ad (va_up (va_up I 0 (jfC I x b x2 b2 t)) 6 (nI (pmJ S (slM x b) (slM x2 b2) t fr to k).1)) (va_up (va_up (va_up (va_up S 10 (lkN S (slM x b) t fr to (S 10) k)) 11 (lkN S (slM x2 b2) t fr to (S 11) k)) 12 (pmJ S (slM x b) (slM x2 b2) t fr to k).2.1) 13 (pmJ S (slM x b) (slM x2 b2) t fr to k).2.2)) := hD
    refine lv_if_eq (tgt := 45) hx hb dX7_joinFrom_11 (by decide) (fun c => absurd c (by decide)) (fun _ => ?_)
    refine lv_aload_n hx hb dX7_joinFrom_14 rfl (lv_at hl 0 rfl) ?_
    refine lv_iload hx hb dX7_joinFrom_15 (lv_at hl 6 rfl) ?_
    refine lv_iconst (v := 0) hx hb dX7_joinFrom_17 (by decide) ?_
    refine lv_aload_n hx hb dX7_joinFrom_18 rfl (lv_at hl 0 rfl) ?_
    refine gf_X7_136 hx hb hts hown hK hP 0 rfl (v := .int (nI (pmJ S (slM x b) (slM x2 b2) t fr to k).1)) rfl dX7_joinFrom_19 ?_
    refine lv_iconst (v := 1) hx hb dX7_joinFrom_22 (by decide) ?_
    refine lv_isub hx hb dX7_joinFrom_23 ?_
    refine rZ_call (P := inB ix 0 ((nI (pmJ S (slM x b) (slM x2 b2) t fr to k).1) - 1) = true) (va_runS (As := [.int ix, .int 0, .int ((nI (pmJ S (slM x b) (slM x2 b2) t fr to k).1) - 1)]) (rest := [.ref (ad 0)]) ⟨hx, hb, hml, hown, hts⟩ (c_X7_in l D cy ix 0 ((nI (pmJ S (slM x b) (slM x2 b2) t fr to k).1) - 1)) (cw_X7_67 hts rfl rfl ⟨Nat.le_of_ble_eq_true rfl, Nat.le_of_ble_eq_true rfl⟩) (preSR hK (hP.sub [] rfl)) rfl rfl hl.1 rfl (lv_room (Nat.le_of_ble_eq_true rfl)) dX7_joinFrom_24 ⟨Nat.le_of_ble_eq_true rfl, Nat.le_of_ble_eq_true rfl⟩) (fun b24_2 => ?_) (fun b24_2 => ?_)
    · have hpl : (pmJ S (slM x b) (slM x2 b2) t fr to k).1 ≤ 100 := pmS_le (S 4) (lkM S (slM x b) t fr to k) (lkO S (slM x2 b2) t fr to k) true (S 12) (S 13) 100
      obtain ⟨j, hj, hxj⟩ := in_vp b24_2 (n := 100) hpl (by decide)
      have hj9 : j < 100 := Nat.lt_of_lt_of_le hj hpl
      refine lv_if_eq (tgt := 34) hx hb dX7_joinFrom_27 (by decide) (fun c => absurd c (by decide)) (fun _ => ?_)
      refine lv_iconst (v := 0) hx hb dX7_joinFrom_30 (by decide) ?_
      refine lv_goto (tgt := 35) hx hb dX7_joinFrom_31 (by decide) ?_
      refine wI_call (va_runV (As := [.int 0]) (rest := []) ⟨hx, hb, hml, hown, hts⟩ (c_X7_goesOn l D cy ad (va_up (va_up I 0 (jfC I x b x2 b2 t)) 6 (nI (pmJ S (slM x b) (slM x2 b2) t fr to k).1)) (va_up (va_up (va_up (va_up S 10 (lkN S (slM x b) t fr to (S 10) k)) 11 (lkN S (slM x2 b2) t fr to (S 11) k)) 12 (pmJ S (slM x b) (slM x2 b2) t fr to k).2.1) 13 (pmJ S (slM x b) (slM x2 b2) t fr to k).2.2) H.size 0) (cw_X7_71 hts rfl rfl ⟨Nat.le_of_ble_eq_true rfl, Nat.le_of_ble_eq_true rfl⟩) (preVW (ci := 7) (q0 := 0) hK hP hD rfl rfl) rfl rfl hl.1 rfl (lv_room (Nat.le_of_ble_eq_true rfl)) dX7_joinFrom_35 ⟨Nat.le_of_ble_eq_true rfl, Nat.le_of_ble_eq_true rfl⟩) hP hD hS hA [0, 1, 2, 3, 4, 5, 6, 7, 8, 9, 10, 11, 12, 13, 14, 15, 16] rfl [.inr 0, .inr 1, .inr 2, .inr 3, .inr 4, .inr 5, .inr 6, .inr 7, .inr 8, .inr 9, .inr 10, .inr 11, .inr 12, .inr 13, .inr 14, .inr 15, .inr 16] (by decide) (fun u => (wM cy ad (va_up (va_up I 6 (nI (pmJ S (slM x b) (slM x2 b2) t fr to k).1)) 0 0) (va_up (va_up (va_up (va_up S 10 (lkN S (slM x b) t fr to (S 10) k)) 11 (lkN S (slM x2 b2) t fr to (S 11) k)) 12 (pmJ S (slM x b) (slM x2 b2) t fr to k).2.1) 13 (pmJ S (slM x b) (slM x2 b2) t fr to k).2.2))) (fun _ => rfl) (fun _ => rfl) (fun r35_3 u35_3 H locs q35_3 hP hD hS hkp => ?_)
      have hP : va_P D clW (wM cy ad (va_up (va_up I 6 (nI (pmJ S (slM x b) (slM x2 b2) t fr to k).1)) 0 0) (va_up (va_up (va_up (va_up S 10 (lkN S (slM x b) t fr to (S 10) k)) 11 (lkN S (slM x2 b2) t fr to (S 11) k)) 12 (pmJ S (slM x b) (slM x2 b2) t fr to k).2.1) 13 (pmJ S (slM x b) (slM x2 b2) t fr to k).2.2)) H := hP
      have hD : va_D A (wM cy ad (va_up (va_up I 6 (nI (pmJ S (slM x b) (slM x2 b2) t fr to k).1)) 0 0) (va_up (va_up (va_up (va_up S 10 (lkN S (slM x b) t fr to (S 10) k)) 11 (lkN S (slM x2 b2) t fr to (S 11) k)) 12 (pmJ S (slM x b) (slM x2 b2) t fr to k).2.1) 13 (pmJ S (slM x b) (slM x2 b2) t fr to k).2.2)) := hD
      rw [if_pos rfl] at q35_3
      subst q35_3
      refine lv_if_eq (tgt := 45) hx hb dX7_joinFrom_38 (by decide) (fun c => absurd c (by decide)) (fun _ => ?_)
      refine lv_iconst (v := 1) hx hb dX7_joinFrom_41 (by decide) ?_
      refine lv_goto (tgt := 46) hx hb dX7_joinFrom_42 (by decide) ?_
      refine lv_istore (lv' := [(7, .int 1), (0, .ref (ad 0)), (1, .int x), (2, .int b), (3, .int x2), (4, .int b2), (5, .int t), (6, .int ix)]) hx hb dX7_joinFrom_46 hl (by decide) rfl (fun ls hl => ?_)
      refine lv_iload hx hb dX7_joinFrom_48 (lv_at hl 0 rfl) ?_
      refine lv_if_eq (tgt := 63) hx hb dX7_joinFrom_50 (by decide) (fun c => absurd c (by decide)) (fun _ => ?_)
      refine lv_aload_n hx hb dX7_joinFrom_53 rfl (lv_at hl 1 rfl) ?_
      refine gf_X7_45 hx hb hts hown hK hP 0 rfl (v := .ref (ad 12)) rfl dX7_joinFrom_54 ?_
      refine lv_iload hx hb dX7_joinFrom_57 (lv_at hl 7 rfl) ?_
      refine ald_Ix (f := (pmJ S (slM x b) (slM x2 b2) t fr to k).2.1) hx hb hK hP 12 rfl (by rw [hxj]; exact vp_in_nI (by omega) (by decide)) dX7_joinFrom_59 ?_
      refine lv_goto (tgt := 64) hx hb dX7_joinFrom_60 (by decide) ?_
      exact wI_ret ((va_up (va_up I 6 (nI (pmJ S (slM x b) (slM x2 b2) t fr to k).1)) 0 0), (va_up (va_up (va_up (va_up S 10 (lkN S (slM x b) t fr to (S 10) k)) 11 (lkN S (slM x2 b2) t fr to (S 11) k)) 12 (pmJ S (slM x b) (slM x2 b2) t fr to k).2.1) 13 (pmJ S (slM x b) (slM x2 b2) t fr to k).2.2)) hS hP hx hb hr hlocks dX7_joinFrom_64 (Nat.le_of_ble_eq_true rfl) (Nat.le_of_ble_eq_true rfl) hQ ⟨(msc_S (msc_S (msc_S (msc_S (msc_I (msc_I (msc_0 I S) (by decide) _) (by decide) _) (by decide) _) (by decide) _) (by decide) _) (by decide) _), fun q => absurd hcd q, fun _ => Or.inl ⟨b24_2, rfl, rfl⟩⟩
    · refine lv_if_eq (tgt := 34) hx hb dX7_joinFrom_27 (by decide) (fun _ => ?_) (fun c => absurd (by decide) c)
      refine lv_iconst (v := 4) hx hb dX7_joinFrom_34 (by decide) ?_
      refine wI_call (va_runV (As := [.int 4]) (rest := []) ⟨hx, hb, hml, hown, hts⟩ (c_X7_goesOn l D cy ad (va_up (va_up I 0 (jfC I x b x2 b2 t)) 6 (nI (pmJ S (slM x b) (slM x2 b2) t fr to k).1)) (va_up (va_up (va_up (va_up S 10 (lkN S (slM x b) t fr to (S 10) k)) 11 (lkN S (slM x2 b2) t fr to (S 11) k)) 12 (pmJ S (slM x b) (slM x2 b2) t fr to k).2.1) 13 (pmJ S (slM x b) (slM x2 b2) t fr to k).2.2) H.size 4) (cw_X7_71 hts rfl rfl ⟨Nat.le_of_ble_eq_true rfl, Nat.le_of_ble_eq_true rfl⟩) (preVW (ci := 7) (q0 := 0) hK hP hD rfl rfl) rfl rfl hl.1 rfl (lv_room (Nat.le_of_ble_eq_true rfl)) dX7_joinFrom_35 ⟨Nat.le_of_ble_eq_true rfl, Nat.le_of_ble_eq_true rfl⟩) hP hD hS hA [0, 1, 2, 3, 4, 5, 6, 7, 8, 9, 10, 11, 12, 13, 14, 15, 16] rfl [.inr 0, .inr 1, .inr 2, .inr 3, .inr 4, .inr 5, .inr 6, .inr 7, .inr 8, .inr 9, .inr 10, .inr 11, .inr 12, .inr 13, .inr 14, .inr 15, .inr 16] (by decide) (fun u => (wM cy ad (va_up (va_up I 6 (nI (pmJ S (slM x b) (slM x2 b2) t fr to k).1)) 0 4) (va_up (va_up (va_up (va_up S 10 (lkN S (slM x b) t fr to (S 10) k)) 11 (lkN S (slM x2 b2) t fr to (S 11) k)) 12 (pmJ S (slM x b) (slM x2 b2) t fr to k).2.1) 13 (pmJ S (slM x b) (slM x2 b2) t fr to k).2.2))) (fun _ => rfl) (fun _ => rfl) (fun r35_4 u35_4 H locs q35_4 hP hD hS hkp => ?_)
      have hP : va_P D clW (wM cy ad (va_up (va_up I 6 (nI (pmJ S (slM x b) (slM x2 b2) t fr to k).1)) 0 4) (va_up (va_up (va_up (va_up S 10 (lkN S (slM x b) t fr to (S 10) k)) 11 (lkN S (slM x2 b2) t fr to (S 11) k)) 12 (pmJ S (slM x b) (slM x2 b2) t fr to k).2.1) 13 (pmJ S (slM x b) (slM x2 b2) t fr to k).2.2)) H := hP
      have hD : va_D A (wM cy ad (va_up (va_up I 6 (nI (pmJ S (slM x b) (slM x2 b2) t fr to k).1)) 0 4) (va_up (va_up (va_up (va_up S 10 (lkN S (slM x b) t fr to (S 10) k)) 11 (lkN S (slM x2 b2) t fr to (S 11) k)) 12 (pmJ S (slM x b) (slM x2 b2) t fr to k).2.1) 13 (pmJ S (slM x b) (slM x2 b2) t fr to k).2.2)) := hD
      rw [if_neg (by decide)] at q35_4
      subst q35_4
      refine lv_if_eq (tgt := 45) hx hb dX7_joinFrom_38 (by decide) (fun _ => ?_) (fun c => absurd (by decide) c)
      refine lv_iconst (v := 0) hx hb dX7_joinFrom_45 (by decide) ?_
      refine lv_istore (lv' := [(7, .int 0), (0, .ref (ad 0)), (1, .int x), (2, .int b), (3, .int x2), (4, .int b2), (5, .int t), (6, .int ix)]) hx hb dX7_joinFrom_46 hl (by decide) rfl (fun ls hl => ?_)
      refine lv_iload hx hb dX7_joinFrom_48 (lv_at hl 0 rfl) ?_
      refine lv_if_eq (tgt := 63) hx hb dX7_joinFrom_50 (by decide) (fun _ => ?_) (fun c => absurd (by decide) c)
      refine lv_iconst (v := 0) hx hb dX7_joinFrom_63 (by decide) ?_
      exact wI_ret ((va_up (va_up I 6 (nI (pmJ S (slM x b) (slM x2 b2) t fr to k).1)) 0 4), (va_up (va_up (va_up (va_up S 10 (lkN S (slM x b) t fr to (S 10) k)) 11 (lkN S (slM x2 b2) t fr to (S 11) k)) 12 (pmJ S (slM x b) (slM x2 b2) t fr to k).2.1) 13 (pmJ S (slM x b) (slM x2 b2) t fr to k).2.2)) hS hP hx hb hr hlocks dX7_joinFrom_64 (Nat.le_of_ble_eq_true rfl) (Nat.le_of_ble_eq_true rfl) hQ ⟨(msc_S (msc_S (msc_S (msc_S (msc_I (msc_I (msc_0 I S) (by decide) _) (by decide) _) (by decide) _) (by decide) _) (by decide) _) (by decide) _), fun q => absurd hcd q, fun _ => Or.inr ⟨b24_2, rfl⟩⟩
  · have hP : va_P D clW (wM cy ad (va_up I 0 (jfC I x b x2 b2 t)) S) H := hP
    have hD : va_D A (wM cy ad (va_up I 0 (jfC I x b x2 b2 t)) S) := hD
    refine lv_if_eq (tgt := 45) hx hb dX7_joinFrom_11 (by decide) (fun _ => ?_) (fun c => absurd (by decide) c)
    refine lv_iconst (v := 0) hx hb dX7_joinFrom_45 (by decide) ?_
    refine lv_istore (lv' := [(7, .int 0), (0, .ref (ad 0)), (1, .int x), (2, .int b), (3, .int x2), (4, .int b2), (5, .int t), (6, .int ix)]) hx hb dX7_joinFrom_46 hl (by decide) rfl (fun ls hl => ?_)
    refine lv_iload hx hb dX7_joinFrom_48 (lv_at hl 0 rfl) ?_
    refine lv_if_eq (tgt := 63) hx hb dX7_joinFrom_50 (by decide) (fun _ => ?_) (fun c => absurd (by decide) c)
    refine lv_iconst (v := 0) hx hb dX7_joinFrom_63 (by decide) ?_
    exact wI_ret ((va_up I 0 (jfC I x b x2 b2 t)), S) hS hP hx hb hr hlocks dX7_joinFrom_64 (Nat.le_of_ble_eq_true rfl) (Nat.le_of_ble_eq_true rfl) hQ ⟨(msc_I (msc_0 I S) (by decide) _), fun _ => rfl, fun q => absurd q hcd⟩

set_option maxHeartbeats 4000000 in
set_option maxRecDepth 100000 in
theorem c_X7_joinTo (l : Launch) (D : va_G) (cy : Nat → ClassId) (ad : Nat → Nat) (I : AI) (S : AS) (sz : Nat) (x : Int32) (b : Int32) (x2 : Int32) (b2 : Int32) (t : Int32) (ix : Int32) (k : Nat) (hk : I 3 = nI k) (hk8 : k ≤ 256) (fr : Nat → Nat) (to : Nat → Nat) (hfr : ∀ i : Nat, i < k → S 5 i = nI (fr i) ∧ S 6 i = nI (to i) ∧ fr i ≤ to i ∧ to i ≤ 100) : Met l yX7_joinTo (Cond.code yX7_joinTo cX7_joinTo 8 (some .int) :: wsL_law) ({ frames := 4, cells := 0, slots := 0, locals := 93 }) (va_Pc [.ref (ad 0), .int x, .int b, .int x2, .int b2, .int t, .int ix] (wrB D cy (wM cy ad I S) sz)) (va_Qi (S := AI × AS) (fun r u => msc I S u.1 u.2 ∧ (¬ jfC I x b x2 b2 t = 0 → u.1 0 = jfC I x b x2 b2 t) ∧ (jfC I x b x2 b2 t = 0 → (inB ix 0 (nI (pmJ S (slM x b) (slM x2 b2) t fr to k).1 - 1) = true ∧ u.1 0 = 0 ∧ r = (pmJ S (slM x b) (slM x2 b2) t fr to k).2.2 ix.toNatClampNeg) ∨ (¬ inB ix 0 (nI (pmJ S (slM x b) (slM x2 b2) t fr to k).1 - 1) = true ∧ u.1 0 = 4))) (fun u t9 => va_P D clW (wM cy ad u.1 u.2) t9.heap) (va_A (wM cy ad I S) sz)) 0 0 (va_A (wM cy ad I S) sz) := by
  refine enter (cc := cX7_joinTo) (by decide) (Nat.le_of_ble_eq_true rfl) ?_
  intro p e s m below meth c hx hb hr hml hown hts hlocks hin hv Q hQ ls hl
  obtain ⟨hsz, hP, hK, hD0⟩ := hv
  subst hsz
  have hD := hD0.self (sz := s.heap.size)
  generalize hAe : va_A (wM cy ad I S) s.heap.size = A at hD hQ ⊢
  have hA : ∀ q : Nat, s.heap.size ≤ q → A q := fun q h => by rw [← hAe]; exact Or.inr h
  have hS : va_S A s.heap s.heap [] := va_S.rf
  suffices K_ : ∀ (H : Heap) (locs : List Loc), va_P D clW (wM cy ad I S) H → va_S A s.heap H locs → W p l e ({ frames := 4, cells := 0, slots := 0, locals := 93 }) s m ([.ref (ad 0), .int x, .int b, .int x2, .int b2, .int t, .int ix] : List Value).toArray below meth c H locs 0 0 Q (F0 m 0 ls []) from K_ _ _ hP hS
  clear hP hS
  intro H locs hP hS
  have hown : s.vm.findClass RX7 = some m.cls := hown
  have hl : lv_has ls 8 [(0, .ref (ad 0)), (1, .int x), (2, .int b), (3, .int x2), (4, .int b2), (5, .int t), (6, .int ix)] := hl
  refine lv_aload_n hx hb dX7_joinTo_0 rfl (lv_at hl 0 rfl) ?_
  refine lv_iload_n hx hb dX7_joinTo_1 rfl (lv_at hl 1 rfl) ?_
  refine lv_iload_n hx hb dX7_joinTo_2 rfl (lv_at hl 2 rfl) ?_
  refine lv_iload_n hx hb dX7_joinTo_3 rfl (lv_at hl 3 rfl) ?_
  refine lv_iload hx hb dX7_joinTo_4 (lv_at hl 4 rfl) ?_
  refine lv_iload hx hb dX7_joinTo_6 (lv_at hl 5 rfl) ?_
  refine wI_call (va_runV (As := [.int x, .int b, .int x2, .int b2, .int t]) (rest := []) ⟨hx, hb, hml, hown, hts⟩ (c_X7_looksAtBoth l D cy ad I S H.size x b x2 b2 t k hk hk8 fr to hfr) (cw_X7_172 hts rfl rfl ⟨Nat.le_of_ble_eq_true rfl, Nat.le_of_ble_eq_true rfl⟩) (preVW (ci := 7) (q0 := 0) hK hP hD rfl rfl) rfl rfl hl.1 rfl (lv_room (Nat.le_of_ble_eq_true rfl)) dX7_joinTo_8 ⟨Nat.le_of_ble_eq_true rfl, Nat.le_of_ble_eq_true rfl⟩) hP hD hS hA [0, 1, 2, 3, 4, 5, 6, 7, 8, 9, 10, 11, 12, 13, 14, 15, 16] rfl [.inr 0, .inr 1, .inr 2, .inr 3, .inr 4, .inr 5, .inr 6, .inr 7, .inr 8, .inr 9, .inr 10, .inr 11, .inr 12, .inr 13, .inr 14, .inr 15, .inr 16] (by decide) (fun u => (wM cy ad u.1 u.2)) (fun _ => rfl) (fun _ => rfl) (fun r8_1 u8_1 H locs q8_1 hP hD hS hkp => ?_)
  obtain ⟨I2_1, S2_1⟩ := u8_1
  have hP : va_P D clW (wM cy ad I2_1 S2_1) H := hP
  have hD : va_D A (wM cy ad I2_1 S2_1) := hD
  rcases q8_1 with ⟨hcd, rfl, rfl, rfl⟩ | ⟨hcd, rfl, rfl, rfl⟩
  · have hP : va_P D clW (wM cy ad (va_up (va_up I 0 (jfC I x b x2 b2 t)) 6 (nI (pmJ S (slM x b) (slM x2 b2) t fr to k).1)) (va_up (va_up (va_up (va_up S 10 (lkN S (slM x b) t fr to (S 10) k)) 11 (lkN S (slM x2 b2) t fr to (S 11) k)) 12 (pmJ S (slM x b) (slM x2 b2) t fr to k).2.1) 13 (pmJ S (slM x b) (slM x2 b2) t fr to k).2.2)) H := hP
    have hD : va_D A (wM cy ad (va_up (va_up I 0 (jfC I x b x2 b2 t)) 6 (nI (pmJ S (slM x b) (slM x2 b2) t fr to k).1)) (va_up (va_up (va_up (va_up S 10 (lkN S (slM x b) t fr to (S 10) k)) 11 (lkN S (slM x2 b2) t fr to (S 11) k)) 12 (pmJ S (slM x b) (slM x2 b2) t fr to k).2.1) 13 (pmJ S (slM x b) (slM x2 b2) t fr to k).2.2)) := hD
    refine lv_if_eq (tgt := 45) hx hb dX7_joinTo_11 (by decide) (fun c => absurd c (by decide)) (fun _ => ?_)
    refine lv_aload_n hx hb dX7_joinTo_14 rfl (lv_at hl 0 rfl) ?_
    refine lv_iload hx hb dX7_joinTo_15 (lv_at hl 6 rfl) ?_
    refine lv_iconst (v := 0) hx hb dX7_joinTo_17 (by decide) ?_
    refine lv_aload_n hx hb dX7_joinTo_18 rfl (lv_at hl 0 rfl) ?_
    refine gf_X7_136 hx hb hts hown hK hP 0 rfl (v := .int (nI (pmJ S (slM x b) (slM x2 b2) t fr to k).1)) rfl dX7_joinTo_19 ?_
    refine lv_iconst (v := 1) hx hb dX7_joinTo_22 (by decide) ?_
    refine lv_isub hx hb dX7_joinTo_23 ?_
    refine rZ_call (P := inB ix 0 ((nI (pmJ S (slM x b) (slM x2 b2) t fr to k).1) - 1) = true) (va_runS (As := [.int ix, .int 0, .int ((nI (pmJ S (slM x b) (slM x2 b2) t fr to k).1) - 1)]) (rest := [.ref (ad 0)]) ⟨hx, hb, hml, hown, hts⟩ (c_X7_in l D cy ix 0 ((nI (pmJ S (slM x b) (slM x2 b2) t fr to k).1) - 1)) (cw_X7_67 hts rfl rfl ⟨Nat.le_of_ble_eq_true rfl, Nat.le_of_ble_eq_true rfl⟩) (preSR hK (hP.sub [] rfl)) rfl rfl hl.1 rfl (lv_room (Nat.le_of_ble_eq_true rfl)) dX7_joinTo_24 ⟨Nat.le_of_ble_eq_true rfl, Nat.le_of_ble_eq_true rfl⟩) (fun b24_2 => ?_) (fun b24_2 => ?_)
    · have hpl : (pmJ S (slM x b) (slM x2 b2) t fr to k).1 ≤ 100 := pmS_le (S 4) (lkM S (slM x b) t fr to k) (lkO S (slM x2 b2) t fr to k) true (S 12) (S 13) 100
      obtain ⟨j, hj, hxj⟩ := in_vp b24_2 (n := 100) hpl (by decide)
      have hj9 : j < 100 := Nat.lt_of_lt_of_le hj hpl
      refine lv_if_eq (tgt := 34) hx hb dX7_joinTo_27 (by decide) (fun c => absurd c (by decide)) (fun _ => ?_)
      refine lv_iconst (v := 0) hx hb dX7_joinTo_30 (by decide) ?_
      refine lv_goto (tgt := 35) hx hb dX7_joinTo_31 (by decide) ?_
      refine wI_call (va_runV (As := [.int 0]) (rest := []) ⟨hx, hb, hml, hown, hts⟩ (c_X7_goesOn l D cy ad (va_up (va_up I 0 (jfC I x b x2 b2 t)) 6 (nI (pmJ S (slM x b) (slM x2 b2) t fr to k).1)) (va_up (va_up (va_up (va_up S 10 (lkN S (slM x b) t fr to (S 10) k)) 11 (lkN S (slM x2 b2) t fr to (S 11) k)) 12 (pmJ S (slM x b) (slM x2 b2) t fr to k).2.1) 13 (pmJ S (slM x b) (slM x2 b2) t fr to k).2.2) H.size 0) (cw_X7_71 hts rfl rfl ⟨Nat.le_of_ble_eq_true rfl, Nat.le_of_ble_eq_true rfl⟩) (preVW (ci := 7) (q0 := 0) hK hP hD rfl rfl) rfl rfl hl.1 rfl (lv_room (Nat.le_of_ble_eq_true rfl)) dX7_joinTo_35 ⟨Nat.le_of_ble_eq_true rfl, Nat.le_of_ble_eq_true rfl⟩) hP hD hS hA [0, 1, 2, 3, 4, 5, 6, 7, 8, 9, 10, 11, 12, 13, 14, 15, 16] rfl [.inr 0, .inr 1, .inr 2, .inr 3, .inr 4, .inr 5, .inr 6, .inr 7, .inr 8, .inr 9, .inr 10, .inr 11, .inr 12, .inr 13, .inr 14, .inr 15, .inr 16] (by decide) (fun u => (wM cy ad (va_up (va_up I 6 (nI (pmJ S (slM x b) (slM x2 b2) t fr to k).1)) 0 0) (va_up (va_up (va_up (va_up S 10 (lkN S (slM x b) t fr to (S 10) k)) 11 (lkN S (slM x2 b2) t fr to (S 11) k)) 12 (pmJ S (slM x b) (slM x2 b2) t fr to k).2.1) 13 (pmJ S (slM x b) (slM x2 b2) t fr to k).2.2))) (fun _ => rfl) (fun _ => rfl) (fun r35_3 u35_3 H locs q35_3 hP hD hS hkp => ?_)
      have hP : va_P D clW (wM cy ad (va_up (va_up I 6 (nI (pmJ S (slM x b) (slM x2 b2) t fr to k).1)) 0 0) (va_up (va_up (va_up (va_up S 10 (lkN S (slM x b) t fr to (S 10) k)) 11 (lkN S (slM x2 b2) t fr to (S 11) k)) 12 (pmJ S (slM x b) (slM x2 b2) t fr to k).2.1) 13 (pmJ S (slM x b) (slM x2 b2) t fr to k).2.2)) H := hP
      have hD : va_D A (wM cy ad (va_up (va_up I 6 (nI (pmJ S (slM x b) (slM x2 b2) t fr to k).1)) 0 0) (va_up (va_up (va_up (va_up S 10 (lkN S (slM x b) t fr to (S 10) k)) 11 (lkN S (slM x2 b2) t fr to (S 11) k)) 12 (pmJ S (slM x b) (slM x2 b2) t fr to k).2.1) 13 (pmJ S (slM x b) (slM x2 b2) t fr to k).2.2)) := hD
      rw [if_pos rfl] at q35_3
      subst q35_3
      refine lv_if_eq (tgt := 45) hx hb dX7_joinTo_38 (by decide) (fun c => absurd c (by decide)) (fun _ => ?_)
      refine lv_iconst (v := 1) hx hb dX7_joinTo_41 (by decide) ?_
      refine lv_goto (tgt := 46) hx hb dX7_joinTo_42 (by decide) ?_
      refine lv_istore (lv' := [(7, .int 1), (0, .ref (ad 0)), (1, .int x), (2, .int b), (3, .int x2), (4, .int b2), (5, .int t), (6, .int ix)]) hx hb dX7_joinTo_46 hl (by decide) rfl (fun ls hl => ?_)
      refine lv_iload hx hb dX7_joinTo_48 (lv_at hl 0 rfl) ?_
      refine lv_if_eq (tgt := 63) hx hb dX7_joinTo_50 (by decide) (fun c => absurd c (by decide)) (fun _ => ?_)
      refine lv_aload_n hx hb dX7_joinTo_53 rfl (lv_at hl 1 rfl) ?_
      refine gf_X7_48 hx hb hts hown hK hP 0 rfl (v := .ref (ad 13)) rfl dX7_joinTo_54 ?_
      refine lv_iload hx hb dX7_joinTo_57 (lv_at hl 7 rfl) ?_
      refine ald_Ix (f := (pmJ S (slM x b) (slM x2 b2) t fr to k).2.2) hx hb hK hP 13 rfl (by rw [hxj]; exact vp_in_nI (by omega) (by decide)) dX7_joinTo_59 ?_
      refine lv_goto (tgt := 64) hx hb dX7_joinTo_60 (by decide) ?_
      exact wI_ret ((va_up (va_up I 6 (nI (pmJ S (slM x b) (slM x2 b2) t fr to k).1)) 0 0), (va_up (va_up (va_up (va_up S 10 (lkN S (slM x b) t fr to (S 10) k)) 11 (lkN S (slM x2 b2) t fr to (S 11) k)) 12 (pmJ S (slM x b) (slM x2 b2) t fr to k).2.1) 13 (pmJ S (slM x b) (slM x2 b2) t fr to k).2.2)) hS hP hx hb hr hlocks dX7_joinTo_64 (Nat.le_of_ble_eq_true rfl) (Nat.le_of_ble_eq_true rfl) hQ ⟨(msc_S (msc_S (msc_S (msc_S (msc_I (msc_I (msc_0 I S) (by decide) _) (by decide) _) (by decide) _) (by decide) _) (by decide) _) (by decide) _), fun q => absurd hcd q, fun _ => Or.inl ⟨b24_2, rfl, rfl⟩⟩
    · refine lv_if_eq (tgt := 34) hx hb dX7_joinTo_27 (by decide) (fun _ => ?_) (fun c => absurd (by decide) c)
      refine lv_iconst (v := 4) hx hb dX7_joinTo_34 (by decide) ?_
      refine wI_call (va_runV (As := [.int 4]) (rest := []) ⟨hx, hb, hml, hown, hts⟩ (c_X7_goesOn l D cy ad (va_up (va_up I 0 (jfC I x b x2 b2 t)) 6 (nI (pmJ S (slM x b) (slM x2 b2) t fr to k).1)) (va_up (va_up (va_up (va_up S 10 (lkN S (slM x b) t fr to (S 10) k)) 11 (lkN S (slM x2 b2) t fr to (S 11) k)) 12 (pmJ S (slM x b) (slM x2 b2) t fr to k).2.1) 13 (pmJ S (slM x b) (slM x2 b2) t fr to k).2.2) H.size 4) (cw_X7_71 hts rfl rfl ⟨Nat.le_of_ble_eq_true rfl, Nat.le_of_ble_eq_true rfl⟩) (preVW (ci := 7) (q0 := 0) hK hP hD rfl rfl) rfl rfl hl.1 rfl (lv_room (Nat.le_of_ble_eq_true rfl)) dX7_joinTo_35 ⟨Nat.le_of_ble_eq_true rfl, Nat.le_of_ble_eq_true rfl⟩) hP hD hS hA [0, 1, 2, 3, 4, 5, 6, 7, 8, 9, 10, 11, 12, 13, 14, 15, 16] rfl [.inr 0, .inr 1, .inr 2, .inr 3, .inr 4, .inr 5, .inr 6, .inr 7, .inr 8, .inr 9, .inr 10, .inr 11, .inr 12, .inr 13, .inr 14, .inr 15, .inr 16] (by decide) (fun u => (wM cy ad (va_up (va_up I 6 (nI (pmJ S (slM x b) (slM x2 b2) t fr to k).1)) 0 4) (va_up (va_up (va_up (va_up S 10 (lkN S (slM x b) t fr to (S 10) k)) 11 (lkN S (slM x2 b2) t fr to (S 11) k)) 12 (pmJ S (slM x b) (slM x2 b2) t fr to k).2.1) 13 (pmJ S (slM x b) (slM x2 b2) t fr to k).2.2))) (fun _ => rfl) (fun _ => rfl) (fun r35_4 u35_4 H locs q35_4 hP hD hS hkp => ?_)
      have hP : va_P D clW (wM cy ad (va_up (va_up I 6 (nI (pmJ S (slM x b) (slM x2 b2) t fr to k).1)) 0 4) (va_up (va_up (va_up (va_up S 10 (lkN S (slM x b) t fr to (S 10) k)) 11 (lkN S (slM x2 b2) t fr to (S 11) k)) 12 (pmJ S (slM x b) (slM x2 b2) t fr to k).2.1) 13 (pmJ S (slM x b) (slM x2 b2) t fr to k).2.2)) H := hP
      have hD : va_D A (wM cy ad (va_up (va_up I 6 (nI (pmJ S (slM x b) (slM x2 b2) t fr to k).1)) 0 4) (va_up (va_up (va_up (va_up S 10 (lkN S (slM x b) t fr to (S 10) k)) 11 (lkN S (slM x2 b2) t fr to (S 11) k)) 12 (pmJ S (slM x b) (slM x2 b2) t fr to k).2.1) 13 (pmJ S (slM x b) (slM x2 b2) t fr to k).2.2)) := hD
      rw [if_neg (by decide)] at q35_4
      subst q35_4
      refine lv_if_eq (tgt := 45) hx hb dX7_joinTo_38 (by decide) (fun _ => ?_) (fun c => absurd (by decide) c)
      refine lv_iconst (v := 0) hx hb dX7_joinTo_45 (by decide) ?_
      refine lv_istore (lv' := [(7, .int 0), (0, .ref (ad 0)), (1, .int x), (2, .int b), (3, .int x2), (4, .int b2), (5, .int t), (6, .int ix)]) hx hb dX7_joinTo_46 hl (by decide) rfl (fun ls hl => ?_)
      refine lv_iload hx hb dX7_joinTo_48 (lv_at hl 0 rfl) ?_
      refine lv_if_eq (tgt := 63) hx hb dX7_joinTo_50 (by decide) (fun _ => ?_) (fun c => absurd (by decide) c)
      refine lv_iconst (v := 0) hx hb dX7_joinTo_63 (by decide) ?_
      exact wI_ret ((va_up (va_up I 6 (nI (pmJ S (slM x b) (slM x2 b2) t fr to k).1)) 0 4), (va_up (va_up (va_up (va_up S 10 (lkN S (slM x b) t fr to (S 10) k)) 11 (lkN S (slM x2 b2) t fr to (S 11) k)) 12 (pmJ S (slM x b) (slM x2 b2) t fr to k).2.1) 13 (pmJ S (slM x b) (slM x2 b2) t fr to k).2.2)) hS hP hx hb hr hlocks dX7_joinTo_64 (Nat.le_of_ble_eq_true rfl) (Nat.le_of_ble_eq_true rfl) hQ ⟨(msc_S (msc_S (msc_S (msc_S (msc_I (msc_I (msc_0 I S) (by decide) _) (by decide) _) (by decide) _) (by decide) _) (by decide) _) (by decide) _), fun q => absurd hcd q, fun _ => Or.inr ⟨b24_2, rfl⟩⟩
  · have hP : va_P D clW (wM cy ad (va_up I 0 (jfC I x b x2 b2 t)) S) H := hP
    have hD : va_D A (wM cy ad (va_up I 0 (jfC I x b x2 b2 t)) S) := hD
    refine lv_if_eq (tgt := 45) hx hb dX7_joinTo_11 (by decide) (fun _ => ?_) (fun c => absurd (by decide) c)
    refine lv_iconst (v := 0) hx hb dX7_joinTo_45 (by decide) ?_
    refine lv_istore (lv' := [(7, .int 0), (0, .ref (ad 0)), (1, .int x), (2, .int b), (3, .int x2), (4, .int b2), (5, .int t), (6, .int ix)]) hx hb dX7_joinTo_46 hl (by decide) rfl (fun ls hl => ?_)
    refine lv_iload hx hb dX7_joinTo_48 (lv_at hl 0 rfl) ?_
    refine lv_if_eq (tgt := 63) hx hb dX7_joinTo_50 (by decide) (fun _ => ?_) (fun c => absurd (by decide) c)
    refine lv_iconst (v := 0) hx hb dX7_joinTo_63 (by decide) ?_
    exact wI_ret ((va_up I 0 (jfC I x b x2 b2 t)), S) hS hP hx hb hr hlocks dX7_joinTo_64 (Nat.le_of_ble_eq_true rfl) (Nat.le_of_ble_eq_true rfl) hQ ⟨(msc_I (msc_0 I S) (by decide) _), fun _ => rfl, fun q => absurd q hcd⟩

set_option maxHeartbeats 4000000 in
set_option maxRecDepth 100000 in
theorem c_X7_bothDays_0 (l : Launch) (D : va_G) (cy : Nat → ClassId) (ad : Nat → Nat) (I : AI) (S : AS) (k : Nat) (hk8 : k ≤ 256) (hrow : rowP k (S 10)) (hro2 : rowP k (S 11)) : Met l yX7_bothDays (Cond.code yX7_bothDays cX7_bothDays 5 (some .int) :: wsL_law) ({ frames := 0, cells := 0, slots := 0, locals := 0 }) (va_Pc [.ref (ad 0), .int 0] (rdB D cy (wM cy ad I S))) (rdI (fun r => r = (bdN (S 4) (S 10) (S 11) false 100))) 0 0 noA := by
  refine enter (cc := cX7_bothDays) (by decide) (Nat.le_of_ble_eq_true rfl) ?_
  intro p e s m below meth c hx hb hr hml hown hts hlocks hin hv Q hQ ls hl
  obtain ⟨hP, hK⟩ := hv
  have hown : s.vm.findClass RX7 = some m.cls := hown
  have hl : lv_has ls 5 [(0, .ref (ad 0)), (1, .int 0)] := hl
  refine lv_iconst (v := 0) hx hb dX7_bothDays_0 (by decide) ?_
  refine lv_istore_n (lv' := [(2, .int 0), (0, .ref (ad 0)), (1, .int 0)]) hx hb dX7_bothDays_1 rfl hl (by decide) rfl (fun ls hl => ?_)
  refine lv_iconst (v := 0) hx hb dX7_bothDays_2 (by decide) ?_
  refine lv_istore_n (lv' := [(3, .int 0), (2, .int 0), (0, .ref (ad 0)), (1, .int 0)]) hx hb dX7_bothDays_3 rfl hl (by decide) rfl (fun ls hl => ?_)
  have L4 : ∀ (n_4 i : Nat), i ≤ 100 → 100 + 1 ≤ i + n_4 → ∀ (ls : Array Slot), lv_has ls 5 [(3, .int (nI i)), (2, .int (bdN (S 4) (S 10) (S 11) false i)), (0, .ref (ad 0)), (1, .int 0)] → W p l e { frames := 0, cells := 0, slots := 0, locals := 0 } s m ([.ref (ad 0), .int 0] : List Value).toArray below meth c s.heap [] 0 0 Q (F0 m 4 ls []) := by
    clear hl
    intro n_4
    induction n_4 with
    | zero => intro i  hle_4 hn_4; exact absurd hn_4 (by omega)
    | succ n_4 ih4 =>
      intro i  hle_4 hn_4   ls hl
      refine lv_iload_n hx hb dX7_bothDays_4 rfl (lv_at hl 0 rfl) ?_
      refine lv_bipush (v := 100) hx hb dX7_bothDays_5 (by decide) ?_
      refine lv_icmp_ge (tgt := 85) hx hb dX7_bothDays_7 (by decide) (fun c7_1 => ?_) (fun c7_1 => ?_)
      · have f7_1 : 100 ≤ i := nt_le (a := 100) (b := i) (by omega) (by omega) c7_1
        refine lv_iload_n hx hb dX7_bothDays_85 rfl (lv_at hl 1 rfl) ?_
        exact rI_ret hx hb hr hlocks dX7_bothDays_86 hQ (by rw [show i = 100 by omega])
      · have f7_1 : i < 100 := nt_nle (a := 100) (b := i) (by omega) (by omega) c7_1
        refine lv_aload_n hx hb dX7_bothDays_10 rfl (lv_at hl 2 rfl) ?_
        refine gf_X7_39 hx hb hts hown hK hP 0 rfl (v := .ref (ad 10)) rfl dX7_bothDays_11 ?_
        refine lv_iload_n hx hb dX7_bothDays_14 rfl (lv_at hl 0 rfl) ?_
        refine ald_I (f := (S 10)) hx hb hK hP 10 rfl (i := i) (by omega) (by decide) dX7_bothDays_15 ?_
        refine lv_iconst (v := (-1)) hx hb dX7_bothDays_16 (by decide) ?_
        refine lv_icmp_eq (tgt := 34) hx hb dX7_bothDays_17 (by decide) (fun c17_2 => ?_) (fun c17_2 => ?_)
        · refine lv_iconst (v := 0) hx hb dX7_bothDays_34 (by decide) ?_
          refine lv_istore (lv' := [(4, .int 0), (3, .int (nI i)), (2, .int (bdN (S 4) (S 10) (S 11) false i)), (0, .ref (ad 0)), (1, .int 0)]) hx hb dX7_bothDays_35 hl (by decide) rfl (fun ls hl => ?_)
          refine lv_iload_n hx hb dX7_bothDays_37 rfl (lv_at hl 2 rfl) ?_
          refine lv_iload hx hb dX7_bothDays_38 (lv_at hl 0 rfl) ?_
          refine lv_if_eq (tgt := 76) hx hb dX7_bothDays_40 (by decide) (fun _ => ?_) (fun c => absurd (by decide) c)
          refine lv_iconst (v := 0) hx hb dX7_bothDays_76 (by decide) ?_
          refine lv_iadd hx hb dX7_bothDays_77 ?_
          refine lv_istore_n (lv' := [(2, .int ((bdN (S 4) (S 10) (S 11) false i) + 0)), (4, .int 0), (3, .int (nI i)), (0, .ref (ad 0)), (1, .int 0)]) hx hb dX7_bothDays_78 rfl hl (by decide) rfl (fun ls hl => ?_)
          refine lv_iinc (v := (nI (i + 1))) (lv' := [(3, .int (nI (i + 1))), (2, .int ((bdN (S 4) (S 10) (S 11) false i) + 0)), (4, .int 0), (0, .ref (ad 0)), (1, .int 0)]) hx hb dX7_bothDays_79 hl (k := 2) rfl (nI_1 i) (by decide) rfl (fun ls hl => ?_)
          refine lv_goto (tgt := 4) hx hb dX7_bothDays_82 (by decide) ?_
          have e_3 : ((bdN (S 4) (S 10) (S 11) false i) + 0) = (bdN (S 4) (S 10) (S 11) false (i + 1)) := (bd_f (by simp [bdB, c17_2])).symm
          have hl : lv_has ls 5 [(3, .int (nI (i + 1))), (2, .int (bdN (S 4) (S 10) (S 11) false (i + 1))), (4, .int 0), (0, .ref (ad 0)), (1, .int 0)] := by rw [← e_3]; exact hl
          exact ih4 (i + 1) (by omega) (by omega) ls (lv_sub hl [0, 1, 3, 4] rfl)
        · refine lv_aload_n hx hb dX7_bothDays_20 rfl (lv_at hl 2 rfl) ?_
          refine gf_X7_42 hx hb hts hown hK hP 0 rfl (v := .ref (ad 11)) rfl dX7_bothDays_21 ?_
          refine lv_iload_n hx hb dX7_bothDays_24 rfl (lv_at hl 0 rfl) ?_
          refine ald_I (f := (S 11)) hx hb hK hP 11 rfl (i := i) (by omega) (by decide) dX7_bothDays_25 ?_
          refine lv_iconst (v := (-1)) hx hb dX7_bothDays_26 (by decide) ?_
          refine lv_icmp_eq (tgt := 34) hx hb dX7_bothDays_27 (by decide) (fun c27_4 => ?_) (fun c27_4 => ?_)
          · refine lv_iconst (v := 0) hx hb dX7_bothDays_34 (by decide) ?_
            refine lv_istore (lv' := [(4, .int 0), (3, .int (nI i)), (2, .int (bdN (S 4) (S 10) (S 11) false i)), (0, .ref (ad 0)), (1, .int 0)]) hx hb dX7_bothDays_35 hl (by decide) rfl (fun ls hl => ?_)
            refine lv_iload_n hx hb dX7_bothDays_37 rfl (lv_at hl 2 rfl) ?_
            refine lv_iload hx hb dX7_bothDays_38 (lv_at hl 0 rfl) ?_
            refine lv_if_eq (tgt := 76) hx hb dX7_bothDays_40 (by decide) (fun _ => ?_) (fun c => absurd (by decide) c)
            refine lv_iconst (v := 0) hx hb dX7_bothDays_76 (by decide) ?_
            refine lv_iadd hx hb dX7_bothDays_77 ?_
            refine lv_istore_n (lv' := [(2, .int ((bdN (S 4) (S 10) (S 11) false i) + 0)), (4, .int 0), (3, .int (nI i)), (0, .ref (ad 0)), (1, .int 0)]) hx hb dX7_bothDays_78 rfl hl (by decide) rfl (fun ls hl => ?_)
            refine lv_iinc (v := (nI (i + 1))) (lv' := [(3, .int (nI (i + 1))), (2, .int ((bdN (S 4) (S 10) (S 11) false i) + 0)), (4, .int 0), (0, .ref (ad 0)), (1, .int 0)]) hx hb dX7_bothDays_79 hl (k := 2) rfl (nI_1 i) (by decide) rfl (fun ls hl => ?_)
            refine lv_goto (tgt := 4) hx hb dX7_bothDays_82 (by decide) ?_
            have e_5 : ((bdN (S 4) (S 10) (S 11) false i) + 0) = (bdN (S 4) (S 10) (S 11) false (i + 1)) := (bd_f (by simp [bdB, c17_2, c27_4])).symm
            have hl : lv_has ls 5 [(3, .int (nI (i + 1))), (2, .int (bdN (S 4) (S 10) (S 11) false (i + 1))), (4, .int 0), (0, .ref (ad 0)), (1, .int 0)] := by rw [← e_5]; exact hl
            exact ih4 (i + 1) (by omega) (by omega) ls (lv_sub hl [0, 1, 3, 4] rfl)
          · refine lv_iconst (v := 1) hx hb dX7_bothDays_30 (by decide) ?_
            refine lv_goto (tgt := 35) hx hb dX7_bothDays_31 (by decide) ?_
            refine lv_istore (lv' := [(4, .int 1), (3, .int (nI i)), (2, .int (bdN (S 4) (S 10) (S 11) false i)), (0, .ref (ad 0)), (1, .int 0)]) hx hb dX7_bothDays_35 hl (by decide) rfl (fun ls hl => ?_)
            refine lv_iload_n hx hb dX7_bothDays_37 rfl (lv_at hl 2 rfl) ?_
            refine lv_iload hx hb dX7_bothDays_38 (lv_at hl 0 rfl) ?_
            refine lv_if_eq (tgt := 76) hx hb dX7_bothDays_40 (by decide) (fun c => absurd c (by decide)) (fun _ => ?_)
            refine lv_iload_n hx hb dX7_bothDays_43 rfl (lv_at hl 4 rfl) ?_
            refine lv_if_eq (tgt := 72) hx hb dX7_bothDays_44 (by decide) (fun _ => ?_) (fun c => absurd (by decide) c)
            refine lv_iconst (v := 1) hx hb dX7_bothDays_72 (by decide) ?_
            refine lv_goto (tgt := 77) hx hb dX7_bothDays_73 (by decide) ?_
            refine lv_iadd hx hb dX7_bothDays_77 ?_
            refine lv_istore_n (lv' := [(2, .int ((bdN (S 4) (S 10) (S 11) false i) + 1)), (4, .int 1), (3, .int (nI i)), (0, .ref (ad 0)), (1, .int 0)]) hx hb dX7_bothDays_78 rfl hl (by decide) rfl (fun ls hl => ?_)
            refine lv_iinc (v := (nI (i + 1))) (lv' := [(3, .int (nI (i + 1))), (2, .int ((bdN (S 4) (S 10) (S 11) false i) + 1)), (4, .int 1), (0, .ref (ad 0)), (1, .int 0)]) hx hb dX7_bothDays_79 hl (k := 2) rfl (nI_1 i) (by decide) rfl (fun ls hl => ?_)
            refine lv_goto (tgt := 4) hx hb dX7_bothDays_82 (by decide) ?_
            have e_6 : ((bdN (S 4) (S 10) (S 11) false i) + 1) = (bdN (S 4) (S 10) (S 11) false (i + 1)) := (bd_t (by simp [bdB, c17_2, c27_4])).symm
            have hl : lv_has ls 5 [(3, .int (nI (i + 1))), (2, .int (bdN (S 4) (S 10) (S 11) false (i + 1))), (4, .int 1), (0, .ref (ad 0)), (1, .int 0)] := by rw [← e_6]; exact hl
            exact ih4 (i + 1) (by omega) (by omega) ls (lv_sub hl [0, 1, 3, 4] rfl)
  exact L4 (100 + 1) 0 (by omega) (by omega) ls (lv_sub hl [0, 1, 2, 3] rfl)

set_option maxHeartbeats 4000000 in
set_option maxRecDepth 100000 in
theorem c_X7_bothDays_1 (l : Launch) (D : va_G) (cy : Nat → ClassId) (ad : Nat → Nat) (I : AI) (S : AS) (k : Nat) (hk8 : k ≤ 256) (hrow : rowP k (S 10)) (hro2 : rowP k (S 11)) : Met l yX7_bothDays (Cond.code yX7_bothDays cX7_bothDays 5 (some .int) :: wsL_law) ({ frames := 0, cells := 0, slots := 0, locals := 0 }) (va_Pc [.ref (ad 0), .int 1] (rdB D cy (wM cy ad I S))) (rdI (fun r => r = (bdN (S 4) (S 10) (S 11) true 100))) 0 0 noA := by
  refine enter (cc := cX7_bothDays) (by decide) (Nat.le_of_ble_eq_true rfl) ?_
  intro p e s m below meth c hx hb hr hml hown hts hlocks hin hv Q hQ ls hl
  obtain ⟨hP, hK⟩ := hv
  have hown : s.vm.findClass RX7 = some m.cls := hown
  have hl : lv_has ls 5 [(0, .ref (ad 0)), (1, .int 1)] := hl
  refine lv_iconst (v := 0) hx hb dX7_bothDays_0 (by decide) ?_
  refine lv_istore_n (lv' := [(2, .int 0), (0, .ref (ad 0)), (1, .int 1)]) hx hb dX7_bothDays_1 rfl hl (by decide) rfl (fun ls hl => ?_)
  refine lv_iconst (v := 0) hx hb dX7_bothDays_2 (by decide) ?_
  refine lv_istore_n (lv' := [(3, .int 0), (2, .int 0), (0, .ref (ad 0)), (1, .int 1)]) hx hb dX7_bothDays_3 rfl hl (by decide) rfl (fun ls hl => ?_)
  have L4 : ∀ (n_4 i : Nat), i ≤ 100 → 100 + 1 ≤ i + n_4 → ∀ (ls : Array Slot), lv_has ls 5 [(3, .int (nI i)), (2, .int (bdN (S 4) (S 10) (S 11) true i)), (0, .ref (ad 0)), (1, .int 1)] → W p l e { frames := 0, cells := 0, slots := 0, locals := 0 } s m ([.ref (ad 0), .int 1] : List Value).toArray below meth c s.heap [] 0 0 Q (F0 m 4 ls []) := by
    clear hl
    intro n_4
    induction n_4 with
    | zero => intro i  hle_4 hn_4; exact absurd hn_4 (by omega)
    | succ n_4 ih4 =>
      intro i  hle_4 hn_4   ls hl
      refine lv_iload_n hx hb dX7_bothDays_4 rfl (lv_at hl 0 rfl) ?_
      refine lv_bipush (v := 100) hx hb dX7_bothDays_5 (by decide) ?_
      refine lv_icmp_ge (tgt := 85) hx hb dX7_bothDays_7 (by decide) (fun c7_1 => ?_) (fun c7_1 => ?_)
      · have f7_1 : 100 ≤ i := nt_le (a := 100) (b := i) (by omega) (by omega) c7_1
        refine lv_iload_n hx hb dX7_bothDays_85 rfl (lv_at hl 1 rfl) ?_
        exact rI_ret hx hb hr hlocks dX7_bothDays_86 hQ (by rw [show i = 100 by omega])
      · have f7_1 : i < 100 := nt_nle (a := 100) (b := i) (by omega) (by omega) c7_1
        refine lv_aload_n hx hb dX7_bothDays_10 rfl (lv_at hl 2 rfl) ?_
        refine gf_X7_39 hx hb hts hown hK hP 0 rfl (v := .ref (ad 10)) rfl dX7_bothDays_11 ?_
        refine lv_iload_n hx hb dX7_bothDays_14 rfl (lv_at hl 0 rfl) ?_
        refine ald_I (f := (S 10)) hx hb hK hP 10 rfl (i := i) (by omega) (by decide) dX7_bothDays_15 ?_
        refine lv_iconst (v := (-1)) hx hb dX7_bothDays_16 (by decide) ?_
        refine lv_icmp_eq (tgt := 34) hx hb dX7_bothDays_17 (by decide) (fun c17_2 => ?_) (fun c17_2 => ?_)
        · refine lv_iconst (v := 0) hx hb dX7_bothDays_34 (by decide) ?_
          refine lv_istore (lv' := [(4, .int 0), (3, .int (nI i)), (2, .int (bdN (S 4) (S 10) (S 11) true i)), (0, .ref (ad 0)), (1, .int 1)]) hx hb dX7_bothDays_35 hl (by decide) rfl (fun ls hl => ?_)
          refine lv_iload_n hx hb dX7_bothDays_37 rfl (lv_at hl 2 rfl) ?_
          refine lv_iload hx hb dX7_bothDays_38 (lv_at hl 0 rfl) ?_
          refine lv_if_eq (tgt := 76) hx hb dX7_bothDays_40 (by decide) (fun _ => ?_) (fun c => absurd (by decide) c)
          refine lv_iconst (v := 0) hx hb dX7_bothDays_76 (by decide) ?_
          refine lv_iadd hx hb dX7_bothDays_77 ?_
          refine lv_istore_n (lv' := [(2, .int ((bdN (S 4) (S 10) (S 11) true i) + 0)), (4, .int 0), (3, .int (nI i)), (0, .ref (ad 0)), (1, .int 1)]) hx hb dX7_bothDays_78 rfl hl (by decide) rfl (fun ls hl => ?_)
          refine lv_iinc (v := (nI (i + 1))) (lv' := [(3, .int (nI (i + 1))), (2, .int ((bdN (S 4) (S 10) (S 11) true i) + 0)), (4, .int 0), (0, .ref (ad 0)), (1, .int 1)]) hx hb dX7_bothDays_79 hl (k := 2) rfl (nI_1 i) (by decide) rfl (fun ls hl => ?_)
          refine lv_goto (tgt := 4) hx hb dX7_bothDays_82 (by decide) ?_
          have e_3 : ((bdN (S 4) (S 10) (S 11) true i) + 0) = (bdN (S 4) (S 10) (S 11) true (i + 1)) := (bd_f (by simp [bdB, c17_2])).symm
          have hl : lv_has ls 5 [(3, .int (nI (i + 1))), (2, .int (bdN (S 4) (S 10) (S 11) true (i + 1))), (4, .int 0), (0, .ref (ad 0)), (1, .int 1)] := by rw [← e_3]; exact hl
          exact ih4 (i + 1) (by omega) (by omega) ls (lv_sub hl [0, 1, 3, 4] rfl)
        · refine lv_aload_n hx hb dX7_bothDays_20 rfl (lv_at hl 2 rfl) ?_
          refine gf_X7_42 hx hb hts hown hK hP 0 rfl (v := .ref (ad 11)) rfl dX7_bothDays_21 ?_
          refine lv_iload_n hx hb dX7_bothDays_24 rfl (lv_at hl 0 rfl) ?_
          refine ald_I (f := (S 11)) hx hb hK hP 11 rfl (i := i) (by omega) (by decide) dX7_bothDays_25 ?_
          refine lv_iconst (v := (-1)) hx hb dX7_bothDays_26 (by decide) ?_
          refine lv_icmp_eq (tgt := 34) hx hb dX7_bothDays_27 (by decide) (fun c27_4 => ?_) (fun c27_4 => ?_)
          · refine lv_iconst (v := 0) hx hb dX7_bothDays_34 (by decide) ?_
            refine lv_istore (lv' := [(4, .int 0), (3, .int (nI i)), (2, .int (bdN (S 4) (S 10) (S 11) true i)), (0, .ref (ad 0)), (1, .int 1)]) hx hb dX7_bothDays_35 hl (by decide) rfl (fun ls hl => ?_)
            refine lv_iload_n hx hb dX7_bothDays_37 rfl (lv_at hl 2 rfl) ?_
            refine lv_iload hx hb dX7_bothDays_38 (lv_at hl 0 rfl) ?_
            refine lv_if_eq (tgt := 76) hx hb dX7_bothDays_40 (by decide) (fun _ => ?_) (fun c => absurd (by decide) c)
            refine lv_iconst (v := 0) hx hb dX7_bothDays_76 (by decide) ?_
            refine lv_iadd hx hb dX7_bothDays_77 ?_
            refine lv_istore_n (lv' := [(2, .int ((bdN (S 4) (S 10) (S 11) true i) + 0)), (4, .int 0), (3, .int (nI i)), (0, .ref (ad 0)), (1, .int 1)]) hx hb dX7_bothDays_78 rfl hl (by decide) rfl (fun ls hl => ?_)
            refine lv_iinc (v := (nI (i + 1))) (lv' := [(3, .int (nI (i + 1))), (2, .int ((bdN (S 4) (S 10) (S 11) true i) + 0)), (4, .int 0), (0, .ref (ad 0)), (1, .int 1)]) hx hb dX7_bothDays_79 hl (k := 2) rfl (nI_1 i) (by decide) rfl (fun ls hl => ?_)
            refine lv_goto (tgt := 4) hx hb dX7_bothDays_82 (by decide) ?_
            have e_5 : ((bdN (S 4) (S 10) (S 11) true i) + 0) = (bdN (S 4) (S 10) (S 11) true (i + 1)) := (bd_f (by simp [bdB, c17_2, c27_4])).symm
            have hl : lv_has ls 5 [(3, .int (nI (i + 1))), (2, .int (bdN (S 4) (S 10) (S 11) true (i + 1))), (4, .int 0), (0, .ref (ad 0)), (1, .int 1)] := by rw [← e_5]; exact hl
            exact ih4 (i + 1) (by omega) (by omega) ls (lv_sub hl [0, 1, 3, 4] rfl)
          · refine lv_iconst (v := 1) hx hb dX7_bothDays_30 (by decide) ?_
            refine lv_goto (tgt := 35) hx hb dX7_bothDays_31 (by decide) ?_
            refine lv_istore (lv' := [(4, .int 1), (3, .int (nI i)), (2, .int (bdN (S 4) (S 10) (S 11) true i)), (0, .ref (ad 0)), (1, .int 1)]) hx hb dX7_bothDays_35 hl (by decide) rfl (fun ls hl => ?_)
            refine lv_iload_n hx hb dX7_bothDays_37 rfl (lv_at hl 2 rfl) ?_
            refine lv_iload hx hb dX7_bothDays_38 (lv_at hl 0 rfl) ?_
            refine lv_if_eq (tgt := 76) hx hb dX7_bothDays_40 (by decide) (fun c => absurd c (by decide)) (fun _ => ?_)
            refine lv_iload_n hx hb dX7_bothDays_43 rfl (lv_at hl 4 rfl) ?_
            refine lv_if_eq (tgt := 72) hx hb dX7_bothDays_44 (by decide) (fun c => absurd c (by decide)) (fun _ => ?_)
            refine lv_aload_n hx hb dX7_bothDays_47 rfl (lv_at hl 3 rfl) ?_
            refine gf_X7_20 hx hb hts hown hK hP 0 rfl (v := .ref (ad 4)) rfl dX7_bothDays_48 ?_
            refine lv_aload_n hx hb dX7_bothDays_51 rfl (lv_at hl 3 rfl) ?_
            refine gf_X7_39 hx hb hts hown hK hP 0 rfl (v := .ref (ad 10)) rfl dX7_bothDays_52 ?_
            refine lv_iload_n hx hb dX7_bothDays_55 rfl (lv_at hl 1 rfl) ?_
            refine ald_I (f := (S 10)) hx hb hK hP 10 rfl (i := i) (by omega) (by decide) dX7_bothDays_56 ?_
            refine ald_Ix (f := (S 4)) hx hb hK hP 4 rfl (row_in hrow hk8 (by decide) (by omega) c17_2) dX7_bothDays_57 ?_
            refine lv_aload_n hx hb dX7_bothDays_58 rfl (lv_at hl 3 rfl) ?_
            refine gf_X7_20 hx hb hts hown hK hP 0 rfl (v := .ref (ad 4)) rfl dX7_bothDays_59 ?_
            refine lv_aload_n hx hb dX7_bothDays_62 rfl (lv_at hl 3 rfl) ?_
            refine gf_X7_42 hx hb hts hown hK hP 0 rfl (v := .ref (ad 11)) rfl dX7_bothDays_63 ?_
            refine lv_iload_n hx hb dX7_bothDays_66 rfl (lv_at hl 1 rfl) ?_
            refine ald_I (f := (S 11)) hx hb hK hP 11 rfl (i := i) (by omega) (by decide) dX7_bothDays_67 ?_
            refine ald_Ix (f := (S 4)) hx hb hK hP 4 rfl (row_in hro2 hk8 (by decide) (by omega) c27_4) dX7_bothDays_68 ?_
            refine lv_icmp_ne (tgt := 76) hx hb dX7_bothDays_69 (by decide) (fun c69_6 => ?_) (fun c69_6 => ?_)
            · refine lv_iconst (v := 0) hx hb dX7_bothDays_76 (by decide) ?_
              refine lv_iadd hx hb dX7_bothDays_77 ?_
              refine lv_istore_n (lv' := [(2, .int ((bdN (S 4) (S 10) (S 11) true i) + 0)), (4, .int 1), (3, .int (nI i)), (0, .ref (ad 0)), (1, .int 1)]) hx hb dX7_bothDays_78 rfl hl (by decide) rfl (fun ls hl => ?_)
              refine lv_iinc (v := (nI (i + 1))) (lv' := [(3, .int (nI (i + 1))), (2, .int ((bdN (S 4) (S 10) (S 11) true i) + 0)), (4, .int 1), (0, .ref (ad 0)), (1, .int 1)]) hx hb dX7_bothDays_79 hl (k := 2) rfl (nI_1 i) (by decide) rfl (fun ls hl => ?_)
              refine lv_goto (tgt := 4) hx hb dX7_bothDays_82 (by decide) ?_
              have e_7 : ((bdN (S 4) (S 10) (S 11) true i) + 0) = (bdN (S 4) (S 10) (S 11) true (i + 1)) := (bd_f (by simp [bdB, c17_2, c27_4, c69_6])).symm
              have hl : lv_has ls 5 [(3, .int (nI (i + 1))), (2, .int (bdN (S 4) (S 10) (S 11) true (i + 1))), (4, .int 1), (0, .ref (ad 0)), (1, .int 1)] := by rw [← e_7]; exact hl
              exact ih4 (i + 1) (by omega) (by omega) ls (lv_sub hl [0, 1, 3, 4] rfl)
            · refine lv_iconst (v := 1) hx hb dX7_bothDays_72 (by decide) ?_
              refine lv_goto (tgt := 77) hx hb dX7_bothDays_73 (by decide) ?_
              refine lv_iadd hx hb dX7_bothDays_77 ?_
              refine lv_istore_n (lv' := [(2, .int ((bdN (S 4) (S 10) (S 11) true i) + 1)), (4, .int 1), (3, .int (nI i)), (0, .ref (ad 0)), (1, .int 1)]) hx hb dX7_bothDays_78 rfl hl (by decide) rfl (fun ls hl => ?_)
              refine lv_iinc (v := (nI (i + 1))) (lv' := [(3, .int (nI (i + 1))), (2, .int ((bdN (S 4) (S 10) (S 11) true i) + 1)), (4, .int 1), (0, .ref (ad 0)), (1, .int 1)]) hx hb dX7_bothDays_79 hl (k := 2) rfl (nI_1 i) (by decide) rfl (fun ls hl => ?_)
              refine lv_goto (tgt := 4) hx hb dX7_bothDays_82 (by decide) ?_
              have e_8 : ((bdN (S 4) (S 10) (S 11) true i) + 1) = (bdN (S 4) (S 10) (S 11) true (i + 1)) := (bd_t (by simp [bdB, c17_2, c27_4, c69_6])).symm
              have hl : lv_has ls 5 [(3, .int (nI (i + 1))), (2, .int (bdN (S 4) (S 10) (S 11) true (i + 1))), (4, .int 1), (0, .ref (ad 0)), (1, .int 1)] := by rw [← e_8]; exact hl
              exact ih4 (i + 1) (by omega) (by omega) ls (lv_sub hl [0, 1, 3, 4] rfl)
  exact L4 (100 + 1) 0 (by omega) (by omega) ls (lv_sub hl [0, 1, 2, 3] rfl)

set_option maxHeartbeats 4000000 in
set_option maxRecDepth 100000 in
theorem c_X7_commonDays (l : Launch) (D : va_G) (cy : Nat → ClassId) (ad : Nat → Nat) (I : AI) (S : AS) (sz : Nat) (x : Int32) (b : Int32) (x2 : Int32) (b2 : Int32) (t : Int32) (k : Nat) (hk : I 3 = nI k) (hk8 : k ≤ 256) (fr : Nat → Nat) (to : Nat → Nat) (hfr : ∀ i : Nat, i < k → S 5 i = nI (fr i) ∧ S 6 i = nI (to i) ∧ fr i ≤ to i ∧ to i ≤ 100) : Met l yX7_commonDays (Cond.code yX7_commonDays cX7_commonDays 6 (some .int) :: wsL_law) ({ frames := 4, cells := 0, slots := 0, locals := 93 }) (va_Pc [.ref (ad 0), .int x, .int b, .int x2, .int b2, .int t] (wrB D cy (wM cy ad I S) sz)) (va_Qi (S := AI × AS) (fun r u => msc I S u.1 u.2 ∧ (¬ jfC I x b x2 b2 t = 0 → u.1 0 = jfC I x b x2 b2 t) ∧ (jfC I x b x2 b2 t = 0 → u.1 0 = 0 ∧ r = bdN (S 4) (lkM S (slM x b) t fr to k) (lkO S (slM x2 b2) t fr to k) false 100)) (fun u t9 => va_P D clW (wM cy ad u.1 u.2) t9.heap) (va_A (wM cy ad I S) sz)) 0 0 (va_A (wM cy ad I S) sz) := by
  refine enter (cc := cX7_commonDays) (by decide) (Nat.le_of_ble_eq_true rfl) ?_
  intro p e s m below meth c hx hb hr hml hown hts hlocks hin hv Q hQ ls hl
  obtain ⟨hsz, hP, hK, hD0⟩ := hv
  subst hsz
  have hD := hD0.self (sz := s.heap.size)
  generalize hAe : va_A (wM cy ad I S) s.heap.size = A at hD hQ ⊢
  have hA : ∀ q : Nat, s.heap.size ≤ q → A q := fun q h => by rw [← hAe]; exact Or.inr h
  have hS : va_S A s.heap s.heap [] := va_S.rf
  suffices K_ : ∀ (H : Heap) (locs : List Loc), va_P D clW (wM cy ad I S) H → va_S A s.heap H locs → W p l e ({ frames := 4, cells := 0, slots := 0, locals := 93 }) s m ([.ref (ad 0), .int x, .int b, .int x2, .int b2, .int t] : List Value).toArray below meth c H locs 0 0 Q (F0 m 0 ls []) from K_ _ _ hP hS
  clear hP hS
  intro H locs hP hS
  have hown : s.vm.findClass RX7 = some m.cls := hown
  have hl : lv_has ls 6 [(0, .ref (ad 0)), (1, .int x), (2, .int b), (3, .int x2), (4, .int b2), (5, .int t)] := hl
  refine lv_aload_n hx hb dX7_commonDays_0 rfl (lv_at hl 0 rfl) ?_
  refine lv_iload_n hx hb dX7_commonDays_1 rfl (lv_at hl 1 rfl) ?_
  refine lv_iload_n hx hb dX7_commonDays_2 rfl (lv_at hl 2 rfl) ?_
  refine lv_iload_n hx hb dX7_commonDays_3 rfl (lv_at hl 3 rfl) ?_
  refine lv_iload hx hb dX7_commonDays_4 (lv_at hl 4 rfl) ?_
  refine lv_iload hx hb dX7_commonDays_6 (lv_at hl 5 rfl) ?_
  refine wI_call (va_runV (As := [.int x, .int b, .int x2, .int b2, .int t]) (rest := []) ⟨hx, hb, hml, hown, hts⟩ (c_X7_looksAtBoth l D cy ad I S H.size x b x2 b2 t k hk hk8 fr to hfr) (cw_X7_172 hts rfl rfl ⟨Nat.le_of_ble_eq_true rfl, Nat.le_of_ble_eq_true rfl⟩) (preVW (ci := 7) (q0 := 0) hK hP hD rfl rfl) rfl rfl hl.1 rfl (lv_room (Nat.le_of_ble_eq_true rfl)) dX7_commonDays_8 ⟨Nat.le_of_ble_eq_true rfl, Nat.le_of_ble_eq_true rfl⟩) hP hD hS hA [0, 1, 2, 3, 4, 5, 6, 7, 8, 9, 10, 11, 12, 13, 14, 15, 16] rfl [.inr 0, .inr 1, .inr 2, .inr 3, .inr 4, .inr 5, .inr 6, .inr 7, .inr 8, .inr 9, .inr 10, .inr 11, .inr 12, .inr 13, .inr 14, .inr 15, .inr 16] (by decide) (fun u => (wM cy ad u.1 u.2)) (fun _ => rfl) (fun _ => rfl) (fun r8_1 u8_1 H locs q8_1 hP hD hS hkp => ?_)
  obtain ⟨I2_1, S2_1⟩ := u8_1
  have hP : va_P D clW (wM cy ad I2_1 S2_1) H := hP
  have hD : va_D A (wM cy ad I2_1 S2_1) := hD
  rcases q8_1 with ⟨hcd, rfl, rfl, rfl⟩ | ⟨hcd, rfl, rfl, rfl⟩
  · have hP : va_P D clW (wM cy ad (va_up (va_up I 0 (jfC I x b x2 b2 t)) 6 (nI (pmJ S (slM x b) (slM x2 b2) t fr to k).1)) (va_up (va_up (va_up (va_up S 10 (lkN S (slM x b) t fr to (S 10) k)) 11 (lkN S (slM x2 b2) t fr to (S 11) k)) 12 (pmJ S (slM x b) (slM x2 b2) t fr to k).2.1) 13 (pmJ S (slM x b) (slM x2 b2) t fr to k).2.2)) H := hP
    have hD : va_D A (wM cy ad (va_up (va_up I 0 (jfC I x b x2 b2 t)) 6 (nI (pmJ S (slM x b) (slM x2 b2) t fr to k).1)) (va_up (va_up (va_up (va_up S 10 (lkN S (slM x b) t fr to (S 10) k)) 11 (lkN S (slM x2 b2) t fr to (S 11) k)) 12 (pmJ S (slM x b) (slM x2 b2) t fr to k).2.1) 13 (pmJ S (slM x b) (slM x2 b2) t fr to k).2.2)) := hD
    refine lv_if_eq (tgt := 22) hx hb dX7_commonDays_11 (by decide) (fun c => absurd c (by decide)) (fun _ => ?_)
    refine lv_aload_n hx hb dX7_commonDays_14 rfl (lv_at hl 0 rfl) ?_
    refine lv_iconst (v := 0) hx hb dX7_commonDays_15 (by decide) ?_
    refine rI_call (va_runV (As := [.int 0]) (rest := []) ⟨hx, hb, hml, hown, hts⟩ (c_X7_bothDays_0 l D cy ad (va_up (va_up I 0 (jfC I x b x2 b2 t)) 6 (nI (pmJ S (slM x b) (slM x2 b2) t fr to k).1)) (va_up (va_up (va_up (va_up S 10 (lkN S (slM x b) t fr to (S 10) k)) 11 (lkN S (slM x2 b2) t fr to (S 11) k)) 12 (pmJ S (slM x b) (slM x2 b2) t fr to k).2.1) 13 (pmJ S (slM x b) (slM x2 b2) t fr to k).2.2) k hk8 (lk_row S (slM x b) t fr to (S 10) k) (lk_row S (slM x2 b2) t fr to (S 11) k)) (cw_X7_176 hts rfl rfl ⟨Nat.le_of_ble_eq_true rfl, Nat.le_of_ble_eq_true rfl⟩) (preVR (ci := 7) (q0 := 0) hK hP rfl rfl) rfl rfl hl.1 rfl (lv_room (Nat.le_of_ble_eq_true rfl)) dX7_commonDays_16 ⟨Nat.le_of_ble_eq_true rfl, Nat.le_of_ble_eq_true rfl⟩) (fun r hr_ => ?_)
    subst hr_
    refine top_eq (y := (bdN ((S 4)) ((lkN S (slM x b) t fr to (S 10) k)) ((lkN S (slM x2 b2) t fr to (S 11) k)) false 100)) rfl ?_
    refine lv_goto (tgt := 23) hx hb dX7_commonDays_19 (by decide) ?_
    exact wI_ret ((va_up (va_up I 0 (jfC I x b x2 b2 t)) 6 (nI (pmJ S (slM x b) (slM x2 b2) t fr to k).1)), (va_up (va_up (va_up (va_up S 10 (lkN S (slM x b) t fr to (S 10) k)) 11 (lkN S (slM x2 b2) t fr to (S 11) k)) 12 (pmJ S (slM x b) (slM x2 b2) t fr to k).2.1) 13 (pmJ S (slM x b) (slM x2 b2) t fr to k).2.2)) hS hP hx hb hr hlocks dX7_commonDays_23 (Nat.le_of_ble_eq_true rfl) (Nat.le_of_ble_eq_true rfl) hQ ⟨(msc_S (msc_S (msc_S (msc_S (msc_I (msc_I (msc_0 I S) (by decide) _) (by decide) _) (by decide) _) (by decide) _) (by decide) _) (by decide) _), fun q => absurd hcd q, fun _ => ⟨hcd, rfl⟩⟩
  · have hP : va_P D clW (wM cy ad (va_up I 0 (jfC I x b x2 b2 t)) S) H := hP
    have hD : va_D A (wM cy ad (va_up I 0 (jfC I x b x2 b2 t)) S) := hD
    refine lv_if_eq (tgt := 22) hx hb dX7_commonDays_11 (by decide) (fun _ => ?_) (fun c => absurd (by decide) c)
    refine lv_iconst (v := 0) hx hb dX7_commonDays_22 (by decide) ?_
    exact wI_ret ((va_up I 0 (jfC I x b x2 b2 t)), S) hS hP hx hb hr hlocks dX7_commonDays_23 (Nat.le_of_ble_eq_true rfl) (Nat.le_of_ble_eq_true rfl) hQ ⟨(msc_I (msc_0 I S) (by decide) _), fun _ => rfl, fun q => absurd q hcd⟩

set_option maxHeartbeats 4000000 in
set_option maxRecDepth 100000 in
theorem c_X7_agreeDays (l : Launch) (D : va_G) (cy : Nat → ClassId) (ad : Nat → Nat) (I : AI) (S : AS) (sz : Nat) (x : Int32) (b : Int32) (x2 : Int32) (b2 : Int32) (t : Int32) (k : Nat) (hk : I 3 = nI k) (hk8 : k ≤ 256) (fr : Nat → Nat) (to : Nat → Nat) (hfr : ∀ i : Nat, i < k → S 5 i = nI (fr i) ∧ S 6 i = nI (to i) ∧ fr i ≤ to i ∧ to i ≤ 100) : Met l yX7_agreeDays (Cond.code yX7_agreeDays cX7_agreeDays 6 (some .int) :: wsL_law) ({ frames := 4, cells := 0, slots := 0, locals := 93 }) (va_Pc [.ref (ad 0), .int x, .int b, .int x2, .int b2, .int t] (wrB D cy (wM cy ad I S) sz)) (va_Qi (S := AI × AS) (fun r u => msc I S u.1 u.2 ∧ (¬ jfC I x b x2 b2 t = 0 → u.1 0 = jfC I x b x2 b2 t) ∧ (jfC I x b x2 b2 t = 0 → u.1 0 = 0 ∧ r = bdN (S 4) (lkM S (slM x b) t fr to k) (lkO S (slM x2 b2) t fr to k) true 100)) (fun u t9 => va_P D clW (wM cy ad u.1 u.2) t9.heap) (va_A (wM cy ad I S) sz)) 0 0 (va_A (wM cy ad I S) sz) := by
  refine enter (cc := cX7_agreeDays) (by decide) (Nat.le_of_ble_eq_true rfl) ?_
  intro p e s m below meth c hx hb hr hml hown hts hlocks hin hv Q hQ ls hl
  obtain ⟨hsz, hP, hK, hD0⟩ := hv
  subst hsz
  have hD := hD0.self (sz := s.heap.size)
  generalize hAe : va_A (wM cy ad I S) s.heap.size = A at hD hQ ⊢
  have hA : ∀ q : Nat, s.heap.size ≤ q → A q := fun q h => by rw [← hAe]; exact Or.inr h
  have hS : va_S A s.heap s.heap [] := va_S.rf
  suffices K_ : ∀ (H : Heap) (locs : List Loc), va_P D clW (wM cy ad I S) H → va_S A s.heap H locs → W p l e ({ frames := 4, cells := 0, slots := 0, locals := 93 }) s m ([.ref (ad 0), .int x, .int b, .int x2, .int b2, .int t] : List Value).toArray below meth c H locs 0 0 Q (F0 m 0 ls []) from K_ _ _ hP hS
  clear hP hS
  intro H locs hP hS
  have hown : s.vm.findClass RX7 = some m.cls := hown
  have hl : lv_has ls 6 [(0, .ref (ad 0)), (1, .int x), (2, .int b), (3, .int x2), (4, .int b2), (5, .int t)] := hl
  refine lv_aload_n hx hb dX7_agreeDays_0 rfl (lv_at hl 0 rfl) ?_
  refine lv_iload_n hx hb dX7_agreeDays_1 rfl (lv_at hl 1 rfl) ?_
  refine lv_iload_n hx hb dX7_agreeDays_2 rfl (lv_at hl 2 rfl) ?_
  refine lv_iload_n hx hb dX7_agreeDays_3 rfl (lv_at hl 3 rfl) ?_
  refine lv_iload hx hb dX7_agreeDays_4 (lv_at hl 4 rfl) ?_
  refine lv_iload hx hb dX7_agreeDays_6 (lv_at hl 5 rfl) ?_
  refine wI_call (va_runV (As := [.int x, .int b, .int x2, .int b2, .int t]) (rest := []) ⟨hx, hb, hml, hown, hts⟩ (c_X7_looksAtBoth l D cy ad I S H.size x b x2 b2 t k hk hk8 fr to hfr) (cw_X7_172 hts rfl rfl ⟨Nat.le_of_ble_eq_true rfl, Nat.le_of_ble_eq_true rfl⟩) (preVW (ci := 7) (q0 := 0) hK hP hD rfl rfl) rfl rfl hl.1 rfl (lv_room (Nat.le_of_ble_eq_true rfl)) dX7_agreeDays_8 ⟨Nat.le_of_ble_eq_true rfl, Nat.le_of_ble_eq_true rfl⟩) hP hD hS hA [0, 1, 2, 3, 4, 5, 6, 7, 8, 9, 10, 11, 12, 13, 14, 15, 16] rfl [.inr 0, .inr 1, .inr 2, .inr 3, .inr 4, .inr 5, .inr 6, .inr 7, .inr 8, .inr 9, .inr 10, .inr 11, .inr 12, .inr 13, .inr 14, .inr 15, .inr 16] (by decide) (fun u => (wM cy ad u.1 u.2)) (fun _ => rfl) (fun _ => rfl) (fun r8_1 u8_1 H locs q8_1 hP hD hS hkp => ?_)
  obtain ⟨I2_1, S2_1⟩ := u8_1
  have hP : va_P D clW (wM cy ad I2_1 S2_1) H := hP
  have hD : va_D A (wM cy ad I2_1 S2_1) := hD
  rcases q8_1 with ⟨hcd, rfl, rfl, rfl⟩ | ⟨hcd, rfl, rfl, rfl⟩
  · have hP : va_P D clW (wM cy ad (va_up (va_up I 0 (jfC I x b x2 b2 t)) 6 (nI (pmJ S (slM x b) (slM x2 b2) t fr to k).1)) (va_up (va_up (va_up (va_up S 10 (lkN S (slM x b) t fr to (S 10) k)) 11 (lkN S (slM x2 b2) t fr to (S 11) k)) 12 (pmJ S (slM x b) (slM x2 b2) t fr to k).2.1) 13 (pmJ S (slM x b) (slM x2 b2) t fr to k).2.2)) H := hP
    have hD : va_D A (wM cy ad (va_up (va_up I 0 (jfC I x b x2 b2 t)) 6 (nI (pmJ S (slM x b) (slM x2 b2) t fr to k).1)) (va_up (va_up (va_up (va_up S 10 (lkN S (slM x b) t fr to (S 10) k)) 11 (lkN S (slM x2 b2) t fr to (S 11) k)) 12 (pmJ S (slM x b) (slM x2 b2) t fr to k).2.1) 13 (pmJ S (slM x b) (slM x2 b2) t fr to k).2.2)) := hD
    refine lv_if_eq (tgt := 22) hx hb dX7_agreeDays_11 (by decide) (fun c => absurd c (by decide)) (fun _ => ?_)
    refine lv_aload_n hx hb dX7_agreeDays_14 rfl (lv_at hl 0 rfl) ?_
    refine lv_iconst (v := 1) hx hb dX7_agreeDays_15 (by decide) ?_
    refine rI_call (va_runV (As := [.int 1]) (rest := []) ⟨hx, hb, hml, hown, hts⟩ (c_X7_bothDays_1 l D cy ad (va_up (va_up I 0 (jfC I x b x2 b2 t)) 6 (nI (pmJ S (slM x b) (slM x2 b2) t fr to k).1)) (va_up (va_up (va_up (va_up S 10 (lkN S (slM x b) t fr to (S 10) k)) 11 (lkN S (slM x2 b2) t fr to (S 11) k)) 12 (pmJ S (slM x b) (slM x2 b2) t fr to k).2.1) 13 (pmJ S (slM x b) (slM x2 b2) t fr to k).2.2) k hk8 (lk_row S (slM x b) t fr to (S 10) k) (lk_row S (slM x2 b2) t fr to (S 11) k)) (cw_X7_176 hts rfl rfl ⟨Nat.le_of_ble_eq_true rfl, Nat.le_of_ble_eq_true rfl⟩) (preVR (ci := 7) (q0 := 0) hK hP rfl rfl) rfl rfl hl.1 rfl (lv_room (Nat.le_of_ble_eq_true rfl)) dX7_agreeDays_16 ⟨Nat.le_of_ble_eq_true rfl, Nat.le_of_ble_eq_true rfl⟩) (fun r hr_ => ?_)
    subst hr_
    refine top_eq (y := (bdN ((S 4)) ((lkN S (slM x b) t fr to (S 10) k)) ((lkN S (slM x2 b2) t fr to (S 11) k)) true 100)) rfl ?_
    refine lv_goto (tgt := 23) hx hb dX7_agreeDays_19 (by decide) ?_
    exact wI_ret ((va_up (va_up I 0 (jfC I x b x2 b2 t)) 6 (nI (pmJ S (slM x b) (slM x2 b2) t fr to k).1)), (va_up (va_up (va_up (va_up S 10 (lkN S (slM x b) t fr to (S 10) k)) 11 (lkN S (slM x2 b2) t fr to (S 11) k)) 12 (pmJ S (slM x b) (slM x2 b2) t fr to k).2.1) 13 (pmJ S (slM x b) (slM x2 b2) t fr to k).2.2)) hS hP hx hb hr hlocks dX7_agreeDays_23 (Nat.le_of_ble_eq_true rfl) (Nat.le_of_ble_eq_true rfl) hQ ⟨(msc_S (msc_S (msc_S (msc_S (msc_I (msc_I (msc_0 I S) (by decide) _) (by decide) _) (by decide) _) (by decide) _) (by decide) _) (by decide) _), fun q => absurd hcd q, fun _ => ⟨hcd, rfl⟩⟩
  · have hP : va_P D clW (wM cy ad (va_up I 0 (jfC I x b x2 b2 t)) S) H := hP
    have hD : va_D A (wM cy ad (va_up I 0 (jfC I x b x2 b2 t)) S) := hD
    refine lv_if_eq (tgt := 22) hx hb dX7_agreeDays_11 (by decide) (fun _ => ?_) (fun c => absurd (by decide) c)
    refine lv_iconst (v := 0) hx hb dX7_agreeDays_22 (by decide) ?_
    exact wI_ret ((va_up I 0 (jfC I x b x2 b2 t)), S) hS hP hx hb hr hlocks dX7_agreeDays_23 (Nat.le_of_ble_eq_true rfl) (Nat.le_of_ble_eq_true rfl) hQ ⟨(msc_I (msc_0 I S) (by decide) _), fun _ => rfl, fun q => absurd q hcd⟩

set_option maxHeartbeats 4000000 in
set_option maxRecDepth 100000 in
theorem c_X7_changedDays (l : Launch) (D : va_G) (cy : Nat → ClassId) (ad : Nat → Nat) (I : AI) (S : AS) (sz : Nat) (x : Int32) (b : Int32) (t : Int32) (t2 : Int32) (k : Nat) (hk : I 3 = nI k) (hk8 : k ≤ 256) (fr : Nat → Nat) (to : Nat → Nat) (hfr : ∀ i : Nat, i < k → S 5 i = nI (fr i) ∧ S 6 i = nI (to i) ∧ fr i ≤ to i ∧ to i ≤ 100) : Met l yX7_changedDays (Cond.code yX7_changedDays cX7_changedDays 10 (some .int) :: wsL_law) ({ frames := 2, cells := 0, slots := 0, locals := 44 }) (va_Pc [.ref (ad 0), .int x, .int b, .int t, .int t2] (wrB D cy (wM cy ad I S) sz)) (va_Qi (S := AI × AS) (fun r u => msc I S u.1 u.2 ∧ u.1 0 = hfC I x b t t2 ∧ (hfC I x b t t2 = 0 → r = chN (S 4) (lkM S (slM x b) t fr to k) (lkO S (slM x b) t2 fr to k) 100)) (fun u t9 => va_P D clW (wM cy ad u.1 u.2) t9.heap) (va_A (wM cy ad I S) sz)) 0 0 (va_A (wM cy ad I S) sz) := by
  refine enter (cc := cX7_changedDays) (by decide) (Nat.le_of_ble_eq_true rfl) ?_
  intro p e s m below meth c hx hb hr hml hown hts hlocks hin hv Q hQ ls hl
  obtain ⟨hsz, hP, hK, hD0⟩ := hv
  subst hsz
  have hD := hD0.self (sz := s.heap.size)
  generalize hAe : va_A (wM cy ad I S) s.heap.size = A at hD hQ ⊢
  have hA : ∀ q : Nat, s.heap.size ≤ q → A q := fun q h => by rw [← hAe]; exact Or.inr h
  have hS : va_S A s.heap s.heap [] := va_S.rf
  suffices K_ : ∀ (H : Heap) (locs : List Loc), va_P D clW (wM cy ad I S) H → va_S A s.heap H locs → W p l e ({ frames := 2, cells := 0, slots := 0, locals := 44 }) s m ([.ref (ad 0), .int x, .int b, .int t, .int t2] : List Value).toArray below meth c H locs 0 0 Q (F0 m 0 ls []) from K_ _ _ hP hS
  clear hP hS
  intro H locs hP hS
  have hown : s.vm.findClass RX7 = some m.cls := hown
  have hl : lv_has ls 10 [(0, .ref (ad 0)), (1, .int x), (2, .int b), (3, .int t), (4, .int t2)] := hl
  refine lv_aload_n hx hb dX7_changedDays_0 rfl (lv_at hl 0 rfl) ?_
  refine lv_iload_n hx hb dX7_changedDays_1 rfl (lv_at hl 1 rfl) ?_
  refine lv_iload_n hx hb dX7_changedDays_2 rfl (lv_at hl 2 rfl) ?_
  refine rZ_call (P := mplB ((I 1)) x b = true) (va_runV (As := [.int x, .int b]) (rest := []) ⟨hx, hb, hml, hown, hts⟩ (c_X7_isPlace l D cy ad I S x b) (cw_X7_92 hts rfl rfl ⟨Nat.le_of_ble_eq_true rfl, Nat.le_of_ble_eq_true rfl⟩) (preVR (ci := 7) (q0 := 0) hK hP rfl rfl) rfl rfl hl.1 rfl (lv_room (Nat.le_of_ble_eq_true rfl)) dX7_changedDays_3 ⟨Nat.le_of_ble_eq_true rfl, Nat.le_of_ble_eq_true rfl⟩) (fun b3_1 => ?_) (fun b3_1 => ?_)
  · refine lv_if_ne (tgt := 13) hx hb dX7_changedDays_6 (by decide) (fun _ => ?_) (fun c => absurd c (by decide))
    refine lv_iload_n hx hb dX7_changedDays_13 rfl (lv_at hl 3 rfl) ?_
    refine lv_iconst (v := 0) hx hb dX7_changedDays_14 (by decide) ?_
    refine lv_aload_n hx hb dX7_changedDays_15 rfl (lv_at hl 0 rfl) ?_
    refine gf_X7_78 hx hb hts hown hK hP 0 rfl (v := .int (I 2)) rfl dX7_changedDays_16 ?_
    refine rZ_call (P := inB t 0 (I 2) = true) (va_runS (As := [.int t, .int 0, .int (I 2)]) (rest := []) ⟨hx, hb, hml, hown, hts⟩ (c_X7_in l D cy t 0 (I 2)) (cw_X7_67 hts rfl rfl ⟨Nat.le_of_ble_eq_true rfl, Nat.le_of_ble_eq_true rfl⟩) (preSR hK (hP.sub [] rfl)) rfl rfl hl.1 rfl (lv_room (Nat.le_of_ble_eq_true rfl)) dX7_changedDays_19 ⟨Nat.le_of_ble_eq_true rfl, Nat.le_of_ble_eq_true rfl⟩) (fun b19_2 => ?_) (fun b19_2 => ?_)
    · refine lv_if_eq (tgt := 38) hx hb dX7_changedDays_22 (by decide) (fun c => absurd c (by decide)) (fun _ => ?_)
      refine lv_iload hx hb dX7_changedDays_25 (lv_at hl 4 rfl) ?_
      refine lv_iconst (v := 0) hx hb dX7_changedDays_27 (by decide) ?_
      refine lv_aload_n hx hb dX7_changedDays_28 rfl (lv_at hl 0 rfl) ?_
      refine gf_X7_78 hx hb hts hown hK hP 0 rfl (v := .int (I 2)) rfl dX7_changedDays_29 ?_
      refine rZ_call (P := inB t2 0 (I 2) = true) (va_runS (As := [.int t2, .int 0, .int (I 2)]) (rest := []) ⟨hx, hb, hml, hown, hts⟩ (c_X7_in l D cy t2 0 (I 2)) (cw_X7_67 hts rfl rfl ⟨Nat.le_of_ble_eq_true rfl, Nat.le_of_ble_eq_true rfl⟩) (preSR hK (hP.sub [] rfl)) rfl rfl hl.1 rfl (lv_room (Nat.le_of_ble_eq_true rfl)) dX7_changedDays_32 ⟨Nat.le_of_ble_eq_true rfl, Nat.le_of_ble_eq_true rfl⟩) (fun b32_3 => ?_) (fun b32_3 => ?_)
      · refine lv_if_ne (tgt := 42) hx hb dX7_changedDays_35 (by decide) (fun _ => ?_) (fun c => absurd c (by decide))
        refine lv_iload_n hx hb dX7_changedDays_42 rfl (lv_at hl 3 rfl) ?_
        refine lv_aload_n hx hb dX7_changedDays_43 rfl (lv_at hl 0 rfl) ?_
        refine gf_X7_121 hx hb hts hown hK hP 0 rfl (v := .int (I 5)) rfl dX7_changedDays_44 ?_
        refine lv_icmp_lt (tgt := 59) hx hb dX7_changedDays_47 (by decide) (fun c47_4 => ?_) (fun c47_4 => ?_)
        · refine lv_iconst (v := 3) hx hb dX7_changedDays_59 (by decide) ?_
          refine lv_goto (tgt := 64) hx hb dX7_changedDays_60 (by decide) ?_
          refine lv_istore (lv' := [(5, .int 3), (0, .ref (ad 0)), (1, .int x), (2, .int b), (3, .int t), (4, .int t2)]) hx hb dX7_changedDays_64 hl (by decide) rfl (fun ls hl => ?_)
          have hfe : hfC I x b t t2 = 3 := (by simp [hfC, b3_1, b19_2, b32_3, c47_4])
          have hl : lv_has ls 10 [(5, .int (hfC I x b t t2)), (0, .ref (ad 0)), (1, .int x), (2, .int b), (3, .int t), (4, .int t2)] := by rw [hfe]; exact hl
          refine lv_aload_n hx hb dX7_changedDays_66 rfl (lv_at hl 1 rfl) ?_
          refine lv_iload hx hb dX7_changedDays_67 (lv_at hl 0 rfl) ?_
          refine wI_call (va_runV (As := [.int (hfC I x b t t2)]) (rest := []) ⟨hx, hb, hml, hown, hts⟩ (c_X7_goesOn l D cy ad I S H.size (hfC I x b t t2)) (cw_X7_71 hts rfl rfl ⟨Nat.le_of_ble_eq_true rfl, Nat.le_of_ble_eq_true rfl⟩) (preVW (ci := 7) (q0 := 0) hK hP hD rfl rfl) rfl rfl hl.1 rfl (lv_room (Nat.le_of_ble_eq_true rfl)) dX7_changedDays_69 ⟨Nat.le_of_ble_eq_true rfl, Nat.le_of_ble_eq_true rfl⟩) hP hD hS hA [0, 1, 2, 3, 4, 5, 6, 7, 8, 9, 10, 11, 12, 13, 14, 15, 16] rfl [.inr 0, .inr 1, .inr 2, .inr 3, .inr 4, .inr 5, .inr 6, .inr 7, .inr 8, .inr 9, .inr 10, .inr 11, .inr 12, .inr 13, .inr 14, .inr 15, .inr 16] (by decide) (fun u => (wM cy ad (va_up I 0 (hfC I x b t t2)) S)) (fun _ => rfl) (fun _ => rfl) (fun r69_5 u69_5 H locs q69_5 hP hD hS hkp => ?_)
          have hP : va_P D clW (wM cy ad (va_up I 0 (hfC I x b t t2)) S) H := hP
          have hD : va_D A (wM cy ad (va_up I 0 (hfC I x b t t2)) S) := hD
          rw [if_neg (by rw [hfe]; decide)] at q69_5
          subst q69_5
          refine lv_if_ne (tgt := 77) hx hb dX7_changedDays_72 (by decide) (fun c => absurd (by decide) c) (fun _ => ?_)
          refine lv_iconst (v := 0) hx hb dX7_changedDays_75 (by decide) ?_
          exact wI_ret ((va_up I 0 (hfC I x b t t2)), S) hS hP hx hb hr hlocks dX7_changedDays_76 (Nat.le_of_ble_eq_true rfl) (Nat.le_of_ble_eq_true rfl) hQ ⟨(msc_I (msc_0 I S) (by decide) _), rfl, fun q => absurd q (by rw [hfe]; decide)⟩
        · refine lv_iload hx hb dX7_changedDays_50 (lv_at hl 4 rfl) ?_
          refine lv_aload_n hx hb dX7_changedDays_52 rfl (lv_at hl 0 rfl) ?_
          refine gf_X7_121 hx hb hts hown hK hP 0 rfl (v := .int (I 5)) rfl dX7_changedDays_53 ?_
          refine lv_icmp_ge (tgt := 63) hx hb dX7_changedDays_56 (by decide) (fun c56_6 => ?_) (fun c56_6 => ?_)
          · refine lv_iconst (v := 0) hx hb dX7_changedDays_63 (by decide) ?_
            refine lv_istore (lv' := [(5, .int 0), (0, .ref (ad 0)), (1, .int x), (2, .int b), (3, .int t), (4, .int t2)]) hx hb dX7_changedDays_64 hl (by decide) rfl (fun ls hl => ?_)
            have hfe : hfC I x b t t2 = 0 := (by simp [hfC, b3_1, b19_2, b32_3, c47_4, c56_6])
            have hl : lv_has ls 10 [(5, .int (hfC I x b t t2)), (0, .ref (ad 0)), (1, .int x), (2, .int b), (3, .int t), (4, .int t2)] := by rw [hfe]; exact hl
            refine lv_aload_n hx hb dX7_changedDays_66 rfl (lv_at hl 1 rfl) ?_
            refine lv_iload hx hb dX7_changedDays_67 (lv_at hl 0 rfl) ?_
            refine wI_call (va_runV (As := [.int (hfC I x b t t2)]) (rest := []) ⟨hx, hb, hml, hown, hts⟩ (c_X7_goesOn l D cy ad I S H.size (hfC I x b t t2)) (cw_X7_71 hts rfl rfl ⟨Nat.le_of_ble_eq_true rfl, Nat.le_of_ble_eq_true rfl⟩) (preVW (ci := 7) (q0 := 0) hK hP hD rfl rfl) rfl rfl hl.1 rfl (lv_room (Nat.le_of_ble_eq_true rfl)) dX7_changedDays_69 ⟨Nat.le_of_ble_eq_true rfl, Nat.le_of_ble_eq_true rfl⟩) hP hD hS hA [0, 1, 2, 3, 4, 5, 6, 7, 8, 9, 10, 11, 12, 13, 14, 15, 16] rfl [.inr 0, .inr 1, .inr 2, .inr 3, .inr 4, .inr 5, .inr 6, .inr 7, .inr 8, .inr 9, .inr 10, .inr 11, .inr 12, .inr 13, .inr 14, .inr 15, .inr 16] (by decide) (fun u => (wM cy ad (va_up I 0 (hfC I x b t t2)) S)) (fun _ => rfl) (fun _ => rfl) (fun r69_7 u69_7 H locs q69_7 hP hD hS hkp => ?_)
            have hP : va_P D clW (wM cy ad (va_up I 0 (hfC I x b t t2)) S) H := hP
            have hD : va_D A (wM cy ad (va_up I 0 (hfC I x b t t2)) S) := hD
            rw [if_pos hfe] at q69_7
            subst q69_7
            refine lv_if_ne (tgt := 77) hx hb dX7_changedDays_72 (by decide) (fun _ => ?_) (fun c => absurd c (by decide))
            refine lv_aload_n hx hb dX7_changedDays_77 rfl (lv_at hl 1 rfl) ?_
            refine lv_aload_n hx hb dX7_changedDays_78 rfl (lv_at hl 1 rfl) ?_
            refine gf_X7_39 hx hb hts hown hK hP 0 rfl (v := .ref (ad 10)) rfl dX7_changedDays_79 ?_
            refine lv_iload_n hx hb dX7_changedDays_82 rfl (lv_at hl 2 rfl) ?_
            refine lv_iload_n hx hb dX7_changedDays_83 rfl (lv_at hl 3 rfl) ?_
            refine rI_call (va_runS (As := [.int x, .int b]) (rest := [.ref (ad 10), .ref (ad 0)]) ⟨hx, hb, hml, hown, hts⟩ (c_X7_placeOf l D cy x b) (cw_X7_103 hts rfl rfl ⟨Nat.le_of_ble_eq_true rfl, Nat.le_of_ble_eq_true rfl⟩) (preSR hK (hP.sub [] rfl)) rfl rfl hl.1 rfl (lv_room (Nat.le_of_ble_eq_true rfl)) dX7_changedDays_84 ⟨Nat.le_of_ble_eq_true rfl, Nat.le_of_ble_eq_true rfl⟩) (fun r hr_ => ?_)
            subst hr_
            refine lv_iload_n hx hb dX7_changedDays_87 rfl (lv_at hl 4 rfl) ?_
            refine wV_call (va_runV (As := [.ref (ad 10), .int (slM x b), .int t]) (rest := []) ⟨hx, hb, hml, hown, hts⟩ (c_X7_looksAt_10 l D cy ad (va_up I 0 (hfC I x b t t2)) S H.size (slM x b) t k hk hk8 fr to hfr) (cw_X7_111 hts rfl rfl ⟨Nat.le_of_ble_eq_true rfl, Nat.le_of_ble_eq_true rfl⟩) (preVW (ci := 7) (q0 := 0) hK hP hD rfl rfl) rfl rfl hl.1 rfl (lv_room (Nat.le_of_ble_eq_true rfl)) dX7_changedDays_88 ⟨Nat.le_of_ble_eq_true rfl, Nat.le_of_ble_eq_true rfl⟩) hP hD hS hA [0, 1, 2, 3, 4, 5, 6, 7, 8, 9, 10, 11, 12, 13, 14, 15, 16] rfl [.inr 0, .inr 1, .inr 2, .inr 3, .inr 4, .inr 5, .inr 6, .inr 7, .inr 8, .inr 9, .inr 10, .inr 11, .inr 12, .inr 13, .inr 14, .inr 15, .inr 16] (by decide) (fun u => (wM cy ad (va_up I 0 (hfC I x b t t2)) (va_up S 10 (lkN S (slM x b) t fr to (S 10) k)))) (fun _ => rfl) (fun _ => rfl) (fun u88_8 H locs q88_8 hP hD hS hkp => ?_)
            have hP : va_P D clW (wM cy ad (va_up I 0 (hfC I x b t t2)) (va_up S 10 (lkN S (slM x b) t fr to (S 10) k))) H := hP
            have hD : va_D A (wM cy ad (va_up I 0 (hfC I x b t t2)) (va_up S 10 (lkN S (slM x b) t fr to (S 10) k))) := hD
            refine lv_aload_n hx hb dX7_changedDays_91 rfl (lv_at hl 1 rfl) ?_
            refine lv_aload_n hx hb dX7_changedDays_92 rfl (lv_at hl 1 rfl) ?_
            refine gf_X7_42 hx hb hts hown hK hP 0 rfl (v := .ref (ad 11)) rfl dX7_changedDays_93 ?_
            refine lv_iload_n hx hb dX7_changedDays_96 rfl (lv_at hl 2 rfl) ?_
            refine lv_iload_n hx hb dX7_changedDays_97 rfl (lv_at hl 3 rfl) ?_
            refine rI_call (va_runS (As := [.int x, .int b]) (rest := [.ref (ad 11), .ref (ad 0)]) ⟨hx, hb, hml, hown, hts⟩ (c_X7_placeOf l D cy x b) (cw_X7_103 hts rfl rfl ⟨Nat.le_of_ble_eq_true rfl, Nat.le_of_ble_eq_true rfl⟩) (preSR hK (hP.sub [] rfl)) rfl rfl hl.1 rfl (lv_room (Nat.le_of_ble_eq_true rfl)) dX7_changedDays_98 ⟨Nat.le_of_ble_eq_true rfl, Nat.le_of_ble_eq_true rfl⟩) (fun r hr_ => ?_)
            subst hr_
            refine lv_iload hx hb dX7_changedDays_101 (lv_at hl 5 rfl) ?_
            refine wV_call (va_runV (As := [.ref (ad 11), .int (slM x b), .int t2]) (rest := []) ⟨hx, hb, hml, hown, hts⟩ (c_X7_looksAt_11 l D cy ad (va_up I 0 (hfC I x b t t2)) (va_up S 10 (lkN S (slM x b) t fr to (S 10) k)) H.size (slM x b) t2 k hk hk8 fr to hfr) (cw_X7_111 hts rfl rfl ⟨Nat.le_of_ble_eq_true rfl, Nat.le_of_ble_eq_true rfl⟩) (preVW (ci := 7) (q0 := 0) hK hP hD rfl rfl) rfl rfl hl.1 rfl (lv_room (Nat.le_of_ble_eq_true rfl)) dX7_changedDays_103 ⟨Nat.le_of_ble_eq_true rfl, Nat.le_of_ble_eq_true rfl⟩) hP hD hS hA [0, 1, 2, 3, 4, 5, 6, 7, 8, 9, 10, 11, 12, 13, 14, 15, 16] rfl [.inr 0, .inr 1, .inr 2, .inr 3, .inr 4, .inr 5, .inr 6, .inr 7, .inr 8, .inr 9, .inr 10, .inr 11, .inr 12, .inr 13, .inr 14, .inr 15, .inr 16] (by decide) (fun u => (wM cy ad (va_up I 0 (hfC I x b t t2)) (va_up (va_up S 10 (lkN S (slM x b) t fr to (S 10) k)) 11 (lkN (va_up S 10 (lkN S (slM x b) t fr to (S 10) k)) (slM x b) t2 fr to (S 11) k)))) (fun _ => rfl) (fun _ => rfl) (fun u103_9 H locs q103_9 hP hD hS hkp => ?_)
            have hP : va_P D clW (wM cy ad (va_up I 0 (hfC I x b t t2)) (va_up (va_up S 10 (lkN S (slM x b) t fr to (S 10) k)) 11 (lkN (va_up S 10 (lkN S (slM x b) t fr to (S 10) k)) (slM x b) t2 fr to (S 11) k))) H := hP
            have hD : va_D A (wM cy ad (va_up I 0 (hfC I x b t t2)) (va_up (va_up S 10 (lkN S (slM x b) t fr to (S 10) k)) 11 (lkN (va_up S 10 (lkN S (slM x b) t fr to (S 10) k)) (slM x b) t2 fr to (S 11) k))) := hD
            refine lv_iconst (v := 0) hx hb dX7_changedDays_106 (by decide) ?_
            refine lv_istore (lv' := [(6, .int 0), (5, .int (hfC I x b t t2)), (0, .ref (ad 0)), (1, .int x), (2, .int b), (3, .int t), (4, .int t2)]) hx hb dX7_changedDays_107 hl (by decide) rfl (fun ls hl => ?_)
            refine lv_iconst (v := 0) hx hb dX7_changedDays_109 (by decide) ?_
            refine lv_istore (lv' := [(7, .int 0), (6, .int 0), (5, .int (hfC I x b t t2)), (0, .ref (ad 0)), (1, .int x), (2, .int b), (3, .int t), (4, .int t2)]) hx hb dX7_changedDays_110 hl (by decide) rfl (fun ls hl => ?_)
            have L112 : ∀ (n_112 i : Nat), i ≤ 100 → 100 + 1 ≤ i + n_112 → ∀ (H : Heap) (locs : List Loc), va_P D clW (wM cy ad (va_up I 0 (hfC I x b t t2)) (va_up (va_up S 10 (lkN S (slM x b) t fr to (S 10) k)) 11 (lkN S (slM x b) t2 fr to (S 11) k))) H → va_D A (wM cy ad (va_up I 0 (hfC I x b t t2)) (va_up (va_up S 10 (lkN S (slM x b) t fr to (S 10) k)) 11 (lkN S (slM x b) t2 fr to (S 11) k))) → va_S A s.heap H locs → ∀ (ls : Array Slot), lv_has ls 10 [(7, .int (nI i)), (6, .int (chN (S 4) (lkN S (slM x b) t fr to (S 10) k) (lkN S (slM x b) t2 fr to (S 11) k) i)), (0, .ref (ad 0)), (1, .int x), (2, .int b), (3, .int t), (4, .int t2)] → W p l e { frames := 2, cells := 0, slots := 0, locals := 44 } s m ([.ref (ad 0), .int x, .int b, .int t, .int t2] : List Value).toArray below meth c H locs 0 0 Q (F0 m 112 ls []) := by
              clear hl
              intro n_112
              induction n_112 with
              | zero => intro i  hle_112 hn_112; exact absurd hn_112 (by omega)
              | succ n_112 ih112 =>
                intro i  hle_112 hn_112  H locs hP hD hS ls hl
                refine lv_iload hx hb dX7_changedDays_112 (lv_at hl 0 rfl) ?_
                refine lv_bipush (v := 100) hx hb dX7_changedDays_114 (by decide) ?_
                refine lv_icmp_ge (tgt := 210) hx hb dX7_changedDays_116 (by decide) (fun c116_10 => ?_) (fun c116_10 => ?_)
                · have f116_10 : 100 ≤ i := nt_le (a := 100) (b := i) (by omega) (by omega) c116_10
                  refine lv_iload hx hb dX7_changedDays_210 (lv_at hl 1 rfl) ?_
                  exact wI_ret ((va_up I 0 (hfC I x b t t2)), (va_up (va_up S 10 (lkN S (slM x b) t fr to (S 10) k)) 11 (lkN S (slM x b) t2 fr to (S 11) k))) hS hP hx hb hr hlocks dX7_changedDays_212 (Nat.le_of_ble_eq_true rfl) (Nat.le_of_ble_eq_true rfl) hQ ⟨(msc_S (msc_S (msc_I (msc_0 I S) (by decide) _) (by decide) _) (by decide) _), rfl, fun _ => by rw [show i = 100 by omega]⟩
                · have f116_10 : i < 100 := nt_nle (a := 100) (b := i) (by omega) (by omega) c116_10
                  refine lv_aload_n hx hb dX7_changedDays_119 rfl (lv_at hl 2 rfl) ?_
                  refine gf_X7_39 hx hb hts hown hK hP 0 rfl (v := .ref (ad 10)) rfl dX7_changedDays_120 ?_
                  refine lv_iload hx hb dX7_changedDays_123 (lv_at hl 0 rfl) ?_
                  refine ald_I (f := (lkN S (slM x b) t fr to (S 10) k)) hx hb hK hP 10 rfl (i := i) (by omega) (by decide) dX7_changedDays_125 ?_
                  refine lv_iconst (v := (-1)) hx hb dX7_changedDays_126 (by decide) ?_
                  refine lv_icmp_eq (tgt := 134) hx hb dX7_changedDays_127 (by decide) (fun c127_11 => ?_) (fun c127_11 => ?_)
                  · refine lv_iconst (v := 0) hx hb dX7_changedDays_134 (by decide) ?_
                    refine lv_istore (lv' := [(8, .int 0), (7, .int (nI i)), (6, .int (chN (S 4) (lkN S (slM x b) t fr to (S 10) k) (lkN S (slM x b) t2 fr to (S 11) k) i)), (0, .ref (ad 0)), (1, .int x), (2, .int b), (3, .int t), (4, .int t2)]) hx hb dX7_changedDays_135 hl (by decide) rfl (fun ls hl => ?_)
                    refine lv_aload_n hx hb dX7_changedDays_137 rfl (lv_at hl 3 rfl) ?_
                    refine gf_X7_42 hx hb hts hown hK hP 0 rfl (v := .ref (ad 11)) rfl dX7_changedDays_138 ?_
                    refine lv_iload hx hb dX7_changedDays_141 (lv_at hl 1 rfl) ?_
                    refine ald_I (f := (lkN S (slM x b) t2 fr to (S 11) k)) hx hb hK hP 11 rfl (i := i) (by omega) (by decide) dX7_changedDays_143 ?_
                    refine lv_iconst (v := (-1)) hx hb dX7_changedDays_144 (by decide) ?_
                    refine lv_icmp_eq (tgt := 152) hx hb dX7_changedDays_145 (by decide) (fun c145_12 => ?_) (fun c145_12 => ?_)
                    · refine lv_iconst (v := 0) hx hb dX7_changedDays_152 (by decide) ?_
                      refine lv_istore (lv' := [(9, .int 0), (8, .int 0), (7, .int (nI i)), (6, .int (chN (S 4) (lkN S (slM x b) t fr to (S 10) k) (lkN S (slM x b) t2 fr to (S 11) k) i)), (0, .ref (ad 0)), (1, .int x), (2, .int b), (3, .int t), (4, .int t2)]) hx hb dX7_changedDays_153 hl (by decide) rfl (fun ls hl => ?_)
                      refine lv_iload hx hb dX7_changedDays_155 (lv_at hl 3 rfl) ?_
                      refine lv_iload hx hb dX7_changedDays_157 (lv_at hl 1 rfl) ?_
                      refine lv_iload hx hb dX7_changedDays_159 (lv_at hl 0 rfl) ?_
                      refine lv_icmp_ne (tgt := 196) hx hb dX7_changedDays_161 (by decide) (fun c => absurd (by decide) c) (fun _ => ?_)
                      refine lv_iload hx hb dX7_changedDays_164 (lv_at hl 1 rfl) ?_
                      refine lv_if_eq (tgt := 200) hx hb dX7_changedDays_166 (by decide) (fun _ => ?_) (fun c => absurd (by decide) c)
                      refine lv_iconst (v := 0) hx hb dX7_changedDays_200 (by decide) ?_
                      refine lv_iadd hx hb dX7_changedDays_201 ?_
                      refine lv_istore (lv' := [(6, .int ((chN (S 4) (lkN S (slM x b) t fr to (S 10) k) (lkN S (slM x b) t2 fr to (S 11) k) i) + 0)), (9, .int 0), (8, .int 0), (7, .int (nI i)), (0, .ref (ad 0)), (1, .int x), (2, .int b), (3, .int t), (4, .int t2)]) hx hb dX7_changedDays_202 hl (by decide) rfl (fun ls hl => ?_)
                      refine lv_iinc (v := (nI (i + 1))) (lv' := [(7, .int (nI (i + 1))), (6, .int ((chN (S 4) (lkN S (slM x b) t fr to (S 10) k) (lkN S (slM x b) t2 fr to (S 11) k) i) + 0)), (9, .int 0), (8, .int 0), (0, .ref (ad 0)), (1, .int x), (2, .int b), (3, .int t), (4, .int t2)]) hx hb dX7_changedDays_204 hl (k := 3) rfl (nI_1 i) (by decide) rfl (fun ls hl => ?_)
                      refine lv_goto (tgt := 112) hx hb dX7_changedDays_207 (by decide) ?_
                      have e_13 : ((chN (S 4) (lkN S (slM x b) t fr to (S 10) k) (lkN S (slM x b) t2 fr to (S 11) k) i) + 0) = (chN (S 4) (lkN S (slM x b) t fr to (S 10) k) (lkN S (slM x b) t2 fr to (S 11) k) (i + 1)) := (ch_f (by simp [chB, c127_11, c145_12])).symm
                      have hl : lv_has ls 10 [(7, .int (nI (i + 1))), (6, .int (chN (S 4) (lkN S (slM x b) t fr to (S 10) k) (lkN S (slM x b) t2 fr to (S 11) k) (i + 1))), (9, .int 0), (8, .int 0), (0, .ref (ad 0)), (1, .int x), (2, .int b), (3, .int t), (4, .int t2)] := by rw [← e_13]; exact hl
                      have hP : va_P D clW (wM cy ad (va_up I 0 (hfC I x b t t2)) (va_up (va_up S 10 (lkN S (slM x b) t fr to (S 10) k)) 11 (lkN S (slM x b) t2 fr to (S 11) k))) H := hP
                      have hD : va_D A (wM cy ad (va_up I 0 (hfC I x b t t2)) (va_up (va_up S 10 (lkN S (slM x b) t fr to (S 10) k)) 11 (lkN S (slM x b) t2 fr to (S 11) k))) := hD.addr rfl
                      exact ih112 (i + 1) (by omega) (by omega) _ _ hP hD hS ls (lv_sub hl [0, 1, 4, 5, 6, 7, 8] rfl)
                    · refine lv_iconst (v := 1) hx hb dX7_changedDays_148 (by decide) ?_
                      refine lv_goto (tgt := 153) hx hb dX7_changedDays_149 (by decide) ?_
                      refine lv_istore (lv' := [(9, .int 1), (8, .int 0), (7, .int (nI i)), (6, .int (chN (S 4) (lkN S (slM x b) t fr to (S 10) k) (lkN S (slM x b) t2 fr to (S 11) k) i)), (0, .ref (ad 0)), (1, .int x), (2, .int b), (3, .int t), (4, .int t2)]) hx hb dX7_changedDays_153 hl (by decide) rfl (fun ls hl => ?_)
                      refine lv_iload hx hb dX7_changedDays_155 (lv_at hl 3 rfl) ?_
                      refine lv_iload hx hb dX7_changedDays_157 (lv_at hl 1 rfl) ?_
                      refine lv_iload hx hb dX7_changedDays_159 (lv_at hl 0 rfl) ?_
                      refine lv_icmp_ne (tgt := 196) hx hb dX7_changedDays_161 (by decide) (fun _ => ?_) (fun c => absurd c (by decide))
                      refine lv_iconst (v := 1) hx hb dX7_changedDays_196 (by decide) ?_
                      refine lv_goto (tgt := 201) hx hb dX7_changedDays_197 (by decide) ?_
                      refine lv_iadd hx hb dX7_changedDays_201 ?_
                      refine lv_istore (lv' := [(6, .int ((chN (S 4) (lkN S (slM x b) t fr to (S 10) k) (lkN S (slM x b) t2 fr to (S 11) k) i) + 1)), (9, .int 1), (8, .int 0), (7, .int (nI i)), (0, .ref (ad 0)), (1, .int x), (2, .int b), (3, .int t), (4, .int t2)]) hx hb dX7_changedDays_202 hl (by decide) rfl (fun ls hl => ?_)
                      refine lv_iinc (v := (nI (i + 1))) (lv' := [(7, .int (nI (i + 1))), (6, .int ((chN (S 4) (lkN S (slM x b) t fr to (S 10) k) (lkN S (slM x b) t2 fr to (S 11) k) i) + 1)), (9, .int 1), (8, .int 0), (0, .ref (ad 0)), (1, .int x), (2, .int b), (3, .int t), (4, .int t2)]) hx hb dX7_changedDays_204 hl (k := 3) rfl (nI_1 i) (by decide) rfl (fun ls hl => ?_)
                      refine lv_goto (tgt := 112) hx hb dX7_changedDays_207 (by decide) ?_
                      have e_14 : ((chN (S 4) (lkN S (slM x b) t fr to (S 10) k) (lkN S (slM x b) t2 fr to (S 11) k) i) + 1) = (chN (S 4) (lkN S (slM x b) t fr to (S 10) k) (lkN S (slM x b) t2 fr to (S 11) k) (i + 1)) := (ch_t (by simp [chB, c127_11, c145_12])).symm
                      have hl : lv_has ls 10 [(7, .int (nI (i + 1))), (6, .int (chN (S 4) (lkN S (slM x b) t fr to (S 10) k) (lkN S (slM x b) t2 fr to (S 11) k) (i + 1))), (9, .int 1), (8, .int 0), (0, .ref (ad 0)), (1, .int x), (2, .int b), (3, .int t), (4, .int t2)] := by rw [← e_14]; exact hl
                      have hP : va_P D clW (wM cy ad (va_up I 0 (hfC I x b t t2)) (va_up (va_up S 10 (lkN S (slM x b) t fr to (S 10) k)) 11 (lkN S (slM x b) t2 fr to (S 11) k))) H := hP
                      have hD : va_D A (wM cy ad (va_up I 0 (hfC I x b t t2)) (va_up (va_up S 10 (lkN S (slM x b) t fr to (S 10) k)) 11 (lkN S (slM x b) t2 fr to (S 11) k))) := hD.addr rfl
                      exact ih112 (i + 1) (by omega) (by omega) _ _ hP hD hS ls (lv_sub hl [0, 1, 4, 5, 6, 7, 8] rfl)
                  · refine lv_iconst (v := 1) hx hb dX7_changedDays_130 (by decide) ?_
                    refine lv_goto (tgt := 135) hx hb dX7_changedDays_131 (by decide) ?_
                    refine lv_istore (lv' := [(8, .int 1), (7, .int (nI i)), (6, .int (chN (S 4) (lkN S (slM x b) t fr to (S 10) k) (lkN S (slM x b) t2 fr to (S 11) k) i)), (0, .ref (ad 0)), (1, .int x), (2, .int b), (3, .int t), (4, .int t2)]) hx hb dX7_changedDays_135 hl (by decide) rfl (fun ls hl => ?_)
                    refine lv_aload_n hx hb dX7_changedDays_137 rfl (lv_at hl 3 rfl) ?_
                    refine gf_X7_42 hx hb hts hown hK hP 0 rfl (v := .ref (ad 11)) rfl dX7_changedDays_138 ?_
                    refine lv_iload hx hb dX7_changedDays_141 (lv_at hl 1 rfl) ?_
                    refine ald_I (f := (lkN S (slM x b) t2 fr to (S 11) k)) hx hb hK hP 11 rfl (i := i) (by omega) (by decide) dX7_changedDays_143 ?_
                    refine lv_iconst (v := (-1)) hx hb dX7_changedDays_144 (by decide) ?_
                    refine lv_icmp_eq (tgt := 152) hx hb dX7_changedDays_145 (by decide) (fun c145_15 => ?_) (fun c145_15 => ?_)
                    · refine lv_iconst (v := 0) hx hb dX7_changedDays_152 (by decide) ?_
                      refine lv_istore (lv' := [(9, .int 0), (8, .int 1), (7, .int (nI i)), (6, .int (chN (S 4) (lkN S (slM x b) t fr to (S 10) k) (lkN S (slM x b) t2 fr to (S 11) k) i)), (0, .ref (ad 0)), (1, .int x), (2, .int b), (3, .int t), (4, .int t2)]) hx hb dX7_changedDays_153 hl (by decide) rfl (fun ls hl => ?_)
                      refine lv_iload hx hb dX7_changedDays_155 (lv_at hl 3 rfl) ?_
                      refine lv_iload hx hb dX7_changedDays_157 (lv_at hl 1 rfl) ?_
                      refine lv_iload hx hb dX7_changedDays_159 (lv_at hl 0 rfl) ?_
                      refine lv_icmp_ne (tgt := 196) hx hb dX7_changedDays_161 (by decide) (fun _ => ?_) (fun c => absurd c (by decide))
                      refine lv_iconst (v := 1) hx hb dX7_changedDays_196 (by decide) ?_
                      refine lv_goto (tgt := 201) hx hb dX7_changedDays_197 (by decide) ?_
                      refine lv_iadd hx hb dX7_changedDays_201 ?_
                      refine lv_istore (lv' := [(6, .int ((chN (S 4) (lkN S (slM x b) t fr to (S 10) k) (lkN S (slM x b) t2 fr to (S 11) k) i) + 1)), (9, .int 0), (8, .int 1), (7, .int (nI i)), (0, .ref (ad 0)), (1, .int x), (2, .int b), (3, .int t), (4, .int t2)]) hx hb dX7_changedDays_202 hl (by decide) rfl (fun ls hl => ?_)
                      refine lv_iinc (v := (nI (i + 1))) (lv' := [(7, .int (nI (i + 1))), (6, .int ((chN (S 4) (lkN S (slM x b) t fr to (S 10) k) (lkN S (slM x b) t2 fr to (S 11) k) i) + 1)), (9, .int 0), (8, .int 1), (0, .ref (ad 0)), (1, .int x), (2, .int b), (3, .int t), (4, .int t2)]) hx hb dX7_changedDays_204 hl (k := 3) rfl (nI_1 i) (by decide) rfl (fun ls hl => ?_)
                      refine lv_goto (tgt := 112) hx hb dX7_changedDays_207 (by decide) ?_
                      have e_16 : ((chN (S 4) (lkN S (slM x b) t fr to (S 10) k) (lkN S (slM x b) t2 fr to (S 11) k) i) + 1) = (chN (S 4) (lkN S (slM x b) t fr to (S 10) k) (lkN S (slM x b) t2 fr to (S 11) k) (i + 1)) := (ch_t (by simp [chB, c127_11, c145_15])).symm
                      have hl : lv_has ls 10 [(7, .int (nI (i + 1))), (6, .int (chN (S 4) (lkN S (slM x b) t fr to (S 10) k) (lkN S (slM x b) t2 fr to (S 11) k) (i + 1))), (9, .int 0), (8, .int 1), (0, .ref (ad 0)), (1, .int x), (2, .int b), (3, .int t), (4, .int t2)] := by rw [← e_16]; exact hl
                      have hP : va_P D clW (wM cy ad (va_up I 0 (hfC I x b t t2)) (va_up (va_up S 10 (lkN S (slM x b) t fr to (S 10) k)) 11 (lkN S (slM x b) t2 fr to (S 11) k))) H := hP
                      have hD : va_D A (wM cy ad (va_up I 0 (hfC I x b t t2)) (va_up (va_up S 10 (lkN S (slM x b) t fr to (S 10) k)) 11 (lkN S (slM x b) t2 fr to (S 11) k))) := hD.addr rfl
                      exact ih112 (i + 1) (by omega) (by omega) _ _ hP hD hS ls (lv_sub hl [0, 1, 4, 5, 6, 7, 8] rfl)
                    · refine lv_iconst (v := 1) hx hb dX7_changedDays_148 (by decide) ?_
                      refine lv_goto (tgt := 153) hx hb dX7_changedDays_149 (by decide) ?_
                      refine lv_istore (lv' := [(9, .int 1), (8, .int 1), (7, .int (nI i)), (6, .int (chN (S 4) (lkN S (slM x b) t fr to (S 10) k) (lkN S (slM x b) t2 fr to (S 11) k) i)), (0, .ref (ad 0)), (1, .int x), (2, .int b), (3, .int t), (4, .int t2)]) hx hb dX7_changedDays_153 hl (by decide) rfl (fun ls hl => ?_)
                      refine lv_iload hx hb dX7_changedDays_155 (lv_at hl 3 rfl) ?_
                      refine lv_iload hx hb dX7_changedDays_157 (lv_at hl 1 rfl) ?_
                      refine lv_iload hx hb dX7_changedDays_159 (lv_at hl 0 rfl) ?_
                      refine lv_icmp_ne (tgt := 196) hx hb dX7_changedDays_161 (by decide) (fun c => absurd (by decide) c) (fun _ => ?_)
                      refine lv_iload hx hb dX7_changedDays_164 (lv_at hl 1 rfl) ?_
                      refine lv_if_eq (tgt := 200) hx hb dX7_changedDays_166 (by decide) (fun c => absurd c (by decide)) (fun _ => ?_)
                      refine lv_aload_n hx hb dX7_changedDays_169 rfl (lv_at hl 4 rfl) ?_
                      refine gf_X7_20 hx hb hts hown hK hP 0 rfl (v := .ref (ad 4)) rfl dX7_changedDays_170 ?_
                      refine lv_aload_n hx hb dX7_changedDays_173 rfl (lv_at hl 4 rfl) ?_
                      refine gf_X7_39 hx hb hts hown hK hP 0 rfl (v := .ref (ad 10)) rfl dX7_changedDays_174 ?_
                      refine lv_iload hx hb dX7_changedDays_177 (lv_at hl 2 rfl) ?_
                      refine ald_I (f := (lkN S (slM x b) t fr to (S 10) k)) hx hb hK hP 10 rfl (i := i) (by omega) (by decide) dX7_changedDays_179 ?_
                      refine ald_Ix (f := (S 4)) hx hb hK hP 4 rfl (row_in (lk_row S (slM x b) t fr to (S 10) k) hk8 (by decide) (by omega) c127_11) dX7_changedDays_180 ?_
                      refine lv_aload_n hx hb dX7_changedDays_181 rfl (lv_at hl 4 rfl) ?_
                      refine gf_X7_20 hx hb hts hown hK hP 0 rfl (v := .ref (ad 4)) rfl dX7_changedDays_182 ?_
                      refine lv_aload_n hx hb dX7_changedDays_185 rfl (lv_at hl 4 rfl) ?_
                      refine gf_X7_42 hx hb hts hown hK hP 0 rfl (v := .ref (ad 11)) rfl dX7_changedDays_186 ?_
                      refine lv_iload hx hb dX7_changedDays_189 (lv_at hl 2 rfl) ?_
                      refine ald_I (f := (lkN S (slM x b) t2 fr to (S 11) k)) hx hb hK hP 11 rfl (i := i) (by omega) (by decide) dX7_changedDays_191 ?_
                      refine ald_Ix (f := (S 4)) hx hb hK hP 4 rfl (row_in (lk_row S (slM x b) t2 fr to (S 11) k) hk8 (by decide) (by omega) c145_15) dX7_changedDays_192 ?_
                      refine lv_icmp_eq (tgt := 200) hx hb dX7_changedDays_193 (by decide) (fun c193_17 => ?_) (fun c193_17 => ?_)
                      · refine lv_iconst (v := 0) hx hb dX7_changedDays_200 (by decide) ?_
                        refine lv_iadd hx hb dX7_changedDays_201 ?_
                        refine lv_istore (lv' := [(6, .int ((chN (S 4) (lkN S (slM x b) t fr to (S 10) k) (lkN S (slM x b) t2 fr to (S 11) k) i) + 0)), (9, .int 1), (8, .int 1), (7, .int (nI i)), (0, .ref (ad 0)), (1, .int x), (2, .int b), (3, .int t), (4, .int t2)]) hx hb dX7_changedDays_202 hl (by decide) rfl (fun ls hl => ?_)
                        refine lv_iinc (v := (nI (i + 1))) (lv' := [(7, .int (nI (i + 1))), (6, .int ((chN (S 4) (lkN S (slM x b) t fr to (S 10) k) (lkN S (slM x b) t2 fr to (S 11) k) i) + 0)), (9, .int 1), (8, .int 1), (0, .ref (ad 0)), (1, .int x), (2, .int b), (3, .int t), (4, .int t2)]) hx hb dX7_changedDays_204 hl (k := 3) rfl (nI_1 i) (by decide) rfl (fun ls hl => ?_)
                        refine lv_goto (tgt := 112) hx hb dX7_changedDays_207 (by decide) ?_
                        have e_18 : ((chN (S 4) (lkN S (slM x b) t fr to (S 10) k) (lkN S (slM x b) t2 fr to (S 11) k) i) + 0) = (chN (S 4) (lkN S (slM x b) t fr to (S 10) k) (lkN S (slM x b) t2 fr to (S 11) k) (i + 1)) := (ch_f (by simp [chB, c127_11, c145_15, c193_17])).symm
                        have hl : lv_has ls 10 [(7, .int (nI (i + 1))), (6, .int (chN (S 4) (lkN S (slM x b) t fr to (S 10) k) (lkN S (slM x b) t2 fr to (S 11) k) (i + 1))), (9, .int 1), (8, .int 1), (0, .ref (ad 0)), (1, .int x), (2, .int b), (3, .int t), (4, .int t2)] := by rw [← e_18]; exact hl
                        have hP : va_P D clW (wM cy ad (va_up I 0 (hfC I x b t t2)) (va_up (va_up S 10 (lkN S (slM x b) t fr to (S 10) k)) 11 (lkN S (slM x b) t2 fr to (S 11) k))) H := hP
                        have hD : va_D A (wM cy ad (va_up I 0 (hfC I x b t t2)) (va_up (va_up S 10 (lkN S (slM x b) t fr to (S 10) k)) 11 (lkN S (slM x b) t2 fr to (S 11) k))) := hD.addr rfl
                        exact ih112 (i + 1) (by omega) (by omega) _ _ hP hD hS ls (lv_sub hl [0, 1, 4, 5, 6, 7, 8] rfl)
                      · refine lv_iconst (v := 1) hx hb dX7_changedDays_196 (by decide) ?_
                        refine lv_goto (tgt := 201) hx hb dX7_changedDays_197 (by decide) ?_
                        refine lv_iadd hx hb dX7_changedDays_201 ?_
                        refine lv_istore (lv' := [(6, .int ((chN (S 4) (lkN S (slM x b) t fr to (S 10) k) (lkN S (slM x b) t2 fr to (S 11) k) i) + 1)), (9, .int 1), (8, .int 1), (7, .int (nI i)), (0, .ref (ad 0)), (1, .int x), (2, .int b), (3, .int t), (4, .int t2)]) hx hb dX7_changedDays_202 hl (by decide) rfl (fun ls hl => ?_)
                        refine lv_iinc (v := (nI (i + 1))) (lv' := [(7, .int (nI (i + 1))), (6, .int ((chN (S 4) (lkN S (slM x b) t fr to (S 10) k) (lkN S (slM x b) t2 fr to (S 11) k) i) + 1)), (9, .int 1), (8, .int 1), (0, .ref (ad 0)), (1, .int x), (2, .int b), (3, .int t), (4, .int t2)]) hx hb dX7_changedDays_204 hl (k := 3) rfl (nI_1 i) (by decide) rfl (fun ls hl => ?_)
                        refine lv_goto (tgt := 112) hx hb dX7_changedDays_207 (by decide) ?_
                        have e_19 : ((chN (S 4) (lkN S (slM x b) t fr to (S 10) k) (lkN S (slM x b) t2 fr to (S 11) k) i) + 1) = (chN (S 4) (lkN S (slM x b) t fr to (S 10) k) (lkN S (slM x b) t2 fr to (S 11) k) (i + 1)) := (ch_t (by simp [chB, c127_11, c145_15, c193_17])).symm
                        have hl : lv_has ls 10 [(7, .int (nI (i + 1))), (6, .int (chN (S 4) (lkN S (slM x b) t fr to (S 10) k) (lkN S (slM x b) t2 fr to (S 11) k) (i + 1))), (9, .int 1), (8, .int 1), (0, .ref (ad 0)), (1, .int x), (2, .int b), (3, .int t), (4, .int t2)] := by rw [← e_19]; exact hl
                        have hP : va_P D clW (wM cy ad (va_up I 0 (hfC I x b t t2)) (va_up (va_up S 10 (lkN S (slM x b) t fr to (S 10) k)) 11 (lkN S (slM x b) t2 fr to (S 11) k))) H := hP
                        have hD : va_D A (wM cy ad (va_up I 0 (hfC I x b t t2)) (va_up (va_up S 10 (lkN S (slM x b) t fr to (S 10) k)) 11 (lkN S (slM x b) t2 fr to (S 11) k))) := hD.addr rfl
                        exact ih112 (i + 1) (by omega) (by omega) _ _ hP hD hS ls (lv_sub hl [0, 1, 4, 5, 6, 7, 8] rfl)
            have e_20 : (lkN (va_up S 10 (lkN S (slM x b) t fr to (S 10) k)) (slM x b) t2 fr to (S 11) k) = (lkN S (slM x b) t2 fr to (S 11) k) := rfl
            have hP : va_P D clW (wM cy ad (va_up I 0 (hfC I x b t t2)) (va_up (va_up S 10 (lkN S (slM x b) t fr to (S 10) k)) 11 (lkN S (slM x b) t2 fr to (S 11) k))) H := by rw [← e_20]; exact hP
            have hD : va_D A (wM cy ad (va_up I 0 (hfC I x b t t2)) (va_up (va_up S 10 (lkN S (slM x b) t fr to (S 10) k)) 11 (lkN S (slM x b) t2 fr to (S 11) k))) := hD.addr rfl
            exact L112 (100 + 1) 0 (by omega) (by omega) _ _ hP hD hS ls (lv_sub hl [0, 1, 3, 4, 5, 6, 7] rfl)
          · refine lv_iconst (v := 3) hx hb dX7_changedDays_59 (by decide) ?_
            refine lv_goto (tgt := 64) hx hb dX7_changedDays_60 (by decide) ?_
            refine lv_istore (lv' := [(5, .int 3), (0, .ref (ad 0)), (1, .int x), (2, .int b), (3, .int t), (4, .int t2)]) hx hb dX7_changedDays_64 hl (by decide) rfl (fun ls hl => ?_)
            have hfe : hfC I x b t t2 = 3 := (by simp [hfC, b3_1, b19_2, b32_3, c47_4, c56_6])
            have hl : lv_has ls 10 [(5, .int (hfC I x b t t2)), (0, .ref (ad 0)), (1, .int x), (2, .int b), (3, .int t), (4, .int t2)] := by rw [hfe]; exact hl
            refine lv_aload_n hx hb dX7_changedDays_66 rfl (lv_at hl 1 rfl) ?_
            refine lv_iload hx hb dX7_changedDays_67 (lv_at hl 0 rfl) ?_
            refine wI_call (va_runV (As := [.int (hfC I x b t t2)]) (rest := []) ⟨hx, hb, hml, hown, hts⟩ (c_X7_goesOn l D cy ad I S H.size (hfC I x b t t2)) (cw_X7_71 hts rfl rfl ⟨Nat.le_of_ble_eq_true rfl, Nat.le_of_ble_eq_true rfl⟩) (preVW (ci := 7) (q0 := 0) hK hP hD rfl rfl) rfl rfl hl.1 rfl (lv_room (Nat.le_of_ble_eq_true rfl)) dX7_changedDays_69 ⟨Nat.le_of_ble_eq_true rfl, Nat.le_of_ble_eq_true rfl⟩) hP hD hS hA [0, 1, 2, 3, 4, 5, 6, 7, 8, 9, 10, 11, 12, 13, 14, 15, 16] rfl [.inr 0, .inr 1, .inr 2, .inr 3, .inr 4, .inr 5, .inr 6, .inr 7, .inr 8, .inr 9, .inr 10, .inr 11, .inr 12, .inr 13, .inr 14, .inr 15, .inr 16] (by decide) (fun u => (wM cy ad (va_up I 0 (hfC I x b t t2)) S)) (fun _ => rfl) (fun _ => rfl) (fun r69_21 u69_21 H locs q69_21 hP hD hS hkp => ?_)
            have hP : va_P D clW (wM cy ad (va_up I 0 (hfC I x b t t2)) S) H := hP
            have hD : va_D A (wM cy ad (va_up I 0 (hfC I x b t t2)) S) := hD
            rw [if_neg (by rw [hfe]; decide)] at q69_21
            subst q69_21
            refine lv_if_ne (tgt := 77) hx hb dX7_changedDays_72 (by decide) (fun c => absurd (by decide) c) (fun _ => ?_)
            refine lv_iconst (v := 0) hx hb dX7_changedDays_75 (by decide) ?_
            exact wI_ret ((va_up I 0 (hfC I x b t t2)), S) hS hP hx hb hr hlocks dX7_changedDays_76 (Nat.le_of_ble_eq_true rfl) (Nat.le_of_ble_eq_true rfl) hQ ⟨(msc_I (msc_0 I S) (by decide) _), rfl, fun q => absurd q (by rw [hfe]; decide)⟩
      · refine lv_if_ne (tgt := 42) hx hb dX7_changedDays_35 (by decide) (fun c => absurd (by decide) c) (fun _ => ?_)
        refine lv_iconst (v := 2) hx hb dX7_changedDays_38 (by decide) ?_
        refine lv_goto (tgt := 64) hx hb dX7_changedDays_39 (by decide) ?_
        refine lv_istore (lv' := [(5, .int 2), (0, .ref (ad 0)), (1, .int x), (2, .int b), (3, .int t), (4, .int t2)]) hx hb dX7_changedDays_64 hl (by decide) rfl (fun ls hl => ?_)
        have hfe : hfC I x b t t2 = 2 := (by simp [hfC, b3_1, b19_2, b32_3])
        have hl : lv_has ls 10 [(5, .int (hfC I x b t t2)), (0, .ref (ad 0)), (1, .int x), (2, .int b), (3, .int t), (4, .int t2)] := by rw [hfe]; exact hl
        refine lv_aload_n hx hb dX7_changedDays_66 rfl (lv_at hl 1 rfl) ?_
        refine lv_iload hx hb dX7_changedDays_67 (lv_at hl 0 rfl) ?_
        refine wI_call (va_runV (As := [.int (hfC I x b t t2)]) (rest := []) ⟨hx, hb, hml, hown, hts⟩ (c_X7_goesOn l D cy ad I S H.size (hfC I x b t t2)) (cw_X7_71 hts rfl rfl ⟨Nat.le_of_ble_eq_true rfl, Nat.le_of_ble_eq_true rfl⟩) (preVW (ci := 7) (q0 := 0) hK hP hD rfl rfl) rfl rfl hl.1 rfl (lv_room (Nat.le_of_ble_eq_true rfl)) dX7_changedDays_69 ⟨Nat.le_of_ble_eq_true rfl, Nat.le_of_ble_eq_true rfl⟩) hP hD hS hA [0, 1, 2, 3, 4, 5, 6, 7, 8, 9, 10, 11, 12, 13, 14, 15, 16] rfl [.inr 0, .inr 1, .inr 2, .inr 3, .inr 4, .inr 5, .inr 6, .inr 7, .inr 8, .inr 9, .inr 10, .inr 11, .inr 12, .inr 13, .inr 14, .inr 15, .inr 16] (by decide) (fun u => (wM cy ad (va_up I 0 (hfC I x b t t2)) S)) (fun _ => rfl) (fun _ => rfl) (fun r69_22 u69_22 H locs q69_22 hP hD hS hkp => ?_)
        have hP : va_P D clW (wM cy ad (va_up I 0 (hfC I x b t t2)) S) H := hP
        have hD : va_D A (wM cy ad (va_up I 0 (hfC I x b t t2)) S) := hD
        rw [if_neg (by rw [hfe]; decide)] at q69_22
        subst q69_22
        refine lv_if_ne (tgt := 77) hx hb dX7_changedDays_72 (by decide) (fun c => absurd (by decide) c) (fun _ => ?_)
        refine lv_iconst (v := 0) hx hb dX7_changedDays_75 (by decide) ?_
        exact wI_ret ((va_up I 0 (hfC I x b t t2)), S) hS hP hx hb hr hlocks dX7_changedDays_76 (Nat.le_of_ble_eq_true rfl) (Nat.le_of_ble_eq_true rfl) hQ ⟨(msc_I (msc_0 I S) (by decide) _), rfl, fun q => absurd q (by rw [hfe]; decide)⟩
    · refine lv_if_eq (tgt := 38) hx hb dX7_changedDays_22 (by decide) (fun _ => ?_) (fun c => absurd (by decide) c)
      refine lv_iconst (v := 2) hx hb dX7_changedDays_38 (by decide) ?_
      refine lv_goto (tgt := 64) hx hb dX7_changedDays_39 (by decide) ?_
      refine lv_istore (lv' := [(5, .int 2), (0, .ref (ad 0)), (1, .int x), (2, .int b), (3, .int t), (4, .int t2)]) hx hb dX7_changedDays_64 hl (by decide) rfl (fun ls hl => ?_)
      have hfe : hfC I x b t t2 = 2 := (by simp [hfC, b3_1, b19_2])
      have hl : lv_has ls 10 [(5, .int (hfC I x b t t2)), (0, .ref (ad 0)), (1, .int x), (2, .int b), (3, .int t), (4, .int t2)] := by rw [hfe]; exact hl
      refine lv_aload_n hx hb dX7_changedDays_66 rfl (lv_at hl 1 rfl) ?_
      refine lv_iload hx hb dX7_changedDays_67 (lv_at hl 0 rfl) ?_
      refine wI_call (va_runV (As := [.int (hfC I x b t t2)]) (rest := []) ⟨hx, hb, hml, hown, hts⟩ (c_X7_goesOn l D cy ad I S H.size (hfC I x b t t2)) (cw_X7_71 hts rfl rfl ⟨Nat.le_of_ble_eq_true rfl, Nat.le_of_ble_eq_true rfl⟩) (preVW (ci := 7) (q0 := 0) hK hP hD rfl rfl) rfl rfl hl.1 rfl (lv_room (Nat.le_of_ble_eq_true rfl)) dX7_changedDays_69 ⟨Nat.le_of_ble_eq_true rfl, Nat.le_of_ble_eq_true rfl⟩) hP hD hS hA [0, 1, 2, 3, 4, 5, 6, 7, 8, 9, 10, 11, 12, 13, 14, 15, 16] rfl [.inr 0, .inr 1, .inr 2, .inr 3, .inr 4, .inr 5, .inr 6, .inr 7, .inr 8, .inr 9, .inr 10, .inr 11, .inr 12, .inr 13, .inr 14, .inr 15, .inr 16] (by decide) (fun u => (wM cy ad (va_up I 0 (hfC I x b t t2)) S)) (fun _ => rfl) (fun _ => rfl) (fun r69_23 u69_23 H locs q69_23 hP hD hS hkp => ?_)
      have hP : va_P D clW (wM cy ad (va_up I 0 (hfC I x b t t2)) S) H := hP
      have hD : va_D A (wM cy ad (va_up I 0 (hfC I x b t t2)) S) := hD
      rw [if_neg (by rw [hfe]; decide)] at q69_23
      subst q69_23
      refine lv_if_ne (tgt := 77) hx hb dX7_changedDays_72 (by decide) (fun c => absurd (by decide) c) (fun _ => ?_)
      refine lv_iconst (v := 0) hx hb dX7_changedDays_75 (by decide) ?_
      exact wI_ret ((va_up I 0 (hfC I x b t t2)), S) hS hP hx hb hr hlocks dX7_changedDays_76 (Nat.le_of_ble_eq_true rfl) (Nat.le_of_ble_eq_true rfl) hQ ⟨(msc_I (msc_0 I S) (by decide) _), rfl, fun q => absurd q (by rw [hfe]; decide)⟩
  · refine lv_if_ne (tgt := 13) hx hb dX7_changedDays_6 (by decide) (fun c => absurd (by decide) c) (fun _ => ?_)
    refine lv_iconst (v := 1) hx hb dX7_changedDays_9 (by decide) ?_
    refine lv_goto (tgt := 64) hx hb dX7_changedDays_10 (by decide) ?_
    refine lv_istore (lv' := [(5, .int 1), (0, .ref (ad 0)), (1, .int x), (2, .int b), (3, .int t), (4, .int t2)]) hx hb dX7_changedDays_64 hl (by decide) rfl (fun ls hl => ?_)
    have hfe : hfC I x b t t2 = 1 := (by simp [hfC, b3_1])
    have hl : lv_has ls 10 [(5, .int (hfC I x b t t2)), (0, .ref (ad 0)), (1, .int x), (2, .int b), (3, .int t), (4, .int t2)] := by rw [hfe]; exact hl
    refine lv_aload_n hx hb dX7_changedDays_66 rfl (lv_at hl 1 rfl) ?_
    refine lv_iload hx hb dX7_changedDays_67 (lv_at hl 0 rfl) ?_
    refine wI_call (va_runV (As := [.int (hfC I x b t t2)]) (rest := []) ⟨hx, hb, hml, hown, hts⟩ (c_X7_goesOn l D cy ad I S H.size (hfC I x b t t2)) (cw_X7_71 hts rfl rfl ⟨Nat.le_of_ble_eq_true rfl, Nat.le_of_ble_eq_true rfl⟩) (preVW (ci := 7) (q0 := 0) hK hP hD rfl rfl) rfl rfl hl.1 rfl (lv_room (Nat.le_of_ble_eq_true rfl)) dX7_changedDays_69 ⟨Nat.le_of_ble_eq_true rfl, Nat.le_of_ble_eq_true rfl⟩) hP hD hS hA [0, 1, 2, 3, 4, 5, 6, 7, 8, 9, 10, 11, 12, 13, 14, 15, 16] rfl [.inr 0, .inr 1, .inr 2, .inr 3, .inr 4, .inr 5, .inr 6, .inr 7, .inr 8, .inr 9, .inr 10, .inr 11, .inr 12, .inr 13, .inr 14, .inr 15, .inr 16] (by decide) (fun u => (wM cy ad (va_up I 0 (hfC I x b t t2)) S)) (fun _ => rfl) (fun _ => rfl) (fun r69_24 u69_24 H locs q69_24 hP hD hS hkp => ?_)
    have hP : va_P D clW (wM cy ad (va_up I 0 (hfC I x b t t2)) S) H := hP
    have hD : va_D A (wM cy ad (va_up I 0 (hfC I x b t t2)) S) := hD
    rw [if_neg (by rw [hfe]; decide)] at q69_24
    subst q69_24
    refine lv_if_ne (tgt := 77) hx hb dX7_changedDays_72 (by decide) (fun c => absurd (by decide) c) (fun _ => ?_)
    refine lv_iconst (v := 0) hx hb dX7_changedDays_75 (by decide) ?_
    exact wI_ret ((va_up I 0 (hfC I x b t t2)), S) hS hP hx hb hr hlocks dX7_changedDays_76 (Nat.le_of_ble_eq_true rfl) (Nat.le_of_ble_eq_true rfl) hQ ⟨(msc_I (msc_0 I S) (by decide) _), rfl, fun q => absurd q (by rw [hfe]; decide)⟩
