/-! two methods of the model again, with less asked -/
theorem in_1b {t : Int32} {n : Nat} (hn : n < 2147483647) (h : inB t 1 (nI n) = true) : ∃ j : Nat, 1 ≤ j ∧ j ≤ n ∧ t = nI j := by
  obtain ⟨j, hj, q⟩ := in_1 hn h
  refine ⟨j, ?_, hj, q⟩
  rcases Nat.eq_zero_or_pos j with h0 | h1
  · exfalso
    have h2 := (of_decide_eq_true h).1
    rw [q, h0] at h2
    exact h2 (by decide)
  · exact h1
set_option maxHeartbeats 4000000 in
set_option maxRecDepth 100000 in
theorem c_X7_operationAtB (l : Launch) (D : va_G) (cy : Nat → ClassId) (ad : Nat → Nat) (I : AI) (S : AS) (sz : Nat) (t : Int32) (n : Nat) (hn : I 2 = nI n) (hn6 : n ≤ 60) (hch : ∀ j : Nat, 1 ≤ j → j ≤ n → narrow .char (.int (S 1 j)) = .int (S 1 j)) : Met l yX7_operationAt (Cond.code yX7_operationAt cX7_operationAt 2 (some .char) :: wsL_law) ({ frames := 1, cells := 0, slots := 0, locals := 22 }) (va_Pc [.ref (ad 0), .int t] (wrB D cy (wM cy ad I S) sz)) (va_Qi (S := AI × AS) (fun r u => (inB t 1 (nI n) = true ∧ r = S 1 t.toNatClampNeg ∧ u.1 = va_up I 0 0 ∧ u.2 = S) ∨ (¬ inB t 1 (nI n) = true ∧ u.1 = va_up I 0 1 ∧ u.2 = S)) (fun u t9 => va_P D clW (wM cy ad u.1 u.2) t9.heap) (va_A (wM cy ad I S) sz)) 0 0 (va_A (wM cy ad I S) sz) := by
  refine enter (cc := cX7_operationAt) (by decide) (Nat.le_of_ble_eq_true rfl) ?_
  intro p e s m below meth c hx hb hr hml hown hts hlocks hin hv Q hQ ls hl
  obtain ⟨hsz, hP, hK, hD0⟩ := hv
  subst hsz
  have hD := hD0.self (sz := s.heap.size)
  generalize hAe : va_A (wM cy ad I S) s.heap.size = A at hD hQ ⊢
  have hA : ∀ q : Nat, s.heap.size ≤ q → A q := fun q h => by rw [← hAe]; exact Or.inr h
  have hS : va_S A s.heap s.heap [] := va_S.rf
  suffices K_ : ∀ (H : Heap) (locs : List Loc), va_P D clW (wM cy ad I S) H → va_S A s.heap H locs → W p l e ({ frames := 1, cells := 0, slots := 0, locals := 22 }) s m ([.ref (ad 0), .int t] : List Value).toArray below meth c H locs 0 0 Q (F0 m 0 ls []) from K_ _ _ hP hS
  clear hP hS
  intro H locs hP hS
  have hown : s.vm.findClass RX7 = some m.cls := hown
  have hl : lv_has ls 2 [(0, .ref (ad 0)), (1, .int t)] := hl
  refine lv_aload_n hx hb dX7_operationAt_0 rfl (lv_at hl 0 rfl) ?_
  refine lv_iload_n hx hb dX7_operationAt_1 rfl (lv_at hl 1 rfl) ?_
  refine lv_iconst (v := 1) hx hb dX7_operationAt_2 (by decide) ?_
  refine lv_aload_n hx hb dX7_operationAt_3 rfl (lv_at hl 0 rfl) ?_
  refine gf_X7_78 hx hb hts hown hK hP 0 rfl (v := .int (I 2)) rfl dX7_operationAt_4 ?_
  refine top_eq hn ?_
  refine rZ_call (P := inB t 1 (nI n) = true) (va_runS (As := [.int t, .int 1, .int (nI n)]) (rest := [.ref (ad 0)]) ⟨hx, hb, hml, hown, hts⟩ (c_X7_in l D cy t 1 (nI n)) (cw_X7_67 hts rfl rfl ⟨Nat.le_of_ble_eq_true rfl, Nat.le_of_ble_eq_true rfl⟩) (preSR hK (hP.sub [] rfl)) rfl rfl hl.1 rfl (lv_room (Nat.le_of_ble_eq_true rfl)) dX7_operationAt_7 ⟨Nat.le_of_ble_eq_true rfl, Nat.le_of_ble_eq_true rfl⟩) (fun b7_1 => ?_) (fun b7_1 => ?_)
  · obtain ⟨j, hj1, hj, hxj⟩ := in_1b (by omega) b7_1
    refine lv_if_eq (tgt := 17) hx hb dX7_operationAt_10 (by decide) (fun c => absurd c (by decide)) (fun _ => ?_)
    refine lv_iconst (v := 0) hx hb dX7_operationAt_13 (by decide) ?_
    refine lv_goto (tgt := 18) hx hb dX7_operationAt_14 (by decide) ?_
    refine wI_call (va_runV (As := [.int 0]) (rest := []) ⟨hx, hb, hml, hown, hts⟩ (c_X7_goesOn l D cy ad I S H.size 0) (cw_X7_71 hts rfl rfl ⟨Nat.le_of_ble_eq_true rfl, Nat.le_of_ble_eq_true rfl⟩) (preVW (ci := 7) (q0 := 0) hK hP hD rfl rfl) rfl rfl hl.1 rfl (lv_room (Nat.le_of_ble_eq_true rfl)) dX7_operationAt_18 ⟨Nat.le_of_ble_eq_true rfl, Nat.le_of_ble_eq_true rfl⟩) hP hD hS hA [0, 1, 2, 3, 4, 5, 6, 7, 8, 9, 10, 11, 12, 13, 14, 15, 16] rfl [.inr 0, .inr 1, .inr 2, .inr 3, .inr 4, .inr 5, .inr 6, .inr 7, .inr 8, .inr 9, .inr 10, .inr 11, .inr 12, .inr 13, .inr 14, .inr 15, .inr 16] (by decide) (fun u => (wM cy ad (va_up I 0 0) S)) (fun _ => rfl) (fun _ => rfl) (fun r18_2 u18_2 H locs q18_2 hP hD hS hkp => ?_)
    have hP : va_P D clW (wM cy ad (va_up I 0 0) S) H := hP
    have hD : va_D A (wM cy ad (va_up I 0 0) S) := hD
    rw [if_pos rfl] at q18_2
    subst q18_2
    refine lv_if_eq (tgt := 33) hx hb dX7_operationAt_21 (by decide) (fun c => absurd c (by decide)) (fun _ => ?_)
    refine lv_aload_n hx hb dX7_operationAt_24 rfl (lv_at hl 0 rfl) ?_
    refine gf_X7_9 hx hb hts hown hK hP 0 rfl (v := .ref (ad 1)) rfl dX7_operationAt_25 ?_
    refine lv_iload_n hx hb dX7_operationAt_28 rfl (lv_at hl 1 rfl) ?_
    refine ald_Cx (f := (S 1)) hx hb hK hP 1 rfl (by rw [hxj]; exact vp_in_nI (by omega) (by decide)) dX7_operationAt_29 ?_
    refine lv_goto (tgt := 34) hx hb dX7_operationAt_30 (by decide) ?_
    exact wZ_ret ((va_up I 0 0), S) hS hP hx hb hr hlocks dX7_operationAt_34 (by rw [hxj, nI_clamp (by omega)]; exact hch j hj1 (by omega)) (Nat.le_of_ble_eq_true rfl) (Nat.le_of_ble_eq_true rfl) hQ (Or.inl ⟨b7_1, rfl, rfl, rfl⟩)
  · refine lv_if_eq (tgt := 17) hx hb dX7_operationAt_10 (by decide) (fun _ => ?_) (fun c => absurd (by decide) c)
    refine lv_iconst (v := 1) hx hb dX7_operationAt_17 (by decide) ?_
    refine wI_call (va_runV (As := [.int 1]) (rest := []) ⟨hx, hb, hml, hown, hts⟩ (c_X7_goesOn l D cy ad I S H.size 1) (cw_X7_71 hts rfl rfl ⟨Nat.le_of_ble_eq_true rfl, Nat.le_of_ble_eq_true rfl⟩) (preVW (ci := 7) (q0 := 0) hK hP hD rfl rfl) rfl rfl hl.1 rfl (lv_room (Nat.le_of_ble_eq_true rfl)) dX7_operationAt_18 ⟨Nat.le_of_ble_eq_true rfl, Nat.le_of_ble_eq_true rfl⟩) hP hD hS hA [0, 1, 2, 3, 4, 5, 6, 7, 8, 9, 10, 11, 12, 13, 14, 15, 16] rfl [.inr 0, .inr 1, .inr 2, .inr 3, .inr 4, .inr 5, .inr 6, .inr 7, .inr 8, .inr 9, .inr 10, .inr 11, .inr 12, .inr 13, .inr 14, .inr 15, .inr 16] (by decide) (fun u => (wM cy ad (va_up I 0 1) S)) (fun _ => rfl) (fun _ => rfl) (fun r18_3 u18_3 H locs q18_3 hP hD hS hkp => ?_)
    have hP : va_P D clW (wM cy ad (va_up I 0 1) S) H := hP
    have hD : va_D A (wM cy ad (va_up I 0 1) S) := hD
    rw [if_neg (by decide)] at q18_3
    subst q18_3
    refine lv_if_eq (tgt := 33) hx hb dX7_operationAt_21 (by decide) (fun _ => ?_) (fun c => absurd (by decide) c)
    refine lv_iconst (v := 0) hx hb dX7_operationAt_33 (by decide) ?_
    exact wZ_ret ((va_up I 0 1), S) hS hP hx hb hr hlocks dX7_operationAt_34 rfl (Nat.le_of_ble_eq_true rfl) (Nat.le_of_ble_eq_true rfl) hQ (Or.inr ⟨b7_1, rfl, rfl⟩)

set_option maxHeartbeats 4000000 in
set_option maxRecDepth 100000 in
theorem c_X7_entityOfB (l : Launch) (D : va_G) (cy : Nat → ClassId) (ad : Nat → Nat) (I : AI) (S : AS) (sz : Nat) (t : Int32) (n : Nat) (hn : I 2 = nI n) (hn6 : n ≤ 60) : Met l yX7_entityOf (Cond.code yX7_entityOf cX7_entityOf 2 (some .int) :: wsL_law) ({ frames := 1, cells := 0, slots := 0, locals := 22 }) (va_Pc [.ref (ad 0), .int t] (wrB D cy (wM cy ad I S) sz)) (va_Qi (S := AI × AS) (fun r u => (inB t 1 (nI n) = true ∧ r = S 2 t.toNatClampNeg ∧ u.1 = va_up I 0 0 ∧ u.2 = S) ∨ (¬ inB t 1 (nI n) = true ∧ u.1 = va_up I 0 1 ∧ u.2 = S)) (fun u t9 => va_P D clW (wM cy ad u.1 u.2) t9.heap) (va_A (wM cy ad I S) sz)) 0 0 (va_A (wM cy ad I S) sz) := by
  refine enter (cc := cX7_entityOf) (by decide) (Nat.le_of_ble_eq_true rfl) ?_
  intro p e s m below meth c hx hb hr hml hown hts hlocks hin hv Q hQ ls hl
  obtain ⟨hsz, hP, hK, hD0⟩ := hv
  subst hsz
  have hD := hD0.self (sz := s.heap.size)
  generalize hAe : va_A (wM cy ad I S) s.heap.size = A at hD hQ ⊢
  have hA : ∀ q : Nat, s.heap.size ≤ q → A q := fun q h => by rw [← hAe]; exact Or.inr h
  have hS : va_S A s.heap s.heap [] := va_S.rf
  suffices K_ : ∀ (H : Heap) (locs : List Loc), va_P D clW (wM cy ad I S) H → va_S A s.heap H locs → W p l e ({ frames := 1, cells := 0, slots := 0, locals := 22 }) s m ([.ref (ad 0), .int t] : List Value).toArray below meth c H locs 0 0 Q (F0 m 0 ls []) from K_ _ _ hP hS
  clear hP hS
  intro H locs hP hS
  have hown : s.vm.findClass RX7 = some m.cls := hown
  have hl : lv_has ls 2 [(0, .ref (ad 0)), (1, .int t)] := hl
  refine lv_aload_n hx hb dX7_entityOf_0 rfl (lv_at hl 0 rfl) ?_
  refine lv_iload_n hx hb dX7_entityOf_1 rfl (lv_at hl 1 rfl) ?_
  refine lv_iconst (v := 1) hx hb dX7_entityOf_2 (by decide) ?_
  refine lv_aload_n hx hb dX7_entityOf_3 rfl (lv_at hl 0 rfl) ?_
  refine gf_X7_78 hx hb hts hown hK hP 0 rfl (v := .int (I 2)) rfl dX7_entityOf_4 ?_
  refine top_eq hn ?_
  refine rZ_call (P := inB t 1 (nI n) = true) (va_runS (As := [.int t, .int 1, .int (nI n)]) (rest := [.ref (ad 0)]) ⟨hx, hb, hml, hown, hts⟩ (c_X7_in l D cy t 1 (nI n)) (cw_X7_67 hts rfl rfl ⟨Nat.le_of_ble_eq_true rfl, Nat.le_of_ble_eq_true rfl⟩) (preSR hK (hP.sub [] rfl)) rfl rfl hl.1 rfl (lv_room (Nat.le_of_ble_eq_true rfl)) dX7_entityOf_7 ⟨Nat.le_of_ble_eq_true rfl, Nat.le_of_ble_eq_true rfl⟩) (fun b7_1 => ?_) (fun b7_1 => ?_)
  · obtain ⟨j, hj1, hj, hxj⟩ := in_1b (by omega) b7_1
    refine lv_if_eq (tgt := 17) hx hb dX7_entityOf_10 (by decide) (fun c => absurd c (by decide)) (fun _ => ?_)
    refine lv_iconst (v := 0) hx hb dX7_entityOf_13 (by decide) ?_
    refine lv_goto (tgt := 18) hx hb dX7_entityOf_14 (by decide) ?_
    refine wI_call (va_runV (As := [.int 0]) (rest := []) ⟨hx, hb, hml, hown, hts⟩ (c_X7_goesOn l D cy ad I S H.size 0) (cw_X7_71 hts rfl rfl ⟨Nat.le_of_ble_eq_true rfl, Nat.le_of_ble_eq_true rfl⟩) (preVW (ci := 7) (q0 := 0) hK hP hD rfl rfl) rfl rfl hl.1 rfl (lv_room (Nat.le_of_ble_eq_true rfl)) dX7_entityOf_18 ⟨Nat.le_of_ble_eq_true rfl, Nat.le_of_ble_eq_true rfl⟩) hP hD hS hA [0, 1, 2, 3, 4, 5, 6, 7, 8, 9, 10, 11, 12, 13, 14, 15, 16] rfl [.inr 0, .inr 1, .inr 2, .inr 3, .inr 4, .inr 5, .inr 6, .inr 7, .inr 8, .inr 9, .inr 10, .inr 11, .inr 12, .inr 13, .inr 14, .inr 15, .inr 16] (by decide) (fun u => (wM cy ad (va_up I 0 0) S)) (fun _ => rfl) (fun _ => rfl) (fun r18_2 u18_2 H locs q18_2 hP hD hS hkp => ?_)
    have hP : va_P D clW (wM cy ad (va_up I 0 0) S) H := hP
    have hD : va_D A (wM cy ad (va_up I 0 0) S) := hD
    rw [if_pos rfl] at q18_2
    subst q18_2
    refine lv_if_eq (tgt := 33) hx hb dX7_entityOf_21 (by decide) (fun c => absurd c (by decide)) (fun _ => ?_)
    refine lv_aload_n hx hb dX7_entityOf_24 rfl (lv_at hl 0 rfl) ?_
    refine gf_X7_13 hx hb hts hown hK hP 0 rfl (v := .ref (ad 2)) rfl dX7_entityOf_25 ?_
    refine lv_iload_n hx hb dX7_entityOf_28 rfl (lv_at hl 1 rfl) ?_
    refine ald_Ix (f := (S 2)) hx hb hK hP 2 rfl (by rw [hxj]; exact vp_in_nI (by omega) (by decide)) dX7_entityOf_29 ?_
    refine lv_goto (tgt := 34) hx hb dX7_entityOf_30 (by decide) ?_
    exact wI_ret ((va_up I 0 0), S) hS hP hx hb hr hlocks dX7_entityOf_34 (Nat.le_of_ble_eq_true rfl) (Nat.le_of_ble_eq_true rfl) hQ (Or.inl ⟨b7_1, rfl, rfl, rfl⟩)
  · refine lv_if_eq (tgt := 17) hx hb dX7_entityOf_10 (by decide) (fun _ => ?_) (fun c => absurd (by decide) c)
    refine lv_iconst (v := 1) hx hb dX7_entityOf_17 (by decide) ?_
    refine wI_call (va_runV (As := [.int 1]) (rest := []) ⟨hx, hb, hml, hown, hts⟩ (c_X7_goesOn l D cy ad I S H.size 1) (cw_X7_71 hts rfl rfl ⟨Nat.le_of_ble_eq_true rfl, Nat.le_of_ble_eq_true rfl⟩) (preVW (ci := 7) (q0 := 0) hK hP hD rfl rfl) rfl rfl hl.1 rfl (lv_room (Nat.le_of_ble_eq_true rfl)) dX7_entityOf_18 ⟨Nat.le_of_ble_eq_true rfl, Nat.le_of_ble_eq_true rfl⟩) hP hD hS hA [0, 1, 2, 3, 4, 5, 6, 7, 8, 9, 10, 11, 12, 13, 14, 15, 16] rfl [.inr 0, .inr 1, .inr 2, .inr 3, .inr 4, .inr 5, .inr 6, .inr 7, .inr 8, .inr 9, .inr 10, .inr 11, .inr 12, .inr 13, .inr 14, .inr 15, .inr 16] (by decide) (fun u => (wM cy ad (va_up I 0 1) S)) (fun _ => rfl) (fun _ => rfl) (fun r18_3 u18_3 H locs q18_3 hP hD hS hkp => ?_)
    have hP : va_P D clW (wM cy ad (va_up I 0 1) S) H := hP
    have hD : va_D A (wM cy ad (va_up I 0 1) S) := hD
    rw [if_neg (by decide)] at q18_3
    subst q18_3
    refine lv_if_eq (tgt := 33) hx hb dX7_entityOf_21 (by decide) (fun _ => ?_) (fun c => absurd (by decide) c)
    refine lv_iconst (v := 0) hx hb dX7_entityOf_33 (by decide) ?_
    exact wI_ret ((va_up I 0 1), S) hS hP hx hb hr hlocks dX7_entityOf_34 (Nat.le_of_ble_eq_true rfl) (Nat.le_of_ble_eq_true rfl) hQ (Or.inr ⟨b7_1, rfl, rfl⟩)
