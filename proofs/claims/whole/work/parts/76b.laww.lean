/-! the law: its wrappers, 2 -/
set_option maxHeartbeats 4000000 in
set_option maxRecDepth 100000 in
theorem c_L_factFrom (l : Launch) (hl0 : l.stackTraces = false) (D : va_G) (cy : Nat → ClassId) (ad : Nat → Nat) (I : AI) (S : AS) (sz : Nat) (x : Int32) (k : Nat) (n : Nat) (h : Nat) (fr : Nat → Nat) (to : Nat → Nat) (ofr : Nat → Nat) (oto : Nat → Nat) (hc : CIv I S k n h fr to ofr oto) (ao : Nat) (aq : Nat) (fo : Nat → Int64) (fd : Nat → UInt64) : Met l yL_factFrom (Cond.codeWith yL_factFrom cL_factFrom 4 (some .int) [(0, 9, 12, 27)] :: wsL_law) ({ frames := 8, cells := 1, slots := 6, locals := 132 }) (va_Pc [.ref (ad 0), .int x, .ref ao] (lwB D cy (wC cy ad I S ++ oLD cy ao aq fo fd) sz)) (va_Qi (S := AI × AS × (Nat → Int64)) (fun r u => ∃ val : Int32, ((r = 0 ∧ keptP S k (I 3) x ∧ val = S 10 x.toNatClampNeg) ∨ (r = 1 ∧ ¬ keptP S k (I 3) x)) ∧ scr I S u.1 u.2.1 ∧ (r = 0 → u.2.2 0 = val.toInt64)) (fun u t9 => va_P D clW (wC cy ad u.1 u.2.1 ++ oLD cy ao aq u.2.2 fd) t9.heap) (va_A (wC cy ad I S ++ oLD cy ao aq fo fd) sz)) 1 6 (va_A (wC cy ad I S ++ oLD cy ao aq fo fd) sz) := by
  refine enterH (cc := cL_factFrom) (by decide) (Nat.le_of_ble_eq_true rfl) ?_
  intro p e s m below meth c hx hb hr hml hown hts hlocks hT hv Q hQ ls hl
  obtain ⟨hC, hsz, hP, hK, hD0, hE, hZ⟩ := hv
  subst hsz
  have hD := hD0.self (sz := s.heap.size)
  generalize hAe : va_A (wC cy ad I S ++ oLD cy ao aq fo fd) s.heap.size = A at hD hQ hZ ⊢
  have hA : ∀ q : Nat, s.heap.size ≤ q → A q := fun q h => by rw [← hAe]; exact Or.inr h
  have hS : va_S A s.heap s.heap [] := va_S.rf
  suffices K_ : ∀ (H : Heap) (locs : List Loc), va_P D clW (wC cy ad I S ++ oLD cy ao aq fo fd) H → va_S A s.heap H locs → W p l e ({ frames := 8, cells := 1, slots := 6, locals := 132 }) s m ([.ref (ad 0), .int x, .ref ao] : List Value).toArray below meth c H locs 0 0 Q (F0 m 0 ls []) from K_ _ _ hP hS
  clear hP hS
  intro H locs hP hS
  have hown : s.vm.findClass RL = some m.cls := hown
  have hl : lv_has ls 4 [(0, .ref (ad 0)), (1, .int x), (2, .ref ao)] := hl
  refine lv_aload_n hx hb dL_factFrom_0 rfl (lv_at hl 2 rfl) ?_
  refine lv_iconst (v := 0) hx hb dL_factFrom_1 (by decide) ?_
  refine lv_aload_n hx hb dL_factFrom_2 rfl (lv_at hl 0 rfl) ?_
  refine lv_iload_n hx hb dL_factFrom_3 rfl (lv_at hl 1 rfl) ?_
  refine xrI_call (vx_runV (As := [.int x]) (rest := [.int 0, .ref ao]) ⟨hx, hb, hml, hown, hts⟩ (c_X6_factFrom l hl0 D cy ad I S x k n h fr to ofr oto hc) (cw_L_43 hts rfl rfl ⟨Nat.le_of_ble_eq_true rfl, Nat.le_of_ble_eq_true rfl⟩) (preVRX (ci := 6) (q0 := 0) hK hE (hZ.now hS).no (blkY (X := []) hP) rfl rfl) rfl rfl hl.1 rfl (lv_room (Nat.le_of_ble_eq_true rfl)) dL_factFrom_4 ⟨Nat.le_of_ble_eq_true rfl, Nat.le_of_ble_eq_true rfl⟩) (fun E ce q9 H1 hpx hz hk9 hce hcv hcl => ?_) (fun r hr_ => ?_)
  · have hP := keptP_all hP hk9
    have hS := keptS_all hS hz hk9
    obtain ⟨hE9, hpx⟩ := hpx
    subst hE9
    refine ct_call (E := eNSE) hown hE [] [] hT ps0 (by decide) (by decide) (hts _ wm_261) (List.mem_of_getElem? (i := 3) rfl) hce hcv hcl ?_
    refine lv_astore_n (lv' := [(3, .ref q9), (0, .ref (ad 0)), (1, .int x), (2, .ref ao)]) hx hb dL_factFrom_12 rfl hl (by decide) rfl (fun ls hl => ?_)
    refine lv_iconst (v := 1) hx hb dL_factFrom_13 (by decide) ?_
    exact wI_ret (I, S, fo) hS hP hx hb hr hlocks dL_factFrom_14 (Nat.le_of_ble_eq_true rfl) (Nat.le_of_ble_eq_true rfl) hQ ⟨0, (Or.inr ⟨rfl, hpx⟩), (scr_0 I S), fun h0 => absurd h0 (by decide)⟩
  · refine lv_i2l (v := r.toInt64) hx hb dL_factFrom_7 rfl ?_
    refine va_last hx hb hK hP hD hS 29 3 rfl rfl (i := 0) (x := r.toInt64) vp_in01 dL_factFrom_8 (fun H locs hP hD hS => ?_)
    have hP : va_P D clW (wC cy ad I S ++ oLD cy ao aq (vp_updL fo 0 r.toInt64) fd) H := hP
    refine lv_goto (tgt := 15) hx hb dL_factFrom_9 (by decide) ?_
    refine lv_iconst (v := 0) hx hb dL_factFrom_15 (by decide) ?_
    exact wI_ret (I, S, (vp_updL fo 0 r.toInt64)) hS hP hx hb hr hlocks dL_factFrom_16 (Nat.le_of_ble_eq_true rfl) (Nat.le_of_ble_eq_true rfl) hQ ⟨r, Or.inl ⟨rfl, hr_⟩, (scr_0 I S), fun _ => rfl⟩

set_option maxHeartbeats 4000000 in
set_option maxRecDepth 100000 in
theorem c_L_factTo (l : Launch) (hl0 : l.stackTraces = false) (D : va_G) (cy : Nat → ClassId) (ad : Nat → Nat) (I : AI) (S : AS) (sz : Nat) (x : Int32) (k : Nat) (n : Nat) (h : Nat) (fr : Nat → Nat) (to : Nat → Nat) (ofr : Nat → Nat) (oto : Nat → Nat) (hc : CIv I S k n h fr to ofr oto) (ao : Nat) (aq : Nat) (fo : Nat → Int64) (fd : Nat → UInt64) : Met l yL_factTo (Cond.codeWith yL_factTo cL_factTo 4 (some .int) [(0, 9, 12, 27)] :: wsL_law) ({ frames := 8, cells := 1, slots := 6, locals := 132 }) (va_Pc [.ref (ad 0), .int x, .ref ao] (lwB D cy (wC cy ad I S ++ oLD cy ao aq fo fd) sz)) (va_Qi (S := AI × AS × (Nat → Int64)) (fun r u => ∃ val : Int32, ((r = 0 ∧ keptP S k (I 3) x ∧ val = S 11 x.toNatClampNeg) ∨ (r = 1 ∧ ¬ keptP S k (I 3) x)) ∧ scr I S u.1 u.2.1 ∧ (r = 0 → u.2.2 0 = val.toInt64)) (fun u t9 => va_P D clW (wC cy ad u.1 u.2.1 ++ oLD cy ao aq u.2.2 fd) t9.heap) (va_A (wC cy ad I S ++ oLD cy ao aq fo fd) sz)) 1 6 (va_A (wC cy ad I S ++ oLD cy ao aq fo fd) sz) := by
  refine enterH (cc := cL_factTo) (by decide) (Nat.le_of_ble_eq_true rfl) ?_
  intro p e s m below meth c hx hb hr hml hown hts hlocks hT hv Q hQ ls hl
  obtain ⟨hC, hsz, hP, hK, hD0, hE, hZ⟩ := hv
  subst hsz
  have hD := hD0.self (sz := s.heap.size)
  generalize hAe : va_A (wC cy ad I S ++ oLD cy ao aq fo fd) s.heap.size = A at hD hQ hZ ⊢
  have hA : ∀ q : Nat, s.heap.size ≤ q → A q := fun q h => by rw [← hAe]; exact Or.inr h
  have hS : va_S A s.heap s.heap [] := va_S.rf
  suffices K_ : ∀ (H : Heap) (locs : List Loc), va_P D clW (wC cy ad I S ++ oLD cy ao aq fo fd) H → va_S A s.heap H locs → W p l e ({ frames := 8, cells := 1, slots := 6, locals := 132 }) s m ([.ref (ad 0), .int x, .ref ao] : List Value).toArray below meth c H locs 0 0 Q (F0 m 0 ls []) from K_ _ _ hP hS
  clear hP hS
  intro H locs hP hS
  have hown : s.vm.findClass RL = some m.cls := hown
  have hl : lv_has ls 4 [(0, .ref (ad 0)), (1, .int x), (2, .ref ao)] := hl
  refine lv_aload_n hx hb dL_factTo_0 rfl (lv_at hl 2 rfl) ?_
  refine lv_iconst (v := 0) hx hb dL_factTo_1 (by decide) ?_
  refine lv_aload_n hx hb dL_factTo_2 rfl (lv_at hl 0 rfl) ?_
  refine lv_iload_n hx hb dL_factTo_3 rfl (lv_at hl 1 rfl) ?_
  refine xrI_call (vx_runV (As := [.int x]) (rest := [.int 0, .ref ao]) ⟨hx, hb, hml, hown, hts⟩ (c_X6_factTo l hl0 D cy ad I S x k n h fr to ofr oto hc) (cw_L_46 hts rfl rfl ⟨Nat.le_of_ble_eq_true rfl, Nat.le_of_ble_eq_true rfl⟩) (preVRX (ci := 6) (q0 := 0) hK hE (hZ.now hS).no (blkY (X := []) hP) rfl rfl) rfl rfl hl.1 rfl (lv_room (Nat.le_of_ble_eq_true rfl)) dL_factTo_4 ⟨Nat.le_of_ble_eq_true rfl, Nat.le_of_ble_eq_true rfl⟩) (fun E ce q9 H1 hpx hz hk9 hce hcv hcl => ?_) (fun r hr_ => ?_)
  · have hP := keptP_all hP hk9
    have hS := keptS_all hS hz hk9
    obtain ⟨hE9, hpx⟩ := hpx
    subst hE9
    refine ct_call (E := eNSE) hown hE [] [] hT ps0 (by decide) (by decide) (hts _ wm_261) (List.mem_of_getElem? (i := 3) rfl) hce hcv hcl ?_
    refine lv_astore_n (lv' := [(3, .ref q9), (0, .ref (ad 0)), (1, .int x), (2, .ref ao)]) hx hb dL_factTo_12 rfl hl (by decide) rfl (fun ls hl => ?_)
    refine lv_iconst (v := 1) hx hb dL_factTo_13 (by decide) ?_
    exact wI_ret (I, S, fo) hS hP hx hb hr hlocks dL_factTo_14 (Nat.le_of_ble_eq_true rfl) (Nat.le_of_ble_eq_true rfl) hQ ⟨0, (Or.inr ⟨rfl, hpx⟩), (scr_0 I S), fun h0 => absurd h0 (by decide)⟩
  · refine lv_i2l (v := r.toInt64) hx hb dL_factTo_7 rfl ?_
    refine va_last hx hb hK hP hD hS 29 3 rfl rfl (i := 0) (x := r.toInt64) vp_in01 dL_factTo_8 (fun H locs hP hD hS => ?_)
    have hP : va_P D clW (wC cy ad I S ++ oLD cy ao aq (vp_updL fo 0 r.toInt64) fd) H := hP
    refine lv_goto (tgt := 15) hx hb dL_factTo_9 (by decide) ?_
    refine lv_iconst (v := 0) hx hb dL_factTo_15 (by decide) ?_
    exact wI_ret (I, S, (vp_updL fo 0 r.toInt64)) hS hP hx hb hr hlocks dL_factTo_16 (Nat.le_of_ble_eq_true rfl) (Nat.le_of_ble_eq_true rfl) hQ ⟨r, Or.inl ⟨rfl, hr_⟩, (scr_0 I S), fun _ => rfl⟩

set_option maxHeartbeats 4000000 in
set_option maxRecDepth 100000 in
theorem c_L_openedAt (l : Launch) (hl0 : l.stackTraces = false) (D : va_G) (cy : Nat → ClassId) (ad : Nat → Nat) (I : AI) (S : AS) (sz : Nat) (x : Int32) (k : Nat) (n : Nat) (h : Nat) (fr : Nat → Nat) (to : Nat → Nat) (ofr : Nat → Nat) (oto : Nat → Nat) (hc : CIv I S k n h fr to ofr oto) (ao : Nat) (aq : Nat) (fo : Nat → Int64) (fd : Nat → UInt64) : Met l yL_openedAt (Cond.codeWith yL_openedAt cL_openedAt 4 (some .int) [(0, 9, 12, 27)] :: wsL_law) ({ frames := 8, cells := 1, slots := 6, locals := 132 }) (va_Pc [.ref (ad 0), .int x, .ref ao] (lwB D cy (wC cy ad I S ++ oLD cy ao aq fo fd) sz)) (va_Qi (S := AI × AS × (Nat → Int64)) (fun r u => ∃ val : Int32, ((r = 0 ∧ keptP S k (I 3) x ∧ val = S 12 x.toNatClampNeg) ∨ (r = 1 ∧ ¬ keptP S k (I 3) x)) ∧ scr I S u.1 u.2.1 ∧ (r = 0 → u.2.2 0 = val.toInt64)) (fun u t9 => va_P D clW (wC cy ad u.1 u.2.1 ++ oLD cy ao aq u.2.2 fd) t9.heap) (va_A (wC cy ad I S ++ oLD cy ao aq fo fd) sz)) 1 6 (va_A (wC cy ad I S ++ oLD cy ao aq fo fd) sz) := by
  refine enterH (cc := cL_openedAt) (by decide) (Nat.le_of_ble_eq_true rfl) ?_
  intro p e s m below meth c hx hb hr hml hown hts hlocks hT hv Q hQ ls hl
  obtain ⟨hC, hsz, hP, hK, hD0, hE, hZ⟩ := hv
  subst hsz
  have hD := hD0.self (sz := s.heap.size)
  generalize hAe : va_A (wC cy ad I S ++ oLD cy ao aq fo fd) s.heap.size = A at hD hQ hZ ⊢
  have hA : ∀ q : Nat, s.heap.size ≤ q → A q := fun q h => by rw [← hAe]; exact Or.inr h
  have hS : va_S A s.heap s.heap [] := va_S.rf
  suffices K_ : ∀ (H : Heap) (locs : List Loc), va_P D clW (wC cy ad I S ++ oLD cy ao aq fo fd) H → va_S A s.heap H locs → W p l e ({ frames := 8, cells := 1, slots := 6, locals := 132 }) s m ([.ref (ad 0), .int x, .ref ao] : List Value).toArray below meth c H locs 0 0 Q (F0 m 0 ls []) from K_ _ _ hP hS
  clear hP hS
  intro H locs hP hS
  have hown : s.vm.findClass RL = some m.cls := hown
  have hl : lv_has ls 4 [(0, .ref (ad 0)), (1, .int x), (2, .ref ao)] := hl
  refine lv_aload_n hx hb dL_openedAt_0 rfl (lv_at hl 2 rfl) ?_
  refine lv_iconst (v := 0) hx hb dL_openedAt_1 (by decide) ?_
  refine lv_aload_n hx hb dL_openedAt_2 rfl (lv_at hl 0 rfl) ?_
  refine lv_iload_n hx hb dL_openedAt_3 rfl (lv_at hl 1 rfl) ?_
  refine xrI_call (vx_runV (As := [.int x]) (rest := [.int 0, .ref ao]) ⟨hx, hb, hml, hown, hts⟩ (c_X6_openedAt l hl0 D cy ad I S x k n h fr to ofr oto hc) (cw_L_49 hts rfl rfl ⟨Nat.le_of_ble_eq_true rfl, Nat.le_of_ble_eq_true rfl⟩) (preVRX (ci := 6) (q0 := 0) hK hE (hZ.now hS).no (blkY (X := []) hP) rfl rfl) rfl rfl hl.1 rfl (lv_room (Nat.le_of_ble_eq_true rfl)) dL_openedAt_4 ⟨Nat.le_of_ble_eq_true rfl, Nat.le_of_ble_eq_true rfl⟩) (fun E ce q9 H1 hpx hz hk9 hce hcv hcl => ?_) (fun r hr_ => ?_)
  · have hP := keptP_all hP hk9
    have hS := keptS_all hS hz hk9
    obtain ⟨hE9, hpx⟩ := hpx
    subst hE9
    refine ct_call (E := eNSE) hown hE [] [] hT ps0 (by decide) (by decide) (hts _ wm_261) (List.mem_of_getElem? (i := 3) rfl) hce hcv hcl ?_
    refine lv_astore_n (lv' := [(3, .ref q9), (0, .ref (ad 0)), (1, .int x), (2, .ref ao)]) hx hb dL_openedAt_12 rfl hl (by decide) rfl (fun ls hl => ?_)
    refine lv_iconst (v := 1) hx hb dL_openedAt_13 (by decide) ?_
    exact wI_ret (I, S, fo) hS hP hx hb hr hlocks dL_openedAt_14 (Nat.le_of_ble_eq_true rfl) (Nat.le_of_ble_eq_true rfl) hQ ⟨0, (Or.inr ⟨rfl, hpx⟩), (scr_0 I S), fun h0 => absurd h0 (by decide)⟩
  · refine lv_i2l (v := r.toInt64) hx hb dL_openedAt_7 rfl ?_
    refine va_last hx hb hK hP hD hS 29 3 rfl rfl (i := 0) (x := r.toInt64) vp_in01 dL_openedAt_8 (fun H locs hP hD hS => ?_)
    have hP : va_P D clW (wC cy ad I S ++ oLD cy ao aq (vp_updL fo 0 r.toInt64) fd) H := hP
    refine lv_goto (tgt := 15) hx hb dL_openedAt_9 (by decide) ?_
    refine lv_iconst (v := 0) hx hb dL_openedAt_15 (by decide) ?_
    exact wI_ret (I, S, (vp_updL fo 0 r.toInt64)) hS hP hx hb hr hlocks dL_openedAt_16 (Nat.le_of_ble_eq_true rfl) (Nat.le_of_ble_eq_true rfl) hQ ⟨r, Or.inl ⟨rfl, hr_⟩, (scr_0 I S), fun _ => rfl⟩

set_option maxHeartbeats 4000000 in
set_option maxRecDepth 100000 in
theorem c_L_closedAt (l : Launch) (hl0 : l.stackTraces = false) (D : va_G) (cy : Nat → ClassId) (ad : Nat → Nat) (I : AI) (S : AS) (sz : Nat) (x : Int32) (k : Nat) (n : Nat) (h : Nat) (fr : Nat → Nat) (to : Nat → Nat) (ofr : Nat → Nat) (oto : Nat → Nat) (hc : CIv I S k n h fr to ofr oto) (ao : Nat) (aq : Nat) (fo : Nat → Int64) (fd : Nat → UInt64) : Met l yL_closedAt (Cond.codeWith yL_closedAt cL_closedAt 4 (some .int) [(0, 9, 12, 27)] :: wsL_law) ({ frames := 8, cells := 1, slots := 6, locals := 132 }) (va_Pc [.ref (ad 0), .int x, .ref ao] (lwB D cy (wC cy ad I S ++ oLD cy ao aq fo fd) sz)) (va_Qi (S := AI × AS × (Nat → Int64)) (fun r u => ∃ val : Int32, ((r = 0 ∧ keptP S k (I 3) x ∧ val = S 13 x.toNatClampNeg) ∨ (r = 1 ∧ ¬ keptP S k (I 3) x)) ∧ scr I S u.1 u.2.1 ∧ (r = 0 → u.2.2 0 = val.toInt64)) (fun u t9 => va_P D clW (wC cy ad u.1 u.2.1 ++ oLD cy ao aq u.2.2 fd) t9.heap) (va_A (wC cy ad I S ++ oLD cy ao aq fo fd) sz)) 1 6 (va_A (wC cy ad I S ++ oLD cy ao aq fo fd) sz) := by
  refine enterH (cc := cL_closedAt) (by decide) (Nat.le_of_ble_eq_true rfl) ?_
  intro p e s m below meth c hx hb hr hml hown hts hlocks hT hv Q hQ ls hl
  obtain ⟨hC, hsz, hP, hK, hD0, hE, hZ⟩ := hv
  subst hsz
  have hD := hD0.self (sz := s.heap.size)
  generalize hAe : va_A (wC cy ad I S ++ oLD cy ao aq fo fd) s.heap.size = A at hD hQ hZ ⊢
  have hA : ∀ q : Nat, s.heap.size ≤ q → A q := fun q h => by rw [← hAe]; exact Or.inr h
  have hS : va_S A s.heap s.heap [] := va_S.rf
  suffices K_ : ∀ (H : Heap) (locs : List Loc), va_P D clW (wC cy ad I S ++ oLD cy ao aq fo fd) H → va_S A s.heap H locs → W p l e ({ frames := 8, cells := 1, slots := 6, locals := 132 }) s m ([.ref (ad 0), .int x, .ref ao] : List Value).toArray below meth c H locs 0 0 Q (F0 m 0 ls []) from K_ _ _ hP hS
  clear hP hS
  intro H locs hP hS
  have hown : s.vm.findClass RL = some m.cls := hown
  have hl : lv_has ls 4 [(0, .ref (ad 0)), (1, .int x), (2, .ref ao)] := hl
  refine lv_aload_n hx hb dL_closedAt_0 rfl (lv_at hl 2 rfl) ?_
  refine lv_iconst (v := 0) hx hb dL_closedAt_1 (by decide) ?_
  refine lv_aload_n hx hb dL_closedAt_2 rfl (lv_at hl 0 rfl) ?_
  refine lv_iload_n hx hb dL_closedAt_3 rfl (lv_at hl 1 rfl) ?_
  refine xrI_call (vx_runV (As := [.int x]) (rest := [.int 0, .ref ao]) ⟨hx, hb, hml, hown, hts⟩ (c_X6_closedAt l hl0 D cy ad I S x k n h fr to ofr oto hc) (cw_L_52 hts rfl rfl ⟨Nat.le_of_ble_eq_true rfl, Nat.le_of_ble_eq_true rfl⟩) (preVRX (ci := 6) (q0 := 0) hK hE (hZ.now hS).no (blkY (X := []) hP) rfl rfl) rfl rfl hl.1 rfl (lv_room (Nat.le_of_ble_eq_true rfl)) dL_closedAt_4 ⟨Nat.le_of_ble_eq_true rfl, Nat.le_of_ble_eq_true rfl⟩) (fun E ce q9 H1 hpx hz hk9 hce hcv hcl => ?_) (fun r hr_ => ?_)
  · have hP := keptP_all hP hk9
    have hS := keptS_all hS hz hk9
    obtain ⟨hE9, hpx⟩ := hpx
    subst hE9
    refine ct_call (E := eNSE) hown hE [] [] hT ps0 (by decide) (by decide) (hts _ wm_261) (List.mem_of_getElem? (i := 3) rfl) hce hcv hcl ?_
    refine lv_astore_n (lv' := [(3, .ref q9), (0, .ref (ad 0)), (1, .int x), (2, .ref ao)]) hx hb dL_closedAt_12 rfl hl (by decide) rfl (fun ls hl => ?_)
    refine lv_iconst (v := 1) hx hb dL_closedAt_13 (by decide) ?_
    exact wI_ret (I, S, fo) hS hP hx hb hr hlocks dL_closedAt_14 (Nat.le_of_ble_eq_true rfl) (Nat.le_of_ble_eq_true rfl) hQ ⟨0, (Or.inr ⟨rfl, hpx⟩), (scr_0 I S), fun h0 => absurd h0 (by decide)⟩
  · refine lv_i2l (v := r.toInt64) hx hb dL_closedAt_7 rfl ?_
    refine va_last hx hb hK hP hD hS 29 3 rfl rfl (i := 0) (x := r.toInt64) vp_in01 dL_closedAt_8 (fun H locs hP hD hS => ?_)
    have hP : va_P D clW (wC cy ad I S ++ oLD cy ao aq (vp_updL fo 0 r.toInt64) fd) H := hP
    refine lv_goto (tgt := 15) hx hb dL_closedAt_9 (by decide) ?_
    refine lv_iconst (v := 0) hx hb dL_closedAt_15 (by decide) ?_
    exact wI_ret (I, S, (vp_updL fo 0 r.toInt64)) hS hP hx hb hr hlocks dL_closedAt_16 (Nat.le_of_ble_eq_true rfl) (Nat.le_of_ble_eq_true rfl) hQ ⟨r, Or.inl ⟨rfl, hr_⟩, (scr_0 I S), fun _ => rfl⟩

set_option maxHeartbeats 4000000 in
set_option maxRecDepth 100000 in
theorem c_L_purge (l : Launch) (hl0 : l.stackTraces = false) (D : va_G) (cy : Nat → ClassId) (ad : Nat → Nat) (I : AI) (S : AS) (sz : Nat) (t : Int32) (k : Nat) (n : Nat) (h : Nat) (fr : Nat → Nat) (to : Nat → Nat) (ofr : Nat → Nat) (oto : Nat → Nat) (hc : CIv I S k n h fr to ofr oto) (ao : Nat) (aq : Nat) (fo : Nat → Int64) (fd : Nat → UInt64) : Met l yL_purge (Cond.codeWith yL_purge cL_purge 4 (some .int) [(0, 9, 12, 21)] :: wsL_law) ({ frames := 7, cells := 1, slots := 6, locals := 111 }) (va_Pc [.ref (ad 0), .int t, .ref ao] (lwB D cy (wC cy ad I S ++ oLD cy ao aq fo fd) sz)) (va_Qi (S := AI × AS × (Nat → Int64)) (fun r u => ∃ val : Int32, ((r = 0 ∧ (val = ckN S k (I 3) k - ckN S k t k ∧ kpP (I 3) t ∧ t ≤ I 1) ∧ u.1 = va_up I 3 t ∧ u.2.1 = S) ∨ (r = 1 ∧ ¬ (kpP (I 3) t ∧ t ≤ I 1) ∧ scr I S u.1 u.2.1)) ∧ (r = 0 → u.2.2 0 = val.toInt64)) (fun u t9 => va_P D clW (wC cy ad u.1 u.2.1 ++ oLD cy ao aq u.2.2 fd) t9.heap) (va_A (wC cy ad I S ++ oLD cy ao aq fo fd) sz)) 1 6 (va_A (wC cy ad I S ++ oLD cy ao aq fo fd) sz) := by
  refine enterH (cc := cL_purge) (by decide) (Nat.le_of_ble_eq_true rfl) ?_
  intro p e s m below meth c hx hb hr hml hown hts hlocks hT hv Q hQ ls hl
  obtain ⟨hC, hsz, hP, hK, hD0, hE, hZ⟩ := hv
  subst hsz
  have hD := hD0.self (sz := s.heap.size)
  generalize hAe : va_A (wC cy ad I S ++ oLD cy ao aq fo fd) s.heap.size = A at hD hQ hZ ⊢
  have hA : ∀ q : Nat, s.heap.size ≤ q → A q := fun q h => by rw [← hAe]; exact Or.inr h
  have hS : va_S A s.heap s.heap [] := va_S.rf
  suffices K_ : ∀ (H : Heap) (locs : List Loc), va_P D clW (wC cy ad I S ++ oLD cy ao aq fo fd) H → va_S A s.heap H locs → W p l e ({ frames := 7, cells := 1, slots := 6, locals := 111 }) s m ([.ref (ad 0), .int t, .ref ao] : List Value).toArray below meth c H locs 0 0 Q (F0 m 0 ls []) from K_ _ _ hP hS
  clear hP hS
  intro H locs hP hS
  have hown : s.vm.findClass RL = some m.cls := hown
  have hl : lv_has ls 4 [(0, .ref (ad 0)), (1, .int t), (2, .ref ao)] := hl
  refine lv_aload_n hx hb dL_purge_0 rfl (lv_at hl 2 rfl) ?_
  refine lv_iconst (v := 0) hx hb dL_purge_1 (by decide) ?_
  refine lv_aload_n hx hb dL_purge_2 rfl (lv_at hl 0 rfl) ?_
  refine lv_iload_n hx hb dL_purge_3 rfl (lv_at hl 1 rfl) ?_
  refine xcI_call (vx_runV (As := [.int t]) (rest := [.int 0, .ref ao]) ⟨hx, hb, hml, hown, hts⟩ (c_X6_purge l hl0 D cy ad I S H.size t k n h fr to ofr oto hc) (cw_L_55 hts rfl rfl ⟨Nat.le_of_ble_eq_true rfl, Nat.le_of_ble_eq_true rfl⟩) (preVWX (ci := 6) (q0 := 0) hK hE (hZ.now hS) (blkF (X := []) hD hS hA) (blkY (X := []) hP) (blkYD (X := []) hD) rfl rfl) rfl rfl hl.1 rfl (lv_room (Nat.le_of_ble_eq_true rfl)) dL_purge_4 ⟨Nat.le_of_ble_eq_true rfl, Nat.le_of_ble_eq_true rfl⟩) (Z := oLD cy ao aq fo fd) hP hD hS hA (fun _ => rfl) (fun _ => rfl) (fun E ce q9 ux H locs hpx hP hD hS hce hcv hcl => ?_) (fun r un H locs hr_ hP hD hS => ?_)
  · obtain ⟨I2, S2⟩ := ux
    obtain ⟨hpx, hs⟩ := hpx
    have hP : va_P D clW (wC cy ad I2 S2 ++ oLD cy ao aq fo fd) H := hP
    obtain ⟨hE9, hpx⟩ := hpx
    subst hE9
    refine ct_call (E := eIAE) hown hE [] [] hT ps0 (by decide) (by decide) (hts _ wm_143) (List.mem_of_getElem? (i := 2) rfl) hce hcv hcl ?_
    refine lv_astore_n (lv' := [(3, .ref q9), (0, .ref (ad 0)), (1, .int t), (2, .ref ao)]) hx hb dL_purge_12 rfl hl (by decide) rfl (fun ls hl => ?_)
    refine lv_iconst (v := 1) hx hb dL_purge_13 (by decide) ?_
    exact wI_ret (I2, S2, fo) hS hP hx hb hr hlocks dL_purge_14 (Nat.le_of_ble_eq_true rfl) (Nat.le_of_ble_eq_true rfl) hQ ⟨0, (Or.inr ⟨rfl, hpx, hs⟩), fun h0 => absurd h0 (by decide)⟩
  · obtain ⟨h0, h1, h2⟩ := hr_
    have hP : va_P D clW (wC cy ad (va_up I 3 t) S ++ oLD cy ao aq fo fd) H := hP
    have hD : va_D A (wC cy ad (va_up I 3 t) S ++ oLD cy ao aq fo fd) := hD
    refine lv_i2l (v := r.toInt64) hx hb dL_purge_7 rfl ?_
    refine va_last hx hb hK hP hD hS 29 3 rfl rfl (i := 0) (x := r.toInt64) vp_in01 dL_purge_8 (fun H locs hP hD hS => ?_)
    have hP : va_P D clW (wC cy ad (va_up I 3 t) S ++ oLD cy ao aq (vp_updL fo 0 r.toInt64) fd) H := hP
    refine lv_goto (tgt := 15) hx hb dL_purge_9 (by decide) ?_
    refine lv_iconst (v := 0) hx hb dL_purge_15 (by decide) ?_
    exact wI_ret ((va_up I 3 t), S, (vp_updL fo 0 r.toInt64)) hS hP hx hb hr hlocks dL_purge_16 (Nat.le_of_ble_eq_true rfl) (Nat.le_of_ble_eq_true rfl) hQ ⟨r, Or.inl ⟨rfl, ⟨h0, h1, h2⟩, rfl, rfl⟩, fun _ => rfl⟩

set_option maxHeartbeats 4000000 in
set_option maxRecDepth 100000 in
theorem c_L_isKnown (l : Launch) (hl0 : l.stackTraces = false) (D : va_G) (cy : Nat → ClassId) (ad : Nat → Nat) (I : AI) (S : AS) (sz : Nat) (x : Int32) (b : Int32) (d : Int32) (t : Int32) (k : Nat) (n : Nat) (h : Nat) (fr : Nat → Nat) (to : Nat → Nat) (ofr : Nat → Nat) (oto : Nat → Nat) (hc : CIv I S k n h fr to ofr oto) (ao : Nat) (aq : Nat) (fo : Nat → Int64) (fd : Nat → UInt64) : Met l yL_isKnown (Cond.codeWith yL_isKnown cL_isKnown 7 (some .int) [(0, 21, 24, 19), (0, 21, 28, 21), (0, 21, 32, 62)] :: wsL_law) ({ frames := 10, cells := 4, slots := 24, locals := 178 }) (va_Pc [.ref (ad 0), .int x, .int b, .int d, .int t, .ref ao] (lwB D cy (wC cy ad I S ++ oLD cy ao aq fo fd) sz)) (va_Qi (S := AI × AS × (Nat → Int64)) (fun r u => ∃ val : Int32, ((r = 0 ∧ ac I x b d t ∧ val = if fndN S (slI x b) d t k = -1 then 0 else 1) ∨ (r = 1 ∧ ax I x b d t eIOO) ∨ (r = 2 ∧ ax I x b d t eIAE) ∨ (r = 3 ∧ ax I x b d t eUOE)) ∧ scr I S u.1 u.2.1 ∧ (r = 0 → u.2.2 0 = val.toInt64)) (fun u t9 => va_P D clW (wC cy ad u.1 u.2.1 ++ oLD cy ao aq u.2.2 fd) t9.heap) (va_A (wC cy ad I S ++ oLD cy ao aq fo fd) sz)) 4 24 (va_A (wC cy ad I S ++ oLD cy ao aq fo fd) sz) := by
  refine enterH (cc := cL_isKnown) (by decide) (Nat.le_of_ble_eq_true rfl) ?_
  intro p e s m below meth c hx hb hr hml hown hts hlocks hT hv Q hQ ls hl
  obtain ⟨hC, hsz, hP, hK, hD0, hE, hZ⟩ := hv
  subst hsz
  have hD := hD0.self (sz := s.heap.size)
  generalize hAe : va_A (wC cy ad I S ++ oLD cy ao aq fo fd) s.heap.size = A at hD hQ hZ ⊢
  have hA : ∀ q : Nat, s.heap.size ≤ q → A q := fun q h => by rw [← hAe]; exact Or.inr h
  have hS : va_S A s.heap s.heap [] := va_S.rf
  suffices K_ : ∀ (H : Heap) (locs : List Loc), va_P D clW (wC cy ad I S ++ oLD cy ao aq fo fd) H → va_S A s.heap H locs → W p l e ({ frames := 10, cells := 4, slots := 24, locals := 178 }) s m ([.ref (ad 0), .int x, .int b, .int d, .int t, .ref ao] : List Value).toArray below meth c H locs 0 0 Q (F0 m 0 ls []) from K_ _ _ hP hS
  clear hP hS
  intro H locs hP hS
  have hown : s.vm.findClass RL = some m.cls := hown
  have hl : lv_has ls 7 [(0, .ref (ad 0)), (1, .int x), (2, .int b), (3, .int d), (4, .int t), (5, .ref ao)] := hl
  refine lv_aload hx hb dL_isKnown_0 (lv_at hl 5 rfl) ?_
  refine lv_iconst (v := 0) hx hb dL_isKnown_2 (by decide) ?_
  refine lv_aload_n hx hb dL_isKnown_3 rfl (lv_at hl 0 rfl) ?_
  refine lv_iload_n hx hb dL_isKnown_4 rfl (lv_at hl 1 rfl) ?_
  refine lv_iload_n hx hb dL_isKnown_5 rfl (lv_at hl 2 rfl) ?_
  refine lv_iload_n hx hb dL_isKnown_6 rfl (lv_at hl 3 rfl) ?_
  refine lv_iload hx hb dL_isKnown_7 (lv_at hl 4 rfl) ?_
  refine xrI_call (vx_runV (As := [.int x, .int b, .int d, .int t]) (rest := [.int 0, .ref ao]) ⟨hx, hb, hml, hown, hts⟩ (c_X6_isKnown l hl0 D cy ad I S x b d t k n h fr to ofr oto hc) (cw_L_58 hts rfl rfl ⟨Nat.le_of_ble_eq_true rfl, Nat.le_of_ble_eq_true rfl⟩) (preVRX (ci := 6) (q0 := 0) hK hE (hZ.now hS).no (blkY (X := []) hP) rfl rfl) rfl rfl hl.1 rfl (lv_room (Nat.le_of_ble_eq_true rfl)) dL_isKnown_9 ⟨Nat.le_of_ble_eq_true rfl, Nat.le_of_ble_eq_true rfl⟩) (fun E ce q9 H1 hpx hz hk9 hce hcv hcl => ?_) (fun r hr_ => ?_)
  · have hP := keptP_all hP hk9
    have hS := keptS_all hS hz hk9
    rcases ax_E hpx with hE9 | hE9 | hE9
    · subst hE9
      refine ct_call (E := eIOO) hown hE [] [(0, 21, 28, 21), (0, 21, 32, 62)] hT ps0 (by decide) (by decide) (hts _ wm_142) (List.mem_of_getElem? (i := 1) rfl) hce hcv hcl ?_
      refine lv_astore (lv' := [(6, .ref q9), (0, .ref (ad 0)), (1, .int x), (2, .int b), (3, .int d), (4, .int t), (5, .ref ao)]) hx hb dL_isKnown_24 hl (by decide) rfl (fun ls hl => ?_)
      refine lv_iconst (v := 1) hx hb dL_isKnown_26 (by decide) ?_
      exact wI_ret (I, S, fo) hS hP hx hb hr hlocks dL_isKnown_27 (Nat.le_of_ble_eq_true rfl) (Nat.le_of_ble_eq_true rfl) hQ ⟨0, (Or.inr (Or.inl ⟨rfl, hpx⟩)), (scr_0 I S), fun h0 => absurd h0 (by decide)⟩
    · subst hE9
      refine ct_call (E := eIAE) hown hE [(0, 21, 24, 19)] [(0, 21, 32, 62)] hT (psC ⟨by decide, _, hts _ wm_142, hC _ (List.mem_of_getElem? (i := 2) rfl) _ (List.mem_of_getElem? (i := 1) rfl) (by decide +kernel)⟩ ps0) (by decide) (by decide) (hts _ wm_143) (List.mem_of_getElem? (i := 2) rfl) hce hcv hcl ?_
      refine lv_astore (lv' := [(6, .ref q9), (0, .ref (ad 0)), (1, .int x), (2, .int b), (3, .int d), (4, .int t), (5, .ref ao)]) hx hb dL_isKnown_28 hl (by decide) rfl (fun ls hl => ?_)
      refine lv_iconst (v := 2) hx hb dL_isKnown_30 (by decide) ?_
      exact wI_ret (I, S, fo) hS hP hx hb hr hlocks dL_isKnown_31 (Nat.le_of_ble_eq_true rfl) (Nat.le_of_ble_eq_true rfl) hQ ⟨0, (Or.inr (Or.inr (Or.inl ⟨rfl, hpx⟩))), (scr_0 I S), fun h0 => absurd h0 (by decide)⟩
    · subst hE9
      refine ct_call (E := eUOE) hown hE [(0, 21, 24, 19), (0, 21, 28, 21)] [] hT (psC ⟨by decide, _, hts _ wm_142, hC _ (List.mem_of_getElem? (i := 4) rfl) _ (List.mem_of_getElem? (i := 1) rfl) (by decide +kernel)⟩ (psC ⟨by decide, _, hts _ wm_143, hC _ (List.mem_of_getElem? (i := 4) rfl) _ (List.mem_of_getElem? (i := 2) rfl) (by decide +kernel)⟩ ps0)) (by decide) (by decide) (hts _ wm_489) (List.mem_of_getElem? (i := 4) rfl) hce hcv hcl ?_
      refine lv_astore (lv' := [(6, .ref q9), (0, .ref (ad 0)), (1, .int x), (2, .int b), (3, .int d), (4, .int t), (5, .ref ao)]) hx hb dL_isKnown_32 hl (by decide) rfl (fun ls hl => ?_)
      refine lv_iconst (v := 3) hx hb dL_isKnown_34 (by decide) ?_
      exact wI_ret (I, S, fo) hS hP hx hb hr hlocks dL_isKnown_35 (Nat.le_of_ble_eq_true rfl) (Nat.le_of_ble_eq_true rfl) hQ ⟨0, (Or.inr (Or.inr (Or.inr ⟨rfl, hpx⟩))), (scr_0 I S), fun h0 => absurd h0 (by decide)⟩
  · have hv0 := hr_.2
    refine lv_if_eq (tgt := 19) hx hb dL_isKnown_12 (by decide) (fun c0 => ?_) (fun c0 => ?_)
    · refine lv_lconst (v := 0) hx hb dL_isKnown_19 (by decide) ?_
      refine va_last hx hb hK hP hD hS 29 3 rfl rfl (i := 0) (x := 0) vp_in01 dL_isKnown_20 (fun H locs hP hD hS => ?_)
      have hP : va_P D clW (wC cy ad I S ++ oLD cy ao aq (vp_updL fo 0 0) fd) H := hP
      refine lv_goto (tgt := 36) hx hb dL_isKnown_21 (by decide) ?_
      refine lv_iconst (v := 0) hx hb dL_isKnown_36 (by decide) ?_
      exact wI_ret (I, S, (vp_updL fo 0 0)) hS hP hx hb hr hlocks dL_isKnown_37 (Nat.le_of_ble_eq_true rfl) (Nat.le_of_ble_eq_true rfl) hQ ⟨r, Or.inl ⟨rfl, hr_⟩, (scr_0 I S), fun _ => (by rw [c0]; rfl)⟩
    · refine lv_lconst (v := 1) hx hb dL_isKnown_15 (by decide) ?_
      refine lv_goto (tgt := 20) hx hb dL_isKnown_16 (by decide) ?_
      refine va_last hx hb hK hP hD hS 29 3 rfl rfl (i := 0) (x := 1) vp_in01 dL_isKnown_20 (fun H locs hP hD hS => ?_)
      have hP : va_P D clW (wC cy ad I S ++ oLD cy ao aq (vp_updL fo 0 1) fd) H := hP
      refine lv_goto (tgt := 36) hx hb dL_isKnown_21 (by decide) ?_
      refine lv_iconst (v := 0) hx hb dL_isKnown_36 (by decide) ?_
      exact wI_ret (I, S, (vp_updL fo 0 1)) hS hP hx hb hr hlocks dL_isKnown_37 (Nat.le_of_ble_eq_true rfl) (Nat.le_of_ble_eq_true rfl) hQ ⟨r, Or.inl ⟨rfl, hr_⟩, (scr_0 I S), fun _ => (by rw [ite01 hv0 c0]; rfl)⟩

set_option maxHeartbeats 4000000 in
set_option maxRecDepth 100000 in
theorem c_L_valueAt (l : Launch) (hl0 : l.stackTraces = false) (D : va_G) (cy : Nat → ClassId) (ad : Nat → Nat) (I : AI) (S : AS) (sz : Nat) (x : Int32) (b : Int32) (d : Int32) (t : Int32) (k : Nat) (n : Nat) (h : Nat) (fr : Nat → Nat) (to : Nat → Nat) (ofr : Nat → Nat) (oto : Nat → Nat) (hc : CIv I S k n h fr to ofr oto) (ao : Nat) (aq : Nat) (fo : Nat → Int64) (fd : Nat → UInt64) : Met l yL_valueAt (Cond.codeWith yL_valueAt cL_valueAt 7 (some .int) [(0, 14, 17, 19), (0, 14, 21, 21), (0, 14, 25, 62), (0, 14, 29, 27)] :: wsL_law) ({ frames := 10, cells := 5, slots := 30, locals := 179 }) (va_Pc [.ref (ad 0), .int x, .int b, .int d, .int t, .ref ao] (lwB D cy (wC cy ad I S ++ oLD cy ao aq fo fd) sz)) (va_Qi (S := AI × AS × (Nat → Int64)) (fun r u => ∃ val : Int32, ((r = 0 ∧ ac I x b d t ∧ ∃ j : Nat, j < k ∧ fndN S (slI x b) d t k = nI j ∧ val = S 9 j) ∨ (r = 1 ∧ ax I x b d t eIOO) ∨ (r = 2 ∧ ax I x b d t eIAE) ∨ (r = 3 ∧ ax I x b d t eUOE) ∨ (r = 4 ∧ ac I x b d t ∧ fndN S (slI x b) d t k = -1)) ∧ scr I S u.1 u.2.1 ∧ (r = 0 → u.2.2 0 = val.toInt64)) (fun u t9 => va_P D clW (wC cy ad u.1 u.2.1 ++ oLD cy ao aq u.2.2 fd) t9.heap) (va_A (wC cy ad I S ++ oLD cy ao aq fo fd) sz)) 5 30 (va_A (wC cy ad I S ++ oLD cy ao aq fo fd) sz) := by
  refine enterH (cc := cL_valueAt) (by decide) (Nat.le_of_ble_eq_true rfl) ?_
  intro p e s m below meth c hx hb hr hml hown hts hlocks hT hv Q hQ ls hl
  obtain ⟨hC, hsz, hP, hK, hD0, hE, hZ⟩ := hv
  subst hsz
  have hD := hD0.self (sz := s.heap.size)
  generalize hAe : va_A (wC cy ad I S ++ oLD cy ao aq fo fd) s.heap.size = A at hD hQ hZ ⊢
  have hA : ∀ q : Nat, s.heap.size ≤ q → A q := fun q h => by rw [← hAe]; exact Or.inr h
  have hS : va_S A s.heap s.heap [] := va_S.rf
  suffices K_ : ∀ (H : Heap) (locs : List Loc), va_P D clW (wC cy ad I S ++ oLD cy ao aq fo fd) H → va_S A s.heap H locs → W p l e ({ frames := 10, cells := 5, slots := 30, locals := 179 }) s m ([.ref (ad 0), .int x, .int b, .int d, .int t, .ref ao] : List Value).toArray below meth c H locs 0 0 Q (F0 m 0 ls []) from K_ _ _ hP hS
  clear hP hS
  intro H locs hP hS
  have hown : s.vm.findClass RL = some m.cls := hown
  have hl : lv_has ls 7 [(0, .ref (ad 0)), (1, .int x), (2, .int b), (3, .int d), (4, .int t), (5, .ref ao)] := hl
  refine lv_aload hx hb dL_valueAt_0 (lv_at hl 5 rfl) ?_
  refine lv_iconst (v := 0) hx hb dL_valueAt_2 (by decide) ?_
  refine lv_aload_n hx hb dL_valueAt_3 rfl (lv_at hl 0 rfl) ?_
  refine lv_iload_n hx hb dL_valueAt_4 rfl (lv_at hl 1 rfl) ?_
  refine lv_iload_n hx hb dL_valueAt_5 rfl (lv_at hl 2 rfl) ?_
  refine lv_iload_n hx hb dL_valueAt_6 rfl (lv_at hl 3 rfl) ?_
  refine lv_iload hx hb dL_valueAt_7 (lv_at hl 4 rfl) ?_
  refine xrI_call (vx_runV (As := [.int x, .int b, .int d, .int t]) (rest := [.int 0, .ref ao]) ⟨hx, hb, hml, hown, hts⟩ (c_X6_valueAt l hl0 D cy ad I S x b d t k n h fr to ofr oto hc) (cw_L_64 hts rfl rfl ⟨Nat.le_of_ble_eq_true rfl, Nat.le_of_ble_eq_true rfl⟩) (preVRX (ci := 6) (q0 := 0) hK hE (hZ.now hS).no (blkY (X := []) hP) rfl rfl) rfl rfl hl.1 rfl (lv_room (Nat.le_of_ble_eq_true rfl)) dL_valueAt_9 ⟨Nat.le_of_ble_eq_true rfl, Nat.le_of_ble_eq_true rfl⟩) (fun E ce q9 H1 hpx hz hk9 hce hcv hcl => ?_) (fun r hr_ => ?_)
  · have hP := keptP_all hP hk9
    have hS := keptS_all hS hz hk9
    rcases hpx with hpx | ⟨hE9, hpx⟩
    · rcases ax_E hpx with hE9 | hE9 | hE9
      · subst hE9
        refine ct_call (E := eIOO) hown hE [] [(0, 14, 21, 21), (0, 14, 25, 62), (0, 14, 29, 27)] hT ps0 (by decide) (by decide) (hts _ wm_142) (List.mem_of_getElem? (i := 1) rfl) hce hcv hcl ?_
        refine lv_astore (lv' := [(6, .ref q9), (0, .ref (ad 0)), (1, .int x), (2, .int b), (3, .int d), (4, .int t), (5, .ref ao)]) hx hb dL_valueAt_17 hl (by decide) rfl (fun ls hl => ?_)
        refine lv_iconst (v := 1) hx hb dL_valueAt_19 (by decide) ?_
        exact wI_ret (I, S, fo) hS hP hx hb hr hlocks dL_valueAt_20 (Nat.le_of_ble_eq_true rfl) (Nat.le_of_ble_eq_true rfl) hQ ⟨0, (Or.inr (Or.inl ⟨rfl, hpx⟩)), (scr_0 I S), fun h0 => absurd h0 (by decide)⟩
      · subst hE9
        refine ct_call (E := eIAE) hown hE [(0, 14, 17, 19)] [(0, 14, 25, 62), (0, 14, 29, 27)] hT (psC ⟨by decide, _, hts _ wm_142, hC _ (List.mem_of_getElem? (i := 2) rfl) _ (List.mem_of_getElem? (i := 1) rfl) (by decide +kernel)⟩ ps0) (by decide) (by decide) (hts _ wm_143) (List.mem_of_getElem? (i := 2) rfl) hce hcv hcl ?_
        refine lv_astore (lv' := [(6, .ref q9), (0, .ref (ad 0)), (1, .int x), (2, .int b), (3, .int d), (4, .int t), (5, .ref ao)]) hx hb dL_valueAt_21 hl (by decide) rfl (fun ls hl => ?_)
        refine lv_iconst (v := 2) hx hb dL_valueAt_23 (by decide) ?_
        exact wI_ret (I, S, fo) hS hP hx hb hr hlocks dL_valueAt_24 (Nat.le_of_ble_eq_true rfl) (Nat.le_of_ble_eq_true rfl) hQ ⟨0, (Or.inr (Or.inr (Or.inl ⟨rfl, hpx⟩))), (scr_0 I S), fun h0 => absurd h0 (by decide)⟩
      · subst hE9
        refine ct_call (E := eUOE) hown hE [(0, 14, 17, 19), (0, 14, 21, 21)] [(0, 14, 29, 27)] hT (psC ⟨by decide, _, hts _ wm_142, hC _ (List.mem_of_getElem? (i := 4) rfl) _ (List.mem_of_getElem? (i := 1) rfl) (by decide +kernel)⟩ (psC ⟨by decide, _, hts _ wm_143, hC _ (List.mem_of_getElem? (i := 4) rfl) _ (List.mem_of_getElem? (i := 2) rfl) (by decide +kernel)⟩ ps0)) (by decide) (by decide) (hts _ wm_489) (List.mem_of_getElem? (i := 4) rfl) hce hcv hcl ?_
        refine lv_astore (lv' := [(6, .ref q9), (0, .ref (ad 0)), (1, .int x), (2, .int b), (3, .int d), (4, .int t), (5, .ref ao)]) hx hb dL_valueAt_25 hl (by decide) rfl (fun ls hl => ?_)
        refine lv_iconst (v := 3) hx hb dL_valueAt_27 (by decide) ?_
        exact wI_ret (I, S, fo) hS hP hx hb hr hlocks dL_valueAt_28 (Nat.le_of_ble_eq_true rfl) (Nat.le_of_ble_eq_true rfl) hQ ⟨0, (Or.inr (Or.inr (Or.inr (Or.inl ⟨rfl, hpx⟩)))), (scr_0 I S), fun h0 => absurd h0 (by decide)⟩
    · subst hE9
      refine ct_call (E := eNSE) hown hE [(0, 14, 17, 19), (0, 14, 21, 21), (0, 14, 25, 62)] [] hT (psC ⟨by decide, _, hts _ wm_142, hC _ (List.mem_of_getElem? (i := 3) rfl) _ (List.mem_of_getElem? (i := 1) rfl) (by decide +kernel)⟩ (psC ⟨by decide, _, hts _ wm_143, hC _ (List.mem_of_getElem? (i := 3) rfl) _ (List.mem_of_getElem? (i := 2) rfl) (by decide +kernel)⟩ (psC ⟨by decide, _, hts _ wm_489, hC _ (List.mem_of_getElem? (i := 3) rfl) _ (List.mem_of_getElem? (i := 4) rfl) (by decide +kernel)⟩ ps0))) (by decide) (by decide) (hts _ wm_261) (List.mem_of_getElem? (i := 3) rfl) hce hcv hcl ?_
      refine lv_astore (lv' := [(6, .ref q9), (0, .ref (ad 0)), (1, .int x), (2, .int b), (3, .int d), (4, .int t), (5, .ref ao)]) hx hb dL_valueAt_29 hl (by decide) rfl (fun ls hl => ?_)
      refine lv_iconst (v := 4) hx hb dL_valueAt_31 (by decide) ?_
      exact wI_ret (I, S, fo) hS hP hx hb hr hlocks dL_valueAt_32 (Nat.le_of_ble_eq_true rfl) (Nat.le_of_ble_eq_true rfl) hQ ⟨0, (Or.inr (Or.inr (Or.inr (Or.inr ⟨rfl, hpx⟩)))), (scr_0 I S), fun h0 => absurd h0 (by decide)⟩
  · refine lv_i2l (v := r.toInt64) hx hb dL_valueAt_12 rfl ?_
    refine va_last hx hb hK hP hD hS 29 3 rfl rfl (i := 0) (x := r.toInt64) vp_in01 dL_valueAt_13 (fun H locs hP hD hS => ?_)
    have hP : va_P D clW (wC cy ad I S ++ oLD cy ao aq (vp_updL fo 0 r.toInt64) fd) H := hP
    refine lv_goto (tgt := 33) hx hb dL_valueAt_14 (by decide) ?_
    refine lv_iconst (v := 0) hx hb dL_valueAt_33 (by decide) ?_
    exact wI_ret (I, S, (vp_updL fo 0 r.toInt64)) hS hP hx hb hr hlocks dL_valueAt_34 (Nat.le_of_ble_eq_true rfl) (Nat.le_of_ble_eq_true rfl) hQ ⟨r, Or.inl ⟨rfl, hr_⟩, (scr_0 I S), fun _ => rfl⟩
