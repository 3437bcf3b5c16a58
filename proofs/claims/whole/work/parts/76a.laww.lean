/-! the law: its wrappers, 1 -/
set_option maxHeartbeats 4000000 in
set_option maxRecDepth 100000 in
theorem c_L_addEntity (l : Launch) (hl0 : l.stackTraces = false) (D : va_G) (cy : Nat → ClassId) (ad : Nat → Nat) (I : AI) (S : AS) (sz : Nat) (en : Nat) (hen : I 0 = nI en) (hen6 : en ≤ 6) (ao : Nat) (aq : Nat) (fo : Nat → Int64) (fd : Nat → UInt64) : Met l yL_addEntity (Cond.codeWith yL_addEntity cL_addEntity 3 (some .int) [(0, 8, 11, 13)] :: wsL_law) ({ frames := 7, cells := 1, slots := 6, locals := 110 }) (va_Pc [.ref (ad 0), .ref ao] (lwB D cy (wC cy ad I S ++ oLD cy ao aq fo fd) sz)) (va_Qi (S := AI × AS × (Nat → Int64)) (fun r u => ∃ val : Int32, ((r = 0 ∧ val = nI en ∧ en < 6 ∧ u.1 = va_up I 0 (nI (en + 1)) ∧ u.2.1 = S) ∨ (r = 1 ∧ 6 ≤ en ∧ scr I S u.1 u.2.1)) ∧ (r = 0 → u.2.2 0 = val.toInt64)) (fun u t9 => va_P D clW (wC cy ad u.1 u.2.1 ++ oLD cy ao aq u.2.2 fd) t9.heap) (va_A (wC cy ad I S ++ oLD cy ao aq fo fd) sz)) 1 6 (va_A (wC cy ad I S ++ oLD cy ao aq fo fd) sz) := by
  refine enterH (cc := cL_addEntity) (by decide) (Nat.le_of_ble_eq_true rfl) ?_
  intro p e s m below meth c hx hb hr hml hown hts hlocks hT hv Q hQ ls hl
  obtain ⟨hC, hsz, hP, hK, hD0, hE, hZ⟩ := hv
  subst hsz
  have hD := hD0.self (sz := s.heap.size)
  generalize hAe : va_A (wC cy ad I S ++ oLD cy ao aq fo fd) s.heap.size = A at hD hQ hZ ⊢
  have hA : ∀ q : Nat, s.heap.size ≤ q → A q := fun q h => by rw [← hAe]; exact Or.inr h
  have hS : va_S A s.heap s.heap [] := va_S.rf
  suffices K_ : ∀ (H : Heap) (locs : List Loc), va_P D clW (wC cy ad I S ++ oLD cy ao aq fo fd) H → va_S A s.heap H locs → W p l e ({ frames := 7, cells := 1, slots := 6, locals := 110 }) s m ([.ref (ad 0), .ref ao] : List Value).toArray below meth c H locs 0 0 Q (F0 m 0 ls []) from K_ _ _ hP hS
  clear hP hS
  intro H locs hP hS
  have hown : s.vm.findClass RL = some m.cls := hown
  have hl : lv_has ls 3 [(0, .ref (ad 0)), (1, .ref ao)] := hl
  refine lv_aload_n hx hb dL_addEntity_0 rfl (lv_at hl 1 rfl) ?_
  refine lv_iconst (v := 0) hx hb dL_addEntity_1 (by decide) ?_
  refine lv_aload_n hx hb dL_addEntity_2 rfl (lv_at hl 0 rfl) ?_
  refine xcI_call (vx_runV (As := []) (rest := [.int 0, .ref ao]) ⟨hx, hb, hml, hown, hts⟩ (c_X6_addEntity l hl0 D cy ad I S H.size en hen hen6) (cw_L_7 hts rfl rfl ⟨Nat.le_of_ble_eq_true rfl, Nat.le_of_ble_eq_true rfl⟩) (preVWX (ci := 6) (q0 := 0) hK hE (hZ.now hS) (blkF (X := []) hD hS hA) (blkY (X := []) hP) (blkYD (X := []) hD) rfl rfl) rfl rfl hl.1 rfl (lv_room (Nat.le_of_ble_eq_true rfl)) dL_addEntity_3 ⟨Nat.le_of_ble_eq_true rfl, Nat.le_of_ble_eq_true rfl⟩) (Z := oLD cy ao aq fo fd) hP hD hS hA (fun _ => rfl) (fun _ => rfl) (fun E ce q9 ux H locs hpx hP hD hS hce hcv hcl => ?_) (fun r un H locs hr_ hP hD hS => ?_)
  · obtain ⟨I2, S2⟩ := ux
    obtain ⟨hpx, hs⟩ := hpx
    have hP : va_P D clW (wC cy ad I2 S2 ++ oLD cy ao aq fo fd) H := hP
    obtain ⟨hE9, hpx⟩ := hpx
    subst hE9
    refine ct_call (E := eISE) hown hE [] [] hT ps0 (by decide) (by decide) (hts _ wm_110) (List.mem_of_getElem? (i := 0) rfl) hce hcv hcl ?_
    refine lv_astore_n (lv' := [(2, .ref q9), (0, .ref (ad 0)), (1, .ref ao)]) hx hb dL_addEntity_11 rfl hl (by decide) rfl (fun ls hl => ?_)
    refine lv_iconst (v := 1) hx hb dL_addEntity_12 (by decide) ?_
    exact wI_ret (I2, S2, fo) hS hP hx hb hr hlocks dL_addEntity_13 (Nat.le_of_ble_eq_true rfl) (Nat.le_of_ble_eq_true rfl) hQ ⟨0, (Or.inr ⟨rfl, hpx, hs⟩), fun h0 => absurd h0 (by decide)⟩
  · obtain ⟨h0, h1⟩ := hr_
    have hP : va_P D clW (wC cy ad (va_up I 0 (nI (en + 1))) S ++ oLD cy ao aq fo fd) H := hP
    have hD : va_D A (wC cy ad (va_up I 0 (nI (en + 1))) S ++ oLD cy ao aq fo fd) := hD
    refine lv_i2l (v := r.toInt64) hx hb dL_addEntity_6 rfl ?_
    refine va_last hx hb hK hP hD hS 29 3 rfl rfl (i := 0) (x := r.toInt64) vp_in01 dL_addEntity_7 (fun H locs hP hD hS => ?_)
    have hP : va_P D clW (wC cy ad (va_up I 0 (nI (en + 1))) S ++ oLD cy ao aq (vp_updL fo 0 r.toInt64) fd) H := hP
    refine lv_goto (tgt := 14) hx hb dL_addEntity_8 (by decide) ?_
    refine lv_iconst (v := 0) hx hb dL_addEntity_14 (by decide) ?_
    exact wI_ret ((va_up I 0 (nI (en + 1))), S, (vp_updL fo 0 r.toInt64)) hS hP hx hb hr hlocks dL_addEntity_15 (Nat.le_of_ble_eq_true rfl) (Nat.le_of_ble_eq_true rfl) hQ ⟨r, Or.inl ⟨rfl, h0, h1, rfl, rfl⟩, fun _ => rfl⟩

set_option maxHeartbeats 4000000 in
set_option maxRecDepth 100000 in
theorem c_L_tell (l : Launch) (hl0 : l.stackTraces = false) (D : va_G) (cy : Nat → ClassId) (ad : Nat → Nat) (I : AI) (S : AS) (sz : Nat) (x : Int32) (b : Int32) (v : Int32) (d : Int32) (d2 : Int32) (k : Nat) (n : Nat) (h : Nat) (fr : Nat → Nat) (to : Nat → Nat) (ofr : Nat → Nat) (oto : Nat → Nat) (hc : CIv I S k n h fr to ofr oto) (ao : Nat) (aq : Nat) (fo : Nat → Int64) (fd : Nat → UInt64) : Met l yL_tell (Cond.codeWith yL_tell cL_tell 8 (some .int) [(0, 16, 19, 19), (0, 16, 23, 21), (0, 16, 27, 13)] :: wsL_law) ({ frames := 9, cells := 3, slots := 18, locals := 158 }) (va_Pc [.ref (ad 0), .int x, .int b, .int v, .int d, .int d2, .ref ao] (lwB D cy (wC cy ad I S ++ oLD cy ao aq fo fd) sz)) (va_Qi (S := AI × AS × (Nat → Int64)) (fun r u => ∃ val : Int32, (tlC I S n k x b v d d2 r val u.1 u.2.1) ∧ (r = 0 → u.2.2 0 = val.toInt64)) (fun u t9 => va_P D clW (wC cy ad u.1 u.2.1 ++ oLD cy ao aq u.2.2 fd) t9.heap) (va_A (wC cy ad I S ++ oLD cy ao aq fo fd) sz)) 3 18 (va_A (wC cy ad I S ++ oLD cy ao aq fo fd) sz) := by
  refine enterH (cc := cL_tell) (by decide) (Nat.le_of_ble_eq_true rfl) ?_
  intro p e s m below meth c hx hb hr hml hown hts hlocks hT hv Q hQ ls hl
  obtain ⟨hC, hsz, hP, hK, hD0, hE, hZ⟩ := hv
  subst hsz
  have hD := hD0.self (sz := s.heap.size)
  generalize hAe : va_A (wC cy ad I S ++ oLD cy ao aq fo fd) s.heap.size = A at hD hQ hZ ⊢
  have hA : ∀ q : Nat, s.heap.size ≤ q → A q := fun q h => by rw [← hAe]; exact Or.inr h
  have hS : va_S A s.heap s.heap [] := va_S.rf
  suffices K_ : ∀ (H : Heap) (locs : List Loc), va_P D clW (wC cy ad I S ++ oLD cy ao aq fo fd) H → va_S A s.heap H locs → W p l e ({ frames := 9, cells := 3, slots := 18, locals := 158 }) s m ([.ref (ad 0), .int x, .int b, .int v, .int d, .int d2, .ref ao] : List Value).toArray below meth c H locs 0 0 Q (F0 m 0 ls []) from K_ _ _ hP hS
  clear hP hS
  intro H locs hP hS
  have hown : s.vm.findClass RL = some m.cls := hown
  have hl : lv_has ls 8 [(0, .ref (ad 0)), (1, .int x), (2, .int b), (3, .int v), (4, .int d), (5, .int d2), (6, .ref ao)] := hl
  refine lv_aload hx hb dL_tell_0 (lv_at hl 6 rfl) ?_
  refine lv_iconst (v := 0) hx hb dL_tell_2 (by decide) ?_
  refine lv_aload_n hx hb dL_tell_3 rfl (lv_at hl 0 rfl) ?_
  refine lv_iload_n hx hb dL_tell_4 rfl (lv_at hl 1 rfl) ?_
  refine lv_iload_n hx hb dL_tell_5 rfl (lv_at hl 2 rfl) ?_
  refine lv_iload_n hx hb dL_tell_6 rfl (lv_at hl 3 rfl) ?_
  refine lv_iload hx hb dL_tell_7 (lv_at hl 4 rfl) ?_
  refine lv_iload hx hb dL_tell_9 (lv_at hl 5 rfl) ?_
  refine xcI_call (vx_runV (As := [.int x, .int b, .int v, .int d, .int d2]) (rest := [.int 0, .ref ao]) ⟨hx, hb, hml, hown, hts⟩ (c_X6_tell l hl0 D cy ad I S H.size x b v d d2 k n h fr to ofr oto hc) (cw_L_15 hts rfl rfl ⟨Nat.le_of_ble_eq_true rfl, Nat.le_of_ble_eq_true rfl⟩) (preVWX (ci := 6) (q0 := 0) hK hE (hZ.now hS) (blkF (X := []) hD hS hA) (blkY (X := []) hP) (blkYD (X := []) hD) rfl rfl) rfl rfl hl.1 rfl (lv_room (Nat.le_of_ble_eq_true rfl)) dL_tell_11 ⟨Nat.le_of_ble_eq_true rfl, Nat.le_of_ble_eq_true rfl⟩) (Z := oLD cy ao aq fo fd) hP hD hS hA (fun _ => rfl) (fun _ => rfl) (fun E ce q9 ux H locs hpx hP hD hS hce hcv hcl => ?_) (fun r un H locs hr_ hP hD hS => ?_)
  · obtain ⟨I2, S2⟩ := ux
    obtain ⟨hpx, hs⟩ := hpx
    have hP : va_P D clW (wC cy ad I2 S2 ++ oLD cy ao aq fo fd) H := hP
    rcases hpx with ⟨hE9, hpx⟩ | ⟨hE9, hpx⟩ | ⟨hE9, hpx⟩
    · subst hE9
      refine ct_call (E := eIOO) hown hE [] [(0, 16, 23, 21), (0, 16, 27, 13)] hT ps0 (by decide) (by decide) (hts _ wm_142) (List.mem_of_getElem? (i := 1) rfl) hce hcv hcl ?_
      refine lv_astore (lv' := [(7, .ref q9), (0, .ref (ad 0)), (1, .int x), (2, .int b), (3, .int v), (4, .int d), (5, .int d2), (6, .ref ao)]) hx hb dL_tell_19 hl (by decide) rfl (fun ls hl => ?_)
      refine lv_iconst (v := 1) hx hb dL_tell_21 (by decide) ?_
      exact wI_ret (I2, S2, fo) hS hP hx hb hr hlocks dL_tell_22 (Nat.le_of_ble_eq_true rfl) (Nat.le_of_ble_eq_true rfl) hQ ⟨0, (Or.inr (Or.inl ⟨rfl, hpx, hs⟩)), fun h0 => absurd h0 (by decide)⟩
    · subst hE9
      refine ct_call (E := eIAE) hown hE [(0, 16, 19, 19)] [(0, 16, 27, 13)] hT (psC ⟨by decide, _, hts _ wm_142, hC _ (List.mem_of_getElem? (i := 2) rfl) _ (List.mem_of_getElem? (i := 1) rfl) (by decide +kernel)⟩ ps0) (by decide) (by decide) (hts _ wm_143) (List.mem_of_getElem? (i := 2) rfl) hce hcv hcl ?_
      refine lv_astore (lv' := [(7, .ref q9), (0, .ref (ad 0)), (1, .int x), (2, .int b), (3, .int v), (4, .int d), (5, .int d2), (6, .ref ao)]) hx hb dL_tell_23 hl (by decide) rfl (fun ls hl => ?_)
      refine lv_iconst (v := 2) hx hb dL_tell_25 (by decide) ?_
      exact wI_ret (I2, S2, fo) hS hP hx hb hr hlocks dL_tell_26 (Nat.le_of_ble_eq_true rfl) (Nat.le_of_ble_eq_true rfl) hQ ⟨0, (Or.inr (Or.inr (Or.inl ⟨rfl, hpx, hs⟩))), fun h0 => absurd h0 (by decide)⟩
    · subst hE9
      refine ct_call (E := eISE) hown hE [(0, 16, 19, 19), (0, 16, 23, 21)] [] hT (psC ⟨by decide, _, hts _ wm_142, hC _ (List.mem_of_getElem? (i := 0) rfl) _ (List.mem_of_getElem? (i := 1) rfl) (by decide +kernel)⟩ (psC ⟨by decide, _, hts _ wm_143, hC _ (List.mem_of_getElem? (i := 0) rfl) _ (List.mem_of_getElem? (i := 2) rfl) (by decide +kernel)⟩ ps0)) (by decide) (by decide) (hts _ wm_110) (List.mem_of_getElem? (i := 0) rfl) hce hcv hcl ?_
      refine lv_astore (lv' := [(7, .ref q9), (0, .ref (ad 0)), (1, .int x), (2, .int b), (3, .int v), (4, .int d), (5, .int d2), (6, .ref ao)]) hx hb dL_tell_27 hl (by decide) rfl (fun ls hl => ?_)
      refine lv_iconst (v := 3) hx hb dL_tell_29 (by decide) ?_
      exact wI_ret (I2, S2, fo) hS hP hx hb hr hlocks dL_tell_30 (Nat.le_of_ble_eq_true rfl) (Nat.le_of_ble_eq_true rfl) hQ ⟨0, (Or.inr (Or.inr (Or.inr ⟨rfl, hpx, hs⟩))), fun h0 => absurd h0 (by decide)⟩
  · obtain ⟨I2, S2, k2⟩ := un
    obtain ⟨h0, h1, h2, h3, h4, h5, h6, h7, h8⟩ := hr_
    have hP : va_P D clW (wC cy ad (va_up (va_up (va_up I 1 (nI (n + 1))) 2 (nI (k2 + 1))) 3 (I2 3)) (va_up (va_up (va_up (va_up (va_up (va_up (va_up (va_up (va_up (va_up (va_up S 2 (upd (S 2) (n + 1) 116)) 3 (upd (S 3) (n + 1) (slI x b))) 4 (upd (S 4) (n + 1) v)) 5 (upd (S 5) (n + 1) d)) 6 (upd (S 6) (n + 1) d2)) 8 (upd (S2 8) k2 (slI x b))) 9 (upd (S2 9) k2 v)) 10 (upd (S2 10) k2 d)) 11 (upd (S2 11) k2 d2)) 12 (upd (S2 12) k2 (nI (n + 1)))) 13 (upd (S2 13) k2 (-1))) ++ oLD cy ao aq fo fd) H := hP
    have hD : va_D A (wC cy ad (va_up (va_up (va_up I 1 (nI (n + 1))) 2 (nI (k2 + 1))) 3 (I2 3)) (va_up (va_up (va_up (va_up (va_up (va_up (va_up (va_up (va_up (va_up (va_up S 2 (upd (S 2) (n + 1) 116)) 3 (upd (S 3) (n + 1) (slI x b))) 4 (upd (S 4) (n + 1) v)) 5 (upd (S 5) (n + 1) d)) 6 (upd (S 6) (n + 1) d2)) 8 (upd (S2 8) k2 (slI x b))) 9 (upd (S2 9) k2 v)) 10 (upd (S2 10) k2 d)) 11 (upd (S2 11) k2 d2)) 12 (upd (S2 12) k2 (nI (n + 1)))) 13 (upd (S2 13) k2 (-1))) ++ oLD cy ao aq fo fd) := hD
    refine lv_i2l (v := r.toInt64) hx hb dL_tell_14 rfl ?_
    refine va_last hx hb hK hP hD hS 29 3 rfl rfl (i := 0) (x := r.toInt64) vp_in01 dL_tell_15 (fun H locs hP hD hS => ?_)
    have hP : va_P D clW (wC cy ad (va_up (va_up (va_up I 1 (nI (n + 1))) 2 (nI (k2 + 1))) 3 (I2 3)) (va_up (va_up (va_up (va_up (va_up (va_up (va_up (va_up (va_up (va_up (va_up S 2 (upd (S 2) (n + 1) 116)) 3 (upd (S 3) (n + 1) (slI x b))) 4 (upd (S 4) (n + 1) v)) 5 (upd (S 5) (n + 1) d)) 6 (upd (S 6) (n + 1) d2)) 8 (upd (S2 8) k2 (slI x b))) 9 (upd (S2 9) k2 v)) 10 (upd (S2 10) k2 d)) 11 (upd (S2 11) k2 d2)) 12 (upd (S2 12) k2 (nI (n + 1)))) 13 (upd (S2 13) k2 (-1))) ++ oLD cy ao aq (vp_updL fo 0 r.toInt64) fd) H := hP
    refine lv_goto (tgt := 31) hx hb dL_tell_16 (by decide) ?_
    refine lv_iconst (v := 0) hx hb dL_tell_31 (by decide) ?_
    exact wI_ret ((va_up (va_up (va_up I 1 (nI (n + 1))) 2 (nI (k2 + 1))) 3 (I2 3)), (va_up (va_up (va_up (va_up (va_up (va_up (va_up (va_up (va_up (va_up (va_up S 2 (upd (S 2) (n + 1) 116)) 3 (upd (S 3) (n + 1) (slI x b))) 4 (upd (S 4) (n + 1) v)) 5 (upd (S 5) (n + 1) d)) 6 (upd (S 6) (n + 1) d2)) 8 (upd (S2 8) k2 (slI x b))) 9 (upd (S2 9) k2 v)) 10 (upd (S2 10) k2 d)) 11 (upd (S2 11) k2 d2)) 12 (upd (S2 12) k2 (nI (n + 1)))) 13 (upd (S2 13) k2 (-1))), (vp_updL fo 0 r.toInt64)) hS hP hx hb hr hlocks dL_tell_32 (Nat.le_of_ble_eq_true rfl) (Nat.le_of_ble_eq_true rfl) hQ ⟨r, Or.inl ⟨rfl, I2, S2, k2, h0, h1, h2, h3, h4, h5, h6, h7, h8, rfl, rfl⟩, fun _ => rfl⟩

set_option maxHeartbeats 4000000 in
set_option maxRecDepth 100000 in
theorem c_L_retract (l : Launch) (hl0 : l.stackTraces = false) (D : va_G) (cy : Nat → ClassId) (ad : Nat → Nat) (I : AI) (S : AS) (sz : Nat) (x : Int32) (b : Int32) (d : Int32) (d2 : Int32) (k : Nat) (n : Nat) (h : Nat) (fr : Nat → Nat) (to : Nat → Nat) (ofr : Nat → Nat) (oto : Nat → Nat) (hc : CIv I S k n h fr to ofr oto) (ao : Nat) (aq : Nat) (fo : Nat → Int64) (fd : Nat → UInt64) : Met l yL_retract (Cond.codeWith yL_retract cL_retract 7 (some .int) [(0, 14, 17, 19), (0, 14, 21, 21), (0, 14, 25, 27), (0, 14, 29, 13)] :: wsL_law) ({ frames := 9, cells := 3, slots := 18, locals := 160 }) (va_Pc [.ref (ad 0), .int x, .int b, .int d, .int d2, .ref ao] (lwB D cy (wC cy ad I S ++ oLD cy ao aq fo fd) sz)) (va_Qi (S := AI × AS × (Nat → Int64)) (fun r u => ∃ val : Int32, (rtC I S n k x b d d2 r val u.1 u.2.1) ∧ (r = 0 → u.2.2 0 = val.toInt64)) (fun u t9 => va_P D clW (wC cy ad u.1 u.2.1 ++ oLD cy ao aq u.2.2 fd) t9.heap) (va_A (wC cy ad I S ++ oLD cy ao aq fo fd) sz)) 3 18 (va_A (wC cy ad I S ++ oLD cy ao aq fo fd) sz) := by
  refine enterH (cc := cL_retract) (by decide) (Nat.le_of_ble_eq_true rfl) ?_
  intro p e s m below meth c hx hb hr hml hown hts hlocks hT hv Q hQ ls hl
  obtain ⟨hC, hsz, hP, hK, hD0, hE, hZ⟩ := hv
  subst hsz
  have hD := hD0.self (sz := s.heap.size)
  generalize hAe : va_A (wC cy ad I S ++ oLD cy ao aq fo fd) s.heap.size = A at hD hQ hZ ⊢
  have hA : ∀ q : Nat, s.heap.size ≤ q → A q := fun q h => by rw [← hAe]; exact Or.inr h
  have hS : va_S A s.heap s.heap [] := va_S.rf
  suffices K_ : ∀ (H : Heap) (locs : List Loc), va_P D clW (wC cy ad I S ++ oLD cy ao aq fo fd) H → va_S A s.heap H locs → W p l e ({ frames := 9, cells := 3, slots := 18, locals := 160 }) s m ([.ref (ad 0), .int x, .int b, .int d, .int d2, .ref ao] : List Value).toArray below meth c H locs 0 0 Q (F0 m 0 ls []) from K_ _ _ hP hS
  clear hP hS
  intro H locs hP hS
  have hown : s.vm.findClass RL = some m.cls := hown
  have hl : lv_has ls 7 [(0, .ref (ad 0)), (1, .int x), (2, .int b), (3, .int d), (4, .int d2), (5, .ref ao)] := hl
  refine lv_aload hx hb dL_retract_0 (lv_at hl 5 rfl) ?_
  refine lv_iconst (v := 0) hx hb dL_retract_2 (by decide) ?_
  refine lv_aload_n hx hb dL_retract_3 rfl (lv_at hl 0 rfl) ?_
  refine lv_iload_n hx hb dL_retract_4 rfl (lv_at hl 1 rfl) ?_
  refine lv_iload_n hx hb dL_retract_5 rfl (lv_at hl 2 rfl) ?_
  refine lv_iload_n hx hb dL_retract_6 rfl (lv_at hl 3 rfl) ?_
  refine lv_iload hx hb dL_retract_7 (lv_at hl 4 rfl) ?_
  refine xcI_call (vx_runV (As := [.int x, .int b, .int d, .int d2]) (rest := [.int 0, .ref ao]) ⟨hx, hb, hml, hown, hts⟩ (c_X6_retract l hl0 D cy ad I S H.size x b d d2 k n h fr to ofr oto hc) (cw_L_23 hts rfl rfl ⟨Nat.le_of_ble_eq_true rfl, Nat.le_of_ble_eq_true rfl⟩) (preVWX (ci := 6) (q0 := 0) hK hE (hZ.now hS) (blkF (X := []) hD hS hA) (blkY (X := []) hP) (blkYD (X := []) hD) rfl rfl) rfl rfl hl.1 rfl (lv_room (Nat.le_of_ble_eq_true rfl)) dL_retract_9 ⟨Nat.le_of_ble_eq_true rfl, Nat.le_of_ble_eq_true rfl⟩) (Z := oLD cy ao aq fo fd) hP hD hS hA (fun _ => rfl) (fun _ => rfl) (fun E ce q9 ux H locs hpx hP hD hS hce hcv hcl => ?_) (fun r un H locs hr_ hP hD hS => ?_)
  · obtain ⟨I2, S2⟩ := ux
    obtain ⟨hpx, hs⟩ := hpx
    have hP : va_P D clW (wC cy ad I2 S2 ++ oLD cy ao aq fo fd) H := hP
    rcases hpx with ⟨hE9, hpx⟩ | ⟨hE9, hpx⟩ | ⟨hE9, hpx⟩ | ⟨hE9, hpx⟩
    · subst hE9
      refine ct_call (E := eIOO) hown hE [] [(0, 14, 21, 21), (0, 14, 25, 27), (0, 14, 29, 13)] hT ps0 (by decide) (by decide) (hts _ wm_142) (List.mem_of_getElem? (i := 1) rfl) hce hcv hcl ?_
      refine lv_astore (lv' := [(6, .ref q9), (0, .ref (ad 0)), (1, .int x), (2, .int b), (3, .int d), (4, .int d2), (5, .ref ao)]) hx hb dL_retract_17 hl (by decide) rfl (fun ls hl => ?_)
      refine lv_iconst (v := 1) hx hb dL_retract_19 (by decide) ?_
      exact wI_ret (I2, S2, fo) hS hP hx hb hr hlocks dL_retract_20 (Nat.le_of_ble_eq_true rfl) (Nat.le_of_ble_eq_true rfl) hQ ⟨0, (Or.inr (Or.inl ⟨rfl, hpx, hs⟩)), fun h0 => absurd h0 (by decide)⟩
    · subst hE9
      refine ct_call (E := eIAE) hown hE [(0, 14, 17, 19)] [(0, 14, 25, 27), (0, 14, 29, 13)] hT (psC ⟨by decide, _, hts _ wm_142, hC _ (List.mem_of_getElem? (i := 2) rfl) _ (List.mem_of_getElem? (i := 1) rfl) (by decide +kernel)⟩ ps0) (by decide) (by decide) (hts _ wm_143) (List.mem_of_getElem? (i := 2) rfl) hce hcv hcl ?_
      refine lv_astore (lv' := [(6, .ref q9), (0, .ref (ad 0)), (1, .int x), (2, .int b), (3, .int d), (4, .int d2), (5, .ref ao)]) hx hb dL_retract_21 hl (by decide) rfl (fun ls hl => ?_)
      refine lv_iconst (v := 2) hx hb dL_retract_23 (by decide) ?_
      exact wI_ret (I2, S2, fo) hS hP hx hb hr hlocks dL_retract_24 (Nat.le_of_ble_eq_true rfl) (Nat.le_of_ble_eq_true rfl) hQ ⟨0, (Or.inr (Or.inr (Or.inl ⟨rfl, hpx, hs⟩))), fun h0 => absurd h0 (by decide)⟩
    · subst hE9
      refine ct_call (E := eNSE) hown hE [(0, 14, 17, 19), (0, 14, 21, 21)] [(0, 14, 29, 13)] hT (psC ⟨by decide, _, hts _ wm_142, hC _ (List.mem_of_getElem? (i := 3) rfl) _ (List.mem_of_getElem? (i := 1) rfl) (by decide +kernel)⟩ (psC ⟨by decide, _, hts _ wm_143, hC _ (List.mem_of_getElem? (i := 3) rfl) _ (List.mem_of_getElem? (i := 2) rfl) (by decide +kernel)⟩ ps0)) (by decide) (by decide) (hts _ wm_261) (List.mem_of_getElem? (i := 3) rfl) hce hcv hcl ?_
      refine lv_astore (lv' := [(6, .ref q9), (0, .ref (ad 0)), (1, .int x), (2, .int b), (3, .int d), (4, .int d2), (5, .ref ao)]) hx hb dL_retract_25 hl (by decide) rfl (fun ls hl => ?_)
      refine lv_iconst (v := 3) hx hb dL_retract_27 (by decide) ?_
      exact wI_ret (I2, S2, fo) hS hP hx hb hr hlocks dL_retract_28 (Nat.le_of_ble_eq_true rfl) (Nat.le_of_ble_eq_true rfl) hQ ⟨0, (Or.inr (Or.inr (Or.inr (Or.inl ⟨rfl, hpx, hs⟩)))), fun h0 => absurd h0 (by decide)⟩
    · subst hE9
      refine ct_call (E := eISE) hown hE [(0, 14, 17, 19), (0, 14, 21, 21), (0, 14, 25, 27)] [] hT (psC ⟨by decide, _, hts _ wm_142, hC _ (List.mem_of_getElem? (i := 0) rfl) _ (List.mem_of_getElem? (i := 1) rfl) (by decide +kernel)⟩ (psC ⟨by decide, _, hts _ wm_143, hC _ (List.mem_of_getElem? (i := 0) rfl) _ (List.mem_of_getElem? (i := 2) rfl) (by decide +kernel)⟩ (psC ⟨by decide, _, hts _ wm_261, hC _ (List.mem_of_getElem? (i := 0) rfl) _ (List.mem_of_getElem? (i := 3) rfl) (by decide +kernel)⟩ ps0))) (by decide) (by decide) (hts _ wm_110) (List.mem_of_getElem? (i := 0) rfl) hce hcv hcl ?_
      refine lv_astore (lv' := [(6, .ref q9), (0, .ref (ad 0)), (1, .int x), (2, .int b), (3, .int d), (4, .int d2), (5, .ref ao)]) hx hb dL_retract_29 hl (by decide) rfl (fun ls hl => ?_)
      refine lv_iconst (v := 4) hx hb dL_retract_31 (by decide) ?_
      exact wI_ret (I2, S2, fo) hS hP hx hb hr hlocks dL_retract_32 (Nat.le_of_ble_eq_true rfl) (Nat.le_of_ble_eq_true rfl) hQ ⟨0, (Or.inr (Or.inr (Or.inr (Or.inr ⟨rfl, hpx, hs⟩)))), fun h0 => absurd h0 (by decide)⟩
  · obtain ⟨I2, S2⟩ := un
    obtain ⟨h0, h1, h2, h3, h4, h5⟩ := hr_
    have hP : va_P D clW (wC cy ad (va_up (va_up (va_up I 1 (nI (n + 1))) 2 (I2 2)) 3 (I2 3)) (va_up (va_up (va_up (va_up (va_up (va_up (va_up (va_up (va_up (va_up (va_up S 2 (upd (S 2) (n + 1) 114)) 3 (upd (S 3) (n + 1) (slI x b))) 4 (upd (S 4) (n + 1) 0)) 5 (upd (S 5) (n + 1) d)) 6 (upd (S 6) (n + 1) d2)) 8 (S2 8)) 9 (S2 9)) 10 (S2 10)) 11 (S2 11)) 12 (S2 12)) 13 (S2 13)) ++ oLD cy ao aq fo fd) H := hP
    have hD : va_D A (wC cy ad (va_up (va_up (va_up I 1 (nI (n + 1))) 2 (I2 2)) 3 (I2 3)) (va_up (va_up (va_up (va_up (va_up (va_up (va_up (va_up (va_up (va_up (va_up S 2 (upd (S 2) (n + 1) 114)) 3 (upd (S 3) (n + 1) (slI x b))) 4 (upd (S 4) (n + 1) 0)) 5 (upd (S 5) (n + 1) d)) 6 (upd (S 6) (n + 1) d2)) 8 (S2 8)) 9 (S2 9)) 10 (S2 10)) 11 (S2 11)) 12 (S2 12)) 13 (S2 13)) ++ oLD cy ao aq fo fd) := hD
    refine lv_i2l (v := r.toInt64) hx hb dL_retract_12 rfl ?_
    refine va_last hx hb hK hP hD hS 29 3 rfl rfl (i := 0) (x := r.toInt64) vp_in01 dL_retract_13 (fun H locs hP hD hS => ?_)
    have hP : va_P D clW (wC cy ad (va_up (va_up (va_up I 1 (nI (n + 1))) 2 (I2 2)) 3 (I2 3)) (va_up (va_up (va_up (va_up (va_up (va_up (va_up (va_up (va_up (va_up (va_up S 2 (upd (S 2) (n + 1) 114)) 3 (upd (S 3) (n + 1) (slI x b))) 4 (upd (S 4) (n + 1) 0)) 5 (upd (S 5) (n + 1) d)) 6 (upd (S 6) (n + 1) d2)) 8 (S2 8)) 9 (S2 9)) 10 (S2 10)) 11 (S2 11)) 12 (S2 12)) 13 (S2 13)) ++ oLD cy ao aq (vp_updL fo 0 r.toInt64) fd) H := hP
    refine lv_goto (tgt := 33) hx hb dL_retract_14 (by decide) ?_
    refine lv_iconst (v := 0) hx hb dL_retract_33 (by decide) ?_
    exact wI_ret ((va_up (va_up (va_up I 1 (nI (n + 1))) 2 (I2 2)) 3 (I2 3)), (va_up (va_up (va_up (va_up (va_up (va_up (va_up (va_up (va_up (va_up (va_up S 2 (upd (S 2) (n + 1) 114)) 3 (upd (S 3) (n + 1) (slI x b))) 4 (upd (S 4) (n + 1) 0)) 5 (upd (S 5) (n + 1) d)) 6 (upd (S 6) (n + 1) d2)) 8 (S2 8)) 9 (S2 9)) 10 (S2 10)) 11 (S2 11)) 12 (S2 12)) 13 (S2 13)), (vp_updL fo 0 r.toInt64)) hS hP hx hb hr hlocks dL_retract_34 (Nat.le_of_ble_eq_true rfl) (Nat.le_of_ble_eq_true rfl) hQ ⟨r, Or.inl ⟨rfl, I2, S2, h0, h1, h2, h3, h4, h5, rfl, rfl⟩, fun _ => rfl⟩

set_option maxHeartbeats 4000000 in
set_option maxRecDepth 100000 in
theorem c_L_correct (l : Launch) (hl0 : l.stackTraces = false) (D : va_G) (cy : Nat → ClassId) (ad : Nat → Nat) (I : AI) (S : AS) (sz : Nat) (x : Int32) (b : Int32) (d : Int32) (v : Int32) (k : Nat) (n : Nat) (h : Nat) (fr : Nat → Nat) (to : Nat → Nat) (ofr : Nat → Nat) (oto : Nat → Nat) (hc : CIv I S k n h fr to ofr oto) (ao : Nat) (aq : Nat) (fo : Nat → Int64) (fd : Nat → UInt64) : Met l yL_correct (Cond.codeWith yL_correct cL_correct 7 (some .int) [(0, 14, 17, 19), (0, 14, 21, 21), (0, 14, 25, 27), (0, 14, 29, 13)] :: wsL_law) ({ frames := 9, cells := 4, slots := 24, locals := 161 }) (va_Pc [.ref (ad 0), .int x, .int b, .int d, .int v, .ref ao] (lwB D cy (wC cy ad I S ++ oLD cy ao aq fo fd) sz)) (va_Qi (S := AI × AS × (Nat → Int64)) (fun r u => ∃ val : Int32, (coC I S n k x b d v r val u.1 u.2.1) ∧ (r = 0 → u.2.2 0 = val.toInt64)) (fun u t9 => va_P D clW (wC cy ad u.1 u.2.1 ++ oLD cy ao aq u.2.2 fd) t9.heap) (va_A (wC cy ad I S ++ oLD cy ao aq fo fd) sz)) 4 24 (va_A (wC cy ad I S ++ oLD cy ao aq fo fd) sz) := by
  refine enterH (cc := cL_correct) (by decide) (Nat.le_of_ble_eq_true rfl) ?_
  intro p e s m below meth c hx hb hr hml hown hts hlocks hT hv Q hQ ls hl
  obtain ⟨hC, hsz, hP, hK, hD0, hE, hZ⟩ := hv
  subst hsz
  have hD := hD0.self (sz := s.heap.size)
  generalize hAe : va_A (wC cy ad I S ++ oLD cy ao aq fo fd) s.heap.size = A at hD hQ hZ ⊢
  have hA : ∀ q : Nat, s.heap.size ≤ q → A q := fun q h => by rw [← hAe]; exact Or.inr h
  have hS : va_S A s.heap s.heap [] := va_S.rf
  suffices K_ : ∀ (H : Heap) (locs : List Loc), va_P D clW (wC cy ad I S ++ oLD cy ao aq fo fd) H → va_S A s.heap H locs → W p l e ({ frames := 9, cells := 4, slots := 24, locals := 161 }) s m ([.ref (ad 0), .int x, .int b, .int d, .int v, .ref ao] : List Value).toArray below meth c H locs 0 0 Q (F0 m 0 ls []) from K_ _ _ hP hS
  clear hP hS
  intro H locs hP hS
  have hown : s.vm.findClass RL = some m.cls := hown
  have hl : lv_has ls 7 [(0, .ref (ad 0)), (1, .int x), (2, .int b), (3, .int d), (4, .int v), (5, .ref ao)] := hl
  refine lv_aload hx hb dL_correct_0 (lv_at hl 5 rfl) ?_
  refine lv_iconst (v := 0) hx hb dL_correct_2 (by decide) ?_
  refine lv_aload_n hx hb dL_correct_3 rfl (lv_at hl 0 rfl) ?_
  refine lv_iload_n hx hb dL_correct_4 rfl (lv_at hl 1 rfl) ?_
  refine lv_iload_n hx hb dL_correct_5 rfl (lv_at hl 2 rfl) ?_
  refine lv_iload_n hx hb dL_correct_6 rfl (lv_at hl 3 rfl) ?_
  refine lv_iload hx hb dL_correct_7 (lv_at hl 4 rfl) ?_
  refine xcI_call (vx_runV (As := [.int x, .int b, .int d, .int v]) (rest := [.int 0, .ref ao]) ⟨hx, hb, hml, hown, hts⟩ (c_X6_correct l hl0 D cy ad I S H.size x b d v k n h fr to ofr oto hc) (cw_L_29 hts rfl rfl ⟨Nat.le_of_ble_eq_true rfl, Nat.le_of_ble_eq_true rfl⟩) (preVWX (ci := 6) (q0 := 0) hK hE (hZ.now hS) (blkF (X := []) hD hS hA) (blkY (X := []) hP) (blkYD (X := []) hD) rfl rfl) rfl rfl hl.1 rfl (lv_room (Nat.le_of_ble_eq_true rfl)) dL_correct_9 ⟨Nat.le_of_ble_eq_true rfl, Nat.le_of_ble_eq_true rfl⟩) (Z := oLD cy ao aq fo fd) hP hD hS hA (fun _ => rfl) (fun _ => rfl) (fun E ce q9 ux H locs hpx hP hD hS hce hcv hcl => ?_) (fun r un H locs hr_ hP hD hS => ?_)
  · obtain ⟨I2, S2⟩ := ux
    obtain ⟨hpx, hs⟩ := hpx
    have hP : va_P D clW (wC cy ad I2 S2 ++ oLD cy ao aq fo fd) H := hP
    rcases hpx with ⟨hE9, hpx⟩ | ⟨hE9, hpx⟩ | ⟨hE9, hpx⟩ | ⟨hE9, hpx⟩
    · subst hE9
      refine ct_call (E := eIOO) hown hE [] [(0, 14, 21, 21), (0, 14, 25, 27), (0, 14, 29, 13)] hT ps0 (by decide) (by decide) (hts _ wm_142) (List.mem_of_getElem? (i := 1) rfl) hce hcv hcl ?_
      refine lv_astore (lv' := [(6, .ref q9), (0, .ref (ad 0)), (1, .int x), (2, .int b), (3, .int d), (4, .int v), (5, .ref ao)]) hx hb dL_correct_17 hl (by decide) rfl (fun ls hl => ?_)
      refine lv_iconst (v := 1) hx hb dL_correct_19 (by decide) ?_
      exact wI_ret (I2, S2, fo) hS hP hx hb hr hlocks dL_correct_20 (Nat.le_of_ble_eq_true rfl) (Nat.le_of_ble_eq_true rfl) hQ ⟨0, (Or.inr (Or.inl ⟨rfl, hpx, hs⟩)), fun h0 => absurd h0 (by decide)⟩
    · subst hE9
      refine ct_call (E := eIAE) hown hE [(0, 14, 17, 19)] [(0, 14, 25, 27), (0, 14, 29, 13)] hT (psC ⟨by decide, _, hts _ wm_142, hC _ (List.mem_of_getElem? (i := 2) rfl) _ (List.mem_of_getElem? (i := 1) rfl) (by decide +kernel)⟩ ps0) (by decide) (by decide) (hts _ wm_143) (List.mem_of_getElem? (i := 2) rfl) hce hcv hcl ?_
      refine lv_astore (lv' := [(6, .ref q9), (0, .ref (ad 0)), (1, .int x), (2, .int b), (3, .int d), (4, .int v), (5, .ref ao)]) hx hb dL_correct_21 hl (by decide) rfl (fun ls hl => ?_)
      refine lv_iconst (v := 2) hx hb dL_correct_23 (by decide) ?_
      exact wI_ret (I2, S2, fo) hS hP hx hb hr hlocks dL_correct_24 (Nat.le_of_ble_eq_true rfl) (Nat.le_of_ble_eq_true rfl) hQ ⟨0, (Or.inr (Or.inr (Or.inl ⟨rfl, hpx, hs⟩))), fun h0 => absurd h0 (by decide)⟩
    · subst hE9
      refine ct_call (E := eNSE) hown hE [(0, 14, 17, 19), (0, 14, 21, 21)] [(0, 14, 29, 13)] hT (psC ⟨by decide, _, hts _ wm_142, hC _ (List.mem_of_getElem? (i := 3) rfl) _ (List.mem_of_getElem? (i := 1) rfl) (by decide +kernel)⟩ (psC ⟨by decide, _, hts _ wm_143, hC _ (List.mem_of_getElem? (i := 3) rfl) _ (List.mem_of_getElem? (i := 2) rfl) (by decide +kernel)⟩ ps0)) (by decide) (by decide) (hts _ wm_261) (List.mem_of_getElem? (i := 3) rfl) hce hcv hcl ?_
      refine lv_astore (lv' := [(6, .ref q9), (0, .ref (ad 0)), (1, .int x), (2, .int b), (3, .int d), (4, .int v), (5, .ref ao)]) hx hb dL_correct_25 hl (by decide) rfl (fun ls hl => ?_)
      refine lv_iconst (v := 3) hx hb dL_correct_27 (by decide) ?_
      exact wI_ret (I2, S2, fo) hS hP hx hb hr hlocks dL_correct_28 (Nat.le_of_ble_eq_true rfl) (Nat.le_of_ble_eq_true rfl) hQ ⟨0, (Or.inr (Or.inr (Or.inr (Or.inl ⟨rfl, hpx, hs⟩)))), fun h0 => absurd h0 (by decide)⟩
    · subst hE9
      refine ct_call (E := eISE) hown hE [(0, 14, 17, 19), (0, 14, 21, 21), (0, 14, 25, 27)] [] hT (psC ⟨by decide, _, hts _ wm_142, hC _ (List.mem_of_getElem? (i := 0) rfl) _ (List.mem_of_getElem? (i := 1) rfl) (by decide +kernel)⟩ (psC ⟨by decide, _, hts _ wm_143, hC _ (List.mem_of_getElem? (i := 0) rfl) _ (List.mem_of_getElem? (i := 2) rfl) (by decide +kernel)⟩ (psC ⟨by decide, _, hts _ wm_261, hC _ (List.mem_of_getElem? (i := 0) rfl) _ (List.mem_of_getElem? (i := 3) rfl) (by decide +kernel)⟩ ps0))) (by decide) (by decide) (hts _ wm_110) (List.mem_of_getElem? (i := 0) rfl) hce hcv hcl ?_
      refine lv_astore (lv' := [(6, .ref q9), (0, .ref (ad 0)), (1, .int x), (2, .int b), (3, .int d), (4, .int v), (5, .ref ao)]) hx hb dL_correct_29 hl (by decide) rfl (fun ls hl => ?_)
      refine lv_iconst (v := 4) hx hb dL_correct_31 (by decide) ?_
      exact wI_ret (I2, S2, fo) hS hP hx hb hr hlocks dL_correct_32 (Nat.le_of_ble_eq_true rfl) (Nat.le_of_ble_eq_true rfl) hQ ⟨0, (Or.inr (Or.inr (Or.inr (Or.inr ⟨rfl, hpx, hs⟩)))), fun h0 => absurd h0 (by decide)⟩
  · obtain ⟨I2, S2, k2, j⟩ := un
    obtain ⟨h0, h1, h2, h3, h4, h5, h6, h7, h8, h9, h10⟩ := hr_
    have hP : va_P D clW (wC cy ad (va_up (va_up (va_up I 1 (nI (n + 1))) 2 (nI (k2 + 1))) 3 (I2 3)) (va_up (va_up (va_up (va_up (va_up (va_up (va_up (va_up (va_up (va_up (va_up S 2 (upd (S 2) (n + 1) 99)) 3 (upd (S 3) (n + 1) (slI x b))) 4 (upd (S 4) (n + 1) v)) 5 (upd (S 5) (n + 1) ((S 10) j))) 6 (upd (S 6) (n + 1) ((S 11) j))) 8 (upd (S2 8) k2 (slI x b))) 9 (upd (S2 9) k2 v)) 10 (upd (S2 10) k2 ((S 10) j))) 11 (upd (S2 11) k2 ((S 11) j))) 12 (upd (S2 12) k2 (nI (n + 1)))) 13 (upd (S2 13) k2 (-1))) ++ oLD cy ao aq fo fd) H := hP
    have hD : va_D A (wC cy ad (va_up (va_up (va_up I 1 (nI (n + 1))) 2 (nI (k2 + 1))) 3 (I2 3)) (va_up (va_up (va_up (va_up (va_up (va_up (va_up (va_up (va_up (va_up (va_up S 2 (upd (S 2) (n + 1) 99)) 3 (upd (S 3) (n + 1) (slI x b))) 4 (upd (S 4) (n + 1) v)) 5 (upd (S 5) (n + 1) ((S 10) j))) 6 (upd (S 6) (n + 1) ((S 11) j))) 8 (upd (S2 8) k2 (slI x b))) 9 (upd (S2 9) k2 v)) 10 (upd (S2 10) k2 ((S 10) j))) 11 (upd (S2 11) k2 ((S 11) j))) 12 (upd (S2 12) k2 (nI (n + 1)))) 13 (upd (S2 13) k2 (-1))) ++ oLD cy ao aq fo fd) := hD
    refine lv_i2l (v := r.toInt64) hx hb dL_correct_12 rfl ?_
    refine va_last hx hb hK hP hD hS 29 3 rfl rfl (i := 0) (x := r.toInt64) vp_in01 dL_correct_13 (fun H locs hP hD hS => ?_)
    have hP : va_P D clW (wC cy ad (va_up (va_up (va_up I 1 (nI (n + 1))) 2 (nI (k2 + 1))) 3 (I2 3)) (va_up (va_up (va_up (va_up (va_up (va_up (va_up (va_up (va_up (va_up (va_up S 2 (upd (S 2) (n + 1) 99)) 3 (upd (S 3) (n + 1) (slI x b))) 4 (upd (S 4) (n + 1) v)) 5 (upd (S 5) (n + 1) ((S 10) j))) 6 (upd (S 6) (n + 1) ((S 11) j))) 8 (upd (S2 8) k2 (slI x b))) 9 (upd (S2 9) k2 v)) 10 (upd (S2 10) k2 ((S 10) j))) 11 (upd (S2 11) k2 ((S 11) j))) 12 (upd (S2 12) k2 (nI (n + 1)))) 13 (upd (S2 13) k2 (-1))) ++ oLD cy ao aq (vp_updL fo 0 r.toInt64) fd) H := hP
    refine lv_goto (tgt := 33) hx hb dL_correct_14 (by decide) ?_
    refine lv_iconst (v := 0) hx hb dL_correct_33 (by decide) ?_
    exact wI_ret ((va_up (va_up (va_up I 1 (nI (n + 1))) 2 (nI (k2 + 1))) 3 (I2 3)), (va_up (va_up (va_up (va_up (va_up (va_up (va_up (va_up (va_up (va_up (va_up S 2 (upd (S 2) (n + 1) 99)) 3 (upd (S 3) (n + 1) (slI x b))) 4 (upd (S 4) (n + 1) v)) 5 (upd (S 5) (n + 1) ((S 10) j))) 6 (upd (S 6) (n + 1) ((S 11) j))) 8 (upd (S2 8) k2 (slI x b))) 9 (upd (S2 9) k2 v)) 10 (upd (S2 10) k2 ((S 10) j))) 11 (upd (S2 11) k2 ((S 11) j))) 12 (upd (S2 12) k2 (nI (n + 1)))) 13 (upd (S2 13) k2 (-1))), (vp_updL fo 0 r.toInt64)) hS hP hx hb hr hlocks dL_correct_34 (Nat.le_of_ble_eq_true rfl) (Nat.le_of_ble_eq_true rfl) hQ ⟨r, Or.inl ⟨rfl, I2, S2, k2, j, h0, h1, h2, h3, h4, h5, h6, h7, h8, h9, h10, rfl, rfl⟩, fun _ => rfl⟩

set_option maxHeartbeats 4000000 in
set_option maxRecDepth 100000 in
theorem c_L_operationAt (l : Launch) (hl0 : l.stackTraces = false) (D : va_G) (cy : Nat → ClassId) (ad : Nat → Nat) (I : AI) (S : AS) (sz : Nat) (t : Int32) (k : Nat) (n : Nat) (h : Nat) (fr : Nat → Nat) (to : Nat → Nat) (ofr : Nat → Nat) (oto : Nat → Nat) (hc : CIv I S k n h fr to ofr oto) (ao : Nat) (aq : Nat) (fo : Nat → Int64) (fd : Nat → UInt64) : Met l yL_operationAt (Cond.codeWith yL_operationAt cL_operationAt 4 (some .int) [(0, 9, 12, 21)] :: wsL_law) ({ frames := 8, cells := 1, slots := 6, locals := 132 }) (va_Pc [.ref (ad 0), .int t, .ref ao] (lwB D cy (wC cy ad I S ++ oLD cy ao aq fo fd) sz)) (va_Qi (S := AI × AS × (Nat → Int64)) (fun r u => ∃ val : Int32, ((r = 0 ∧ opP (I 1) t ∧ val = S 2 t.toNatClampNeg) ∨ (r = 1 ∧ ¬ opP (I 1) t)) ∧ scr I S u.1 u.2.1 ∧ (r = 0 → u.2.2 0 = val.toInt64)) (fun u t9 => va_P D clW (wC cy ad u.1 u.2.1 ++ oLD cy ao aq u.2.2 fd) t9.heap) (va_A (wC cy ad I S ++ oLD cy ao aq fo fd) sz)) 1 6 (va_A (wC cy ad I S ++ oLD cy ao aq fo fd) sz) := by
  refine enterH (cc := cL_operationAt) (by decide) (Nat.le_of_ble_eq_true rfl) ?_
  intro p e s m below meth c hx hb hr hml hown hts hlocks hT hv Q hQ ls hl
  obtain ⟨hC, hsz, hP, hK, hD0, hE, hZ⟩ := hv
  subst hsz
  have hD := hD0.self (sz := s.heap.size)
  generalize hAe : va_A (wC cy ad I S ++ oLD cy ao aq fo fd) s.heap.size = A at hD hQ hZ ⊢
  have hA : ∀ q : Nat, s.heap.size ≤ q → A q := fun q h => by rw [← hAe]; exact Or.inr h
  have hS : va_S A s.heap s.heap [] := va_S.rf
  suffices K_ : ∀ (H : Heap) (locs : List Loc), va_P D clW (wC cy ad I S ++ oLD cy ao aq fo fd) H → va_S A s.heap H locs → W p l e ({ frames := 8, cells := 1, slots := 6, locals := 132 }) s m ([.ref (ad 0), .int t, .ref ao] : List Value).toArray below meth c H locs 0 0 Q (F0 m 0 ls []) from K_ _ _ hP hS
  clear hP hS
  intro H locs hP hS
  have hown : s.vm.findClass RL = some m.cls := hown
  have hl : lv_has ls 4 [(0, .ref (ad 0)), (1, .int t), (2, .ref ao)] := hl
  refine lv_aload_n hx hb dL_operationAt_0 rfl (lv_at hl 2 rfl) ?_
  refine lv_iconst (v := 0) hx hb dL_operationAt_1 (by decide) ?_
  refine lv_aload_n hx hb dL_operationAt_2 rfl (lv_at hl 0 rfl) ?_
  refine lv_iload_n hx hb dL_operationAt_3 rfl (lv_at hl 1 rfl) ?_
  refine xrI_call (vx_runV (As := [.int t]) (rest := [.int 0, .ref ao]) ⟨hx, hb, hml, hown, hts⟩ (c_X6_operationAt l hl0 D cy ad I S t k n h fr to ofr oto hc) (cw_L_32 hts rfl rfl ⟨Nat.le_of_ble_eq_true rfl, Nat.le_of_ble_eq_true rfl⟩) (preVRX (ci := 6) (q0 := 0) hK hE (hZ.now hS).no (blkY (X := []) hP) rfl rfl) rfl rfl hl.1 rfl (lv_room (Nat.le_of_ble_eq_true rfl)) dL_operationAt_4 ⟨Nat.le_of_ble_eq_true rfl, Nat.le_of_ble_eq_true rfl⟩) (fun E ce q9 H1 hpx hz hk9 hce hcv hcl => ?_) (fun r hr_ => ?_)
  · have hP := keptP_all hP hk9
    have hS := keptS_all hS hz hk9
    obtain ⟨hE9, hpx⟩ := hpx
    subst hE9
    refine ct_call (E := eIAE) hown hE [] [] hT ps0 (by decide) (by decide) (hts _ wm_143) (List.mem_of_getElem? (i := 2) rfl) hce hcv hcl ?_
    refine lv_astore_n (lv' := [(3, .ref q9), (0, .ref (ad 0)), (1, .int t), (2, .ref ao)]) hx hb dL_operationAt_12 rfl hl (by decide) rfl (fun ls hl => ?_)
    refine lv_iconst (v := 1) hx hb dL_operationAt_13 (by decide) ?_
    exact wI_ret (I, S, fo) hS hP hx hb hr hlocks dL_operationAt_14 (Nat.le_of_ble_eq_true rfl) (Nat.le_of_ble_eq_true rfl) hQ ⟨0, (Or.inr ⟨rfl, hpx⟩), (scr_0 I S), fun h0 => absurd h0 (by decide)⟩
  · refine lv_i2l (v := r.toInt64) hx hb dL_operationAt_7 rfl ?_
    refine va_last hx hb hK hP hD hS 29 3 rfl rfl (i := 0) (x := r.toInt64) vp_in01 dL_operationAt_8 (fun H locs hP hD hS => ?_)
    have hP : va_P D clW (wC cy ad I S ++ oLD cy ao aq (vp_updL fo 0 r.toInt64) fd) H := hP
    refine lv_goto (tgt := 15) hx hb dL_operationAt_9 (by decide) ?_
    refine lv_iconst (v := 0) hx hb dL_operationAt_15 (by decide) ?_
    exact wI_ret (I, S, (vp_updL fo 0 r.toInt64)) hS hP hx hb hr hlocks dL_operationAt_16 (Nat.le_of_ble_eq_true rfl) (Nat.le_of_ble_eq_true rfl) hQ ⟨r, Or.inl ⟨rfl, hr_⟩, (scr_0 I S), fun _ => rfl⟩

set_option maxHeartbeats 4000000 in
set_option maxRecDepth 100000 in
theorem c_L_entityOf (l : Launch) (hl0 : l.stackTraces = false) (D : va_G) (cy : Nat → ClassId) (ad : Nat → Nat) (I : AI) (S : AS) (sz : Nat) (t : Int32) (k : Nat) (n : Nat) (h : Nat) (fr : Nat → Nat) (to : Nat → Nat) (ofr : Nat → Nat) (oto : Nat → Nat) (hc : CIv I S k n h fr to ofr oto) (ao : Nat) (aq : Nat) (fo : Nat → Int64) (fd : Nat → UInt64) : Met l yL_entityOf (Cond.codeWith yL_entityOf cL_entityOf 4 (some .int) [(0, 9, 12, 21)] :: wsL_law) ({ frames := 8, cells := 1, slots := 6, locals := 132 }) (va_Pc [.ref (ad 0), .int t, .ref ao] (lwB D cy (wC cy ad I S ++ oLD cy ao aq fo fd) sz)) (va_Qi (S := AI × AS × (Nat → Int64)) (fun r u => ∃ val : Int32, ((r = 0 ∧ opP (I 1) t ∧ val = S 3 t.toNatClampNeg / 3) ∨ (r = 1 ∧ ¬ opP (I 1) t)) ∧ scr I S u.1 u.2.1 ∧ (r = 0 → u.2.2 0 = val.toInt64)) (fun u t9 => va_P D clW (wC cy ad u.1 u.2.1 ++ oLD cy ao aq u.2.2 fd) t9.heap) (va_A (wC cy ad I S ++ oLD cy ao aq fo fd) sz)) 1 6 (va_A (wC cy ad I S ++ oLD cy ao aq fo fd) sz) := by
  refine enterH (cc := cL_entityOf) (by decide) (Nat.le_of_ble_eq_true rfl) ?_
  intro p e s m below meth c hx hb hr hml hown hts hlocks hT hv Q hQ ls hl
  obtain ⟨hC, hsz, hP, hK, hD0, hE, hZ⟩ := hv
  subst hsz
  have hD := hD0.self (sz := s.heap.size)
  generalize hAe : va_A (wC cy ad I S ++ oLD cy ao aq fo fd) s.heap.size = A at hD hQ hZ ⊢
  have hA : ∀ q : Nat, s.heap.size ≤ q → A q := fun q h => by rw [← hAe]; exact Or.inr h
  have hS : va_S A s.heap s.heap [] := va_S.rf
  suffices K_ : ∀ (H : Heap) (locs : List Loc), va_P D clW (wC cy ad I S ++ oLD cy ao aq fo fd) H → va_S A s.heap H locs → W p l e ({ frames := 8, cells := 1, slots := 6, locals := 132 }) s m ([.ref (ad 0), .int t, .ref ao] : List Value).toArray below meth c H locs 0 0 Q (F0 m 0 ls []) from K_ _ _ hP hS
  clear hP hS
  intro H locs hP hS
  have hown : s.vm.findClass RL = some m.cls := hown
  have hl : lv_has ls 4 [(0, .ref (ad 0)), (1, .int t), (2, .ref ao)] := hl
  refine lv_aload_n hx hb dL_entityOf_0 rfl (lv_at hl 2 rfl) ?_
  refine lv_iconst (v := 0) hx hb dL_entityOf_1 (by decide) ?_
  refine lv_aload_n hx hb dL_entityOf_2 rfl (lv_at hl 0 rfl) ?_
  refine lv_iload_n hx hb dL_entityOf_3 rfl (lv_at hl 1 rfl) ?_
  refine xrI_call (vx_runV (As := [.int t]) (rest := [.int 0, .ref ao]) ⟨hx, hb, hml, hown, hts⟩ (c_X6_entityOf l hl0 D cy ad I S t k n h fr to ofr oto hc) (cw_L_36 hts rfl rfl ⟨Nat.le_of_ble_eq_true rfl, Nat.le_of_ble_eq_true rfl⟩) (preVRX (ci := 6) (q0 := 0) hK hE (hZ.now hS).no (blkY (X := []) hP) rfl rfl) rfl rfl hl.1 rfl (lv_room (Nat.le_of_ble_eq_true rfl)) dL_entityOf_4 ⟨Nat.le_of_ble_eq_true rfl, Nat.le_of_ble_eq_true rfl⟩) (fun E ce q9 H1 hpx hz hk9 hce hcv hcl => ?_) (fun r hr_ => ?_)
  · have hP := keptP_all hP hk9
    have hS := keptS_all hS hz hk9
    obtain ⟨hE9, hpx⟩ := hpx
    subst hE9
    refine ct_call (E := eIAE) hown hE [] [] hT ps0 (by decide) (by decide) (hts _ wm_143) (List.mem_of_getElem? (i := 2) rfl) hce hcv hcl ?_
    refine lv_astore_n (lv' := [(3, .ref q9), (0, .ref (ad 0)), (1, .int t), (2, .ref ao)]) hx hb dL_entityOf_12 rfl hl (by decide) rfl (fun ls hl => ?_)
    refine lv_iconst (v := 1) hx hb dL_entityOf_13 (by decide) ?_
    exact wI_ret (I, S, fo) hS hP hx hb hr hlocks dL_entityOf_14 (Nat.le_of_ble_eq_true rfl) (Nat.le_of_ble_eq_true rfl) hQ ⟨0, (Or.inr ⟨rfl, hpx⟩), (scr_0 I S), fun h0 => absurd h0 (by decide)⟩
  · refine lv_i2l (v := r.toInt64) hx hb dL_entityOf_7 rfl ?_
    refine va_last hx hb hK hP hD hS 29 3 rfl rfl (i := 0) (x := r.toInt64) vp_in01 dL_entityOf_8 (fun H locs hP hD hS => ?_)
    have hP : va_P D clW (wC cy ad I S ++ oLD cy ao aq (vp_updL fo 0 r.toInt64) fd) H := hP
    refine lv_goto (tgt := 15) hx hb dL_entityOf_9 (by decide) ?_
    refine lv_iconst (v := 0) hx hb dL_entityOf_15 (by decide) ?_
    exact wI_ret (I, S, (vp_updL fo 0 r.toInt64)) hS hP hx hb hr hlocks dL_entityOf_16 (Nat.le_of_ble_eq_true rfl) (Nat.le_of_ble_eq_true rfl) hQ ⟨r, Or.inl ⟨rfl, hr_⟩, (scr_0 I S), fun _ => rfl⟩

set_option maxHeartbeats 4000000 in
set_option maxRecDepth 100000 in
theorem c_L_factValue (l : Launch) (hl0 : l.stackTraces = false) (D : va_G) (cy : Nat → ClassId) (ad : Nat → Nat) (I : AI) (S : AS) (sz : Nat) (x : Int32) (k : Nat) (n : Nat) (h : Nat) (fr : Nat → Nat) (to : Nat → Nat) (ofr : Nat → Nat) (oto : Nat → Nat) (hc : CIv I S k n h fr to ofr oto) (ao : Nat) (aq : Nat) (fo : Nat → Int64) (fd : Nat → UInt64) : Met l yL_factValue (Cond.codeWith yL_factValue cL_factValue 4 (some .int) [(0, 9, 12, 27)] :: wsL_law) ({ frames := 8, cells := 1, slots := 6, locals := 132 }) (va_Pc [.ref (ad 0), .int x, .ref ao] (lwB D cy (wC cy ad I S ++ oLD cy ao aq fo fd) sz)) (va_Qi (S := AI × AS × (Nat → Int64)) (fun r u => ∃ val : Int32, ((r = 0 ∧ keptP S k (I 3) x ∧ val = S 9 x.toNatClampNeg) ∨ (r = 1 ∧ ¬ keptP S k (I 3) x)) ∧ scr I S u.1 u.2.1 ∧ (r = 0 → u.2.2 0 = val.toInt64)) (fun u t9 => va_P D clW (wC cy ad u.1 u.2.1 ++ oLD cy ao aq u.2.2 fd) t9.heap) (va_A (wC cy ad I S ++ oLD cy ao aq fo fd) sz)) 1 6 (va_A (wC cy ad I S ++ oLD cy ao aq fo fd) sz) := by
  refine enterH (cc := cL_factValue) (by decide) (Nat.le_of_ble_eq_true rfl) ?_
  intro p e s m below meth c hx hb hr hml hown hts hlocks hT hv Q hQ ls hl
  obtain ⟨hC, hsz, hP, hK, hD0, hE, hZ⟩ := hv
  subst hsz
  have hD := hD0.self (sz := s.heap.size)
  generalize hAe : va_A (wC cy ad I S ++ oLD cy ao aq fo fd) s.heap.size = A at hD hQ hZ ⊢
  have hA : ∀ q : Nat, s.heap.size ≤ q → A q := fun q h => by rw [← hAe]; exact Or.inr h
  have hS : va_S A s.heap s.heap [] := va_S.rf
  suffices K_ : ∀ (H : Heap) (locs : List Loc), va_P D clW (wC cy ad I S ++ oLD cy ao aq fo fd) H → va_S A s.heap H locs → W p l e ({ frames := 8, cells := 1, slots := 6, locals := 132 }) s m ([.ref (ad 0), .int x, .ref ao] : List Value).toArray below meth c H locs 0 0 Q (F0 m 0 ls []) from K_ _ _ hP hS
  clear hP hS
  intro H locs hP hS
  have hown : s.vm.findClass RL = some m.cls := hown
  have hl : lv_has ls 4 [(0, .ref (ad 0)), (1, .int x), (2, .ref ao)] := hl
  refine lv_aload_n hx hb dL_factValue_0 rfl (lv_at hl 2 rfl) ?_
  refine lv_iconst (v := 0) hx hb dL_factValue_1 (by decide) ?_
  refine lv_aload_n hx hb dL_factValue_2 rfl (lv_at hl 0 rfl) ?_
  refine lv_iload_n hx hb dL_factValue_3 rfl (lv_at hl 1 rfl) ?_
  refine xrI_call (vx_runV (As := [.int x]) (rest := [.int 0, .ref ao]) ⟨hx, hb, hml, hown, hts⟩ (c_X6_factValue l hl0 D cy ad I S x k n h fr to ofr oto hc) (cw_L_40 hts rfl rfl ⟨Nat.le_of_ble_eq_true rfl, Nat.le_of_ble_eq_true rfl⟩) (preVRX (ci := 6) (q0 := 0) hK hE (hZ.now hS).no (blkY (X := []) hP) rfl rfl) rfl rfl hl.1 rfl (lv_room (Nat.le_of_ble_eq_true rfl)) dL_factValue_4 ⟨Nat.le_of_ble_eq_true rfl, Nat.le_of_ble_eq_true rfl⟩) (fun E ce q9 H1 hpx hz hk9 hce hcv hcl => ?_) (fun r hr_ => ?_)
  · have hP := keptP_all hP hk9
    have hS := keptS_all hS hz hk9
    obtain ⟨hE9, hpx⟩ := hpx
    subst hE9
    refine ct_call (E := eNSE) hown hE [] [] hT ps0 (by decide) (by decide) (hts _ wm_261) (List.mem_of_getElem? (i := 3) rfl) hce hcv hcl ?_
    refine lv_astore_n (lv' := [(3, .ref q9), (0, .ref (ad 0)), (1, .int x), (2, .ref ao)]) hx hb dL_factValue_12 rfl hl (by decide) rfl (fun ls hl => ?_)
    refine lv_iconst (v := 1) hx hb dL_factValue_13 (by decide) ?_
    exact wI_ret (I, S, fo) hS hP hx hb hr hlocks dL_factValue_14 (Nat.le_of_ble_eq_true rfl) (Nat.le_of_ble_eq_true rfl) hQ ⟨0, (Or.inr ⟨rfl, hpx⟩), (scr_0 I S), fun h0 => absurd h0 (by decide)⟩
  · refine lv_i2l (v := r.toInt64) hx hb dL_factValue_7 rfl ?_
    refine va_last hx hb hK hP hD hS 29 3 rfl rfl (i := 0) (x := r.toInt64) vp_in01 dL_factValue_8 (fun H locs hP hD hS => ?_)
    have hP : va_P D clW (wC cy ad I S ++ oLD cy ao aq (vp_updL fo 0 r.toInt64) fd) H := hP
    refine lv_goto (tgt := 15) hx hb dL_factValue_9 (by decide) ?_
    refine lv_iconst (v := 0) hx hb dL_factValue_15 (by decide) ?_
    exact wI_ret (I, S, (vp_updL fo 0 r.toInt64)) hS hP hx hb hr hlocks dL_factValue_16 (Nat.le_of_ble_eq_true rfl) (Nat.le_of_ble_eq_true rfl) hQ ⟨r, Or.inl ⟨rfl, hr_⟩, (scr_0 I S), fun _ => rfl⟩
