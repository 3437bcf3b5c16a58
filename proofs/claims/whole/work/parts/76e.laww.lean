/-! the law: its wrappers, 5 -/
set_option maxHeartbeats 4000000 in
set_option maxRecDepth 100000 in
theorem c_L_agreeDays (l : Launch) (hl0 : l.stackTraces = false) (D : va_G) (cy : Nat → ClassId) (ad : Nat → Nat) (I : AI) (S : AS) (sz : Nat) (x : Int32) (b : Int32) (x2 : Int32) (b2 : Int32) (t : Int32) (k : Nat) (n : Nat) (h : Nat) (fr : Nat → Nat) (to : Nat → Nat) (ofr : Nat → Nat) (oto : Nat → Nat) (hc : CIv I S k n h fr to ofr oto) (ao : Nat) (aq : Nat) (fo : Nat → Int64) (fd : Nat → UInt64) : Met l yL_agreeDays (Cond.codeWith yL_agreeDays cL_agreeDays 8 (some .int) [(0, 16, 19, 19), (0, 16, 23, 21), (0, 16, 27, 62)] :: wsL_law) ({ frames := 10, cells := 4, slots := 24, locals := 183 }) (va_Pc [.ref (ad 0), .int x, .int b, .int x2, .int b2, .int t, .ref ao] (lwB D cy (wC cy ad I S ++ oLD cy ao aq fo fd) sz)) (va_Qi (S := AI × AS × (Nat → Int64)) (fun r u => ∃ val : Int32, ((r = 0 ∧ val = caN (rdKN S (slI x b) t fr to (S 17) k) (rdVN S (slI x b) t fr to (S 18) k) (rdKN S (slI x2 b2) t fr to (S 20) k) (rdVN S (slI x2 b2) t fr to (S 21) k) 100 ∧ jc I x b x2 b2 t) ∨ (r = 1 ∧ jx I x b x2 b2 t eIOO) ∨ (r = 2 ∧ jx I x b x2 b2 t eIAE) ∨ (r = 3 ∧ jx I x b x2 b2 t eUOE)) ∧ scr I S u.1 u.2.1 ∧ (r = 0 → u.2.2 0 = val.toInt64)) (fun u t9 => va_P D clW (wC cy ad u.1 u.2.1 ++ oLD cy ao aq u.2.2 fd) t9.heap) (va_A (wC cy ad I S ++ oLD cy ao aq fo fd) sz)) 4 24 (va_A (wC cy ad I S ++ oLD cy ao aq fo fd) sz) := by
  refine enterH (cc := cL_agreeDays) (by decide) (Nat.le_of_ble_eq_true rfl) ?_
  intro p e s m below meth c hx hb hr hml hown hts hlocks hT hv Q hQ ls hl
  obtain ⟨hC, hsz, hP, hK, hD0, hE, hZ⟩ := hv
  subst hsz
  have hD := hD0.self (sz := s.heap.size)
  generalize hAe : va_A (wC cy ad I S ++ oLD cy ao aq fo fd) s.heap.size = A at hD hQ hZ ⊢
  have hA : ∀ q : Nat, s.heap.size ≤ q → A q := fun q h => by rw [← hAe]; exact Or.inr h
  have hS : va_S A s.heap s.heap [] := va_S.rf
  suffices K_ : ∀ (H : Heap) (locs : List Loc), va_P D clW (wC cy ad I S ++ oLD cy ao aq fo fd) H → va_S A s.heap H locs → W p l e ({ frames := 10, cells := 4, slots := 24, locals := 183 }) s m ([.ref (ad 0), .int x, .int b, .int x2, .int b2, .int t, .ref ao] : List Value).toArray below meth c H locs 0 0 Q (F0 m 0 ls []) from K_ _ _ hP hS
  clear hP hS
  intro H locs hP hS
  have hown : s.vm.findClass RL = some m.cls := hown
  have hl : lv_has ls 8 [(0, .ref (ad 0)), (1, .int x), (2, .int b), (3, .int x2), (4, .int b2), (5, .int t), (6, .ref ao)] := hl
  refine lv_aload hx hb dL_agreeDays_0 (lv_at hl 6 rfl) ?_
  refine lv_iconst (v := 0) hx hb dL_agreeDays_2 (by decide) ?_
  refine lv_aload_n hx hb dL_agreeDays_3 rfl (lv_at hl 0 rfl) ?_
  refine lv_iload_n hx hb dL_agreeDays_4 rfl (lv_at hl 1 rfl) ?_
  refine lv_iload_n hx hb dL_agreeDays_5 rfl (lv_at hl 2 rfl) ?_
  refine lv_iload_n hx hb dL_agreeDays_6 rfl (lv_at hl 3 rfl) ?_
  refine lv_iload hx hb dL_agreeDays_7 (lv_at hl 4 rfl) ?_
  refine lv_iload hx hb dL_agreeDays_9 (lv_at hl 5 rfl) ?_
  refine xcI_call (vx_runV (As := [.int x, .int b, .int x2, .int b2, .int t]) (rest := [.int 0, .ref ao]) ⟨hx, hb, hml, hown, hts⟩ (c_X6_agreeDays l hl0 D cy ad I S H.size x b x2 b2 t k n h fr to ofr oto hc) (cw_L_115 hts rfl rfl ⟨Nat.le_of_ble_eq_true rfl, Nat.le_of_ble_eq_true rfl⟩) (preVWX (ci := 6) (q0 := 0) hK hE (hZ.now hS) (blkF (X := []) hD hS hA) (blkY (X := []) hP) (blkYD (X := []) hD) rfl rfl) rfl rfl hl.1 rfl (lv_room (Nat.le_of_ble_eq_true rfl)) dL_agreeDays_11 ⟨Nat.le_of_ble_eq_true rfl, Nat.le_of_ble_eq_true rfl⟩) (Z := oLD cy ao aq fo fd) hP hD hS hA (fun _ => rfl) (fun _ => rfl) (fun E ce q9 ux H locs hpx hP hD hS hce hcv hcl => ?_) (fun r un H locs hr_ hP hD hS => ?_)
  · obtain ⟨I2, S2⟩ := ux
    obtain ⟨hpx, hs⟩ := hpx
    have hP : va_P D clW (wC cy ad I2 S2 ++ oLD cy ao aq fo fd) H := hP
    rcases jx_E hpx with hE9 | hE9 | hE9
    · subst hE9
      refine ct_call (E := eIOO) hown hE [] [(0, 16, 23, 21), (0, 16, 27, 62)] hT ps0 (by decide) (by decide) (hts _ wm_142) (List.mem_of_getElem? (i := 1) rfl) hce hcv hcl ?_
      refine lv_astore (lv' := [(7, .ref q9), (0, .ref (ad 0)), (1, .int x), (2, .int b), (3, .int x2), (4, .int b2), (5, .int t), (6, .ref ao)]) hx hb dL_agreeDays_19 hl (by decide) rfl (fun ls hl => ?_)
      refine lv_iconst (v := 1) hx hb dL_agreeDays_21 (by decide) ?_
      exact wI_ret (I2, S2, fo) hS hP hx hb hr hlocks dL_agreeDays_22 (Nat.le_of_ble_eq_true rfl) (Nat.le_of_ble_eq_true rfl) hQ ⟨0, (Or.inr (Or.inl ⟨rfl, hpx⟩)), hs, fun h0 => absurd h0 (by decide)⟩
    · subst hE9
      refine ct_call (E := eIAE) hown hE [(0, 16, 19, 19)] [(0, 16, 27, 62)] hT (psC ⟨by decide, _, hts _ wm_142, hC _ (List.mem_of_getElem? (i := 2) rfl) _ (List.mem_of_getElem? (i := 1) rfl) (by decide +kernel)⟩ ps0) (by decide) (by decide) (hts _ wm_143) (List.mem_of_getElem? (i := 2) rfl) hce hcv hcl ?_
      refine lv_astore (lv' := [(7, .ref q9), (0, .ref (ad 0)), (1, .int x), (2, .int b), (3, .int x2), (4, .int b2), (5, .int t), (6, .ref ao)]) hx hb dL_agreeDays_23 hl (by decide) rfl (fun ls hl => ?_)
      refine lv_iconst (v := 2) hx hb dL_agreeDays_25 (by decide) ?_
      exact wI_ret (I2, S2, fo) hS hP hx hb hr hlocks dL_agreeDays_26 (Nat.le_of_ble_eq_true rfl) (Nat.le_of_ble_eq_true rfl) hQ ⟨0, (Or.inr (Or.inr (Or.inl ⟨rfl, hpx⟩))), hs, fun h0 => absurd h0 (by decide)⟩
    · subst hE9
      refine ct_call (E := eUOE) hown hE [(0, 16, 19, 19), (0, 16, 23, 21)] [] hT (psC ⟨by decide, _, hts _ wm_142, hC _ (List.mem_of_getElem? (i := 4) rfl) _ (List.mem_of_getElem? (i := 1) rfl) (by decide +kernel)⟩ (psC ⟨by decide, _, hts _ wm_143, hC _ (List.mem_of_getElem? (i := 4) rfl) _ (List.mem_of_getElem? (i := 2) rfl) (by decide +kernel)⟩ ps0)) (by decide) (by decide) (hts _ wm_489) (List.mem_of_getElem? (i := 4) rfl) hce hcv hcl ?_
      refine lv_astore (lv' := [(7, .ref q9), (0, .ref (ad 0)), (1, .int x), (2, .int b), (3, .int x2), (4, .int b2), (5, .int t), (6, .ref ao)]) hx hb dL_agreeDays_27 hl (by decide) rfl (fun ls hl => ?_)
      refine lv_iconst (v := 3) hx hb dL_agreeDays_29 (by decide) ?_
      exact wI_ret (I2, S2, fo) hS hP hx hb hr hlocks dL_agreeDays_30 (Nat.le_of_ble_eq_true rfl) (Nat.le_of_ble_eq_true rfl) hQ ⟨0, (Or.inr (Or.inr (Or.inr ⟨rfl, hpx⟩))), hs, fun h0 => absurd h0 (by decide)⟩
  · obtain ⟨I2, S2⟩ := un
    obtain ⟨h0, h1, h2⟩ := hr_
    have hP : va_P D clW (wC cy ad I2 S2 ++ oLD cy ao aq fo fd) H := hP
    have hD : va_D A (wC cy ad I2 S2 ++ oLD cy ao aq fo fd) := hD
    refine lv_i2l (v := r.toInt64) hx hb dL_agreeDays_14 rfl ?_
    refine va_last hx hb hK hP hD hS 29 3 rfl rfl (i := 0) (x := r.toInt64) vp_in01 dL_agreeDays_15 (fun H locs hP hD hS => ?_)
    have hP : va_P D clW (wC cy ad I2 S2 ++ oLD cy ao aq (vp_updL fo 0 r.toInt64) fd) H := hP
    refine lv_goto (tgt := 31) hx hb dL_agreeDays_16 (by decide) ?_
    refine lv_iconst (v := 0) hx hb dL_agreeDays_31 (by decide) ?_
    exact wI_ret (I2, S2, (vp_updL fo 0 r.toInt64)) hS hP hx hb hr hlocks dL_agreeDays_32 (Nat.le_of_ble_eq_true rfl) (Nat.le_of_ble_eq_true rfl) hQ ⟨r, Or.inl ⟨rfl, h0, h1⟩, h2, fun _ => rfl⟩

set_option maxHeartbeats 4000000 in
set_option maxRecDepth 100000 in
theorem c_L_versionCount (l : Launch) (hl0 : l.stackTraces = false) (D : va_G) (cy : Nat → ClassId) (ad : Nat → Nat) (I : AI) (S : AS) (sz : Nat) (x : Int32) (b : Int32) (d : Int32) (k : Nat) (n : Nat) (h : Nat) (fr : Nat → Nat) (to : Nat → Nat) (ofr : Nat → Nat) (oto : Nat → Nat) (hc : CIv I S k n h fr to ofr oto) (ao : Nat) (aq : Nat) (fo : Nat → Int64) (fd : Nat → UInt64) : Met l yL_versionCount (Cond.codeWith yL_versionCount cL_versionCount 6 (some .int) [(0, 12, 15, 19), (0, 12, 19, 21)] :: wsL_law) ({ frames := 10, cells := 2, slots := 12, locals := 179 }) (va_Pc [.ref (ad 0), .int x, .int b, .int d, .ref ao] (lwB D cy (wC cy ad I S ++ oLD cy ao aq fo fd) sz)) (va_Qi (S := AI × AS × (Nat → Int64)) (fun r u => ∃ val : Int32, ((r = 0 ∧ val = nI (vqS S (slI x b) d k h n).1 ∧ qc I x b d) ∨ (r = 1 ∧ qx I x b d eIOO) ∨ (r = 2 ∧ qx I x b d eIAE)) ∧ scr I S u.1 u.2.1 ∧ (r = 0 → u.2.2 0 = val.toInt64)) (fun u t9 => va_P D clW (wC cy ad u.1 u.2.1 ++ oLD cy ao aq u.2.2 fd) t9.heap) (va_A (wC cy ad I S ++ oLD cy ao aq fo fd) sz)) 2 12 (va_A (wC cy ad I S ++ oLD cy ao aq fo fd) sz) := by
  refine enterH (cc := cL_versionCount) (by decide) (Nat.le_of_ble_eq_true rfl) ?_
  intro p e s m below meth c hx hb hr hml hown hts hlocks hT hv Q hQ ls hl
  obtain ⟨hC, hsz, hP, hK, hD0, hE, hZ⟩ := hv
  subst hsz
  have hD := hD0.self (sz := s.heap.size)
  generalize hAe : va_A (wC cy ad I S ++ oLD cy ao aq fo fd) s.heap.size = A at hD hQ hZ ⊢
  have hA : ∀ q : Nat, s.heap.size ≤ q → A q := fun q h => by rw [← hAe]; exact Or.inr h
  have hS : va_S A s.heap s.heap [] := va_S.rf
  suffices K_ : ∀ (H : Heap) (locs : List Loc), va_P D clW (wC cy ad I S ++ oLD cy ao aq fo fd) H → va_S A s.heap H locs → W p l e ({ frames := 10, cells := 2, slots := 12, locals := 179 }) s m ([.ref (ad 0), .int x, .int b, .int d, .ref ao] : List Value).toArray below meth c H locs 0 0 Q (F0 m 0 ls []) from K_ _ _ hP hS
  clear hP hS
  intro H locs hP hS
  have hown : s.vm.findClass RL = some m.cls := hown
  have hl : lv_has ls 6 [(0, .ref (ad 0)), (1, .int x), (2, .int b), (3, .int d), (4, .ref ao)] := hl
  refine lv_aload hx hb dL_versionCount_0 (lv_at hl 4 rfl) ?_
  refine lv_iconst (v := 0) hx hb dL_versionCount_2 (by decide) ?_
  refine lv_aload_n hx hb dL_versionCount_3 rfl (lv_at hl 0 rfl) ?_
  refine lv_iload_n hx hb dL_versionCount_4 rfl (lv_at hl 1 rfl) ?_
  refine lv_iload_n hx hb dL_versionCount_5 rfl (lv_at hl 2 rfl) ?_
  refine lv_iload_n hx hb dL_versionCount_6 rfl (lv_at hl 3 rfl) ?_
  refine xcI_call (vx_runV (As := [.int x, .int b, .int d]) (rest := [.int 0, .ref ao]) ⟨hx, hb, hml, hown, hts⟩ (c_X6_versionCount l hl0 D cy ad I S H.size x b d k n h fr to ofr oto hc) (cw_L_118 hts rfl rfl ⟨Nat.le_of_ble_eq_true rfl, Nat.le_of_ble_eq_true rfl⟩) (preVWX (ci := 6) (q0 := 0) hK hE (hZ.now hS) (blkF (X := []) hD hS hA) (blkY (X := []) hP) (blkYD (X := []) hD) rfl rfl) rfl rfl hl.1 rfl (lv_room (Nat.le_of_ble_eq_true rfl)) dL_versionCount_7 ⟨Nat.le_of_ble_eq_true rfl, Nat.le_of_ble_eq_true rfl⟩) (Z := oLD cy ao aq fo fd) hP hD hS hA (fun _ => rfl) (fun _ => rfl) (fun E ce q9 ux H locs hpx hP hD hS hce hcv hcl => ?_) (fun r un H locs hr_ hP hD hS => ?_)
  · obtain ⟨I2, S2⟩ := ux
    obtain ⟨hpx, hs⟩ := hpx
    have hP : va_P D clW (wC cy ad I2 S2 ++ oLD cy ao aq fo fd) H := hP
    rcases qx_E hpx with hE9 | hE9
    · subst hE9
      refine ct_call (E := eIOO) hown hE [] [(0, 12, 19, 21)] hT ps0 (by decide) (by decide) (hts _ wm_142) (List.mem_of_getElem? (i := 1) rfl) hce hcv hcl ?_
      refine lv_astore (lv' := [(5, .ref q9), (0, .ref (ad 0)), (1, .int x), (2, .int b), (3, .int d), (4, .ref ao)]) hx hb dL_versionCount_15 hl (by decide) rfl (fun ls hl => ?_)
      refine lv_iconst (v := 1) hx hb dL_versionCount_17 (by decide) ?_
      exact wI_ret (I2, S2, fo) hS hP hx hb hr hlocks dL_versionCount_18 (Nat.le_of_ble_eq_true rfl) (Nat.le_of_ble_eq_true rfl) hQ ⟨0, (Or.inr (Or.inl ⟨rfl, hpx⟩)), hs, fun h0 => absurd h0 (by decide)⟩
    · subst hE9
      refine ct_call (E := eIAE) hown hE [(0, 12, 15, 19)] [] hT (psC ⟨by decide, _, hts _ wm_142, hC _ (List.mem_of_getElem? (i := 2) rfl) _ (List.mem_of_getElem? (i := 1) rfl) (by decide +kernel)⟩ ps0) (by decide) (by decide) (hts _ wm_143) (List.mem_of_getElem? (i := 2) rfl) hce hcv hcl ?_
      refine lv_astore (lv' := [(5, .ref q9), (0, .ref (ad 0)), (1, .int x), (2, .int b), (3, .int d), (4, .ref ao)]) hx hb dL_versionCount_19 hl (by decide) rfl (fun ls hl => ?_)
      refine lv_iconst (v := 2) hx hb dL_versionCount_21 (by decide) ?_
      exact wI_ret (I2, S2, fo) hS hP hx hb hr hlocks dL_versionCount_22 (Nat.le_of_ble_eq_true rfl) (Nat.le_of_ble_eq_true rfl) hQ ⟨0, (Or.inr (Or.inr ⟨rfl, hpx⟩)), hs, fun h0 => absurd h0 (by decide)⟩
  · obtain ⟨I2, S2⟩ := un
    obtain ⟨h0, h1, h2⟩ := hr_
    have hP : va_P D clW (wC cy ad I2 S2 ++ oLD cy ao aq fo fd) H := hP
    have hD : va_D A (wC cy ad I2 S2 ++ oLD cy ao aq fo fd) := hD
    refine lv_i2l (v := r.toInt64) hx hb dL_versionCount_10 rfl ?_
    refine va_last hx hb hK hP hD hS 29 3 rfl rfl (i := 0) (x := r.toInt64) vp_in01 dL_versionCount_11 (fun H locs hP hD hS => ?_)
    have hP : va_P D clW (wC cy ad I2 S2 ++ oLD cy ao aq (vp_updL fo 0 r.toInt64) fd) H := hP
    refine lv_goto (tgt := 23) hx hb dL_versionCount_12 (by decide) ?_
    refine lv_iconst (v := 0) hx hb dL_versionCount_23 (by decide) ?_
    exact wI_ret (I2, S2, (vp_updL fo 0 r.toInt64)) hS hP hx hb hr hlocks dL_versionCount_24 (Nat.le_of_ble_eq_true rfl) (Nat.le_of_ble_eq_true rfl) hQ ⟨r, Or.inl ⟨rfl, h0, h1⟩, h2, fun _ => rfl⟩

set_option maxHeartbeats 4000000 in
set_option maxRecDepth 100000 in
theorem c_L_versionTick (l : Launch) (hl0 : l.stackTraces = false) (D : va_G) (cy : Nat → ClassId) (ad : Nat → Nat) (I : AI) (S : AS) (sz : Nat) (x : Int32) (b : Int32) (d : Int32) (ix : Int32) (k : Nat) (n : Nat) (h : Nat) (fr : Nat → Nat) (to : Nat → Nat) (ofr : Nat → Nat) (oto : Nat → Nat) (hc : CIv I S k n h fr to ofr oto) (ao : Nat) (aq : Nat) (fo : Nat → Int64) (fd : Nat → UInt64) : Met l yL_versionTick (Cond.codeWith yL_versionTick cL_versionTick 7 (some .int) [(0, 14, 17, 19), (0, 14, 21, 21), (0, 14, 25, 27)] :: wsL_law) ({ frames := 10, cells := 3, slots := 18, locals := 180 }) (va_Pc [.ref (ad 0), .int x, .int b, .int d, .int ix, .ref ao] (lwB D cy (wC cy ad I S ++ oLD cy ao aq fo fd) sz)) (va_Qi (S := AI × AS × (Nat → Int64)) (fun r u => ∃ val : Int32, ((r = 0 ∧ val = (vqS S (slI x b) d k h n).2.1 ix.toNatClampNeg ∧ qc I x b d ∧ ixP (nI (vqS S (slI x b) d k h n).1) ix) ∨ (r = 1 ∧ qx I x b d eIOO) ∨ (r = 2 ∧ qx I x b d eIAE) ∨ (r = 3 ∧ qc I x b d ∧ ¬ ixP (nI (vqS S (slI x b) d k h n).1) ix)) ∧ scr I S u.1 u.2.1 ∧ (r = 0 → u.2.2 0 = val.toInt64)) (fun u t9 => va_P D clW (wC cy ad u.1 u.2.1 ++ oLD cy ao aq u.2.2 fd) t9.heap) (va_A (wC cy ad I S ++ oLD cy ao aq fo fd) sz)) 3 18 (va_A (wC cy ad I S ++ oLD cy ao aq fo fd) sz) := by
  refine enterH (cc := cL_versionTick) (by decide) (Nat.le_of_ble_eq_true rfl) ?_
  intro p e s m below meth c hx hb hr hml hown hts hlocks hT hv Q hQ ls hl
  obtain ⟨hC, hsz, hP, hK, hD0, hE, hZ⟩ := hv
  subst hsz
  have hD := hD0.self (sz := s.heap.size)
  generalize hAe : va_A (wC cy ad I S ++ oLD cy ao aq fo fd) s.heap.size = A at hD hQ hZ ⊢
  have hA : ∀ q : Nat, s.heap.size ≤ q → A q := fun q h => by rw [← hAe]; exact Or.inr h
  have hS : va_S A s.heap s.heap [] := va_S.rf
  suffices K_ : ∀ (H : Heap) (locs : List Loc), va_P D clW (wC cy ad I S ++ oLD cy ao aq fo fd) H → va_S A s.heap H locs → W p l e ({ frames := 10, cells := 3, slots := 18, locals := 180 }) s m ([.ref (ad 0), .int x, .int b, .int d, .int ix, .ref ao] : List Value).toArray below meth c H locs 0 0 Q (F0 m 0 ls []) from K_ _ _ hP hS
  clear hP hS
  intro H locs hP hS
  have hown : s.vm.findClass RL = some m.cls := hown
  have hl : lv_has ls 7 [(0, .ref (ad 0)), (1, .int x), (2, .int b), (3, .int d), (4, .int ix), (5, .ref ao)] := hl
  refine lv_aload hx hb dL_versionTick_0 (lv_at hl 5 rfl) ?_
  refine lv_iconst (v := 0) hx hb dL_versionTick_2 (by decide) ?_
  refine lv_aload_n hx hb dL_versionTick_3 rfl (lv_at hl 0 rfl) ?_
  refine lv_iload_n hx hb dL_versionTick_4 rfl (lv_at hl 1 rfl) ?_
  refine lv_iload_n hx hb dL_versionTick_5 rfl (lv_at hl 2 rfl) ?_
  refine lv_iload_n hx hb dL_versionTick_6 rfl (lv_at hl 3 rfl) ?_
  refine lv_iload hx hb dL_versionTick_7 (lv_at hl 4 rfl) ?_
  refine xcI_call (vx_runV (As := [.int x, .int b, .int d, .int ix]) (rest := [.int 0, .ref ao]) ⟨hx, hb, hml, hown, hts⟩ (c_X6_versionTick l hl0 D cy ad I S H.size x b d ix k n h fr to ofr oto hc) (cw_L_121 hts rfl rfl ⟨Nat.le_of_ble_eq_true rfl, Nat.le_of_ble_eq_true rfl⟩) (preVWX (ci := 6) (q0 := 0) hK hE (hZ.now hS) (blkF (X := []) hD hS hA) (blkY (X := []) hP) (blkYD (X := []) hD) rfl rfl) rfl rfl hl.1 rfl (lv_room (Nat.le_of_ble_eq_true rfl)) dL_versionTick_9 ⟨Nat.le_of_ble_eq_true rfl, Nat.le_of_ble_eq_true rfl⟩) (Z := oLD cy ao aq fo fd) hP hD hS hA (fun _ => rfl) (fun _ => rfl) (fun E ce q9 ux H locs hpx hP hD hS hce hcv hcl => ?_) (fun r un H locs hr_ hP hD hS => ?_)
  · obtain ⟨I2, S2⟩ := ux
    obtain ⟨hpx, hs⟩ := hpx
    have hP : va_P D clW (wC cy ad I2 S2 ++ oLD cy ao aq fo fd) H := hP
    rcases hpx with hpx | ⟨hE9, hpx⟩
    · rcases qx_E hpx with hE9 | hE9
      · subst hE9
        refine ct_call (E := eIOO) hown hE [] [(0, 14, 21, 21), (0, 14, 25, 27)] hT ps0 (by decide) (by decide) (hts _ wm_142) (List.mem_of_getElem? (i := 1) rfl) hce hcv hcl ?_
        refine lv_astore (lv' := [(6, .ref q9), (0, .ref (ad 0)), (1, .int x), (2, .int b), (3, .int d), (4, .int ix), (5, .ref ao)]) hx hb dL_versionTick_17 hl (by decide) rfl (fun ls hl => ?_)
        refine lv_iconst (v := 1) hx hb dL_versionTick_19 (by decide) ?_
        exact wI_ret (I2, S2, fo) hS hP hx hb hr hlocks dL_versionTick_20 (Nat.le_of_ble_eq_true rfl) (Nat.le_of_ble_eq_true rfl) hQ ⟨0, (Or.inr (Or.inl ⟨rfl, hpx⟩)), hs, fun h0 => absurd h0 (by decide)⟩
      · subst hE9
        refine ct_call (E := eIAE) hown hE [(0, 14, 17, 19)] [(0, 14, 25, 27)] hT (psC ⟨by decide, _, hts _ wm_142, hC _ (List.mem_of_getElem? (i := 2) rfl) _ (List.mem_of_getElem? (i := 1) rfl) (by decide +kernel)⟩ ps0) (by decide) (by decide) (hts _ wm_143) (List.mem_of_getElem? (i := 2) rfl) hce hcv hcl ?_
        refine lv_astore (lv' := [(6, .ref q9), (0, .ref (ad 0)), (1, .int x), (2, .int b), (3, .int d), (4, .int ix), (5, .ref ao)]) hx hb dL_versionTick_21 hl (by decide) rfl (fun ls hl => ?_)
        refine lv_iconst (v := 2) hx hb dL_versionTick_23 (by decide) ?_
        exact wI_ret (I2, S2, fo) hS hP hx hb hr hlocks dL_versionTick_24 (Nat.le_of_ble_eq_true rfl) (Nat.le_of_ble_eq_true rfl) hQ ⟨0, (Or.inr (Or.inr (Or.inl ⟨rfl, hpx⟩))), hs, fun h0 => absurd h0 (by decide)⟩
    · subst hE9
      refine ct_call (E := eNSE) hown hE [(0, 14, 17, 19), (0, 14, 21, 21)] [] hT (psC ⟨by decide, _, hts _ wm_142, hC _ (List.mem_of_getElem? (i := 3) rfl) _ (List.mem_of_getElem? (i := 1) rfl) (by decide +kernel)⟩ (psC ⟨by decide, _, hts _ wm_143, hC _ (List.mem_of_getElem? (i := 3) rfl) _ (List.mem_of_getElem? (i := 2) rfl) (by decide +kernel)⟩ ps0)) (by decide) (by decide) (hts _ wm_261) (List.mem_of_getElem? (i := 3) rfl) hce hcv hcl ?_
      refine lv_astore (lv' := [(6, .ref q9), (0, .ref (ad 0)), (1, .int x), (2, .int b), (3, .int d), (4, .int ix), (5, .ref ao)]) hx hb dL_versionTick_25 hl (by decide) rfl (fun ls hl => ?_)
      refine lv_iconst (v := 3) hx hb dL_versionTick_27 (by decide) ?_
      exact wI_ret (I2, S2, fo) hS hP hx hb hr hlocks dL_versionTick_28 (Nat.le_of_ble_eq_true rfl) (Nat.le_of_ble_eq_true rfl) hQ ⟨0, (Or.inr (Or.inr (Or.inr ⟨rfl, hpx⟩))), hs, fun h0 => absurd h0 (by decide)⟩
  · obtain ⟨I2, S2⟩ := un
    obtain ⟨h0, h1, h2, h3⟩ := hr_
    have hP : va_P D clW (wC cy ad I2 S2 ++ oLD cy ao aq fo fd) H := hP
    have hD : va_D A (wC cy ad I2 S2 ++ oLD cy ao aq fo fd) := hD
    refine lv_i2l (v := r.toInt64) hx hb dL_versionTick_12 rfl ?_
    refine va_last hx hb hK hP hD hS 29 3 rfl rfl (i := 0) (x := r.toInt64) vp_in01 dL_versionTick_13 (fun H locs hP hD hS => ?_)
    have hP : va_P D clW (wC cy ad I2 S2 ++ oLD cy ao aq (vp_updL fo 0 r.toInt64) fd) H := hP
    refine lv_goto (tgt := 29) hx hb dL_versionTick_14 (by decide) ?_
    refine lv_iconst (v := 0) hx hb dL_versionTick_29 (by decide) ?_
    exact wI_ret (I2, S2, (vp_updL fo 0 r.toInt64)) hS hP hx hb hr hlocks dL_versionTick_30 (Nat.le_of_ble_eq_true rfl) (Nat.le_of_ble_eq_true rfl) hQ ⟨r, Or.inl ⟨rfl, h0, h1, h2⟩, h3, fun _ => rfl⟩

set_option maxHeartbeats 4000000 in
set_option maxRecDepth 100000 in
theorem c_L_isVersionKnown (l : Launch) (hl0 : l.stackTraces = false) (D : va_G) (cy : Nat → ClassId) (ad : Nat → Nat) (I : AI) (S : AS) (sz : Nat) (x : Int32) (b : Int32) (d : Int32) (ix : Int32) (k : Nat) (n : Nat) (h : Nat) (fr : Nat → Nat) (to : Nat → Nat) (ofr : Nat → Nat) (oto : Nat → Nat) (hc : CIv I S k n h fr to ofr oto) (ao : Nat) (aq : Nat) (fo : Nat → Int64) (fd : Nat → UInt64) : Met l yL_isVersionKnown (Cond.codeWith yL_isVersionKnown cL_isVersionKnown 7 (some .int) [(0, 21, 24, 19), (0, 21, 28, 21), (0, 21, 32, 27)] :: wsL_law) ({ frames := 10, cells := 3, slots := 18, locals := 180 }) (va_Pc [.ref (ad 0), .int x, .int b, .int d, .int ix, .ref ao] (lwB D cy (wC cy ad I S ++ oLD cy ao aq fo fd) sz)) (va_Qi (S := AI × AS × (Nat → Int64)) (fun r u => ∃ val : Int32, ((r = 0 ∧ val = (if ¬ (vqS S (slI x b) d k h n).2.2.1 ix.toNatClampNeg = 0 then 1 else 0) ∧ qc I x b d ∧ ixP (nI (vqS S (slI x b) d k h n).1) ix) ∨ (r = 1 ∧ qx I x b d eIOO) ∨ (r = 2 ∧ qx I x b d eIAE) ∨ (r = 3 ∧ qc I x b d ∧ ¬ ixP (nI (vqS S (slI x b) d k h n).1) ix)) ∧ scr I S u.1 u.2.1 ∧ (r = 0 → u.2.2 0 = val.toInt64)) (fun u t9 => va_P D clW (wC cy ad u.1 u.2.1 ++ oLD cy ao aq u.2.2 fd) t9.heap) (va_A (wC cy ad I S ++ oLD cy ao aq fo fd) sz)) 3 18 (va_A (wC cy ad I S ++ oLD cy ao aq fo fd) sz) := by
  refine enterH (cc := cL_isVersionKnown) (by decide) (Nat.le_of_ble_eq_true rfl) ?_
  intro p e s m below meth c hx hb hr hml hown hts hlocks hT hv Q hQ ls hl
  obtain ⟨hC, hsz, hP, hK, hD0, hE, hZ⟩ := hv
  subst hsz
  have hD := hD0.self (sz := s.heap.size)
  generalize hAe : va_A (wC cy ad I S ++ oLD cy ao aq fo fd) s.heap.size = A at hD hQ hZ ⊢
  have hA : ∀ q : Nat, s.heap.size ≤ q → A q := fun q h => by rw [← hAe]; exact Or.inr h
  have hS : va_S A s.heap s.heap [] := va_S.rf
  suffices K_ : ∀ (H : Heap) (locs : List Loc), va_P D clW (wC cy ad I S ++ oLD cy ao aq fo fd) H → va_S A s.heap H locs → W p l e ({ frames := 10, cells := 3, slots := 18, locals := 180 }) s m ([.ref (ad 0), .int x, .int b, .int d, .int ix, .ref ao] : List Value).toArray below meth c H locs 0 0 Q (F0 m 0 ls []) from K_ _ _ hP hS
  clear hP hS
  intro H locs hP hS
  have hown : s.vm.findClass RL = some m.cls := hown
  have hl : lv_has ls 7 [(0, .ref (ad 0)), (1, .int x), (2, .int b), (3, .int d), (4, .int ix), (5, .ref ao)] := hl
  refine lv_aload hx hb dL_isVersionKnown_0 (lv_at hl 5 rfl) ?_
  refine lv_iconst (v := 0) hx hb dL_isVersionKnown_2 (by decide) ?_
  refine lv_aload_n hx hb dL_isVersionKnown_3 rfl (lv_at hl 0 rfl) ?_
  refine lv_iload_n hx hb dL_isVersionKnown_4 rfl (lv_at hl 1 rfl) ?_
  refine lv_iload_n hx hb dL_isVersionKnown_5 rfl (lv_at hl 2 rfl) ?_
  refine lv_iload_n hx hb dL_isVersionKnown_6 rfl (lv_at hl 3 rfl) ?_
  refine lv_iload hx hb dL_isVersionKnown_7 (lv_at hl 4 rfl) ?_
  refine xcI_call (vx_runV (As := [.int x, .int b, .int d, .int ix]) (rest := [.int 0, .ref ao]) ⟨hx, hb, hml, hown, hts⟩ (c_X6_isVersionKnown l hl0 D cy ad I S H.size x b d ix k n h fr to ofr oto hc) (cw_L_124 hts rfl rfl ⟨Nat.le_of_ble_eq_true rfl, Nat.le_of_ble_eq_true rfl⟩) (preVWX (ci := 6) (q0 := 0) hK hE (hZ.now hS) (blkF (X := []) hD hS hA) (blkY (X := []) hP) (blkYD (X := []) hD) rfl rfl) rfl rfl hl.1 rfl (lv_room (Nat.le_of_ble_eq_true rfl)) dL_isVersionKnown_9 ⟨Nat.le_of_ble_eq_true rfl, Nat.le_of_ble_eq_true rfl⟩) (Z := oLD cy ao aq fo fd) hP hD hS hA (fun _ => rfl) (fun _ => rfl) (fun E ce q9 ux H locs hpx hP hD hS hce hcv hcl => ?_) (fun r un H locs hr_ hP hD hS => ?_)
  · obtain ⟨I2, S2⟩ := ux
    obtain ⟨hpx, hs⟩ := hpx
    have hP : va_P D clW (wC cy ad I2 S2 ++ oLD cy ao aq fo fd) H := hP
    rcases hpx with hpx | ⟨hE9, hpx⟩
    · rcases qx_E hpx with hE9 | hE9
      · subst hE9
        refine ct_call (E := eIOO) hown hE [] [(0, 21, 28, 21), (0, 21, 32, 27)] hT ps0 (by decide) (by decide) (hts _ wm_142) (List.mem_of_getElem? (i := 1) rfl) hce hcv hcl ?_
        refine lv_astore (lv' := [(6, .ref q9), (0, .ref (ad 0)), (1, .int x), (2, .int b), (3, .int d), (4, .int ix), (5, .ref ao)]) hx hb dL_isVersionKnown_24 hl (by decide) rfl (fun ls hl => ?_)
        refine lv_iconst (v := 1) hx hb dL_isVersionKnown_26 (by decide) ?_
        exact wI_ret (I2, S2, fo) hS hP hx hb hr hlocks dL_isVersionKnown_27 (Nat.le_of_ble_eq_true rfl) (Nat.le_of_ble_eq_true rfl) hQ ⟨0, (Or.inr (Or.inl ⟨rfl, hpx⟩)), hs, fun h0 => absurd h0 (by decide)⟩
      · subst hE9
        refine ct_call (E := eIAE) hown hE [(0, 21, 24, 19)] [(0, 21, 32, 27)] hT (psC ⟨by decide, _, hts _ wm_142, hC _ (List.mem_of_getElem? (i := 2) rfl) _ (List.mem_of_getElem? (i := 1) rfl) (by decide +kernel)⟩ ps0) (by decide) (by decide) (hts _ wm_143) (List.mem_of_getElem? (i := 2) rfl) hce hcv hcl ?_
        refine lv_astore (lv' := [(6, .ref q9), (0, .ref (ad 0)), (1, .int x), (2, .int b), (3, .int d), (4, .int ix), (5, .ref ao)]) hx hb dL_isVersionKnown_28 hl (by decide) rfl (fun ls hl => ?_)
        refine lv_iconst (v := 2) hx hb dL_isVersionKnown_30 (by decide) ?_
        exact wI_ret (I2, S2, fo) hS hP hx hb hr hlocks dL_isVersionKnown_31 (Nat.le_of_ble_eq_true rfl) (Nat.le_of_ble_eq_true rfl) hQ ⟨0, (Or.inr (Or.inr (Or.inl ⟨rfl, hpx⟩))), hs, fun h0 => absurd h0 (by decide)⟩
    · subst hE9
      refine ct_call (E := eNSE) hown hE [(0, 21, 24, 19), (0, 21, 28, 21)] [] hT (psC ⟨by decide, _, hts _ wm_142, hC _ (List.mem_of_getElem? (i := 3) rfl) _ (List.mem_of_getElem? (i := 1) rfl) (by decide +kernel)⟩ (psC ⟨by decide, _, hts _ wm_143, hC _ (List.mem_of_getElem? (i := 3) rfl) _ (List.mem_of_getElem? (i := 2) rfl) (by decide +kernel)⟩ ps0)) (by decide) (by decide) (hts _ wm_261) (List.mem_of_getElem? (i := 3) rfl) hce hcv hcl ?_
      refine lv_astore (lv' := [(6, .ref q9), (0, .ref (ad 0)), (1, .int x), (2, .int b), (3, .int d), (4, .int ix), (5, .ref ao)]) hx hb dL_isVersionKnown_32 hl (by decide) rfl (fun ls hl => ?_)
      refine lv_iconst (v := 3) hx hb dL_isVersionKnown_34 (by decide) ?_
      exact wI_ret (I2, S2, fo) hS hP hx hb hr hlocks dL_isVersionKnown_35 (Nat.le_of_ble_eq_true rfl) (Nat.le_of_ble_eq_true rfl) hQ ⟨0, (Or.inr (Or.inr (Or.inr ⟨rfl, hpx⟩))), hs, fun h0 => absurd h0 (by decide)⟩
  · obtain ⟨I2, S2⟩ := un
    obtain ⟨h0, h1, h2, h3⟩ := hr_
    have hP : va_P D clW (wC cy ad I2 S2 ++ oLD cy ao aq fo fd) H := hP
    have hD : va_D A (wC cy ad I2 S2 ++ oLD cy ao aq fo fd) := hD
    have hv0 := h0
    refine lv_if_eq (tgt := 19) hx hb dL_isVersionKnown_12 (by decide) (fun c0 => ?_) (fun c0 => ?_)
    · refine lv_lconst (v := 0) hx hb dL_isVersionKnown_19 (by decide) ?_
      refine va_last hx hb hK hP hD hS 29 3 rfl rfl (i := 0) (x := 0) vp_in01 dL_isVersionKnown_20 (fun H locs hP hD hS => ?_)
      have hP : va_P D clW (wC cy ad I2 S2 ++ oLD cy ao aq (vp_updL fo 0 0) fd) H := hP
      refine lv_goto (tgt := 36) hx hb dL_isVersionKnown_21 (by decide) ?_
      refine lv_iconst (v := 0) hx hb dL_isVersionKnown_36 (by decide) ?_
      exact wI_ret (I2, S2, (vp_updL fo 0 0)) hS hP hx hb hr hlocks dL_isVersionKnown_37 (Nat.le_of_ble_eq_true rfl) (Nat.le_of_ble_eq_true rfl) hQ ⟨r, Or.inl ⟨rfl, h0, h1, h2⟩, h3, fun _ => (by rw [c0]; rfl)⟩
    · refine lv_lconst (v := 1) hx hb dL_isVersionKnown_15 (by decide) ?_
      refine lv_goto (tgt := 20) hx hb dL_isVersionKnown_16 (by decide) ?_
      refine va_last hx hb hK hP hD hS 29 3 rfl rfl (i := 0) (x := 1) vp_in01 dL_isVersionKnown_20 (fun H locs hP hD hS => ?_)
      have hP : va_P D clW (wC cy ad I2 S2 ++ oLD cy ao aq (vp_updL fo 0 1) fd) H := hP
      refine lv_goto (tgt := 36) hx hb dL_isVersionKnown_21 (by decide) ?_
      refine lv_iconst (v := 0) hx hb dL_isVersionKnown_36 (by decide) ?_
      exact wI_ret (I2, S2, (vp_updL fo 0 1)) hS hP hx hb hr hlocks dL_isVersionKnown_37 (Nat.le_of_ble_eq_true rfl) (Nat.le_of_ble_eq_true rfl) hQ ⟨r, Or.inl ⟨rfl, h0, h1, h2⟩, h3, fun _ => (by rw [ite10 hv0 c0]; rfl)⟩

set_option maxHeartbeats 4000000 in
set_option maxRecDepth 100000 in
theorem c_L_versionValue (l : Launch) (hl0 : l.stackTraces = false) (D : va_G) (cy : Nat → ClassId) (ad : Nat → Nat) (I : AI) (S : AS) (sz : Nat) (x : Int32) (b : Int32) (d : Int32) (ix : Int32) (k : Nat) (n : Nat) (h : Nat) (fr : Nat → Nat) (to : Nat → Nat) (ofr : Nat → Nat) (oto : Nat → Nat) (hc : CIv I S k n h fr to ofr oto) (ao : Nat) (aq : Nat) (fo : Nat → Int64) (fd : Nat → UInt64) : Met l yL_versionValue (Cond.codeWith yL_versionValue cL_versionValue 7 (some .int) [(0, 14, 17, 19), (0, 14, 21, 21), (0, 14, 25, 27)] :: wsL_law) ({ frames := 10, cells := 4, slots := 24, locals := 180 }) (va_Pc [.ref (ad 0), .int x, .int b, .int d, .int ix, .ref ao] (lwB D cy (wC cy ad I S ++ oLD cy ao aq fo fd) sz)) (va_Qi (S := AI × AS × (Nat → Int64)) (fun r u => ∃ val : Int32, ((r = 0 ∧ val = (vqS S (slI x b) d k h n).2.2.2 ix.toNatClampNeg ∧ qc I x b d ∧ ixP (nI (vqS S (slI x b) d k h n).1) ix ∧ ¬ (vqS S (slI x b) d k h n).2.2.1 ix.toNatClampNeg = 0) ∨ (r = 1 ∧ qx I x b d eIOO) ∨ (r = 2 ∧ qx I x b d eIAE) ∨ (r = 3 ∧ qc I x b d ∧ (¬ ixP (nI (vqS S (slI x b) d k h n).1) ix ∨ (ixP (nI (vqS S (slI x b) d k h n).1) ix ∧ (vqS S (slI x b) d k h n).2.2.1 ix.toNatClampNeg = 0)))) ∧ scr I S u.1 u.2.1 ∧ (r = 0 → u.2.2 0 = val.toInt64)) (fun u t9 => va_P D clW (wC cy ad u.1 u.2.1 ++ oLD cy ao aq u.2.2 fd) t9.heap) (va_A (wC cy ad I S ++ oLD cy ao aq fo fd) sz)) 4 24 (va_A (wC cy ad I S ++ oLD cy ao aq fo fd) sz) := by
  refine enterH (cc := cL_versionValue) (by decide) (Nat.le_of_ble_eq_true rfl) ?_
  intro p e s m below meth c hx hb hr hml hown hts hlocks hT hv Q hQ ls hl
  obtain ⟨hC, hsz, hP, hK, hD0, hE, hZ⟩ := hv
  subst hsz
  have hD := hD0.self (sz := s.heap.size)
  generalize hAe : va_A (wC cy ad I S ++ oLD cy ao aq fo fd) s.heap.size = A at hD hQ hZ ⊢
  have hA : ∀ q : Nat, s.heap.size ≤ q → A q := fun q h => by rw [← hAe]; exact Or.inr h
  have hS : va_S A s.heap s.heap [] := va_S.rf
  suffices K_ : ∀ (H : Heap) (locs : List Loc), va_P D clW (wC cy ad I S ++ oLD cy ao aq fo fd) H → va_S A s.heap H locs → W p l e ({ frames := 10, cells := 4, slots := 24, locals := 180 }) s m ([.ref (ad 0), .int x, .int b, .int d, .int ix, .ref ao] : List Value).toArray below meth c H locs 0 0 Q (F0 m 0 ls []) from K_ _ _ hP hS
  clear hP hS
  intro H locs hP hS
  have hown : s.vm.findClass RL = some m.cls := hown
  have hl : lv_has ls 7 [(0, .ref (ad 0)), (1, .int x), (2, .int b), (3, .int d), (4, .int ix), (5, .ref ao)] := hl
  refine lv_aload hx hb dL_versionValue_0 (lv_at hl 5 rfl) ?_
  refine lv_iconst (v := 0) hx hb dL_versionValue_2 (by decide) ?_
  refine lv_aload_n hx hb dL_versionValue_3 rfl (lv_at hl 0 rfl) ?_
  refine lv_iload_n hx hb dL_versionValue_4 rfl (lv_at hl 1 rfl) ?_
  refine lv_iload_n hx hb dL_versionValue_5 rfl (lv_at hl 2 rfl) ?_
  refine lv_iload_n hx hb dL_versionValue_6 rfl (lv_at hl 3 rfl) ?_
  refine lv_iload hx hb dL_versionValue_7 (lv_at hl 4 rfl) ?_
  refine xcI_call (vx_runV (As := [.int x, .int b, .int d, .int ix]) (rest := [.int 0, .ref ao]) ⟨hx, hb, hml, hown, hts⟩ (c_X6_versionValue l hl0 D cy ad I S H.size x b d ix k n h fr to ofr oto hc) (cw_L_127 hts rfl rfl ⟨Nat.le_of_ble_eq_true rfl, Nat.le_of_ble_eq_true rfl⟩) (preVWX (ci := 6) (q0 := 0) hK hE (hZ.now hS) (blkF (X := []) hD hS hA) (blkY (X := []) hP) (blkYD (X := []) hD) rfl rfl) rfl rfl hl.1 rfl (lv_room (Nat.le_of_ble_eq_true rfl)) dL_versionValue_9 ⟨Nat.le_of_ble_eq_true rfl, Nat.le_of_ble_eq_true rfl⟩) (Z := oLD cy ao aq fo fd) hP hD hS hA (fun _ => rfl) (fun _ => rfl) (fun E ce q9 ux H locs hpx hP hD hS hce hcv hcl => ?_) (fun r un H locs hr_ hP hD hS => ?_)
  · obtain ⟨I2, S2⟩ := ux
    obtain ⟨hpx, hs⟩ := hpx
    have hP : va_P D clW (wC cy ad I2 S2 ++ oLD cy ao aq fo fd) H := hP
    rcases hpx with hpx | ⟨hE9, hpx⟩ | ⟨hE9, hpx⟩
    · rcases qx_E hpx with hE9 | hE9
      · subst hE9
        refine ct_call (E := eIOO) hown hE [] [(0, 14, 21, 21), (0, 14, 25, 27)] hT ps0 (by decide) (by decide) (hts _ wm_142) (List.mem_of_getElem? (i := 1) rfl) hce hcv hcl ?_
        refine lv_astore (lv' := [(6, .ref q9), (0, .ref (ad 0)), (1, .int x), (2, .int b), (3, .int d), (4, .int ix), (5, .ref ao)]) hx hb dL_versionValue_17 hl (by decide) rfl (fun ls hl => ?_)
        refine lv_iconst (v := 1) hx hb dL_versionValue_19 (by decide) ?_
        exact wI_ret (I2, S2, fo) hS hP hx hb hr hlocks dL_versionValue_20 (Nat.le_of_ble_eq_true rfl) (Nat.le_of_ble_eq_true rfl) hQ ⟨0, (Or.inr (Or.inl ⟨rfl, hpx⟩)), hs, fun h0 => absurd h0 (by decide)⟩
      · subst hE9
        refine ct_call (E := eIAE) hown hE [(0, 14, 17, 19)] [(0, 14, 25, 27)] hT (psC ⟨by decide, _, hts _ wm_142, hC _ (List.mem_of_getElem? (i := 2) rfl) _ (List.mem_of_getElem? (i := 1) rfl) (by decide +kernel)⟩ ps0) (by decide) (by decide) (hts _ wm_143) (List.mem_of_getElem? (i := 2) rfl) hce hcv hcl ?_
        refine lv_astore (lv' := [(6, .ref q9), (0, .ref (ad 0)), (1, .int x), (2, .int b), (3, .int d), (4, .int ix), (5, .ref ao)]) hx hb dL_versionValue_21 hl (by decide) rfl (fun ls hl => ?_)
        refine lv_iconst (v := 2) hx hb dL_versionValue_23 (by decide) ?_
        exact wI_ret (I2, S2, fo) hS hP hx hb hr hlocks dL_versionValue_24 (Nat.le_of_ble_eq_true rfl) (Nat.le_of_ble_eq_true rfl) hQ ⟨0, (Or.inr (Or.inr (Or.inl ⟨rfl, hpx⟩))), hs, fun h0 => absurd h0 (by decide)⟩
    · subst hE9
      refine ct_call (E := eNSE) hown hE [(0, 14, 17, 19), (0, 14, 21, 21)] [] hT (psC ⟨by decide, _, hts _ wm_142, hC _ (List.mem_of_getElem? (i := 3) rfl) _ (List.mem_of_getElem? (i := 1) rfl) (by decide +kernel)⟩ (psC ⟨by decide, _, hts _ wm_143, hC _ (List.mem_of_getElem? (i := 3) rfl) _ (List.mem_of_getElem? (i := 2) rfl) (by decide +kernel)⟩ ps0)) (by decide) (by decide) (hts _ wm_261) (List.mem_of_getElem? (i := 3) rfl) hce hcv hcl ?_
      refine lv_astore (lv' := [(6, .ref q9), (0, .ref (ad 0)), (1, .int x), (2, .int b), (3, .int d), (4, .int ix), (5, .ref ao)]) hx hb dL_versionValue_25 hl (by decide) rfl (fun ls hl => ?_)
      refine lv_iconst (v := 3) hx hb dL_versionValue_27 (by decide) ?_
      exact wI_ret (I2, S2, fo) hS hP hx hb hr hlocks dL_versionValue_28 (Nat.le_of_ble_eq_true rfl) (Nat.le_of_ble_eq_true rfl) hQ ⟨0, (Or.inr (Or.inr (Or.inr ⟨rfl, ⟨hpx.1, Or.inl hpx.2⟩⟩))), hs, fun h0 => absurd h0 (by decide)⟩
    · subst hE9
      refine ct_call (E := eNSE) hown hE [(0, 14, 17, 19), (0, 14, 21, 21)] [] hT (psC ⟨by decide, _, hts _ wm_142, hC _ (List.mem_of_getElem? (i := 3) rfl) _ (List.mem_of_getElem? (i := 1) rfl) (by decide +kernel)⟩ (psC ⟨by decide, _, hts _ wm_143, hC _ (List.mem_of_getElem? (i := 3) rfl) _ (List.mem_of_getElem? (i := 2) rfl) (by decide +kernel)⟩ ps0)) (by decide) (by decide) (hts _ wm_261) (List.mem_of_getElem? (i := 3) rfl) hce hcv hcl ?_
      refine lv_astore (lv' := [(6, .ref q9), (0, .ref (ad 0)), (1, .int x), (2, .int b), (3, .int d), (4, .int ix), (5, .ref ao)]) hx hb dL_versionValue_25 hl (by decide) rfl (fun ls hl => ?_)
      refine lv_iconst (v := 3) hx hb dL_versionValue_27 (by decide) ?_
      exact wI_ret (I2, S2, fo) hS hP hx hb hr hlocks dL_versionValue_28 (Nat.le_of_ble_eq_true rfl) (Nat.le_of_ble_eq_true rfl) hQ ⟨0, (Or.inr (Or.inr (Or.inr ⟨rfl, ⟨hpx.1, Or.inr hpx.2⟩⟩))), hs, fun h0 => absurd h0 (by decide)⟩
  · obtain ⟨I2, S2⟩ := un
    obtain ⟨h0, h1, h2, h3, h4⟩ := hr_
    have hP : va_P D clW (wC cy ad I2 S2 ++ oLD cy ao aq fo fd) H := hP
    have hD : va_D A (wC cy ad I2 S2 ++ oLD cy ao aq fo fd) := hD
    refine lv_i2l (v := r.toInt64) hx hb dL_versionValue_12 rfl ?_
    refine va_last hx hb hK hP hD hS 29 3 rfl rfl (i := 0) (x := r.toInt64) vp_in01 dL_versionValue_13 (fun H locs hP hD hS => ?_)
    have hP : va_P D clW (wC cy ad I2 S2 ++ oLD cy ao aq (vp_updL fo 0 r.toInt64) fd) H := hP
    refine lv_goto (tgt := 29) hx hb dL_versionValue_14 (by decide) ?_
    refine lv_iconst (v := 0) hx hb dL_versionValue_29 (by decide) ?_
    exact wI_ret (I2, S2, (vp_updL fo 0 r.toInt64)) hS hP hx hb hr hlocks dL_versionValue_30 (Nat.le_of_ble_eq_true rfl) (Nat.le_of_ble_eq_true rfl) hQ ⟨r, Or.inl ⟨rfl, h0, h1, h2, h3⟩, h4, fun _ => rfl⟩

set_option maxHeartbeats 4000000 in
set_option maxRecDepth 100000 in
theorem c_L_writePeriods (l : Launch) (hl0 : l.stackTraces = false) (D : va_G) (cy : Nat → ClassId) (ad : Nat → Nat) (I : AI) (S : AS) (sz : Nat) (x : Int32) (b : Int32) (t : Int32) (k : Nat) (n : Nat) (h : Nat) (fr : Nat → Nat) (to : Nat → Nat) (ofr : Nat → Nat) (oto : Nat → Nat) (hc : CIv I S k n h fr to ofr oto) (ao : Nat) (aq : Nat) (fo : Nat → Int64) (fd : Nat → UInt64) : Met l yL_writePeriods (Cond.codeWith yL_writePeriods cL_writePeriods 6 (some .int) [(0, 12, 15, 19), (0, 12, 19, 21), (0, 12, 23, 62)] :: wsL_law) ({ frames := 12, cells := 4, slots := 24, locals := 229 }) (va_Pc [.ref (ad 0), .int x, .int b, .int t, .ref ao] (lwB D cy (wC cy ad I S ++ oLD cy ao aq fo fd) sz)) (va_Qi (S := AI × AS × (Nat → Int64)) (fun r u => ∃ val : Int32, ((r = 0 ∧ val = nI (wrL (wpS S (slI x b) t fr to k) (jpS S (slI x b) (slI x b) t fr to k).1).length ∧ jc I x b x b t ∧ scr (va_up I 4 (nI (wrL (wpS S (slI x b) t fr to k) (jpS S (slI x b) (slI x b) t fr to k).1).length)) (va_up S 15 (appL (S 15) 0 (wrL (wpS S (slI x b) t fr to k) (jpS S (slI x b) (slI x b) t fr to k).1))) u.1 u.2.1) ∨ (r = 1 ∧ jx I x b x b t eIOO ∧ scr I S u.1 u.2.1) ∨ (r = 2 ∧ jx I x b x b t eIAE ∧ scr I S u.1 u.2.1) ∨ (r = 3 ∧ jx I x b x b t eUOE ∧ scr I S u.1 u.2.1)) ∧ (r = 0 → u.2.2 0 = val.toInt64)) (fun u t9 => va_P D clW (wC cy ad u.1 u.2.1 ++ oLD cy ao aq u.2.2 fd) t9.heap) (va_A (wC cy ad I S ++ oLD cy ao aq fo fd) sz)) 4 24 (va_A (wC cy ad I S ++ oLD cy ao aq fo fd) sz) := by
  refine enterH (cc := cL_writePeriods) (by decide) (Nat.le_of_ble_eq_true rfl) ?_
  intro p e s m below meth c hx hb hr hml hown hts hlocks hT hv Q hQ ls hl
  obtain ⟨hC, hsz, hP, hK, hD0, hE, hZ⟩ := hv
  subst hsz
  have hD := hD0.self (sz := s.heap.size)
  generalize hAe : va_A (wC cy ad I S ++ oLD cy ao aq fo fd) s.heap.size = A at hD hQ hZ ⊢
  have hA : ∀ q : Nat, s.heap.size ≤ q → A q := fun q h => by rw [← hAe]; exact Or.inr h
  have hS : va_S A s.heap s.heap [] := va_S.rf
  suffices K_ : ∀ (H : Heap) (locs : List Loc), va_P D clW (wC cy ad I S ++ oLD cy ao aq fo fd) H → va_S A s.heap H locs → W p l e ({ frames := 12, cells := 4, slots := 24, locals := 229 }) s m ([.ref (ad 0), .int x, .int b, .int t, .ref ao] : List Value).toArray below meth c H locs 0 0 Q (F0 m 0 ls []) from K_ _ _ hP hS
  clear hP hS
  intro H locs hP hS
  have hown : s.vm.findClass RL = some m.cls := hown
  have hl : lv_has ls 6 [(0, .ref (ad 0)), (1, .int x), (2, .int b), (3, .int t), (4, .ref ao)] := hl
  refine lv_aload hx hb dL_writePeriods_0 (lv_at hl 4 rfl) ?_
  refine lv_iconst (v := 0) hx hb dL_writePeriods_2 (by decide) ?_
  refine lv_aload_n hx hb dL_writePeriods_3 rfl (lv_at hl 0 rfl) ?_
  refine lv_iload_n hx hb dL_writePeriods_4 rfl (lv_at hl 1 rfl) ?_
  refine lv_iload_n hx hb dL_writePeriods_5 rfl (lv_at hl 2 rfl) ?_
  refine lv_iload_n hx hb dL_writePeriods_6 rfl (lv_at hl 3 rfl) ?_
  refine xcI_call (vx_runV (As := [.int x, .int b, .int t]) (rest := [.int 0, .ref ao]) ⟨hx, hb, hml, hown, hts⟩ (c_X6_writePeriods l hl0 D cy ad I S H.size x b t k n h fr to ofr oto hc) (cw_L_130 hts rfl rfl ⟨Nat.le_of_ble_eq_true rfl, Nat.le_of_ble_eq_true rfl⟩) (preVWX (ci := 6) (q0 := 0) hK hE (hZ.now hS) (blkF (X := []) hD hS hA) (blkY (X := []) hP) (blkYD (X := []) hD) rfl rfl) rfl rfl hl.1 rfl (lv_room (Nat.le_of_ble_eq_true rfl)) dL_writePeriods_7 ⟨Nat.le_of_ble_eq_true rfl, Nat.le_of_ble_eq_true rfl⟩) (Z := oLD cy ao aq fo fd) hP hD hS hA (fun _ => rfl) (fun _ => rfl) (fun E ce q9 ux H locs hpx hP hD hS hce hcv hcl => ?_) (fun r un H locs hr_ hP hD hS => ?_)
  · obtain ⟨I2, S2⟩ := ux
    obtain ⟨hpx, hs⟩ := hpx
    have hP : va_P D clW (wC cy ad I2 S2 ++ oLD cy ao aq fo fd) H := hP
    rcases jx_E hpx with hE9 | hE9 | hE9
    · subst hE9
      refine ct_call (E := eIOO) hown hE [] [(0, 12, 19, 21), (0, 12, 23, 62)] hT ps0 (by decide) (by decide) (hts _ wm_142) (List.mem_of_getElem? (i := 1) rfl) hce hcv hcl ?_
      refine lv_astore (lv' := [(5, .ref q9), (0, .ref (ad 0)), (1, .int x), (2, .int b), (3, .int t), (4, .ref ao)]) hx hb dL_writePeriods_15 hl (by decide) rfl (fun ls hl => ?_)
      refine lv_iconst (v := 1) hx hb dL_writePeriods_17 (by decide) ?_
      exact wI_ret (I2, S2, fo) hS hP hx hb hr hlocks dL_writePeriods_18 (Nat.le_of_ble_eq_true rfl) (Nat.le_of_ble_eq_true rfl) hQ ⟨0, (Or.inr (Or.inl ⟨rfl, ⟨hpx, hs⟩⟩)), fun h0 => absurd h0 (by decide)⟩
    · subst hE9
      refine ct_call (E := eIAE) hown hE [(0, 12, 15, 19)] [(0, 12, 23, 62)] hT (psC ⟨by decide, _, hts _ wm_142, hC _ (List.mem_of_getElem? (i := 2) rfl) _ (List.mem_of_getElem? (i := 1) rfl) (by decide +kernel)⟩ ps0) (by decide) (by decide) (hts _ wm_143) (List.mem_of_getElem? (i := 2) rfl) hce hcv hcl ?_
      refine lv_astore (lv' := [(5, .ref q9), (0, .ref (ad 0)), (1, .int x), (2, .int b), (3, .int t), (4, .ref ao)]) hx hb dL_writePeriods_19 hl (by decide) rfl (fun ls hl => ?_)
      refine lv_iconst (v := 2) hx hb dL_writePeriods_21 (by decide) ?_
      exact wI_ret (I2, S2, fo) hS hP hx hb hr hlocks dL_writePeriods_22 (Nat.le_of_ble_eq_true rfl) (Nat.le_of_ble_eq_true rfl) hQ ⟨0, (Or.inr (Or.inr (Or.inl ⟨rfl, ⟨hpx, hs⟩⟩))), fun h0 => absurd h0 (by decide)⟩
    · subst hE9
      refine ct_call (E := eUOE) hown hE [(0, 12, 15, 19), (0, 12, 19, 21)] [] hT (psC ⟨by decide, _, hts _ wm_142, hC _ (List.mem_of_getElem? (i := 4) rfl) _ (List.mem_of_getElem? (i := 1) rfl) (by decide +kernel)⟩ (psC ⟨by decide, _, hts _ wm_143, hC _ (List.mem_of_getElem? (i := 4) rfl) _ (List.mem_of_getElem? (i := 2) rfl) (by decide +kernel)⟩ ps0)) (by decide) (by decide) (hts _ wm_489) (List.mem_of_getElem? (i := 4) rfl) hce hcv hcl ?_
      refine lv_astore (lv' := [(5, .ref q9), (0, .ref (ad 0)), (1, .int x), (2, .int b), (3, .int t), (4, .ref ao)]) hx hb dL_writePeriods_23 hl (by decide) rfl (fun ls hl => ?_)
      refine lv_iconst (v := 3) hx hb dL_writePeriods_25 (by decide) ?_
      exact wI_ret (I2, S2, fo) hS hP hx hb hr hlocks dL_writePeriods_26 (Nat.le_of_ble_eq_true rfl) (Nat.le_of_ble_eq_true rfl) hQ ⟨0, (Or.inr (Or.inr (Or.inr ⟨rfl, ⟨hpx, hs⟩⟩))), fun h0 => absurd h0 (by decide)⟩
  · obtain ⟨I2, S2⟩ := un
    obtain ⟨h0, h1, h2⟩ := hr_
    have hP : va_P D clW (wC cy ad I2 S2 ++ oLD cy ao aq fo fd) H := hP
    have hD : va_D A (wC cy ad I2 S2 ++ oLD cy ao aq fo fd) := hD
    refine lv_i2l (v := r.toInt64) hx hb dL_writePeriods_10 rfl ?_
    refine va_last hx hb hK hP hD hS 29 3 rfl rfl (i := 0) (x := r.toInt64) vp_in01 dL_writePeriods_11 (fun H locs hP hD hS => ?_)
    have hP : va_P D clW (wC cy ad I2 S2 ++ oLD cy ao aq (vp_updL fo 0 r.toInt64) fd) H := hP
    refine lv_goto (tgt := 27) hx hb dL_writePeriods_12 (by decide) ?_
    refine lv_iconst (v := 0) hx hb dL_writePeriods_27 (by decide) ?_
    exact wI_ret (I2, S2, (vp_updL fo 0 r.toInt64)) hS hP hx hb hr hlocks dL_writePeriods_28 (Nat.le_of_ble_eq_true rfl) (Nat.le_of_ble_eq_true rfl) hQ ⟨r, Or.inl ⟨rfl, h0, h1, h2⟩, fun _ => rfl⟩

set_option maxHeartbeats 4000000 in
set_option maxRecDepth 100000 in
theorem c_L_lineAt (l : Launch) (hl0 : l.stackTraces = false) (D : va_G) (cy : Nat → ClassId) (ad : Nat → Nat) (I : AI) (S : AS) (sz : Nat) (x : Int32) (n : Nat) (hn : I 4 = nI n) (hn6 : n ≤ 1900) (hch : ∀ j : Nat, j < n → narrow .char (.int (S 15 j)) = .int (S 15 j)) (ao : Nat) (aq : Nat) (fo : Nat → Int64) (fd : Nat → UInt64) : Met l yL_lineAt (Cond.codeWith yL_lineAt cL_lineAt 4 (some .int) [(0, 9, 12, 19)] :: wsL_law) ({ frames := 7, cells := 1, slots := 6, locals := 111 }) (va_Pc [.ref (ad 0), .int x, .ref ao] (lwB D cy (wC cy ad I S ++ oLD cy ao aq fo fd) sz)) (va_Qi (S := AI × AS × (Nat → Int64)) (fun r u => ∃ val : Int32, ((r = 0 ∧ ixP (I 4) x ∧ val = S 15 x.toNatClampNeg) ∨ (r = 1 ∧ ¬ ixP (I 4) x)) ∧ scr I S u.1 u.2.1 ∧ (r = 0 → u.2.2 0 = val.toInt64)) (fun u t9 => va_P D clW (wC cy ad u.1 u.2.1 ++ oLD cy ao aq u.2.2 fd) t9.heap) (va_A (wC cy ad I S ++ oLD cy ao aq fo fd) sz)) 1 6 (va_A (wC cy ad I S ++ oLD cy ao aq fo fd) sz) := by
  refine enterH (cc := cL_lineAt) (by decide) (Nat.le_of_ble_eq_true rfl) ?_
  intro p e s m below meth c hx hb hr hml hown hts hlocks hT hv Q hQ ls hl
  obtain ⟨hC, hsz, hP, hK, hD0, hE, hZ⟩ := hv
  subst hsz
  have hD := hD0.self (sz := s.heap.size)
  generalize hAe : va_A (wC cy ad I S ++ oLD cy ao aq fo fd) s.heap.size = A at hD hQ hZ ⊢
  have hA : ∀ q : Nat, s.heap.size ≤ q → A q := fun q h => by rw [← hAe]; exact Or.inr h
  have hS : va_S A s.heap s.heap [] := va_S.rf
  suffices K_ : ∀ (H : Heap) (locs : List Loc), va_P D clW (wC cy ad I S ++ oLD cy ao aq fo fd) H → va_S A s.heap H locs → W p l e ({ frames := 7, cells := 1, slots := 6, locals := 111 }) s m ([.ref (ad 0), .int x, .ref ao] : List Value).toArray below meth c H locs 0 0 Q (F0 m 0 ls []) from K_ _ _ hP hS
  clear hP hS
  intro H locs hP hS
  have hown : s.vm.findClass RL = some m.cls := hown
  have hl : lv_has ls 4 [(0, .ref (ad 0)), (1, .int x), (2, .ref ao)] := hl
  refine lv_aload_n hx hb dL_lineAt_0 rfl (lv_at hl 2 rfl) ?_
  refine lv_iconst (v := 0) hx hb dL_lineAt_1 (by decide) ?_
  refine lv_aload_n hx hb dL_lineAt_2 rfl (lv_at hl 0 rfl) ?_
  refine lv_iload_n hx hb dL_lineAt_3 rfl (lv_at hl 1 rfl) ?_
  refine xrI_call (vx_runV (As := [.int x]) (rest := [.int 0, .ref ao]) ⟨hx, hb, hml, hown, hts⟩ (c_X6_lineAt l hl0 D cy ad I S x n hn hn6 hch) (cw_L_133 hts rfl rfl ⟨Nat.le_of_ble_eq_true rfl, Nat.le_of_ble_eq_true rfl⟩) (preVRX (ci := 6) (q0 := 0) hK hE (hZ.now hS).no (blkY (X := []) hP) rfl rfl) rfl rfl hl.1 rfl (lv_room (Nat.le_of_ble_eq_true rfl)) dL_lineAt_4 ⟨Nat.le_of_ble_eq_true rfl, Nat.le_of_ble_eq_true rfl⟩) (fun E ce q9 H1 hpx hz hk9 hce hcv hcl => ?_) (fun r hr_ => ?_)
  · have hP := keptP_all hP hk9
    have hS := keptS_all hS hz hk9
    obtain ⟨hE9, hpx⟩ := hpx
    subst hE9
    refine ct_call (E := eIOO) hown hE [] [] hT ps0 (by decide) (by decide) (hts _ wm_142) (List.mem_of_getElem? (i := 1) rfl) hce hcv hcl ?_
    refine lv_astore_n (lv' := [(3, .ref q9), (0, .ref (ad 0)), (1, .int x), (2, .ref ao)]) hx hb dL_lineAt_12 rfl hl (by decide) rfl (fun ls hl => ?_)
    refine lv_iconst (v := 1) hx hb dL_lineAt_13 (by decide) ?_
    exact wI_ret (I, S, fo) hS hP hx hb hr hlocks dL_lineAt_14 (Nat.le_of_ble_eq_true rfl) (Nat.le_of_ble_eq_true rfl) hQ ⟨0, (Or.inr ⟨rfl, hpx⟩), (scr_0 I S), fun h0 => absurd h0 (by decide)⟩
  · refine lv_i2l (v := r.toInt64) hx hb dL_lineAt_7 rfl ?_
    refine va_last hx hb hK hP hD hS 29 3 rfl rfl (i := 0) (x := r.toInt64) vp_in01 dL_lineAt_8 (fun H locs hP hD hS => ?_)
    have hP : va_P D clW (wC cy ad I S ++ oLD cy ao aq (vp_updL fo 0 r.toInt64) fd) H := hP
    refine lv_goto (tgt := 15) hx hb dL_lineAt_9 (by decide) ?_
    refine lv_iconst (v := 0) hx hb dL_lineAt_15 (by decide) ?_
    exact wI_ret (I, S, (vp_updL fo 0 r.toInt64)) hS hP hx hb hr hlocks dL_lineAt_16 (Nat.le_of_ble_eq_true rfl) (Nat.le_of_ble_eq_true rfl) hQ ⟨r, Or.inl ⟨rfl, hr_⟩, (scr_0 I S), fun _ => rfl⟩
