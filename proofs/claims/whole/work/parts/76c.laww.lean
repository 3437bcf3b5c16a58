/-! the law: its wrappers, 3 -/
set_option maxHeartbeats 4000000 in
set_option maxRecDepth 100000 in
theorem c_L_valueByReplay (l : Launch) (hl0 : l.stackTraces = false) (D : va_G) (cy : Nat → ClassId) (ad : Nat → Nat) (I : AI) (S : AS) (sz : Nat) (x : Int32) (b : Int32) (d : Int32) (t : Int32) (k : Nat) (n : Nat) (h : Nat) (fr : Nat → Nat) (to : Nat → Nat) (ofr : Nat → Nat) (oto : Nat → Nat) (hc : CIv I S k n h fr to ofr oto) (ao : Nat) (aq : Nat) (fo : Nat → Int64) (fd : Nat → UInt64) : Met l yL_valueByReplay (Cond.codeWith yL_valueByReplay cL_valueByReplay 7 (some .int) [(0, 14, 17, 19), (0, 14, 21, 21), (0, 14, 25, 62), (0, 14, 29, 27)] :: wsL_law) ({ frames := 10, cells := 5, slots := 30, locals := 178 }) (va_Pc [.ref (ad 0), .int x, .int b, .int d, .int t, .ref ao] (lwB D cy (wC cy ad I S ++ oLD cy ao aq fo fd) sz)) (va_Qi (S := AI × AS × (Nat → Int64)) (fun r u => ∃ val : Int32, ((r = 0 ∧ val = vlI (rpKN S (slI x b) ofr oto (S 17) t.toNatClampNeg) (rpVN S (slI x b) ofr oto (S 18) t.toNatClampNeg) d ∧ ac I x b d t ∧ kb (rpKN S (slI x b) ofr oto (S 17) t.toNatClampNeg) d = true) ∨ (r = 1 ∧ ax I x b d t eIOO) ∨ (r = 2 ∧ ax I x b d t eIAE) ∨ (r = 3 ∧ ax I x b d t eUOE) ∨ (r = 4 ∧ ac I x b d t ∧ ¬ kb (rpKN S (slI x b) ofr oto (S 17) t.toNatClampNeg) d = true)) ∧ scr I S u.1 u.2.1 ∧ (r = 0 → u.2.2 0 = val.toInt64)) (fun u t9 => va_P D clW (wC cy ad u.1 u.2.1 ++ oLD cy ao aq u.2.2 fd) t9.heap) (va_A (wC cy ad I S ++ oLD cy ao aq fo fd) sz)) 5 30 (va_A (wC cy ad I S ++ oLD cy ao aq fo fd) sz) := by
  refine enterH (cc := cL_valueByReplay) (by decide) (Nat.le_of_ble_eq_true rfl) ?_
  intro p e s m below meth c hx hb hr hml hown hts hlocks hT hv Q hQ ls hl
  obtain ⟨hC, hsz, hP, hK, hD0, hE, hZ⟩ := hv
  subst hsz
  have hD := hD0.self (sz := s.heap.size)
  generalize hAe : va_A (wC cy ad I S ++ oLD cy ao aq fo fd) s.heap.size = A at hD hQ hZ ⊢
  have hA : ∀ q : Nat, s.heap.size ≤ q → A q := fun q h => by rw [← hAe]; exact Or.inr h
  have hS : va_S A s.heap s.heap [] := va_S.rf
  suffices K_ : ∀ (H : Heap) (locs : List Loc), va_P D clW (wC cy ad I S ++ oLD cy ao aq fo fd) H → va_S A s.heap H locs → W p l e ({ frames := 10, cells := 5, slots := 30, locals := 178 }) s m ([.ref (ad 0), .int x, .int b, .int d, .int t, .ref ao] : List Value).toArray below meth c H locs 0 0 Q (F0 m 0 ls []) from K_ _ _ hP hS
  clear hP hS
  intro H locs hP hS
  have hown : s.vm.findClass RL = some m.cls := hown
  have hl : lv_has ls 7 [(0, .ref (ad 0)), (1, .int x), (2, .int b), (3, .int d), (4, .int t), (5, .ref ao)] := hl
  refine lv_aload hx hb dL_valueByReplay_0 (lv_at hl 5 rfl) ?_
  refine lv_iconst (v := 0) hx hb dL_valueByReplay_2 (by decide) ?_
  refine lv_aload_n hx hb dL_valueByReplay_3 rfl (lv_at hl 0 rfl) ?_
  refine lv_iload_n hx hb dL_valueByReplay_4 rfl (lv_at hl 1 rfl) ?_
  refine lv_iload_n hx hb dL_valueByReplay_5 rfl (lv_at hl 2 rfl) ?_
  refine lv_iload_n hx hb dL_valueByReplay_6 rfl (lv_at hl 3 rfl) ?_
  refine lv_iload hx hb dL_valueByReplay_7 (lv_at hl 4 rfl) ?_
  refine xcI_call (vx_runV (As := [.int x, .int b, .int d, .int t]) (rest := [.int 0, .ref ao]) ⟨hx, hb, hml, hown, hts⟩ (c_X6_valueByReplay l hl0 D cy ad I S H.size x b d t k n h fr to ofr oto hc) (cw_L_67 hts rfl rfl ⟨Nat.le_of_ble_eq_true rfl, Nat.le_of_ble_eq_true rfl⟩) (preVWX (ci := 6) (q0 := 0) hK hE (hZ.now hS) (blkF (X := []) hD hS hA) (blkY (X := []) hP) (blkYD (X := []) hD) rfl rfl) rfl rfl hl.1 rfl (lv_room (Nat.le_of_ble_eq_true rfl)) dL_valueByReplay_9 ⟨Nat.le_of_ble_eq_true rfl, Nat.le_of_ble_eq_true rfl⟩) (Z := oLD cy ao aq fo fd) hP hD hS hA (fun _ => rfl) (fun _ => rfl) (fun E ce q9 ux H locs hpx hP hD hS hce hcv hcl => ?_) (fun r un H locs hr_ hP hD hS => ?_)
  · obtain ⟨I2, S2⟩ := ux
    obtain ⟨hpx, hs⟩ := hpx
    have hP : va_P D clW (wC cy ad I2 S2 ++ oLD cy ao aq fo fd) H := hP
    rcases hpx with hpx | ⟨hE9, hpx⟩
    · rcases ax_E hpx with hE9 | hE9 | hE9
      · subst hE9
        refine ct_call (E := eIOO) hown hE [] [(0, 14, 21, 21), (0, 14, 25, 62), (0, 14, 29, 27)] hT ps0 (by decide) (by decide) (hts _ wm_142) (List.mem_of_getElem? (i := 1) rfl) hce hcv hcl ?_
        refine lv_astore (lv' := [(6, .ref q9), (0, .ref (ad 0)), (1, .int x), (2, .int b), (3, .int d), (4, .int t), (5, .ref ao)]) hx hb dL_valueByReplay_17 hl (by decide) rfl (fun ls hl => ?_)
        refine lv_iconst (v := 1) hx hb dL_valueByReplay_19 (by decide) ?_
        exact wI_ret (I2, S2, fo) hS hP hx hb hr hlocks dL_valueByReplay_20 (Nat.le_of_ble_eq_true rfl) (Nat.le_of_ble_eq_true rfl) hQ ⟨0, (Or.inr (Or.inl ⟨rfl, hpx⟩)), hs, fun h0 => absurd h0 (by decide)⟩
      · subst hE9
        refine ct_call (E := eIAE) hown hE [(0, 14, 17, 19)] [(0, 14, 25, 62), (0, 14, 29, 27)] hT (psC ⟨by decide, _, hts _ wm_142, hC _ (List.mem_of_getElem? (i := 2) rfl) _ (List.mem_of_getElem? (i := 1) rfl) (by decide +kernel)⟩ ps0) (by decide) (by decide) (hts _ wm_143) (List.mem_of_getElem? (i := 2) rfl) hce hcv hcl ?_
        refine lv_astore (lv' := [(6, .ref q9), (0, .ref (ad 0)), (1, .int x), (2, .int b), (3, .int d), (4, .int t), (5, .ref ao)]) hx hb dL_valueByReplay_21 hl (by decide) rfl (fun ls hl => ?_)
        refine lv_iconst (v := 2) hx hb dL_valueByReplay_23 (by decide) ?_
        exact wI_ret (I2, S2, fo) hS hP hx hb hr hlocks dL_valueByReplay_24 (Nat.le_of_ble_eq_true rfl) (Nat.le_of_ble_eq_true rfl) hQ ⟨0, (Or.inr (Or.inr (Or.inl ⟨rfl, hpx⟩))), hs, fun h0 => absurd h0 (by decide)⟩
      · subst hE9
        refine ct_call (E := eUOE) hown hE [(0, 14, 17, 19), (0, 14, 21, 21)] [(0, 14, 29, 27)] hT (psC ⟨by decide, _, hts _ wm_142, hC _ (List.mem_of_getElem? (i := 4) rfl) _ (List.mem_of_getElem? (i := 1) rfl) (by decide +kernel)⟩ (psC ⟨by decide, _, hts _ wm_143, hC _ (List.mem_of_getElem? (i := 4) rfl) _ (List.mem_of_getElem? (i := 2) rfl) (by decide +kernel)⟩ ps0)) (by decide) (by decide) (hts _ wm_489) (List.mem_of_getElem? (i := 4) rfl) hce hcv hcl ?_
        refine lv_astore (lv' := [(6, .ref q9), (0, .ref (ad 0)), (1, .int x), (2, .int b), (3, .int d), (4, .int t), (5, .ref ao)]) hx hb dL_valueByReplay_25 hl (by decide) rfl (fun ls hl => ?_)
        refine lv_iconst (v := 3) hx hb dL_valueByReplay_27 (by decide) ?_
        exact wI_ret (I2, S2, fo) hS hP hx hb hr hlocks dL_valueByReplay_28 (Nat.le_of_ble_eq_true rfl) (Nat.le_of_ble_eq_true rfl) hQ ⟨0, (Or.inr (Or.inr (Or.inr (Or.inl ⟨rfl, hpx⟩)))), hs, fun h0 => absurd h0 (by decide)⟩
    · subst hE9
      refine ct_call (E := eNSE) hown hE [(0, 14, 17, 19), (0, 14, 21, 21), (0, 14, 25, 62)] [] hT (psC ⟨by decide, _, hts _ wm_142, hC _ (List.mem_of_getElem? (i := 3) rfl) _ (List.mem_of_getElem? (i := 1) rfl) (by decide +kernel)⟩ (psC ⟨by decide, _, hts _ wm_143, hC _ (List.mem_of_getElem? (i := 3) rfl) _ (List.mem_of_getElem? (i := 2) rfl) (by decide +kernel)⟩ (psC ⟨by decide, _, hts _ wm_489, hC _ (List.mem_of_getElem? (i := 3) rfl) _ (List.mem_of_getElem? (i := 4) rfl) (by decide +kernel)⟩ ps0))) (by decide) (by decide) (hts _ wm_261) (List.mem_of_getElem? (i := 3) rfl) hce hcv hcl ?_
      refine lv_astore (lv' := [(6, .ref q9), (0, .ref (ad 0)), (1, .int x), (2, .int b), (3, .int d), (4, .int t), (5, .ref ao)]) hx hb dL_valueByReplay_29 hl (by decide) rfl (fun ls hl => ?_)
      refine lv_iconst (v := 4) hx hb dL_valueByReplay_31 (by decide) ?_
      exact wI_ret (I2, S2, fo) hS hP hx hb hr hlocks dL_valueByReplay_32 (Nat.le_of_ble_eq_true rfl) (Nat.le_of_ble_eq_true rfl) hQ ⟨0, (Or.inr (Or.inr (Or.inr (Or.inr ⟨rfl, hpx⟩)))), hs, fun h0 => absurd h0 (by decide)⟩
  · obtain ⟨I2, S2⟩ := un
    obtain ⟨h0, h1, h2, h3⟩ := hr_
    have hP : va_P D clW (wC cy ad I2 S2 ++ oLD cy ao aq fo fd) H := hP
    have hD : va_D A (wC cy ad I2 S2 ++ oLD cy ao aq fo fd) := hD
    refine lv_i2l (v := r.toInt64) hx hb dL_valueByReplay_12 rfl ?_
    refine va_last hx hb hK hP hD hS 29 3 rfl rfl (i := 0) (x := r.toInt64) vp_in01 dL_valueByReplay_13 (fun H locs hP hD hS => ?_)
    have hP : va_P D clW (wC cy ad I2 S2 ++ oLD cy ao aq (vp_updL fo 0 r.toInt64) fd) H := hP
    refine lv_goto (tgt := 33) hx hb dL_valueByReplay_14 (by decide) ?_
    refine lv_iconst (v := 0) hx hb dL_valueByReplay_33 (by decide) ?_
    exact wI_ret (I2, S2, (vp_updL fo 0 r.toInt64)) hS hP hx hb hr hlocks dL_valueByReplay_34 (Nat.le_of_ble_eq_true rfl) (Nat.le_of_ble_eq_true rfl) hQ ⟨r, Or.inl ⟨rfl, h0, h1, h2⟩, h3, fun _ => rfl⟩

set_option maxHeartbeats 4000000 in
set_option maxRecDepth 100000 in
theorem c_L_knownDays (l : Launch) (hl0 : l.stackTraces = false) (D : va_G) (cy : Nat → ClassId) (ad : Nat → Nat) (I : AI) (S : AS) (sz : Nat) (x : Int32) (b : Int32) (t : Int32) (k : Nat) (n : Nat) (h : Nat) (fr : Nat → Nat) (to : Nat → Nat) (ofr : Nat → Nat) (oto : Nat → Nat) (hc : CIv I S k n h fr to ofr oto) (ao : Nat) (aq : Nat) (fo : Nat → Int64) (fd : Nat → UInt64) : Met l yL_knownDays (Cond.codeWith yL_knownDays cL_knownDays 6 (some .int) [(0, 12, 15, 19), (0, 12, 19, 21), (0, 12, 23, 62)] :: wsL_law) ({ frames := 9, cells := 3, slots := 18, locals := 156 }) (va_Pc [.ref (ad 0), .int x, .int b, .int t, .ref ao] (lwB D cy (wC cy ad I S ++ oLD cy ao aq fo fd) sz)) (va_Qi (S := AI × AS × (Nat → Int64)) (fun r u => ∃ val : Int32, ((r = 0 ∧ tc I x b t ∧ val = cdN S (slI x b) 0 100 t k) ∨ (r = 1 ∧ tx I x b t eIOO) ∨ (r = 2 ∧ tx I x b t eIAE) ∨ (r = 3 ∧ tx I x b t eUOE)) ∧ scr I S u.1 u.2.1 ∧ (r = 0 → u.2.2 0 = val.toInt64)) (fun u t9 => va_P D clW (wC cy ad u.1 u.2.1 ++ oLD cy ao aq u.2.2 fd) t9.heap) (va_A (wC cy ad I S ++ oLD cy ao aq fo fd) sz)) 3 18 (va_A (wC cy ad I S ++ oLD cy ao aq fo fd) sz) := by
  refine enterH (cc := cL_knownDays) (by decide) (Nat.le_of_ble_eq_true rfl) ?_
  intro p e s m below meth c hx hb hr hml hown hts hlocks hT hv Q hQ ls hl
  obtain ⟨hC, hsz, hP, hK, hD0, hE, hZ⟩ := hv
  subst hsz
  have hD := hD0.self (sz := s.heap.size)
  generalize hAe : va_A (wC cy ad I S ++ oLD cy ao aq fo fd) s.heap.size = A at hD hQ hZ ⊢
  have hA : ∀ q : Nat, s.heap.size ≤ q → A q := fun q h => by rw [← hAe]; exact Or.inr h
  have hS : va_S A s.heap s.heap [] := va_S.rf
  suffices K_ : ∀ (H : Heap) (locs : List Loc), va_P D clW (wC cy ad I S ++ oLD cy ao aq fo fd) H → va_S A s.heap H locs → W p l e ({ frames := 9, cells := 3, slots := 18, locals := 156 }) s m ([.ref (ad 0), .int x, .int b, .int t, .ref ao] : List Value).toArray below meth c H locs 0 0 Q (F0 m 0 ls []) from K_ _ _ hP hS
  clear hP hS
  intro H locs hP hS
  have hown : s.vm.findClass RL = some m.cls := hown
  have hl : lv_has ls 6 [(0, .ref (ad 0)), (1, .int x), (2, .int b), (3, .int t), (4, .ref ao)] := hl
  refine lv_aload hx hb dL_knownDays_0 (lv_at hl 4 rfl) ?_
  refine lv_iconst (v := 0) hx hb dL_knownDays_2 (by decide) ?_
  refine lv_aload_n hx hb dL_knownDays_3 rfl (lv_at hl 0 rfl) ?_
  refine lv_iload_n hx hb dL_knownDays_4 rfl (lv_at hl 1 rfl) ?_
  refine lv_iload_n hx hb dL_knownDays_5 rfl (lv_at hl 2 rfl) ?_
  refine lv_iload_n hx hb dL_knownDays_6 rfl (lv_at hl 3 rfl) ?_
  refine xrI_call (vx_runV (As := [.int x, .int b, .int t]) (rest := [.int 0, .ref ao]) ⟨hx, hb, hml, hown, hts⟩ (c_X6_knownDays l hl0 D cy ad I S x b t k n h fr to ofr oto hc) (cw_L_70 hts rfl rfl ⟨Nat.le_of_ble_eq_true rfl, Nat.le_of_ble_eq_true rfl⟩) (preVRX (ci := 6) (q0 := 0) hK hE (hZ.now hS).no (blkY (X := []) hP) rfl rfl) rfl rfl hl.1 rfl (lv_room (Nat.le_of_ble_eq_true rfl)) dL_knownDays_7 ⟨Nat.le_of_ble_eq_true rfl, Nat.le_of_ble_eq_true rfl⟩) (fun E ce q9 H1 hpx hz hk9 hce hcv hcl => ?_) (fun r hr_ => ?_)
  · have hP := keptP_all hP hk9
    have hS := keptS_all hS hz hk9
    rcases tx_E hpx with hE9 | hE9 | hE9
    · subst hE9
      refine ct_call (E := eIOO) hown hE [] [(0, 12, 19, 21), (0, 12, 23, 62)] hT ps0 (by decide) (by decide) (hts _ wm_142) (List.mem_of_getElem? (i := 1) rfl) hce hcv hcl ?_
      refine lv_astore (lv' := [(5, .ref q9), (0, .ref (ad 0)), (1, .int x), (2, .int b), (3, .int t), (4, .ref ao)]) hx hb dL_knownDays_15 hl (by decide) rfl (fun ls hl => ?_)
      refine lv_iconst (v := 1) hx hb dL_knownDays_17 (by decide) ?_
      exact wI_ret (I, S, fo) hS hP hx hb hr hlocks dL_knownDays_18 (Nat.le_of_ble_eq_true rfl) (Nat.le_of_ble_eq_true rfl) hQ ⟨0, (Or.inr (Or.inl ⟨rfl, hpx⟩)), (scr_0 I S), fun h0 => absurd h0 (by decide)⟩
    · subst hE9
      refine ct_call (E := eIAE) hown hE [(0, 12, 15, 19)] [(0, 12, 23, 62)] hT (psC ⟨by decide, _, hts _ wm_142, hC _ (List.mem_of_getElem? (i := 2) rfl) _ (List.mem_of_getElem? (i := 1) rfl) (by decide +kernel)⟩ ps0) (by decide) (by decide) (hts _ wm_143) (List.mem_of_getElem? (i := 2) rfl) hce hcv hcl ?_
      refine lv_astore (lv' := [(5, .ref q9), (0, .ref (ad 0)), (1, .int x), (2, .int b), (3, .int t), (4, .ref ao)]) hx hb dL_knownDays_19 hl (by decide) rfl (fun ls hl => ?_)
      refine lv_iconst (v := 2) hx hb dL_knownDays_21 (by decide) ?_
      exact wI_ret (I, S, fo) hS hP hx hb hr hlocks dL_knownDays_22 (Nat.le_of_ble_eq_true rfl) (Nat.le_of_ble_eq_true rfl) hQ ⟨0, (Or.inr (Or.inr (Or.inl ⟨rfl, hpx⟩))), (scr_0 I S), fun h0 => absurd h0 (by decide)⟩
    · subst hE9
      refine ct_call (E := eUOE) hown hE [(0, 12, 15, 19), (0, 12, 19, 21)] [] hT (psC ⟨by decide, _, hts _ wm_142, hC _ (List.mem_of_getElem? (i := 4) rfl) _ (List.mem_of_getElem? (i := 1) rfl) (by decide +kernel)⟩ (psC ⟨by decide, _, hts _ wm_143, hC _ (List.mem_of_getElem? (i := 4) rfl) _ (List.mem_of_getElem? (i := 2) rfl) (by decide +kernel)⟩ ps0)) (by decide) (by decide) (hts _ wm_489) (List.mem_of_getElem? (i := 4) rfl) hce hcv hcl ?_
      refine lv_astore (lv' := [(5, .ref q9), (0, .ref (ad 0)), (1, .int x), (2, .int b), (3, .int t), (4, .ref ao)]) hx hb dL_knownDays_23 hl (by decide) rfl (fun ls hl => ?_)
      refine lv_iconst (v := 3) hx hb dL_knownDays_25 (by decide) ?_
      exact wI_ret (I, S, fo) hS hP hx hb hr hlocks dL_knownDays_26 (Nat.le_of_ble_eq_true rfl) (Nat.le_of_ble_eq_true rfl) hQ ⟨0, (Or.inr (Or.inr (Or.inr ⟨rfl, hpx⟩))), (scr_0 I S), fun h0 => absurd h0 (by decide)⟩
  · refine lv_i2l (v := r.toInt64) hx hb dL_knownDays_10 rfl ?_
    refine va_last hx hb hK hP hD hS 29 3 rfl rfl (i := 0) (x := r.toInt64) vp_in01 dL_knownDays_11 (fun H locs hP hD hS => ?_)
    have hP : va_P D clW (wC cy ad I S ++ oLD cy ao aq (vp_updL fo 0 r.toInt64) fd) H := hP
    refine lv_goto (tgt := 27) hx hb dL_knownDays_12 (by decide) ?_
    refine lv_iconst (v := 0) hx hb dL_knownDays_27 (by decide) ?_
    exact wI_ret (I, S, (vp_updL fo 0 r.toInt64)) hS hP hx hb hr hlocks dL_knownDays_28 (Nat.le_of_ble_eq_true rfl) (Nat.le_of_ble_eq_true rfl) hQ ⟨r, Or.inl ⟨rfl, hr_⟩, (scr_0 I S), fun _ => rfl⟩

set_option maxHeartbeats 4000000 in
set_option maxRecDepth 100000 in
theorem c_L_periodCount (l : Launch) (hl0 : l.stackTraces = false) (D : va_G) (cy : Nat → ClassId) (ad : Nat → Nat) (I : AI) (S : AS) (sz : Nat) (x : Int32) (b : Int32) (t : Int32) (k : Nat) (n : Nat) (h : Nat) (fr : Nat → Nat) (to : Nat → Nat) (ofr : Nat → Nat) (oto : Nat → Nat) (hc : CIv I S k n h fr to ofr oto) (ao : Nat) (aq : Nat) (fo : Nat → Int64) (fd : Nat → UInt64) : Met l yL_periodCount (Cond.codeWith yL_periodCount cL_periodCount 6 (some .int) [(0, 12, 15, 19), (0, 12, 19, 21), (0, 12, 23, 62)] :: wsL_law) ({ frames := 12, cells := 4, slots := 24, locals := 229 }) (va_Pc [.ref (ad 0), .int x, .int b, .int t, .ref ao] (lwB D cy (wC cy ad I S ++ oLD cy ao aq fo fd) sz)) (va_Qi (S := AI × AS × (Nat → Int64)) (fun r u => ∃ val : Int32, ((r = 0 ∧ val = nI (jpS S (slI x b) (slI x b) t fr to k).1 ∧ jc I x b x b t) ∨ (r = 1 ∧ jx I x b x b t eIOO) ∨ (r = 2 ∧ jx I x b x b t eIAE) ∨ (r = 3 ∧ jx I x b x b t eUOE)) ∧ scr I S u.1 u.2.1 ∧ (r = 0 → u.2.2 0 = val.toInt64)) (fun u t9 => va_P D clW (wC cy ad u.1 u.2.1 ++ oLD cy ao aq u.2.2 fd) t9.heap) (va_A (wC cy ad I S ++ oLD cy ao aq fo fd) sz)) 4 24 (va_A (wC cy ad I S ++ oLD cy ao aq fo fd) sz) := by
  refine enterH (cc := cL_periodCount) (by decide) (Nat.le_of_ble_eq_true rfl) ?_
  intro p e s m below meth c hx hb hr hml hown hts hlocks hT hv Q hQ ls hl
  obtain ⟨hC, hsz, hP, hK, hD0, hE, hZ⟩ := hv
  subst hsz
  have hD := hD0.self (sz := s.heap.size)
  generalize hAe : va_A (wC cy ad I S ++ oLD cy ao aq fo fd) s.heap.size = A at hD hQ hZ ⊢
  have hA : ∀ q : Nat, s.heap.size ≤ q → A q := fun q h => by rw [← hAe]; exact Or.inr h
  have hS : va_S A s.heap s.heap [] := va_S.rf
  suffices K_ : ∀ (H : Heap) (locs : List Loc), va_P D clW (wC cy ad I S ++ oLD cy ao aq fo fd) H → va_S A s.heap H locs → W p l e ({ frames := 12, cells := 4, slots := 24, locals := 229 }) s m ([.ref (ad 0), .int x, .int b, .int t, .ref ao] : List Value).toArray below meth c H locs 0 0 Q (F0 m 0 ls []) from K_ _ _ hP hS
  clear hP hS
  intro H locs hP hS
  have hown : s.vm.findClass RL = some m.cls := hown
  have hl : lv_has ls 6 [(0, .ref (ad 0)), (1, .int x), (2, .int b), (3, .int t), (4, .ref ao)] := hl
  refine lv_aload hx hb dL_periodCount_0 (lv_at hl 4 rfl) ?_
  refine lv_iconst (v := 0) hx hb dL_periodCount_2 (by decide) ?_
  refine lv_aload_n hx hb dL_periodCount_3 rfl (lv_at hl 0 rfl) ?_
  refine lv_iload_n hx hb dL_periodCount_4 rfl (lv_at hl 1 rfl) ?_
  refine lv_iload_n hx hb dL_periodCount_5 rfl (lv_at hl 2 rfl) ?_
  refine lv_iload_n hx hb dL_periodCount_6 rfl (lv_at hl 3 rfl) ?_
  refine xcI_call (vx_runV (As := [.int x, .int b, .int t]) (rest := [.int 0, .ref ao]) ⟨hx, hb, hml, hown, hts⟩ (c_X6_periodCount l hl0 D cy ad I S H.size x b t k n h fr to ofr oto hc) (cw_L_74 hts rfl rfl ⟨Nat.le_of_ble_eq_true rfl, Nat.le_of_ble_eq_true rfl⟩) (preVWX (ci := 6) (q0 := 0) hK hE (hZ.now hS) (blkF (X := []) hD hS hA) (blkY (X := []) hP) (blkYD (X := []) hD) rfl rfl) rfl rfl hl.1 rfl (lv_room (Nat.le_of_ble_eq_true rfl)) dL_periodCount_7 ⟨Nat.le_of_ble_eq_true rfl, Nat.le_of_ble_eq_true rfl⟩) (Z := oLD cy ao aq fo fd) hP hD hS hA (fun _ => rfl) (fun _ => rfl) (fun E ce q9 ux H locs hpx hP hD hS hce hcv hcl => ?_) (fun r un H locs hr_ hP hD hS => ?_)
  · obtain ⟨I2, S2⟩ := ux
    obtain ⟨hpx, hs⟩ := hpx
    have hP : va_P D clW (wC cy ad I2 S2 ++ oLD cy ao aq fo fd) H := hP
    rcases jx_E hpx with hE9 | hE9 | hE9
    · subst hE9
      refine ct_call (E := eIOO) hown hE [] [(0, 12, 19, 21), (0, 12, 23, 62)] hT ps0 (by decide) (by decide) (hts _ wm_142) (List.mem_of_getElem? (i := 1) rfl) hce hcv hcl ?_
      refine lv_astore (lv' := [(5, .ref q9), (0, .ref (ad 0)), (1, .int x), (2, .int b), (3, .int t), (4, .ref ao)]) hx hb dL_periodCount_15 hl (by decide) rfl (fun ls hl => ?_)
      refine lv_iconst (v := 1) hx hb dL_periodCount_17 (by decide) ?_
      exact wI_ret (I2, S2, fo) hS hP hx hb hr hlocks dL_periodCount_18 (Nat.le_of_ble_eq_true rfl) (Nat.le_of_ble_eq_true rfl) hQ ⟨0, (Or.inr (Or.inl ⟨rfl, hpx⟩)), hs, fun h0 => absurd h0 (by decide)⟩
    · subst hE9
      refine ct_call (E := eIAE) hown hE [(0, 12, 15, 19)] [(0, 12, 23, 62)] hT (psC ⟨by decide, _, hts _ wm_142, hC _ (List.mem_of_getElem? (i := 2) rfl) _ (List.mem_of_getElem? (i := 1) rfl) (by decide +kernel)⟩ ps0) (by decide) (by decide) (hts _ wm_143) (List.mem_of_getElem? (i := 2) rfl) hce hcv hcl ?_
      refine lv_astore (lv' := [(5, .ref q9), (0, .ref (ad 0)), (1, .int x), (2, .int b), (3, .int t), (4, .ref ao)]) hx hb dL_periodCount_19 hl (by decide) rfl (fun ls hl => ?_)
      refine lv_iconst (v := 2) hx hb dL_periodCount_21 (by decide) ?_
      exact wI_ret (I2, S2, fo) hS hP hx hb hr hlocks dL_periodCount_22 (Nat.le_of_ble_eq_true rfl) (Nat.le_of_ble_eq_true rfl) hQ ⟨0, (Or.inr (Or.inr (Or.inl ⟨rfl, hpx⟩))), hs, fun h0 => absurd h0 (by decide)⟩
    · subst hE9
      refine ct_call (E := eUOE) hown hE [(0, 12, 15, 19), (0, 12, 19, 21)] [] hT (psC ⟨by decide, _, hts _ wm_142, hC _ (List.mem_of_getElem? (i := 4) rfl) _ (List.mem_of_getElem? (i := 1) rfl) (by decide +kernel)⟩ (psC ⟨by decide, _, hts _ wm_143, hC _ (List.mem_of_getElem? (i := 4) rfl) _ (List.mem_of_getElem? (i := 2) rfl) (by decide +kernel)⟩ ps0)) (by decide) (by decide) (hts _ wm_489) (List.mem_of_getElem? (i := 4) rfl) hce hcv hcl ?_
      refine lv_astore (lv' := [(5, .ref q9), (0, .ref (ad 0)), (1, .int x), (2, .int b), (3, .int t), (4, .ref ao)]) hx hb dL_periodCount_23 hl (by decide) rfl (fun ls hl => ?_)
      refine lv_iconst (v := 3) hx hb dL_periodCount_25 (by decide) ?_
      exact wI_ret (I2, S2, fo) hS hP hx hb hr hlocks dL_periodCount_26 (Nat.le_of_ble_eq_true rfl) (Nat.le_of_ble_eq_true rfl) hQ ⟨0, (Or.inr (Or.inr (Or.inr ⟨rfl, hpx⟩))), hs, fun h0 => absurd h0 (by decide)⟩
  · obtain ⟨I2, S2⟩ := un
    obtain ⟨h0, h1, h2⟩ := hr_
    have hP : va_P D clW (wC cy ad I2 S2 ++ oLD cy ao aq fo fd) H := hP
    have hD : va_D A (wC cy ad I2 S2 ++ oLD cy ao aq fo fd) := hD
    refine lv_i2l (v := r.toInt64) hx hb dL_periodCount_10 rfl ?_
    refine va_last hx hb hK hP hD hS 29 3 rfl rfl (i := 0) (x := r.toInt64) vp_in01 dL_periodCount_11 (fun H locs hP hD hS => ?_)
    have hP : va_P D clW (wC cy ad I2 S2 ++ oLD cy ao aq (vp_updL fo 0 r.toInt64) fd) H := hP
    refine lv_goto (tgt := 27) hx hb dL_periodCount_12 (by decide) ?_
    refine lv_iconst (v := 0) hx hb dL_periodCount_27 (by decide) ?_
    exact wI_ret (I2, S2, (vp_updL fo 0 r.toInt64)) hS hP hx hb hr hlocks dL_periodCount_28 (Nat.le_of_ble_eq_true rfl) (Nat.le_of_ble_eq_true rfl) hQ ⟨r, Or.inl ⟨rfl, h0, h1⟩, h2, fun _ => rfl⟩

set_option maxHeartbeats 4000000 in
set_option maxRecDepth 100000 in
theorem c_L_periodFrom (l : Launch) (hl0 : l.stackTraces = false) (D : va_G) (cy : Nat → ClassId) (ad : Nat → Nat) (I : AI) (S : AS) (sz : Nat) (x : Int32) (b : Int32) (t : Int32) (ix : Int32) (k : Nat) (n : Nat) (h : Nat) (fr : Nat → Nat) (to : Nat → Nat) (ofr : Nat → Nat) (oto : Nat → Nat) (hc : CIv I S k n h fr to ofr oto) (ao : Nat) (aq : Nat) (fo : Nat → Int64) (fd : Nat → UInt64) : Met l yL_periodFrom (Cond.codeWith yL_periodFrom cL_periodFrom 7 (some .int) [(0, 14, 17, 19), (0, 14, 21, 21), (0, 14, 25, 62), (0, 14, 29, 27)] :: wsL_law) ({ frames := 12, cells := 5, slots := 30, locals := 230 }) (va_Pc [.ref (ad 0), .int x, .int b, .int t, .int ix, .ref ao] (lwB D cy (wC cy ad I S ++ oLD cy ao aq fo fd) sz)) (va_Qi (S := AI × AS × (Nat → Int64)) (fun r u => ∃ val : Int32, ((r = 0 ∧ val = (jpS S (slI x b) (slI x b) t fr to k).2.1 ix.toNatClampNeg ∧ jc I x b x b t ∧ ixP (nI (jpS S (slI x b) (slI x b) t fr to k).1) ix) ∨ (r = 1 ∧ jx I x b x b t eIOO) ∨ (r = 2 ∧ jx I x b x b t eIAE) ∨ (r = 3 ∧ jx I x b x b t eUOE) ∨ (r = 4 ∧ jc I x b x b t ∧ ¬ ixP (nI (jpS S (slI x b) (slI x b) t fr to k).1) ix)) ∧ scr I S u.1 u.2.1 ∧ (r = 0 → u.2.2 0 = val.toInt64)) (fun u t9 => va_P D clW (wC cy ad u.1 u.2.1 ++ oLD cy ao aq u.2.2 fd) t9.heap) (va_A (wC cy ad I S ++ oLD cy ao aq fo fd) sz)) 5 30 (va_A (wC cy ad I S ++ oLD cy ao aq fo fd) sz) := by
  refine enterH (cc := cL_periodFrom) (by decide) (Nat.le_of_ble_eq_true rfl) ?_
  intro p e s m below meth c hx hb hr hml hown hts hlocks hT hv Q hQ ls hl
  obtain ⟨hC, hsz, hP, hK, hD0, hE, hZ⟩ := hv
  subst hsz
  have hD := hD0.self (sz := s.heap.size)
  generalize hAe : va_A (wC cy ad I S ++ oLD cy ao aq fo fd) s.heap.size = A at hD hQ hZ ⊢
  have hA : ∀ q : Nat, s.heap.size ≤ q → A q := fun q h => by rw [← hAe]; exact Or.inr h
  have hS : va_S A s.heap s.heap [] := va_S.rf
  suffices K_ : ∀ (H : Heap) (locs : List Loc), va_P D clW (wC cy ad I S ++ oLD cy ao aq fo fd) H → va_S A s.heap H locs → W p l e ({ frames := 12, cells := 5, slots := 30, locals := 230 }) s m ([.ref (ad 0), .int x, .int b, .int t, .int ix, .ref ao] : List Value).toArray below meth c H locs 0 0 Q (F0 m 0 ls []) from K_ _ _ hP hS
  clear hP hS
  intro H locs hP hS
  have hown : s.vm.findClass RL = some m.cls := hown
  have hl : lv_has ls 7 [(0, .ref (ad 0)), (1, .int x), (2, .int b), (3, .int t), (4, .int ix), (5, .ref ao)] := hl
  refine lv_aload hx hb dL_periodFrom_0 (lv_at hl 5 rfl) ?_
  refine lv_iconst (v := 0) hx hb dL_periodFrom_2 (by decide) ?_
  refine lv_aload_n hx hb dL_periodFrom_3 rfl (lv_at hl 0 rfl) ?_
  refine lv_iload_n hx hb dL_periodFrom_4 rfl (lv_at hl 1 rfl) ?_
  refine lv_iload_n hx hb dL_periodFrom_5 rfl (lv_at hl 2 rfl) ?_
  refine lv_iload_n hx hb dL_periodFrom_6 rfl (lv_at hl 3 rfl) ?_
  refine lv_iload hx hb dL_periodFrom_7 (lv_at hl 4 rfl) ?_
  refine xcI_call (vx_runV (As := [.int x, .int b, .int t, .int ix]) (rest := [.int 0, .ref ao]) ⟨hx, hb, hml, hown, hts⟩ (c_X6_periodFrom l hl0 D cy ad I S H.size x b t ix k n h fr to ofr oto hc) (cw_L_77 hts rfl rfl ⟨Nat.le_of_ble_eq_true rfl, Nat.le_of_ble_eq_true rfl⟩) (preVWX (ci := 6) (q0 := 0) hK hE (hZ.now hS) (blkF (X := []) hD hS hA) (blkY (X := []) hP) (blkYD (X := []) hD) rfl rfl) rfl rfl hl.1 rfl (lv_room (Nat.le_of_ble_eq_true rfl)) dL_periodFrom_9 ⟨Nat.le_of_ble_eq_true rfl, Nat.le_of_ble_eq_true rfl⟩) (Z := oLD cy ao aq fo fd) hP hD hS hA (fun _ => rfl) (fun _ => rfl) (fun E ce q9 ux H locs hpx hP hD hS hce hcv hcl => ?_) (fun r un H locs hr_ hP hD hS => ?_)
  · obtain ⟨I2, S2⟩ := ux
    obtain ⟨hpx, hs⟩ := hpx
    have hP : va_P D clW (wC cy ad I2 S2 ++ oLD cy ao aq fo fd) H := hP
    rcases hpx with hpx | ⟨hE9, hpx⟩
    · rcases jx_E hpx with hE9 | hE9 | hE9
      · subst hE9
        refine ct_call (E := eIOO) hown hE [] [(0, 14, 21, 21), (0, 14, 25, 62), (0, 14, 29, 27)] hT ps0 (by decide) (by decide) (hts _ wm_142) (List.mem_of_getElem? (i := 1) rfl) hce hcv hcl ?_
        refine lv_astore (lv' := [(6, .ref q9), (0, .ref (ad 0)), (1, .int x), (2, .int b), (3, .int t), (4, .int ix), (5, .ref ao)]) hx hb dL_periodFrom_17 hl (by decide) rfl (fun ls hl => ?_)
        refine lv_iconst (v := 1) hx hb dL_periodFrom_19 (by decide) ?_
        exact wI_ret (I2, S2, fo) hS hP hx hb hr hlocks dL_periodFrom_20 (Nat.le_of_ble_eq_true rfl) (Nat.le_of_ble_eq_true rfl) hQ ⟨0, (Or.inr (Or.inl ⟨rfl, hpx⟩)), hs, fun h0 => absurd h0 (by decide)⟩
      · subst hE9
        refine ct_call (E := eIAE) hown hE [(0, 14, 17, 19)] [(0, 14, 25, 62), (0, 14, 29, 27)] hT (psC ⟨by decide, _, hts _ wm_142, hC _ (List.mem_of_getElem? (i := 2) rfl) _ (List.mem_of_getElem? (i := 1) rfl) (by decide +kernel)⟩ ps0) (by decide) (by decide) (hts _ wm_143) (List.mem_of_getElem? (i := 2) rfl) hce hcv hcl ?_
        refine lv_astore (lv' := [(6, .ref q9), (0, .ref (ad 0)), (1, .int x), (2, .int b), (3, .int t), (4, .int ix), (5, .ref ao)]) hx hb dL_periodFrom_21 hl (by decide) rfl (fun ls hl => ?_)
        refine lv_iconst (v := 2) hx hb dL_periodFrom_23 (by decide) ?_
        exact wI_ret (I2, S2, fo) hS hP hx hb hr hlocks dL_periodFrom_24 (Nat.le_of_ble_eq_true rfl) (Nat.le_of_ble_eq_true rfl) hQ ⟨0, (Or.inr (Or.inr (Or.inl ⟨rfl, hpx⟩))), hs, fun h0 => absurd h0 (by decide)⟩
      · subst hE9
        refine ct_call (E := eUOE) hown hE [(0, 14, 17, 19), (0, 14, 21, 21)] [(0, 14, 29, 27)] hT (psC ⟨by decide, _, hts _ wm_142, hC _ (List.mem_of_getElem? (i := 4) rfl) _ (List.mem_of_getElem? (i := 1) rfl) (by decide +kernel)⟩ (psC ⟨by decide, _, hts _ wm_143, hC _ (List.mem_of_getElem? (i := 4) rfl) _ (List.mem_of_getElem? (i := 2) rfl) (by decide +kernel)⟩ ps0)) (by decide) (by decide) (hts _ wm_489) (List.mem_of_getElem? (i := 4) rfl) hce hcv hcl ?_
        refine lv_astore (lv' := [(6, .ref q9), (0, .ref (ad 0)), (1, .int x), (2, .int b), (3, .int t), (4, .int ix), (5, .ref ao)]) hx hb dL_periodFrom_25 hl (by decide) rfl (fun ls hl => ?_)
        refine lv_iconst (v := 3) hx hb dL_periodFrom_27 (by decide) ?_
        exact wI_ret (I2, S2, fo) hS hP hx hb hr hlocks dL_periodFrom_28 (Nat.le_of_ble_eq_true rfl) (Nat.le_of_ble_eq_true rfl) hQ ⟨0, (Or.inr (Or.inr (Or.inr (Or.inl ⟨rfl, hpx⟩)))), hs, fun h0 => absurd h0 (by decide)⟩
    · subst hE9
      refine ct_call (E := eNSE) hown hE [(0, 14, 17, 19), (0, 14, 21, 21), (0, 14, 25, 62)] [] hT (psC ⟨by decide, _, hts _ wm_142, hC _ (List.mem_of_getElem? (i := 3) rfl) _ (List.mem_of_getElem? (i := 1) rfl) (by decide +kernel)⟩ (psC ⟨by decide, _, hts _ wm_143, hC _ (List.mem_of_getElem? (i := 3) rfl) _ (List.mem_of_getElem? (i := 2) rfl) (by decide +kernel)⟩ (psC ⟨by decide, _, hts _ wm_489, hC _ (List.mem_of_getElem? (i := 3) rfl) _ (List.mem_of_getElem? (i := 4) rfl) (by decide +kernel)⟩ ps0))) (by decide) (by decide) (hts _ wm_261) (List.mem_of_getElem? (i := 3) rfl) hce hcv hcl ?_
      refine lv_astore (lv' := [(6, .ref q9), (0, .ref (ad 0)), (1, .int x), (2, .int b), (3, .int t), (4, .int ix), (5, .ref ao)]) hx hb dL_periodFrom_29 hl (by decide) rfl (fun ls hl => ?_)
      refine lv_iconst (v := 4) hx hb dL_periodFrom_31 (by decide) ?_
      exact wI_ret (I2, S2, fo) hS hP hx hb hr hlocks dL_periodFrom_32 (Nat.le_of_ble_eq_true rfl) (Nat.le_of_ble_eq_true rfl) hQ ⟨0, (Or.inr (Or.inr (Or.inr (Or.inr ⟨rfl, hpx⟩)))), hs, fun h0 => absurd h0 (by decide)⟩
  · obtain ⟨I2, S2⟩ := un
    obtain ⟨h0, h1, h2, h3⟩ := hr_
    have hP : va_P D clW (wC cy ad I2 S2 ++ oLD cy ao aq fo fd) H := hP
    have hD : va_D A (wC cy ad I2 S2 ++ oLD cy ao aq fo fd) := hD
    refine lv_i2l (v := r.toInt64) hx hb dL_periodFrom_12 rfl ?_
    refine va_last hx hb hK hP hD hS 29 3 rfl rfl (i := 0) (x := r.toInt64) vp_in01 dL_periodFrom_13 (fun H locs hP hD hS => ?_)
    have hP : va_P D clW (wC cy ad I2 S2 ++ oLD cy ao aq (vp_updL fo 0 r.toInt64) fd) H := hP
    refine lv_goto (tgt := 33) hx hb dL_periodFrom_14 (by decide) ?_
    refine lv_iconst (v := 0) hx hb dL_periodFrom_33 (by decide) ?_
    exact wI_ret (I2, S2, (vp_updL fo 0 r.toInt64)) hS hP hx hb hr hlocks dL_periodFrom_34 (Nat.le_of_ble_eq_true rfl) (Nat.le_of_ble_eq_true rfl) hQ ⟨r, Or.inl ⟨rfl, h0, h1, h2⟩, h3, fun _ => rfl⟩

set_option maxHeartbeats 4000000 in
set_option maxRecDepth 100000 in
theorem c_L_periodTo (l : Launch) (hl0 : l.stackTraces = false) (D : va_G) (cy : Nat → ClassId) (ad : Nat → Nat) (I : AI) (S : AS) (sz : Nat) (x : Int32) (b : Int32) (t : Int32) (ix : Int32) (k : Nat) (n : Nat) (h : Nat) (fr : Nat → Nat) (to : Nat → Nat) (ofr : Nat → Nat) (oto : Nat → Nat) (hc : CIv I S k n h fr to ofr oto) (ao : Nat) (aq : Nat) (fo : Nat → Int64) (fd : Nat → UInt64) : Met l yL_periodTo (Cond.codeWith yL_periodTo cL_periodTo 7 (some .int) [(0, 14, 17, 19), (0, 14, 21, 21), (0, 14, 25, 62), (0, 14, 29, 27)] :: wsL_law) ({ frames := 12, cells := 5, slots := 30, locals := 230 }) (va_Pc [.ref (ad 0), .int x, .int b, .int t, .int ix, .ref ao] (lwB D cy (wC cy ad I S ++ oLD cy ao aq fo fd) sz)) (va_Qi (S := AI × AS × (Nat → Int64)) (fun r u => ∃ val : Int32, ((r = 0 ∧ val = (jpS S (slI x b) (slI x b) t fr to k).2.2 ix.toNatClampNeg ∧ jc I x b x b t ∧ ixP (nI (jpS S (slI x b) (slI x b) t fr to k).1) ix) ∨ (r = 1 ∧ jx I x b x b t eIOO) ∨ (r = 2 ∧ jx I x b x b t eIAE) ∨ (r = 3 ∧ jx I x b x b t eUOE) ∨ (r = 4 ∧ jc I x b x b t ∧ ¬ ixP (nI (jpS S (slI x b) (slI x b) t fr to k).1) ix)) ∧ scr I S u.1 u.2.1 ∧ (r = 0 → u.2.2 0 = val.toInt64)) (fun u t9 => va_P D clW (wC cy ad u.1 u.2.1 ++ oLD cy ao aq u.2.2 fd) t9.heap) (va_A (wC cy ad I S ++ oLD cy ao aq fo fd) sz)) 5 30 (va_A (wC cy ad I S ++ oLD cy ao aq fo fd) sz) := by
  refine enterH (cc := cL_periodTo) (by decide) (Nat.le_of_ble_eq_true rfl) ?_
  intro p e s m below meth c hx hb hr hml hown hts hlocks hT hv Q hQ ls hl
  obtain ⟨hC, hsz, hP, hK, hD0, hE, hZ⟩ := hv
  subst hsz
  have hD := hD0.self (sz := s.heap.size)
  generalize hAe : va_A (wC cy ad I S ++ oLD cy ao aq fo fd) s.heap.size = A at hD hQ hZ ⊢
  have hA : ∀ q : Nat, s.heap.size ≤ q → A q := fun q h => by rw [← hAe]; exact Or.inr h
  have hS : va_S A s.heap s.heap [] := va_S.rf
  suffices K_ : ∀ (H : Heap) (locs : List Loc), va_P D clW (wC cy ad I S ++ oLD cy ao aq fo fd) H → va_S A s.heap H locs → W p l e ({ frames := 12, cells := 5, slots := 30, locals := 230 }) s m ([.ref (ad 0), .int x, .int b, .int t, .int ix, .ref ao] : List Value).toArray below meth c H locs 0 0 Q (F0 m 0 ls []) from K_ _ _ hP hS
  clear hP hS
  intro H locs hP hS
  have hown : s.vm.findClass RL = some m.cls := hown
  have hl : lv_has ls 7 [(0, .ref (ad 0)), (1, .int x), (2, .int b), (3, .int t), (4, .int ix), (5, .ref ao)] := hl
  refine lv_aload hx hb dL_periodTo_0 (lv_at hl 5 rfl) ?_
  refine lv_iconst (v := 0) hx hb dL_periodTo_2 (by decide) ?_
  refine lv_aload_n hx hb dL_periodTo_3 rfl (lv_at hl 0 rfl) ?_
  refine lv_iload_n hx hb dL_periodTo_4 rfl (lv_at hl 1 rfl) ?_
  refine lv_iload_n hx hb dL_periodTo_5 rfl (lv_at hl 2 rfl) ?_
  refine lv_iload_n hx hb dL_periodTo_6 rfl (lv_at hl 3 rfl) ?_
  refine lv_iload hx hb dL_periodTo_7 (lv_at hl 4 rfl) ?_
  refine xcI_call (vx_runV (As := [.int x, .int b, .int t, .int ix]) (rest := [.int 0, .ref ao]) ⟨hx, hb, hml, hown, hts⟩ (c_X6_periodTo l hl0 D cy ad I S H.size x b t ix k n h fr to ofr oto hc) (cw_L_80 hts rfl rfl ⟨Nat.le_of_ble_eq_true rfl, Nat.le_of_ble_eq_true rfl⟩) (preVWX (ci := 6) (q0 := 0) hK hE (hZ.now hS) (blkF (X := []) hD hS hA) (blkY (X := []) hP) (blkYD (X := []) hD) rfl rfl) rfl rfl hl.1 rfl (lv_room (Nat.le_of_ble_eq_true rfl)) dL_periodTo_9 ⟨Nat.le_of_ble_eq_true rfl, Nat.le_of_ble_eq_true rfl⟩) (Z := oLD cy ao aq fo fd) hP hD hS hA (fun _ => rfl) (fun _ => rfl) (fun E ce q9 ux H locs hpx hP hD hS hce hcv hcl => ?_) (fun r un H locs hr_ hP hD hS => ?_)
  · obtain ⟨I2, S2⟩ := ux
    obtain ⟨hpx, hs⟩ := hpx
    have hP : va_P D clW (wC cy ad I2 S2 ++ oLD cy ao aq fo fd) H := hP
    rcases hpx with hpx | ⟨hE9, hpx⟩
    · rcases jx_E hpx with hE9 | hE9 | hE9
      · subst hE9
        refine ct_call (E := eIOO) hown hE [] [(0, 14, 21, 21), (0, 14, 25, 62), (0, 14, 29, 27)] hT ps0 (by decide) (by decide) (hts _ wm_142) (List.mem_of_getElem? (i := 1) rfl) hce hcv hcl ?_
        refine lv_astore (lv' := [(6, .ref q9), (0, .ref (ad 0)), (1, .int x), (2, .int b), (3, .int t), (4, .int ix), (5, .ref ao)]) hx hb dL_periodTo_17 hl (by decide) rfl (fun ls hl => ?_)
        refine lv_iconst (v := 1) hx hb dL_periodTo_19 (by decide) ?_
        exact wI_ret (I2, S2, fo) hS hP hx hb hr hlocks dL_periodTo_20 (Nat.le_of_ble_eq_true rfl) (Nat.le_of_ble_eq_true rfl) hQ ⟨0, (Or.inr (Or.inl ⟨rfl, hpx⟩)), hs, fun h0 => absurd h0 (by decide)⟩
      · subst hE9
        refine ct_call (E := eIAE) hown hE [(0, 14, 17, 19)] [(0, 14, 25, 62), (0, 14, 29, 27)] hT (psC ⟨by decide, _, hts _ wm_142, hC _ (List.mem_of_getElem? (i := 2) rfl) _ (List.mem_of_getElem? (i := 1) rfl) (by decide +kernel)⟩ ps0) (by decide) (by decide) (hts _ wm_143) (List.mem_of_getElem? (i := 2) rfl) hce hcv hcl ?_
        refine lv_astore (lv' := [(6, .ref q9), (0, .ref (ad 0)), (1, .int x), (2, .int b), (3, .int t), (4, .int ix), (5, .ref ao)]) hx hb dL_periodTo_21 hl (by decide) rfl (fun ls hl => ?_)
        refine lv_iconst (v := 2) hx hb dL_periodTo_23 (by decide) ?_
        exact wI_ret (I2, S2, fo) hS hP hx hb hr hlocks dL_periodTo_24 (Nat.le_of_ble_eq_true rfl) (Nat.le_of_ble_eq_true rfl) hQ ⟨0, (Or.inr (Or.inr (Or.inl ⟨rfl, hpx⟩))), hs, fun h0 => absurd h0 (by decide)⟩
      · subst hE9
        refine ct_call (E := eUOE) hown hE [(0, 14, 17, 19), (0, 14, 21, 21)] [(0, 14, 29, 27)] hT (psC ⟨by decide, _, hts _ wm_142, hC _ (List.mem_of_getElem? (i := 4) rfl) _ (List.mem_of_getElem? (i := 1) rfl) (by decide +kernel)⟩ (psC ⟨by decide, _, hts _ wm_143, hC _ (List.mem_of_getElem? (i := 4) rfl) _ (List.mem_of_getElem? (i := 2) rfl) (by decide +kernel)⟩ ps0)) (by decide) (by decide) (hts _ wm_489) (List.mem_of_getElem? (i := 4) rfl) hce hcv hcl ?_
        refine lv_astore (lv' := [(6, .ref q9), (0, .ref (ad 0)), (1, .int x), (2, .int b), (3, .int t), (4, .int ix), (5, .ref ao)]) hx hb dL_periodTo_25 hl (by decide) rfl (fun ls hl => ?_)
        refine lv_iconst (v := 3) hx hb dL_periodTo_27 (by decide) ?_
        exact wI_ret (I2, S2, fo) hS hP hx hb hr hlocks dL_periodTo_28 (Nat.le_of_ble_eq_true rfl) (Nat.le_of_ble_eq_true rfl) hQ ⟨0, (Or.inr (Or.inr (Or.inr (Or.inl ⟨rfl, hpx⟩)))), hs, fun h0 => absurd h0 (by decide)⟩
    · subst hE9
      refine ct_call (E := eNSE) hown hE [(0, 14, 17, 19), (0, 14, 21, 21), (0, 14, 25, 62)] [] hT (psC ⟨by decide, _, hts _ wm_142, hC _ (List.mem_of_getElem? (i := 3) rfl) _ (List.mem_of_getElem? (i := 1) rfl) (by decide +kernel)⟩ (psC ⟨by decide, _, hts _ wm_143, hC _ (List.mem_of_getElem? (i := 3) rfl) _ (List.mem_of_getElem? (i := 2) rfl) (by decide +kernel)⟩ (psC ⟨by decide, _, hts _ wm_489, hC _ (List.mem_of_getElem? (i := 3) rfl) _ (List.mem_of_getElem? (i := 4) rfl) (by decide +kernel)⟩ ps0))) (by decide) (by decide) (hts _ wm_261) (List.mem_of_getElem? (i := 3) rfl) hce hcv hcl ?_
      refine lv_astore (lv' := [(6, .ref q9), (0, .ref (ad 0)), (1, .int x), (2, .int b), (3, .int t), (4, .int ix), (5, .ref ao)]) hx hb dL_periodTo_29 hl (by decide) rfl (fun ls hl => ?_)
      refine lv_iconst (v := 4) hx hb dL_periodTo_31 (by decide) ?_
      exact wI_ret (I2, S2, fo) hS hP hx hb hr hlocks dL_periodTo_32 (Nat.le_of_ble_eq_true rfl) (Nat.le_of_ble_eq_true rfl) hQ ⟨0, (Or.inr (Or.inr (Or.inr (Or.inr ⟨rfl, hpx⟩)))), hs, fun h0 => absurd h0 (by decide)⟩
  · obtain ⟨I2, S2⟩ := un
    obtain ⟨h0, h1, h2, h3⟩ := hr_
    have hP : va_P D clW (wC cy ad I2 S2 ++ oLD cy ao aq fo fd) H := hP
    have hD : va_D A (wC cy ad I2 S2 ++ oLD cy ao aq fo fd) := hD
    refine lv_i2l (v := r.toInt64) hx hb dL_periodTo_12 rfl ?_
    refine va_last hx hb hK hP hD hS 29 3 rfl rfl (i := 0) (x := r.toInt64) vp_in01 dL_periodTo_13 (fun H locs hP hD hS => ?_)
    have hP : va_P D clW (wC cy ad I2 S2 ++ oLD cy ao aq (vp_updL fo 0 r.toInt64) fd) H := hP
    refine lv_goto (tgt := 33) hx hb dL_periodTo_14 (by decide) ?_
    refine lv_iconst (v := 0) hx hb dL_periodTo_33 (by decide) ?_
    exact wI_ret (I2, S2, (vp_updL fo 0 r.toInt64)) hS hP hx hb hr hlocks dL_periodTo_34 (Nat.le_of_ble_eq_true rfl) (Nat.le_of_ble_eq_true rfl) hQ ⟨r, Or.inl ⟨rfl, h0, h1, h2⟩, h3, fun _ => rfl⟩

set_option maxHeartbeats 4000000 in
set_option maxRecDepth 100000 in
theorem c_L_periodValue (l : Launch) (hl0 : l.stackTraces = false) (D : va_G) (cy : Nat → ClassId) (ad : Nat → Nat) (I : AI) (S : AS) (sz : Nat) (x : Int32) (b : Int32) (t : Int32) (ix : Int32) (k : Nat) (n : Nat) (h : Nat) (fr : Nat → Nat) (to : Nat → Nat) (ofr : Nat → Nat) (oto : Nat → Nat) (hc : CIv I S k n h fr to ofr oto) (ao : Nat) (aq : Nat) (fo : Nat → Int64) (fd : Nat → UInt64) : Met l yL_periodValue (Cond.codeWith yL_periodValue cL_periodValue 7 (some .int) [(0, 14, 17, 19), (0, 14, 21, 21), (0, 14, 25, 62), (0, 14, 29, 27)] :: wsL_law) ({ frames := 12, cells := 5, slots := 30, locals := 230 }) (va_Pc [.ref (ad 0), .int x, .int b, .int t, .int ix, .ref ao] (lwB D cy (wC cy ad I S ++ oLD cy ao aq fo fd) sz)) (va_Qi (S := AI × AS × (Nat → Int64)) (fun r u => ∃ val : Int32, ((r = 0 ∧ val = vlI (rdKN S (slI x b) t fr to (S 17) k) (rdVN S (slI x b) t fr to (S 18) k) ((jpS S (slI x b) (slI x b) t fr to k).2.1 ix.toNatClampNeg) ∧ jc I x b x b t ∧ ixP (nI (jpS S (slI x b) (slI x b) t fr to k).1) ix) ∨ (r = 1 ∧ jx I x b x b t eIOO) ∨ (r = 2 ∧ jx I x b x b t eIAE) ∨ (r = 3 ∧ jx I x b x b t eUOE) ∨ (r = 4 ∧ jc I x b x b t ∧ ¬ ixP (nI (jpS S (slI x b) (slI x b) t fr to k).1) ix)) ∧ scr I S u.1 u.2.1 ∧ (r = 0 → u.2.2 0 = val.toInt64)) (fun u t9 => va_P D clW (wC cy ad u.1 u.2.1 ++ oLD cy ao aq u.2.2 fd) t9.heap) (va_A (wC cy ad I S ++ oLD cy ao aq fo fd) sz)) 5 30 (va_A (wC cy ad I S ++ oLD cy ao aq fo fd) sz) := by
  refine enterH (cc := cL_periodValue) (by decide) (Nat.le_of_ble_eq_true rfl) ?_
  intro p e s m below meth c hx hb hr hml hown hts hlocks hT hv Q hQ ls hl
  obtain ⟨hC, hsz, hP, hK, hD0, hE, hZ⟩ := hv
  subst hsz
  have hD := hD0.self (sz := s.heap.size)
  generalize hAe : va_A (wC cy ad I S ++ oLD cy ao aq fo fd) s.heap.size = A at hD hQ hZ ⊢
  have hA : ∀ q : Nat, s.heap.size ≤ q → A q := fun q h => by rw [← hAe]; exact Or.inr h
  have hS : va_S A s.heap s.heap [] := va_S.rf
  suffices K_ : ∀ (H : Heap) (locs : List Loc), va_P D clW (wC cy ad I S ++ oLD cy ao aq fo fd) H → va_S A s.heap H locs → W p l e ({ frames := 12, cells := 5, slots := 30, locals := 230 }) s m ([.ref (ad 0), .int x, .int b, .int t, .int ix, .ref ao] : List Value).toArray below meth c H locs 0 0 Q (F0 m 0 ls []) from K_ _ _ hP hS
  clear hP hS
  intro H locs hP hS
  have hown : s.vm.findClass RL = some m.cls := hown
  have hl : lv_has ls 7 [(0, .ref (ad 0)), (1, .int x), (2, .int b), (3, .int t), (4, .int ix), (5, .ref ao)] := hl
  refine lv_aload hx hb dL_periodValue_0 (lv_at hl 5 rfl) ?_
  refine lv_iconst (v := 0) hx hb dL_periodValue_2 (by decide) ?_
  refine lv_aload_n hx hb dL_periodValue_3 rfl (lv_at hl 0 rfl) ?_
  refine lv_iload_n hx hb dL_periodValue_4 rfl (lv_at hl 1 rfl) ?_
  refine lv_iload_n hx hb dL_periodValue_5 rfl (lv_at hl 2 rfl) ?_
  refine lv_iload_n hx hb dL_periodValue_6 rfl (lv_at hl 3 rfl) ?_
  refine lv_iload hx hb dL_periodValue_7 (lv_at hl 4 rfl) ?_
  refine xcI_call (vx_runV (As := [.int x, .int b, .int t, .int ix]) (rest := [.int 0, .ref ao]) ⟨hx, hb, hml, hown, hts⟩ (c_X6_periodValue l hl0 D cy ad I S H.size x b t ix k n h fr to ofr oto hc) (cw_L_83 hts rfl rfl ⟨Nat.le_of_ble_eq_true rfl, Nat.le_of_ble_eq_true rfl⟩) (preVWX (ci := 6) (q0 := 0) hK hE (hZ.now hS) (blkF (X := []) hD hS hA) (blkY (X := []) hP) (blkYD (X := []) hD) rfl rfl) rfl rfl hl.1 rfl (lv_room (Nat.le_of_ble_eq_true rfl)) dL_periodValue_9 ⟨Nat.le_of_ble_eq_true rfl, Nat.le_of_ble_eq_true rfl⟩) (Z := oLD cy ao aq fo fd) hP hD hS hA (fun _ => rfl) (fun _ => rfl) (fun E ce q9 ux H locs hpx hP hD hS hce hcv hcl => ?_) (fun r un H locs hr_ hP hD hS => ?_)
  · obtain ⟨I2, S2⟩ := ux
    obtain ⟨hpx, hs⟩ := hpx
    have hP : va_P D clW (wC cy ad I2 S2 ++ oLD cy ao aq fo fd) H := hP
    rcases hpx with hpx | ⟨hE9, hpx⟩
    · rcases jx_E hpx with hE9 | hE9 | hE9
      · subst hE9
        refine ct_call (E := eIOO) hown hE [] [(0, 14, 21, 21), (0, 14, 25, 62), (0, 14, 29, 27)] hT ps0 (by decide) (by decide) (hts _ wm_142) (List.mem_of_getElem? (i := 1) rfl) hce hcv hcl ?_
        refine lv_astore (lv' := [(6, .ref q9), (0, .ref (ad 0)), (1, .int x), (2, .int b), (3, .int t), (4, .int ix), (5, .ref ao)]) hx hb dL_periodValue_17 hl (by decide) rfl (fun ls hl => ?_)
        refine lv_iconst (v := 1) hx hb dL_periodValue_19 (by decide) ?_
        exact wI_ret (I2, S2, fo) hS hP hx hb hr hlocks dL_periodValue_20 (Nat.le_of_ble_eq_true rfl) (Nat.le_of_ble_eq_true rfl) hQ ⟨0, (Or.inr (Or.inl ⟨rfl, hpx⟩)), hs, fun h0 => absurd h0 (by decide)⟩
      · subst hE9
        refine ct_call (E := eIAE) hown hE [(0, 14, 17, 19)] [(0, 14, 25, 62), (0, 14, 29, 27)] hT (psC ⟨by decide, _, hts _ wm_142, hC _ (List.mem_of_getElem? (i := 2) rfl) _ (List.mem_of_getElem? (i := 1) rfl) (by decide +kernel)⟩ ps0) (by decide) (by decide) (hts _ wm_143) (List.mem_of_getElem? (i := 2) rfl) hce hcv hcl ?_
        refine lv_astore (lv' := [(6, .ref q9), (0, .ref (ad 0)), (1, .int x), (2, .int b), (3, .int t), (4, .int ix), (5, .ref ao)]) hx hb dL_periodValue_21 hl (by decide) rfl (fun ls hl => ?_)
        refine lv_iconst (v := 2) hx hb dL_periodValue_23 (by decide) ?_
        exact wI_ret (I2, S2, fo) hS hP hx hb hr hlocks dL_periodValue_24 (Nat.le_of_ble_eq_true rfl) (Nat.le_of_ble_eq_true rfl) hQ ⟨0, (Or.inr (Or.inr (Or.inl ⟨rfl, hpx⟩))), hs, fun h0 => absurd h0 (by decide)⟩
      · subst hE9
        refine ct_call (E := eUOE) hown hE [(0, 14, 17, 19), (0, 14, 21, 21)] [(0, 14, 29, 27)] hT (psC ⟨by decide, _, hts _ wm_142, hC _ (List.mem_of_getElem? (i := 4) rfl) _ (List.mem_of_getElem? (i := 1) rfl) (by decide +kernel)⟩ (psC ⟨by decide, _, hts _ wm_143, hC _ (List.mem_of_getElem? (i := 4) rfl) _ (List.mem_of_getElem? (i := 2) rfl) (by decide +kernel)⟩ ps0)) (by decide) (by decide) (hts _ wm_489) (List.mem_of_getElem? (i := 4) rfl) hce hcv hcl ?_
        refine lv_astore (lv' := [(6, .ref q9), (0, .ref (ad 0)), (1, .int x), (2, .int b), (3, .int t), (4, .int ix), (5, .ref ao)]) hx hb dL_periodValue_25 hl (by decide) rfl (fun ls hl => ?_)
        refine lv_iconst (v := 3) hx hb dL_periodValue_27 (by decide) ?_
        exact wI_ret (I2, S2, fo) hS hP hx hb hr hlocks dL_periodValue_28 (Nat.le_of_ble_eq_true rfl) (Nat.le_of_ble_eq_true rfl) hQ ⟨0, (Or.inr (Or.inr (Or.inr (Or.inl ⟨rfl, hpx⟩)))), hs, fun h0 => absurd h0 (by decide)⟩
    · subst hE9
      refine ct_call (E := eNSE) hown hE [(0, 14, 17, 19), (0, 14, 21, 21), (0, 14, 25, 62)] [] hT (psC ⟨by decide, _, hts _ wm_142, hC _ (List.mem_of_getElem? (i := 3) rfl) _ (List.mem_of_getElem? (i := 1) rfl) (by decide +kernel)⟩ (psC ⟨by decide, _, hts _ wm_143, hC _ (List.mem_of_getElem? (i := 3) rfl) _ (List.mem_of_getElem? (i := 2) rfl) (by decide +kernel)⟩ (psC ⟨by decide, _, hts _ wm_489, hC _ (List.mem_of_getElem? (i := 3) rfl) _ (List.mem_of_getElem? (i := 4) rfl) (by decide +kernel)⟩ ps0))) (by decide) (by decide) (hts _ wm_261) (List.mem_of_getElem? (i := 3) rfl) hce hcv hcl ?_
      refine lv_astore (lv' := [(6, .ref q9), (0, .ref (ad 0)), (1, .int x), (2, .int b), (3, .int t), (4, .int ix), (5, .ref ao)]) hx hb dL_periodValue_29 hl (by decide) rfl (fun ls hl => ?_)
      refine lv_iconst (v := 4) hx hb dL_periodValue_31 (by decide) ?_
      exact wI_ret (I2, S2, fo) hS hP hx hb hr hlocks dL_periodValue_32 (Nat.le_of_ble_eq_true rfl) (Nat.le_of_ble_eq_true rfl) hQ ⟨0, (Or.inr (Or.inr (Or.inr (Or.inr ⟨rfl, hpx⟩)))), hs, fun h0 => absurd h0 (by decide)⟩
  · obtain ⟨I2, S2⟩ := un
    obtain ⟨h0, h1, h2, h3⟩ := hr_
    have hP : va_P D clW (wC cy ad I2 S2 ++ oLD cy ao aq fo fd) H := hP
    have hD : va_D A (wC cy ad I2 S2 ++ oLD cy ao aq fo fd) := hD
    refine lv_i2l (v := r.toInt64) hx hb dL_periodValue_12 rfl ?_
    refine va_last hx hb hK hP hD hS 29 3 rfl rfl (i := 0) (x := r.toInt64) vp_in01 dL_periodValue_13 (fun H locs hP hD hS => ?_)
    have hP : va_P D clW (wC cy ad I2 S2 ++ oLD cy ao aq (vp_updL fo 0 r.toInt64) fd) H := hP
    refine lv_goto (tgt := 33) hx hb dL_periodValue_14 (by decide) ?_
    refine lv_iconst (v := 0) hx hb dL_periodValue_33 (by decide) ?_
    exact wI_ret (I2, S2, (vp_updL fo 0 r.toInt64)) hS hP hx hb hr hlocks dL_periodValue_34 (Nat.le_of_ble_eq_true rfl) (Nat.le_of_ble_eq_true rfl) hQ ⟨r, Or.inl ⟨rfl, h0, h1, h2⟩, h3, fun _ => rfl⟩

set_option maxHeartbeats 4000000 in
set_option maxRecDepth 100000 in
theorem c_L_integral (l : Launch) (hl0 : l.stackTraces = false) (D : va_G) (cy : Nat → ClassId) (ad : Nat → Nat) (I : AI) (S : AS) (sz : Nat) (x : Int32) (b : Int32) (t : Int32) (k : Nat) (n : Nat) (h : Nat) (fr : Nat → Nat) (to : Nat → Nat) (ofr : Nat → Nat) (oto : Nat → Nat) (hc : CIv I S k n h fr to ofr oto) (ao : Nat) (aq : Nat) (fo : Nat → Int64) (fd : Nat → UInt64) : Met l yL_integral (Cond.codeWith yL_integral cL_integral 6 (some .int) [(0, 11, 14, 19), (0, 11, 18, 21), (0, 11, 22, 62)] :: wsL_law) ({ frames := 9, cells := 3, slots := 18, locals := 156 }) (va_Pc [.ref (ad 0), .int x, .int b, .int t, .ref ao] (lwB D cy (wC cy ad I S ++ oLD cy ao aq fo fd) sz)) (va_Qi (S := AI × AS × (Nat → Int64)) (fun r u => ∃ val : Int64, ((r = 0 ∧ val = smN (rdKN S (slI x b) t fr to (S 17) k) (rdVN S (slI x b) t fr to (S 18) k) 100 ∧ tc I x b t) ∨ (r = 1 ∧ tx I x b t eIOO) ∨ (r = 2 ∧ tx I x b t eIAE) ∨ (r = 3 ∧ tx I x b t eUOE)) ∧ scr I S u.1 u.2.1 ∧ (r = 0 → u.2.2 0 = val)) (fun u t9 => va_P D clW (wC cy ad u.1 u.2.1 ++ oLD cy ao aq u.2.2 fd) t9.heap) (va_A (wC cy ad I S ++ oLD cy ao aq fo fd) sz)) 3 18 (va_A (wC cy ad I S ++ oLD cy ao aq fo fd) sz) := by
  refine enterH (cc := cL_integral) (by decide) (Nat.le_of_ble_eq_true rfl) ?_
  intro p e s m below meth c hx hb hr hml hown hts hlocks hT hv Q hQ ls hl
  obtain ⟨hC, hsz, hP, hK, hD0, hE, hZ⟩ := hv
  subst hsz
  have hD := hD0.self (sz := s.heap.size)
  generalize hAe : va_A (wC cy ad I S ++ oLD cy ao aq fo fd) s.heap.size = A at hD hQ hZ ⊢
  have hA : ∀ q : Nat, s.heap.size ≤ q → A q := fun q h => by rw [← hAe]; exact Or.inr h
  have hS : va_S A s.heap s.heap [] := va_S.rf
  suffices K_ : ∀ (H : Heap) (locs : List Loc), va_P D clW (wC cy ad I S ++ oLD cy ao aq fo fd) H → va_S A s.heap H locs → W p l e ({ frames := 9, cells := 3, slots := 18, locals := 156 }) s m ([.ref (ad 0), .int x, .int b, .int t, .ref ao] : List Value).toArray below meth c H locs 0 0 Q (F0 m 0 ls []) from K_ _ _ hP hS
  clear hP hS
  intro H locs hP hS
  have hown : s.vm.findClass RL = some m.cls := hown
  have hl : lv_has ls 6 [(0, .ref (ad 0)), (1, .int x), (2, .int b), (3, .int t), (4, .ref ao)] := hl
  refine lv_aload hx hb dL_integral_0 (lv_at hl 4 rfl) ?_
  refine lv_iconst (v := 0) hx hb dL_integral_2 (by decide) ?_
  refine lv_aload_n hx hb dL_integral_3 rfl (lv_at hl 0 rfl) ?_
  refine lv_iload_n hx hb dL_integral_4 rfl (lv_at hl 1 rfl) ?_
  refine lv_iload_n hx hb dL_integral_5 rfl (lv_at hl 2 rfl) ?_
  refine lv_iload_n hx hb dL_integral_6 rfl (lv_at hl 3 rfl) ?_
  refine xcL_call (vx_runV (As := [.int x, .int b, .int t]) (rest := [.int 0, .ref ao]) ⟨hx, hb, hml, hown, hts⟩ (c_X6_integral l hl0 D cy ad I S H.size x b t k n h fr to ofr oto hc) (cw_L_86 hts rfl rfl ⟨Nat.le_of_ble_eq_true rfl, Nat.le_of_ble_eq_true rfl⟩) (preVWX (ci := 6) (q0 := 0) hK hE (hZ.now hS) (blkF (X := []) hD hS hA) (blkY (X := []) hP) (blkYD (X := []) hD) rfl rfl) rfl rfl hl.1 rfl (lv_room (Nat.le_of_ble_eq_true rfl)) dL_integral_7 ⟨Nat.le_of_ble_eq_true rfl, Nat.le_of_ble_eq_true rfl⟩) (Z := oLD cy ao aq fo fd) hP hD hS hA (fun _ => rfl) (fun _ => rfl) (fun E ce q9 ux H locs hpx hP hD hS hce hcv hcl => ?_) (fun r un H locs hr_ hP hD hS => ?_)
  · obtain ⟨I2, S2⟩ := ux
    obtain ⟨hpx, hs⟩ := hpx
    have hP : va_P D clW (wC cy ad I2 S2 ++ oLD cy ao aq fo fd) H := hP
    rcases tx_E hpx with hE9 | hE9 | hE9
    · subst hE9
      refine ct_call (E := eIOO) hown hE [] [(0, 11, 18, 21), (0, 11, 22, 62)] hT ps0 (by decide) (by decide) (hts _ wm_142) (List.mem_of_getElem? (i := 1) rfl) hce hcv hcl ?_
      refine lv_astore (lv' := [(5, .ref q9), (0, .ref (ad 0)), (1, .int x), (2, .int b), (3, .int t), (4, .ref ao)]) hx hb dL_integral_14 hl (by decide) rfl (fun ls hl => ?_)
      refine lv_iconst (v := 1) hx hb dL_integral_16 (by decide) ?_
      exact wI_ret (I2, S2, fo) hS hP hx hb hr hlocks dL_integral_17 (Nat.le_of_ble_eq_true rfl) (Nat.le_of_ble_eq_true rfl) hQ ⟨0, (Or.inr (Or.inl ⟨rfl, hpx⟩)), hs, fun h0 => absurd h0 (by decide)⟩
    · subst hE9
      refine ct_call (E := eIAE) hown hE [(0, 11, 14, 19)] [(0, 11, 22, 62)] hT (psC ⟨by decide, _, hts _ wm_142, hC _ (List.mem_of_getElem? (i := 2) rfl) _ (List.mem_of_getElem? (i := 1) rfl) (by decide +kernel)⟩ ps0) (by decide) (by decide) (hts _ wm_143) (List.mem_of_getElem? (i := 2) rfl) hce hcv hcl ?_
      refine lv_astore (lv' := [(5, .ref q9), (0, .ref (ad 0)), (1, .int x), (2, .int b), (3, .int t), (4, .ref ao)]) hx hb dL_integral_18 hl (by decide) rfl (fun ls hl => ?_)
      refine lv_iconst (v := 2) hx hb dL_integral_20 (by decide) ?_
      exact wI_ret (I2, S2, fo) hS hP hx hb hr hlocks dL_integral_21 (Nat.le_of_ble_eq_true rfl) (Nat.le_of_ble_eq_true rfl) hQ ⟨0, (Or.inr (Or.inr (Or.inl ⟨rfl, hpx⟩))), hs, fun h0 => absurd h0 (by decide)⟩
    · subst hE9
      refine ct_call (E := eUOE) hown hE [(0, 11, 14, 19), (0, 11, 18, 21)] [] hT (psC ⟨by decide, _, hts _ wm_142, hC _ (List.mem_of_getElem? (i := 4) rfl) _ (List.mem_of_getElem? (i := 1) rfl) (by decide +kernel)⟩ (psC ⟨by decide, _, hts _ wm_143, hC _ (List.mem_of_getElem? (i := 4) rfl) _ (List.mem_of_getElem? (i := 2) rfl) (by decide +kernel)⟩ ps0)) (by decide) (by decide) (hts _ wm_489) (List.mem_of_getElem? (i := 4) rfl) hce hcv hcl ?_
      refine lv_astore (lv' := [(5, .ref q9), (0, .ref (ad 0)), (1, .int x), (2, .int b), (3, .int t), (4, .ref ao)]) hx hb dL_integral_22 hl (by decide) rfl (fun ls hl => ?_)
      refine lv_iconst (v := 3) hx hb dL_integral_24 (by decide) ?_
      exact wI_ret (I2, S2, fo) hS hP hx hb hr hlocks dL_integral_25 (Nat.le_of_ble_eq_true rfl) (Nat.le_of_ble_eq_true rfl) hQ ⟨0, (Or.inr (Or.inr (Or.inr ⟨rfl, hpx⟩))), hs, fun h0 => absurd h0 (by decide)⟩
  · obtain ⟨I2, S2⟩ := un
    obtain ⟨h0, h1, h2⟩ := hr_
    have hP : va_P D clW (wC cy ad I2 S2 ++ oLD cy ao aq fo fd) H := hP
    have hD : va_D A (wC cy ad I2 S2 ++ oLD cy ao aq fo fd) := hD
    refine va_last hx hb hK hP hD hS 29 3 rfl rfl (i := 0) (x := r) vp_in01 dL_integral_10 (fun H locs hP hD hS => ?_)
    have hP : va_P D clW (wC cy ad I2 S2 ++ oLD cy ao aq (vp_updL fo 0 r) fd) H := hP
    refine lv_goto (tgt := 26) hx hb dL_integral_11 (by decide) ?_
    refine lv_iconst (v := 0) hx hb dL_integral_26 (by decide) ?_
    exact wI_ret (I2, S2, (vp_updL fo 0 r)) hS hP hx hb hr hlocks dL_integral_27 (Nat.le_of_ble_eq_true rfl) (Nat.le_of_ble_eq_true rfl) hQ ⟨r, Or.inl ⟨rfl, h0, h1⟩, h2, fun _ => rfl⟩
