/-! the law: its wrappers, 4 -/
set_option maxHeartbeats 4000000 in
set_option maxRecDepth 100000 in
theorem c_L_changedDays (l : Launch) (hl0 : l.stackTraces = false) (D : va_G) (cy : Nat → ClassId) (ad : Nat → Nat) (I : AI) (S : AS) (sz : Nat) (x : Int32) (b : Int32) (t : Int32) (t2 : Int32) (k : Nat) (n : Nat) (h : Nat) (fr : Nat → Nat) (to : Nat → Nat) (ofr : Nat → Nat) (oto : Nat → Nat) (hc : CIv I S k n h fr to ofr oto) (ao : Nat) (aq : Nat) (fo : Nat → Int64) (fd : Nat → UInt64) : Met l yL_changedDays (Cond.codeWith yL_changedDays cL_changedDays 7 (some .int) [(0, 14, 17, 19), (0, 14, 21, 21), (0, 14, 25, 62)] :: wsL_law) ({ frames := 9, cells := 5, slots := 30, locals := 158 }) (va_Pc [.ref (ad 0), .int x, .int b, .int t, .int t2, .ref ao] (lwB D cy (wC cy ad I S ++ oLD cy ao aq fo fd) sz)) (va_Qi (S := AI × AS × (Nat → Int64)) (fun r u => ∃ val : Int32, ((r = 0 ∧ val = cfN (rdKN S (slI x b) t fr to (S 17) k) (rdVN S (slI x b) t fr to (S 18) k) (rdKN S (slI x b) t2 fr to (S 20) k) (rdVN S (slI x b) t2 fr to (S 21) k) 100 ∧ hc2 I x b t t2) ∨ (r = 1 ∧ hx2 I x b t t2 eIOO) ∨ (r = 2 ∧ hx2 I x b t t2 eIAE) ∨ (r = 3 ∧ hx2 I x b t t2 eUOE)) ∧ scr I S u.1 u.2.1 ∧ (r = 0 → u.2.2 0 = val.toInt64)) (fun u t9 => va_P D clW (wC cy ad u.1 u.2.1 ++ oLD cy ao aq u.2.2 fd) t9.heap) (va_A (wC cy ad I S ++ oLD cy ao aq fo fd) sz)) 5 30 (va_A (wC cy ad I S ++ oLD cy ao aq fo fd) sz) := by
  refine enterH (cc := cL_changedDays) (by decide) (Nat.le_of_ble_eq_true rfl) ?_
  intro p e s m below meth c hx hb hr hml hown hts hlocks hT hv Q hQ ls hl
  obtain ⟨hC, hsz, hP, hK, hD0, hE, hZ⟩ := hv
  subst hsz
  have hD := hD0.self (sz := s.heap.size)
  generalize hAe : va_A (wC cy ad I S ++ oLD cy ao aq fo fd) s.heap.size = A at hD hQ hZ ⊢
  have hA : ∀ q : Nat, s.heap.size ≤ q → A q := fun q h => by rw [← hAe]; exact Or.inr h
  have hS : va_S A s.heap s.heap [] := va_S.rf
  suffices K_ : ∀ (H : Heap) (locs : List Loc), va_P D clW (wC cy ad I S ++ oLD cy ao aq fo fd) H → va_S A s.heap H locs → W p l e ({ frames := 9, cells := 5, slots := 30, locals := 158 }) s m ([.ref (ad 0), .int x, .int b, .int t, .int t2, .ref ao] : List Value).toArray below meth c H locs 0 0 Q (F0 m 0 ls []) from K_ _ _ hP hS
  clear hP hS
  intro H locs hP hS
  have hown : s.vm.findClass RL = some m.cls := hown
  have hl : lv_has ls 7 [(0, .ref (ad 0)), (1, .int x), (2, .int b), (3, .int t), (4, .int t2), (5, .ref ao)] := hl
  refine lv_aload hx hb dL_changedDays_0 (lv_at hl 5 rfl) ?_
  refine lv_iconst (v := 0) hx hb dL_changedDays_2 (by decide) ?_
  refine lv_aload_n hx hb dL_changedDays_3 rfl (lv_at hl 0 rfl) ?_
  refine lv_iload_n hx hb dL_changedDays_4 rfl (lv_at hl 1 rfl) ?_
  refine lv_iload_n hx hb dL_changedDays_5 rfl (lv_at hl 2 rfl) ?_
  refine lv_iload_n hx hb dL_changedDays_6 rfl (lv_at hl 3 rfl) ?_
  refine lv_iload hx hb dL_changedDays_7 (lv_at hl 4 rfl) ?_
  refine xcI_call (vx_runV (As := [.int x, .int b, .int t, .int t2]) (rest := [.int 0, .ref ao]) ⟨hx, hb, hml, hown, hts⟩ (c_X6_changedDays l hl0 D cy ad I S H.size x b t t2 k n h fr to ofr oto hc) (cw_L_90 hts rfl rfl ⟨Nat.le_of_ble_eq_true rfl, Nat.le_of_ble_eq_true rfl⟩) (preVWX (ci := 6) (q0 := 0) hK hE (hZ.now hS) (blkF (X := []) hD hS hA) (blkY (X := []) hP) (blkYD (X := []) hD) rfl rfl) rfl rfl hl.1 rfl (lv_room (Nat.le_of_ble_eq_true rfl)) dL_changedDays_9 ⟨Nat.le_of_ble_eq_true rfl, Nat.le_of_ble_eq_true rfl⟩) (Z := oLD cy ao aq fo fd) hP hD hS hA (fun _ => rfl) (fun _ => rfl) (fun E ce q9 ux H locs hpx hP hD hS hce hcv hcl => ?_) (fun r un H locs hr_ hP hD hS => ?_)
  · obtain ⟨I2, S2⟩ := ux
    obtain ⟨hpx, hs⟩ := hpx
    have hP : va_P D clW (wC cy ad I2 S2 ++ oLD cy ao aq fo fd) H := hP
    rcases hx2_E hpx with hE9 | hE9 | hE9
    · subst hE9
      refine ct_call (E := eIOO) hown hE [] [(0, 14, 21, 21), (0, 14, 25, 62)] hT ps0 (by decide) (by decide) (hts _ wm_142) (List.mem_of_getElem? (i := 1) rfl) hce hcv hcl ?_
      refine lv_astore (lv' := [(6, .ref q9), (0, .ref (ad 0)), (1, .int x), (2, .int b), (3, .int t), (4, .int t2), (5, .ref ao)]) hx hb dL_changedDays_17 hl (by decide) rfl (fun ls hl => ?_)
      refine lv_iconst (v := 1) hx hb dL_changedDays_19 (by decide) ?_
      exact wI_ret (I2, S2, fo) hS hP hx hb hr hlocks dL_changedDays_20 (Nat.le_of_ble_eq_true rfl) (Nat.le_of_ble_eq_true rfl) hQ ⟨0, (Or.inr (Or.inl ⟨rfl, hpx⟩)), hs, fun h0 => absurd h0 (by decide)⟩
    · subst hE9
      refine ct_call (E := eIAE) hown hE [(0, 14, 17, 19)] [(0, 14, 25, 62)] hT (psC ⟨by decide, _, hts _ wm_142, hC _ (List.mem_of_getElem? (i := 2) rfl) _ (List.mem_of_getElem? (i := 1) rfl) (by decide +kernel)⟩ ps0) (by decide) (by decide) (hts _ wm_143) (List.mem_of_getElem? (i := 2) rfl) hce hcv hcl ?_
      refine lv_astore (lv' := [(6, .ref q9), (0, .ref (ad 0)), (1, .int x), (2, .int b), (3, .int t), (4, .int t2), (5, .ref ao)]) hx hb dL_changedDays_21 hl (by decide) rfl (fun ls hl => ?_)
      refine lv_iconst (v := 2) hx hb dL_changedDays_23 (by decide) ?_
      exact wI_ret (I2, S2, fo) hS hP hx hb hr hlocks dL_changedDays_24 (Nat.le_of_ble_eq_true rfl) (Nat.le_of_ble_eq_true rfl) hQ ⟨0, (Or.inr (Or.inr (Or.inl ⟨rfl, hpx⟩))), hs, fun h0 => absurd h0 (by decide)⟩
    · subst hE9
      refine ct_call (E := eUOE) hown hE [(0, 14, 17, 19), (0, 14, 21, 21)] [] hT (psC ⟨by decide, _, hts _ wm_142, hC _ (List.mem_of_getElem? (i := 4) rfl) _ (List.mem_of_getElem? (i := 1) rfl) (by decide +kernel)⟩ (psC ⟨by decide, _, hts _ wm_143, hC _ (List.mem_of_getElem? (i := 4) rfl) _ (List.mem_of_getElem? (i := 2) rfl) (by decide +kernel)⟩ ps0)) (by decide) (by decide) (hts _ wm_489) (List.mem_of_getElem? (i := 4) rfl) hce hcv hcl ?_
      refine lv_astore (lv' := [(6, .ref q9), (0, .ref (ad 0)), (1, .int x), (2, .int b), (3, .int t), (4, .int t2), (5, .ref ao)]) hx hb dL_changedDays_25 hl (by decide) rfl (fun ls hl => ?_)
      refine lv_iconst (v := 3) hx hb dL_changedDays_27 (by decide) ?_
      exact wI_ret (I2, S2, fo) hS hP hx hb hr hlocks dL_changedDays_28 (Nat.le_of_ble_eq_true rfl) (Nat.le_of_ble_eq_true rfl) hQ ⟨0, (Or.inr (Or.inr (Or.inr ⟨rfl, hpx⟩))), hs, fun h0 => absurd h0 (by decide)⟩
  · obtain ⟨I2, S2⟩ := un
    obtain ⟨h0, h1, h2⟩ := hr_
    have hP : va_P D clW (wC cy ad I2 S2 ++ oLD cy ao aq fo fd) H := hP
    have hD : va_D A (wC cy ad I2 S2 ++ oLD cy ao aq fo fd) := hD
    refine lv_i2l (v := r.toInt64) hx hb dL_changedDays_12 rfl ?_
    refine va_last hx hb hK hP hD hS 29 3 rfl rfl (i := 0) (x := r.toInt64) vp_in01 dL_changedDays_13 (fun H locs hP hD hS => ?_)
    have hP : va_P D clW (wC cy ad I2 S2 ++ oLD cy ao aq (vp_updL fo 0 r.toInt64) fd) H := hP
    refine lv_goto (tgt := 29) hx hb dL_changedDays_14 (by decide) ?_
    refine lv_iconst (v := 0) hx hb dL_changedDays_29 (by decide) ?_
    exact wI_ret (I2, S2, (vp_updL fo 0 r.toInt64)) hS hP hx hb hr hlocks dL_changedDays_30 (Nat.le_of_ble_eq_true rfl) (Nat.le_of_ble_eq_true rfl) hQ ⟨r, Or.inl ⟨rfl, h0, h1⟩, h2, fun _ => rfl⟩

set_option maxHeartbeats 4000000 in
set_option maxRecDepth 100000 in
theorem c_L_total (l : Launch) (hl0 : l.stackTraces = false) (D : va_G) (cy : Nat → ClassId) (ad : Nat → Nat) (I : AI) (S : AS) (sz : Nat) (b : Int32) (d : Int32) (t : Int32) (en : Nat) (hen : I 0 = nI en) (hen6 : en ≤ 6) (k : Nat) (n : Nat) (h : Nat) (fr : Nat → Nat) (to : Nat → Nat) (ofr : Nat → Nat) (oto : Nat → Nat) (hc : CIv I S k n h fr to ofr oto) (ao : Nat) (aq : Nat) (fo : Nat → Int64) (fd : Nat → UInt64) : Met l yL_total (Cond.codeWith yL_total cL_total 6 (some .int) [(0, 12, 15, 19), (0, 12, 19, 21), (0, 12, 23, 62), (0, 12, 27, 96)] :: wsL_law) ({ frames := 10, cells := 5, slots := 30, locals := 181 }) (va_Pc [.ref (ad 0), .int b, .int d, .int t, .ref ao] (lwB D cy (wC cy ad I S ++ oLD cy ao aq fo fd) sz)) (va_Qi (S := AI × AS × (Nat → Int64)) (fun r u => ∃ val : Int32, ((r = 0 ∧ gc I b d t ∧ val = (ttN S b d t k en).toInt32 ∧ ∀ j : Nat, j ≤ en → rngP (ttN S b d t k j)) ∨ (r = 1 ∧ gx I b d t eIOO) ∨ (r = 2 ∧ gx I b d t eIAE) ∨ (r = 3 ∧ gx I b d t eUOE) ∨ (r = 4 ∧ gc I b d t ∧ ∃ j : Nat, j ≤ en ∧ ¬ rngP (ttN S b d t k j))) ∧ scr I S u.1 u.2.1 ∧ (r = 0 → u.2.2 0 = val.toInt64)) (fun u t9 => va_P D clW (wC cy ad u.1 u.2.1 ++ oLD cy ao aq u.2.2 fd) t9.heap) (va_A (wC cy ad I S ++ oLD cy ao aq fo fd) sz)) 5 30 (va_A (wC cy ad I S ++ oLD cy ao aq fo fd) sz) := by
  refine enterH (cc := cL_total) (by decide) (Nat.le_of_ble_eq_true rfl) ?_
  intro p e s m below meth c hx hb hr hml hown hts hlocks hT hv Q hQ ls hl
  obtain ⟨hC, hsz, hP, hK, hD0, hE, hZ⟩ := hv
  subst hsz
  have hD := hD0.self (sz := s.heap.size)
  generalize hAe : va_A (wC cy ad I S ++ oLD cy ao aq fo fd) s.heap.size = A at hD hQ hZ ⊢
  have hA : ∀ q : Nat, s.heap.size ≤ q → A q := fun q h => by rw [← hAe]; exact Or.inr h
  have hS : va_S A s.heap s.heap [] := va_S.rf
  suffices K_ : ∀ (H : Heap) (locs : List Loc), va_P D clW (wC cy ad I S ++ oLD cy ao aq fo fd) H → va_S A s.heap H locs → W p l e ({ frames := 10, cells := 5, slots := 30, locals := 181 }) s m ([.ref (ad 0), .int b, .int d, .int t, .ref ao] : List Value).toArray below meth c H locs 0 0 Q (F0 m 0 ls []) from K_ _ _ hP hS
  clear hP hS
  intro H locs hP hS
  have hown : s.vm.findClass RL = some m.cls := hown
  have hl : lv_has ls 6 [(0, .ref (ad 0)), (1, .int b), (2, .int d), (3, .int t), (4, .ref ao)] := hl
  refine lv_aload hx hb dL_total_0 (lv_at hl 4 rfl) ?_
  refine lv_iconst (v := 0) hx hb dL_total_2 (by decide) ?_
  refine lv_aload_n hx hb dL_total_3 rfl (lv_at hl 0 rfl) ?_
  refine lv_iload_n hx hb dL_total_4 rfl (lv_at hl 1 rfl) ?_
  refine lv_iload_n hx hb dL_total_5 rfl (lv_at hl 2 rfl) ?_
  refine lv_iload_n hx hb dL_total_6 rfl (lv_at hl 3 rfl) ?_
  refine xrI_call (vx_runV (As := [.int b, .int d, .int t]) (rest := [.int 0, .ref ao]) ⟨hx, hb, hml, hown, hts⟩ (c_X6_total l hl0 D cy ad I S b d t en hen hen6 k n h fr to ofr oto hc) (cw_L_93 hts rfl rfl ⟨Nat.le_of_ble_eq_true rfl, Nat.le_of_ble_eq_true rfl⟩) (preVRX (ci := 6) (q0 := 0) hK hE (hZ.now hS).no (blkY (X := []) hP) rfl rfl) rfl rfl hl.1 rfl (lv_room (Nat.le_of_ble_eq_true rfl)) dL_total_7 ⟨Nat.le_of_ble_eq_true rfl, Nat.le_of_ble_eq_true rfl⟩) (fun E ce q9 H1 hpx hz hk9 hce hcv hcl => ?_) (fun r hr_ => ?_)
  · have hP := keptP_all hP hk9
    have hS := keptS_all hS hz hk9
    rcases hpx with hpx | ⟨hE9, hpx⟩
    · rcases gx_E hpx with hE9 | hE9 | hE9
      · subst hE9
        refine ct_call (E := eIOO) hown hE [] [(0, 12, 19, 21), (0, 12, 23, 62), (0, 12, 27, 96)] hT ps0 (by decide) (by decide) (hts _ wm_142) (List.mem_of_getElem? (i := 1) rfl) hce hcv hcl ?_
        refine lv_astore (lv' := [(5, .ref q9), (0, .ref (ad 0)), (1, .int b), (2, .int d), (3, .int t), (4, .ref ao)]) hx hb dL_total_15 hl (by decide) rfl (fun ls hl => ?_)
        refine lv_iconst (v := 1) hx hb dL_total_17 (by decide) ?_
        exact wI_ret (I, S, fo) hS hP hx hb hr hlocks dL_total_18 (Nat.le_of_ble_eq_true rfl) (Nat.le_of_ble_eq_true rfl) hQ ⟨0, (Or.inr (Or.inl ⟨rfl, hpx⟩)), (scr_0 I S), fun h0 => absurd h0 (by decide)⟩
      · subst hE9
        refine ct_call (E := eIAE) hown hE [(0, 12, 15, 19)] [(0, 12, 23, 62), (0, 12, 27, 96)] hT (psC ⟨by decide, _, hts _ wm_142, hC _ (List.mem_of_getElem? (i := 2) rfl) _ (List.mem_of_getElem? (i := 1) rfl) (by decide +kernel)⟩ ps0) (by decide) (by decide) (hts _ wm_143) (List.mem_of_getElem? (i := 2) rfl) hce hcv hcl ?_
        refine lv_astore (lv' := [(5, .ref q9), (0, .ref (ad 0)), (1, .int b), (2, .int d), (3, .int t), (4, .ref ao)]) hx hb dL_total_19 hl (by decide) rfl (fun ls hl => ?_)
        refine lv_iconst (v := 2) hx hb dL_total_21 (by decide) ?_
        exact wI_ret (I, S, fo) hS hP hx hb hr hlocks dL_total_22 (Nat.le_of_ble_eq_true rfl) (Nat.le_of_ble_eq_true rfl) hQ ⟨0, (Or.inr (Or.inr (Or.inl ⟨rfl, hpx⟩))), (scr_0 I S), fun h0 => absurd h0 (by decide)⟩
      · subst hE9
        refine ct_call (E := eUOE) hown hE [(0, 12, 15, 19), (0, 12, 19, 21)] [(0, 12, 27, 96)] hT (psC ⟨by decide, _, hts _ wm_142, hC _ (List.mem_of_getElem? (i := 4) rfl) _ (List.mem_of_getElem? (i := 1) rfl) (by decide +kernel)⟩ (psC ⟨by decide, _, hts _ wm_143, hC _ (List.mem_of_getElem? (i := 4) rfl) _ (List.mem_of_getElem? (i := 2) rfl) (by decide +kernel)⟩ ps0)) (by decide) (by decide) (hts _ wm_489) (List.mem_of_getElem? (i := 4) rfl) hce hcv hcl ?_
        refine lv_astore (lv' := [(5, .ref q9), (0, .ref (ad 0)), (1, .int b), (2, .int d), (3, .int t), (4, .ref ao)]) hx hb dL_total_23 hl (by decide) rfl (fun ls hl => ?_)
        refine lv_iconst (v := 3) hx hb dL_total_25 (by decide) ?_
        exact wI_ret (I, S, fo) hS hP hx hb hr hlocks dL_total_26 (Nat.le_of_ble_eq_true rfl) (Nat.le_of_ble_eq_true rfl) hQ ⟨0, (Or.inr (Or.inr (Or.inr (Or.inl ⟨rfl, hpx⟩)))), (scr_0 I S), fun h0 => absurd h0 (by decide)⟩
    · subst hE9
      refine ct_call (E := eARE) hown hE [(0, 12, 15, 19), (0, 12, 19, 21), (0, 12, 23, 62)] [] hT (psC ⟨by decide, _, hts _ wm_142, hC _ (List.mem_of_getElem? (i := 5) rfl) _ (List.mem_of_getElem? (i := 1) rfl) (by decide +kernel)⟩ (psC ⟨by decide, _, hts _ wm_143, hC _ (List.mem_of_getElem? (i := 5) rfl) _ (List.mem_of_getElem? (i := 2) rfl) (by decide +kernel)⟩ (psC ⟨by decide, _, hts _ wm_489, hC _ (List.mem_of_getElem? (i := 5) rfl) _ (List.mem_of_getElem? (i := 4) rfl) (by decide +kernel)⟩ ps0))) (by decide) (by decide) (hts _ wm_731) (List.mem_of_getElem? (i := 5) rfl) hce hcv hcl ?_
      refine lv_astore (lv' := [(5, .ref q9), (0, .ref (ad 0)), (1, .int b), (2, .int d), (3, .int t), (4, .ref ao)]) hx hb dL_total_27 hl (by decide) rfl (fun ls hl => ?_)
      refine lv_iconst (v := 4) hx hb dL_total_29 (by decide) ?_
      exact wI_ret (I, S, fo) hS hP hx hb hr hlocks dL_total_30 (Nat.le_of_ble_eq_true rfl) (Nat.le_of_ble_eq_true rfl) hQ ⟨0, (Or.inr (Or.inr (Or.inr (Or.inr ⟨rfl, hpx⟩)))), (scr_0 I S), fun h0 => absurd h0 (by decide)⟩
  · refine lv_i2l (v := r.toInt64) hx hb dL_total_10 rfl ?_
    refine va_last hx hb hK hP hD hS 29 3 rfl rfl (i := 0) (x := r.toInt64) vp_in01 dL_total_11 (fun H locs hP hD hS => ?_)
    have hP : va_P D clW (wC cy ad I S ++ oLD cy ao aq (vp_updL fo 0 r.toInt64) fd) H := hP
    refine lv_goto (tgt := 31) hx hb dL_total_12 (by decide) ?_
    refine lv_iconst (v := 0) hx hb dL_total_31 (by decide) ?_
    exact wI_ret (I, S, (vp_updL fo 0 r.toInt64)) hS hP hx hb hr hlocks dL_total_32 (Nat.le_of_ble_eq_true rfl) (Nat.le_of_ble_eq_true rfl) hQ ⟨r, Or.inl ⟨rfl, hr_⟩, (scr_0 I S), fun _ => rfl⟩

set_option maxHeartbeats 4000000 in
set_option maxRecDepth 100000 in
theorem c_L_meanValue (l : Launch) (hl0 : l.stackTraces = false) (D : va_G) (cy : Nat → ClassId) (ad : Nat → Nat) (I : AI) (S : AS) (sz : Nat) (b : Int32) (d : Int32) (t : Int32) (en : Nat) (hen : I 0 = nI en) (hen6 : en ≤ 6) (k : Nat) (n : Nat) (h : Nat) (fr : Nat → Nat) (to : Nat → Nat) (ofr : Nat → Nat) (oto : Nat → Nat) (hc : CIv I S k n h fr to ofr oto) (ao : Nat) (aq : Nat) (fo : Nat → Int64) (fd : Nat → UInt64) : Met l yL_meanValue (Cond.codeWith yL_meanValue cL_meanValue 6 (some .int) [(0, 11, 14, 19), (0, 11, 18, 21), (0, 11, 22, 62), (0, 11, 26, 96)] :: wsL_law) ({ frames := 10, cells := 5, slots := 30, locals := 182 }) (va_Pc [.ref (ad 0), .int b, .int d, .int t, .ref aq] (lwB D cy (wC cy ad I S ++ oLD cy ao aq fo fd) sz)) (va_Qi (S := AI × AS × (Nat → UInt64)) (fun r u => ∃ val : UInt64, ((r = 0 ∧ gc I b d t ∧ mmN S b d t k en ≠ 0 ∧ val = FP.ddiv (FP.l2d (ttN S b d t k en)) (FP.i2d (nI (mmN S b d t k en)))) ∨ (r = 1 ∧ gx I b d t eIOO) ∨ (r = 2 ∧ gx I b d t eIAE) ∨ (r = 3 ∧ gx I b d t eUOE) ∨ (r = 4 ∧ gc I b d t ∧ mmN S b d t k en = 0)) ∧ scr I S u.1 u.2.1 ∧ (r = 0 → u.2.2 0 = val)) (fun u t9 => va_P D clW (wC cy ad u.1 u.2.1 ++ oLD cy ao aq fo u.2.2) t9.heap) (va_A (wC cy ad I S ++ oLD cy ao aq fo fd) sz)) 5 30 (va_A (wC cy ad I S ++ oLD cy ao aq fo fd) sz) := by
  refine enterH (cc := cL_meanValue) (by decide) (Nat.le_of_ble_eq_true rfl) ?_
  intro p e s m below meth c hx hb hr hml hown hts hlocks hT hv Q hQ ls hl
  obtain ⟨hC, hsz, hP, hK, hD0, hE, hZ⟩ := hv
  subst hsz
  have hD := hD0.self (sz := s.heap.size)
  generalize hAe : va_A (wC cy ad I S ++ oLD cy ao aq fo fd) s.heap.size = A at hD hQ hZ ⊢
  have hA : ∀ q : Nat, s.heap.size ≤ q → A q := fun q h => by rw [← hAe]; exact Or.inr h
  have hS : va_S A s.heap s.heap [] := va_S.rf
  suffices K_ : ∀ (H : Heap) (locs : List Loc), va_P D clW (wC cy ad I S ++ oLD cy ao aq fo fd) H → va_S A s.heap H locs → W p l e ({ frames := 10, cells := 5, slots := 30, locals := 182 }) s m ([.ref (ad 0), .int b, .int d, .int t, .ref aq] : List Value).toArray below meth c H locs 0 0 Q (F0 m 0 ls []) from K_ _ _ hP hS
  clear hP hS
  intro H locs hP hS
  have hown : s.vm.findClass RL = some m.cls := hown
  have hl : lv_has ls 6 [(0, .ref (ad 0)), (1, .int b), (2, .int d), (3, .int t), (4, .ref aq)] := hl
  refine lv_aload hx hb dL_meanValue_0 (lv_at hl 4 rfl) ?_
  refine lv_iconst (v := 0) hx hb dL_meanValue_2 (by decide) ?_
  refine lv_aload_n hx hb dL_meanValue_3 rfl (lv_at hl 0 rfl) ?_
  refine lv_iload_n hx hb dL_meanValue_4 rfl (lv_at hl 1 rfl) ?_
  refine lv_iload_n hx hb dL_meanValue_5 rfl (lv_at hl 2 rfl) ?_
  refine lv_iload_n hx hb dL_meanValue_6 rfl (lv_at hl 3 rfl) ?_
  refine xrD_call (vx_runV (As := [.int b, .int d, .int t]) (rest := [.int 0, .ref aq]) ⟨hx, hb, hml, hown, hts⟩ (c_X6_meanValue l hl0 D cy ad I S b d t en hen hen6 k n h fr to ofr oto hc) (cw_L_98 hts rfl rfl ⟨Nat.le_of_ble_eq_true rfl, Nat.le_of_ble_eq_true rfl⟩) (preVRX (ci := 6) (q0 := 0) hK hE (hZ.now hS).no (blkY (X := []) hP) rfl rfl) rfl rfl hl.1 rfl (lv_room (Nat.le_of_ble_eq_true rfl)) dL_meanValue_7 ⟨Nat.le_of_ble_eq_true rfl, Nat.le_of_ble_eq_true rfl⟩) (fun E ce q9 H1 hpx hz hk9 hce hcv hcl => ?_) (fun r hr_ => ?_)
  · have hP := keptP_all hP hk9
    have hS := keptS_all hS hz hk9
    rcases hpx with hpx | ⟨hE9, hpx⟩
    · rcases gx_E hpx with hE9 | hE9 | hE9
      · subst hE9
        refine ct_call (E := eIOO) hown hE [] [(0, 11, 18, 21), (0, 11, 22, 62), (0, 11, 26, 96)] hT ps0 (by decide) (by decide) (hts _ wm_142) (List.mem_of_getElem? (i := 1) rfl) hce hcv hcl ?_
        refine lv_astore (lv' := [(5, .ref q9), (0, .ref (ad 0)), (1, .int b), (2, .int d), (3, .int t), (4, .ref aq)]) hx hb dL_meanValue_14 hl (by decide) rfl (fun ls hl => ?_)
        refine lv_iconst (v := 1) hx hb dL_meanValue_16 (by decide) ?_
        exact wI_ret (I, S, fd) hS hP hx hb hr hlocks dL_meanValue_17 (Nat.le_of_ble_eq_true rfl) (Nat.le_of_ble_eq_true rfl) hQ ⟨0, (Or.inr (Or.inl ⟨rfl, hpx⟩)), (scr_0 I S), fun h0 => absurd h0 (by decide)⟩
      · subst hE9
        refine ct_call (E := eIAE) hown hE [(0, 11, 14, 19)] [(0, 11, 22, 62), (0, 11, 26, 96)] hT (psC ⟨by decide, _, hts _ wm_142, hC _ (List.mem_of_getElem? (i := 2) rfl) _ (List.mem_of_getElem? (i := 1) rfl) (by decide +kernel)⟩ ps0) (by decide) (by decide) (hts _ wm_143) (List.mem_of_getElem? (i := 2) rfl) hce hcv hcl ?_
        refine lv_astore (lv' := [(5, .ref q9), (0, .ref (ad 0)), (1, .int b), (2, .int d), (3, .int t), (4, .ref aq)]) hx hb dL_meanValue_18 hl (by decide) rfl (fun ls hl => ?_)
        refine lv_iconst (v := 2) hx hb dL_meanValue_20 (by decide) ?_
        exact wI_ret (I, S, fd) hS hP hx hb hr hlocks dL_meanValue_21 (Nat.le_of_ble_eq_true rfl) (Nat.le_of_ble_eq_true rfl) hQ ⟨0, (Or.inr (Or.inr (Or.inl ⟨rfl, hpx⟩))), (scr_0 I S), fun h0 => absurd h0 (by decide)⟩
      · subst hE9
        refine ct_call (E := eUOE) hown hE [(0, 11, 14, 19), (0, 11, 18, 21)] [(0, 11, 26, 96)] hT (psC ⟨by decide, _, hts _ wm_142, hC _ (List.mem_of_getElem? (i := 4) rfl) _ (List.mem_of_getElem? (i := 1) rfl) (by decide +kernel)⟩ (psC ⟨by decide, _, hts _ wm_143, hC _ (List.mem_of_getElem? (i := 4) rfl) _ (List.mem_of_getElem? (i := 2) rfl) (by decide +kernel)⟩ ps0)) (by decide) (by decide) (hts _ wm_489) (List.mem_of_getElem? (i := 4) rfl) hce hcv hcl ?_
        refine lv_astore (lv' := [(5, .ref q9), (0, .ref (ad 0)), (1, .int b), (2, .int d), (3, .int t), (4, .ref aq)]) hx hb dL_meanValue_22 hl (by decide) rfl (fun ls hl => ?_)
        refine lv_iconst (v := 3) hx hb dL_meanValue_24 (by decide) ?_
        exact wI_ret (I, S, fd) hS hP hx hb hr hlocks dL_meanValue_25 (Nat.le_of_ble_eq_true rfl) (Nat.le_of_ble_eq_true rfl) hQ ⟨0, (Or.inr (Or.inr (Or.inr (Or.inl ⟨rfl, hpx⟩)))), (scr_0 I S), fun h0 => absurd h0 (by decide)⟩
    · subst hE9
      refine ct_call (E := eARE) hown hE [(0, 11, 14, 19), (0, 11, 18, 21), (0, 11, 22, 62)] [] hT (psC ⟨by decide, _, hts _ wm_142, hC _ (List.mem_of_getElem? (i := 5) rfl) _ (List.mem_of_getElem? (i := 1) rfl) (by decide +kernel)⟩ (psC ⟨by decide, _, hts _ wm_143, hC _ (List.mem_of_getElem? (i := 5) rfl) _ (List.mem_of_getElem? (i := 2) rfl) (by decide +kernel)⟩ (psC ⟨by decide, _, hts _ wm_489, hC _ (List.mem_of_getElem? (i := 5) rfl) _ (List.mem_of_getElem? (i := 4) rfl) (by decide +kernel)⟩ ps0))) (by decide) (by decide) (hts _ wm_731) (List.mem_of_getElem? (i := 5) rfl) hce hcv hcl ?_
      refine lv_astore (lv' := [(5, .ref q9), (0, .ref (ad 0)), (1, .int b), (2, .int d), (3, .int t), (4, .ref aq)]) hx hb dL_meanValue_26 hl (by decide) rfl (fun ls hl => ?_)
      refine lv_iconst (v := 4) hx hb dL_meanValue_28 (by decide) ?_
      exact wI_ret (I, S, fd) hS hP hx hb hr hlocks dL_meanValue_29 (Nat.le_of_ble_eq_true rfl) (Nat.le_of_ble_eq_true rfl) hQ ⟨0, (Or.inr (Or.inr (Or.inr (Or.inr ⟨rfl, hpx⟩)))), (scr_0 I S), fun h0 => absurd h0 (by decide)⟩
  · refine va_dast hx hb hK hP hD hS 30 4 rfl rfl (i := 0) (x := r) vp_in01 dL_meanValue_10 (fun H locs hP hD hS => ?_)
    have hP : va_P D clW (wC cy ad I S ++ oLD cy ao aq fo (vf_upd fd 0 r)) H := hP
    refine lv_goto (tgt := 30) hx hb dL_meanValue_11 (by decide) ?_
    refine lv_iconst (v := 0) hx hb dL_meanValue_30 (by decide) ?_
    exact wI_ret (I, S, (vf_upd fd 0 r)) hS hP hx hb hr hlocks dL_meanValue_31 (Nat.le_of_ble_eq_true rfl) (Nat.le_of_ble_eq_true rfl) hQ ⟨r, Or.inl ⟨rfl, hr_⟩, (scr_0 I S), fun _ => rfl⟩

set_option maxHeartbeats 4000000 in
set_option maxRecDepth 100000 in
theorem c_L_joinCount (l : Launch) (hl0 : l.stackTraces = false) (D : va_G) (cy : Nat → ClassId) (ad : Nat → Nat) (I : AI) (S : AS) (sz : Nat) (x : Int32) (b : Int32) (x2 : Int32) (b2 : Int32) (t : Int32) (k : Nat) (n : Nat) (h : Nat) (fr : Nat → Nat) (to : Nat → Nat) (ofr : Nat → Nat) (oto : Nat → Nat) (hc : CIv I S k n h fr to ofr oto) (ao : Nat) (aq : Nat) (fo : Nat → Int64) (fd : Nat → UInt64) : Met l yL_joinCount (Cond.codeWith yL_joinCount cL_joinCount 8 (some .int) [(0, 16, 19, 19), (0, 16, 23, 21), (0, 16, 27, 62)] :: wsL_law) ({ frames := 11, cells := 4, slots := 24, locals := 208 }) (va_Pc [.ref (ad 0), .int x, .int b, .int x2, .int b2, .int t, .ref ao] (lwB D cy (wC cy ad I S ++ oLD cy ao aq fo fd) sz)) (va_Qi (S := AI × AS × (Nat → Int64)) (fun r u => ∃ val : Int32, ((r = 0 ∧ val = nI (jpS S (slI x b) (slI x2 b2) t fr to k).1 ∧ jc I x b x2 b2 t) ∨ (r = 1 ∧ jx I x b x2 b2 t eIOO) ∨ (r = 2 ∧ jx I x b x2 b2 t eIAE) ∨ (r = 3 ∧ jx I x b x2 b2 t eUOE)) ∧ scr I S u.1 u.2.1 ∧ (r = 0 → u.2.2 0 = val.toInt64)) (fun u t9 => va_P D clW (wC cy ad u.1 u.2.1 ++ oLD cy ao aq u.2.2 fd) t9.heap) (va_A (wC cy ad I S ++ oLD cy ao aq fo fd) sz)) 4 24 (va_A (wC cy ad I S ++ oLD cy ao aq fo fd) sz) := by
  refine enterH (cc := cL_joinCount) (by decide) (Nat.le_of_ble_eq_true rfl) ?_
  intro p e s m below meth c hx hb hr hml hown hts hlocks hT hv Q hQ ls hl
  obtain ⟨hC, hsz, hP, hK, hD0, hE, hZ⟩ := hv
  subst hsz
  have hD := hD0.self (sz := s.heap.size)
  generalize hAe : va_A (wC cy ad I S ++ oLD cy ao aq fo fd) s.heap.size = A at hD hQ hZ ⊢
  have hA : ∀ q : Nat, s.heap.size ≤ q → A q := fun q h => by rw [← hAe]; exact Or.inr h
  have hS : va_S A s.heap s.heap [] := va_S.rf
  suffices K_ : ∀ (H : Heap) (locs : List Loc), va_P D clW (wC cy ad I S ++ oLD cy ao aq fo fd) H → va_S A s.heap H locs → W p l e ({ frames := 11, cells := 4, slots := 24, locals := 208 }) s m ([.ref (ad 0), .int x, .int b, .int x2, .int b2, .int t, .ref ao] : List Value).toArray below meth c H locs 0 0 Q (F0 m 0 ls []) from K_ _ _ hP hS
  clear hP hS
  intro H locs hP hS
  have hown : s.vm.findClass RL = some m.cls := hown
  have hl : lv_has ls 8 [(0, .ref (ad 0)), (1, .int x), (2, .int b), (3, .int x2), (4, .int b2), (5, .int t), (6, .ref ao)] := hl
  refine lv_aload hx hb dL_joinCount_0 (lv_at hl 6 rfl) ?_
  refine lv_iconst (v := 0) hx hb dL_joinCount_2 (by decide) ?_
  refine lv_aload_n hx hb dL_joinCount_3 rfl (lv_at hl 0 rfl) ?_
  refine lv_iload_n hx hb dL_joinCount_4 rfl (lv_at hl 1 rfl) ?_
  refine lv_iload_n hx hb dL_joinCount_5 rfl (lv_at hl 2 rfl) ?_
  refine lv_iload_n hx hb dL_joinCount_6 rfl (lv_at hl 3 rfl) ?_
  refine lv_iload hx hb dL_joinCount_7 (lv_at hl 4 rfl) ?_
  refine lv_iload hx hb dL_joinCount_9 (lv_at hl 5 rfl) ?_
  refine xcI_call (vx_runV (As := [.int x, .int b, .int x2, .int b2, .int t]) (rest := [.int 0, .ref ao]) ⟨hx, hb, hml, hown, hts⟩ (c_X6_joinCount l hl0 D cy ad I S H.size x b x2 b2 t k n h fr to ofr oto hc) (cw_L_102 hts rfl rfl ⟨Nat.le_of_ble_eq_true rfl, Nat.le_of_ble_eq_true rfl⟩) (preVWX (ci := 6) (q0 := 0) hK hE (hZ.now hS) (blkF (X := []) hD hS hA) (blkY (X := []) hP) (blkYD (X := []) hD) rfl rfl) rfl rfl hl.1 rfl (lv_room (Nat.le_of_ble_eq_true rfl)) dL_joinCount_11 ⟨Nat.le_of_ble_eq_true rfl, Nat.le_of_ble_eq_true rfl⟩) (Z := oLD cy ao aq fo fd) hP hD hS hA (fun _ => rfl) (fun _ => rfl) (fun E ce q9 ux H locs hpx hP hD hS hce hcv hcl => ?_) (fun r un H locs hr_ hP hD hS => ?_)
  · obtain ⟨I2, S2⟩ := ux
    obtain ⟨hpx, hs⟩ := hpx
    have hP : va_P D clW (wC cy ad I2 S2 ++ oLD cy ao aq fo fd) H := hP
    rcases jx_E hpx with hE9 | hE9 | hE9
    · subst hE9
      refine ct_call (E := eIOO) hown hE [] [(0, 16, 23, 21), (0, 16, 27, 62)] hT ps0 (by decide) (by decide) (hts _ wm_142) (List.mem_of_getElem? (i := 1) rfl) hce hcv hcl ?_
      refine lv_astore (lv' := [(7, .ref q9), (0, .ref (ad 0)), (1, .int x), (2, .int b), (3, .int x2), (4, .int b2), (5, .int t), (6, .ref ao)]) hx hb dL_joinCount_19 hl (by decide) rfl (fun ls hl => ?_)
      refine lv_iconst (v := 1) hx hb dL_joinCount_21 (by decide) ?_
      exact wI_ret (I2, S2, fo) hS hP hx hb hr hlocks dL_joinCount_22 (Nat.le_of_ble_eq_true rfl) (Nat.le_of_ble_eq_true rfl) hQ ⟨0, (Or.inr (Or.inl ⟨rfl, hpx⟩)), hs, fun h0 => absurd h0 (by decide)⟩
    · subst hE9
      refine ct_call (E := eIAE) hown hE [(0, 16, 19, 19)] [(0, 16, 27, 62)] hT (psC ⟨by decide, _, hts _ wm_142, hC _ (List.mem_of_getElem? (i := 2) rfl) _ (List.mem_of_getElem? (i := 1) rfl) (by decide +kernel)⟩ ps0) (by decide) (by decide) (hts _ wm_143) (List.mem_of_getElem? (i := 2) rfl) hce hcv hcl ?_
      refine lv_astore (lv' := [(7, .ref q9), (0, .ref (ad 0)), (1, .int x), (2, .int b), (3, .int x2), (4, .int b2), (5, .int t), (6, .ref ao)]) hx hb dL_joinCount_23 hl (by decide) rfl (fun ls hl => ?_)
      refine lv_iconst (v := 2) hx hb dL_joinCount_25 (by decide) ?_
      exact wI_ret (I2, S2, fo) hS hP hx hb hr hlocks dL_joinCount_26 (Nat.le_of_ble_eq_true rfl) (Nat.le_of_ble_eq_true rfl) hQ ⟨0, (Or.inr (Or.inr (Or.inl ⟨rfl, hpx⟩))), hs, fun h0 => absurd h0 (by decide)⟩
    · subst hE9
      refine ct_call (E := eUOE) hown hE [(0, 16, 19, 19), (0, 16, 23, 21)] [] hT (psC ⟨by decide, _, hts _ wm_142, hC _ (List.mem_of_getElem? (i := 4) rfl) _ (List.mem_of_getElem? (i := 1) rfl) (by decide +kernel)⟩ (psC ⟨by decide, _, hts _ wm_143, hC _ (List.mem_of_getElem? (i := 4) rfl) _ (List.mem_of_getElem? (i := 2) rfl) (by decide +kernel)⟩ ps0)) (by decide) (by decide) (hts _ wm_489) (List.mem_of_getElem? (i := 4) rfl) hce hcv hcl ?_
      refine lv_astore (lv' := [(7, .ref q9), (0, .ref (ad 0)), (1, .int x), (2, .int b), (3, .int x2), (4, .int b2), (5, .int t), (6, .ref ao)]) hx hb dL_joinCount_27 hl (by decide) rfl (fun ls hl => ?_)
      refine lv_iconst (v := 3) hx hb dL_joinCount_29 (by decide) ?_
      exact wI_ret (I2, S2, fo) hS hP hx hb hr hlocks dL_joinCount_30 (Nat.le_of_ble_eq_true rfl) (Nat.le_of_ble_eq_true rfl) hQ ⟨0, (Or.inr (Or.inr (Or.inr ⟨rfl, hpx⟩))), hs, fun h0 => absurd h0 (by decide)⟩
  · obtain ⟨I2, S2⟩ := un
    obtain ⟨h0, h1, h2⟩ := hr_
    have hP : va_P D clW (wC cy ad I2 S2 ++ oLD cy ao aq fo fd) H := hP
    have hD : va_D A (wC cy ad I2 S2 ++ oLD cy ao aq fo fd) := hD
    refine lv_i2l (v := r.toInt64) hx hb dL_joinCount_14 rfl ?_
    refine va_last hx hb hK hP hD hS 29 3 rfl rfl (i := 0) (x := r.toInt64) vp_in01 dL_joinCount_15 (fun H locs hP hD hS => ?_)
    have hP : va_P D clW (wC cy ad I2 S2 ++ oLD cy ao aq (vp_updL fo 0 r.toInt64) fd) H := hP
    refine lv_goto (tgt := 31) hx hb dL_joinCount_16 (by decide) ?_
    refine lv_iconst (v := 0) hx hb dL_joinCount_31 (by decide) ?_
    exact wI_ret (I2, S2, (vp_updL fo 0 r.toInt64)) hS hP hx hb hr hlocks dL_joinCount_32 (Nat.le_of_ble_eq_true rfl) (Nat.le_of_ble_eq_true rfl) hQ ⟨r, Or.inl ⟨rfl, h0, h1⟩, h2, fun _ => rfl⟩

set_option maxHeartbeats 4000000 in
set_option maxRecDepth 100000 in
theorem c_L_joinFrom (l : Launch) (hl0 : l.stackTraces = false) (D : va_G) (cy : Nat → ClassId) (ad : Nat → Nat) (I : AI) (S : AS) (sz : Nat) (x : Int32) (b : Int32) (x2 : Int32) (b2 : Int32) (t : Int32) (ix : Int32) (k : Nat) (n : Nat) (h : Nat) (fr : Nat → Nat) (to : Nat → Nat) (ofr : Nat → Nat) (oto : Nat → Nat) (hc : CIv I S k n h fr to ofr oto) (ao : Nat) (aq : Nat) (fo : Nat → Int64) (fd : Nat → UInt64) : Met l yL_joinFrom (Cond.codeWith yL_joinFrom cL_joinFrom 9 (some .int) [(0, 18, 21, 19), (0, 18, 25, 21), (0, 18, 29, 62), (0, 18, 33, 27)] :: wsL_law) ({ frames := 11, cells := 5, slots := 30, locals := 209 }) (va_Pc [.ref (ad 0), .int x, .int b, .int x2, .int b2, .int t, .int ix, .ref ao] (lwB D cy (wC cy ad I S ++ oLD cy ao aq fo fd) sz)) (va_Qi (S := AI × AS × (Nat → Int64)) (fun r u => ∃ val : Int32, ((r = 0 ∧ val = (jpS S (slI x b) (slI x2 b2) t fr to k).2.1 ix.toNatClampNeg ∧ jc I x b x2 b2 t ∧ ixP (nI (jpS S (slI x b) (slI x2 b2) t fr to k).1) ix) ∨ (r = 1 ∧ jx I x b x2 b2 t eIOO) ∨ (r = 2 ∧ jx I x b x2 b2 t eIAE) ∨ (r = 3 ∧ jx I x b x2 b2 t eUOE) ∨ (r = 4 ∧ jc I x b x2 b2 t ∧ ¬ ixP (nI (jpS S (slI x b) (slI x2 b2) t fr to k).1) ix)) ∧ scr I S u.1 u.2.1 ∧ (r = 0 → u.2.2 0 = val.toInt64)) (fun u t9 => va_P D clW (wC cy ad u.1 u.2.1 ++ oLD cy ao aq u.2.2 fd) t9.heap) (va_A (wC cy ad I S ++ oLD cy ao aq fo fd) sz)) 5 30 (va_A (wC cy ad I S ++ oLD cy ao aq fo fd) sz) := by
  refine enterH (cc := cL_joinFrom) (by decide) (Nat.le_of_ble_eq_true rfl) ?_
  intro p e s m below meth c hx hb hr hml hown hts hlocks hT hv Q hQ ls hl
  obtain ⟨hC, hsz, hP, hK, hD0, hE, hZ⟩ := hv
  subst hsz
  have hD := hD0.self (sz := s.heap.size)
  generalize hAe : va_A (wC cy ad I S ++ oLD cy ao aq fo fd) s.heap.size = A at hD hQ hZ ⊢
  have hA : ∀ q : Nat, s.heap.size ≤ q → A q := fun q h => by rw [← hAe]; exact Or.inr h
  have hS : va_S A s.heap s.heap [] := va_S.rf
  suffices K_ : ∀ (H : Heap) (locs : List Loc), va_P D clW (wC cy ad I S ++ oLD cy ao aq fo fd) H → va_S A s.heap H locs → W p l e ({ frames := 11, cells := 5, slots := 30, locals := 209 }) s m ([.ref (ad 0), .int x, .int b, .int x2, .int b2, .int t, .int ix, .ref ao] : List Value).toArray below meth c H locs 0 0 Q (F0 m 0 ls []) from K_ _ _ hP hS
  clear hP hS
  intro H locs hP hS
  have hown : s.vm.findClass RL = some m.cls := hown
  have hl : lv_has ls 9 [(0, .ref (ad 0)), (1, .int x), (2, .int b), (3, .int x2), (4, .int b2), (5, .int t), (6, .int ix), (7, .ref ao)] := hl
  refine lv_aload hx hb dL_joinFrom_0 (lv_at hl 7 rfl) ?_
  refine lv_iconst (v := 0) hx hb dL_joinFrom_2 (by decide) ?_
  refine lv_aload_n hx hb dL_joinFrom_3 rfl (lv_at hl 0 rfl) ?_
  refine lv_iload_n hx hb dL_joinFrom_4 rfl (lv_at hl 1 rfl) ?_
  refine lv_iload_n hx hb dL_joinFrom_5 rfl (lv_at hl 2 rfl) ?_
  refine lv_iload_n hx hb dL_joinFrom_6 rfl (lv_at hl 3 rfl) ?_
  refine lv_iload hx hb dL_joinFrom_7 (lv_at hl 4 rfl) ?_
  refine lv_iload hx hb dL_joinFrom_9 (lv_at hl 5 rfl) ?_
  refine lv_iload hx hb dL_joinFrom_11 (lv_at hl 6 rfl) ?_
  refine xcI_call (vx_runV (As := [.int x, .int b, .int x2, .int b2, .int t, .int ix]) (rest := [.int 0, .ref ao]) ⟨hx, hb, hml, hown, hts⟩ (c_X6_joinFrom l hl0 D cy ad I S H.size x b x2 b2 t ix k n h fr to ofr oto hc) (cw_L_105 hts rfl rfl ⟨Nat.le_of_ble_eq_true rfl, Nat.le_of_ble_eq_true rfl⟩) (preVWX (ci := 6) (q0 := 0) hK hE (hZ.now hS) (blkF (X := []) hD hS hA) (blkY (X := []) hP) (blkYD (X := []) hD) rfl rfl) rfl rfl hl.1 rfl (lv_room (Nat.le_of_ble_eq_true rfl)) dL_joinFrom_13 ⟨Nat.le_of_ble_eq_true rfl, Nat.le_of_ble_eq_true rfl⟩) (Z := oLD cy ao aq fo fd) hP hD hS hA (fun _ => rfl) (fun _ => rfl) (fun E ce q9 ux H locs hpx hP hD hS hce hcv hcl => ?_) (fun r un H locs hr_ hP hD hS => ?_)
  · obtain ⟨I2, S2⟩ := ux
    obtain ⟨hpx, hs⟩ := hpx
    have hP : va_P D clW (wC cy ad I2 S2 ++ oLD cy ao aq fo fd) H := hP
    rcases hpx with hpx | ⟨hE9, hpx⟩
    · rcases jx_E hpx with hE9 | hE9 | hE9
      · subst hE9
        refine ct_call (E := eIOO) hown hE [] [(0, 18, 25, 21), (0, 18, 29, 62), (0, 18, 33, 27)] hT ps0 (by decide) (by decide) (hts _ wm_142) (List.mem_of_getElem? (i := 1) rfl) hce hcv hcl ?_
        refine lv_astore (lv' := [(8, .ref q9), (0, .ref (ad 0)), (1, .int x), (2, .int b), (3, .int x2), (4, .int b2), (5, .int t), (6, .int ix), (7, .ref ao)]) hx hb dL_joinFrom_21 hl (by decide) rfl (fun ls hl => ?_)
        refine lv_iconst (v := 1) hx hb dL_joinFrom_23 (by decide) ?_
        exact wI_ret (I2, S2, fo) hS hP hx hb hr hlocks dL_joinFrom_24 (Nat.le_of_ble_eq_true rfl) (Nat.le_of_ble_eq_true rfl) hQ ⟨0, (Or.inr (Or.inl ⟨rfl, hpx⟩)), hs, fun h0 => absurd h0 (by decide)⟩
      · subst hE9
        refine ct_call (E := eIAE) hown hE [(0, 18, 21, 19)] [(0, 18, 29, 62), (0, 18, 33, 27)] hT (psC ⟨by decide, _, hts _ wm_142, hC _ (List.mem_of_getElem? (i := 2) rfl) _ (List.mem_of_getElem? (i := 1) rfl) (by decide +kernel)⟩ ps0) (by decide) (by decide) (hts _ wm_143) (List.mem_of_getElem? (i := 2) rfl) hce hcv hcl ?_
        refine lv_astore (lv' := [(8, .ref q9), (0, .ref (ad 0)), (1, .int x), (2, .int b), (3, .int x2), (4, .int b2), (5, .int t), (6, .int ix), (7, .ref ao)]) hx hb dL_joinFrom_25 hl (by decide) rfl (fun ls hl => ?_)
        refine lv_iconst (v := 2) hx hb dL_joinFrom_27 (by decide) ?_
        exact wI_ret (I2, S2, fo) hS hP hx hb hr hlocks dL_joinFrom_28 (Nat.le_of_ble_eq_true rfl) (Nat.le_of_ble_eq_true rfl) hQ ⟨0, (Or.inr (Or.inr (Or.inl ⟨rfl, hpx⟩))), hs, fun h0 => absurd h0 (by decide)⟩
      · subst hE9
        refine ct_call (E := eUOE) hown hE [(0, 18, 21, 19), (0, 18, 25, 21)] [(0, 18, 33, 27)] hT (psC ⟨by decide, _, hts _ wm_142, hC _ (List.mem_of_getElem? (i := 4) rfl) _ (List.mem_of_getElem? (i := 1) rfl) (by decide +kernel)⟩ (psC ⟨by decide, _, hts _ wm_143, hC _ (List.mem_of_getElem? (i := 4) rfl) _ (List.mem_of_getElem? (i := 2) rfl) (by decide +kernel)⟩ ps0)) (by decide) (by decide) (hts _ wm_489) (List.mem_of_getElem? (i := 4) rfl) hce hcv hcl ?_
        refine lv_astore (lv' := [(8, .ref q9), (0, .ref (ad 0)), (1, .int x), (2, .int b), (3, .int x2), (4, .int b2), (5, .int t), (6, .int ix), (7, .ref ao)]) hx hb dL_joinFrom_29 hl (by decide) rfl (fun ls hl => ?_)
        refine lv_iconst (v := 3) hx hb dL_joinFrom_31 (by decide) ?_
        exact wI_ret (I2, S2, fo) hS hP hx hb hr hlocks dL_joinFrom_32 (Nat.le_of_ble_eq_true rfl) (Nat.le_of_ble_eq_true rfl) hQ ⟨0, (Or.inr (Or.inr (Or.inr (Or.inl ⟨rfl, hpx⟩)))), hs, fun h0 => absurd h0 (by decide)⟩
    · subst hE9
      refine ct_call (E := eNSE) hown hE [(0, 18, 21, 19), (0, 18, 25, 21), (0, 18, 29, 62)] [] hT (psC ⟨by decide, _, hts _ wm_142, hC _ (List.mem_of_getElem? (i := 3) rfl) _ (List.mem_of_getElem? (i := 1) rfl) (by decide +kernel)⟩ (psC ⟨by decide, _, hts _ wm_143, hC _ (List.mem_of_getElem? (i := 3) rfl) _ (List.mem_of_getElem? (i := 2) rfl) (by decide +kernel)⟩ (psC ⟨by decide, _, hts _ wm_489, hC _ (List.mem_of_getElem? (i := 3) rfl) _ (List.mem_of_getElem? (i := 4) rfl) (by decide +kernel)⟩ ps0))) (by decide) (by decide) (hts _ wm_261) (List.mem_of_getElem? (i := 3) rfl) hce hcv hcl ?_
      refine lv_astore (lv' := [(8, .ref q9), (0, .ref (ad 0)), (1, .int x), (2, .int b), (3, .int x2), (4, .int b2), (5, .int t), (6, .int ix), (7, .ref ao)]) hx hb dL_joinFrom_33 hl (by decide) rfl (fun ls hl => ?_)
      refine lv_iconst (v := 4) hx hb dL_joinFrom_35 (by decide) ?_
      exact wI_ret (I2, S2, fo) hS hP hx hb hr hlocks dL_joinFrom_36 (Nat.le_of_ble_eq_true rfl) (Nat.le_of_ble_eq_true rfl) hQ ⟨0, (Or.inr (Or.inr (Or.inr (Or.inr ⟨rfl, hpx⟩)))), hs, fun h0 => absurd h0 (by decide)⟩
  · obtain ⟨I2, S2⟩ := un
    obtain ⟨h0, h1, h2, h3⟩ := hr_
    have hP : va_P D clW (wC cy ad I2 S2 ++ oLD cy ao aq fo fd) H := hP
    have hD : va_D A (wC cy ad I2 S2 ++ oLD cy ao aq fo fd) := hD
    refine lv_i2l (v := r.toInt64) hx hb dL_joinFrom_16 rfl ?_
    refine va_last hx hb hK hP hD hS 29 3 rfl rfl (i := 0) (x := r.toInt64) vp_in01 dL_joinFrom_17 (fun H locs hP hD hS => ?_)
    have hP : va_P D clW (wC cy ad I2 S2 ++ oLD cy ao aq (vp_updL fo 0 r.toInt64) fd) H := hP
    refine lv_goto (tgt := 37) hx hb dL_joinFrom_18 (by decide) ?_
    refine lv_iconst (v := 0) hx hb dL_joinFrom_37 (by decide) ?_
    exact wI_ret (I2, S2, (vp_updL fo 0 r.toInt64)) hS hP hx hb hr hlocks dL_joinFrom_38 (Nat.le_of_ble_eq_true rfl) (Nat.le_of_ble_eq_true rfl) hQ ⟨r, Or.inl ⟨rfl, h0, h1, h2⟩, h3, fun _ => rfl⟩

set_option maxHeartbeats 4000000 in
set_option maxRecDepth 100000 in
theorem c_L_joinTo (l : Launch) (hl0 : l.stackTraces = false) (D : va_G) (cy : Nat → ClassId) (ad : Nat → Nat) (I : AI) (S : AS) (sz : Nat) (x : Int32) (b : Int32) (x2 : Int32) (b2 : Int32) (t : Int32) (ix : Int32) (k : Nat) (n : Nat) (h : Nat) (fr : Nat → Nat) (to : Nat → Nat) (ofr : Nat → Nat) (oto : Nat → Nat) (hc : CIv I S k n h fr to ofr oto) (ao : Nat) (aq : Nat) (fo : Nat → Int64) (fd : Nat → UInt64) : Met l yL_joinTo (Cond.codeWith yL_joinTo cL_joinTo 9 (some .int) [(0, 18, 21, 19), (0, 18, 25, 21), (0, 18, 29, 62), (0, 18, 33, 27)] :: wsL_law) ({ frames := 11, cells := 5, slots := 30, locals := 209 }) (va_Pc [.ref (ad 0), .int x, .int b, .int x2, .int b2, .int t, .int ix, .ref ao] (lwB D cy (wC cy ad I S ++ oLD cy ao aq fo fd) sz)) (va_Qi (S := AI × AS × (Nat → Int64)) (fun r u => ∃ val : Int32, ((r = 0 ∧ val = (jpS S (slI x b) (slI x2 b2) t fr to k).2.2 ix.toNatClampNeg ∧ jc I x b x2 b2 t ∧ ixP (nI (jpS S (slI x b) (slI x2 b2) t fr to k).1) ix) ∨ (r = 1 ∧ jx I x b x2 b2 t eIOO) ∨ (r = 2 ∧ jx I x b x2 b2 t eIAE) ∨ (r = 3 ∧ jx I x b x2 b2 t eUOE) ∨ (r = 4 ∧ jc I x b x2 b2 t ∧ ¬ ixP (nI (jpS S (slI x b) (slI x2 b2) t fr to k).1) ix)) ∧ scr I S u.1 u.2.1 ∧ (r = 0 → u.2.2 0 = val.toInt64)) (fun u t9 => va_P D clW (wC cy ad u.1 u.2.1 ++ oLD cy ao aq u.2.2 fd) t9.heap) (va_A (wC cy ad I S ++ oLD cy ao aq fo fd) sz)) 5 30 (va_A (wC cy ad I S ++ oLD cy ao aq fo fd) sz) := by
  refine enterH (cc := cL_joinTo) (by decide) (Nat.le_of_ble_eq_true rfl) ?_
  intro p e s m below meth c hx hb hr hml hown hts hlocks hT hv Q hQ ls hl
  obtain ⟨hC, hsz, hP, hK, hD0, hE, hZ⟩ := hv
  subst hsz
  have hD := hD0.self (sz := s.heap.size)
  generalize hAe : va_A (wC cy ad I S ++ oLD cy ao aq fo fd) s.heap.size = A at hD hQ hZ ⊢
  have hA : ∀ q : Nat, s.heap.size ≤ q → A q := fun q h => by rw [← hAe]; exact Or.inr h
  have hS : va_S A s.heap s.heap [] := va_S.rf
  suffices K_ : ∀ (H : Heap) (locs : List Loc), va_P D clW (wC cy ad I S ++ oLD cy ao aq fo fd) H → va_S A s.heap H locs → W p l e ({ frames := 11, cells := 5, slots := 30, locals := 209 }) s m ([.ref (ad 0), .int x, .int b, .int x2, .int b2, .int t, .int ix, .ref ao] : List Value).toArray below meth c H locs 0 0 Q (F0 m 0 ls []) from K_ _ _ hP hS
  clear hP hS
  intro H locs hP hS
  have hown : s.vm.findClass RL = some m.cls := hown
  have hl : lv_has ls 9 [(0, .ref (ad 0)), (1, .int x), (2, .int b), (3, .int x2), (4, .int b2), (5, .int t), (6, .int ix), (7, .ref ao)] := hl
  refine lv_aload hx hb dL_joinTo_0 (lv_at hl 7 rfl) ?_
  refine lv_iconst (v := 0) hx hb dL_joinTo_2 (by decide) ?_
  refine lv_aload_n hx hb dL_joinTo_3 rfl (lv_at hl 0 rfl) ?_
  refine lv_iload_n hx hb dL_joinTo_4 rfl (lv_at hl 1 rfl) ?_
  refine lv_iload_n hx hb dL_joinTo_5 rfl (lv_at hl 2 rfl) ?_
  refine lv_iload_n hx hb dL_joinTo_6 rfl (lv_at hl 3 rfl) ?_
  refine lv_iload hx hb dL_joinTo_7 (lv_at hl 4 rfl) ?_
  refine lv_iload hx hb dL_joinTo_9 (lv_at hl 5 rfl) ?_
  refine lv_iload hx hb dL_joinTo_11 (lv_at hl 6 rfl) ?_
  refine xcI_call (vx_runV (As := [.int x, .int b, .int x2, .int b2, .int t, .int ix]) (rest := [.int 0, .ref ao]) ⟨hx, hb, hml, hown, hts⟩ (c_X6_joinTo l hl0 D cy ad I S H.size x b x2 b2 t ix k n h fr to ofr oto hc) (cw_L_109 hts rfl rfl ⟨Nat.le_of_ble_eq_true rfl, Nat.le_of_ble_eq_true rfl⟩) (preVWX (ci := 6) (q0 := 0) hK hE (hZ.now hS) (blkF (X := []) hD hS hA) (blkY (X := []) hP) (blkYD (X := []) hD) rfl rfl) rfl rfl hl.1 rfl (lv_room (Nat.le_of_ble_eq_true rfl)) dL_joinTo_13 ⟨Nat.le_of_ble_eq_true rfl, Nat.le_of_ble_eq_true rfl⟩) (Z := oLD cy ao aq fo fd) hP hD hS hA (fun _ => rfl) (fun _ => rfl) (fun E ce q9 ux H locs hpx hP hD hS hce hcv hcl => ?_) (fun r un H locs hr_ hP hD hS => ?_)
  · obtain ⟨I2, S2⟩ := ux
    obtain ⟨hpx, hs⟩ := hpx
    have hP : va_P D clW (wC cy ad I2 S2 ++ oLD cy ao aq fo fd) H := hP
    rcases hpx with hpx | ⟨hE9, hpx⟩
    · rcases jx_E hpx with hE9 | hE9 | hE9
      · subst hE9
        refine ct_call (E := eIOO) hown hE [] [(0, 18, 25, 21), (0, 18, 29, 62), (0, 18, 33, 27)] hT ps0 (by decide) (by decide) (hts _ wm_142) (List.mem_of_getElem? (i := 1) rfl) hce hcv hcl ?_
        refine lv_astore (lv' := [(8, .ref q9), (0, .ref (ad 0)), (1, .int x), (2, .int b), (3, .int x2), (4, .int b2), (5, .int t), (6, .int ix), (7, .ref ao)]) hx hb dL_joinTo_21 hl (by decide) rfl (fun ls hl => ?_)
        refine lv_iconst (v := 1) hx hb dL_joinTo_23 (by decide) ?_
        exact wI_ret (I2, S2, fo) hS hP hx hb hr hlocks dL_joinTo_24 (Nat.le_of_ble_eq_true rfl) (Nat.le_of_ble_eq_true rfl) hQ ⟨0, (Or.inr (Or.inl ⟨rfl, hpx⟩)), hs, fun h0 => absurd h0 (by decide)⟩
      · subst hE9
        refine ct_call (E := eIAE) hown hE [(0, 18, 21, 19)] [(0, 18, 29, 62), (0, 18, 33, 27)] hT (psC ⟨by decide, _, hts _ wm_142, hC _ (List.mem_of_getElem? (i := 2) rfl) _ (List.mem_of_getElem? (i := 1) rfl) (by decide +kernel)⟩ ps0) (by decide) (by decide) (hts _ wm_143) (List.mem_of_getElem? (i := 2) rfl) hce hcv hcl ?_
        refine lv_astore (lv' := [(8, .ref q9), (0, .ref (ad 0)), (1, .int x), (2, .int b), (3, .int x2), (4, .int b2), (5, .int t), (6, .int ix), (7, .ref ao)]) hx hb dL_joinTo_25 hl (by decide) rfl (fun ls hl => ?_)
        refine lv_iconst (v := 2) hx hb dL_joinTo_27 (by decide) ?_
        exact wI_ret (I2, S2, fo) hS hP hx hb hr hlocks dL_joinTo_28 (Nat.le_of_ble_eq_true rfl) (Nat.le_of_ble_eq_true rfl) hQ ⟨0, (Or.inr (Or.inr (Or.inl ⟨rfl, hpx⟩))), hs, fun h0 => absurd h0 (by decide)⟩
      · subst hE9
        refine ct_call (E := eUOE) hown hE [(0, 18, 21, 19), (0, 18, 25, 21)] [(0, 18, 33, 27)] hT (psC ⟨by decide, _, hts _ wm_142, hC _ (List.mem_of_getElem? (i := 4) rfl) _ (List.mem_of_getElem? (i := 1) rfl) (by decide +kernel)⟩ (psC ⟨by decide, _, hts _ wm_143, hC _ (List.mem_of_getElem? (i := 4) rfl) _ (List.mem_of_getElem? (i := 2) rfl) (by decide +kernel)⟩ ps0)) (by decide) (by decide) (hts _ wm_489) (List.mem_of_getElem? (i := 4) rfl) hce hcv hcl ?_
        refine lv_astore (lv' := [(8, .ref q9), (0, .ref (ad 0)), (1, .int x), (2, .int b), (3, .int x2), (4, .int b2), (5, .int t), (6, .int ix), (7, .ref ao)]) hx hb dL_joinTo_29 hl (by decide) rfl (fun ls hl => ?_)
        refine lv_iconst (v := 3) hx hb dL_joinTo_31 (by decide) ?_
        exact wI_ret (I2, S2, fo) hS hP hx hb hr hlocks dL_joinTo_32 (Nat.le_of_ble_eq_true rfl) (Nat.le_of_ble_eq_true rfl) hQ ⟨0, (Or.inr (Or.inr (Or.inr (Or.inl ⟨rfl, hpx⟩)))), hs, fun h0 => absurd h0 (by decide)⟩
    · subst hE9
      refine ct_call (E := eNSE) hown hE [(0, 18, 21, 19), (0, 18, 25, 21), (0, 18, 29, 62)] [] hT (psC ⟨by decide, _, hts _ wm_142, hC _ (List.mem_of_getElem? (i := 3) rfl) _ (List.mem_of_getElem? (i := 1) rfl) (by decide +kernel)⟩ (psC ⟨by decide, _, hts _ wm_143, hC _ (List.mem_of_getElem? (i := 3) rfl) _ (List.mem_of_getElem? (i := 2) rfl) (by decide +kernel)⟩ (psC ⟨by decide, _, hts _ wm_489, hC _ (List.mem_of_getElem? (i := 3) rfl) _ (List.mem_of_getElem? (i := 4) rfl) (by decide +kernel)⟩ ps0))) (by decide) (by decide) (hts _ wm_261) (List.mem_of_getElem? (i := 3) rfl) hce hcv hcl ?_
      refine lv_astore (lv' := [(8, .ref q9), (0, .ref (ad 0)), (1, .int x), (2, .int b), (3, .int x2), (4, .int b2), (5, .int t), (6, .int ix), (7, .ref ao)]) hx hb dL_joinTo_33 hl (by decide) rfl (fun ls hl => ?_)
      refine lv_iconst (v := 4) hx hb dL_joinTo_35 (by decide) ?_
      exact wI_ret (I2, S2, fo) hS hP hx hb hr hlocks dL_joinTo_36 (Nat.le_of_ble_eq_true rfl) (Nat.le_of_ble_eq_true rfl) hQ ⟨0, (Or.inr (Or.inr (Or.inr (Or.inr ⟨rfl, hpx⟩)))), hs, fun h0 => absurd h0 (by decide)⟩
  · obtain ⟨I2, S2⟩ := un
    obtain ⟨h0, h1, h2, h3⟩ := hr_
    have hP : va_P D clW (wC cy ad I2 S2 ++ oLD cy ao aq fo fd) H := hP
    have hD : va_D A (wC cy ad I2 S2 ++ oLD cy ao aq fo fd) := hD
    refine lv_i2l (v := r.toInt64) hx hb dL_joinTo_16 rfl ?_
    refine va_last hx hb hK hP hD hS 29 3 rfl rfl (i := 0) (x := r.toInt64) vp_in01 dL_joinTo_17 (fun H locs hP hD hS => ?_)
    have hP : va_P D clW (wC cy ad I2 S2 ++ oLD cy ao aq (vp_updL fo 0 r.toInt64) fd) H := hP
    refine lv_goto (tgt := 37) hx hb dL_joinTo_18 (by decide) ?_
    refine lv_iconst (v := 0) hx hb dL_joinTo_37 (by decide) ?_
    exact wI_ret (I2, S2, (vp_updL fo 0 r.toInt64)) hS hP hx hb hr hlocks dL_joinTo_38 (Nat.le_of_ble_eq_true rfl) (Nat.le_of_ble_eq_true rfl) hQ ⟨r, Or.inl ⟨rfl, h0, h1, h2⟩, h3, fun _ => rfl⟩

set_option maxHeartbeats 4000000 in
set_option maxRecDepth 100000 in
theorem c_L_commonDays (l : Launch) (hl0 : l.stackTraces = false) (D : va_G) (cy : Nat → ClassId) (ad : Nat → Nat) (I : AI) (S : AS) (sz : Nat) (x : Int32) (b : Int32) (x2 : Int32) (b2 : Int32) (t : Int32) (k : Nat) (n : Nat) (h : Nat) (fr : Nat → Nat) (to : Nat → Nat) (ofr : Nat → Nat) (oto : Nat → Nat) (hc : CIv I S k n h fr to ofr oto) (ao : Nat) (aq : Nat) (fo : Nat → Int64) (fd : Nat → UInt64) : Met l yL_commonDays (Cond.codeWith yL_commonDays cL_commonDays 8 (some .int) [(0, 16, 19, 19), (0, 16, 23, 21), (0, 16, 27, 62)] :: wsL_law) ({ frames := 10, cells := 4, slots := 24, locals := 183 }) (va_Pc [.ref (ad 0), .int x, .int b, .int x2, .int b2, .int t, .ref ao] (lwB D cy (wC cy ad I S ++ oLD cy ao aq fo fd) sz)) (va_Qi (S := AI × AS × (Nat → Int64)) (fun r u => ∃ val : Int32, ((r = 0 ∧ val = ccN (rdKN S (slI x b) t fr to (S 17) k) (rdKN S (slI x2 b2) t fr to (S 20) k) 100 ∧ jc I x b x2 b2 t) ∨ (r = 1 ∧ jx I x b x2 b2 t eIOO) ∨ (r = 2 ∧ jx I x b x2 b2 t eIAE) ∨ (r = 3 ∧ jx I x b x2 b2 t eUOE)) ∧ scr I S u.1 u.2.1 ∧ (r = 0 → u.2.2 0 = val.toInt64)) (fun u t9 => va_P D clW (wC cy ad u.1 u.2.1 ++ oLD cy ao aq u.2.2 fd) t9.heap) (va_A (wC cy ad I S ++ oLD cy ao aq fo fd) sz)) 4 24 (va_A (wC cy ad I S ++ oLD cy ao aq fo fd) sz) := by
  refine enterH (cc := cL_commonDays) (by decide) (Nat.le_of_ble_eq_true rfl) ?_
  intro p e s m below meth c hx hb hr hml hown hts hlocks hT hv Q hQ ls hl
  obtain ⟨hC, hsz, hP, hK, hD0, hE, hZ⟩ := hv
  subst hsz
  have hD := hD0.self (sz := s.heap.size)
  generalize hAe : va_A (wC cy ad I S ++ oLD cy ao aq fo fd) s.heap.size = A at hD hQ hZ ⊢
  have hA : ∀ q : Nat, s.heap.size ≤ q → A q := fun q h => by rw [← hAe]; exact Or.inr h
  have hS : va_S A s.heap s.heap [] := va_S.rf
  suffices K_ : ∀ (H : Heap) (locs : List Loc), va_P D clW (wC cy ad I S ++ oLD cy ao aq fo fd) H → va_S A s.heap H locs → W p l e ({ frames := 10, cells := 4, slots := 24, locals := 183 }) s m ([.ref (ad 0), .int x, .int b, .int x2, .int b2, .int t, .ref ao] : List Value).toArray below meth c H locs 0 0 Q (F0 m 0 ls []) from K_ _ _ hP hS
  clear hP hS
  intro H locs hP hS
  have hown : s.vm.findClass RL = some m.cls := hown
  have hl : lv_has ls 8 [(0, .ref (ad 0)), (1, .int x), (2, .int b), (3, .int x2), (4, .int b2), (5, .int t), (6, .ref ao)] := hl
  refine lv_aload hx hb dL_commonDays_0 (lv_at hl 6 rfl) ?_
  refine lv_iconst (v := 0) hx hb dL_commonDays_2 (by decide) ?_
  refine lv_aload_n hx hb dL_commonDays_3 rfl (lv_at hl 0 rfl) ?_
  refine lv_iload_n hx hb dL_commonDays_4 rfl (lv_at hl 1 rfl) ?_
  refine lv_iload_n hx hb dL_commonDays_5 rfl (lv_at hl 2 rfl) ?_
  refine lv_iload_n hx hb dL_commonDays_6 rfl (lv_at hl 3 rfl) ?_
  refine lv_iload hx hb dL_commonDays_7 (lv_at hl 4 rfl) ?_
  refine lv_iload hx hb dL_commonDays_9 (lv_at hl 5 rfl) ?_
  refine xcI_call (vx_runV (As := [.int x, .int b, .int x2, .int b2, .int t]) (rest := [.int 0, .ref ao]) ⟨hx, hb, hml, hown, hts⟩ (c_X6_commonDays l hl0 D cy ad I S H.size x b x2 b2 t k n h fr to ofr oto hc) (cw_L_112 hts rfl rfl ⟨Nat.le_of_ble_eq_true rfl, Nat.le_of_ble_eq_true rfl⟩) (preVWX (ci := 6) (q0 := 0) hK hE (hZ.now hS) (blkF (X := []) hD hS hA) (blkY (X := []) hP) (blkYD (X := []) hD) rfl rfl) rfl rfl hl.1 rfl (lv_room (Nat.le_of_ble_eq_true rfl)) dL_commonDays_11 ⟨Nat.le_of_ble_eq_true rfl, Nat.le_of_ble_eq_true rfl⟩) (Z := oLD cy ao aq fo fd) hP hD hS hA (fun _ => rfl) (fun _ => rfl) (fun E ce q9 ux H locs hpx hP hD hS hce hcv hcl => ?_) (fun r un H locs hr_ hP hD hS => ?_)
  · obtain ⟨I2, S2⟩ := ux
    obtain ⟨hpx, hs⟩ := hpx
    have hP : va_P D clW (wC cy ad I2 S2 ++ oLD cy ao aq fo fd) H := hP
    rcases jx_E hpx with hE9 | hE9 | hE9
    · subst hE9
      refine ct_call (E := eIOO) hown hE [] [(0, 16, 23, 21), (0, 16, 27, 62)] hT ps0 (by decide) (by decide) (hts _ wm_142) (List.mem_of_getElem? (i := 1) rfl) hce hcv hcl ?_
      refine lv_astore (lv' := [(7, .ref q9), (0, .ref (ad 0)), (1, .int x), (2, .int b), (3, .int x2), (4, .int b2), (5, .int t), (6, .ref ao)]) hx hb dL_commonDays_19 hl (by decide) rfl (fun ls hl => ?_)
      refine lv_iconst (v := 1) hx hb dL_commonDays_21 (by decide) ?_
      exact wI_ret (I2, S2, fo) hS hP hx hb hr hlocks dL_commonDays_22 (Nat.le_of_ble_eq_true rfl) (Nat.le_of_ble_eq_true rfl) hQ ⟨0, (Or.inr (Or.inl ⟨rfl, hpx⟩)), hs, fun h0 => absurd h0 (by decide)⟩
    · subst hE9
      refine ct_call (E := eIAE) hown hE [(0, 16, 19, 19)] [(0, 16, 27, 62)] hT (psC ⟨by decide, _, hts _ wm_142, hC _ (List.mem_of_getElem? (i := 2) rfl) _ (List.mem_of_getElem? (i := 1) rfl) (by decide +kernel)⟩ ps0) (by decide) (by decide) (hts _ wm_143) (List.mem_of_getElem? (i := 2) rfl) hce hcv hcl ?_
      refine lv_astore (lv' := [(7, .ref q9), (0, .ref (ad 0)), (1, .int x), (2, .int b), (3, .int x2), (4, .int b2), (5, .int t), (6, .ref ao)]) hx hb dL_commonDays_23 hl (by decide) rfl (fun ls hl => ?_)
      refine lv_iconst (v := 2) hx hb dL_commonDays_25 (by decide) ?_
      exact wI_ret (I2, S2, fo) hS hP hx hb hr hlocks dL_commonDays_26 (Nat.le_of_ble_eq_true rfl) (Nat.le_of_ble_eq_true rfl) hQ ⟨0, (Or.inr (Or.inr (Or.inl ⟨rfl, hpx⟩))), hs, fun h0 => absurd h0 (by decide)⟩
    · subst hE9
      refine ct_call (E := eUOE) hown hE [(0, 16, 19, 19), (0, 16, 23, 21)] [] hT (psC ⟨by decide, _, hts _ wm_142, hC _ (List.mem_of_getElem? (i := 4) rfl) _ (List.mem_of_getElem? (i := 1) rfl) (by decide +kernel)⟩ (psC ⟨by decide, _, hts _ wm_143, hC _ (List.mem_of_getElem? (i := 4) rfl) _ (List.mem_of_getElem? (i := 2) rfl) (by decide +kernel)⟩ ps0)) (by decide) (by decide) (hts _ wm_489) (List.mem_of_getElem? (i := 4) rfl) hce hcv hcl ?_
      refine lv_astore (lv' := [(7, .ref q9), (0, .ref (ad 0)), (1, .int x), (2, .int b), (3, .int x2), (4, .int b2), (5, .int t), (6, .ref ao)]) hx hb dL_commonDays_27 hl (by decide) rfl (fun ls hl => ?_)
      refine lv_iconst (v := 3) hx hb dL_commonDays_29 (by decide) ?_
      exact wI_ret (I2, S2, fo) hS hP hx hb hr hlocks dL_commonDays_30 (Nat.le_of_ble_eq_true rfl) (Nat.le_of_ble_eq_true rfl) hQ ⟨0, (Or.inr (Or.inr (Or.inr ⟨rfl, hpx⟩))), hs, fun h0 => absurd h0 (by decide)⟩
  · obtain ⟨I2, S2⟩ := un
    obtain ⟨h0, h1, h2⟩ := hr_
    have hP : va_P D clW (wC cy ad I2 S2 ++ oLD cy ao aq fo fd) H := hP
    have hD : va_D A (wC cy ad I2 S2 ++ oLD cy ao aq fo fd) := hD
    refine lv_i2l (v := r.toInt64) hx hb dL_commonDays_14 rfl ?_
    refine va_last hx hb hK hP hD hS 29 3 rfl rfl (i := 0) (x := r.toInt64) vp_in01 dL_commonDays_15 (fun H locs hP hD hS => ?_)
    have hP : va_P D clW (wC cy ad I2 S2 ++ oLD cy ao aq (vp_updL fo 0 r.toInt64) fd) H := hP
    refine lv_goto (tgt := 31) hx hb dL_commonDays_16 (by decide) ?_
    refine lv_iconst (v := 0) hx hb dL_commonDays_31 (by decide) ?_
    exact wI_ret (I2, S2, (vp_updL fo 0 r.toInt64)) hS hP hx hb hr hlocks dL_commonDays_32 (Nat.le_of_ble_eq_true rfl) (Nat.le_of_ble_eq_true rfl) hQ ⟨r, Or.inl ⟨rfl, h0, h1⟩, h2, fun _ => rfl⟩
