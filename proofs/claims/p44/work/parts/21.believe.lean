theorem cw_X6_96 {R : Room} {s : State} {args : Array Value} {rm : Room} {mc ms : Nat} (hts : ∀ w ∈ wsL_law, w.before args s = true) (hrc : rm.cells = mc) (hrs : rm.slots = ms) (hR : rm.frames + 1 ≤ R.frames ∧ 8 + (6 + 11) + rm.locals ≤ R.locals) : CallW R s args RX6 RX3 96 yX3_add cX3_add 6 (some .int) (Cond.code yX3_add cX3_add 6 (some .int) :: wsL_law) rm mc ms 5 := cwV 5 hts (gUV wm_213 wm_214 wm_215 wm_14 wm_216) rfl hrc hrs (by decide +kernel) hR
theorem cw_X6_99 {R : Room} {s : State} {args : Array Value} {rm : Room} {mc ms : Nat} (hts : ∀ w ∈ wsL_law, w.before args s = true) (hrc : rm.cells = mc) (hrs : rm.slots = ms) (hR : rm.frames + 1 ≤ R.frames ∧ 8 + (9 + 11) + rm.locals ≤ R.locals) : CallW R s args RX6 RX0 99 yX0_clear cX0_clear 9 (some .int) (Cond.code yX0_clear cX0_clear 9 (some .int) :: wsL_law) rm mc ms 4 := cwV 4 hts (gUV wm_218 wm_219 wm_220 wm_18 wm_221) rfl hrc hrs (by decide +kernel) hR
theorem cw_X6_261 {R : Room} {s : State} {args : Array Value} {rm : Room} {mc ms : Nat} (hts : ∀ w ∈ wsL_law, w.before args s = true) (hrc : rm.cells = mc) (hrs : rm.slots = ms) (hR : rm.frames + 1 ≤ R.frames ∧ 8 + (6 + 11) + rm.locals ≤ R.locals) : CallW R s args RX6 RX0 261 yX0_open cX0_open 6 none (Cond.code yX0_open cX0_open 6 none :: wsL_law) rm mc ms 5 := cwV 5 hts (gUV wm_260 wm_227 wm_228 wm_18 wm_229) rfl hrc hrs (by decide +kernel) hR
set_option maxHeartbeats 4000000 in
set_option maxRecDepth 100000 in
theorem c_X6_slotOf (l : Launch) (D : va_G) (cy : Nat → ClassId) (x : Int32) (b : Int32) : Met l yX6_slotOf (Cond.code yX6_slotOf cX6_slotOf 2 (some .int) :: wsL_law) ({ frames := 0, cells := 0, slots := 0, locals := 0 }) (va_Pc [.int x, .int b] (rdB D cy [])) (rdI (fun r => r = slI x b)) 0 0 noA := by
  refine enter (cc := cX6_slotOf) (by decide) (Nat.le_of_ble_eq_true rfl) ?_
  intro p e s m below meth c hx hb hr hml hown hts hlocks hin hv Q hQ ls hl
  obtain ⟨hP, hK⟩ := hv
  have hown : s.vm.findClass RX6 = some m.cls := hown
  have hl : lv_has ls 2 [(0, .int x), (1, .int b)] := hl
  refine lv_iload_n hx hb dX6_slotOf_0 rfl (lv_at hl 0 rfl) ?_
  refine lv_iconst (v := 3) hx hb dX6_slotOf_1 (by decide) ?_
  refine lv_imul hx hb dX6_slotOf_2 ?_
  refine lv_iload_n hx hb dX6_slotOf_3 rfl (lv_at hl 1 rfl) ?_
  refine lv_iadd hx hb dX6_slotOf_4 ?_
  exact rI_ret hx hb hr hlocks dX6_slotOf_5 hQ rfl
set_option maxHeartbeats 4000000 in
set_option maxRecDepth 100000 in
theorem c_X6_believe (l : Launch) (D : va_G) (cy : Nat → ClassId) (ad : Nat → Nat) (I : AI) (S : AS) (sz : Nat) (z : Int32) (sl : Int32) (v : Int32) (x : Int32) (y : Int32) (k : Nat) (n : Nat) (hk : I 2 = nI k) (hn : I 1 = nI n) (hn6 : n < 60) (hk3 : k ≤ 3 * n) (hz : vp_nar .char z = z) : Met l yX6_believe (Cond.code yX6_believe cX6_believe 8 (some .int) :: wsL_law) ({ frames := 4, cells := 0, slots := 0, locals := 95 }) (va_Pc [.ref (ad 0), .int z, .int sl, .int v, .int x, .int y] (wrB D cy (wC cy ad I S) sz)) (va_Qi (S := AI × AS × Nat) (fun r u => r = cnN (addS S n z sl v x y) sl x y k ∧ clearP (addI I n) (addS S n z sl v x y) sl x y (nI (n + 1)) k u.1 u.2.1 ∧ k ≤ u.2.2 ∧ u.2.2 ≤ k + 2 ∧ u.1 2 = nI u.2.2 ∧ u.1 3 = I 3) (fun u t9 => va_P D clW (wC cy ad (va_up (va_up (va_up I 1 (nI (n + 1))) 2 (nI (u.2.2 + 1))) 3 (u.1 3)) (va_up (va_up (va_up (va_up (va_up (va_up (va_up (va_up (va_up (va_up (va_up S 2 (upd (S 2) (n + 1) z)) 3 (upd (S 3) (n + 1) sl)) 4 (upd (S 4) (n + 1) v)) 5 (upd (S 5) (n + 1) x)) 6 (upd (S 6) (n + 1) y)) 8 (upd (u.2.1 8) u.2.2 sl)) 9 (upd (u.2.1 9) u.2.2 v)) 10 (upd (u.2.1 10) u.2.2 x)) 11 (upd (u.2.1 11) u.2.2 y)) 12 (upd (u.2.1 12) u.2.2 (nI (n + 1)))) 13 (upd (u.2.1 13) u.2.2 (-1)))) t9.heap) (va_A (wC cy ad I S) sz)) 0 0 (va_A (wC cy ad I S) sz) := by
  refine enter (cc := cX6_believe) (by decide) (Nat.le_of_ble_eq_true rfl) ?_
  intro p e s m below meth c hx hb hr hml hown hts hlocks hin hv Q hQ ls hl
  obtain ⟨hsz, hP, hK, hD0⟩ := hv
  subst hsz
  have hD := hD0.self (sz := s.heap.size)
  generalize hAe : va_A (wC cy ad I S) s.heap.size = A at hD hQ ⊢
  have hA : ∀ q : Nat, s.heap.size ≤ q → A q := fun q h => by rw [← hAe]; exact Or.inr h
  have hS : va_S A s.heap s.heap [] := va_S.rf
  suffices K_ : ∀ (H : Heap) (locs : List Loc), va_P D clW (wC cy ad I S) H → va_S A s.heap H locs → W p l e ({ frames := 4, cells := 0, slots := 0, locals := 95 }) s m ([.ref (ad 0), .int z, .int sl, .int v, .int x, .int y] : List Value).toArray below meth c H locs 0 0 Q (F0 m 0 ls []) from K_ _ _ hP hS
  clear hP hS
  intro H locs hP hS
  have hown : s.vm.findClass RX6 = some m.cls := hown
  have hl : lv_has ls 8 [(0, .ref (ad 0)), (1, .int z), (2, .int sl), (3, .int v), (4, .int x), (5, .int y)] := hl
  refine lv_aload_n hx hb dX6_believe_0 rfl (lv_at hl 0 rfl) ?_
  refine gf_X6_12 hx hb hts hown hK hP 0 rfl (v := .ref (ad 1)) rfl dX6_believe_1 ?_
  refine lv_iload_n hx hb dX6_believe_4 rfl (lv_at hl 1 rfl) ?_
  refine lv_iload_n hx hb dX6_believe_5 rfl (lv_at hl 2 rfl) ?_
  refine lv_iload_n hx hb dX6_believe_6 rfl (lv_at hl 3 rfl) ?_
  refine lv_iload hx hb dX6_believe_7 (lv_at hl 4 rfl) ?_
  refine lv_iload hx hb dX6_believe_9 (lv_at hl 5 rfl) ?_
  refine wI_call (va_runV (As := [.int z, .int sl, .int v, .int x, .int y]) (rest := []) ⟨hx, hb, hml, hown, hts⟩ (c_X3_add l D cy ad I S H.size z sl v x y n hn hn6 hz) (cw_X6_96 hts rfl rfl ⟨Nat.le_of_ble_eq_true rfl, Nat.le_of_ble_eq_true rfl⟩) (preVW (ci := 3) (q0 := 0) hK (hP.sub [1, 2, 3, 4, 5, 6] rfl) (hD.sub [1, 2, 3, 4, 5, 6] (by decide) rfl) rfl rfl) rfl rfl hl.1 rfl (lv_room (Nat.le_of_ble_eq_true rfl)) dX6_believe_11 ⟨Nat.le_of_ble_eq_true rfl, Nat.le_of_ble_eq_true rfl⟩) hP hD hS hA [1, 2, 3, 4, 5, 6] rfl [.inl 0, .inr 0, .inr 1, .inr 2, .inr 3, .inr 4, .inr 5, .inl 7, .inl 8, .inl 9, .inl 10, .inl 11, .inl 12, .inl 13, .inl 14, .inl 15, .inl 16, .inl 17, .inl 18, .inl 19, .inl 20, .inl 21, .inl 22, .inl 23, .inl 24, .inl 25, .inl 26, .inl 27, .inl 28] (by decide) (fun u => (wC cy ad (va_up I 1 (nI (n + 1))) (va_up (va_up (va_up (va_up (va_up S 2 (upd (S 2) (n + 1) z)) 3 (upd (S 3) (n + 1) sl)) 4 (upd (S 4) (n + 1) v)) 5 (upd (S 5) (n + 1) x)) 6 (upd (S 6) (n + 1) y)))) (fun _ => rfl) (fun _ => rfl) (fun r11_1 u11_1 H locs q11_1 hP hD hS hkp => ?_)
  have hP : va_P D clW (wC cy ad (va_up I 1 (nI (n + 1))) (va_up (va_up (va_up (va_up (va_up S 2 (upd (S 2) (n + 1) z)) 3 (upd (S 3) (n + 1) sl)) 4 (upd (S 4) (n + 1) v)) 5 (upd (S 5) (n + 1) x)) 6 (upd (S 6) (n + 1) y))) H := hP
  have hD : va_D A (wC cy ad (va_up I 1 (nI (n + 1))) (va_up (va_up (va_up (va_up (va_up S 2 (upd (S 2) (n + 1) z)) 3 (upd (S 3) (n + 1) sl)) 4 (upd (S 4) (n + 1) v)) 5 (upd (S 5) (n + 1) x)) 6 (upd (S 6) (n + 1) y))) := hD
  subst q11_1
  refine lv_istore (lv' := [(6, .int (nI (n + 1))), (0, .ref (ad 0)), (1, .int z), (2, .int sl), (3, .int v), (4, .int x), (5, .int y)]) hx hb dX6_believe_14 hl (by decide) rfl (fun ls hl => ?_)
  refine lv_aload_n hx hb dX6_believe_16 rfl (lv_at hl 1 rfl) ?_
  refine gf_X6_19 hx hb hts hown hK hP 0 rfl (v := .ref (ad 7)) rfl dX6_believe_17 ?_
  refine lv_iload_n hx hb dX6_believe_20 rfl (lv_at hl 3 rfl) ?_
  refine lv_iload hx hb dX6_believe_21 (lv_at hl 5 rfl) ?_
  refine lv_iload hx hb dX6_believe_23 (lv_at hl 6 rfl) ?_
  refine lv_iload hx hb dX6_believe_25 (lv_at hl 0 rfl) ?_
  refine wI_call (va_runV (As := [.int sl, .int x, .int y, .int (nI (n + 1))]) (rest := []) ⟨hx, hb, hml, hown, hts⟩ (c_X0_clear l D cy ad (addI I n) (addS S n z sl v x y) H.size sl x y (nI (n + 1)) k hk (by omega)) (cw_X6_99 hts rfl rfl ⟨Nat.le_of_ble_eq_true rfl, Nat.le_of_ble_eq_true rfl⟩) (preVW (ci := 0) (q0 := 0) hK (hP.sub [7, 8, 9, 10, 11, 12, 13] rfl) (hD.sub [7, 8, 9, 10, 11, 12, 13] (by decide) rfl) rfl rfl) rfl rfl hl.1 rfl (lv_room (Nat.le_of_ble_eq_true rfl)) dX6_believe_27 ⟨Nat.le_of_ble_eq_true rfl, Nat.le_of_ble_eq_true rfl⟩) hP hD hS hA [7, 8, 9, 10, 11, 12, 13] rfl [.inl 0, .inl 1, .inl 2, .inl 3, .inl 4, .inl 5, .inl 6, .inr 0, .inr 1, .inr 2, .inr 3, .inr 4, .inr 5, .inr 6, .inl 14, .inl 15, .inl 16, .inl 17, .inl 18, .inl 19, .inl 20, .inl 21, .inl 22, .inl 23, .inl 24, .inl 25, .inl 26, .inl 27, .inl 28] (by decide) (fun u => (wC cy ad (va_up (va_up (va_up I 1 (nI (n + 1))) 2 (u.1 2)) 3 (u.1 3)) (va_up (va_up (va_up (va_up (va_up (va_up (va_up (va_up (va_up (va_up (va_up S 2 (upd (S 2) (n + 1) z)) 3 (upd (S 3) (n + 1) sl)) 4 (upd (S 4) (n + 1) v)) 5 (upd (S 5) (n + 1) x)) 6 (upd (S 6) (n + 1) y)) 8 (u.2 8)) 9 (u.2 9)) 10 (u.2 10)) 11 (u.2 11)) 12 (u.2 12)) 13 (u.2 13)))) (fun _ => rfl) (fun _ => rfl) (fun r27_2 u27_2 H locs q27_2 hP hD hS hkp => ?_)
  obtain ⟨I2c, S2c⟩ := u27_2
  have hP : va_P D clW (wC cy ad (va_up (va_up (va_up I 1 (nI (n + 1))) 2 (I2c 2)) 3 (I2c 3)) (va_up (va_up (va_up (va_up (va_up (va_up (va_up (va_up (va_up (va_up (va_up S 2 (upd (S 2) (n + 1) z)) 3 (upd (S 3) (n + 1) sl)) 4 (upd (S 4) (n + 1) v)) 5 (upd (S 5) (n + 1) x)) 6 (upd (S 6) (n + 1) y)) 8 (S2c 8)) 9 (S2c 9)) 10 (S2c 10)) 11 (S2c 11)) 12 (S2c 12)) 13 (S2c 13))) H := hP
  have hD : va_D A (wC cy ad (va_up (va_up (va_up I 1 (nI (n + 1))) 2 (I2c 2)) 3 (I2c 3)) (va_up (va_up (va_up (va_up (va_up (va_up (va_up (va_up (va_up (va_up (va_up S 2 (upd (S 2) (n + 1) z)) 3 (upd (S 3) (n + 1) sl)) 4 (upd (S 4) (n + 1) v)) 5 (upd (S 5) (n + 1) x)) 6 (upd (S 6) (n + 1) y)) 8 (S2c 8)) 9 (S2c 9)) 10 (S2c 10)) 11 (S2c 11)) 12 (S2c 12)) 13 (S2c 13))) := hD
  obtain ⟨rfl, hcl_2⟩ := q27_2
  obtain ⟨k2, hka, hkb, hkc, hkd⟩ := clearP_k (I := addI I n) (S := addS S n z sl v x y) hk hcl_2
  refine lv_istore (lv' := [(7, .int (cnN (addS S n z sl v x y) sl x y k)), (6, .int (nI (n + 1))), (0, .ref (ad 0)), (1, .int z), (2, .int sl), (3, .int v), (4, .int x), (5, .int y)]) hx hb dX6_believe_30 hl (by decide) rfl (fun ls hl => ?_)
  refine lv_aload_n hx hb dX6_believe_32 rfl (lv_at hl 2 rfl) ?_
  refine gf_X6_19 hx hb hts hown hK hP 0 rfl (v := .ref (ad 7)) rfl dX6_believe_33 ?_
  refine lv_iload_n hx hb dX6_believe_36 rfl (lv_at hl 4 rfl) ?_
  refine lv_iload_n hx hb dX6_believe_37 rfl (lv_at hl 5 rfl) ?_
  refine lv_iload hx hb dX6_believe_38 (lv_at hl 6 rfl) ?_
  refine lv_iload hx hb dX6_believe_40 (lv_at hl 7 rfl) ?_
  refine lv_iload hx hb dX6_believe_42 (lv_at hl 1 rfl) ?_
  refine wV_call (va_runV (As := [.int sl, .int v, .int x, .int y, .int (nI (n + 1))]) (rest := []) ⟨hx, hb, hml, hown, hts⟩ (c_X0_open l D cy ad (va_up (va_up (va_up I 1 (nI (n + 1))) 2 (I2c 2)) 3 (I2c 3)) (va_up (va_up (va_up (va_up (va_up (va_up (va_up (va_up (va_up (va_up (va_up S 2 (upd (S 2) (n + 1) z)) 3 (upd (S 3) (n + 1) sl)) 4 (upd (S 4) (n + 1) v)) 5 (upd (S 5) (n + 1) x)) 6 (upd (S 6) (n + 1) y)) 8 (S2c 8)) 9 (S2c 9)) 10 (S2c 10)) 11 (S2c 11)) 12 (S2c 12)) 13 (S2c 13)) H.size sl v x y (nI (n + 1)) k2 hkc (by omega)) (cw_X6_261 hts rfl rfl ⟨Nat.le_of_ble_eq_true rfl, Nat.le_of_ble_eq_true rfl⟩) (preVW (ci := 0) (q0 := 0) hK (hP.sub [7, 8, 9, 10, 11, 12, 13] rfl) (hD.sub [7, 8, 9, 10, 11, 12, 13] (by decide) rfl) rfl rfl) rfl rfl hl.1 rfl (lv_room (Nat.le_of_ble_eq_true rfl)) dX6_believe_44 ⟨Nat.le_of_ble_eq_true rfl, Nat.le_of_ble_eq_true rfl⟩) hP hD hS hA [7, 8, 9, 10, 11, 12, 13] rfl [.inl 0, .inl 1, .inl 2, .inl 3, .inl 4, .inl 5, .inl 6, .inr 0, .inr 1, .inr 2, .inr 3, .inr 4, .inr 5, .inr 6, .inl 14, .inl 15, .inl 16, .inl 17, .inl 18, .inl 19, .inl 20, .inl 21, .inl 22, .inl 23, .inl 24, .inl 25, .inl 26, .inl 27, .inl 28] (by decide) (fun u => (wC cy ad (va_up (va_up (va_up I 1 (nI (n + 1))) 3 (I2c 3)) 2 (nI (k2 + 1))) (va_up (va_up (va_up (va_up (va_up (va_up (va_up (va_up (va_up (va_up (va_up S 2 (upd (S 2) (n + 1) z)) 3 (upd (S 3) (n + 1) sl)) 4 (upd (S 4) (n + 1) v)) 5 (upd (S 5) (n + 1) x)) 6 (upd (S 6) (n + 1) y)) 8 (upd (S2c 8) k2 sl)) 9 (upd (S2c 9) k2 v)) 10 (upd (S2c 10) k2 x)) 11 (upd (S2c 11) k2 y)) 12 (upd (S2c 12) k2 (nI (n + 1)))) 13 (upd (S2c 13) k2 (-1))))) (fun _ => rfl) (fun _ => rfl) (fun u44_3 H locs q44_3 hP hD hS hkp => ?_)
  have hP : va_P D clW (wC cy ad (va_up (va_up (va_up I 1 (nI (n + 1))) 3 (I2c 3)) 2 (nI (k2 + 1))) (va_up (va_up (va_up (va_up (va_up (va_up (va_up (va_up (va_up (va_up (va_up S 2 (upd (S 2) (n + 1) z)) 3 (upd (S 3) (n + 1) sl)) 4 (upd (S 4) (n + 1) v)) 5 (upd (S 5) (n + 1) x)) 6 (upd (S 6) (n + 1) y)) 8 (upd (S2c 8) k2 sl)) 9 (upd (S2c 9) k2 v)) 10 (upd (S2c 10) k2 x)) 11 (upd (S2c 11) k2 y)) 12 (upd (S2c 12) k2 (nI (n + 1)))) 13 (upd (S2c 13) k2 (-1)))) H := hP
  have hD : va_D A (wC cy ad (va_up (va_up (va_up I 1 (nI (n + 1))) 3 (I2c 3)) 2 (nI (k2 + 1))) (va_up (va_up (va_up (va_up (va_up (va_up (va_up (va_up (va_up (va_up (va_up S 2 (upd (S 2) (n + 1) z)) 3 (upd (S 3) (n + 1) sl)) 4 (upd (S 4) (n + 1) v)) 5 (upd (S 5) (n + 1) x)) 6 (upd (S 6) (n + 1) y)) 8 (upd (S2c 8) k2 sl)) 9 (upd (S2c 9) k2 v)) 10 (upd (S2c 10) k2 x)) 11 (upd (S2c 11) k2 y)) 12 (upd (S2c 12) k2 (nI (n + 1)))) 13 (upd (S2c 13) k2 (-1)))) := hD
  refine lv_iload hx hb dX6_believe_47 (lv_at hl 0 rfl) ?_
  exact wI_ret (I2c, S2c, k2) hS hP hx hb hr hlocks dX6_believe_49 (Nat.le_of_ble_eq_true rfl) (Nat.le_of_ble_eq_true rfl) hQ ⟨rfl, hcl_2, hka, hkb, hkc, hkd⟩
