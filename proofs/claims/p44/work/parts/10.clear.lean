theorem cw_X0_41 {R : Room} {s : State} {args : Array Value} {rm : Room} {mc ms : Nat} (hts : ∀ w ∈ wsL_law, w.before args s = true) (hrc : rm.cells = mc) (hrs : rm.slots = ms) (hR : rm.frames + 1 ≤ R.frames ∧ 8 + (2 + 11) + rm.locals ≤ R.locals) : CallW R s args RX0 RX0 41 yX0_value cX0_value 2 (some .int) (Cond.code yX0_value cX0_value 2 (some .int) :: wsL_law) rm mc ms 1 := cwV 1 hts (gUV wm_222 wm_223 wm_224 wm_18 wm_225) rfl hrc hrs (by decide +kernel) hR
theorem cw_X0_48 {R : Room} {s : State} {args : Array Value} {rm : Room} {mc ms : Nat} (hts : ∀ w ∈ wsL_law, w.before args s = true) (hrc : rm.cells = mc) (hrs : rm.slots = ms) (hR : rm.frames + 1 ≤ R.frames ∧ 8 + (6 + 11) + rm.locals ≤ R.locals) : CallW R s args RX0 RX0 48 yX0_open cX0_open 6 none (Cond.code yX0_open cX0_open 6 none :: wsL_law) rm mc ms 5 := cwV 5 hts (gUV wm_226 wm_227 wm_228 wm_18 wm_229) rfl hrc hrs (by decide +kernel) hR
set_option maxHeartbeats 4000000 in
set_option maxRecDepth 100000 in
theorem c_X0_clear (l : Launch) (D : va_G) (cy : Nat → ClassId) (ad : Nat → Nat) (I : AI) (S : AS) (sz : Nat) (sl : Int32) (a : Int32) (b : Int32) (t : Int32) (k : Nat) (hk : I 2 = nI k) (hk7 : k + 2 ≤ 180) : Met l yX0_clear (Cond.code yX0_clear cX0_clear 9 (some .int) :: wsL_law) ({ frames := 3, cells := 0, slots := 0, locals := 67 }) (va_Pc [.ref (ad 7), .int sl, .int a, .int b, .int t] (wrB D cy (wF cy ad I S) sz)) (va_Qi (S := AI × AS) (fun r u => r = cnN S sl a b k ∧ clearP I S sl a b t k u.1 u.2) (fun u t9 => va_P D clW (wF cy ad (va_up (va_up I 2 (u.1 2)) 3 (u.1 3)) (va_up (va_up (va_up (va_up (va_up (va_up S 8 (u.2 8)) 9 (u.2 9)) 10 (u.2 10)) 11 (u.2 11)) 12 (u.2 12)) 13 (u.2 13))) t9.heap) (va_A (wF cy ad I S) sz)) 0 0 (va_A (wF cy ad I S) sz) := by
  refine enter (cc := cX0_clear) (by decide) (Nat.le_of_ble_eq_true rfl) ?_
  intro p e s m below meth c hx hb hr hml hown hts hlocks hin hv Q hQ ls hl
  obtain ⟨hsz, hP, hK, hD0⟩ := hv
  subst hsz
  have hD := hD0.self (sz := s.heap.size)
  generalize hAe : va_A (wF cy ad I S) s.heap.size = A at hD hQ ⊢
  have hA : ∀ q : Nat, s.heap.size ≤ q → A q := fun q h => by rw [← hAe]; exact Or.inr h
  have hS : va_S A s.heap s.heap [] := va_S.rf
  suffices K_ : ∀ (H : Heap) (locs : List Loc), va_P D clW (wF cy ad I S) H → va_S A s.heap H locs → W p l e ({ frames := 3, cells := 0, slots := 0, locals := 67 }) s m ([.ref (ad 7), .int sl, .int a, .int b, .int t] : List Value).toArray below meth c H locs 0 0 Q (F0 m 0 ls []) from K_ _ _ hP hS
  clear hP hS
  intro H locs hP hS
  have hown : s.vm.findClass RX0 = some m.cls := hown
  have hl : lv_has ls 9 [(0, .ref (ad 7)), (1, .int sl), (2, .int a), (3, .int b), (4, .int t)] := hl
  refine lv_iconst (v := 0) hx hb dX0_clear_0 (by decide) ?_
  refine lv_istore (lv' := [(5, .int 0), (0, .ref (ad 7)), (1, .int sl), (2, .int a), (3, .int b), (4, .int t)]) hx hb dX0_clear_1 hl (by decide) rfl (fun ls hl => ?_)
  refine lv_iconst (v := (-1)) hx hb dX0_clear_3 (by decide) ?_
  refine lv_istore (lv' := [(6, .int (-1)), (5, .int 0), (0, .ref (ad 7)), (1, .int sl), (2, .int a), (3, .int b), (4, .int t)]) hx hb dX0_clear_4 hl (by decide) rfl (fun ls hl => ?_)
  refine lv_iconst (v := (-1)) hx hb dX0_clear_6 (by decide) ?_
  refine lv_istore (lv' := [(7, .int (-1)), (6, .int (-1)), (5, .int 0), (0, .ref (ad 7)), (1, .int sl), (2, .int a), (3, .int b), (4, .int t)]) hx hb dX0_clear_7 hl (by decide) rfl (fun ls hl => ?_)
  refine lv_iconst (v := 0) hx hb dX0_clear_9 (by decide) ?_
  refine lv_istore (lv' := [(8, .int 0), (7, .int (-1)), (6, .int (-1)), (5, .int 0), (0, .ref (ad 7)), (1, .int sl), (2, .int a), (3, .int b), (4, .int t)]) hx hb dX0_clear_10 hl (by decide) rfl (fun ls hl => ?_)
  have L12 : ∀ (n_12 i : Nat), i ≤ k → k + 1 ≤ i + n_12 → ∀ (H : Heap) (locs : List Loc), va_P D clW (wF cy ad I (va_up S 13 (clN S sl a b t i))) H → va_D A (wF cy ad I (va_up S 13 (clN S sl a b t i))) → va_S A s.heap H locs → ∀ (ls : Array Slot), lv_has ls 9 [(8, .int (nI i)), (5, .int (cnN S sl a b i)), (6, .int (bfN S sl a b i)), (7, .int (afN S sl a b i)), (0, .ref (ad 7)), (1, .int sl), (2, .int a), (3, .int b), (4, .int t)] → W p l e { frames := 3, cells := 0, slots := 0, locals := 67 } s m ([.ref (ad 7), .int sl, .int a, .int b, .int t] : List Value).toArray below meth c H locs 0 0 Q (F0 m 12 ls []) := by
    clear hl
    intro n_12
    induction n_12 with
    | zero => intro i  hle_12 hn_12; exact absurd hn_12 (by omega)
    | succ n_12 ih12 =>
      intro i  hle_12 hn_12  H locs hP hD hS ls hl
      refine lv_iload hx hb dX0_clear_12 (lv_at hl 0 rfl) ?_
      refine lv_aload_n hx hb dX0_clear_14 rfl (lv_at hl 4 rfl) ?_
      refine gf_X0_30 hx hb hts hown hK hP 0 rfl (v := .int (I 2)) rfl dX0_clear_15 ?_
      refine top_eq hk ?_
      refine lv_icmp_ge (tgt := 112) hx hb dX0_clear_18 (by decide) (fun c18_1 => ?_) (fun c18_1 => ?_)
      · have fk : k ≤ i := nt_le (a := k) (b := i) (by omega) (by omega) c18_1
        obtain rfl : i = k := by omega
        rcases bfN_is S sl a b i with hbfN | ⟨jbfN, hjbfN, hbfN⟩
        · rw [hbfN] at hl
          refine lv_iload hx hb dX0_clear_112 (lv_at hl 2 rfl) ?_
          refine lv_iconst (v := (-1)) hx hb dX0_clear_114 (by decide) ?_
          refine lv_icmp_eq (tgt := 138) hx hb dX0_clear_115 (by decide) (fun _ => ?_) (fun c => absurd (by decide) c)
          rcases afN_is S sl a b i with hafN | ⟨jafN, hjafN, hafN⟩
          · rw [hafN] at hl
            refine lv_iload hx hb dX0_clear_138 (lv_at hl 3 rfl) ?_
            refine lv_iconst (v := (-1)) hx hb dX0_clear_140 (by decide) ?_
            refine lv_icmp_eq (tgt := 164) hx hb dX0_clear_141 (by decide) (fun _ => ?_) (fun c => absurd (by decide) c)
            refine lv_iload hx hb dX0_clear_164 (lv_at hl 1 rfl) ?_
            exact wI_ret (I, (clr1 S sl a b t i)) hS hP hx hb hr hlocks dX0_clear_166 (Nat.le_of_ble_eq_true rfl) (Nat.le_of_ble_eq_true rfl) hQ ⟨rfl, Or.inl ⟨hbfN, hafN, rfl, rfl⟩⟩
          · rw [hafN] at hl
            refine lv_iload hx hb dX0_clear_138 (lv_at hl 3 rfl) ?_
            refine lv_iconst (v := (-1)) hx hb dX0_clear_140 (by decide) ?_
            refine lv_icmp_eq (tgt := 164) hx hb dX0_clear_141 (by decide) (fun c => absurd c (nI_m1 (by omega))) (fun _ => ?_)
            refine lv_aload_n hx hb dX0_clear_144 rfl (lv_at hl 4 rfl) ?_
            refine lv_iload_n hx hb dX0_clear_145 rfl (lv_at hl 5 rfl) ?_
            refine lv_aload_n hx hb dX0_clear_146 rfl (lv_at hl 4 rfl) ?_
            refine lv_iload hx hb dX0_clear_147 (lv_at hl 3 rfl) ?_
            refine rI_call (va_runV (As := [.int (nI jafN)]) (rest := [.int sl, .ref (ad 7)]) ⟨hx, hb, hml, hown, hts⟩ (c_X0_value l D cy ad I (va_up S 13 (clN S sl a b t i)) jafN (by omega)) (cw_X0_41 hts rfl rfl ⟨Nat.le_of_ble_eq_true rfl, Nat.le_of_ble_eq_true rfl⟩) (preVR (ci := 0) (q0 := 0) hK hP rfl rfl) rfl rfl hl.1 rfl (lv_room (Nat.le_of_ble_eq_true rfl)) dX0_clear_149 ⟨Nat.le_of_ble_eq_true rfl, Nat.le_of_ble_eq_true rfl⟩) (fun r hr_ => ?_)
            subst hr_
            refine top_eq rfl ?_
            refine lv_iload_n hx hb dX0_clear_152 rfl (lv_at hl 7 rfl) ?_
            refine lv_aload_n hx hb dX0_clear_153 rfl (lv_at hl 4 rfl) ?_
            refine lv_iload hx hb dX0_clear_154 (lv_at hl 3 rfl) ?_
            refine rI_call (va_runV (As := [.int (nI jafN)]) (rest := [.int b, .int (S 9 jafN), .int sl, .ref (ad 7)]) ⟨hx, hb, hml, hown, hts⟩ (c_X0_dayAfter l D cy ad I (va_up S 13 (clN S sl a b t i)) jafN (by omega)) (cw_X0_52 hts rfl rfl ⟨Nat.le_of_ble_eq_true rfl, Nat.le_of_ble_eq_true rfl⟩) (preVR (ci := 0) (q0 := 0) hK hP rfl rfl) rfl rfl hl.1 rfl (lv_room (Nat.le_of_ble_eq_true rfl)) dX0_clear_156 ⟨Nat.le_of_ble_eq_true rfl, Nat.le_of_ble_eq_true rfl⟩) (fun r hr_ => ?_)
            subst hr_
            refine top_eq rfl ?_
            refine lv_iload hx hb dX0_clear_159 (lv_at hl 8 rfl) ?_
            refine wV_call (va_runV (As := [.int sl, .int (S 9 jafN), .int b, .int (S 11 jafN), .int t]) (rest := []) ⟨hx, hb, hml, hown, hts⟩ (c_X0_open l D cy ad I (va_up S 13 (clN S sl a b t i)) H.size sl (S 9 jafN) b (S 11 jafN) t i hk (by omega)) (cw_X0_48 hts rfl rfl ⟨Nat.le_of_ble_eq_true rfl, Nat.le_of_ble_eq_true rfl⟩) (preVW (ci := 0) (q0 := 0) hK hP hD rfl rfl) rfl rfl hl.1 rfl (lv_room (Nat.le_of_ble_eq_true rfl)) dX0_clear_161 ⟨Nat.le_of_ble_eq_true rfl, Nat.le_of_ble_eq_true rfl⟩) hP hD hS hA [0, 1, 2, 3, 4, 5, 6] rfl [.inr 0, .inr 1, .inr 2, .inr 3, .inr 4, .inr 5, .inr 6] (by decide) (fun u => (wF cy ad (va_up I 2 (nI (i + 1))) (va_up (va_up (va_up (va_up (va_up (va_up S 8 (upd (S 8) i sl)) 9 (upd (S 9) i (S 9 jafN))) 10 (upd (S 10) i b)) 11 (upd (S 11) i (S 11 jafN))) 12 (upd (S 12) i t)) 13 (upd (clN S sl a b t i) i (-1))))) (fun _ => rfl) (fun _ => rfl) (fun u161_2 H locs q161_2 hP hD hS hkp => ?_)
            have hP : va_P D clW (wF cy ad (va_up I 2 (nI (i + 1))) (va_up (va_up (va_up (va_up (va_up (va_up S 8 (upd (S 8) i sl)) 9 (upd (S 9) i (S 9 jafN))) 10 (upd (S 10) i b)) 11 (upd (S 11) i (S 11 jafN))) 12 (upd (S 12) i t)) 13 (upd (clN S sl a b t i) i (-1)))) H := hP
            have hD : va_D A (wF cy ad (va_up I 2 (nI (i + 1))) (va_up (va_up (va_up (va_up (va_up (va_up S 8 (upd (S 8) i sl)) 9 (upd (S 9) i (S 9 jafN))) 10 (upd (S 10) i b)) 11 (upd (S 11) i (S 11 jafN))) 12 (upd (S 12) i t)) 13 (upd (clN S sl a b t i) i (-1)))) := hD
            refine lv_iload hx hb dX0_clear_164 (lv_at hl 1 rfl) ?_
            exact wI_ret ((openI I i), (openS (clr1 S sl a b t i) i sl (S 9 jafN) b (S 11 jafN) t)) hS hP hx hb hr hlocks dX0_clear_166 (Nat.le_of_ble_eq_true rfl) (Nat.le_of_ble_eq_true rfl) hQ ⟨rfl, Or.inr (Or.inr (Or.inl ⟨jafN, hjafN, hbfN, hafN, rfl, rfl⟩))⟩
        · rw [hbfN] at hl
          refine lv_iload hx hb dX0_clear_112 (lv_at hl 2 rfl) ?_
          refine lv_iconst (v := (-1)) hx hb dX0_clear_114 (by decide) ?_
          refine lv_icmp_eq (tgt := 138) hx hb dX0_clear_115 (by decide) (fun c => absurd c (nI_m1 (by omega))) (fun _ => ?_)
          refine lv_aload_n hx hb dX0_clear_118 rfl (lv_at hl 4 rfl) ?_
          refine lv_iload_n hx hb dX0_clear_119 rfl (lv_at hl 5 rfl) ?_
          refine lv_aload_n hx hb dX0_clear_120 rfl (lv_at hl 4 rfl) ?_
          refine lv_iload hx hb dX0_clear_121 (lv_at hl 2 rfl) ?_
          refine rI_call (va_runV (As := [.int (nI jbfN)]) (rest := [.int sl, .ref (ad 7)]) ⟨hx, hb, hml, hown, hts⟩ (c_X0_value l D cy ad I (va_up S 13 (clN S sl a b t i)) jbfN (by omega)) (cw_X0_41 hts rfl rfl ⟨Nat.le_of_ble_eq_true rfl, Nat.le_of_ble_eq_true rfl⟩) (preVR (ci := 0) (q0 := 0) hK hP rfl rfl) rfl rfl hl.1 rfl (lv_room (Nat.le_of_ble_eq_true rfl)) dX0_clear_123 ⟨Nat.le_of_ble_eq_true rfl, Nat.le_of_ble_eq_true rfl⟩) (fun r hr_ => ?_)
          subst hr_
          refine top_eq rfl ?_
          refine lv_aload_n hx hb dX0_clear_126 rfl (lv_at hl 4 rfl) ?_
          refine lv_iload hx hb dX0_clear_127 (lv_at hl 2 rfl) ?_
          refine rI_call (va_runV (As := [.int (nI jbfN)]) (rest := [.int (S 9 jbfN), .int sl, .ref (ad 7)]) ⟨hx, hb, hml, hown, hts⟩ (c_X0_firstDay l D cy ad I (va_up S 13 (clN S sl a b t i)) jbfN (by omega)) (cw_X0_45 hts rfl rfl ⟨Nat.le_of_ble_eq_true rfl, Nat.le_of_ble_eq_true rfl⟩) (preVR (ci := 0) (q0 := 0) hK hP rfl rfl) rfl rfl hl.1 rfl (lv_room (Nat.le_of_ble_eq_true rfl)) dX0_clear_129 ⟨Nat.le_of_ble_eq_true rfl, Nat.le_of_ble_eq_true rfl⟩) (fun r hr_ => ?_)
          subst hr_
          refine top_eq rfl ?_
          refine lv_iload_n hx hb dX0_clear_132 rfl (lv_at hl 6 rfl) ?_
          refine lv_iload hx hb dX0_clear_133 (lv_at hl 8 rfl) ?_
          refine wV_call (va_runV (As := [.int sl, .int (S 9 jbfN), .int (S 10 jbfN), .int a, .int t]) (rest := []) ⟨hx, hb, hml, hown, hts⟩ (c_X0_open l D cy ad I (va_up S 13 (clN S sl a b t i)) H.size sl (S 9 jbfN) (S 10 jbfN) a t i hk (by omega)) (cw_X0_48 hts rfl rfl ⟨Nat.le_of_ble_eq_true rfl, Nat.le_of_ble_eq_true rfl⟩) (preVW (ci := 0) (q0 := 0) hK hP hD rfl rfl) rfl rfl hl.1 rfl (lv_room (Nat.le_of_ble_eq_true rfl)) dX0_clear_135 ⟨Nat.le_of_ble_eq_true rfl, Nat.le_of_ble_eq_true rfl⟩) hP hD hS hA [0, 1, 2, 3, 4, 5, 6] rfl [.inr 0, .inr 1, .inr 2, .inr 3, .inr 4, .inr 5, .inr 6] (by decide) (fun u => (wF cy ad (va_up I 2 (nI (i + 1))) (va_up (va_up (va_up (va_up (va_up (va_up S 8 (upd (S 8) i sl)) 9 (upd (S 9) i (S 9 jbfN))) 10 (upd (S 10) i (S 10 jbfN))) 11 (upd (S 11) i a)) 12 (upd (S 12) i t)) 13 (upd (clN S sl a b t i) i (-1))))) (fun _ => rfl) (fun _ => rfl) (fun u135_3 H locs q135_3 hP hD hS hkp => ?_)
          have hP : va_P D clW (wF cy ad (va_up I 2 (nI (i + 1))) (va_up (va_up (va_up (va_up (va_up (va_up S 8 (upd (S 8) i sl)) 9 (upd (S 9) i (S 9 jbfN))) 10 (upd (S 10) i (S 10 jbfN))) 11 (upd (S 11) i a)) 12 (upd (S 12) i t)) 13 (upd (clN S sl a b t i) i (-1)))) H := hP
          have hD : va_D A (wF cy ad (va_up I 2 (nI (i + 1))) (va_up (va_up (va_up (va_up (va_up (va_up S 8 (upd (S 8) i sl)) 9 (upd (S 9) i (S 9 jbfN))) 10 (upd (S 10) i (S 10 jbfN))) 11 (upd (S 11) i a)) 12 (upd (S 12) i t)) 13 (upd (clN S sl a b t i) i (-1)))) := hD
          rcases afN_is S sl a b i with hafN | ⟨jafN, hjafN, hafN⟩
          · rw [hafN] at hl
            refine lv_iload hx hb dX0_clear_138 (lv_at hl 3 rfl) ?_
            refine lv_iconst (v := (-1)) hx hb dX0_clear_140 (by decide) ?_
            refine lv_icmp_eq (tgt := 164) hx hb dX0_clear_141 (by decide) (fun _ => ?_) (fun c => absurd (by decide) c)
            refine lv_iload hx hb dX0_clear_164 (lv_at hl 1 rfl) ?_
            exact wI_ret ((openI I i), (openS (clr1 S sl a b t i) i sl (S 9 jbfN) (S 10 jbfN) a t)) hS hP hx hb hr hlocks dX0_clear_166 (Nat.le_of_ble_eq_true rfl) (Nat.le_of_ble_eq_true rfl) hQ ⟨rfl, Or.inr (Or.inl ⟨jbfN, hjbfN, hbfN, hafN, rfl, rfl⟩)⟩
          · rw [hafN] at hl
            refine lv_iload hx hb dX0_clear_138 (lv_at hl 3 rfl) ?_
            refine lv_iconst (v := (-1)) hx hb dX0_clear_140 (by decide) ?_
            refine lv_icmp_eq (tgt := 164) hx hb dX0_clear_141 (by decide) (fun c => absurd c (nI_m1 (by omega))) (fun _ => ?_)
            refine lv_aload_n hx hb dX0_clear_144 rfl (lv_at hl 4 rfl) ?_
            refine lv_iload_n hx hb dX0_clear_145 rfl (lv_at hl 5 rfl) ?_
            refine lv_aload_n hx hb dX0_clear_146 rfl (lv_at hl 4 rfl) ?_
            refine lv_iload hx hb dX0_clear_147 (lv_at hl 3 rfl) ?_
            refine rI_call (va_runV (As := [.int (nI jafN)]) (rest := [.int sl, .ref (ad 7)]) ⟨hx, hb, hml, hown, hts⟩ (c_X0_value l D cy ad (va_up I 2 (nI (i + 1))) (va_up (va_up (va_up (va_up (va_up (va_up S 8 (upd (S 8) i sl)) 9 (upd (S 9) i (S 9 jbfN))) 10 (upd (S 10) i (S 10 jbfN))) 11 (upd (S 11) i a)) 12 (upd (S 12) i t)) 13 (upd (clN S sl a b t i) i (-1))) jafN (by omega)) (cw_X0_41 hts rfl rfl ⟨Nat.le_of_ble_eq_true rfl, Nat.le_of_ble_eq_true rfl⟩) (preVR (ci := 0) (q0 := 0) hK hP rfl rfl) rfl rfl hl.1 rfl (lv_room (Nat.le_of_ble_eq_true rfl)) dX0_clear_149 ⟨Nat.le_of_ble_eq_true rfl, Nat.le_of_ble_eq_true rfl⟩) (fun r hr_ => ?_)
            subst hr_
            refine top_eq (pk_un (by omega)) ?_
            refine lv_iload_n hx hb dX0_clear_152 rfl (lv_at hl 7 rfl) ?_
            refine lv_aload_n hx hb dX0_clear_153 rfl (lv_at hl 4 rfl) ?_
            refine lv_iload hx hb dX0_clear_154 (lv_at hl 3 rfl) ?_
            refine rI_call (va_runV (As := [.int (nI jafN)]) (rest := [.int b, .int (S 9 jafN), .int sl, .ref (ad 7)]) ⟨hx, hb, hml, hown, hts⟩ (c_X0_dayAfter l D cy ad (va_up I 2 (nI (i + 1))) (va_up (va_up (va_up (va_up (va_up (va_up S 8 (upd (S 8) i sl)) 9 (upd (S 9) i (S 9 jbfN))) 10 (upd (S 10) i (S 10 jbfN))) 11 (upd (S 11) i a)) 12 (upd (S 12) i t)) 13 (upd (clN S sl a b t i) i (-1))) jafN (by omega)) (cw_X0_52 hts rfl rfl ⟨Nat.le_of_ble_eq_true rfl, Nat.le_of_ble_eq_true rfl⟩) (preVR (ci := 0) (q0 := 0) hK hP rfl rfl) rfl rfl hl.1 rfl (lv_room (Nat.le_of_ble_eq_true rfl)) dX0_clear_156 ⟨Nat.le_of_ble_eq_true rfl, Nat.le_of_ble_eq_true rfl⟩) (fun r hr_ => ?_)
            subst hr_
            refine top_eq (pk_un (by omega)) ?_
            refine lv_iload hx hb dX0_clear_159 (lv_at hl 8 rfl) ?_
            refine wV_call (va_runV (As := [.int sl, .int (S 9 jafN), .int b, .int (S 11 jafN), .int t]) (rest := []) ⟨hx, hb, hml, hown, hts⟩ (c_X0_open l D cy ad (va_up I 2 (nI (i + 1))) (va_up (va_up (va_up (va_up (va_up (va_up S 8 (upd (S 8) i sl)) 9 (upd (S 9) i (S 9 jbfN))) 10 (upd (S 10) i (S 10 jbfN))) 11 (upd (S 11) i a)) 12 (upd (S 12) i t)) 13 (upd (clN S sl a b t i) i (-1))) H.size sl (S 9 jafN) b (S 11 jafN) t (i + 1) rfl (by omega)) (cw_X0_48 hts rfl rfl ⟨Nat.le_of_ble_eq_true rfl, Nat.le_of_ble_eq_true rfl⟩) (preVW (ci := 0) (q0 := 0) hK hP hD rfl rfl) rfl rfl hl.1 rfl (lv_room (Nat.le_of_ble_eq_true rfl)) dX0_clear_161 ⟨Nat.le_of_ble_eq_true rfl, Nat.le_of_ble_eq_true rfl⟩) hP hD hS hA [0, 1, 2, 3, 4, 5, 6] rfl [.inr 0, .inr 1, .inr 2, .inr 3, .inr 4, .inr 5, .inr 6] (by decide) (fun u => (wF cy ad (va_up I 2 (nI ((i + 1) + 1))) (va_up (va_up (va_up (va_up (va_up (va_up S 8 (upd (upd (S 8) i sl) (i + 1) sl)) 9 (upd (upd (S 9) i (S 9 jbfN)) (i + 1) (S 9 jafN))) 10 (upd (upd (S 10) i (S 10 jbfN)) (i + 1) b)) 11 (upd (upd (S 11) i a) (i + 1) (S 11 jafN))) 12 (upd (upd (S 12) i t) (i + 1) t)) 13 (upd (upd (clN S sl a b t i) i (-1)) (i + 1) (-1))))) (fun _ => rfl) (fun _ => rfl) (fun u161_4 H locs q161_4 hP hD hS hkp => ?_)
            have hP : va_P D clW (wF cy ad (va_up I 2 (nI ((i + 1) + 1))) (va_up (va_up (va_up (va_up (va_up (va_up S 8 (upd (upd (S 8) i sl) (i + 1) sl)) 9 (upd (upd (S 9) i (S 9 jbfN)) (i + 1) (S 9 jafN))) 10 (upd (upd (S 10) i (S 10 jbfN)) (i + 1) b)) 11 (upd (upd (S 11) i a) (i + 1) (S 11 jafN))) 12 (upd (upd (S 12) i t) (i + 1) t)) 13 (upd (upd (clN S sl a b t i) i (-1)) (i + 1) (-1)))) H := hP
            have hD : va_D A (wF cy ad (va_up I 2 (nI ((i + 1) + 1))) (va_up (va_up (va_up (va_up (va_up (va_up S 8 (upd (upd (S 8) i sl) (i + 1) sl)) 9 (upd (upd (S 9) i (S 9 jbfN)) (i + 1) (S 9 jafN))) 10 (upd (upd (S 10) i (S 10 jbfN)) (i + 1) b)) 11 (upd (upd (S 11) i a) (i + 1) (S 11 jafN))) 12 (upd (upd (S 12) i t) (i + 1) t)) 13 (upd (upd (clN S sl a b t i) i (-1)) (i + 1) (-1)))) := hD
            refine lv_iload hx hb dX0_clear_164 (lv_at hl 1 rfl) ?_
            exact wI_ret ((openI (openI I i) (i + 1)), (openS (openS (clr1 S sl a b t i) i sl (S 9 jbfN) (S 10 jbfN) a t) (i + 1) sl (S 9 jafN) b (S 11 jafN) t)) hS hP hx hb hr hlocks dX0_clear_166 (Nat.le_of_ble_eq_true rfl) (Nat.le_of_ble_eq_true rfl) hQ ⟨rfl, Or.inr (Or.inr (Or.inr ⟨jbfN, jafN, hjbfN, hjafN, hbfN, hafN, rfl, rfl⟩))⟩
      · have f18_1 : i < k := nt_nle (a := k) (b := i) (by omega) (by omega) c18_1
        refine lv_aload_n hx hb dX0_clear_21 rfl (lv_at hl 4 rfl) ?_
        refine gf_X0_9 hx hb hts hown hK hP 0 rfl (v := .ref (ad 8)) rfl dX0_clear_22 ?_
        refine lv_iload hx hb dX0_clear_25 (lv_at hl 0 rfl) ?_
        refine ald_I (f := (S 8)) hx hb hK hP 1 rfl (i := i) (by omega) (by decide) dX0_clear_27 ?_
        refine lv_iload_n hx hb dX0_clear_28 rfl (lv_at hl 5 rfl) ?_
        refine lv_icmp_ne (tgt := 106) hx hb dX0_clear_29 (by decide) (fun c29_5 => ?_) (fun c29_5 => ?_)
        · refine lv_iinc (v := (nI (i + 1))) (lv' := [(8, .int (nI (i + 1))), (5, .int (cnN S sl a b i)), (6, .int (bfN S sl a b i)), (7, .int (afN S sl a b i)), (0, .ref (ad 7)), (1, .int sl), (2, .int a), (3, .int b), (4, .int t)]) hx hb dX0_clear_106 hl (k := 0) rfl (nI_1 i) (by decide) rfl (fun ls hl => ?_)
          refine lv_goto (tgt := 12) hx hb dX0_clear_109 (by decide) ?_
          have e_6 : (cnN S sl a b i) = (cnN S sl a b (i + 1)) := (if_neg (fun h => by first | exact c29_5 h.1 | exact h.1 c29_5)).symm
          have e_7 : (bfN S sl a b i) = (bfN S sl a b (i + 1)) := (if_neg (fun h => absurd h.1 (fun h => by first | exact c29_5 h.1 | exact h.1 c29_5))).symm
          have e_8 : (afN S sl a b i) = (afN S sl a b (i + 1)) := (if_neg (fun h => absurd h.1 (fun h => by first | exact c29_5 h.1 | exact h.1 c29_5))).symm
          have hl : lv_has ls 9 [(8, .int (nI (i + 1))), (5, .int (cnN S sl a b (i + 1))), (6, .int (bfN S sl a b (i + 1))), (7, .int (afN S sl a b (i + 1))), (0, .ref (ad 7)), (1, .int sl), (2, .int a), (3, .int b), (4, .int t)] := by rw [← e_6, ← e_7, ← e_8]; exact hl
          have e_9 : (clN S sl a b t i) = (clN S sl a b t (i + 1)) := (if_neg (fun h => by first | exact c29_5 h.1 | exact h.1 c29_5)).symm
          have hP : va_P D clW (wF cy ad I (va_up S 13 (clN S sl a b t (i + 1)))) H := by rw [← e_9]; exact hP
          have hD : va_D A (wF cy ad I (va_up S 13 (clN S sl a b t (i + 1)))) := hD.addr rfl
          exact ih12 (i + 1) (by omega) (by omega) _ _ hP hD hS ls (lv_sub hl [0, 1, 2, 3, 4, 5, 6, 7, 8] rfl)
        · refine lv_aload_n hx hb dX0_clear_32 rfl (lv_at hl 4 rfl) ?_
          refine gf_X0_27 hx hb hts hown hK hP 0 rfl (v := .ref (ad 13)) rfl dX0_clear_33 ?_
          refine lv_iload hx hb dX0_clear_36 (lv_at hl 0 rfl) ?_
          refine ald_I (f := (clN S sl a b t i)) hx hb hK hP 6 rfl (i := i) (by omega) (by decide) dX0_clear_38 ?_
          refine top_eq (y := S 13 i) (clN_ge _ _ _ _ _ (Nat.le_refl i)) ?_
          refine lv_iconst (v := (-1)) hx hb dX0_clear_39 (by decide) ?_
          refine lv_icmp_ne (tgt := 106) hx hb dX0_clear_40 (by decide) (fun c40_10 => ?_) (fun c40_10 => ?_)
          · refine lv_iinc (v := (nI (i + 1))) (lv' := [(8, .int (nI (i + 1))), (5, .int (cnN S sl a b i)), (6, .int (bfN S sl a b i)), (7, .int (afN S sl a b i)), (0, .ref (ad 7)), (1, .int sl), (2, .int a), (3, .int b), (4, .int t)]) hx hb dX0_clear_106 hl (k := 0) rfl (nI_1 i) (by decide) rfl (fun ls hl => ?_)
            refine lv_goto (tgt := 12) hx hb dX0_clear_109 (by decide) ?_
            have e_11 : (cnN S sl a b i) = (cnN S sl a b (i + 1)) := (if_neg (fun h => by first | exact c40_10 h.2.1 | exact h.2.1 c40_10)).symm
            have e_12 : (bfN S sl a b i) = (bfN S sl a b (i + 1)) := (if_neg (fun h => absurd h.1 (fun h => by first | exact c40_10 h.2.1 | exact h.2.1 c40_10))).symm
            have e_13 : (afN S sl a b i) = (afN S sl a b (i + 1)) := (if_neg (fun h => absurd h.1 (fun h => by first | exact c40_10 h.2.1 | exact h.2.1 c40_10))).symm
            have hl : lv_has ls 9 [(8, .int (nI (i + 1))), (5, .int (cnN S sl a b (i + 1))), (6, .int (bfN S sl a b (i + 1))), (7, .int (afN S sl a b (i + 1))), (0, .ref (ad 7)), (1, .int sl), (2, .int a), (3, .int b), (4, .int t)] := by rw [← e_11, ← e_12, ← e_13]; exact hl
            have e_14 : (clN S sl a b t i) = (clN S sl a b t (i + 1)) := (if_neg (fun h => by first | exact c40_10 h.2.1 | exact h.2.1 c40_10)).symm
            have hP : va_P D clW (wF cy ad I (va_up S 13 (clN S sl a b t (i + 1)))) H := by rw [← e_14]; exact hP
            have hD : va_D A (wF cy ad I (va_up S 13 (clN S sl a b t (i + 1)))) := hD.addr rfl
            exact ih12 (i + 1) (by omega) (by omega) _ _ hP hD hS ls (lv_sub hl [0, 1, 2, 3, 4, 5, 6, 7, 8] rfl)
          · refine lv_aload_n hx hb dX0_clear_43 rfl (lv_at hl 4 rfl) ?_
            refine lv_iload hx hb dX0_clear_44 (lv_at hl 0 rfl) ?_
            refine lv_iload_n hx hb dX0_clear_46 rfl (lv_at hl 6 rfl) ?_
            refine lv_iload_n hx hb dX0_clear_47 rfl (lv_at hl 7 rfl) ?_
            refine rI_call (va_runV (As := [.int (nI i), .int a, .int b]) (rest := []) ⟨hx, hb, hml, hown, hts⟩ (c_X0_daysWithin l D cy ad I (va_up S 13 (clN S sl a b t i)) i a b (by omega)) (cw_X0_37 hts rfl rfl ⟨Nat.le_of_ble_eq_true rfl, Nat.le_of_ble_eq_true rfl⟩) (preVR (ci := 0) (q0 := 0) hK hP rfl rfl) rfl rfl hl.1 rfl (lv_room (Nat.le_of_ble_eq_true rfl)) dX0_clear_48 ⟨Nat.le_of_ble_eq_true rfl, Nat.le_of_ble_eq_true rfl⟩) (fun r hr_ => ?_)
            subst hr_
            refine top_eq rfl ?_
            refine lv_if_le (tgt := 106) hx hb dX0_clear_51 (by decide) (fun c51_15 => ?_) (fun c51_15 => ?_)
            · refine lv_iinc (v := (nI (i + 1))) (lv' := [(8, .int (nI (i + 1))), (5, .int (cnN S sl a b i)), (6, .int (bfN S sl a b i)), (7, .int (afN S sl a b i)), (0, .ref (ad 7)), (1, .int sl), (2, .int a), (3, .int b), (4, .int t)]) hx hb dX0_clear_106 hl (k := 0) rfl (nI_1 i) (by decide) rfl (fun ls hl => ?_)
              refine lv_goto (tgt := 12) hx hb dX0_clear_109 (by decide) ?_
              have e_16 : (cnN S sl a b i) = (cnN S sl a b (i + 1)) := (if_neg (fun h => by first | exact c51_15 h.2.2 | exact h.2.2 c51_15)).symm
              have e_17 : (bfN S sl a b i) = (bfN S sl a b (i + 1)) := (if_neg (fun h => absurd h.1 (fun h => by first | exact c51_15 h.2.2 | exact h.2.2 c51_15))).symm
              have e_18 : (afN S sl a b i) = (afN S sl a b (i + 1)) := (if_neg (fun h => absurd h.1 (fun h => by first | exact c51_15 h.2.2 | exact h.2.2 c51_15))).symm
              have hl : lv_has ls 9 [(8, .int (nI (i + 1))), (5, .int (cnN S sl a b (i + 1))), (6, .int (bfN S sl a b (i + 1))), (7, .int (afN S sl a b (i + 1))), (0, .ref (ad 7)), (1, .int sl), (2, .int a), (3, .int b), (4, .int t)] := by rw [← e_16, ← e_17, ← e_18]; exact hl
              have e_19 : (clN S sl a b t i) = (clN S sl a b t (i + 1)) := (if_neg (fun h => by first | exact c51_15 h.2.2 | exact h.2.2 c51_15)).symm
              have hP : va_P D clW (wF cy ad I (va_up S 13 (clN S sl a b t (i + 1)))) H := by rw [← e_19]; exact hP
              have hD : va_D A (wF cy ad I (va_up S 13 (clN S sl a b t (i + 1)))) := hD.addr rfl
              exact ih12 (i + 1) (by omega) (by omega) _ _ hP hD hS ls (lv_sub hl [0, 1, 2, 3, 4, 5, 6, 7, 8] rfl)
            · refine lv_aload_n hx hb dX0_clear_54 rfl (lv_at hl 4 rfl) ?_
              refine gf_X0_27 hx hb hts hown hK hP 0 rfl (v := .ref (ad 13)) rfl dX0_clear_55 ?_
              refine lv_iload hx hb dX0_clear_58 (lv_at hl 0 rfl) ?_
              refine lv_iload hx hb dX0_clear_60 (lv_at hl 8 rfl) ?_
              refine ast_I hx hb hK hP hD hS 6 rfl (i := i) (x := t) (by omega) (by decide) dX0_clear_62 (fun H locs hP hD hS => ?_)
              have hP : va_P D clW (wF cy ad I (va_up S 13 (upd (clN S sl a b t i) i t))) H := hP
              have hD : va_D A (wF cy ad I (va_up S 13 (upd (clN S sl a b t i) i t))) := hD
              refine lv_iinc (v := ((cnN S sl a b i) + 1)) (lv' := [(5, .int ((cnN S sl a b i) + 1)), (8, .int (nI i)), (6, .int (bfN S sl a b i)), (7, .int (afN S sl a b i)), (0, .ref (ad 7)), (1, .int sl), (2, .int a), (3, .int b), (4, .int t)]) hx hb dX0_clear_63 hl (k := 1) rfl rfl (by decide) rfl (fun ls hl => ?_)
              refine lv_aload_n hx hb dX0_clear_66 rfl (lv_at hl 4 rfl) ?_
              refine gf_X0_18 hx hb hts hown hK hP 0 rfl (v := .ref (ad 10)) rfl dX0_clear_67 ?_
              refine lv_iload hx hb dX0_clear_70 (lv_at hl 1 rfl) ?_
              refine ald_I (f := (S 10)) hx hb hK hP 3 rfl (i := i) (by omega) (by decide) dX0_clear_72 ?_
              refine lv_iload_n hx hb dX0_clear_73 rfl (lv_at hl 6 rfl) ?_
              refine lv_icmp_ge (tgt := 82) hx hb dX0_clear_74 (by decide) (fun c74_20 => ?_) (fun c74_20 => ?_)
              · refine lv_iload hx hb dX0_clear_82 (lv_at hl 2 rfl) ?_
                refine lv_istore (lv' := [(6, .int (bfN S sl a b i)), (5, .int ((cnN S sl a b i) + 1)), (8, .int (nI i)), (7, .int (afN S sl a b i)), (0, .ref (ad 7)), (1, .int sl), (2, .int a), (3, .int b), (4, .int t)]) hx hb dX0_clear_84 hl (by decide) rfl (fun ls hl => ?_)
                refine lv_aload_n hx hb dX0_clear_86 rfl (lv_at hl 4 rfl) ?_
                refine gf_X0_21 hx hb hts hown hK hP 0 rfl (v := .ref (ad 11)) rfl dX0_clear_87 ?_
                refine lv_iload hx hb dX0_clear_90 (lv_at hl 2 rfl) ?_
                refine ald_I (f := (S 11)) hx hb hK hP 4 rfl (i := i) (by omega) (by decide) dX0_clear_92 ?_
                refine lv_iload_n hx hb dX0_clear_93 rfl (lv_at hl 7 rfl) ?_
                refine lv_icmp_le (tgt := 102) hx hb dX0_clear_94 (by decide) (fun c94_21 => ?_) (fun c94_21 => ?_)
                · refine lv_iload hx hb dX0_clear_102 (lv_at hl 3 rfl) ?_
                  refine lv_istore (lv' := [(7, .int (afN S sl a b i)), (6, .int (bfN S sl a b i)), (5, .int ((cnN S sl a b i) + 1)), (8, .int (nI i)), (0, .ref (ad 7)), (1, .int sl), (2, .int a), (3, .int b), (4, .int t)]) hx hb dX0_clear_104 hl (by decide) rfl (fun ls hl => ?_)
                  refine lv_iinc (v := (nI (i + 1))) (lv' := [(8, .int (nI (i + 1))), (7, .int (afN S sl a b i)), (6, .int (bfN S sl a b i)), (5, .int ((cnN S sl a b i) + 1)), (0, .ref (ad 7)), (1, .int sl), (2, .int a), (3, .int b), (4, .int t)]) hx hb dX0_clear_106 hl (k := 3) rfl (nI_1 i) (by decide) rfl (fun ls hl => ?_)
                  refine lv_goto (tgt := 12) hx hb dX0_clear_109 (by decide) ?_
                  have e_22 : ((cnN S sl a b i) + 1) = (cnN S sl a b (i + 1)) := (if_pos ⟨c29_5, c40_10, c51_15⟩).symm
                  have e_23 : (bfN S sl a b i) = (bfN S sl a b (i + 1)) := (if_neg (fun h => h.2 c74_20)).symm
                  have e_24 : (afN S sl a b i) = (afN S sl a b (i + 1)) := (if_neg (fun h => h.2 c94_21)).symm
                  have hl : lv_has ls 9 [(8, .int (nI (i + 1))), (7, .int (afN S sl a b (i + 1))), (6, .int (bfN S sl a b (i + 1))), (5, .int (cnN S sl a b (i + 1))), (0, .ref (ad 7)), (1, .int sl), (2, .int a), (3, .int b), (4, .int t)] := by rw [← e_22, ← e_23, ← e_24]; exact hl
                  have e_25 : (upd (clN S sl a b t i) i t) = (clN S sl a b t (i + 1)) := (if_pos ⟨c29_5, c40_10, c51_15⟩).symm
                  have hP : va_P D clW (wF cy ad I (va_up S 13 (clN S sl a b t (i + 1)))) H := by rw [← e_25]; exact hP
                  have hD : va_D A (wF cy ad I (va_up S 13 (clN S sl a b t (i + 1)))) := hD.addr rfl
                  exact ih12 (i + 1) (by omega) (by omega) _ _ hP hD hS ls (lv_sub hl [0, 3, 2, 1, 4, 5, 6, 7, 8] rfl)
                · refine lv_iload hx hb dX0_clear_97 (lv_at hl 2 rfl) ?_
                  refine lv_goto (tgt := 104) hx hb dX0_clear_99 (by decide) ?_
                  refine lv_istore (lv' := [(7, .int (nI i)), (6, .int (bfN S sl a b i)), (5, .int ((cnN S sl a b i) + 1)), (8, .int (nI i)), (0, .ref (ad 7)), (1, .int sl), (2, .int a), (3, .int b), (4, .int t)]) hx hb dX0_clear_104 hl (by decide) rfl (fun ls hl => ?_)
                  refine lv_iinc (v := (nI (i + 1))) (lv' := [(8, .int (nI (i + 1))), (7, .int (nI i)), (6, .int (bfN S sl a b i)), (5, .int ((cnN S sl a b i) + 1)), (0, .ref (ad 7)), (1, .int sl), (2, .int a), (3, .int b), (4, .int t)]) hx hb dX0_clear_106 hl (k := 3) rfl (nI_1 i) (by decide) rfl (fun ls hl => ?_)
                  refine lv_goto (tgt := 12) hx hb dX0_clear_109 (by decide) ?_
                  have e_26 : ((cnN S sl a b i) + 1) = (cnN S sl a b (i + 1)) := (if_pos ⟨c29_5, c40_10, c51_15⟩).symm
                  have e_27 : (bfN S sl a b i) = (bfN S sl a b (i + 1)) := (if_neg (fun h => h.2 c74_20)).symm
                  have e_28 : (nI i) = (afN S sl a b (i + 1)) := (if_pos ⟨⟨c29_5, c40_10, c51_15⟩, c94_21⟩).symm
                  have hl : lv_has ls 9 [(8, .int (nI (i + 1))), (7, .int (afN S sl a b (i + 1))), (6, .int (bfN S sl a b (i + 1))), (5, .int (cnN S sl a b (i + 1))), (0, .ref (ad 7)), (1, .int sl), (2, .int a), (3, .int b), (4, .int t)] := by rw [← e_26, ← e_27, ← e_28]; exact hl
                  have e_29 : (upd (clN S sl a b t i) i t) = (clN S sl a b t (i + 1)) := (if_pos ⟨c29_5, c40_10, c51_15⟩).symm
                  have hP : va_P D clW (wF cy ad I (va_up S 13 (clN S sl a b t (i + 1)))) H := by rw [← e_29]; exact hP
                  have hD : va_D A (wF cy ad I (va_up S 13 (clN S sl a b t (i + 1)))) := hD.addr rfl
                  exact ih12 (i + 1) (by omega) (by omega) _ _ hP hD hS ls (lv_sub hl [0, 3, 2, 1, 4, 5, 6, 7, 8] rfl)
              · refine lv_iload hx hb dX0_clear_77 (lv_at hl 1 rfl) ?_
                refine lv_goto (tgt := 84) hx hb dX0_clear_79 (by decide) ?_
                refine lv_istore (lv' := [(6, .int (nI i)), (5, .int ((cnN S sl a b i) + 1)), (8, .int (nI i)), (7, .int (afN S sl a b i)), (0, .ref (ad 7)), (1, .int sl), (2, .int a), (3, .int b), (4, .int t)]) hx hb dX0_clear_84 hl (by decide) rfl (fun ls hl => ?_)
                refine lv_aload_n hx hb dX0_clear_86 rfl (lv_at hl 4 rfl) ?_
                refine gf_X0_21 hx hb hts hown hK hP 0 rfl (v := .ref (ad 11)) rfl dX0_clear_87 ?_
                refine lv_iload hx hb dX0_clear_90 (lv_at hl 2 rfl) ?_
                refine ald_I (f := (S 11)) hx hb hK hP 4 rfl (i := i) (by omega) (by decide) dX0_clear_92 ?_
                refine lv_iload_n hx hb dX0_clear_93 rfl (lv_at hl 7 rfl) ?_
                refine lv_icmp_le (tgt := 102) hx hb dX0_clear_94 (by decide) (fun c94_30 => ?_) (fun c94_30 => ?_)
                · refine lv_iload hx hb dX0_clear_102 (lv_at hl 3 rfl) ?_
                  refine lv_istore (lv' := [(7, .int (afN S sl a b i)), (6, .int (nI i)), (5, .int ((cnN S sl a b i) + 1)), (8, .int (nI i)), (0, .ref (ad 7)), (1, .int sl), (2, .int a), (3, .int b), (4, .int t)]) hx hb dX0_clear_104 hl (by decide) rfl (fun ls hl => ?_)
                  refine lv_iinc (v := (nI (i + 1))) (lv' := [(8, .int (nI (i + 1))), (7, .int (afN S sl a b i)), (6, .int (nI i)), (5, .int ((cnN S sl a b i) + 1)), (0, .ref (ad 7)), (1, .int sl), (2, .int a), (3, .int b), (4, .int t)]) hx hb dX0_clear_106 hl (k := 3) rfl (nI_1 i) (by decide) rfl (fun ls hl => ?_)
                  refine lv_goto (tgt := 12) hx hb dX0_clear_109 (by decide) ?_
                  have e_31 : ((cnN S sl a b i) + 1) = (cnN S sl a b (i + 1)) := (if_pos ⟨c29_5, c40_10, c51_15⟩).symm
                  have e_32 : (nI i) = (bfN S sl a b (i + 1)) := (if_pos ⟨⟨c29_5, c40_10, c51_15⟩, c74_20⟩).symm
                  have e_33 : (afN S sl a b i) = (afN S sl a b (i + 1)) := (if_neg (fun h => h.2 c94_30)).symm
                  have hl : lv_has ls 9 [(8, .int (nI (i + 1))), (7, .int (afN S sl a b (i + 1))), (6, .int (bfN S sl a b (i + 1))), (5, .int (cnN S sl a b (i + 1))), (0, .ref (ad 7)), (1, .int sl), (2, .int a), (3, .int b), (4, .int t)] := by rw [← e_31, ← e_32, ← e_33]; exact hl
                  have e_34 : (upd (clN S sl a b t i) i t) = (clN S sl a b t (i + 1)) := (if_pos ⟨c29_5, c40_10, c51_15⟩).symm
                  have hP : va_P D clW (wF cy ad I (va_up S 13 (clN S sl a b t (i + 1)))) H := by rw [← e_34]; exact hP
                  have hD : va_D A (wF cy ad I (va_up S 13 (clN S sl a b t (i + 1)))) := hD.addr rfl
                  exact ih12 (i + 1) (by omega) (by omega) _ _ hP hD hS ls (lv_sub hl [0, 3, 2, 1, 4, 5, 6, 7, 8] rfl)
                · refine lv_iload hx hb dX0_clear_97 (lv_at hl 2 rfl) ?_
                  refine lv_goto (tgt := 104) hx hb dX0_clear_99 (by decide) ?_
                  refine lv_istore (lv' := [(7, .int (nI i)), (6, .int (nI i)), (5, .int ((cnN S sl a b i) + 1)), (8, .int (nI i)), (0, .ref (ad 7)), (1, .int sl), (2, .int a), (3, .int b), (4, .int t)]) hx hb dX0_clear_104 hl (by decide) rfl (fun ls hl => ?_)
                  refine lv_iinc (v := (nI (i + 1))) (lv' := [(8, .int (nI (i + 1))), (7, .int (nI i)), (6, .int (nI i)), (5, .int ((cnN S sl a b i) + 1)), (0, .ref (ad 7)), (1, .int sl), (2, .int a), (3, .int b), (4, .int t)]) hx hb dX0_clear_106 hl (k := 3) rfl (nI_1 i) (by decide) rfl (fun ls hl => ?_)
                  refine lv_goto (tgt := 12) hx hb dX0_clear_109 (by decide) ?_
                  have e_35 : ((cnN S sl a b i) + 1) = (cnN S sl a b (i + 1)) := (if_pos ⟨c29_5, c40_10, c51_15⟩).symm
                  have e_36 : (nI i) = (bfN S sl a b (i + 1)) := (if_pos ⟨⟨c29_5, c40_10, c51_15⟩, c74_20⟩).symm
                  have e_37 : (nI i) = (afN S sl a b (i + 1)) := (if_pos ⟨⟨c29_5, c40_10, c51_15⟩, c94_30⟩).symm
                  have hl : lv_has ls 9 [(8, .int (nI (i + 1))), (7, .int (afN S sl a b (i + 1))), (6, .int (bfN S sl a b (i + 1))), (5, .int (cnN S sl a b (i + 1))), (0, .ref (ad 7)), (1, .int sl), (2, .int a), (3, .int b), (4, .int t)] := by rw [← e_35, ← e_36, ← e_37]; exact hl
                  have e_38 : (upd (clN S sl a b t i) i t) = (clN S sl a b t (i + 1)) := (if_pos ⟨c29_5, c40_10, c51_15⟩).symm
                  have hP : va_P D clW (wF cy ad I (va_up S 13 (clN S sl a b t (i + 1)))) H := by rw [← e_38]; exact hP
                  have hD : va_D A (wF cy ad I (va_up S 13 (clN S sl a b t (i + 1)))) := hD.addr rfl
                  exact ih12 (i + 1) (by omega) (by omega) _ _ hP hD hS ls (lv_sub hl [0, 3, 2, 1, 4, 5, 6, 7, 8] rfl)
  have e_39 : (S 13) = (clN S sl a b t 0) := rfl
  have hP : va_P D clW (wF cy ad I (va_up S 13 (clN S sl a b t 0))) H := by rw [← e_39]; exact hP
  have hD : va_D A (wF cy ad I (va_up S 13 (clN S sl a b t 0))) := hD.addr rfl
  exact L12 (k + 1) 0 (by omega) (by omega) _ _ hP hD hS ls (lv_sub hl [0, 3, 2, 1, 4, 5, 6, 7, 8] rfl)
