/-! agrees -/
set_option maxHeartbeats 4000000 in
set_option maxRecDepth 100000 in
theorem c_L_agrees (l : Launch) (hl0 : l.stackTraces = false) (D : va_G) (cy : Nat → ClassId) (ad bd : Nat → Nat) (n h sz : Nat) (hn : n ≤ 30) (hh : h ≤ n) : Met l yL_agrees (Cond.code yL_agrees cL_agrees 6 (some .boolean) :: wsL_law) ({ frames := 9, cells := 250, slots := 1500, locals := 160 }) (va_Pc [.ref (ad 0), .ref (bd 0)] (lgB D cy (wLF cy ad bd n h) sz)) (va_Qi (S := Unit) (fun r _ => r = 1) (fun _ t9 => va_P D clW (wLF cy ad bd n h) t9.heap ∧ sz + (h - 1) + 2 ≤ t9.heap.size) (va_A (wLF cy ad bd n h) sz)) 250 1500 (va_A (wLF cy ad bd n h) sz) := by
  refine enter (cc := cL_agrees) (by decide) (Nat.le_of_ble_eq_true rfl) ?_
  intro p e s m below meth c hx hb hr hml hown hts hlocks hin hv Q hQ ls hl
  obtain ⟨hN, hsz, hP, hK, hD0, hE, hZ⟩ := hv
  subst hsz
  have hD := hD0.self (sz := s.heap.size)
  generalize hAe : va_A (wLF cy ad bd n h) s.heap.size = A at hD hQ hZ ⊢
  have hA : ∀ q : Nat, s.heap.size ≤ q → A q := fun q h => by rw [← hAe]; exact Or.inr h
  have hS : va_S A s.heap s.heap [] := va_S.rf
  have hgr : s.heap.size + min 0 (h - 1) ≤ s.heap.size := by omega
  have hciv := fam_CIv (n := n) (h := h) (by omega) hh
  have hown : s.vm.findClass RL = some m.cls := hown
  have hl : lv_has ls 6 [(0, .ref (ad 0)), (1, .ref (bd 0))] := hl
  suffices K_ : ∀ (H : Heap) (locs : List Loc), va_P D clW (wLF cy ad bd n h) H → va_S A s.heap H locs → s.heap.size + min 0 (h - 1) ≤ H.size → W p l e ({ frames := 9, cells := 250, slots := 1500, locals := 160 }) s m ([.ref (ad 0), .ref (bd 0)] : List Value).toArray below meth c H locs 0 0 Q (F0 m 0 ls []) from K_ _ _ hP hS hgr
  clear hP hS hgr
  intro H locs hP hS hgr
  have L233 : ∀ (f i : Nat), i ≤ n → n + 1 ≤ i + f → ∀ (H : Heap) (locs : List Loc), va_P D clW (wLF cy ad bd n h) H → va_D A (wLF cy ad bd n h) → va_S A s.heap H locs → s.heap.size + (h - 1) + 2 ≤ H.size → ∀ (ls : Array Slot), lv_has ls 6 [(5, .int (nI (i + 1))), (4, .int 1), (0, .ref (ad 0)), (1, .ref (bd 0))] → W p l e ({ frames := 9, cells := 250, slots := 1500, locals := 160 }) s m ([.ref (ad 0), .ref (bd 0)] : List Value).toArray below meth c H locs (6 * n + 2 + 2 * i) (36 * n + 12 + 12 * i) Q (F0 m 233 ls []) := by
    clear hl hP hS hgr
    intro f
    induction f with
    | zero => intro i h1 h2; exact absurd h2 (by omega)
    | succ f ih =>
      intro i hin hf H locs hP hD hS hgr ls hl
      have hPc : va_P D clW ([] ++ ((wC cy ad (FI n h) (FS n)) ++ ((wM cy bd (GJ n h) (GT n h)) ++ []))) H := hP
      have hDc : va_D A ([] ++ ((wC cy ad (FI n h) (FS n)) ++ ((wM cy bd (GJ n h) (GT n h)) ++ []))) := hD
      refine lv_iload hx hb dL_agrees_233 (lv_at hl 0 rfl) ?_
      refine lv_aload_n hx hb dL_agrees_235 rfl (lv_at hl 3 rfl) ?_
      refine gN_84 hx hb hts hown hN hK hP 29 rfl (v := .int (nI n)) rfl dL_agrees_236 ?_
      refine lv_icmp_gt (tgt := 292) hx hb dL_agrees_239 (by decide) (fun c1 => ?_) (fun c1 => ?_)
      · refine lv_iload hx hb dL_agrees_292 (lv_at hl 1 rfl) ?_
        exact gZ_ret () hS (fun t ht => ⟨by rw [ht]; exact hP, by rw [ht]; exact hgr⟩) hx hb hr hlocks dL_agrees_294 narZ1 (by omega) (by omega) hQ rfl
      · have fi : i + 1 ≤ n := nt_nlt (a := n) (b := i + 1) (by omega) (by omega) c1
        have hop : opP (FI n h 1) (nI (i + 1)) := ⟨nd_nlt (a := i + 1) (b := 1) (by omega) (by omega) (by omega), nd_le (a := i + 1) (b := n) (by omega) (by omega) (by omega)⟩
        have e2 : FS n 2 (nI (i + 1)).toNatClampNeg = 116 := by rw [nI_clamp (by omega)]; exact if_pos ⟨by omega, fi⟩
        have e3 : FS n 3 (nI (i + 1)).toNatClampNeg / 3 = 0 := by rw [nI_clamp (by omega), show FS n 3 (i + 1) = 0 from rfl]; decide
        refine lv_iload hx hb dL_agrees_242 (lv_at hl 1 rfl) ?_
        refine lv_if_eq (tgt := 292) hx hb dL_agrees_244 (by decide) (fun c => absurd c (by decide)) (fun _ => ?_)
        refine lv_aload_n hx hb dL_agrees_247 rfl (lv_at hl 2 rfl) ?_
        refine lv_iload hx hb dL_agrees_248 (lv_at hl 0 rfl) ?_
        refine xrI_call (vx_runV (As := [.int (nI (i + 1))]) (rest := []) ⟨hx, hb, hml, hown, hts⟩ (c_X6_operationAt l hl0 D cy ad (FI n h) (FS n) (nI (i + 1)) n n h frZ (toN n) frZ (otN n) hciv) (cw_L_91 hts rfl rfl ⟨Nat.le_of_ble_eq_true rfl, Nat.le_of_ble_eq_true rfl⟩) (preVRX (ci := 6) (q0 := 0) hK hE (hZ.now hS).no (blkY hPc) rfl rfl) rfl rfl hl.1 rfl (lv_room (Nat.le_of_ble_eq_true rfl)) dL_agrees_250 ⟨(show 6 * n + 2 + 2 * i + 1 ≤ 250 by omega), (show 36 * n + 12 + 12 * i + 6 ≤ 1500 by omega)⟩) (fun E ce q9 H9 hpx hz9 hk9 hce hcv hcl => absurd hop hpx.2) (fun r hr_ => ?_)
        refine top_eq (y := 116) (hr_.2.trans e2) ?_
        refine lv_aload_n hx hb dL_agrees_253 rfl (lv_at hl 3 rfl) ?_
        refine gN_95 hx hb hts hown hN hK hP 29 rfl (v := .ref (bd 8)) rfl dL_agrees_254 ?_
        refine lv_iload hx hb dL_agrees_257 (lv_at hl 0 rfl) ?_
        refine ald_C (f := (GT n h 8)) hx hb hK hP 37 rfl (i := (i + 1)) (by omega) (by decide) dL_agrees_259 ?_
        refine top_eq (y := 116) (if_pos ⟨by omega, fi⟩) ?_
        refine lv_icmp_ne (tgt := 283) hx hb dL_agrees_260 (by decide) (fun c => absurd (by decide) c) (fun _ => ?_)
        refine lv_aload_n hx hb dL_agrees_263 rfl (lv_at hl 2 rfl) ?_
        refine lv_iload hx hb dL_agrees_264 (lv_at hl 0 rfl) ?_
        refine xrI_call (vx_runV (As := [.int (nI (i + 1))]) (rest := []) ⟨hx, hb, hml, hown, hts⟩ (c_X6_entityOf l hl0 D cy ad (FI n h) (FS n) (nI (i + 1)) n n h frZ (toN n) frZ (otN n) hciv) (cw_L_99 hts rfl rfl ⟨Nat.le_of_ble_eq_true rfl, Nat.le_of_ble_eq_true rfl⟩) (preVRX (ci := 6) (q0 := 0) hK hE (hZ.now hS).no (blkY hPc) rfl rfl) rfl rfl hl.1 rfl (lv_room (Nat.le_of_ble_eq_true rfl)) dL_agrees_266 ⟨(show 6 * n + 2 + 2 * i + 1 + 1 ≤ 250 by omega), (show 36 * n + 12 + 12 * i + 6 + 6 ≤ 1500 by omega)⟩) (fun E ce q9 H9 hpx hz9 hk9 hce hcv hcl => absurd hop hpx.2) (fun r hr_ => ?_)
        refine top_eq (y := 0) (hr_.2.trans e3) ?_
        refine lv_aload_n hx hb dL_agrees_269 rfl (lv_at hl 3 rfl) ?_
        refine gN_102 hx hb hts hown hN hK hP 29 rfl (v := .ref (bd 9)) rfl dL_agrees_270 ?_
        refine lv_iload hx hb dL_agrees_273 (lv_at hl 0 rfl) ?_
        refine ald_I (f := (GT n h 9)) hx hb hK hP 38 rfl (i := (i + 1)) (by omega) (by decide) dL_agrees_275 ?_
        refine top_eq (y := 0) rfl ?_
        refine lv_icmp_ne (tgt := 283) hx hb dL_agrees_276 (by decide) (fun c => absurd (by decide) c) (fun _ => ?_)
        refine lv_iconst (v := 1) hx hb dL_agrees_279 (by decide) ?_
        refine lv_goto (tgt := 284) hx hb dL_agrees_280 (by decide) ?_
        refine lv_istore (lv' := [(4, .int 1), (5, .int (nI (i + 1))), (0, .ref (ad 0)), (1, .ref (bd 0))]) hx hb dL_agrees_284 hl (by decide) rfl (fun ls hl => ?_)
        refine lv_iinc (v := (nI ((i + 1) + 1))) (lv' := [(5, .int (nI ((i + 1) + 1))), (4, .int 1), (0, .ref (ad 0)), (1, .ref (bd 0))]) hx hb dL_agrees_286 hl (k := 1) rfl (nI_1 (i + 1)) (by decide) rfl (fun ls hl => ?_)
        refine lv_goto (tgt := 233) hx hb dL_agrees_289 (by decide) ?_
        refine W_wid (k := 6 * n + 2 + 2 * (i + 1)) (n := 36 * n + 12 + 12 * (i + 1)) (by omega) (by omega) ?_
        exact ih (i + 1) (by omega) (by omega) H locs hP hD hS hgr ls (lv_sub hl [0, 1, 2, 3] rfl)
  have L7 : ∀ (f i : Nat), i ≤ n → n + 1 ≤ i + f → ∀ (H : Heap) (locs : List Loc), va_P D clW (wLF cy ad bd n h) H → va_D A (wLF cy ad bd n h) → va_S A s.heap H locs → s.heap.size + min i (h - 1) ≤ H.size → ∀ (ls : Array Slot), lv_has ls 6 [(4, .int (nI i)), (3, .int (opN n i)), (2, .int (nI (i - (h - 1)))), (0, .ref (ad 0)), (1, .ref (bd 0))] → W p l e ({ frames := 9, cells := 250, slots := 1500, locals := 160 }) s m ([.ref (ad 0), .ref (bd 0)] : List Value).toArray below meth c H locs (6 * i) (36 * i) Q (F0 m 7 ls []) := by
    clear hl hP hS hgr
    intro f
    induction f with
    | zero => intro i h1 h2; exact absurd h2 (by omega)
    | succ f ih =>
      intro i hin hf H locs hP hD hS hgr ls hl
      have hPc : va_P D clW ([] ++ ((wC cy ad (FI n h) (FS n)) ++ ((wM cy bd (GJ n h) (GT n h)) ++ []))) H := hP
      have hDc : va_D A ([] ++ ((wC cy ad (FI n h) (FS n)) ++ ((wM cy bd (GJ n h) (GT n h)) ++ []))) := hD
      refine lv_iload hx hb dL_agrees_7 (lv_at hl 0 rfl) ?_
      refine lv_aload_n hx hb dL_agrees_9 rfl (lv_at hl 4 rfl) ?_
      refine gN_30 hx hb hts hown hN hK hP 29 rfl (v := .int (nI n)) rfl dL_agrees_10 ?_
      refine lv_icmp_ge (tgt := 166) hx hb dL_agrees_13 (by decide) (fun c1 => ?_) (fun c1 => ?_)
      · have fi : n ≤ i := nt_le (a := n) (b := i) (by omega) (by omega) c1
        obtain rfl : i = n := by omega
        refine lv_aload_n hx hb dL_agrees_166 rfl (lv_at hl 3 rfl) ?_
        refine rI_call (va_runV (As := []) (rest := []) ⟨hx, hb, hml, hown, hts⟩ (c_X6_factCount l D cy ad (FI i h) (FS i) i i h frZ (toN i) frZ (otN i) hciv) (cw_L_74 hts rfl rfl ⟨Nat.le_of_ble_eq_true rfl, Nat.le_of_ble_eq_true rfl⟩) (preVR (ci := 6) (q0 := 0) hK (blkY hPc) rfl rfl) rfl rfl hl.1 rfl (lv_room (Nat.le_of_ble_eq_true rfl)) dL_agrees_167 ⟨(show 6 * i + 0 ≤ 250 by omega), (show 36 * i + 0 ≤ 1500 by omega)⟩) (fun r hr_ => ?_)
        refine top_eq (y := nI (i - (h - 1))) (hr_.trans (ck_f (by omega) hh (Nat.le_refl i))) ?_
        refine lv_iload_n hx hb dL_agrees_170 rfl (lv_at hl 2 rfl) ?_
        refine lv_icmp_ne (tgt := 227) hx hb dL_agrees_171 (by decide) (fun c => absurd rfl c) (fun _ => ?_)
        refine lv_aload_n hx hb dL_agrees_174 rfl (lv_at hl 3 rfl) ?_
        refine rI_call (va_runV (As := []) (rest := []) ⟨hx, hb, hml, hown, hts⟩ (c_X6_openCount l D cy ad (FI i h) (FS i) i i h frZ (toN i) frZ (otN i) hciv) (cw_L_78 hts rfl rfl ⟨Nat.le_of_ble_eq_true rfl, Nat.le_of_ble_eq_true rfl⟩) (preVR (ci := 6) (q0 := 0) hK (blkY hPc) rfl rfl) rfl rfl hl.1 rfl (lv_room (Nat.le_of_ble_eq_true rfl)) dL_agrees_175 ⟨(show 6 * i + 0 ≤ 250 by omega), (show 36 * i + 0 ≤ 1500 by omega)⟩) (fun r hr_ => ?_)
        refine top_eq (y := opN i i) (hr_.trans (co_f (by omega) (Nat.le_refl i))) ?_
        refine lv_iload_n hx hb dL_agrees_178 rfl (lv_at hl 1 rfl) ?_
        refine lv_icmp_ne (tgt := 227) hx hb dL_agrees_179 (by decide) (fun c => absurd rfl c) (fun _ => ?_)
        refine lv_aload_n hx hb dL_agrees_182 rfl (lv_at hl 3 rfl) ?_
        refine rI_call (va_runV (As := []) (rest := []) ⟨hx, hb, hml, hown, hts⟩ (c_X6_clock l D cy ad (FI i h) (FS i)) (cw_L_81 hts rfl rfl ⟨Nat.le_of_ble_eq_true rfl, Nat.le_of_ble_eq_true rfl⟩) (preVR (ci := 6) (q0 := 0) hK (blkY hPc) rfl rfl) rfl rfl hl.1 rfl (lv_room (Nat.le_of_ble_eq_true rfl)) dL_agrees_183 ⟨(show 6 * i + 0 ≤ 250 by omega), (show 36 * i + 0 ≤ 1500 by omega)⟩) (fun r hr_ => ?_)
        refine top_eq (y := nI i) (hr_.trans rfl) ?_
        refine lv_aload_n hx hb dL_agrees_186 rfl (lv_at hl 4 rfl) ?_
        refine gN_84 hx hb hts hown hN hK hP 29 rfl (v := .int (nI i)) rfl dL_agrees_187 ?_
        refine lv_icmp_ne (tgt := 227) hx hb dL_agrees_190 (by decide) (fun c => absurd rfl c) (fun _ => ?_)
        refine lv_aload_n hx hb dL_agrees_193 rfl (lv_at hl 3 rfl) ?_
        refine rI_call (va_runV (As := []) (rest := []) ⟨hx, hb, hml, hown, hts⟩ (c_X6_horizon l D cy ad (FI i h) (FS i)) (cw_L_86 hts rfl rfl ⟨Nat.le_of_ble_eq_true rfl, Nat.le_of_ble_eq_true rfl⟩) (preVR (ci := 6) (q0 := 0) hK (blkY hPc) rfl rfl) rfl rfl hl.1 rfl (lv_room (Nat.le_of_ble_eq_true rfl)) dL_agrees_194 ⟨(show 6 * i + 0 ≤ 250 by omega), (show 36 * i + 0 ≤ 1500 by omega)⟩) (fun r hr_ => ?_)
        refine top_eq (y := nI h) (hr_.trans rfl) ?_
        refine lv_aload_n hx hb dL_agrees_197 rfl (lv_at hl 4 rfl) ?_
        refine gN_89 hx hb hts hown hN hK hP 29 rfl (v := .int (nI h)) rfl dL_agrees_198 ?_
        refine lv_icmp_ne (tgt := 227) hx hb dL_agrees_201 (by decide) (fun c => absurd rfl c) (fun _ => ?_)
        refine lv_aload_n hx hb dL_agrees_204 rfl (lv_at hl 3 rfl) ?_
        refine lv_aload_n hx hb dL_agrees_205 rfl (lv_at hl 4 rfl) ?_
        refine gN_30 hx hb hts hown hN hK hP 29 rfl (v := .int (nI i)) rfl dL_agrees_206 ?_
        refine bgI_call (S := Unit) (Wn := fun _ => (wC cy ad (FI i h) (FS i))) (G := fun z9 => ¬ keptP (FS i) i (nI h) (nI i) → H.size < z9) (vx_runSW (As := [.ref (ad 0), .int (nI i)]) (rest := []) ⟨hx, hb, hml, hown, hts⟩ (c_L_isGone l hl0 D cy ad (FI i h) (FS i) H.size (nI i) i i h frZ (toN i) frZ (otN i) hciv) (cws_L_44 hts rfl rfl ⟨Nat.le_of_ble_eq_true rfl, Nat.le_of_ble_eq_true rfl⟩) (preSX hK hE (hZ.now hS) (blkF hDc hS hA) (blkY hPc) (blkYD hDc)) rfl rfl hl.1 rfl (lv_room (Nat.le_of_ble_eq_true rfl)) dL_agrees_209 ⟨(show 6 * i + 1 ≤ 250 by omega), (show 36 * i + 6 ≤ 1500 by omega)⟩) hPc hDc hS hA (fun _ => rfl) (fun r u H1 locs1 hr_ hG1 hz1 hP hD hS => ?_)
        have hP : va_P D clW (wLF cy ad bd i h) H1 := hP
        have hD : va_D A (wLF cy ad bd i h) := hD
        have hPc : va_P D clW ([] ++ ((wC cy ad (FI i h) (FS i)) ++ ((wM cy bd (GJ i h) (GT i h)) ++ []))) H1 := hP
        have hDc : va_D A ([] ++ ((wC cy ad (FI i h) (FS i)) ++ ((wM cy bd (GJ i h) (GT i h)) ++ []))) := hD
        refine top_eq (y := 1) (hr_.trans (if_neg kept_n)) ?_
        refine lv_if_eq (tgt := 227) hx hb dL_agrees_212 (by decide) (fun c => absurd c (by decide)) (fun _ => ?_)
        refine lv_aload_n hx hb dL_agrees_215 rfl (lv_at hl 3 rfl) ?_
        refine lv_iconst (v := (-1)) hx hb dL_agrees_216 (by decide) ?_
        refine bgI_call (S := Unit) (Wn := fun _ => (wC cy ad (FI i h) (FS i))) (G := fun z9 => ¬ keptP (FS i) i (nI h) (-1) → H1.size < z9) (vx_runSW (As := [.ref (ad 0), .int (-1)]) (rest := []) ⟨hx, hb, hml, hown, hts⟩ (c_L_isGone l hl0 D cy ad (FI i h) (FS i) H1.size (-1) i i h frZ (toN i) frZ (otN i) hciv) (cws_L_44 hts rfl rfl ⟨Nat.le_of_ble_eq_true rfl, Nat.le_of_ble_eq_true rfl⟩) (preSX hK hE (hZ.now hS) (blkF hDc hS hA) (blkY hPc) (blkYD hDc)) rfl rfl hl.1 rfl (lv_room (Nat.le_of_ble_eq_true rfl)) dL_agrees_217 ⟨(show 6 * i + 1 + 1 ≤ 250 by omega), (show 36 * i + 6 + 6 ≤ 1500 by omega)⟩) hPc hDc hS hA (fun _ => rfl) (fun r u H2 locs2 hr_ hG2 hz2 hP hD hS => ?_)
        have hP : va_P D clW (wLF cy ad bd i h) H2 := hP
        have hD : va_D A (wLF cy ad bd i h) := hD
        have hPc : va_P D clW ([] ++ ((wC cy ad (FI i h) (FS i)) ++ ((wM cy bd (GJ i h) (GT i h)) ++ []))) H2 := hP
        have hDc : va_D A ([] ++ ((wC cy ad (FI i h) (FS i)) ++ ((wM cy bd (GJ i h) (GT i h)) ++ []))) := hD
        refine top_eq (y := 1) (hr_.trans (if_neg kept_m)) ?_
        refine lv_if_eq (tgt := 227) hx hb dL_agrees_220 (by decide) (fun c => absurd c (by decide)) (fun _ => ?_)
        refine lv_iconst (v := 1) hx hb dL_agrees_223 (by decide) ?_
        refine lv_goto (tgt := 228) hx hb dL_agrees_224 (by decide) ?_
        refine lv_istore (lv' := [(4, .int 1), (3, .int (opN i i)), (2, .int (nI (i - (h - 1)))), (0, .ref (ad 0)), (1, .ref (bd 0))]) hx hb dL_agrees_228 hl (by decide) rfl (fun ls hl => ?_)
        refine lv_iconst (v := 1) hx hb dL_agrees_230 (by decide) ?_
        refine lv_istore (lv' := [(5, .int 1), (4, .int 1), (3, .int (opN i i)), (2, .int (nI (i - (h - 1)))), (0, .ref (ad 0)), (1, .ref (bd 0))]) hx hb dL_agrees_231 hl (by decide) rfl (fun ls hl => ?_)
        have hgr2 : s.heap.size + (h - 1) + 2 ≤ H2.size := by have g1 := hG1 kept_n; have g2 := hG2 kept_m; omega
        refine W_wid (k := 6 * i + 2 + 2 * 0) (n := 36 * i + 12 + 12 * 0) (by omega) (by omega) ?_
        exact L233 (i + 1) 0 (by omega) (by omega) H2 locs2 hP hD hS hgr2 ls (lv_sub hl [0, 1, 4, 5] rfl)
      · have fi : i < n := nt_nle (a := n) (b := i) (by omega) (by omega) c1
        by_cases hg : i + 1 < h
        · refine lv_iload_n hx hb dL_agrees_16 rfl (lv_at hl 2 rfl) ?_
          refine lv_aload_n hx hb dL_agrees_17 rfl (lv_at hl 4 rfl) ?_
          refine gN_36 hx hb hts hown hN hK hP 29 rfl (v := .ref (bd 7)) rfl dL_agrees_18 ?_
          refine lv_iload hx hb dL_agrees_21 (lv_at hl 0 rfl) ?_
          refine ald_Z (f := (GT n h 7)) hx hb hK hP 36 rfl (i := i) (by omega) (by decide) dL_agrees_23 ?_
          refine top_eq (y := 1) (if_pos hg) ?_
          refine lv_if_eq (tgt := 31) hx hb dL_agrees_24 (by decide) (fun c => absurd c (by decide)) (fun _ => ?_)
          refine lv_iconst (v := 0) hx hb dL_agrees_27 (by decide) ?_
          refine lv_goto (tgt := 32) hx hb dL_agrees_28 (by decide) ?_
          refine lv_iadd hx hb dL_agrees_32 ?_
          refine top_eq (y := nI (i + 1 - (h - 1))) (th_gone hg) ?_
          refine lv_istore_n (lv' := [(2, .int (nI (i + 1 - (h - 1)))), (4, .int (nI i)), (3, .int (opN n i)), (0, .ref (ad 0)), (1, .ref (bd 0))]) hx hb dL_agrees_33 rfl hl (by decide) rfl (fun ls hl => ?_)
          refine lv_iload_n hx hb dL_agrees_34 rfl (lv_at hl 2 rfl) ?_
          refine lv_aload_n hx hb dL_agrees_35 rfl (lv_at hl 4 rfl) ?_
          refine gN_40 hx hb hts hown hN hK hP 29 rfl (v := .ref (bd 6)) rfl dL_agrees_36 ?_
          refine lv_iload hx hb dL_agrees_39 (lv_at hl 1 rfl) ?_
          refine ald_I (f := (GT n h 6)) hx hb hK hP 35 rfl (i := i) (by omega) (by decide) dL_agrees_41 ?_
          refine top_eq (y := nI (i + 2)) (fCl_lt (by omega)) ?_
          refine lv_if_ge (tgt := 49) hx hb dL_agrees_42 (by decide) (fun _ => ?_) (fun c => absurd (nd_le (a := 0) (b := (i + 2)) (by omega) (by omega) (by omega)) c)
          refine lv_iconst (v := 0) hx hb dL_agrees_49 (by decide) ?_
          refine lv_iadd hx hb dL_agrees_50 ?_
          refine top_eq (y := opN n (i + 1)) (opN_lt (by omega)) ?_
          refine lv_istore_n (lv' := [(3, .int (opN n (i + 1))), (2, .int (nI (i + 1 - (h - 1)))), (4, .int (nI i)), (0, .ref (ad 0)), (1, .ref (bd 0))]) hx hb dL_agrees_51 rfl hl (by decide) rfl (fun ls hl => ?_)
          refine lv_aload_n hx hb dL_agrees_52 rfl (lv_at hl 4 rfl) ?_
          refine gN_36 hx hb hts hown hN hK hP 29 rfl (v := .ref (bd 7)) rfl dL_agrees_53 ?_
          refine lv_iload hx hb dL_agrees_56 (lv_at hl 2 rfl) ?_
          refine ald_Z (f := (GT n h 7)) hx hb hK hP 36 rfl (i := i) (by omega) (by decide) dL_agrees_58 ?_
          refine top_eq (y := 1) (if_pos hg) ?_
          refine lv_aload_n hx hb dL_agrees_59 rfl (lv_at hl 3 rfl) ?_
          refine lv_iload hx hb dL_agrees_60 (lv_at hl 2 rfl) ?_
          have hnk : ¬ keptP (FS n) n (nI h) (nI i) := fun q => (kept_f (by omega) hh fi).mp q hg
          refine bgI_call (S := Unit) (Wn := fun _ => (wC cy ad (FI n h) (FS n))) (G := fun z9 => ¬ keptP (FS n) n (nI h) (nI i) → H.size < z9) (vx_runSW (As := [.ref (ad 0), .int (nI i)]) (rest := [.int 1]) ⟨hx, hb, hml, hown, hts⟩ (c_L_isGone l hl0 D cy ad (FI n h) (FS n) H.size (nI i) n n h frZ (toN n) frZ (otN n) hciv) (cws_L_44 hts rfl rfl ⟨Nat.le_of_ble_eq_true rfl, Nat.le_of_ble_eq_true rfl⟩) (preSX hK hE (hZ.now hS) (blkF hDc hS hA) (blkY hPc) (blkYD hDc)) rfl rfl hl.1 rfl (lv_room (Nat.le_of_ble_eq_true rfl)) dL_agrees_62 ⟨(show 6 * i + 1 ≤ 250 by omega), (show 36 * i + 6 ≤ 1500 by omega)⟩) hPc hDc hS hA (fun _ => rfl) (fun r u H1 locs1 hr_ hG1 hz1 hP hD hS => ?_)
          have hP : va_P D clW (wLF cy ad bd n h) H1 := hP
          have hD : va_D A (wLF cy ad bd n h) := hD
          have hPc : va_P D clW ([] ++ ((wC cy ad (FI n h) (FS n)) ++ ((wM cy bd (GJ n h) (GT n h)) ++ []))) H1 := hP
          have hDc : va_D A ([] ++ ((wC cy ad (FI n h) (FS n)) ++ ((wM cy bd (GJ n h) (GT n h)) ++ []))) := hD
          refine top_eq (y := 1) (hr_.trans (if_neg hnk)) ?_
          refine lv_icmp_ne (tgt := 158) hx hb dL_agrees_65 (by decide) (fun c => absurd (by decide) c) (fun _ => ?_)
          refine lv_aload_n hx hb dL_agrees_68 rfl (lv_at hl 4 rfl) ?_
          refine gN_36 hx hb hts hown hN hK hP 29 rfl (v := .ref (bd 7)) rfl dL_agrees_69 ?_
          refine lv_iload hx hb dL_agrees_72 (lv_at hl 2 rfl) ?_
          refine ald_Z (f := (GT n h 7)) hx hb hK hP 36 rfl (i := i) (by omega) (by decide) dL_agrees_74 ?_
          refine top_eq (y := 1) (if_pos hg) ?_
          refine lv_if_ne (tgt := 160) hx hb dL_agrees_75 (by decide) (fun _ => ?_) (fun c => absurd c (by decide))
          refine lv_iinc (v := (nI (i + 1))) (lv' := [(4, .int (nI (i + 1))), (3, .int (opN n (i + 1))), (2, .int (nI (i + 1 - (h - 1)))), (0, .ref (ad 0)), (1, .ref (bd 0))]) hx hb dL_agrees_160 hl (k := 2) rfl (nI_1 i) (by decide) rfl (fun ls hl => ?_)
          refine lv_goto (tgt := 7) hx hb dL_agrees_163 (by decide) ?_
          refine W_wid (k := 6 * (i + 1)) (n := 36 * (i + 1)) (by omega) (by omega) ?_
          exact ih (i + 1) (by omega) (by omega) H1 locs1 hP hD hS (by have g1 := hG1 hnk; omega) ls (lv_sub hl [0, 1, 2, 3, 4] rfl)
        · have hkp : keptP (FS n) n (nI h) (nI i) := (kept_f (by omega) hh fi).mpr hg
          have e9 : FS n 9 (nI i).toNatClampNeg = 0 := by rw [nI_clamp (by omega)]; exact rfl
          have e10 : FS n 10 (nI i).toNatClampNeg = 0 := by rw [nI_clamp (by omega)]; exact rfl
          have e11 : FS n 11 (nI i).toNatClampNeg = 1 := by rw [nI_clamp (by omega)]; exact fTo_lt fi
          have e12 : FS n 12 (nI i).toNatClampNeg = nI (i + 1) := by rw [nI_clamp (by omega)]; exact if_pos fi
          have e13 : FS n 13 (nI i).toNatClampNeg = fCl n i := by rw [nI_clamp (by omega)]; exact rfl
          refine lv_iload_n hx hb dL_agrees_16 rfl (lv_at hl 2 rfl) ?_
          refine lv_aload_n hx hb dL_agrees_17 rfl (lv_at hl 4 rfl) ?_
          refine gN_36 hx hb hts hown hN hK hP 29 rfl (v := .ref (bd 7)) rfl dL_agrees_18 ?_
          refine lv_iload hx hb dL_agrees_21 (lv_at hl 0 rfl) ?_
          refine ald_Z (f := (GT n h 7)) hx hb hK hP 36 rfl (i := i) (by omega) (by decide) dL_agrees_23 ?_
          refine top_eq (y := 0) (if_neg hg) ?_
          refine lv_if_eq (tgt := 31) hx hb dL_agrees_24 (by decide) (fun _ => ?_) (fun c => absurd (by decide) c)
          refine lv_iconst (v := 1) hx hb dL_agrees_31 (by decide) ?_
          refine lv_iadd hx hb dL_agrees_32 ?_
          refine top_eq (y := nI (i + 1 - (h - 1))) (th_kept hg) ?_
          refine lv_istore_n (lv' := [(2, .int (nI (i + 1 - (h - 1)))), (4, .int (nI i)), (3, .int (opN n i)), (0, .ref (ad 0)), (1, .ref (bd 0))]) hx hb dL_agrees_33 rfl hl (by decide) rfl (fun ls hl => ?_)
          have K51 : ∀ (ls : Array Slot), lv_has ls 6 [(4, .int (nI i)), (3, .int (opN n i)), (2, .int (nI (i + 1 - (h - 1)))), (0, .ref (ad 0)), (1, .ref (bd 0))] → W p l e ({ frames := 9, cells := 250, slots := 1500, locals := 160 }) s m ([.ref (ad 0), .ref (bd 0)] : List Value).toArray below meth c H locs (6 * i) (36 * i) Q (F0 m 51 ls [.int (opN n (i + 1))]) := by
            clear hl
            intro ls hl
            refine lv_istore_n (lv' := [(3, .int (opN n (i + 1))), (4, .int (nI i)), (2, .int (nI (i + 1 - (h - 1)))), (0, .ref (ad 0)), (1, .ref (bd 0))]) hx hb dL_agrees_51 rfl hl (by decide) rfl (fun ls hl => ?_)
            refine lv_aload_n hx hb dL_agrees_52 rfl (lv_at hl 4 rfl) ?_
            refine gN_36 hx hb hts hown hN hK hP 29 rfl (v := .ref (bd 7)) rfl dL_agrees_53 ?_
            refine lv_iload hx hb dL_agrees_56 (lv_at hl 1 rfl) ?_
            refine ald_Z (f := (GT n h 7)) hx hb hK hP 36 rfl (i := i) (by omega) (by decide) dL_agrees_58 ?_
            refine top_eq (y := 0) (if_neg hg) ?_
            refine lv_aload_n hx hb dL_agrees_59 rfl (lv_at hl 3 rfl) ?_
            refine lv_iload hx hb dL_agrees_60 (lv_at hl 1 rfl) ?_
            refine bgI_call (S := Unit) (Wn := fun _ => (wC cy ad (FI n h) (FS n))) (G := fun z9 => ¬ keptP (FS n) n (nI h) (nI i) → H.size < z9) (vx_runSW (As := [.ref (ad 0), .int (nI i)]) (rest := [.int 0]) ⟨hx, hb, hml, hown, hts⟩ (c_L_isGone l hl0 D cy ad (FI n h) (FS n) H.size (nI i) n n h frZ (toN n) frZ (otN n) hciv) (cws_L_44 hts rfl rfl ⟨Nat.le_of_ble_eq_true rfl, Nat.le_of_ble_eq_true rfl⟩) (preSX hK hE (hZ.now hS) (blkF hDc hS hA) (blkY hPc) (blkYD hDc)) rfl rfl hl.1 rfl (lv_room (Nat.le_of_ble_eq_true rfl)) dL_agrees_62 ⟨(show 6 * i + 1 ≤ 250 by omega), (show 36 * i + 6 ≤ 1500 by omega)⟩) hPc hDc hS hA (fun _ => rfl) (fun r u H1 locs1 hr_ hG1 hz1 hP hD hS => ?_)
            have hP : va_P D clW (wLF cy ad bd n h) H1 := hP
            have hD : va_D A (wLF cy ad bd n h) := hD
            have hPc : va_P D clW ([] ++ ((wC cy ad (FI n h) (FS n)) ++ ((wM cy bd (GJ n h) (GT n h)) ++ []))) H1 := hP
            have hDc : va_D A ([] ++ ((wC cy ad (FI n h) (FS n)) ++ ((wM cy bd (GJ n h) (GT n h)) ++ []))) := hD
            refine top_eq (y := 0) (hr_.trans (if_pos hkp)) ?_
            refine lv_icmp_ne (tgt := 158) hx hb dL_agrees_65 (by decide) (fun c => absurd (by decide) c) (fun _ => ?_)
            refine lv_aload_n hx hb dL_agrees_68 rfl (lv_at hl 4 rfl) ?_
            refine gN_36 hx hb hts hown hN hK hP 29 rfl (v := .ref (bd 7)) rfl dL_agrees_69 ?_
            refine lv_iload hx hb dL_agrees_72 (lv_at hl 1 rfl) ?_
            refine ald_Z (f := (GT n h 7)) hx hb hK hP 36 rfl (i := i) (by omega) (by decide) dL_agrees_74 ?_
            refine top_eq (y := 0) (if_neg hg) ?_
            refine lv_if_ne (tgt := 160) hx hb dL_agrees_75 (by decide) (fun c => absurd (by decide) c) (fun _ => ?_)
            refine lv_aload_n hx hb dL_agrees_78 rfl (lv_at hl 3 rfl) ?_
            refine lv_iload hx hb dL_agrees_79 (lv_at hl 1 rfl) ?_
            refine xrI_call (vx_runV (As := [.int (nI i)]) (rest := []) ⟨hx, hb, hml, hown, hts⟩ (c_X6_factValue l hl0 D cy ad (FI n h) (FS n) (nI i) n n h frZ (toN n) frZ (otN n) hciv) (cw_L_50 hts rfl rfl ⟨Nat.le_of_ble_eq_true rfl, Nat.le_of_ble_eq_true rfl⟩) (preVRX (ci := 6) (q0 := 0) hK hE (hZ.now hS).no (blkY hPc) rfl rfl) rfl rfl hl.1 rfl (lv_room (Nat.le_of_ble_eq_true rfl)) dL_agrees_81 ⟨(show 6 * i + 1 + 1 ≤ 250 by omega), (show 36 * i + 6 + 6 ≤ 1500 by omega)⟩) (fun E ce q9 H9 hpx hz9 hk9 hce hcv hcl => absurd hkp hpx.2) (fun r hr_ => ?_)
            refine top_eq (y := 0) (hr_.2.trans e9) ?_
            refine lv_aload_n hx hb dL_agrees_84 rfl (lv_at hl 4 rfl) ?_
            refine gN_53 hx hb hts hown hN hK hP 29 rfl (v := .ref (bd 2)) rfl dL_agrees_85 ?_
            refine lv_iload hx hb dL_agrees_88 (lv_at hl 1 rfl) ?_
            refine ald_I (f := (GT n h 2)) hx hb hK hP 31 rfl (i := i) (by omega) (by decide) dL_agrees_90 ?_
            refine top_eq (y := 0) rfl ?_
            refine lv_icmp_ne (tgt := 158) hx hb dL_agrees_91 (by decide) (fun c => absurd (by decide) c) (fun _ => ?_)
            refine lv_aload_n hx hb dL_agrees_94 rfl (lv_at hl 3 rfl) ?_
            refine lv_iload hx hb dL_agrees_95 (lv_at hl 1 rfl) ?_
            refine xrI_call (vx_runV (As := [.int (nI i)]) (rest := []) ⟨hx, hb, hml, hown, hts⟩ (c_X6_factFrom l hl0 D cy ad (FI n h) (FS n) (nI i) n n h frZ (toN n) frZ (otN n) hciv) (cw_L_56 hts rfl rfl ⟨Nat.le_of_ble_eq_true rfl, Nat.le_of_ble_eq_true rfl⟩) (preVRX (ci := 6) (q0 := 0) hK hE (hZ.now hS).no (blkY hPc) rfl rfl) rfl rfl hl.1 rfl (lv_room (Nat.le_of_ble_eq_true rfl)) dL_agrees_97 ⟨(show 6 * i + 1 + 1 + 1 ≤ 250 by omega), (show 36 * i + 6 + 6 + 6 ≤ 1500 by omega)⟩) (fun E ce q9 H9 hpx hz9 hk9 hce hcv hcl => absurd hkp hpx.2) (fun r hr_ => ?_)
            refine top_eq (y := 0) (hr_.2.trans e10) ?_
            refine lv_aload_n hx hb dL_agrees_100 rfl (lv_at hl 4 rfl) ?_
            refine gN_59 hx hb hts hown hN hK hP 29 rfl (v := .ref (bd 3)) rfl dL_agrees_101 ?_
            refine lv_iload hx hb dL_agrees_104 (lv_at hl 1 rfl) ?_
            refine ald_I (f := (GT n h 3)) hx hb hK hP 32 rfl (i := i) (by omega) (by decide) dL_agrees_106 ?_
            refine top_eq (y := 0) rfl ?_
            refine lv_icmp_ne (tgt := 158) hx hb dL_agrees_107 (by decide) (fun c => absurd (by decide) c) (fun _ => ?_)
            refine lv_aload_n hx hb dL_agrees_110 rfl (lv_at hl 3 rfl) ?_
            refine lv_iload hx hb dL_agrees_111 (lv_at hl 1 rfl) ?_
            refine xrI_call (vx_runV (As := [.int (nI i)]) (rest := []) ⟨hx, hb, hml, hown, hts⟩ (c_X6_factTo l hl0 D cy ad (FI n h) (FS n) (nI i) n n h frZ (toN n) frZ (otN n) hciv) (cw_L_26 hts rfl rfl ⟨Nat.le_of_ble_eq_true rfl, Nat.le_of_ble_eq_true rfl⟩) (preVRX (ci := 6) (q0 := 0) hK hE (hZ.now hS).no (blkY hPc) rfl rfl) rfl rfl hl.1 rfl (lv_room (Nat.le_of_ble_eq_true rfl)) dL_agrees_113 ⟨(show 6 * i + 1 + 1 + 1 + 1 ≤ 250 by omega), (show 36 * i + 6 + 6 + 6 + 6 ≤ 1500 by omega)⟩) (fun E ce q9 H9 hpx hz9 hk9 hce hcv hcl => absurd hkp hpx.2) (fun r hr_ => ?_)
            refine top_eq (y := 1) (hr_.2.trans e11) ?_
            refine lv_aload_n hx hb dL_agrees_116 rfl (lv_at hl 4 rfl) ?_
            refine gN_62 hx hb hts hown hN hK hP 29 rfl (v := .ref (bd 4)) rfl dL_agrees_117 ?_
            refine lv_iload hx hb dL_agrees_120 (lv_at hl 1 rfl) ?_
            refine ald_I (f := (GT n h 4)) hx hb hK hP 33 rfl (i := i) (by omega) (by decide) dL_agrees_122 ?_
            refine top_eq (y := 1) (fTo_lt fi) ?_
            refine lv_icmp_ne (tgt := 158) hx hb dL_agrees_123 (by decide) (fun c => absurd (by decide) c) (fun _ => ?_)
            refine lv_aload_n hx hb dL_agrees_126 rfl (lv_at hl 3 rfl) ?_
            refine lv_iload hx hb dL_agrees_127 (lv_at hl 1 rfl) ?_
            refine xrI_call (vx_runV (As := [.int (nI i)]) (rest := []) ⟨hx, hb, hml, hown, hts⟩ (c_X6_openedAt l hl0 D cy ad (FI n h) (FS n) (nI i) n n h frZ (toN n) frZ (otN n) hciv) (cw_L_65 hts rfl rfl ⟨Nat.le_of_ble_eq_true rfl, Nat.le_of_ble_eq_true rfl⟩) (preVRX (ci := 6) (q0 := 0) hK hE (hZ.now hS).no (blkY hPc) rfl rfl) rfl rfl hl.1 rfl (lv_room (Nat.le_of_ble_eq_true rfl)) dL_agrees_129 ⟨(show 6 * i + 1 + 1 + 1 + 1 + 1 ≤ 250 by omega), (show 36 * i + 6 + 6 + 6 + 6 + 6 ≤ 1500 by omega)⟩) (fun E ce q9 H9 hpx hz9 hk9 hce hcv hcl => absurd hkp hpx.2) (fun r hr_ => ?_)
            refine top_eq (y := nI (i + 1)) (hr_.2.trans e12) ?_
            refine lv_aload_n hx hb dL_agrees_132 rfl (lv_at hl 4 rfl) ?_
            refine gN_68 hx hb hts hown hN hK hP 29 rfl (v := .ref (bd 5)) rfl dL_agrees_133 ?_
            refine lv_iload hx hb dL_agrees_136 (lv_at hl 1 rfl) ?_
            refine ald_I (f := (GT n h 5)) hx hb hK hP 34 rfl (i := i) (by omega) (by decide) dL_agrees_138 ?_
            refine top_eq (y := nI (i + 1)) (if_pos fi) ?_
            refine lv_icmp_ne (tgt := 158) hx hb dL_agrees_139 (by decide) (fun c => absurd rfl c) (fun _ => ?_)
            refine lv_aload_n hx hb dL_agrees_142 rfl (lv_at hl 3 rfl) ?_
            refine lv_iload hx hb dL_agrees_143 (lv_at hl 1 rfl) ?_
            refine xrI_call (vx_runV (As := [.int (nI i)]) (rest := []) ⟨hx, hb, hml, hown, hts⟩ (c_X6_closedAt l hl0 D cy ad (FI n h) (FS n) (nI i) n n h frZ (toN n) frZ (otN n) hciv) (cw_L_71 hts rfl rfl ⟨Nat.le_of_ble_eq_true rfl, Nat.le_of_ble_eq_true rfl⟩) (preVRX (ci := 6) (q0 := 0) hK hE (hZ.now hS).no (blkY hPc) rfl rfl) rfl rfl hl.1 rfl (lv_room (Nat.le_of_ble_eq_true rfl)) dL_agrees_145 ⟨(show 6 * i + 1 + 1 + 1 + 1 + 1 + 1 ≤ 250 by omega), (show 36 * i + 6 + 6 + 6 + 6 + 6 + 6 ≤ 1500 by omega)⟩) (fun E ce q9 H9 hpx hz9 hk9 hce hcv hcl => absurd hkp hpx.2) (fun r hr_ => ?_)
            refine top_eq (y := fCl n i) (hr_.2.trans e13) ?_
            refine lv_aload_n hx hb dL_agrees_148 rfl (lv_at hl 4 rfl) ?_
            refine gN_40 hx hb hts hown hN hK hP 29 rfl (v := .ref (bd 6)) rfl dL_agrees_149 ?_
            refine lv_iload hx hb dL_agrees_152 (lv_at hl 1 rfl) ?_
            refine ald_I (f := (GT n h 6)) hx hb hK hP 35 rfl (i := i) (by omega) (by decide) dL_agrees_154 ?_
            refine top_eq (y := fCl n i) rfl ?_
            refine lv_icmp_eq (tgt := 160) hx hb dL_agrees_155 (by decide) (fun _ => ?_) (fun c => absurd rfl c)
            refine lv_iinc (v := (nI (i + 1))) (lv' := [(4, .int (nI (i + 1))), (3, .int (opN n (i + 1))), (2, .int (nI (i + 1 - (h - 1)))), (0, .ref (ad 0)), (1, .ref (bd 0))]) hx hb dL_agrees_160 hl (k := 1) rfl (nI_1 i) (by decide) rfl (fun ls hl => ?_)
            refine lv_goto (tgt := 7) hx hb dL_agrees_163 (by decide) ?_
            refine W_wid (k := 6 * (i + 1)) (n := 36 * (i + 1)) (by omega) (by omega) ?_
            exact ih (i + 1) (by omega) (by omega) H1 locs1 hP hD hS (by omega) ls (lv_sub hl [0, 1, 2, 3, 4] rfl)
          by_cases hl9 : i + 1 < n
          · refine lv_iload_n hx hb dL_agrees_34 rfl (lv_at hl 2 rfl) ?_
            refine lv_aload_n hx hb dL_agrees_35 rfl (lv_at hl 4 rfl) ?_
            refine gN_40 hx hb hts hown hN hK hP 29 rfl (v := .ref (bd 6)) rfl dL_agrees_36 ?_
            refine lv_iload hx hb dL_agrees_39 (lv_at hl 1 rfl) ?_
            refine ald_I (f := (GT n h 6)) hx hb hK hP 35 rfl (i := i) (by omega) (by decide) dL_agrees_41 ?_
            refine top_eq (y := nI (i + 2)) (fCl_lt hl9) ?_
            refine lv_if_ge (tgt := 49) hx hb dL_agrees_42 (by decide) (fun _ => ?_) (fun c => absurd (nd_le (a := 0) (b := (i + 2)) (by omega) (by omega) (by omega)) c)
            refine lv_iconst (v := 0) hx hb dL_agrees_49 (by decide) ?_
            refine lv_iadd hx hb dL_agrees_50 ?_
            refine top_eq (y := opN n (i + 1)) (opN_lt hl9) ?_
            exact K51 ls (lv_sub hl [1, 2, 0, 3, 4] rfl)
          · refine lv_iload_n hx hb dL_agrees_34 rfl (lv_at hl 2 rfl) ?_
            refine lv_aload_n hx hb dL_agrees_35 rfl (lv_at hl 4 rfl) ?_
            refine gN_40 hx hb hts hown hN hK hP 29 rfl (v := .ref (bd 6)) rfl dL_agrees_36 ?_
            refine lv_iload hx hb dL_agrees_39 (lv_at hl 1 rfl) ?_
            refine ald_I (f := (GT n h 6)) hx hb hK hP 35 rfl (i := i) (by omega) (by decide) dL_agrees_41 ?_
            refine top_eq (y := (-1)) (fCl_eq (by omega)) ?_
            refine lv_if_ge (tgt := 49) hx hb dL_agrees_42 (by decide) (fun c => absurd c (by decide)) (fun _ => ?_)
            refine lv_iconst (v := 1) hx hb dL_agrees_45 (by decide) ?_
            refine lv_goto (tgt := 50) hx hb dL_agrees_46 (by decide) ?_
            refine lv_iadd hx hb dL_agrees_50 ?_
            refine top_eq (y := opN n (i + 1)) (opN_eq (by omega)) ?_
            exact K51 ls (lv_sub hl [1, 2, 0, 3, 4] rfl)
  refine lv_iconst (v := 0) hx hb dL_agrees_0 (by decide) ?_
  refine lv_istore_n (lv' := [(2, .int 0), (0, .ref (ad 0)), (1, .ref (bd 0))]) hx hb dL_agrees_1 rfl hl (by decide) rfl (fun ls hl => ?_)
  refine lv_iconst (v := 0) hx hb dL_agrees_2 (by decide) ?_
  refine lv_istore_n (lv' := [(3, .int 0), (2, .int 0), (0, .ref (ad 0)), (1, .ref (bd 0))]) hx hb dL_agrees_3 rfl hl (by decide) rfl (fun ls hl => ?_)
  refine lv_iconst (v := 0) hx hb dL_agrees_4 (by decide) ?_
  refine lv_istore (lv' := [(4, .int 0), (3, .int 0), (2, .int 0), (0, .ref (ad 0)), (1, .ref (bd 0))]) hx hb dL_agrees_5 hl (by decide) rfl (fun ls hl => ?_)
  have hl : lv_has ls 6 [(4, .int (nI 0)), (3, .int (opN n 0)), (2, .int (nI (0 - (h - 1)))), (0, .ref (ad 0)), (1, .ref (bd 0))] := by rw [opN_0, Nat.zero_sub]; exact lv_sub hl [0, 1, 2, 3, 4] rfl
  exact L7 (n + 1) 0 (by omega) (by omega) H locs hP hD hS hgr ls hl
