/-! the start of the law -/
theorem cw_L_136 {R : Room} {s : State} {args : Array Value} {rm : Room} {mc ms : Nat} (hts : ∀ w ∈ wsL_law, w.before args s = true) (hrc : rm.cells = mc) (hrs : rm.slots = ms) (hR : rm.frames + 1 ≤ R.frames ∧ 8 + (1 + 11) + rm.locals ≤ R.locals) : CallB R s args RL 136 yX6_init cX6_init 1 none (Cond.code yX6_init cX6_init 1 none :: wsL_law) rm mc ms 0 ∧ yX6_init.name = "<init>" ∧ (Cond.instanceMethod yX6_init).before args s = true := cwI 0 hts (gUI wm_10) rfl hrc hrs (hts _ wm_2) (hts _ wm_8) (hts _ wm_9) rfl (by decide +kernel) hR
theorem cw_L_139 {R : Room} {s : State} {args : Array Value} {rm : Room} {mc ms : Nat} (hts : ∀ w ∈ wsL_law, w.before args s = true) (hrc : rm.cells = mc) (hrs : rm.slots = ms) (hR : rm.frames + 1 ≤ R.frames ∧ 8 + (1 + 11) + rm.locals ≤ R.locals) : CallB R s args RL 139 yX7_init cX7_init 1 none (Cond.code yX7_init cX7_init 1 none :: wsL_law) rm mc ms 0 ∧ yX7_init.name = "<init>" ∧ (Cond.instanceMethod yX7_init).before args s = true := cwI 0 hts (gUI wm_88) rfl hrc hrs (hts _ wm_5) (hts _ wm_86) (hts _ wm_87) rfl (by decide +kernel) hR

theorem st_c1 : ∀ X ∈ exN, Cond.castable X X ∈ lw_tbl := by decide +kernel
theorem st_c2 : ∀ x ∈ exD, Cond.declares x ∈ lw_tbl := by decide +kernel
theorem st_c3 : ∀ q ∈ exT, Cond.stringRef RX6 q.1 q.2 ∈ lw_tbl := by decide +kernel
theorem st_c4 : ∀ q ∈ nsL, Cond.methodLinkNest RX6 q.1 q.2 RX6 ∈ lw_tbl := by decide +kernel
theorem st_c5 : Cond.laysStatic Bundle.tN "UNASSIGNED_STACK" Bundle.steD ∈ lw_tbl ∧ Cond.laysStatic Bundle.tN "SUPPRESSED_SENTINEL" Bundle.listD ∈ lw_tbl ∧ Cond.initialized Bundle.tN ∈ lw_tbl := by decide +kernel
theorem st_n1 : ∀ X ∈ exN, ∀ Y ∈ exN, X ≠ Y → Cond.not (.castable X Y) ∈ flatC (Cond.and given_1 narrow_1) := by decide +kernel
theorem st_n2 : ∀ q ∈ exT, Cond.exactly (Term.string RX6 q.1) "java/lang/String" ∈ flatC (Cond.and given_1 narrow_1) := by decide +kernel
theorem st_n3 : Cond.isRef (.static Bundle.tN "UNASSIGNED_STACK" Bundle.steD) ∈ flatC (Cond.and given_1 narrow_1) ∧ Cond.isRef (.static Bundle.tN "SUPPRESSED_SENTINEL" Bundle.listD) ∈ flatC (Cond.and given_1 narrow_1) := by decide +kernel
theorem st_ctx {args : Array Value} {s : State} (ht : ∀ w ∈ lw_tbl, w.before args s = true) (hg : (Jvm.Cond.and given_1 narrow_1).before args s = true) : ExS s ∧ ExZ (lcA s) s s.heap ∧ EcS s ∧ NwS s := by
  have hs := flat_of_before _ hg
  have hA : ∀ a : Nat, a < s.heap.size → ¬ lcA s a := fun a h => Nat.not_le.mpr h
  refine ⟨⟨⟨fun X hX => va_Nw.of rfl (ht _ (st_c1 X hX)), fun x hx => va_Nw.of rfl (ht _ (st_c2 x hx))⟩, fun q hq => ?_⟩, ⟨?_, ?_⟩, fun X hX Y hY h => va_Nc.of (hs _ (st_n1 X hX Y hY h)), fun q hq => va_Nw.of rfl (ht _ (st_c4 q hq))⟩
  · obtain ⟨a, c1, cell, k1, h1, -⟩ := Cond.exactly_spec (args := args) (first := s) (o := none) (s := s) (idx := []) (hs _ (st_n2 q hq))
    exact ⟨a, vk_R.of (ht _ (st_c3 q hq)) h1⟩
  · exact vx_Zqof (ht _ st_c5.1) (ht _ st_c5.2.2) (hs _ st_n3.1) hA
  · exact vx_Zqof (ht _ st_c5.2.1) (ht _ st_c5.2.2) (hs _ st_n3.2) hA
theorem K_of {args : Array Value} {s : State} (hts : ∀ w ∈ wsL_law, w.before args s = true) : ∃ D : va_G, va_K D clW [] s := by
  have key : ∀ c : Nat, ∃ r : ClassId × (Nat → Nat), ∀ q : vw_C, clW[c]? = some q → u_Kn s q.1 q.2.1 q.2.2 r.1 r.2 := by
    intro c
    rcases (show c = 0 ∨ c = 1 ∨ c = 2 ∨ c = 3 ∨ c = 4 ∨ c = 5 ∨ c = 6 ∨ c = 7 ∨ 8 ≤ c by omega) with rfl | rfl | rfl | rfl | rfl | rfl | rfl | rfl | h
    · obtain ⟨a, f, h⟩ := u_known (C := RX0) (T := TX0) (N := 8) hts inlX0 (hts _ wm_19)
      exact ⟨(a, f), fun q hq => by cases hq; exact h⟩
    · obtain ⟨a, f, h⟩ := u_known (C := RX1) (T := TX1) (N := 2) hts inlX1 (hts _ wm_28)
      exact ⟨(a, f), fun q hq => by cases hq; exact h⟩
    · obtain ⟨a, f, h⟩ := u_known (C := RX2) (T := TX2) (N := 2) hts inlX2 (hts _ wm_23)
      exact ⟨(a, f), fun q hq => by cases hq; exact h⟩
    · obtain ⟨a, f, h⟩ := u_known (C := RX3) (T := TX3) (N := 6) hts inlX3 (hts _ wm_15)
      exact ⟨(a, f), fun q hq => by cases hq; exact h⟩
    · obtain ⟨a, f, h⟩ := u_known (C := RX4) (T := TX4) (N := 3) hts inlX4 (hts _ wm_33)
      exact ⟨(a, f), fun q hq => by cases hq; exact h⟩
    · obtain ⟨a, f, h⟩ := u_known (C := RX5) (T := TX5) (N := 4) hts inlX5 (hts _ wm_37)
      exact ⟨(a, f), fun q hq => by cases hq; exact h⟩
    · obtain ⟨a, f, h⟩ := u_known (C := RX6) (T := TX6) (N := 8) hts inlX6 (hts _ wm_1)
      exact ⟨(a, f), fun q hq => by cases hq; exact h⟩
    · obtain ⟨a, f, h⟩ := u_known (C := RX7) (T := TX7) (N := 27) hts inlX7 (hts _ wm_4)
      exact ⟨(a, f), fun q hq => by cases hq; exact h⟩
    · refine ⟨(0, fun _ => 0), fun q hq => ?_⟩
      rw [List.getElem?_eq_none (by simpa using h)] at hq
      cases hq
  exact ⟨(fun c => (Classical.choose (key c)).1, fun c => (Classical.choose (key c)).2), fun c q hq => Classical.choose_spec (key c) q hq, fun k q hq => by cases hq⟩
abbrev nu6 : List Value := [.null, .null, .null, .int 0, .null, .null, .null, .null]
abbrev nu7 : List Value := [.int 0, .int 0, .int 0, .null, .null, .int 0, .int 0, .null, .null, .null, .null, .null, .null, .null, .int 0, .null, .null, .int 0, .null, .null, .null, .int 0, .int 0, .int 0, .null, .null, .int 0]
set_option maxHeartbeats 4000000 in
set_option maxRecDepth 100000 in
theorem law_start {p : Program} {l : Launch} {e : Env} {s : State} {m : MethodId} {below : List Frame} {meth : Method} {c : Code} {b L : Nat} {xs : Nat → Int32} {D : va_G} {cy : Nat → ClassId} {Q : State → Prop} {ls : Array Slot} (C0 : LCx p l s m c b L xs D cy) (hN : NwS s) (hl : lv_has ls 9 [(0, .ref b)])
    (hend : ∀ (H : Heap) (locs : List Loc) (ls : Array Slot) (cells slots : Nat), va_S (lcA s) s.heap H locs → cells ≤ 603072 → slots ≤ 7202922 → W p l e room_1 s m #[Value.ref b] below meth c H locs cells slots Q (F0 m 3206 ls [])) : W p l e room_1 s m #[Value.ref b] below meth c s.heap [] 0 0 Q (F0 m 0 ls []) := by
  have C1 := C0
  obtain ⟨hx, hb, hml, hown, hts, hl0, hX, hbl, hL, hC, hK, hE, hZ⟩ := C1
  have hA : ∀ q : Nat, s.heap.size ≤ q → lcA s q := fun q h => h
  have hS : va_S (lcA s) s.heap s.heap [] := va_S.rf
  have hP : va_P D clW [] s.heap := fun k q hq => by cases hq
  have hD : va_D (lcA s) [] := ⟨fun i j p q hp _ _ => (by cases hp), fun k q hq => (by cases hq)⟩
  refine va_new (ci := 6) (fs := nu6) (C := RX6) (T := TX6) (N := 8) hx hb hts inlX6 tyX6 tyX6_ok hown (hts _ wm_0) (hts _ wm_1) (hts _ wm_2) hK hP hD hS hA rfl (fun j hj => by rcases (show j = 0 ∨ j = 1 ∨ j = 2 ∨ j = 3 ∨ j = 4 ∨ j = 5 ∨ j = 6 ∨ j = 7 by omega) with rfl | rfl | rfl | rfl | rfl | rfl | rfl | rfl <;> rfl) (Nat.le_of_ble_eq_true rfl) (Nat.le_of_ble_eq_true rfl) dL_law_0 (fun h1 H hP hD hS => ?_)
  have hP : va_P D clW [(h1, .inr (6, nu6))] H := hP
  have hD : va_D (lcA s) [(h1, .inr (6, nu6))] := hD
  refine lv_dup hx hb dL_law_3 rfl ?_
  have hF := va_free (wc := [(h1, .inr (6, nu6))]) hD hS hA [0] rfl
  refine va_callv (va_runI (As := []) (rest := [.ref h1]) ⟨hx, hb, hml, hown, hts⟩ (c_X6_init l D cy h1 H.size) (cw_L_136 hts rfl rfl ⟨Nat.le_of_ble_eq_true rfl, Nat.le_of_ble_eq_true rfl⟩) (preIWN hN hK hP hD) rfl rfl hl.1 rfl (lv_room (Nat.le_of_ble_eq_true rfl)) dL_law_4 ⟨Nat.le_of_ble_eq_true rfl, Nat.le_of_ble_eq_true rfl⟩) hS (fun q _ h => hF q h) hF (fun u t9 H1 locs ht hvm h9 hB hz1 hk1 hS => ?_)
  obtain ⟨hP1, hD1⟩ := hB
  rw [ht] at hP1
  have hD2 : va_D (lcA s) (wC cy u I0 S0) := ⟨hD1.1, fun k q hq => hF _ (hD1.2 k q hq)⟩
  clear hF hD1 hk1 hz1 hP hD
  have h9 : u 0 = h1 := h9
  subst h9
  generalize H1 = H at hP1 hS ⊢
  have hP := hP1
  have hD := hD2
  clear hP1 hD2
  refine lv_astore_n (lv' := [(1, .ref (u 0)), (0, .ref b)]) hx hb dL_law_7 rfl hl (by decide) rfl (fun ls hl => ?_)
  refine va_new (ci := 7) (fs := nu7) (C := RX7) (T := TX7) (N := 27) hx hb hts inlX7 tyX7 tyX7_ok hown (hts _ wm_3) (hts _ wm_4) (hts _ wm_5) hK hP hD hS hA rfl (fun j hj => by rcases (show j = 0 ∨ j = 1 ∨ j = 2 ∨ j = 3 ∨ j = 4 ∨ j = 5 ∨ j = 6 ∨ j = 7 ∨ j = 8 ∨ j = 9 ∨ j = 10 ∨ j = 11 ∨ j = 12 ∨ j = 13 ∨ j = 14 ∨ j = 15 ∨ j = 16 ∨ j = 17 ∨ j = 18 ∨ j = 19 ∨ j = 20 ∨ j = 21 ∨ j = 22 ∨ j = 23 ∨ j = 24 ∨ j = 25 ∨ j = 26 by omega) with rfl | rfl | rfl | rfl | rfl | rfl | rfl | rfl | rfl | rfl | rfl | rfl | rfl | rfl | rfl | rfl | rfl | rfl | rfl | rfl | rfl | rfl | rfl | rfl | rfl | rfl | rfl <;> rfl) (Nat.le_of_ble_eq_true rfl) (Nat.le_of_ble_eq_true rfl) dL_law_8 (fun h2 H hP hD hS => ?_)
  refine lv_dup hx hb dL_law_11 rfl ?_
  have hPc := hP.sub (ws' := [(h2, .inr (7, nu7))]) [29] rfl
  have hDc := hD.sub (ws' := [(h2, .inr (7, nu7))]) [29] (by decide) rfl
  have hF := va_free (wc := [(h2, .inr (7, nu7))]) hD hS hA [29] rfl
  refine va_callv (va_runI (As := []) (rest := [.ref h2]) ⟨hx, hb, hml, hown, hts⟩ (c_X7_init l D cy h2 H.size) (cw_L_139 hts rfl rfl ⟨Nat.le_of_ble_eq_true rfl, Nat.le_of_ble_eq_true rfl⟩) (preIW hK hPc hDc) rfl rfl hl.1 rfl (lv_room (Nat.le_of_ble_eq_true rfl)) dL_law_12 ⟨Nat.le_of_ble_eq_true rfl, Nat.le_of_ble_eq_true rfl⟩) hS (fun q _ h => hF q h) hF (fun u2 t9 H1 locs ht hvm h9 hB hz1 hk1 hS => ?_)
  obtain ⟨hP1, hD1⟩ := hB
  rw [ht] at hP1
  obtain ⟨hPn, hDn⟩ := va_join (wr := wC cy u I0 S0) (w1 := wM cy u2 I0 S0) hP hD [29] [0, 1, 2, 3, 4, 5, 6, 7, 8, 9, 10, 11, 12, 13, 14, 15, 16, 17, 18, 19, 20, 21, 22, 23, 24, 25, 26, 27, 28] rfl rfl (by decide) (by decide) hk1 hF hP1 hD1
  clear hPc hDc hF hP1 hD1 hk1 hz1 hP hD
  have h9 : u2 0 = h2 := h9
  subst h9
  generalize H1 = H at hPn hS ⊢
  have hP := hPn
  have hD := hDn
  clear hPn hDn
  refine lv_astore_n (lv' := [(2, .ref (u2 0)), (1, .ref (u 0)), (0, .ref b)]) hx hb dL_law_15 rfl hl (by decide) rfl (fun ls hl => ?_)
  refine lv_iconst (v := 1) hx hb dL_law_16 (by decide) ?_
  refine newAr (atype := .long) (ty := .long) (cyj := cy 3) 3 rfl (fun _ h => h) hx hb (hts _ wm_6) rfl hK hP hD hS hA (N' := 1) (a0 := (1, .inr (.inl (fun _ => 0)))) (fun _ => rfl) (by decide) (by decide) (Nat.le_of_ble_eq_true rfl) (Nat.le_of_ble_eq_true rfl) (Nat.le_of_ble_eq_true rfl) dL_law_17 (fun ao H hP hD hS => ?_)
  refine lv_astore_n (lv' := [(3, .ref ao), (2, .ref (u2 0)), (1, .ref (u 0)), (0, .ref b)]) hx hb dL_law_19 rfl hl (by decide) rfl (fun ls hl => ?_)
  refine lv_iconst (v := 1) hx hb dL_law_20 (by decide) ?_
  refine newAr (atype := .double) (ty := .double) (cyj := cy 4) 4 rfl (fun _ h => h) hx hb (hts _ wm_7) rfl hK hP hD hS hA (N' := 1) (a0 := (1, .inr (.inr (.inr (.inl (fun _ => 0)))))) (fun _ => rfl) (by decide) (by decide) (Nat.le_of_ble_eq_true rfl) (Nat.le_of_ble_eq_true rfl) (Nat.le_of_ble_eq_true rfl) dL_law_21 (fun aq H hP hD hS => ?_)
  refine lv_astore (lv' := [(4, .ref aq), (3, .ref ao), (2, .ref (u2 0)), (1, .ref (u 0)), (0, .ref b)]) hx hb dL_law_23 hl (by decide) rfl (fun ls hl => ?_)
  refine lv_iconst (v := 0) hx hb dL_law_25 (by decide) ?_
  refine lv_istore (lv' := [(5, .int (nI 0)), (4, .ref aq), (3, .ref ao), (2, .ref (u2 0)), (1, .ref (u 0)), (0, .ref b)]) hx hb dL_law_26 hl (by decide) rfl (fun ls hl => ?_)
  have hP9 : va_P D clW (wL cy u I0 S0 ao aq (fun _ => 0) (fun _ => 0) u2 I0 S0) H := hP.sub [0, 1, 2, 3, 4, 5, 6, 7, 8, 9, 10, 11, 12, 13, 14, 15, 16, 17, 18, 19, 20, 21, 22, 23, 24, 25, 26, 27, 28, 46, 47, 29, 30, 31, 32, 33, 34, 35, 36, 37, 38, 39, 40, 41, 42, 43, 44, 45] rfl
  have hD9 : va_D (lcA s) (wL cy u I0 S0 ao aq (fun _ => 0) (fun _ => 0) u2 I0 S0) := hD.sub [0, 1, 2, 3, 4, 5, 6, 7, 8, 9, 10, 11, 12, 13, 14, 15, 16, 17, 18, 19, 20, 21, 22, 23, 24, 25, 26, 27, 28, 46, 47, 29, 30, 31, 32, 33, 34, 35, 36, 37, 38, 39, 40, 41, 42, 43, 44, 45] (by decide) rfl
  exact law_loop C0 hend 512 0 H locs I0 S0 I0 S0 (fun _ => 0) (fun _ => 0) ls _ _ (by omega) (by omega) (Nat.le_of_ble_eq_true rfl) (Nat.le_of_ble_eq_true rfl) inv_0 hP9 hD9 hS (lv_sub hl [5, 4, 3, 2, 1, 0] rfl)
