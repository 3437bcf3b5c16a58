/-! the law over the run, in a larger room: how many cells it makes at least -/
abbrev Rb : Room := { frames := 21, cells := 9000, slots := 60000, locals := 10900 }
def LCq (p : Program) (l : Launch) (s : State) (m : MethodId) (c : Code) (b : Nat) (xs : Nat → Int32) (D : va_G) (cy : Nat → ClassId) : Prop :=
  p.tables.exec = Jvm.exec ∧ c.code = code ∧ c.maxLocals = 5 ∧ s.vm.findClass RL = some m.cls ∧ (∀ w ∈ wsL_law, w.before #[Value.ref b] s = true) ∧ l.stackTraces = false ∧ va_X b 30 xs s s.heap ∧ b < s.heap.size ∧ (∀ k : Nat, k < 30 → xs k = xE k) ∧ BwS s ∧ NwS s ∧ va_Nw (.methodLinkNest RL 145 yX7_init RL) s ∧ va_K D clW (tyW cy) s ∧ ExS s ∧ ExZ (lcA s) s s.heap
section BZ
variable {p : Program} {l : Launch} {e : Env} {R : Room} {s : State} {m : MethodId} {args : Array Value} {below : List Frame} {meth : Method} {c : Code} {H : Heap} {locs : List Loc} {cells slots : Nat} {Q : State → Prop}
variable {cc : ByteArray} {pc : Nat} {ls : Array Slot} {rest st0 : List Value} {a : Array Value} {D : va_G} {cy : Nat → ClassId} {A A1 : Nat → Prop} {H0 : Heap} {mc ms MC MS : Nat}
theorem bzI_call {S : Type} {post : Int32 → S → Prop} {Wn : S → va_W} {X Y Z : va_W} (hr : va_Run p l e R s m args below meth c H locs cells slots mc ms (F0 m pc ls st0) rest (va_Qi post (fun u t9 => va_P D clW (Wn u) t9.heap) (va_A Y H.size) a) (va_A Y H.size)) (hD : va_D A (X ++ (Y ++ Z))) (hS : va_S A H0 H locs) (hA : ∀ q, H0.size ≤ q → A q)
    (kk : ∀ (r : Int32) (u : S) (H1 : Heap) (locs1 : List Loc), post r u → H.size ≤ H1.size → va_S A H0 H1 locs1 → W p l e R s m args below meth c H1 locs1 (cells + mc) (slots + ms) Q (F0 m (pc + 3) ls (.int r :: rest))) : W p l e R s m args below meth c H locs cells slots Q (F0 m pc ls st0) := by
  have hF := blkF hD hS hA
  exact va_calli hr hS (fun q _ h => hF q h) hF (fun r u t H1 locs1 ht hvm hp hB hz hk hS1 => kk r u H1 locs1 hp hz hS1)
end BZ
theorem e_I0 : va_up (va_up (va_up I0 0 (nI 1)) 0 (nI 2)) 0 (nI 3) = FI 0 0 := by
  funext j
  simp only [va_up, FI, I0]
  by_cases h0 : j = 0
  · subst h0; rfl
  · simp only [if_neg h0]
    by_cases h1 : j = 1
    · subst h1; rfl
    · by_cases h2 : j = 2
      · subst h2; rfl
      · by_cases h3 : j = 3
        · subst h3; rfl
        · simp only [if_neg h1, if_neg h2, if_neg h3]
theorem f0_to : fTo 0 = fZe := by funext i; exact if_neg (by omega)
theorem f0_op : fOp 0 = fZe := by funext i; exact if_neg (by omega)
theorem f0_cl : fCl 0 = fZe := by
  funext i
  unfold fCl
  rw [if_neg (by omega), if_neg (by omega)]; rfl
theorem f0_kd : fKd 0 = fZe := by funext i; exact if_neg (by omega)
theorem f0_ot : fOt 0 = fZe := by funext i; exact if_neg (by omega)
theorem f0_gn : fGn 0 = fZe := by funext i; exact if_neg (by omega)
theorem e_S0 : S0 = FS 0 := by
  funext r
  unfold FS
  rw [f0_to, f0_op, f0_cl, f0_kd, f0_ot]
  simp only [ite_self]
  rfl
theorem e_J0 : I0 = GJ 0 0 := by
  funext j
  unfold GJ
  rw [show nI 0 = 0 from rfl]
  simp only [ite_self]
theorem e_T0 : S0 = GT 0 0 := by
  funext r
  unfold GT
  rw [f0_to, f0_op, f0_cl, f0_kd, f0_gn]
  simp only [ite_self]
  rfl
theorem cw_L_144 {R : Room} {s : State} {args : Array Value} {rm : Room} {mc ms : Nat} (hts : ∀ w ∈ wsL_law, w.before args s = true) (hrc : rm.cells = mc) (hrs : rm.slots = ms) (hR : rm.frames + 1 ≤ R.frames ∧ 8 + (1 + 11) + rm.locals ≤ R.locals) : CallB R s args RL 144 yX6_init cX6_init 1 none (Cond.code yX6_init cX6_init 1 none :: wsL_law) rm mc ms 0 ∧ yX6_init.name = "<init>" ∧ (Cond.instanceMethod yX6_init).before args s = true := cwI 0 hts (gUI wm_8) rfl hrc hrs (hts _ wm_2) (hts _ wm_6) (hts _ wm_7) rfl (by decide +kernel) hR
theorem cw_L_146 {R : Room} {s : State} {args : Array Value} {rm : Room} {mc ms : Nat} (hts : ∀ w ∈ wsL_law, w.before args s = true) (hrc : rm.cells = mc) (hrs : rm.slots = ms) (hR : rm.frames + 1 ≤ R.frames ∧ 8 + (1 + 11) + rm.locals ≤ R.locals) : CallW R s args RL RX6 146 yX6_addEntity cX6_addEntity 1 (some .int) (Cond.code yX6_addEntity cX6_addEntity 1 (some .int) :: wsL_law) rm mc ms 0 := cwV 0 hts (gUV wm_96 wm_97 wm_98 wm_2 wm_99) rfl hrc hrs (by decide +kernel) hR
theorem cw_L_149 {R : Room} {s : State} {args : Array Value} {rm : Room} {mc ms : Nat} (hts : ∀ w ∈ wsL_law, w.before args s = true) (hrc : rm.cells = mc) (hrs : rm.slots = ms) (hR : rm.frames + 1 ≤ R.frames ∧ 8 + (2 + 11) + rm.locals ≤ R.locals) : CallB R s args RL 149 yL_cell cL_cell 2 (some .int) (Cond.code yL_cell cL_cell 2 (some .int) :: wsL_law) rm mc ms 2 ∧ (Cond.static yL_cell).before args s = true := va_cwS 2 hts (gUS wm_102 wm_103 wm_104 wm_105) rfl hrc hrs (by decide +kernel) hR
theorem cw_L_153 {R : Room} {s : State} {args : Array Value} {rm : Room} {mc ms : Nat} (hts : ∀ w ∈ wsL_law, w.before args s = true) (hrc : rm.cells = mc) (hrs : rm.slots = ms) (hR : rm.frames + 1 ≤ R.frames ∧ 8 + (10 + 11) + rm.locals ≤ R.locals) : CallB R s args RL 153 yL_acts cL_acts 10 (some .boolean) (Cond.code yL_acts cL_acts 10 (some .boolean) :: wsL_law) rm mc ms 3 ∧ (Cond.static yL_acts).before args s = true := va_cwS 3 hts (gUS wm_107 wm_108 wm_104 wm_109) rfl hrc hrs (by decide +kernel) hR
theorem cw_L_157 {R : Room} {s : State} {args : Array Value} {rm : Room} {mc ms : Nat} (hts : ∀ w ∈ wsL_law, w.before args s = true) (hrc : rm.cells = mc) (hrs : rm.slots = ms) (hR : rm.frames + 1 ≤ R.frames ∧ 8 + (6 + 11) + rm.locals ≤ R.locals) : CallB R s args RL 157 yL_agrees cL_agrees 6 (some .boolean) (Cond.code yL_agrees cL_agrees 6 (some .boolean) :: wsL_law) rm mc ms 2 ∧ (Cond.static yL_agrees).before args s = true := va_cwS 2 hts (gUS wm_285 wm_286 wm_104 wm_287) rfl hrc hrs (by decide +kernel) hR
theorem cw_L_161 {R : Room} {s : State} {args : Array Value} {rm : Room} {mc ms : Nat} (hts : ∀ w ∈ wsL_law, w.before args s = true) (hrc : rm.cells = mc) (hrs : rm.slots = ms) (hR : rm.frames + 1 ≤ R.frames ∧ 8 + (2 + 11) + rm.locals ≤ R.locals) : CallW R s args RL RX6 161 yX6_isConsistent cX6_isConsistent 2 (some .boolean) (Cond.code yX6_isConsistent cX6_isConsistent 2 (some .boolean) :: wsL_law) rm mc ms 0 := cwV 0 hts (gUV wm_366 wm_367 wm_368 wm_2 wm_369) rfl hrc hrs (by decide +kernel) hR
set_option maxHeartbeats 4000000 in
set_option maxRecDepth 100000 in
theorem c_L_acts (l : Launch) (hl0 : l.stackTraces = false) (D : va_G) (cy : Nat → ClassId) (ad bd : Nat → Nat) (n h n2 h2 sz : Nat) (v : Int32) (hn : n ≤ 15) (hh : h ≤ n) (hs : stepP n h n2 h2 v) : Met l yL_acts (Cond.code yL_acts cL_acts 10 (some .boolean) :: wsL_law) ({ frames := 9, cells := 3, slots := 18, locals := 170 }) (va_Pc [.ref (ad 0), .ref (bd 0), .int v] (lgB D cy (wLF cy ad bd n h) sz)) (va_Qi (S := Unit) (fun r _ => r = 1) (fun _ t9 => va_P D clW (wLF cy ad bd n2 h2) t9.heap ∧ sz ≤ t9.heap.size) (va_A (wLF cy ad bd n h) sz)) 3 18 (va_A (wLF cy ad bd n h) sz) := by
  rcases hs with ⟨h0, h1, rfl, rfl⟩ | ⟨rfl, h1, h3, h4, h5, h6⟩
  · exact c_L_acts_T l hl0 D cy ad bd n _ sz v h1 hh h0
  · exact c_L_acts_P l hl0 D cy ad bd _ h h2 sz v (by omega) hh h1 h3 h4 h5 h6
set_option maxHeartbeats 4000000 in
set_option maxRecDepth 100000 in
theorem law_loop {p : Program} {l : Launch} {e : Env} {s : State} {m : MethodId} {below : List Frame} {meth : Method} {c : Code} {b : Nat} {xs : Nat → Int32} {D : va_G} {cy : Nat → ClassId} {Q : State → Prop} {ad bd : Nat → Nat} (C0 : LCq p l s m c b xs D cy)
    (hend : ∀ (H : Heap) (locs : List Loc) (ls : Array Slot) (cells slots : Nat), va_S (lcA s) s.heap H locs → s.heap.size + 310 ≤ H.size → cells ≤ 9000 → slots ≤ 60000 → W p l e Rb s m #[Value.ref b] below meth c H locs cells slots Q (F0 m 116 ls [.int 1])) :
    ∀ (f i : Nat), i ≤ 30 → 31 ≤ i + f → ∀ (H : Heap) (locs : List Loc), va_P D clW (wLF cy ad bd (nE i) (hzE i)) H → va_D (lcA s) (wLF cy ad bd (nE i) (hzE i)) → va_S (lcA s) s.heap H locs → s.heap.size + gE i ≤ H.size → ∀ (ls : Array Slot), lv_has ls 5 [(4, .int (nI i)), (3, .int 1), (2, .ref (bd 0)), (1, .ref (ad 0)), (0, .ref b)] → W p l e Rb s m #[Value.ref b] below meth c H locs (42 + 253 * i) (5053 + 1518 * i) Q (F0 m 55 ls []) := by
  have C1 := C0
  obtain ⟨hx, hb, hml, hown, hts, hl0, hX, hbl, hxs, hN, hNs, hNb, hK, hE, hZ⟩ := C1
  have hA : ∀ q : Nat, s.heap.size ≤ q → lcA s q := fun q h => h
  have hbA : ¬ lcA s b := Nat.not_le.mpr hbl
  intro f
  induction f with
  | zero => intro i h1 h2; exact absurd h2 (by omega)
  | succ f ih =>
    intro i hi30 hf H locs hP hD hS hgr ls hl
    refine lv_iload hx hb dL_law_55 (lv_at hl 0 rfl) ?_
    refine lv_bipush (v := 30) hx hb dL_law_57 (by decide) ?_
    refine lv_icmp_ge (tgt := 100) hx hb dL_law_59 (by decide) (fun c1 => ?_) (fun c1 => ?_)
    · have fi : 30 ≤ i := nt_le (a := 30) (b := i) (by omega) (by omega) c1
      obtain rfl : i = 30 := by omega
      have hgr : s.heap.size + 310 ≤ H.size := by rw [gE_end] at hgr; exact hgr
      have hP : va_P D clW (wLF cy ad bd 15 15) H := hP
      have hD : va_D (lcA s) (wLF cy ad bd 15 15) := hD
      have hciv := fam_CIv (n := 15) (h := 15) (by omega) (by omega)
      have hPc : va_P D clW ([] ++ ((wC cy ad (FI 15 15) (FS 15)) ++ ((wM cy bd (GJ 15 15) (GT 15 15)) ++ []))) H := hP
      have hDc : va_D (lcA s) ([] ++ ((wC cy ad (FI 15 15) (FS 15)) ++ ((wM cy bd (GJ 15 15) (GT 15 15)) ++ []))) := hD
      refine lv_iload_n hx hb dL_law_100 rfl (lv_at hl 1 rfl) ?_
      refine lv_if_eq (tgt := 115) hx hb dL_law_101 (by decide) (fun c => absurd c (by decide)) (fun _ => ?_)
      refine lv_aload_n hx hb dL_law_104 rfl (lv_at hl 3 rfl) ?_
      refine bzI_call (va_runV (As := []) (rest := []) ⟨hx, hb, hml, hown, hts⟩ (c_X6_isConsistent l D cy ad (FI 15 15) (FS 15) H.size 3 rfl (by omega) 15 15 15 frZ (toN 15) frZ (otN 15) hciv (fun i hi f1 g1 f2 g2 => con_f (by omega) (by omega) hi f1 g1 f2 g2)) (cw_L_161 hts rfl rfl ⟨Nat.le_of_ble_eq_true rfl, Nat.le_of_ble_eq_true rfl⟩) (preVW (ci := 6) (q0 := 0) hK (blkY hPc) (blkYD hDc) rfl rfl) rfl rfl hl.1 rfl (lv_room (Nat.le_of_ble_eq_true rfl)) dL_law_105 ⟨(show (42 + 253 * 30) + 0 ≤ 9000 by omega), (show (5053 + 1518 * 30) + 0 ≤ 60000 by omega)⟩) hDc hS hA (fun r u H9 locs9 hr_ hz9 hS9 => ?_)
      refine top_eq (y := 1) hr_ ?_
      refine lv_if_eq (tgt := 115) hx hb dL_law_108 (by decide) (fun c => absurd c (by decide)) (fun _ => ?_)
      refine lv_iconst (v := 1) hx hb dL_law_111 (by decide) ?_
      refine lv_goto (tgt := 116) hx hb dL_law_112 (by decide) ?_
      exact hend H9 locs9 ls _ _ hS9 (by omega) (by omega) (by omega)
    · have fi : i < 30 := nt_nle (a := 30) (b := i) (by omega) (by omega) c1
      obtain ⟨⟨r1, r2, r3, r4⟩, hst⟩ := run_ok i fi
      have hXn : va_X b 30 xs s H := hX.kept (hS.2.1 b hbl hbA)
      have hbn : b < H.size := Nat.lt_of_lt_of_le hbl hS.1
      refine lv_iload_n hx hb dL_law_62 rfl (lv_at hl 1 rfl) ?_
      refine lv_if_eq (tgt := 100) hx hb dL_law_63 (by decide) (fun c => absurd c (by decide)) (fun _ => ?_)
      refine lv_aload_n hx hb dL_law_66 rfl (lv_at hl 3 rfl) ?_
      refine lv_aload_n hx hb dL_law_67 rfl (lv_at hl 2 rfl) ?_
      refine lv_aload_n hx hb dL_law_68 rfl (lv_at hl 4 rfl) ?_
      refine lv_iload hx hb dL_law_69 (lv_at hl 0 rfl) ?_
      refine rI_call (va_runS (As := [.ref b, .int (nI i)]) (rest := [.ref (bd 0), .ref (ad 0)]) ⟨hx, hb, hml, hown, hts⟩ (c_L_cell l b 30 xs i fi (by omega)) (cw_L_149 hts rfl rfl ⟨Nat.le_of_ble_eq_true rfl, Nat.le_of_ble_eq_true rfl⟩) (preSc hXn hbn) rfl rfl hl.1 rfl (lv_room (Nat.le_of_ble_eq_true rfl)) dL_law_71 ⟨(show (42 + 253 * i) + 0 ≤ 9000 by omega), (show (5053 + 1518 * i) + 0 ≤ 60000 by omega)⟩) (fun r hr_ => ?_)
      refine top_eq (y := xE i) (hr_.trans (hxs i fi)) ?_
      have hPc : va_P D clW ([] ++ ((wLF cy ad bd (nE i) (hzE i)) ++ [])) H := hP
      have hDc : va_D (lcA s) ([] ++ ((wLF cy ad bd (nE i) (hzE i)) ++ [])) := hD
      refine bgI_call (S := Unit) (Wn := fun _ => (wLF cy ad bd (nE (i + 1)) (hzE (i + 1)))) (G := fun z9 => H.size ≤ z9) (va_runS (As := [.ref (ad 0), .ref (bd 0), .int (xE i)]) (rest := []) ⟨hx, hb, hml, hown, hts⟩ (c_L_acts l hl0 D cy ad bd (nE i) (hzE i) (nE (i + 1)) (hzE (i + 1)) H.size (xE i) r2 r1 hst) (cw_L_153 hts rfl rfl ⟨Nat.le_of_ble_eq_true rfl, Nat.le_of_ble_eq_true rfl⟩) (preSN hN hK hE (hZ.now hS) (blkF hDc hS hA) (blkY hPc) (blkYD hDc)) rfl rfl hl.1 rfl (lv_room (Nat.le_of_ble_eq_true rfl)) dL_law_74 ⟨(show (42 + 253 * i) + 3 ≤ 9000 by omega), (show (5053 + 1518 * i) + 18 ≤ 60000 by omega)⟩) hPc hDc hS hA (fun _ => rfl) (fun r u H1 locs1 hr_ hG1 hz1 hP hD hS => ?_)
      have hP : va_P D clW (wLF cy ad bd (nE (i + 1)) (hzE (i + 1))) H1 := hP
      have hD : va_D (lcA s) (wLF cy ad bd (nE (i + 1)) (hzE (i + 1))) := hD
      refine top_eq (y := 1) hr_ ?_
      refine lv_if_eq (tgt := 92) hx hb dL_law_77 (by decide) (fun c => absurd c (by decide)) (fun _ => ?_)
      refine lv_aload_n hx hb dL_law_80 rfl (lv_at hl 3 rfl) ?_
      refine lv_aload_n hx hb dL_law_81 rfl (lv_at hl 2 rfl) ?_
      have hPc : va_P D clW ([] ++ ((wLF cy ad bd (nE (i + 1)) (hzE (i + 1))) ++ [])) H1 := hP
      have hDc : va_D (lcA s) ([] ++ ((wLF cy ad bd (nE (i + 1)) (hzE (i + 1))) ++ [])) := hD
      refine bgI_call (S := Unit) (Wn := fun _ => (wLF cy ad bd (nE (i + 1)) (hzE (i + 1)))) (G := fun z9 => H1.size + (hzE (i + 1) - 1) + 2 ≤ z9) (va_runS (As := [.ref (ad 0), .ref (bd 0)]) (rest := []) ⟨hx, hb, hml, hown, hts⟩ (c_L_agrees l hl0 D cy ad bd (nE (i + 1)) (hzE (i + 1)) H1.size (by omega) r3) (cw_L_157 hts rfl rfl ⟨Nat.le_of_ble_eq_true rfl, Nat.le_of_ble_eq_true rfl⟩) (preSN hN hK hE (hZ.now hS) (blkF hDc hS hA) (blkY hPc) (blkYD hDc)) rfl rfl hl.1 rfl (lv_room (Nat.le_of_ble_eq_true rfl)) dL_law_82 ⟨(show (42 + 253 * i) + 3 + 250 ≤ 9000 by omega), (show (5053 + 1518 * i) + 18 + 1500 ≤ 60000 by omega)⟩) hPc hDc hS hA (fun _ => rfl) (fun r u H2 locs2 hr_ hG2 hz2 hP hD hS => ?_)
      have hP : va_P D clW (wLF cy ad bd (nE (i + 1)) (hzE (i + 1))) H2 := hP
      have hD : va_D (lcA s) (wLF cy ad bd (nE (i + 1)) (hzE (i + 1))) := hD
      refine top_eq (y := 1) hr_ ?_
      refine lv_if_eq (tgt := 92) hx hb dL_law_85 (by decide) (fun c => absurd c (by decide)) (fun _ => ?_)
      refine lv_iconst (v := 1) hx hb dL_law_88 (by decide) ?_
      refine lv_goto (tgt := 93) hx hb dL_law_89 (by decide) ?_
      refine lv_istore_n (lv' := [(3, .int 1), (4, .int (nI i)), (2, .ref (bd 0)), (1, .ref (ad 0)), (0, .ref b)]) hx hb dL_law_93 rfl hl (by decide) rfl (fun ls hl => ?_)
      refine lv_iinc (v := (nI (i + 1))) (lv' := [(4, .int (nI (i + 1))), (3, .int 1), (2, .ref (bd 0)), (1, .ref (ad 0)), (0, .ref b)]) hx hb dL_law_94 hl (k := 1) rfl (nI_1 i) (by decide) rfl (fun ls hl => ?_)
      refine lv_goto (tgt := 55) hx hb dL_law_97 (by decide) ?_
      refine W_wid (k := (42 + 253 * (i + 1))) (n := (5053 + 1518 * (i + 1))) (by omega) (by omega) ?_
      exact ih (i + 1) (by omega) (by omega) H2 locs2 hP hD hS (by rw [gE]; omega) ls (lv_sub hl [0, 1, 2, 3, 4] rfl)
set_option maxHeartbeats 4000000 in
set_option maxRecDepth 100000 in
theorem law_start {p : Program} {l : Launch} {e : Env} {s : State} {m : MethodId} {below : List Frame} {meth : Method} {c : Code} {b : Nat} {xs : Nat → Int32} {D : va_G} {cy : Nat → ClassId} {Q : State → Prop} (C0 : LCq p l s m c b xs D cy) {ls : Array Slot} (hl : lv_has ls 5 [(0, .ref b)])
    (hend : ∀ (H : Heap) (locs : List Loc) (ls : Array Slot) (cells slots : Nat), va_S (lcA s) s.heap H locs → s.heap.size + 310 ≤ H.size → cells ≤ 9000 → slots ≤ 60000 → W p l e Rb s m #[Value.ref b] below meth c H locs cells slots Q (F0 m 116 ls [.int 1])) : W p l e Rb s m #[Value.ref b] below meth c s.heap [] 0 0 Q (F0 m 0 ls []) := by
  have C1 := C0
  obtain ⟨hx, hb, hml, hown, hts, hl0, hX, hbl, hxs, hN, hNs, hNb, hK, hE, hZ⟩ := C1
  have hA : ∀ q : Nat, s.heap.size ≤ q → lcA s q := fun q h => h
  have hS : va_S (lcA s) s.heap s.heap [] := va_S.rf
  have hP : va_P D clW [] s.heap := fun k q hq => by cases hq
  have hD : va_D (lcA s) [] := ⟨fun i j p q hp _ _ => (by cases hp), fun k q hq => (by cases hq)⟩
  refine va_new (ci := 6) (fs := [.null, .null, .null, .int 0, .null, .null, .null, .null]) (C := RX6) (T := TX6) (N := 8) hx hb hts inlX6 tyX6 tyX6_ok hown (hts _ wm_0) (hts _ wm_1) (hts _ wm_2) hK hP hD hS hA rfl (fun j hj => by rcases (show j = 0 ∨ j = 1 ∨ j = 2 ∨ j = 3 ∨ j = 4 ∨ j = 5 ∨ j = 6 ∨ j = 7 by omega) with rfl | rfl | rfl | rfl | rfl | rfl | rfl | rfl <;> rfl) (Nat.le_of_ble_eq_true rfl) (Nat.le_of_ble_eq_true rfl) dL_law_0 (fun h1 H hP hD hS => ?_)
  have hP : va_P D clW [(h1, .inr (6, [.null, .null, .null, .int 0, .null, .null, .null, .null]))] H := hP
  have hD : va_D (lcA s) [(h1, .inr (6, [.null, .null, .null, .int 0, .null, .null, .null, .null]))] := hD
  refine lv_dup hx hb dL_law_3 rfl ?_
  have hF := va_free (wc := [(h1, .inr (6, [.null, .null, .null, .int 0, .null, .null, .null, .null]))]) hD hS hA [0] rfl
  refine va_callv (va_runI (As := []) (rest := [.ref h1]) ⟨hx, hb, hml, hown, hts⟩ (c_X6_init l D cy h1 H.size) (cw_L_144 hts rfl rfl ⟨Nat.le_of_ble_eq_true rfl, Nat.le_of_ble_eq_true rfl⟩) (preIWN hNs hK hP hD) rfl rfl hl.1 rfl (lv_room (Nat.le_of_ble_eq_true rfl)) dL_law_4 ⟨Nat.le_of_ble_eq_true rfl, Nat.le_of_ble_eq_true rfl⟩) hS (fun q _ h => hF q h) hF (fun u t9 H1 locs ht hvm h9 hB hz1 hk1 hS => ?_)
  obtain ⟨hP1, hD1⟩ := hB
  rw [ht] at hP1
  have hD2 : va_D (lcA s) (wC cy u I0 S0) := ⟨hD1.1, fun k q hq => hF _ (hD1.2 k q hq)⟩
  clear hF hD1 hk1 hz1 hP hD
  have h9 : u 0 = h1 := h9
  subst h9
  generalize H1 = H at hP1 hS ⊢
  have hP := hP1
  have hD := hD2
  clear hP1 hD2
  refine lv_astore_n (lv' := [(1, .ref (u 0)), (0, .ref b)]) hx hb dL_law_7 rfl hl (by decide) rfl (fun ls hl => ?_)
  refine va_new (ci := 7) (fs := [.null, .null, .null, .null, .null, .null, .null, .int 0, .int 0, .int 0, .null, .null]) (C := RX7) (T := TX7) (N := 12) hx hb hts inlX7 tyX7 tyX7_ok hown (hts _ wm_3) (hts _ wm_4) (hts _ wm_5) hK hP hD hS hA rfl (fun j hj => by rcases (show j = 0 ∨ j = 1 ∨ j = 2 ∨ j = 3 ∨ j = 4 ∨ j = 5 ∨ j = 6 ∨ j = 7 ∨ j = 8 ∨ j = 9 ∨ j = 10 ∨ j = 11 by omega) with rfl | rfl | rfl | rfl | rfl | rfl | rfl | rfl | rfl | rfl | rfl | rfl <;> rfl) (Nat.le_of_ble_eq_true rfl) (Nat.le_of_ble_eq_true rfl) dL_law_8 (fun h2 H hP hD hS => ?_)
  refine lv_dup hx hb dL_law_11 rfl ?_
  have hPc := hP.sub (ws' := [(h2, .inr (7, [.null, .null, .null, .null, .null, .null, .null, .int 0, .int 0, .int 0, .null, .null]))]) [29] rfl
  have hDc := hD.sub (ws' := [(h2, .inr (7, [.null, .null, .null, .null, .null, .null, .null, .int 0, .int 0, .int 0, .null, .null]))]) [29] (by decide) rfl
  have hF := va_free (wc := [(h2, .inr (7, [.null, .null, .null, .null, .null, .null, .null, .int 0, .int 0, .int 0, .null, .null]))]) hD hS hA [29] rfl
  refine va_callv (va_runIN (As := []) (rest := [.ref h2]) ⟨hx, hb, hml, hown, hts⟩ (c_X7_init l D cy h2 H.size) ⟨va_cnB 0 hts (gUI wm_85) rfl rfl rfl hNb (hts _ wm_5) (by decide +kernel) ⟨Nat.le_of_ble_eq_true rfl, Nat.le_of_ble_eq_true rfl⟩, rfl, hts _ wm_84⟩ (preIW hK hPc hDc) rfl rfl hl.1 rfl (lv_room (Nat.le_of_ble_eq_true rfl)) dL_law_12 ⟨Nat.le_of_ble_eq_true rfl, Nat.le_of_ble_eq_true rfl⟩) hS (fun q _ h => hF q h) hF (fun u2 t9 H1 locs ht hvm h9 hB hz1 hk1 hS => ?_)
  obtain ⟨hP1, hD1⟩ := hB
  rw [ht] at hP1
  obtain ⟨hPn, hDn⟩ := va_join (wr := wC cy u I0 S0) (w1 := wM cy u2 I0 S0) hP hD [29] [0, 1, 2, 3, 4, 5, 6, 7, 8, 9, 10, 11, 12, 13, 14, 15, 16, 17, 18, 19, 20, 21, 22, 23, 24, 25, 26, 27, 28] rfl rfl (by decide) (by decide) hk1 hF hP1 hD1
  clear hPc hDc hF hP1 hD1 hk1 hz1 hP hD
  have h9 : u2 0 = h2 := h9
  subst h9
  generalize H1 = H at hPn hS ⊢
  have hP := hPn
  have hD := hDn
  clear hPn hDn
  refine lv_astore_n (lv' := [(2, .ref (u2 0)), (1, .ref (u 0)), (0, .ref b)]) hx hb dL_law_15 rfl hl (by decide) rfl (fun ls hl => ?_)
  refine lv_iconst (v := 1) hx hb dL_law_16 (by decide) ?_
  refine lv_istore_n (lv' := [(3, .int 1), (2, .ref (u2 0)), (1, .ref (u 0)), (0, .ref b)]) hx hb dL_law_17 rfl hl (by decide) rfl (fun ls hl => ?_)
  refine lv_iconst (v := 0) hx hb dL_law_18 (by decide) ?_
  refine lv_istore (lv' := [(4, .int 0), (3, .int 1), (2, .ref (u2 0)), (1, .ref (u 0)), (0, .ref b)]) hx hb dL_law_19 hl (by decide) rfl (fun ls hl => ?_)
  have hl : lv_has ls 5 [(4, .int 0), (3, .int 1), (2, .ref (u2 0)), (1, .ref (u 0)), (0, .ref b)] := lv_sub hl [0, 1, 2, 3, 4] rfl
  refine lv_iload hx hb dL_law_21 (lv_at hl 0 rfl) ?_
  refine lv_iconst (v := 3) hx hb dL_law_23 (by decide) ?_
  refine lv_icmp_ge (tgt := 52) hx hb dL_law_24 (by decide) (fun c => absurd c (by decide)) (fun _ => ?_)
  refine lv_iload_n hx hb dL_law_27 rfl (lv_at hl 1 rfl) ?_
  refine lv_if_eq (tgt := 44) hx hb dL_law_28 (by decide) (fun c => absurd c (by decide)) (fun _ => ?_)
  refine lv_aload_n hx hb dL_law_31 rfl (lv_at hl 3 rfl) ?_
  have hPc : va_P D clW ([] ++ ((wC cy u I0 S0) ++ ((wM cy u2 I0 S0) ++ []))) H := hP
  have hDc : va_D (lcA s) ([] ++ ((wC cy u I0 S0) ++ ((wM cy u2 I0 S0) ++ []))) := hD
  refine xcI_call (vx_runV (As := []) (rest := []) ⟨hx, hb, hml, hown, hts⟩ (c_X6_addEntity l hl0 D cy u I0 S0 H.size 0 rfl (by omega)) (cw_L_146 hts rfl rfl ⟨Nat.le_of_ble_eq_true rfl, Nat.le_of_ble_eq_true rfl⟩) (preVWX (ci := 6) (q0 := 0) hK hE (hZ.now hS) (blkF hDc hS hA) (blkY hPc) (blkYD hDc) rfl rfl) rfl rfl hl.1 rfl (lv_room (Nat.le_of_ble_eq_true rfl)) dL_law_32 ⟨Nat.le_of_ble_eq_true rfl, Nat.le_of_ble_eq_true rfl⟩) hPc hDc hS hA (fun _ => rfl) (fun _ => rfl) (fun E ce q9 ux H9 locs9 hpx hP hD hS hce hcv hcl => absurd hpx.1.2 (by decide)) (fun r un H locs hr_ hP hD hS => ?_)
  refine top_eq (y := 0) hr_.1 ?_
  refine lv_iload hx hb dL_law_35 (lv_at hl 0 rfl) ?_
  refine lv_icmp_ne (tgt := 44) hx hb dL_law_37 (by decide) (fun c => absurd (by decide) c) (fun _ => ?_)
  refine lv_iconst (v := 1) hx hb dL_law_40 (by decide) ?_
  refine lv_goto (tgt := 45) hx hb dL_law_41 (by decide) ?_
  refine lv_istore_n (lv' := [(3, .int 1), (4, .int 0), (2, .ref (u2 0)), (1, .ref (u 0)), (0, .ref b)]) hx hb dL_law_45 rfl hl (by decide) rfl (fun ls hl => ?_)
  refine lv_iinc (v := 1) (lv' := [(4, .int 1), (3, .int 1), (2, .ref (u2 0)), (1, .ref (u 0)), (0, .ref b)]) hx hb dL_law_46 hl (k := 1) rfl rfl (by decide) rfl (fun ls hl => ?_)
  refine lv_goto (tgt := 21) hx hb dL_law_49 (by decide) ?_
  have hl : lv_has ls 5 [(4, .int 1), (3, .int 1), (2, .ref (u2 0)), (1, .ref (u 0)), (0, .ref b)] := lv_sub hl [0, 1, 2, 3, 4] rfl
  refine lv_iload hx hb dL_law_21 (lv_at hl 0 rfl) ?_
  refine lv_iconst (v := 3) hx hb dL_law_23 (by decide) ?_
  refine lv_icmp_ge (tgt := 52) hx hb dL_law_24 (by decide) (fun c => absurd c (by decide)) (fun _ => ?_)
  refine lv_iload_n hx hb dL_law_27 rfl (lv_at hl 1 rfl) ?_
  refine lv_if_eq (tgt := 44) hx hb dL_law_28 (by decide) (fun c => absurd c (by decide)) (fun _ => ?_)
  refine lv_aload_n hx hb dL_law_31 rfl (lv_at hl 3 rfl) ?_
  have hPc : va_P D clW ([] ++ ((wC cy u (va_up I0 0 (nI 1)) S0) ++ ((wM cy u2 I0 S0) ++ []))) H := hP
  have hDc : va_D (lcA s) ([] ++ ((wC cy u (va_up I0 0 (nI 1)) S0) ++ ((wM cy u2 I0 S0) ++ []))) := hD
  refine xcI_call (vx_runV (As := []) (rest := []) ⟨hx, hb, hml, hown, hts⟩ (c_X6_addEntity l hl0 D cy u (va_up I0 0 (nI 1)) S0 H.size 1 rfl (by omega)) (cw_L_146 hts rfl rfl ⟨Nat.le_of_ble_eq_true rfl, Nat.le_of_ble_eq_true rfl⟩) (preVWX (ci := 6) (q0 := 0) hK hE (hZ.now hS) (blkF hDc hS hA) (blkY hPc) (blkYD hDc) rfl rfl) rfl rfl hl.1 rfl (lv_room (Nat.le_of_ble_eq_true rfl)) dL_law_32 ⟨Nat.le_of_ble_eq_true rfl, Nat.le_of_ble_eq_true rfl⟩) hPc hDc hS hA (fun _ => rfl) (fun _ => rfl) (fun E ce q9 ux H9 locs9 hpx hP hD hS hce hcv hcl => absurd hpx.1.2 (by decide)) (fun r un H locs hr_ hP hD hS => ?_)
  refine top_eq (y := 1) hr_.1 ?_
  refine lv_iload hx hb dL_law_35 (lv_at hl 0 rfl) ?_
  refine lv_icmp_ne (tgt := 44) hx hb dL_law_37 (by decide) (fun c => absurd (by decide) c) (fun _ => ?_)
  refine lv_iconst (v := 1) hx hb dL_law_40 (by decide) ?_
  refine lv_goto (tgt := 45) hx hb dL_law_41 (by decide) ?_
  refine lv_istore_n (lv' := [(3, .int 1), (4, .int 1), (2, .ref (u2 0)), (1, .ref (u 0)), (0, .ref b)]) hx hb dL_law_45 rfl hl (by decide) rfl (fun ls hl => ?_)
  refine lv_iinc (v := 2) (lv' := [(4, .int 2), (3, .int 1), (2, .ref (u2 0)), (1, .ref (u 0)), (0, .ref b)]) hx hb dL_law_46 hl (k := 1) rfl rfl (by decide) rfl (fun ls hl => ?_)
  refine lv_goto (tgt := 21) hx hb dL_law_49 (by decide) ?_
  have hl : lv_has ls 5 [(4, .int 2), (3, .int 1), (2, .ref (u2 0)), (1, .ref (u 0)), (0, .ref b)] := lv_sub hl [0, 1, 2, 3, 4] rfl
  refine lv_iload hx hb dL_law_21 (lv_at hl 0 rfl) ?_
  refine lv_iconst (v := 3) hx hb dL_law_23 (by decide) ?_
  refine lv_icmp_ge (tgt := 52) hx hb dL_law_24 (by decide) (fun c => absurd c (by decide)) (fun _ => ?_)
  refine lv_iload_n hx hb dL_law_27 rfl (lv_at hl 1 rfl) ?_
  refine lv_if_eq (tgt := 44) hx hb dL_law_28 (by decide) (fun c => absurd c (by decide)) (fun _ => ?_)
  refine lv_aload_n hx hb dL_law_31 rfl (lv_at hl 3 rfl) ?_
  have hPc : va_P D clW ([] ++ ((wC cy u (va_up (va_up I0 0 (nI 1)) 0 (nI 2)) S0) ++ ((wM cy u2 I0 S0) ++ []))) H := hP
  have hDc : va_D (lcA s) ([] ++ ((wC cy u (va_up (va_up I0 0 (nI 1)) 0 (nI 2)) S0) ++ ((wM cy u2 I0 S0) ++ []))) := hD
  refine xcI_call (vx_runV (As := []) (rest := []) ⟨hx, hb, hml, hown, hts⟩ (c_X6_addEntity l hl0 D cy u (va_up (va_up I0 0 (nI 1)) 0 (nI 2)) S0 H.size 2 rfl (by omega)) (cw_L_146 hts rfl rfl ⟨Nat.le_of_ble_eq_true rfl, Nat.le_of_ble_eq_true rfl⟩) (preVWX (ci := 6) (q0 := 0) hK hE (hZ.now hS) (blkF hDc hS hA) (blkY hPc) (blkYD hDc) rfl rfl) rfl rfl hl.1 rfl (lv_room (Nat.le_of_ble_eq_true rfl)) dL_law_32 ⟨Nat.le_of_ble_eq_true rfl, Nat.le_of_ble_eq_true rfl⟩) hPc hDc hS hA (fun _ => rfl) (fun _ => rfl) (fun E ce q9 ux H9 locs9 hpx hP hD hS hce hcv hcl => absurd hpx.1.2 (by decide)) (fun r un H locs hr_ hP hD hS => ?_)
  refine top_eq (y := 2) hr_.1 ?_
  refine lv_iload hx hb dL_law_35 (lv_at hl 0 rfl) ?_
  refine lv_icmp_ne (tgt := 44) hx hb dL_law_37 (by decide) (fun c => absurd (by decide) c) (fun _ => ?_)
  refine lv_iconst (v := 1) hx hb dL_law_40 (by decide) ?_
  refine lv_goto (tgt := 45) hx hb dL_law_41 (by decide) ?_
  refine lv_istore_n (lv' := [(3, .int 1), (4, .int 2), (2, .ref (u2 0)), (1, .ref (u 0)), (0, .ref b)]) hx hb dL_law_45 rfl hl (by decide) rfl (fun ls hl => ?_)
  refine lv_iinc (v := 3) (lv' := [(4, .int 3), (3, .int 1), (2, .ref (u2 0)), (1, .ref (u 0)), (0, .ref b)]) hx hb dL_law_46 hl (k := 1) rfl rfl (by decide) rfl (fun ls hl => ?_)
  refine lv_goto (tgt := 21) hx hb dL_law_49 (by decide) ?_
  have hl : lv_has ls 5 [(4, .int 3), (3, .int 1), (2, .ref (u2 0)), (1, .ref (u 0)), (0, .ref b)] := lv_sub hl [0, 1, 2, 3, 4] rfl
  refine lv_iload hx hb dL_law_21 (lv_at hl 0 rfl) ?_
  refine lv_iconst (v := 3) hx hb dL_law_23 (by decide) ?_
  refine lv_icmp_ge (tgt := 52) hx hb dL_law_24 (by decide) (fun _ => ?_) (fun c => absurd (by decide) c)
  refine lv_iconst (v := 0) hx hb dL_law_52 (by decide) ?_
  refine lv_istore (lv' := [(4, .int 0), (3, .int 1), (2, .ref (u2 0)), (1, .ref (u 0)), (0, .ref b)]) hx hb dL_law_53 hl (by decide) rfl (fun ls hl => ?_)
  have hP : va_P D clW (wLF cy u u2 0 0) H := by show va_P D clW (wC cy u (FI 0 0) (FS 0) ++ (wM cy u2 (GJ 0 0) (GT 0 0) ++ [])) H; rw [← e_I0, ← e_S0, ← e_J0, ← e_T0]; exact hP
  have hD : va_D (lcA s) (wLF cy u u2 0 0) := hD.addr rfl
  refine W_wid (k := 42 + 253 * 0) (n := 5053 + 1518 * 0) (Nat.le_of_ble_eq_true rfl) (Nat.le_of_ble_eq_true rfl) ?_
  exact law_loop C0 hend 31 0 (by omega) (by omega) H locs hP hD hS (by have := hS.1; show s.heap.size + 0 ≤ H.size; omega) ls (lv_sub hl [0, 1, 2, 3, 4] rfl)
