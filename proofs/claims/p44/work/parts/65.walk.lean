/-! out of any start of the Statement's that leaves the larger room, over the run's script: the end, and how many cells there are -/
theorem st_c1 : ∀ X ∈ exN, Cond.castable X X ∈ lw_tbl := by decide +kernel
theorem st_c2 : ∀ x ∈ exD, Cond.declares x ∈ lw_tbl := by decide +kernel
theorem st_c3 : ∀ q ∈ exT, Cond.stringRef RX6 q.1 q.2 ∈ lw_tbl := by decide +kernel
theorem st_c4 : ∀ q ∈ nsL, Cond.methodLinkNest RX6 q.1 q.2 RX6 ∈ lw_tbl := by decide +kernel
theorem st_c6 : ∀ q ∈ nfL, Cond.fieldLinkNest RL q.1 "FactLedgerLaw$Book" q.2.1 q.2.2 RL ∈ lw_tbl := by decide +kernel
theorem st_c7 : Cond.methodLinkNest RL 145 yX7_init RL ∈ lw_tbl := by decide +kernel
theorem st_c5 : Cond.laysStatic Bundle.tN "UNASSIGNED_STACK" Bundle.steD ∈ lw_tbl ∧ Cond.laysStatic Bundle.tN "SUPPRESSED_SENTINEL" Bundle.listD ∈ lw_tbl ∧ Cond.initialized Bundle.tN ∈ lw_tbl := by decide +kernel
theorem st_n2 : ∀ q ∈ exT, Cond.exactly (Term.string RX6 q.1) "java/lang/String" ∈ flatC (Cond.and given_1 narrow_1) := by decide +kernel
theorem st_n3 : Cond.isRef (.static Bundle.tN "UNASSIGNED_STACK" Bundle.steD) ∈ flatC (Cond.and given_1 narrow_1) ∧ Cond.isRef (.static Bundle.tN "SUPPRESSED_SENTINEL" Bundle.listD) ∈ flatC (Cond.and given_1 narrow_1) := by decide +kernel
theorem st_ctx {args : Array Value} {s : State} (ht : ∀ w ∈ lw_tbl, w.before args s = true) (hg : (Jvm.Cond.and given_1 narrow_1).before args s = true) : ExS s ∧ ExZ (lcA s) s s.heap ∧ BwS s ∧ NwS s ∧ va_Nw (.methodLinkNest RL 145 yX7_init RL) s := by
  have hs := flat_of_before _ hg
  have hA : ∀ a : Nat, a < s.heap.size → ¬ lcA s a := fun a h => Nat.not_le.mpr h
  refine ⟨⟨⟨fun X hX => va_Nw.of rfl (ht _ (st_c1 X hX)), fun x hx => va_Nw.of rfl (ht _ (st_c2 x hx))⟩, fun q hq => ?_⟩, ⟨?_, ?_⟩, fun q hq => va_Nw.of rfl (ht _ (st_c6 q hq)), fun q hq => va_Nw.of rfl (ht _ (st_c4 q hq)), va_Nw.of rfl (ht _ st_c7)⟩
  · obtain ⟨a, c1, cell, k1, h1, -⟩ := Cond.exactly_spec (args := args) (first := s) (o := none) (s := s) (idx := []) (hs _ (st_n2 q hq))
    exact ⟨a, vk_R.of (ht _ (st_c3 q hq)) h1⟩
  · exact vx_Zqof (ht _ st_c5.1) (ht _ st_c5.2.2) (hs _ st_n3.1) hA
  · exact vx_Zqof (ht _ st_c5.2.1) (ht _ st_c5.2.2) (hs _ st_n3.2) hA
theorem K_of {args : Array Value} {s : State} (hts : ∀ w ∈ wsL_law, w.before args s = true) : ∃ D : va_G, va_K D clW [] s := by
  have key : ∀ c : Nat, ∃ r : ClassId × (Nat → Nat), ∀ q : vw_C, clW[c]? = some q → u_Kn s q.1 q.2.1 q.2.2 r.1 r.2 := by
    intro c
    rcases (show c = 0 ∨ c = 1 ∨ c = 2 ∨ c = 3 ∨ c = 4 ∨ c = 5 ∨ c = 6 ∨ c = 7 ∨ 8 ≤ c by omega) with rfl | rfl | rfl | rfl | rfl | rfl | rfl | rfl | h
    · obtain ⟨a, f, h⟩ := u_known (C := RX0) (T := TX0) (N := 8) hts inlX0 (hts _ wm_17)
      exact ⟨(a, f), fun q hq => by cases hq; exact h⟩
    · obtain ⟨a, f, h⟩ := u_known (C := RX1) (T := TX1) (N := 2) hts inlX1 (hts _ wm_26)
      exact ⟨(a, f), fun q hq => by cases hq; exact h⟩
    · obtain ⟨a, f, h⟩ := u_known (C := RX2) (T := TX2) (N := 2) hts inlX2 (hts _ wm_21)
      exact ⟨(a, f), fun q hq => by cases hq; exact h⟩
    · obtain ⟨a, f, h⟩ := u_known (C := RX3) (T := TX3) (N := 6) hts inlX3 (hts _ wm_13)
      exact ⟨(a, f), fun q hq => by cases hq; exact h⟩
    · obtain ⟨a, f, h⟩ := u_known (C := RX4) (T := TX4) (N := 3) hts inlX4 (hts _ wm_31)
      exact ⟨(a, f), fun q hq => by cases hq; exact h⟩
    · obtain ⟨a, f, h⟩ := u_known (C := RX5) (T := TX5) (N := 4) hts inlX5 (hts _ wm_35)
      exact ⟨(a, f), fun q hq => by cases hq; exact h⟩
    · obtain ⟨a, f, h⟩ := u_known (C := RX6) (T := TX6) (N := 8) hts inlX6 (hts _ wm_1)
      exact ⟨(a, f), fun q hq => by cases hq; exact h⟩
    · obtain ⟨a, f, h⟩ := u_known (C := RX7) (T := TX7) (N := 12) hts inlX7 (hts _ wm_4)
      exact ⟨(a, f), fun q hq => by cases hq; exact h⟩
    · refine ⟨(0, fun _ => 0), fun q hq => ?_⟩
      rw [List.getElem?_eq_none (by simpa using h)] at hq
      cases hq
  exact ⟨(fun c => (Classical.choose (key c)).1, fun c => (Classical.choose (key c)).2), fun c q hq => Classical.choose_spec (key c) q hq, fun k q hq => by cases hq⟩
/-- the script of the run -/
def xsL : List Int32 := [0, 0, 0, 0, 0, 0, 0, 0, 0, 0, 87, 0, 0, 0, 0, 0, 47, 7, 7, 7, 7, 7, 7, 7, 7, 7, 7, 7, 7, 7]
theorem xsL_ok : ∀ k : Nat, k < 30 → xsL.getD k 0 = xE k := by decide +kernel
def bg_P (b : Addr) (args : Array Value) (s : State) : Prop := args = #[.ref b] ∧ s.IntsAt b xsL ∧ (Jvm.Cond.and given_1 narrow_1).before args s = true
def bg_Q (_ : Array Value) (s : State) (o : Outcome) (t : State) : Prop := s.heap.size + 310 ≤ t.heap.size
def bg_Z (below : List Frame) (a : Array Value) (s : State) : State → Prop := fun t => ∃ o, t.status = .running ∧ Ended t below o ∧ bg_Q a s o t
theorem bg_ret {p : Program} {l : Launch} {e : Env} {s : State} {m : MethodId} {below : List Frame} {meth : Method} {c : Code} {b : Nat} (hx : p.tables.exec = Jvm.exec) (hb : c.code = code) (hr : meth.sig.returnType = ret) (hlocks : meth.locks = false) {pc : Nat} {H : Heap} {cells slots : Nat} {ls : Array Slot} (hdg : decode code pc = .ok (.ireturn, 1)) (hH : s.heap.size + 310 ≤ H.size) : W p l e Rb s m #[Value.ref b] below meth c H [] cells slots (bg_Z below #[Value.ref b] s) (F0 m pc ls [.int 1]) := by
  intro T hT X
  obtain ⟨fs, hret, hrun, hended, hW, hframe⟩ := X.leave (v := some (.int 1)) (hlocks := hlocks) (fun h => by rw [hr] at h; cases h)
  have hmeth' : T.vm.method? m = some meth := X.method'
  refine ⟨T.setFrames fs, ?_, .returned (some (.int 1)), hrun, hended, by show s.heap.size + 310 ≤ T.heap.size; rw [hT]; exact hH⟩
  jvm_step X.here [X.here.top, hx, hb, hdg, hmeth', hr, ret, narrow_b1]
  (try refine ⟨rfl, ?_⟩); (try refine ⟨rfl, ?_⟩)
  first | (intro acts; rw [hret _ acts rfl rfl rfl]) | rw [hret _ _ rfl rfl rfl]
  exact Steps.refl _
theorem bg_start {p : Program} {e : Env} {s : State} {m : MethodId} {below : List Frame} {meth : Method} {c : Code} (l : Launch) (hflags : l.flags = flags0) {b : Nat} {xs : Nat → Int32} (hxs : ∀ k : Nat, k < 30 → xs k = xE k)
    (hx : p.tables.exec = Jvm.exec) (hb : c.code = code) (hr : meth.sig.returnType = ret) (hml : c.maxLocals = 5) (hown : s.vm.findClass RL = some m.cls) (htb : ∀ w ∈ lw_tbl, w.before #[Value.ref b] s = true) (hX : va_X b 30 xs s s.heap) (hbl : b < s.heap.size) (hlocks : meth.locks = false) (hg : (Jvm.Cond.and given_1 narrow_1).before #[Value.ref b] s = true) :
    W p l e Rb s m #[Value.ref b] below meth c s.heap [] 0 0 (bg_Z below #[Value.ref b] s) (entryFrame m ([Value.ref b] : List Value).toArray 5) := by
  have hl0 : l.stackTraces = false := by unfold Jvm.Launch.stackTraces; rw [hflags]; decide
  have hts : ∀ w ∈ wsL_law, w.before #[Value.ref b] s = true := fun w hw => htb w (wsL_law_in w hw)
  obtain ⟨hE, hZ, hBw, hNs, hNb⟩ := st_ctx htb hg
  obtain ⟨D, hK0⟩ := K_of hts
  obtain ⟨cy, hK⟩ := K_cy hts hK0
  rw [lg_entry_eq]
  refine law_start (xs := xs) (D := D) (cy := cy) ⟨hx, hb, hml, hown, hts, hl0, hX, hbl, hxs, hBw, hNs, hNb, hK, hE, hZ⟩ (lv_entry [Value.ref b] (Nat.le_of_ble_eq_true rfl)) (fun H locs ls cells slots hS hH h1 h2 => ?_)
  refine va_forget (fun q hq => hS.2.2 q hq) ?_
  exact bg_ret hx hb hr hlocks dL_law_116 hH
set_option maxHeartbeats 4000000 in
theorem bg_walk (l : Launch) (hflags : l.flags = flags0) (b : Addr) : MetFree l x (headSpec (Jvm.Cond.code x code maxLocals ret :: tables_1) Rb) (bg_P b) (fun _ _ _ _ _ => True) bg_Q := by
  refine MetFree.of_bodyS (code := code) (maxLocals := maxLocals) (ret := ret) (by decide) ?_ ?_
  · intro args s m h hn
    obtain ⟨meth, c, h1, h2, h3, h4, h5, h6, -, -⟩ := Cond.code_spec hn (atoms_spec (ws := Jvm.Cond.code x code maxLocals ret :: tables_1) h _ List.mem_cons_self)
    exact ⟨meth, c, h1, h2, h3, h4, h5, h6⟩
  · intro p e s m args below meth c s₁ B hml0 hP _
    obtain ⟨rfl, hx, hgv⟩ := hP
    obtain ⟨scr, harrAt, hlist, hof, hsmall⟩ := hx
    obtain ⟨hcb, hkn, -, -⟩ := State.arrayAt?_spec harrAt
    have hown : s.vm.findClass RL = some m.cls := findClass_of_methodNamed B.named
    have hts0 : ∀ c ∈ (Jvm.Cond.code x code maxLocals ret :: tables_1), c.before #[Value.ref b] s = true := atoms_spec (ws := Jvm.Cond.code x code maxLocals ret :: tables_1) B.pre
    have hts : ∀ w ∈ lw_tbl, w.before #[Value.ref b] s = true := k2_hts_sels lw_privs (fun w hw => hts0 w (List.mem_cons_of_mem _ hw)) lw_privs_ok
    have hml : c.maxLocals = 5 := B.maxLocals_eq (hts0 _ List.mem_cons_self)
    have X₀ : Stand p l e Rb s m #[Value.ref b] below meth c s₁ [] 0 0 := Stand.of_body B
    have hh0 : s₁.heap = s.heap := by rw [B.state]; rfl
    have hsz : scr.slots.size = 30 := by rw [← Array.length_toList, hlist, List.length_map]; rfl
    have hval : ∀ j : Nat, j < 30 → scr.slots[j]? = some (.int (xsL.getD j 0)) := fun j hj => by
      have hj2 : j < xsL.length := hj
      rw [← Array.getElem?_toList, hlist]
      simp [hj2]
    have hbl : b < s.heap.size := (Array.getElem?_eq_some_iff.mp hcb).1
    have hX : va_X b 30 (fun j => xsL.getD j 0) s s.heap := ⟨scr, hcb, hof, hkn, hsz, hval⟩
    have K : W p l e Rb s m #[Value.ref b] below meth c s₁.heap [] 0 0 (bg_Z below #[Value.ref b] s) (entryFrame m ([Value.ref b] : List Value).toArray 5) := by
      rw [hh0]
      exact bg_start l hflags xsL_ok B.exec B.bytes B.returns hml hown hts hX hbl B.notSynchronized hgv
    obtain ⟨t, a1, o, b1, b2, b3⟩ := K s₁ rfl X₀
    exact ⟨t, o, a1, b1, b2, b3⟩
