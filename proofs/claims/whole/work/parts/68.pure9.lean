/-! PURE: the same answers -/
section ANS
variable {I J : AI} {S T : AS} {en k n h len : Nat} {sl fr to o c osl ofr oto : Nat → Nat}
theorem Nv.lkT (V : Nv I S J T en k n h len sl fr to o c osl ofr oto) (wh t : Int32) (f0 : Nat → Int32) (q : Nat) : lkN T wh t fr to f0 q = lkR (S 8) (S 12) (S 13) (T 9) wh t fr to f0 q := by
  obtain ⟨-, -, -, -, -, ⟨e3, e4, e5, e6, e7, e8⟩, -⟩ := V
  unfold lkN
  rw [e3, e7, e8]
theorem Nv.k8 (V : Nv I S J T en k n h len sl fr to o c osl ofr oto) : k ≤ 180 := by
  obtain ⟨-, -, ⟨-, n1, n2, -⟩, -⟩ := V
  omega
theorem Nv.rel (V : Nv I S J T en k n h len sl fr to o c osl ofr oto) {s tt : Nat} (hs : s < 18) (h1 : h ≤ tt) (h2 : tt ≤ n) (f0 f1 f2 : Nat → Int32) : Rel (T 4) (lkN T (nI s) (nI tt) fr to f0 k) (rdKN S (nI s) (nI tt) fr to f1 k) (rdVN S (nI s) (nI tt) fr to f2 k) k := by
  rw [V.lkT]
  obtain ⟨-, -, ⟨n0, n1, n2, -⟩, F, D, ⟨-, e4, -⟩, -, -, -, G, -⟩ := V
  rw [e4]
  exact rel_of F D n0 n1 G (by omega) (by omega) h1 f0 f1 f2
theorem Nv.find (V : Nv I S J T en k n h len sl fr to o c osl ofr oto) {s tt d : Nat} (hs : s < 18) (h1 : h ≤ tt) (h2 : tt ≤ n) (hd : d < 100) (f0 : Nat → Int32) : lkN T (nI s) (nI tt) fr to f0 k d = fndN S (nI s) (nI d) (nI tt) k := by
  have hk := V.k8
  rw [V.lkT]
  obtain ⟨-, -, ⟨n0, n1, n2, -⟩, F, D, -, -, -, -, G, -⟩ := V
  exact fnd_lk F D n0 n1 hk G (by omega) (by omega) h1 hd f0
theorem Nv.days (V : Nv I S J T en k n h len sl fr to o c osl ofr oto) {s tt a m : Nat} (hs : s < 18) (h1 : h ≤ tt) (h2 : tt ≤ n) (hl : a + m ≤ 100) (f0 : Nat → Int32) : cdN S (nI s) (nI a) (nI (a + m)) (nI tt) k = nI (knN (lkN T (nI s) (nI tt) fr to f0 k) a m) := by
  have hk := V.k8
  rw [V.lkT]
  obtain ⟨-, -, ⟨n0, n1, n2, -⟩, F, D, -, -, -, -, G, -⟩ := V
  exact cd_eq F D n0 n1 hk G (by omega) (by omega) h1 hl f0 (Nat.le_refl k)
/-- the fact of a place, day and tick, in the class's and in the reference's words -/
theorem Nv.fnd (V : Nv I S J T en k n h len sl fr to o c osl ofr oto) {x b d t : Int32} (q : ac I x b d t) : lkM T (slM x b) t fr to k d.toNatClampNeg = fndN S (slI x b) d t k := by
  obtain ⟨s, tt, g1, g2, g3, g4, e1, e2, rfl⟩ := V.n3 q.1 q.2.2.1 q.2.2.2
  obtain ⟨dd, hd, rfl⟩ := dy_n q.2.1
  rw [e1, e2, nI_clamp (by omega)]
  exact V.find g2 g3 g4 hd _
theorem ans_isKnown (V : Nv I S J T en k n h len sl fr to o c osl ofr oto) {x b d t r v w : Int32} {J2 : AI} (hc : (r = 0 ∧ ac I x b d t ∧ v = if fndN S (slI x b) d t k = -1 then 0 else 1) ∨ (r = 1 ∧ ax I x b d t eIOO) ∨ (r = 2 ∧ ax I x b d t eIAE) ∨ (r = 3 ∧ ax I x b d t eUOE)) (hm : J2 0 = dfC J x b d t ∧ (dfC J x b d t = 0 → w = if lkM T (slM x b) t fr to k d.toNatClampNeg = -1 then 0 else 1)) : J2 0 = r ∧ (r = 0 → v = w) := by
  rcases hc with ⟨rfl, q, e⟩ | ⟨rfl, q⟩ | ⟨rfl, q⟩ | ⟨rfl, q⟩
  · exact ⟨hm.1.trans (V.df q), fun _ => by rw [e, hm.2 (V.df q), V.fnd q]⟩
  · exact ⟨hm.1.trans (V.df1 q), fun z => absurd z (by decide)⟩
  · exact ⟨hm.1.trans (V.df2 q), fun z => absurd z (by decide)⟩
  · exact ⟨hm.1.trans (V.df3 q), fun z => absurd z (by decide)⟩
/-- the reference's valueAt -/
abbrev vaM (J : AI) (T : AS) (J2 : AI) (fr to : Nat → Nat) (k : Nat) (x b d t w : Int32) : Prop := (dfC J x b d t = 0 → (lkM T (slM x b) t fr to k d.toNatClampNeg = -1 ∧ J2 0 = 4) ∨ (¬ lkM T (slM x b) t fr to k d.toNatClampNeg = -1 ∧ J2 0 = 0 ∧ w = T 4 (lkM T (slM x b) t fr to k d.toNatClampNeg).toNatClampNeg)) ∧ (¬ dfC J x b d t = 0 → J2 0 = dfC J x b d t)
theorem ans_ax (V : Nv I S J T en k n h len sl fr to o c osl ofr oto) {x b d t r : Int32} {J2 : AI} (hm : ¬ dfC J x b d t = 0 → J2 0 = dfC J x b d t) (hc : (r = 1 ∧ ax I x b d t eIOO) ∨ (r = 2 ∧ ax I x b d t eIAE) ∨ (r = 3 ∧ ax I x b d t eUOE)) : J2 0 = r ∧ r ≠ 0 := by
  rcases hc with ⟨rfl, q⟩ | ⟨rfl, q⟩ | ⟨rfl, q⟩
  · rw [V.df1 q] at hm
    exact ⟨hm (by decide), by decide⟩
  · rw [V.df2 q] at hm
    exact ⟨hm (by decide), by decide⟩
  · rw [V.df3 q] at hm
    exact ⟨hm (by decide), by decide⟩
theorem ans_valueAt (V : Nv I S J T en k n h len sl fr to o c osl ofr oto) {x b d t r v w : Int32} {J2 : AI} (hc : (r = 0 ∧ ac I x b d t ∧ ∃ j : Nat, j < k ∧ fndN S (slI x b) d t k = nI j ∧ v = S 9 j) ∨ (r = 1 ∧ ax I x b d t eIOO) ∨ (r = 2 ∧ ax I x b d t eIAE) ∨ (r = 3 ∧ ax I x b d t eUOE) ∨ (r = 4 ∧ ac I x b d t ∧ fndN S (slI x b) d t k = -1)) (hm : vaM J T J2 fr to k x b d t w) : J2 0 = r ∧ (r = 0 → v = w) := by
  have hk := V.k8
  obtain ⟨m1, m2⟩ := hm
  have ho : ∀ z : ((r = 1 ∧ ax I x b d t eIOO) ∨ (r = 2 ∧ ax I x b d t eIAE) ∨ (r = 3 ∧ ax I x b d t eUOE)), J2 0 = r ∧ (r = 0 → v = w) := fun z => ⟨(ans_ax V m2 z).1, fun y => absurd y (ans_ax V m2 z).2⟩
  rcases hc with ⟨rfl, q, j, hj, e1, e2⟩ | z | z | z | ⟨rfl, q, e⟩
  · have m3 := m1 (V.df q)
    rw [V.fnd q, e1] at m3
    rcases m3 with ⟨m4, -⟩ | ⟨-, m4, m5⟩
    · exact absurd m4 (nI_m1 (by omega))
    · rw [nI_clamp (by omega), V.2.2.2.2.2.1.2.1] at m5
      exact ⟨m4, fun _ => e2.trans m5.symm⟩
  · exact ho (Or.inl z)
  · exact ho (Or.inr (Or.inl z))
  · exact ho (Or.inr (Or.inr z))
  · have m3 := m1 (V.df q)
    rw [V.fnd q, e] at m3
    rcases m3 with ⟨-, m4⟩ | ⟨m4, -⟩
    · exact ⟨m4, fun z => absurd z (by decide)⟩
    · exact absurd rfl m4
theorem ans_replay (V : Nv I S J T en k n h len sl fr to o c osl ofr oto) {x b d t r v w : Int32} {J2 : AI} (hc : (r = 0 ∧ v = vlI (rpKN S (slI x b) ofr oto (S 17) t.toNatClampNeg) (rpVN S (slI x b) ofr oto (S 18) t.toNatClampNeg) d ∧ ac I x b d t ∧ kb (rpKN S (slI x b) ofr oto (S 17) t.toNatClampNeg) d = true) ∨ (r = 1 ∧ ax I x b d t eIOO) ∨ (r = 2 ∧ ax I x b d t eIAE) ∨ (r = 3 ∧ ax I x b d t eUOE) ∨ (r = 4 ∧ ac I x b d t ∧ ¬ kb (rpKN S (slI x b) ofr oto (S 17) t.toNatClampNeg) d = true)) (hm : vaM J T J2 fr to k x b d t w) : J2 0 = r ∧ (r = 0 → v = w) := by
  have key : ∀ q : ac I x b d t, (kb (rpKN S (slI x b) ofr oto (S 17) t.toNatClampNeg) d = true ∧ ∃ j : Nat, j < k ∧ fndN S (slI x b) d t k = nI j ∧ vlI (rpKN S (slI x b) ofr oto (S 17) t.toNatClampNeg) (rpVN S (slI x b) ofr oto (S 18) t.toNatClampNeg) d = S 9 j) ∨ (¬ kb (rpKN S (slI x b) ofr oto (S 17) t.toNatClampNeg) d = true ∧ fndN S (slI x b) d t k = -1) := by
    intro q
    have hk := V.k8
    obtain ⟨s, tt, g1, g2, g3, g4, e1, e2, rfl⟩ := V.n3 q.1 q.2.2.1 q.2.2.2
    obtain ⟨dd, hd, rfl⟩ := dy_n q.2.1
    obtain ⟨-, -, ⟨n0, n1, n2, -⟩, F, D, -, -, -, -, G, -, -, R⟩ := V
    rw [e1, nI_clamp (by omega), kb_n hd]
    obtain ⟨R1, R2⟩ := R s tt dd g2 g4 hd (S 17) (S 18)
    by_cases hh : ∃ i : Nat, i < k ∧ hitN sl fr to o c s tt dd i
    · obtain ⟨i, hi, h1⟩ := hh
      obtain ⟨r1, r2⟩ := R1 i hi h1
      refine Or.inl ⟨by rw [r1]; rfl, i, hi, fnd_hit F D n0 n1 hk (by omega) (by omega) hd hi h1, ?_⟩
      unfold vlI
      rw [kb_n hd, r1, nI_clamp (by omega), r2]
      rfl
    · have h1 : ∀ i : Nat, i < k → ¬ hitN sl fr to o c s tt dd i := fun i hi q => hh ⟨i, hi, q⟩
      exact Or.inr ⟨by rw [R2 h1]; exact fun z => absurd z (by decide), fnd_no F n0 n1 (by omega) (by omega) hd h1⟩
  refine ans_valueAt V (v := v) ?_ hm
  rcases hc with ⟨e0, e, q, e2⟩ | z | z | z | ⟨e0, q, e⟩
  · rcases key q with ⟨-, j, hj, g1, g2⟩ | ⟨g1, -⟩
    · exact Or.inl ⟨e0, q, j, hj, g1, e.trans g2⟩
    · exact absurd e2 g1
  · exact Or.inr (Or.inl z)
  · exact Or.inr (Or.inr (Or.inl z))
  · exact Or.inr (Or.inr (Or.inr (Or.inl z)))
  · rcases key q with ⟨g1, -⟩ | ⟨-, g2⟩
    · exact absurd g1 e
    · exact Or.inr (Or.inr (Or.inr (Or.inr ⟨e0, q, g2⟩)))
theorem ans_tx (V : Nv I S J T en k n h len sl fr to o c osl ofr oto) {x b t r : Int32} {J2 : AI} (hm : ¬ afC J x b t = 0 → J2 0 = afC J x b t) (hc : (r = 1 ∧ tx I x b t eIOO) ∨ (r = 2 ∧ tx I x b t eIAE) ∨ (r = 3 ∧ tx I x b t eUOE)) : J2 0 = r ∧ r ≠ 0 := by
  rcases hc with ⟨rfl, q⟩ | ⟨rfl, q⟩ | ⟨rfl, q⟩
  · rw [V.tx1 q] at hm
    exact ⟨hm (by decide), by decide⟩
  · rw [V.tx2 q] at hm
    exact ⟨hm (by decide), by decide⟩
  · rw [V.tx3 q] at hm
    exact ⟨hm (by decide), by decide⟩
theorem ans_knownDays (V : Nv I S J T en k n h len sl fr to o c osl ofr oto) {x b t r v w : Int32} {J2 : AI} (hc : (r = 0 ∧ tc I x b t ∧ v = cdN S (slI x b) 0 100 t k) ∨ (r = 1 ∧ tx I x b t eIOO) ∨ (r = 2 ∧ tx I x b t eIAE) ∨ (r = 3 ∧ tx I x b t eUOE)) (hm : J2 0 = afC J x b t ∧ (afC J x b t = 0 → w = kdN (lkM T (slM x b) t fr to k) 100)) : J2 0 = r ∧ (r = 0 → v = w) := by
  rcases hc with ⟨rfl, q, e⟩ | z
  · refine ⟨hm.1.trans (V.af q), fun _ => ?_⟩
    rw [e, hm.2 (V.af q)]
    obtain ⟨s, tt, g1, g2, g3, g4, e1, e2, rfl⟩ := V.n3 q.1 q.2.1 q.2.2
    rw [e1, e2, kd_n]
    exact V.days (a := 0) (m := 100) g2 g3 g4 (by omega) _
  · have z2 := ans_tx V (fun _ => hm.1) z
    exact ⟨z2.1, fun y => absurd y z2.2⟩
theorem ans_integral (V : Nv I S J T en k n h len sl fr to o c osl ofr oto) {x b t r : Int32} {v w : Int64} {J2 : AI} (hc : (r = 0 ∧ v = smN (rdKN S (slI x b) t fr to (S 17) k) (rdVN S (slI x b) t fr to (S 18) k) 100 ∧ tc I x b t) ∨ (r = 1 ∧ tx I x b t eIOO) ∨ (r = 2 ∧ tx I x b t eIAE) ∨ (r = 3 ∧ tx I x b t eUOE)) (hm : J2 0 = afC J x b t ∧ (afC J x b t = 0 → w = igN (T 4) (lkM T (slM x b) t fr to k) 100)) : J2 0 = r ∧ (r = 0 → v = w) := by
  rcases hc with ⟨rfl, e, q⟩ | z
  · refine ⟨hm.1.trans (V.af q), fun _ => ?_⟩
    rw [e, hm.2 (V.af q)]
    obtain ⟨s, tt, g1, g2, g3, g4, e1, e2, rfl⟩ := V.n3 q.1 q.2.1 q.2.2
    rw [e1, e2]
    exact (V.rel g2 g3 g4 (T 10) (S 17) (S 18)).sum (Nat.le_trans V.k8 (by decide)) (Nat.le_refl _)
  · have z2 := ans_tx V (fun _ => hm.1) z
    exact ⟨z2.1, fun y => absurd y z2.2⟩
theorem ans_changed (V : Nv I S J T en k n h len sl fr to o c osl ofr oto) {x b t t2 r v w : Int32} {J2 : AI} (hc : (r = 0 ∧ v = cfN (rdKN S (slI x b) t fr to (S 17) k) (rdVN S (slI x b) t fr to (S 18) k) (rdKN S (slI x b) t2 fr to (S 20) k) (rdVN S (slI x b) t2 fr to (S 21) k) 100 ∧ hc2 I x b t t2) ∨ (r = 1 ∧ hx2 I x b t t2 eIOO) ∨ (r = 2 ∧ hx2 I x b t t2 eIAE) ∨ (r = 3 ∧ hx2 I x b t t2 eUOE)) (hm : J2 0 = hfC J x b t t2 ∧ (hfC J x b t t2 = 0 → w = chN (T 4) (lkM T (slM x b) t fr to k) (lkO T (slM x b) t2 fr to k) 100)) : J2 0 = r ∧ (r = 0 → v = w) := by
  rcases hc with ⟨rfl, e, q⟩ | ⟨rfl, q⟩ | ⟨rfl, q⟩ | ⟨rfl, q⟩
  · refine ⟨hm.1.trans (V.hf q), fun _ => ?_⟩
    rw [e, hm.2 (V.hf q)]
    obtain ⟨s, tt, g1, g2, g3, g4, e1, e2, rfl⟩ := V.n3 q.1 q.2.1.1 q.2.2.1
    obtain ⟨s', tt2, -, g2', g3', g4', e1', -, rfl⟩ := V.n3 q.1 q.2.1.2 q.2.2.2
    rw [e1, e2]
    exact (V.rel g2 g3 g4 (T 10) (S 17) (S 18)).differ (V.rel g2 g3' g4' (T 11) (S 20) (S 21)) (Nat.le_trans V.k8 (by decide)) (Nat.le_refl _)
  · exact ⟨hm.1.trans (V.hx1 q), fun z => absurd z (by decide)⟩
  · exact ⟨hm.1.trans (V.hx2' q), fun z => absurd z (by decide)⟩
  · exact ⟨hm.1.trans (V.hx3 q), fun z => absurd z (by decide)⟩
/-! periods -/
theorem Nv.per (V : Nv I S J T en k n h len sl fr to o c osl ofr oto) {x b t : Int32} (q : tc I x b t) : (jpS S (slI x b) (slI x b) t fr to k).1 = (pmM T (slM x b) t fr to k).1 ∧ ∀ j : Nat, j < (pmM T (slM x b) t fr to k).1 → (jpS S (slI x b) (slI x b) t fr to k).2.1 j = (pmM T (slM x b) t fr to k).2.1 j ∧ (jpS S (slI x b) (slI x b) t fr to k).2.2 j = (pmM T (slM x b) t fr to k).2.2 j := by
  have hk := Nat.le_trans V.k8 (show 180 ≤ 256 by decide)
  obtain ⟨s, tt, g1, g2, g3, g4, e1, e2, rfl⟩ := V.n3 q.1 q.2.1 q.2.2
  rw [e1, e2]
  have R1 := V.rel g2 g3 g4 (T 10) (S 17) (S 18)
  have R2 := V.rel g2 g3 g4 (T 10) (S 20) (S 21)
  have h := per_eq (v := T 4) (o := lkN T (nI s) (nI tt) fr to (T 10) k) (p := T 11) (f := rdKN S (nI s) (nI tt) fr to (S 17) k) (g := rdVN S (nI s) (nI tt) fr to (S 18) k) (f' := rdKN S (nI s) (nI tt) fr to (S 20) k) (g' := rdVN S (nI s) (nI tt) fr to (S 21) k) (F0 := S 23) (T0 := S 24) (F1 := T 12) (B1 := T 13) (z := false) (fun d hd => by
    rw [R1.as hk hd, R2.as hk hd, Bool.and_self]
    unfold lkB
    rw [Bool.not_false, Bool.true_or, Bool.and_true]) (fun d hd => by
    rw [R1.kn hk hd, R2.kn hk hd, Bool.and_self]
    unfold skB
    rw [Bool.false_and, Bool.or_false, decide_not]) 100 (Nat.le_refl _)
  exact ⟨h.1, h.2.1⟩
theorem Nv.join (V : Nv I S J T en k n h len sl fr to o c osl ofr oto) {x b x2 b2 t : Int32} (q : jc I x b x2 b2 t) : (jpS S (slI x b) (slI x2 b2) t fr to k).1 = (pmJ T (slM x b) (slM x2 b2) t fr to k).1 ∧ ∀ j : Nat, j < (pmJ T (slM x b) (slM x2 b2) t fr to k).1 → (jpS S (slI x b) (slI x2 b2) t fr to k).2.1 j = (pmJ T (slM x b) (slM x2 b2) t fr to k).2.1 j ∧ (jpS S (slI x b) (slI x2 b2) t fr to k).2.2 j = (pmJ T (slM x b) (slM x2 b2) t fr to k).2.2 j := by
  have hk := Nat.le_trans V.k8 (show 180 ≤ 256 by decide)
  obtain ⟨s, tt, g1, g2, g3, g4, e1, e2, rfl⟩ := V.n3 q.1.1 q.2.1 q.2.2
  obtain ⟨s', tt', g1', g2', -, -, e1', e2', -⟩ := V.n3 q.1.2 q.2.1 q.2.2
  rw [e1, e2, e1', e2']
  exact (V.rel g2 g3 g4 (T 10) (S 17) (S 18)).per2 (V.rel g2' g3 g4 (T 11) (S 20) (S 21)) hk
theorem Nv.per_le (T : AS) (wh t : Int32) (fr to : Nat → Nat) (k : Nat) : (pmM T wh t fr to k).1 ≤ 100 := pmS_le (T 4) (lkM T wh t fr to k) (T 11) false (T 12) (T 13) 100
theorem Nv.join_le (T : AS) (wh wh2 t : Int32) (fr to : Nat → Nat) (k : Nat) : (pmJ T wh wh2 t fr to k).1 ≤ 100 := pmS_le (T 4) (lkM T wh t fr to k) (lkO T wh2 t fr to k) true (T 12) (T 13) 100
theorem ans_periodCount (V : Nv I S J T en k n h len sl fr to o c osl ofr oto) {x b t r v w : Int32} {J2 : AI} (hc : (r = 0 ∧ v = nI (jpS S (slI x b) (slI x b) t fr to k).1 ∧ jc I x b x b t) ∨ (r = 1 ∧ jx I x b x b t eIOO) ∨ (r = 2 ∧ jx I x b x b t eIAE) ∨ (r = 3 ∧ jx I x b x b t eUOE)) (hm : (¬ afC J x b t = 0 → J2 0 = afC J x b t) ∧ (afC J x b t = 0 → J2 0 = 0 ∧ w = nI (pmM T (slM x b) t fr to k).1)) : J2 0 = r ∧ (r = 0 → v = w) := by
  have ho : ∀ z : ((r = 1 ∧ tx I x b t eIOO) ∨ (r = 2 ∧ tx I x b t eIAE) ∨ (r = 3 ∧ tx I x b t eUOE)), J2 0 = r ∧ (r = 0 → v = w) := fun z => ⟨(ans_tx V hm.1 z).1, fun y => absurd y (ans_tx V hm.1 z).2⟩
  rcases hc with ⟨rfl, e, q⟩ | z | z | z
  · obtain ⟨m1, m2⟩ := hm.2 (V.af (jc_tc q))
    exact ⟨m1, fun _ => by rw [e, m2, (V.per (jc_tc q)).1]⟩
  · exact ho (Or.inl ⟨z.1, jx_tx z.2⟩)
  · exact ho (Or.inr (Or.inl ⟨z.1, jx_tx z.2⟩))
  · exact ho (Or.inr (Or.inr ⟨z.1, jx_tx z.2⟩))
/-- a period by its number: the answers f of the class's, g of the reference's lists are the same below the count -/
theorem ans_ix {q0 q1 : Nat} (hq : q0 = q1) (hq1 : q1 ≤ 100) {ix r v w : Int32} {J2 : AI} {f g : Nat → Int32} (hfg : ∀ j : Nat, j < q1 → f j = g j) (hc : (r = 0 ∧ v = f ix.toNatClampNeg ∧ ixP (nI q0) ix) ∨ (r = 4 ∧ ¬ ixP (nI q0) ix)) (hm : (inB ix 0 (nI q1 - 1) = true ∧ J2 0 = 0 ∧ w = g ix.toNatClampNeg) ∨ (¬ inB ix 0 (nI q1 - 1) = true ∧ J2 0 = 4)) : J2 0 = r ∧ (r = 0 → v = w) := by
  subst hq
  have hix := ix_iff (q := q0) (by omega) ix
  rcases hc with ⟨rfl, e, q⟩ | ⟨rfl, q⟩
  · rcases hm with ⟨-, m1, m2⟩ | ⟨m1, -⟩
    · refine ⟨m1, fun _ => ?_⟩
      obtain ⟨j, hj, rfl⟩ := ixP_of (by omega) q
      rw [e, m2, nI_clamp (by omega)]
      exact hfg j hj
    · exact absurd (hix.mp q) m1
  · rcases hm with ⟨m1, -⟩ | ⟨-, m1⟩
    · exact absurd (hix.mpr m1) q
    · exact ⟨m1, fun z => absurd z (by decide)⟩
theorem ans_period (V : Nv I S J T en k n h len sl fr to o c osl ofr oto) {x b t ix r v w : Int32} {J2 : AI} {f g : Nat → Int32} (hfg : tc I x b t → ∀ j : Nat, j < (pmM T (slM x b) t fr to k).1 → f j = g j) (hc : (r = 0 ∧ v = f ix.toNatClampNeg ∧ jc I x b x b t ∧ ixP (nI (jpS S (slI x b) (slI x b) t fr to k).1) ix) ∨ (r = 1 ∧ jx I x b x b t eIOO) ∨ (r = 2 ∧ jx I x b x b t eIAE) ∨ (r = 3 ∧ jx I x b x b t eUOE) ∨ (r = 4 ∧ jc I x b x b t ∧ ¬ ixP (nI (jpS S (slI x b) (slI x b) t fr to k).1) ix))
    (hm : (¬ afC J x b t = 0 → J2 0 = afC J x b t) ∧ (afC J x b t = 0 → (inB ix 0 (nI (pmM T (slM x b) t fr to k).1 - 1) = true ∧ J2 0 = 0 ∧ w = g ix.toNatClampNeg) ∨ (¬ inB ix 0 (nI (pmM T (slM x b) t fr to k).1 - 1) = true ∧ J2 0 = 4))) : J2 0 = r ∧ (r = 0 → v = w) := by
  have ho : ∀ z : ((r = 1 ∧ tx I x b t eIOO) ∨ (r = 2 ∧ tx I x b t eIAE) ∨ (r = 3 ∧ tx I x b t eUOE)), J2 0 = r ∧ (r = 0 → v = w) := fun z => ⟨(ans_tx V hm.1 z).1, fun y => absurd y (ans_tx V hm.1 z).2⟩
  rcases hc with ⟨e0, e, q, q2⟩ | z | z | z | ⟨e0, q, q2⟩
  · exact ans_ix (V.per (jc_tc q)).1 (Nv.per_le T _ _ fr to k) (hfg (jc_tc q)) (Or.inl ⟨e0, e, q2⟩) (hm.2 (V.af (jc_tc q)))
  · exact ho (Or.inl ⟨z.1, jx_tx z.2⟩)
  · exact ho (Or.inr (Or.inl ⟨z.1, jx_tx z.2⟩))
  · exact ho (Or.inr (Or.inr ⟨z.1, jx_tx z.2⟩))
  · exact ans_ix (V.per (jc_tc q)).1 (Nv.per_le T _ _ fr to k) (hfg (jc_tc q)) (Or.inr ⟨e0, q2⟩) (hm.2 (V.af (jc_tc q)))
/-- the value of a period -/
theorem Nv.pval (V : Nv I S J T en k n h len sl fr to o c osl ofr oto) {x b t : Int32} (q : tc I x b t) {j : Nat} (hj : j < (pmM T (slM x b) t fr to k).1) : vlI (rdKN S (slI x b) t fr to (S 17) k) (rdVN S (slI x b) t fr to (S 18) k) ((jpS S (slI x b) (slI x b) t fr to k).2.1 j) = T 4 (lkM T (slM x b) t fr to k ((pmM T (slM x b) t fr to k).2.1 j).toNatClampNeg).toNatClampNeg := by
  have hk := Nat.le_trans V.k8 (show 180 ≤ 256 by decide)
  rw [((V.per q).2 j hj).1]
  obtain ⟨⟨x9, h1, h2, h3⟩, -⟩ := pm_F (T 4) (lkM T (slM x b) t fr to k) (T 11) false (T 12) (T 13) 100 j hj
  have h2' : (pmM T (slM x b) t fr to k).2.1 j = nI x9 := h2
  rw [h2', nI_clamp (by omega)]
  obtain ⟨s, tt, g1, g2, g3, g4, e1, e2, rfl⟩ := V.n3 q.1 q.2.1 q.2.2
  rw [e2] at h3
  rw [e1, e2, (V.rel g2 g3 g4 (T 10) (S 17) (S 18)).vl hk h1, if_neg h3]
theorem ans_jx (V : Nv I S J T en k n h len sl fr to o c osl ofr oto) {x b x2 b2 t r : Int32} {J2 : AI} (hm : ¬ jfC J x b x2 b2 t = 0 → J2 0 = jfC J x b x2 b2 t) (hc : (r = 1 ∧ jx I x b x2 b2 t eIOO) ∨ (r = 2 ∧ jx I x b x2 b2 t eIAE) ∨ (r = 3 ∧ jx I x b x2 b2 t eUOE)) : J2 0 = r ∧ r ≠ 0 := by
  rcases hc with ⟨rfl, q⟩ | ⟨rfl, q⟩ | ⟨rfl, q⟩
  · rw [V.jx1 q] at hm
    exact ⟨hm (by decide), by decide⟩
  · rw [V.jx2 q] at hm
    exact ⟨hm (by decide), by decide⟩
  · rw [V.jx3 q] at hm
    exact ⟨hm (by decide), by decide⟩
theorem ans_joinV (V : Nv I S J T en k n h len sl fr to o c osl ofr oto) {x b x2 b2 t r v w v0 w0 : Int32} {J2 : AI} (he : jc I x b x2 b2 t → v0 = w0) (hc : (r = 0 ∧ v = v0 ∧ jc I x b x2 b2 t) ∨ (r = 1 ∧ jx I x b x2 b2 t eIOO) ∨ (r = 2 ∧ jx I x b x2 b2 t eIAE) ∨ (r = 3 ∧ jx I x b x2 b2 t eUOE)) (hm : (¬ jfC J x b x2 b2 t = 0 → J2 0 = jfC J x b x2 b2 t) ∧ (jfC J x b x2 b2 t = 0 → J2 0 = 0 ∧ w = w0)) : J2 0 = r ∧ (r = 0 → v = w) := by
  rcases hc with ⟨rfl, e, q⟩ | z
  · obtain ⟨m1, m2⟩ := hm.2 (V.jf q)
    exact ⟨m1, fun _ => by rw [e, m2, he q]⟩
  · have z2 := ans_jx V hm.1 z
    exact ⟨z2.1, fun y => absurd y z2.2⟩
theorem ans_joinI (V : Nv I S J T en k n h len sl fr to o c osl ofr oto) {x b x2 b2 t ix r v w : Int32} {J2 : AI} {f g : Nat → Int32} (hfg : jc I x b x2 b2 t → ∀ j : Nat, j < (pmJ T (slM x b) (slM x2 b2) t fr to k).1 → f j = g j) (hc : (r = 0 ∧ v = f ix.toNatClampNeg ∧ jc I x b x2 b2 t ∧ ixP (nI (jpS S (slI x b) (slI x2 b2) t fr to k).1) ix) ∨ (r = 1 ∧ jx I x b x2 b2 t eIOO) ∨ (r = 2 ∧ jx I x b x2 b2 t eIAE) ∨ (r = 3 ∧ jx I x b x2 b2 t eUOE) ∨ (r = 4 ∧ jc I x b x2 b2 t ∧ ¬ ixP (nI (jpS S (slI x b) (slI x2 b2) t fr to k).1) ix))
    (hm : (¬ jfC J x b x2 b2 t = 0 → J2 0 = jfC J x b x2 b2 t) ∧ (jfC J x b x2 b2 t = 0 → (inB ix 0 (nI (pmJ T (slM x b) (slM x2 b2) t fr to k).1 - 1) = true ∧ J2 0 = 0 ∧ w = g ix.toNatClampNeg) ∨ (¬ inB ix 0 (nI (pmJ T (slM x b) (slM x2 b2) t fr to k).1 - 1) = true ∧ J2 0 = 4))) : J2 0 = r ∧ (r = 0 → v = w) := by
  have ho : ∀ z : ((r = 1 ∧ jx I x b x2 b2 t eIOO) ∨ (r = 2 ∧ jx I x b x2 b2 t eIAE) ∨ (r = 3 ∧ jx I x b x2 b2 t eUOE)), J2 0 = r ∧ (r = 0 → v = w) := fun z => ⟨(ans_jx V hm.1 z).1, fun y => absurd y (ans_jx V hm.1 z).2⟩
  rcases hc with ⟨e0, e, q, q2⟩ | z | z | z | ⟨e0, q, q2⟩
  · exact ans_ix (V.join q).1 (Nv.join_le T _ _ _ fr to k) (hfg q) (Or.inl ⟨e0, e, q2⟩) (hm.2 (V.jf q))
  · exact ho (Or.inl z)
  · exact ho (Or.inr (Or.inl z))
  · exact ho (Or.inr (Or.inr z))
  · exact ans_ix (V.join q).1 (Nv.join_le T _ _ _ fr to k) (hfg q) (Or.inr ⟨e0, q2⟩) (hm.2 (V.jf q))
theorem Nv.common (V : Nv I S J T en k n h len sl fr to o c osl ofr oto) {x b x2 b2 t : Int32} (q : jc I x b x2 b2 t) : ccN (rdKN S (slI x b) t fr to (S 17) k) (rdKN S (slI x2 b2) t fr to (S 20) k) 100 = bdN (T 4) (lkM T (slM x b) t fr to k) (lkO T (slM x2 b2) t fr to k) false 100 ∧ caN (rdKN S (slI x b) t fr to (S 17) k) (rdVN S (slI x b) t fr to (S 18) k) (rdKN S (slI x2 b2) t fr to (S 20) k) (rdVN S (slI x2 b2) t fr to (S 21) k) 100 = bdN (T 4) (lkM T (slM x b) t fr to k) (lkO T (slM x2 b2) t fr to k) true 100 := by
  have hk := Nat.le_trans V.k8 (show 180 ≤ 256 by decide)
  obtain ⟨s, tt, g1, g2, g3, g4, e1, e2, rfl⟩ := V.n3 q.1.1 q.2.1 q.2.2
  obtain ⟨s', tt', g1', g2', -, -, e1', e2', -⟩ := V.n3 q.1.2 q.2.1 q.2.2
  rw [e1, e2, e1', e2']
  have R1 := V.rel g2 g3 g4 (T 10) (S 17) (S 18)
  have R2 := V.rel g2' g3 g4 (T 11) (S 20) (S 21)
  exact ⟨R1.common R2 hk (Nat.le_refl _), R1.agree R2 hk (Nat.le_refl _)⟩
end ANS
