/-! PURE: the same answers, on -/
section ANS2
variable {I J : AI} {S T : AS} {en k n h len : Nat} {sl fr to o c osl ofr oto : Nat → Nat}
theorem Nv.n2 (V : Nv I S J T en k n h len sl fr to o c osl ofr oto) {x b : Int32} (h1 : plP (I 0) x b) : ∃ xx bb : Nat, xx < en ∧ bb < 3 ∧ 3 * xx + bb < 18 ∧ x = nI xx ∧ b = nI bb ∧ slI x b = nI (3 * xx + bb) ∧ slM x b = nI (3 * xx + bb) := by
  rw [V.1.1] at h1
  obtain ⟨xx, bb, g1, g2, rfl, rfl⟩ := pl_n V.2.2.1.1 h1
  have g4 := V.2.2.1
  exact ⟨xx, bb, g1, g2, by omega, rfl, rfl, slI_n xx bb, slM_n xx bb⟩
theorem Nv.ver (V : Nv I S J T en k n h len sl fr to o c osl ofr oto) {x b : Int32} {dd : Nat} (hd : dd < 100) (q : plP (I 0) x b) : (vqS S (slI x b) (nI dd) k h n).1 = (vmQ T (slM x b) fr to k dd h n).1 ∧ ∀ j : Nat, j < (vmQ T (slM x b) fr to k dd h n).1 → (vqS S (slI x b) (nI dd) k h n).2.1 j = (vmQ T (slM x b) fr to k dd h n).2.1 j ∧ (vqS S (slI x b) (nI dd) k h n).2.2.1 j = (if (vmQ T (slM x b) fr to k dd h n).2.2 j = -1 then 0 else 1) ∧ (vqS S (slI x b) (nI dd) k h n).2.2.2 j = (if (vmQ T (slM x b) fr to k dd h n).2.2 j = -1 then 0 else T 4 ((vmQ T (slM x b) fr to k dd h n).2.2 j).toNatClampNeg) := by
  have hk := Nat.le_trans V.k8 (show 180 ≤ 256 by decide)
  obtain ⟨xx, bb, g1, g2, g3, -, -, e1, e2⟩ := V.n2 q
  rw [e1, e2]
  exact ver_eq hk V.2.2.2.2.2.1.2.1 (fun i hi => V.find g3 (by omega) (by omega) hd _) (fun i => fvG_row T _ fr to k hd i)
theorem ver_le (T : AS) (wh : Int32) (fr to : Nat → Nat) (k d h n : Nat) : (vmQ T wh fr to k d h n).1 ≤ n + 1 := Nat.le_trans (vmR_le _ _ _ _ _ _) (Nat.sub_le _ _)
theorem ans_qx (V : Nv I S J T en k n h len sl fr to o c osl ofr oto) {x b d r : Int32} {J2 : AI} (hm : ¬ qmC J x b d = 0 → J2 0 = qmC J x b d) (hc : (r = 1 ∧ qx I x b d eIOO) ∨ (r = 2 ∧ qx I x b d eIAE)) : J2 0 = r ∧ r ≠ 0 := by
  rcases hc with ⟨rfl, q⟩ | ⟨rfl, q⟩
  · rw [V.qx1 q] at hm
    exact ⟨hm (by decide), by decide⟩
  · rw [V.qx2 q] at hm
    exact ⟨hm (by decide), by decide⟩
theorem ans_versionCount (V : Nv I S J T en k n h len sl fr to o c osl ofr oto) {x b d r v w : Int32} {J2 : AI} (hc : (r = 0 ∧ v = nI (vqS S (slI x b) d k h n).1 ∧ qc I x b d) ∨ (r = 1 ∧ qx I x b d eIOO) ∨ (r = 2 ∧ qx I x b d eIAE)) (hm : (¬ qmC J x b d = 0 → J2 0 = qmC J x b d) ∧ (qmC J x b d = 0 → J2 0 = 0 ∧ ∃ j : Nat, j < 100 ∧ d = nI j ∧ w = nI (vmQ T (slM x b) fr to k j h n).1)) : J2 0 = r ∧ (r = 0 → v = w) := by
  rcases hc with ⟨rfl, e, q⟩ | z
  · obtain ⟨m1, j, hj, rfl, m2⟩ := hm.2 (V.qm q)
    exact ⟨m1, fun _ => by rw [e, m2, (V.ver hj q.1).1]⟩
  · have z2 := ans_qx V hm.1 z
    exact ⟨z2.1, fun y => absurd y z2.2⟩
theorem ans_version (V : Nv I S J T en k n h len sl fr to o c osl ofr oto) {x b d ix r v w : Int32} {J2 : AI} {P : Nat → Prop} {f g : Nat → Nat → Int32}
    (hfg : ∀ dd : Nat, dd < 100 → d = nI dd → qc I x b d → ∀ j : Nat, j < (vmQ T (slM x b) fr to k dd h n).1 → (P j ↔ ¬ (vmQ T (slM x b) fr to k dd h n).2.2 j = -1) ∧ (P j → f dd j = g dd j))
    (hc : (r = 0 ∧ qc I x b d ∧ ixP (nI (vqS S (slI x b) d k h n).1) ix ∧ P ix.toNatClampNeg ∧ ∀ dd : Nat, d = nI dd → v = f dd ix.toNatClampNeg) ∨ (r = 1 ∧ qx I x b d eIOO) ∨ (r = 2 ∧ qx I x b d eIAE) ∨ (r = 3 ∧ qc I x b d ∧ (ixP (nI (vqS S (slI x b) d k h n).1) ix → ¬ P ix.toNatClampNeg)))
    (hm : (¬ qmC J x b d = 0 → J2 0 = qmC J x b d) ∧ (qmC J x b d = 0 → ∃ j : Nat, j < 100 ∧ d = nI j ∧ ((inB ix 0 (nI (vmQ T (slM x b) fr to k j h n).1 - 1) = true ∧ (((vmQ T (slM x b) fr to k j h n).2.2 ix.toNatClampNeg = -1 ∧ J2 0 = 3) ∨ (¬ (vmQ T (slM x b) fr to k j h n).2.2 ix.toNatClampNeg = -1 ∧ J2 0 = 0 ∧ w = g j ix.toNatClampNeg))) ∨ (¬ inB ix 0 (nI (vmQ T (slM x b) fr to k j h n).1 - 1) = true ∧ J2 0 = 3)))) : J2 0 = r ∧ (r = 0 → v = w) := by
  have hN := V.2.2.1
  have ho : ∀ z : ((r = 1 ∧ qx I x b d eIOO) ∨ (r = 2 ∧ qx I x b d eIAE)), J2 0 = r ∧ (r = 0 → v = w) := fun z => ⟨(ans_qx V hm.1 z).1, fun y => absurd y (ans_qx V hm.1 z).2⟩
  rcases hc with ⟨rfl, q, q2, q3, e⟩ | z | z | ⟨rfl, q, q2⟩
  · obtain ⟨j, hj, rfl, m1⟩ := hm.2 (V.qm q)
    have hle := ver_le T (slM x b) fr to k j h n
    have e1 := (V.ver hj q.1).1
    rw [e1] at q2
    have hix := (ix_iff (by omega) ix).mp q2
    obtain ⟨i, hi, rfl⟩ := ixP_of (by omega) q2
    rw [nI_clamp (by omega)] at q3 m1
    obtain ⟨p1, p2⟩ := hfg j hj rfl q i hi
    rcases m1 with ⟨-, ⟨m2, -⟩ | ⟨-, m2, m3⟩⟩ | ⟨m2, -⟩
    · exact absurd m2 (p1.mp q3)
    · refine ⟨m2, fun _ => ?_⟩
      rw [e j rfl, m3, nI_clamp (by omega)]
      exact p2 q3
    · exact absurd hix m2
  · exact ho (Or.inl z)
  · exact ho (Or.inr z)
  · obtain ⟨j, hj, rfl, m1⟩ := hm.2 (V.qm q)
    have hle := ver_le T (slM x b) fr to k j h n
    have e1 := (V.ver hj q.1).1
    rw [e1] at q2
    rcases m1 with ⟨m0, ⟨m2, m3⟩ | ⟨m2, -⟩⟩ | ⟨-, m2⟩
    · exact ⟨m3, fun z => absurd z (by decide)⟩
    · exfalso
      have q4 := (ix_iff (by omega) ix).mpr m0
      have q5 := q2 q4
      obtain ⟨i, hi, rfl⟩ := ixP_of (by omega) q4
      rw [nI_clamp (by omega)] at q5 m2
      exact q5 ((hfg j hj rfl q i hi).1.mpr m2)
    · exact ⟨m2, fun z => absurd z (by decide)⟩
theorem ans_versionValue (V : Nv I S J T en k n h len sl fr to o c osl ofr oto) {x b d ix r v w : Int32} {J2 : AI}
    (hc : (r = 0 ∧ v = (vqS S (slI x b) d k h n).2.2.2 ix.toNatClampNeg ∧ qc I x b d ∧ ixP (nI (vqS S (slI x b) d k h n).1) ix ∧ ¬ (vqS S (slI x b) d k h n).2.2.1 ix.toNatClampNeg = 0) ∨ (r = 1 ∧ qx I x b d eIOO) ∨ (r = 2 ∧ qx I x b d eIAE) ∨ (r = 3 ∧ qc I x b d ∧ (¬ ixP (nI (vqS S (slI x b) d k h n).1) ix ∨ (ixP (nI (vqS S (slI x b) d k h n).1) ix ∧ (vqS S (slI x b) d k h n).2.2.1 ix.toNatClampNeg = 0))))
    (hm : (¬ qmC J x b d = 0 → J2 0 = qmC J x b d) ∧ (qmC J x b d = 0 → ∃ j : Nat, j < 100 ∧ d = nI j ∧ ((inB ix 0 (nI (vmQ T (slM x b) fr to k j h n).1 - 1) = true ∧ (((vmQ T (slM x b) fr to k j h n).2.2 ix.toNatClampNeg = -1 ∧ J2 0 = 3) ∨ (¬ (vmQ T (slM x b) fr to k j h n).2.2 ix.toNatClampNeg = -1 ∧ J2 0 = 0 ∧ w = T 4 ((vmQ T (slM x b) fr to k j h n).2.2 ix.toNatClampNeg).toNatClampNeg))) ∨ (¬ inB ix 0 (nI (vmQ T (slM x b) fr to k j h n).1 - 1) = true ∧ J2 0 = 3)))) : J2 0 = r ∧ (r = 0 → v = w) := by
  refine ans_version V (P := fun i => ¬ (vqS S (slI x b) d k h n).2.2.1 i = 0) (f := fun _ i => (vqS S (slI x b) d k h n).2.2.2 i) (g := fun j i => T 4 ((vmQ T (slM x b) fr to k j h n).2.2 i).toNatClampNeg) ?_ ?_ hm
  · rintro dd hd rfl q i hi
    obtain ⟨-, e2, e3⟩ := (V.ver hd q.1).2 i hi
    by_cases e : (vmQ T (slM x b) fr to k dd h n).2.2 i = -1
    · have e4 := e2.trans (if_pos e)
      exact ⟨⟨fun z => absurd e4 z, fun z => absurd e z⟩, fun z => absurd e4 z⟩
    · have e4 := e2.trans (if_neg e)
      exact ⟨⟨fun _ => e, fun _ z => absurd (e4.symm.trans z) (by decide)⟩, fun _ => e3.trans (if_neg e)⟩
  · rcases hc with ⟨e0, e, q, q2, q3⟩ | z | z | ⟨e0, q, q2⟩
    · exact Or.inl ⟨e0, q, q2, q3, fun _ _ => e⟩
    · exact Or.inr (Or.inl z)
    · exact Or.inr (Or.inr (Or.inl z))
    · exact Or.inr (Or.inr (Or.inr ⟨e0, q, fun z w => q2.elim (fun y => y z) (fun y => w y.2)⟩))
theorem ans_versionI (V : Nv I S J T en k n h len sl fr to o c osl ofr oto) {x b d ix r v w : Int32} {J2 : AI} {f : Nat → Int32} {g : Nat → Nat → Int32}
    (hfg : ∀ dd : Nat, dd < 100 → d = nI dd → qc I x b d → ∀ j : Nat, j < (vmQ T (slM x b) fr to k dd h n).1 → f j = g dd j)
    (hc : (r = 0 ∧ v = f ix.toNatClampNeg ∧ qc I x b d ∧ ixP (nI (vqS S (slI x b) d k h n).1) ix) ∨ (r = 1 ∧ qx I x b d eIOO) ∨ (r = 2 ∧ qx I x b d eIAE) ∨ (r = 3 ∧ qc I x b d ∧ ¬ ixP (nI (vqS S (slI x b) d k h n).1) ix))
    (hm : (¬ qmC J x b d = 0 → J2 0 = qmC J x b d) ∧ (qmC J x b d = 0 → ∃ j : Nat, j < 100 ∧ d = nI j ∧ ((inB ix 0 (nI (vmQ T (slM x b) fr to k j h n).1 - 1) = true ∧ J2 0 = 0 ∧ w = g j ix.toNatClampNeg) ∨ (¬ inB ix 0 (nI (vmQ T (slM x b) fr to k j h n).1 - 1) = true ∧ J2 0 = 3)))) : J2 0 = r ∧ (r = 0 → v = w) := by
  have hN := V.2.2.1
  have ho : ∀ z : ((r = 1 ∧ qx I x b d eIOO) ∨ (r = 2 ∧ qx I x b d eIAE)), J2 0 = r ∧ (r = 0 → v = w) := fun z => ⟨(ans_qx V hm.1 z).1, fun y => absurd y (ans_qx V hm.1 z).2⟩
  rcases hc with ⟨rfl, e, q, q2⟩ | z | z | ⟨rfl, q, q2⟩
  · obtain ⟨j, hj, rfl, m1⟩ := hm.2 (V.qm q)
    have hle := ver_le T (slM x b) fr to k j h n
    rw [(V.ver hj q.1).1] at q2
    have hix := (ix_iff (by omega) ix).mp q2
    obtain ⟨i, hi, rfl⟩ := ixP_of (by omega) q2
    rcases m1 with ⟨-, m2, m3⟩ | ⟨m2, -⟩
    · refine ⟨m2, fun _ => ?_⟩
      rw [e, m3, nI_clamp (by omega)]
      exact hfg j hj rfl q i hi
    · exact absurd hix m2
  · exact ho (Or.inl z)
  · exact ho (Or.inr z)
  · obtain ⟨j, hj, rfl, m1⟩ := hm.2 (V.qm q)
    have hle := ver_le T (slM x b) fr to k j h n
    rw [(V.ver hj q.1).1] at q2
    rcases m1 with ⟨m0, -⟩ | ⟨-, m2⟩
    · exact absurd ((ix_iff (by omega) ix).mpr m0) q2
    · exact ⟨m2, fun z => absurd z (by decide)⟩
theorem Nv.vtick (V : Nv I S J T en k n h len sl fr to o c osl ofr oto) {x b d : Int32} : ∀ dd : Nat, dd < 100 → d = nI dd → qc I x b d → ∀ j : Nat, j < (vmQ T (slM x b) fr to k dd h n).1 → (vqS S (slI x b) d k h n).2.1 j = (fun dd => (vmQ T (slM x b) fr to k dd h n).2.1) dd j := by
  rintro dd hd rfl q j hj
  exact ((V.ver hd q.1).2 j hj).1
theorem Nv.vkn (V : Nv I S J T en k n h len sl fr to o c osl ofr oto) {x b d : Int32} : ∀ dd : Nat, dd < 100 → d = nI dd → qc I x b d → ∀ j : Nat, j < (vmQ T (slM x b) fr to k dd h n).1 → (fun j => if ¬ (vqS S (slI x b) d k h n).2.2.1 j = 0 then (1 : Int32) else 0) j = (fun dd j => if (vmQ T (slM x b) fr to k dd h n).2.2 j = -1 then 0 else 1) dd j := by
  rintro dd hd rfl q j hj
  obtain ⟨-, e2, -⟩ := (V.ver hd q.1).2 j hj
  show (if ¬ (vqS S (slI x b) (nI dd) k h n).2.2.1 j = 0 then (1 : Int32) else 0) = if (vmQ T (slM x b) fr to k dd h n).2.2 j = -1 then 0 else 1
  by_cases e : (vmQ T (slM x b) fr to k dd h n).2.2 j = -1
  · have e4 := e2.trans (if_pos e)
    rw [if_neg (fun z => z e4), if_pos e]
  · have e4 := e2.trans (if_neg e)
    rw [if_pos (fun z => absurd (e4.symm.trans z) (by decide)), if_neg e]
/-! sums -/
theorem Nv.fq (V : Nv I S J T en k n h len sl fr to o c osl ofr oto) {b d t : Int32} (q : gc I b d t) {e : Nat} (he : e < en) : fqM T b t fr to k d.toNatClampNeg e = fndN S (slI (nI e) b) (nI d.toNatClampNeg) t k ∧ d.toNatClampNeg < 100 ∧ d = nI d.toNatClampNeg := by
  have hN := V.2.2.1
  obtain ⟨q1, q2, q3, q4⟩ := q
  rw [V.1.2.1] at q3
  rw [V.1.2.2.2.1] at q4
  obtain ⟨bb, hb, rfl⟩ := at_n q1
  obtain ⟨dd, hd, rfl⟩ := dy_n q2
  obtain ⟨tt, ht, rfl⟩ := tk_n hN.2.1 q3
  have g5 : h ≤ tt := (nI_leI (by omega) (by omega)).mp q4
  rw [nI_clamp (by omega)]
  refine ⟨?_, hd, rfl⟩
  unfold fqM lkM
  rw [slI_n, slM_n]
  exact V.find (by omega) g5 ht hd _
theorem Nv.dn (V : Nv I S J T en k n h len sl fr to o c osl ofr oto) {b d t : Int32} (q : gc I b d t) : d.toNatClampNeg < 100 ∧ d = nI d.toNatClampNeg := by
  obtain ⟨dd, hd, rfl⟩ := dy_n q.2.1
  rw [nI_clamp (by omega)]
  exact ⟨hd, rfl⟩
theorem Nv.sums (V : Nv I S J T en k n h len sl fr to o c osl ofr oto) {b d t : Int32} (q : gc I b d t) {e : Nat} (he : e ≤ en) : tsM T b t fr to k d.toNatClampNeg e = ttN S b d t k e ∧ tmM T b t fr to k d.toNatClampNeg e = mmN S b d t k e := by
  have hk := Nat.le_trans V.k8 (show 180 ≤ 256 by decide)
  obtain ⟨h1, h2⟩ := V.dn q
  have h3 := sums_eq (S := S) (T := T) (b := b) (t := t) (fr := fr) (to := to) (k := k) (d := d.toNatClampNeg) hk V.2.2.2.2.2.1.2.1 h1 (i := e) (fun e' he' => (V.fq q (by omega)).1)
  rw [← h2] at h3
  exact h3
theorem ans_gx (V : Nv I S J T en k n h len sl fr to o c osl ofr oto) {b d t r : Int32} {J2 : AI} (hm : ¬ gfC J b d t = 0 → J2 0 = gfC J b d t) (hc : (r = 1 ∧ gx I b d t eIOO) ∨ (r = 2 ∧ gx I b d t eIAE) ∨ (r = 3 ∧ gx I b d t eUOE)) : J2 0 = r ∧ r ≠ 0 := by
  rcases hc with ⟨rfl, q⟩ | ⟨rfl, q⟩ | ⟨rfl, q⟩
  · rw [Nv.gf1 (J := J) q] at hm
    exact ⟨hm (by decide), by decide⟩
  · rw [V.gf2 q] at hm
    exact ⟨hm (by decide), by decide⟩
  · rw [V.gf3 q] at hm
    exact ⟨hm (by decide), by decide⟩
theorem ans_total (V : Nv I S J T en k n h len sl fr to o c osl ofr oto) {b d t r v w : Int32} {J2 : AI} (hc : (r = 0 ∧ gc I b d t ∧ v = (ttN S b d t k en).toInt32 ∧ ∀ j : Nat, j ≤ en → rngP (ttN S b d t k j)) ∨ (r = 1 ∧ gx I b d t eIOO) ∨ (r = 2 ∧ gx I b d t eIAE) ∨ (r = 3 ∧ gx I b d t eUOE) ∨ (r = 4 ∧ gc I b d t ∧ ∃ j : Nat, j ≤ en ∧ ¬ rngP (ttN S b d t k j)))
    (hm : (gfC J b d t = 0 → (tlM T b t fr to k d.toNatClampNeg en = true ∧ J2 0 = 4) ∨ (tlM T b t fr to k d.toNatClampNeg en = false ∧ J2 0 = 0 ∧ w = (tsM T b t fr to k d.toNatClampNeg en).toInt32)) ∧ (¬ gfC J b d t = 0 → J2 0 = gfC J b d t)) : J2 0 = r ∧ (r = 0 → v = w) := by
  have ho : ∀ z : ((r = 1 ∧ gx I b d t eIOO) ∨ (r = 2 ∧ gx I b d t eIAE) ∨ (r = 3 ∧ gx I b d t eUOE)), J2 0 = r ∧ (r = 0 → v = w) := fun z => ⟨(ans_gx V hm.2 z).1, fun y => absurd y (ans_gx V hm.2 z).2⟩
  have hl : ∀ q : gc I b d t, (tlM T b t fr to k d.toNatClampNeg en = false ↔ ∀ j : Nat, j ≤ en → rngP (ttN S b d t k j)) := by
    intro q
    have h1 := leaves_eq (S := S) (T := T) (b := b) (t := t) (fr := fr) (to := to) (k := k) (d := d.toNatClampNeg) (i := en) (fun e he => by rw [← (V.dn q).2]; exact (V.sums q he).1)
    rw [← (V.dn q).2] at h1
    exact h1
  rcases hc with ⟨rfl, q, e, e2⟩ | z | z | z | ⟨rfl, q, j, hj, e⟩
  · rcases hm.1 (V.gf q) with ⟨m1, -⟩ | ⟨-, m1, m2⟩
    · rw [(hl q).mpr e2] at m1
      exact absurd m1 (by decide)
    · exact ⟨m1, fun _ => by rw [e, m2, (V.sums q (Nat.le_refl en)).1]⟩
  · exact ho (Or.inl z)
  · exact ho (Or.inr (Or.inl z))
  · exact ho (Or.inr (Or.inr z))
  · rcases hm.1 (V.gf q) with ⟨-, m1⟩ | ⟨m1, -⟩
    · exact ⟨m1, fun z => absurd z (by decide)⟩
    · exact absurd ((hl q).mp m1 j hj) e
theorem ans_mean (V : Nv I S J T en k n h len sl fr to o c osl ofr oto) {b d t r : Int32} {v w : UInt64} {J2 : AI} (hc : (r = 0 ∧ gc I b d t ∧ mmN S b d t k en ≠ 0 ∧ v = FP.ddiv (FP.l2d (ttN S b d t k en)) (FP.i2d (nI (mmN S b d t k en)))) ∨ (r = 1 ∧ gx I b d t eIOO) ∨ (r = 2 ∧ gx I b d t eIAE) ∨ (r = 3 ∧ gx I b d t eUOE) ∨ (r = 4 ∧ gc I b d t ∧ mmN S b d t k en = 0))
    (hm : (gfC J b d t = 0 → (tmM T b t fr to k d.toNatClampNeg en = 0 ∧ J2 0 = 4) ∨ (tmM T b t fr to k d.toNatClampNeg en ≠ 0 ∧ J2 0 = 0 ∧ w = FP.ddiv (FP.l2d (tsM T b t fr to k d.toNatClampNeg en)) (FP.i2d (nI (tmM T b t fr to k d.toNatClampNeg en))))) ∧ (¬ gfC J b d t = 0 → J2 0 = gfC J b d t)) : J2 0 = r ∧ (r = 0 → v = w) := by
  have ho : ∀ z : ((r = 1 ∧ gx I b d t eIOO) ∨ (r = 2 ∧ gx I b d t eIAE) ∨ (r = 3 ∧ gx I b d t eUOE)), J2 0 = r ∧ (r = 0 → v = w) := fun z => ⟨(ans_gx V hm.2 z).1, fun y => absurd y (ans_gx V hm.2 z).2⟩
  rcases hc with ⟨rfl, q, e, e2⟩ | z | z | z | ⟨rfl, q, e⟩
  · have hs := V.sums q (Nat.le_refl en)
    rcases hm.1 (V.gf q) with ⟨m1, -⟩ | ⟨-, m1, m2⟩
    · exact absurd (hs.2.symm.trans m1) e
    · exact ⟨m1, fun _ => by rw [e2, m2, hs.1, hs.2]⟩
  · exact ho (Or.inl z)
  · exact ho (Or.inr (Or.inl z))
  · exact ho (Or.inr (Or.inr z))
  · have hs := V.sums q (Nat.le_refl en)
    rcases hm.1 (V.gf q) with ⟨-, m1⟩ | ⟨m1, -⟩
    · exact ⟨m1, fun z => absurd z (by decide)⟩
    · exact absurd (hs.2.trans e) m1
/-! facts, operations, the line -/
theorem ans_fact (V : Nv I S J T en k n h len sl fr to o c osl ofr oto) {x r v w : Int32} {J2 : AI} {f g : Nat → Int32} (hfg : g = f) (hc : (r = 0 ∧ keptP S k (I 3) x ∧ v = f x.toNatClampNeg) ∨ (r = 1 ∧ ¬ keptP S k (I 3) x)) (hm : J2 0 = (if mfB T (nI k) x = true then 0 else 1) ∧ w = (if mfB T (nI k) x = true then g x.toNatClampNeg else 0)) : J2 0 = r ∧ (r = 0 → v = w) := by
  have hN := V.2.2.1
  have hk := V.k8
  rw [V.1.2.2.2.1] at hc
  have hi := mf_iff V.2.2.2.2.2.2.2.2.2.1 V.2.2.2.1 hN.2.1 hk (by omega) x
  rcases hc with ⟨rfl, q, e⟩ | ⟨rfl, q⟩
  · rw [if_pos (hi.mpr q), if_pos (hi.mpr q)] at hm
    exact ⟨hm.1, fun _ => by rw [e, hm.2, hfg]⟩
  · rw [if_neg (fun z => q (hi.mp z))] at hm
    exact ⟨hm.1, fun z => absurd z (by decide)⟩
theorem ans_opAt (V : Nv I S J T en k n h len sl fr to o c osl ofr oto) {t r v w : Int32} {J2 : AI} (hc : (r = 0 ∧ opP (I 1) t ∧ v = S 2 t.toNatClampNeg) ∨ (r = 1 ∧ ¬ opP (I 1) t)) (hm : (inB t 1 (nI n) = true ∧ w = T 1 t.toNatClampNeg ∧ J2 = va_up J 0 0) ∨ (¬ inB t 1 (nI n) = true ∧ J2 = va_up J 0 1)) : J2 0 = r ∧ (r = 0 → v = w) := by
  rw [V.1.2.1] at hc
  have hi := op_iff (nI n) t
  rcases hc with ⟨rfl, q, e⟩ | ⟨rfl, q⟩
  · rcases hm with ⟨-, m1, rfl⟩ | ⟨m1, -⟩
    · exact ⟨rfl, fun _ => by rw [e, m1, V.2.2.2.2.2.2.1.1]⟩
    · exact absurd (hi.mp q) m1
  · rcases hm with ⟨m1, -⟩ | ⟨-, rfl⟩
    · exact absurd (hi.mpr m1) q
    · exact ⟨rfl, fun z => absurd z (by decide)⟩
theorem ans_entityOf (V : Nv I S J T en k n h len sl fr to o c osl ofr oto) {t r v w : Int32} {J2 : AI} (hc : (r = 0 ∧ opP (I 1) t ∧ v = S 3 t.toNatClampNeg / 3) ∨ (r = 1 ∧ ¬ opP (I 1) t)) (hm : (inB t 1 (nI n) = true ∧ w = T 2 t.toNatClampNeg ∧ J2 = va_up J 0 0) ∨ (¬ inB t 1 (nI n) = true ∧ J2 = va_up J 0 1)) : J2 0 = r ∧ (r = 0 → v = w) := by
  have hN := V.2.2.1
  rw [V.1.2.1] at hc
  have hi := op_iff (nI n) t
  rcases hc with ⟨rfl, q, e⟩ | ⟨rfl, q⟩
  · rcases hm with ⟨-, m1, rfl⟩ | ⟨m1, -⟩
    · refine ⟨rfl, fun _ => ?_⟩
      obtain ⟨j, j1, j2, rfl⟩ := opP_of (by omega) q
      have o1 := V.2.2.2.2.2.2.2.2.2.2.2.1 j j1 j2
      rw [e, m1, nI_clamp (by omega), V.2.2.2.2.2.2.2.1 j j1 j2, o1.1]
      exact pk_div (a := osl j) (d := 3) (by omega) (by decide) (by decide)
    · exact absurd (hi.mp q) m1
  · rcases hm with ⟨m1, -⟩ | ⟨-, rfl⟩
    · exact absurd (hi.mpr m1) q
    · exact ⟨rfl, fun z => absurd z (by decide)⟩
theorem ans_lineAt (V : Nv I S J T en k n h len sl fr to o c osl ofr oto) {x r v w : Int32} {J2 : AI} (hc : (r = 0 ∧ ixP (I 4) x ∧ v = S 15 x.toNatClampNeg) ∨ (r = 1 ∧ ¬ ixP (I 4) x)) (hm : (inB x 0 (nI len - 1) = true ∧ w = T 14 x.toNatClampNeg ∧ J2 = va_up J 0 0) ∨ (¬ inB x 0 (nI len - 1) = true ∧ J2 = va_up J 0 1)) : J2 0 = r ∧ (r = 0 → v = w) := by
  have hN := V.2.2.1
  rw [V.1.2.2.2.2] at hc
  have hi := ix_iff (q := len) (by omega) x
  rcases hc with ⟨rfl, q, e⟩ | ⟨rfl, q⟩
  · rcases hm with ⟨-, m1, rfl⟩ | ⟨m1, -⟩
    · exact ⟨rfl, fun _ => by rw [e, m1, V.2.2.2.2.2.2.1.2]⟩
    · exact absurd (hi.mp q) m1
  · rcases hm with ⟨m1, -⟩ | ⟨-, rfl⟩
    · exact absurd (hi.mpr m1) q
    · exact ⟨rfl, fun z => absurd z (by decide)⟩
theorem Nv.counts (V : Nv I S J T en k n h len sl fr to o c osl ofr oto) : ckN S k (I 3) k = J 3 - J 4 ∧ coN S k = moN T k := by
  have hN := V.2.2.1
  have hk := V.k8
  have hg := gc_le c h k
  refine ⟨?_, (mo_n V.2.2.2.1 hN.2.1 V.2.2.2.2.2.2.2.2.2.1 V.2.2.2.2.2.1.2.2.2.2.2 (Nat.le_refl k)).symm⟩
  rw [V.1.2.2.2.1, V.2.1.2.2.1, V.2.1.2.2.2.1, ck_n V.2.2.2.1 hN.2.1 hk (by omega) (Nat.le_refl k), pk_sub hg]
/-- facts and operations tell the same -/
theorem Nv.con (V : Nv I S J T en k n h len sl fr to o c osl ofr oto) {s : Nat} (hs : s < 18) (f1 g1 f2 g2 : Nat → Int32) : conP S (nI s) n k fr to ofr oto f1 g1 f2 g2 := by
  have hk := V.k8
  have R0 := V.rel hs V.2.2.1.2.2.2.1 (Nat.le_refl n) (fun _ => 0) f1 g1
  refine ⟨?_, ?_⟩
  · have h1 := V.days (a := 0) (m := 100) hs V.2.2.1.2.2.2.1 (Nat.le_refl n) (by omega) (fun _ => 0)
    have h2 : cdN S (nI s) 0 100 (nI n) k = nI (knN (lkN T (nI s) (nI n) fr to (fun _ => 0) k) 0 100) := h1
    rw [h2, R0.common R0 (by omega) (Nat.le_refl _), ← kd_n]
    have h3 : ∀ m : Nat, kdN (lkN T (nI s) (nI n) fr to (fun _ => 0) k) m = bdN (T 4) (lkN T (nI s) (nI n) fr to (fun _ => 0) k) (lkN T (nI s) (nI n) fr to (fun _ => 0) k) false m := by
      intro m
      induction m with
      | zero => rfl
      | succ m ih =>
        rw [kdN, bdN, ih]
        unfold bdB
        rw [Bool.not_false, Bool.true_or, Bool.and_true, Bool.and_self]
        by_cases e : lkN T (nI s) (nI n) fr to (fun _ => 0) k m = -1
        · rw [if_pos e, if_neg (by rw [decide_eq_true_eq]; exact fun z => z e)]
        · rw [if_neg e, if_pos (decide_eq_true e)]
    exact h3 100
  · obtain ⟨-, -, ⟨n0, n1, n2, n3, -⟩, F, D, -, -, -, -, G, -, -, R⟩ := V
    have key : ∀ m : Nat, m ≤ 100 → cfN (rdKN S (nI s) (nI n) fr to f1 k) (rdVN S (nI s) (nI n) fr to g1 k) (rpKN S (nI s) ofr oto f2 n) (rpVN S (nI s) ofr oto g2 n) m = 0 := by
      intro m
      induction m with
      | zero => intro _; rfl
      | succ m ih =>
        intro hm
        rw [cfN, ih (by omega), if_neg]
        · rfl
        · obtain ⟨R1, R2⟩ := R s n m hs (Nat.le_refl n) (by omega) f2 g2
          unfold dfB
          by_cases hh : ∃ i : Nat, i < k ∧ hitN sl fr to o c s n m i
          · obtain ⟨i, hi, h1⟩ := hh
            obtain ⟨r1, r2⟩ := R1 i hi h1
            obtain ⟨q1, -⟩ := rk_hit F D n0 n1 (by omega) (by omega) (show m < 100 by omega) f1 (Nat.le_refl k) hi h1
            obtain ⟨-, q2⟩ := rk_hit F D n0 n1 (by omega) (by omega) (show m < 100 by omega) g1 (Nat.le_refl k) hi h1
            unfold vlI
            rw [kb_n (by omega), kb_n (by omega), r1, q1, nI_clamp (by omega), r2, q2]
            have hy : ∀ y : Int32, ¬ ((decide (¬ (1 : Int32) = 0) != decide (¬ (1 : Int32) = 0)) || !decide (y = y)) = true := fun y => by rw [decide_eq_true (rfl : y = y)]; decide
            exact hy _
          · have h1 : ∀ i : Nat, i < k → ¬ hitN sl fr to o c s n m i := fun i hi q => hh ⟨i, hi, q⟩
            obtain ⟨q1, -⟩ := rk_no F n0 n1 (by omega) (by omega) (show m < 100 by omega) f1 (Nat.le_refl k) h1
            unfold vlI
            rw [kb_n (by omega), kb_n (by omega), R2 h1, q1]
            rw [if_neg (by decide), if_neg (by decide)]
            decide
    exact key 100 (Nat.le_refl _)
end ANS2
