/-! PURE: what is refused, by both -/
theorem toI (x y : Int32) : (x < y ↔ x.toInt < y.toInt) := Int32.lt_iff_toInt_lt
theorem toL (x y : Int32) : (x ≤ y ↔ x.toInt ≤ y.toInt) := Int32.le_iff_toInt_le
theorem nI_m1t {n : Nat} (hn : n < 100000) : (nI n - 1).toInt = (n : Int) - 1 := by
  rw [show nI n - 1 = nI n - nI 1 from rfl, pk_sub_toInt (by omega) (by decide)]
  omega
theorem at_iff (b : Int32) : atP b ↔ inB b 0 2 = true := by
  unfold atP inB
  rw [decide_eq_true_iff, toI, toI, toI, show (0 : Int32).toInt = 0 from rfl, show (3 : Int32).toInt = 3 from rfl, show (2 : Int32).toInt = 2 from rfl]
  omega
theorem pl_iff {en : Nat} (hen : en ≤ 6) (x b : Int32) : plP (nI en) x b ↔ mplB (nI en) x b = true := by
  unfold plP mplB
  rw [Bool.and_eq_true, ← at_iff]
  refine and_congr_left (fun _ => ?_)
  unfold inB
  rw [decide_eq_true_iff, toI, toI, toI, nI_m1t (by omega), nI_toInt (by omega), show (0 : Int32).toInt = 0 from rfl]
  omega
theorem dy_iff (d : Int32) : dyP d ↔ inB d 0 99 = true := by
  unfold dyP inB
  rw [decide_eq_true_iff, toI, toI, toI, show (0 : Int32).toInt = 0 from rfl, show (100 : Int32).toInt = 100 from rfl, show (99 : Int32).toInt = 99 from rfl]
  omega
theorem dd_iff (x y : Int32) : ddP x y ↔ daB x y = true := by
  unfold ddP daB
  rw [decide_eq_true_iff, toI, toL, toL, toI, show (0 : Int32).toInt = 0 from rfl, show (100 : Int32).toInt = 100 from rfl]
  omega
theorem tk_iff (now t : Int32) : tkP now t ↔ inB t 0 now = true := by
  unfold tkP inB
  rw [decide_eq_true_iff, toI, toL, toI, show (0 : Int32).toInt = 0 from rfl]
  omega
theorem op_iff (now t : Int32) : opP now t ↔ inB t 1 now = true := by
  unfold opP inB
  rw [decide_eq_true_iff, toI, toL, toI, show (1 : Int32).toInt = 1 from rfl]
  omega
theorem ix_iff {q : Nat} (hq : q < 100000) (x : Int32) : ixP (nI q) x ↔ inB x 0 (nI q - 1) = true := by
  unfold ixP inB
  rw [decide_eq_true_iff, toI, toI, toI, nI_m1t hq, nI_toInt (by omega), show (0 : Int32).toInt = 0 from rfl]
  omega
theorem pl_n {en : Nat} (hen : en ≤ 6) {x b : Int32} (h : plP (nI en) x b) : ∃ xx bb : Nat, xx < en ∧ bb < 3 ∧ x = nI xx ∧ b = nI bb := by
  obtain ⟨⟨h1, h2⟩, h3, h4⟩ := h
  rcases pk_ix x (n := en) (by omega) with q | q | ⟨xx, hx, rfl⟩
  · exact absurd q h1
  · exact absurd q (Int32.not_le.mpr h2)
  · rcases pk_ix b (n := 3) (by decide) with q | q | ⟨bb, hb, rfl⟩
    · exact absurd q h3
    · exact absurd q (Int32.not_le.mpr h4)
    · exact ⟨xx, bb, hx, hb, rfl, rfl⟩
theorem at_n {b : Int32} (h : atP b) : ∃ bb : Nat, bb < 3 ∧ b = nI bb := by
  rcases pk_ix b (n := 3) (by decide) with q | q | ⟨bb, hb, rfl⟩
  · exact absurd q h.1
  · exact absurd q (Int32.not_le.mpr h.2)
  · exact ⟨bb, hb, rfl⟩
theorem dy_n {d : Int32} (h : dyP d) : ∃ dd : Nat, dd < 100 ∧ d = nI dd := in_100 ((dy_iff d).mp h)
theorem tk_n {n : Nat} (hn : n ≤ 60) {t : Int32} (h : tkP (nI n) t) : ∃ tt : Nat, tt ≤ n ∧ t = nI tt := tkP_of (by omega) h
section COD
variable {I J : AI} {S T : AS} {en k n h len : Nat} {sl fr to o c osl ofr oto : Nat → Nat}
theorem Nv.pl (V : Nv I S J T en k n h len sl fr to o c osl ofr oto) (x b : Int32) : plP (I 0) x b ↔ mplB (J 1) x b = true := by
  rw [V.1.1, V.2.1.1]
  exact pl_iff V.2.2.1.1 x b
theorem Nv.tk (V : Nv I S J T en k n h len sl fr to o c osl ofr oto) (t : Int32) : tkP (I 1) t ↔ inB t 0 (J 2) = true := by
  rw [V.1.2.1, V.2.1.2.1]
  exact tk_iff _ t
theorem Nv.kp (V : Nv I S J T en k n h len sl fr to o c osl ofr oto) (t : Int32) : kpP (I 3) t ↔ J 5 ≤ t := by
  rw [V.1.2.2.2.1, V.2.1.2.2.2.2.1]
  exact Iff.rfl
/-- a place, a tick: in numbers -/
theorem Nv.n3 (V : Nv I S J T en k n h len sl fr to o c osl ofr oto) {x b t : Int32} (h1 : plP (I 0) x b) (h2 : tkP (I 1) t) (h3 : kpP (I 3) t) : ∃ s tt : Nat, s < 3 * en ∧ s < 18 ∧ h ≤ tt ∧ tt ≤ n ∧ slI x b = nI s ∧ slM x b = nI s ∧ t = nI tt := by
  rw [V.1.1] at h1
  rw [V.1.2.1] at h2
  rw [V.1.2.2.2.1] at h3
  obtain ⟨xx, bb, g1, g2, rfl, rfl⟩ := pl_n V.2.2.1.1 h1
  obtain ⟨tt, g3, rfl⟩ := tk_n V.2.2.1.2.1 h2
  have g4 := V.2.2.1
  have g5 : h ≤ tt := (nI_leI (by omega) (by omega)).mp h3
  exact ⟨3 * xx + bb, tt, by omega, by omega, g5, g3, slI_n xx bb, slM_n xx bb, rfl⟩
theorem Nv.af (V : Nv I S J T en k n h len sl fr to o c osl ofr oto) {x b t : Int32} (q : tc I x b t) : afC J x b t = 0 := by
  unfold afC
  rw [if_pos ((V.pl x b).mp q.1), if_pos ((V.tk t).mp q.2.1), if_pos ((V.kp t).mp q.2.2)]
theorem Nv.af1 (V : Nv I S J T en k n h len sl fr to o c osl ofr oto) {x b t : Int32} (q : ¬ plP (I 0) x b) : afC J x b t = 1 := by
  unfold afC
  rw [if_neg (fun z => q ((V.pl x b).mpr z))]
theorem Nv.af2 (V : Nv I S J T en k n h len sl fr to o c osl ofr oto) {x b t : Int32} (q : plP (I 0) x b) (q2 : ¬ tkP (I 1) t) : afC J x b t = 2 := by
  unfold afC
  rw [if_pos ((V.pl x b).mp q), if_neg (fun z => q2 ((V.tk t).mpr z))]
theorem Nv.af3 (V : Nv I S J T en k n h len sl fr to o c osl ofr oto) {x b t : Int32} (q : plP (I 0) x b) (q2 : tkP (I 1) t) (q3 : ¬ kpP (I 3) t) : afC J x b t = 3 := by
  unfold afC
  rw [if_pos ((V.pl x b).mp q), if_pos ((V.tk t).mp q2), if_neg (fun z => q3 ((V.kp t).mpr z))]
theorem Nv.df (V : Nv I S J T en k n h len sl fr to o c osl ofr oto) {x b d t : Int32} (q : ac I x b d t) : dfC J x b d t = 0 := by
  unfold dfC
  rw [if_pos ((V.pl x b).mp q.1), if_pos (Bool.and_eq_true_iff.mpr ⟨(dy_iff d).mp q.2.1, (V.tk t).mp q.2.2.1⟩), if_pos ((V.kp t).mp q.2.2.2)]
theorem Nv.df1 (V : Nv I S J T en k n h len sl fr to o c osl ofr oto) {x b d t : Int32} (q : ax I x b d t eIOO) : dfC J x b d t = 1 := by
  rcases q with ⟨-, q⟩ | ⟨q, -⟩ | ⟨q, -⟩
  · unfold dfC
    rw [if_neg (fun z => q ((V.pl x b).mpr z))]
  · exact absurd q (by decide)
  · exact absurd q (by decide)
theorem Nv.df2 (V : Nv I S J T en k n h len sl fr to o c osl ofr oto) {x b d t : Int32} (q : ax I x b d t eIAE) : dfC J x b d t = 2 := by
  rcases q with ⟨q, -⟩ | ⟨-, q, q2⟩ | ⟨q, -⟩
  · exact absurd q (by decide)
  · unfold dfC
    rw [if_pos ((V.pl x b).mp q), if_neg (fun z => q2 ⟨(dy_iff d).mpr (Bool.and_eq_true_iff.mp z).1, (V.tk t).mpr (Bool.and_eq_true_iff.mp z).2⟩)]
  · exact absurd q (by decide)
theorem Nv.df3 (V : Nv I S J T en k n h len sl fr to o c osl ofr oto) {x b d t : Int32} (q : ax I x b d t eUOE) : dfC J x b d t = 3 := by
  rcases q with ⟨q, -⟩ | ⟨q, -⟩ | ⟨-, q, q1, q2, q3⟩
  · exact absurd q (by decide)
  · exact absurd q (by decide)
  · unfold dfC
    rw [if_pos ((V.pl x b).mp q), if_pos (Bool.and_eq_true_iff.mpr ⟨(dy_iff d).mp q1, (V.tk t).mp q2⟩), if_neg (fun z => q3 ((V.kp t).mpr z))]
theorem Nv.gf (V : Nv I S J T en k n h len sl fr to o c osl ofr oto) {b d t : Int32} (q : gc I b d t) : gfC J b d t = 0 := by
  unfold gfC
  rw [if_pos ((at_iff b).mp q.1), if_pos (Bool.and_eq_true_iff.mpr ⟨(dy_iff d).mp q.2.1, (V.tk t).mp q.2.2.1⟩), if_pos ((V.kp t).mp q.2.2.2)]
theorem Nv.gf1 {b d t : Int32} (q : gx I b d t eIOO) : gfC J b d t = 1 := by
  rcases q with ⟨-, q⟩ | ⟨q, -⟩ | ⟨q, -⟩
  · unfold gfC
    rw [if_neg (fun z => q ((at_iff b).mpr z))]
  · exact absurd q (by decide)
  · exact absurd q (by decide)
theorem Nv.gf2 (V : Nv I S J T en k n h len sl fr to o c osl ofr oto) {b d t : Int32} (q : gx I b d t eIAE) : gfC J b d t = 2 := by
  rcases q with ⟨q, -⟩ | ⟨-, q, q2⟩ | ⟨q, -⟩
  · exact absurd q (by decide)
  · unfold gfC
    rw [if_pos ((at_iff b).mp q), if_neg (fun z => q2 ⟨(dy_iff d).mpr (Bool.and_eq_true_iff.mp z).1, (V.tk t).mpr (Bool.and_eq_true_iff.mp z).2⟩)]
  · exact absurd q (by decide)
theorem Nv.gf3 (V : Nv I S J T en k n h len sl fr to o c osl ofr oto) {b d t : Int32} (q : gx I b d t eUOE) : gfC J b d t = 3 := by
  rcases q with ⟨q, -⟩ | ⟨q, -⟩ | ⟨-, q, q1, q2, q3⟩
  · exact absurd q (by decide)
  · exact absurd q (by decide)
  · unfold gfC
    rw [if_pos ((at_iff b).mp q), if_pos (Bool.and_eq_true_iff.mpr ⟨(dy_iff d).mp q1, (V.tk t).mp q2⟩), if_neg (fun z => q3 ((V.kp t).mpr z))]
theorem Nv.tx1 (V : Nv I S J T en k n h len sl fr to o c osl ofr oto) {x b t : Int32} (q : tx I x b t eIOO) : afC J x b t = 1 := by
  rcases q with ⟨-, q⟩ | ⟨q, -⟩ | ⟨q, -⟩
  · exact V.af1 q
  · exact absurd q (by decide)
  · exact absurd q (by decide)
theorem Nv.tx2 (V : Nv I S J T en k n h len sl fr to o c osl ofr oto) {x b t : Int32} (q : tx I x b t eIAE) : afC J x b t = 2 := by
  rcases q with ⟨q, -⟩ | ⟨-, q, q2⟩ | ⟨q, -⟩
  · exact absurd q (by decide)
  · exact V.af2 q q2
  · exact absurd q (by decide)
theorem Nv.tx3 (V : Nv I S J T en k n h len sl fr to o c osl ofr oto) {x b t : Int32} (q : tx I x b t eUOE) : afC J x b t = 3 := by
  rcases q with ⟨q, -⟩ | ⟨q, -⟩ | ⟨-, q, q1, q2⟩
  · exact absurd q (by decide)
  · exact absurd q (by decide)
  · exact V.af3 q q1 q2
theorem Nv.jf (V : Nv I S J T en k n h len sl fr to o c osl ofr oto) {x b x2 b2 t : Int32} (q : jc I x b x2 b2 t) : jfC J x b x2 b2 t = 0 := by
  unfold jfC
  rw [if_pos ((V.pl x2 b2).mp q.1.2)]
  exact V.af ⟨q.1.1, q.2⟩
theorem Nv.jx1 (V : Nv I S J T en k n h len sl fr to o c osl ofr oto) {x b x2 b2 t : Int32} (q : jx I x b x2 b2 t eIOO) : jfC J x b x2 b2 t = 1 := by
  rcases q with ⟨-, q⟩ | ⟨q, -⟩ | ⟨q, -⟩
  · unfold jfC
    by_cases e : mplB (J 1) x2 b2 = true
    · rw [if_pos e]
      exact V.af1 (fun z => q ⟨z, (V.pl x2 b2).mpr e⟩)
    · rw [if_neg e]
  · exact absurd q (by decide)
  · exact absurd q (by decide)
theorem Nv.jx2 (V : Nv I S J T en k n h len sl fr to o c osl ofr oto) {x b x2 b2 t : Int32} (q : jx I x b x2 b2 t eIAE) : jfC J x b x2 b2 t = 2 := by
  rcases q with ⟨q, -⟩ | ⟨-, q, q2⟩ | ⟨q, -⟩
  · exact absurd q (by decide)
  · unfold jfC
    rw [if_pos ((V.pl x2 b2).mp q.2)]
    exact V.af2 q.1 q2
  · exact absurd q (by decide)
theorem Nv.jx3 (V : Nv I S J T en k n h len sl fr to o c osl ofr oto) {x b x2 b2 t : Int32} (q : jx I x b x2 b2 t eUOE) : jfC J x b x2 b2 t = 3 := by
  rcases q with ⟨q, -⟩ | ⟨q, -⟩ | ⟨-, q, q1, q2⟩
  · exact absurd q (by decide)
  · exact absurd q (by decide)
  · unfold jfC
    rw [if_pos ((V.pl x2 b2).mp q.2)]
    exact V.af3 q.1 q1 q2
/-- the one place of periods is both places of a join -/
theorem jx_tx {x b t : Int32} {E : String} (q : jx I x b x b t E) : tx I x b t E := by
  rcases q with ⟨q, q1⟩ | ⟨q, q1, q2⟩ | ⟨q, q1, q2⟩
  · exact Or.inl ⟨q, fun z => q1 ⟨z, z⟩⟩
  · exact Or.inr (Or.inl ⟨q, q1.1, q2⟩)
  · exact Or.inr (Or.inr ⟨q, q1.1, q2⟩)
theorem jc_tc {x b t : Int32} (q : jc I x b x b t) : tc I x b t := ⟨q.1.1, q.2⟩
theorem Nv.qm (V : Nv I S J T en k n h len sl fr to o c osl ofr oto) {x b d : Int32} (q : qc I x b d) : qmC J x b d = 0 := by
  unfold qmC
  rw [if_pos ((V.pl x b).mp q.1), if_pos ((dy_iff d).mp q.2)]
theorem Nv.qx1 (V : Nv I S J T en k n h len sl fr to o c osl ofr oto) {x b d : Int32} (q : qx I x b d eIOO) : qmC J x b d = 1 := by
  rcases q with ⟨-, q⟩ | ⟨q, -⟩
  · unfold qmC
    rw [if_neg (fun z => q ((V.pl x b).mpr z))]
  · exact absurd q (by decide)
theorem Nv.qx2 (V : Nv I S J T en k n h len sl fr to o c osl ofr oto) {x b d : Int32} (q : qx I x b d eIAE) : qmC J x b d = 2 := by
  rcases q with ⟨q, -⟩ | ⟨-, q, q2⟩
  · exact absurd q (by decide)
  · unfold qmC
    rw [if_pos ((V.pl x b).mp q), if_neg (fun z => q2 ((dy_iff d).mpr z))]
theorem Nv.hf (V : Nv I S J T en k n h len sl fr to o c osl ofr oto) {x b t t2 : Int32} (q : hc2 I x b t t2) : hfC J x b t t2 = 0 := by
  unfold hfC
  rw [if_pos ((V.pl x b).mp q.1), if_pos (Bool.and_eq_true_iff.mpr ⟨(V.tk t).mp q.2.1.1, (V.tk t2).mp q.2.1.2⟩), if_pos ⟨Int32.not_lt.mpr ((V.kp t).mp q.2.2.1), (V.kp t2).mp q.2.2.2⟩]
theorem Nv.hx1 (V : Nv I S J T en k n h len sl fr to o c osl ofr oto) {x b t t2 : Int32} (q : hx2 I x b t t2 eIOO) : hfC J x b t t2 = 1 := by
  rcases q with ⟨-, q⟩ | ⟨q, -⟩ | ⟨q, -⟩
  · unfold hfC
    rw [if_neg (fun z => q ((V.pl x b).mpr z))]
  · exact absurd q (by decide)
  · exact absurd q (by decide)
theorem Nv.hx2' (V : Nv I S J T en k n h len sl fr to o c osl ofr oto) {x b t t2 : Int32} (q : hx2 I x b t t2 eIAE) : hfC J x b t t2 = 2 := by
  rcases q with ⟨q, -⟩ | ⟨-, q, q2⟩ | ⟨q, -⟩
  · exact absurd q (by decide)
  · unfold hfC
    rw [if_pos ((V.pl x b).mp q), if_neg (fun z => q2 ⟨(V.tk t).mpr (Bool.and_eq_true_iff.mp z).1, (V.tk t2).mpr (Bool.and_eq_true_iff.mp z).2⟩)]
  · exact absurd q (by decide)
theorem Nv.hx3 (V : Nv I S J T en k n h len sl fr to o c osl ofr oto) {x b t t2 : Int32} (q : hx2 I x b t t2 eUOE) : hfC J x b t t2 = 3 := by
  rcases q with ⟨q, -⟩ | ⟨q, -⟩ | ⟨-, q, q1, q2⟩
  · exact absurd q (by decide)
  · exact absurd q (by decide)
  · unfold hfC
    rw [if_pos ((V.pl x b).mp q), if_pos (Bool.and_eq_true_iff.mpr ⟨(V.tk t).mp q1.1, (V.tk t2).mp q1.2⟩), if_neg (fun z => q2 ⟨(V.kp t).mpr (Int32.not_lt.mp z.1), (V.kp t2).mpr z.2⟩)]
end COD
