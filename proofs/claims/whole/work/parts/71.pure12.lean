/-! PURE: tell, retract, correct -/
def Inv (I : AI) (S : AS) (J : AI) (T : AS) : Prop := ∃ (en k n h len : Nat) (sl fr to o c osl ofr oto : Nat → Nat), Nv I S J T en k n h len sl fr to o c osl ofr oto
section OPS2
variable {I J : AI} {S T : AS} {en k n h len : Nat} {sl fr to o c osl ofr oto : Nat → Nat}
theorem Nv.inv (V : Nv I S J T en k n h len sl fr to o c osl ofr oto) : Inv I S J T := ⟨en, k, n, h, len, sl, fr, to, o, c, osl, ofr, oto, V⟩
theorem Nv.no (V : Nv I S J T en k n h len sl fr to o c osl ofr oto) {I' : AI} {S' : AS} (hs : scr I S I' S') (v : Int32) : Inv I' S' (va_up J 0 v) T := (V.ask hs (msc_I (msc_0 J T) (Or.inl rfl) v)).inv
theorem tf_0 (V : Nv I S J T en k n h len sl fr to o c osl ofr oto) {x b d d2 : Int32} (q : plP (I 0) x b) (q2 : ddP d d2) (hn : n < 60) : tfC J n x b d d2 = 0 := by
  unfold tfC
  rw [if_pos ((V.pl x b).mp q), if_pos ((dd_iff d d2).mp q2), if_neg (show ¬ n = 60 by omega)]
theorem tell_all (V : Nv I S J T en k n h len sl fr to o c osl ofr oto) {x b v d d2 r val : Int32} {I' : AI} {S' : AS} (hc : tlC I S n k x b v d d2 r val I' S') :
    ∃ mm : Nat, (tfC J n x b d d2 = 0 → clOK (bgS T n 116 x) k (slM x b) d d2 (nI (n + 1)) mm ∧ (clQ (bgS T n 116 x) k (slM x b) d d2 (nI (n + 1)) mm).1 < 256) ∧ ∀ (w : Int32) (J' : AI) (T' : AS), tlMo J T n k mm x b v d d2 w J' T' → J' 0 = r ∧ (r = 0 → val = w) ∧ Inv I' S' J' T' := by
  have hN := V.2.2.1
  have hk := V.k8
  rcases hc with ⟨rfl, I2, S2, k2, hv, hcl, hk1, hk2, hI2, hI3, hpl, hdd, h60, rfl, rfl⟩ | ⟨rfl, q, hs⟩ | ⟨rfl, q, hs⟩ | ⟨rfl, q, hs⟩
  · have hn := (n60 V).mp h60
    have ht0 := tf_0 V hpl hdd hn
    obtain ⟨xx, bb, hx, hbb, hs18, rfl, rfl, e1, e2⟩ := V.n2 hpl
    obtain ⟨a, b2, hab, hb2, rfl, rfl⟩ := dd_n hdd
    rw [e1] at hcl hv
    have F : Fct (addS S n 116 (nI (3 * xx + bb)) v (nI a) (nI b2)) k n en sl fr to o c := V.2.2.2.1
    have D := V.2.2.2.2.1
    have E : RowEq (addS S n 116 (nI (3 * xx + bb)) v (nI a) (nI b2)) (bgS T n 116 (nI xx)) := V.2.2.2.2.2.1
    have G : Gon (bgS T n 116 (nI xx) 9) k h c := V.2.2.2.2.2.2.2.2.2.1
    have hI : addI I n 2 = nI k := V.1.2.2.1
    obtain ⟨mm, c1, c2, c3, c4, c5, c6⟩ := clr_eq F D E G hN.1 hn hk (show 3 * xx + bb < 100 by omega) hb2 hab hI hcl
    refine ⟨mm, fun _ => ?_, ?_⟩
    · rw [e2]
      exact ⟨c1, by omega⟩
    · rintro w J' T' (⟨-, rfl, k2', S3, m1, rfl, rfl⟩ | ⟨m1, -⟩)
      · rw [e2] at m1
        rw [m1] at c3 c4 c5 c6
        have hkk : k2' = k2 := (nI_eq (by have : k2' ≤ k + 2 := c3; omega) (by omega)).mp (c4.symm.trans hI2)
        subst hkk
        refine ⟨rfl, fun _ => hv.trans c2, ?_⟩
        obtain ⟨k', sl', fr', to', o', c', C, g1, g2, M, hCc⟩ := clear_mid F D hN.1 hn hk (show 3 * xx + bb < 3 * en by omega) hab hb2 hI hcl
        have hkk2 : k' = k2' := (nI_eq (by omega) (by omega)).mp (g1.symm.trans hI2)
        subst hkk2
        have M2 := mid_add (v := v) M (show 3 * xx + bb < 3 * en by omega) hab hb2 (fun d z1 z2 w z3 => ((hCc d w (by omega)).mp z3).1 ⟨z1, z2⟩)
        rw [e1, e2]
        refine (op_nv V hn hx hbb hab hb2 (z := 116) (v := v) (I' := opI I I2 n k') (J' := va_up (va_up (va_up J 0 0) 2 (nI (n + 1))) 3 (nI (k' + 1))) (T' := opM S3 k' (nI (3 * xx + bb)) v (nI a) (nI b2) (nI (n + 1))) (S' := opS S S2 n k' 116 (nI (3 * xx + bb)) v (nI a) (nI b2)) M2 (by omega) (fun d w hd => ?_) (by decide) ⟨rfl, rfl, rfl, hI3, rfl⟩ ⟨rfl, rfl, rfl, rfl, rfl, rfl⟩ ⟨rfl, rfl, rfl, rfl, rfl, rfl⟩ ⟨?_, ?_, ?_, ?_⟩ (c5.op k' (nI (3 * xx + bb)) v (nI a) (nI b2) (nI (n + 1)))).inv
        · rw [hCc d w hd]
          exact or_congr Iff.rfl ⟨fun z => ⟨by decide, z⟩, fun z => z.2⟩
        · exact c6 1 (by omega)
        · exact c6 2 (by omega)
        · exact c6 9 (by omega)
        · exact c6 14 (by omega)
      · exact absurd ht0 m1
  · have ht : tfC J n x b d d2 = 1 := by
      unfold tfC
      rw [if_neg (fun z => q ((V.pl x b).mpr z))]
    refine ⟨0, fun z => absurd (ht.symm.trans z) (by decide), ?_⟩
    rintro w J' T' (⟨m1, -⟩ | ⟨-, rfl, rfl⟩)
    · exact absurd (ht.symm.trans m1) (by decide)
    · exact ⟨ht, fun z => absurd z (by decide), V.no hs _⟩
  · have ht : tfC J n x b d d2 = 2 := by
      unfold tfC
      rw [if_pos ((V.pl x b).mp q.1), if_neg (fun z => q.2 ((dd_iff d d2).mpr z))]
    refine ⟨0, fun z => absurd (ht.symm.trans z) (by decide), ?_⟩
    rintro w J' T' (⟨m1, -⟩ | ⟨-, rfl, rfl⟩)
    · exact absurd (ht.symm.trans m1) (by decide)
    · exact ⟨ht, fun z => absurd z (by decide), V.no hs _⟩
  · have hn : n = 60 := by
      have h9 : ¬ n < 60 := fun z => q.2.2 ((n60 V).mpr z)
      omega
    have ht : tfC J n x b d d2 = 3 := by
      unfold tfC
      rw [if_pos ((V.pl x b).mp q.1), if_pos ((dd_iff d d2).mp q.2.1), if_pos hn]
    refine ⟨0, fun z => absurd (ht.symm.trans z) (by decide), ?_⟩
    rintro w J' T' (⟨m1, -⟩ | ⟨-, rfl, rfl⟩)
    · exact absurd (ht.symm.trans m1) (by decide)
    · exact ⟨ht, fun z => absurd z (by decide), V.no hs _⟩
theorem Nv.rdays (V : Nv I S J T en k n h len sl fr to o c osl ofr oto) {x b d d2 : Int32} (q : plP (I 0) x b) (q2 : ddP d d2) : rdays T (slM x b) n fr to k d d2 = cdN S (slI x b) d d2 (nI n) k := by
  obtain ⟨xx, bb, hx, hbb, hs18, rfl, rfl, e1, e2⟩ := V.n2 q
  obtain ⟨a, b2, hab, hb2, rfl, rfl⟩ := dd_n q2
  unfold Jvm.Pilot.CFactLedgerLaw_law_r4035_11242a.rdays
  rw [e1, e2, nI_clamp (by omega), nI_clamp (by omega), kc_n]
  have h1 := V.days (a := a) (m := b2 - a) hs18 V.2.2.1.2.2.2.1 (Nat.le_refl n) (by omega) (T 10)
  rw [show a + (b2 - a) = b2 by omega] at h1
  exact h1.symm
theorem retract_all (V : Nv I S J T en k n h len sl fr to o c osl ofr oto) {x b d d2 r val : Int32} {I' : AI} {S' : AS} (hc : rtC I S n k x b d d2 r val I' S') :
    ∃ mm : Nat, (rfC J n x b d d2 (rdays T (slM x b) n fr to k d d2) = 0 → clOK (rtT T n k fr to x b) k (slM x b) d d2 (nI (n + 1)) mm ∧ (clQ (rtT T n k fr to x b) k (slM x b) d d2 (nI (n + 1)) mm).1 ≤ 256) ∧ ∀ (w : Int32) (J' : AI) (T' : AS), rtMo J T n k mm fr to x b d d2 w J' T' → J' 0 = r ∧ (r = 0 → val = w) ∧ Inv I' S' J' T' := by
  have hN := V.2.2.1
  have hk := V.k8
  rcases hc with ⟨rfl, I2, S2, hv, hcl, hpl, hdd, hne, h60, rfl, rfl⟩ | ⟨rfl, q, hs⟩ | ⟨rfl, q, hs⟩ | ⟨rfl, q, hs⟩ | ⟨rfl, q, hs⟩
  · have hn := (n60 V).mp h60
    have hd := V.rdays hpl hdd
    have ht0 : rfC J n x b d d2 (rdays T (slM x b) n fr to k d d2) = 0 := by
      rw [hd]
      unfold rfC
      rw [if_pos ((V.pl x b).mp hpl), if_pos ((dd_iff d d2).mp hdd), if_neg hne, if_neg (show ¬ n = 60 by omega)]
    have hI3 : I2 3 = addI I n 3 := clearP_3 hcl
    obtain ⟨xx, bb, hx, hbb, hs18, rfl, rfl, e1, e2⟩ := V.n2 hpl
    obtain ⟨a, b2, hab, hb2, rfl, rfl⟩ := dd_n hdd
    rw [e1] at hcl
    have F : Fct (addS S n 114 (nI (3 * xx + bb)) 0 (nI a) (nI b2)) k n en sl fr to o c := V.2.2.2.1
    have D := V.2.2.2.2.1
    have E : RowEq (addS S n 114 (nI (3 * xx + bb)) 0 (nI a) (nI b2)) (rtT T n k fr to (nI xx) (nI bb)) := V.2.2.2.2.2.1
    have G : Gon (rtT T n k fr to (nI xx) (nI bb) 9) k h c := V.2.2.2.2.2.2.2.2.2.1
    have hI : addI I n 2 = nI k := V.1.2.2.1
    obtain ⟨mm, c1, c2, c3, c4, c5, c6⟩ := clr_eq F D E G hN.1 hn hk (show 3 * xx + bb < 100 by omega) hb2 hab hI hcl
    refine ⟨mm, fun _ => ?_, ?_⟩
    · rw [e2]
      exact ⟨c1, by omega⟩
    · rintro w J' T' (⟨-, rfl, k2', S3, m1, rfl, rfl⟩ | ⟨m1, -⟩)
      · rw [e2] at m1
        rw [m1] at c3 c4 c5 c6
        refine ⟨rfl, fun _ => hv.trans hd.symm, ?_⟩
        obtain ⟨k', sl', fr', to', o', c', C, g1, g2, M, hCc⟩ := clear_mid F D hN.1 hn hk (show 3 * xx + bb < 3 * en by omega) hab hb2 hI hcl
        have hkk2 : k2' = k' := (nI_eq (by have : k2' ≤ k + 2 := c3; omega) (by omega)).mp (c4.symm.trans g1)
        subst hkk2
        rw [e1]
        refine (op_nv V hn hx hbb hab hb2 (z := 114) (v := 0) (I' := rtI I I2 n) (J' := va_up (va_up (va_up J 0 0) 2 (nI (n + 1))) 3 (nI k2')) (T' := T') (S' := rtS S S2 n (nI (3 * xx + bb)) (nI a) (nI b2)) M (by omega) (fun d w hd => ?_) (by decide) ⟨rfl, rfl, g1, hI3, rfl⟩ ⟨rfl, rfl, rfl, rfl, rfl, rfl⟩ ⟨rfl, rfl, rfl, rfl, rfl, rfl⟩ ⟨?_, ?_, ?_, ?_⟩ c5).inv
        · rw [hCc d w hd]
          exact ⟨fun z => Or.inl z, fun z => z.elim (fun y => y) (fun y => absurd rfl y.1)⟩
        · exact c6 1 (by omega)
        · exact c6 2 (by omega)
        · exact c6 9 (by omega)
        · exact c6 14 (by omega)
      · exact absurd ht0 m1
  all_goals
    refine ⟨0, fun z => ?_, ?_⟩
  · unfold rfC at z
    rw [if_neg (fun z => q ((V.pl x b).mpr z))] at z
    exact absurd z (by decide)
  · have ht : rfC J n x b d d2 (rdays T (slM x b) n fr to k d d2) = 1 := by
      unfold rfC
      rw [if_neg (fun z => q ((V.pl x b).mpr z))]
    rintro w J' T' (⟨m1, -⟩ | ⟨-, m1, m2⟩)
    · exact absurd (ht.symm.trans m1) (by decide)
    · exact ⟨m1.trans ht, fun z => absurd z (by decide), (V.ask hs m2).inv⟩
  · unfold rfC at z
    rw [if_pos ((V.pl x b).mp q.1), if_neg (fun z => q.2 ((dd_iff d d2).mpr z))] at z
    exact absurd z (by decide)
  · have ht : rfC J n x b d d2 (rdays T (slM x b) n fr to k d d2) = 2 := by
      unfold rfC
      rw [if_pos ((V.pl x b).mp q.1), if_neg (fun z => q.2 ((dd_iff d d2).mpr z))]
    rintro w J' T' (⟨m1, -⟩ | ⟨-, m1, m2⟩)
    · exact absurd (ht.symm.trans m1) (by decide)
    · exact ⟨m1.trans ht, fun z => absurd z (by decide), (V.ask hs m2).inv⟩
  · rw [V.rdays q.1 q.2.1] at z
    unfold rfC at z
    rw [if_pos ((V.pl x b).mp q.1), if_pos ((dd_iff d d2).mp q.2.1), if_pos q.2.2] at z
    exact absurd z (by decide)
  · have ht : rfC J n x b d d2 (rdays T (slM x b) n fr to k d d2) = 3 := by
      rw [V.rdays q.1 q.2.1]
      unfold rfC
      rw [if_pos ((V.pl x b).mp q.1), if_pos ((dd_iff d d2).mp q.2.1), if_pos q.2.2]
    rintro w J' T' (⟨m1, -⟩ | ⟨-, m1, m2⟩)
    · exact absurd (ht.symm.trans m1) (by decide)
    · exact ⟨m1.trans ht, fun z => absurd z (by decide), (V.ask hs m2).inv⟩
  · have hn : n = 60 := by
      have h9 : ¬ n < 60 := fun z => q.2.2.2 ((n60 V).mpr z)
      omega
    rw [V.rdays q.1 q.2.1] at z
    unfold rfC at z
    rw [if_pos ((V.pl x b).mp q.1), if_pos ((dd_iff d d2).mp q.2.1), if_neg q.2.2.1, if_pos hn] at z
    exact absurd z (by decide)
  · have hn : n = 60 := by
      have h9 : ¬ n < 60 := fun z => q.2.2.2 ((n60 V).mpr z)
      omega
    have ht : rfC J n x b d d2 (rdays T (slM x b) n fr to k d d2) = 4 := by
      rw [V.rdays q.1 q.2.1]
      unfold rfC
      rw [if_pos ((V.pl x b).mp q.1), if_pos ((dd_iff d d2).mp q.2.1), if_neg q.2.2.1, if_pos hn]
    rintro w J' T' (⟨m1, -⟩ | ⟨-, m1, m2⟩)
    · exact absurd (ht.symm.trans m1) (by decide)
    · exact ⟨m1.trans ht, fun z => absurd z (by decide), (V.ask hs m2).inv⟩
/-- the reference's open fact of a day -/
theorem Nv.meet (V : Nv I S J T en k n h len sl fr to o c osl ofr oto) {x b d : Int32} (q : plP (I 0) x b) (q2 : dyP d) : mtN T (slM x b) d (d + 1) 62 k = fndN S (slI x b) d (nI n) k := by
  have hN := V.2.2.1
  have hk := V.k8
  obtain ⟨xx, bb, hx, hbb, hs18, rfl, rfl, e1, e2⟩ := V.n2 q
  obtain ⟨dd, hd, rfl⟩ := dy_n q2
  rw [e1, e2, nI_1]
  obtain ⟨-, -, ⟨n0, n1, n2, n3, -⟩, F, D, ⟨e3, e4, e5, e6, e7, e8⟩, -, -, -, G, -⟩ := V
  have hi : ∀ i : Nat, i < k → (mtP T (nI (3 * xx + bb)) (nI dd) (nI (dd + 1)) 62 i ↔ hitN sl fr to o c (3 * xx + bb) n dd i) := by
    intro i hik
    obtain ⟨f1, f2, f3, f4, f5, f6, f7, f8, f9, f10, f11⟩ := F i hik
    unfold mtP opB hitN lvN
    rw [e3, e5, e6, e7, e8, f1, f2, f3, f4, f5, G i hik, decide_eq_true_iff, clI_0 (by omega), show (62 : Int32) = nI 62 from rfl, nI_eq (by omega) (by omega), nI_ltI (by omega) (by omega), nI_ltI (by omega) (by omega), nI_ltI (by omega) (by omega)]
    constructor
    · rintro ⟨z1, ⟨-, z2⟩, -, z3, z4⟩
      exact ⟨⟨z1, by omega⟩, by omega, z4⟩
    · rintro ⟨⟨z1, z2⟩, z3, z4⟩
      have z5 : c i = 0 := by omega
      exact ⟨z1, ⟨if_neg (fun w => w.1 z5), z5⟩, by omega, by omega, z4⟩
  rcases mt_spec T (nI (3 * xx + bb)) (nI dd) (nI (dd + 1)) 62 (q := k) (by omega) with ⟨m1, m2⟩ | ⟨f, hf, m1, m2, -⟩
  · rw [m1]
    exact (fnd_no F n0 n1 (by omega) (by omega) hd (fun i hik w => m2 i hik ((hi i hik).mpr w))).symm
  · rw [m1]
    exact (fnd_hit F D n0 n1 hk (by omega) (by omega) hd hf ((hi f hf).mp m2)).symm
end OPS2
