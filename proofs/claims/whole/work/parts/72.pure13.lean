/-! PURE: correct, addEntity, purge, the line, the start -/
section OPS3
variable {I J : AI} {S T : AS} {en k n h len : Nat} {sl fr to o c osl ofr oto : Nat → Nat}
theorem correct_all (V : Nv I S J T en k n h len sl fr to o c osl ofr oto) {x b d v r val : Int32} {I' : AI} {S' : AS} (hc : coC I S n k x b d v r val I' S') : ∀ (w : Int32) (J' : AI) (T' : AS), coMo J T n k x b d v w J' T' → J' 0 = r ∧ (r = 0 → val = w) ∧ Inv I' S' J' T' := by
  have hN := V.2.2.1
  have hk := V.k8
  rcases hc with ⟨rfl, I2, S2, k2, j, hv, hcl, hk1, hk2, hI2, hI3, hj, hfn, hpl, hdy, h60, rfl, rfl⟩ | ⟨rfl, q, hs⟩ | ⟨rfl, q, hs⟩ | ⟨rfl, q, hs⟩ | ⟨rfl, q, hs⟩
  · have hn := (n60 V).mp h60
    have hmt := V.meet hpl hdy
    have ht0 : cfC J n x b d (mtN T (slM x b) d (d + 1) 62 k) = 0 := by
      rw [hmt, hfn]
      unfold cfC
      rw [if_pos ((V.pl x b).mp hpl), if_pos ((dy_iff d).mp hdy), if_neg (nI_m1 (by omega)), if_neg (show ¬ n = 60 by omega)]
    rintro w J' T' (⟨-, j', hj', m1, rfl, rfl, rfl⟩ | ⟨m1, -⟩)
    · rw [hmt, hfn] at m1
      have ejj : j' = j := (nI_eq (by omega) (by omega)).mp m1.symm
      subst ejj
      obtain ⟨xx, bb, hx, hbb, hs18, rfl, rfl, e1, e2⟩ := V.n2 hpl
      obtain ⟨dd, hd, rfl⟩ := dy_n hdy
      rw [e1] at hcl hfn
      have F := V.2.2.2.1
      have D := V.2.2.2.2.1
      have E := V.2.2.2.2.2.1
      have hit : hitN sl fr to o c (3 * xx + bb) n dd j' := by
        by_cases hh : ∃ i : Nat, i < k ∧ hitN sl fr to o c (3 * xx + bb) n dd i
        · obtain ⟨i, hi, h1⟩ := hh
          have h2 := fnd_hit F D hN.1 hN.2.1 hk (by omega) (by omega) hd hi h1
          rw [← (nI_eq (by omega) (by omega)).mp (h2.symm.trans hfn)]
          exact h1
        · exact absurd (hfn.symm.trans (fnd_no F hN.1 hN.2.1 (by omega) (by omega) hd (fun i hi w => hh ⟨i, hi, w⟩))) (nI_m1 (by omega))
      obtain ⟨f1, f2, f3, f4, f5, f6, f7, f8, f9, f10, f11⟩ := F j' hj
      have hcj : c j' = 0 := by
        have := hit.1.2
        unfold lvN at this
        omega
      rw [f2, f3] at hcl
      have FA : Fct (addS S n 99 (nI (3 * xx + bb)) v (nI (fr j')) (nI (to j'))) k n en sl fr to o c := F
      have hI : addI I n 2 = nI k := V.1.2.2.1
      have only : ∀ i : Nat, i < k → hO sl fr to c (3 * xx + bb) (fr j') (to j') i → i = j' := by
        intro i hi hh
        refine Classical.byContradiction (fun ne => ?_)
        have g := D i j' hi hj ne (hh.1.trans hit.1.1.symm) n ⟨by obtain ⟨-, -, -, -, -, -, -, -, -, z, -⟩ := F i hi; exact z, Or.inl hh.2.1⟩ hit.1.2
        have := hh.2.2
        omega
      have hOj : hO sl fr to c (3 * xx + bb) (fr j') (to j') j' := ⟨hit.1.1, hcj, f7, f7⟩
      have hb1 : bfN (addS S n 99 (nI (3 * xx + bb)) v (nI (fr j')) (nI (to j'))) (nI (3 * xx + bb)) (nI (fr j')) (nI (to j')) k = -1 := by
        rcases bf_spec FA hN.1 hN.2.1 (show 3 * xx + bb < 100 by omega) f7 f8 (Nat.le_refl k) with ⟨z, -⟩ | ⟨i, hi, -, z, z2⟩
        · exact z
        · rw [only i hi z] at z2; omega
      have ha1 : afN (addS S n 99 (nI (3 * xx + bb)) v (nI (fr j')) (nI (to j'))) (nI (3 * xx + bb)) (nI (fr j')) (nI (to j')) k = -1 := by
        rcases af_spec FA hN.1 hN.2.1 (show 3 * xx + bb < 100 by omega) f7 f8 (Nat.le_refl k) with ⟨z, -⟩ | ⟨i, hi, -, z, z2⟩
        · exact z
        · rw [only i hi z] at z2; omega
      obtain ⟨k', sl', fr', to', o', c', C, g1, g2, M, hCc⟩ := clear_mid FA D hN.1 hn hk (show 3 * xx + bb < 3 * en by omega) f7 f8 hI hcl
      have hI2' : I2 = addI I n ∧ S2 = clr1 (addS S n 99 (nI (3 * xx + bb)) v (nI (fr j')) (nI (to j'))) (nI (3 * xx + bb)) (nI (fr j')) (nI (to j')) (nI (n + 1)) k := by
        rcases hcl with ⟨-, -, z1, z2⟩ | ⟨i, hi, z, -⟩ | ⟨i, hi, -, z, -⟩ | ⟨i, i2, hi, -, z, -⟩
        · exact ⟨z1, z2⟩
        · exact absurd (z.symm.trans hb1) (nI_m1 (by omega))
        · exact absurd (z.symm.trans ha1) (nI_m1 (by omega))
        · exact absurd (z.symm.trans hb1) (nI_m1 (by omega))
      obtain ⟨rfl, rfl⟩ := hI2'
      have ek2 : k2 = k := (nI_eq (by omega) (by omega)).mp (hI2.symm.trans hI)
      subst ek2
      have ek' : k' = k2 := (nI_eq (by omega) (by omega)).mp (g1.symm.trans hI)
      subst ek'
      have M2 := mid_add (v := v) M (show 3 * xx + bb < 3 * en by omega) f7 f8 (fun d z1 z2 w z3 => ((hCc d w (by omega)).mp z3).1 ⟨z1, z2⟩)
      obtain ⟨e3, e4, e5, e6, e7, e8⟩ := E
      have E0 : RowEq (clr1 (addS S n 99 (nI (3 * xx + bb)) v (nI (fr j')) (nI (to j'))) (nI (3 * xx + bb)) (nI (fr j')) (nI (to j')) (nI (n + 1)) k') (cdM (bgS T n 99 (nI xx)) j' (nI (n + 1))) := by
        refine ⟨e3, e4, e5, e6, e7, ?_⟩
        show upd (T 8) j' (nI (n + 1)) = clN (addS S n 99 (nI (3 * xx + bb)) v (nI (fr j')) (nI (to j'))) (nI (3 * xx + bb)) (nI (fr j')) (nI (to j')) (nI (n + 1)) k'
        funext i
        obtain ⟨r1, r2⟩ := cl_row FA hN.1 hN.2.1 (show 3 * xx + bb < 100 by omega) f7 f8 (nI (n + 1)) (Nat.le_refl k') i
        by_cases e : i = j'
        · rw [e] at r1 ⊢
          rw [pk_us, r1 hj hOj]
        · rw [pk_un e, r2 (fun z => e (only i z.1 z.2)), e8]
          rfl
      refine ⟨rfl, fun _ => by rw [hv, e5, e6], ?_⟩
      rw [e1, e3, e5, e6, f1, f2, f3, hit.1.1]
      refine (op_nv V hn hx hbb f7 f8 (z := 99) (v := v) (I' := opI I (addI I n) n k') (J' := va_up (va_up (va_up J 0 0) 2 (nI (n + 1))) 3 (nI (k' + 1))) (T' := opM (cdM (bgS T n 99 (nI xx)) j' (nI (n + 1))) k' (nI (3 * xx + bb)) v (nI (fr j')) (nI (to j')) (nI (n + 1))) (S' := opS S (clr1 (addS S n 99 (nI (3 * xx + bb)) v (nI (fr j')) (nI (to j'))) (nI (3 * xx + bb)) (nI (fr j')) (nI (to j')) (nI (n + 1)) k') n k' 99 (nI (3 * xx + bb)) v (nI (fr j')) (nI (to j'))) M2 (by omega) (fun d w hd => ?_) (by decide) ⟨rfl, rfl, rfl, hI3, rfl⟩ ⟨rfl, rfl, rfl, rfl, rfl, rfl⟩ ⟨rfl, rfl, rfl, rfl, rfl, rfl⟩ ⟨rfl, rfl, rfl, rfl⟩ (E0.op k' (nI (3 * xx + bb)) v (nI (fr j')) (nI (to j')) (nI (n + 1)))).inv
      rw [hCc d w hd]
      exact or_congr Iff.rfl ⟨fun z => ⟨by decide, z⟩, fun z => z.2⟩
    · exact absurd ht0 m1
  · have ht : cfC J n x b d (mtN T (slM x b) d (d + 1) 62 k) = 1 := by
      unfold cfC
      rw [if_neg (fun z => q ((V.pl x b).mpr z))]
    rintro w J' T' (⟨m1, -⟩ | ⟨-, rfl, rfl⟩)
    · exact absurd (ht.symm.trans m1) (by decide)
    · exact ⟨ht, fun z => absurd z (by decide), V.no hs _⟩
  · have ht : cfC J n x b d (mtN T (slM x b) d (d + 1) 62 k) = 2 := by
      unfold cfC
      rw [if_pos ((V.pl x b).mp q.1), if_neg (fun z => q.2 ((dy_iff d).mpr z))]
    rintro w J' T' (⟨m1, -⟩ | ⟨-, rfl, rfl⟩)
    · exact absurd (ht.symm.trans m1) (by decide)
    · exact ⟨ht, fun z => absurd z (by decide), V.no hs _⟩
  · have ht : cfC J n x b d (mtN T (slM x b) d (d + 1) 62 k) = 3 := by
      rw [V.meet q.1 q.2.1, q.2.2]
      unfold cfC
      rw [if_pos ((V.pl x b).mp q.1), if_pos ((dy_iff d).mp q.2.1), if_pos rfl]
    rintro w J' T' (⟨m1, -⟩ | ⟨-, rfl, rfl⟩)
    · exact absurd (ht.symm.trans m1) (by decide)
    · exact ⟨ht, fun z => absurd z (by decide), V.no hs _⟩
  · have hn : n = 60 := by
      have h9 : ¬ n < 60 := fun z => q.2.2.2 ((n60 V).mpr z)
      omega
    have ht : cfC J n x b d (mtN T (slM x b) d (d + 1) 62 k) = 4 := by
      rw [V.meet q.1 q.2.1]
      unfold cfC
      rw [if_pos ((V.pl x b).mp q.1), if_pos ((dy_iff d).mp q.2.1), if_neg q.2.2.1, if_pos hn]
    rintro w J' T' (⟨m1, -⟩ | ⟨-, rfl, rfl⟩)
    · exact absurd (ht.symm.trans m1) (by decide)
    · exact ⟨ht, fun z => absurd z (by decide), V.no hs _⟩
theorem add_all (V : Nv I S J T en k n h len sl fr to o c osl ofr oto) {r val w : Int32} {I' J' : AI} {S' T' : AS} (hc : (r = 0 ∧ val = nI en ∧ en < 6 ∧ I' = va_up I 0 (nI (en + 1)) ∧ S' = S) ∨ (r = 1 ∧ 6 ≤ en ∧ scr I S I' S')) (hm : (en = 6 ∧ J' = va_up J 0 1 ∧ T' = T) ∨ (en < 6 ∧ w = nI en ∧ J' = va_up (va_up J 0 0) 1 (nI (en + 1)) ∧ T' = T)) : J' 0 = r ∧ (r = 0 → val = w) ∧ Inv I' S' J' T' := by
  rcases hc with ⟨rfl, rfl, h6, rfl, rfl⟩ | ⟨rfl, h6, hs⟩
  · rcases hm with ⟨m1, -⟩ | ⟨-, rfl, rfl, rfl⟩
    · omega
    · refine ⟨rfl, fun _ => rfl, ?_⟩
      obtain ⟨⟨i0, i1, i2, i3, i4⟩, ⟨j1, j2, j3, j4, j5, j7⟩, ⟨n0, n1, n2, n3, n4⟩, F, D, E, t1, t2, ch, G, G0, O, R⟩ := V
      refine ⟨en + 1, k, n, h, len, sl, fr, to, o, c, osl, ofr, oto, ⟨rfl, i1, i2, i3, i4⟩, ⟨rfl, j2, j3, j4, j5, j7⟩, ⟨by omega, n1, n2, n3, n4⟩, fun i hi => ?_, D, E, t1, t2, ch, G, G0, fun j h1 h2 => ?_, R⟩
      · obtain ⟨f1, f2, f3, f4, f5, f6, f7⟩ := F i hi
        exact ⟨f1, f2, f3, f4, f5, by omega, f7⟩
      · obtain ⟨o1, o2, o3, o4, o5⟩ := O j h1 h2
        exact ⟨o1, o2, o3, by omega, o5⟩
  · have hN := V.2.2.1
    rcases hm with ⟨-, rfl, rfl⟩ | ⟨m1, -⟩
    · exact ⟨rfl, fun z => absurd z (by decide), V.no hs _⟩
    · omega
theorem purge_all (V : Nv I S J T en k n h len sl fr to o c osl ofr oto) {t r val w : Int32} {I' J' : AI} {S' T' : AS} (hc : (r = 0 ∧ (val = ckN S k (I 3) k - ckN S k t k ∧ kpP (I 3) t ∧ t ≤ I 1) ∧ I' = va_up I 3 t ∧ S' = S) ∨ (r = 1 ∧ ¬ (kpP (I 3) t ∧ t ≤ I 1) ∧ scr I S I' S'))
    (hm : (inB t (J 5) (J 2) = true ∧ w = pcN T t k ∧ J' = va_up (va_up (va_up J 0 0) 4 (J 4 + pcN T t k)) 5 t ∧ T' = va_up T 9 (pgN T t k)) ∨ (¬ inB t (J 5) (J 2) = true ∧ J' = va_up J 0 1 ∧ T' = T)) : J' 0 = r ∧ (r = 0 → val = w) ∧ Inv I' S' J' T' := by
  have hN := V.2.2.1
  have hk := V.k8
  have hi : inB t (J 5) (J 2) = true ↔ kpP (I 3) t ∧ t ≤ I 1 := by
    rw [V.2.1.2.2.2.2.1, V.2.1.2.1, V.1.2.2.2.1, V.1.2.1]
    unfold inB kpP
    rw [decide_eq_true_iff, Int32.not_lt, Int32.not_lt]
  rcases hc with ⟨rfl, ⟨hv, q1, q2⟩, rfl, rfl⟩ | ⟨rfl, q, hs⟩
  · rcases hm with ⟨-, rfl, rfl, rfl⟩ | ⟨m1, -⟩
    · rw [V.1.2.2.2.1] at q1 hv
      rw [V.1.2.1] at q2
      have ht : ∃ tt : Nat, t = nI tt ∧ h ≤ tt ∧ tt ≤ n := by
        have q3 : ¬ t < 0 := fun z => Int32.not_lt.mpr (Int32.le_trans (show (0 : Int32) ≤ nI h from Int32.not_lt.mp (nI_pos (by omega))) q1) z
        obtain ⟨tt, g1, rfl⟩ := tkP_of (n := n) (by omega) ⟨q3, q2⟩
        exact ⟨tt, rfl, (nI_leI (by omega) (by omega)).mp q1, g1⟩
      obtain ⟨tt, rfl, g1, g2⟩ := ht
      obtain ⟨⟨i0, i1, i2, i3, i4⟩, ⟨j1, j2, j3, j4, j5, j7⟩, ⟨n0, n1, n2, n3, n4⟩, F, D, E, t1, t2, ch, G, G0, O, R⟩ := V
      have e8 := E.2.2.2.2.2
      obtain ⟨p1, p2⟩ := pg_gon F n1 G e8 g1 (by omega) (Nat.le_refl k)
      have hm := gc_mono c g1 k
      have hle := gc_le c tt k
      refine ⟨rfl, fun _ => ?_, ?_⟩
      · rw [hv, p2, ck_n F n1 hk (by omega) (Nat.le_refl k), ck_n F n1 hk (by omega) (Nat.le_refl k), pk_sub (by omega)]
        congr 1
        omega
      · refine ⟨en, k, n, tt, len, sl, fr, to, o, c, osl, ofr, oto, ⟨i0, i1, i2, rfl, i4⟩, ⟨j1, j2, j3, ?_, rfl, j7⟩, ⟨n0, n1, n2, g2, n4⟩, F, D, E, t1, t2, ch, fun i hi => ?_, fun i hi => ?_, O, R⟩
        · show J 4 + pcN T (nI tt) k = nI (gcN c tt k)
          rw [j4, p2, nI_add]
          congr 1
          omega
        · show pgN T (nI tt) k i = _
          rw [p1 i hi, if_pos hi]
        · show pgN T (nI tt) k i = 0
          rw [pgN_ge T (nI tt) hi]
          exact G0 i hi
    · exact absurd (hi.mpr ⟨q1, q2⟩) m1
  · rcases hm with ⟨m1, -⟩ | ⟨-, rfl, rfl⟩
    · exact absurd (hi.mp m1) q
    · exact ⟨rfl, fun z => absurd z (by decide), V.no hs _⟩
/-! the line's characters -/
def chP (x : Int32) : Prop := narrow .char (.int x) = .int x
theorem appL_lt (xs : List Int32) : ∀ (f : Nat → Int32) (n j : Nat), j < n → appL f n xs j = f j := by
  induction xs with
  | nil => intro f n j _; rfl
  | cons x xs ih =>
    intro f n j hj
    rw [appL, ih (upd f n x) (n + 1) j (by omega), pk_un (by omega)]
theorem appL_ch (xs : List Int32) : ∀ (f : Nat → Int32) (n : Nat), (∀ x ∈ xs, chP x) → ∀ j : Nat, n ≤ j → j < n + xs.length → chP (appL f n xs j) := by
  induction xs with
  | nil => intro f n _ j h1 h2; rw [List.length_nil] at h2; omega
  | cons x xs ih =>
    intro f n hx j h1 h2
    rw [List.length_cons] at h2
    rw [appL]
    by_cases e : j = n
    · rw [e, appL_lt xs (upd f n x) (n + 1) n (by omega), pk_us]
      exact hx x List.mem_cons_self
    · exact ih (upd f n x) (n + 1) (fun y hy => hx y (List.mem_cons_of_mem _ hy)) j (by omega) (by omega)
theorem dg_ch (w i : Nat) : ∀ x ∈ dgL w i, chP x := by
  induction i with
  | zero => intro x hx; exact absurd hx List.not_mem_nil
  | succ i ih =>
    intro x hx
    rw [dgL] at hx
    split at hx
    · rcases List.mem_append.mp hx with h | h
      · exact ih x h
      · rw [List.mem_singleton.mp h]
        exact (pk_charN (by omega)).1
    · exact ih x hx
theorem num_ch (v : Int32) : ∀ x ∈ numL v, chP x := by
  intro x hx
  unfold numL at hx
  split at hx
  · rcases List.mem_cons.mp hx with h | h
    · rw [h]; exact (pk_charN (q := 45) (by decide)).1
    · exact dg_ch _ _ x h
  · exact dg_ch _ _ x hx
theorem wr_ch (F B W : Nat → Int32) (j : Nat) : ∀ x ∈ wrG F B W j, chP x := by
  induction j with
  | zero => intro x hx; exact absurd hx List.not_mem_nil
  | succ j ih =>
    intro x hx
    rw [wrG] at hx
    rcases List.mem_append.mp hx with h | h
    · split at h
      · exact ih x h
      · rcases List.mem_append.mp h with h | h
        · exact ih x h
        · rw [List.mem_singleton.mp h]; exact (pk_charN (q := 32) (by decide)).1
    · unfold enG at h
      rcases List.mem_append.mp h with h | h
      · exact num_ch _ x h
      · rcases List.mem_cons.mp h with h | h
        · rw [h]; exact (pk_charN (q := 45) (by decide)).1
        · rcases List.mem_append.mp h with h | h
          · exact num_ch _ x h
          · rcases List.mem_cons.mp h with h | h
            · rw [h]; exact (pk_charN (q := 61) (by decide)).1
            · exact num_ch _ x h
theorem write_all (V : Nv I S J T en k n h len sl fr to o c osl ofr oto) {x b t r val w : Int32} {I' J' : AI} {S' T' : AS}
    (hc : (r = 0 ∧ val = nI (wrL (wpS S (slI x b) t fr to k) (jpS S (slI x b) (slI x b) t fr to k).1).length ∧ jc I x b x b t ∧ scr (va_up I 4 (nI (wrL (wpS S (slI x b) t fr to k) (jpS S (slI x b) (slI x b) t fr to k).1).length)) (va_up S 15 (appL (S 15) 0 (wrL (wpS S (slI x b) t fr to k) (jpS S (slI x b) (slI x b) t fr to k).1))) I' S') ∨ (r = 1 ∧ jx I x b x b t eIOO ∧ scr I S I' S') ∨ (r = 2 ∧ jx I x b x b t eIAE ∧ scr I S I' S') ∨ (r = 3 ∧ jx I x b x b t eUOE ∧ scr I S I' S'))
    (hm : (afC J x b t = 0 ∧ J' 0 = 0 ∧ ((∀ i9 : Nat, i9 ≠ 0 → i9 ≠ 6 → i9 ≠ 7 → i9 ≠ 8 → i9 ≠ 9 → i9 ≠ 10 → J' i9 = J i9) ∧ (∀ k9 : Nat, k9 < 10 → T' k9 = T k9)) ∧ w = nI (wrG (pmM T (slM x b) t fr to k).2.1 (pmM T (slM x b) t fr to k).2.2 (fun j9 => T 4 (lkM T (slM x b) t fr to k ((pmM T (slM x b) t fr to k).2.1 j9).toNatClampNeg).toNatClampNeg) (pmM T (slM x b) t fr to k).1).length ∧ J' 7 = nI (wrG (pmM T (slM x b) t fr to k).2.1 (pmM T (slM x b) t fr to k).2.2 (fun j9 => T 4 (lkM T (slM x b) t fr to k ((pmM T (slM x b) t fr to k).2.1 j9).toNatClampNeg).toNatClampNeg) (pmM T (slM x b) t fr to k).1).length ∧ T' 14 = appL (T 14) 0 (wrG (pmM T (slM x b) t fr to k).2.1 (pmM T (slM x b) t fr to k).2.2 (fun j9 => T 4 (lkM T (slM x b) t fr to k ((pmM T (slM x b) t fr to k).2.1 j9).toNatClampNeg).toNatClampNeg) (pmM T (slM x b) t fr to k).1)) ∨ (¬ afC J x b t = 0 ∧ J' 0 = afC J x b t ∧ msc J T J' T')) : J' 0 = r ∧ (r = 0 → val = w) ∧ Inv I' S' J' T' := by
  have ho : ∀ z : ((r = 1 ∧ tx I x b t eIOO) ∨ (r = 2 ∧ tx I x b t eIAE) ∨ (r = 3 ∧ tx I x b t eUOE)), scr I S I' S' → J' 0 = r ∧ (r = 0 → val = w) ∧ Inv I' S' J' T' := by
    intro z hs
    have hf : ¬ afC J x b t = 0 := by
      rcases z with ⟨-, z⟩ | ⟨-, z⟩ | ⟨-, z⟩
      · rw [V.tx1 z]; decide
      · rw [V.tx2 z]; decide
      · rw [V.tx3 z]; decide
    rcases hm with ⟨m1, -⟩ | ⟨-, m1, m2⟩
    · exact absurd m1 hf
    · have h1 := ans_tx V (J2 := J') (fun _ => m1) z
      exact ⟨h1.1, fun y => absurd y h1.2, (V.ask hs m2).inv⟩
  rcases hc with ⟨rfl, hv, q, hs⟩ | ⟨e0, q, hs⟩ | ⟨e0, q, hs⟩ | ⟨e0, q, hs⟩
  · have q1 := jc_tc q
    rcases hm with ⟨-, m0, ⟨c1, c2⟩, m1, m2, m3⟩ | ⟨m1, -⟩
    · obtain ⟨p1, p2⟩ := V.per q1
      have hwr : wrL (wpS S (slI x b) t fr to k) (jpS S (slI x b) (slI x b) t fr to k).1 = wrG (pmM T (slM x b) t fr to k).2.1 (pmM T (slM x b) t fr to k).2.2 (fun j9 => T 4 (lkM T (slM x b) t fr to k ((pmM T (slM x b) t fr to k).2.1 j9).toNatClampNeg).toNatClampNeg) (pmM T (slM x b) t fr to k).1 := by
        rw [wrL_G, p1]
        refine wrG_c (q := (pmM T (slM x b) t fr to k).1) (fun j hj => ?_) _ (Nat.le_refl _)
        exact ⟨(p2 j hj).1, (p2 j hj).2, V.pval q1 hj⟩
      rw [hwr] at hv hs
      have hle := Nv.per_le T (slM x b) t fr to k
      have hlen := wrG_len (F := (pmM T (slM x b) t fr to k).2.1) (B := (pmM T (slM x b) t fr to k).2.2) (V := fun j9 => T 4 (lkM T (slM x b) t fr to k ((pmM T (slM x b) t fr to k).2.1 j9).toNatClampNeg).toNatClampNeg) (q := (pmM T (slM x b) t fr to k).1) (fun j hj => (pm_F (T 4) (lkM T (slM x b) t fr to k) (T 11) false (T 12) (T 13) 100 j hj).1.elim (fun x9 h9 => ⟨x9, h9.1, h9.2.1⟩)) (fun j hj => (pm_F (T 4) (lkM T (slM x b) t fr to k) (T 11) false (T 12) (T 13) 100 j hj).2) (Nat.le_refl _)
      have hch := wr_ch (pmM T (slM x b) t fr to k).2.1 (pmM T (slM x b) t fr to k).2.2 (fun j9 => T 4 (lkM T (slM x b) t fr to k ((pmM T (slM x b) t fr to k).2.1 j9).toNatClampNeg).toNatClampNeg) (pmM T (slM x b) t fr to k).1
      refine ⟨m0, fun _ => hv.trans m1.symm, ?_⟩
      generalize wrG (pmM T (slM x b) t fr to k).2.1 (pmM T (slM x b) t fr to k).2.2 (fun j9 => T 4 (lkM T (slM x b) t fr to k ((pmM T (slM x b) t fr to k).2.1 j9).toNatClampNeg).toNatClampNeg) (pmM T (slM x b) t fr to k).1 = L at hs m2 m3 hlen hch
      obtain ⟨⟨i0, i1, i2, i3, i4⟩, ⟨j1, j2, j3, j4, j5, j7⟩, ⟨n0, n1, n2, n3, n4⟩, F, D, ⟨e3, e4, e5, e6, e7, e8⟩, ⟨t1, t14⟩, t2, ch, G, G0, O, R⟩ := V
      have V2 : Nv (va_up I 4 (nI L.length)) (va_up S 15 (appL (S 15) 0 L)) (va_up J 7 (nI L.length)) (va_up T 14 (appL (T 14) 0 L)) en k n h L.length sl fr to o c osl ofr oto :=
        ⟨⟨i0, i1, i2, i3, rfl⟩, ⟨j1, j2, j3, j4, j5, rfl⟩, ⟨n0, n1, n2, n3, by omega⟩, F, D, ⟨e3, e4, e5, e6, e7, e8⟩, ⟨t1, by show appL (T 14) 0 L = appL (S 15) 0 L; rw [t14]⟩, t2, fun j hj => appL_ch L (S 15) 0 hch j (Nat.zero_le j) (by omega), G, G0, O, fun s t d hs ht hd f0 f1 => by
          have rc := rp_c (S := S) (S' := va_up S 15 (appL (S 15) 0 L)) (sl := nI s) (ofr := ofr) (oto := oto) (ofr' := ofr) (oto' := oto) (t := t) (fun j _ _ => ⟨rfl, rfl, rfl, rfl, rfl⟩) f0 f1
          rw [rc.1, rc.2]
          exact R s t d hs ht hd f0 f1⟩
      refine (V2.ask hs ⟨fun i h0 h6 h8 h9 h10 => ?_, fun q hq => ?_⟩).inv
      · by_cases e : i = 7
        · rw [e]; exact m2
        · rw [va_up_ne _ _ e]; exact c1 i h0 h6 e h8 h9 h10
      · rcases hq with hq | hq
        · rw [va_up_ne _ _ (by omega)]; exact c2 q hq
        · rw [hq]; exact m3
    · exact absurd (V.af q1) m1
  · exact ho (Or.inl ⟨e0, jx_tx q⟩) hs
  · exact ho (Or.inr (Or.inl ⟨e0, jx_tx q⟩)) hs
  · exact ho (Or.inr (Or.inr ⟨e0, jx_tx q⟩)) hs
end OPS3
/-- the start -/
theorem inv_0 : Inv I0 S0 I0 S0 := by
  refine ⟨0, 0, 0, 0, 0, fun _ => 0, fun _ => 0, fun _ => 0, fun _ => 0, fun _ => 0, fun _ => 0, fun _ => 0, fun _ => 0, ⟨rfl, rfl, rfl, rfl, rfl⟩, ⟨rfl, rfl, rfl, rfl, rfl, rfl⟩, ⟨by omega, by omega, by omega, by omega, by omega⟩, fun i hi => by omega, fun i j hi => by omega, ⟨rfl, rfl, rfl, rfl, rfl, rfl⟩, ⟨rfl, rfl⟩, fun j h1 h2 => by omega, fun j hj => by omega, fun i hi => by omega, fun i _ => rfl, fun j h1 h2 => by omega, ?_⟩
  intro s t d hs ht hd f0 f1
  refine ⟨fun i hi => by omega, fun _ => ?_⟩
  rw [show t = 0 by omega, rpKN, putF_in (by omega)]
