/-! PURE: the reference's closing, to its end, against the class's -/
def RowEq (S T : AS) : Prop := T 3 = S 8 ∧ T 4 = S 9 ∧ T 5 = S 10 ∧ T 6 = S 11 ∧ T 7 = S 12 ∧ T 8 = S 13
theorem RowEq.op {S T : AS} (E : RowEq S T) (k : Nat) (sl v x y t : Int32) : RowEq (openS S k sl v x y t) (opM T k sl v x y t) := by
  obtain ⟨e3, e4, e5, e6, e7, e8⟩ := E
  refine ⟨?_, ?_, ?_, ?_, ?_, ?_⟩
  · show upd (T 3) k sl = upd (S 8) k sl; rw [e3]
  · show upd (T 4) k v = upd (S 9) k v; rw [e4]
  · show upd (T 5) k x = upd (S 10) k x; rw [e5]
  · show upd (T 6) k y = upd (S 11) k y; rw [e6]
  · show upd (T 7) k t = upd (S 12) k t; rw [e7]
  · show upd (T 8) k (-1) = upd (S 13) k (-1); rw [e8]
def SInv (k : Nat) (sl fr to c : Nat → Nat) (s a b : Nat) (P : Nat → Prop) (L R : Option Nat) : Prop :=
  (∀ i : Nat, P i → i < k ∧ hO sl fr to c s a b i) ∧ (∀ i i' : Nat, P i → i' < k → hO sl fr to c s a b i' → ¬ P i' → fr i < fr i') ∧
  ((∃ p : Nat, L = some p ∧ P p ∧ fr p < a) ∨ (L = none ∧ ∀ i : Nat, P i → a ≤ fr i)) ∧ ((∃ p : Nat, R = some p ∧ P p ∧ b < to p) ∨ (R = none ∧ ∀ i : Nat, P i → to i ≤ b))
section RUN
variable {S T : AS} {k n en h : Nat} {sl fr to o c : Nat → Nat} {s a b : Nat} {wh xa xb ck : Int32} {P : Nat → Prop} {L R : Option Nat}
theorem st_k : (stR T k wh xa xb ck P L R).1 ≤ k + 2 := by
  cases L <;> cases R
  · exact Nat.le_add_right k 2
  · exact Nat.add_le_add_left (by decide) k
  · exact Nat.add_le_add_left (by decide) k
  · exact Nat.le_refl _
theorem st_old {i : Nat} (hi : i < k) : (stR T k wh xa xb ck P L R).2 3 i = T 3 i ∧ (stR T k wh xa xb ck P L R).2 5 i = T 5 i ∧ (stR T k wh xa xb ck P L R).2 6 i = T 6 i ∧ (stR T k wh xa xb ck P L R).2 7 i = T 7 i ∧ (stR T k wh xa xb ck P L R).2 8 i = crw P (T 8) ck i ∧ (stR T k wh xa xb ck P L R).2 9 = T 9 ∧ (stR T k wh xa xb ck P L R).2 4 i = T 4 i := by
  have h0 : i ≠ k := by omega
  have h1 : i ≠ k + 1 := by omega
  have u1 : ∀ (f : Nat → Int32) (x : Int32), upd f k x i = f i := fun f x => pk_un h0
  have u2 : ∀ (f : Nat → Int32) (x y : Int32), upd (upd f k x) (k + 1) y i = f i := fun f x y => (pk_un h1).trans (pk_un h0)
  cases L <;> cases R
  · exact ⟨rfl, rfl, rfl, rfl, rfl, rfl, rfl⟩
  · exact ⟨u1 _ _, u1 _ _, u1 _ _, u1 _ _, u1 _ _, rfl, u1 _ _⟩
  · exact ⟨u1 _ _, u1 _ _, u1 _ _, u1 _ _, u1 _ _, rfl, u1 _ _⟩
  · exact ⟨u2 _ _ _, u2 _ _ _, u2 _ _ _, u2 _ _ _, u2 _ _ _, rfl, u2 _ _ _⟩
theorem st_new {i : Nat} (hi : ¬ i < k) (h2 : i < (stR T k wh xa xb ck P L R).1) : (stR T k wh xa xb ck P L R).2 7 i = ck := by
  cases L <;> cases R
  · exact absurd h2 hi
  · have h2 : i < k + 1 := h2
    show upd (T 7) k ck i = ck
    rw [show i = k by omega, pk_us]
  · have h2 : i < k + 1 := h2
    show upd (T 7) k ck i = ck
    rw [show i = k by omega, pk_us]
  · have h2 : i < k + 1 + 1 := h2
    show upd (upd (T 7) k ck) (k + 1) ck i = ck
    by_cases e : i = k + 1
    · rw [e, pk_us]
    · rw [pk_un e, show i = k by omega, pk_us]
theorem mtP_iff (F : Fct S k n en sl fr to o c) (E : RowEq S T) (G : Gon (T 9) k h c) (hen : en ≤ 6) (hn : n < 60) (hs : s < 100) (hb : b ≤ 100) (hab : a < b) {i : Nat} (hi : i < (stR T k (nI s) (nI a) (nI b) (nI (n + 1)) P L R).1) : mtP (stR T k (nI s) (nI a) (nI b) (nI (n + 1)) P L R).2 (nI s) (nI a) (nI b) (nI (n + 1)) i ↔ (i < k ∧ hO sl fr to c s a b i ∧ ¬ P i) := by
  by_cases hk : i < k
  · obtain ⟨f1, f2, f3, f4, f5, f6, f7, f8, f9, f10, f11⟩ := F i hk
    obtain ⟨e3, e4, e5, e6, e7, e8⟩ := E
    obtain ⟨r3, r5, r6, r7, r8, r9, -⟩ := st_old (T := T) (wh := nI s) (xa := nI a) (xb := nI b) (ck := nI (n + 1)) (P := P) (L := L) (R := R) hk
    unfold mtP opB
    rw [r3, r5, r6, r7, r8, r9, e3, e5, e6, e7, f1, f2, f3, f4, nI_eq (by omega) (by omega), nI_ltI (by omega) (by omega), nI_ltI (by omega) (by omega), nI_ltI (by omega) (by omega), decide_eq_true_iff, G i hk]
    by_cases hp : P i
    · rw [crw_t hp]
      exact ⟨fun z => absurd z.2.1.2 (nI_m1 (by omega)), fun z => absurd hp z.2.2⟩
    · rw [crw_f hp, e8, f5, clI_0 (by omega)]
      unfold hO
      constructor
      · rintro ⟨z1, ⟨z2, z3⟩, z4, z5, z6⟩
        exact ⟨hk, ⟨z1, z3, z5, z6⟩, hp⟩
      · rintro ⟨-, ⟨z1, z3, z5, z6⟩, -⟩
        exact ⟨z1, ⟨if_neg (fun w => w.1 z3), z3⟩, by omega, z5, z6⟩
  · refine ⟨fun z => ?_, fun z => absurd z.1 hk⟩
    have h1 := z.2.2.1
    rw [st_new hk hi] at h1
    exact (Int32.lt_irrefl h1).elim
/-- one fact more is closed -/
theorem step_f (F : Fct S k n en sl fr to o c) (D : Dsj k sl fr to o c) (E : RowEq S T) (hen : en ≤ 6) (hn : n < 60) (hb : b ≤ 100) (hab : a < b) (I : SInv k sl fr to c s a b P L R) {f : Nat} (hf : f < k) (h1 : hO sl fr to c s a b f) (h2 : ¬ P f) (hmin : ∀ i : Nat, i < k → hO sl fr to c s a b i → ¬ P i → fr f ≤ fr i) :
    ∃ L' R' : Option Nat, clF wh (nI a) (nI b) ck (stR T k wh (nI a) (nI b) ck P L R) f = stR T k wh (nI a) (nI b) ck (fun i => P i ∨ i = f) L' R' ∧ SInv k sl fr to c s a b (fun i => P i ∨ i = f) L' R' := by
  obtain ⟨i1, i2, i3, i4⟩ := I
  obtain ⟨f1, f2, f3, f4, f5, f6, f7, f8, f9, f10, f11⟩ := F f hf
  obtain ⟨e3, e4, e5, e6, e7, e8⟩ := E
  have hR : R = none ∧ ∀ i : Nat, P i → to i ≤ b := by
    rcases i4 with ⟨q, -, q2, q3⟩ | h
    · exfalso
      have g1 := i2 q f q2 hf h1 h2
      have g2 := (i1 q q2)
      have g3 := hO_lt D F g2.1 hf g2.2 h1 (fun z => h2 (by rw [← z]; exact q2))
      have := h1.2.2; have := g2.2.2.2
      omega
    · exact h
  obtain ⟨rfl, hR2⟩ := hR
  have c5 : T 5 f = nI (fr f) := by rw [e5]; exact f2
  have c6 : T 6 f = nI (to f) := by rw [e6]; exact f3
  have seg : ∀ i i' : Nat, (P i ∨ i = f) → i' < k → hO sl fr to c s a b i' → ¬ (P i' ∨ i' = f) → fr i < fr i' := by
    intro i i' z w1 w2 w3
    rcases z with z | z
    · exact i2 i i' z w1 w2 (fun q => w3 (Or.inl q))
    · rw [z]
      have g1 := hmin i' w1 w2 (fun q => w3 (Or.inl q))
      have g2 := hO_lt D F hf w1 h1 w2 (fun q => w3 (Or.inr q.symm))
      obtain ⟨-, -, -, -, -, -, g7, -⟩ := F i' w1
      omega
  have hP' : ∀ i : Nat, (P i ∨ i = f) → i < k ∧ hO sl fr to c s a b i := fun i z => z.elim (i1 i) (fun q => by rw [q]; exact ⟨hf, h1⟩)
  have hnk : k ≠ f := by omega
  by_cases hl : fr f < a
  · have hL : L = none ∧ ∀ i : Nat, P i → a ≤ fr i := by
      rcases i3 with ⟨q, -, q2, q3⟩ | h
      · exfalso
        have g2 := i1 q q2
        exact h2 (by rw [← hO_left D F g2.1 hf g2.2 h1 q3 hl]; exact q2)
      · exact h
    obtain ⟨rfl, hL2⟩ := hL
    have a1 : clB T P ck 5 f < nI a := by
      show T 5 f < nI a
      rw [c5]; exact nd_lt hl (by omega) (by omega)
    by_cases hr : b < to f
    · refine ⟨some f, some f, ?_, hP', seg, Or.inl ⟨f, rfl, Or.inr rfl, hl⟩, Or.inl ⟨f, rfl, Or.inr rfl, hr⟩⟩
      have a2 : nI b < upd (clB T P ck 6) k (nI a) f := by
        rw [pk_un (Ne.symm hnk)]
        show nI b < T 6 f
        rw [c6]; exact nd_lt hr (by omega) (by omega)
      show clF wh (nI a) (nI b) ck (k, clB T P ck) f = _
      rw [clF_11 a1 a2, cd_B, pk_un (Ne.symm hnk), pk_un (Ne.symm hnk)]
      rfl
    · refine ⟨some f, none, ?_, hP', seg, Or.inl ⟨f, rfl, Or.inr rfl, hl⟩, Or.inr ⟨rfl, fun i z => z.elim (hR2 i) (fun q => by rw [q]; omega)⟩⟩
      have a2 : ¬ nI b < upd (clB T P ck 6) k (nI a) f := by
        rw [pk_un (Ne.symm hnk)]
        show ¬ nI b < T 6 f
        rw [c6]; exact nd_nlt (by omega) (by omega) (by omega)
      show clF wh (nI a) (nI b) ck (k, clB T P ck) f = _
      rw [clF_10 a1 a2, cd_B]
      rfl
  · have keepL : (∃ p : Nat, L = some p ∧ (P p ∨ p = f) ∧ fr p < a) ∨ (L = none ∧ ∀ i : Nat, (P i ∨ i = f) → a ≤ fr i) := by
      rcases i3 with ⟨q, q1, q2, q3⟩ | ⟨q1, q2⟩
      · exact Or.inl ⟨q, q1, Or.inl q2, q3⟩
      · exact Or.inr ⟨q1, fun i z => z.elim (q2 i) (fun q => by rw [q]; omega)⟩
    cases L with
    | none =>
      have a1 : ¬ clB T P ck 5 f < nI a := by
        show ¬ T 5 f < nI a
        rw [c5]; exact nd_nlt (by omega) (by omega) (by omega)
      by_cases hr : b < to f
      · refine ⟨none, some f, ?_, hP', seg, keepL, Or.inl ⟨f, rfl, Or.inr rfl, hr⟩⟩
        have a2 : nI b < clB T P ck 6 f := by
          show nI b < T 6 f
          rw [c6]; exact nd_lt hr (by omega) (by omega)
        show clF wh (nI a) (nI b) ck (k, clB T P ck) f = _
        rw [clF_01 a1 a2, cd_B]
        rfl
      · refine ⟨none, none, ?_, hP', seg, keepL, Or.inr ⟨rfl, fun i z => z.elim (hR2 i) (fun q => by rw [q]; omega)⟩⟩
        have a2 : ¬ nI b < clB T P ck 6 f := by
          show ¬ nI b < T 6 f
          rw [c6]; exact nd_nlt (by omega) (by omega) (by omega)
        show clF wh (nI a) (nI b) ck (k, clB T P ck) f = _
        rw [clF_00 a1 a2, cd_B]
        rfl
    | some p =>
      have a1 : ¬ opM (clB T P ck) k wh (T 4 p) (T 5 p) (nI a) ck 5 f < nI a := by
        show ¬ upd (T 5) k (T 5 p) f < nI a
        rw [pk_un (Ne.symm hnk), c5]; exact nd_nlt (by omega) (by omega) (by omega)
      by_cases hr : b < to f
      · refine ⟨some p, some f, ?_, hP', seg, keepL, Or.inl ⟨f, rfl, Or.inr rfl, hr⟩⟩
        have a2 : nI b < opM (clB T P ck) k wh (T 4 p) (T 5 p) (nI a) ck 6 f := by
          show nI b < upd (T 6) k (nI a) f
          rw [pk_un (Ne.symm hnk), c6]; exact nd_lt hr (by omega) (by omega)
        show clF wh (nI a) (nI b) ck (k + 1, opM (clB T P ck) k wh (T 4 p) (T 5 p) (nI a) ck) f = _
        rw [clF_01 a1 a2, cd_op _ hnk, cd_B]
        have b4 : opM (clB T P ck) k wh (T 4 p) (T 5 p) (nI a) ck 4 f = T 4 f := pk_un (Ne.symm hnk)
        have b6 : opM (clB T P ck) k wh (T 4 p) (T 5 p) (nI a) ck 6 f = T 6 f := pk_un (Ne.symm hnk)
        rw [b4, b6]
        rfl
      · refine ⟨some p, none, ?_, hP', seg, keepL, Or.inr ⟨rfl, fun i z => z.elim (hR2 i) (fun q => by rw [q]; omega)⟩⟩
        have a2 : ¬ nI b < opM (clB T P ck) k wh (T 4 p) (T 5 p) (nI a) ck 6 f := by
          show ¬ nI b < upd (T 6) k (nI a) f
          rw [pk_un (Ne.symm hnk), c6]; exact nd_nlt (by omega) (by omega) (by omega)
        show clF wh (nI a) (nI b) ck (k + 1, opM (clB T P ck) k wh (T 4 p) (T 5 p) (nI a) ck) f = _
        rw [clF_00 a1 a2, cd_op _ hnk, cd_B]
        rfl
end RUN
section RUN2
variable {S T : AS} {k n en h : Nat} {sl fr to o c : Nat → Nat} {s a b : Nat}
theorem cls_run (F : Fct S k n en sl fr to o c) (D : Dsj k sl fr to o c) (E : RowEq S T) (G : Gon (T 9) k h c) (hen : en ≤ 6) (hn : n < 60) (hk : k ≤ 180) (hs : s < 100) (hb : b ≤ 100) (hab : a < b) (r : Nat) : ∀ (j : Nat) (P : Nat → Prop) (L R : Option Nat), clQ T k (nI s) (nI a) (nI b) (nI (n + 1)) j = stR T k (nI s) (nI a) (nI b) (nI (n + 1)) P L R → SInv k sl fr to c s a b P L R → cntN P k = j → cntN (hO sl fr to c s a b) k = j + r →
    ∃ (P' : Nat → Prop) (L' R' : Option Nat), clQ T k (nI s) (nI a) (nI b) (nI (n + 1)) (j + r) = stR T k (nI s) (nI a) (nI b) (nI (n + 1)) P' L' R' ∧ SInv k sl fr to c s a b P' L' R' ∧ (∀ i : Nat, i < k → hO sl fr to c s a b i → P' i) ∧ ∀ i : Nat, j ≤ i → i < j + r → (clQ T k (nI s) (nI a) (nI b) (nI (n + 1)) i).1 + 2 ≤ 256 ∧ ¬ mtN (clQ T k (nI s) (nI a) (nI b) (nI (n + 1)) i).2 (nI s) (nI a) (nI b) (nI (n + 1)) (clQ T k (nI s) (nI a) (nI b) (nI (n + 1)) i).1 = -1 := by
  induction r with
  | zero =>
    intro j P L R hq I hc hh
    exact ⟨P, L, R, hq, I, cnt_all (fun i z => (I.1 i z).2) (by omega), fun i h1 h2 => by omega⟩
  | succ r ih =>
    intro j P L R hq I hc hh
    have hkk : (stR T k (nI s) (nI a) (nI b) (nI (n + 1)) P L R).1 ≤ k + 2 := st_k
    obtain ⟨i0, g1, g2, g3⟩ := cnt_more (P := P) (Q := hO sl fr to c s a b) (fun i z => (I.1 i z).2) (q := k) (by omega)
    have hge : k ≤ (stR T k (nI s) (nI a) (nI b) (nI (n + 1)) P L R).1 := by
      cases L <;> cases R
      · exact Nat.le_refl k
      · exact Nat.le_succ k
      · exact Nat.le_succ k
      · exact Nat.le_add_right k 2
    rcases mt_spec (stR T k (nI s) (nI a) (nI b) (nI (n + 1)) P L R).2 (nI s) (nI a) (nI b) (nI (n + 1)) (q := (stR T k (nI s) (nI a) (nI b) (nI (n + 1)) P L R).1) (by omega) with ⟨-, m2⟩ | ⟨f, hf, m1, m2, m3⟩
    · exact absurd ((mtP_iff F E G hen hn hs hb hab (by omega)).mpr ⟨g1, g2, g3⟩) (m2 i0 (by omega))
    · obtain ⟨k1, k2, k3⟩ := (mtP_iff F E G hen hn hs hb hab hf).mp m2
      have hmin : ∀ i : Nat, i < k → hO sl fr to c s a b i → ¬ P i → fr f ≤ fr i := by
        intro i w1 w2 w3
        have h5 := m3 i (by omega) ((mtP_iff F E G hen hn hs hb hab (by omega)).mpr ⟨w1, w2, w3⟩)
        obtain ⟨-, r5, -⟩ := st_old (T := T) (wh := nI s) (xa := nI a) (xb := nI b) (ck := nI (n + 1)) (P := P) (L := L) (R := R) k1
        obtain ⟨-, r5', -⟩ := st_old (T := T) (wh := nI s) (xa := nI a) (xb := nI b) (ck := nI (n + 1)) (P := P) (L := L) (R := R) w1
        obtain ⟨-, -, e5, -⟩ := E
        obtain ⟨-, f2, f3, -, -, -, f7, f8, -⟩ := F f k1
        obtain ⟨-, f2', f3', -, -, -, f7', f8', -⟩ := F i w1
        rw [r5, r5', e5, f2, f2'] at h5
        exact (nI_leI (by omega) (by omega)).mp h5
      obtain ⟨L', R', s1, s2⟩ := step_f (wh := nI s) (ck := nI (n + 1)) F D E hen hn hb hab I k1 k2 k3 hmin
      have hq2 : clQ T k (nI s) (nI a) (nI b) (nI (n + 1)) (j + 1) = stR T k (nI s) (nI a) (nI b) (nI (n + 1)) (fun i => P i ∨ i = f) L' R' := clQ_s (k1 := (stR T k (nI s) (nI a) (nI b) (nI (n + 1)) P L R).1) (S1 := (stR T k (nI s) (nI a) (nI b) (nI (n + 1)) P L R).2) hq m1 (by omega) s1
      have hc2 : cntN (fun i => P i ∨ i = f) k = j + 1 := by rw [cnt_add k3, hc, if_pos k1]
      obtain ⟨P2, L2, R2, t1, t2, t3, t4⟩ := ih (j + 1) _ L' R' hq2 s2 hc2 (by omega)
      rw [show j + 1 + r = j + (r + 1) by omega] at t1 t4
      refine ⟨P2, L2, R2, t1, t2, t3, fun i w1 w2 => ?_⟩
      by_cases e : i = j
      · rw [e, hq]
        exact ⟨by omega, fun z => nI_m1 (by omega) (m1.symm.trans z)⟩
      · exact t4 i (by omega) w2
theorem cnt_no (q : Nat) : cntN (fun _ => False) q = 0 := by
  induction q with
  | zero => rfl
  | succ q ih => rw [cnt_f (P := fun _ => False) (fun z => z)]; exact ih
/-- the class's clearing and the reference's closing come to the same -/
theorem clr_eq (F : Fct S k n en sl fr to o c) (D : Dsj k sl fr to o c) (E : RowEq S T) (G : Gon (T 9) k h c) (hen : en ≤ 6) (hn : n < 60) (hk : k ≤ 180) (hs : s < 100) (hb : b ≤ 100) (hab : a < b) {I I2 : AI} {S2 : AS} (hI : I 2 = nI k) (hcl : clearP I S (nI s) (nI a) (nI b) (nI (n + 1)) k I2 S2) :
    ∃ mm : Nat, clOK T k (nI s) (nI a) (nI b) (nI (n + 1)) mm ∧ cnN S (nI s) (nI a) (nI b) k = nI mm ∧ (clQ T k (nI s) (nI a) (nI b) (nI (n + 1)) mm).1 ≤ k + 2 ∧ I2 2 = nI (clQ T k (nI s) (nI a) (nI b) (nI (n + 1)) mm).1 ∧ RowEq S2 (clQ T k (nI s) (nI a) (nI b) (nI (n + 1)) mm).2 ∧ (∀ r : Nat, r < 3 ∨ 8 < r → (clQ T k (nI s) (nI a) (nI b) (nI (n + 1)) mm).2 r = T r) := by
  have hn' : n ≤ 60 := by omega
  have h0 : clQ T k (nI s) (nI a) (nI b) (nI (n + 1)) 0 = stR T k (nI s) (nI a) (nI b) (nI (n + 1)) (fun _ => False) none none := by
    show (k, T) = (k, clB T (fun _ => False) (nI (n + 1)))
    congr 1
    funext r
    by_cases e : r = 8
    · subst e
      funext i
      exact (crw_f (P := fun _ => False) (fun z => z)).symm
    · exact (va_up_ne _ _ e).symm
  have hc0 : cntN (fun _ => False) k = 0 := cnt_no k
  obtain ⟨P, L, R, q1, q2, q3, q4⟩ := cls_run F D E G hen hn hk hs hb hab (cntN (hO sl fr to c s a b) k) 0 (fun _ => False) none none h0 ⟨fun i z => z.elim, fun i i' z => z.elim, Or.inr ⟨rfl, fun i z => z.elim⟩, Or.inr ⟨rfl, fun i z => z.elim⟩⟩ hc0 (Nat.zero_add _).symm
  rw [Nat.zero_add] at q1 q4
  obtain ⟨p1, -, p3, p4⟩ := q2
  obtain ⟨e3, e4, e5, e6, e7, e8⟩ := E
  have hkk : (stR T k (nI s) (nI a) (nI b) (nI (n + 1)) P L R).1 ≤ k + 2 := st_k
  refine ⟨cntN (hO sl fr to c s a b) k, ⟨?_, fun i hi => q4 i (Nat.zero_le i) hi⟩, cn_n F hen hn' hs hab hb (Nat.le_refl k), by rw [q1]; exact hkk, ?_, ?_, ?_⟩
  · rw [q1]
    rcases mt_spec (stR T k (nI s) (nI a) (nI b) (nI (n + 1)) P L R).2 (nI s) (nI a) (nI b) (nI (n + 1)) (q := (stR T k (nI s) (nI a) (nI b) (nI (n + 1)) P L R).1) (by omega) with ⟨m1, -⟩ | ⟨f, hf, -, m2, -⟩
    · exact m1
    · obtain ⟨k1, k2, k3⟩ := (mtP_iff F ⟨e3, e4, e5, e6, e7, e8⟩ G hen hn hs hb hab hf).mp m2
      exact absurd (q3 f k1 k2) k3
  all_goals rw [q1]
  all_goals clear hkk q1 q4 h0 hc0
  all_goals
    have hB : RowEq (clr1 S (nI s) (nI a) (nI b) (nI (n + 1)) k) (clB T P (nI (n + 1))) := by
      refine ⟨e3, e4, e5, e6, e7, ?_⟩
      show crw P (T 8) (nI (n + 1)) = clN S (nI s) (nI a) (nI b) (nI (n + 1)) k
      funext i
      obtain ⟨r1, r2⟩ := cl_row F hen hn' hs hab hb (nI (n + 1)) (Nat.le_refl k) i
      by_cases e : P i
      · rw [crw_t e, r1 (p1 i e).1 (p1 i e).2]
      · rw [crw_f e, e8, r2 (fun z => e (q3 i z.1 z.2))]
    have hLn : bfN S (nI s) (nI a) (nI b) k = -1 → L = none := by
      intro z
      rcases p3 with ⟨p, w1, w2, w3⟩ | ⟨w1, -⟩
      · exfalso
        rcases bf_spec F hen hn' hs hab hb (Nat.le_refl k) with ⟨-, g2⟩ | ⟨j, hj, g1, -⟩
        · have := g2 p (p1 p w2).1 (p1 p w2).2
          omega
        · exact nI_m1 (by omega) (g1.symm.trans z)
      · exact w1
    have hLs : ∀ j : Nat, j < k → bfN S (nI s) (nI a) (nI b) k = nI j → L = some j := by
      intro j hj z
      rcases bf_spec F hen hn' hs hab hb (Nat.le_refl k) with ⟨g1, -⟩ | ⟨j', hj', g1, g2, g3⟩
      · exact absurd (z.symm.trans g1) (nI_m1 (by omega))
      · have ej : j' = j := (nI_eq (by omega) (by omega)).mp (g1.symm.trans z)
        rw [ej] at g2 g3
        rcases p3 with ⟨p, w1, w2, w3⟩ | ⟨-, w2⟩
        · rw [w1, hO_left D F (p1 p w2).1 hj (p1 p w2).2 g2 w3 g3]
        · have := w2 j (q3 j hj g2)
          omega
    have hRn : afN S (nI s) (nI a) (nI b) k = -1 → R = none := by
      intro z
      rcases p4 with ⟨p, w1, w2, w3⟩ | ⟨w1, -⟩
      · exfalso
        rcases af_spec F hen hn' hs hab hb (Nat.le_refl k) with ⟨-, g2⟩ | ⟨j, hj, g1, -⟩
        · have := g2 p (p1 p w2).1 (p1 p w2).2
          omega
        · exact nI_m1 (by omega) (g1.symm.trans z)
      · exact w1
    have hRs : ∀ j : Nat, j < k → afN S (nI s) (nI a) (nI b) k = nI j → R = some j := by
      intro j hj z
      rcases af_spec F hen hn' hs hab hb (Nat.le_refl k) with ⟨g1, -⟩ | ⟨j', hj', g1, g2, g3⟩
      · exact absurd (z.symm.trans g1) (nI_m1 (by omega))
      · have ej : j' = j := (nI_eq (by omega) (by omega)).mp (g1.symm.trans z)
        rw [ej] at g2 g3
        rcases p4 with ⟨p, w1, w2, w3⟩ | ⟨-, w2⟩
        · rw [w1, hO_right D F (p1 p w2).1 hj (p1 p w2).2 g2 w3 g3]
        · have := w2 j (q3 j hj g2)
          omega
  · rcases hcl with ⟨b1, b2, rfl, -⟩ | ⟨j, hj, b1, b2, rfl, -⟩ | ⟨j, hj, b1, b2, rfl, -⟩ | ⟨j, j2, hj, hj2, b1, b2, rfl, -⟩
    · rw [hLn b1, hRn b2]; exact hI
    · rw [hLs j hj b1, hRn b2]; rfl
    · rw [hLn b1, hRs j hj b2]; rfl
    · rw [hLs j hj b1, hRs j2 hj2 b2]; rfl
  · rcases hcl with ⟨b1, b2, -, rfl⟩ | ⟨j, hj, b1, b2, -, rfl⟩ | ⟨j, hj, b1, b2, -, rfl⟩ | ⟨j, j2, hj, hj2, b1, b2, -, rfl⟩
    · rw [hLn b1, hRn b2]; exact hB
    · rw [hLs j hj b1, hRn b2]
      show RowEq _ (opM (clB T P (nI (n + 1))) k (nI s) (T 4 j) (T 5 j) (nI a) (nI (n + 1)))
      rw [e4, e5]
      exact hB.op k (nI s) (S 9 j) (S 10 j) (nI a) (nI (n + 1))
    · rw [hLn b1, hRs j hj b2]
      show RowEq _ (opM (clB T P (nI (n + 1))) k (nI s) (T 4 j) (nI b) (T 6 j) (nI (n + 1)))
      rw [e4, e6]
      exact hB.op k (nI s) (S 9 j) (nI b) (S 11 j) (nI (n + 1))
    · rw [hLs j hj b1, hRs j2 hj2 b2]
      show RowEq _ (opM (opM (clB T P (nI (n + 1))) k (nI s) (T 4 j) (T 5 j) (nI a) (nI (n + 1))) (k + 1) (nI s) (T 4 j2) (nI b) (T 6 j2) (nI (n + 1)))
      rw [e4, e5, e6]
      exact (hB.op k (nI s) (S 9 j) (S 10 j) (nI a) (nI (n + 1))).op (k + 1) (nI s) (S 9 j2) (nI b) (S 11 j2) (nI (n + 1))
  · intro r hr
    have n3 : r ≠ 3 := by omega
    have n4 : r ≠ 4 := by omega
    have n5 : r ≠ 5 := by omega
    have n6 : r ≠ 6 := by omega
    have n7 : r ≠ 7 := by omega
    have n8 : r ≠ 8 := by omega
    have b0 : clB T P (nI (n + 1)) r = T r := va_up_ne _ _ n8
    cases L <;> cases R
    · exact b0
    · exact (op_o n3 n4 n5 n6 n7 n8).trans b0
    · exact (op_o n3 n4 n5 n6 n7 n8).trans b0
    · exact (op_o n3 n4 n5 n6 n7 n8).trans ((op_o n3 n4 n5 n6 n7 n8).trans b0)
end RUN2
