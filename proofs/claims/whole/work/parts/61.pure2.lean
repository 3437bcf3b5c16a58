/-! PURE: a row of facts and the class's two rows of days -/
def Rel (v o f g : Nat → Int32) (k : Nat) : Prop := ∀ d : Nat, d < 100 → (o d = -1 ∧ f d = 0 ∧ g d = 0) ∨ (∃ i : Nat, i < k ∧ o d = nI i ∧ f d = 1 ∧ g d = v i)
theorem rel_of {S : AS} {k n en : Nat} {sl fr to o c : Nat → Nat} (F : Fct S k n en sl fr to o c) (D : Dsj k sl fr to o c) (hen : en ≤ 6) (hn : n ≤ 60) {g : Nat → Int32} {h : Nat} (G : Gon g k h c) {s t : Nat} (hs : s < 100) (ht : t ≤ 60) (hht : h ≤ t) (f0 f1 f2 : Nat → Int32) : Rel (S 9) (lkR (S 8) (S 12) (S 13) g (nI s) (nI t) fr to f0 k) (rdKN S (nI s) (nI t) fr to f1 k) (rdVN S (nI s) (nI t) fr to f2 k) k := by
  intro d hd
  by_cases hh : ∃ i : Nat, i < k ∧ hitN sl fr to o c s t d i
  · obtain ⟨i, hi, h1⟩ := hh
    exact Or.inr ⟨i, hi, lk_hit F D hen hn G hs ht hht hd f0 (Nat.le_refl k) hi h1, (rk_hit F D hen hn hs ht hd f1 (Nat.le_refl k) hi h1).1, (rk_hit F D hen hn hs ht hd f2 (Nat.le_refl k) hi h1).2⟩
  · have h1 : ∀ i : Nat, i < k → ¬ hitN sl fr to o c s t d i := fun i hi q => hh ⟨i, hi, q⟩
    exact Or.inl ⟨lk_no F hen hn G hs ht hht hd f0 (Nat.le_refl k) h1, (rk_no F hen hn hs ht hd f1 (Nat.le_refl k) h1).1, (rk_no F hen hn hs ht hd f2 (Nat.le_refl k) h1).2⟩
theorem fnd_lk {S : AS} {k n en : Nat} {sl fr to o c : Nat → Nat} (F : Fct S k n en sl fr to o c) (D : Dsj k sl fr to o c) (hen : en ≤ 6) (hn : n ≤ 60) (hk : k ≤ 180) {g : Nat → Int32} {h : Nat} (G : Gon g k h c) {s t d : Nat} (hs : s < 100) (ht : t ≤ 60) (hht : h ≤ t) (hd : d < 100) (f0 : Nat → Int32) : lkR (S 8) (S 12) (S 13) g (nI s) (nI t) fr to f0 k d = fndN S (nI s) (nI d) (nI t) k := by
  by_cases hh : ∃ i : Nat, i < k ∧ hitN sl fr to o c s t d i
  · obtain ⟨i, hi, h1⟩ := hh
    rw [lk_hit F D hen hn G hs ht hht hd f0 (Nat.le_refl k) hi h1, fnd_hit F D hen hn hk hs ht hd hi h1]
  · have h1 : ∀ i : Nat, i < k → ¬ hitN sl fr to o c s t d i := fun i hi q => hh ⟨i, hi, q⟩
    rw [lk_no F hen hn G hs ht hht hd f0 (Nat.le_refl k) h1, fnd_no F hen hn hs ht hd h1]
theorem kb_n {f : Nat → Int32} {d : Nat} (hd : d < 100) : kb f (nI d) = decide (¬ f d = 0) := by
  unfold kb
  rw [nI_clamp (by omega)]
  refine decide_eq_decide.mpr ⟨fun q => q.2.2, fun q => ⟨nI_pos (by omega), ?_, q⟩⟩
  rw [show (100 : Int32) = nI 100 from rfl, nI_leI (by omega) (by omega)]
  omega
section RELS
variable {v o f g p f' g' : Nat → Int32} {k : Nat}
theorem Rel.kn (R : Rel v o f g k) (hk : k ≤ 256) {d : Nat} (hd : d < 100) : kb f (nI d) = decide (¬ o d = -1) := by
  rw [kb_n hd]
  rcases R d hd with ⟨h1, h2, -⟩ | ⟨i, hi, h1, h2, -⟩
  · rw [h1, h2]; rfl
  · rw [h1, h2]
    have h3 : ¬ nI i = -1 := nI_m1 (by omega)
    rw [decide_eq_true h3]; rfl
theorem Rel.vl (R : Rel v o f g k) (hk : k ≤ 256) {d : Nat} (hd : d < 100) : vlI f g (nI d) = if o d = -1 then 0 else v (o d).toNatClampNeg := by
  unfold vlI
  rw [R.kn hk hd]
  rcases R d hd with ⟨h1, h2, h3⟩ | ⟨i, hi, h1, h2, h3⟩
  · rw [h1]; rfl
  · have h4 : ¬ nI i = -1 := nI_m1 (by omega)
    rw [h1, decide_eq_true h4, if_pos rfl, if_neg h4, nI_clamp (by omega), nI_clamp (by omega), h3]
theorem Rel.sum (R : Rel v o f g k) (hk : k ≤ 256) {n : Nat} (hn : n ≤ 100) : smN f g n = igN v o n := by
  induction n with
  | zero => rfl
  | succ n ih =>
    rw [smN, igN, ih (by omega), R.vl hk (by omega)]
    by_cases h : o n = -1
    · rw [if_pos h, if_pos h]; rfl
    · rw [if_neg h, if_neg h]
theorem Rel.common (R : Rel v o f g k) (R' : Rel v p f' g' k) (hk : k ≤ 256) {n : Nat} (hn : n ≤ 100) : ccN f f' n = bdN v o p false n := by
  induction n with
  | zero => rfl
  | succ n ih =>
    rw [ccN, bdN, ih (by omega), R.kn hk (by omega), R'.kn hk (by omega)]
    have h : bdB v o p false n = (decide (¬ o n = -1) && decide (¬ p n = -1)) := by unfold bdB; rw [Bool.not_false, Bool.true_or, Bool.and_true]
    rw [h]
theorem Rel.agree (R : Rel v o f g k) (R' : Rel v p f' g' k) (hk : k ≤ 256) {n : Nat} (hn : n ≤ 100) : caN f g f' g' n = bdN v o p true n := by
  induction n with
  | zero => rfl
  | succ n ih =>
    rw [caN, bdN, ih (by omega)]
    have h : agB f g f' g' (nI n) = bdB v o p true n := by
      unfold agB bdB
      rw [R.kn hk (by omega), R'.kn hk (by omega), R.vl hk (by omega), R'.vl hk (by omega), Bool.not_true, Bool.false_or, ← Bool.and_assoc]
      by_cases h1 : o n = -1
      · rw [h1]; rfl
      · by_cases h2 : p n = -1
        · rw [h2, decide_eq_true h1]; rfl
        · rw [if_neg h1, if_neg h2]
    rw [h]
theorem Rel.differ (R : Rel v o f g k) (R' : Rel v p f' g' k) (hk : k ≤ 256) {n : Nat} (hn : n ≤ 100) : cfN f g f' g' n = chN v o p n := by
  induction n with
  | zero => rfl
  | succ n ih =>
    rw [cfN, chN, ih (by omega)]
    have h : dfB f g f' g' (nI n) = chB v o p n := by
      unfold dfB chB
      rw [R.kn hk (by omega), R'.kn hk (by omega), R.vl hk (by omega), R'.vl hk (by omega)]
      by_cases h1 : o n = -1
      · by_cases h2 : p n = -1
        · rw [h1, h2]; rfl
        · rw [h1, decide_eq_true h2]; rfl
      · by_cases h2 : p n = -1
        · rw [h2, decide_eq_true h1]; rfl
        · rw [if_neg h1, if_neg h2, decide_eq_true h1, decide_eq_true h2]
          show (false || !decide _) = (false || (true && decide _))
          rw [Bool.false_or, Bool.false_or, Bool.true_and]
          by_cases h3 : v (o n).toNatClampNeg = v (p n).toNatClampNeg
          · rw [decide_eq_true h3, decide_eq_false (fun q => q h3)]; rfl
          · rw [decide_eq_false h3, decide_eq_true h3]; rfl
    rw [h]
theorem Rel.as (R : Rel v o f g k) (hk : k ≤ 256) {d : Nat} (hd : d < 100) : asB f g (nI d) = (decide (0 < d) && likeB v o d (d - 1)) := by
  unfold asB
  by_cases h0 : d = 0
  · subst h0
    have h1 : kb f (nI 0 - 1) = false := by
      unfold kb
      exact decide_eq_false (fun q => q.1 (by decide))
    rw [h1, Bool.false_and, Bool.and_false]; rfl
  · have h1 : nI d - 1 = nI (d - 1) := pk_sub (a := d) (b := 1) (by omega)
    rw [h1, R.kn hk hd, R.kn hk (by omega), R.vl hk hd, R.vl hk (by omega), decide_eq_true (show 0 < d by omega), Bool.true_and]
    unfold likeB
    by_cases h2 : o d = -1
    · rw [h2]; rfl
    · by_cases h3 : o (d - 1) = -1
      · rw [h3, decide_eq_true h2, decide_eq_false (fun q : ¬ o d = -1 ∧ ¬ (-1 : Int32) = -1 ∧ _ => q.2.1 rfl)]; rfl
      · rw [if_neg h2, if_neg h3, decide_eq_true h2, decide_eq_true h3, Bool.true_and, Bool.true_and]
        exact decide_eq_decide.mpr ⟨fun q => ⟨h2, h3, q⟩, fun q => q.2.2⟩
end RELS
/-! periods: both list the same -/
def jnt (o p : Nat → Int32) (z : Bool) (d : Nat) : Prop := ¬ o d = -1 ∧ (z = true → ¬ p d = -1)
theorem sk_iff {o p : Nat → Int32} {z : Bool} {d : Nat} : skB o p z d = true ↔ ¬ jnt o p z d := by
  unfold skB jnt
  cases z
  · by_cases h : o d = -1
    · rw [decide_eq_true h]; simp [h]
    · rw [decide_eq_false h]; simp [h]
  · by_cases h : o d = -1
    · simp [h]
    · by_cases h2 : p d = -1
      · simp [h, h2]
      · simp [h, h2]
def lkB (v o p : Nat → Int32) (z : Bool) (d : Nat) : Bool := likeB v o d (d - 1) && (!z || likeB v p d (d - 1))
theorem lk_jnt {v o p : Nat → Int32} {z : Bool} {d : Nat} (h : lkB v o p z d = true) : jnt o p z d ∧ jnt o p z (d - 1) := by
  have h1 := Bool.and_eq_true_iff.mp h
  have h2 := of_decide_eq_true h1.1
  refine ⟨⟨h2.1, fun hz => ?_⟩, ⟨h2.2.1, fun hz => ?_⟩⟩
  · have h3 := h1.2
    rw [hz] at h3
    have h3 : likeB v p d (d - 1) = true := h3
    exact (of_decide_eq_true h3).1
  · have h3 := h1.2
    rw [hz] at h3
    have h3 : likeB v p d (d - 1) = true := h3
    exact (of_decide_eq_true h3).2.1
theorem per_eq {v o p f g f' g' F0 T0 F1 B1 : Nat → Int32} {z : Bool} (hA : ∀ d : Nat, d < 100 → (asB f g (nI d) && asB f' g' (nI d)) = (decide (0 < d) && lkB v o p z d)) (hK : ∀ d : Nat, d < 100 → (kb f (nI d) && kb f' (nI d)) = !skB o p z d) (d : Nat) (hd : d ≤ 100) :
    (plS f g f' g' F0 T0 d).1 = (pmS v o p z F1 B1 d).1 ∧ (∀ j : Nat, j < (pmS v o p z F1 B1 d).1 → (plS f g f' g' F0 T0 d).2.1 j = (pmS v o p z F1 B1 d).2.1 j ∧ (plS f g f' g' F0 T0 d).2.2 j = (pmS v o p z F1 B1 d).2.2 j) ∧
    (0 < d → jnt o p z (d - 1) → 0 < (pmS v o p z F1 B1 d).1 ∧ (pmS v o p z F1 B1 d).2.2 ((pmS v o p z F1 B1 d).1 - 1) = nI d) := by
  induction d with
  | zero => exact ⟨rfl, fun j hj => absurd hj (Nat.not_lt_zero j), fun h => absurd h (Nat.lt_irrefl 0)⟩
  | succ d ih =>
    obtain ⟨i1, i2, i3⟩ := ih (by omega)
    have a1 := hA d (by omega)
    have k1 := hK d (by omega)
    by_cases hs : skB o p z d = true
    · have hj := sk_iff.mp hs
      have hl : lkB v o p z d = false := by
        cases e : lkB v o p z d
        · rfl
        · exact absurd (lk_jnt e).1 hj
      rw [hl, Bool.and_false] at a1
      rw [hs] at k1
      have e1 : plS f g f' g' F0 T0 (d + 1) = plS f g f' g' F0 T0 d := by
        refine plS_c (fun q => ?_) (fun q => ?_)
        · rw [q.1, q.2] at a1; exact absurd a1 (by decide)
        · rw [q.1, q.2] at k1; exact absurd k1 (by decide)
      rw [e1, pm_skip hs]
      exact ⟨i1, i2, fun _ q => absurd q hj⟩
    · have hj : jnt o p z d := Classical.byContradiction (fun q => hs (sk_iff.mpr q))
      have hsf : skB o p z d = false := Bool.eq_false_iff.mpr hs
      rw [hsf] at k1
      by_cases ha : (decide (0 < d) && lkB v o p z d) = true
      · have ha2 := Bool.and_eq_true_iff.mp ha
        have h0 := of_decide_eq_true ha2.1
        obtain ⟨b1, b2⟩ := i3 h0 (lk_jnt ha2.2).2
        have hg : goB v o p z (pmS v o p z F1 B1 d) d = true := by
          unfold goB
          rw [decide_eq_true (show 0 < (pmS v o p z F1 B1 d).1 ∧ (pmS v o p z F1 B1 d).2.2 ((pmS v o p z F1 B1 d).1 - 1) = nI d from ⟨b1, b2⟩), Bool.true_and]
          exact ha2.2
        rw [ha] at a1
        have a2 := Bool.and_eq_true_iff.mp a1
        rw [plS_a a2.1 a2.2, pm_go hs hg]
        refine ⟨i1, fun j hj' => ?_, fun _ _ => ⟨b1, ?_⟩⟩
        · have hj' : j < (pmS v o p z F1 B1 d).1 := hj'
          refine ⟨(i2 j hj').1, ?_⟩
          show (if (plS f g f' g' F0 T0 d).1 = 0 then (plS f g f' g' F0 T0 d).2.2 else upd (plS f g f' g' F0 T0 d).2.2 ((plS f g f' g' F0 T0 d).1 - 1) ((plS f g f' g' F0 T0 d).2.2 ((plS f g f' g' F0 T0 d).1 - 1) + 1)) j = upd (pmS v o p z F1 B1 d).2.2 ((pmS v o p z F1 B1 d).1 - 1) (nI (d + 1)) j
          rw [i1, if_neg (by omega), (i2 _ (by omega : (pmS v o p z F1 B1 d).1 - 1 < (pmS v o p z F1 B1 d).1)).2, b2, nI_1]
          simp only [upd]
          split
          · rfl
          · exact (i2 j hj').2
        · show upd (pmS v o p z F1 B1 d).2.2 ((pmS v o p z F1 B1 d).1 - 1) (nI (d + 1)) ((pmS v o p z F1 B1 d).1 - 1) = nI (d + 1)
          exact pk_us
      · have hg : ¬ goB v o p z (pmS v o p z F1 B1 d) d = true := by
          intro q
          unfold goB at q
          have q2 := Bool.and_eq_true_iff.mp q
          have q3 := of_decide_eq_true q2.1
          have hle := pmS_le v o p z F1 B1 d
          refine ha (Bool.and_eq_true_iff.mpr ⟨decide_eq_true (by omega), q2.2⟩)
        have hna : ¬ (asB f g (nI d) = true ∧ asB f' g' (nI d) = true) := by
          intro q
          rw [q.1, q.2] at a1
          exact ha a1.symm
        have k2 := Bool.and_eq_true_iff.mp (k1.trans rfl)
        rw [plS_b hna k2.1 k2.2, pm_new hs hg]
        refine ⟨by show (plS f g f' g' F0 T0 d).1 + 1 = (pmS v o p z F1 B1 d).1 + 1; rw [i1], fun j hj' => ?_, fun _ _ => ⟨Nat.succ_pos _, ?_⟩⟩
        · have hj' : j < (pmS v o p z F1 B1 d).1 + 1 := hj'
          show upd (plS f g f' g' F0 T0 d).2.1 (plS f g f' g' F0 T0 d).1 (nI d) j = upd (pmS v o p z F1 B1 d).2.1 (pmS v o p z F1 B1 d).1 (nI d) j ∧ upd (plS f g f' g' F0 T0 d).2.2 (plS f g f' g' F0 T0 d).1 (nI (d + 1)) j = upd (pmS v o p z F1 B1 d).2.2 (pmS v o p z F1 B1 d).1 (nI (d + 1)) j
          rw [i1]
          simp only [upd]
          by_cases e : j = (pmS v o p z F1 B1 d).1
          · rw [if_pos e, if_pos e, if_pos e, if_pos e]
            exact ⟨rfl, rfl⟩
          · rw [if_neg e, if_neg e, if_neg e, if_neg e]
            exact i2 j (by omega)
        · show upd (pmS v o p z F1 B1 d).2.2 (pmS v o p z F1 B1 d).1 (nI (d + 1)) ((pmS v o p z F1 B1 d).1 + 1 - 1) = nI (d + 1)
          rw [Nat.add_sub_cancel]
          exact pk_us
theorem Rel.per1 {v o f g F0 T0 F1 B1 p : Nat → Int32} {k : Nat} (R : Rel v o f g k) (hk : k ≤ 256) : (plS f g f g F0 T0 100).1 = (pmS v o p false F1 B1 100).1 ∧ ∀ j : Nat, j < (pmS v o p false F1 B1 100).1 → (plS f g f g F0 T0 100).2.1 j = (pmS v o p false F1 B1 100).2.1 j ∧ (plS f g f g F0 T0 100).2.2 j = (pmS v o p false F1 B1 100).2.2 j := by
  have h := per_eq (v := v) (o := o) (p := p) (f := f) (g := g) (f' := f) (g' := g) (F0 := F0) (T0 := T0) (F1 := F1) (B1 := B1) (z := false) (fun d hd => by
    rw [R.as hk hd, Bool.and_self]
    unfold lkB
    rw [Bool.not_false, Bool.true_or, Bool.and_true]) (fun d hd => by
    rw [R.kn hk hd, Bool.and_self]
    unfold skB
    rw [Bool.false_and, Bool.or_false, decide_not]) 100 (Nat.le_refl _)
  exact ⟨h.1, h.2.1⟩
theorem Rel.per2 {v o f g p f' g' F0 T0 F1 B1 : Nat → Int32} {k : Nat} (R : Rel v o f g k) (R' : Rel v p f' g' k) (hk : k ≤ 256) : (plS f g f' g' F0 T0 100).1 = (pmS v o p true F1 B1 100).1 ∧ ∀ j : Nat, j < (pmS v o p true F1 B1 100).1 → (plS f g f' g' F0 T0 100).2.1 j = (pmS v o p true F1 B1 100).2.1 j ∧ (plS f g f' g' F0 T0 100).2.2 j = (pmS v o p true F1 B1 100).2.2 j := by
  have h := per_eq (v := v) (o := o) (p := p) (f := f) (g := g) (f' := f') (g' := g') (F0 := F0) (T0 := T0) (F1 := F1) (B1 := B1) (z := true) (fun d hd => by
    rw [R.as hk hd, R'.as hk hd]
    unfold lkB
    rw [Bool.not_true, Bool.false_or]
    cases decide (0 < d)
    · rfl
    · rw [Bool.true_and, Bool.true_and, Bool.true_and]) (fun d hd => by
    rw [R.kn hk hd, R'.kn hk hd]
    unfold skB
    rw [Bool.true_and, decide_not, decide_not, Bool.not_or]) 100 (Nat.le_refl _)
  exact ⟨h.1, h.2.1⟩
