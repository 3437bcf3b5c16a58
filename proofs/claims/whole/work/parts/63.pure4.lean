/-! PURE: what closes -/
def hO (sl fr to c : Nat → Nat) (s a b i : Nat) : Prop := sl i = s ∧ c i = 0 ∧ fr i < b ∧ a < to i
noncomputable def cntN (P : Nat → Prop) : Nat → Nat
  | 0 => 0
  | i + 1 => @ite Nat (P i) (Classical.propDecidable (P i)) (cntN P i + 1) (cntN P i)
theorem cnt_t {P : Nat → Prop} {i : Nat} (h : P i) : cntN P (i + 1) = cntN P i + 1 := if_pos h
theorem cnt_f {P : Nat → Prop} {i : Nat} (h : ¬ P i) : cntN P (i + 1) = cntN P i := if_neg h
theorem cnt_le {P Q : Nat → Prop} (h : ∀ i : Nat, P i → Q i) (q : Nat) : cntN P q ≤ cntN Q q := by
  induction q with
  | zero => exact Nat.le_refl 0
  | succ q ih =>
    by_cases e : P q
    · rw [cnt_t e, cnt_t (h q e)]; omega
    · rw [cnt_f e]
      by_cases e2 : Q q
      · rw [cnt_t e2]; omega
      · rw [cnt_f e2]; omega
theorem cnt_more {P Q : Nat → Prop} (h : ∀ i : Nat, P i → Q i) {q : Nat} (hl : cntN P q < cntN Q q) : ∃ i : Nat, i < q ∧ Q i ∧ ¬ P i := by
  induction q with
  | zero => exact absurd hl (Nat.lt_irrefl 0)
  | succ q ih =>
    by_cases e : Q q ∧ ¬ P q
    · exact ⟨q, by omega, e⟩
    · have h2 : cntN P q < cntN Q q := by
        by_cases e1 : P q
        · rw [cnt_t e1, cnt_t (h q e1)] at hl; omega
        · have e2 : ¬ Q q := fun z => e ⟨z, e1⟩
          rw [cnt_f e1, cnt_f e2] at hl
          exact hl
      obtain ⟨i, hi, h3⟩ := ih h2
      exact ⟨i, by omega, h3⟩
theorem cnt_all {P Q : Nat → Prop} (h : ∀ i : Nat, P i → Q i) {q : Nat} (hl : cntN P q = cntN Q q) : ∀ i : Nat, i < q → Q i → P i := by
  induction q with
  | zero => intro i hi; omega
  | succ q ih =>
    have h1 := cnt_le h q
    intro i hi hq
    by_cases e1 : P q
    · rw [cnt_t e1, cnt_t (h q e1)] at hl
      by_cases e : i = q
      · rw [e]; exact e1
      · exact ih (by omega) i (by omega) hq
    · rw [cnt_f e1] at hl
      by_cases e2 : Q q
      · rw [cnt_t e2] at hl; omega
      · rw [cnt_f e2] at hl
        by_cases e : i = q
        · rw [e] at hq; exact absurd hq e2
        · exact ih hl i (by omega) hq
theorem cnt_add {P : Nat → Prop} {f : Nat} (hf : ¬ P f) (q : Nat) : cntN (fun i => P i ∨ i = f) q = cntN P q + (if f < q then 1 else 0) := by
  induction q with
  | zero => rfl
  | succ q ih =>
    by_cases e : q = f
    · subst e
      rw [cnt_t (P := fun i => P i ∨ i = q) (Or.inr rfl), cnt_f hf, ih, if_neg (show ¬ q < q by omega), if_pos (show q < q + 1 by omega)]
    · by_cases e1 : P q
      · rw [cnt_t (P := fun i => P i ∨ i = f) (Or.inl e1), cnt_t e1, ih]
        by_cases e2 : f < q
        · rw [if_pos e2, if_pos (show f < q + 1 by omega)]
        · rw [if_neg e2, if_neg (show ¬ f < q + 1 by omega)]
      · rw [cnt_f (P := fun i => P i ∨ i = f) (fun z => z.elim e1 e), cnt_f e1, ih]
        by_cases e2 : f < q
        · rw [if_pos e2, if_pos (show f < q + 1 by omega)]
        · rw [if_neg e2, if_neg (show ¬ f < q + 1 by omega)]
section CLS
variable {S : AS} {k n en : Nat} {sl fr to o c : Nat → Nat} {s a b : Nat}
theorem hC_iff (F : Fct S k n en sl fr to o c) (hen : en ≤ 6) (hn : n ≤ 60) {i : Nat} (hi : i < k) (hs : s < 100) (hab : a < b) (hb : b ≤ 100) : hitC S (nI s) (nI a) (nI b) i ↔ hO sl fr to c s a b i := by
  obtain ⟨f1, f2, f3, f4, f5, f6, f7, f8, f9, f10, f11⟩ := F i hi
  unfold hitC hO
  rw [f1, f2, f3, f5, nI_eq (by omega) (by omega), clI_0 (by omega), dw_pos (by omega) (by omega) (by omega) (by omega)]
  refine and_congr_right (fun _ => and_congr_right (fun _ => ?_))
  omega
theorem cl_row (F : Fct S k n en sl fr to o c) (hen : en ≤ 6) (hn : n ≤ 60) (hs : s < 100) (hab : a < b) (hb : b ≤ 100) (t : Int32) {q : Nat} (hq : q ≤ k) (i : Nat) : (i < q → hO sl fr to c s a b i → clN S (nI s) (nI a) (nI b) t q i = t) ∧ (¬ (i < q ∧ hO sl fr to c s a b i) → clN S (nI s) (nI a) (nI b) t q i = S 13 i) := by
  induction q with
  | zero => exact ⟨fun h => absurd h (Nat.not_lt_zero i), fun _ => rfl⟩
  | succ q ih =>
    obtain ⟨i1, i2⟩ := ih (by omega)
    have h1 := hC_iff F hen hn (show q < k by omega) hs hab hb
    rw [clN]
    by_cases e : hitC S (nI s) (nI a) (nI b) q
    · rw [if_pos e]
      by_cases e2 : i = q
      · subst e2
        rw [pk_us]
        exact ⟨fun _ _ => rfl, fun z => absurd ⟨Nat.lt_succ_self i, h1.mp e⟩ z⟩
      · rw [pk_un e2]
        exact ⟨fun z w => i1 (by omega) w, fun z => i2 (fun w => z ⟨by omega, w.2⟩)⟩
    · rw [if_neg e]
      refine ⟨fun z w => ?_, fun z => i2 (fun w => z ⟨by omega, w.2⟩)⟩
      by_cases e2 : i = q
      · subst e2
        exact absurd (h1.mpr w) e
      · exact i1 (by omega) w
theorem cn_n (F : Fct S k n en sl fr to o c) (hen : en ≤ 6) (hn : n ≤ 60) (hs : s < 100) (hab : a < b) (hb : b ≤ 100) {q : Nat} (hq : q ≤ k) : cnN S (nI s) (nI a) (nI b) q = nI (cntN (hO sl fr to c s a b) q) := by
  induction q with
  | zero => exact nI_0.symm
  | succ q ih =>
    have h1 := hC_iff F hen hn (show q < k by omega) hs hab hb
    rw [cnN, ih (by omega)]
    by_cases e : hitC S (nI s) (nI a) (nI b) q
    · rw [if_pos e, cnt_t (h1.mp e), nI_1]
    · rw [if_neg e, cnt_f (fun z => e (h1.mpr z))]
theorem bf_spec (F : Fct S k n en sl fr to o c) (hen : en ≤ 6) (hn : n ≤ 60) (hs : s < 100) (hab : a < b) (hb : b ≤ 100) {q : Nat} (hq : q ≤ k) : (bfN S (nI s) (nI a) (nI b) q = -1 ∧ ∀ i : Nat, i < q → hO sl fr to c s a b i → a ≤ fr i) ∨ (∃ j : Nat, j < q ∧ bfN S (nI s) (nI a) (nI b) q = nI j ∧ hO sl fr to c s a b j ∧ fr j < a) := by
  induction q with
  | zero => exact Or.inl ⟨rfl, fun i hi => absurd hi (Nat.not_lt_zero i)⟩
  | succ q ih =>
    have h1 := hC_iff F hen hn (show q < k by omega) hs hab hb
    obtain ⟨f1, f2, f3, f4, f5, f6, f7, f8, f9, f10, f11⟩ := F q (by omega)
    have h2 : (nI a ≤ S 10 q) ↔ a ≤ fr q := by rw [f2, nI_leI (by omega) (by omega)]
    rw [bfN]
    by_cases e : hitC S (nI s) (nI a) (nI b) q ∧ ¬ nI a ≤ S 10 q
    · rw [if_pos e]
      exact Or.inr ⟨q, by omega, rfl, h1.mp e.1, Nat.lt_of_not_le (fun z => e.2 (h2.mpr z))⟩
    · rw [if_neg e]
      rcases ih (by omega) with ⟨g1, g2⟩ | ⟨j, hj, g1, g2, g3⟩
      · refine Or.inl ⟨g1, fun i hi w => ?_⟩
        by_cases e2 : i = q
        · subst e2
          exact Classical.byContradiction (fun z => e ⟨h1.mpr w, fun y => z (h2.mp y)⟩)
        · exact g2 i (by omega) w
      · exact Or.inr ⟨j, by omega, g1, g2, g3⟩
theorem af_spec (F : Fct S k n en sl fr to o c) (hen : en ≤ 6) (hn : n ≤ 60) (hs : s < 100) (hab : a < b) (hb : b ≤ 100) {q : Nat} (hq : q ≤ k) : (afN S (nI s) (nI a) (nI b) q = -1 ∧ ∀ i : Nat, i < q → hO sl fr to c s a b i → to i ≤ b) ∨ (∃ j : Nat, j < q ∧ afN S (nI s) (nI a) (nI b) q = nI j ∧ hO sl fr to c s a b j ∧ b < to j) := by
  induction q with
  | zero => exact Or.inl ⟨rfl, fun i hi => absurd hi (Nat.not_lt_zero i)⟩
  | succ q ih =>
    have h1 := hC_iff F hen hn (show q < k by omega) hs hab hb
    obtain ⟨f1, f2, f3, f4, f5, f6, f7, f8, f9, f10, f11⟩ := F q (by omega)
    have h2 : (S 11 q ≤ nI b) ↔ to q ≤ b := by rw [f3, nI_leI (by omega) (by omega)]
    rw [afN]
    by_cases e : hitC S (nI s) (nI a) (nI b) q ∧ ¬ S 11 q ≤ nI b
    · rw [if_pos e]
      exact Or.inr ⟨q, by omega, rfl, h1.mp e.1, Nat.lt_of_not_le (fun z => e.2 (h2.mpr z))⟩
    · rw [if_neg e]
      rcases ih (by omega) with ⟨g1, g2⟩ | ⟨j, hj, g1, g2, g3⟩
      · refine Or.inl ⟨g1, fun i hi w => ?_⟩
        by_cases e2 : i = q
        · subst e2
          exact Classical.byContradiction (fun z => e ⟨h1.mpr w, fun y => z (h2.mp y)⟩)
        · exact g2 i (by omega) w
      · exact Or.inr ⟨j, by omega, g1, g2, g3⟩
/-- two open facts of one place that meet the days: one at most begins before them, one at most ends behind -/
theorem hO_lt (D : Dsj k sl fr to o c) (F : Fct S k n en sl fr to o c) {i j : Nat} (hi : i < k) (hj : j < k) (h1 : hO sl fr to c s a b i) (h2 : hO sl fr to c s a b j) (hne : i ≠ j) : to i ≤ fr j ∨ to j ≤ fr i := by
  obtain ⟨-, -, -, -, -, -, -, -, -, f10, -⟩ := F i hi
  obtain ⟨-, -, -, -, -, -, -, -, -, g10, -⟩ := F j hj
  exact D i j hi hj hne (h1.1.trans h2.1.symm) (max (o i) (o j)) ⟨Nat.le_max_left _ _, Or.inl h1.2.1⟩ ⟨Nat.le_max_right _ _, Or.inl h2.2.1⟩
theorem hO_left (D : Dsj k sl fr to o c) (F : Fct S k n en sl fr to o c) {i j : Nat} (hi : i < k) (hj : j < k) (h1 : hO sl fr to c s a b i) (h2 : hO sl fr to c s a b j) (g1 : fr i < a) (g2 : fr j < a) : i = j := by
  by_cases e : i = j
  · exact e
  · have h3 := hO_lt D F hi hj h1 h2 e
    have := h1.2.2; have := h2.2.2
    omega
theorem hO_right (D : Dsj k sl fr to o c) (F : Fct S k n en sl fr to o c) {i j : Nat} (hi : i < k) (hj : j < k) (h1 : hO sl fr to c s a b i) (h2 : hO sl fr to c s a b j) (g1 : b < to i) (g2 : b < to j) : i = j := by
  by_cases e : i = j
  · exact e
  · have h3 := hO_lt D F hi hj h1 h2 e
    have := h1.2.2; have := h2.2.2
    omega
end CLS
/-! the reference's closing -/
theorem mt_spec (S : AS) (wh a b si : Int32) {q : Nat} (hq : q ≤ 1000) : (mtN S wh a b si q = -1 ∧ ∀ i : Nat, i < q → ¬ mtP S wh a b si i) ∨ (∃ f : Nat, f < q ∧ mtN S wh a b si q = nI f ∧ mtP S wh a b si f ∧ ∀ i : Nat, i < q → mtP S wh a b si i → S 5 f ≤ S 5 i) := by
  induction q with
  | zero => exact Or.inl ⟨rfl, fun i hi => absurd hi (Nat.not_lt_zero i)⟩
  | succ q ih =>
    by_cases e : mtP S wh a b si q
    · by_cases e2 : mtN S wh a b si q = -1 ∨ S 5 q < S 5 (mtN S wh a b si q).toNatClampNeg
      · rw [mt_t e e2]
        refine Or.inr ⟨q, by omega, rfl, e, fun i hi w => ?_⟩
        by_cases e3 : i = q
        · rw [e3]; exact Int32.le_refl _
        · rcases ih (by omega) with ⟨g1, g2⟩ | ⟨f, hf, g1, g2, g3⟩
          · exact absurd w (g2 i (by omega))
          · rw [g1, nI_clamp (by omega)] at e2
            rcases e2 with e2 | e2
            · exact absurd e2 (nI_m1 (by omega))
            · exact Int32.le_trans (Int32.le_of_lt e2) (g3 i (by omega) w)
      · rw [mt_f (fun z => e2 z.2)]
        rcases ih (by omega) with ⟨g1, g2⟩ | ⟨f, hf, g1, g2, g3⟩
        · exact absurd (Or.inl g1) e2
        · refine Or.inr ⟨f, by omega, g1, g2, fun i hi w => ?_⟩
          by_cases e3 : i = q
          · rw [e3]
            rw [g1, nI_clamp (by omega)] at e2
            exact Int32.not_lt.mp (fun z => e2 (Or.inr z))
          · exact g3 i (by omega) w
    · rw [mt_f (fun z => e z.1)]
      rcases ih (by omega) with ⟨g1, g2⟩ | ⟨f, hf, g1, g2, g3⟩
      · refine Or.inl ⟨g1, fun i hi w => ?_⟩
        by_cases e3 : i = q
        · rw [e3] at w; exact e w
        · exact g2 i (by omega) w
      · refine Or.inr ⟨f, by omega, g1, g2, fun i hi w => ?_⟩
        by_cases e3 : i = q
        · rw [e3] at w; exact absurd w e
        · exact g3 i (by omega) w
noncomputable def crw (P : Nat → Prop) (f : Nat → Int32) (ck : Int32) : Nat → Int32 := fun i => @ite Int32 (P i) (Classical.propDecidable (P i)) ck (f i)
theorem crw_t {P : Nat → Prop} {f : Nat → Int32} {ck : Int32} {i : Nat} (h : P i) : crw P f ck i = ck := if_pos h
theorem crw_f {P : Nat → Prop} {f : Nat → Int32} {ck : Int32} {i : Nat} (h : ¬ P i) : crw P f ck i = f i := if_neg h
theorem crw_add {P : Nat → Prop} {f : Nat → Int32} {ck : Int32} {x : Nat} : upd (crw P f ck) x ck = crw (fun i => P i ∨ i = x) f ck := by
  funext i
  by_cases e : i = x
  · rw [e, pk_us, crw_t (Or.inr rfl)]
  · rw [pk_un e]
    by_cases e2 : P i
    · rw [crw_t e2, crw_t (Or.inl e2)]
    · rw [crw_f e2, crw_f (fun z => z.elim e2 e)]
noncomputable abbrev clB (T : AS) (P : Nat → Prop) (ck : Int32) : AS := va_up T 8 (crw P (T 8) ck)
noncomputable def stR (T : AS) (k : Nat) (wh a b ck : Int32) (P : Nat → Prop) : Option Nat → Option Nat → Nat × AS
  | none, none => (k, clB T P ck)
  | some p, none => (k + 1, opM (clB T P ck) k wh (T 4 p) (T 5 p) a ck)
  | none, some q => (k + 1, opM (clB T P ck) k wh (T 4 q) b (T 6 q) ck)
  | some p, some q => (k + 1 + 1, opM (opM (clB T P ck) k wh (T 4 p) (T 5 p) a ck) (k + 1) wh (T 4 q) b (T 6 q) ck)
theorem cd_o {B : AS} {f r : Nat} {ck : Int32} (h : r ≠ 8) : cdM B f ck r = B r := va_up_ne _ _ h
theorem op_o {B : AS} {k r : Nat} {wh x y z t : Int32} (h3 : r ≠ 3) (h4 : r ≠ 4) (h5 : r ≠ 5) (h6 : r ≠ 6) (h7 : r ≠ 7) (h8 : r ≠ 8) : opM B k wh x y z t r = B r := by
  show va_up (va_up (va_up (va_up (va_up (va_up B 3 (upd (B 3) k wh)) 4 (upd (B 4) k x)) 5 (upd (B 5) k y)) 6 (upd (B 6) k z)) 7 (upd (B 7) k t)) 8 (upd (B 8) k (-1)) r = B r
  rw [va_up_ne _ _ h8, va_up_ne _ _ h7, va_up_ne _ _ h6, va_up_ne _ _ h5, va_up_ne _ _ h4, va_up_ne _ _ h3]
theorem cd_B (T : AS) (P : Nat → Prop) (ck : Int32) (f : Nat) : cdM (clB T P ck) f ck = clB T (fun i => P i ∨ i = f) ck := by
  funext r
  by_cases h : r = 8
  · subst h
    show upd (crw P (T 8) ck) f ck = crw (fun i => P i ∨ i = f) (T 8) ck
    exact crw_add
  · rw [cd_o h, show clB T P ck r = T r from va_up_ne _ _ h, show clB T (fun i => P i ∨ i = f) ck r = T r from va_up_ne _ _ h]
theorem upd_sw {g : Nat → Int32} {x y : Nat} {u w : Int32} (h : x ≠ y) : upd (upd g x u) y w = upd (upd g y w) x u := by
  funext i
  by_cases e : i = y
  · rw [e, pk_us, pk_un (Ne.symm h), pk_us]
  · by_cases e2 : i = x
    · rw [pk_un e, e2, pk_us, pk_us]
    · rw [pk_un e, pk_un e2, pk_un e2, pk_un e]
theorem cd_op (B : AS) {k f : Nat} (hf : k ≠ f) (wh x y z t ck : Int32) : cdM (opM B k wh x y z t) f ck = opM (cdM B f ck) k wh x y z t := by
  funext r
  by_cases h8 : r = 8
  · subst h8
    show upd (upd (B 8) k (-1)) f ck = upd (upd (B 8) f ck) k (-1)
    exact upd_sw hf
  · by_cases h7 : r = 7
    · subst h7; rfl
    · by_cases h6 : r = 6
      · subst h6; rfl
      · by_cases h5 : r = 5
        · subst h5; rfl
        · by_cases h4 : r = 4
          · subst h4; rfl
          · by_cases h3 : r = 3
            · subst h3; rfl
            · rw [cd_o h8, op_o h3 h4 h5 h6 h7 h8, op_o h3 h4 h5 h6 h7 h8, cd_o h8]
