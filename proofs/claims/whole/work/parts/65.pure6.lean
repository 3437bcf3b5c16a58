/-! PURE: an operation, fact by fact -/
def updN (f : Nat → Nat) (k x : Nat) : Nat → Nat := fun j => if j = k then x else f j
theorem un_s {f : Nat → Nat} {k x : Nat} : updN f k x k = x := if_pos rfl
theorem un_n {f : Nat → Nat} {k x j : Nat} (h : j ≠ k) : updN f k x j = f j := if_neg h
def Mid (S S' : AS) (k k' n en s : Nat) (sl fr to o c sl' fr' to' o' c' : Nat → Nat) (C : Nat → Int32 → Prop) : Prop :=
  Fct S' k' (n + 1) en sl' fr' to' o' c' ∧ Dsj k' sl' fr' to' o' c' ∧ k ≤ k' ∧ (∀ i : Nat, i < k → S' 9 i = S 9 i) ∧
  (∀ s' t d i : Nat, t ≤ n → i < k → (hitN sl' fr' to' o' c' s' t d i ↔ hitN sl fr to o c s' t d i)) ∧
  (∀ i : Nat, k ≤ i → i < k' → o' i = n + 1 ∧ sl' i = s ∧ c' i = 0) ∧
  (∀ s' d i : Nat, s' ≠ s → i < k → (hitN sl' fr' to' o' c' s' (n + 1) d i ↔ hitN sl fr to o c s' n d i)) ∧
  (∀ (d : Nat) (v : Int32), C d v ↔ ∃ i : Nat, i < k' ∧ hitN sl' fr' to' o' c' s (n + 1) d i ∧ S' 9 i = v) ∧
  (∀ i : Nat, i < k → (c i ≠ 0 → c' i = c i) ∧ (c i = 0 → c' i = 0 ∨ c' i = n + 1))
noncomputable def clC (c : Nat → Nat) (P : Nat → Prop) (m : Nat) : Nat → Nat := fun i => @ite Nat (P i) (Classical.propDecidable (P i)) m (c i)
theorem clC_t {c : Nat → Nat} {P : Nat → Prop} {m i : Nat} (h : P i) : clC c P m i = m := if_pos h
theorem clC_f {c : Nat → Nat} {P : Nat → Prop} {m i : Nat} (h : ¬ P i) : clC c P m i = c i := if_neg h
section MID
variable {S S' : AS} {k k' n en s a b : Nat} {sl fr to o c sl' fr' to' o' c' : Nat → Nat} {C : Nat → Int32 → Prop}
/-- all that meets the days is closed -/
theorem mid_0 (F : Fct S k n en sl fr to o c) (D : Dsj k sl fr to o c) (hen : en ≤ 6) (hn : n < 60) (hs : s < 3 * en) (hab : a < b) (hb : b ≤ 100) : Mid S (clr1 S (nI s) (nI a) (nI b) (nI (n + 1)) k) k k n en s sl fr to o c sl fr to o (clC c (hO sl fr to c s a b) (n + 1)) (fun d v => ∃ i : Nat, i < k ∧ (sl i = s ∧ c i = 0 ∧ fr i ≤ d ∧ d < to i) ∧ ¬ hO sl fr to c s a b i ∧ S 9 i = v) := by
  have lv : ∀ i : Nat, i < k → ∀ t : Nat, t ≤ n → (lvN (o i) (clC c (hO sl fr to c s a b) (n + 1) i) t ↔ lvN (o i) (c i) t) := by
    intro i hi t ht
    unfold lvN
    by_cases e : hO sl fr to c s a b i
    · rw [clC_t e]
      have := e.2.1
      omega
    · rw [clC_f e]
  have lv2 : ∀ i : Nat, i < k → ∀ t : Nat, lvN (o i) (clC c (hO sl fr to c s a b) (n + 1) i) t → lvN (o i) (c i) t := by
    intro i hi t h
    unfold lvN at h ⊢
    by_cases e : hO sl fr to c s a b i
    · exact ⟨h.1, Or.inl e.2.1⟩
    · rw [clC_f e] at h
      exact h
  refine ⟨fun i hi => ?_, fun i j hi hj hne hss t h1 h2 => D i j hi hj hne hss t (lv2 i hi t h1) (lv2 j hj t h2), Nat.le_refl k, fun i hi => rfl, fun s' t d i ht hi => ?_, fun i h1 h2 => by omega, fun s' d i hne hi => ?_, fun d v => ?_, fun i hi => ?_⟩
  · obtain ⟨f1, f2, f3, f4, f5, f6, f7, f8, f9, f10, f11⟩ := F i hi
    obtain ⟨r1, r2⟩ := cl_row F hen (by omega) (show s < 100 by omega) hab hb (nI (n + 1)) (Nat.le_refl k) i
    have f5' : clr1 S (nI s) (nI a) (nI b) (nI (n + 1)) k 13 i = clI (clC c (hO sl fr to c s a b) (n + 1) i) := by
      show clN S (nI s) (nI a) (nI b) (nI (n + 1)) k i = _
      by_cases e : hO sl fr to c s a b i
      · rw [clC_t e, r1 hi e]
        exact (if_neg (by omega)).symm
      · rw [clC_f e, r2 (fun z => e z.2)]
        exact f5
    refine ⟨f1, f2, f3, f4, f5', f6, f7, f8, f9, by omega, ?_⟩
    by_cases e : hO sl fr to c s a b i
    · rw [clC_t e]; omega
    · rw [clC_f e]; omega
  · unfold hitN
    rw [lv i hi t ht]
  · unfold hitN
    obtain ⟨-, -, -, -, -, -, -, -, -, f10, f11⟩ := F i hi
    refine and_congr_left (fun _ => and_congr_right (fun e => ?_))
    rw [clC_f (fun z => hne (e.symm.trans z.1))]
    unfold lvN
    omega
  · constructor
    · rintro ⟨i, hi, ⟨h1, h2, h3, h4⟩, h5, h6⟩
      obtain ⟨-, -, -, -, -, -, -, -, -, f10, f11⟩ := F i hi
      refine ⟨i, hi, ⟨⟨h1, ?_⟩, h3, h4⟩, h6⟩
      rw [clC_f h5]
      exact ⟨by omega, Or.inl h2⟩
    · rintro ⟨i, hi, ⟨⟨h1, h2⟩, h3, h4⟩, h6⟩
      obtain ⟨-, -, -, -, -, -, -, -, -, f10, f11⟩ := F i hi
      have e : ¬ hO sl fr to c s a b i := by
        intro e
        rw [clC_t e] at h2
        have := h2.2
        omega
      rw [clC_f e] at h2
      have := h2.2
      exact ⟨i, hi, ⟨h1, by omega, h3, h4⟩, e, h6⟩
  · by_cases e : hO sl fr to c s a b i
    · rw [clC_t e]
      exact ⟨fun z => absurd e.2.1 z, fun _ => Or.inr rfl⟩
    · rw [clC_f e]
      exact ⟨fun _ => rfl, fun z => Or.inl z⟩
/-- one fact more -/
theorem mid_add (M : Mid S S' k k' n en s sl fr to o c sl' fr' to' o' c' C) (hs : s < 3 * en) {x y : Nat} {v : Int32} (hxy : x < y) (hy : y ≤ 100) (hC : ∀ d : Nat, x ≤ d → d < y → ∀ w : Int32, ¬ C d w) :
    Mid S (openS S' k' (nI s) v (nI x) (nI y) (nI (n + 1))) k (k' + 1) n en s sl fr to o c (updN sl' k' s) (updN fr' k' x) (updN to' k' y) (updN o' k' (n + 1)) (updN c' k' 0) (fun d w => C d w ∨ (x ≤ d ∧ d < y ∧ w = v)) := by
  obtain ⟨F, D, m3, m4, m5, m6, m7, m8, m9⟩ := M
  have u : ∀ (f : Nat → Int32) (z : Int32) (i : Nat), i < k' → upd f k' z i = f i := fun f z i hi => pk_un (by omega)
  have un : ∀ (f : Nat → Nat) (z i : Nat), i < k' → updN f k' z i = f i := fun f z i hi => un_n (by omega)
  have hit : ∀ s' t d i : Nat, i < k' → (hitN (updN sl' k' s) (updN fr' k' x) (updN to' k' y) (updN o' k' (n + 1)) (updN c' k' 0) s' t d i ↔ hitN sl' fr' to' o' c' s' t d i) := by
    intro s' t d i hi
    unfold hitN
    rw [un _ _ i hi, un _ _ i hi, un _ _ i hi, un _ _ i hi, un _ _ i hi]
  have apart : ∀ i : Nat, i < k' → sl' i = s → c' i = 0 → to' i ≤ x ∨ y ≤ fr' i := by
    intro i hi h1 h2
    obtain ⟨-, -, -, -, -, -, f7, f8, -, f10, -⟩ := F i hi
    refine Classical.byContradiction (fun z => ?_)
    refine hC (max x (fr' i)) (Nat.le_max_left _ _) (by omega) (S' 9 i) ((m8 _ _).mpr ⟨i, hi, ⟨⟨h1, f10, Or.inl h2⟩, Nat.le_max_right _ _, by omega⟩, rfl⟩)
  refine ⟨fun i hi => ?_, fun i j hi hj hne hss t h1 h2 => ?_, by omega, fun i hi => ?_, fun s' t d i ht hi => ?_, fun i h1 h2 => ?_, fun s' d i hne hi => ?_, fun d w => ?_, fun i hi => ?_⟩
  · by_cases e : i = k'
    · subst e
      refine ⟨?_, ?_, ?_, ?_, ?_, ?_, ?_, ?_, ?_, ?_, ?_⟩
      · show upd (S' 8) i (nI s) i = _; rw [pk_us, un_s]
      · show upd (S' 10) i (nI x) i = _; rw [pk_us, un_s]
      · show upd (S' 11) i (nI y) i = _; rw [pk_us, un_s]
      · show upd (S' 12) i (nI (n + 1)) i = _; rw [pk_us, un_s]
      · show upd (S' 13) i (-1) i = _; rw [pk_us, un_s]; rfl
      · rw [un_s]; exact hs
      · rw [un_s, un_s]; exact hxy
      · rw [un_s]; exact hy
      · rw [un_s]; omega
      · rw [un_s]; omega
      · rw [un_s]; exact Or.inl rfl
    · have hi' : i < k' := by omega
      obtain ⟨f1, f2, f3, f4, f5, f6, f7, f8, f9, f10, f11⟩ := F i hi'
      rw [un _ _ i hi', un _ _ i hi', un _ _ i hi', un _ _ i hi', un _ _ i hi']
      exact ⟨(u _ _ i hi').trans f1, (u _ _ i hi').trans f2, (u _ _ i hi').trans f3, (u _ _ i hi').trans f4, (u _ _ i hi').trans f5, f6, f7, f8, f9, f10, f11⟩
  · have key : ∀ i' t' : Nat, i' < k' → updN sl' k' s i' = s → lvN (n + 1) 0 t' → lvN (updN o' k' (n + 1) i') (updN c' k' 0 i') t' → to' i' ≤ x ∨ y ≤ fr' i' := by
      intro i' t' hi' g1 g2 g3
      rw [un _ _ i' hi'] at g1
      rw [un _ _ i' hi', un _ _ i' hi'] at g3
      obtain ⟨-, -, -, -, -, -, f7, f8, -, f10, f11⟩ := F i' hi'
      refine apart i' hi' g1 ?_
      have := g3.2; have := g2.1
      omega
    by_cases e : i = k'
    · subst e
      have hj' : j < i := by omega
      rw [un_s, un_s] at h1
      rw [un_s] at hss
      rw [un_s, un_s, un _ _ j hj', un _ _ j hj']
      have := key j t hj' hss.symm h1 h2
      omega
    · have hi' : i < k' := by omega
      by_cases e2 : j = k'
      · subst e2
        rw [un_s, un_s] at h2
        rw [un_s] at hss
        rw [un_s, un_s, un _ _ i hi', un _ _ i hi']
        have := key i t hi' hss h2 h1
        omega
      · have hj' : j < k' := by omega
        rw [un _ _ i hi', un _ _ i hi'] at h1
        rw [un _ _ j hj', un _ _ j hj'] at h2
        rw [un _ _ i hi', un _ _ j hj'] at hss
        rw [un _ _ i hi', un _ _ j hj', un _ _ j hj', un _ _ i hi']
        exact D i j hi' hj' hne hss t h1 h2
  · exact (u _ _ i (by omega)).trans (m4 i hi)
  · rw [hit s' t d i (by omega)]
    exact m5 s' t d i ht hi
  · by_cases e : i = k'
    · subst e
      rw [un_s, un_s, un_s]
      exact ⟨rfl, rfl, rfl⟩
    · have hi' : i < k' := by omega
      rw [un _ _ i hi', un _ _ i hi', un _ _ i hi']
      exact m6 i h1 hi'
  · rw [hit s' (n + 1) d i (by omega)]
    exact m7 s' d i hne hi
  · constructor
    · rintro (h | ⟨h1, h2, rfl⟩)
      · obtain ⟨i, hi, g1, g2⟩ := (m8 d w).mp h
        exact ⟨i, by omega, (hit s (n + 1) d i hi).mpr g1, (u _ _ i hi).trans g2⟩
      · refine ⟨k', by omega, ⟨⟨un_s, ?_⟩, ?_, ?_⟩, pk_us⟩
        · rw [un_s, un_s]; exact ⟨Nat.le_refl _, Or.inl rfl⟩
        · rw [un_s]; exact h1
        · rw [un_s]; exact h2
    · rintro ⟨i, hi, g1, g2⟩
      by_cases e : i = k'
      · subst e
        have g3 := g1.2
        rw [un_s, un_s] at g3
        have g4 : upd (S' 9) i v i = w := g2
        rw [pk_us] at g4
        exact Or.inr ⟨g3.1, g3.2, g4.symm⟩
      · have hi' : i < k' := by omega
        exact Or.inl ((m8 d w).mpr ⟨i, hi', (hit s (n + 1) d i hi').mp g1, (u _ _ i hi').symm.trans g2⟩)
  · rw [un _ _ i (by omega)]
    exact m9 i hi
end MID
/-- what the clearing leaves, and what it covers -/
theorem clear_mid {S : AS} {k n en s a b : Nat} {sl fr to o c : Nat → Nat} (F : Fct S k n en sl fr to o c) (D : Dsj k sl fr to o c) (hen : en ≤ 6) (hn : n < 60) (hk : k ≤ 180) (hs : s < 3 * en) (hab : a < b) (hb : b ≤ 100) {I I2 : AI} {S2 : AS} (hI : I 2 = nI k) (hcl : clearP I S (nI s) (nI a) (nI b) (nI (n + 1)) k I2 S2) :
    ∃ (k' : Nat) (sl' fr' to' o' c' : Nat → Nat) (C : Nat → Int32 → Prop), I2 2 = nI k' ∧ k' ≤ k + 2 ∧ Mid S S2 k k' n en s sl fr to o c sl' fr' to' o' c' C ∧ ∀ (d : Nat) (w : Int32), d < 100 → (C d w ↔ ¬ (a ≤ d ∧ d < b) ∧ ∃ i : Nat, i < k ∧ hitN sl fr to o c s n d i ∧ S 9 i = w) := by
  have hn' : n ≤ 60 := by omega
  have hs' : s < 100 := by omega
  have M0 := mid_0 F D hen hn hs hab hb
  have nowl : ∀ i : Nat, i < k → (lvN (o i) (c i) n ↔ c i = 0) := by
    intro i hi
    obtain ⟨-, -, -, -, -, -, -, -, -, f10, f11⟩ := F i hi
    unfold lvN
    omega
  have c0 : ∀ (d : Nat) (w : Int32), (∃ i : Nat, i < k ∧ (sl i = s ∧ c i = 0 ∧ fr i ≤ d ∧ d < to i) ∧ ¬ hO sl fr to c s a b i ∧ S 9 i = w) → ¬ (a ≤ d ∧ d < b) ∧ ∃ i : Nat, i < k ∧ hitN sl fr to o c s n d i ∧ S 9 i = w := by
    rintro d w ⟨i, hi, ⟨h1, h2, h3, h4⟩, h5, h6⟩
    refine ⟨fun z => h5 ⟨h1, h2, by omega, by omega⟩, i, hi, ⟨⟨h1, (nowl i hi).mpr h2⟩, h3, h4⟩, h6⟩
  have apart : ∀ (j : Nat), j < k → hO sl fr to c s a b j → ∀ d : Nat, fr j ≤ d → d < to j → ∀ w : Int32, ¬ ∃ i : Nat, i < k ∧ (sl i = s ∧ c i = 0 ∧ fr i ≤ d ∧ d < to i) ∧ ¬ hO sl fr to c s a b i ∧ S 9 i = w := by
    rintro j hj h d g1 g2 w ⟨i, hi, ⟨h1, h2, h3, h4⟩, h5, h6⟩
    have e := hit_one D (t := n) (d := d) hi hj ⟨⟨h1, (nowl i hi).mpr h2⟩, h3, h4⟩ ⟨⟨h.1, (nowl j hj).mpr h.2.1⟩, g1, g2⟩
    rw [e] at h5
    exact h5 h
  -- the fact of a day outside, by its place
  have split : ∀ (d : Nat) (w : Int32), ¬ (a ≤ d ∧ d < b) → (∃ i : Nat, i < k ∧ hitN sl fr to o c s n d i ∧ S 9 i = w) → (∃ i : Nat, i < k ∧ (sl i = s ∧ c i = 0 ∧ fr i ≤ d ∧ d < to i) ∧ ¬ hO sl fr to c s a b i ∧ S 9 i = w) ∨ (∃ i : Nat, i < k ∧ hO sl fr to c s a b i ∧ fr i ≤ d ∧ d < a ∧ S 9 i = w) ∨ (∃ i : Nat, i < k ∧ hO sl fr to c s a b i ∧ b ≤ d ∧ d < to i ∧ S 9 i = w) := by
    rintro d w hd ⟨i, hi, ⟨⟨h1, h2⟩, h3, h4⟩, h6⟩
    have h7 := (nowl i hi).mp h2
    by_cases e : hO sl fr to c s a b i
    · by_cases e2 : d < a
      · exact Or.inr (Or.inl ⟨i, hi, e, h3, e2, h6⟩)
      · exact Or.inr (Or.inr ⟨i, hi, e, by omega, h4, h6⟩)
    · exact Or.inl ⟨i, hi, ⟨h1, h7, h3, h4⟩, e, h6⟩
  have toHit : ∀ (i d : Nat), i < k → hO sl fr to c s a b i → fr i ≤ d → d < to i → hitN sl fr to o c s n d i := fun i d hi h g1 g2 => ⟨⟨h.1, (nowl i hi).mpr h.2.1⟩, g1, g2⟩
  have rowF : ∀ j : Nat, j < k → S 10 j = nI (fr j) ∧ S 11 j = nI (to j) := fun j hj => ⟨(F j hj).2.1, (F j hj).2.2.1⟩
  rcases hcl with ⟨b1, b2, rfl, rfl⟩ | ⟨j, hj, b1, b2, rfl, rfl⟩ | ⟨j, hj, b1, b2, rfl, rfl⟩ | ⟨j, j2, hj, hj2, b1, b2, rfl, rfl⟩
  · have hl : ∀ i : Nat, i < k → hO sl fr to c s a b i → a ≤ fr i := by
      rcases bf_spec F hen hn' hs' hab hb (Nat.le_refl k) with ⟨-, g⟩ | ⟨j, hj, g1, -⟩
      · exact g
      · exact absurd (g1.symm.trans b1) (nI_m1 (by omega))
    have hr : ∀ i : Nat, i < k → hO sl fr to c s a b i → to i ≤ b := by
      rcases af_spec F hen hn' hs' hab hb (Nat.le_refl k) with ⟨-, g⟩ | ⟨j, hj, g1, -⟩
      · exact g
      · exact absurd (g1.symm.trans b2) (nI_m1 (by omega))
    refine ⟨k, sl, fr, to, o, _, _, hI, by omega, M0, fun d w hd => ⟨c0 d w, fun z => ?_⟩⟩
    rcases split d w z.1 z.2 with h | ⟨i, hi, h1, h2, h3, -⟩ | ⟨i, hi, h1, h2, h3, -⟩
    · exact h
    · have := hl i hi h1; omega
    · have := hr i hi h1; omega
  · have hjl : hO sl fr to c s a b j ∧ fr j < a := by
      rcases bf_spec F hen hn' hs' hab hb (Nat.le_refl k) with ⟨g, -⟩ | ⟨j', hj', g1, g2, g3⟩
      · exact absurd (b1.symm.trans g) (nI_m1 (by omega))
      · rw [(nI_eq (by omega) (by omega)).mp (g1.symm.trans b1)] at g2 g3
        exact ⟨g2, g3⟩
    have hr : ∀ i : Nat, i < k → hO sl fr to c s a b i → to i ≤ b := by
      rcases af_spec F hen hn' hs' hab hb (Nat.le_refl k) with ⟨-, g⟩ | ⟨j, hj, g1, -⟩
      · exact g
      · exact absurd (g1.symm.trans b2) (nI_m1 (by omega))
    have g2 := hjl.1.2.2
    have M1 := mid_add (v := S 9 j) M0 hs hjl.2 (by omega : a ≤ 100) (fun d z1 z2 w => apart j hj hjl.1 d z1 (by omega) w)
    rw [(rowF j hj).1]
    refine ⟨k + 1, _, _, _, _, _, _, rfl, by omega, M1, fun d w hd => ⟨?_, fun z => ?_⟩⟩
    · rintro (h | ⟨h1, h2, h3⟩)
      · exact c0 d w h
      · exact ⟨by omega, j, hj, toHit j d hj hjl.1 h1 (by omega), h3.symm⟩
    · rcases split d w z.1 z.2 with h | ⟨i, hi, h1, h2, h3, h4⟩ | ⟨i, hi, h1, h2, h3, -⟩
      · exact Or.inl h
      · have e := hO_left D F hi hj h1 hjl.1 (by omega) hjl.2
        rw [e] at h2 h4
        exact Or.inr ⟨h2, h3, h4.symm⟩
      · have := hr i hi h1; omega
  · have hl : ∀ i : Nat, i < k → hO sl fr to c s a b i → a ≤ fr i := by
      rcases bf_spec F hen hn' hs' hab hb (Nat.le_refl k) with ⟨-, g⟩ | ⟨j, hj, g1, -⟩
      · exact g
      · exact absurd (g1.symm.trans b1) (nI_m1 (by omega))
    have hjr : hO sl fr to c s a b j ∧ b < to j := by
      rcases af_spec F hen hn' hs' hab hb (Nat.le_refl k) with ⟨g, -⟩ | ⟨j', hj', g1, g2, g3⟩
      · exact absurd (b2.symm.trans g) (nI_m1 (by omega))
      · rw [(nI_eq (by omega) (by omega)).mp (g1.symm.trans b2)] at g2 g3
        exact ⟨g2, g3⟩
    have g2 := hjr.1.2.2
    have gt := (F j hj).2.2.2.2.2.2.2.1
    have M1 := mid_add (v := S 9 j) M0 hs hjr.2 gt (fun d z1 z2 w => apart j hj hjr.1 d (by omega) z2 w)
    rw [(rowF j hj).2]
    refine ⟨k + 1, _, _, _, _, _, _, rfl, by omega, M1, fun d w hd => ⟨?_, fun z => ?_⟩⟩
    · rintro (h | ⟨h1, h2, h3⟩)
      · exact c0 d w h
      · exact ⟨by omega, j, hj, toHit j d hj hjr.1 (by omega) h2, h3.symm⟩
    · rcases split d w z.1 z.2 with h | ⟨i, hi, h1, h2, h3, h4⟩ | ⟨i, hi, h1, h2, h3, h4⟩
      · exact Or.inl h
      · have := hl i hi h1; omega
      · have e := hO_right D F hi hj h1 hjr.1 (by omega) hjr.2
        rw [e] at h3 h4
        exact Or.inr ⟨h2, h3, h4.symm⟩
  · have hjl : hO sl fr to c s a b j ∧ fr j < a := by
      rcases bf_spec F hen hn' hs' hab hb (Nat.le_refl k) with ⟨g, -⟩ | ⟨j', hj', g1, g2, g3⟩
      · exact absurd (b1.symm.trans g) (nI_m1 (by omega))
      · rw [(nI_eq (by omega) (by omega)).mp (g1.symm.trans b1)] at g2 g3
        exact ⟨g2, g3⟩
    have hjr : hO sl fr to c s a b j2 ∧ b < to j2 := by
      rcases af_spec F hen hn' hs' hab hb (Nat.le_refl k) with ⟨g, -⟩ | ⟨j', hj', g1, g2, g3⟩
      · exact absurd (b2.symm.trans g) (nI_m1 (by omega))
      · rw [(nI_eq (by omega) (by omega)).mp (g1.symm.trans b2)] at g2 g3
        exact ⟨g2, g3⟩
    have g2 := hjl.1.2.2
    have g3 := hjr.1.2.2
    have gt := (F j2 hj2).2.2.2.2.2.2.2.1
    have M1 := mid_add (v := S 9 j) M0 hs hjl.2 (by omega : a ≤ 100) (fun d z1 z2 w => apart j hj hjl.1 d z1 (by omega) w)
    have M2 := mid_add (v := S 9 j2) M1 hs hjr.2 gt (fun d z1 z2 w z3 => z3.elim (apart j2 hj2 hjr.1 d (by omega) z2 w) (fun q => by omega))
    rw [(rowF j hj).1, (rowF j2 hj2).2]
    refine ⟨k + 1 + 1, _, _, _, _, _, _, rfl, by omega, M2, fun d w hd => ⟨?_, fun z => ?_⟩⟩
    · rintro ((h | ⟨h1, h2, h3⟩) | ⟨h1, h2, h3⟩)
      · exact c0 d w h
      · exact ⟨by omega, j, hj, toHit j d hj hjl.1 h1 (by omega), h3.symm⟩
      · exact ⟨by omega, j2, hj2, toHit j2 d hj2 hjr.1 (by omega) h2, h3.symm⟩
    · rcases split d w z.1 z.2 with h | ⟨i, hi, h1, h2, h3, h4⟩ | ⟨i, hi, h1, h2, h3, h4⟩
      · exact Or.inl (Or.inl h)
      · have e := hO_left D F hi hj h1 hjl.1 (by omega) hjl.2
        rw [e] at h2 h4
        exact Or.inl (Or.inr ⟨h2, h3, h4.symm⟩)
      · have e := hO_right D F hi hj2 h1 hjr.1 (by omega) hjr.2
        rw [e] at h3 h4
        exact Or.inr ⟨h2, h3, h4.symm⟩
