theorem pm_F (v : Nat → Int32) (o p : Nat → Int32) (z : Bool) (F0 B0 : Nat → Int32) (d : Nat) : ∀ j : Nat, j < (pmS v o p z F0 B0 d).1 → (∃ x : Nat, x < d ∧ (pmS v o p z F0 B0 d).2.1 j = nI x ∧ ¬ o x = -1) ∧ ∃ y : Nat, y ≤ d ∧ (pmS v o p z F0 B0 d).2.2 j = nI y := by
  induction d with
  | zero => intro j hj; exact absurd hj (Nat.not_lt_zero j)
  | succ d ih =>
    have hw : ∀ j : Nat, j < (pmS v o p z F0 B0 d).1 → (∃ x : Nat, x < d + 1 ∧ (pmS v o p z F0 B0 d).2.1 j = nI x ∧ ¬ o x = -1) ∧ ∃ y : Nat, y ≤ d + 1 ∧ (pmS v o p z F0 B0 d).2.2 j = nI y := fun j hj => by
      obtain ⟨⟨x, h1, h2⟩, ⟨y, h3, h4⟩⟩ := ih j hj
      exact ⟨⟨x, by omega, h2⟩, ⟨y, by omega, h4⟩⟩
    by_cases h1 : skB o p z d = true
    · rw [pm_skip h1]; exact hw
    · by_cases h2 : goB v o p z (pmS v o p z F0 B0 d) d = true
      · rw [pm_go h1 h2]
        intro j hj
        refine ⟨(hw j hj).1, ?_⟩
        show ∃ y : Nat, y ≤ d + 1 ∧ upd (pmS v o p z F0 B0 d).2.2 ((pmS v o p z F0 B0 d).1 - 1) (nI (d + 1)) j = nI y
        simp only [upd]
        split
        · exact ⟨d + 1, Nat.le_refl _, rfl⟩
        · exact (hw j hj).2
      · rw [pm_new h1 h2]
        intro j hj
        have hj : j < (pmS v o p z F0 B0 d).1 + 1 := hj
        show (∃ x : Nat, x < d + 1 ∧ upd (pmS v o p z F0 B0 d).2.1 (pmS v o p z F0 B0 d).1 (nI d) j = nI x ∧ ¬ o x = -1) ∧ ∃ y : Nat, y ≤ d + 1 ∧ upd (pmS v o p z F0 B0 d).2.2 (pmS v o p z F0 B0 d).1 (nI (d + 1)) j = nI y
        simp only [upd]
        by_cases e : j = (pmS v o p z F0 B0 d).1
        · rw [if_pos e, if_pos e]
          refine ⟨⟨d, by omega, rfl, fun q => h1 ?_⟩, ⟨d + 1, Nat.le_refl _, rfl⟩⟩
          simp [skB, q]
        · rw [if_neg e, if_neg e]
          exact hw j (by omega)
theorem ig_t {v : Nat → Int32} {f : Nat → Int32} {n : Nat} (h : f n = -1) : igN v f (n + 1) = igN v f n + 0 := by rw [igN, if_pos h]
theorem ig_f {v : Nat → Int32} {f : Nat → Int32} {n : Nat} (h : ¬ f n = -1) : igN v f (n + 1) = igN v f n + (v (f n).toNatClampNeg).toInt64 := by rw [igN, if_neg h]
