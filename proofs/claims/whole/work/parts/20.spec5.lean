/-! what the class's own state keeps: the numbers that its methods stand on -/
def CIv (I : AI) (S : AS) (k n h : Nat) (fr to ofr oto : Nat → Nat) : Prop :=
  I 1 = nI n ∧ n ≤ 60 ∧ I 2 = nI k ∧ k ≤ 3 * n ∧ I 3 = nI h ∧ h ≤ n ∧
  (∀ i : Nat, i < k → S 10 i = nI (fr i) ∧ S 11 i = nI (to i) ∧ fr i ≤ to i ∧ to i ≤ 100) ∧
  (∀ i : Nat, 1 ≤ i → i ≤ n → S 5 i = nI (ofr i) ∧ S 6 i = nI (oto i) ∧ ofr i ≤ oto i ∧ oto i ≤ 100) ∧
  (∀ j : Nat, 1 ≤ j → j ≤ n → narrow .char (.int (S 2 j)) = .int (S 2 j))
theorem clearP_k {I : AI} {S : AS} {sl a b t : Int32} {k : Nat} {I2 : AI} {S2 : AS} (hk : I 2 = nI k) (h : clearP I S sl a b t k I2 S2) : ∃ k2 : Nat, k ≤ k2 ∧ k2 ≤ k + 2 ∧ I2 2 = nI k2 ∧ I2 3 = I 3 := by
  rcases h with ⟨-, -, rfl, -⟩ | ⟨j, -, -, -, rfl, -⟩ | ⟨j, -, -, -, rfl, -⟩ | ⟨j, j2, -, -, -, -, rfl, -⟩
  · exact ⟨k, Nat.le_refl _, by omega, hk, rfl⟩
  · exact ⟨k + 1, by omega, by omega, rfl, rfl⟩
  · exact ⟨k + 1, by omega, by omega, rfl, rfl⟩
  · exact ⟨k + 2, by omega, by omega, rfl, rfl⟩
/-- an operation put down at the tick n + 1 -/
abbrev addI (I : AI) (n : Nat) : AI := va_up I 1 (nI (n + 1))
abbrev addS (S : AS) (n : Nat) (z sl v x y : Int32) : AS := va_up (va_up (va_up (va_up (va_up S 2 (upd (S 2) (n + 1) z)) 3 (upd (S 3) (n + 1) sl)) 4 (upd (S 4) (n + 1) v)) 5 (upd (S 5) (n + 1) x)) 6 (upd (S 6) (n + 1) y)
theorem ixP_of {n : Nat} {x : Int32} (hn : n < 2147483648) (h : ixP (nI n) x) : ∃ j : Nat, j < n ∧ x = nI j := by
  rcases pk_ix x (n := n) hn with q | q | q
  · exact absurd q h.1
  · exact absurd h.2 (fun r => Int32.not_le.mpr r q)
  · exact q
theorem tkP_of {n : Nat} {x : Int32} (hn : n < 2147483647) (h : tkP (nI n) x) : ∃ j : Nat, j ≤ n ∧ x = nI j := by
  rcases pk_ix x (n := n + 1) (by omega) with q | q | ⟨j, hj, q⟩
  · exact absurd q h.1
  · exact absurd (Int32.le_trans q h.2) (fun r => by have := (nI_leI (by omega) (by omega)).mp r; omega)
  · exact ⟨j, by omega, q⟩
theorem opP_of {n : Nat} {x : Int32} (hn : n < 2147483647) (h : opP (nI n) x) : ∃ j : Nat, 1 ≤ j ∧ j ≤ n ∧ x = nI j := by
  have h0 : ¬ x < 0 := fun q => h.1 (Int32.lt_trans q (by decide))
  obtain ⟨j, hj, rfl⟩ := tkP_of hn ⟨h0, h.2⟩
  refine ⟨j, ?_, hj, rfl⟩
  rcases Nat.eq_zero_or_pos j with q | q
  · exact absurd (show nI j < 1 by rw [q]; decide) h.1
  · exact q
/-! the exceptions of a question as of a tick -/
def jx (I : AI) (x b x' b' t : Int32) (E : String) : Prop := (E = eIOO ∧ ¬ (plP (I 0) x b ∧ plP (I 0) x' b')) ∨ (E = eIAE ∧ (plP (I 0) x b ∧ plP (I 0) x' b') ∧ ¬ tkP (I 1) t) ∨ (E = eUOE ∧ (plP (I 0) x b ∧ plP (I 0) x' b') ∧ tkP (I 1) t ∧ ¬ kpP (I 3) t)
def jc (I : AI) (x b x' b' t : Int32) : Prop := (plP (I 0) x b ∧ plP (I 0) x' b') ∧ tkP (I 1) t ∧ kpP (I 3) t
abbrev slI (x b : Int32) : Int32 := x * 3 + b
