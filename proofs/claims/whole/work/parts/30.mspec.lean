/-! the reference, in its own words -/
def inB (v lo hi : Int32) : Bool := decide (¬ v < lo ∧ ¬ hi < v)
def mplB (n x b : Int32) : Bool := inB x 0 (n - 1) && inB b 0 2
def daB (a b : Int32) : Bool := decide (¬ a < 0 ∧ ¬ b ≤ a ∧ ¬ 100 < b)
def opB (S : AS) (i : Nat) : Bool := decide (S 9 i = 0 ∧ S 8 i = -1)
abbrev slM (x b : Int32) : Int32 := 3 * x + b
/-- core unchanged: of the ints thrown, many, knownMany, leavesInt, versions apart; of the rows of, other, first, behind, versionTick, versionFact apart -/
def msc (I : AI) (S : AS) (I2 : AI) (S2 : AS) : Prop := (∀ i : Nat, i ≠ 0 → i ≠ 6 → i ≠ 8 → i ≠ 9 → i ≠ 10 → I2 i = I i) ∧ ∀ k : Nat, k < 10 ∨ k = 14 → S2 k = S k
theorem msc_0 (I : AI) (S : AS) : msc I S I S := ⟨fun _ _ _ _ _ _ => rfl, fun _ _ => rfl⟩
theorem msc_I {I : AI} {S : AS} {I2 : AI} {S2 : AS} (h : msc I S I2 S2) {j : Nat} (hj : j = 0 ∨ j = 6 ∨ j = 8 ∨ j = 9 ∨ j = 10) (v : Int32) : msc I S (va_up I2 j v) S2 := ⟨fun i h0 h6 h8 h9 h10 => by rw [va_up_ne _ _ (by omega)]; exact h.1 i h0 h6 h8 h9 h10, h.2⟩
theorem msc_S {I : AI} {S : AS} {I2 : AI} {S2 : AS} (h : msc I S I2 S2) {j : Nat} (hj : 10 ≤ j ∧ j ≠ 14) (f : Nat → Int32) : msc I S I2 (va_up S2 j f) := ⟨h.1, fun k hk => by rw [va_up_ne _ _ (by omega)]; exact h.2 k hk⟩
/-- the first open fact by its first day -/
abbrev mtP (S : AS) (wh a b si : Int32) (i : Nat) : Prop := S 3 i = wh ∧ opB S i = true ∧ S 7 i < si ∧ S 5 i < b ∧ a < S 6 i
def mtN (S : AS) (wh a b si : Int32) : Nat → Int32
  | 0 => -1
  | i + 1 => if mtP S wh a b si i ∧ (mtN S wh a b si i = -1 ∨ S 5 i < S 5 (mtN S wh a b si i).toNatClampNeg) then nI i else mtN S wh a b si i
theorem mtN_is (S : AS) (wh a b si : Int32) (n : Nat) : mtN S wh a b si n = -1 ∨ ∃ j : Nat, j < n ∧ mtN S wh a b si n = nI j := by
  induction n with
  | zero => exact Or.inl rfl
  | succ n ih =>
    rw [mtN]
    split
    · exact Or.inr ⟨n, by omega, rfl⟩
    · rcases ih with h | ⟨j, hj, h⟩
      · exact Or.inl h
      · exact Or.inr ⟨j, by omega, h⟩
theorem mt_t {S : AS} {wh a b si : Int32} {i : Nat} (h : mtP S wh a b si i) (h2 : mtN S wh a b si i = -1 ∨ S 5 i < S 5 (mtN S wh a b si i).toNatClampNeg) : mtN S wh a b si (i + 1) = nI i := if_pos ⟨h, h2⟩
theorem mt_f {S : AS} {wh a b si : Int32} {i : Nat} (h : ¬ (mtP S wh a b si i ∧ (mtN S wh a b si i = -1 ∨ S 5 i < S 5 (mtN S wh a b si i).toNatClampNeg))) : mtN S wh a b si (i + 1) = mtN S wh a b si i := if_neg h
def moN (S : AS) : Nat → Int32
  | 0 => 0
  | n + 1 => moN S n + (if opB S n = true then 1 else 0)
def mfB (S : AS) (n x : Int32) : Bool := inB x 0 (n - 1) && decide (S 9 x.toNatClampNeg = 0)
abbrev mgP (S : AS) (g : Nat → Int32) (t : Int32) (i : Nat) : Prop := g i = 0 ∧ ¬ S 8 i = -1 ∧ ¬ t < S 8 i
/-- purged: which are gone when the facts below i have been looked at, and how many more -/
def pgN (S : AS) (t : Int32) : Nat → Nat → Int32
  | 0 => S 9
  | n + 1 => if mgP S (S 9) t n then upd (pgN S t n) n 1 else pgN S t n
def pcN (S : AS) (t : Int32) : Nat → Int32
  | 0 => 0
  | n + 1 => if mgP S (S 9) t n then pcN S t n + 1 else pcN S t n
theorem pgN_ge (S : AS) (t : Int32) {n j : Nat} (h : n ≤ j) : pgN S t n j = S 9 j := by
  induction n with
  | zero => rfl
  | succ n ih =>
    rw [pgN]
    split
    · simp only [upd]
      rw [if_neg (by omega)]
      exact ih (by omega)
    · exact ih (by omega)
theorem in_vp {x : Int32} {k n : Nat} (h : inB x 0 (nI k - 1) = true) (hk : k ≤ n) (hn : n < 2147483648) : ∃ j : Nat, j < k ∧ x = nI j := by
  have h := of_decide_eq_true h
  rcases pk_ix x (n := k) (by omega) with q | q | q
  · exact absurd q h.1
  · refine absurd ?_ h.2
    rcases Nat.eq_zero_or_pos k with e | e
    · subst e
      exact Int32.lt_of_lt_of_le (by decide) q
    · rw [show nI k - 1 = nI (k - 1) from pk_sub (a := k) (b := 1) (by omega)]
      exact Int32.lt_of_lt_of_le (nd_lt (by omega) (by omega) (by omega)) q
  · exact q
