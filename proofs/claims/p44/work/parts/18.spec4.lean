/-! what the class demands -/
abbrev eISE : String := "java/lang/IllegalStateException"
abbrev eIOO : String := "java/lang/IndexOutOfBoundsException"
abbrev eIAE : String := "java/lang/IllegalArgumentException"
abbrev eNSE : String := "java/util/NoSuchElementException"
abbrev eUOE : String := "java/lang/UnsupportedOperationException"
abbrev eARE : String := "java/lang/ArithmeticException"
def atP (b : Int32) : Prop := ¬ b < 0 ∧ b < 3
def plP (en x b : Int32) : Prop := (¬ x < 0 ∧ x < en) ∧ atP b
def dyP (d : Int32) : Prop := ¬ d < 0 ∧ d < 100
def ddP (x y : Int32) : Prop := ¬ x < 0 ∧ ¬ y ≤ x ∧ y ≤ 100
def opP (now t : Int32) : Prop := ¬ t < 1 ∧ t ≤ now
def tkP (now t : Int32) : Prop := ¬ t < 0 ∧ t ≤ now
def kpP (hz t : Int32) : Prop := hz ≤ t
def ixP (n x : Int32) : Prop := ¬ x < 0 ∧ x < n
/-- the scratch rows and counts apart, all is as it was -/
def scr (I : AI) (S : AS) (I2 : AI) (S2 : AS) : Prop := (∀ i : Nat, i ≠ 5 → i ≠ 6 → I2 i = I i) ∧ ∀ k : Nat, k < 16 → S2 k = S k
theorem scr_0 (I : AI) (S : AS) : scr I S I S := ⟨fun _ _ _ => rfl, fun _ _ => rfl⟩
theorem scr_I {I : AI} {S : AS} {I2 : AI} {S2 : AS} (h : scr I S I2 S2) {j : Nat} (hj : j = 5 ∨ j = 6) (v : Int32) : scr I S (va_up I2 j v) S2 := ⟨fun i h5 h6 => by rw [va_up_ne _ _ (by omega)]; exact h.1 i h5 h6, h.2⟩
theorem scr_S {I : AI} {S : AS} {I2 : AI} {S2 : AS} (h : scr I S I2 S2) {j : Nat} (hj : 16 ≤ j) (f : Nat → Int32) : scr I S I2 (va_up S2 j f) := ⟨h.1, fun k hk => by rw [va_up_ne _ _ (by omega)]; exact h.2 k hk⟩
