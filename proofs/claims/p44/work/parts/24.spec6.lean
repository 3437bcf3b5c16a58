/-- facts and operations of a slot tell the same (what isSlotConsistent looks at) -/
abbrev conP (S : AS) (sl : Int32) (n k : Nat) (fr to ofr oto : Nat → Nat) (f1 g1 f2 g2 : Nat → Int32) : Prop := cdN S sl 0 100 (nI n) k = ccN (rdKN S sl (nI n) fr to f1 k) (rdKN S sl (nI n) fr to f1 k) 100 ∧ cfN (rdKN S sl (nI n) fr to f1 k) (rdVN S sl (nI n) fr to g1 k) (rpKN S sl ofr oto f2 n) (rpVN S sl ofr oto g2 n) 100 = 0
theorem cdN_c {S S' : AS} (h : ∀ k : Nat, k < 16 → S' k = S k) (sl a b t : Int32) (n : Nat) : cdN S' sl a b t n = cdN S sl a b t n := by
  induction n with
  | zero => rfl
  | succ n ih => simp only [cdN, ih, h 8 (by omega), h 10 (by omega), h 11 (by omega), h 12 (by omega), h 13 (by omega)]
theorem rdKN_c {S S' : AS} (h : ∀ k : Nat, k < 16 → S' k = S k) (sl t : Int32) (fr to : Nat → Nat) (f : Nat → Int32) (n : Nat) : rdKN S' sl t fr to f n = rdKN S sl t fr to f n := by
  induction n with
  | zero => rfl
  | succ n ih => simp only [rdKN, ih, h 8 (by omega), h 12 (by omega), h 13 (by omega)]
theorem rdVN_c {S S' : AS} (h : ∀ k : Nat, k < 16 → S' k = S k) (sl t : Int32) (fr to : Nat → Nat) (f : Nat → Int32) (n : Nat) : rdVN S' sl t fr to f n = rdVN S sl t fr to f n := by
  induction n with
  | zero => rfl
  | succ n ih => simp only [rdVN, ih, h 8 (by omega), h 9 (by omega), h 12 (by omega), h 13 (by omega)]
theorem rpKN_c {S S' : AS} (h : ∀ k : Nat, k < 16 → S' k = S k) (sl : Int32) (fr to : Nat → Nat) (f : Nat → Int32) (n : Nat) : rpKN S' sl fr to f n = rpKN S sl fr to f n := by
  induction n with
  | zero => rfl
  | succ n ih => simp only [rpKN, ih, h 2 (by omega), h 3 (by omega)]
theorem rpVN_c {S S' : AS} (h : ∀ k : Nat, k < 16 → S' k = S k) (sl : Int32) (fr to : Nat → Nat) (f : Nat → Int32) (n : Nat) : rpVN S' sl fr to f n = rpVN S sl fr to f n := by
  induction n with
  | zero => rfl
  | succ n ih => simp only [rpVN, ih, h 3 (by omega), h 4 (by omega)]
theorem conP_up {S : AS} {sl : Int32} {n k : Nat} {fr to ofr oto : Nat → Nat} {f1 g1 f2 g2 : Nat → Int32} (h : conP S sl n k fr to ofr oto f1 g1 f2 g2) : conP (va_up (va_up (va_up (va_up S 17 f1) 18 g1) 20 f2) 21 g2) sl n k fr to ofr oto f1 g1 f2 g2 := by
  have hc : ∀ k : Nat, k < 16 → (va_up (va_up (va_up (va_up S 17 f1) 18 g1) 20 f2) 21 g2) k = S k := fun k hk => by
    rw [va_up_ne _ _ (by omega), va_up_ne _ _ (by omega), va_up_ne _ _ (by omega), va_up_ne _ _ (by omega)]
  unfold conP
  rw [cdN_c hc, rdKN_c hc, rdVN_c hc, rpKN_c hc, rpVN_c hc]
  exact h
