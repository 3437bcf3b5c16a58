/-! what the class's own state keeps: the numbers that its methods stand on -/
def CIv (I : AI) (S : AS) (k n h : Nat) (fr to ofr oto : Nat → Nat) : Prop :=
  I 1 = nI n ∧ n ≤ 60 ∧ I 2 = nI k ∧ k ≤ 3 * n ∧ I 3 = nI h ∧ h ≤ n ∧
  (∀ i : Nat, i < k → S 10 i = nI (fr i) ∧ S 11 i = nI (to i) ∧ fr i ≤ to i ∧ to i ≤ 100) ∧
  (∀ i : Nat, 1 ≤ i → i ≤ n → S 5 i = nI (ofr i) ∧ S 6 i = nI (oto i) ∧ ofr i ≤ oto i ∧ oto i ≤ 100) ∧
  (∀ j : Nat, 1 ≤ j → j ≤ n → narrow .char (.int (S 2 j)) = .int (S 2 j))
theorem clearP_k {I : AI} {S : AS} {sl a b t : Int32} {k : Nat} {I2 : AI} {S2 : AS} (hk : I 2 = nI k) (h : clearP I S sl a b t k I2 S2) : ∃ k2 : Nat, k ≤ k2 ∧ k2 ≤ k + 2 ∧ I2 2 = nI k2 ∧ I2 3 = I 3 := by
  rcases h with ⟨-, -, rfl, -⟩ | ⟨j, -, -, -, rfl, -⟩ | ⟨j, -, -, -, rfl, -⟩ | ⟨j, j2, -, -, -, -, rfl, -⟩
  · exact ⟨k, Nat.le_refl _, by omega, hk, rfl⟩
  · exact ⟨k + 1, by omega, by omega, rfl, rfl⟩
  · exact ⟨k + 1, by omega, by omega, rfl, rfl⟩
  · exact ⟨k + 2, by omega, by omega, rfl, rfl⟩
/-- an operation put down at the tick n + 1 -/
abbrev addI (I : AI) (n : Nat) : AI := va_up I 1 (nI (n + 1))
abbrev addS (S : AS) (n : Nat) (z sl v x y : Int32) : AS := va_up (va_up (va_up (va_up (va_up S 2 (upd (S 2) (n + 1) z)) 3 (upd (S 3) (n + 1) sl)) 4 (upd (S 4) (n + 1) v)) 5 (upd (S 5) (n + 1) x)) 6 (upd (S 6) (n + 1) y)
theorem ixP_of {n : Nat} {x : Int32} (hn : n < 2147483648) (h : ixP (nI n) x) : ∃ j : Nat, j < n ∧ x = nI j := by
  rcases pk_ix x (n := n) hn with q | q | q
  · exact absurd q h.1
  · exact absurd h.2 (fun r => Int32.not_le.mpr r q)
  · exact q
theorem tkP_of {n : Nat} {x : Int32} (hn : n < 2147483647) (h : tkP (nI n) x) : ∃ j : Nat, j ≤ n ∧ x = nI j := by
  rcases pk_ix x (n := n + 1) (by omega) with q | q | ⟨j, hj, q⟩
  · exact absurd q h.1
  · exact absurd (Int32.le_trans q h.2) (fun r => by have := (nI_leI (by omega) (by omega)).mp r; omega)
  · exact ⟨j, by omega, q⟩
theorem opP_of {n : Nat} {x : Int32} (hn : n < 2147483647) (h : opP (nI n) x) : ∃ j : Nat, 1 ≤ j ∧ j ≤ n ∧ x = nI j := by
  have h0 : ¬ x < 0 := fun q => h.1 (Int32.lt_trans q (by decide))
  obtain ⟨j, hj, rfl⟩ := tkP_of hn ⟨h0, h.2⟩
  refine ⟨j, ?_, hj, rfl⟩
  rcases Nat.eq_zero_or_pos j with q | q
  · exact absurd (show nI j < 1 by rw [q]; decide) h.1
  · exact q
/-! the exceptions of a question as of a tick -/
def jx (I : AI) (x b x' b' t : Int32) (E : String) : Prop := (E = eIOO ∧ ¬ (plP (I 0) x b ∧ plP (I 0) x' b')) ∨ (E = eIAE ∧ (plP (I 0) x b ∧ plP (I 0) x' b') ∧ ¬ tkP (I 1) t) ∨ (E = eUOE ∧ (plP (I 0) x b ∧ plP (I 0) x' b') ∧ tkP (I 1) t ∧ ¬ kpP (I 3) t)
def jc (I : AI) (x b x' b' t : Int32) : Prop := (plP (I 0) x b ∧ plP (I 0) x' b') ∧ tkP (I 1) t ∧ kpP (I 3) t
abbrev slI (x b : Int32) : Int32 := x * 3 + b
def ax (I : AI) (x b d t : Int32) (E : String) : Prop := (E = eIOO ∧ ¬ plP (I 0) x b) ∨ (E = eIAE ∧ plP (I 0) x b ∧ ¬ (dyP d ∧ tkP (I 1) t)) ∨ (E = eUOE ∧ plP (I 0) x b ∧ dyP d ∧ tkP (I 1) t ∧ ¬ kpP (I 3) t)
def ac (I : AI) (x b d t : Int32) : Prop := plP (I 0) x b ∧ dyP d ∧ tkP (I 1) t ∧ kpP (I 3) t
def tx (I : AI) (x b t : Int32) (E : String) : Prop := (E = eIOO ∧ ¬ plP (I 0) x b) ∨ (E = eIAE ∧ plP (I 0) x b ∧ ¬ tkP (I 1) t) ∨ (E = eUOE ∧ plP (I 0) x b ∧ tkP (I 1) t ∧ ¬ kpP (I 3) t)
def tc (I : AI) (x b t : Int32) : Prop := plP (I 0) x b ∧ tkP (I 1) t ∧ kpP (I 3) t
def gx (I : AI) (b d t : Int32) (E : String) : Prop := (E = eIOO ∧ ¬ atP b) ∨ (E = eIAE ∧ atP b ∧ ¬ (dyP d ∧ tkP (I 1) t)) ∨ (E = eUOE ∧ atP b ∧ dyP d ∧ tkP (I 1) t ∧ ¬ kpP (I 3) t)
def gc (I : AI) (b d t : Int32) : Prop := atP b ∧ dyP d ∧ tkP (I 1) t ∧ kpP (I 3) t
/-- the sum over the entities below i -/
def ttN (S : AS) (b d t : Int32) (k : Nat) : Nat → Int64
  | 0 => 0
  | i + 1 => if fndN S (slI (nI i) b) d t k = -1 then ttN S b d t k i else ttN S b d t k i + (S 9 (fndN S (slI (nI i) b) d t k).toNatClampNeg).toInt64
def mmN (S : AS) (b d t : Int32) (k : Nat) : Nat → Nat
  | 0 => 0
  | i + 1 => if fndN S (slI (nI i) b) d t k = -1 then mmN S b d t k i else mmN S b d t k i + 1
theorem tt_0 {S : AS} {b d t : Int32} {k i : Nat} (h : fndN S (slI (nI i) b) d t k = -1) : ttN S b d t k (i + 1) = ttN S b d t k i := if_pos h
theorem tt_1 {S : AS} {b d t : Int32} {k i j : Nat} (hj : j < 180) (h : fndN S (slI (nI i) b) d t k = nI j) : ttN S b d t k (i + 1) = ttN S b d t k i + (S 9 j).toInt64 := by
  rw [ttN, h, if_neg (nI_m1 (by omega)), nI_clamp (by omega)]
theorem mm_0 {S : AS} {b d t : Int32} {k i : Nat} (h : fndN S (slI (nI i) b) d t k = -1) : mmN S b d t k (i + 1) = mmN S b d t k i := if_pos h
theorem mm_1 {S : AS} {b d t : Int32} {k i j : Nat} (hj : j < 180) (h : fndN S (slI (nI i) b) d t k = nI j) : mmN S b d t k (i + 1) = mmN S b d t k i + 1 := by
  rw [mmN, h, if_neg (nI_m1 (by omega))]
theorem mm_le (S : AS) (b d t : Int32) (k i : Nat) : mmN S b d t k i ≤ i := by
  induction i with
  | zero => exact Nat.le_refl 0
  | succ i ih =>
    rw [mmN]
    split
    · omega
    · omega
def rngP (z : Int64) : Prop := ¬ z < -2147483648 ∧ z ≤ 2147483647
theorem rng_0 : rngP 0 := ⟨by decide, by decide⟩
abbrev jpS (S : AS) (sl sl2 t : Int32) (fr to : Nat → Nat) (k : Nat) : Nat × (Nat → Int32) × (Nat → Int32) := plS (rdKN S sl t fr to (S 17) k) (rdVN S sl t fr to (S 18) k) (rdKN S sl2 t fr to (S 20) k) (rdVN S sl2 t fr to (S 21) k) (S 23) (S 24) 100
abbrev vqS (S : AS) (sl d : Int32) (k h n : Nat) : VSt := vsS S sl d k h (S 26) (S 27) (S 28) (n + 1 - h)
def qx (I : AI) (x b d : Int32) (E : String) : Prop := (E = eIOO ∧ ¬ plP (I 0) x b) ∨ (E = eIAE ∧ plP (I 0) x b ∧ ¬ dyP d)
def qc (I : AI) (x b d : Int32) : Prop := plP (I 0) x b ∧ dyP d
def hx2 (I : AI) (x b t t2 : Int32) (E : String) : Prop := (E = eIOO ∧ ¬ plP (I 0) x b) ∨ (E = eIAE ∧ plP (I 0) x b ∧ ¬ (tkP (I 1) t ∧ tkP (I 1) t2)) ∨ (E = eUOE ∧ plP (I 0) x b ∧ (tkP (I 1) t ∧ tkP (I 1) t2) ∧ ¬ (kpP (I 3) t ∧ kpP (I 3) t2))
def hc2 (I : AI) (x b t t2 : Int32) : Prop := plP (I 0) x b ∧ (tkP (I 1) t ∧ tkP (I 1) t2) ∧ kpP (I 3) t ∧ kpP (I 3) t2
theorem plS_FT (f g f' g' F0 T0 : Nat → Int32) (d : Nat) : ∀ j : Nat, j < (plS f g f' g' F0 T0 d).1 → (∃ x : Nat, (plS f g f' g' F0 T0 d).2.1 j = nI x ∧ x < d) ∧ (∃ y : Nat, (plS f g f' g' F0 T0 d).2.2 j = nI y ∧ y ≤ d) := by
  induction d with
  | zero => intro j hj; exact absurd hj (Nat.not_lt_zero j)
  | succ d ih =>
    have hw : ∀ j : Nat, j < (plS f g f' g' F0 T0 d).1 → (∃ x : Nat, (plS f g f' g' F0 T0 d).2.1 j = nI x ∧ x < d + 1) ∧ (∃ y : Nat, (plS f g f' g' F0 T0 d).2.2 j = nI y ∧ y ≤ d + 1) := fun j hj => by
      obtain ⟨⟨x, h1, h2⟩, ⟨y, h3, h4⟩⟩ := ih j hj
      exact ⟨⟨x, h1, by omega⟩, ⟨y, h3, by omega⟩⟩
    simp only [plS]
    split
    · intro j hj
      have hj' : j < (plS f g f' g' F0 T0 d).1 := hj
      refine ⟨(hw j hj').1, ?_⟩
      show ∃ y : Nat, (if (plS f g f' g' F0 T0 d).1 = 0 then (plS f g f' g' F0 T0 d).2.2 else upd (plS f g f' g' F0 T0 d).2.2 ((plS f g f' g' F0 T0 d).1 - 1) ((plS f g f' g' F0 T0 d).2.2 ((plS f g f' g' F0 T0 d).1 - 1) + 1)) j = nI y ∧ y ≤ d + 1
      rw [if_neg (by omega)]
      by_cases e : j = (plS f g f' g' F0 T0 d).1 - 1
      · obtain ⟨y, h3, h4⟩ := (ih j hj').2
        refine ⟨y + 1, ?_, by omega⟩
        simp only [upd]
        rw [if_pos e, ← e, h3, nI_1]
      · simp only [upd]
        rw [if_neg e]
        exact (hw j hj').2
    · split
      · intro j hj
        have hj' : j < (plS f g f' g' F0 T0 d).1 + 1 := hj
        show (∃ x : Nat, upd (plS f g f' g' F0 T0 d).2.1 (plS f g f' g' F0 T0 d).1 (nI d) j = nI x ∧ x < d + 1) ∧ (∃ y : Nat, upd (plS f g f' g' F0 T0 d).2.2 (plS f g f' g' F0 T0 d).1 (nI (d + 1)) j = nI y ∧ y ≤ d + 1)
        simp only [upd]
        by_cases e : j = (plS f g f' g' F0 T0 d).1
        · rw [if_pos e, if_pos e]
          exact ⟨⟨d, rfl, by omega⟩, ⟨d + 1, rfl, by omega⟩⟩
        · rw [if_neg e, if_neg e]
          exact hw j (by omega)
      · exact hw
theorem scr_4 {I : AI} {S : AS} {I2 : AI} {S2 : AS} (h : scr I S I2 S2) (v : Int32) (f : Nat → Int32) : scr (va_up I 4 v) (va_up S 15 f) (va_up I2 4 v) (va_up S2 15 f) := ⟨fun i h5 h6 => by
  simp only [va_up]
  split
  · rfl
  · exact h.1 i h5 h6, fun k hk => by
  simp only [va_up]
  split
  · rfl
  · exact h.2 k hk⟩
abbrev wpS (S : AS) (sl t : Int32) (fr to : Nat → Nat) (k : Nat) : AS := va_up (va_up (va_up (va_up S 17 (rdKN S sl t fr to (S 17) k)) 18 (rdVN S sl t fr to (S 18) k)) 23 (jpS S sl sl t fr to k).2.1) 24 (jpS S sl sl t fr to k).2.2
