/-! what the class's facts say, in its own numbers -/
abbrev imax (a b : Int32) : Int32 := if a < b then b else a
abbrev imin (a b : Int32) : Int32 := if b < a then b else a
/-- the days of a fact from x to y within a .. b -/
abbrev dwI (x y a b : Int32) : Int32 := imax (imin y b - imax x a) 0
/-- regarded as of t: opened at o, closed at c -/
abbrev liveP (o c t : Int32) : Prop := ¬ t < o ∧ (c = -1 ∨ ¬ c ≤ t)
abbrev hitP (S : AS) (sl d t : Int32) (i : Nat) : Prop := S 8 i = sl ∧ liveP (S 12 i) (S 13 i) t ∧ ¬ dwI (S 10 i) (S 11 i) d (d + 1) ≤ 0
abbrev fndP (S : AS) (sl d t : Int32) (k : Nat) (r : Int32) : Prop := (∃ i : Nat, i < k ∧ r = nI i ∧ hitP S sl d t i ∧ ∀ j : Nat, j < i → ¬ hitP S sl d t j) ∨ (r = -1 ∧ ∀ j : Nat, j < k → ¬ hitP S sl d t j)
def cdN (S : AS) (sl a b t : Int32) : Nat → Int32
  | 0 => 0
  | n + 1 => if S 8 n = sl ∧ liveP (S 12 n) (S 13 n) t then cdN S sl a b t n + dwI (S 10 n) (S 11 n) a b else cdN S sl a b t n
abbrev keptP (S : AS) (k : Nat) (hz x : Int32) : Prop := ¬ x < 0 ∧ ¬ nI k ≤ x ∧ (S 13 x.toNatClampNeg = -1 ∨ ¬ S 13 x.toNatClampNeg ≤ hz)
def ckN (S : AS) (k : Nat) (hz : Int32) : Nat → Int32
  | 0 => 0
  | n + 1 => ckN S k hz n + (if keptP S k hz (nI n) then 1 else 0)
def coN (S : AS) : Nat → Int32
  | 0 => 0
  | n + 1 => coN S n + (if S 13 n = -1 then 1 else 0)
theorem vpi_of {x : Int32} {k n : Nat} (h1 : ¬ x < 0) (h2 : ¬ nI k ≤ x) (hk : k ≤ n) (hn : n < 2147483648) : vp_in x n := by
  rcases pk_ix x (n := k) (by omega) with h | h | ⟨j, hj, rfl⟩
  · exact absurd h h1
  · exact absurd h h2
  · exact vp_in_nI (Nat.lt_of_lt_of_le hj hk) hn
theorem narZ1 : narrow .boolean (.int 1) = .int 1 := rfl
theorem narZ0 : narrow .boolean (.int 0) = .int 0 := rfl
