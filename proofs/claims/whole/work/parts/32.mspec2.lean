def mlR (p o c g : Nat → Int32) (wh t : Int32) (i : Nat) : Bool := decide (p i = wh ∧ g i = 0 ∧ ¬ t < o i ∧ (c i = -1 ∨ ¬ c i ≤ t))
abbrev mlB (S : AS) (wh t : Int32) (i : Nat) : Bool := mlR (S 3) (S 7) (S 8) (S 9) wh t i
/-- a row of days: which fact is regarded -/
def lkR (p o c g : Nat → Int32) (wh t : Int32) (fr to : Nat → Nat) (f0 : Nat → Int32) : Nat → Nat → Int32
  | 0 => putF f0 0 100 (-1)
  | n + 1 => if mlR p o c g wh t n = true then putF (lkR p o c g wh t fr to f0 n) (fr n) (to n) (nI n) else lkR p o c g wh t fr to f0 n
abbrev lkN (S : AS) (wh t : Int32) (fr to : Nat → Nat) (f0 : Nat → Int32) (n : Nat) : Nat → Int32 := lkR (S 3) (S 7) (S 8) (S 9) wh t fr to f0 n
theorem lk_t {S : AS} {wh t : Int32} {fr to : Nat → Nat} {f0 : Nat → Int32} {n : Nat} (h : mlB S wh t n = true) : lkN S wh t fr to f0 (n + 1) = putF (lkN S wh t fr to f0 n) (fr n) (to n) (nI n) := if_pos h
theorem lk_f {S : AS} {wh t : Int32} {fr to : Nat → Nat} {f0 : Nat → Int32} {n : Nat} (h : ¬ mlB S wh t n = true) : lkN S wh t fr to f0 (n + 1) = lkN S wh t fr to f0 n := if_neg h
theorem lk_is (S : AS) (wh t : Int32) (fr to : Nat → Nat) (f0 : Nat → Int32) (n : Nat) : ∀ d : Nat, d < 100 → lkN S wh t fr to f0 n d = -1 ∨ ∃ j : Nat, j < n ∧ lkN S wh t fr to f0 n d = nI j := by
  induction n with
  | zero =>
    intro d hd
    refine Or.inl ?_
    simp only [lkN, lkR, putF]
    rw [if_pos (by omega)]
  | succ n ih =>
    intro d hd
    rw [lkN, lkR]
    split
    · simp only [putF]
      split
      · exact Or.inr ⟨n, by omega, rfl⟩
      · rcases ih d hd with h | ⟨j, hj, h⟩
        · exact Or.inl h
        · exact Or.inr ⟨j, by omega, h⟩
    · rcases ih d hd with h | ⟨j, hj, h⟩
      · exact Or.inl h
      · exact Or.inr ⟨j, by omega, h⟩
abbrev lkM (S : AS) (wh t : Int32) (fr to : Nat → Nat) (k : Nat) : Nat → Int32 := lkN S wh t fr to (S 10) k
abbrev lkO (S : AS) (wh t : Int32) (fr to : Nat → Nat) (k : Nat) : Nat → Int32 := lkN S wh t fr to (S 11) k
/-! the codes -/
def afC (I : AI) (x b t : Int32) : Int32 := if mplB (I 1) x b = true then (if inB t 0 (I 2) = true then (if I 5 ≤ t then 0 else 3) else 2) else 1
def dfC (I : AI) (x b d t : Int32) : Int32 := if mplB (I 1) x b = true then (if (inB d 0 99 && inB t 0 (I 2)) = true then (if I 5 ≤ t then 0 else 3) else 2) else 1
def gfC (I : AI) (b d t : Int32) : Int32 := if inB b 0 2 = true then (if (inB d 0 99 && inB t 0 (I 2)) = true then (if I 5 ≤ t then 0 else 3) else 2) else 1
theorem in_100 {d : Int32} (h : inB d 0 99 = true) : ∃ j : Nat, j < 100 ∧ d = nI j := in_vp (k := 100) h (Nat.le_refl _) (by decide)
theorem dfC_d {I : AI} {x b d t : Int32} (h : dfC I x b d t = 0) : ∃ j : Nat, j < 100 ∧ d = nI j := by
  unfold dfC at h
  split at h
  · split at h
    · rename_i h2
      exact in_100 (Bool.and_eq_true_iff.mp h2).1
    · exact absurd h (by decide)
  · exact absurd h (by decide)
theorem gfC_d {I : AI} {b d t : Int32} (h : gfC I b d t = 0) : ∃ j : Nat, j < 100 ∧ d = nI j := by
  unfold gfC at h
  split at h
  · split at h
    · rename_i h2
      exact in_100 (Bool.and_eq_true_iff.mp h2).1
    · exact absurd h (by decide)
  · exact absurd h (by decide)
def kdN (f : Nat → Int32) : Nat → Int32
  | 0 => 0
  | n + 1 => kdN f n + (if f n = -1 then 0 else 1)
theorem in_1 {t : Int32} {n : Nat} (hn : n < 2147483647) (h : inB t 1 (nI n) = true) : ∃ j : Nat, j ≤ n ∧ t = nI j := by
  have h := of_decide_eq_true h
  rcases pk_ix t (n := n + 1) (by omega) with q | q | ⟨j, hj, q⟩
  · exact absurd (Int32.lt_trans q (by decide)) h.1
  · exact absurd (Int32.lt_of_lt_of_le (nd_lt (a := n) (b := n + 1) (by omega) (by omega) (by omega)) q) h.2
  · exact ⟨j, by omega, q⟩
