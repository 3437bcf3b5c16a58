/-! the book: which fact is hit; what close does where every fact has the same first day and the last one alone is open -/
abbrev hbP (S : AS) (p9 a b : Int32) (i : Nat) : Prop := S 1 i = p9 ∧ ¬ 0 ≤ S 6 i ∧ ¬ b ≤ S 3 i ∧ ¬ S 4 i ≤ a
theorem nI_inj0 {a b : Nat} (ha : a < 2147483648) (hb : b < 2147483648) (h : nI a = nI b) : a = b := nt_eq (a := a) (b := b) ha hb h
def clS (f : Nat → Int32) (k fa : Nat) (c : Int32) (d i : Nat) : Nat → Int32 := if 0 < k ∧ (fa < d ∨ (fa = d ∧ k ≤ i)) then upd f (k - 1) c else f
def clR (k fa d i : Nat) : Int32 := if 0 < k ∧ (fa < d ∨ (fa = d ∧ k ≤ i)) then 1 else 0
section CLS
variable {f : Nat → Int32} {k fa d i : Nat} {c : Int32}
theorem clS_0 : clS f k fa c 0 0 = f := if_neg (by omega)
theorem clR_0 : clR k fa 0 0 = 0 := if_neg (by omega)
theorem clS_row : clS f k fa c d k = clS f k fa c (d + 1) 0 := by
  unfold clS
  by_cases h : 0 < k ∧ (fa < d ∨ (fa = d ∧ k ≤ k))
  · rw [if_pos h, if_pos (by omega)]
  · rw [if_neg h, if_neg (by omega)]
theorem clR_row : clR k fa d k = clR k fa (d + 1) 0 := by
  unfold clR
  by_cases h : 0 < k ∧ (fa < d ∨ (fa = d ∧ k ≤ k))
  · rw [if_pos h, if_pos (by omega)]
  · rw [if_neg h, if_neg (by omega)]
theorem clS_no (h : fa = d) (hi : i < k) : clS f k fa c d i = f := if_neg (by omega)
theorem clR_no (h : fa = d) (hi : i < k) : clR k fa d i = 0 := if_neg (by omega)
theorem clS_ne (h : ¬ fa = d) : clS f k fa c d i = clS f k fa c d (i + 1) := by
  unfold clS
  by_cases h1 : 0 < k ∧ (fa < d ∨ (fa = d ∧ k ≤ i))
  · rw [if_pos h1, if_pos (by omega)]
  · rw [if_neg h1, if_neg (by omega)]
theorem clR_ne (h : ¬ fa = d) : clR k fa d i = clR k fa d (i + 1) := by
  unfold clR
  by_cases h1 : 0 < k ∧ (fa < d ∨ (fa = d ∧ k ≤ i))
  · rw [if_pos h1, if_pos (by omega)]
  · rw [if_neg h1, if_neg (by omega)]
theorem clS_miss (h1 : ¬ i + 1 = k) (h : fa = d) (hi : i < k) : f = clS f k fa c d (i + 1) := (if_neg (by omega)).symm
theorem clR_miss (h1 : ¬ i + 1 = k) (h : fa = d) (hi : i < k) : clR k fa d i = clR k fa d (i + 1) := (clR_no h hi).trans (if_neg (by omega)).symm
theorem clS_hit (h1 : i + 1 = k) (h : fa = d) : upd f i c = clS f k fa c d (i + 1) := by
  unfold clS
  rw [if_pos (by omega), show k - 1 = i by omega]
theorem clR_hit (h1 : i + 1 = k) (h : fa = d) : clR k fa d i + 1 = clR k fa d (i + 1) := by
  rw [clR_no h (by omega)]
  unfold clR
  rw [if_pos (by omega)]
  rfl
theorem clS_end (h : fa < 100) : clS f k fa c 100 0 = if 0 < k then upd f (k - 1) c else f := by
  unfold clS
  by_cases h1 : 0 < k
  · rw [if_pos h1, if_pos (by omega)]
  · rw [if_neg h1, if_neg (by omega)]
theorem clR_end (h : fa < 100) : clR k fa 100 0 = if 0 < k then 1 else 0 := by
  unfold clR
  by_cases h1 : 0 < k
  · rw [if_pos h1, if_pos (by omega)]
  · rw [if_neg h1, if_neg (by omega)]
end CLS
