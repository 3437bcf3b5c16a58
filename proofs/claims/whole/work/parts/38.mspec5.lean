/-! the reference's joins and changed days, row by row -/
theorem bd_t {v : Nat → Int32} {o p : Nat → Int32} {z : Bool} {n : Nat} (h : bdB v o p z n = true) : bdN v o p z (n + 1) = bdN v o p z n + 1 := by rw [bdN, if_pos h]
theorem bd_f {v : Nat → Int32} {o p : Nat → Int32} {z : Bool} {n : Nat} (h : ¬ bdB v o p z n = true) : bdN v o p z (n + 1) = bdN v o p z n + 0 := by rw [bdN, if_neg h]
def chB (v : Nat → Int32) (o p : Nat → Int32) (d : Nat) : Bool := (decide (¬ o d = -1) != decide (¬ p d = -1)) || (decide (¬ o d = -1) && decide (¬ v (o d).toNatClampNeg = v (p d).toNatClampNeg))
def chN (v : Nat → Int32) (o p : Nat → Int32) : Nat → Int32
  | 0 => 0
  | n + 1 => chN v o p n + (if chB v o p n = true then 1 else 0)
theorem ch_t {v : Nat → Int32} {o p : Nat → Int32} {n : Nat} (h : chB v o p n = true) : chN v o p (n + 1) = chN v o p n + 1 := by rw [chN, if_pos h]
theorem ch_f {v : Nat → Int32} {o p : Nat → Int32} {n : Nat} (h : ¬ chB v o p n = true) : chN v o p (n + 1) = chN v o p n + 0 := by rw [chN, if_neg h]
def hfC (I : AI) (x b t t2 : Int32) : Int32 := if mplB (I 1) x b = true then (if (inB t 0 (I 2) && inB t2 0 (I 2)) = true then (if ¬ t < I 5 ∧ I 5 ≤ t2 then 0 else 3) else 2) else 1
/-- a row does not rest on what stood there before -/
theorem lk_ind (S : AS) (wh t : Int32) (fr to : Nat → Nat) (f0 f1 : Nat → Int32) (n : Nat) : ∀ d : Nat, d < 100 → lkN S wh t fr to f0 n d = lkN S wh t fr to f1 n d := by
  induction n with
  | zero =>
    intro d hd
    simp only [lkN, lkR, putF]
    rw [if_pos (by omega), if_pos (by omega)]
  | succ n ih =>
    intro d hd
    rw [lkN, lkN, lkR, lkR]
    split
    · simp only [putF]
      split
      · rfl
      · exact ih d hd
    · exact ih d hd
