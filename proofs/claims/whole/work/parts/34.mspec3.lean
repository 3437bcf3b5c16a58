def rowP (k : Nat) (f : Nat → Int32) : Prop := ∀ d : Nat, d < 100 → f d = -1 ∨ ∃ j : Nat, j < k ∧ f d = nI j
theorem row_in {k n : Nat} {f : Nat → Int32} (h : rowP k f) (hk : k ≤ n) (hn : n < 2147483648) {d : Nat} (hd : d < 100) (h1 : ¬ f d = -1) : vp_in (f d) n := by
  rcases h d hd with q | ⟨j, hj, q⟩
  · exact absurd q h1
  · rw [q]; exact vp_in_nI (by omega) hn
def likeB (v f : Nat → Int32) (d e : Nat) : Bool := decide (¬ f d = -1 ∧ ¬ f e = -1 ∧ v (f d).toNatClampNeg = v (f e).toNatClampNeg)
abbrev PSt : Type := Nat × (Nat → Int32) × (Nat → Int32)
def goB (v : Nat → Int32) (o p : Nat → Int32) (z : Bool) (q : PSt) (d : Nat) : Bool := decide (0 < q.1 ∧ q.2.2 (q.1 - 1) = nI d) && (likeB v o d (d - 1) && (!z || likeB v p d (d - 1)))
def skB (o p : Nat → Int32) (z : Bool) (d : Nat) : Bool := decide (o d = -1) || (z && decide (p d = -1))
def pmS (v : Nat → Int32) (o p : Nat → Int32) (z : Bool) (F0 B0 : Nat → Int32) : Nat → PSt
  | 0 => (0, F0, B0)
  | d + 1 =>
    let q := pmS v o p z F0 B0 d
    if skB o p z d = true then q
    else if goB v o p z q d = true then (q.1, q.2.1, upd q.2.2 (q.1 - 1) (nI (d + 1)))
    else (q.1 + 1, upd q.2.1 q.1 (nI d), upd q.2.2 q.1 (nI (d + 1)))
theorem pmS_le (v : Nat → Int32) (o p : Nat → Int32) (z : Bool) (F0 B0 : Nat → Int32) (d : Nat) : (pmS v o p z F0 B0 d).1 ≤ d := by
  induction d with
  | zero => exact Nat.le_refl 0
  | succ d ih =>
    simp only [pmS]
    split
    · exact Nat.le_succ_of_le ih
    · split
      · exact Nat.le_succ_of_le ih
      · exact Nat.succ_le_succ ih
theorem pm_skip {v : Nat → Int32} {o p : Nat → Int32} {z : Bool} {F0 B0 : Nat → Int32} {d : Nat} (h : skB o p z d = true) : pmS v o p z F0 B0 (d + 1) = pmS v o p z F0 B0 d := by
  simp only [pmS]
  rw [if_pos h]
theorem pm_go {v : Nat → Int32} {o p : Nat → Int32} {z : Bool} {F0 B0 : Nat → Int32} {d : Nat} (h : ¬ skB o p z d = true) (h2 : goB v o p z (pmS v o p z F0 B0 d) d = true) : pmS v o p z F0 B0 (d + 1) = ((pmS v o p z F0 B0 d).1, (pmS v o p z F0 B0 d).2.1, upd (pmS v o p z F0 B0 d).2.2 ((pmS v o p z F0 B0 d).1 - 1) (nI (d + 1))) := by
  simp only [pmS]
  rw [if_neg h, if_pos h2]
theorem pm_new {v : Nat → Int32} {o p : Nat → Int32} {z : Bool} {F0 B0 : Nat → Int32} {d : Nat} (h : ¬ skB o p z d = true) (h2 : ¬ goB v o p z (pmS v o p z F0 B0 d) d = true) : pmS v o p z F0 B0 (d + 1) = ((pmS v o p z F0 B0 d).1 + 1, upd (pmS v o p z F0 B0 d).2.1 (pmS v o p z F0 B0 d).1 (nI d), upd (pmS v o p z F0 B0 d).2.2 (pmS v o p z F0 B0 d).1 (nI (d + 1))) := by
  simp only [pmS]
  rw [if_neg h, if_neg h2]
theorem kd_t {f : Nat → Int32} {n : Nat} (h : f n = -1) : kdN f (n + 1) = kdN f n + 0 := by rw [kdN, if_pos h]
theorem kd_f {f : Nat → Int32} {n : Nat} (h : ¬ f n = -1) : kdN f (n + 1) = kdN f n + 1 := by rw [kdN, if_neg h]
def igN (v : Nat → Int32) (f : Nat → Int32) : Nat → Int64
  | 0 => 0
  | n + 1 => igN v f n + (if f n = -1 then 0 else (v (f n).toNatClampNeg).toInt64)
def bdB (v : Nat → Int32) (o p : Nat → Int32) (z : Bool) (d : Nat) : Bool := (decide (¬ o d = -1) && decide (¬ p d = -1)) && (!z || decide (v (o d).toNatClampNeg = v (p d).toNatClampNeg))
def bdN (v : Nat → Int32) (o p : Nat → Int32) (z : Bool) : Nat → Int32
  | 0 => 0
  | n + 1 => bdN v o p z n + (if bdB v o p z n = true then 1 else 0)
theorem afC_0 {I : AI} {x b t : Int32} (h : ¬ afC I x b t = 0) : True := trivial
/-- a row as looksAt leaves it -/
theorem lk_row (S : AS) (wh t : Int32) (fr to : Nat → Nat) (f0 : Nat → Int32) (n : Nat) : rowP n (lkN S wh t fr to f0 n) := lk_is S wh t fr to f0 n
abbrev pmM (S : AS) (wh t : Int32) (fr to : Nat → Nat) (k : Nat) : PSt := pmS (S 4) (lkM S wh t fr to k) (S 11) false (S 12) (S 13) 100
abbrev pmJ (S : AS) (wh wh2 t : Int32) (fr to : Nat → Nat) (k : Nat) : PSt := pmS (S 4) (lkM S wh t fr to k) (lkO S wh2 t fr to k) true (S 12) (S 13) 100
def jfC (I : AI) (x b x2 b2 t : Int32) : Int32 := if mplB (I 1) x2 b2 = true then afC I x b t else 1
