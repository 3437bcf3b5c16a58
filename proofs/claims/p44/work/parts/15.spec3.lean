/-! a line: what is written behind what stands there -/
def appL (f : Nat → Int32) (n : Nat) : List Int32 → (Nat → Int32)
  | [] => f
  | x :: xs => appL (upd f n x) (n + 1) xs
theorem appL_app (f : Nat → Int32) (n : Nat) (xs ys : List Int32) : appL f n (xs ++ ys) = appL (appL f n xs) (n + xs.length) ys := by
  induction xs generalizing f n with
  | nil => rfl
  | cons x xs ih =>
    rw [List.cons_append, appL, ih, appL, List.length_cons, show n + (xs.length + 1) = n + 1 + xs.length by omega]
theorem appL_snoc (f : Nat → Int32) (n : Nat) (xs : List Int32) (z : Int32) : appL f n (xs ++ [z]) = upd (appL f n xs) (n + xs.length) z := by
  rw [appL_app]; rfl
theorem nar_c {q : Nat} (hq : q < 65536) : vp_nar .char (nI q) = nI q := by
  have h := (pk_charN hq).1
  unfold vp_nar
  rw [h]
/-! the digits of a number -/
def uN (i : Nat) : Nat := 1000000000 / 10 ^ i
theorem uN_pos : ∀ i : Nat, i < 10 → 0 < uN i := by decide
theorem uN_10 : uN 10 = 0 := by decide
theorem uN_le (i : Nat) : uN i ≤ 1000000000 := Nat.div_le_self _ _
theorem uN_s (i : Nat) : uN i / 10 = uN (i + 1) := by
  rw [uN, uN, Nat.div_div_eq_div_mul, Nat.pow_succ]
def dgL (w : Nat) : Nat → List Int32
  | 0 => []
  | i + 1 => if uN i ≤ w ∨ uN i = 1 then dgL w i ++ [nI (48 + w / uN i % 10)] else dgL w i
theorem dg_t {w i : Nat} (h : uN i ≤ w ∨ uN i = 1) : dgL w (i + 1) = dgL w i ++ [nI (48 + w / uN i % 10)] := if_pos h
theorem dg_f {w i : Nat} (h : ¬ (uN i ≤ w ∨ uN i = 1)) : dgL w (i + 1) = dgL w i := if_neg h
theorem dg_len (w i : Nat) : (dgL w i).length ≤ i := by
  induction i with
  | zero => exact Nat.le_refl 0
  | succ i ih =>
    rw [dgL]
    split
    · rw [List.length_append]
      exact Nat.succ_le_succ ih
    · exact Nat.le_succ_of_le ih
def numL (v : Int32) : List Int32 := if v < 0 then 45 :: dgL v.toInt.natAbs 10 else dgL v.toInt.natAbs 10
theorem numL_p {v : Int32} (h : ¬ v < 0) : numL v = dgL v.toInt.natAbs 10 := if_neg h
theorem numL_n {v : Int32} (h : v < 0) : numL v = 45 :: dgL v.toInt.natAbs 10 := if_pos h
theorem numL_len (v : Int32) : (numL v).length ≤ 11 := by
  unfold numL
  split
  · rw [List.length_cons]
    exact Nat.succ_le_succ (dg_len _ _)
  · exact Nat.le_succ_of_le (dg_len _ _)
theorem numL_100 : ∀ x : Nat, x < 101 → (numL (nI x)).length ≤ (if x < 100 then 2 else 3) := by decide +kernel
theorem natAbs_le (v : Int32) : v.toInt.natAbs ≤ 2147483648 := by
  have h1 := v.toInt_lt
  have h2 := v.le_toInt
  omega
theorem v_neg {v : Int32} : v < 0 ↔ v.toInt < 0 := Int32.lt_iff_toInt_lt
theorem l_abs_p {v : Int32} (h : ¬ v < 0) : v.toInt64 = lN v.toInt.natAbs := by
  have h1 : ¬ v.toInt < 0 := fun q => h (v_neg.mpr q)
  have h2 := natAbs_le v
  refine Int64.toInt_inj.mp ?_
  rw [Int32.toInt_toInt64, pk_lT (by omega)]
  omega
theorem l_abs_n {v : Int32} (h : v < 0) : -v.toInt64 = lN v.toInt.natAbs := by
  have h1 : v.toInt < 0 := v_neg.mp h
  have h2 := natAbs_le v
  refine Int64.toInt_inj.mp ?_
  rw [Int64.toInt_neg, Int32.toInt_toInt64, pk_lT (by omega), Int.bmod_eq_of_le (by omega) (by omega)]
  omega
theorem l_neg {v : Int32} : 0 ≤ v.toInt64 ↔ ¬ v < 0 := by
  rw [Int64.le_iff_toInt_le, Int32.toInt_toInt64, v_neg]
  have h : (0 : Int64).toInt = 0 := rfl
  rw [h]
  omega
theorem c_nI {q : Nat} (hq : q < 65536) : ((nI q).toUInt32 % 65536).toInt32 = nI q := by
  rw [pk_char, pk_tn (by omega), Nat.mod_eq_of_lt hq]
/-! an entry: three numbers, with their signs -/
theorem app3 (g : Nat → Int32) (a : Nat) (A B C : List Int32) : appL (upd (appL (upd (appL g a A) (a + A.length) 45) (a + A.length + 1) B) (a + A.length + 1 + B.length) 61) (a + A.length + 1 + B.length + 1) C = appL g a (A ++ 45 :: (B ++ 61 :: C)) := by
  rw [appL_app, appL, appL_app, appL]
theorem len3 (A B C : List Int32) : (A ++ 45 :: (B ++ 61 :: C)).length = A.length + 1 + B.length + 1 + C.length := by
  simp only [List.length_append, List.length_cons]
  omega
def enL (S : AS) (j : Nat) : List Int32 := numL (S 23 j) ++ 45 :: (numL (S 24 j) ++ 61 :: numL (vlI (S 17) (S 18) (S 23 j)))
def wrL (S : AS) : Nat → List Int32
  | 0 => []
  | j + 1 => (if j = 0 then wrL S j else wrL S j ++ [32]) ++ enL S j
theorem wrL_0 {S : AS} {j : Nat} (h : j = 0) : wrL S (j + 1) = wrL S j ++ enL S j := by rw [wrL, if_pos h]
theorem wrL_1 {S : AS} {j : Nat} (h : ¬ j = 0) : wrL S (j + 1) = (wrL S j ++ [32]) ++ enL S j := by rw [wrL, if_neg h]
theorem enL_len {S : AS} {j : Nat} (h1 : ∃ x : Nat, S 23 j = nI x ∧ x < 100) (h2 : ∃ y : Nat, S 24 j = nI y ∧ y ≤ 100) : (numL (S 23 j)).length ≤ 2 ∧ (numL (S 24 j)).length ≤ 3 ∧ (enL S j).length ≤ 18 := by
  obtain ⟨x, e1, hx⟩ := h1
  obtain ⟨y, e2, hy⟩ := h2
  have g1 := numL_100 x (by omega)
  have g2 := numL_100 y (by omega)
  rw [if_pos hx, ← e1] at g1
  rw [← e2] at g2
  have g3 : (numL (S 24 j)).length ≤ 3 := by
    split at g2 <;> omega
  have g4 := numL_len (vlI (S 17) (S 18) (S 23 j))
  refine ⟨g1, g3, ?_⟩
  rw [enL, len3]
  omega
theorem wrL_len {S : AS} {q : Nat} (h1 : ∀ j : Nat, j < q → ∃ x : Nat, S 23 j = nI x ∧ x < 100) (h2 : ∀ j : Nat, j < q → ∃ y : Nat, S 24 j = nI y ∧ y ≤ 100) {i : Nat} (hi : i ≤ q) : (wrL S i).length ≤ 19 * i := by
  induction i with
  | zero => exact Nat.le_refl 0
  | succ i ih =>
    have h3 := (enL_len (h1 i (by omega)) (h2 i (by omega))).2.2
    have h4 := ih (by omega)
    rw [wrL, List.length_append]
    split
    · omega
    · rw [List.length_append, List.length_singleton]
      omega
