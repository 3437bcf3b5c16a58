/-! the reference's versions: how many, their ticks, their facts -/
abbrev fvG (S : AS) (wh : Int32) (fr to : Nat → Nat) (k d i : Nat) : Int32 := lkM S wh (nI i) fr to k d
abbrev MSt : Type := Nat × (Nat → Int32) × (Nat → Int32)
def lastM (q : MSt) : Int32 := if q.1 = 0 then -1 else q.2.2 (q.1 - 1)
def samP (v : Nat → Int32) (q : MSt) (f : Int32) : Prop := 0 < q.1 ∧ (f = -1 ↔ lastM q = -1) ∧ (f = -1 ∨ v f.toNatClampNeg = v (lastM q).toNatClampNeg)
noncomputable def vmR (v g : Nat → Int32) (h : Nat) (F0 V0 : Nat → Int32) : Nat → MSt
  | 0 => (0, F0, V0)
  | m + 1 => (Classical.propDecidable (samP v (vmR v g h F0 V0 m) (g (h + m)))).casesOn (fun _ => ((vmR v g h F0 V0 m).1 + 1, upd (vmR v g h F0 V0 m).2.1 (vmR v g h F0 V0 m).1 (nI (h + m)), upd (vmR v g h F0 V0 m).2.2 (vmR v g h F0 V0 m).1 (g (h + m)))) (fun _ => vmR v g h F0 V0 m)
theorem vmR_t {v g : Nat → Int32} {h : Nat} {F0 V0 : Nat → Int32} {m : Nat} (hs : samP v (vmR v g h F0 V0 m) (g (h + m))) : vmR v g h F0 V0 (m + 1) = vmR v g h F0 V0 m := by
  rw [vmR]
  cases Classical.propDecidable (samP v (vmR v g h F0 V0 m) (g (h + m))) with
  | isFalse q => exact absurd hs q
  | isTrue _ => rfl
theorem vmR_f {v g : Nat → Int32} {h : Nat} {F0 V0 : Nat → Int32} {m : Nat} (hs : ¬ samP v (vmR v g h F0 V0 m) (g (h + m))) : vmR v g h F0 V0 (m + 1) = ((vmR v g h F0 V0 m).1 + 1, upd (vmR v g h F0 V0 m).2.1 (vmR v g h F0 V0 m).1 (nI (h + m)), upd (vmR v g h F0 V0 m).2.2 (vmR v g h F0 V0 m).1 (g (h + m))) := by
  rw [vmR]
  cases Classical.propDecidable (samP v (vmR v g h F0 V0 m) (g (h + m))) with
  | isFalse _ => rfl
  | isTrue q => exact absurd q hs
theorem vmR_le (v g : Nat → Int32) (h : Nat) (F0 V0 : Nat → Int32) (m : Nat) : (vmR v g h F0 V0 m).1 ≤ m := by
  induction m with
  | zero => exact Nat.le_refl 0
  | succ m ih =>
    by_cases hs : samP v (vmR v g h F0 V0 m) (g (h + m))
    · rw [vmR_t hs]; omega
    · rw [vmR_f hs]; exact Nat.succ_le_succ ih
theorem vmR_row {k : Nat} {v g : Nat → Int32} {h : Nat} {F0 V0 : Nat → Int32} (hg : ∀ i : Nat, g i = -1 ∨ ∃ j : Nat, j < k ∧ g i = nI j) (m : Nat) : ∀ j : Nat, j < (vmR v g h F0 V0 m).1 → (vmR v g h F0 V0 m).2.2 j = -1 ∨ ∃ i : Nat, i < k ∧ (vmR v g h F0 V0 m).2.2 j = nI i := by
  induction m with
  | zero => intro j hj; exact absurd hj (Nat.not_lt_zero j)
  | succ m ih =>
    by_cases hs : samP v (vmR v g h F0 V0 m) (g (h + m))
    · rw [vmR_t hs]; exact ih
    · rw [vmR_f hs]
      intro j hj
      have hj : j < (vmR v g h F0 V0 m).1 + 1 := hj
      show upd (vmR v g h F0 V0 m).2.2 (vmR v g h F0 V0 m).1 (g (h + m)) j = -1 ∨ ∃ i : Nat, i < k ∧ upd (vmR v g h F0 V0 m).2.2 (vmR v g h F0 V0 m).1 (g (h + m)) j = nI i
      simp only [upd]
      by_cases e : j = (vmR v g h F0 V0 m).1
      · rw [if_pos e]; exact hg _
      · rw [if_neg e]; exact ih j (by omega)
theorem lastM_row {k : Nat} {q : MSt} (hr : ∀ j : Nat, j < q.1 → q.2.2 j = -1 ∨ ∃ i : Nat, i < k ∧ q.2.2 j = nI i) : lastM q = -1 ∨ ∃ i : Nat, i < k ∧ lastM q = nI i := by
  unfold lastM
  split
  · exact Or.inl rfl
  · exact hr _ (by omega)
theorem lastM_in {k n : Nat} {q : MSt} (hr : ∀ j : Nat, j < q.1 → q.2.2 j = -1 ∨ ∃ i : Nat, i < k ∧ q.2.2 j = nI i) (hk : k ≤ n) (hn : n < 2147483648) (h1 : ¬ lastM q = -1) : vp_in (lastM q) n := by
  rcases lastM_row hr with q | ⟨i, hi, q⟩
  · exact absurd q h1
  · rw [q]; exact vp_in_nI (by omega) hn
theorem fvG_row (S : AS) (wh : Int32) (fr to : Nat → Nat) (k : Nat) {d : Nat} (hd : d < 100) (i : Nat) : fvG S wh fr to k d i = -1 ∨ ∃ j : Nat, j < k ∧ fvG S wh fr to k d i = nI j := lk_row S wh (nI i) fr to (S 10) k d hd
noncomputable abbrev vmQ (S : AS) (wh : Int32) (fr to : Nat → Nat) (k d h n : Nat) : MSt := vmR (S 4) (fvG S wh fr to k d) h (S 15) (S 16) (n + 1 - h)
def qmC (I : AI) (x b d : Int32) : Int32 := if mplB (I 1) x b = true then (if inB d 0 99 = true then 0 else 2) else 1
theorem vmQ_in {S : AS} {wh : Int32} {fr to : Nat → Nat} {k d h n j m : Nat} (hk : k ≤ m) (hm : m < 2147483648) (hd : d < 100) (hj : j < (vmQ S wh fr to k d h n).1) (h1 : ¬ (vmQ S wh fr to k d h n).2.2 j = -1) : vp_in ((vmQ S wh fr to k d h n).2.2 j) m := by
  rcases vmR_row (fvG_row S wh fr to k hd) (n + 1 - h) j hj with q | ⟨i, hi, q⟩
  · exact absurd q h1
  · rw [q]; exact vp_in_nI (by omega) hm
/-! the reference's digits -/
def tN (i : Nat) : Nat := 10 ^ i
theorem tN_s (i : Nat) : tN i * 10 = tN (i + 1) := by rw [tN, tN, Nat.pow_succ]
theorem tN_pos (i : Nat) : 0 < tN i := Nat.pow_pos (by decide)
theorem tN_le : ∀ i : Nat, i ≤ 9 → tN i ≤ 1000000000 := by decide
theorem tN_9 : tN 9 = 1000000000 := by decide
/-- the units of a number whose first has e zeros -/
def vN (e i : Nat) : Nat := tN e / tN i
theorem vN_0 (e : Nat) : vN e 0 = tN e := Nat.div_one _
theorem vN_s (e i : Nat) : vN e i / 10 = vN e (i + 1) := by rw [vN, vN, Nat.div_div_eq_div_mul, tN_s]
theorem vN_le (e i : Nat) : vN e i ≤ tN e := Nat.div_le_self _ _
theorem vN_pos {e i : Nat} (h : i ≤ e) : 0 < vN e i := Nat.div_pos (Nat.pow_le_pow_right (by decide) h) (tN_pos i)
theorem vN_z (e : Nat) : vN e (e + 1) = 0 := Nat.div_eq_of_lt (Nat.pow_lt_pow_right (by decide) (Nat.lt_succ_self e))
def dmL (w e : Nat) : Nat → List Int32
  | 0 => []
  | i + 1 => dmL w e i ++ [nI (48 + w / vN e i % 10)]
theorem dm_len (w e i : Nat) : (dmL w e i).length = i := by
  induction i with
  | zero => rfl
  | succ i ih => rw [dmL, List.length_append, ih]; rfl
theorem uv : ∀ e : Nat, e < 10 → ∀ m : Nat, m < 11 → uN (9 - e + m) = vN e m := by decide +kernel
theorem u_big : ∀ e : Nat, e < 10 → ∀ i : Nat, i < 9 - e → tN (e + 1) ≤ uN i := by decide +kernel
theorem dg_skip {w e : Nat} (he : e < 10) (hw : w < tN (e + 1)) : ∀ i : Nat, i ≤ 9 - e → dgL w i = [] := by
  intro i
  induction i with
  | zero => intro _; rfl
  | succ i ih =>
    intro hi
    have h1 := u_big e he i (by omega)
    have h2 : 1 < tN (e + 1) := Nat.one_lt_pow (by omega) (by decide)
    rw [dg_f (by omega)]
    exact ih (by omega)
/-- both write the same digits -/
theorem dg_dm {w e : Nat} (he : e < 10) (h1 : w / tN e ≤ 9) (h2 : e = 0 ∨ 9 < w / tN (e - 1)) : dgL w 10 = dmL w e (e + 1) := by
  have hw : w < tN (e + 1) := by
    rw [← tN_s, Nat.mul_comm]
    exact (Nat.div_lt_iff_lt_mul (tN_pos e)).mp (by omega)
  have hlo : e = 0 ∨ tN e ≤ w := by
    rcases h2 with h | h
    · exact Or.inl h
    · by_cases e0 : e = 0
      · exact Or.inl e0
      · right
        have h3 : tN (e - 1) * 10 = tN e := by rw [tN_s, show e - 1 + 1 = e by omega]
        have h4 : 10 * tN (e - 1) ≤ w := (Nat.le_div_iff_mul_le (tN_pos _)).mp h
        omega
  have key : ∀ m : Nat, m ≤ e + 1 → dgL w (9 - e + m) = dmL w e m := by
    intro m
    induction m with
    | zero => intro _; exact dg_skip he hw _ (Nat.le_refl _)
    | succ m ih =>
      intro hm
      have h5 := uv e he m (by omega)
      have h6 : uN (9 - e + m) ≤ w ∨ uN (9 - e + m) = 1 := by
        rw [h5]
        rcases hlo with h | h
        · right
          subst h
          rw [show m = 0 by omega, vN_0]; rfl
        · exact Or.inl (Nat.le_trans (vN_le e m) h)
      rw [show 9 - e + (m + 1) = 9 - e + m + 1 by omega, dg_t h6, ih (by omega), dmL, h5]
  have h7 := key (e + 1) (Nat.le_refl _)
  rw [show 9 - e + (e + 1) = 10 by omega] at h7
  exact h7
/-! a line of periods -/
def enG (F B V : Nat → Int32) (j : Nat) : List Int32 := numL (F j) ++ 45 :: (numL (B j) ++ 61 :: numL (V j))
def wrG (F B V : Nat → Int32) : Nat → List Int32
  | 0 => []
  | j + 1 => (if j = 0 then wrG F B V j else wrG F B V j ++ [32]) ++ enG F B V j
theorem wrG_0 {F B V : Nat → Int32} {j : Nat} (h : j = 0) : wrG F B V (j + 1) = wrG F B V j ++ enG F B V j := by rw [wrG, if_pos h]
theorem wrG_1 {F B V : Nat → Int32} {j : Nat} (h : ¬ j = 0) : wrG F B V (j + 1) = (wrG F B V j ++ [32]) ++ enG F B V j := by rw [wrG, if_neg h]
theorem wrL_G (S : AS) (j : Nat) : wrL S j = wrG (S 23) (S 24) (fun j => vlI (S 17) (S 18) (S 23 j)) j := by
  induction j with
  | zero => rfl
  | succ j ih => rw [wrL, wrG, ih]; rfl
theorem wrG_c {F B V F' B' V' : Nat → Int32} {q : Nat} (h : ∀ j : Nat, j < q → F j = F' j ∧ B j = B' j ∧ V j = V' j) : ∀ j : Nat, j ≤ q → wrG F B V j = wrG F' B' V' j := by
  intro j
  induction j with
  | zero => intro _; rfl
  | succ j ih =>
    intro hj
    obtain ⟨h1, h2, h3⟩ := h j (by omega)
    rw [wrG, wrG, ih (by omega), enG, enG, h1, h2, h3]
theorem enG_len {F B V : Nat → Int32} {j : Nat} (h1 : ∃ x : Nat, x < 100 ∧ F j = nI x) (h2 : ∃ y : Nat, y ≤ 100 ∧ B j = nI y) : (numL (F j)).length ≤ 2 ∧ (numL (B j)).length ≤ 3 ∧ (enG F B V j).length ≤ 18 := by
  obtain ⟨x, hx, e1⟩ := h1
  obtain ⟨y, hy, e2⟩ := h2
  have g1 := numL_100 x (by omega)
  have g2 := numL_100 y (by omega)
  rw [if_pos hx, ← e1] at g1
  rw [← e2] at g2
  have g3 : (numL (B j)).length ≤ 3 := by
    split at g2 <;> omega
  have g4 := numL_len (V j)
  refine ⟨g1, g3, ?_⟩
  rw [enG, len3]
  omega
theorem wrG_len {F B V : Nat → Int32} {q : Nat} (h1 : ∀ j : Nat, j < q → ∃ x : Nat, x < 100 ∧ F j = nI x) (h2 : ∀ j : Nat, j < q → ∃ y : Nat, y ≤ 100 ∧ B j = nI y) {i : Nat} (hi : i ≤ q) : (wrG F B V i).length ≤ 19 * i := by
  induction i with
  | zero => exact Nat.le_refl 0
  | succ i ih =>
    have h3 := (enG_len (V := V) (h1 i (by omega)) (h2 i (by omega))).2.2
    have h4 := ih (by omega)
    rw [wrG, List.length_append]
    split
    · omega
    · rw [List.length_append, List.length_singleton]
      omega
theorem lNz {n : Nat} (h : 0 < n) (h2 : n < 2147483648) : ¬ lN n = 0 := fun q => by
  have := (pk_lEQ (a := n) (b := 0) (by omega) (by omega)).mp q
  omega
theorem wpIm {I : AI} {a b c : Int32} {i : Nat} (h0 : i ≠ 0) (h6 : i ≠ 6) (h7 : i ≠ 7) : va_up (va_up (va_up I 0 a) 6 b) 7 c i = I i := by rw [va_up_ne _ _ h7, va_up_ne _ _ h6, va_up_ne _ _ h0]
theorem wpSm {S : AS} {a b c d : Nat → Int32} {k : Nat} (h : k < 10) : va_up (va_up (va_up (va_up S 10 a) 12 b) 13 c) 14 d k = S k := by rw [va_up_ne _ _ (by omega), va_up_ne _ _ (by omega), va_up_ne _ _ (by omega), va_up_ne _ _ (by omega)]
