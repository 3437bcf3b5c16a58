/-! what the class's facts say, in its own numbers -/
abbrev imax (a b : Int32) : Int32 := if a < b then b else a
abbrev imin (a b : Int32) : Int32 := if b < a then b else a
/-- the days of a fact from x to y within a .. b -/
abbrev dwI (x y a b : Int32) : Int32 := imax (imin y b - imax x a) 0
/-- regarded as of t: opened at o, closed at c -/
abbrev liveP (o c t : Int32) : Prop := ¬ t < o ∧ (c = -1 ∨ ¬ c ≤ t)
abbrev hitP (S : AS) (sl d t : Int32) (i : Nat) : Prop := S 8 i = sl ∧ liveP (S 12 i) (S 13 i) t ∧ ¬ dwI (S 10 i) (S 11 i) d (d + 1) ≤ 0
abbrev fndP (S : AS) (sl d t : Int32) (k : Nat) (r : Int32) : Prop := (∃ i : Nat, i < k ∧ r = nI i ∧ hitP S sl d t i ∧ ∀ j : Nat, j < i → ¬ hitP S sl d t j) ∨ (r = -1 ∧ ∀ j : Nat, j < k → ¬ hitP S sl d t j)
def cdN (S : AS) (sl a b t : Int32) : Nat → Int32
  | 0 => 0
  | n + 1 => if S 8 n = sl ∧ liveP (S 12 n) (S 13 n) t then cdN S sl a b t n + dwI (S 10 n) (S 11 n) a b else cdN S sl a b t n
abbrev keptP (S : AS) (k : Nat) (hz x : Int32) : Prop := ¬ x < 0 ∧ ¬ nI k ≤ x ∧ (S 13 x.toNatClampNeg = -1 ∨ ¬ S 13 x.toNatClampNeg ≤ hz)
def ckN (S : AS) (k : Nat) (hz : Int32) : Nat → Int32
  | 0 => 0
  | n + 1 => ckN S k hz n + (if keptP S k hz (nI n) then 1 else 0)
def coN (S : AS) : Nat → Int32
  | 0 => 0
  | n + 1 => coN S n + (if S 13 n = -1 then 1 else 0)
theorem vpi_of {x : Int32} {k n : Nat} (h1 : ¬ x < 0) (h2 : ¬ nI k ≤ x) (hk : k ≤ n) (hn : n < 2147483648) : vp_in x n := by
  rcases pk_ix x (n := k) (by omega) with h | h | ⟨j, hj, rfl⟩
  · exact absurd h h1
  · exact absurd h h2
  · exact vp_in_nI (Nat.lt_of_lt_of_le hj hk) hn
theorem narZ1 : narrow .boolean (.int 1) = .int 1 := rfl
theorem narZ0 : narrow .boolean (.int 0) = .int 0 := rfl
/-! knowledge: which days are known (kb), with what (vlI) -/
def kb (f : Nat → Int32) (x : Int32) : Bool := decide (¬ x < 0 ∧ ¬ 100 ≤ x ∧ ¬ f x.toNatClampNeg = 0)
def vlI (f g : Nat → Int32) (x : Int32) : Int32 := if kb f x = true then g x.toNatClampNeg else 0
theorem kb_in {f : Nat → Int32} {x : Int32} (h : kb f x = true) : vp_in x 100 := by
  have h := of_decide_eq_true h
  exact vpi_of (k := 100) h.1 h.2.1 (Nat.le_refl _) (by decide)
def asB (f g : Nat → Int32) (x : Int32) : Bool := kb f x && (kb f (x - 1) && decide (vlI f g x = vlI f g (x - 1)))
def smN (f g : Nat → Int32) : Nat → Int64
  | 0 => 0
  | n + 1 => smN f g n + (vlI f g (nI n)).toInt64
def ccN (f f' : Nat → Int32) : Nat → Int32
  | 0 => 0
  | n + 1 => ccN f f' n + (if (kb f (nI n) && kb f' (nI n)) = true then 1 else 0)
def agB (f g f' g' : Nat → Int32) (x : Int32) : Bool := kb f x && (kb f' x && decide (vlI f g x = vlI f' g' x))
def caN (f g f' g' : Nat → Int32) : Nat → Int32
  | 0 => 0
  | n + 1 => caN f g f' g' n + (if agB f g f' g' (nI n) = true then 1 else 0)
def dfB (f g f' g' : Nat → Int32) (x : Int32) : Bool := (kb f x != kb f' x) || !decide (vlI f g x = vlI f' g' x)
def cfN (f g f' g' : Nat → Int32) : Nat → Int32
  | 0 => 0
  | n + 1 => cfN f g f' g' n + (if dfB f g f' g' (nI n) = true then 1 else 0)
/-- the cells x .. y - 1 hold v -/
def putF (f : Nat → Int32) (x y : Nat) (v : Int32) : Nat → Int32 := fun j => if x ≤ j ∧ j < y then v else f j
theorem putF_0 (f : Nat → Int32) (x : Nat) (v : Int32) : f = putF f x x v := by
  funext j
  simp only [putF]
  rw [if_neg (by omega)]
theorem putF_s {f : Nat → Int32} {x i : Nat} (v : Int32) (h : x ≤ i) : upd (putF f x i v) i v = putF f x (i + 1) v := by
  funext j
  simp only [putF, upd]
  by_cases h1 : j = i
  · rw [if_pos h1, if_pos (by omega)]
  · rw [if_neg h1]
    by_cases h2 : x ≤ j ∧ j < i
    · rw [if_pos h2, if_pos (by omega)]
    · rw [if_neg h2, if_neg (by omega)]
def rdKN (S : AS) (sl t : Int32) (fr to : Nat → Nat) (f0 : Nat → Int32) : Nat → Nat → Int32
  | 0 => putF f0 0 100 0
  | n + 1 => if S 8 n = sl ∧ liveP (S 12 n) (S 13 n) t then putF (rdKN S sl t fr to f0 n) (fr n) (to n) 1 else rdKN S sl t fr to f0 n
def rdVN (S : AS) (sl t : Int32) (fr to : Nat → Nat) (g0 : Nat → Int32) : Nat → Nat → Int32
  | 0 => putF g0 0 100 0
  | n + 1 => if S 8 n = sl ∧ liveP (S 12 n) (S 13 n) t then putF (rdVN S sl t fr to g0 n) (fr n) (to n) (S 9 n) else rdVN S sl t fr to g0 n
/-! facts opened and closed -/
abbrev openI (I : AI) (k : Nat) : AI := va_up I 2 (nI (k + 1))
abbrev openS (S : AS) (k : Nat) (sl v x y t : Int32) : AS := va_up (va_up (va_up (va_up (va_up (va_up S 8 (upd (S 8) k sl)) 9 (upd (S 9) k v)) 10 (upd (S 10) k x)) 11 (upd (S 11) k y)) 12 (upd (S 12) k t)) 13 (upd (S 13) k (-1))
abbrev hitC (S : AS) (sl a b : Int32) (i : Nat) : Prop := S 8 i = sl ∧ S 13 i = -1 ∧ ¬ dwI (S 10 i) (S 11 i) a b ≤ 0
/-- the closings when the facts below i have been looked at -/
def clN (S : AS) (sl a b t : Int32) : Nat → Nat → Int32
  | 0 => S 13
  | n + 1 => if hitC S sl a b n then upd (clN S sl a b t n) n t else clN S sl a b t n
def cnN (S : AS) (sl a b : Int32) : Nat → Int32
  | 0 => 0
  | n + 1 => if hitC S sl a b n then cnN S sl a b n + 1 else cnN S sl a b n
def bfN (S : AS) (sl a b : Int32) : Nat → Int32
  | 0 => -1
  | n + 1 => if hitC S sl a b n ∧ ¬ a ≤ S 10 n then nI n else bfN S sl a b n
def afN (S : AS) (sl a b : Int32) : Nat → Int32
  | 0 => -1
  | n + 1 => if hitC S sl a b n ∧ ¬ S 11 n ≤ b then nI n else afN S sl a b n
theorem clN_ge (S : AS) (sl a b t : Int32) {n j : Nat} (h : n ≤ j) : clN S sl a b t n j = S 13 j := by
  induction n with
  | zero => rfl
  | succ n ih =>
    simp only [clN]
    split
    · simp only [upd]
      rw [if_neg (by omega)]
      exact ih (by omega)
    · exact ih (by omega)
theorem bfN_is (S : AS) (sl a b : Int32) (n : Nat) : bfN S sl a b n = -1 ∨ ∃ j : Nat, j < n ∧ bfN S sl a b n = nI j := by
  induction n with
  | zero => exact Or.inl rfl
  | succ n ih =>
    simp only [bfN]
    split
    · exact Or.inr ⟨n, by omega, rfl⟩
    · rcases ih with h | ⟨j, hj, h⟩
      · exact Or.inl h
      · exact Or.inr ⟨j, by omega, h⟩
theorem afN_is (S : AS) (sl a b : Int32) (n : Nat) : afN S sl a b n = -1 ∨ ∃ j : Nat, j < n ∧ afN S sl a b n = nI j := by
  induction n with
  | zero => exact Or.inl rfl
  | succ n ih =>
    simp only [afN]
    split
    · exact Or.inr ⟨n, by omega, rfl⟩
    · rcases ih with h | ⟨j, hj, h⟩
      · exact Or.inl h
      · exact Or.inr ⟨j, by omega, h⟩
theorem nI_m1 {j : Nat} (h : j < 2147483648) : ¬ nI j = -1 := fun q => by
  have h1 := nI_toInt h
  rw [q] at h1
  have h2 : (-1 : Int32).toInt = -1 := rfl
  omega
abbrev clr1 (S : AS) (sl a b t : Int32) (k : Nat) : AS := va_up S 13 (clN S sl a b t k)
/-- what clear leaves: the closings, and what is left of the first and of the last fact -/
def clearP (I : AI) (S : AS) (sl a b t : Int32) (k : Nat) (I2 : AI) (S2 : AS) : Prop :=
  (bfN S sl a b k = -1 ∧ afN S sl a b k = -1 ∧ I2 = I ∧ S2 = clr1 S sl a b t k) ∨
  (∃ j : Nat, j < k ∧ bfN S sl a b k = nI j ∧ afN S sl a b k = -1 ∧ I2 = openI I k ∧ S2 = openS (clr1 S sl a b t k) k sl (S 9 j) (S 10 j) a t) ∨
  (∃ j : Nat, j < k ∧ bfN S sl a b k = -1 ∧ afN S sl a b k = nI j ∧ I2 = openI I k ∧ S2 = openS (clr1 S sl a b t k) k sl (S 9 j) b (S 11 j) t) ∨
  (∃ j j2 : Nat, j < k ∧ j2 < k ∧ bfN S sl a b k = nI j ∧ afN S sl a b k = nI j2 ∧ I2 = openI (openI I k) (k + 1) ∧ S2 = openS (openS (clr1 S sl a b t k) k sl (S 9 j) (S 10 j) a t) (k + 1) sl (S 9 j2) b (S 11 j2) t)
/-! operations, gone through -/
def rpKN (S : AS) (sl : Int32) (fr to : Nat → Nat) (f0 : Nat → Int32) : Nat → Nat → Int32
  | 0 => putF f0 0 100 0
  | n + 1 => if S 3 (n + 1) = sl then putF (rpKN S sl fr to f0 n) (fr (n + 1)) (to (n + 1)) (if S 2 (n + 1) = 114 then 0 else 1) else rpKN S sl fr to f0 n
def rpVN (S : AS) (sl : Int32) (fr to : Nat → Nat) (g0 : Nat → Int32) : Nat → Nat → Int32
  | 0 => putF g0 0 100 0
  | n + 1 => if S 3 (n + 1) = sl then putF (rpVN S sl fr to g0 n) (fr (n + 1)) (to (n + 1)) (S 4 (n + 1)) else rpVN S sl fr to g0 n
/-! periods: how many, their first days, the days behind -/
def plS (f g f' g' F0 T0 : Nat → Int32) : Nat → Nat × (Nat → Int32) × (Nat → Int32)
  | 0 => (0, F0, T0)
  | d + 1 =>
    let q := plS f g f' g' F0 T0 d
    if (asB f g (nI d) && asB f' g' (nI d)) = true then (q.1, q.2.1, if q.1 = 0 then q.2.2 else upd q.2.2 (q.1 - 1) (q.2.2 (q.1 - 1) + 1))
    else if (kb f (nI d) && kb f' (nI d)) = true then (q.1 + 1, upd q.2.1 q.1 (nI d), upd q.2.2 q.1 (nI (d + 1)))
    else q
theorem plS_le (f g f' g' F0 T0 : Nat → Int32) (d : Nat) : (plS f g f' g' F0 T0 d).1 ≤ d := by
  induction d with
  | zero => exact Nat.le_refl 0
  | succ d ih =>
    simp only [plS]
    split
    · exact Nat.le_succ_of_le ih
    · split
      · exact Nat.succ_le_succ ih
      · exact Nat.le_succ_of_le ih
theorem plS_a {f g f' g' F0 T0 : Nat → Int32} {d : Nat} (h : asB f g (nI d) = true) (h' : asB f' g' (nI d) = true) : plS f g f' g' F0 T0 (d + 1) = ((plS f g f' g' F0 T0 d).1, (plS f g f' g' F0 T0 d).2.1, if (plS f g f' g' F0 T0 d).1 = 0 then (plS f g f' g' F0 T0 d).2.2 else upd (plS f g f' g' F0 T0 d).2.2 ((plS f g f' g' F0 T0 d).1 - 1) ((plS f g f' g' F0 T0 d).2.2 ((plS f g f' g' F0 T0 d).1 - 1) + 1)) := by
  simp only [plS]
  rw [if_pos (by rw [h, h']; rfl)]
theorem plS_b {f g f' g' F0 T0 : Nat → Int32} {d : Nat} (h : ¬ (asB f g (nI d) = true ∧ asB f' g' (nI d) = true)) (h2 : kb f (nI d) = true) (h3 : kb f' (nI d) = true) : plS f g f' g' F0 T0 (d + 1) = ((plS f g f' g' F0 T0 d).1 + 1, upd (plS f g f' g' F0 T0 d).2.1 (plS f g f' g' F0 T0 d).1 (nI d), upd (plS f g f' g' F0 T0 d).2.2 (plS f g f' g' F0 T0 d).1 (nI (d + 1))) := by
  simp only [plS]
  rw [if_neg (by rw [Bool.and_eq_true]; exact h), if_pos (by rw [h2, h3]; rfl)]
theorem plS_c {f g f' g' F0 T0 : Nat → Int32} {d : Nat} (h : ¬ (asB f g (nI d) = true ∧ asB f' g' (nI d) = true)) (h2 : ¬ (kb f (nI d) = true ∧ kb f' (nI d) = true)) : plS f g f' g' F0 T0 (d + 1) = plS f g f' g' F0 T0 d := by
  simp only [plS]
  rw [if_neg (by rw [Bool.and_eq_true]; exact h), if_neg (by rw [Bool.and_eq_true]; exact h2)]
