/-! the reference's operations -/
theorem pg_t {S : AS} {t : Int32} {n : Nat} (h : mgP S (S 9) t n) : pgN S t (n + 1) = upd (pgN S t n) n 1 := if_pos h
theorem pg_f {S : AS} {t : Int32} {n : Nat} (h : ¬ mgP S (S 9) t n) : pgN S t (n + 1) = pgN S t n := if_neg h
theorem pc_t {S : AS} {t : Int32} {n : Nat} (h : mgP S (S 9) t n) : pcN S t (n + 1) = pcN S t n + 1 := if_pos h
theorem pc_f {S : AS} {t : Int32} {n : Nat} (h : ¬ mgP S (S 9) t n) : pcN S t (n + 1) = pcN S t n := if_neg h
abbrev opM (S : AS) (k : Nat) (sl v x y t : Int32) : AS := va_up (va_up (va_up (va_up (va_up (va_up S 3 (upd (S 3) k sl)) 4 (upd (S 4) k v)) 5 (upd (S 5) k x)) 6 (upd (S 6) k y)) 7 (upd (S 7) k t)) 8 (upd (S 8) k (-1))
abbrev cdM (S : AS) (f : Nat) (ck : Int32) : AS := va_up S 8 (upd (S 8) f ck)
/-- one fact closed, what is left of it opened -/
def clF (wh a b ck : Int32) (q : Nat × AS) (f : Nat) : Nat × AS :=
  if b < (if q.2 5 f < a then (q.1 + 1, opM (cdM q.2 f ck) q.1 wh (q.2 4 f) (q.2 5 f) a ck) else (q.1, cdM q.2 f ck)).2 6 f then
    ((if q.2 5 f < a then (q.1 + 1, opM (cdM q.2 f ck) q.1 wh (q.2 4 f) (q.2 5 f) a ck) else (q.1, cdM q.2 f ck)).1 + 1,
      opM (if q.2 5 f < a then (q.1 + 1, opM (cdM q.2 f ck) q.1 wh (q.2 4 f) (q.2 5 f) a ck) else (q.1, cdM q.2 f ck)).2 (if q.2 5 f < a then (q.1 + 1, opM (cdM q.2 f ck) q.1 wh (q.2 4 f) (q.2 5 f) a ck) else (q.1, cdM q.2 f ck)).1 wh ((if q.2 5 f < a then (q.1 + 1, opM (cdM q.2 f ck) q.1 wh (q.2 4 f) (q.2 5 f) a ck) else (q.1, cdM q.2 f ck)).2 4 f) b ((if q.2 5 f < a then (q.1 + 1, opM (cdM q.2 f ck) q.1 wh (q.2 4 f) (q.2 5 f) a ck) else (q.1, cdM q.2 f ck)).2 6 f) ck)
  else (if q.2 5 f < a then (q.1 + 1, opM (cdM q.2 f ck) q.1 wh (q.2 4 f) (q.2 5 f) a ck) else (q.1, cdM q.2 f ck))
def clQ (S : AS) (k : Nat) (wh a b ck : Int32) : Nat → Nat × AS
  | 0 => (k, S)
  | j + 1 => clF wh a b ck (clQ S k wh a b ck j) (mtN (clQ S k wh a b ck j).2 wh a b ck (clQ S k wh a b ck j).1).toNatClampNeg
theorem clF_00 {wh a b ck : Int32} {k1 f : Nat} {S1 : AS} (h1 : ¬ S1 5 f < a) (h2 : ¬ b < S1 6 f) : clF wh a b ck (k1, S1) f = (k1, cdM S1 f ck) := by
  unfold clF
  dsimp only
  rw [if_neg h1]
  exact if_neg h2
theorem clF_10 {wh a b ck : Int32} {k1 f : Nat} {S1 : AS} (h1 : S1 5 f < a) (h2 : ¬ b < upd (S1 6) k1 a f) : clF wh a b ck (k1, S1) f = (k1 + 1, opM (cdM S1 f ck) k1 wh (S1 4 f) (S1 5 f) a ck) := by
  unfold clF
  dsimp only
  rw [if_pos h1]
  exact if_neg h2
theorem clF_01 {wh a b ck : Int32} {k1 f : Nat} {S1 : AS} (h1 : ¬ S1 5 f < a) (h2 : b < S1 6 f) : clF wh a b ck (k1, S1) f = (k1 + 1, opM (cdM S1 f ck) k1 wh (S1 4 f) b (S1 6 f) ck) := by
  unfold clF
  dsimp only
  rw [if_neg h1]
  exact if_pos h2
theorem clF_11 {wh a b ck : Int32} {k1 f : Nat} {S1 : AS} (h1 : S1 5 f < a) (h2 : b < upd (S1 6) k1 a f) : clF wh a b ck (k1, S1) f = (k1 + 1 + 1, opM (opM (cdM S1 f ck) k1 wh (S1 4 f) (S1 5 f) a ck) (k1 + 1) wh (upd (S1 4) k1 (S1 4 f) f) b (upd (S1 6) k1 a f) ck) := by
  unfold clF
  dsimp only
  rw [if_pos h1]
  exact if_pos h2
theorem clQ_s {S : AS} {k : Nat} {wh a b ck : Int32} {j k1 f : Nat} {S1 : AS} {q : Nat × AS} (hq : clQ S k wh a b ck j = (k1, S1)) (hm : mtN S1 wh a b ck k1 = nI f) (hf : f < 2147483648) (h : clF wh a b ck (k1, S1) f = q) : clQ S k wh a b ck (j + 1) = q := by
  rw [clQ, hq]
  show clF wh a b ck (k1, S1) (mtN S1 wh a b ck k1).toNatClampNeg = q
  rw [hm, nI_clamp hf]
  exact h
/-- the closing comes to its end after m facts, within the room -/
def clOK (S : AS) (k : Nat) (wh a b ck : Int32) (m : Nat) : Prop := mtN (clQ S k wh a b ck m).2 wh a b ck (clQ S k wh a b ck m).1 = -1 ∧ ∀ j : Nat, j < m → (clQ S k wh a b ck j).1 + 2 ≤ 256 ∧ ¬ mtN (clQ S k wh a b ck j).2 wh a b ck (clQ S k wh a b ck j).1 = -1
abbrev bgS (S : AS) (n : Nat) (z x : Int32) : AS := va_up (va_up S 1 (upd (S 1) (n + 1) z)) 2 (upd (S 2) (n + 1) x)
def tfC (I : AI) (n : Nat) (x b d d2 : Int32) : Int32 := if mplB (I 1) x b = true then (if daB d d2 = true then (if n = 60 then 3 else 0) else 2) else 1
def rfC (I : AI) (n : Nat) (x b d d2 days : Int32) : Int32 := if mplB (I 1) x b = true then (if daB d d2 = true then (if days = 0 then 3 else (if n = 60 then 4 else 0)) else 2) else 1
def cfC (I : AI) (n : Nat) (x b d F : Int32) : Int32 := if mplB (I 1) x b = true then (if inB d 0 99 = true then (if F = -1 then 3 else (if n = 60 then 4 else 0)) else 2) else 1
/-- how many of the days x .. x + n - 1 are known -/
def kcN (f : Nat → Int32) (x : Nat) : Nat → Int32
  | 0 => 0
  | n + 1 => kcN f x n + (if f (x + n) = -1 then 0 else 1)
theorem kc_t {f : Nat → Int32} {x n : Nat} (h : f (x + n) = -1) : kcN f x (n + 1) = kcN f x n + 0 := by rw [kcN, if_pos h]
theorem kc_f {f : Nat → Int32} {x n : Nat} (h : ¬ f (x + n) = -1) : kcN f x (n + 1) = kcN f x n + 1 := by rw [kcN, if_neg h]
theorem da_of {d d2 : Int32} (h : daB d d2 = true) : ∃ x y : Nat, x < y ∧ y ≤ 100 ∧ d = nI x ∧ d2 = nI y := by
  have h := of_decide_eq_true h
  obtain ⟨h1, h2, h3⟩ := h
  have g3 : ¬ d2 < 0 := fun q => h2 (Int32.le_of_lt (Int32.lt_of_lt_of_le q (Int32.not_lt.mp h1)))
  rcases pk_ix d2 (n := 101) (by decide) with q | q | ⟨y, hy, rfl⟩
  · exact absurd q g3
  · exact absurd (Int32.lt_of_lt_of_le (by decide) q) h3
  · rcases pk_ix d (n := y) (by omega) with q | q | ⟨x, hx, rfl⟩
    · exact absurd q h1
    · exact absurd q h2
    · exact ⟨x, y, hx, by omega, rfl, rfl⟩
abbrev rdays (S : AS) (wh : Int32) (n : Nat) (fr to : Nat → Nat) (k : Nat) (d d2 : Int32) : Int32 := kcN (lkM S wh (nI n) fr to k) d.toNatClampNeg (d2.toNatClampNeg - d.toNatClampNeg)
