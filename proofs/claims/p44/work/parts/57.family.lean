/-! the run that is looked at: n tellings of one day of one attribute, and the horizon h; the class's world and the book's, in numbers -/
def fTo (n : Nat) : Nat → Int32 := fun i => if i < n then 1 else 0
def fOp (n : Nat) : Nat → Int32 := fun i => if i < n then nI (i + 1) else 0
def fCl (n : Nat) : Nat → Int32 := fun i => if i + 1 < n then nI (i + 2) else if i + 1 = n then -1 else 0
def fKd (n : Nat) : Nat → Int32 := fun i => if 1 ≤ i ∧ i ≤ n then 116 else 0
def fOt (n : Nat) : Nat → Int32 := fun i => if 1 ≤ i ∧ i ≤ n then 1 else 0
def fGn (h : Nat) : Nat → Int32 := fun i => if i + 1 < h then 1 else 0
def fZe : Nat → Int32 := fun _ => 0
def FI (n h : Nat) : AI := fun j => if j = 0 then 3 else if j = 1 then nI n else if j = 2 then nI n else if j = 3 then nI h else 0
def FS (n : Nat) : AS := fun r => if r = 2 then fKd n else if r = 6 then fOt n else if r = 11 then fTo n else if r = 12 then fOp n else if r = 13 then fCl n else fZe
def GJ (n h : Nat) : AI := fun j => if j = 0 then nI n else if j = 1 then nI n else if j = 2 then nI h else 0
def GT (n h : Nat) : AS := fun r => if r = 4 then fTo n else if r = 5 then fOp n else if r = 6 then fCl n else if r = 7 then fGn h else if r = 8 then fKd n else fZe
def frZ : Nat → Nat := fun _ => 0
def toN (n : Nat) : Nat → Nat := fun i => if i < n then 1 else 0
def otN (n : Nat) : Nat → Nat := fun i => if 1 ≤ i ∧ i ≤ n then 1 else 0
theorem up_z (k : Nat) : upd fZe k 0 = fZe := by
  funext j
  simp only [upd, fZe]
  split <;> rfl
theorem up_to (n : Nat) : upd (fTo n) n 1 = fTo (n + 1) := by
  funext j
  simp only [upd, fTo]
  by_cases h : j = n
  · rw [if_pos h, if_pos (by omega)]
  · rw [if_neg h]
    by_cases h2 : j < n
    · rw [if_pos h2, if_pos (by omega)]
    · rw [if_neg h2, if_neg (by omega)]
theorem up_op (n : Nat) : upd (fOp n) n (nI (n + 1)) = fOp (n + 1) := by
  funext j
  simp only [upd, fOp]
  by_cases h : j = n
  · rw [if_pos h, if_pos (by omega), h]
  · rw [if_neg h]
    by_cases h2 : j < n
    · rw [if_pos h2, if_pos (by omega)]
    · rw [if_neg h2, if_neg (by omega)]
theorem up_cl (n : Nat) : upd (if 0 < n then upd (fCl n) (n - 1) (nI (n + 1)) else fCl n) n (-1) = fCl (n + 1) := by
  funext j
  by_cases hn : 0 < n
  · rw [if_pos hn]
    simp only [upd, fCl]
    by_cases h : j = n
    · rw [if_pos h, if_neg (by omega), if_pos (by omega)]
    · rw [if_neg h]
      by_cases h1 : j = n - 1
      · rw [if_pos h1, if_pos (by omega), show j + 2 = n + 1 by omega]
      · rw [if_neg h1]
        by_cases h2 : j + 1 < n
        · rw [if_pos h2, if_pos (by omega)]
        · rw [if_neg h2, if_neg (by omega), if_neg (by omega), if_neg (by omega)]
  · rw [if_neg hn]
    simp only [upd, fCl]
    by_cases h : j = n
    · rw [if_pos h, if_neg (by omega), if_pos (by omega)]
    · rw [if_neg h, if_neg (by omega), if_neg (by omega), if_neg (by omega), if_neg (by omega)]
theorem up_kd (n : Nat) : upd (fKd n) (n + 1) 116 = fKd (n + 1) := by
  funext j
  simp only [upd, fKd]
  by_cases h : j = n + 1
  · rw [if_pos h, if_pos (by omega)]
  · rw [if_neg h]
    by_cases h2 : 1 ≤ j ∧ j ≤ n
    · rw [if_pos h2, if_pos (by omega)]
    · rw [if_neg h2, if_neg (by omega)]
theorem up_ot (n : Nat) : upd (fOt n) (n + 1) 1 = fOt (n + 1) := by
  funext j
  simp only [upd, fOt]
  by_cases h : j = n + 1
  · rw [if_pos h, if_pos (by omega)]
  · rw [if_neg h]
    by_cases h2 : 1 ≤ j ∧ j ≤ n
    · rw [if_pos h2, if_pos (by omega)]
    · rw [if_neg h2, if_neg (by omega)]
theorem fCl_lt {n i : Nat} (h : i + 1 < n) : fCl n i = nI (i + 2) := if_pos h
theorem fCl_eq {n i : Nat} (h : i + 1 = n) : fCl n i = -1 := by
  unfold fCl
  rw [if_neg (by omega), if_pos h]
theorem fTo_lt {n i : Nat} (h : i < n) : fTo n i = 1 := if_pos h
theorem m1_neg : ¬ (0 : Int32) ≤ -1 := by decide
/-- what the class's numbers stand on -/
theorem fam_CIv {n h : Nat} (hn : n ≤ 60) (hh : h ≤ n) : CIv (FI n h) (FS n) n n h frZ (toN n) frZ (otN n) := by
  refine ⟨rfl, hn, rfl, by omega, rfl, hh, fun i hi => ⟨rfl, ?_, by unfold frZ; omega, ?_⟩, fun i h1 h2 => ⟨rfl, ?_, by unfold frZ; omega, ?_⟩, fun j h1 h2 => ?_⟩
  · show fTo n i = nI (toN n i)
    rw [fTo_lt hi, toN, if_pos hi]; rfl
  · unfold toN; split <;> omega
  · show fOt n i = nI (otN n i)
    rw [fOt, if_pos ⟨h1, h2⟩, otN, if_pos ⟨h1, h2⟩]; rfl
  · unfold otN; split <;> omega
  · show narrow .char (.int (fKd n j)) = .int (fKd n j)
    rw [fKd, if_pos ⟨h1, h2⟩]; rfl
/-! a telling, on the class's side -/
abbrev aS (n : Nat) : AS := addS (FS n) n 116 (slI 0 0) 0 0 1
theorem hitC_f {n i : Nat} (hi : i < n) (hn : n < 100) : hitC (aS n) (slI 0 0) 0 1 i ↔ i + 1 = n := by
  constructor
  · intro q
    have q2 : fCl n i = -1 := q.2.1
    rcases Nat.lt_or_ge (i + 1) n with q3 | q3
    · rw [fCl_lt q3] at q2
      exact absurd q2 (nI_m1 (by omega))
    · omega
  · intro q
    refine ⟨rfl, fCl_eq q, ?_⟩
    show ¬ dwI 0 (fTo n i) 0 1 ≤ 0
    rw [fTo_lt hi]
    decide
theorem cn_f {n : Nat} (hn : n < 100) {m : Nat} (hm : m ≤ n) : cnN (aS n) (slI 0 0) 0 1 m = if 0 < n ∧ m = n then 1 else 0 := by
  induction m with
  | zero => rw [cnN, if_neg (by omega)]
  | succ m ih =>
    rw [cnN, ih (by omega), if_neg (show ¬ (0 < n ∧ m = n) by omega)]
    by_cases q : m + 1 = n
    · rw [if_pos ((hitC_f (by omega) hn).mpr q), if_pos (by omega)]; rfl
    · rw [if_neg (fun r => q ((hitC_f (by omega) hn).mp r)), if_neg (by omega)]
theorem bf_f {n : Nat} (m : Nat) : bfN (aS n) (slI 0 0) 0 1 m = -1 := by
  induction m with
  | zero => rfl
  | succ m ih =>
    rw [bfN, ih, if_neg]
    intro q
    exact q.2 (show (0 : Int32) ≤ 0 by decide)
theorem af_f {n : Nat} {m : Nat} (hm : m ≤ n) : afN (aS n) (slI 0 0) 0 1 m = -1 := by
  induction m with
  | zero => rfl
  | succ m ih =>
    rw [afN, ih (by omega), if_neg]
    intro q
    refine q.2 ?_
    show fTo n m ≤ 1
    rw [fTo_lt (by omega)]
    decide
theorem cl_f {n : Nat} (hn : n < 100) {m : Nat} (hm : m ≤ n) : clN (aS n) (slI 0 0) 0 1 (nI (n + 1)) m = if 0 < n ∧ m = n then upd (fCl n) (n - 1) (nI (n + 1)) else fCl n := by
  induction m with
  | zero => rw [clN, if_neg (by omega)]; rfl
  | succ m ih =>
    rw [clN, ih (by omega), if_neg (show ¬ (0 < n ∧ m = n) by omega)]
    by_cases q : m + 1 = n
    · rw [if_pos ((hitC_f (by omega) hn).mpr q), if_pos (by omega), show n - 1 = m by omega]
    · rw [if_neg (fun r => q ((hitC_f (by omega) hn).mp r)), if_neg (by omega)]
theorem clear_f {n h : Nat} (hn : n < 100) {I2 : AI} {S2 : AS} (q : clearP (addI (FI n h) n) (aS n) (slI 0 0) 0 1 (nI (n + 1)) n I2 S2) : I2 = addI (FI n h) n ∧ S2 = va_up (aS n) 13 (if 0 < n then upd (fCl n) (n - 1) (nI (n + 1)) else fCl n) := by
  have hb := bf_f (n := n) n
  have ha := af_f (n := n) (m := n) (Nat.le_refl n)
  rcases q with ⟨-, -, q1, q2⟩ | ⟨j, hj, q, -⟩ | ⟨j, hj, -, q, -⟩ | ⟨j, j2, hj, -, q, -⟩
  · refine ⟨q1, ?_⟩
    rw [q2, clr1, cl_f hn (Nat.le_refl n)]
    by_cases q3 : 0 < n
    · rw [if_pos ⟨q3, rfl⟩, if_pos q3]
    · rw [if_neg (by omega), if_neg q3]
  · rw [hb] at q; exact absurd q.symm (nI_m1 (by omega))
  · rw [ha] at q; exact absurd q.symm (nI_m1 (by omega))
  · rw [hb] at q; exact absurd q.symm (nI_m1 (by omega))
theorem tell_I {n h : Nat} : va_up (va_up (va_up (FI n h) 1 (nI (n + 1))) 2 (nI (n + 1))) 3 (FI n h 3) = FI (n + 1) h := by
  funext j
  simp only [va_up, FI]
  by_cases h3 : j = 3
  · subst h3; rfl
  · rw [if_neg h3]
    by_cases h2 : j = 2
    · subst h2; rfl
    · rw [if_neg h2]
      by_cases h1 : j = 1
      · subst h1; rfl
      · simp only [if_neg h1, if_neg h2, if_neg h3]
theorem tell_S {n : Nat} {S2 : AS} (e : S2 = va_up (aS n) 13 (if 0 < n then upd (fCl n) (n - 1) (nI (n + 1)) else fCl n)) : va_up (va_up (va_up (va_up (va_up (va_up (va_up (va_up (va_up (va_up (va_up (FS n) 2 (upd (FS n 2) (n + 1) 116)) 3 (upd (FS n 3) (n + 1) (slI 0 0))) 4 (upd (FS n 4) (n + 1) 0)) 5 (upd (FS n 5) (n + 1) 0)) 6 (upd (FS n 6) (n + 1) 1)) 8 (upd (S2 8) n (slI 0 0))) 9 (upd (S2 9) n 0)) 10 (upd (S2 10) n 0)) 11 (upd (S2 11) n 1)) 12 (upd (S2 12) n (nI (n + 1)))) 13 (upd (S2 13) n (-1)) = FS (n + 1) := by
  subst e
  rw [show slI 0 0 = (0 : Int32) from rfl]
  funext r
  by_cases h13 : r = 13
  · subst h13; exact up_cl n
  by_cases h12 : r = 12
  · subst h12; exact up_op n
  by_cases h11 : r = 11
  · subst h11; exact up_to n
  by_cases h10 : r = 10
  · subst h10; exact up_z n
  by_cases h9 : r = 9
  · subst h9; exact up_z n
  by_cases h8 : r = 8
  · subst h8; exact up_z n
  by_cases h6 : r = 6
  · subst h6; exact up_ot n
  by_cases h5 : r = 5
  · subst h5; exact up_z (n + 1)
  by_cases h4 : r = 4
  · subst h4; exact up_z (n + 1)
  by_cases h3 : r = 3
  · subst h3; exact up_z (n + 1)
  by_cases h2 : r = 2
  · subst h2; exact up_kd n
  rw [va_up_ne _ _ h13, va_up_ne _ _ h12, va_up_ne _ _ h11, va_up_ne _ _ h10, va_up_ne _ _ h9, va_up_ne _ _ h8, va_up_ne _ _ h6, va_up_ne _ _ h5, va_up_ne _ _ h4, va_up_ne _ _ h3, va_up_ne _ _ h2]
  simp only [FS, if_neg h2, if_neg h6, if_neg h11, if_neg h12, if_neg h13]
/-! which facts are kept -/
theorem kept_f {n h i : Nat} (hn : n < 100) (hh : h ≤ n) (hi : i < n) : keptP (FS n) n (nI h) (nI i) ↔ ¬ i + 1 < h := by
  have e : FS n 13 (nI i).toNatClampNeg = fCl n i := by rw [nI_clamp (by omega)]; rfl
  have e1 : ¬ nI i < 0 := nI_pos (by omega)
  have e2 : ¬ nI n ≤ nI i := nd_nle hi (by omega) (by omega)
  constructor
  · intro q r
    rcases q.2.2 with q | q
    · rw [e, fCl_lt (by omega)] at q; exact absurd q (nI_m1 (by omega))
    · rw [e, fCl_lt (by omega)] at q; exact q (nd_le (by omega) (by omega) (by omega))
  · intro q
    refine ⟨e1, e2, ?_⟩
    rw [e]
    by_cases r : i + 1 < n
    · rw [fCl_lt r]; exact Or.inr (nd_nle (by omega) (by omega) (by omega))
    · rw [fCl_eq (by omega)]; exact Or.inl rfl
theorem kept_n {n h : Nat} : ¬ keptP (FS n) n (nI h) (nI n) := fun q => q.2.1 (Int32.le_refl _)
theorem kept_m {n h : Nat} : ¬ keptP (FS n) n (nI h) (-1) := fun q => q.1 (by decide)
theorem ck_f {n h m : Nat} (hn : n < 100) (hh : h ≤ n) (hm : m ≤ n) : ckN (FS n) n (nI h) m = nI (m - (h - 1)) := by
  induction m with
  | zero => rw [ckN, Nat.zero_sub]; rfl
  | succ m ih =>
    rw [ckN, ih (by omega)]
    by_cases q : m + 1 < h
    · rw [if_neg (fun r => (kept_f hn hh (by omega)).mp r q), show m + 1 - (h - 1) = 0 by omega, show m - (h - 1) = 0 by omega]; rfl
    · rw [if_pos ((kept_f hn hh (by omega)).mpr q), nI_1, show m - (h - 1) + 1 = m + 1 - (h - 1) by omega]
theorem co_f {n m : Nat} (hn : n < 100) (hm : m ≤ n) : coN (FS n) m = if 0 < n ∧ m = n then 1 else 0 := by
  induction m with
  | zero => rw [coN, if_neg (by omega)]
  | succ m ih =>
    rw [coN, ih (by omega), if_neg (show ¬ (0 < n ∧ m = n) by omega)]
    have e : FS n 13 m = fCl n m := rfl
    rw [e]
    by_cases q : m + 1 = n
    · rw [fCl_eq q, if_pos rfl, if_pos (by omega)]; rfl
    · rw [fCl_lt (by omega), if_neg (nI_m1 (by omega)), if_neg (by omega)]; rfl
theorem nI_subI {a b : Nat} (h : b ≤ a) : nI a - nI b = nI (a - b) := by
  obtain ⟨z, rfl⟩ : ∃ z, a = z + b := ⟨a - b, by omega⟩
  rw [Nat.add_sub_cancel, ← nI_add]
  exact Int32.add_sub_cancel _ _
theorem purge_r {n h q : Nat} (hn : n < 100) (h1 : h ≤ q) (h2 : q ≤ n) : ckN (FS n) n (nI h) n - ckN (FS n) n (nI q) n = nI (min n (q - 1) - (h - 1)) := by
  rw [ck_f hn (by omega) (Nat.le_refl n), ck_f hn h2 (Nat.le_refl n), nI_subI (by omega), show n - (h - 1) - (n - (q - 1)) = min n (q - 1) - (h - 1) by omega]
theorem purge_I {n h q : Nat} : va_up (FI n h) 3 (nI q) = FI n q := by
  funext j
  simp only [va_up, FI]
  by_cases h3 : j = 3
  · subst h3; rfl
  · simp only [if_neg h3]
/-! the book's side -/
theorem hb_f {n h i : Nat} (hi : i < n) (hn : n < 100) {T : AS} (e1 : T 1 = fZe) (e3 : T 3 = fZe) (e4 : T 4 = fTo n) (e6 : T 6 = fCl n) : hbP T 0 0 1 i ↔ i + 1 = n := by
  have x1 : T 1 i = 0 := by rw [e1]; rfl
  have x3 : T 3 i = 0 := by rw [e3]; rfl
  have x4 : T 4 i = 1 := by rw [e4, fTo_lt hi]
  have x6 : T 6 i = fCl n i := by rw [e6]
  constructor
  · intro q
    have q2 := q.2.1
    rw [x6] at q2
    rcases Nat.lt_or_ge (i + 1) n with q3 | q3
    · rw [fCl_lt q3] at q2
      exact absurd (nd_le (a := 0) (b := i + 2) (by omega) (by omega) (by omega)) q2
    · omega
  · intro q
    refine ⟨x1, ?_, ?_, ?_⟩
    · rw [x6, fCl_eq q]; decide
    · rw [x3]; decide
    · rw [x4]; decide
theorem bk_J {n h : Nat} : va_up (va_up (GJ n h) 1 (nI (n + 1))) 0 (nI (n + 1)) = GJ (n + 1) h := by
  funext j
  simp only [va_up, GJ]
  by_cases h0 : j = 0
  · subst h0; rfl
  · by_cases h1 : j = 1
    · subst h1; rfl
    · simp only [if_neg h0, if_neg h1]
theorem bk_P {n h q : Nat} : va_up (GJ n h) 2 (nI q) = GJ n q := by
  funext j
  simp only [va_up, GJ]
  by_cases h2 : j = 2
  · subst h2; rfl
  · simp only [if_neg h2]
/-- the book's row of what is gone, in the midst of a purge -/
def gnR (h q f : Nat) : Nat → Int32 := fun i => if i < f then fGn q i else fGn h i
theorem gnR_0 (h q : Nat) : gnR h q 0 = fGn h := by
  funext i
  exact if_neg (by omega)
theorem gnR_s (h q f : Nat) : upd (gnR h q f) f (fGn q f) = gnR h q (f + 1) := by
  funext i
  simp only [upd, gnR]
  by_cases e : i = f
  · rw [if_pos e, if_pos (by omega), e]
  · rw [if_neg e]
    by_cases e2 : i < f
    · rw [if_pos e2, if_pos (by omega)]
    · rw [if_neg e2, if_neg (by omega)]
