/-! PURE: facts by their numbers; the hit of a day -/
def clI (c : Nat) : Int32 := if c = 0 then -1 else nI c
def lvN (o c t : Nat) : Prop := o ≤ t ∧ (c = 0 ∨ t < c)
theorem clI_0 {c : Nat} (hc : c < 100) : clI c = -1 ↔ c = 0 := by
  unfold clI
  by_cases h : c = 0
  · rw [if_pos h]; exact ⟨fun _ => h, fun _ => rfl⟩
  · rw [if_neg h]; exact ⟨fun q => absurd q (nI_m1 (by omega)), fun q => absurd q h⟩
theorem clI_le {c t : Nat} (hc : c < 100) (ht : t < 100) (h : c ≠ 0) : clI c ≤ nI t ↔ c ≤ t := by
  unfold clI
  rw [if_neg h]
  exact nI_leI (by omega) (by omega)
theorem live_iff {o c t : Nat} (ho : o < 100) (hc : c < 100) (ht : t < 100) : liveP (nI o) (clI c) (nI t) ↔ lvN o c t := by
  unfold liveP lvN
  rw [nI_ltI (by omega) (by omega), clI_0 hc]
  by_cases h : c = 0
  · subst h
    exact ⟨fun q => ⟨by omega, Or.inl rfl⟩, fun q => ⟨by omega, Or.inl rfl⟩⟩
  · rw [clI_le hc ht h]
    omega
theorem imax_n {a b : Nat} (ha : a < 1000) (hb : b < 1000) : imax (nI a) (nI b) = nI (max a b) := by
  unfold imax
  by_cases h : a < b
  · rw [if_pos (nd_lt h (by omega) (by omega)), Nat.max_eq_right (by omega)]
  · rw [if_neg (nd_nlt (by omega) (by omega) (by omega)), Nat.max_eq_left (by omega)]
theorem imin_n {a b : Nat} (ha : a < 1000) (hb : b < 1000) : imin (nI a) (nI b) = nI (min a b) := by
  unfold imin
  by_cases h : b < a
  · rw [if_pos (nd_lt h (by omega) (by omega)), Nat.min_eq_right (by omega)]
  · rw [if_neg (nd_nlt (by omega) (by omega) (by omega)), Nat.min_eq_left (by omega)]
/-- how many days of x .. y lie within a .. b -/
def dwN (x y a b : Nat) : Nat := min y b - max x a
theorem dw_n {x y a b : Nat} (hx : x < 1000) (hy : y < 1000) (ha : a < 1000) (hb : b < 1000) : dwI (nI x) (nI y) (nI a) (nI b) = nI (dwN x y a b) := by
  unfold dwI dwN
  rw [imin_n hy hb, imax_n hx ha]
  by_cases h : max x a ≤ min y b
  · rw [pk_sub h, show (0 : Int32) = nI 0 from nI_0.symm, imax_n (by omega) (by omega), Nat.max_eq_left (by omega)]
  · have h1 : nI (min y b) - nI (max x a) < 0 := pk_sneg (by omega) (by omega)
    unfold imax
    rw [if_pos h1, show min y b - max x a = 0 by omega]
    exact nI_0.symm
theorem dw_pos {x y a b : Nat} (hx : x < 1000) (hy : y < 1000) (ha : a < 1000) (hb : b < 1000) : ¬ dwI (nI x) (nI y) (nI a) (nI b) ≤ 0 ↔ (max x a < min y b) := by
  rw [dw_n hx hy ha hb, show (0 : Int32) = nI 0 from nI_0.symm, nI_leI (by unfold dwN; omega) (by omega)]
  unfold dwN
  omega
def Fct (S : AS) (k n en : Nat) (sl fr to o c : Nat → Nat) : Prop := ∀ i : Nat, i < k → S 8 i = nI (sl i) ∧ S 10 i = nI (fr i) ∧ S 11 i = nI (to i) ∧ S 12 i = nI (o i) ∧ S 13 i = clI (c i) ∧ sl i < 3 * en ∧ fr i < to i ∧ to i ≤ 100 ∧ 1 ≤ o i ∧ o i ≤ n ∧ (c i = 0 ∨ (o i < c i ∧ c i ≤ n))
def Dsj (k : Nat) (sl fr to o c : Nat → Nat) : Prop := ∀ i j : Nat, i < k → j < k → i ≠ j → sl i = sl j → ∀ t : Nat, lvN (o i) (c i) t → lvN (o j) (c j) t → to i ≤ fr j ∨ to j ≤ fr i
/-- the fact i tells of the day d of the slot s as of t -/
def hitN (sl fr to o c : Nat → Nat) (s t d i : Nat) : Prop := (sl i = s ∧ lvN (o i) (c i) t) ∧ fr i ≤ d ∧ d < to i
theorem hit_one {k : Nat} {sl fr to o c : Nat → Nat} (D : Dsj k sl fr to o c) {s t d i j : Nat} (hi : i < k) (hj : j < k) (h1 : hitN sl fr to o c s t d i) (h2 : hitN sl fr to o c s t d j) : i = j := by
  by_cases e : i = j
  · exact e
  · have h3 := D i j hi hj e (h1.1.1.trans h2.1.1.symm) t h1.1.2 h2.1.2
    have h4 := h1.2; have h5 := h2.2
    omega
section FROWS
variable {S : AS} {k n en : Nat} {sl fr to o c : Nat → Nat}
theorem slot_iff (F : Fct S k n en sl fr to o c) (hen : en ≤ 6) {i s : Nat} (hi : i < k) (hs : s < 100) : S 8 i = nI s ↔ sl i = s := by
  obtain ⟨f1, -, -, -, -, f6, -⟩ := F i hi
  rw [f1]
  exact nI_eq (by omega) (by omega)
theorem liveF (F : Fct S k n en sl fr to o c) (hn : n ≤ 60) {i t : Nat} (hi : i < k) (ht : t ≤ 60) : liveP (S 12 i) (S 13 i) (nI t) ↔ lvN (o i) (c i) t := by
  obtain ⟨-, -, -, f4, f5, -, -, -, f9, f10, f11⟩ := F i hi
  rw [f4, f5]
  exact live_iff (by omega) (by omega) (by omega)
theorem sllv_iff (F : Fct S k n en sl fr to o c) (hen : en ≤ 6) (hn : n ≤ 60) {i s t : Nat} (hi : i < k) (hs : s < 100) (ht : t ≤ 60) : (S 8 i = nI s ∧ liveP (S 12 i) (S 13 i) (nI t)) ↔ (sl i = s ∧ lvN (o i) (c i) t) := by
  rw [slot_iff F hen hi hs, liveF F hn hi ht]
theorem hit_iff (F : Fct S k n en sl fr to o c) (hen : en ≤ 6) (hn : n ≤ 60) {i s t d : Nat} (hi : i < k) (hs : s < 100) (ht : t ≤ 60) (hd : d < 100) : hitP S (nI s) (nI d) (nI t) i ↔ hitN sl fr to o c s t d i := by
  have h1 := sllv_iff F hen hn hi hs ht
  obtain ⟨-, f2, f3, -, -, -, f7, f8, -⟩ := F i hi
  unfold hitP hitN
  rw [f2, f3, nI_1, dw_pos (by omega) (by omega) (by omega) (by omega), ← and_assoc, h1]
  refine and_congr_right (fun _ => ?_)
  omega
/-- no fact, or the one -/
theorem fnd_hit (F : Fct S k n en sl fr to o c) (D : Dsj k sl fr to o c) (hen : en ≤ 6) (hn : n ≤ 60) (hk : k ≤ 180) {s t d : Nat} (hs : s < 100) (ht : t ≤ 60) (hd : d < 100) {i : Nat} (hi : i < k) (h : hitN sl fr to o c s t d i) : fndN S (nI s) (nI d) (nI t) k = nI i :=
  fnd1 hk hi ((hit_iff F hen hn hi hs ht hd).mpr h) (fun j hj q => by
    have h2 := (hit_iff F hen hn (by omega) hs ht hd).mp q
    have := hit_one D (by omega) hi h2 h
    omega)
theorem fnd_no (F : Fct S k n en sl fr to o c) (hen : en ≤ 6) (hn : n ≤ 60) {s t d : Nat} (hs : s < 100) (ht : t ≤ 60) (hd : d < 100) (h : ∀ i : Nat, i < k → ¬ hitN sl fr to o c s t d i) : fndN S (nI s) (nI d) (nI t) k = -1 :=
  fnd0 (fun j hj q => h j hj ((hit_iff F hen hn hj hs ht hd).mp q))
theorem rk_no (F : Fct S k n en sl fr to o c) (hen : en ≤ 6) (hn : n ≤ 60) {s t d : Nat} (hs : s < 100) (ht : t ≤ 60) (hd : d < 100) (f0 : Nat → Int32) {q : Nat} (hq : q ≤ k) (h : ∀ i : Nat, i < q → ¬ hitN sl fr to o c s t d i) : rdKN S (nI s) (nI t) fr to f0 q d = 0 ∧ rdVN S (nI s) (nI t) fr to f0 q d = 0 := by
  induction q with
  | zero =>
    simp only [rdKN, rdVN, putF]
    rw [if_pos (by omega)]
    exact ⟨rfl, rfl⟩
  | succ q ih =>
    have h1 := ih (by omega) (fun i hi => h i (by omega))
    rw [rdKN, rdVN]
    by_cases hc : S 8 q = nI s ∧ liveP (S 12 q) (S 13 q) (nI t)
    · rw [if_pos hc, if_pos hc]
      have h2 := (sllv_iff F hen hn (by omega) hs ht).mp hc
      have h3 : ¬ (fr q ≤ d ∧ d < to q) := fun z => h q (by omega) ⟨h2, z⟩
      simp only [putF]
      rw [if_neg h3, if_neg h3]
      exact h1
    · rw [if_neg hc, if_neg hc]
      exact h1
theorem rk_hit (F : Fct S k n en sl fr to o c) (D : Dsj k sl fr to o c) (hen : en ≤ 6) (hn : n ≤ 60) {s t d : Nat} (hs : s < 100) (ht : t ≤ 60) (hd : d < 100) (f0 : Nat → Int32) {q : Nat} (hq : q ≤ k) {i : Nat} (hi : i < q) (h : hitN sl fr to o c s t d i) : rdKN S (nI s) (nI t) fr to f0 q d = 1 ∧ rdVN S (nI s) (nI t) fr to f0 q d = S 9 i := by
  induction q with
  | zero => omega
  | succ q ih =>
    rw [rdKN, rdVN]
    by_cases e : i = q
    · subst e
      have hc := (sllv_iff F hen hn (by omega) hs ht).mpr h.1
      rw [if_pos hc, if_pos hc]
      simp only [putF]
      rw [if_pos h.2, if_pos h.2]
      exact ⟨rfl, rfl⟩
    · have h1 := ih (by omega) (by omega)
      by_cases hc : S 8 q = nI s ∧ liveP (S 12 q) (S 13 q) (nI t)
      · rw [if_pos hc, if_pos hc]
        have h2 := (sllv_iff F hen hn (by omega) hs ht).mp hc
        have h3 : ¬ (fr q ≤ d ∧ d < to q) := fun z => e (hit_one D (by omega) (by omega) h ⟨h2, z⟩)
        simp only [putF]
        rw [if_neg h3, if_neg h3]
        exact h1
      · rw [if_neg hc, if_neg hc]
        exact h1
/-- which facts are gone -/
def Gon (g : Nat → Int32) (k h : Nat) (c : Nat → Nat) : Prop := ∀ i : Nat, i < k → g i = if c i ≠ 0 ∧ c i ≤ h then 1 else 0
theorem ml_iff (F : Fct S k n en sl fr to o c) (hen : en ≤ 6) (hn : n ≤ 60) {g : Nat → Int32} {h : Nat} (G : Gon g k h c) {i s t : Nat} (hi : i < k) (hs : s < 100) (ht : t ≤ 60) (hht : h ≤ t) : mlR (S 8) (S 12) (S 13) g (nI s) (nI t) i = true ↔ (sl i = s ∧ lvN (o i) (c i) t) := by
  have h1 := sllv_iff F hen hn hi hs ht
  unfold mlR
  rw [decide_eq_true_iff]
  constructor
  · intro q
    exact h1.mp ⟨q.1, q.2.2⟩
  · intro q
    have q2 := h1.mpr q
    refine ⟨q2.1, ?_, q2.2⟩
    rw [G i hi, if_neg]
    intro z
    have := q.2.2
    omega
theorem lk_no (F : Fct S k n en sl fr to o c) (hen : en ≤ 6) (hn : n ≤ 60) {g : Nat → Int32} {h : Nat} (G : Gon g k h c) {s t d : Nat} (hs : s < 100) (ht : t ≤ 60) (hht : h ≤ t) (hd : d < 100) (f0 : Nat → Int32) {q : Nat} (hq : q ≤ k) (hh : ∀ i : Nat, i < q → ¬ hitN sl fr to o c s t d i) : lkR (S 8) (S 12) (S 13) g (nI s) (nI t) fr to f0 q d = -1 := by
  induction q with
  | zero =>
    simp only [lkR, putF]
    rw [if_pos (by omega)]
  | succ q ih =>
    have h1 := ih (by omega) (fun i hi => hh i (by omega))
    rw [lkR]
    by_cases hc : mlR (S 8) (S 12) (S 13) g (nI s) (nI t) q = true
    · rw [if_pos hc]
      have h2 := (ml_iff F hen hn G (by omega) hs ht hht).mp hc
      have h3 : ¬ (fr q ≤ d ∧ d < to q) := fun z => hh q (by omega) ⟨h2, z⟩
      simp only [putF]
      rw [if_neg h3]
      exact h1
    · rw [if_neg hc]
      exact h1
theorem lk_hit (F : Fct S k n en sl fr to o c) (D : Dsj k sl fr to o c) (hen : en ≤ 6) (hn : n ≤ 60) {g : Nat → Int32} {h : Nat} (G : Gon g k h c) {s t d : Nat} (hs : s < 100) (ht : t ≤ 60) (hht : h ≤ t) (hd : d < 100) (f0 : Nat → Int32) {q : Nat} (hq : q ≤ k) {i : Nat} (hi : i < q) (hh : hitN sl fr to o c s t d i) : lkR (S 8) (S 12) (S 13) g (nI s) (nI t) fr to f0 q d = nI i := by
  induction q with
  | zero => omega
  | succ q ih =>
    rw [lkR]
    by_cases e : i = q
    · subst e
      rw [if_pos ((ml_iff F hen hn G (by omega) hs ht hht).mpr hh.1)]
      simp only [putF]
      rw [if_pos hh.2]
    · have h1 := ih (by omega) (by omega)
      by_cases hc : mlR (S 8) (S 12) (S 13) g (nI s) (nI t) q = true
      · rw [if_pos hc]
        have h2 := (ml_iff F hen hn G (by omega) hs ht hht).mp hc
        have h3 : ¬ (fr q ≤ d ∧ d < to q) := fun z => e (hit_one D (by omega) (by omega) hh ⟨h2, z⟩)
        simp only [putF]
        rw [if_neg h3]
        exact h1
      · rw [if_neg hc]
        exact h1
end FROWS
