/-! the facts of the run and its operations tell the same, of every attribute -/
theorem putF_in {f : Nat → Int32} {x y j : Nat} {v : Int32} (h : x ≤ j ∧ j < y) : putF f x y v j = v := if_pos h
theorem putF_out {f : Nat → Int32} {x y j : Nat} {v : Int32} (h : ¬ (x ≤ j ∧ j < y)) : putF f x y v j = f j := if_neg h
theorem putF_id (f : Nat → Int32) (x y : Nat) (v : Int32) : putF (putF f x y v) x y v = putF f x y v := by
  funext j
  by_cases h : x ≤ j ∧ j < y
  · rw [putF_in h, putF_in h]
  · rw [putF_out h]
abbrev zF (f : Nat → Int32) : Nat → Int32 := putF f 0 100 0
abbrev oF (f : Nat → Int32) (v : Int32) : Nat → Int32 := putF (zF f) 0 1 v
theorem zF_at (f : Nat → Int32) {j : Nat} (h : j < 100) : zF f j = 0 := putF_in ⟨by omega, h⟩
theorem oF_0 (f : Nat → Int32) (v : Int32) {j : Nat} (h : j = 0) : oF f v j = v := putF_in ⟨by omega, by omega⟩
theorem oF_s (f : Nat → Int32) (v : Int32) {j : Nat} (h : ¬ j = 0) (h2 : j < 100) : oF f v j = 0 := (putF_out (by omega)).trans (zF_at f h2)
theorem kb_z (f : Nat → Int32) {j : Nat} (h : j < 100) : kb (zF f) (nI j) = false := by
  unfold kb
  rw [nI_clamp (by omega), zF_at f h]
  exact decide_eq_false (fun q => q.2.2 rfl)
theorem kb_o (f : Nat → Int32) {j : Nat} (h : j < 100) : kb (oF f 1) (nI j) = decide (j = 0) := by
  unfold kb
  rw [nI_clamp (by omega)]
  by_cases q : j = 0
  · rw [oF_0 f 1 q, decide_eq_true q]
    exact decide_eq_true ⟨nI_pos (by omega), nd_nle (a := 100) (b := j) (by omega) (by omega) (by omega), by decide⟩
  · rw [oF_s f 1 q h, decide_eq_false q]
    exact decide_eq_false (fun q => q.2.2 rfl)
theorem vl_z (f g : Nat → Int32) {j : Nat} (h : j < 100) : vlI (zF f) g (nI j) = 0 := by
  unfold vlI
  rw [kb_z f h]; rfl
theorem vl_o (f g : Nat → Int32) {j : Nat} (h : j < 100) : vlI (oF f 1) (oF g 0) (nI j) = 0 := by
  unfold vlI
  by_cases q : kb (oF f 1) (nI j) = true
  · rw [if_pos q]
    rw [kb_o f h] at q
    have q2 : j = 0 := of_decide_eq_true q
    rw [nI_clamp (by omega), oF_0 g 0 q2]
  · rw [if_neg q]
theorem cc_z (f : Nat → Int32) {m : Nat} (hm : m ≤ 100) : ccN (zF f) (zF f) m = 0 := by
  induction m with
  | zero => rfl
  | succ m ih => rw [ccN, ih (by omega), kb_z f (by omega)]; rfl
theorem cc_o (f : Nat → Int32) {m : Nat} (hm : m + 1 ≤ 100) : ccN (oF f 1) (oF f 1) (m + 1) = 1 := by
  induction m with
  | zero => rw [ccN, ccN, kb_o f (by omega)]; rfl
  | succ m ih => rw [ccN, ih (by omega), kb_o f (by omega), decide_eq_false (show ¬ m + 1 = 0 by omega)]; rfl
theorem cf_z {f g f' g' : Nat → Int32} {m : Nat} (h : ∀ j : Nat, j < 100 → dfB f g f' g' (nI j) = false) (hm : m ≤ 100) : cfN f g f' g' m = 0 := by
  induction m with
  | zero => rfl
  | succ m ih => rw [cfN, ih (by omega), h m (by omega)]; rfl
theorem df_z (f g f' g' : Nat → Int32) {j : Nat} (h : j < 100) : dfB (zF f) (zF g) (zF f') (zF g') (nI j) = false := by
  unfold dfB
  rw [kb_z f h, kb_z f' h, vl_z f _ h, vl_z f' _ h]
  decide
theorem df_o (f g f' g' : Nat → Int32) {j : Nat} (h : j < 100) : dfB (oF f 1) (oF g 0) (oF f' 1) (oF g' 0) (nI j) = false := by
  unfold dfB
  rw [kb_o f h, kb_o f' h, vl_o f g h, vl_o f' g' h]
  simp
section CON
variable {n : Nat}
theorem lv_f {j : Nat} (hn : n < 100) (hj : j < n) : liveP (FS n 12 j) (FS n 13 j) (nI n) ↔ j + 1 = n := by
  have e1 : FS n 12 j = nI (j + 1) := if_pos hj
  have e2 : FS n 13 j = fCl n j := rfl
  constructor
  · intro q
    rcases Nat.lt_or_ge (j + 1) n with q3 | q3
    · have q2 := q.2
      rw [e2, fCl_lt q3] at q2
      rcases q2 with q2 | q2
      · exact absurd q2 (nI_m1 (by omega))
      · exact absurd (nd_le (a := j + 2) (b := n) (by omega) (by omega) (by omega)) q2
    · omega
  · intro q
    refine ⟨?_, Or.inl (by rw [e2]; exact fCl_eq q)⟩
    rw [e1]
    exact nd_nlt (a := n) (b := j + 1) (by omega) (by omega) (by omega)
theorem rdK_0 (f : Nat → Int32) (hn : n < 100) {m : Nat} (hm : m ≤ n) : rdKN (FS n) 0 (nI n) frZ (toN n) f m = if 0 < n ∧ m = n then oF f 1 else zF f := by
  induction m with
  | zero => rw [rdKN, if_neg (by omega)]
  | succ m ih =>
    rw [rdKN, ih (by omega), if_neg (show ¬ (0 < n ∧ m = n) by omega)]
    by_cases q : m + 1 = n
    · rw [if_pos ⟨rfl, (lv_f hn (by omega)).mpr q⟩, if_pos (by omega), show toN n m = 1 from if_pos (by omega)]; rfl
    · rw [if_neg (fun r => q ((lv_f hn (by omega)).mp r.2)), if_neg (by omega)]
theorem rdV_0 (f : Nat → Int32) (hn : n < 100) {m : Nat} (hm : m ≤ n) : rdVN (FS n) 0 (nI n) frZ (toN n) f m = if 0 < n ∧ m = n then oF f 0 else zF f := by
  induction m with
  | zero => rw [rdVN, if_neg (by omega)]
  | succ m ih =>
    rw [rdVN, ih (by omega), if_neg (show ¬ (0 < n ∧ m = n) by omega)]
    by_cases q : m + 1 = n
    · rw [if_pos ⟨rfl, (lv_f hn (by omega)).mpr q⟩, if_pos (by omega), show toN n m = 1 from if_pos (by omega)]; rfl
    · rw [if_neg (fun r => q ((lv_f hn (by omega)).mp r.2)), if_neg (by omega)]
theorem cd_0 (hn : n < 100) {m : Nat} (hm : m ≤ n) : cdN (FS n) 0 0 100 (nI n) m = if 0 < n ∧ m = n then 1 else 0 := by
  induction m with
  | zero => rw [cdN, if_neg (by omega)]
  | succ m ih =>
    rw [cdN, ih (by omega), if_neg (show ¬ (0 < n ∧ m = n) by omega)]
    by_cases q : m + 1 = n
    · rw [if_pos ⟨rfl, (lv_f hn (by omega)).mpr q⟩, if_pos (by omega), show FS n 11 m = 1 from if_pos (by omega), show FS n 10 m = 0 from rfl]
      decide
    · rw [if_neg (fun r => q ((lv_f hn (by omega)).mp r.2)), if_neg (by omega)]
theorem rpK_0 (f : Nat → Int32) {m : Nat} (hm : m + 1 ≤ n) : rpKN (FS n) 0 frZ (otN n) f (m + 1) = oF f 1 := by
  have e2 : ∀ j : Nat, j + 1 ≤ n → FS n 2 (j + 1) = 116 := fun j hj => if_pos ⟨by omega, hj⟩
  have e6 : ∀ j : Nat, j + 1 ≤ n → otN n (j + 1) = 1 := fun j hj => if_pos ⟨by omega, hj⟩
  induction m with
  | zero => rw [rpKN, rpKN, if_pos (show FS n 3 (0 + 1) = 0 from rfl), e2 0 hm, e6 0 hm, if_neg (by decide)]; rfl
  | succ m ih =>
    rw [rpKN, ih (by omega), if_pos (show FS n 3 (m + 1 + 1) = 0 from rfl), e2 (m + 1) hm, e6 (m + 1) hm, if_neg (by decide)]
    exact putF_id _ _ _ _
theorem rpV_0 (f : Nat → Int32) {m : Nat} (hm : m + 1 ≤ n) : rpVN (FS n) 0 frZ (otN n) f (m + 1) = oF f 0 := by
  have e6 : ∀ j : Nat, j + 1 ≤ n → otN n (j + 1) = 1 := fun j hj => if_pos ⟨by omega, hj⟩
  induction m with
  | zero => rw [rpVN, rpVN, if_pos (show FS n 3 (0 + 1) = 0 from rfl), e6 0 hm]; rfl
  | succ m ih =>
    rw [rpVN, ih (by omega), if_pos (show FS n 3 (m + 1 + 1) = 0 from rfl), e6 (m + 1) hm]
    exact putF_id _ _ _ _
theorem rdK_s {sl : Int32} (h : ¬ (0 : Int32) = sl) (f : Nat → Int32) (m : Nat) : rdKN (FS n) sl (nI n) frZ (toN n) f m = zF f := by
  induction m with
  | zero => rfl
  | succ m ih => rw [rdKN, ih, if_neg (fun r => h r.1)]
theorem rdV_s {sl : Int32} (h : ¬ (0 : Int32) = sl) (f : Nat → Int32) (m : Nat) : rdVN (FS n) sl (nI n) frZ (toN n) f m = zF f := by
  induction m with
  | zero => rfl
  | succ m ih => rw [rdVN, ih, if_neg (fun r => h r.1)]
theorem cd_s {sl : Int32} (h : ¬ (0 : Int32) = sl) (m : Nat) : cdN (FS n) sl 0 100 (nI n) m = 0 := by
  induction m with
  | zero => rfl
  | succ m ih => rw [cdN, ih, if_neg (fun r => h r.1)]
theorem rpK_s {sl : Int32} (h : ¬ (0 : Int32) = sl) (f : Nat → Int32) (m : Nat) : rpKN (FS n) sl frZ (otN n) f m = zF f := by
  induction m with
  | zero => rfl
  | succ m ih => rw [rpKN, ih, if_neg (show ¬ FS n 3 (m + 1) = sl from h)]
theorem rpV_s {sl : Int32} (h : ¬ (0 : Int32) = sl) (f : Nat → Int32) (m : Nat) : rpVN (FS n) sl frZ (otN n) f m = zF f := by
  induction m with
  | zero => rfl
  | succ m ih => rw [rpVN, ih, if_neg (show ¬ FS n 3 (m + 1) = sl from h)]
theorem con_f (hn : n < 100) (h0 : 0 < n) {i : Nat} (hi : i < 9) (f1 g1 f2 g2 : Nat → Int32) : conP (FS n) (nI i) n n frZ (toN n) frZ (otN n) f1 g1 f2 g2 := by
  by_cases q : i = 0
  · subst q
    obtain ⟨z, rfl⟩ : ∃ z, n = z + 1 := ⟨n - 1, by omega⟩
    show cdN _ 0 0 100 _ _ = ccN (rdKN _ 0 _ _ _ _ _) (rdKN _ 0 _ _ _ _ _) 100 ∧ cfN (rdKN _ 0 _ _ _ _ _) (rdVN _ 0 _ _ _ _ _) (rpKN _ 0 _ _ _ _) (rpVN _ 0 _ _ _ _) 100 = 0
    rw [cd_0 hn (Nat.le_refl _), rdK_0 f1 hn (Nat.le_refl _), rdV_0 g1 hn (Nat.le_refl _), rpK_0 f2 (Nat.le_refl _), rpV_0 g2 (Nat.le_refl _), if_pos ⟨h0, rfl⟩, if_pos ⟨h0, rfl⟩, if_pos ⟨h0, rfl⟩]
    exact ⟨(cc_o f1 (m := 99) (by omega)).symm, cf_z (fun j hj => df_o f1 g1 f2 g2 hj) (Nat.le_refl _)⟩
  · have hs : ¬ (0 : Int32) = nI i := fun r => nI_ne0 (by omega) (by omega) r.symm
    show cdN _ (nI i) 0 100 _ _ = ccN (rdKN _ (nI i) _ _ _ _ _) (rdKN _ (nI i) _ _ _ _ _) 100 ∧ cfN (rdKN _ (nI i) _ _ _ _ _) (rdVN _ (nI i) _ _ _ _ _) (rpKN _ (nI i) _ _ _ _) (rpVN _ (nI i) _ _ _ _) 100 = 0
    rw [cd_s hs, rdK_s hs, rdV_s hs, rpK_s hs, rpV_s hs]
    exact ⟨(cc_z f1 (Nat.le_refl _)).symm, cf_z (fun j hj => df_z f1 g1 f2 g2 hj) (Nat.le_refl _)⟩
end CON
/-! the run's course: at the step e, how many tellings there have been, the horizon, the script's number, how many cells have been made at least -/
def nE (e : Nat) : Nat := if e ≤ 10 then e else if e ≤ 16 then e - 1 else 15
def hzE (e : Nat) : Nat := if e ≤ 10 then 0 else if e ≤ 16 then 10 else 15
def xE (e : Nat) : Int32 := if e = 10 then 87 else if e < 16 then 0 else if e = 16 then 47 else 7
def gE : Nat → Nat
  | 0 => 0
  | e + 1 => gE e + (hzE (e + 1) - 1) + 2
abbrev stepP (n h n2 h2 : Nat) (v : Int32) : Prop := (v = 0 ∧ n < 30 ∧ n2 = n + 1 ∧ h2 = h) ∨ (n2 = n ∧ h ≤ h2 ∧ h2 ≤ n ∧ lowI (v >>> (7 &&& 31)) 99 = 0 ∧ lowI v 8 = 7 ∧ lowI (v >>> (3 &&& 31)) (nI (n - h + 1)) = nI (h2 - h))
theorem gE_end : gE 30 = 310 := by decide
theorem run_ok : ∀ e : Nat, e < 30 → (hzE e ≤ nE e ∧ nE e ≤ 15 ∧ hzE (e + 1) ≤ nE (e + 1) ∧ nE (e + 1) ≤ 15) ∧ stepP (nE e) (hzE e) (nE (e + 1)) (hzE (e + 1)) (xE e) := by
  decide +kernel
