/-! PURE: days counted -/
def knN (f : Nat → Int32) (a : Nat) : Nat → Nat
  | 0 => 0
  | n + 1 => knN f a n + (if f (a + n) = -1 then 0 else 1)
theorem kn_le (f : Nat → Int32) (a n : Nat) : knN f a n ≤ n := by
  induction n with
  | zero => exact Nat.le_refl 0
  | succ n ih =>
    rw [knN]
    split
    · omega
    · omega
theorem kc_n (f : Nat → Int32) (a n : Nat) : kcN f a n = nI (knN f a n) := by
  induction n with
  | zero => exact nI_0.symm
  | succ n ih =>
    rw [kcN, knN, ih]
    by_cases h : f (a + n) = -1
    · rw [if_pos h, if_pos h, show (0 : Int32) = nI 0 from nI_0.symm, nI_add]
    · rw [if_neg h, if_neg h, nI_1]
theorem kd_n (f : Nat → Int32) (n : Nat) : kdN f n = nI (knN f 0 n) := by
  induction n with
  | zero => exact nI_0.symm
  | succ n ih =>
    rw [kdN, knN, ih, Nat.zero_add]
    by_cases h : f n = -1
    · rw [if_pos h, if_pos h, show (0 : Int32) = nI 0 from nI_0.symm, nI_add]
    · rw [if_neg h, if_neg h, nI_1]
theorem kn_c {f g : Nat → Int32} {a n : Nat} (h : ∀ j : Nat, j < n → f (a + j) = g (a + j)) : knN f a n = knN g a n := by
  induction n with
  | zero => rfl
  | succ n ih => rw [knN, knN, ih (fun j hj => h j (by omega)), h n (by omega)]
theorem dw_s (x y a b : Nat) (hab : a ≤ b) : dwN x y a (b + 1) = dwN x y a b + (if x ≤ b ∧ b < y then 1 else 0) := by
  unfold dwN
  split
  · omega
  · omega
theorem putF_in {f : Nat → Int32} {x y : Nat} {w : Int32} {j : Nat} (h : x ≤ j ∧ j < y) : putF f x y w j = w := if_pos h
theorem putF_out {f : Nat → Int32} {x y : Nat} {w : Int32} {j : Nat} (h : ¬ (x ≤ j ∧ j < y)) : putF f x y w j = f j := if_neg h
theorem kn_put {f : Nat → Int32} {x y : Nat} {w : Int32} (hw : ¬ w = -1) {a n : Nat} (h : ∀ j : Nat, j < n → x ≤ a + j → a + j < y → f (a + j) = -1) : knN (putF f x y w) a n = knN f a n + dwN x y a (a + n) := by
  induction n with
  | zero =>
    rw [knN, knN]
    unfold dwN
    omega
  | succ n ih =>
    rw [knN, knN, ih (fun j hj => h j (by omega)), ← Nat.add_assoc, dw_s x y a (a + n) (by omega)]
    by_cases h1 : x ≤ a + n ∧ a + n < y
    · rw [putF_in h1, if_neg hw, if_pos h1, if_pos (h n (by omega) h1.1 h1.2)]
      omega
    · rw [putF_out h1, if_neg h1]
      omega
theorem kn_none (a n : Nat) (f0 : Nat → Int32) (h : a + n ≤ 100) : knN (putF f0 0 100 (-1)) a n = 0 := by
  induction n with
  | zero => rfl
  | succ n ih =>
    rw [knN, ih (by omega), putF_in (by omega), if_pos rfl]
section FROW2
variable {S : AS} {k n en : Nat} {sl fr to o c : Nat → Nat}
theorem cd_eq (F : Fct S k n en sl fr to o c) (D : Dsj k sl fr to o c) (hen : en ≤ 6) (hn : n ≤ 60) (hk : k ≤ 180) {g : Nat → Int32} {h : Nat} (G : Gon g k h c) {s t a len : Nat} (hs : s < 100) (ht : t ≤ 60) (hht : h ≤ t) (hl : a + len ≤ 100) (f0 : Nat → Int32) {q : Nat} (hq : q ≤ k) : cdN S (nI s) (nI a) (nI (a + len)) (nI t) q = nI (knN (lkR (S 8) (S 12) (S 13) g (nI s) (nI t) fr to f0 q) a len) := by
  induction q with
  | zero =>
    rw [lkR, kn_none a len f0 hl]
    exact nI_0.symm
  | succ q ih =>
    rw [cdN, lkR, ih (by omega)]
    obtain ⟨f1, f2, f3, f4, f5, f6, f7, f8, f9, f10, f11⟩ := F q (by omega)
    by_cases hc : S 8 q = nI s ∧ liveP (S 12 q) (S 13 q) (nI t)
    · have h2 := (sllv_iff F hen hn (by omega) hs ht).mp hc
      rw [if_pos hc, if_pos ((ml_iff F hen hn G (by omega) hs ht hht).mpr h2), f2, f3, dw_n (by omega) (by omega) (by omega) (by omega), nI_add, kn_put (nI_m1 (by omega)) (fun j hj h3 h4 => ?_)]
      refine lk_no F hen hn G hs ht hht (by omega) f0 (by omega) (fun i hi z => ?_)
      have := hit_one D (by omega) (by omega) z ⟨h2, h3, h4⟩
      omega
    · have h2 : ¬ mlR (S 8) (S 12) (S 13) g (nI s) (nI t) q = true := fun z => hc ((sllv_iff F hen hn (by omega) hs ht).mpr ((ml_iff F hen hn G (by omega) hs ht hht).mp z))
      rw [if_neg hc, if_neg h2]
end FROW2
/-! facts counted -/
def gcN (c : Nat → Nat) (h : Nat) : Nat → Nat
  | 0 => 0
  | i + 1 => gcN c h i + (if c i ≠ 0 ∧ c i ≤ h then 1 else 0)
theorem gc_le (c : Nat → Nat) (h i : Nat) : gcN c h i ≤ i := by
  induction i with
  | zero => exact Nat.le_refl 0
  | succ i ih =>
    rw [gcN]
    split
    · omega
    · omega
theorem gc_mono (c : Nat → Nat) {h t : Nat} (ht : h ≤ t) (i : Nat) : gcN c h i ≤ gcN c t i := by
  induction i with
  | zero => exact Nat.le_refl 0
  | succ i ih =>
    rw [gcN, gcN]
    by_cases h1 : c i ≠ 0 ∧ c i ≤ h
    · rw [if_pos h1, if_pos ⟨h1.1, by omega⟩]
      omega
    · rw [if_neg h1]
      omega
theorem gc_c {c c' : Nat → Nat} {h q : Nat} (hh : ∀ i : Nat, i < q → (c i ≠ 0 ∧ c i ≤ h ↔ c' i ≠ 0 ∧ c' i ≤ h)) : gcN c h q = gcN c' h q := by
  induction q with
  | zero => rfl
  | succ q ih =>
    rw [gcN, gcN, ih (fun i hi => hh i (by omega))]
    by_cases h1 : c q ≠ 0 ∧ c q ≤ h
    · rw [if_pos h1, if_pos ((hh q (by omega)).mp h1)]
    · rw [if_neg h1, if_neg (fun z => h1 ((hh q (by omega)).mpr z))]
section FROW3
variable {S : AS} {k n en : Nat} {sl fr to o c : Nat → Nat}
theorem kept_iff (F : Fct S k n en sl fr to o c) (hn : n ≤ 60) (hk : k ≤ 180) {h i : Nat} (hh : h ≤ 60) (hi : i < k) : keptP S k (nI h) (nI i) ↔ ¬ (c i ≠ 0 ∧ c i ≤ h) := by
  obtain ⟨-, -, -, -, f5, -, -, -, f9, f10, f11⟩ := F i hi
  unfold keptP
  rw [nI_clamp (by omega), f5]
  have h1 : ¬ nI i < 0 := nI_pos (by omega)
  have h2 : ¬ nI k ≤ nI i := fun q => by
    have := (nI_leI (by omega) (by omega)).mp q
    omega
  have h3 : (clI (c i) = -1 ∨ ¬ clI (c i) ≤ nI h) ↔ ¬ (c i ≠ 0 ∧ c i ≤ h) := by
    rw [clI_0 (by omega)]
    by_cases e : c i = 0
    · exact ⟨fun _ z => z.1 e, fun _ => Or.inl e⟩
    · rw [clI_le (by omega) (by omega) e]
      omega
  rw [← h3]
  exact ⟨fun q => q.2.2, fun q => ⟨h1, h2, q⟩⟩
theorem ck_n (F : Fct S k n en sl fr to o c) (hn : n ≤ 60) (hk : k ≤ 180) {h : Nat} (hh : h ≤ 60) {q : Nat} (hq : q ≤ k) : ckN S k (nI h) q = nI (q - gcN c h q) := by
  induction q with
  | zero => exact nI_0.symm
  | succ q ih =>
    rw [ckN, gcN, ih (by omega)]
    have h1 := kept_iff F hn hk hh (show q < k by omega)
    have h2 := gc_le c h q
    by_cases e : c q ≠ 0 ∧ c q ≤ h
    · rw [if_neg (fun z => h1.mp z e), if_pos e, show (0 : Int32) = nI 0 from nI_0.symm, nI_add]
      congr 1
      omega
    · rw [if_pos (h1.mpr e), if_neg e, nI_1]
      congr 1
      omega
theorem mo_n (F : Fct S k n en sl fr to o c) (hn : n ≤ 60) {T : AS} {h : Nat} (G : Gon (T 9) k h c) (hc : T 8 = S 13) {q : Nat} (hq : q ≤ k) : moN T q = coN S q := by
  induction q with
  | zero => rfl
  | succ q ih =>
    rw [moN, coN, ih (by omega)]
    obtain ⟨-, -, -, -, f5, -, -, -, f9, f10, f11⟩ := F q (by omega)
    have h1 : opB T q = true ↔ S 13 q = -1 := by
      unfold opB
      rw [decide_eq_true_iff, hc, G q (by omega), f5, clI_0 (by omega)]
      constructor
      · intro z; exact z.2
      · intro z; exact ⟨if_neg (fun w => w.1 z), z⟩
    by_cases e : S 13 q = -1
    · rw [if_pos e, if_pos (h1.mpr e)]
    · rw [if_neg e, if_neg (fun z => e (h1.mp z))]
theorem mf_iff {T : AS} {h : Nat} (G : Gon (T 9) k h c) (F : Fct S k n en sl fr to o c) (hn : n ≤ 60) (hk : k ≤ 180) (hh : h ≤ 60) (x : Int32) : mfB T (nI k) x = true ↔ keptP S k (nI h) x := by
  unfold mfB
  rw [Bool.and_eq_true, decide_eq_true_iff]
  constructor
  · rintro ⟨h1, h2⟩
    obtain ⟨i, hi, rfl⟩ := in_vp h1 (Nat.le_refl k) (by omega)
    rw [nI_clamp (by omega), G i hi] at h2
    refine (kept_iff F hn hk hh hi).mpr (fun z => ?_)
    rw [if_pos z] at h2
    exact absurd h2 (by decide)
  · intro h1
    have h2 : ∃ i : Nat, i < k ∧ x = nI i := by
      rcases pk_ix x (n := k) (by omega) with q | q | q
      · exact absurd q h1.1
      · exact absurd q h1.2.1
      · exact q
    obtain ⟨i, hi, rfl⟩ := h2
    refine ⟨decide_eq_true ⟨nI_pos (by omega), ?_⟩, ?_⟩
    · rw [show nI k - 1 = nI (k - 1) from pk_sub (a := k) (b := 1) (by omega), nI_ltI (by omega) (by omega)]
      omega
    · rw [nI_clamp (by omega), G i hi, if_neg ((kept_iff F hn hk hh hi).mp h1)]
theorem pg_gon (F : Fct S k n en sl fr to o c) (hn : n ≤ 60) {T : AS} {h t : Nat} (G : Gon (T 9) k h c) (hc : T 8 = S 13) (hht : h ≤ t) (ht : t ≤ 60) {q : Nat} (hq : q ≤ k) : (∀ i : Nat, i < k → pgN T (nI t) q i = if i < q then (if c i ≠ 0 ∧ c i ≤ t then 1 else 0) else (if c i ≠ 0 ∧ c i ≤ h then 1 else 0)) ∧ pcN T (nI t) q = nI (gcN c t q - gcN c h q) := by
  induction q with
  | zero =>
    refine ⟨fun i hi => ?_, nI_0.symm⟩
    rw [if_neg (show ¬ i < 0 by omega)]
    exact G i hi
  | succ q ih =>
    obtain ⟨i1, i2⟩ := ih (by omega)
    obtain ⟨-, -, -, -, f5, -, -, -, f9, f10, f11⟩ := F q (by omega)
    have hm : mgP T (T 9) (nI t) q ↔ (¬ (c q ≠ 0 ∧ c q ≤ h)) ∧ c q ≠ 0 ∧ c q ≤ t := by
      unfold mgP
      rw [G q (by omega), hc, f5, clI_0 (by omega)]
      by_cases e : c q = 0
      · rw [if_neg (fun z => z.1 e)]
        exact ⟨fun z => absurd e z.2.1, fun z => absurd e z.2.1⟩
      · have h3 : ¬ nI t < clI (c q) ↔ c q ≤ t := by
          rw [← clI_le (by omega) (by omega) e]
          exact Int32.not_lt
        rw [h3]
        by_cases e2 : c q ≠ 0 ∧ c q ≤ h
        · rw [if_pos e2]
          exact ⟨fun z => absurd z.1 (by decide), fun z => absurd e2 z.1⟩
        · rw [if_neg e2]
          exact ⟨fun z => ⟨e2, e, z.2.2⟩, fun z => ⟨rfl, e, z.2.2⟩⟩
    have g1 := gc_mono c hht q
    by_cases e : mgP T (T 9) (nI t) q
    · obtain ⟨m1, m2, m3⟩ := hm.mp e
      rw [pg_t e, pc_t e, i2, gcN, gcN, if_neg m1, if_pos ⟨m2, m3⟩, nI_1]
      refine ⟨fun i hi => ?_, by congr 1; omega⟩
      by_cases e3 : i = q
      · subst e3
        rw [pk_us, if_pos (show i < i + 1 by omega), if_pos ⟨m2, m3⟩]
      · rw [pk_un e3, i1 i hi]
        by_cases e4 : i < q
        · rw [if_pos e4, if_pos (show i < q + 1 by omega)]
        · rw [if_neg e4, if_neg (show ¬ i < q + 1 by omega)]
    · rw [pg_f e, pc_f e, i2, gcN, gcN]
      have hq2 : (c q ≠ 0 ∧ c q ≤ t) ↔ (c q ≠ 0 ∧ c q ≤ h) := by
        constructor
        · intro z
          exact Classical.byContradiction (fun w => e (hm.mpr ⟨w, z⟩))
        · intro z
          exact ⟨z.1, by omega⟩
      refine ⟨fun i hi => ?_, ?_⟩
      · rw [i1 i hi]
        by_cases e4 : i < q
        · rw [if_pos e4, if_pos (show i < q + 1 by omega)]
        · by_cases e3 : i = q
          · subst e3
            rw [if_neg e4, if_pos (show i < i + 1 by omega)]
            by_cases e5 : c i ≠ 0 ∧ c i ≤ t
            · rw [if_pos e5, if_pos (hq2.mp e5)]
            · rw [if_neg e5, if_neg (fun z => e5 (hq2.mpr z))]
          · rw [if_neg e4, if_neg (show ¬ i < q + 1 by omega)]
      · by_cases e5 : c q ≠ 0 ∧ c q ≤ t
        · rw [if_pos e5, if_pos (hq2.mp e5)]
          congr 1
          omega
        · rw [if_neg e5, if_neg (fun z => e5 (hq2.mpr z))]
          congr 1
end FROW3
/-! sums -/
theorem slI_n (x b : Nat) : slI (nI x) (nI b) = nI (3 * x + b) := by
  unfold slI
  rw [show (3 : Int32) = nI 3 from rfl, pk_mul, nI_add, Nat.mul_comm]
theorem slM_n (x b : Nat) : slM (nI x) (nI b) = nI (3 * x + b) := by
  unfold slM
  rw [show (3 : Int32) = nI 3 from rfl, pk_mul, nI_add]
theorem sums_eq {S T : AS} {b t : Int32} {fr to : Nat → Nat} {k d : Nat} (hk : k ≤ 256) (h4 : T 4 = S 9) (hd : d < 100) {i : Nat} (hf : ∀ e : Nat, e < i → fqM T b t fr to k d e = fndN S (slI (nI e) b) (nI d) t k) : tsM T b t fr to k d i = ttN S b (nI d) t k i ∧ tmM T b t fr to k d i = mmN S b (nI d) t k i := by
  induction i with
  | zero => exact ⟨rfl, rfl⟩
  | succ i ih =>
    obtain ⟨i1, i2⟩ := ih (fun e he => hf e (by omega))
    have h1 := hf i (by omega)
    rw [tsM, tmM, ttN, mmN, h1, i1, i2, h4]
    by_cases e : fndN S (slI (nI i) b) (nI d) t k = -1
    · rw [if_pos e, if_pos e, if_pos e, if_pos e]
      exact ⟨Int64.add_zero _, rfl⟩
    · rw [if_neg e, if_neg e, if_neg e, if_neg e]
      exact ⟨rfl, rfl⟩
theorem out_iff (z : Int64) : outB z = false ↔ rngP z := by
  unfold outB rngP
  rw [Bool.or_eq_false_iff, decide_eq_false_iff_not, decide_eq_false_iff_not, Int64.not_lt, Int64.not_lt]
  constructor
  · rintro ⟨h1, h2⟩
    exact ⟨Classical.byContradiction (fun q => h2 q), h1⟩
  · rintro ⟨h1, h2⟩
    exact ⟨h2, fun q => q h1⟩
theorem leaves_eq {S T : AS} {b t : Int32} {fr to : Nat → Nat} {k d : Nat} {i : Nat} (hs : ∀ e : Nat, e ≤ i → tsM T b t fr to k d e = ttN S b (nI d) t k e) : tlM T b t fr to k d i = false ↔ ∀ j : Nat, j ≤ i → rngP (ttN S b (nI d) t k j) := by
  induction i with
  | zero =>
    refine ⟨fun _ j hj => ?_, fun _ => rfl⟩
    rw [show j = 0 by omega]
    exact rng_0
  | succ i ih =>
    have i1 := ih (fun e he => hs e (by omega))
    rw [tlM, Bool.or_eq_false_iff, i1, out_iff, hs (i + 1) (Nat.le_refl _)]
    constructor
    · rintro ⟨h1, h2⟩ j hj
      by_cases e : j = i + 1
      · rw [e]; exact h2
      · exact h1 j (by omega)
    · intro h
      exact ⟨fun j hj => h j (by omega), h (i + 1) (Nat.le_refl _)⟩
/-! versions -/
theorem ver_eq {S : AS} {s d : Int32} {k h : Nat} {v g F0 K0 V0 F1 V1 : Nat → Int32} (hk : k ≤ 256) (hv : v = S 9) {m : Nat} (hg : ∀ i : Nat, i < m → g (h + i) = fndN S s d (nI (h + i)) k) (hgr : ∀ i : Nat, g i = -1 ∨ ∃ j : Nat, j < k ∧ g i = nI j) : (vsS S s d k h F0 K0 V0 m).1 = (vmR v g h F1 V1 m).1 ∧ ∀ j : Nat, j < (vmR v g h F1 V1 m).1 → (vsS S s d k h F0 K0 V0 m).2.1 j = (vmR v g h F1 V1 m).2.1 j ∧ (vsS S s d k h F0 K0 V0 m).2.2.1 j = (if (vmR v g h F1 V1 m).2.2 j = -1 then 0 else 1) ∧ (vsS S s d k h F0 K0 V0 m).2.2.2 j = (if (vmR v g h F1 V1 m).2.2 j = -1 then 0 else v ((vmR v g h F1 V1 m).2.2 j).toNatClampNeg) := by
  induction m with
  | zero => exact ⟨rfl, fun j hj => absurd hj (Nat.not_lt_zero j)⟩
  | succ m ih =>
    obtain ⟨i1, i2⟩ := ih (fun i hi => hg i (by omega))
    have gm := hg m (by omega)
    have vk : vkN S s d k (h + m) = if g (h + m) = -1 then 0 else 1 := by rw [vkN, gm]
    have vv : vvN S s d k (h + m) = if g (h + m) = -1 then 0 else v (g (h + m)).toNatClampNeg := by rw [vvN, gm, hv]
    have new : ∀ q : ((vsS S s d k h F0 K0 V0 m).1 = 0 ∨ ¬ lastK (vsS S s d k h F0 K0 V0 m) = vkN S s d k (h + m) ∨ ¬ lastV (vsS S s d k h F0 K0 V0 m) = vvN S s d k (h + m)), ∀ w : ¬ samP v (vmR v g h F1 V1 m) (g (h + m)), (vsS S s d k h F0 K0 V0 (m + 1)).1 = (vmR v g h F1 V1 (m + 1)).1 ∧ ∀ j : Nat, j < (vmR v g h F1 V1 (m + 1)).1 → (vsS S s d k h F0 K0 V0 (m + 1)).2.1 j = (vmR v g h F1 V1 (m + 1)).2.1 j ∧ (vsS S s d k h F0 K0 V0 (m + 1)).2.2.1 j = (if (vmR v g h F1 V1 (m + 1)).2.2 j = -1 then 0 else 1) ∧ (vsS S s d k h F0 K0 V0 (m + 1)).2.2.2 j = (if (vmR v g h F1 V1 (m + 1)).2.2 j = -1 then 0 else v ((vmR v g h F1 V1 (m + 1)).2.2 j).toNatClampNeg) := by
      intro q w
      rw [vsS_a rfl rfl q, vmR_f w]
      refine ⟨by show (vsS S s d k h F0 K0 V0 m).1 + 1 = (vmR v g h F1 V1 m).1 + 1; rw [i1], fun j hj => ?_⟩
      have hj : j < (vmR v g h F1 V1 m).1 + 1 := hj
      show upd (vsS S s d k h F0 K0 V0 m).2.1 (vsS S s d k h F0 K0 V0 m).1 (nI (h + m)) j = upd (vmR v g h F1 V1 m).2.1 (vmR v g h F1 V1 m).1 (nI (h + m)) j ∧ upd (vsS S s d k h F0 K0 V0 m).2.2.1 (vsS S s d k h F0 K0 V0 m).1 (vkN S s d k (h + m)) j = (if upd (vmR v g h F1 V1 m).2.2 (vmR v g h F1 V1 m).1 (g (h + m)) j = -1 then 0 else 1) ∧ upd (vsS S s d k h F0 K0 V0 m).2.2.2 (vsS S s d k h F0 K0 V0 m).1 (vvN S s d k (h + m)) j = (if upd (vmR v g h F1 V1 m).2.2 (vmR v g h F1 V1 m).1 (g (h + m)) j = -1 then 0 else v (upd (vmR v g h F1 V1 m).2.2 (vmR v g h F1 V1 m).1 (g (h + m)) j).toNatClampNeg)
      rw [i1]
      by_cases e : j = (vmR v g h F1 V1 m).1
      · rw [e, pk_us, pk_us, pk_us, pk_us, pk_us]
        exact ⟨rfl, vk, vv⟩
      · rw [pk_un e, pk_un e, pk_un e, pk_un e, pk_un e]
        exact i2 j (by omega)
    by_cases h0 : (vmR v g h F1 V1 m).1 = 0
    · exact new (Or.inl (i1.trans h0)) (fun w => by have := w.1; omega)
    · obtain ⟨l1, l2, l3⟩ := i2 ((vmR v g h F1 V1 m).1 - 1) (by omega)
      have hl : lastM (vmR v g h F1 V1 m) = (vmR v g h F1 V1 m).2.2 ((vmR v g h F1 V1 m).1 - 1) := if_neg h0
      have lk : lastK (vsS S s d k h F0 K0 V0 m) = if lastM (vmR v g h F1 V1 m) = -1 then 0 else 1 := by
        show (if (vsS S s d k h F0 K0 V0 m).2.2.1 ((vsS S s d k h F0 K0 V0 m).1 - 1) = 0 then (0 : Int32) else 1) = _
        rw [i1]
        by_cases e : (vmR v g h F1 V1 m).2.2 ((vmR v g h F1 V1 m).1 - 1) = -1
        · rw [if_pos (l2.trans (if_pos e)), hl, if_pos e]
        · rw [if_neg (fun z => absurd ((l2.trans (if_neg e)).symm.trans z) (by decide)), hl, if_neg e]
      have lv : lastV (vsS S s d k h F0 K0 V0 m) = if lastM (vmR v g h F1 V1 m) = -1 then 0 else v (lastM (vmR v g h F1 V1 m)).toNatClampNeg := by
        show (if (vsS S s d k h F0 K0 V0 m).2.2.1 ((vsS S s d k h F0 K0 V0 m).1 - 1) = 0 then (0 : Int32) else (vsS S s d k h F0 K0 V0 m).2.2.2 ((vsS S s d k h F0 K0 V0 m).1 - 1)) = _
        rw [i1]
        by_cases e : (vmR v g h F1 V1 m).2.2 ((vmR v g h F1 V1 m).1 - 1) = -1
        · rw [if_pos (l2.trans (if_pos e)), hl, if_pos e]
        · rw [if_neg (fun z => absurd ((l2.trans (if_neg e)).symm.trans z) (by decide)), hl, if_neg e, l3, if_neg e]
      by_cases hs : samP v (vmR v g h F1 V1 m) (g (h + m))
      · obtain ⟨s1, s2, s3⟩ := hs
        rw [vmR_t ⟨s1, s2, s3⟩]
        have e1 : lastK (vsS S s d k h F0 K0 V0 m) = vkN S s d k (h + m) := by
          rw [lk, vk]
          by_cases e : g (h + m) = -1
          · rw [if_pos e, if_pos (s2.mp e)]
          · rw [if_neg e, if_neg (fun z => e (s2.mpr z))]
        have e2 : lastV (vsS S s d k h F0 K0 V0 m) = vvN S s d k (h + m) := by
          rw [lv, vv]
          by_cases e : g (h + m) = -1
          · rw [if_pos e, if_pos (s2.mp e)]
          · rw [if_neg e, if_neg (fun z => e (s2.mpr z))]
            exact (s3.resolve_left e).symm
        rw [vsS_b rfl rfl (by omega) e1 e2]
        exact ⟨i1, i2⟩
      · refine new (Classical.byContradiction (fun q => hs ?_)) hs
        have q2 : lastK (vsS S s d k h F0 K0 V0 m) = vkN S s d k (h + m) := Classical.byContradiction (fun z => q (Or.inr (Or.inl z)))
        have q3 : lastV (vsS S s d k h F0 K0 V0 m) = vvN S s d k (h + m) := Classical.byContradiction (fun z => q (Or.inr (Or.inr z)))
        rw [lk, vk] at q2
        rw [lv, vv] at q3
        by_cases e : g (h + m) = -1
        · by_cases e2 : lastM (vmR v g h F1 V1 m) = -1
          · exact ⟨by omega, ⟨fun _ => e2, fun _ => e⟩, Or.inl e⟩
          · rw [if_neg e2, if_pos e] at q2; exact absurd q2 (by decide)
        · by_cases e2 : lastM (vmR v g h F1 V1 m) = -1
          · rw [if_pos e2, if_neg e] at q2; exact absurd q2 (by decide)
          · rw [if_neg e2, if_neg e] at q3
            exact ⟨by omega, ⟨fun z => absurd z e, fun z => absurd z e2⟩, Or.inr q3.symm⟩
