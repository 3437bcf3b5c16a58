/-! PURE: the replay, and an operation as a whole -/
def Rpl (S : AS) (k n : Nat) (sl fr to o c ofr oto : Nat → Nat) : Prop := ∀ s t d : Nat, s < 18 → t ≤ n → d < 100 → ∀ f0 f1 : Nat → Int32, (∀ i : Nat, i < k → hitN sl fr to o c s t d i → rpKN S (nI s) ofr oto f0 t d = 1 ∧ rpVN S (nI s) ofr oto f1 t d = S 9 i) ∧ ((∀ i : Nat, i < k → ¬ hitN sl fr to o c s t d i) → rpKN S (nI s) ofr oto f0 t d = 0)
def Ops (S : AS) (n en : Nat) (osl ofr oto : Nat → Nat) : Prop := ∀ j : Nat, 1 ≤ j → j ≤ n → S 3 j = nI (osl j) ∧ S 5 j = nI (ofr j) ∧ S 6 j = nI (oto j) ∧ osl j < 3 * en ∧ ofr j ≤ oto j ∧ oto j ≤ 100 ∧ narrow .char (.int (S 2 j)) = .int (S 2 j)
theorem rp_c {S S' : AS} {sl : Int32} {ofr oto ofr' oto' : Nat → Nat} {t : Nat} (h : ∀ j : Nat, 1 ≤ j → j ≤ t → S' 3 j = S 3 j ∧ S' 2 j = S 2 j ∧ S' 4 j = S 4 j ∧ ofr' j = ofr j ∧ oto' j = oto j) (f0 f1 : Nat → Int32) : rpKN S' sl ofr' oto' f0 t = rpKN S sl ofr oto f0 t ∧ rpVN S' sl ofr' oto' f1 t = rpVN S sl ofr oto f1 t := by
  induction t with
  | zero => exact ⟨rfl, rfl⟩
  | succ t ih =>
    obtain ⟨i1, i2⟩ := ih (fun j h1 h2 => h j h1 (by omega))
    obtain ⟨h1, h2, h3, h4, h5⟩ := h (t + 1) (by omega) (Nat.le_refl _)
    rw [rpKN, rpKN, rpVN, rpVN, i1, i2, h1, h2, h3, h4, h5]
    exact ⟨rfl, rfl⟩
/-- an operation's own end: what stands in its row, and what the facts say of its days then -/
theorem rpl_step {S S1 : AS} {k k' n en s a b : Nat} {sl fr to o c sl' fr' to' o' c' osl ofr oto : Nat → Nat} {C : Nat → Int32 → Prop} {z v : Int32} (R : Rpl S k n sl fr to o c ofr oto) (M : Mid S S1 k k' n en s sl fr to o c sl' fr' to' o' c' C) (hs : s < 18)
    (hrow : S1 2 = upd (S 2) (n + 1) z ∧ S1 3 = upd (S 3) (n + 1) (nI s) ∧ S1 4 = upd (S 4) (n + 1) v)
    (hC : ∀ (d : Nat) (w : Int32), d < 100 → (C d w ↔ (¬ (a ≤ d ∧ d < b) ∧ ∃ i : Nat, i < k ∧ hitN sl fr to o c s n d i ∧ S 9 i = w) ∨ (¬ z = 114 ∧ a ≤ d ∧ d < b ∧ w = v))) :
    Rpl S1 k' (n + 1) sl' fr' to' o' c' (updN ofr (n + 1) a) (updN oto (n + 1) b) := by
  obtain ⟨F, D, m3, m4, m5, m6, m7, m8, m9⟩ := M
  obtain ⟨r2, r3, r4⟩ := hrow
  have cong : ∀ (s' t : Nat), t ≤ n → ∀ f0 f1 : Nat → Int32, rpKN S1 (nI s') (updN ofr (n + 1) a) (updN oto (n + 1) b) f0 t = rpKN S (nI s') ofr oto f0 t ∧ rpVN S1 (nI s') (updN ofr (n + 1) a) (updN oto (n + 1) b) f1 t = rpVN S (nI s') ofr oto f1 t := fun s' t ht f0 f1 => rp_c (fun j h1 h2 => by
    have hj : j ≠ n + 1 := by omega
    rw [r2, r3, r4, pk_un hj, pk_un hj, pk_un hj, un_n hj, un_n hj]
    exact ⟨rfl, rfl, rfl, rfl, rfl⟩) f0 f1
  have e3 : S1 3 (n + 1) = nI s := by rw [r3, pk_us]
  have e2 : S1 2 (n + 1) = z := by rw [r2, pk_us]
  have e4 : S1 4 (n + 1) = v := by rw [r4, pk_us]
  intro s' t d hs' ht hd f0 f1
  by_cases e : t ≤ n
  · obtain ⟨c1, c2⟩ := cong s' t e f0 f1
    rw [c1, c2]
    obtain ⟨R1, R2⟩ := R s' t d hs' e hd f0 f1
    have new : ∀ i : Nat, k ≤ i → i < k' → ¬ hitN sl' fr' to' o' c' s' t d i := by
      intro i h1 h2 z
      have := (m6 i h1 h2).1
      have := z.1.2.1
      omega
    constructor
    · intro i hi h
      by_cases e5 : i < k
      · rw [m4 i e5]
        exact R1 i e5 ((m5 s' t d i e e5).mp h)
      · exact absurd h (new i (by omega) hi)
    · intro h
      exact R2 (fun i hi w => h i (by omega) ((m5 s' t d i e hi).mpr w))
  · have et : t = n + 1 := by omega
    subst et
    obtain ⟨c1, c2⟩ := cong s' n (Nat.le_refl n) f0 f1
    obtain ⟨R1, R2⟩ := R s' n d hs' (Nat.le_refl n) hd f0 f1
    rw [rpKN, rpVN, e3, e2, e4, un_s, un_s, c1, c2]
    by_cases es : s' = s
    · subst es
      rw [if_pos rfl, if_pos rfl]
      by_cases ed : a ≤ d ∧ d < b
      · rw [putF_in ed, putF_in ed]
        constructor
        · intro i hi h
          have h1 := (hC d (S1 9 i) hd).mp ((m8 d (S1 9 i)).mpr ⟨i, hi, h, rfl⟩)
          rcases h1 with ⟨h1, -⟩ | ⟨h1, -, -, h2⟩
          · exact absurd ed h1
          · rw [if_neg h1]
            exact ⟨rfl, h2.symm⟩
        · intro h
          by_cases ez : z = 114
          · rw [if_pos ez]
          · exfalso
            obtain ⟨i, hi, h1, -⟩ := (m8 d v).mp ((hC d v hd).mpr (Or.inr ⟨ez, ed.1, ed.2, rfl⟩))
            exact h i hi h1
      · rw [putF_out ed, putF_out ed]
        constructor
        · intro i hi h
          have h1 := (hC d (S1 9 i) hd).mp ((m8 d (S1 9 i)).mpr ⟨i, hi, h, rfl⟩)
          rcases h1 with ⟨-, j, hj, h2, h3⟩ | ⟨-, h2, h3, -⟩
          · rw [← h3]
            exact R1 j hj h2
          · exact absurd ⟨h2, h3⟩ ed
        · intro h
          refine R2 (fun i hi w => ?_)
          obtain ⟨j, hj, h1, -⟩ := (m8 d (S 9 i)).mp ((hC d (S 9 i) hd).mpr (Or.inl ⟨ed, i, hi, w, rfl⟩))
          exact h j hj h1
    · have en : ¬ nI s = nI s' := fun q => es ((nI_eq (by omega) (by omega)).mp q).symm
      rw [if_neg en, if_neg en]
      have new : ∀ i : Nat, k ≤ i → i < k' → ¬ hitN sl' fr' to' o' c' s' (n + 1) d i := by
        intro i h1 h2 z
        exact es (z.1.1.symm.trans (m6 i h1 h2).2.1)
      constructor
      · intro i hi h
        by_cases e5 : i < k
        · rw [m4 i e5]
          exact R1 i e5 ((m7 s' d i es e5).mp h)
        · exact absurd h (new i (by omega) hi)
      · intro h
        exact R2 (fun i hi w => h i (by omega) ((m7 s' d i es hi).mpr w))
/-- all that both sides keep -/
def Nv (I : AI) (S : AS) (J : AI) (T : AS) (en k n h len : Nat) (sl fr to o c osl ofr oto : Nat → Nat) : Prop :=
  (I 0 = nI en ∧ I 1 = nI n ∧ I 2 = nI k ∧ I 3 = nI h ∧ I 4 = nI len) ∧ (J 1 = nI en ∧ J 2 = nI n ∧ J 3 = nI k ∧ J 4 = nI (gcN c h k) ∧ J 5 = nI h ∧ J 7 = nI len) ∧
  (en ≤ 6 ∧ n ≤ 60 ∧ k ≤ 3 * n ∧ h ≤ n ∧ len ≤ 1900) ∧ Fct S k n en sl fr to o c ∧ Dsj k sl fr to o c ∧ RowEq S T ∧ (T 1 = S 2 ∧ T 14 = S 15) ∧ (∀ j : Nat, 1 ≤ j → j ≤ n → T 2 j = nI (osl j / 3)) ∧ (∀ j : Nat, j < len → narrow .char (.int (S 15 j)) = .int (S 15 j)) ∧
  Gon (T 9) k h c ∧ (∀ i : Nat, k ≤ i → T 9 i = 0) ∧ Ops S n en osl ofr oto ∧ Rpl S k n sl fr to o c ofr oto
section NV
variable {I J : AI} {S T : AS} {en k n h len : Nat} {sl fr to o c osl ofr oto : Nat → Nat}
theorem Nv.civ (V : Nv I S J T en k n h len sl fr to o c osl ofr oto) : CIv I S k n h fr to ofr oto := by
  obtain ⟨⟨-, i1, i2, i3, -⟩, -, ⟨-, n1, n2, n3, -⟩, F, -, -, -, -, -, -, -, O, -⟩ := V
  refine ⟨i1, n1, i2, n2, i3, n3, fun i hi => ?_, fun j h1 h2 => ?_, fun j h1 h2 => ?_⟩
  · obtain ⟨-, f2, f3, -, -, -, f7, f8, -⟩ := F i hi
    exact ⟨f2, f3, by omega, f8⟩
  · obtain ⟨-, o2, o3, -, o5, o6, -⟩ := O j h1 h2
    exact ⟨o2, o3, o5, o6⟩
  · exact (O j h1 h2).2.2.2.2.2.2
theorem Nv.mfr (V : Nv I S J T en k n h len sl fr to o c osl ofr oto) : ∀ i : Nat, i < k → T 5 i = nI (fr i) ∧ T 6 i = nI (to i) ∧ fr i ≤ to i ∧ to i ≤ 100 := by
  obtain ⟨-, -, -, F, -, ⟨-, -, e5, e6, -⟩, -⟩ := V
  intro i hi
  obtain ⟨-, f2, f3, -, -, -, f7, f8, -⟩ := F i hi
  rw [e5, e6]
  exact ⟨f2, f3, by omega, f8⟩
/-- questions change nothing that is kept -/
theorem Nv.ask (V : Nv I S J T en k n h len sl fr to o c osl ofr oto) {I2 J2 : AI} {S2 T2 : AS} (h1 : scr I S I2 S2) (h2 : msc J T J2 T2) : Nv I2 S2 J2 T2 en k n h len sl fr to o c osl ofr oto := by
  obtain ⟨⟨i0, i1, i2, i3, i4⟩, ⟨j1, j2, j3, j4, j5, j7⟩, N, F, D, ⟨e3, e4, e5, e6, e7, e8⟩, ⟨t1, t14⟩, t2, ch, G, G0, O, R⟩ := V
  obtain ⟨a1, a2⟩ := h1
  obtain ⟨b1, b2⟩ := h2
  refine ⟨⟨by rw [a1 0 (by decide) (by decide)]; exact i0, by rw [a1 1 (by decide) (by decide)]; exact i1, by rw [a1 2 (by decide) (by decide)]; exact i2, by rw [a1 3 (by decide) (by decide)]; exact i3, by rw [a1 4 (by decide) (by decide)]; exact i4⟩,
    ⟨by rw [b1 1 (by decide) (by decide) (by decide) (by decide) (by decide)]; exact j1, by rw [b1 2 (by decide) (by decide) (by decide) (by decide) (by decide)]; exact j2, by rw [b1 3 (by decide) (by decide) (by decide) (by decide) (by decide)]; exact j3, by rw [b1 4 (by decide) (by decide) (by decide) (by decide) (by decide)]; exact j4, by rw [b1 5 (by decide) (by decide) (by decide) (by decide) (by decide)]; exact j5, by rw [b1 7 (by decide) (by decide) (by decide) (by decide) (by decide)]; exact j7⟩,
    N, ?_, D, ?_, ?_, ?_, ?_, ?_, ?_, ?_, ?_⟩
  · intro i hi
    rw [a2 8 (by decide), a2 10 (by decide), a2 11 (by decide), a2 12 (by decide), a2 13 (by decide)]
    exact F i hi
  · exact ⟨by rw [b2 3 (by decide), a2 8 (by decide)]; exact e3, by rw [b2 4 (by decide), a2 9 (by decide)]; exact e4, by rw [b2 5 (by decide), a2 10 (by decide)]; exact e5, by rw [b2 6 (by decide), a2 11 (by decide)]; exact e6, by rw [b2 7 (by decide), a2 12 (by decide)]; exact e7, by rw [b2 8 (by decide), a2 13 (by decide)]; exact e8⟩
  · exact ⟨by rw [b2 1 (by decide), a2 2 (by decide)]; exact t1, by rw [b2 14 (by decide), a2 15 (by decide)]; exact t14⟩
  · intro j h1 h2; rw [b2 2 (by decide)]; exact t2 j h1 h2
  · intro j hj; rw [a2 15 (by decide)]; exact ch j hj
  · rw [b2 9 (by decide)]; exact G
  · rw [b2 9 (by decide)]; exact G0
  · intro j h1 h2
    rw [a2 3 (by decide), a2 5 (by decide), a2 6 (by decide), a2 2 (by decide)]
    exact O j h1 h2
  · intro s t d hs ht hd f0 f1
    rw [rpKN_c (S := S) (fun q hq => a2 q hq), rpVN_c (S := S) (fun q hq => a2 q hq), a2 9 (by decide)]
    exact R s t d hs ht hd f0 f1
end NV
