/-! PURE: operations, on both sides -/
theorem gc_ext {c : Nat → Nat} {h k q : Nat} (hkq : k ≤ q) (hz : ∀ i : Nat, k ≤ i → i < q → c i = 0) : gcN c h q = gcN c h k := by
  induction q with
  | zero => rw [show k = 0 by omega]
  | succ q ih =>
    by_cases e : k = q + 1
    · rw [e]
    · rw [gcN, ih (by omega) (fun i h1 h2 => hz i h1 (by omega)), if_neg (fun z => z.1 (hz q (by omega) (by omega)))]
      rfl
section OPS
variable {I J : AI} {S T : AS} {en k n h len : Nat} {sl fr to o c osl ofr oto : Nat → Nat}
theorem op_nv (V : Nv I S J T en k n h len sl fr to o c osl ofr oto) (hn : n < 60) {xx bb a b k' : Nat} (hx : xx < en) (hbb : bb < 3) (hab : a < b) (hb : b ≤ 100) {z v : Int32} {I' J' : AI} {S' T' : AS} {sl' fr' to' o' c' : Nat → Nat} {C : Nat → Int32 → Prop}
    (M : Mid S S' k k' n en (3 * xx + bb) sl fr to o c sl' fr' to' o' c' C) (hk' : k' ≤ k + 3)
    (hC : ∀ (d : Nat) (w : Int32), d < 100 → (C d w ↔ (¬ (a ≤ d ∧ d < b) ∧ ∃ i : Nat, i < k ∧ hitN sl fr to o c (3 * xx + bb) n d i ∧ S 9 i = w) ∨ (¬ z = 114 ∧ a ≤ d ∧ d < b ∧ w = v)))
    (hz : narrow .char (.int z) = .int z)
    (hI : I' 0 = I 0 ∧ I' 1 = nI (n + 1) ∧ I' 2 = nI k' ∧ I' 3 = I 3 ∧ I' 4 = I 4)
    (hJ : J' 1 = J 1 ∧ J' 2 = nI (n + 1) ∧ J' 3 = nI k' ∧ J' 4 = J 4 ∧ J' 5 = J 5 ∧ J' 7 = J 7)
    (hS : S' 2 = upd (S 2) (n + 1) z ∧ S' 3 = upd (S 3) (n + 1) (nI (3 * xx + bb)) ∧ S' 4 = upd (S 4) (n + 1) v ∧ S' 5 = upd (S 5) (n + 1) (nI a) ∧ S' 6 = upd (S 6) (n + 1) (nI b) ∧ S' 15 = S 15)
    (hT : T' 1 = upd (T 1) (n + 1) z ∧ T' 2 = upd (T 2) (n + 1) (nI xx) ∧ T' 9 = T 9 ∧ T' 14 = T 14) (E : RowEq S' T') :
    Nv I' S' J' T' en k' (n + 1) h len sl' fr' to' o' c' (updN osl (n + 1) (3 * xx + bb)) (updN ofr (n + 1) a) (updN oto (n + 1) b) := by
  obtain ⟨⟨i0, i1, i2, i3, i4⟩, ⟨j1, j2, j3, j4, j5, j7⟩, ⟨n0, n1, n2, n3, n4⟩, F, D, -, ⟨t1, t14⟩, t2, ch, G, G0, O, R⟩ := V
  obtain ⟨s2, s3, s4, s5, s6, s15⟩ := hS
  obtain ⟨u1, u2, u9, u14⟩ := hT
  have M' := M
  obtain ⟨F', D', m3, m4, m5, m6, m7, m8, m9⟩ := M'
  have gone : ∀ i : Nat, i < k → (c' i ≠ 0 ∧ c' i ≤ h ↔ c i ≠ 0 ∧ c i ≤ h) := by
    intro i hi
    obtain ⟨a1, a2⟩ := m9 i hi
    by_cases e : c i = 0
    · rcases a2 e with e2 | e2
      · rw [e2, e]
      · rw [e2, e]
        constructor
        · intro w; omega
        · intro w; exact absurd rfl w.1
    · rw [a1 e]
  have gcc : gcN c' h k' = gcN c h k := (gc_ext m3 (fun i h1 h2 => (m6 i h1 h2).2.2)).trans (gc_c gone)
  refine ⟨⟨hI.1.trans i0, hI.2.1, hI.2.2.1, hI.2.2.2.1.trans i3, hI.2.2.2.2.trans i4⟩, ⟨hJ.1.trans j1, hJ.2.1, hJ.2.2.1, by rw [gcc]; exact hJ.2.2.2.1.trans j4, hJ.2.2.2.2.1.trans j5, hJ.2.2.2.2.2.trans j7⟩, ⟨n0, by omega, by omega, by omega, n4⟩, F', D', E, ⟨by rw [u1, s2, t1], by rw [u14, s15, t14]⟩, ?_, ?_, ?_, ?_, ?_, ?_⟩
  · intro j h1 h2
    rw [u2]
    by_cases e : j = n + 1
    · rw [e, pk_us, un_s]
      congr 1
      omega
    · rw [pk_un e, un_n e]
      exact t2 j h1 (by omega)
  · intro j hj; rw [s15]; exact ch j hj
  · intro i hi
    rw [u9]
    by_cases e : i < k
    · rw [G i e]
      by_cases e2 : c i ≠ 0 ∧ c i ≤ h
      · rw [if_pos e2, if_pos ((gone i e).mpr e2)]
      · rw [if_neg e2, if_neg (fun w => e2 ((gone i e).mp w))]
    · rw [G0 i (by omega), if_neg (fun w => w.1 (m6 i (by omega) hi).2.2)]
  · intro i hi; rw [u9]; exact G0 i (by omega)
  · intro j h1 h2
    rw [s3, s5, s6, s2]
    by_cases e : j = n + 1
    · subst e
      rw [pk_us, pk_us, pk_us, pk_us, un_s, un_s, un_s]
      exact ⟨rfl, rfl, rfl, by omega, by omega, hb, hz⟩
    · rw [pk_un e, pk_un e, pk_un e, pk_un e, un_n e, un_n e, un_n e]
      exact O j h1 (by omega)
  · exact rpl_step (osl := osl) R M (by omega) ⟨s2, s3, s4⟩ hC
abbrev opI (I I2 : AI) (n k2 : Nat) : AI := va_up (va_up (va_up I 1 (nI (n + 1))) 2 (nI (k2 + 1))) 3 (I2 3)
abbrev opS (S S2 : AS) (n k2 : Nat) (z s v a b : Int32) : AS := va_up (va_up (va_up (va_up (va_up (va_up (va_up (va_up (va_up (va_up (va_up S 2 (upd (S 2) (n + 1) z)) 3 (upd (S 3) (n + 1) s)) 4 (upd (S 4) (n + 1) v)) 5 (upd (S 5) (n + 1) a)) 6 (upd (S 6) (n + 1) b)) 8 (upd (S2 8) k2 s)) 9 (upd (S2 9) k2 v)) 10 (upd (S2 10) k2 a)) 11 (upd (S2 11) k2 b)) 12 (upd (S2 12) k2 (nI (n + 1)))) 13 (upd (S2 13) k2 (-1))
abbrev rtI (I I2 : AI) (n : Nat) : AI := va_up (va_up (va_up I 1 (nI (n + 1))) 2 (I2 2)) 3 (I2 3)
abbrev rtS (S S2 : AS) (n : Nat) (s a b : Int32) : AS := va_up (va_up (va_up (va_up (va_up (va_up (va_up (va_up (va_up (va_up (va_up S 2 (upd (S 2) (n + 1) 114)) 3 (upd (S 3) (n + 1) s)) 4 (upd (S 4) (n + 1) 0)) 5 (upd (S 5) (n + 1) a)) 6 (upd (S 6) (n + 1) b)) 8 (S2 8)) 9 (S2 9)) 10 (S2 10)) 11 (S2 11)) 12 (S2 12)) 13 (S2 13)
theorem dd_n {d d2 : Int32} (q : ddP d d2) : ∃ a b : Nat, a < b ∧ b ≤ 100 ∧ d = nI a ∧ d2 = nI b := da_of ((dd_iff d d2).mp q)
theorem n60 (V : Nv I S J T en k n h len sl fr to o c osl ofr oto) : I 1 < 60 ↔ n < 60 := by
  have hN := V.2.2.1
  rw [V.1.2.1, show (60 : Int32) = nI 60 from rfl, nI_ltI (by omega) (by omega)]
theorem clearP_3 {I : AI} {S : AS} {sl a b t : Int32} {k : Nat} {I2 : AI} {S2 : AS} (h : clearP I S sl a b t k I2 S2) : I2 3 = I 3 := by
  rcases h with ⟨-, -, rfl, -⟩ | ⟨j, -, -, -, rfl, -⟩ | ⟨j, -, -, -, rfl, -⟩ | ⟨j, j2, -, -, -, -, rfl, -⟩
  · rfl
  · rfl
  · rfl
  · rfl
/-- tell -/
abbrev tlOK (I : AI) (S : AS) (n k : Nat) (x b v d d2 : Int32) (r val : Int32) (I' : AI) (S' : AS) : Prop := r = 0 ∧ ∃ (I2 : AI) (S2 : AS) (k2 : Nat), val = cnN (addS S n 116 (slI x b) v d d2) (slI x b) d d2 k ∧ clearP (addI I n) (addS S n 116 (slI x b) v d d2) (slI x b) d d2 (nI (n + 1)) k I2 S2 ∧ k ≤ k2 ∧ k2 ≤ k + 2 ∧ I2 2 = nI k2 ∧ I2 3 = I 3 ∧ plP (I 0) x b ∧ ddP d d2 ∧ I 1 < 60 ∧ I' = opI I I2 n k2 ∧ S' = opS S S2 n k2 116 (slI x b) v d d2
abbrev tlC (I : AI) (S : AS) (n k : Nat) (x b v d d2 : Int32) (r val : Int32) (I' : AI) (S' : AS) : Prop := tlOK I S n k x b v d d2 r val I' S' ∨ (r = 1 ∧ ¬ plP (I 0) x b ∧ scr I S I' S') ∨ (r = 2 ∧ (plP (I 0) x b ∧ ¬ ddP d d2) ∧ scr I S I' S') ∨ (r = 3 ∧ (plP (I 0) x b ∧ ddP d d2 ∧ ¬ I 1 < 60) ∧ scr I S I' S')
abbrev tlMo (J : AI) (T : AS) (n k mm : Nat) (x b v d d2 w : Int32) (J' : AI) (T' : AS) : Prop := (tfC J n x b d d2 = 0 ∧ w = nI mm ∧ ∃ (k2 : Nat) (S3 : AS), clQ (bgS T n 116 x) k (slM x b) d d2 (nI (n + 1)) mm = (k2, S3) ∧ J' = va_up (va_up (va_up J 0 0) 2 (nI (n + 1))) 3 (nI (k2 + 1)) ∧ T' = opM S3 k2 (slM x b) v d d2 (nI (n + 1))) ∨ (¬ tfC J n x b d d2 = 0 ∧ J' = va_up J 0 (tfC J n x b d d2) ∧ T' = T)
/-- retract -/
abbrev rtOK (I : AI) (S : AS) (n k : Nat) (x b d d2 : Int32) (r val : Int32) (I' : AI) (S' : AS) : Prop := r = 0 ∧ ∃ (I2 : AI) (S2 : AS), val = cdN S (slI x b) d d2 (nI n) k ∧ clearP (addI I n) (addS S n 114 (slI x b) 0 d d2) (slI x b) d d2 (nI (n + 1)) k I2 S2 ∧ plP (I 0) x b ∧ ddP d d2 ∧ ¬ cdN S (slI x b) d d2 (nI n) k = 0 ∧ I 1 < 60 ∧ I' = rtI I I2 n ∧ S' = rtS S S2 n (slI x b) d d2
abbrev rtC (I : AI) (S : AS) (n k : Nat) (x b d d2 : Int32) (r val : Int32) (I' : AI) (S' : AS) : Prop := rtOK I S n k x b d d2 r val I' S' ∨ (r = 1 ∧ ¬ plP (I 0) x b ∧ scr I S I' S') ∨ (r = 2 ∧ (plP (I 0) x b ∧ ¬ ddP d d2) ∧ scr I S I' S') ∨ (r = 3 ∧ (plP (I 0) x b ∧ ddP d d2 ∧ cdN S (slI x b) d d2 (nI n) k = 0) ∧ scr I S I' S') ∨ (r = 4 ∧ (plP (I 0) x b ∧ ddP d d2 ∧ ¬ cdN S (slI x b) d d2 (nI n) k = 0 ∧ ¬ I 1 < 60) ∧ scr I S I' S')
abbrev rtT (T : AS) (n k : Nat) (fr to : Nat → Nat) (x b : Int32) : AS := bgS (va_up T 10 (lkN T (slM x b) (nI n) fr to (T 10) k)) n 114 x
abbrev rtMo (J : AI) (T : AS) (n k mm : Nat) (fr to : Nat → Nat) (x b d d2 w : Int32) (J' : AI) (T' : AS) : Prop := (rfC J n x b d d2 (rdays T (slM x b) n fr to k d d2) = 0 ∧ w = rdays T (slM x b) n fr to k d d2 ∧ ∃ (k2 : Nat) (S3 : AS), clQ (rtT T n k fr to x b) k (slM x b) d d2 (nI (n + 1)) mm = (k2, S3) ∧ J' = va_up (va_up (va_up J 0 0) 2 (nI (n + 1))) 3 (nI k2) ∧ T' = S3) ∨ (¬ rfC J n x b d d2 (rdays T (slM x b) n fr to k d d2) = 0 ∧ J' 0 = rfC J n x b d d2 (rdays T (slM x b) n fr to k d d2) ∧ msc J T J' T')
/-- correct -/
abbrev coOK (I : AI) (S : AS) (n k : Nat) (x b d v : Int32) (r val : Int32) (I' : AI) (S' : AS) : Prop := r = 0 ∧ ∃ (I2 : AI) (S2 : AS) (k2 j : Nat), val = S 11 j - S 10 j ∧ clearP (addI I n) (addS S n 99 (slI x b) v (S 10 j) (S 11 j)) (slI x b) (S 10 j) (S 11 j) (nI (n + 1)) k I2 S2 ∧ k ≤ k2 ∧ k2 ≤ k + 2 ∧ I2 2 = nI k2 ∧ I2 3 = I 3 ∧ j < k ∧ fndN S (slI x b) d (nI n) k = nI j ∧ plP (I 0) x b ∧ dyP d ∧ I 1 < 60 ∧ I' = opI I I2 n k2 ∧ S' = opS S S2 n k2 99 (slI x b) v (S 10 j) (S 11 j)
abbrev coC (I : AI) (S : AS) (n k : Nat) (x b d v : Int32) (r val : Int32) (I' : AI) (S' : AS) : Prop := coOK I S n k x b d v r val I' S' ∨ (r = 1 ∧ ¬ plP (I 0) x b ∧ scr I S I' S') ∨ (r = 2 ∧ (plP (I 0) x b ∧ ¬ dyP d) ∧ scr I S I' S') ∨ (r = 3 ∧ (plP (I 0) x b ∧ dyP d ∧ fndN S (slI x b) d (nI n) k = -1) ∧ scr I S I' S') ∨ (r = 4 ∧ (plP (I 0) x b ∧ dyP d ∧ ¬ fndN S (slI x b) d (nI n) k = -1 ∧ ¬ I 1 < 60) ∧ scr I S I' S')
abbrev coMo (J : AI) (T : AS) (n k : Nat) (x b d v w : Int32) (J' : AI) (T' : AS) : Prop := (cfC J n x b d (mtN T (slM x b) d (d + 1) 62 k) = 0 ∧ ∃ j : Nat, j < k ∧ mtN T (slM x b) d (d + 1) 62 k = nI j ∧ w = T 6 j - T 5 j ∧ J' = va_up (va_up (va_up J 0 0) 2 (nI (n + 1))) 3 (nI (k + 1)) ∧ T' = opM (cdM (bgS T n 99 x) j (nI (n + 1))) k (T 3 j) v (T 5 j) (T 6 j) (nI (n + 1))) ∨ (¬ cfC J n x b d (mtN T (slM x b) d (d + 1) 62 k) = 0 ∧ J' = va_up J 0 (cfC J n x b d (mtN T (slM x b) d (d + 1) 62 k)) ∧ T' = T)
end OPS
