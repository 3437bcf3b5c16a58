/-! sums over the entities -/
abbrev fqM (S : AS) (b t : Int32) (fr to : Nat → Nat) (k d i : Nat) : Int32 := lkM S (slM (nI i) b) t fr to k d
def tsM (S : AS) (b t : Int32) (fr to : Nat → Nat) (k d : Nat) : Nat → Int64
  | 0 => 0
  | i + 1 => tsM S b t fr to k d i + (if fqM S b t fr to k d i = -1 then 0 else (S 4 (fqM S b t fr to k d i).toNatClampNeg).toInt64)
theorem ts_t {S : AS} {b t : Int32} {fr to : Nat → Nat} {k d i : Nat} (h : fqM S b t fr to k d i = -1) : tsM S b t fr to k d (i + 1) = tsM S b t fr to k d i + 0 := by rw [tsM, if_pos h]
theorem ts_f {S : AS} {b t : Int32} {fr to : Nat → Nat} {k d i : Nat} (h : ¬ fqM S b t fr to k d i = -1) : tsM S b t fr to k d (i + 1) = tsM S b t fr to k d i + (S 4 (fqM S b t fr to k d i).toNatClampNeg).toInt64 := by rw [tsM, if_neg h]
def tmM (S : AS) (b t : Int32) (fr to : Nat → Nat) (k d : Nat) : Nat → Nat
  | 0 => 0
  | i + 1 => if fqM S b t fr to k d i = -1 then tmM S b t fr to k d i + 0 else tmM S b t fr to k d i + 1
theorem tm_t {S : AS} {b t : Int32} {fr to : Nat → Nat} {k d i : Nat} (h : fqM S b t fr to k d i = -1) : tmM S b t fr to k d (i + 1) = tmM S b t fr to k d i + 0 := by rw [tmM, if_pos h]
theorem tm_f {S : AS} {b t : Int32} {fr to : Nat → Nat} {k d i : Nat} (h : ¬ fqM S b t fr to k d i = -1) : tmM S b t fr to k d (i + 1) = tmM S b t fr to k d i + 1 := by rw [tmM, if_neg h]
theorem tm_le (S : AS) (b t : Int32) (fr to : Nat → Nat) (k d i : Nat) : tmM S b t fr to k d i ≤ i := by
  induction i with
  | zero => exact Nat.le_refl 0
  | succ i ih =>
    rw [tmM]
    split
    · omega
    · omega
/-- outside of int: the class's words are rngP -/
def outB (z : Int64) : Bool := decide (2147483647 < z) || decide (¬ -2147483648 ≤ z)
def tlM (S : AS) (b t : Int32) (fr to : Nat → Nat) (k d : Nat) : Nat → Bool
  | 0 => false
  | i + 1 => tlM S b t fr to k d i || outB (tsM S b t fr to k d (i + 1))
def bI (z : Bool) : Int32 := if z = true then 1 else 0
theorem bI_t {z : Bool} (h : ¬ bI z = 0) : z = true := by
  cases z
  · exact absurd rfl h
  · rfl
theorem bI_f {z : Bool} (h : bI z = 0) : z = false := by
  cases z
  · rfl
  · exact absurd h (by decide)
theorem tl_t {S : AS} {b t : Int32} {fr to : Nat → Nat} {k d i : Nat} (h : tlM S b t fr to k d (i + 1) = true) : (1 : Int32) = bI (tlM S b t fr to k d (i + 1)) := by rw [h]; rfl
theorem tl_f {S : AS} {b t : Int32} {fr to : Nat → Nat} {k d i : Nat} (h : tlM S b t fr to k d (i + 1) = false) : (0 : Int32) = bI (tlM S b t fr to k d (i + 1)) := by rw [h]; rfl
/-! a mean is a number -/
theorem fp_t : FP.Core.Fmt.tails FP.Core.b64 = 4503599627370496 := by decide +kernel
theorem fp_e : FP.Core.Fmt.exps FP.Core.b64 = 2048 := by decide +kernel
theorem fp_n : FP.Core.Fmt.qmin FP.Core.b64 = -1074 := by decide +kernel
theorem fp_x : FP.Core.Fmt.qmax FP.Core.b64 = 971 := by decide +kernel
theorem fp_p : (2 : Nat) ^ FP.Core.b64.p = 9007199254740992 := by decide +kernel
theorem fp_as (s : Bool) (e t : Nat) : FP.Core.assemble FP.Core.b64 s e t = (s.toNat * 2048 + e) * 4503599627370496 + t := by
  unfold FP.Core.assemble
  rw [fp_e, fp_t]
theorem fp_s (s : Bool) : s.toNat ≤ 1 := by cases s <;> decide
/-- a number as a rounding leaves it, with an exponent of at most x -/
def fpF (d : FP.Core.Datum) (x : Int) : Prop := ∃ (s : Bool) (c : Nat) (q : Int), d = .fin s c q ∧ c < 9007199254740992 ∧ q ≤ x
theorem fp_en {d : FP.Core.Datum} {x : Int} (h : fpF d x) (hx : x ≤ 971) : ∃ s e t : Nat, FP.Core.encode FP.Core.b64 d = (s * 2048 + e) * 4503599627370496 + t ∧ s ≤ 1 ∧ e ≤ 2046 ∧ t < 4503599627370496 := by
  obtain ⟨s, c, q, rfl, hc, hq⟩ := h
  unfold FP.Core.encode
  have hs := fp_s s
  by_cases h1 : c < FP.Core.b64.tails
  · refine ⟨s.toNat, 0, c, ?_, hs, by omega, by rw [← fp_t]; exact h1⟩
    show (if c < FP.Core.b64.tails then _ else _) = _
    rw [if_pos h1, fp_as]
  · refine ⟨s.toNat, (q - FP.Core.b64.qmin).toNat + 1, c - FP.Core.b64.tails, ?_, hs, by rw [fp_n]; omega, by rw [fp_t]; omega⟩
    show (if c < FP.Core.b64.tails then _ else _) = _
    rw [if_neg h1, fp_as]
theorem fp_inf (s : Bool) : FP.Core.encode FP.Core.b64 (.inf s) = (s.toNat * 2048 + 2047) * 4503599627370496 := by
  show FP.Core.assemble FP.Core.b64 s (FP.Core.b64.exps - 1) 0 = _
  rw [fp_as, fp_e]
  exact Nat.add_zero _
theorem vf_of {n : Nat} (h : ∃ s e t : Nat, n = (s * 2048 + e) * 4503599627370496 + t ∧ s ≤ 1 ∧ (e ≤ 2046 ∧ t < 4503599627370496 ∨ e = 2047 ∧ t = 0)) : vf_n64 (UInt64.ofNat n) := by
  obtain ⟨s, e, t, rfl, hs, h⟩ := h
  unfold vf_n64
  rw [UInt64.le_iff_toNat_le, UInt64.toNat_and, show (9223372036854775807 : UInt64).toNat = 2 ^ 63 - 1 from rfl, Nat.and_two_pow_sub_one_eq_mod, UInt64.toNat_ofNat', show (9218868437227405312 : UInt64).toNat = 9218868437227405312 from rfl]
  omega
theorem st_form (s : Bool) (c : Nat) (q : Int) : FP.Core.settle FP.Core.b64 s c q = .inf s ∨ fpF (FP.Core.settle FP.Core.b64 s c q) 971 := by
  unfold FP.Core.settle FP.Core.bound
  rw [fp_p, fp_x, fp_t]
  split
  · split
    · exact Or.inr ⟨s, c, q, rfl, by omega, by omega⟩
    · exact Or.inl rfl
  · split
    · exact Or.inr ⟨s, _, _, rfl, by omega, by omega⟩
    · exact Or.inl rfl
theorem st_fin (s : Bool) (c : Nat) {q x : Int} (h : q < x) (hx : x ≤ 971) : fpF (FP.Core.settle FP.Core.b64 s c q) x := by
  unfold FP.Core.settle FP.Core.bound
  rw [fp_p, fp_x, fp_t]
  split
  · rw [if_pos (by omega)]
    exact ⟨s, c, q, rfl, by omega, by omega⟩
  · rw [if_pos (by omega)]
    exact ⟨s, _, _, rfl, by omega, by omega⟩
theorem rr_vf (s : Bool) (A B : Nat) (e : Int) : vf_n64 (UInt64.ofNat (FP.Core.encode FP.Core.b64 (FP.Core.roundRatio FP.Core.b64 s A B e))) := by
  have key : FP.Core.roundRatio FP.Core.b64 s A B e = .inf s ∨ fpF (FP.Core.roundRatio FP.Core.b64 s A B e) 971 := by
    unfold FP.Core.roundRatio
    split
    · exact Or.inr ⟨s, 0, _, rfl, by omega, by rw [fp_n]; omega⟩
    · exact st_form _ _ _
  refine vf_of ?_
  rcases key with h | h
  · rw [h, fp_inf]
    exact ⟨s.toNat, 2047, 0, (Nat.add_zero _).symm, fp_s s, Or.inr ⟨rfl, rfl⟩⟩
  · obtain ⟨s', e', t, h1, h2, h3, h4⟩ := fp_en h (Int.le_refl _)
    exact ⟨s', e', t, h1, h2, Or.inl ⟨h3, h4⟩⟩
theorem dc_fin {n : Nat} (h : ∃ s e t : Nat, n = (s * 2048 + e) * 4503599627370496 + t ∧ s ≤ 1 ∧ e ≤ 2046 ∧ t < 4503599627370496) : ∃ (s : Bool) (c : Nat) (q : Int), FP.Core.decode FP.Core.b64 n = .fin s c q := by
  obtain ⟨s, e, t, rfl, hs, he, ht⟩ := h
  have hE : FP.Core.fieldE FP.Core.b64 ((s * 2048 + e) * 4503599627370496 + t) = e := by
    unfold FP.Core.fieldE
    rw [fp_t, fp_e]
    omega
  unfold FP.Core.decode
  rw [hE, fp_e, if_neg (by omega)]
  split
  · exact ⟨_, _, _, rfl⟩
  · exact ⟨_, _, _, rfl⟩
theorem ld_le {A : Nat} (hA : A < 2 ^ 64) (h0 : A ≠ 0) : FP.Core.leading A 1 ≤ 63 := by
  have h1 : A.log2 < 64 := (Nat.log2_lt h0).mpr hA
  have h2 : Nat.log2 1 = 0 := by decide
  unfold FP.Core.leading
  rw [h2]
  dsimp only
  split
  · omega
  · omega
theorem l2d_f (a : Int64) : ∃ (s : Bool) (c : Nat) (q : Int), FP.Core.decode FP.Core.b64 (FP.l2d a).toNat = .fin s c q := by
  have hA : a.toInt.natAbs < 2 ^ 64 := by
    have h1 := a.toInt_lt
    have h2 := a.le_toInt
    omega
  have key : fpF (FP.Core.round FP.Core.b64 (FP.Core.ofInt a.toInt)) 971 := by
    show fpF (FP.Core.roundRatio FP.Core.b64 (decide (a.toInt < 0)) a.toInt.natAbs 1 0) 971
    unfold FP.Core.roundRatio
    by_cases h0 : a.toInt.natAbs = 0
    · rw [if_pos h0]
      exact ⟨_, 0, _, rfl, by omega, by rw [fp_n]; omega⟩
    · rw [if_neg h0]
      refine st_fin _ _ ?_ (Int.le_refl _)
      have h1 := ld_le hA h0
      unfold FP.Core.quantum
      rw [fp_n]
      have h2 : ((FP.Core.b64.p : Nat) : Int) = 53 := rfl
      rw [h2]
      omega
  have hn := fp_en key (Int.le_refl _)
  have e1 : (FP.l2d a).toNat = FP.Core.encode FP.Core.b64 (FP.Core.round FP.Core.b64 (FP.Core.ofInt a.toInt)) := by
    show (UInt64.ofNat (FP.Core.encode FP.Core.b64 (FP.Core.round FP.Core.b64 (FP.Core.ofInt a.toInt)))).toNat = _
    rw [UInt64.toNat_ofNat']
    obtain ⟨s, e, t, h1, h2, h3, h4⟩ := hn
    rw [h1]
    omega
  rw [e1]
  exact dc_fin hn
/-- a mean of 1 to 6 numbers is a number -/
theorem dv_ok (a : Int64) {n : Nat} (h : 1 ≤ n) (h6 : n ≤ 6) : vf_n64 (FP.ddiv (FP.l2d a) (FP.i2d (nI n))) := by
  have key : ∃ (c : Nat) (q : Int), FP.Core.decode FP.Core.b64 (FP.i2d (nI n)).toNat = .fin false c q ∧ c ≠ 0 := by
    have hn : n = 1 ∨ n = 2 ∨ n = 3 ∨ n = 4 ∨ n = 5 ∨ n = 6 := by omega
    rcases hn with rfl | rfl | rfl | rfl | rfl | rfl
    · exact ⟨2 ^ 52, -52, by decide +kernel, by decide⟩
    · exact ⟨2 ^ 52, -51, by decide +kernel, by decide⟩
    · exact ⟨3 * 2 ^ 51, -51, by decide +kernel, by decide⟩
    · exact ⟨2 ^ 52, -50, by decide +kernel, by decide⟩
    · exact ⟨5 * 2 ^ 50, -50, by decide +kernel, by decide⟩
    · exact ⟨3 * 2 ^ 51, -50, by decide +kernel, by decide⟩
  obtain ⟨c2, q2, e2, hc2⟩ := key
  obtain ⟨s1, c1, q1, e1⟩ := l2d_f a
  show vf_n64 (UInt64.ofNat (FP.Core.encode FP.Core.b64 (FP.Core.quotient FP.Core.b64 (FP.Core.decode FP.Core.b64 (FP.l2d a).toNat) (FP.Core.decode FP.Core.b64 (FP.i2d (nI n)).toNat))))
  rw [e1, e2]
  show vf_n64 (UInt64.ofNat (FP.Core.encode FP.Core.b64 (if c2 = 0 then _ else FP.Core.roundRatio FP.Core.b64 (s1 != false) c1 c2 (q1 - q2))))
  rw [if_neg hc2]
  exact rr_vf _ _ _ _
/-! ends with a double -/
def rdD (post : UInt64 → Prop) : Array Value → State → Outcome → State → Prop := fun _ st oc t => ∃ r : UInt64, oc = .returned (some (.double r)) ∧ post r ∧ t.heap = st.heap
section DBL
variable {p : Program} {l : Launch} {e : Env} {R : Room} {s : State} {m : MethodId} {args : Array Value} {below : List Frame} {meth : Method} {c : Code} {H : Heap} {locs : List Loc} {cells slots : Nat} {Q : State → Prop}
variable {cc : ByteArray} {pc : Nat} {ls : Array Slot} {D : va_G} {A : Nat → Prop} {mc ms : Nat}
theorem wD_ret {S : Type} {post : UInt64 → S → Prop} {Wn : S → va_W} {v : UInt64} (u : S) (hS : va_S A s.heap H locs) (hP : va_P D clW (Wn u) H) (hx : p.tables.exec = Jvm.exec) (hb : c.code = cc) (hr : meth.sig.returnType = some .double) (hlocks : meth.locks = false) (hdg : decode cc pc = .ok (.dreturn, 1)) (h1 : cells ≤ mc) (h2 : slots ≤ ms) (hQ : Q = MQ below (va_Qd post (fun u t => va_P D clW (Wn u) t.heap) A) args s mc ms A) (hp : post v u) : W p l e R s m args below meth c H locs cells slots Q (F0 m pc ls [.double v]) := hQ ▸
  W.widen h1 h2 (W.dret hx hb hr (fun t ht _ => ⟨⟨v, u, rfl, hp, by show va_P D clW (Wn u) t.heap; rw [ht]; exact hP⟩, hS.F ht⟩) hS.2.2 hdg hlocks)
theorem xD_ret {post : UInt64 → Prop} {v : UInt64} {XC : String → State → State → Prop} (hx : p.tables.exec = Jvm.exec) (hb : c.code = cc) (hr : meth.sig.returnType = some .double) (hlocks : meth.locks = false) (hdg : decode cc pc = .ok (.dreturn, 1)) (hQ : Q = vx_MQ below (rdD post) XC args s mc ms noA) (hp : post v) (h1 : cells ≤ mc) (h2 : slots ≤ ms) : W p l e R s m args below meth c s.heap [] cells slots Q (F0 m pc ls [.double v]) := hQ ▸
  vx_ret (W.widen h1 h2 (W.dret hx hb hr (fun t ht _ => ⟨v, rfl, hp, ht⟩) (fun _ h => by cases h) hdg hlocks))
end DBL
