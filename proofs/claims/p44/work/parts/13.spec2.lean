/-! long compares with the branch behind them -/
section LC
variable {p : Program} {l : Launch} {e : Env} {R : Room} {s : State} {m : MethodId} {args : Array Value} {below : List Frame} {meth : Method} {c : Code} {H : Heap} {locs : List Loc} {cells slots : Nat} {Q : State → Prop}
variable {cc : ByteArray} {pc : Nat} {ls : Array Slot} {rest : List Value} {x y : Int64} {off : Int} {tgt : Nat}
theorem lc_ge (hx : p.tables.exec = Jvm.exec) (hb : c.code = cc) (d1 : decode cc pc = .ok (.lcmp, 1)) (d2 : decode cc (pc + 1) = .ok (.ifCond .ge off, 3)) (ht : ((pc + 1 : Nat) : Int) + off = (tgt : Int)) (kt : y ≤ x → W p l e R s m args below meth c H locs cells slots Q (F0 m tgt ls rest)) (kf : ¬ y ≤ x → W p l e R s m args below meth c H locs cells slots Q (F0 m (pc + 1 + 3) ls rest)) : W p l e R s m args below meth c H locs cells slots Q (F0 m pc ls (.long y :: .long x :: rest)) :=
  W.lcmp hx hb d1 (lv_if_ge hx hb d2 ht (fun h => kt ((lg_cmp_ge x y).mp h)) (fun h => kf (fun q => h ((lg_cmp_ge x y).mpr q))))
theorem lc_le (hx : p.tables.exec = Jvm.exec) (hb : c.code = cc) (d1 : decode cc pc = .ok (.lcmp, 1)) (d2 : decode cc (pc + 1) = .ok (.ifCond .le off, 3)) (ht : ((pc + 1 : Nat) : Int) + off = (tgt : Int)) (kt : x ≤ y → W p l e R s m args below meth c H locs cells slots Q (F0 m tgt ls rest)) (kf : ¬ x ≤ y → W p l e R s m args below meth c H locs cells slots Q (F0 m (pc + 1 + 3) ls rest)) : W p l e R s m args below meth c H locs cells slots Q (F0 m pc ls (.long y :: .long x :: rest)) :=
  W.lcmp hx hb d1 (lv_if_le hx hb d2 ht (fun h => kt ((lg_cmp_le x y).mp h)) (fun h => kf (fun q => h ((lg_cmp_le x y).mpr q))))
theorem lc_gt (hx : p.tables.exec = Jvm.exec) (hb : c.code = cc) (d1 : decode cc pc = .ok (.lcmp, 1)) (d2 : decode cc (pc + 1) = .ok (.ifCond .gt off, 3)) (ht : ((pc + 1 : Nat) : Int) + off = (tgt : Int)) (kt : y < x → W p l e R s m args below meth c H locs cells slots Q (F0 m tgt ls rest)) (kf : ¬ y < x → W p l e R s m args below meth c H locs cells slots Q (F0 m (pc + 1 + 3) ls rest)) : W p l e R s m args below meth c H locs cells slots Q (F0 m pc ls (.long y :: .long x :: rest)) :=
  W.lcmp hx hb d1 (lv_if_gt hx hb d2 ht (fun h => kt ((lg_cmp_gt x y).mp h)) (fun h => kf (fun q => h ((lg_cmp_gt x y).mpr q))))
theorem lc_lt (hx : p.tables.exec = Jvm.exec) (hb : c.code = cc) (d1 : decode cc pc = .ok (.lcmp, 1)) (d2 : decode cc (pc + 1) = .ok (.ifCond .lt off, 3)) (ht : ((pc + 1 : Nat) : Int) + off = (tgt : Int)) (kt : x < y → W p l e R s m args below meth c H locs cells slots Q (F0 m tgt ls rest)) (kf : ¬ x < y → W p l e R s m args below meth c H locs cells slots Q (F0 m (pc + 1 + 3) ls rest)) : W p l e R s m args below meth c H locs cells slots Q (F0 m pc ls (.long y :: .long x :: rest)) :=
  W.lcmp hx hb d1 (lv_if_lt hx hb d2 ht (fun h => kt ((lg_cmp_lt x y).mp h)) (fun h => kf (fun q => h ((lg_cmp_lt x y).mpr q))))
theorem lc_eq (hx : p.tables.exec = Jvm.exec) (hb : c.code = cc) (d1 : decode cc pc = .ok (.lcmp, 1)) (d2 : decode cc (pc + 1) = .ok (.ifCond .eq off, 3)) (ht : ((pc + 1 : Nat) : Int) + off = (tgt : Int)) (kt : x = y → W p l e R s m args below meth c H locs cells slots Q (F0 m tgt ls rest)) (kf : ¬ x = y → W p l e R s m args below meth c H locs cells slots Q (F0 m (pc + 1 + 3) ls rest)) : W p l e R s m args below meth c H locs cells slots Q (F0 m pc ls (.long y :: .long x :: rest)) :=
  W.lcmp hx hb d1 (lv_if_eq hx hb d2 ht (fun h => kt ((lg_cmp_eq x y).mp h)) (fun h => kf (fun q => h ((lg_cmp_eq x y).mpr q))))
theorem lc_ne (hx : p.tables.exec = Jvm.exec) (hb : c.code = cc) (d1 : decode cc pc = .ok (.lcmp, 1)) (d2 : decode cc (pc + 1) = .ok (.ifCond .ne off, 3)) (ht : ((pc + 1 : Nat) : Int) + off = (tgt : Int)) (kt : ¬ x = y → W p l e R s m args below meth c H locs cells slots Q (F0 m tgt ls rest)) (kf : x = y → W p l e R s m args below meth c H locs cells slots Q (F0 m (pc + 1 + 3) ls rest)) : W p l e R s m args below meth c H locs cells slots Q (F0 m pc ls (.long y :: .long x :: rest)) :=
  W.lcmp hx hb d1 (lv_if_ne hx hb d2 ht (fun h => kt (fun q => h ((lg_cmp_eq x y).mpr q))) (fun h => kf ((lg_cmp_eq x y).mp h)))
end LC
/-! the first hit among k facts, as a function -/
def fndN (S : AS) (sl d t : Int32) : Nat → Int32
  | 0 => -1
  | n + 1 => if fndN S sl d t n = -1 then (if hitP S sl d t n then nI n else -1) else fndN S sl d t n
theorem fnd0 {S : AS} {sl d t : Int32} {k : Nat} (h : ∀ j : Nat, j < k → ¬ hitP S sl d t j) : fndN S sl d t k = -1 := by
  induction k with
  | zero => rfl
  | succ k ih =>
    rw [fndN, if_pos (ih (fun j hj => h j (by omega))), if_neg (h k (by omega))]
theorem fnd1 {S : AS} {sl d t : Int32} {k i : Nat} (hk : k ≤ 180) (hi : i < k) (h1 : hitP S sl d t i) (h : ∀ j : Nat, j < i → ¬ hitP S sl d t j) : fndN S sl d t k = nI i := by
  induction k with
  | zero => omega
  | succ k ih =>
    by_cases e : i = k
    · subst e
      rw [fndN, if_pos (fnd0 h), if_pos h1]
    · have h3 := ih (by omega) (by omega)
      rw [fndN, if_neg (by rw [h3]; exact nI_m1 (by omega)), h3]
theorem fndP_eq {S : AS} {sl d t : Int32} {k : Nat} {r : Int32} (hk : k ≤ 180) (h : fndP S sl d t k r) : fndN S sl d t k = r := by
  rcases h with ⟨i, hi, rfl, h1, h2⟩ | ⟨rfl, h⟩
  · exact fnd1 hk hi h1 h2
  · exact fnd0 h
/-! versions: whether known (0, 1) and with what at the tick i; how many, their ticks, known, values behind m ticks from h on -/
def vkN (S : AS) (sl d : Int32) (k i : Nat) : Int32 := if fndN S sl d (nI i) k = -1 then 0 else 1
def vvN (S : AS) (sl d : Int32) (k i : Nat) : Int32 := if fndN S sl d (nI i) k = -1 then 0 else S 9 (fndN S sl d (nI i) k).toNatClampNeg
theorem vk_0 {S : AS} {sl d : Int32} {k i : Nat} (h : fndN S sl d (nI i) k = -1) : vkN S sl d k i = 0 := by rw [vkN, if_pos h]
theorem vv_0 {S : AS} {sl d : Int32} {k i : Nat} (h : fndN S sl d (nI i) k = -1) : vvN S sl d k i = 0 := by rw [vvN, if_pos h]
theorem vk_1 {S : AS} {sl d : Int32} {k i j : Nat} (hj : j < 180) (h : fndN S sl d (nI i) k = nI j) : vkN S sl d k i = 1 := by rw [vkN, h, if_neg (nI_m1 (by omega))]
theorem vv_1 {S : AS} {sl d : Int32} {k i j : Nat} (hj : j < 180) (h : fndN S sl d (nI i) k = nI j) : vvN S sl d k i = S 9 j := by rw [vvN, h, if_neg (nI_m1 (by omega)), nI_clamp (by omega)]
abbrev VSt : Type := Nat × (Nat → Int32) × (Nat → Int32) × (Nat → Int32)
abbrev lastK (q : VSt) : Int32 := if q.2.2.1 (q.1 - 1) = 0 then 0 else 1
abbrev lastV (q : VSt) : Int32 := if q.2.2.1 (q.1 - 1) = 0 then 0 else q.2.2.2 (q.1 - 1)
def vsS (S : AS) (sl d : Int32) (k h : Nat) (F0 K0 V0 : Nat → Int32) : Nat → VSt
  | 0 => (0, F0, K0, V0)
  | m + 1 =>
    let q := vsS S sl d k h F0 K0 V0 m
    if q.1 = 0 ∨ ¬ lastK q = vkN S sl d k (h + m) ∨ ¬ lastV q = vvN S sl d k (h + m) then (q.1 + 1, upd q.2.1 q.1 (nI (h + m)), upd q.2.2.1 q.1 (vkN S sl d k (h + m)), upd q.2.2.2 q.1 (vvN S sl d k (h + m))) else q
theorem vsS_le (S : AS) (sl d : Int32) (k h : Nat) (F0 K0 V0 : Nat → Int32) (m : Nat) : (vsS S sl d k h F0 K0 V0 m).1 ≤ m := by
  induction m with
  | zero => exact Nat.le_refl 0
  | succ m ih =>
    simp only [vsS]
    split
    · exact Nat.succ_le_succ ih
    · exact Nat.le_succ_of_le ih
theorem vsS_a {S : AS} {sl d : Int32} {k h : Nat} {F0 K0 V0 : Nat → Int32} {m : Nat} {kx vx : Int32} (hk : vkN S sl d k (h + m) = kx) (hv : vvN S sl d k (h + m) = vx) (hc : (vsS S sl d k h F0 K0 V0 m).1 = 0 ∨ ¬ lastK (vsS S sl d k h F0 K0 V0 m) = kx ∨ ¬ lastV (vsS S sl d k h F0 K0 V0 m) = vx) :
    vsS S sl d k h F0 K0 V0 (m + 1) = ((vsS S sl d k h F0 K0 V0 m).1 + 1, upd (vsS S sl d k h F0 K0 V0 m).2.1 (vsS S sl d k h F0 K0 V0 m).1 (nI (h + m)), upd (vsS S sl d k h F0 K0 V0 m).2.2.1 (vsS S sl d k h F0 K0 V0 m).1 kx, upd (vsS S sl d k h F0 K0 V0 m).2.2.2 (vsS S sl d k h F0 K0 V0 m).1 vx) := by
  subst hk; subst hv
  simp only [vsS]
  rw [if_pos hc]
theorem vsS_b {S : AS} {sl d : Int32} {k h : Nat} {F0 K0 V0 : Nat → Int32} {m : Nat} {kx vx : Int32} (hk : vkN S sl d k (h + m) = kx) (hv : vvN S sl d k (h + m) = vx) (h0 : ¬ (vsS S sl d k h F0 K0 V0 m).1 = 0) (h1 : lastK (vsS S sl d k h F0 K0 V0 m) = kx) (h2 : lastV (vsS S sl d k h F0 K0 V0 m) = vx) :
    vsS S sl d k h F0 K0 V0 (m + 1) = vsS S sl d k h F0 K0 V0 m := by
  subst hk; subst hv
  simp only [vsS]
  rw [if_neg (fun q => q.elim h0 (fun q => q.elim (fun q => q h1) (fun q => q h2)))]
