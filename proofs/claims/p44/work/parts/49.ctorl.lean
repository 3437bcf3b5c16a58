/-! constructors: the cells of a new object -/
abbrev I0 : AI := fun _ => 0
abbrev S0 : AS := fun _ _ => 0
section NEW
variable {p : Program} {l : Launch} {e : Env} {R : Room} {s : State} {m : MethodId} {args : Array Value} {below : List Frame} {meth : Method} {c : Code} {H : Heap} {locs : List Loc} {cells slots : Nat} {Q : State → Prop}
variable {cc : ByteArray} {pc : Nat} {ls : Array Slot} {rest : List Value} {D : va_G} {cy : Nat → ClassId} {A : Nat → Prop} {ws : va_W} {H0 : Heap} {mc ms : Nat}
theorem newAr {atype : ArrayType} {ty : FieldType} {cyj : ClassId} (j : Nat) (hj : (tyW cy)[j]? = some (cyj, ty)) (hra : ∀ c9 : ClassId, va_RA s c9 ty → s.vm.findClass ("[" ++ ty.toString) = some c9) (hx : p.tables.exec = Jvm.exec) (hb : c.code = cc) (harr : (Cond.arrayClass (newarray.typeOf atype)).before args s = true) (hty : newarray.typeOf atype = ty) (hK : va_K D clW (tyW cy) s) (hP : va_P D clW ws H) (hD : va_D A ws) (hS : va_S A H0 H locs) (hA : ∀ q, H0.size ≤ q → A q)
    {n : Int32} {N' : Nat} {a0 : vp_A} (ha : ∀ cA : ClassId, vp_cell cA a0 = arrV cA N' (fun _ => defaultValue ty)) (hn : ¬ n < 0) (hN : n.toNatClampNeg = N') (hbytes : N' * componentBytes ty ≤ 536870912) (hcells : cells + 1 ≤ R.cells) (hslots : slots + N' ≤ R.slots) (hdg : decode cc pc = .ok (.newarray atype, 2))
    (kk : ∀ (q : Nat) (H1 : Heap), va_P D clW (ws ++ [(q, .inl (cyj, a0))]) H1 → va_D A (ws ++ [(q, .inl (cyj, a0))]) → va_S A H0 H1 locs → W p l e R s m args below meth c H1 locs (cells + 1) (slots + N') Q (F0 m (pc + 2) ls (.ref q :: rest))) : W p l e R s m args below meth c H locs cells slots Q (F0 m pc ls (.int n :: rest)) := by
  refine va_newa hx hb harr hty hK hP hD hS hA ha hn hN hbytes hcells hslots hdg (fun q cA H1 hK1 hP1 hD1 hS1 => ?_)
  have e1 := hra _ (hK.2 j _ hj).2
  have e2 := hra _ (hK1.2 3 (cA, ty) rfl).2
  have e3 : cyj = cA := Option.some.inj (e1.symm.trans e2)
  subst e3
  exact kk q H1 hP1 hD1 hS1
theorem cV_ret {S : Type} {post : S → Prop} {B : S → State → Prop} (u : S) (hS : va_S A s.heap H locs) (hx : p.tables.exec = Jvm.exec) (hb : c.code = cc) (hr : meth.sig.returnType = none) (hlocks : meth.locks = false) (hdg : decode cc pc = .ok (.return_, 1)) (h1 : cells ≤ mc) (h2 : slots ≤ ms) (hQ : Q = MQ below (va_Qv post B A) args s mc ms A) (hp : post u) (hB : ∀ t : State, t.heap = H → B u t) : W p l e R s m args below meth c H locs cells slots Q (F0 m pc ls []) := hQ ▸
  W.widen h1 h2 (W.vret hx hb hr (fun t ht _ => ⟨⟨u, rfl, hp, hB t ht⟩, hS.F ht⟩) hS.2.2 hdg hlocks)
end NEW
/-- the array classes are there -/
theorem ar_of {args : Array Value} {s : State} {ty : FieldType} (h : (Cond.arrayClass ty).before args s = true) (hra : ∀ c9 : ClassId, s.vm.findClass ("[" ++ ty.toString) = some c9 → va_RA s c9 ty) : ∃ cA : ClassId, ArrOfT s cA ty ∧ va_RA s cA ty := by
  obtain ⟨cA, kA, comp, h1, h2, h3⟩ := Cond.arrayClass_spec h
  exact ⟨cA, fun n z => ⟨fun k h => (by cases h), kA, h2, comp, h3⟩, hra cA h1⟩
/-! what a nest mate's constructor stands on -/
def nsL : List (Nat × MethodName) := [(11, yX3_init), (18, yX0_init), (25, yX2_init), (36, yX1_init), (46, yX4_init), (53, yX5_init)]
def NwS (U : State) : Prop := ∀ q ∈ nsL, va_Nw (.methodLinkNest RX6 q.1 q.2 RX6) U
theorem NwS.warm {s U : State} (hW : s.WarmedH U.vm) (h : NwS s) : NwS U := fun q hq => va_Nw.warmM hW (h q hq)
theorem NwS.same {u U : State} (hv : U.vm = u.vm) (h : NwS u) : NwS U := fun q hq => va_Nw.same rfl hv.symm (h q hq)
theorem preIWN {s : State} {H : Heap} {D : va_G} {cy : Nat → ClassId} {A : Nat → Prop} {W0 : va_W} {As : List Value} {b : Nat} (hN : NwS s) (hK : va_K D clW (tyW cy) s) (hP : va_P D clW W0 H) (hD : va_D A W0) : PreS s H (va_Pc (.ref b :: As) (fun U => NwS U ∧ wrB D cy W0 H.size U)) (.ref b :: As) :=
  ⟨fun a U g mk q => ⟨q.1, NwS.same rfl q.2.1, q.2.2.1, q.2.2.2.1, va_K.moved (u := U) (U := U.calling g mk a) (Vm.Alike.refl U.vm) q.2.2.2.2.1, q.2.2.2.2.2⟩, fun U hU hW => ⟨rfl, NwS.warm hW hN, by rw [hU], by rw [hU]; exact hP, va_K.moved hW.alike hK, hD.weaken (fun _ _ _ _ => trivial)⟩⟩
theorem K_cy {D : va_G} {args : Array Value} {s : State} (hts : ∀ w ∈ wsL_law, w.before args s = true) (hK : va_K D clW [] s) : ∃ cy : Nat → ClassId, va_K D clW (tyW cy) s := by
  obtain ⟨c0, h0⟩ := ar_of (hts _ wm_41) (fun _ h => h)
  obtain ⟨c1, h1⟩ := ar_of (hts _ wm_43) (fun _ h => h)
  obtain ⟨c2, h2⟩ := ar_of (hts _ wm_68) (fun _ h => h)
  refine ⟨fun k => if k = 0 then c0 else if k = 1 then c1 else c2, hK.1, fun k q hq => ?_⟩
  rcases (show k = 0 ∨ k = 1 ∨ k = 2 ∨ 3 ≤ k by omega) with rfl | rfl | rfl | h
  · cases hq; exact h0
  · cases hq; exact h1
  · cases hq; exact h2
  · rw [List.getElem?_eq_none (by simpa using h)] at hq
    cases hq
