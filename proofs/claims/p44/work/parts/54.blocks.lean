/-! the law: its wrappers, in blocks of the world -/
def EcS (U : State) : Prop := ∀ X ∈ exN, ∀ Y ∈ exN, X ≠ Y → va_Nc X Y U
theorem EcS.moved {u U : State} (hvm : u.vm.Alike U.vm) (h : EcS u) : EcS U := fun X hX Y hY hne => va_Nc.moved hvm (h X hX Y hY hne)
abbrev lwB (D : va_G) (cy : Nat → ClassId) (W0 : va_W) (sz : Nat) : State → Prop := fun U => EcS U ∧ wxB D cy W0 sz U
section BLK
variable {D : va_G} {A : Nat → Prop} {X Y Z Y1 : va_W} {H H1 H0 : Heap} {locs : List Loc}
theorem blk_in {A : Nat → Prop} (hD : va_D A (X ++ (Y ++ Z))) : ∀ (k : Nat) (q : Nat × va_E), Y[k]? = some q → A q.1 := by
  intro k q hq
  refine hD.2 (X.length + k) q ?_
  rw [List.getElem?_append_right (by omega), Nat.add_sub_cancel_left, List.getElem?_append_left (List.getElem?_eq_some_iff.mp hq).1]
  exact hq
theorem blkF (hD : va_D A (X ++ (Y ++ Z))) (hS : va_S A H0 H locs) (hA : ∀ q, H0.size ≤ q → A q) : ∀ q, va_A Y H.size q → A q := by
  intro q h
  rcases h with ⟨k, e, h⟩ | h
  · exact blk_in hD k (q, e) h
  · exact hA q (Nat.le_trans hS.1 h)
theorem blkY (hP : va_P D clW (X ++ (Y ++ Z)) H) : va_P D clW Y H := by
  intro k q hq
  refine hP (X.length + k) q ?_
  rw [List.getElem?_append_right (by omega), Nat.add_sub_cancel_left, List.getElem?_append_left (List.getElem?_eq_some_iff.mp hq).1]
  exact hq
theorem blkYD (hD : va_D A (X ++ (Y ++ Z))) : va_D A Y := by
  refine ⟨fun i j p q hp hq hpq => ?_, blk_in hD⟩
  have h1 : ∀ (k : Nat) (q : Nat × va_E), Y[k]? = some q → (X ++ (Y ++ Z))[X.length + k]? = some q := by
    intro k q hq
    rw [List.getElem?_append_right (by omega), Nat.add_sub_cancel_left, List.getElem?_append_left (List.getElem?_eq_some_iff.mp hq).1]
    exact hq
  have := hD.1 _ _ p q (h1 i p hp) (h1 j q hq) hpq
  omega
theorem blkP (hP : va_P D clW (X ++ (Y ++ Z)) H) (hD : va_D A (X ++ (Y ++ Z))) (hk : ∀ q : Nat, q < H.size → ¬ va_A Y H.size q → H1[q]? = H[q]?) (hY : va_P D clW Y1 H1) : va_P D clW (X ++ (Y1 ++ Z)) H1 := by
  have key : ∀ (k : Nat) (q : Nat × va_E), (X ++ (Y ++ Z))[k]? = some q → (k < X.length ∨ X.length + Y.length ≤ k) → va_at D clW q H1 := by
    intro k q hq hr
    refine (hP k q hq).kept (hk q.1 (hP k q hq).lt (fun h => ?_))
    rcases h with ⟨j, e, h⟩ | h
    · have h2 : (X ++ (Y ++ Z))[X.length + j]? = some (q.1, e) := by
        rw [List.getElem?_append_right (by omega), Nat.add_sub_cancel_left, List.getElem?_append_left (List.getElem?_eq_some_iff.mp h).1]
        exact h
      have h3 := hD.1 k _ q _ hq h2 rfl
      have h4 := (List.getElem?_eq_some_iff.mp h).1
      omega
    · exact absurd (hP k q hq).lt (Nat.not_lt.mpr h)
  intro k q hq
  by_cases h1 : k < X.length
  · rw [List.getElem?_append_left h1] at hq
    exact key k q (by rw [List.getElem?_append_left h1]; exact hq) (Or.inl h1)
  · rw [List.getElem?_append_right (by omega)] at hq
    by_cases h2 : k - X.length < Y1.length
    · rw [List.getElem?_append_left h2] at hq
      exact hY _ q hq
    · rw [List.getElem?_append_right (by omega)] at hq
      refine key (X.length + (Y.length + (k - X.length - Y1.length))) q ?_ (Or.inr (by omega))
      rw [List.getElem?_append_right (by omega), Nat.add_sub_cancel_left, List.getElem?_append_right (by omega), Nat.add_sub_cancel_left]
      exact hq
theorem blkD (hD : va_D A (X ++ (Y ++ Z))) (h : Y.map Prod.fst = Y1.map Prod.fst) : va_D A (X ++ (Y1 ++ Z)) := hD.addr (by rw [List.map_append, List.map_append, List.map_append, List.map_append, h])
end BLK
section LAW
variable {p : Program} {l : Launch} {e : Env} {R : Room} {s : State} {m : MethodId} {args : Array Value} {below : List Frame} {meth : Method} {c : Code} {H : Heap} {locs : List Loc} {cells slots : Nat} {Q : State → Prop}
variable {cc : ByteArray} {pc : Nat} {ls : Array Slot} {rest st0 : List Value} {a : Array Value} {D : va_G} {cy : Nat → ClassId} {A A1 : Nat → Prop} {H0 : Heap} {mc ms MC MS : Nat}
theorem enterH {y : MethodName} {maxL : Nat} {ret : Option FieldType} {rm : Room} {av : List Value} {B : State → Prop} {Qc : Array Value → State → Outcome → State → Prop} {free : Addr → Prop} {hh : List (Nat × Nat × Nat × Nat)} (hy : plainName y.cls = true) (hn : (lg_sl av).length ≤ maxL)
    (body : ∀ (p : Program) (e : Env) (s : State) (m : MethodId) (below : List Frame) (meth : Method) (c : Code), p.tables.exec = Jvm.exec → c.code = cc → meth.sig.returnType = ret → c.maxLocals = maxL → s.vm.findClass y.cls = some m.cls → (∀ w ∈ wsL_law, w.before av.toArray s = true) → meth.locks = false → c.exceptionTable.toList = tableOf hh → B s → ∀ Q : State → Prop, Q = MQ below Qc av.toArray s mc ms free → ∀ ls : Array Slot, lv_has ls maxL (lv_args 0 av) → W p l e rm s m av.toArray below meth c s.heap [] 0 0 Q (F0 m 0 ls [])) :
    Met l y (Cond.codeWith y cc maxL ret hh :: wsL_law) rm (va_Pc av B) Qc mc ms free := by
  refine va_MetW (cc := cc) (maxL := maxL) (ret := ret) hy rfl ?_
  intro p e s m args below meth c s₁ B0 hml hv
  obtain ⟨rfl, hv⟩ := hv
  have hts := atoms_spec (ws := Cond.codeWith y cc maxL ret hh :: wsL_law) B0.pre
  have hown : s.vm.findClass y.cls = some m.cls := findClass_of_methodNamed B0.named
  rw [lg_entry_eq]
  exact body p e s m below meth c B0.exec B0.bytes B0.returns hml hown (fun w hw => hts w (List.mem_cons_of_mem _ hw)) B0.notSynchronized (vx_table (x := y) B0 (hts _ List.mem_cons_self)) hv _ rfl _ (lv_entry av hn)
/-- a writer of the class that may throw, called over its block -/
theorem xcI_call {S S' : Type} {post : Int32 → S → Prop} {px : String → S' → Prop} {Wn : S → va_W} {Wx : S' → va_W} {Y Z : va_W} (hr : vx_Run p l e R s m args below meth c H locs cells slots mc ms (F0 m pc ls st0) rest (va_Qi post (fun u t9 => va_P D clW (Wn u) t9.heap) (va_A Y H.size) a) (xW px Wx D (va_A Y H.size)) (va_A Y H.size)) (hP : va_P D clW ([] ++ (Y ++ Z)) H) (hD : va_D A ([] ++ (Y ++ Z))) (hS : va_S A H0 H locs) (hA : ∀ q, H0.size ≤ q → A q) (had : ∀ u, Y.map Prod.fst = (Wn u).map Prod.fst) (hadx : ∀ u, Y.map Prod.fst = (Wx u).map Prod.fst)
    (kx : ∀ (E : String) (ce : Cell) (q9 : Addr) (u : S') (H1 : Heap) (locs1 : List Loc), px E u → va_P D clW ([] ++ (Wx u ++ Z)) H1 → va_D A ([] ++ (Wx u ++ Z)) → va_S A H0 H1 locs1 → H1[q9]? = some ce → ce.vm = .none → s.vm.findClass E = some ce.cls → vx_W p l e R s m args below meth c H1 locs1 (cells + mc) (slots + ms) Q (F0 m pc ls rest) q9)
    (kk : ∀ (r : Int32) (u : S) (H1 : Heap) (locs1 : List Loc), post r u → va_P D clW ([] ++ (Wn u ++ Z)) H1 → va_D A ([] ++ (Wn u ++ Z)) → va_S A H0 H1 locs1 → W p l e R s m args below meth c H1 locs1 (cells + mc) (slots + ms) Q (F0 m (pc + 3) ls (.int r :: rest))) : W p l e R s m args below meth c H locs cells slots Q (F0 m pc ls st0) := by
  have hF := blkF hD hS hA
  refine vx_calli hr hS (fun q _ h => hF q h) hF (fun q _ h => hF q h) (fun E ce q9 u t H1 locs1 ht hvm _ hB hz hk hS1 hce hcv hcl => ?_) (fun r u t H1 locs1 ht hvm hp hB hz hk hS1 => ?_)
  · obtain ⟨hp, hB⟩ := hB
    rw [ht] at hB
    exact kx E ce q9 u H1 locs1 hp (blkP hP hD hk hB) (blkD hD (hadx u)) hS1 hce hcv hcl
  · rw [ht] at hB
    exact kk r u H1 locs1 hp (blkP hP hD hk hB) (blkD hD (had u)) hS1
/-- a reader of the class that may throw -/
theorem xrI_call {post : Int32 → Prop} {px : String → Prop} (hr : vx_Run p l e R s m args below meth c H locs cells slots mc ms (F0 m pc ls st0) rest (rdI post a) (xR px) noA)
    (kx : ∀ (E : String) (ce : Cell) (q9 : Addr) (H1 : Heap), px E → H.size ≤ H1.size → (∀ q : Nat, q < H.size → H1[q]? = H[q]?) → H1[q9]? = some ce → ce.vm = .none → s.vm.findClass E = some ce.cls → vx_W p l e R s m args below meth c H1 locs (cells + mc) (slots + ms) Q (F0 m pc ls rest) q9)
    (kk : ∀ r : Int32, post r → W p l e R s m args below meth c H locs (cells + mc) (slots + ms) Q (F0 m (pc + 3) ls (.int r :: rest))) : W p l e R s m args below meth c H locs cells slots Q (F0 m pc ls st0) := by
  intro T hT X
  rcases hr T hT X with ⟨v, st₀, t, T', L, h0, X', hL, e1, -, ⟨r, hv, hp, hh⟩, st⟩ | ⟨q, st₀, t, T', L, E, ce, h0, X', hL, e1, -, ⟨u, -, hpx, hz, hk⟩, hce, hcv, hcl, st⟩
  · cases hv
    obtain ⟨t2, a1, b1⟩ := kk r hp T' (by rw [e1, hh, h0]) (Stand.forget X' (fun q h => (hL q h).elim))
    exact ⟨t2, st t2 a1, b1⟩
  · rw [h0] at hz hk
    obtain ⟨t2, a1, b1⟩ := kx E ce q T'.heap hpx (by rw [e1]; exact hz) (fun q hq => by rw [e1]; exact hk q hq (fun z => z)) (by rw [e1]; exact hce) hcv hcl T' rfl (Stand.forget X' (fun q h => (hL q h).elim))
    exact ⟨t2, st.trans a1, b1⟩
/-- the exception is caught by the handler x -/
theorem ct_call {E : String} {ce : Cell} {q : Addr} {k h0 h1 h2 : Nat} (hown : s.vm.findClass RL = some m.cls) (hE : ExS s) (pre suf : List (Nat × Nat × Nat × Nat)) (hT : c.exceptionTable.toList = tableOf (pre ++ (h0, h1, h2, k) :: suf)) (hpass : ∀ z ∈ pre, z.2.2.2 ≠ 0 ∧ ∃ nm : String, (Cond.classLink RL z.2.2.2 nm).before args s = true ∧ va_Nc E nm s)
    (hx : covers ⟨h0, h1, h2, k⟩ pc = true) (hk : k ≠ 0) (hlink : (Cond.classLink RL k E).before args s = true) (hmem : E ∈ exN) (hcell : H[q]? = some ce) (hv : ce.vm = .none) (hcl : s.vm.findClass E = some ce.cls) (kk : W p l e R s m args below meth c H locs cells slots Q (F0 m h2 ls [.ref q])) : vx_W p l e R s m args below meth c H locs cells slots Q (F0 m pc ls rest) q := by
  refine vx_catch (name := E) hown (tableOf pre) ⟨h0, h1, h2, k⟩ (tableOf suf) ?_ (fun z hz => ?_) hx hk hlink (va_Nw.use rfl (hE.1.1 E hmem)) hcell hv hcl kk
  · rw [hT]
    unfold tableOf
    rw [List.map_append, List.map_cons]
  · unfold tableOf at hz
    obtain ⟨y, hy, rfl⟩ := List.mem_map.mp hz
    exact Or.inr (hpass y hy)
theorem preSL {W0 : va_W} {As : List Value} (hC : EcS s) (hK : va_K D clW (tyW cy) s) (hE : ExS s) (hZ : ExZ A s H) (hF : ∀ q, va_A W0 H.size q → A q) (hP : va_P D clW W0 H) (hD : va_D A W0) : PreS s H (va_Pc As (lwB D cy W0 H.size)) As :=
  ⟨fun a U g mk q => ⟨q.1, EcS.moved (u := U) (U := U.calling g mk a) (Vm.Alike.refl U.vm) q.2.1, q.2.2.1, q.2.2.2.1, va_K.moved (u := U) (U := U.calling g mk a) (Vm.Alike.refl U.vm) q.2.2.2.2.1, q.2.2.2.2.2.1, ExS.same rfl q.2.2.2.2.2.2.1, ExZ.moved (u := U) (U := U.calling g mk a) (Vm.Alike.refl U.vm) q.2.2.2.2.2.2.2⟩,
    fun U hU hW => ⟨rfl, EcS.moved hW.alike hC, by rw [hU], by rw [hU]; exact hP, va_K.moved hW.alike hK, hD.weaken (fun _ _ _ _ => trivial), ExS.warm hW hE, by rw [hU]; exact (ExZ.moved hW.alike hZ).narrow hF⟩⟩
end LAW
theorem ps0 {P : Nat × Nat × Nat × Nat → Prop} : ∀ z ∈ ([] : List (Nat × Nat × Nat × Nat)), P z := fun _ h => nomatch h
theorem psC {P : Nat × Nat × Nat × Nat → Prop} {x : Nat × Nat × Nat × Nat} {xs : List (Nat × Nat × Nat × Nat)} (h : P x) (t : ∀ z ∈ xs, P z) : ∀ z ∈ x :: xs, P z := fun z hz => (List.mem_cons.mp hz).elim (fun q => by rw [q]; exact h) (t z)
/-! which exceptions -/
/-! calls by block -/
/-! the law's body: its context, its world, its calls by block -/
abbrev lcA (s : State) : Nat → Prop := fun q => s.heap.size ≤ q
section LAWB
variable {p : Program} {l : Launch} {e : Env} {R : Room} {s : State} {m : MethodId} {args : Array Value} {below : List Frame} {meth : Method} {c : Code} {H : Heap} {locs : List Loc} {cells slots : Nat} {Q : State → Prop}
variable {cc : ByteArray} {pc : Nat} {ls : Array Slot} {rest st0 : List Value} {a : Array Value} {D : va_G} {cy : Nat → ClassId} {A A1 : Nat → Prop} {H0 : Heap} {mc ms MC MS : Nat}
theorem W_wid {g : JFrame} {k n : Nat} (h1 : cells ≤ k) (h2 : slots ≤ n) (kk : W p l e R s m args below meth c H locs k n Q g) : W p l e R s m args below meth c H locs cells slots Q g := fun T hT X => kk T hT (stand_widen X h1 h2)
theorem bwI_call {S : Type} {post : Int32 → S → Prop} {Wn : S → va_W} {X Y Z : va_W} (hr : va_Run p l e R s m args below meth c H locs cells slots mc ms (F0 m pc ls st0) rest (va_Qi post (fun u t9 => va_P D clW (Wn u) t9.heap) (va_A Y H.size) a) (va_A Y H.size)) (hP : va_P D clW (X ++ (Y ++ Z)) H) (hD : va_D A (X ++ (Y ++ Z))) (hS : va_S A H0 H locs) (hA : ∀ q, H0.size ≤ q → A q) (had : ∀ u, Y.map Prod.fst = (Wn u).map Prod.fst)
    (kk : ∀ (r : Int32) (u : S) (H1 : Heap) (locs1 : List Loc), post r u → va_P D clW (X ++ (Wn u ++ Z)) H1 → va_D A (X ++ (Wn u ++ Z)) → va_S A H0 H1 locs1 → W p l e R s m args below meth c H1 locs1 (cells + mc) (slots + ms) Q (F0 m (pc + 3) ls (.int r :: rest))) : W p l e R s m args below meth c H locs cells slots Q (F0 m pc ls st0) := by
  have hF := blkF hD hS hA
  refine va_calli hr hS (fun q _ h => hF q h) hF (fun r u t H1 locs1 ht hvm hp hB hz hk hS1 => ?_)
  rw [ht] at hB
  exact kk r u H1 locs1 hp (blkP hP hD hk hB) (blkD hD (had u)) hS1
end LAWB
