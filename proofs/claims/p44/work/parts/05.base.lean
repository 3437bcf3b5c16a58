/-! the words: one list for all methods; the worlds; entries, ends and calls in their words -/
set_option maxRecDepth 20000 in
theorem wU_good : GoodIn wsL_law wsL_law := goodIn_sub (fun _ h => h) (by decide +kernel)
abbrev clW : List vw_C := [(RX0, TX0, 8), (RX1, TX1, 2), (RX2, TX2, 2), (RX3, TX3, 6), (RX4, TX4, 3), (RX5, TX5, 4), (RX6, TX6, 8), (RX7, TX7, 12)]
abbrev tyW (cy : Nat → ClassId) : List (ClassId × FieldType) := [(cy 0, .char), (cy 1, .int), (cy 2, .boolean)]
abbrev AI : Type := Nat → Int32
abbrev AS : Type := Nat → Nat → Int32
/-! the class's cells: ints by number (0 entities, 1 last, 2 count of facts, 3 horizon, 4 length of the line, 5 count of periods, 6 count of versions), rows by the number of their cell -/
abbrev wF (cy : Nat → ClassId) (ad : Nat → Nat) (I : AI) (S : AS) : va_W := [(ad 7, .inr (0, [.ref (ad 8), .ref (ad 9), .ref (ad 10), .ref (ad 11), .ref (ad 12), .ref (ad 13), .int (I 2), .int (I 3)])), (ad 8, .inl (cy 1, 180, .inl (S 8))), (ad 9, .inl (cy 1, 180, .inl (S 9))), (ad 10, .inl (cy 1, 180, .inl (S 10))), (ad 11, .inl (cy 1, 180, .inl (S 11))), (ad 12, .inl (cy 1, 180, .inl (S 12))), (ad 13, .inl (cy 1, 180, .inl (S 13)))]
abbrev wO (cy : Nat → ClassId) (ad : Nat → Nat) (I : AI) (S : AS) : va_W := [(ad 1, .inr (3, [.ref (ad 2), .ref (ad 3), .ref (ad 4), .ref (ad 5), .ref (ad 6), .int (I 1)])), (ad 2, .inl (cy 0, 61, .inl (S 2))), (ad 3, .inl (cy 1, 61, .inl (S 3))), (ad 4, .inl (cy 1, 61, .inl (S 4))), (ad 5, .inl (cy 1, 61, .inl (S 5))), (ad 6, .inl (cy 1, 61, .inl (S 6)))]
abbrev wN (cy : Nat → ClassId) (ad : Nat → Nat) (I : AI) (S : AS) : va_W := [(ad 14, .inr (2, [.ref (ad 15), .int (I 4)])), (ad 15, .inl (cy 0, 1900, .inl (S 15)))]
abbrev wK (cy : Nat → ClassId) (ad : Nat → Nat) (b : Nat) (S : AS) : va_W := [(ad b, .inr (1, [.ref (ad (b + 1)), .ref (ad (b + 2))])), (ad (b + 1), .inl (cy 2, 100, .inl (S (b + 1)))), (ad (b + 2), .inl (cy 1, 100, .inl (S (b + 2))))]
abbrev wP (cy : Nat → ClassId) (ad : Nat → Nat) (I : AI) (S : AS) : va_W := [(ad 22, .inr (4, [.ref (ad 23), .ref (ad 24), .int (I 5)])), (ad 23, .inl (cy 1, 100, .inl (S 23))), (ad 24, .inl (cy 1, 100, .inl (S 24)))]
abbrev wV (cy : Nat → ClassId) (ad : Nat → Nat) (I : AI) (S : AS) : va_W := [(ad 25, .inr (5, [.ref (ad 26), .ref (ad 27), .ref (ad 28), .int (I 6)])), (ad 26, .inl (cy 1, 61, .inl (S 26))), (ad 27, .inl (cy 2, 61, .inl (S 27))), (ad 28, .inl (cy 1, 61, .inl (S 28)))]
abbrev wC (cy : Nat → ClassId) (ad : Nat → Nat) (I : AI) (S : AS) : va_W := (ad 0, .inr (6, [.ref (ad 1), .ref (ad 7), .ref (ad 14), .int (I 0), .ref (ad 16), .ref (ad 19), .ref (ad 22), .ref (ad 25)])) :: (wO cy ad I S ++ (wF cy ad I S ++ (wN cy ad I S ++ (wK cy ad 16 S ++ (wK cy ad 19 S ++ (wP cy ad I S ++ wV cy ad I S))))))
/-! the book's cells: ints 0 facts, 1 clock, 2 horizon; rows by the number of their cell: 1 place, 2 value, 3 from, 4 to, 5 opened, 6 closed, 7 gone, 8 kind, 9 entity -/
abbrev wM (cy : Nat → ClassId) (ad : Nat → Nat) (I : AI) (S : AS) : va_W := [(ad 0, .inr (7, [.ref (ad 1), .ref (ad 2), .ref (ad 3), .ref (ad 4), .ref (ad 5), .ref (ad 6), .ref (ad 7), .int (I 0), .int (I 1), .int (I 2), .ref (ad 8), .ref (ad 9)])), (ad 1, .inl (cy 1, 120, .inl (S 1))), (ad 2, .inl (cy 1, 120, .inl (S 2))), (ad 3, .inl (cy 1, 120, .inl (S 3))), (ad 4, .inl (cy 1, 120, .inl (S 4))), (ad 5, .inl (cy 1, 120, .inl (S 5))), (ad 6, .inl (cy 1, 120, .inl (S 6))), (ad 7, .inl (cy 2, 120, .inl (S 7))), (ad 8, .inl (cy 0, 40, .inl (S 8))), (ad 9, .inl (cy 1, 40, .inl (S 9)))]
/-! a method's start: what a reader asks, what a writer asks -/
abbrev rdB (D : va_G) (cy : Nat → ClassId) (W0 : va_W) : State → Prop := fun U => va_P D clW W0 U.heap ∧ va_K D clW (tyW cy) U
abbrev wrB (D : va_G) (cy : Nat → ClassId) (W0 : va_W) (sz : Nat) : State → Prop := fun U => U.heap.size = sz ∧ va_P D clW W0 U.heap ∧ va_K D clW (tyW cy) U ∧ va_D (fun _ => True) W0
/-! a reader's end: the heap is the heap -/
def rdI (post : Int32 → Prop) : Array Value → State → Outcome → State → Prop := fun _ st oc t => ∃ r : Int32, oc = .returned (some (.int r)) ∧ post r ∧ t.heap = st.heap
def rdL (post : Int64 → Prop) : Array Value → State → Outcome → State → Prop := fun _ st oc t => ∃ r : Int64, oc = .returned (some (.long r)) ∧ post r ∧ t.heap = st.heap
def rdV (post : Prop) : Array Value → State → Outcome → State → Prop := fun _ st oc t => oc = .returned none ∧ post ∧ t.heap = st.heap
abbrev noA : Addr → Prop := fun _ => False
section BASE
variable {p : Program} {l : Launch} {e : Env} {R : Room} {s : State} {m : MethodId} {args : Array Value} {below : List Frame} {meth : Method} {c : Code} {H : Heap} {locs : List Loc} {cells slots : Nat} {Q : State → Prop}
variable {cc : ByteArray} {pc : Nat} {ls : Array Slot} {rest st0 : List Value} {a : Array Value} {D : va_G} {cy : Nat → ClassId} {A A1 : Nat → Prop} {H0 : Heap}
/-- into a method of the one list of words -/
theorem enter {y : MethodName} {maxL : Nat} {ret : Option FieldType} {rm : Room} {av : List Value} {B : State → Prop} {Qc : Array Value → State → Outcome → State → Prop} {mc ms : Nat} {free : Addr → Prop} (hy : plainName y.cls = true) (hn : (lg_sl av).length ≤ maxL)
    (body : ∀ (p : Program) (e : Env) (s : State) (m : MethodId) (below : List Frame) (meth : Method) (c : Code), p.tables.exec = Jvm.exec → c.code = cc → meth.sig.returnType = ret → c.maxLocals = maxL → s.vm.findClass y.cls = some m.cls → (∀ w ∈ wsL_law, w.before av.toArray s = true) → meth.locks = false → (y.name = "<init>" → meth.name = "<init>") → B s → ∀ Q : State → Prop, Q = MQ below Qc av.toArray s mc ms free → ∀ ls : Array Slot, lv_has ls maxL (lv_args 0 av) → W p l e rm s m av.toArray below meth c s.heap [] 0 0 Q (F0 m 0 ls [])) :
    Met l y (Cond.code y cc maxL ret :: wsL_law) rm (va_Pc av B) Qc mc ms free := by
  refine Met.ofW (cc := cc) (maxL := maxL) (ret := ret) hy rfl ?_
  intro p e s m args below meth c s₁ B0 hml hv
  obtain ⟨rfl, hv⟩ := hv
  have hts := atoms_spec (ws := Cond.code y cc maxL ret :: wsL_law) B0.pre
  have hown : s.vm.findClass y.cls = some m.cls := findClass_of_methodNamed B0.named
  rw [lg_entry_eq]
  exact body p e s m below meth c B0.exec B0.bytes B0.returns hml hown (fun w hw => hts w (List.mem_cons_of_mem _ hw)) B0.notSynchronized (fun h => (name_of_methodNamed B0.named B0.method).1.trans h) hv _ rfl _ (lv_entry av hn)
/-! ends of readers -/
theorem rI_ret {post : Int32 → Prop} {v : Int32} (hx : p.tables.exec = Jvm.exec) (hb : c.code = cc) (hr : meth.sig.returnType = some .int) (hlocks : meth.locks = false) (hdg : decode cc pc = .ok (.ireturn, 1)) (hQ : Q = MQ below (rdI post) args s 0 0 noA) (hp : post v) : W p l e R s m args below meth c s.heap [] 0 0 Q (F0 m pc ls [.int v]) := hQ ▸
  W.iret hx hb hr (fun t ht _ => ⟨v, rfl, hp, ht⟩) (fun _ h => by cases h) hdg hlocks
theorem rZ_ret {post : Int32 → Prop} {v : Int32} {ty : FieldType} (hx : p.tables.exec = Jvm.exec) (hb : c.code = cc) (hr : meth.sig.returnType = some ty) (hlocks : meth.locks = false) (hdg : decode cc pc = .ok (.ireturn, 1)) (hn : narrow ty (.int v) = .int v) (hQ : Q = MQ below (rdI post) args s 0 0 noA) (hp : post v) : W p l e R s m args below meth c s.heap [] 0 0 Q (F0 m pc ls [.int v]) := hQ ▸
  W.zret hx hb hr hn (fun t ht _ => ⟨v, rfl, hp, ht⟩) (fun _ h => by cases h) hdg hlocks
theorem rL_ret {post : Int64 → Prop} {v : Int64} (hx : p.tables.exec = Jvm.exec) (hb : c.code = cc) (hr : meth.sig.returnType = some .long) (hlocks : meth.locks = false) (hdg : decode cc pc = .ok (.lreturn, 1)) (hQ : Q = MQ below (rdL post) args s 0 0 noA) (hp : post v) : W p l e R s m args below meth c s.heap [] 0 0 Q (F0 m pc ls [.long v]) := hQ ▸
  W.lret hx hb hr (fun t ht _ => ⟨v, rfl, hp, ht⟩) (fun _ h => by cases h) hdg hlocks
theorem rV_ret {post : Prop} (hx : p.tables.exec = Jvm.exec) (hb : c.code = cc) (hr : meth.sig.returnType = none) (hlocks : meth.locks = false) (hdg : decode cc pc = .ok (.return_, 1)) (hQ : Q = MQ below (rdV post) args s 0 0 noA) (hp : post) : W p l e R s m args below meth c s.heap [] 0 0 Q (F0 m pc ls []) := hQ ▸
  W.vret hx hb hr (fun t ht _ => ⟨rfl, hp, ht⟩) (fun _ h => by cases h) hdg hlocks
/-! ends of writers: what the world is behind them -/
theorem wI_ret {S : Type} {post : Int32 → S → Prop} {Wn : S → va_W} {v : Int32} (u : S) {mc ms : Nat} (hS : va_S A s.heap H locs) (hP : va_P D clW (Wn u) H) (hx : p.tables.exec = Jvm.exec) (hb : c.code = cc) (hr : meth.sig.returnType = some .int) (hlocks : meth.locks = false) (hdg : decode cc pc = .ok (.ireturn, 1)) (h1 : cells ≤ mc) (h2 : slots ≤ ms) (hQ : Q = MQ below (va_Qi post (fun u t => va_P D clW (Wn u) t.heap) A) args s mc ms A) (hp : post v u) : W p l e R s m args below meth c H locs cells slots Q (F0 m pc ls [.int v]) := hQ ▸
  W.widen h1 h2 (W.iret hx hb hr (fun t ht _ => ⟨⟨v, u, rfl, hp, by show va_P D clW (Wn u) t.heap; rw [ht]; exact hP⟩, hS.F ht⟩) hS.2.2 hdg hlocks)
theorem wZ_ret {S : Type} {post : Int32 → S → Prop} {Wn : S → va_W} {v : Int32} {ty : FieldType} (u : S) {mc ms : Nat} (hS : va_S A s.heap H locs) (hP : va_P D clW (Wn u) H) (hx : p.tables.exec = Jvm.exec) (hb : c.code = cc) (hr : meth.sig.returnType = some ty) (hlocks : meth.locks = false) (hdg : decode cc pc = .ok (.ireturn, 1)) (hn : narrow ty (.int v) = .int v) (h1 : cells ≤ mc) (h2 : slots ≤ ms) (hQ : Q = MQ below (va_Qi post (fun u t => va_P D clW (Wn u) t.heap) A) args s mc ms A) (hp : post v u) : W p l e R s m args below meth c H locs cells slots Q (F0 m pc ls [.int v]) := hQ ▸
  W.widen h1 h2 (W.zret hx hb hr hn (fun t ht _ => ⟨⟨v, u, rfl, hp, by show va_P D clW (Wn u) t.heap; rw [ht]; exact hP⟩, hS.F ht⟩) hS.2.2 hdg hlocks)
theorem wL_ret {S : Type} {post : Int64 → S → Prop} {Wn : S → va_W} {v : Int64} (u : S) {mc ms : Nat} (hS : va_S A s.heap H locs) (hP : va_P D clW (Wn u) H) (hx : p.tables.exec = Jvm.exec) (hb : c.code = cc) (hr : meth.sig.returnType = some .long) (hlocks : meth.locks = false) (hdg : decode cc pc = .ok (.lreturn, 1)) (h1 : cells ≤ mc) (h2 : slots ≤ ms) (hQ : Q = MQ below (va_Ql post (fun u t => va_P D clW (Wn u) t.heap) A) args s mc ms A) (hp : post v u) : W p l e R s m args below meth c H locs cells slots Q (F0 m pc ls [.long v]) := hQ ▸
  W.widen h1 h2 (W.lret hx hb hr (fun t ht _ => ⟨⟨v, u, rfl, hp, by show va_P D clW (Wn u) t.heap; rw [ht]; exact hP⟩, hS.F ht⟩) hS.2.2 hdg hlocks)
theorem wV_ret {S : Type} {post : S → Prop} {Wn : S → va_W} (u : S) {mc ms : Nat} (hS : va_S A s.heap H locs) (hP : va_P D clW (Wn u) H) (hx : p.tables.exec = Jvm.exec) (hb : c.code = cc) (hr : meth.sig.returnType = none) (hlocks : meth.locks = false) (hdg : decode cc pc = .ok (.return_, 1)) (h1 : cells ≤ mc) (h2 : slots ≤ ms) (hQ : Q = MQ below (va_Qv post (fun u t => va_P D clW (Wn u) t.heap) A) args s mc ms A) (hp : post u) : W p l e R s m args below meth c H locs cells slots Q (F0 m pc ls []) := hQ ▸
  W.widen h1 h2 (W.vret hx hb hr (fun t ht _ => ⟨⟨u, rfl, hp, by show va_P D clW (Wn u) t.heap; rw [ht]; exact hP⟩, hS.F ht⟩) hS.2.2 hdg hlocks)
/-! calls of readers -/
theorem blindR {W0 : va_W} {av : List Value} : FrameBlind (va_Pc av (rdB D cy W0)) := fun a U g mk q => ⟨q.1, q.2.1, va_K.moved (u := U) (U := U.calling g mk a) (Vm.Alike.refl U.vm) q.2.2⟩
theorem blindW {W0 : va_W} {av : List Value} {sz : Nat} : FrameBlind (va_Pc av (wrB D cy W0 sz)) := fun a U g mk q => ⟨q.1, q.2.1, q.2.2.1, va_K.moved (u := U) (U := U.calling g mk a) (Vm.Alike.refl U.vm) q.2.2.2.1, q.2.2.2.2⟩
theorem preVR {W0 : va_W} {As : List Value} {b q0 ci : Nat} {q : vw_C} {fs : List Value} (hK : va_K D clW (tyW cy) s) (hP : va_P D clW W0 H) (hc : clW[ci]? = some q) (he : W0[q0]? = some (b, .inr (ci, fs))) : PreV s H q.1 b (va_Pc (.ref b :: As) (rdB D cy W0)) As :=
  ⟨blindR, va_recv hK hP hc he, fun U hU hW => ⟨rfl, by rw [hU]; exact hP, va_K.moved hW.alike hK⟩⟩
theorem preSR {W0 : va_W} {As : List Value} (hK : va_K D clW (tyW cy) s) (hP : va_P D clW W0 H) : PreS s H (va_Pc As (rdB D cy W0)) As :=
  ⟨blindR, fun U hU hW => ⟨rfl, by rw [hU]; exact hP, va_K.moved hW.alike hK⟩⟩
theorem preVW {W0 : va_W} {As : List Value} {b q0 ci : Nat} {q : vw_C} {fs : List Value} (hK : va_K D clW (tyW cy) s) (hP : va_P D clW W0 H) (hD : va_D A W0) (hc : clW[ci]? = some q) (he : W0[q0]? = some (b, .inr (ci, fs))) : PreV s H q.1 b (va_Pc (.ref b :: As) (wrB D cy W0 H.size)) As :=
  ⟨blindW, va_recv hK hP hc he, fun U hU hW => ⟨rfl, by rw [hU], by rw [hU]; exact hP, va_K.moved hW.alike hK, hD.weaken (fun _ _ _ _ => trivial)⟩⟩
theorem preIW {W0 : va_W} {As : List Value} {b : Nat} (hK : va_K D clW (tyW cy) s) (hP : va_P D clW W0 H) (hD : va_D A W0) : PreS s H (va_Pc (.ref b :: As) (wrB D cy W0 H.size)) (.ref b :: As) :=
  ⟨blindW, fun U hU hW => ⟨rfl, by rw [hU], by rw [hU]; exact hP, va_K.moved hW.alike hK, hD.weaken (fun _ _ _ _ => trivial)⟩⟩
theorem rI_call {post : Int32 → Prop} (hr : va_Run p l e R s m args below meth c H locs cells slots 0 0 (F0 m pc ls st0) rest (rdI post a) noA)
    (kk : ∀ r : Int32, post r → W p l e R s m args below meth c H locs cells slots Q (F0 m (pc + 3) ls (.int r :: rest))) : W p l e R s m args below meth c H locs cells slots Q (F0 m pc ls st0) := by
  intro T hT X
  obtain ⟨v, st₀, t, T', L, h0, X', hL, e1, -, ⟨r, hv, hp, hh⟩, st⟩ := hr T hT X
  cases hv
  obtain ⟨t2, a1, b1⟩ := kk r hp T' (by rw [e1, hh, h0]) (Stand.forget X' (fun q h => (hL q h).elim))
  exact ⟨t2, st t2 a1, b1⟩
theorem rL_call {post : Int64 → Prop} (hr : va_Run p l e R s m args below meth c H locs cells slots 0 0 (F0 m pc ls st0) rest (rdL post a) noA)
    (kk : ∀ r : Int64, post r → W p l e R s m args below meth c H locs cells slots Q (F0 m (pc + 3) ls (.long r :: rest))) : W p l e R s m args below meth c H locs cells slots Q (F0 m pc ls st0) := by
  intro T hT X
  obtain ⟨v, st₀, t, T', L, h0, X', hL, e1, -, ⟨r, hv, hp, hh⟩, st⟩ := hr T hT X
  cases hv
  obtain ⟨t2, a1, b1⟩ := kk r hp T' (by rw [e1, hh, h0]) (Stand.forget X' (fun q h => (hL q h).elim))
  exact ⟨t2, st t2 a1, b1⟩
theorem rV_call {post : Prop} (hr : va_Run p l e R s m args below meth c H locs cells slots 0 0 (F0 m pc ls st0) rest (rdV post a) noA)
    (kk : post → W p l e R s m args below meth c H locs cells slots Q (F0 m (pc + 3) ls rest)) : W p l e R s m args below meth c H locs cells slots Q (F0 m pc ls st0) := by
  intro T hT X
  obtain ⟨v, st₀, t, T', L, h0, X', hL, e1, -, ⟨hv, hp, hh⟩, st⟩ := hr T hT X
  cases hv
  obtain ⟨t2, a1, b1⟩ := kk hp T' (by rw [e1, hh, h0]) (Stand.forget X' (fun q h => (hL q h).elim))
  exact ⟨t2, st t2 a1, b1⟩
/-- a reader that answers whether: one way for each answer -/
theorem rZ_call {P : Prop} {_dP : Decidable P} (hr : va_Run p l e R s m args below meth c H locs cells slots 0 0 (F0 m pc ls st0) rest (rdI (fun r => r = if P then 1 else 0) a) noA)
    (k1 : P → W p l e R s m args below meth c H locs cells slots Q (F0 m (pc + 3) ls (.int 1 :: rest)))
    (k0 : ¬ P → W p l e R s m args below meth c H locs cells slots Q (F0 m (pc + 3) ls (.int 0 :: rest))) : W p l e R s m args below meth c H locs cells slots Q (F0 m pc ls st0) := by
  refine rI_call hr (fun r hr => ?_)
  by_cases h : P
  · rw [if_pos h] at hr; rw [hr]; exact k1 h
  · rw [if_neg h] at hr; rw [hr]; exact k0 h
/-! behind a writer's call: the caller's cells that were not the callee's, and the callee's -/
abbrev srcOf (ws w1 : va_W) (i : Nat ⊕ Nat) : Option (Nat × va_E) := match i with
  | .inl i => ws[i]?
  | .inr j => w1[j]?
abbrev srcOk (isC : List Nat) (src : List (Nat ⊕ Nat)) : Bool := src.all (fun i => match i with
  | .inl i => !isC.contains i
  | .inr _ => true)
theorem mixP {ws wc w1 wn : va_W} {H1 : Heap} (hP : va_P D clW ws H) (hD : va_D A ws) (isC : List Nat) (hC : isC.map (fun i => ws[i]?) = wc.map some) (hk : ∀ q : Nat, q < H.size → ¬ va_A wc H.size q → H1[q]? = H[q]?) (hP1 : va_P D clW w1 H1)
    (src : List (Nat ⊕ Nat)) (hd : srcOk isC src = true) (hs : src.map (srcOf ws w1) = wn.map some) : va_P D clW wn H1 := by
  intro k q hq
  have h1 : (src.map (srcOf ws w1))[k]? = some (some q) := by rw [hs, List.getElem?_map, hq]; rfl
  rw [List.getElem?_map] at h1
  cases hi : src[k]? with
  | none => rw [hi] at h1; cases h1
  | some i =>
    rw [hi] at h1
    have h2 : srcOf ws w1 i = some q := Option.some.inj h1
    have hmem : i ∈ src := List.mem_of_getElem? hi
    have h3 := List.all_eq_true.mp hd i hmem
    cases i with
    | inr j => exact hP1 j q h2
    | inl j =>
      have h2 : ws[j]? = some q := h2
      have hl := (hP j q h2).lt
      refine (hP j q h2).kept (hk q.1 hl (fun h => ?_))
      rcases h with ⟨k2, e, h⟩ | h
      · have h4 : (isC.map (fun i => ws[i]?))[k2]? = some (some (q.1, e)) := by rw [hC, List.getElem?_map, h]; rfl
        rw [List.getElem?_map] at h4
        cases hi2 : isC[k2]? with
        | none => rw [hi2] at h4; cases h4
        | some i2 =>
          rw [hi2] at h4
          have h5 : ws[i2]? = some (q.1, e) := Option.some.inj h4
          have hij := hD.1 j i2 q (q.1, e) h2 h5 rfl
          subst hij
          have h6 : j ∈ isC := List.mem_of_getElem? hi2
          have h7 : isC.contains j = true := List.elem_eq_true_of_mem h6
          have h3 : (!isC.contains j) = true := h3
          rw [h7] at h3
          exact absurd h3 (by decide)
      · omega
theorem va_D.addr {ws wn : va_W} (hD : va_D A ws) (h : ws.map Prod.fst = wn.map Prod.fst) : va_D A wn := by
  have key : ∀ (k : Nat) (q : Nat × va_E), wn[k]? = some q → ∃ q', ws[k]? = some q' ∧ q'.1 = q.1 := by
    intro k q hq
    have h1 : (wn.map Prod.fst)[k]? = some q.1 := by rw [List.getElem?_map, hq]; rfl
    rw [← h, List.getElem?_map] at h1
    cases h2 : ws[k]? with
    | none => rw [h2] at h1; cases h1
    | some q' => rw [h2] at h1; exact ⟨q', rfl, Option.some.inj h1⟩
  refine ⟨fun i j p q hp hq hpq => ?_, fun k q hq => ?_⟩
  · obtain ⟨p', h1, h2⟩ := key i p hp
    obtain ⟨q', h3, h4⟩ := key j q hq
    exact hD.1 i j p' q' h1 h3 (by rw [h2, h4, hpq])
  · obtain ⟨q', h1, h2⟩ := key k q hq
    rw [← h2]
    exact hD.2 k q' h1
theorem wI_call {S : Type} {post : Int32 → S → Prop} {Wn : S → va_W} {W0 ws : va_W} {mc ms : Nat} (hr : va_Run p l e R s m args below meth c H locs cells slots mc ms (F0 m pc ls st0) rest (va_Qi post (fun u t => va_P D clW (Wn u) t.heap) (va_A W0 H.size) a) (va_A W0 H.size)) (hP : va_P D clW ws H) (hD : va_D A ws) (hS : va_S A H0 H locs) (hA : ∀ q, H0.size ≤ q → A q)
    (isC : List Nat) (hC : isC.map (fun i => ws[i]?) = W0.map some) (src : List (Nat ⊕ Nat)) (hd : srcOk isC src = true) (Wf : S → va_W) (hs : ∀ u, src.map (srcOf ws (Wn u)) = (Wf u).map some) (had : ∀ u, ws.map Prod.fst = (Wf u).map Prod.fst)
    (kk : ∀ (r : Int32) (u : S) (H1 : Heap) (locs1 : List Loc), post r u → va_P D clW (Wf u) H1 → va_D A (Wf u) → va_S A H0 H1 locs1 → (∀ q : Nat, q < H.size → ¬ A q → H1[q]? = H[q]?) → W p l e R s m args below meth c H1 locs1 (cells + mc) (slots + ms) Q (F0 m (pc + 3) ls (.int r :: rest))) : W p l e R s m args below meth c H locs cells slots Q (F0 m pc ls st0) := by
  have hF := va_free (wc := W0) hD hS hA isC hC
  refine va_calli hr hS (fun q _ h => hF q h) hF (fun r u t H1 locs1 ht hvm hp hB hz1 hk1 hS1 => ?_)
  rw [ht] at hB
  exact kk r u H1 locs1 hp (mixP hP hD isC hC hk1 hB src hd (hs u)) (hD.addr (had u)) hS1 (fun q h1 h2 => hk1 q h1 (fun h3 => h2 (hF q h3)))
theorem wL_call {S : Type} {post : Int64 → S → Prop} {Wn : S → va_W} {W0 ws : va_W} {mc ms : Nat} (hr : va_Run p l e R s m args below meth c H locs cells slots mc ms (F0 m pc ls st0) rest (va_Ql post (fun u t => va_P D clW (Wn u) t.heap) (va_A W0 H.size) a) (va_A W0 H.size)) (hP : va_P D clW ws H) (hD : va_D A ws) (hS : va_S A H0 H locs) (hA : ∀ q, H0.size ≤ q → A q)
    (isC : List Nat) (hC : isC.map (fun i => ws[i]?) = W0.map some) (src : List (Nat ⊕ Nat)) (hd : srcOk isC src = true) (Wf : S → va_W) (hs : ∀ u, src.map (srcOf ws (Wn u)) = (Wf u).map some) (had : ∀ u, ws.map Prod.fst = (Wf u).map Prod.fst)
    (kk : ∀ (r : Int64) (u : S) (H1 : Heap) (locs1 : List Loc), post r u → va_P D clW (Wf u) H1 → va_D A (Wf u) → va_S A H0 H1 locs1 → (∀ q : Nat, q < H.size → ¬ A q → H1[q]? = H[q]?) → W p l e R s m args below meth c H1 locs1 (cells + mc) (slots + ms) Q (F0 m (pc + 3) ls (.long r :: rest))) : W p l e R s m args below meth c H locs cells slots Q (F0 m pc ls st0) := by
  have hF := va_free (wc := W0) hD hS hA isC hC
  refine va_calll hr hS (fun q _ h => hF q h) hF (fun r u t H1 locs1 ht hvm hp hB hz1 hk1 hS1 => ?_)
  rw [ht] at hB
  exact kk r u H1 locs1 hp (mixP hP hD isC hC hk1 hB src hd (hs u)) (hD.addr (had u)) hS1 (fun q h1 h2 => hk1 q h1 (fun h3 => h2 (hF q h3)))
theorem wV_call {S : Type} {post : S → Prop} {Wn : S → va_W} {W0 ws : va_W} {mc ms : Nat} (hr : va_Run p l e R s m args below meth c H locs cells slots mc ms (F0 m pc ls st0) rest (va_Qv post (fun u t => va_P D clW (Wn u) t.heap) (va_A W0 H.size) a) (va_A W0 H.size)) (hP : va_P D clW ws H) (hD : va_D A ws) (hS : va_S A H0 H locs) (hA : ∀ q, H0.size ≤ q → A q)
    (isC : List Nat) (hC : isC.map (fun i => ws[i]?) = W0.map some) (src : List (Nat ⊕ Nat)) (hd : srcOk isC src = true) (Wf : S → va_W) (hs : ∀ u, src.map (srcOf ws (Wn u)) = (Wf u).map some) (had : ∀ u, ws.map Prod.fst = (Wf u).map Prod.fst)
    (kk : ∀ (u : S) (H1 : Heap) (locs1 : List Loc), post u → va_P D clW (Wf u) H1 → va_D A (Wf u) → va_S A H0 H1 locs1 → (∀ q : Nat, q < H.size → ¬ A q → H1[q]? = H[q]?) → W p l e R s m args below meth c H1 locs1 (cells + mc) (slots + ms) Q (F0 m (pc + 3) ls rest)) : W p l e R s m args below meth c H locs cells slots Q (F0 m pc ls st0) := by
  have hF := va_free (wc := W0) hD hS hA isC hC
  refine va_callv hr hS (fun q _ h => hF q h) hF (fun u t H1 locs1 ht hvm hp hB hz1 hk1 hS1 => ?_)
  rw [ht] at hB
  exact kk u H1 locs1 hp (mixP hP hD isC hC hk1 hB src hd (hs u)) (hD.addr (had u)) hS1 (fun q h1 h2 => hk1 q h1 (fun h3 => h2 (hF q h3)))
end BASE
/-! numbers -/
theorem nt_eq {a b : Nat} (ha : a < 2147483648) (hb : b < 2147483648) (h : nI a = nI b) : a = b := (nI_eq ha hb).mp h
theorem nt_ne {a b : Nat} (_ : a < 2147483648) (_ : b < 2147483648) (h : ¬ nI a = nI b) : a ≠ b := fun e => h (by rw [e])
theorem nt_lt {a b : Nat} (ha : a < 2147483648) (hb : b < 2147483648) (h : nI a < nI b) : a < b := (nI_ltI ha hb).mp h
theorem nt_nlt {a b : Nat} (ha : a < 2147483648) (hb : b < 2147483648) (h : ¬ nI a < nI b) : b ≤ a := Nat.le_of_not_lt (fun q => h ((nI_ltI ha hb).mpr q))
theorem nt_le {a b : Nat} (ha : a < 2147483648) (hb : b < 2147483648) (h : nI a ≤ nI b) : a ≤ b := (nI_leI ha hb).mp h
theorem nt_nle {a b : Nat} (ha : a < 2147483648) (hb : b < 2147483648) (h : ¬ nI a ≤ nI b) : b < a := Nat.lt_of_not_le (fun q => h ((nI_leI ha hb).mpr q))
theorem nd_eq {a b : Nat} (h : a = b) (_ : a < 2147483648) (_ : b < 2147483648) : nI a = nI b := by rw [h]
theorem nd_ne {a b : Nat} (h : a ≠ b) (ha : a < 2147483648) (hb : b < 2147483648) : ¬ nI a = nI b := fun q => h ((nI_eq ha hb).mp q)
theorem nd_eqn {a b : Nat} (h : a = b) (_ : a < 2147483648) (_ : b < 2147483648) : ¬ ¬ nI a = nI b := fun q => q (by rw [h])
theorem nd_lt {a b : Nat} (h : a < b) (ha : a < 2147483648) (hb : b < 2147483648) : nI a < nI b := (nI_ltI ha hb).mpr h
theorem nd_nlt {a b : Nat} (h : b ≤ a) (ha : a < 2147483648) (hb : b < 2147483648) : ¬ nI a < nI b := fun q => Nat.not_lt.mpr h ((nI_ltI ha hb).mp q)
theorem nd_le {a b : Nat} (h : a ≤ b) (ha : a < 2147483648) (hb : b < 2147483648) : nI a ≤ nI b := (nI_leI ha hb).mpr h
theorem nd_nle {a b : Nat} (h : b < a) (ha : a < 2147483648) (hb : b < 2147483648) : ¬ nI a ≤ nI b := fun q => Nat.not_le.mpr h ((nI_leI ha hb).mp q)
theorem nI_get {f : Nat → Int32} {i n : Nat} (hi : i < n) (hn : n < 2147483648) : f (nI i).toNatClampNeg = f i := by rw [nI_clamp (Nat.lt_trans hi hn)]
section ROWS
variable {p : Program} {l : Launch} {e : Env} {R : Room} {s : State} {m : MethodId} {args : Array Value} {below : List Frame} {meth : Method} {c : Code} {H : Heap} {locs : List Loc} {cells slots : Nat} {Q : State → Prop}
variable {cc : ByteArray} {pc : Nat} {ls : Array Slot} {rest : List Value} {D : va_G} {cy : Nat → ClassId} {A : Nat → Prop} {a : Nat} {ws : va_W} {H0 : Heap}
theorem top_eq {x y : Int32} (h : x = y) (k : W p l e R s m args below meth c H locs cells slots Q (F0 m pc ls (.int y :: rest))) : W p l e R s m args below meth c H locs cells slots Q (F0 m pc ls (.int x :: rest)) := by rw [h]; exact k
theorem top_eqL {x y : Int64} (h : x = y) (k : W p l e R s m args below meth c H locs cells slots Q (F0 m pc ls (.long y :: rest))) : W p l e R s m args below meth c H locs cells slots Q (F0 m pc ls (.long x :: rest)) := by rw [h]; exact k
theorem ald_I (hx : p.tables.exec = Jvm.exec) (hb : c.code = cc) (hK : va_K D clW (tyW cy) s) (hP : va_P D clW ws H) (q0 : Nat) {n : Nat} {f : Nat → Int32} (ha : ws[q0]? = some (a, .inl (cy 1, n, .inl f))) {i : Nat} (hi : i < n) (hn : n < 2147483648) (hdg : decode cc pc = .ok (.iaload, 1))
    (kk : W p l e R s m args below meth c H locs cells slots Q (F0 m (pc + 1) ls (.int (f i) :: rest))) : W p l e R s m args below meth c H locs cells slots Q (F0 m pc ls (.int (nI i) :: .ref a :: rest)) :=
  va_iald hx hb hK hP q0 1 ha rfl (vp_in_nI hi hn) hdg (by rw [nI_get (f := f) hi hn]; exact kk)
theorem ald_Z (hx : p.tables.exec = Jvm.exec) (hb : c.code = cc) (hK : va_K D clW (tyW cy) s) (hP : va_P D clW ws H) (q0 : Nat) {n : Nat} {f : Nat → Int32} (ha : ws[q0]? = some (a, .inl (cy 2, n, .inl f))) {i : Nat} (hi : i < n) (hn : n < 2147483648) (hdg : decode cc pc = .ok (.baload, 1))
    (kk : W p l e R s m args below meth c H locs cells slots Q (F0 m (pc + 1) ls (.int (f i) :: rest))) : W p l e R s m args below meth c H locs cells slots Q (F0 m pc ls (.int (nI i) :: .ref a :: rest)) :=
  va_zald hx hb hK hP q0 2 ha rfl (vp_in_nI hi hn) hdg (by rw [nI_get (f := f) hi hn]; exact kk)
theorem ald_C (hx : p.tables.exec = Jvm.exec) (hb : c.code = cc) (hK : va_K D clW (tyW cy) s) (hP : va_P D clW ws H) (q0 : Nat) {n : Nat} {f : Nat → Int32} (ha : ws[q0]? = some (a, .inl (cy 0, n, .inl f))) {i : Nat} (hi : i < n) (hn : n < 2147483648) (hdg : decode cc pc = .ok (.caload, 1))
    (kk : W p l e R s m args below meth c H locs cells slots Q (F0 m (pc + 1) ls (.int (f i) :: rest))) : W p l e R s m args below meth c H locs cells slots Q (F0 m pc ls (.int (nI i) :: .ref a :: rest)) :=
  va_cald hx hb hK hP q0 0 ha rfl (vp_in_nI hi hn) hdg (by rw [nI_get (f := f) hi hn]; exact kk)
theorem ald_Ix (hx : p.tables.exec = Jvm.exec) (hb : c.code = cc) (hK : va_K D clW (tyW cy) s) (hP : va_P D clW ws H) (q0 : Nat) {n : Nat} {f : Nat → Int32} (ha : ws[q0]? = some (a, .inl (cy 1, n, .inl f))) {i : Int32} (hi : vp_in i n) (hdg : decode cc pc = .ok (.iaload, 1))
    (kk : W p l e R s m args below meth c H locs cells slots Q (F0 m (pc + 1) ls (.int (f i.toNatClampNeg) :: rest))) : W p l e R s m args below meth c H locs cells slots Q (F0 m pc ls (.int i :: .ref a :: rest)) :=
  va_iald hx hb hK hP q0 1 ha rfl hi hdg kk
theorem ald_Zx (hx : p.tables.exec = Jvm.exec) (hb : c.code = cc) (hK : va_K D clW (tyW cy) s) (hP : va_P D clW ws H) (q0 : Nat) {n : Nat} {f : Nat → Int32} (ha : ws[q0]? = some (a, .inl (cy 2, n, .inl f))) {i : Int32} (hi : vp_in i n) (hdg : decode cc pc = .ok (.baload, 1))
    (kk : W p l e R s m args below meth c H locs cells slots Q (F0 m (pc + 1) ls (.int (f i.toNatClampNeg) :: rest))) : W p l e R s m args below meth c H locs cells slots Q (F0 m pc ls (.int i :: .ref a :: rest)) :=
  va_zald hx hb hK hP q0 2 ha rfl hi hdg kk
theorem ald_Cx (hx : p.tables.exec = Jvm.exec) (hb : c.code = cc) (hK : va_K D clW (tyW cy) s) (hP : va_P D clW ws H) (q0 : Nat) {n : Nat} {f : Nat → Int32} (ha : ws[q0]? = some (a, .inl (cy 0, n, .inl f))) {i : Int32} (hi : vp_in i n) (hdg : decode cc pc = .ok (.caload, 1))
    (kk : W p l e R s m args below meth c H locs cells slots Q (F0 m (pc + 1) ls (.int (f i.toNatClampNeg) :: rest))) : W p l e R s m args below meth c H locs cells slots Q (F0 m pc ls (.int i :: .ref a :: rest)) :=
  va_cald hx hb hK hP q0 0 ha rfl hi hdg kk
theorem ast_I (hx : p.tables.exec = Jvm.exec) (hb : c.code = cc) (hK : va_K D clW (tyW cy) s) (hP : va_P D clW ws H) (hD : va_D A ws) (hS : va_S A H0 H locs) (q0 : Nat) {n : Nat} {f : Nat → Int32} (ha : ws[q0]? = some (a, .inl (cy 1, n, .inl f))) {i : Nat} {x : Int32} (hi : i < n) (hn : n < 2147483648) (hdg : decode cc pc = .ok (.iastore, 1))
    (kk : ∀ (H1 : Heap) (locs1 : List Loc), va_P D clW (ws.set q0 (a, .inl (cy 1, n, .inl (upd f i x)))) H1 → va_D A (ws.set q0 (a, .inl (cy 1, n, .inl (upd f i x)))) → va_S A H0 H1 locs1 → W p l e R s m args below meth c H1 locs1 cells slots Q (F0 m (pc + 1) ls rest)) : W p l e R s m args below meth c H locs cells slots Q (F0 m pc ls (.int x :: .int (nI i) :: .ref a :: rest)) :=
  va_iast hx hb hK hP hD hS q0 1 ha rfl (vp_in_nI hi hn) hdg (by rw [nI_clamp (Nat.lt_trans hi hn)]; exact kk)
theorem ast_Z (hx : p.tables.exec = Jvm.exec) (hb : c.code = cc) (hK : va_K D clW (tyW cy) s) (hP : va_P D clW ws H) (hD : va_D A ws) (hS : va_S A H0 H locs) (q0 : Nat) {n : Nat} {f : Nat → Int32} (ha : ws[q0]? = some (a, .inl (cy 2, n, .inl f))) {i : Nat} {x : Int32} (hi : i < n) (hn : n < 2147483648) (hv : vp_nar .boolean x = x) (hdg : decode cc pc = .ok (.bastore, 1))
    (kk : ∀ (H1 : Heap) (locs1 : List Loc), va_P D clW (ws.set q0 (a, .inl (cy 2, n, .inl (upd f i x)))) H1 → va_D A (ws.set q0 (a, .inl (cy 2, n, .inl (upd f i x)))) → va_S A H0 H1 locs1 → W p l e R s m args below meth c H1 locs1 cells slots Q (F0 m (pc + 1) ls rest)) : W p l e R s m args below meth c H locs cells slots Q (F0 m pc ls (.int x :: .int (nI i) :: .ref a :: rest)) :=
  va_zast hx hb hK hP hD hS q0 2 ha rfl (vp_in_nI hi hn) hdg (by rw [nI_clamp (Nat.lt_trans hi hn), hv]; exact kk)
theorem ast_C (hx : p.tables.exec = Jvm.exec) (hb : c.code = cc) (hK : va_K D clW (tyW cy) s) (hP : va_P D clW ws H) (hD : va_D A ws) (hS : va_S A H0 H locs) (q0 : Nat) {n : Nat} {f : Nat → Int32} (ha : ws[q0]? = some (a, .inl (cy 0, n, .inl f))) {i : Nat} {x : Int32} (hi : i < n) (hn : n < 2147483648) (hv : vp_nar .char x = x) (hdg : decode cc pc = .ok (.castore, 1))
    (kk : ∀ (H1 : Heap) (locs1 : List Loc), va_P D clW (ws.set q0 (a, .inl (cy 0, n, .inl (upd f i x)))) H1 → va_D A (ws.set q0 (a, .inl (cy 0, n, .inl (upd f i x)))) → va_S A H0 H1 locs1 → W p l e R s m args below meth c H1 locs1 cells slots Q (F0 m (pc + 1) ls rest)) : W p l e R s m args below meth c H locs cells slots Q (F0 m pc ls (.int x :: .int (nI i) :: .ref a :: rest)) :=
  va_cast hx hb hK hP hD hS q0 0 ha rfl (vp_in_nI hi hn) hdg (by rw [nI_clamp (Nat.lt_trans hi hn), hv]; exact kk)
end ROWS
/-! words of a call, out of the one list -/
theorem gU {ws : List Cond} (h : ∀ w ∈ ws, w ∈ wsL_law) : GoodIn wsL_law ws := fun w hw => wU_good w (h w hw)
theorem gUV {own C : String} {idx : Nat} {y : MethodName} {c0 : Cond} (h1 : Cond.methodLink own idx y ∈ wsL_law) (h2 : Cond.instanceMethod y ∈ wsL_law) (h3 : Cond.selects C y y ∈ wsL_law) (h4 : Cond.initialized C ∈ wsL_law) (h5 : c0 ∈ wsL_law) : GoodIn wsL_law (wsV own idx C y (c0 :: wsL_law)) := gU (fun w hw => by
  rcases List.mem_append.mp hw with h | h
  · rcases List.mem_cons.mp h with rfl | h
    · exact h1
    · rcases List.mem_cons.mp h with rfl | h
      · exact h2
      · rcases List.mem_cons.mp h with rfl | h
        · exact h3
        · rcases List.mem_cons.mp h with rfl | h
          · exact h4
          · cases h
  · rcases List.mem_cons.mp h with rfl | h
    · exact h5
    · exact h)
theorem gUS {own : String} {idx : Nat} {y : MethodName} {c0 : Cond} (h1 : Cond.methodLink own idx y ∈ wsL_law) (h2 : Cond.static y ∈ wsL_law) (h4 : Cond.initialized y.cls ∈ wsL_law) (h5 : c0 ∈ wsL_law) : GoodIn wsL_law (va_wsS own idx y (c0 :: wsL_law)) := gU (fun w hw => by
  rcases List.mem_append.mp hw with h | h
  · rcases List.mem_cons.mp h with rfl | h
    · exact h1
    · rcases List.mem_cons.mp h with rfl | h
      · exact h2
      · rcases List.mem_cons.mp h with rfl | h
        · exact h4
        · cases h
  · rcases List.mem_cons.mp h with rfl | h
    · exact h5
    · exact h)
theorem gUI {c0 : Cond} (h5 : c0 ∈ wsL_law) : GoodIn wsL_law (c0 :: wsL_law) := gU (fun w hw => by
  rcases List.mem_cons.mp hw with rfl | h
  · exact h5
  · exact h)
