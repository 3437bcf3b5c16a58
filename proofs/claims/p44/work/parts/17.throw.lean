/-! what a throw stands on, carried from caller to callee; methods that read or write and may throw -/
def exN : List String := ["java/lang/IllegalStateException", "java/lang/IndexOutOfBoundsException", "java/lang/IllegalArgumentException", "java/util/NoSuchElementException"]
def exT : List (Nat × String) := [(60, "there are 6 entities"), (93, "no value is known on any of these days"), (154, "the tick is out of range"), (60, "there are 6 entities"), (60, "there are 6 entities"), (60, "there are 6 entities"), (271, "there is no such entity"), (273, "there is no such attribute"), (275, "the day is out of range"), (277, "the days are out of range"), (283, "there have been 60 operations"), (60, "there are 6 entities"), (293, "there is no such fact"), (295, "no value is known"), (60, "there are 6 entities"), (60, "there are 6 entities")]
abbrev exUp : List String := ["java/lang/RuntimeException", "java/lang/Exception"]
def exD : List MethodName := [Bundle.initS "java/lang/RuntimeException", Bundle.initS "java/lang/Exception", Bundle.initS Bundle.tN]
def ExS (U : State) : Prop := ((∀ X ∈ exN, va_Nw (.castable X X) U) ∧ ∀ x ∈ exD, va_Nw (.declares x) U) ∧ ∀ q ∈ exT, ∃ sa : Nat, vk_R RX6 q.1 q.2 sa U
theorem ExS.warm {s U : State} (hW : s.WarmedH U.vm) (h : ExS s) : ExS U := ⟨⟨fun X hX => va_Nw.warmC hW (h.1.1 X hX), fun x hx => va_Nw.warmD hW (h.1.2 x hx)⟩, fun q hq => (h.2 q hq).elim (fun sa hs => ⟨sa, vk_R.warm hW hs⟩)⟩
theorem ExS.same {u U : State} (hv : U.vm = u.vm) (h : ExS u) : ExS U := ⟨⟨fun X hX => va_Nw.same rfl hv.symm (h.1.1 X hX), fun x hx => va_Nw.same rfl hv.symm (h.1.2 x hx)⟩, fun q hq => (h.2 q hq).elim (fun sa hs => ⟨sa, vk_R.same hv hs⟩)⟩
def ExZ (A : Nat → Prop) (U : State) (H : Heap) : Prop := vx_Zq Bundle.tN "UNASSIGNED_STACK" Bundle.steD A U H ∧ vx_Zq Bundle.tN "SUPPRESSED_SENTINEL" Bundle.listD A U H
theorem ExZ.moved {A : Nat → Prop} {u U : State} {H : Heap} (hvm : u.vm.Alike U.vm) (h : ExZ A u H) : ExZ A U H := ⟨vx_Zq.moved hvm h.1, vx_Zq.moved hvm h.2⟩
theorem ExZ.kept {A : Nat → Prop} {U : State} {H H1 : Heap} (h : ExZ A U H) (hq : ∀ a : Nat, a < H.size → ¬ A a → H1[a]? = H[a]?) : ExZ A U H1 := ⟨vx_Zq.kept h.1 hq, vx_Zq.kept h.2 hq⟩
theorem ExZ.narrow {A B : Nat → Prop} {U : State} {H : Heap} (h : ExZ A U H) (hAB : ∀ q, B q → A q) : ExZ B U H := ⟨vx_Zq.narrow h.1 hAB, vx_Zq.narrow h.2 hAB⟩
abbrev rxB (D : va_G) (cy : Nat → ClassId) (W0 : va_W) : State → Prop := fun U => va_P D clW W0 U.heap ∧ va_K D clW (tyW cy) U ∧ ExS U ∧ ExZ noA U U.heap
abbrev wxB (D : va_G) (cy : Nat → ClassId) (W0 : va_W) (sz : Nat) : State → Prop := fun U => U.heap.size = sz ∧ va_P D clW W0 U.heap ∧ va_K D clW (tyW cy) U ∧ va_D (fun _ => True) W0 ∧ ExS U ∧ ExZ (va_A W0 sz) U U.heap
/-- a reader that throws -/
abbrev xR (px : String → Prop) : String → State → State → Prop := vx_X (S := Unit) (fun _ => True) (fun E _ _ => px E) noA
/-- a writer that throws: which exception, and the world behind it -/
abbrev xW {S : Type} (px : String → S → Prop) (Wx : S → va_W) (D : va_G) (A : Nat → Prop) : String → State → State → Prop := vx_X (S := S) (fun _ => True) (fun E u t9 => px E u ∧ va_P D clW (Wx u) t9.heap) A
section THROW
variable {p : Program} {l : Launch} {e : Env} {R : Room} {s : State} {m : MethodId} {args : Array Value} {below : List Frame} {meth : Method} {c : Code} {H : Heap} {locs : List Loc} {cells slots : Nat} {Q : State → Prop}
variable {cc : ByteArray} {pc : Nat} {ls : Array Slot} {rest st0 : List Value} {a : Array Value} {D : va_G} {cy : Nat → ClassId} {A A1 : Nat → Prop} {H0 : Heap} {mc ms MC MS : Nat}
theorem enterX {y : MethodName} {maxL : Nat} {ret : Option FieldType} {rm : Room} {av : List Value} {B : State → Prop} {Qc : Array Value → State → Outcome → State → Prop} {XC : String → State → State → Prop} {free : Addr → Prop} (hy : plainName y.cls = true) (hn : (lg_sl av).length ≤ maxL)
    (body : ∀ (p : Program) (e : Env) (s : State) (m : MethodId) (below : List Frame) (meth : Method) (c : Code), p.tables.exec = Jvm.exec → c.code = cc → meth.sig.returnType = ret → c.maxLocals = maxL → s.vm.findClass y.cls = some m.cls → (∀ w ∈ wsL_law, w.before av.toArray s = true) → meth.locks = false → (∀ x ∈ c.exceptionTable.toList, False) → B s → ∀ Q : State → Prop, Q = vx_MQ below Qc XC av.toArray s mc ms free → ∀ ls : Array Slot, lv_has ls maxL (lv_args 0 av) → W p l e rm s m av.toArray below meth c s.heap [] 0 0 Q (F0 m 0 ls [])) :
    vx_Met l y (Cond.code y cc maxL ret :: wsL_law) rm (va_Pc av B) Qc XC mc ms free := by
  refine vx_ofW (cc := cc) (maxL := maxL) (ret := ret) hy rfl ?_
  intro p e s m args below meth c s₁ B0 hml hT hv
  obtain ⟨rfl, hv⟩ := hv
  have hts := atoms_spec (ws := Cond.code y cc maxL ret :: wsL_law) B0.pre
  have hown : s.vm.findClass y.cls = some m.cls := findClass_of_methodNamed B0.named
  rw [lg_entry_eq]
  exact body p e s m below meth c B0.exec B0.bytes B0.returns hml hown (fun w hw => hts w (List.mem_cons_of_mem _ hw)) B0.notSynchronized hT hv _ rfl _ (lv_entry av hn)
/-! ends -/
theorem xV_ret {post : Prop} {XC : String → State → State → Prop} (hx : p.tables.exec = Jvm.exec) (hb : c.code = cc) (hr : meth.sig.returnType = none) (hlocks : meth.locks = false) (hdg : decode cc pc = .ok (.return_, 1)) (hQ : Q = vx_MQ below (rdV post) XC args s mc ms noA) (hp : post) (h1 : cells ≤ mc) (h2 : slots ≤ ms) : W p l e R s m args below meth c s.heap [] cells slots Q (F0 m pc ls []) := hQ ▸
  vx_ret (W.widen h1 h2 (W.vret hx hb hr (fun t ht _ => ⟨rfl, hp, ht⟩) (fun _ h => by cases h) hdg hlocks))
theorem xI_ret {post : Int32 → Prop} {v : Int32} {ty : FieldType} {XC : String → State → State → Prop} (hx : p.tables.exec = Jvm.exec) (hb : c.code = cc) (hr : meth.sig.returnType = some ty) (hlocks : meth.locks = false) (hdg : decode cc pc = .ok (.ireturn, 1)) (hn : narrow ty (.int v) = .int v) (hQ : Q = vx_MQ below (rdI post) XC args s mc ms noA) (hp : post v) (h1 : cells ≤ mc) (h2 : slots ≤ ms) : W p l e R s m args below meth c s.heap [] cells slots Q (F0 m pc ls [.int v]) := hQ ▸
  vx_ret (W.widen h1 h2 (W.zret hx hb hr hn (fun t ht _ => ⟨v, rfl, hp, ht⟩) (fun _ h => by cases h) hdg hlocks))
theorem yI_ret {S : Type} {post : Int32 → S → Prop} {Wn : S → va_W} {v : Int32} {ty : FieldType} {XC : String → State → State → Prop} (u : S) (hS : va_S A s.heap H locs) (hP : va_P D clW (Wn u) H) (hx : p.tables.exec = Jvm.exec) (hb : c.code = cc) (hr : meth.sig.returnType = some ty) (hlocks : meth.locks = false) (hdg : decode cc pc = .ok (.ireturn, 1)) (hn : narrow ty (.int v) = .int v) (h1 : cells ≤ mc) (h2 : slots ≤ ms) (hQ : Q = vx_MQ below (va_Qi post (fun u t9 => va_P D clW (Wn u) t9.heap) A) XC args s mc ms A) (hp : post v u) : W p l e R s m args below meth c H locs cells slots Q (F0 m pc ls [.int v]) := hQ ▸
  vx_ret (W.widen h1 h2 (W.zret hx hb hr hn (fun t ht _ => ⟨⟨v, u, rfl, hp, by show va_P D clW (Wn u) t.heap; rw [ht]; exact hP⟩, hS.F ht⟩) hS.2.2 hdg hlocks))
theorem yL_ret {S : Type} {post : Int64 → S → Prop} {Wn : S → va_W} {v : Int64} {XC : String → State → State → Prop} (u : S) (hS : va_S A s.heap H locs) (hP : va_P D clW (Wn u) H) (hx : p.tables.exec = Jvm.exec) (hb : c.code = cc) (hr : meth.sig.returnType = some .long) (hlocks : meth.locks = false) (hdg : decode cc pc = .ok (.lreturn, 1)) (h1 : cells ≤ mc) (h2 : slots ≤ ms) (hQ : Q = vx_MQ below (va_Ql post (fun u t9 => va_P D clW (Wn u) t9.heap) A) XC args s mc ms A) (hp : post v u) : W p l e R s m args below meth c H locs cells slots Q (F0 m pc ls [.long v]) := hQ ▸
  vx_ret (W.widen h1 h2 (W.lret hx hb hr (fun t ht _ => ⟨⟨v, u, rfl, hp, by show va_P D clW (Wn u) t.heap; rw [ht]; exact hP⟩, hS.F ht⟩) hS.2.2 hdg hlocks))
theorem yV_ret {S : Type} {post : S → Prop} {Wn : S → va_W} {XC : String → State → State → Prop} (u : S) (hS : va_S A s.heap H locs) (hP : va_P D clW (Wn u) H) (hx : p.tables.exec = Jvm.exec) (hb : c.code = cc) (hr : meth.sig.returnType = none) (hlocks : meth.locks = false) (hdg : decode cc pc = .ok (.return_, 1)) (h1 : cells ≤ mc) (h2 : slots ≤ ms) (hQ : Q = vx_MQ below (va_Qv post (fun u t9 => va_P D clW (Wn u) t9.heap) A) XC args s mc ms A) (hp : post u) : W p l e R s m args below meth c H locs cells slots Q (F0 m pc ls []) := hQ ▸
  vx_ret (W.widen h1 h2 (W.vret hx hb hr (fun t ht _ => ⟨⟨u, rfl, hp, by show va_P D clW (Wn u) t.heap; rw [ht]; exact hP⟩, hS.F ht⟩) hS.2.2 hdg hlocks))
/-- the exception leaves a reader, a writer -/
theorem xOut {Qc : Array Value → State → Outcome → State → Prop} {px : String → Prop} {E : String} {ce : Cell} {q : Addr} {H1 : Heap} (hT : ∀ x ∈ c.exceptionTable.toList, False) (hlocks : meth.locks = false) (hcell : H1[q]? = some ce) (hv : ce.vm = .none) (hcl : s.vm.findClass E = some ce.cls) (hp : px E) (hz : s.heap.size ≤ H1.size) (hk : ∀ q : Nat, q < s.heap.size → H1[q]? = s.heap[q]?) (h1 : cells ≤ mc) (h2 : slots ≤ ms) (hQ : Q = vx_MQ below Qc (xR px) args s mc ms noA) :
    vx_W p l e R s m args below meth c H1 [] cells slots Q (F0 m pc ls rest) q := hQ ▸
  vx_out (fun x hx => (hT x hx).elim) hlocks hcell hv hcl (fun t ht _ => ⟨(), trivial, hp, by rw [ht]; exact hz, fun q hq _ => by rw [ht]; exact hk q hq⟩) (fun _ h => by cases h) h1 h2
theorem yOut {S : Type} {Qc : Array Value → State → Outcome → State → Prop} {px : String → S → Prop} {Wx : S → va_W} {E : String} {ce : Cell} {q : Addr} (u : S) (hS : va_S A s.heap H locs) (hP : va_P D clW (Wx u) H) (hT : ∀ x ∈ c.exceptionTable.toList, False) (hlocks : meth.locks = false) (hcell : H[q]? = some ce) (hv : ce.vm = .none) (hcl : s.vm.findClass E = some ce.cls) (hp : px E u) (h1 : cells ≤ mc) (h2 : slots ≤ ms) (hQ : Q = vx_MQ below Qc (xW px Wx D A) args s mc ms A) :
    vx_W p l e R s m args below meth c H locs cells slots Q (F0 m pc ls rest) q := hQ ▸
  vx_out (fun x hx => (hT x hx).elim) hlocks hcell hv hcl (fun t ht _ => ⟨u, trivial, ⟨hp, by rw [ht]; exact hP⟩, hS.F ht⟩) hS.2.2 h1 h2
/-! calls of readers that throw: what they say of the throw goes on -/
theorem keptP_all {ws : va_W} {H1 : Heap} (hP : va_P D clW ws H) (hk : ∀ q : Nat, q < H.size → H1[q]? = H[q]?) : va_P D clW ws H1 := fun k q hq => (hP k q hq).kept (hk q.1 (hP k q hq).lt)
theorem keptS_all {H1 : Heap} (hS : va_S A H0 H locs) (hz : H.size ≤ H1.size) (hk : ∀ q : Nat, q < H.size → H1[q]? = H[q]?) : va_S A H0 H1 locs := ⟨Nat.le_trans hS.1 hz, fun q h1 h2 => by rw [hk q (Nat.lt_of_lt_of_le h1 hS.1)]; exact hS.2.1 q h1 h2, hS.2.2⟩
theorem xR_runV {post : Prop} {px : String → Prop} (hr : vx_Run p l e R s m args below meth c H locs cells slots mc ms (F0 m pc ls st0) rest (rdV post a) (xR px) noA)
    (kx : ∀ (E : String) (ce : Cell) (q9 : Addr) (H1 : Heap), px E → H.size ≤ H1.size → (∀ q : Nat, q < H.size → H1[q]? = H[q]?) → H1[q9]? = some ce → ce.vm = .none → s.vm.findClass E = some ce.cls → vx_W p l e R s m args below meth c H1 locs (cells + mc) (slots + ms) Q (F0 m pc ls rest) q9)
    (kk : post → W p l e R s m args below meth c H locs (cells + mc) (slots + ms) Q (F0 m (pc + 3) ls rest)) : W p l e R s m args below meth c H locs cells slots Q (F0 m pc ls st0) := by
  intro T hT X
  rcases hr T hT X with ⟨v, st₀, t, T', L, h0, X', hL, e1, -, ⟨hv, hp, hh⟩, st⟩ | ⟨q, st₀, t, T', L, E, ce, h0, X', hL, e1, -, ⟨u, -, hpx, hz, hk⟩, hce, hcv, hcl, st⟩
  · cases hv
    obtain ⟨t2, a1, b1⟩ := kk hp T' (by rw [e1, hh, h0]) (Stand.forget X' (fun q h => (hL q h).elim))
    exact ⟨t2, st t2 a1, b1⟩
  · rw [h0] at hz hk
    obtain ⟨t2, a1, b1⟩ := kx E ce q T'.heap hpx (by rw [e1]; exact hz) (fun q hq => by rw [e1]; exact hk q hq (fun z => z)) (by rw [e1]; exact hce) hcv hcl T' rfl (Stand.forget X' (fun q h => (hL q h).elim))
    exact ⟨t2, st.trans a1, b1⟩
theorem xR_call {post : Prop} {px px' : String → Prop} {Qc : Array Value → State → Outcome → State → Prop} (hr : vx_Run p l e R s m args below meth c s.heap [] cells slots mc ms (F0 m pc ls st0) rest (rdV post a) (xR px) noA) (hT : ∀ x ∈ c.exceptionTable.toList, False) (hlocks : meth.locks = false) (hQ : Q = vx_MQ below Qc (xR px') args s MC MS noA) (h1 : cells + mc ≤ MC) (h2 : slots + ms ≤ MS) (hpx : ∀ E, px E → px' E)
    (kk : post → W p l e R s m args below meth c s.heap [] (cells + mc) (slots + ms) Q (F0 m (pc + 3) ls rest)) : W p l e R s m args below meth c s.heap [] cells slots Q (F0 m pc ls st0) :=
  xR_runV hr (fun E ce q9 H1 hp hz hk hce hcv hcl => xOut hT hlocks hce hcv hcl (hpx E hp) hz hk h1 h2 hQ) kk
theorem yR_call {S : Type} {post : Prop} {px : String → Prop} {px' : String → S → Prop} {Wx : S → va_W} {Qc : Array Value → State → Outcome → State → Prop} (hr : vx_Run p l e R s m args below meth c H locs cells slots mc ms (F0 m pc ls st0) rest (rdV post a) (xR px) noA) (u : S) (hS : va_S A s.heap H locs) (hP : va_P D clW (Wx u) H) (hT : ∀ x ∈ c.exceptionTable.toList, False) (hlocks : meth.locks = false) (hQ : Q = vx_MQ below Qc (xW px' Wx D A) args s MC MS A) (h1 : cells + mc ≤ MC) (h2 : slots + ms ≤ MS) (hpx : ∀ E, px E → px' E u)
    (kk : post → W p l e R s m args below meth c H locs (cells + mc) (slots + ms) Q (F0 m (pc + 3) ls rest)) : W p l e R s m args below meth c H locs cells slots Q (F0 m pc ls st0) :=
  xR_runV hr (fun E ce q9 H1 hp hz hk hce hcv hcl => yOut u (keptS_all hS hz hk) (keptP_all hP hk) hT hlocks hce hcv hcl (hpx E hp) h1 h2 hQ) kk
/-- a writer that throws, over the same world -/
theorem yW_call {S S' : Type} {post : S → Prop} {px : String → S' → Prop} {Wn : S → va_W} {Wx : S' → va_W} {SX : Type} {px' : String → SX → Prop} {Wx' : SX → va_W} {Qc : Array Value → State → Outcome → State → Prop} {ws : va_W} (hr : vx_Run p l e R s m args below meth c H locs cells slots mc ms (F0 m pc ls st0) rest (va_Qv post (fun u t9 => va_P D clW (Wn u) t9.heap) (va_A ws H.size) a) (xW px Wx D (va_A ws H.size)) (va_A ws H.size))
    (hD : va_D A ws) (hS : va_S A s.heap H locs) (hA : ∀ q, s.heap.size ≤ q → A q) (hT : ∀ x ∈ c.exceptionTable.toList, False) (hlocks : meth.locks = false) (hQ : Q = vx_MQ below Qc (xW px' Wx' D A) args s MC MS A) (h1 : cells + mc ≤ MC) (h2 : slots + ms ≤ MS)
    (ux : S' → SX) (hux : ∀ u, Wx' (ux u) = Wx u) (hpx : ∀ E u, px E u → px' E (ux u)) (had : ∀ u, ws.map Prod.fst = (Wn u).map Prod.fst)
    (kk : ∀ (u : S) (H1 : Heap) (locs1 : List Loc), post u → va_P D clW (Wn u) H1 → va_D A (Wn u) → va_S A s.heap H1 locs1 → W p l e R s m args below meth c H1 locs1 (cells + mc) (slots + ms) Q (F0 m (pc + 3) ls rest)) : W p l e R s m args below meth c H locs cells slots Q (F0 m pc ls st0) := by
  have hF : ∀ q, va_A ws H.size q → A q := by
    intro q h
    rcases h with ⟨k, e, h⟩ | h
    · exact hD.2 k (q, e) h
    · exact hA q (Nat.le_trans hS.1 h)
  refine vx_callv hr hS (fun q _ h => hF q h) hF (fun q _ h => hF q h) (fun E ce q9 u t H1 locs1 ht hvm _ hB hz hk hS1 hce hcv hcl => ?_) (fun u t H1 locs1 ht hvm hp hB hz hk hS1 => ?_)
  · obtain ⟨hp, hB⟩ := hB
    rw [ht] at hB
    exact yOut (ux u) hS1 (by rw [hux]; exact hB) hT hlocks hce hcv hcl (hpx E u hp) h1 h2 hQ
  · rw [ht] at hB
    exact kk u H1 locs1 hp hB (hD.addr (had u)) hS1
/-! starts of callees that throw -/
theorem blindRX {W0 : va_W} {av : List Value} : FrameBlind (va_Pc av (rxB D cy W0)) := fun a U g mk q => ⟨q.1, q.2.1, va_K.moved (u := U) (U := U.calling g mk a) (Vm.Alike.refl U.vm) q.2.2.1, ExS.same rfl q.2.2.2.1, ExZ.moved (u := U) (U := U.calling g mk a) (Vm.Alike.refl U.vm) q.2.2.2.2⟩
theorem blindWX {W0 : va_W} {av : List Value} {sz : Nat} : FrameBlind (va_Pc av (wxB D cy W0 sz)) := fun a U g mk q => ⟨q.1, q.2.1, q.2.2.1, va_K.moved (u := U) (U := U.calling g mk a) (Vm.Alike.refl U.vm) q.2.2.2.1, q.2.2.2.2.1, ExS.same rfl q.2.2.2.2.2.1, ExZ.moved (u := U) (U := U.calling g mk a) (Vm.Alike.refl U.vm) q.2.2.2.2.2.2⟩
theorem preVRX {W0 : va_W} {As : List Value} {b q0 ci : Nat} {q : vw_C} {fs : List Value} (hK : va_K D clW (tyW cy) s) (hE : ExS s) (hZ : ExZ noA s H) (hP : va_P D clW W0 H) (hc : clW[ci]? = some q) (he : W0[q0]? = some (b, .inr (ci, fs))) : PreV s H q.1 b (va_Pc (.ref b :: As) (rxB D cy W0)) As :=
  ⟨blindRX, va_recv hK hP hc he, fun U hU hW => ⟨rfl, by rw [hU]; exact hP, va_K.moved hW.alike hK, ExS.warm hW hE, by rw [hU]; exact ExZ.moved hW.alike hZ⟩⟩
theorem preVWX {W0 : va_W} {As : List Value} {b q0 ci : Nat} {q : vw_C} {fs : List Value} (hK : va_K D clW (tyW cy) s) (hE : ExS s) (hZ : ExZ A s H) (hF : ∀ q, va_A W0 H.size q → A q) (hP : va_P D clW W0 H) (hD : va_D A W0) (hc : clW[ci]? = some q) (he : W0[q0]? = some (b, .inr (ci, fs))) : PreV s H q.1 b (va_Pc (.ref b :: As) (wxB D cy W0 H.size)) As :=
  ⟨blindWX, va_recv hK hP hc he, fun U hU hW => ⟨rfl, by rw [hU], by rw [hU]; exact hP, va_K.moved hW.alike hK, hD.weaken (fun _ _ _ _ => trivial), ExS.warm hW hE, by rw [hU]; exact (ExZ.moved hW.alike hZ).narrow hF⟩⟩
theorem ExZ.now (hZ : ExZ A s s.heap) (hS : va_S A s.heap H locs) : ExZ A s H := hZ.kept hS.2.1
theorem ExZ.no {U : State} (hZ : ExZ A U H) : ExZ noA U H := hZ.narrow (fun _ h => h.elim)
theorem frame_in {ws : va_W} (hD : va_D A ws) (hS : va_S A H0 H locs) (hA : ∀ q, H0.size ≤ q → A q) : ∀ q, va_A ws H.size q → A q := by
  intro q h
  rcases h with ⟨k, e, h⟩ | h
  · exact hD.2 k (q, e) h
  · exact hA q (Nat.le_trans hS.1 h)
end THROW
