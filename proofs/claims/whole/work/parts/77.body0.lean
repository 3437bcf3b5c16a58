/-! the law's body: its context, its world, its calls by block -/
abbrev lcA (s : State) : Nat → Prop := fun q => s.heap.size ≤ q
def LCx (p : Program) (l : Launch) (s : State) (m : MethodId) (c : Code) (b L : Nat) (xs : Nat → Int32) (D : va_G) (cy : Nat → ClassId) : Prop :=
  p.tables.exec = Jvm.exec ∧ c.code = code ∧ c.maxLocals = 9 ∧ s.vm.findClass RL = some m.cls ∧ (∀ w ∈ wsL_law, w.before #[Value.ref b] s = true) ∧ l.stackTraces = false ∧ va_X b L xs s s.heap ∧ b < s.heap.size ∧ L ≤ 3584 ∧
  EcS s ∧ va_K D clW (tyW cy) s ∧ ExS s ∧ ExZ (lcA s) s s.heap
abbrev wL (cy : Nat → ClassId) (ad : Nat → Nat) (I : AI) (S : AS) (ao aq : Nat) (fo : Nat → Int64) (fd : Nat → UInt64) (bd : Nat → Nat) (J : AI) (T : AS) : va_W := (wC cy ad I S ++ oLD cy ao aq fo fd) ++ wM cy bd J T
abbrev lcL (b : Nat) (ad bd : Nat → Nat) (ao aq i : Nat) : List (Nat × Value) := [(0, .ref b), (1, .ref (ad 0)), (2, .ref (bd 0)), (3, .ref ao), (4, .ref aq), (5, .int (nI i))]
abbrev LK (p : Program) (l : Launch) (e : Env) (s : State) (m : MethodId) (b : Nat) (below : List Frame) (meth : Method) (c : Code) (D : va_G) (cy : Nat → ClassId) (ad bd : Nat → Nat) (ao aq i cells slots : Nat) (Q : State → Prop) : Prop :=
  ∀ (H : Heap) (locs : List Loc) (I : AI) (S : AS) (J : AI) (T : AS) (fo : Nat → Int64) (fd : Nat → UInt64) (ls : Array Slot), Inv I S J T → va_P D clW (wL cy ad I S ao aq fo fd bd J T) H → va_D (lcA s) (wL cy ad I S ao aq fo fd bd J T) → va_S (lcA s) s.heap H locs → lv_has ls 9 (lcL b ad bd ao aq i) → W p l e room_1 s m #[Value.ref b] below meth c H locs cells slots Q (F0 m 3200 ls [])
section LAWB
variable {p : Program} {l : Launch} {e : Env} {R : Room} {s : State} {m : MethodId} {args : Array Value} {below : List Frame} {meth : Method} {c : Code} {H : Heap} {locs : List Loc} {cells slots : Nat} {Q : State → Prop}
variable {cc : ByteArray} {pc : Nat} {ls : Array Slot} {rest st0 : List Value} {a : Array Value} {D : va_G} {cy : Nat → ClassId} {A A1 : Nat → Prop} {H0 : Heap} {mc ms MC MS : Nat}
theorem W_wid {g : JFrame} {k n : Nat} (h1 : cells ≤ k) (h2 : slots ≤ n) (kk : W p l e R s m args below meth c H locs k n Q g) : W p l e R s m args below meth c H locs cells slots Q g := fun T hT X => kk T hT (stand_widen X h1 h2)
theorem bwI_call {S : Type} {post : Int32 → S → Prop} {Wn : S → va_W} {X Y Z : va_W} (hr : va_Run p l e R s m args below meth c H locs cells slots mc ms (F0 m pc ls st0) rest (va_Qi post (fun u t9 => va_P D clW (Wn u) t9.heap) (va_A Y H.size) a) (va_A Y H.size)) (hP : va_P D clW (X ++ (Y ++ Z)) H) (hD : va_D A (X ++ (Y ++ Z))) (hS : va_S A H0 H locs) (hA : ∀ q, H0.size ≤ q → A q) (had : ∀ u, Y.map Prod.fst = (Wn u).map Prod.fst)
    (kk : ∀ (r : Int32) (u : S) (H1 : Heap) (locs1 : List Loc), post r u → va_P D clW (X ++ (Wn u ++ Z)) H1 → va_D A (X ++ (Wn u ++ Z)) → va_S A H0 H1 locs1 → W p l e R s m args below meth c H1 locs1 (cells + mc) (slots + ms) Q (F0 m (pc + 3) ls (.int r :: rest))) : W p l e R s m args below meth c H locs cells slots Q (F0 m pc ls st0) := by
  have hF := blkF hD hS hA
  refine va_calli hr hS (fun q _ h => hF q h) hF (fun r u t H1 locs1 ht hvm hp hB hz hk hS1 => ?_)
  rw [ht] at hB
  exact kk r u H1 locs1 hp (blkP hP hD hk hB) (blkD hD (had u)) hS1
theorem bwL_call {S : Type} {post : Int64 → S → Prop} {Wn : S → va_W} {X Y Z : va_W} (hr : va_Run p l e R s m args below meth c H locs cells slots mc ms (F0 m pc ls st0) rest (va_Ql post (fun u t9 => va_P D clW (Wn u) t9.heap) (va_A Y H.size) a) (va_A Y H.size)) (hP : va_P D clW (X ++ (Y ++ Z)) H) (hD : va_D A (X ++ (Y ++ Z))) (hS : va_S A H0 H locs) (hA : ∀ q, H0.size ≤ q → A q) (had : ∀ u, Y.map Prod.fst = (Wn u).map Prod.fst)
    (kk : ∀ (r : Int64) (u : S) (H1 : Heap) (locs1 : List Loc), post r u → va_P D clW (X ++ (Wn u ++ Z)) H1 → va_D A (X ++ (Wn u ++ Z)) → va_S A H0 H1 locs1 → W p l e R s m args below meth c H1 locs1 (cells + mc) (slots + ms) Q (F0 m (pc + 3) ls (.long r :: rest))) : W p l e R s m args below meth c H locs cells slots Q (F0 m pc ls st0) := by
  have hF := blkF hD hS hA
  refine va_calll hr hS (fun q _ h => hF q h) hF (fun r u t H1 locs1 ht hvm hp hB hz hk hS1 => ?_)
  rw [ht] at hB
  exact kk r u H1 locs1 hp (blkP hP hD hk hB) (blkD hD (had u)) hS1
theorem bwD_call {S : Type} {post : UInt64 → S → Prop} {Wn : S → va_W} {X Y Z : va_W} (hr : va_Run p l e R s m args below meth c H locs cells slots mc ms (F0 m pc ls st0) rest (va_Qd post (fun u t9 => va_P D clW (Wn u) t9.heap) (va_A Y H.size) a) (va_A Y H.size)) (hP : va_P D clW (X ++ (Y ++ Z)) H) (hD : va_D A (X ++ (Y ++ Z))) (hS : va_S A H0 H locs) (hA : ∀ q, H0.size ≤ q → A q) (had : ∀ u, Y.map Prod.fst = (Wn u).map Prod.fst)
    (kk : ∀ (r : UInt64) (u : S) (H1 : Heap) (locs1 : List Loc), post r u → va_P D clW (X ++ (Wn u ++ Z)) H1 → va_D A (X ++ (Wn u ++ Z)) → va_S A H0 H1 locs1 → W p l e R s m args below meth c H1 locs1 (cells + mc) (slots + ms) Q (F0 m (pc + 3) ls (.double r :: rest))) : W p l e R s m args below meth c H locs cells slots Q (F0 m pc ls st0) := by
  have hF := blkF hD hS hA
  refine va_calld hr hS (fun q _ h => hF q h) hF (fun r u t H1 locs1 ht hvm hp hB hz hk hS1 => ?_)
  rw [ht] at hB
  exact kk r u H1 locs1 hp (blkP hP hD hk hB) (blkD hD (had u)) hS1
end LAWB
