/-! the script's cells, cut to size; calls of the book by block -/
abbrev lowI (v y : Int32) : Int32 := (v &&& 2147483647) - (v &&& 2147483647) / y * y
def tB : State → Prop := fun _ => True
section LOW
variable {p : Program} {l : Launch} {e : Env} {R : Room} {s : State} {m : MethodId} {args : Array Value} {below : List Frame} {meth : Method} {c : Code} {H : Heap} {locs : List Loc} {cells slots : Nat} {Q : State → Prop}
variable {cc : ByteArray} {pc : Nat} {ls : Array Slot} {rest st0 : List Value} {a : Array Value} {D : va_G} {cy : Nat → ClassId} {A A1 : Nat → Prop} {H0 : Heap} {mc ms MC MS : Nat}
theorem preS0 {As : List Value} : PreS s H (va_Pc As tB) As := ⟨fun a U g mk q => ⟨q.1, trivial⟩, fun U hU hW => ⟨rfl, trivial⟩⟩
theorem preSc {As : List Value} {b L : Nat} {xs : Nat → Int32} (hX : va_X b L xs s H) (hbl : b < H.size) : PreS s H (va_Pc As (fun U => va_X b L xs U U.heap ∧ b < U.heap.size)) As := ⟨fun a U g mk q => ⟨q.1, va_X.moved (u := U) (U := U.calling g mk a) (Vm.Alike.refl U.vm) q.2.1, q.2.2⟩, fun U hU hW => ⟨rfl, by rw [hU]; exact va_X.moved hW.alike hX, by rw [hU]; exact hbl⟩⟩
/-- a void writer, called over its block -/
theorem bwV_call {S : Type} {post : S → Prop} {Wn : S → va_W} {X Y Z : va_W} (hr : va_Run p l e R s m args below meth c H locs cells slots mc ms (F0 m pc ls st0) rest (va_Qv post (fun u t9 => va_P D clW (Wn u) t9.heap) (va_A Y H.size) a) (va_A Y H.size)) (hP : va_P D clW (X ++ (Y ++ Z)) H) (hD : va_D A (X ++ (Y ++ Z))) (hS : va_S A H0 H locs) (hA : ∀ q, H0.size ≤ q → A q) (had : ∀ u, Y.map Prod.fst = (Wn u).map Prod.fst)
    (kk : ∀ (u : S) (H1 : Heap) (locs1 : List Loc), post u → va_P D clW (X ++ (Wn u ++ Z)) H1 → va_D A (X ++ (Wn u ++ Z)) → va_S A H0 H1 locs1 → W p l e R s m args below meth c H1 locs1 (cells + mc) (slots + ms) Q (F0 m (pc + 3) ls rest)) : W p l e R s m args below meth c H locs cells slots Q (F0 m pc ls st0) := by
  have hF := blkF hD hS hA
  refine va_callv hr hS (fun q _ h => hF q h) hF (fun u t H1 locs1 ht hvm hp hB hz hk hS1 => ?_)
  rw [ht] at hB
  exact kk u H1 locs1 hp (blkP hP hD hk hB) (blkD hD (had u)) hS1
end LOW
set_option maxHeartbeats 4000000 in
set_option maxRecDepth 100000 in
theorem c_L_low (l : Launch) (v y : Int32) (hy : ¬ y = 0) : Met l yL_low (Cond.code yL_low cL_low 2 (some .int) :: wsL_law) ({ frames := 0, cells := 0, slots := 0, locals := 0 }) (va_Pc [.int v, .int y] tB) (rdI (fun r => r = lowI v y)) 0 0 noA := by
  refine enter (cc := cL_low) (by decide) (Nat.le_of_ble_eq_true rfl) ?_
  intro p e s m below meth c hx hb hr hml hown hts hlocks hin hv Q hQ ls hl
  have hown : s.vm.findClass RL = some m.cls := hown
  have hl : lv_has ls 2 [(0, .int v), (1, .int y)] := hl
  refine lv_iload_n hx hb dL_low_0 rfl (lv_at hl 0 rfl) ?_
  refine lv_ldc (v := 2147483647) hx hb hown (hts _ wm_117) dL_low_1 ?_
  refine lv_iand hx hb dL_low_3 ?_
  refine lv_iload_n hx hb dL_low_4 rfl (lv_at hl 1 rfl) ?_
  refine lv_irem hx hb dL_low_5 hy ?_
  exact rI_ret hx hb hr hlocks dL_low_6 hQ rfl
set_option maxHeartbeats 4000000 in
set_option maxRecDepth 100000 in
theorem c_L_cell (l : Launch) (b L : Nat) (xs : Nat → Int32) (k : Nat) (hk : k < L) (hL : L ≤ 260) : Met l yL_cell (Cond.code yL_cell cL_cell 2 (some .int) :: wsL_law) ({ frames := 0, cells := 0, slots := 0, locals := 0 }) (va_Pc [.ref b, .int (nI k)] (fun U => va_X b L xs U U.heap ∧ b < U.heap.size)) (rdI (fun r => r = xs k)) 0 0 noA := by
  refine enter (cc := cL_cell) (by decide) (Nat.le_of_ble_eq_true rfl) ?_
  intro p e s m below meth c hx hb hr hml hown hts hlocks hin hv Q hQ ls hl
  obtain ⟨hX, hbl⟩ := hv
  have hS : va_S noA s.heap s.heap [] := va_S.rf
  have hl : lv_has ls 2 [(0, .ref b), (1, .int (nI k))] := hl
  refine lv_iload_n hx hb dL_cell_0 rfl (lv_at hl 1 rfl) ?_
  refine lv_aload_n hx hb dL_cell_1 rfl (lv_at hl 0 rfl) ?_
  refine va_slen hx hb hX hbl (fun q => q) hS dL_cell_2 ?_
  refine lv_icmp_ge (tgt := 12) hx hb dL_cell_3 (by decide) (fun c1 => absurd c1 (nd_nle hk (by omega) (by omega))) (fun _ => ?_)
  refine lv_aload_n hx hb dL_cell_6 rfl (lv_at hl 0 rfl) ?_
  refine lv_iload_n hx hb dL_cell_7 rfl (lv_at hl 1 rfl) ?_
  refine va_sld hx hb hX hbl (fun q => q) hS (vp_in_nI hk (by omega)) dL_cell_8 ?_
  refine lv_goto (tgt := 20) hx hb dL_cell_9 (by decide) ?_
  exact rI_ret hx hb hr hlocks dL_cell_20 hQ (by rw [nI_clamp (by omega)])
/-! the book behind a telling, behind a purge -/
abbrev bJ1 (n h : Nat) : AI := va_up (GJ n h) 1 (nI (n + 1))
abbrev bT1 (n h : Nat) : AS := va_up (va_up (GT n h) 8 (upd (GT n h 8) (n + 1) 116)) 9 (upd (GT n h 9) (n + 1) 0)
abbrev bT2 (n h : Nat) : AS := va_up (bT1 n h) 6 (if 0 < n then upd (bT1 n h 6) (n - 1) (bJ1 n h 1) else bT1 n h 6)
theorem bk_T {n h : Nat} : va_up (va_up (va_up (va_up (va_up (va_up (bT2 n h) 1 (upd (bT2 n h 1) n 0)) 2 (upd (bT2 n h 2) n 0)) 3 (upd (bT2 n h 3) n 0)) 4 (upd (bT2 n h 4) n 1)) 5 (upd (bT2 n h 5) n (bJ1 n h 1))) 6 (upd (bT2 n h 6) n (-1)) = GT (n + 1) h := by
  funext r
  by_cases h6 : r = 6
  · subst h6; exact up_cl n
  by_cases h5 : r = 5
  · subst h5; exact up_op n
  by_cases h4 : r = 4
  · subst h4; exact up_to n
  by_cases h3 : r = 3
  · subst h3; exact up_z n
  by_cases h2 : r = 2
  · subst h2; exact up_z n
  by_cases h1 : r = 1
  · subst h1; exact up_z n
  by_cases h9 : r = 9
  · subst h9; exact up_z (n + 1)
  by_cases h8 : r = 8
  · subst h8; exact up_kd n
  rw [va_up_ne _ _ h6, va_up_ne _ _ h5, va_up_ne _ _ h4, va_up_ne _ _ h3, va_up_ne _ _ h2, va_up_ne _ _ h1, bT2, va_up_ne _ _ h6, bT1, va_up_ne _ _ h9, va_up_ne _ _ h8]
  simp only [GT, if_neg h4, if_neg h5, if_neg h6, if_neg h8]
theorem gnR_n {h q n : Nat} (h1 : h ≤ q) (h2 : q ≤ n) : gnR h q n = fGn q := by
  funext i
  simp only [gnR]
  by_cases e : i < n
  · rw [if_pos e]
  · rw [if_neg e, fGn, fGn, if_neg (by omega), if_neg (by omega)]
theorem pu_T {n h q : Nat} : va_up (GT n h) 7 (fGn q) = GT n q := by
  funext r
  simp only [va_up, GT]
  by_cases h7 : r = 7
  · subst h7; rfl
  · simp only [if_neg h7]
theorem gnR_at (h q f : Nat) : gnR h q f f = fGn h f := if_neg (by omega)
abbrev puN (h q f : Nat) : Nat := min f (q - 1) - (h - 1)
