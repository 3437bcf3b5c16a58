theorem gf_X7_39 {p : Program} {l : Launch} {e : Env} {R : Room} {s : State} {m : MethodId} {args : Array Value} {below : List Frame} {meth : Method} {c : Code} {H : Heap} {locs : List Loc} {cells slots : Nat} {Q : State → Prop} {cc : ByteArray} {pc : Nat} {ls : Array Slot} {rest : List Value} {D : va_G} {cy : Nat → ClassId} {a : Nat} {ws : va_W} (hx : p.tables.exec = Jvm.exec) (hb : c.code = cc) (hts : ∀ w ∈ wsL_law, w.before args s = true) (hown : s.vm.findClass RX7 = some m.cls) (hK : va_K D clW (tyW cy) s) (hP : va_P D clW ws H) (q0 : Nat) {fs : List Value} (he : ws[q0]? = some (a, .inr (7, fs))) {v : Value} (hv : fs[15]? = some v) (hdg : decode cc pc = .ok (.getfield 39, 3)) (kk : W p l e R s m args below meth c H locs cells slots Q (F0 m (pc + 3) ls (v :: rest))) : W p l e R s m args below meth c H locs cells slots Q (F0 m pc ls (.ref a :: rest)) := va_get (own := RX7) (ref := RX7) (C := RX7) (T := TX7) (N := 27) (ci := 7) hx hb hts inlX7 hown hK hP q0 he rfl 15 (by decide) (hts _ wm_99) (fun _ h => h) hv hdg kk
theorem cw_X7_92 {R : Room} {s : State} {args : Array Value} {rm : Room} {mc ms : Nat} (hts : ∀ w ∈ wsL_law, w.before args s = true) (hrc : rm.cells = mc) (hrs : rm.slots = ms) (hR : rm.frames + 1 ≤ R.frames ∧ 8 + (3 + 11) + rm.locals ≤ R.locals) : CallW R s args RX7 RX7 92 yX7_isPlace cX7_isPlace 3 (some .boolean) (Cond.code yX7_isPlace cX7_isPlace 3 (some .boolean) :: wsL_law) rm mc ms 2 := cwV 2 hts (gUV wm_224 wm_225 wm_226 wm_5 wm_227) rfl hrc hrs (by decide +kernel) hR
theorem cw_X7_103 {R : Room} {s : State} {args : Array Value} {rm : Room} {mc ms : Nat} (hts : ∀ w ∈ wsL_law, w.before args s = true) (hrc : rm.cells = mc) (hrs : rm.slots = ms) (hR : rm.frames + 1 ≤ R.frames ∧ 8 + (2 + 11) + rm.locals ≤ R.locals) : CallB R s args RX7 103 yX7_placeOf cX7_placeOf 2 (some .int) (Cond.code yX7_placeOf cX7_placeOf 2 (some .int) :: wsL_law) rm mc ms 2 ∧ (Cond.static yX7_placeOf).before args s = true := va_cwS 2 hts (gUS wm_238 wm_239 wm_5 wm_240) rfl hrc hrs (by decide +kernel) hR
theorem cw_X7_111 {R : Room} {s : State} {args : Array Value} {rm : Room} {mc ms : Nat} (hts : ∀ w ∈ wsL_law, w.before args s = true) (hrc : rm.cells = mc) (hrs : rm.slots = ms) (hR : rm.frames + 1 ≤ R.frames ∧ 8 + (7 + 11) + rm.locals ≤ R.locals) : CallW R s args RX7 RX7 111 yX7_looksAt cX7_looksAt 7 none (Cond.code yX7_looksAt cX7_looksAt 7 none :: wsL_law) rm mc ms 3 := cwV 3 hts (gUV wm_284 wm_285 wm_286 wm_5 wm_287) rfl hrc hrs (by decide +kernel) hR
theorem cw_X7_124 {R : Room} {s : State} {args : Array Value} {rm : Room} {mc ms : Nat} (hts : ∀ w ∈ wsL_law, w.before args s = true) (hrc : rm.cells = mc) (hrs : rm.slots = ms) (hR : rm.frames + 1 ≤ R.frames ∧ 8 + (5 + 11) + rm.locals ≤ R.locals) : CallW R s args RX7 RX7 124 yX7_dayFault cX7_dayFault 5 (some .int) (Cond.code yX7_dayFault cX7_dayFault 5 (some .int) :: wsL_law) rm mc ms 4 := cwV 4 hts (gUV wm_516 wm_517 wm_518 wm_5 wm_519) rfl hrc hrs (by decide +kernel) hR
theorem cw_X7_127 {R : Room} {s : State} {args : Array Value} {rm : Room} {mc ms : Nat} (hts : ∀ w ∈ wsL_law, w.before args s = true) (hrc : rm.cells = mc) (hrs : rm.slots = ms) (hR : rm.frames + 1 ≤ R.frames ∧ 8 + (4 + 11) + rm.locals ≤ R.locals) : CallW R s args RX7 RX7 127 yX7_factOn cX7_factOn 4 (some .int) (Cond.code yX7_factOn cX7_factOn 4 (some .int) :: wsL_law) rm mc ms 3 := cwV 3 hts (gUV wm_520 wm_521 wm_522 wm_5 wm_523) rfl hrc hrs (by decide +kernel) hR
set_option maxHeartbeats 4000000 in
set_option maxRecDepth 100000 in
theorem c_X7_looksAt_10 (l : Launch) (D : va_G) (cy : Nat → ClassId) (ad : Nat → Nat) (I : AI) (S : AS) (sz : Nat) (wh : Int32) (t : Int32) (k : Nat) (hk : I 3 = nI k) (hk8 : k ≤ 256) (fr : Nat → Nat) (to : Nat → Nat) (hfr : ∀ i : Nat, i < k → S 5 i = nI (fr i) ∧ S 6 i = nI (to i) ∧ fr i ≤ to i ∧ to i ≤ 100) : Met l yX7_looksAt (Cond.code yX7_looksAt cX7_looksAt 7 none :: wsL_law) ({ frames := 0, cells := 0, slots := 0, locals := 0 }) (va_Pc [.ref (ad 0), .ref (ad 10), .int wh, .int t] (wrB D cy (wM cy ad I S) sz)) (va_Qv (S := Unit) (fun u => True) (fun u t9 => va_P D clW (wM cy ad I (va_up S 10 (lkN S wh t fr to (S 10) k))) t9.heap) (va_A (wM cy ad I S) sz)) 0 0 (va_A (wM cy ad I S) sz) := by
  refine enter (cc := cX7_looksAt) (by decide) (Nat.le_of_ble_eq_true rfl) ?_
  intro p e s m below meth c hx hb hr hml hown hts hlocks hin hv Q hQ ls hl
  obtain ⟨hsz, hP, hK, hD0⟩ := hv
  subst hsz
  have hD := hD0.self (sz := s.heap.size)
  generalize hAe : va_A (wM cy ad I S) s.heap.size = A at hD hQ ⊢
  have hA : ∀ q : Nat, s.heap.size ≤ q → A q := fun q h => by rw [← hAe]; exact Or.inr h
  have hS : va_S A s.heap s.heap [] := va_S.rf
  suffices K_ : ∀ (H : Heap) (locs : List Loc), va_P D clW (wM cy ad I S) H → va_S A s.heap H locs → W p l e ({ frames := 0, cells := 0, slots := 0, locals := 0 }) s m ([.ref (ad 0), .ref (ad 10), .int wh, .int t] : List Value).toArray below meth c H locs 0 0 Q (F0 m 0 ls []) from K_ _ _ hP hS
  clear hP hS
  intro H locs hP hS
  have hown : s.vm.findClass RX7 = some m.cls := hown
  have hl : lv_has ls 7 [(0, .ref (ad 0)), (1, .ref (ad 10)), (2, .int wh), (3, .int t)] := hl
  refine lv_iconst (v := 0) hx hb dX7_looksAt_0 (by decide) ?_
  refine lv_istore (lv' := [(4, .int 0), (0, .ref (ad 0)), (1, .ref (ad 10)), (2, .int wh), (3, .int t)]) hx hb dX7_looksAt_1 hl (by decide) rfl (fun ls hl => ?_)
  have L3 : ∀ (n_3 d : Nat), d ≤ 100 → 100 + 1 ≤ d + n_3 → ∀ (H : Heap) (locs : List Loc), va_P D clW (wM cy ad I (va_up S 10 (putF (S 10) 0 d (-1)))) H → va_D A (wM cy ad I (va_up S 10 (putF (S 10) 0 d (-1)))) → va_S A s.heap H locs → ∀ (ls : Array Slot), lv_has ls 7 [(4, .int (nI d)), (0, .ref (ad 0)), (1, .ref (ad 10)), (2, .int wh), (3, .int t)] → W p l e { frames := 0, cells := 0, slots := 0, locals := 0 } s m ([.ref (ad 0), .ref (ad 10), .int wh, .int t] : List Value).toArray below meth c H locs 0 0 Q (F0 m 3 ls []) := by
    clear hl
    intro n_3
    induction n_3 with
    | zero => intro d  hle_3 hn_3; exact absurd hn_3 (by omega)
    | succ n_3 ih3 =>
      intro d  hle_3 hn_3  H locs hP hD hS ls hl
      refine lv_iload hx hb dX7_looksAt_3 (lv_at hl 0 rfl) ?_
      refine lv_bipush (v := 100) hx hb dX7_looksAt_5 (by decide) ?_
      refine lv_icmp_ge (tgt := 21) hx hb dX7_looksAt_7 (by decide) (fun c7_1 => ?_) (fun c7_1 => ?_)
      · have f7_1 : 100 ≤ d := nt_le (a := 100) (b := d) (by omega) (by omega) c7_1
        refine lv_iconst (v := 0) hx hb dX7_looksAt_21 (by decide) ?_
        refine lv_istore (lv' := [(4, .int 0), (0, .ref (ad 0)), (1, .ref (ad 10)), (2, .int wh), (3, .int t)]) hx hb dX7_looksAt_22 hl (by decide) rfl (fun ls hl => ?_)
        have L24 : ∀ (n_24 i : Nat), i ≤ k → k + 1 ≤ i + n_24 → ∀ (H : Heap) (locs : List Loc), va_P D clW (wM cy ad I (va_up S 10 (lkN S wh t fr to (S 10) i))) H → va_D A (wM cy ad I (va_up S 10 (lkN S wh t fr to (S 10) i))) → va_S A s.heap H locs → ∀ (ls : Array Slot), lv_has ls 7 [(4, .int (nI i)), (0, .ref (ad 0)), (1, .ref (ad 10)), (2, .int wh), (3, .int t)] → W p l e { frames := 0, cells := 0, slots := 0, locals := 0 } s m ([.ref (ad 0), .ref (ad 10), .int wh, .int t] : List Value).toArray below meth c H locs 0 0 Q (F0 m 24 ls []) := by
          clear hl
          intro n_24
          induction n_24 with
          | zero => intro i  hle_24 hn_24; exact absurd hn_24 (by omega)
          | succ n_24 ih24 =>
            intro i  hle_24 hn_24  H locs hP hD hS ls hl
            refine lv_iload hx hb dX7_looksAt_24 (lv_at hl 0 rfl) ?_
            refine lv_aload_n hx hb dX7_looksAt_26 rfl (lv_at hl 1 rfl) ?_
            refine gf_X7_75 hx hb hts hown hK hP 0 rfl (v := .int (I 3)) rfl dX7_looksAt_27 ?_
            refine top_eq hk ?_
            refine lv_icmp_ge (tgt := 138) hx hb dX7_looksAt_30 (by decide) (fun c30_2 => ?_) (fun c30_2 => ?_)
            · have f30_2 : k ≤ i := nt_le (a := k) (b := i) (by omega) (by omega) c30_2
              have e_3 : (lkN S wh t fr to (S 10) i) = (lkN S wh t fr to (S 10) k) := (by rw [show i = k by omega])
              have hP : va_P D clW (wM cy ad I (va_up S 10 (lkN S wh t fr to (S 10) k))) H := by rw [← e_3]; exact hP
              have hD : va_D A (wM cy ad I (va_up S 10 (lkN S wh t fr to (S 10) k))) := hD.addr rfl
              exact wV_ret () hS hP hx hb hr hlocks dX7_looksAt_138 (Nat.le_of_ble_eq_true rfl) (Nat.le_of_ble_eq_true rfl) hQ trivial
            · have fi : i < k := nt_nle (a := k) (b := i) (by omega) (by omega) c30_2
              have hfi := hfr i fi
              refine lv_aload_n hx hb dX7_looksAt_33 rfl (lv_at hl 1 rfl) ?_
              refine gf_X7_17 hx hb hts hown hK hP 0 rfl (v := .ref (ad 3)) rfl dX7_looksAt_34 ?_
              refine lv_iload hx hb dX7_looksAt_37 (lv_at hl 0 rfl) ?_
              refine ald_I (f := (S 3)) hx hb hK hP 3 rfl (i := i) (by omega) (by decide) dX7_looksAt_39 ?_
              refine lv_iload_n hx hb dX7_looksAt_40 rfl (lv_at hl 3 rfl) ?_
              refine lv_icmp_ne (tgt := 91) hx hb dX7_looksAt_41 (by decide) (fun c41_4 => ?_) (fun c41_4 => ?_)
              · refine lv_iconst (v := 0) hx hb dX7_looksAt_91 (by decide) ?_
                refine lv_istore (lv' := [(5, .int 0), (4, .int (nI i)), (0, .ref (ad 0)), (1, .ref (ad 10)), (2, .int wh), (3, .int t)]) hx hb dX7_looksAt_92 hl (by decide) rfl (fun ls hl => ?_)
                refine lv_aload_n hx hb dX7_looksAt_94 rfl (lv_at hl 2 rfl) ?_
                refine gf_X7_23 hx hb hts hown hK hP 0 rfl (v := .ref (ad 5)) rfl dX7_looksAt_95 ?_
                refine lv_iload hx hb dX7_looksAt_98 (lv_at hl 1 rfl) ?_
                refine ald_I (f := (S 5)) hx hb hK hP 5 rfl (i := i) (by omega) (by decide) dX7_looksAt_100 ?_
                refine top_eq (y := nI (fr i)) hfi.1 ?_
                refine lv_istore (lv' := [(6, .int (nI (fr i))), (5, .int 0), (4, .int (nI i)), (0, .ref (ad 0)), (1, .ref (ad 10)), (2, .int wh), (3, .int t)]) hx hb dX7_looksAt_101 hl (by decide) rfl (fun ls hl => ?_)
                refine lv_iload hx hb dX7_looksAt_103 (lv_at hl 1 rfl) ?_
                refine lv_if_eq (tgt := 132) hx hb dX7_looksAt_105 (by decide) (fun _ => ?_) (fun c => absurd (by decide) c)
                refine lv_iinc (v := (nI (i + 1))) (lv' := [(4, .int (nI (i + 1))), (6, .int (nI (fr i))), (5, .int 0), (0, .ref (ad 0)), (1, .ref (ad 10)), (2, .int wh), (3, .int t)]) hx hb dX7_looksAt_132 hl (k := 2) rfl (nI_1 i) (by decide) rfl (fun ls hl => ?_)
                refine lv_goto (tgt := 24) hx hb dX7_looksAt_135 (by decide) ?_
                have e_5 : (lkN S wh t fr to (S 10) i) = (lkN S wh t fr to (S 10) (i + 1)) := (lk_f (by simp [mlB, mlR, c41_4])).symm
                have hP : va_P D clW (wM cy ad I (va_up S 10 (lkN S wh t fr to (S 10) (i + 1)))) H := by rw [← e_5]; exact hP
                have hD : va_D A (wM cy ad I (va_up S 10 (lkN S wh t fr to (S 10) (i + 1)))) := hD.addr rfl
                exact ih24 (i + 1) (by omega) (by omega) _ _ hP hD hS ls (lv_sub hl [0, 3, 4, 5, 6] rfl)
              · refine lv_aload_n hx hb dX7_looksAt_44 rfl (lv_at hl 1 rfl) ?_
                refine gf_X7_35 hx hb hts hown hK hP 0 rfl (v := .ref (ad 9)) rfl dX7_looksAt_45 ?_
                refine lv_iload hx hb dX7_looksAt_48 (lv_at hl 0 rfl) ?_
                refine ald_Z (f := (S 9)) hx hb hK hP 9 rfl (i := i) (by omega) (by decide) dX7_looksAt_50 ?_
                refine lv_if_ne (tgt := 91) hx hb dX7_looksAt_51 (by decide) (fun c51_6 => ?_) (fun c51_6 => ?_)
                · refine lv_iconst (v := 0) hx hb dX7_looksAt_91 (by decide) ?_
                  refine lv_istore (lv' := [(5, .int 0), (4, .int (nI i)), (0, .ref (ad 0)), (1, .ref (ad 10)), (2, .int wh), (3, .int t)]) hx hb dX7_looksAt_92 hl (by decide) rfl (fun ls hl => ?_)
                  refine lv_aload_n hx hb dX7_looksAt_94 rfl (lv_at hl 2 rfl) ?_
                  refine gf_X7_23 hx hb hts hown hK hP 0 rfl (v := .ref (ad 5)) rfl dX7_looksAt_95 ?_
                  refine lv_iload hx hb dX7_looksAt_98 (lv_at hl 1 rfl) ?_
                  refine ald_I (f := (S 5)) hx hb hK hP 5 rfl (i := i) (by omega) (by decide) dX7_looksAt_100 ?_
                  refine top_eq (y := nI (fr i)) hfi.1 ?_
                  refine lv_istore (lv' := [(6, .int (nI (fr i))), (5, .int 0), (4, .int (nI i)), (0, .ref (ad 0)), (1, .ref (ad 10)), (2, .int wh), (3, .int t)]) hx hb dX7_looksAt_101 hl (by decide) rfl (fun ls hl => ?_)
                  refine lv_iload hx hb dX7_looksAt_103 (lv_at hl 1 rfl) ?_
                  refine lv_if_eq (tgt := 132) hx hb dX7_looksAt_105 (by decide) (fun _ => ?_) (fun c => absurd (by decide) c)
                  refine lv_iinc (v := (nI (i + 1))) (lv' := [(4, .int (nI (i + 1))), (6, .int (nI (fr i))), (5, .int 0), (0, .ref (ad 0)), (1, .ref (ad 10)), (2, .int wh), (3, .int t)]) hx hb dX7_looksAt_132 hl (k := 2) rfl (nI_1 i) (by decide) rfl (fun ls hl => ?_)
                  refine lv_goto (tgt := 24) hx hb dX7_looksAt_135 (by decide) ?_
                  have e_7 : (lkN S wh t fr to (S 10) i) = (lkN S wh t fr to (S 10) (i + 1)) := (lk_f (by simp [mlB, mlR, c41_4, c51_6])).symm
                  have hP : va_P D clW (wM cy ad I (va_up S 10 (lkN S wh t fr to (S 10) (i + 1)))) H := by rw [← e_7]; exact hP
                  have hD : va_D A (wM cy ad I (va_up S 10 (lkN S wh t fr to (S 10) (i + 1)))) := hD.addr rfl
                  exact ih24 (i + 1) (by omega) (by omega) _ _ hP hD hS ls (lv_sub hl [0, 3, 4, 5, 6] rfl)
                · refine lv_aload_n hx hb dX7_looksAt_54 rfl (lv_at hl 1 rfl) ?_
                  refine gf_X7_29 hx hb hts hown hK hP 0 rfl (v := .ref (ad 7)) rfl dX7_looksAt_55 ?_
                  refine lv_iload hx hb dX7_looksAt_58 (lv_at hl 0 rfl) ?_
                  refine ald_I (f := (S 7)) hx hb hK hP 7 rfl (i := i) (by omega) (by decide) dX7_looksAt_60 ?_
                  refine lv_iload_n hx hb dX7_looksAt_61 rfl (lv_at hl 4 rfl) ?_
                  refine lv_icmp_gt (tgt := 91) hx hb dX7_looksAt_62 (by decide) (fun c62_8 => ?_) (fun c62_8 => ?_)
                  · refine lv_iconst (v := 0) hx hb dX7_looksAt_91 (by decide) ?_
                    refine lv_istore (lv' := [(5, .int 0), (4, .int (nI i)), (0, .ref (ad 0)), (1, .ref (ad 10)), (2, .int wh), (3, .int t)]) hx hb dX7_looksAt_92 hl (by decide) rfl (fun ls hl => ?_)
                    refine lv_aload_n hx hb dX7_looksAt_94 rfl (lv_at hl 2 rfl) ?_
                    refine gf_X7_23 hx hb hts hown hK hP 0 rfl (v := .ref (ad 5)) rfl dX7_looksAt_95 ?_
                    refine lv_iload hx hb dX7_looksAt_98 (lv_at hl 1 rfl) ?_
                    refine ald_I (f := (S 5)) hx hb hK hP 5 rfl (i := i) (by omega) (by decide) dX7_looksAt_100 ?_
                    refine top_eq (y := nI (fr i)) hfi.1 ?_
                    refine lv_istore (lv' := [(6, .int (nI (fr i))), (5, .int 0), (4, .int (nI i)), (0, .ref (ad 0)), (1, .ref (ad 10)), (2, .int wh), (3, .int t)]) hx hb dX7_looksAt_101 hl (by decide) rfl (fun ls hl => ?_)
                    refine lv_iload hx hb dX7_looksAt_103 (lv_at hl 1 rfl) ?_
                    refine lv_if_eq (tgt := 132) hx hb dX7_looksAt_105 (by decide) (fun _ => ?_) (fun c => absurd (by decide) c)
                    refine lv_iinc (v := (nI (i + 1))) (lv' := [(4, .int (nI (i + 1))), (6, .int (nI (fr i))), (5, .int 0), (0, .ref (ad 0)), (1, .ref (ad 10)), (2, .int wh), (3, .int t)]) hx hb dX7_looksAt_132 hl (k := 2) rfl (nI_1 i) (by decide) rfl (fun ls hl => ?_)
                    refine lv_goto (tgt := 24) hx hb dX7_looksAt_135 (by decide) ?_
                    have e_9 : (lkN S wh t fr to (S 10) i) = (lkN S wh t fr to (S 10) (i + 1)) := (lk_f (by simp [mlB, mlR, c41_4, c51_6, c62_8])).symm
                    have hP : va_P D clW (wM cy ad I (va_up S 10 (lkN S wh t fr to (S 10) (i + 1)))) H := by rw [← e_9]; exact hP
                    have hD : va_D A (wM cy ad I (va_up S 10 (lkN S wh t fr to (S 10) (i + 1)))) := hD.addr rfl
                    exact ih24 (i + 1) (by omega) (by omega) _ _ hP hD hS ls (lv_sub hl [0, 3, 4, 5, 6] rfl)
                  · refine lv_aload_n hx hb dX7_looksAt_65 rfl (lv_at hl 1 rfl) ?_
                    refine gf_X7_32 hx hb hts hown hK hP 0 rfl (v := .ref (ad 8)) rfl dX7_looksAt_66 ?_
                    refine lv_iload hx hb dX7_looksAt_69 (lv_at hl 0 rfl) ?_
                    refine ald_I (f := (S 8)) hx hb hK hP 8 rfl (i := i) (by omega) (by decide) dX7_looksAt_71 ?_
                    refine lv_iconst (v := (-1)) hx hb dX7_looksAt_72 (by decide) ?_
                    refine lv_icmp_eq (tgt := 87) hx hb dX7_looksAt_73 (by decide) (fun c73_10 => ?_) (fun c73_10 => ?_)
                    · refine lv_iconst (v := 1) hx hb dX7_looksAt_87 (by decide) ?_
                      refine lv_goto (tgt := 92) hx hb dX7_looksAt_88 (by decide) ?_
                      refine lv_istore (lv' := [(5, .int 1), (4, .int (nI i)), (0, .ref (ad 0)), (1, .ref (ad 10)), (2, .int wh), (3, .int t)]) hx hb dX7_looksAt_92 hl (by decide) rfl (fun ls hl => ?_)
                      refine lv_aload_n hx hb dX7_looksAt_94 rfl (lv_at hl 2 rfl) ?_
                      refine gf_X7_23 hx hb hts hown hK hP 0 rfl (v := .ref (ad 5)) rfl dX7_looksAt_95 ?_
                      refine lv_iload hx hb dX7_looksAt_98 (lv_at hl 1 rfl) ?_
                      refine ald_I (f := (S 5)) hx hb hK hP 5 rfl (i := i) (by omega) (by decide) dX7_looksAt_100 ?_
                      refine top_eq (y := nI (fr i)) hfi.1 ?_
                      refine lv_istore (lv' := [(6, .int (nI (fr i))), (5, .int 1), (4, .int (nI i)), (0, .ref (ad 0)), (1, .ref (ad 10)), (2, .int wh), (3, .int t)]) hx hb dX7_looksAt_101 hl (by decide) rfl (fun ls hl => ?_)
                      have L103 : ∀ (n_103 d : Nat), d ≤ (to i) → (to i) + 1 ≤ d + n_103 → fr i ≤ d → ∀ (H : Heap) (locs : List Loc), va_P D clW (wM cy ad I (va_up S 10 (putF (lkN S wh t fr to (S 10) i) (fr i) d (nI i)))) H → va_D A (wM cy ad I (va_up S 10 (putF (lkN S wh t fr to (S 10) i) (fr i) d (nI i)))) → va_S A s.heap H locs → ∀ (ls : Array Slot), lv_has ls 7 [(6, .int (nI d)), (5, .int 1), (4, .int (nI i)), (0, .ref (ad 0)), (1, .ref (ad 10)), (2, .int wh), (3, .int t)] → W p l e { frames := 0, cells := 0, slots := 0, locals := 0 } s m ([.ref (ad 0), .ref (ad 10), .int wh, .int t] : List Value).toArray below meth c H locs 0 0 Q (F0 m 103 ls []) := by
                        clear hl
                        intro n_103
                        induction n_103 with
                        | zero => intro d  hle_103 hn_103; exact absurd hn_103 (by omega)
                        | succ n_103 ih103 =>
                          intro d  hle_103 hn_103 hfd H locs hP hD hS ls hl
                          refine lv_iload hx hb dX7_looksAt_103 (lv_at hl 1 rfl) ?_
                          refine lv_if_eq (tgt := 132) hx hb dX7_looksAt_105 (by decide) (fun c => absurd c (by decide)) (fun _ => ?_)
                          refine lv_iload hx hb dX7_looksAt_108 (lv_at hl 0 rfl) ?_
                          refine lv_aload_n hx hb dX7_looksAt_110 rfl (lv_at hl 3 rfl) ?_
                          refine gf_X7_26 hx hb hts hown hK hP 0 rfl (v := .ref (ad 6)) rfl dX7_looksAt_111 ?_
                          refine lv_iload hx hb dX7_looksAt_114 (lv_at hl 2 rfl) ?_
                          refine ald_I (f := (S 6)) hx hb hK hP 6 rfl (i := i) (by omega) (by decide) dX7_looksAt_116 ?_
                          refine top_eq (y := nI (to i)) hfi.2.1 ?_
                          refine lv_icmp_ge (tgt := 132) hx hb dX7_looksAt_117 (by decide) (fun c117_11 => ?_) (fun c117_11 => ?_)
                          · have fd : to i ≤ d := nt_le (a := to i) (b := d) (by omega) (by omega) c117_11
                            have hdt : d = to i := by omega
                            rw [hdt] at hP hD
                            refine lv_iinc (v := (nI (i + 1))) (lv' := [(4, .int (nI (i + 1))), (6, .int (nI d)), (5, .int 1), (0, .ref (ad 0)), (1, .ref (ad 10)), (2, .int wh), (3, .int t)]) hx hb dX7_looksAt_132 hl (k := 2) rfl (nI_1 i) (by decide) rfl (fun ls hl => ?_)
                            refine lv_goto (tgt := 24) hx hb dX7_looksAt_135 (by decide) ?_
                            have e_12 : (putF (lkN S wh t fr to (S 10) i) (fr i) (to i) (nI i)) = (lkN S wh t fr to (S 10) (i + 1)) := (lk_t (by simp [mlB, mlR, c41_4, c51_6, c62_8, c73_10])).symm
                            have hP : va_P D clW (wM cy ad I (va_up S 10 (lkN S wh t fr to (S 10) (i + 1)))) H := by rw [← e_12]; exact hP
                            have hD : va_D A (wM cy ad I (va_up S 10 (lkN S wh t fr to (S 10) (i + 1)))) := hD.addr rfl
                            exact ih24 (i + 1) (by omega) (by omega) _ _ hP hD hS ls (lv_sub hl [0, 3, 4, 5, 6] rfl)
                          · have f117_11 : d < (to i) := nt_nle (a := (to i)) (b := d) (by omega) (by omega) c117_11
                            refine lv_aload_n hx hb dX7_looksAt_120 rfl (lv_at hl 4 rfl) ?_
                            refine lv_iload hx hb dX7_looksAt_121 (lv_at hl 0 rfl) ?_
                            refine lv_iload hx hb dX7_looksAt_123 (lv_at hl 2 rfl) ?_
                            refine ast_I hx hb hK hP hD hS 10 rfl (i := d) (x := (nI i)) (by omega) (by decide) dX7_looksAt_125 (fun H locs hP hD hS => ?_)
                            have hP : va_P D clW (wM cy ad I (va_up S 10 (upd (putF (lkN S wh t fr to (S 10) i) (fr i) d (nI i)) d (nI i)))) H := hP
                            have hD : va_D A (wM cy ad I (va_up S 10 (upd (putF (lkN S wh t fr to (S 10) i) (fr i) d (nI i)) d (nI i)))) := hD
                            refine lv_iinc (v := (nI (d + 1))) (lv' := [(6, .int (nI (d + 1))), (5, .int 1), (4, .int (nI i)), (0, .ref (ad 0)), (1, .ref (ad 10)), (2, .int wh), (3, .int t)]) hx hb dX7_looksAt_126 hl (k := 0) rfl (nI_1 d) (by decide) rfl (fun ls hl => ?_)
                            refine lv_goto (tgt := 103) hx hb dX7_looksAt_129 (by decide) ?_
                            have e_13 : (upd (putF (lkN S wh t fr to (S 10) i) (fr i) d (nI i)) d (nI i)) = (putF (lkN S wh t fr to (S 10) i) (fr i) (d + 1) (nI i)) := (putF_s _ hfd)
                            have hP : va_P D clW (wM cy ad I (va_up S 10 (putF (lkN S wh t fr to (S 10) i) (fr i) (d + 1) (nI i)))) H := by rw [← e_13]; exact hP
                            have hD : va_D A (wM cy ad I (va_up S 10 (putF (lkN S wh t fr to (S 10) i) (fr i) (d + 1) (nI i)))) := hD.addr rfl
                            exact ih103 (d + 1) (by omega) (by omega) (by omega) _ _ hP hD hS ls (lv_sub hl [0, 1, 2, 3, 4, 5, 6] rfl)
                      have e_14 : (lkN S wh t fr to (S 10) i) = (putF (lkN S wh t fr to (S 10) i) (fr i) (fr i) (nI i)) := (putF_0 _ _ _)
                      have hP : va_P D clW (wM cy ad I (va_up S 10 (putF (lkN S wh t fr to (S 10) i) (fr i) (fr i) (nI i)))) H := by rw [← e_14]; exact hP
                      have hD : va_D A (wM cy ad I (va_up S 10 (putF (lkN S wh t fr to (S 10) i) (fr i) (fr i) (nI i)))) := hD.addr rfl
                      exact L103 ((to i) + 1) (fr i) (by omega) (by omega) (by omega) _ _ hP hD hS ls (lv_sub hl [0, 1, 2, 3, 4, 5, 6] rfl)
                    · refine lv_aload_n hx hb dX7_looksAt_76 rfl (lv_at hl 1 rfl) ?_
                      refine gf_X7_32 hx hb hts hown hK hP 0 rfl (v := .ref (ad 8)) rfl dX7_looksAt_77 ?_
                      refine lv_iload hx hb dX7_looksAt_80 (lv_at hl 0 rfl) ?_
                      refine ald_I (f := (S 8)) hx hb hK hP 8 rfl (i := i) (by omega) (by decide) dX7_looksAt_82 ?_
                      refine lv_iload_n hx hb dX7_looksAt_83 rfl (lv_at hl 4 rfl) ?_
                      refine lv_icmp_le (tgt := 91) hx hb dX7_looksAt_84 (by decide) (fun c84_15 => ?_) (fun c84_15 => ?_)
                      · refine lv_iconst (v := 0) hx hb dX7_looksAt_91 (by decide) ?_
                        refine lv_istore (lv' := [(5, .int 0), (4, .int (nI i)), (0, .ref (ad 0)), (1, .ref (ad 10)), (2, .int wh), (3, .int t)]) hx hb dX7_looksAt_92 hl (by decide) rfl (fun ls hl => ?_)
                        refine lv_aload_n hx hb dX7_looksAt_94 rfl (lv_at hl 2 rfl) ?_
                        refine gf_X7_23 hx hb hts hown hK hP 0 rfl (v := .ref (ad 5)) rfl dX7_looksAt_95 ?_
                        refine lv_iload hx hb dX7_looksAt_98 (lv_at hl 1 rfl) ?_
                        refine ald_I (f := (S 5)) hx hb hK hP 5 rfl (i := i) (by omega) (by decide) dX7_looksAt_100 ?_
                        refine top_eq (y := nI (fr i)) hfi.1 ?_
                        refine lv_istore (lv' := [(6, .int (nI (fr i))), (5, .int 0), (4, .int (nI i)), (0, .ref (ad 0)), (1, .ref (ad 10)), (2, .int wh), (3, .int t)]) hx hb dX7_looksAt_101 hl (by decide) rfl (fun ls hl => ?_)
                        refine lv_iload hx hb dX7_looksAt_103 (lv_at hl 1 rfl) ?_
                        refine lv_if_eq (tgt := 132) hx hb dX7_looksAt_105 (by decide) (fun _ => ?_) (fun c => absurd (by decide) c)
                        refine lv_iinc (v := (nI (i + 1))) (lv' := [(4, .int (nI (i + 1))), (6, .int (nI (fr i))), (5, .int 0), (0, .ref (ad 0)), (1, .ref (ad 10)), (2, .int wh), (3, .int t)]) hx hb dX7_looksAt_132 hl (k := 2) rfl (nI_1 i) (by decide) rfl (fun ls hl => ?_)
                        refine lv_goto (tgt := 24) hx hb dX7_looksAt_135 (by decide) ?_
                        have e_16 : (lkN S wh t fr to (S 10) i) = (lkN S wh t fr to (S 10) (i + 1)) := (lk_f (by simp [mlB, mlR, c41_4, c51_6, c62_8, c73_10, c84_15])).symm
                        have hP : va_P D clW (wM cy ad I (va_up S 10 (lkN S wh t fr to (S 10) (i + 1)))) H := by rw [← e_16]; exact hP
                        have hD : va_D A (wM cy ad I (va_up S 10 (lkN S wh t fr to (S 10) (i + 1)))) := hD.addr rfl
                        exact ih24 (i + 1) (by omega) (by omega) _ _ hP hD hS ls (lv_sub hl [0, 3, 4, 5, 6] rfl)
                      · refine lv_iconst (v := 1) hx hb dX7_looksAt_87 (by decide) ?_
                        refine lv_goto (tgt := 92) hx hb dX7_looksAt_88 (by decide) ?_
                        refine lv_istore (lv' := [(5, .int 1), (4, .int (nI i)), (0, .ref (ad 0)), (1, .ref (ad 10)), (2, .int wh), (3, .int t)]) hx hb dX7_looksAt_92 hl (by decide) rfl (fun ls hl => ?_)
                        refine lv_aload_n hx hb dX7_looksAt_94 rfl (lv_at hl 2 rfl) ?_
                        refine gf_X7_23 hx hb hts hown hK hP 0 rfl (v := .ref (ad 5)) rfl dX7_looksAt_95 ?_
                        refine lv_iload hx hb dX7_looksAt_98 (lv_at hl 1 rfl) ?_
                        refine ald_I (f := (S 5)) hx hb hK hP 5 rfl (i := i) (by omega) (by decide) dX7_looksAt_100 ?_
                        refine top_eq (y := nI (fr i)) hfi.1 ?_
                        refine lv_istore (lv' := [(6, .int (nI (fr i))), (5, .int 1), (4, .int (nI i)), (0, .ref (ad 0)), (1, .ref (ad 10)), (2, .int wh), (3, .int t)]) hx hb dX7_looksAt_101 hl (by decide) rfl (fun ls hl => ?_)
                        have L103 : ∀ (n_103 d : Nat), d ≤ (to i) → (to i) + 1 ≤ d + n_103 → fr i ≤ d → ∀ (H : Heap) (locs : List Loc), va_P D clW (wM cy ad I (va_up S 10 (putF (lkN S wh t fr to (S 10) i) (fr i) d (nI i)))) H → va_D A (wM cy ad I (va_up S 10 (putF (lkN S wh t fr to (S 10) i) (fr i) d (nI i)))) → va_S A s.heap H locs → ∀ (ls : Array Slot), lv_has ls 7 [(6, .int (nI d)), (5, .int 1), (4, .int (nI i)), (0, .ref (ad 0)), (1, .ref (ad 10)), (2, .int wh), (3, .int t)] → W p l e { frames := 0, cells := 0, slots := 0, locals := 0 } s m ([.ref (ad 0), .ref (ad 10), .int wh, .int t] : List Value).toArray below meth c H locs 0 0 Q (F0 m 103 ls []) := by
                          clear hl
                          intro n_103
                          induction n_103 with
                          | zero => intro d  hle_103 hn_103; exact absurd hn_103 (by omega)
                          | succ n_103 ih103 =>
                            intro d  hle_103 hn_103 hfd H locs hP hD hS ls hl
                            refine lv_iload hx hb dX7_looksAt_103 (lv_at hl 1 rfl) ?_
                            refine lv_if_eq (tgt := 132) hx hb dX7_looksAt_105 (by decide) (fun c => absurd c (by decide)) (fun _ => ?_)
                            refine lv_iload hx hb dX7_looksAt_108 (lv_at hl 0 rfl) ?_
                            refine lv_aload_n hx hb dX7_looksAt_110 rfl (lv_at hl 3 rfl) ?_
                            refine gf_X7_26 hx hb hts hown hK hP 0 rfl (v := .ref (ad 6)) rfl dX7_looksAt_111 ?_
                            refine lv_iload hx hb dX7_looksAt_114 (lv_at hl 2 rfl) ?_
                            refine ald_I (f := (S 6)) hx hb hK hP 6 rfl (i := i) (by omega) (by decide) dX7_looksAt_116 ?_
                            refine top_eq (y := nI (to i)) hfi.2.1 ?_
                            refine lv_icmp_ge (tgt := 132) hx hb dX7_looksAt_117 (by decide) (fun c117_17 => ?_) (fun c117_17 => ?_)
                            · have fd : to i ≤ d := nt_le (a := to i) (b := d) (by omega) (by omega) c117_17
                              have hdt : d = to i := by omega
                              rw [hdt] at hP hD
                              refine lv_iinc (v := (nI (i + 1))) (lv' := [(4, .int (nI (i + 1))), (6, .int (nI d)), (5, .int 1), (0, .ref (ad 0)), (1, .ref (ad 10)), (2, .int wh), (3, .int t)]) hx hb dX7_looksAt_132 hl (k := 2) rfl (nI_1 i) (by decide) rfl (fun ls hl => ?_)
                              refine lv_goto (tgt := 24) hx hb dX7_looksAt_135 (by decide) ?_
                              have e_18 : (putF (lkN S wh t fr to (S 10) i) (fr i) (to i) (nI i)) = (lkN S wh t fr to (S 10) (i + 1)) := (lk_t (by simp [mlB, mlR, c41_4, c51_6, c62_8, c73_10, c84_15])).symm
                              have hP : va_P D clW (wM cy ad I (va_up S 10 (lkN S wh t fr to (S 10) (i + 1)))) H := by rw [← e_18]; exact hP
                              have hD : va_D A (wM cy ad I (va_up S 10 (lkN S wh t fr to (S 10) (i + 1)))) := hD.addr rfl
                              exact ih24 (i + 1) (by omega) (by omega) _ _ hP hD hS ls (lv_sub hl [0, 3, 4, 5, 6] rfl)
                            · have f117_17 : d < (to i) := nt_nle (a := (to i)) (b := d) (by omega) (by omega) c117_17
                              refine lv_aload_n hx hb dX7_looksAt_120 rfl (lv_at hl 4 rfl) ?_
                              refine lv_iload hx hb dX7_looksAt_121 (lv_at hl 0 rfl) ?_
                              refine lv_iload hx hb dX7_looksAt_123 (lv_at hl 2 rfl) ?_
                              refine ast_I hx hb hK hP hD hS 10 rfl (i := d) (x := (nI i)) (by omega) (by decide) dX7_looksAt_125 (fun H locs hP hD hS => ?_)
                              have hP : va_P D clW (wM cy ad I (va_up S 10 (upd (putF (lkN S wh t fr to (S 10) i) (fr i) d (nI i)) d (nI i)))) H := hP
                              have hD : va_D A (wM cy ad I (va_up S 10 (upd (putF (lkN S wh t fr to (S 10) i) (fr i) d (nI i)) d (nI i)))) := hD
                              refine lv_iinc (v := (nI (d + 1))) (lv' := [(6, .int (nI (d + 1))), (5, .int 1), (4, .int (nI i)), (0, .ref (ad 0)), (1, .ref (ad 10)), (2, .int wh), (3, .int t)]) hx hb dX7_looksAt_126 hl (k := 0) rfl (nI_1 d) (by decide) rfl (fun ls hl => ?_)
                              refine lv_goto (tgt := 103) hx hb dX7_looksAt_129 (by decide) ?_
                              have e_19 : (upd (putF (lkN S wh t fr to (S 10) i) (fr i) d (nI i)) d (nI i)) = (putF (lkN S wh t fr to (S 10) i) (fr i) (d + 1) (nI i)) := (putF_s _ hfd)
                              have hP : va_P D clW (wM cy ad I (va_up S 10 (putF (lkN S wh t fr to (S 10) i) (fr i) (d + 1) (nI i)))) H := by rw [← e_19]; exact hP
                              have hD : va_D A (wM cy ad I (va_up S 10 (putF (lkN S wh t fr to (S 10) i) (fr i) (d + 1) (nI i)))) := hD.addr rfl
                              exact ih103 (d + 1) (by omega) (by omega) (by omega) _ _ hP hD hS ls (lv_sub hl [0, 1, 2, 3, 4, 5, 6] rfl)
                        have e_20 : (lkN S wh t fr to (S 10) i) = (putF (lkN S wh t fr to (S 10) i) (fr i) (fr i) (nI i)) := (putF_0 _ _ _)
                        have hP : va_P D clW (wM cy ad I (va_up S 10 (putF (lkN S wh t fr to (S 10) i) (fr i) (fr i) (nI i)))) H := by rw [← e_20]; exact hP
                        have hD : va_D A (wM cy ad I (va_up S 10 (putF (lkN S wh t fr to (S 10) i) (fr i) (fr i) (nI i)))) := hD.addr rfl
                        exact L103 ((to i) + 1) (fr i) (by omega) (by omega) (by omega) _ _ hP hD hS ls (lv_sub hl [0, 1, 2, 3, 4, 5, 6] rfl)
        have e_21 : (putF (S 10) 0 d (-1)) = (lkN S wh t fr to (S 10) 0) := (by rw [show d = 100 by omega]; rfl)
        have hP : va_P D clW (wM cy ad I (va_up S 10 (lkN S wh t fr to (S 10) 0))) H := by rw [← e_21]; exact hP
        have hD : va_D A (wM cy ad I (va_up S 10 (lkN S wh t fr to (S 10) 0))) := hD.addr rfl
        exact L24 (k + 1) 0 (by omega) (by omega) _ _ hP hD hS ls (lv_sub hl [0, 1, 2, 3, 4] rfl)
      · have f7_1 : d < 100 := nt_nle (a := 100) (b := d) (by omega) (by omega) c7_1
        refine lv_aload_n hx hb dX7_looksAt_10 rfl (lv_at hl 2 rfl) ?_
        refine lv_iload hx hb dX7_looksAt_11 (lv_at hl 0 rfl) ?_
        refine lv_iconst (v := (-1)) hx hb dX7_looksAt_13 (by decide) ?_
        refine ast_I hx hb hK hP hD hS 10 rfl (i := d) (x := (-1)) (by omega) (by decide) dX7_looksAt_14 (fun H locs hP hD hS => ?_)
        have hP : va_P D clW (wM cy ad I (va_up S 10 (upd (putF (S 10) 0 d (-1)) d (-1)))) H := hP
        have hD : va_D A (wM cy ad I (va_up S 10 (upd (putF (S 10) 0 d (-1)) d (-1)))) := hD
        refine lv_iinc (v := (nI (d + 1))) (lv' := [(4, .int (nI (d + 1))), (0, .ref (ad 0)), (1, .ref (ad 10)), (2, .int wh), (3, .int t)]) hx hb dX7_looksAt_15 hl (k := 0) rfl (nI_1 d) (by decide) rfl (fun ls hl => ?_)
        refine lv_goto (tgt := 3) hx hb dX7_looksAt_18 (by decide) ?_
        have e_22 : (upd (putF (S 10) 0 d (-1)) d (-1)) = (putF (S 10) 0 (d + 1) (-1)) := (putF_s _ (Nat.zero_le _))
        have hP : va_P D clW (wM cy ad I (va_up S 10 (putF (S 10) 0 (d + 1) (-1)))) H := by rw [← e_22]; exact hP
        have hD : va_D A (wM cy ad I (va_up S 10 (putF (S 10) 0 (d + 1) (-1)))) := hD.addr rfl
        exact ih3 (d + 1) (by omega) (by omega) _ _ hP hD hS ls (lv_sub hl [0, 1, 2, 3, 4] rfl)
  have e_23 : (S 10) = (putF (S 10) 0 0 (-1)) := (putF_0 _ _ _)
  have hP : va_P D clW (wM cy ad I (va_up S 10 (putF (S 10) 0 0 (-1)))) H := by rw [← e_23]; exact hP
  have hD : va_D A (wM cy ad I (va_up S 10 (putF (S 10) 0 0 (-1)))) := hD.addr rfl
  exact L3 (100 + 1) 0 (by omega) (by omega) _ _ hP hD hS ls (lv_sub hl [0, 1, 2, 3, 4] rfl)

set_option maxHeartbeats 4000000 in
set_option maxRecDepth 100000 in
theorem c_X7_looksAt_11 (l : Launch) (D : va_G) (cy : Nat → ClassId) (ad : Nat → Nat) (I : AI) (S : AS) (sz : Nat) (wh : Int32) (t : Int32) (k : Nat) (hk : I 3 = nI k) (hk8 : k ≤ 256) (fr : Nat → Nat) (to : Nat → Nat) (hfr : ∀ i : Nat, i < k → S 5 i = nI (fr i) ∧ S 6 i = nI (to i) ∧ fr i ≤ to i ∧ to i ≤ 100) : Met l yX7_looksAt (Cond.code yX7_looksAt cX7_looksAt 7 none :: wsL_law) ({ frames := 0, cells := 0, slots := 0, locals := 0 }) (va_Pc [.ref (ad 0), .ref (ad 11), .int wh, .int t] (wrB D cy (wM cy ad I S) sz)) (va_Qv (S := Unit) (fun u => True) (fun u t9 => va_P D clW (wM cy ad I (va_up S 11 (lkN S wh t fr to (S 11) k))) t9.heap) (va_A (wM cy ad I S) sz)) 0 0 (va_A (wM cy ad I S) sz) := by
  refine enter (cc := cX7_looksAt) (by decide) (Nat.le_of_ble_eq_true rfl) ?_
  intro p e s m below meth c hx hb hr hml hown hts hlocks hin hv Q hQ ls hl
  obtain ⟨hsz, hP, hK, hD0⟩ := hv
  subst hsz
  have hD := hD0.self (sz := s.heap.size)
  generalize hAe : va_A (wM cy ad I S) s.heap.size = A at hD hQ ⊢
  have hA : ∀ q : Nat, s.heap.size ≤ q → A q := fun q h => by rw [← hAe]; exact Or.inr h
  have hS : va_S A s.heap s.heap [] := va_S.rf
  suffices K_ : ∀ (H : Heap) (locs : List Loc), va_P D clW (wM cy ad I S) H → va_S A s.heap H locs → W p l e ({ frames := 0, cells := 0, slots := 0, locals := 0 }) s m ([.ref (ad 0), .ref (ad 11), .int wh, .int t] : List Value).toArray below meth c H locs 0 0 Q (F0 m 0 ls []) from K_ _ _ hP hS
  clear hP hS
  intro H locs hP hS
  have hown : s.vm.findClass RX7 = some m.cls := hown
  have hl : lv_has ls 7 [(0, .ref (ad 0)), (1, .ref (ad 11)), (2, .int wh), (3, .int t)] := hl
  refine lv_iconst (v := 0) hx hb dX7_looksAt_0 (by decide) ?_
  refine lv_istore (lv' := [(4, .int 0), (0, .ref (ad 0)), (1, .ref (ad 11)), (2, .int wh), (3, .int t)]) hx hb dX7_looksAt_1 hl (by decide) rfl (fun ls hl => ?_)
  have L3 : ∀ (n_3 d : Nat), d ≤ 100 → 100 + 1 ≤ d + n_3 → ∀ (H : Heap) (locs : List Loc), va_P D clW (wM cy ad I (va_up S 11 (putF (S 11) 0 d (-1)))) H → va_D A (wM cy ad I (va_up S 11 (putF (S 11) 0 d (-1)))) → va_S A s.heap H locs → ∀ (ls : Array Slot), lv_has ls 7 [(4, .int (nI d)), (0, .ref (ad 0)), (1, .ref (ad 11)), (2, .int wh), (3, .int t)] → W p l e { frames := 0, cells := 0, slots := 0, locals := 0 } s m ([.ref (ad 0), .ref (ad 11), .int wh, .int t] : List Value).toArray below meth c H locs 0 0 Q (F0 m 3 ls []) := by
    clear hl
    intro n_3
    induction n_3 with
    | zero => intro d  hle_3 hn_3; exact absurd hn_3 (by omega)
    | succ n_3 ih3 =>
      intro d  hle_3 hn_3  H locs hP hD hS ls hl
      refine lv_iload hx hb dX7_looksAt_3 (lv_at hl 0 rfl) ?_
      refine lv_bipush (v := 100) hx hb dX7_looksAt_5 (by decide) ?_
      refine lv_icmp_ge (tgt := 21) hx hb dX7_looksAt_7 (by decide) (fun c7_1 => ?_) (fun c7_1 => ?_)
      · have f7_1 : 100 ≤ d := nt_le (a := 100) (b := d) (by omega) (by omega) c7_1
        refine lv_iconst (v := 0) hx hb dX7_looksAt_21 (by decide) ?_
        refine lv_istore (lv' := [(4, .int 0), (0, .ref (ad 0)), (1, .ref (ad 11)), (2, .int wh), (3, .int t)]) hx hb dX7_looksAt_22 hl (by decide) rfl (fun ls hl => ?_)
        have L24 : ∀ (n_24 i : Nat), i ≤ k → k + 1 ≤ i + n_24 → ∀ (H : Heap) (locs : List Loc), va_P D clW (wM cy ad I (va_up S 11 (lkN S wh t fr to (S 11) i))) H → va_D A (wM cy ad I (va_up S 11 (lkN S wh t fr to (S 11) i))) → va_S A s.heap H locs → ∀ (ls : Array Slot), lv_has ls 7 [(4, .int (nI i)), (0, .ref (ad 0)), (1, .ref (ad 11)), (2, .int wh), (3, .int t)] → W p l e { frames := 0, cells := 0, slots := 0, locals := 0 } s m ([.ref (ad 0), .ref (ad 11), .int wh, .int t] : List Value).toArray below meth c H locs 0 0 Q (F0 m 24 ls []) := by
          clear hl
          intro n_24
          induction n_24 with
          | zero => intro i  hle_24 hn_24; exact absurd hn_24 (by omega)
          | succ n_24 ih24 =>
            intro i  hle_24 hn_24  H locs hP hD hS ls hl
            refine lv_iload hx hb dX7_looksAt_24 (lv_at hl 0 rfl) ?_
            refine lv_aload_n hx hb dX7_looksAt_26 rfl (lv_at hl 1 rfl) ?_
            refine gf_X7_75 hx hb hts hown hK hP 0 rfl (v := .int (I 3)) rfl dX7_looksAt_27 ?_
            refine top_eq hk ?_
            refine lv_icmp_ge (tgt := 138) hx hb dX7_looksAt_30 (by decide) (fun c30_2 => ?_) (fun c30_2 => ?_)
            · have f30_2 : k ≤ i := nt_le (a := k) (b := i) (by omega) (by omega) c30_2
              have e_3 : (lkN S wh t fr to (S 11) i) = (lkN S wh t fr to (S 11) k) := (by rw [show i = k by omega])
              have hP : va_P D clW (wM cy ad I (va_up S 11 (lkN S wh t fr to (S 11) k))) H := by rw [← e_3]; exact hP
              have hD : va_D A (wM cy ad I (va_up S 11 (lkN S wh t fr to (S 11) k))) := hD.addr rfl
              exact wV_ret () hS hP hx hb hr hlocks dX7_looksAt_138 (Nat.le_of_ble_eq_true rfl) (Nat.le_of_ble_eq_true rfl) hQ trivial
            · have fi : i < k := nt_nle (a := k) (b := i) (by omega) (by omega) c30_2
              have hfi := hfr i fi
              refine lv_aload_n hx hb dX7_looksAt_33 rfl (lv_at hl 1 rfl) ?_
              refine gf_X7_17 hx hb hts hown hK hP 0 rfl (v := .ref (ad 3)) rfl dX7_looksAt_34 ?_
              refine lv_iload hx hb dX7_looksAt_37 (lv_at hl 0 rfl) ?_
              refine ald_I (f := (S 3)) hx hb hK hP 3 rfl (i := i) (by omega) (by decide) dX7_looksAt_39 ?_
              refine lv_iload_n hx hb dX7_looksAt_40 rfl (lv_at hl 3 rfl) ?_
              refine lv_icmp_ne (tgt := 91) hx hb dX7_looksAt_41 (by decide) (fun c41_4 => ?_) (fun c41_4 => ?_)
              · refine lv_iconst (v := 0) hx hb dX7_looksAt_91 (by decide) ?_
                refine lv_istore (lv' := [(5, .int 0), (4, .int (nI i)), (0, .ref (ad 0)), (1, .ref (ad 11)), (2, .int wh), (3, .int t)]) hx hb dX7_looksAt_92 hl (by decide) rfl (fun ls hl => ?_)
                refine lv_aload_n hx hb dX7_looksAt_94 rfl (lv_at hl 2 rfl) ?_
                refine gf_X7_23 hx hb hts hown hK hP 0 rfl (v := .ref (ad 5)) rfl dX7_looksAt_95 ?_
                refine lv_iload hx hb dX7_looksAt_98 (lv_at hl 1 rfl) ?_
                refine ald_I (f := (S 5)) hx hb hK hP 5 rfl (i := i) (by omega) (by decide) dX7_looksAt_100 ?_
                refine top_eq (y := nI (fr i)) hfi.1 ?_
                refine lv_istore (lv' := [(6, .int (nI (fr i))), (5, .int 0), (4, .int (nI i)), (0, .ref (ad 0)), (1, .ref (ad 11)), (2, .int wh), (3, .int t)]) hx hb dX7_looksAt_101 hl (by decide) rfl (fun ls hl => ?_)
                refine lv_iload hx hb dX7_looksAt_103 (lv_at hl 1 rfl) ?_
                refine lv_if_eq (tgt := 132) hx hb dX7_looksAt_105 (by decide) (fun _ => ?_) (fun c => absurd (by decide) c)
                refine lv_iinc (v := (nI (i + 1))) (lv' := [(4, .int (nI (i + 1))), (6, .int (nI (fr i))), (5, .int 0), (0, .ref (ad 0)), (1, .ref (ad 11)), (2, .int wh), (3, .int t)]) hx hb dX7_looksAt_132 hl (k := 2) rfl (nI_1 i) (by decide) rfl (fun ls hl => ?_)
                refine lv_goto (tgt := 24) hx hb dX7_looksAt_135 (by decide) ?_
                have e_5 : (lkN S wh t fr to (S 11) i) = (lkN S wh t fr to (S 11) (i + 1)) := (lk_f (by simp [mlB, mlR, c41_4])).symm
                have hP : va_P D clW (wM cy ad I (va_up S 11 (lkN S wh t fr to (S 11) (i + 1)))) H := by rw [← e_5]; exact hP
                have hD : va_D A (wM cy ad I (va_up S 11 (lkN S wh t fr to (S 11) (i + 1)))) := hD.addr rfl
                exact ih24 (i + 1) (by omega) (by omega) _ _ hP hD hS ls (lv_sub hl [0, 3, 4, 5, 6] rfl)
              · refine lv_aload_n hx hb dX7_looksAt_44 rfl (lv_at hl 1 rfl) ?_
                refine gf_X7_35 hx hb hts hown hK hP 0 rfl (v := .ref (ad 9)) rfl dX7_looksAt_45 ?_
                refine lv_iload hx hb dX7_looksAt_48 (lv_at hl 0 rfl) ?_
                refine ald_Z (f := (S 9)) hx hb hK hP 9 rfl (i := i) (by omega) (by decide) dX7_looksAt_50 ?_
                refine lv_if_ne (tgt := 91) hx hb dX7_looksAt_51 (by decide) (fun c51_6 => ?_) (fun c51_6 => ?_)
                · refine lv_iconst (v := 0) hx hb dX7_looksAt_91 (by decide) ?_
                  refine lv_istore (lv' := [(5, .int 0), (4, .int (nI i)), (0, .ref (ad 0)), (1, .ref (ad 11)), (2, .int wh), (3, .int t)]) hx hb dX7_looksAt_92 hl (by decide) rfl (fun ls hl => ?_)
                  refine lv_aload_n hx hb dX7_looksAt_94 rfl (lv_at hl 2 rfl) ?_
                  refine gf_X7_23 hx hb hts hown hK hP 0 rfl (v := .ref (ad 5)) rfl dX7_looksAt_95 ?_
                  refine lv_iload hx hb dX7_looksAt_98 (lv_at hl 1 rfl) ?_
                  refine ald_I (f := (S 5)) hx hb hK hP 5 rfl (i := i) (by omega) (by decide) dX7_looksAt_100 ?_
                  refine top_eq (y := nI (fr i)) hfi.1 ?_
                  refine lv_istore (lv' := [(6, .int (nI (fr i))), (5, .int 0), (4, .int (nI i)), (0, .ref (ad 0)), (1, .ref (ad 11)), (2, .int wh), (3, .int t)]) hx hb dX7_looksAt_101 hl (by decide) rfl (fun ls hl => ?_)
                  refine lv_iload hx hb dX7_looksAt_103 (lv_at hl 1 rfl) ?_
                  refine lv_if_eq (tgt := 132) hx hb dX7_looksAt_105 (by decide) (fun _ => ?_) (fun c => absurd (by decide) c)
                  refine lv_iinc (v := (nI (i + 1))) (lv' := [(4, .int (nI (i + 1))), (6, .int (nI (fr i))), (5, .int 0), (0, .ref (ad 0)), (1, .ref (ad 11)), (2, .int wh), (3, .int t)]) hx hb dX7_looksAt_132 hl (k := 2) rfl (nI_1 i) (by decide) rfl (fun ls hl => ?_)
                  refine lv_goto (tgt := 24) hx hb dX7_looksAt_135 (by decide) ?_
                  have e_7 : (lkN S wh t fr to (S 11) i) = (lkN S wh t fr to (S 11) (i + 1)) := (lk_f (by simp [mlB, mlR, c41_4, c51_6])).symm
                  have hP : va_P D clW (wM cy ad I (va_up S 11 (lkN S wh t fr to (S 11) (i + 1)))) H := by rw [← e_7]; exact hP
                  have hD : va_D A (wM cy ad I (va_up S 11 (lkN S wh t fr to (S 11) (i + 1)))) := hD.addr rfl
                  exact ih24 (i + 1) (by omega) (by omega) _ _ hP hD hS ls (lv_sub hl [0, 3, 4, 5, 6] rfl)
                · refine lv_aload_n hx hb dX7_looksAt_54 rfl (lv_at hl 1 rfl) ?_
                  refine gf_X7_29 hx hb hts hown hK hP 0 rfl (v := .ref (ad 7)) rfl dX7_looksAt_55 ?_
                  refine lv_iload hx hb dX7_looksAt_58 (lv_at hl 0 rfl) ?_
                  refine ald_I (f := (S 7)) hx hb hK hP 7 rfl (i := i) (by omega) (by decide) dX7_looksAt_60 ?_
                  refine lv_iload_n hx hb dX7_looksAt_61 rfl (lv_at hl 4 rfl) ?_
                  refine lv_icmp_gt (tgt := 91) hx hb dX7_looksAt_62 (by decide) (fun c62_8 => ?_) (fun c62_8 => ?_)
                  · refine lv_iconst (v := 0) hx hb dX7_looksAt_91 (by decide) ?_
                    refine lv_istore (lv' := [(5, .int 0), (4, .int (nI i)), (0, .ref (ad 0)), (1, .ref (ad 11)), (2, .int wh), (3, .int t)]) hx hb dX7_looksAt_92 hl (by decide) rfl (fun ls hl => ?_)
                    refine lv_aload_n hx hb dX7_looksAt_94 rfl (lv_at hl 2 rfl) ?_
                    refine gf_X7_23 hx hb hts hown hK hP 0 rfl (v := .ref (ad 5)) rfl dX7_looksAt_95 ?_
                    refine lv_iload hx hb dX7_looksAt_98 (lv_at hl 1 rfl) ?_
                    refine ald_I (f := (S 5)) hx hb hK hP 5 rfl (i := i) (by omega) (by decide) dX7_looksAt_100 ?_
                    refine top_eq (y := nI (fr i)) hfi.1 ?_
                    refine lv_istore (lv' := [(6, .int (nI (fr i))), (5, .int 0), (4, .int (nI i)), (0, .ref (ad 0)), (1, .ref (ad 11)), (2, .int wh), (3, .int t)]) hx hb dX7_looksAt_101 hl (by decide) rfl (fun ls hl => ?_)
                    refine lv_iload hx hb dX7_looksAt_103 (lv_at hl 1 rfl) ?_
                    refine lv_if_eq (tgt := 132) hx hb dX7_looksAt_105 (by decide) (fun _ => ?_) (fun c => absurd (by decide) c)
                    refine lv_iinc (v := (nI (i + 1))) (lv' := [(4, .int (nI (i + 1))), (6, .int (nI (fr i))), (5, .int 0), (0, .ref (ad 0)), (1, .ref (ad 11)), (2, .int wh), (3, .int t)]) hx hb dX7_looksAt_132 hl (k := 2) rfl (nI_1 i) (by decide) rfl (fun ls hl => ?_)
                    refine lv_goto (tgt := 24) hx hb dX7_looksAt_135 (by decide) ?_
                    have e_9 : (lkN S wh t fr to (S 11) i) = (lkN S wh t fr to (S 11) (i + 1)) := (lk_f (by simp [mlB, mlR, c41_4, c51_6, c62_8])).symm
                    have hP : va_P D clW (wM cy ad I (va_up S 11 (lkN S wh t fr to (S 11) (i + 1)))) H := by rw [← e_9]; exact hP
                    have hD : va_D A (wM cy ad I (va_up S 11 (lkN S wh t fr to (S 11) (i + 1)))) := hD.addr rfl
                    exact ih24 (i + 1) (by omega) (by omega) _ _ hP hD hS ls (lv_sub hl [0, 3, 4, 5, 6] rfl)
                  · refine lv_aload_n hx hb dX7_looksAt_65 rfl (lv_at hl 1 rfl) ?_
                    refine gf_X7_32 hx hb hts hown hK hP 0 rfl (v := .ref (ad 8)) rfl dX7_looksAt_66 ?_
                    refine lv_iload hx hb dX7_looksAt_69 (lv_at hl 0 rfl) ?_
                    refine ald_I (f := (S 8)) hx hb hK hP 8 rfl (i := i) (by omega) (by decide) dX7_looksAt_71 ?_
                    refine lv_iconst (v := (-1)) hx hb dX7_looksAt_72 (by decide) ?_
                    refine lv_icmp_eq (tgt := 87) hx hb dX7_looksAt_73 (by decide) (fun c73_10 => ?_) (fun c73_10 => ?_)
                    · refine lv_iconst (v := 1) hx hb dX7_looksAt_87 (by decide) ?_
                      refine lv_goto (tgt := 92) hx hb dX7_looksAt_88 (by decide) ?_
                      refine lv_istore (lv' := [(5, .int 1), (4, .int (nI i)), (0, .ref (ad 0)), (1, .ref (ad 11)), (2, .int wh), (3, .int t)]) hx hb dX7_looksAt_92 hl (by decide) rfl (fun ls hl => ?_)
                      refine lv_aload_n hx hb dX7_looksAt_94 rfl (lv_at hl 2 rfl) ?_
                      refine gf_X7_23 hx hb hts hown hK hP 0 rfl (v := .ref (ad 5)) rfl dX7_looksAt_95 ?_
                      refine lv_iload hx hb dX7_looksAt_98 (lv_at hl 1 rfl) ?_
                      refine ald_I (f := (S 5)) hx hb hK hP 5 rfl (i := i) (by omega) (by decide) dX7_looksAt_100 ?_
                      refine top_eq (y := nI (fr i)) hfi.1 ?_
                      refine lv_istore (lv' := [(6, .int (nI (fr i))), (5, .int 1), (4, .int (nI i)), (0, .ref (ad 0)), (1, .ref (ad 11)), (2, .int wh), (3, .int t)]) hx hb dX7_looksAt_101 hl (by decide) rfl (fun ls hl => ?_)
                      have L103 : ∀ (n_103 d : Nat), d ≤ (to i) → (to i) + 1 ≤ d + n_103 → fr i ≤ d → ∀ (H : Heap) (locs : List Loc), va_P D clW (wM cy ad I (va_up S 11 (putF (lkN S wh t fr to (S 11) i) (fr i) d (nI i)))) H → va_D A (wM cy ad I (va_up S 11 (putF (lkN S wh t fr to (S 11) i) (fr i) d (nI i)))) → va_S A s.heap H locs → ∀ (ls : Array Slot), lv_has ls 7 [(6, .int (nI d)), (5, .int 1), (4, .int (nI i)), (0, .ref (ad 0)), (1, .ref (ad 11)), (2, .int wh), (3, .int t)] → W p l e { frames := 0, cells := 0, slots := 0, locals := 0 } s m ([.ref (ad 0), .ref (ad 11), .int wh, .int t] : List Value).toArray below meth c H locs 0 0 Q (F0 m 103 ls []) := by
                        clear hl
                        intro n_103
                        induction n_103 with
                        | zero => intro d  hle_103 hn_103; exact absurd hn_103 (by omega)
                        | succ n_103 ih103 =>
                          intro d  hle_103 hn_103 hfd H locs hP hD hS ls hl
                          refine lv_iload hx hb dX7_looksAt_103 (lv_at hl 1 rfl) ?_
                          refine lv_if_eq (tgt := 132) hx hb dX7_looksAt_105 (by decide) (fun c => absurd c (by decide)) (fun _ => ?_)
                          refine lv_iload hx hb dX7_looksAt_108 (lv_at hl 0 rfl) ?_
                          refine lv_aload_n hx hb dX7_looksAt_110 rfl (lv_at hl 3 rfl) ?_
                          refine gf_X7_26 hx hb hts hown hK hP 0 rfl (v := .ref (ad 6)) rfl dX7_looksAt_111 ?_
                          refine lv_iload hx hb dX7_looksAt_114 (lv_at hl 2 rfl) ?_
                          refine ald_I (f := (S 6)) hx hb hK hP 6 rfl (i := i) (by omega) (by decide) dX7_looksAt_116 ?_
                          refine top_eq (y := nI (to i)) hfi.2.1 ?_
                          refine lv_icmp_ge (tgt := 132) hx hb dX7_looksAt_117 (by decide) (fun c117_11 => ?_) (fun c117_11 => ?_)
                          · have fd : to i ≤ d := nt_le (a := to i) (b := d) (by omega) (by omega) c117_11
                            have hdt : d = to i := by omega
                            rw [hdt] at hP hD
                            refine lv_iinc (v := (nI (i + 1))) (lv' := [(4, .int (nI (i + 1))), (6, .int (nI d)), (5, .int 1), (0, .ref (ad 0)), (1, .ref (ad 11)), (2, .int wh), (3, .int t)]) hx hb dX7_looksAt_132 hl (k := 2) rfl (nI_1 i) (by decide) rfl (fun ls hl => ?_)
                            refine lv_goto (tgt := 24) hx hb dX7_looksAt_135 (by decide) ?_
                            have e_12 : (putF (lkN S wh t fr to (S 11) i) (fr i) (to i) (nI i)) = (lkN S wh t fr to (S 11) (i + 1)) := (lk_t (by simp [mlB, mlR, c41_4, c51_6, c62_8, c73_10])).symm
                            have hP : va_P D clW (wM cy ad I (va_up S 11 (lkN S wh t fr to (S 11) (i + 1)))) H := by rw [← e_12]; exact hP
                            have hD : va_D A (wM cy ad I (va_up S 11 (lkN S wh t fr to (S 11) (i + 1)))) := hD.addr rfl
                            exact ih24 (i + 1) (by omega) (by omega) _ _ hP hD hS ls (lv_sub hl [0, 3, 4, 5, 6] rfl)
                          · have f117_11 : d < (to i) := nt_nle (a := (to i)) (b := d) (by omega) (by omega) c117_11
                            refine lv_aload_n hx hb dX7_looksAt_120 rfl (lv_at hl 4 rfl) ?_
                            refine lv_iload hx hb dX7_looksAt_121 (lv_at hl 0 rfl) ?_
                            refine lv_iload hx hb dX7_looksAt_123 (lv_at hl 2 rfl) ?_
                            refine ast_I hx hb hK hP hD hS 11 rfl (i := d) (x := (nI i)) (by omega) (by decide) dX7_looksAt_125 (fun H locs hP hD hS => ?_)
                            have hP : va_P D clW (wM cy ad I (va_up S 11 (upd (putF (lkN S wh t fr to (S 11) i) (fr i) d (nI i)) d (nI i)))) H := hP
                            have hD : va_D A (wM cy ad I (va_up S 11 (upd (putF (lkN S wh t fr to (S 11) i) (fr i) d (nI i)) d (nI i)))) := hD
                            refine lv_iinc (v := (nI (d + 1))) (lv' := [(6, .int (nI (d + 1))), (5, .int 1), (4, .int (nI i)), (0, .ref (ad 0)), (1, .ref (ad 11)), (2, .int wh), (3, .int t)]) hx hb dX7_looksAt_126 hl (k := 0) rfl (nI_1 d) (by decide) rfl (fun ls hl => ?_)
                            refine lv_goto (tgt := 103) hx hb dX7_looksAt_129 (by decide) ?_
                            have e_13 : (upd (putF (lkN S wh t fr to (S 11) i) (fr i) d (nI i)) d (nI i)) = (putF (lkN S wh t fr to (S 11) i) (fr i) (d + 1) (nI i)) := (putF_s _ hfd)
                            have hP : va_P D clW (wM cy ad I (va_up S 11 (putF (lkN S wh t fr to (S 11) i) (fr i) (d + 1) (nI i)))) H := by rw [← e_13]; exact hP
                            have hD : va_D A (wM cy ad I (va_up S 11 (putF (lkN S wh t fr to (S 11) i) (fr i) (d + 1) (nI i)))) := hD.addr rfl
                            exact ih103 (d + 1) (by omega) (by omega) (by omega) _ _ hP hD hS ls (lv_sub hl [0, 1, 2, 3, 4, 5, 6] rfl)
                      have e_14 : (lkN S wh t fr to (S 11) i) = (putF (lkN S wh t fr to (S 11) i) (fr i) (fr i) (nI i)) := (putF_0 _ _ _)
                      have hP : va_P D clW (wM cy ad I (va_up S 11 (putF (lkN S wh t fr to (S 11) i) (fr i) (fr i) (nI i)))) H := by rw [← e_14]; exact hP
                      have hD : va_D A (wM cy ad I (va_up S 11 (putF (lkN S wh t fr to (S 11) i) (fr i) (fr i) (nI i)))) := hD.addr rfl
                      exact L103 ((to i) + 1) (fr i) (by omega) (by omega) (by omega) _ _ hP hD hS ls (lv_sub hl [0, 1, 2, 3, 4, 5, 6] rfl)
                    · refine lv_aload_n hx hb dX7_looksAt_76 rfl (lv_at hl 1 rfl) ?_
                      refine gf_X7_32 hx hb hts hown hK hP 0 rfl (v := .ref (ad 8)) rfl dX7_looksAt_77 ?_
                      refine lv_iload hx hb dX7_looksAt_80 (lv_at hl 0 rfl) ?_
                      refine ald_I (f := (S 8)) hx hb hK hP 8 rfl (i := i) (by omega) (by decide) dX7_looksAt_82 ?_
                      refine lv_iload_n hx hb dX7_looksAt_83 rfl (lv_at hl 4 rfl) ?_
                      refine lv_icmp_le (tgt := 91) hx hb dX7_looksAt_84 (by decide) (fun c84_15 => ?_) (fun c84_15 => ?_)
                      · refine lv_iconst (v := 0) hx hb dX7_looksAt_91 (by decide) ?_
                        refine lv_istore (lv' := [(5, .int 0), (4, .int (nI i)), (0, .ref (ad 0)), (1, .ref (ad 11)), (2, .int wh), (3, .int t)]) hx hb dX7_looksAt_92 hl (by decide) rfl (fun ls hl => ?_)
                        refine lv_aload_n hx hb dX7_looksAt_94 rfl (lv_at hl 2 rfl) ?_
                        refine gf_X7_23 hx hb hts hown hK hP 0 rfl (v := .ref (ad 5)) rfl dX7_looksAt_95 ?_
                        refine lv_iload hx hb dX7_looksAt_98 (lv_at hl 1 rfl) ?_
                        refine ald_I (f := (S 5)) hx hb hK hP 5 rfl (i := i) (by omega) (by decide) dX7_looksAt_100 ?_
                        refine top_eq (y := nI (fr i)) hfi.1 ?_
                        refine lv_istore (lv' := [(6, .int (nI (fr i))), (5, .int 0), (4, .int (nI i)), (0, .ref (ad 0)), (1, .ref (ad 11)), (2, .int wh), (3, .int t)]) hx hb dX7_looksAt_101 hl (by decide) rfl (fun ls hl => ?_)
                        refine lv_iload hx hb dX7_looksAt_103 (lv_at hl 1 rfl) ?_
                        refine lv_if_eq (tgt := 132) hx hb dX7_looksAt_105 (by decide) (fun _ => ?_) (fun c => absurd (by decide) c)
                        refine lv_iinc (v := (nI (i + 1))) (lv' := [(4, .int (nI (i + 1))), (6, .int (nI (fr i))), (5, .int 0), (0, .ref (ad 0)), (1, .ref (ad 11)), (2, .int wh), (3, .int t)]) hx hb dX7_looksAt_132 hl (k := 2) rfl (nI_1 i) (by decide) rfl (fun ls hl => ?_)
                        refine lv_goto (tgt := 24) hx hb dX7_looksAt_135 (by decide) ?_
                        have e_16 : (lkN S wh t fr to (S 11) i) = (lkN S wh t fr to (S 11) (i + 1)) := (lk_f (by simp [mlB, mlR, c41_4, c51_6, c62_8, c73_10, c84_15])).symm
                        have hP : va_P D clW (wM cy ad I (va_up S 11 (lkN S wh t fr to (S 11) (i + 1)))) H := by rw [← e_16]; exact hP
                        have hD : va_D A (wM cy ad I (va_up S 11 (lkN S wh t fr to (S 11) (i + 1)))) := hD.addr rfl
                        exact ih24 (i + 1) (by omega) (by omega) _ _ hP hD hS ls (lv_sub hl [0, 3, 4, 5, 6] rfl)
                      · refine lv_iconst (v := 1) hx hb dX7_looksAt_87 (by decide) ?_
                        refine lv_goto (tgt := 92) hx hb dX7_looksAt_88 (by decide) ?_
                        refine lv_istore (lv' := [(5, .int 1), (4, .int (nI i)), (0, .ref (ad 0)), (1, .ref (ad 11)), (2, .int wh), (3, .int t)]) hx hb dX7_looksAt_92 hl (by decide) rfl (fun ls hl => ?_)
                        refine lv_aload_n hx hb dX7_looksAt_94 rfl (lv_at hl 2 rfl) ?_
                        refine gf_X7_23 hx hb hts hown hK hP 0 rfl (v := .ref (ad 5)) rfl dX7_looksAt_95 ?_
                        refine lv_iload hx hb dX7_looksAt_98 (lv_at hl 1 rfl) ?_
                        refine ald_I (f := (S 5)) hx hb hK hP 5 rfl (i := i) (by omega) (by decide) dX7_looksAt_100 ?_
                        refine top_eq (y := nI (fr i)) hfi.1 ?_
                        refine lv_istore (lv' := [(6, .int (nI (fr i))), (5, .int 1), (4, .int (nI i)), (0, .ref (ad 0)), (1, .ref (ad 11)), (2, .int wh), (3, .int t)]) hx hb dX7_looksAt_101 hl (by decide) rfl (fun ls hl => ?_)
                        have L103 : ∀ (n_103 d : Nat), d ≤ (to i) → (to i) + 1 ≤ d + n_103 → fr i ≤ d → ∀ (H : Heap) (locs : List Loc), va_P D clW (wM cy ad I (va_up S 11 (putF (lkN S wh t fr to (S 11) i) (fr i) d (nI i)))) H → va_D A (wM cy ad I (va_up S 11 (putF (lkN S wh t fr to (S 11) i) (fr i) d (nI i)))) → va_S A s.heap H locs → ∀ (ls : Array Slot), lv_has ls 7 [(6, .int (nI d)), (5, .int 1), (4, .int (nI i)), (0, .ref (ad 0)), (1, .ref (ad 11)), (2, .int wh), (3, .int t)] → W p l e { frames := 0, cells := 0, slots := 0, locals := 0 } s m ([.ref (ad 0), .ref (ad 11), .int wh, .int t] : List Value).toArray below meth c H locs 0 0 Q (F0 m 103 ls []) := by
                          clear hl
                          intro n_103
                          induction n_103 with
                          | zero => intro d  hle_103 hn_103; exact absurd hn_103 (by omega)
                          | succ n_103 ih103 =>
                            intro d  hle_103 hn_103 hfd H locs hP hD hS ls hl
                            refine lv_iload hx hb dX7_looksAt_103 (lv_at hl 1 rfl) ?_
                            refine lv_if_eq (tgt := 132) hx hb dX7_looksAt_105 (by decide) (fun c => absurd c (by decide)) (fun _ => ?_)
                            refine lv_iload hx hb dX7_looksAt_108 (lv_at hl 0 rfl) ?_
                            refine lv_aload_n hx hb dX7_looksAt_110 rfl (lv_at hl 3 rfl) ?_
                            refine gf_X7_26 hx hb hts hown hK hP 0 rfl (v := .ref (ad 6)) rfl dX7_looksAt_111 ?_
                            refine lv_iload hx hb dX7_looksAt_114 (lv_at hl 2 rfl) ?_
                            refine ald_I (f := (S 6)) hx hb hK hP 6 rfl (i := i) (by omega) (by decide) dX7_looksAt_116 ?_
                            refine top_eq (y := nI (to i)) hfi.2.1 ?_
                            refine lv_icmp_ge (tgt := 132) hx hb dX7_looksAt_117 (by decide) (fun c117_17 => ?_) (fun c117_17 => ?_)
                            · have fd : to i ≤ d := nt_le (a := to i) (b := d) (by omega) (by omega) c117_17
                              have hdt : d = to i := by omega
                              rw [hdt] at hP hD
                              refine lv_iinc (v := (nI (i + 1))) (lv' := [(4, .int (nI (i + 1))), (6, .int (nI d)), (5, .int 1), (0, .ref (ad 0)), (1, .ref (ad 11)), (2, .int wh), (3, .int t)]) hx hb dX7_looksAt_132 hl (k := 2) rfl (nI_1 i) (by decide) rfl (fun ls hl => ?_)
                              refine lv_goto (tgt := 24) hx hb dX7_looksAt_135 (by decide) ?_
                              have e_18 : (putF (lkN S wh t fr to (S 11) i) (fr i) (to i) (nI i)) = (lkN S wh t fr to (S 11) (i + 1)) := (lk_t (by simp [mlB, mlR, c41_4, c51_6, c62_8, c73_10, c84_15])).symm
                              have hP : va_P D clW (wM cy ad I (va_up S 11 (lkN S wh t fr to (S 11) (i + 1)))) H := by rw [← e_18]; exact hP
                              have hD : va_D A (wM cy ad I (va_up S 11 (lkN S wh t fr to (S 11) (i + 1)))) := hD.addr rfl
                              exact ih24 (i + 1) (by omega) (by omega) _ _ hP hD hS ls (lv_sub hl [0, 3, 4, 5, 6] rfl)
                            · have f117_17 : d < (to i) := nt_nle (a := (to i)) (b := d) (by omega) (by omega) c117_17
                              refine lv_aload_n hx hb dX7_looksAt_120 rfl (lv_at hl 4 rfl) ?_
                              refine lv_iload hx hb dX7_looksAt_121 (lv_at hl 0 rfl) ?_
                              refine lv_iload hx hb dX7_looksAt_123 (lv_at hl 2 rfl) ?_
                              refine ast_I hx hb hK hP hD hS 11 rfl (i := d) (x := (nI i)) (by omega) (by decide) dX7_looksAt_125 (fun H locs hP hD hS => ?_)
                              have hP : va_P D clW (wM cy ad I (va_up S 11 (upd (putF (lkN S wh t fr to (S 11) i) (fr i) d (nI i)) d (nI i)))) H := hP
                              have hD : va_D A (wM cy ad I (va_up S 11 (upd (putF (lkN S wh t fr to (S 11) i) (fr i) d (nI i)) d (nI i)))) := hD
                              refine lv_iinc (v := (nI (d + 1))) (lv' := [(6, .int (nI (d + 1))), (5, .int 1), (4, .int (nI i)), (0, .ref (ad 0)), (1, .ref (ad 11)), (2, .int wh), (3, .int t)]) hx hb dX7_looksAt_126 hl (k := 0) rfl (nI_1 d) (by decide) rfl (fun ls hl => ?_)
                              refine lv_goto (tgt := 103) hx hb dX7_looksAt_129 (by decide) ?_
                              have e_19 : (upd (putF (lkN S wh t fr to (S 11) i) (fr i) d (nI i)) d (nI i)) = (putF (lkN S wh t fr to (S 11) i) (fr i) (d + 1) (nI i)) := (putF_s _ hfd)
                              have hP : va_P D clW (wM cy ad I (va_up S 11 (putF (lkN S wh t fr to (S 11) i) (fr i) (d + 1) (nI i)))) H := by rw [← e_19]; exact hP
                              have hD : va_D A (wM cy ad I (va_up S 11 (putF (lkN S wh t fr to (S 11) i) (fr i) (d + 1) (nI i)))) := hD.addr rfl
                              exact ih103 (d + 1) (by omega) (by omega) (by omega) _ _ hP hD hS ls (lv_sub hl [0, 1, 2, 3, 4, 5, 6] rfl)
                        have e_20 : (lkN S wh t fr to (S 11) i) = (putF (lkN S wh t fr to (S 11) i) (fr i) (fr i) (nI i)) := (putF_0 _ _ _)
                        have hP : va_P D clW (wM cy ad I (va_up S 11 (putF (lkN S wh t fr to (S 11) i) (fr i) (fr i) (nI i)))) H := by rw [← e_20]; exact hP
                        have hD : va_D A (wM cy ad I (va_up S 11 (putF (lkN S wh t fr to (S 11) i) (fr i) (fr i) (nI i)))) := hD.addr rfl
                        exact L103 ((to i) + 1) (fr i) (by omega) (by omega) (by omega) _ _ hP hD hS ls (lv_sub hl [0, 1, 2, 3, 4, 5, 6] rfl)
        have e_21 : (putF (S 11) 0 d (-1)) = (lkN S wh t fr to (S 11) 0) := (by rw [show d = 100 by omega]; rfl)
        have hP : va_P D clW (wM cy ad I (va_up S 11 (lkN S wh t fr to (S 11) 0))) H := by rw [← e_21]; exact hP
        have hD : va_D A (wM cy ad I (va_up S 11 (lkN S wh t fr to (S 11) 0))) := hD.addr rfl
        exact L24 (k + 1) 0 (by omega) (by omega) _ _ hP hD hS ls (lv_sub hl [0, 1, 2, 3, 4] rfl)
      · have f7_1 : d < 100 := nt_nle (a := 100) (b := d) (by omega) (by omega) c7_1
        refine lv_aload_n hx hb dX7_looksAt_10 rfl (lv_at hl 2 rfl) ?_
        refine lv_iload hx hb dX7_looksAt_11 (lv_at hl 0 rfl) ?_
        refine lv_iconst (v := (-1)) hx hb dX7_looksAt_13 (by decide) ?_
        refine ast_I hx hb hK hP hD hS 11 rfl (i := d) (x := (-1)) (by omega) (by decide) dX7_looksAt_14 (fun H locs hP hD hS => ?_)
        have hP : va_P D clW (wM cy ad I (va_up S 11 (upd (putF (S 11) 0 d (-1)) d (-1)))) H := hP
        have hD : va_D A (wM cy ad I (va_up S 11 (upd (putF (S 11) 0 d (-1)) d (-1)))) := hD
        refine lv_iinc (v := (nI (d + 1))) (lv' := [(4, .int (nI (d + 1))), (0, .ref (ad 0)), (1, .ref (ad 11)), (2, .int wh), (3, .int t)]) hx hb dX7_looksAt_15 hl (k := 0) rfl (nI_1 d) (by decide) rfl (fun ls hl => ?_)
        refine lv_goto (tgt := 3) hx hb dX7_looksAt_18 (by decide) ?_
        have e_22 : (upd (putF (S 11) 0 d (-1)) d (-1)) = (putF (S 11) 0 (d + 1) (-1)) := (putF_s _ (Nat.zero_le _))
        have hP : va_P D clW (wM cy ad I (va_up S 11 (putF (S 11) 0 (d + 1) (-1)))) H := by rw [← e_22]; exact hP
        have hD : va_D A (wM cy ad I (va_up S 11 (putF (S 11) 0 (d + 1) (-1)))) := hD.addr rfl
        exact ih3 (d + 1) (by omega) (by omega) _ _ hP hD hS ls (lv_sub hl [0, 1, 2, 3, 4] rfl)
  have e_23 : (S 11) = (putF (S 11) 0 0 (-1)) := (putF_0 _ _ _)
  have hP : va_P D clW (wM cy ad I (va_up S 11 (putF (S 11) 0 0 (-1)))) H := by rw [← e_23]; exact hP
  have hD : va_D A (wM cy ad I (va_up S 11 (putF (S 11) 0 0 (-1)))) := hD.addr rfl
  exact L3 (100 + 1) 0 (by omega) (by omega) _ _ hP hD hS ls (lv_sub hl [0, 1, 2, 3, 4] rfl)

set_option maxHeartbeats 4000000 in
set_option maxRecDepth 100000 in
theorem c_X7_askFault (l : Launch) (D : va_G) (cy : Nat → ClassId) (ad : Nat → Nat) (I : AI) (S : AS) (x : Int32) (b : Int32) (t : Int32) : Met l yX7_askFault (Cond.code yX7_askFault cX7_askFault 4 (some .int) :: wsL_law) ({ frames := 2, cells := 0, slots := 0, locals := 44 }) (va_Pc [.ref (ad 0), .int x, .int b, .int t] (rdB D cy (wM cy ad I S))) (rdI (fun r => r = afC I x b t)) 0 0 noA := by
  refine enter (cc := cX7_askFault) (by decide) (Nat.le_of_ble_eq_true rfl) ?_
  intro p e s m below meth c hx hb hr hml hown hts hlocks hin hv Q hQ ls hl
  obtain ⟨hP, hK⟩ := hv
  have hown : s.vm.findClass RX7 = some m.cls := hown
  have hl : lv_has ls 4 [(0, .ref (ad 0)), (1, .int x), (2, .int b), (3, .int t)] := hl
  refine lv_aload_n hx hb dX7_askFault_0 rfl (lv_at hl 0 rfl) ?_
  refine lv_iload_n hx hb dX7_askFault_1 rfl (lv_at hl 1 rfl) ?_
  refine lv_iload_n hx hb dX7_askFault_2 rfl (lv_at hl 2 rfl) ?_
  refine rZ_call (P := mplB ((I 1)) x b = true) (va_runV (As := [.int x, .int b]) (rest := []) ⟨hx, hb, hml, hown, hts⟩ (c_X7_isPlace l D cy ad I S x b) (cw_X7_92 hts rfl rfl ⟨Nat.le_of_ble_eq_true rfl, Nat.le_of_ble_eq_true rfl⟩) (preVR (ci := 7) (q0 := 0) hK hP rfl rfl) rfl rfl hl.1 rfl (lv_room (Nat.le_of_ble_eq_true rfl)) dX7_askFault_3 ⟨Nat.le_of_ble_eq_true rfl, Nat.le_of_ble_eq_true rfl⟩) (fun b3_1 => ?_) (fun b3_1 => ?_)
  · refine lv_if_ne (tgt := 13) hx hb dX7_askFault_6 (by decide) (fun _ => ?_) (fun c => absurd c (by decide))
    refine lv_iload_n hx hb dX7_askFault_13 rfl (lv_at hl 3 rfl) ?_
    refine lv_iconst (v := 0) hx hb dX7_askFault_14 (by decide) ?_
    refine lv_aload_n hx hb dX7_askFault_15 rfl (lv_at hl 0 rfl) ?_
    refine gf_X7_78 hx hb hts hown hK hP 0 rfl (v := .int (I 2)) rfl dX7_askFault_16 ?_
    refine rZ_call (P := inB t 0 (I 2) = true) (va_runS (As := [.int t, .int 0, .int (I 2)]) (rest := []) ⟨hx, hb, hml, hown, hts⟩ (c_X7_in l D cy t 0 (I 2)) (cw_X7_67 hts rfl rfl ⟨Nat.le_of_ble_eq_true rfl, Nat.le_of_ble_eq_true rfl⟩) (preSR hK (hP.sub [] rfl)) rfl rfl hl.1 rfl (lv_room (Nat.le_of_ble_eq_true rfl)) dX7_askFault_19 ⟨Nat.le_of_ble_eq_true rfl, Nat.le_of_ble_eq_true rfl⟩) (fun b19_2 => ?_) (fun b19_2 => ?_)
    · refine lv_if_ne (tgt := 29) hx hb dX7_askFault_22 (by decide) (fun _ => ?_) (fun c => absurd c (by decide))
      refine lv_iload_n hx hb dX7_askFault_29 rfl (lv_at hl 3 rfl) ?_
      refine lv_aload_n hx hb dX7_askFault_30 rfl (lv_at hl 0 rfl) ?_
      refine gf_X7_121 hx hb hts hown hK hP 0 rfl (v := .int (I 5)) rfl dX7_askFault_31 ?_
      refine lv_icmp_ge (tgt := 41) hx hb dX7_askFault_34 (by decide) (fun c34_3 => ?_) (fun c34_3 => ?_)
      · refine lv_iconst (v := 0) hx hb dX7_askFault_41 (by decide) ?_
        exact rI_ret hx hb hr hlocks dX7_askFault_42 hQ (by simp [afC, b3_1, b19_2, c34_3])
      · refine lv_iconst (v := 3) hx hb dX7_askFault_37 (by decide) ?_
        refine lv_goto (tgt := 42) hx hb dX7_askFault_38 (by decide) ?_
        exact rI_ret hx hb hr hlocks dX7_askFault_42 hQ (by simp [afC, b3_1, b19_2, c34_3])
    · refine lv_if_ne (tgt := 29) hx hb dX7_askFault_22 (by decide) (fun c => absurd (by decide) c) (fun _ => ?_)
      refine lv_iconst (v := 2) hx hb dX7_askFault_25 (by decide) ?_
      refine lv_goto (tgt := 42) hx hb dX7_askFault_26 (by decide) ?_
      exact rI_ret hx hb hr hlocks dX7_askFault_42 hQ (by simp [afC, b3_1, b19_2])
  · refine lv_if_ne (tgt := 13) hx hb dX7_askFault_6 (by decide) (fun c => absurd (by decide) c) (fun _ => ?_)
    refine lv_iconst (v := 1) hx hb dX7_askFault_9 (by decide) ?_
    refine lv_goto (tgt := 42) hx hb dX7_askFault_10 (by decide) ?_
    exact rI_ret hx hb hr hlocks dX7_askFault_42 hQ (by simp [afC, b3_1])

set_option maxHeartbeats 4000000 in
set_option maxRecDepth 100000 in
theorem c_X7_dayFault (l : Launch) (D : va_G) (cy : Nat → ClassId) (ad : Nat → Nat) (I : AI) (S : AS) (x : Int32) (b : Int32) (d : Int32) (t : Int32) : Met l yX7_dayFault (Cond.code yX7_dayFault cX7_dayFault 5 (some .int) :: wsL_law) ({ frames := 2, cells := 0, slots := 0, locals := 44 }) (va_Pc [.ref (ad 0), .int x, .int b, .int d, .int t] (rdB D cy (wM cy ad I S))) (rdI (fun r => r = dfC I x b d t)) 0 0 noA := by
  refine enter (cc := cX7_dayFault) (by decide) (Nat.le_of_ble_eq_true rfl) ?_
  intro p e s m below meth c hx hb hr hml hown hts hlocks hin hv Q hQ ls hl
  obtain ⟨hP, hK⟩ := hv
  have hown : s.vm.findClass RX7 = some m.cls := hown
  have hl : lv_has ls 5 [(0, .ref (ad 0)), (1, .int x), (2, .int b), (3, .int d), (4, .int t)] := hl
  refine lv_aload_n hx hb dX7_dayFault_0 rfl (lv_at hl 0 rfl) ?_
  refine lv_iload_n hx hb dX7_dayFault_1 rfl (lv_at hl 1 rfl) ?_
  refine lv_iload_n hx hb dX7_dayFault_2 rfl (lv_at hl 2 rfl) ?_
  refine rZ_call (P := mplB ((I 1)) x b = true) (va_runV (As := [.int x, .int b]) (rest := []) ⟨hx, hb, hml, hown, hts⟩ (c_X7_isPlace l D cy ad I S x b) (cw_X7_92 hts rfl rfl ⟨Nat.le_of_ble_eq_true rfl, Nat.le_of_ble_eq_true rfl⟩) (preVR (ci := 7) (q0 := 0) hK hP rfl rfl) rfl rfl hl.1 rfl (lv_room (Nat.le_of_ble_eq_true rfl)) dX7_dayFault_3 ⟨Nat.le_of_ble_eq_true rfl, Nat.le_of_ble_eq_true rfl⟩) (fun b3_1 => ?_) (fun b3_1 => ?_)
  · refine lv_if_ne (tgt := 13) hx hb dX7_dayFault_6 (by decide) (fun _ => ?_) (fun c => absurd c (by decide))
    refine lv_iload_n hx hb dX7_dayFault_13 rfl (lv_at hl 3 rfl) ?_
    refine lv_iconst (v := 0) hx hb dX7_dayFault_14 (by decide) ?_
    refine lv_bipush (v := 99) hx hb dX7_dayFault_15 (by decide) ?_
    refine rZ_call (P := inB d 0 99 = true) (va_runS (As := [.int d, .int 0, .int 99]) (rest := []) ⟨hx, hb, hml, hown, hts⟩ (c_X7_in l D cy d 0 99) (cw_X7_67 hts rfl rfl ⟨Nat.le_of_ble_eq_true rfl, Nat.le_of_ble_eq_true rfl⟩) (preSR hK (hP.sub [] rfl)) rfl rfl hl.1 rfl (lv_room (Nat.le_of_ble_eq_true rfl)) dX7_dayFault_17 ⟨Nat.le_of_ble_eq_true rfl, Nat.le_of_ble_eq_true rfl⟩) (fun b17_2 => ?_) (fun b17_2 => ?_)
    · refine lv_if_eq (tgt := 36) hx hb dX7_dayFault_20 (by decide) (fun c => absurd c (by decide)) (fun _ => ?_)
      refine lv_iload hx hb dX7_dayFault_23 (lv_at hl 4 rfl) ?_
      refine lv_iconst (v := 0) hx hb dX7_dayFault_25 (by decide) ?_
      refine lv_aload_n hx hb dX7_dayFault_26 rfl (lv_at hl 0 rfl) ?_
      refine gf_X7_78 hx hb hts hown hK hP 0 rfl (v := .int (I 2)) rfl dX7_dayFault_27 ?_
      refine rZ_call (P := inB t 0 (I 2) = true) (va_runS (As := [.int t, .int 0, .int (I 2)]) (rest := []) ⟨hx, hb, hml, hown, hts⟩ (c_X7_in l D cy t 0 (I 2)) (cw_X7_67 hts rfl rfl ⟨Nat.le_of_ble_eq_true rfl, Nat.le_of_ble_eq_true rfl⟩) (preSR hK (hP.sub [] rfl)) rfl rfl hl.1 rfl (lv_room (Nat.le_of_ble_eq_true rfl)) dX7_dayFault_30 ⟨Nat.le_of_ble_eq_true rfl, Nat.le_of_ble_eq_true rfl⟩) (fun b30_3 => ?_) (fun b30_3 => ?_)
      · refine lv_if_ne (tgt := 40) hx hb dX7_dayFault_33 (by decide) (fun _ => ?_) (fun c => absurd c (by decide))
        refine lv_iload hx hb dX7_dayFault_40 (lv_at hl 4 rfl) ?_
        refine lv_aload_n hx hb dX7_dayFault_42 rfl (lv_at hl 0 rfl) ?_
        refine gf_X7_121 hx hb hts hown hK hP 0 rfl (v := .int (I 5)) rfl dX7_dayFault_43 ?_
        refine lv_icmp_ge (tgt := 53) hx hb dX7_dayFault_46 (by decide) (fun c46_4 => ?_) (fun c46_4 => ?_)
        · refine lv_iconst (v := 0) hx hb dX7_dayFault_53 (by decide) ?_
          exact rI_ret hx hb hr hlocks dX7_dayFault_54 hQ (by simp [dfC, b3_1, b17_2, b30_3, c46_4])
        · refine lv_iconst (v := 3) hx hb dX7_dayFault_49 (by decide) ?_
          refine lv_goto (tgt := 54) hx hb dX7_dayFault_50 (by decide) ?_
          exact rI_ret hx hb hr hlocks dX7_dayFault_54 hQ (by simp [dfC, b3_1, b17_2, b30_3, c46_4])
      · refine lv_if_ne (tgt := 40) hx hb dX7_dayFault_33 (by decide) (fun c => absurd (by decide) c) (fun _ => ?_)
        refine lv_iconst (v := 2) hx hb dX7_dayFault_36 (by decide) ?_
        refine lv_goto (tgt := 54) hx hb dX7_dayFault_37 (by decide) ?_
        exact rI_ret hx hb hr hlocks dX7_dayFault_54 hQ (by simp [dfC, b3_1, b17_2, b30_3])
    · refine lv_if_eq (tgt := 36) hx hb dX7_dayFault_20 (by decide) (fun _ => ?_) (fun c => absurd (by decide) c)
      refine lv_iconst (v := 2) hx hb dX7_dayFault_36 (by decide) ?_
      refine lv_goto (tgt := 54) hx hb dX7_dayFault_37 (by decide) ?_
      exact rI_ret hx hb hr hlocks dX7_dayFault_54 hQ (by simp [dfC, b3_1, b17_2])
  · refine lv_if_ne (tgt := 13) hx hb dX7_dayFault_6 (by decide) (fun c => absurd (by decide) c) (fun _ => ?_)
    refine lv_iconst (v := 1) hx hb dX7_dayFault_9 (by decide) ?_
    refine lv_goto (tgt := 54) hx hb dX7_dayFault_10 (by decide) ?_
    exact rI_ret hx hb hr hlocks dX7_dayFault_54 hQ (by simp [dfC, b3_1])

set_option maxHeartbeats 4000000 in
set_option maxRecDepth 100000 in
theorem c_X7_allFault (l : Launch) (D : va_G) (cy : Nat → ClassId) (ad : Nat → Nat) (I : AI) (S : AS) (b : Int32) (d : Int32) (t : Int32) : Met l yX7_allFault (Cond.code yX7_allFault cX7_allFault 4 (some .int) :: wsL_law) ({ frames := 1, cells := 0, slots := 0, locals := 22 }) (va_Pc [.ref (ad 0), .int b, .int d, .int t] (rdB D cy (wM cy ad I S))) (rdI (fun r => r = gfC I b d t)) 0 0 noA := by
  refine enter (cc := cX7_allFault) (by decide) (Nat.le_of_ble_eq_true rfl) ?_
  intro p e s m below meth c hx hb hr hml hown hts hlocks hin hv Q hQ ls hl
  obtain ⟨hP, hK⟩ := hv
  have hown : s.vm.findClass RX7 = some m.cls := hown
  have hl : lv_has ls 4 [(0, .ref (ad 0)), (1, .int b), (2, .int d), (3, .int t)] := hl
  refine lv_iload_n hx hb dX7_allFault_0 rfl (lv_at hl 1 rfl) ?_
  refine lv_iconst (v := 0) hx hb dX7_allFault_1 (by decide) ?_
  refine lv_iconst (v := 2) hx hb dX7_allFault_2 (by decide) ?_
  refine rZ_call (P := inB b 0 2 = true) (va_runS (As := [.int b, .int 0, .int 2]) (rest := []) ⟨hx, hb, hml, hown, hts⟩ (c_X7_in l D cy b 0 2) (cw_X7_67 hts rfl rfl ⟨Nat.le_of_ble_eq_true rfl, Nat.le_of_ble_eq_true rfl⟩) (preSR hK (hP.sub [] rfl)) rfl rfl hl.1 rfl (lv_room (Nat.le_of_ble_eq_true rfl)) dX7_allFault_3 ⟨Nat.le_of_ble_eq_true rfl, Nat.le_of_ble_eq_true rfl⟩) (fun b3_1 => ?_) (fun b3_1 => ?_)
  · refine lv_if_ne (tgt := 13) hx hb dX7_allFault_6 (by decide) (fun _ => ?_) (fun c => absurd c (by decide))
    refine lv_iload_n hx hb dX7_allFault_13 rfl (lv_at hl 2 rfl) ?_
    refine lv_iconst (v := 0) hx hb dX7_allFault_14 (by decide) ?_
    refine lv_bipush (v := 99) hx hb dX7_allFault_15 (by decide) ?_
    refine rZ_call (P := inB d 0 99 = true) (va_runS (As := [.int d, .int 0, .int 99]) (rest := []) ⟨hx, hb, hml, hown, hts⟩ (c_X7_in l D cy d 0 99) (cw_X7_67 hts rfl rfl ⟨Nat.le_of_ble_eq_true rfl, Nat.le_of_ble_eq_true rfl⟩) (preSR hK (hP.sub [] rfl)) rfl rfl hl.1 rfl (lv_room (Nat.le_of_ble_eq_true rfl)) dX7_allFault_17 ⟨Nat.le_of_ble_eq_true rfl, Nat.le_of_ble_eq_true rfl⟩) (fun b17_2 => ?_) (fun b17_2 => ?_)
    · refine lv_if_eq (tgt := 35) hx hb dX7_allFault_20 (by decide) (fun c => absurd c (by decide)) (fun _ => ?_)
      refine lv_iload_n hx hb dX7_allFault_23 rfl (lv_at hl 3 rfl) ?_
      refine lv_iconst (v := 0) hx hb dX7_allFault_24 (by decide) ?_
      refine lv_aload_n hx hb dX7_allFault_25 rfl (lv_at hl 0 rfl) ?_
      refine gf_X7_78 hx hb hts hown hK hP 0 rfl (v := .int (I 2)) rfl dX7_allFault_26 ?_
      refine rZ_call (P := inB t 0 (I 2) = true) (va_runS (As := [.int t, .int 0, .int (I 2)]) (rest := []) ⟨hx, hb, hml, hown, hts⟩ (c_X7_in l D cy t 0 (I 2)) (cw_X7_67 hts rfl rfl ⟨Nat.le_of_ble_eq_true rfl, Nat.le_of_ble_eq_true rfl⟩) (preSR hK (hP.sub [] rfl)) rfl rfl hl.1 rfl (lv_room (Nat.le_of_ble_eq_true rfl)) dX7_allFault_29 ⟨Nat.le_of_ble_eq_true rfl, Nat.le_of_ble_eq_true rfl⟩) (fun b29_3 => ?_) (fun b29_3 => ?_)
      · refine lv_if_ne (tgt := 39) hx hb dX7_allFault_32 (by decide) (fun _ => ?_) (fun c => absurd c (by decide))
        refine lv_iload_n hx hb dX7_allFault_39 rfl (lv_at hl 3 rfl) ?_
        refine lv_aload_n hx hb dX7_allFault_40 rfl (lv_at hl 0 rfl) ?_
        refine gf_X7_121 hx hb hts hown hK hP 0 rfl (v := .int (I 5)) rfl dX7_allFault_41 ?_
        refine lv_icmp_ge (tgt := 51) hx hb dX7_allFault_44 (by decide) (fun c44_4 => ?_) (fun c44_4 => ?_)
        · refine lv_iconst (v := 0) hx hb dX7_allFault_51 (by decide) ?_
          exact rI_ret hx hb hr hlocks dX7_allFault_52 hQ (by simp [gfC, b3_1, b17_2, b29_3, c44_4])
        · refine lv_iconst (v := 3) hx hb dX7_allFault_47 (by decide) ?_
          refine lv_goto (tgt := 52) hx hb dX7_allFault_48 (by decide) ?_
          exact rI_ret hx hb hr hlocks dX7_allFault_52 hQ (by simp [gfC, b3_1, b17_2, b29_3, c44_4])
      · refine lv_if_ne (tgt := 39) hx hb dX7_allFault_32 (by decide) (fun c => absurd (by decide) c) (fun _ => ?_)
        refine lv_iconst (v := 2) hx hb dX7_allFault_35 (by decide) ?_
        refine lv_goto (tgt := 52) hx hb dX7_allFault_36 (by decide) ?_
        exact rI_ret hx hb hr hlocks dX7_allFault_52 hQ (by simp [gfC, b3_1, b17_2, b29_3])
    · refine lv_if_eq (tgt := 35) hx hb dX7_allFault_20 (by decide) (fun _ => ?_) (fun c => absurd (by decide) c)
      refine lv_iconst (v := 2) hx hb dX7_allFault_35 (by decide) ?_
      refine lv_goto (tgt := 52) hx hb dX7_allFault_36 (by decide) ?_
      exact rI_ret hx hb hr hlocks dX7_allFault_52 hQ (by simp [gfC, b3_1, b17_2])
  · refine lv_if_ne (tgt := 13) hx hb dX7_allFault_6 (by decide) (fun c => absurd (by decide) c) (fun _ => ?_)
    refine lv_iconst (v := 1) hx hb dX7_allFault_9 (by decide) ?_
    refine lv_goto (tgt := 52) hx hb dX7_allFault_10 (by decide) ?_
    exact rI_ret hx hb hr hlocks dX7_allFault_52 hQ (by simp [gfC, b3_1])

set_option maxHeartbeats 4000000 in
set_option maxRecDepth 100000 in
theorem c_X7_factOn (l : Launch) (D : va_G) (cy : Nat → ClassId) (ad : Nat → Nat) (I : AI) (S : AS) (sz : Nat) (wh : Int32) (d : Nat) (t : Int32) (k : Nat) (hk : I 3 = nI k) (hk8 : k ≤ 256) (fr : Nat → Nat) (to : Nat → Nat) (hfr : ∀ i : Nat, i < k → S 5 i = nI (fr i) ∧ S 6 i = nI (to i) ∧ fr i ≤ to i ∧ to i ≤ 100) (hd : d < 100) : Met l yX7_factOn (Cond.code yX7_factOn cX7_factOn 4 (some .int) :: wsL_law) ({ frames := 1, cells := 0, slots := 0, locals := 26 }) (va_Pc [.ref (ad 0), .int wh, .int (nI d), .int t] (wrB D cy (wM cy ad I S) sz)) (va_Qi (S := Unit) (fun r u => r = lkN S wh t fr to (S 10) k d) (fun u t9 => va_P D clW (wM cy ad I (va_up S 10 (lkN S wh t fr to (S 10) k))) t9.heap) (va_A (wM cy ad I S) sz)) 0 0 (va_A (wM cy ad I S) sz) := by
  refine enter (cc := cX7_factOn) (by decide) (Nat.le_of_ble_eq_true rfl) ?_
  intro p e s m below meth c hx hb hr hml hown hts hlocks hin hv Q hQ ls hl
  obtain ⟨hsz, hP, hK, hD0⟩ := hv
  subst hsz
  have hD := hD0.self (sz := s.heap.size)
  generalize hAe : va_A (wM cy ad I S) s.heap.size = A at hD hQ ⊢
  have hA : ∀ q : Nat, s.heap.size ≤ q → A q := fun q h => by rw [← hAe]; exact Or.inr h
  have hS : va_S A s.heap s.heap [] := va_S.rf
  suffices K_ : ∀ (H : Heap) (locs : List Loc), va_P D clW (wM cy ad I S) H → va_S A s.heap H locs → W p l e ({ frames := 1, cells := 0, slots := 0, locals := 26 }) s m ([.ref (ad 0), .int wh, .int (nI d), .int t] : List Value).toArray below meth c H locs 0 0 Q (F0 m 0 ls []) from K_ _ _ hP hS
  clear hP hS
  intro H locs hP hS
  have hown : s.vm.findClass RX7 = some m.cls := hown
  have hl : lv_has ls 4 [(0, .ref (ad 0)), (1, .int wh), (2, .int (nI d)), (3, .int t)] := hl
  refine lv_aload_n hx hb dX7_factOn_0 rfl (lv_at hl 0 rfl) ?_
  refine lv_aload_n hx hb dX7_factOn_1 rfl (lv_at hl 0 rfl) ?_
  refine gf_X7_39 hx hb hts hown hK hP 0 rfl (v := .ref (ad 10)) rfl dX7_factOn_2 ?_
  refine lv_iload_n hx hb dX7_factOn_5 rfl (lv_at hl 1 rfl) ?_
  refine lv_iload_n hx hb dX7_factOn_6 rfl (lv_at hl 3 rfl) ?_
  refine wV_call (va_runV (As := [.ref (ad 10), .int wh, .int t]) (rest := []) ⟨hx, hb, hml, hown, hts⟩ (c_X7_looksAt_10 l D cy ad I S H.size wh t k hk hk8 fr to hfr) (cw_X7_111 hts rfl rfl ⟨Nat.le_of_ble_eq_true rfl, Nat.le_of_ble_eq_true rfl⟩) (preVW (ci := 7) (q0 := 0) hK hP hD rfl rfl) rfl rfl hl.1 rfl (lv_room (Nat.le_of_ble_eq_true rfl)) dX7_factOn_7 ⟨Nat.le_of_ble_eq_true rfl, Nat.le_of_ble_eq_true rfl⟩) hP hD hS hA [0, 1, 2, 3, 4, 5, 6, 7, 8, 9, 10, 11, 12, 13, 14, 15, 16] rfl [.inr 0, .inr 1, .inr 2, .inr 3, .inr 4, .inr 5, .inr 6, .inr 7, .inr 8, .inr 9, .inr 10, .inr 11, .inr 12, .inr 13, .inr 14, .inr 15, .inr 16] (by decide) (fun u => (wM cy ad I (va_up S 10 (lkN S wh t fr to (S 10) k)))) (fun _ => rfl) (fun _ => rfl) (fun u7_1 H locs q7_1 hP hD hS hkp => ?_)
  have hP : va_P D clW (wM cy ad I (va_up S 10 (lkN S wh t fr to (S 10) k))) H := hP
  have hD : va_D A (wM cy ad I (va_up S 10 (lkN S wh t fr to (S 10) k))) := hD
  refine lv_aload_n hx hb dX7_factOn_10 rfl (lv_at hl 0 rfl) ?_
  refine gf_X7_39 hx hb hts hown hK hP 0 rfl (v := .ref (ad 10)) rfl dX7_factOn_11 ?_
  refine lv_iload_n hx hb dX7_factOn_14 rfl (lv_at hl 2 rfl) ?_
  refine ald_I (f := (lkN S wh t fr to (S 10) k)) hx hb hK hP 10 rfl (i := d) (by omega) (by decide) dX7_factOn_15 ?_
  have hP : va_P D clW (wM cy ad I (va_up S 10 (lkN S wh t fr to (S 10) k))) H := hP
  have hD : va_D A (wM cy ad I (va_up S 10 (lkN S wh t fr to (S 10) k))) := hD.addr rfl
  exact wI_ret () hS hP hx hb hr hlocks dX7_factOn_16 (Nat.le_of_ble_eq_true rfl) (Nat.le_of_ble_eq_true rfl) hQ rfl

set_option maxHeartbeats 4000000 in
set_option maxRecDepth 100000 in
theorem c_X7_operationAt (l : Launch) (D : va_G) (cy : Nat → ClassId) (ad : Nat → Nat) (I : AI) (S : AS) (sz : Nat) (t : Int32) (n : Nat) (hn : I 2 = nI n) (hn6 : n ≤ 60) (hch : ∀ j : Nat, j ≤ n → narrow .char (.int (S 1 j)) = .int (S 1 j)) : Met l yX7_operationAt (Cond.code yX7_operationAt cX7_operationAt 2 (some .char) :: wsL_law) ({ frames := 1, cells := 0, slots := 0, locals := 22 }) (va_Pc [.ref (ad 0), .int t] (wrB D cy (wM cy ad I S) sz)) (va_Qi (S := AI × AS) (fun r u => (inB t 1 (nI n) = true ∧ r = S 1 t.toNatClampNeg ∧ u.1 = va_up I 0 0 ∧ u.2 = S) ∨ (¬ inB t 1 (nI n) = true ∧ u.1 = va_up I 0 1 ∧ u.2 = S)) (fun u t9 => va_P D clW (wM cy ad u.1 u.2) t9.heap) (va_A (wM cy ad I S) sz)) 0 0 (va_A (wM cy ad I S) sz) := by
  refine enter (cc := cX7_operationAt) (by decide) (Nat.le_of_ble_eq_true rfl) ?_
  intro p e s m below meth c hx hb hr hml hown hts hlocks hin hv Q hQ ls hl
  obtain ⟨hsz, hP, hK, hD0⟩ := hv
  subst hsz
  have hD := hD0.self (sz := s.heap.size)
  generalize hAe : va_A (wM cy ad I S) s.heap.size = A at hD hQ ⊢
  have hA : ∀ q : Nat, s.heap.size ≤ q → A q := fun q h => by rw [← hAe]; exact Or.inr h
  have hS : va_S A s.heap s.heap [] := va_S.rf
  suffices K_ : ∀ (H : Heap) (locs : List Loc), va_P D clW (wM cy ad I S) H → va_S A s.heap H locs → W p l e ({ frames := 1, cells := 0, slots := 0, locals := 22 }) s m ([.ref (ad 0), .int t] : List Value).toArray below meth c H locs 0 0 Q (F0 m 0 ls []) from K_ _ _ hP hS
  clear hP hS
  intro H locs hP hS
  have hown : s.vm.findClass RX7 = some m.cls := hown
  have hl : lv_has ls 2 [(0, .ref (ad 0)), (1, .int t)] := hl
  refine lv_aload_n hx hb dX7_operationAt_0 rfl (lv_at hl 0 rfl) ?_
  refine lv_iload_n hx hb dX7_operationAt_1 rfl (lv_at hl 1 rfl) ?_
  refine lv_iconst (v := 1) hx hb dX7_operationAt_2 (by decide) ?_
  refine lv_aload_n hx hb dX7_operationAt_3 rfl (lv_at hl 0 rfl) ?_
  refine gf_X7_78 hx hb hts hown hK hP 0 rfl (v := .int (I 2)) rfl dX7_operationAt_4 ?_
  refine top_eq hn ?_
  refine rZ_call (P := inB t 1 (nI n) = true) (va_runS (As := [.int t, .int 1, .int (nI n)]) (rest := [.ref (ad 0)]) ⟨hx, hb, hml, hown, hts⟩ (c_X7_in l D cy t 1 (nI n)) (cw_X7_67 hts rfl rfl ⟨Nat.le_of_ble_eq_true rfl, Nat.le_of_ble_eq_true rfl⟩) (preSR hK (hP.sub [] rfl)) rfl rfl hl.1 rfl (lv_room (Nat.le_of_ble_eq_true rfl)) dX7_operationAt_7 ⟨Nat.le_of_ble_eq_true rfl, Nat.le_of_ble_eq_true rfl⟩) (fun b7_1 => ?_) (fun b7_1 => ?_)
  · obtain ⟨j, hj, hxj⟩ := in_1 (by omega) b7_1
    refine lv_if_eq (tgt := 17) hx hb dX7_operationAt_10 (by decide) (fun c => absurd c (by decide)) (fun _ => ?_)
    refine lv_iconst (v := 0) hx hb dX7_operationAt_13 (by decide) ?_
    refine lv_goto (tgt := 18) hx hb dX7_operationAt_14 (by decide) ?_
    refine wI_call (va_runV (As := [.int 0]) (rest := []) ⟨hx, hb, hml, hown, hts⟩ (c_X7_goesOn l D cy ad I S H.size 0) (cw_X7_71 hts rfl rfl ⟨Nat.le_of_ble_eq_true rfl, Nat.le_of_ble_eq_true rfl⟩) (preVW (ci := 7) (q0 := 0) hK hP hD rfl rfl) rfl rfl hl.1 rfl (lv_room (Nat.le_of_ble_eq_true rfl)) dX7_operationAt_18 ⟨Nat.le_of_ble_eq_true rfl, Nat.le_of_ble_eq_true rfl⟩) hP hD hS hA [0, 1, 2, 3, 4, 5, 6, 7, 8, 9, 10, 11, 12, 13, 14, 15, 16] rfl [.inr 0, .inr 1, .inr 2, .inr 3, .inr 4, .inr 5, .inr 6, .inr 7, .inr 8, .inr 9, .inr 10, .inr 11, .inr 12, .inr 13, .inr 14, .inr 15, .inr 16] (by decide) (fun u => (wM cy ad (va_up I 0 0) S)) (fun _ => rfl) (fun _ => rfl) (fun r18_2 u18_2 H locs q18_2 hP hD hS hkp => ?_)
    have hP : va_P D clW (wM cy ad (va_up I 0 0) S) H := hP
    have hD : va_D A (wM cy ad (va_up I 0 0) S) := hD
    rw [if_pos rfl] at q18_2
    subst q18_2
    refine lv_if_eq (tgt := 33) hx hb dX7_operationAt_21 (by decide) (fun c => absurd c (by decide)) (fun _ => ?_)
    refine lv_aload_n hx hb dX7_operationAt_24 rfl (lv_at hl 0 rfl) ?_
    refine gf_X7_9 hx hb hts hown hK hP 0 rfl (v := .ref (ad 1)) rfl dX7_operationAt_25 ?_
    refine lv_iload_n hx hb dX7_operationAt_28 rfl (lv_at hl 1 rfl) ?_
    refine ald_Cx (f := (S 1)) hx hb hK hP 1 rfl (by rw [hxj]; exact vp_in_nI (by omega) (by decide)) dX7_operationAt_29 ?_
    refine lv_goto (tgt := 34) hx hb dX7_operationAt_30 (by decide) ?_
    exact wZ_ret ((va_up I 0 0), S) hS hP hx hb hr hlocks dX7_operationAt_34 (by rw [hxj, nI_clamp (by omega)]; exact hch j (by omega)) (Nat.le_of_ble_eq_true rfl) (Nat.le_of_ble_eq_true rfl) hQ (Or.inl ⟨b7_1, rfl, rfl, rfl⟩)
  · refine lv_if_eq (tgt := 17) hx hb dX7_operationAt_10 (by decide) (fun _ => ?_) (fun c => absurd (by decide) c)
    refine lv_iconst (v := 1) hx hb dX7_operationAt_17 (by decide) ?_
    refine wI_call (va_runV (As := [.int 1]) (rest := []) ⟨hx, hb, hml, hown, hts⟩ (c_X7_goesOn l D cy ad I S H.size 1) (cw_X7_71 hts rfl rfl ⟨Nat.le_of_ble_eq_true rfl, Nat.le_of_ble_eq_true rfl⟩) (preVW (ci := 7) (q0 := 0) hK hP hD rfl rfl) rfl rfl hl.1 rfl (lv_room (Nat.le_of_ble_eq_true rfl)) dX7_operationAt_18 ⟨Nat.le_of_ble_eq_true rfl, Nat.le_of_ble_eq_true rfl⟩) hP hD hS hA [0, 1, 2, 3, 4, 5, 6, 7, 8, 9, 10, 11, 12, 13, 14, 15, 16] rfl [.inr 0, .inr 1, .inr 2, .inr 3, .inr 4, .inr 5, .inr 6, .inr 7, .inr 8, .inr 9, .inr 10, .inr 11, .inr 12, .inr 13, .inr 14, .inr 15, .inr 16] (by decide) (fun u => (wM cy ad (va_up I 0 1) S)) (fun _ => rfl) (fun _ => rfl) (fun r18_3 u18_3 H locs q18_3 hP hD hS hkp => ?_)
    have hP : va_P D clW (wM cy ad (va_up I 0 1) S) H := hP
    have hD : va_D A (wM cy ad (va_up I 0 1) S) := hD
    rw [if_neg (by decide)] at q18_3
    subst q18_3
    refine lv_if_eq (tgt := 33) hx hb dX7_operationAt_21 (by decide) (fun _ => ?_) (fun c => absurd (by decide) c)
    refine lv_iconst (v := 0) hx hb dX7_operationAt_33 (by decide) ?_
    exact wZ_ret ((va_up I 0 1), S) hS hP hx hb hr hlocks dX7_operationAt_34 rfl (Nat.le_of_ble_eq_true rfl) (Nat.le_of_ble_eq_true rfl) hQ (Or.inr ⟨b7_1, rfl, rfl⟩)

set_option maxHeartbeats 4000000 in
set_option maxRecDepth 100000 in
theorem c_X7_entityOf (l : Launch) (D : va_G) (cy : Nat → ClassId) (ad : Nat → Nat) (I : AI) (S : AS) (sz : Nat) (t : Int32) (n : Nat) (hn : I 2 = nI n) (hn6 : n ≤ 60) (hch : ∀ j : Nat, j ≤ n → narrow .char (.int (S 1 j)) = .int (S 1 j)) : Met l yX7_entityOf (Cond.code yX7_entityOf cX7_entityOf 2 (some .int) :: wsL_law) ({ frames := 1, cells := 0, slots := 0, locals := 22 }) (va_Pc [.ref (ad 0), .int t] (wrB D cy (wM cy ad I S) sz)) (va_Qi (S := AI × AS) (fun r u => (inB t 1 (nI n) = true ∧ r = S 2 t.toNatClampNeg ∧ u.1 = va_up I 0 0 ∧ u.2 = S) ∨ (¬ inB t 1 (nI n) = true ∧ u.1 = va_up I 0 1 ∧ u.2 = S)) (fun u t9 => va_P D clW (wM cy ad u.1 u.2) t9.heap) (va_A (wM cy ad I S) sz)) 0 0 (va_A (wM cy ad I S) sz) := by
  refine enter (cc := cX7_entityOf) (by decide) (Nat.le_of_ble_eq_true rfl) ?_
  intro p e s m below meth c hx hb hr hml hown hts hlocks hin hv Q hQ ls hl
  obtain ⟨hsz, hP, hK, hD0⟩ := hv
  subst hsz
  have hD := hD0.self (sz := s.heap.size)
  generalize hAe : va_A (wM cy ad I S) s.heap.size = A at hD hQ ⊢
  have hA : ∀ q : Nat, s.heap.size ≤ q → A q := fun q h => by rw [← hAe]; exact Or.inr h
  have hS : va_S A s.heap s.heap [] := va_S.rf
  suffices K_ : ∀ (H : Heap) (locs : List Loc), va_P D clW (wM cy ad I S) H → va_S A s.heap H locs → W p l e ({ frames := 1, cells := 0, slots := 0, locals := 22 }) s m ([.ref (ad 0), .int t] : List Value).toArray below meth c H locs 0 0 Q (F0 m 0 ls []) from K_ _ _ hP hS
  clear hP hS
  intro H locs hP hS
  have hown : s.vm.findClass RX7 = some m.cls := hown
  have hl : lv_has ls 2 [(0, .ref (ad 0)), (1, .int t)] := hl
  refine lv_aload_n hx hb dX7_entityOf_0 rfl (lv_at hl 0 rfl) ?_
  refine lv_iload_n hx hb dX7_entityOf_1 rfl (lv_at hl 1 rfl) ?_
  refine lv_iconst (v := 1) hx hb dX7_entityOf_2 (by decide) ?_
  refine lv_aload_n hx hb dX7_entityOf_3 rfl (lv_at hl 0 rfl) ?_
  refine gf_X7_78 hx hb hts hown hK hP 0 rfl (v := .int (I 2)) rfl dX7_entityOf_4 ?_
  refine top_eq hn ?_
  refine rZ_call (P := inB t 1 (nI n) = true) (va_runS (As := [.int t, .int 1, .int (nI n)]) (rest := [.ref (ad 0)]) ⟨hx, hb, hml, hown, hts⟩ (c_X7_in l D cy t 1 (nI n)) (cw_X7_67 hts rfl rfl ⟨Nat.le_of_ble_eq_true rfl, Nat.le_of_ble_eq_true rfl⟩) (preSR hK (hP.sub [] rfl)) rfl rfl hl.1 rfl (lv_room (Nat.le_of_ble_eq_true rfl)) dX7_entityOf_7 ⟨Nat.le_of_ble_eq_true rfl, Nat.le_of_ble_eq_true rfl⟩) (fun b7_1 => ?_) (fun b7_1 => ?_)
  · obtain ⟨j, hj, hxj⟩ := in_1 (by omega) b7_1
    refine lv_if_eq (tgt := 17) hx hb dX7_entityOf_10 (by decide) (fun c => absurd c (by decide)) (fun _ => ?_)
    refine lv_iconst (v := 0) hx hb dX7_entityOf_13 (by decide) ?_
    refine lv_goto (tgt := 18) hx hb dX7_entityOf_14 (by decide) ?_
    refine wI_call (va_runV (As := [.int 0]) (rest := []) ⟨hx, hb, hml, hown, hts⟩ (c_X7_goesOn l D cy ad I S H.size 0) (cw_X7_71 hts rfl rfl ⟨Nat.le_of_ble_eq_true rfl, Nat.le_of_ble_eq_true rfl⟩) (preVW (ci := 7) (q0 := 0) hK hP hD rfl rfl) rfl rfl hl.1 rfl (lv_room (Nat.le_of_ble_eq_true rfl)) dX7_entityOf_18 ⟨Nat.le_of_ble_eq_true rfl, Nat.le_of_ble_eq_true rfl⟩) hP hD hS hA [0, 1, 2, 3, 4, 5, 6, 7, 8, 9, 10, 11, 12, 13, 14, 15, 16] rfl [.inr 0, .inr 1, .inr 2, .inr 3, .inr 4, .inr 5, .inr 6, .inr 7, .inr 8, .inr 9, .inr 10, .inr 11, .inr 12, .inr 13, .inr 14, .inr 15, .inr 16] (by decide) (fun u => (wM cy ad (va_up I 0 0) S)) (fun _ => rfl) (fun _ => rfl) (fun r18_2 u18_2 H locs q18_2 hP hD hS hkp => ?_)
    have hP : va_P D clW (wM cy ad (va_up I 0 0) S) H := hP
    have hD : va_D A (wM cy ad (va_up I 0 0) S) := hD
    rw [if_pos rfl] at q18_2
    subst q18_2
    refine lv_if_eq (tgt := 33) hx hb dX7_entityOf_21 (by decide) (fun c => absurd c (by decide)) (fun _ => ?_)
    refine lv_aload_n hx hb dX7_entityOf_24 rfl (lv_at hl 0 rfl) ?_
    refine gf_X7_13 hx hb hts hown hK hP 0 rfl (v := .ref (ad 2)) rfl dX7_entityOf_25 ?_
    refine lv_iload_n hx hb dX7_entityOf_28 rfl (lv_at hl 1 rfl) ?_
    refine ald_Ix (f := (S 2)) hx hb hK hP 2 rfl (by rw [hxj]; exact vp_in_nI (by omega) (by decide)) dX7_entityOf_29 ?_
    refine lv_goto (tgt := 34) hx hb dX7_entityOf_30 (by decide) ?_
    exact wI_ret ((va_up I 0 0), S) hS hP hx hb hr hlocks dX7_entityOf_34 (Nat.le_of_ble_eq_true rfl) (Nat.le_of_ble_eq_true rfl) hQ (Or.inl ⟨b7_1, rfl, rfl, rfl⟩)
  · refine lv_if_eq (tgt := 17) hx hb dX7_entityOf_10 (by decide) (fun _ => ?_) (fun c => absurd (by decide) c)
    refine lv_iconst (v := 1) hx hb dX7_entityOf_17 (by decide) ?_
    refine wI_call (va_runV (As := [.int 1]) (rest := []) ⟨hx, hb, hml, hown, hts⟩ (c_X7_goesOn l D cy ad I S H.size 1) (cw_X7_71 hts rfl rfl ⟨Nat.le_of_ble_eq_true rfl, Nat.le_of_ble_eq_true rfl⟩) (preVW (ci := 7) (q0 := 0) hK hP hD rfl rfl) rfl rfl hl.1 rfl (lv_room (Nat.le_of_ble_eq_true rfl)) dX7_entityOf_18 ⟨Nat.le_of_ble_eq_true rfl, Nat.le_of_ble_eq_true rfl⟩) hP hD hS hA [0, 1, 2, 3, 4, 5, 6, 7, 8, 9, 10, 11, 12, 13, 14, 15, 16] rfl [.inr 0, .inr 1, .inr 2, .inr 3, .inr 4, .inr 5, .inr 6, .inr 7, .inr 8, .inr 9, .inr 10, .inr 11, .inr 12, .inr 13, .inr 14, .inr 15, .inr 16] (by decide) (fun u => (wM cy ad (va_up I 0 1) S)) (fun _ => rfl) (fun _ => rfl) (fun r18_3 u18_3 H locs q18_3 hP hD hS hkp => ?_)
    have hP : va_P D clW (wM cy ad (va_up I 0 1) S) H := hP
    have hD : va_D A (wM cy ad (va_up I 0 1) S) := hD
    rw [if_neg (by decide)] at q18_3
    subst q18_3
    refine lv_if_eq (tgt := 33) hx hb dX7_entityOf_21 (by decide) (fun _ => ?_) (fun c => absurd (by decide) c)
    refine lv_iconst (v := 0) hx hb dX7_entityOf_33 (by decide) ?_
    exact wI_ret ((va_up I 0 1), S) hS hP hx hb hr hlocks dX7_entityOf_34 (Nat.le_of_ble_eq_true rfl) (Nat.le_of_ble_eq_true rfl) hQ (Or.inr ⟨b7_1, rfl, rfl⟩)

set_option maxHeartbeats 4000000 in
set_option maxRecDepth 100000 in
theorem c_X7_isKnown (l : Launch) (D : va_G) (cy : Nat → ClassId) (ad : Nat → Nat) (I : AI) (S : AS) (sz : Nat) (x : Int32) (b : Int32) (d : Int32) (t : Int32) (k : Nat) (hk : I 3 = nI k) (hk8 : k ≤ 256) (fr : Nat → Nat) (to : Nat → Nat) (hfr : ∀ i : Nat, i < k → S 5 i = nI (fr i) ∧ S 6 i = nI (to i) ∧ fr i ≤ to i ∧ to i ≤ 100) : Met l yX7_isKnown (Cond.code yX7_isKnown cX7_isKnown 5 (some .boolean) :: wsL_law) ({ frames := 3, cells := 0, slots := 0, locals := 68 }) (va_Pc [.ref (ad 0), .int x, .int b, .int d, .int t] (wrB D cy (wM cy ad I S) sz)) (va_Qi (S := AI × AS) (fun r u => msc I S u.1 u.2 ∧ u.1 0 = dfC I x b d t ∧ (dfC I x b d t = 0 → r = if lkM S (slM x b) t fr to k d.toNatClampNeg = -1 then 0 else 1)) (fun u t9 => va_P D clW (wM cy ad u.1 u.2) t9.heap) (va_A (wM cy ad I S) sz)) 0 0 (va_A (wM cy ad I S) sz) := by
  refine enter (cc := cX7_isKnown) (by decide) (Nat.le_of_ble_eq_true rfl) ?_
  intro p e s m below meth c hx hb hr hml hown hts hlocks hin hv Q hQ ls hl
  obtain ⟨hsz, hP, hK, hD0⟩ := hv
  subst hsz
  have hD := hD0.self (sz := s.heap.size)
  generalize hAe : va_A (wM cy ad I S) s.heap.size = A at hD hQ ⊢
  have hA : ∀ q : Nat, s.heap.size ≤ q → A q := fun q h => by rw [← hAe]; exact Or.inr h
  have hS : va_S A s.heap s.heap [] := va_S.rf
  suffices K_ : ∀ (H : Heap) (locs : List Loc), va_P D clW (wM cy ad I S) H → va_S A s.heap H locs → W p l e ({ frames := 3, cells := 0, slots := 0, locals := 68 }) s m ([.ref (ad 0), .int x, .int b, .int d, .int t] : List Value).toArray below meth c H locs 0 0 Q (F0 m 0 ls []) from K_ _ _ hP hS
  clear hP hS
  intro H locs hP hS
  have hown : s.vm.findClass RX7 = some m.cls := hown
  have hl : lv_has ls 5 [(0, .ref (ad 0)), (1, .int x), (2, .int b), (3, .int d), (4, .int t)] := hl
  refine lv_aload_n hx hb dX7_isKnown_0 rfl (lv_at hl 0 rfl) ?_
  refine lv_aload_n hx hb dX7_isKnown_1 rfl (lv_at hl 0 rfl) ?_
  refine lv_iload_n hx hb dX7_isKnown_2 rfl (lv_at hl 1 rfl) ?_
  refine lv_iload_n hx hb dX7_isKnown_3 rfl (lv_at hl 2 rfl) ?_
  refine lv_iload_n hx hb dX7_isKnown_4 rfl (lv_at hl 3 rfl) ?_
  refine lv_iload hx hb dX7_isKnown_5 (lv_at hl 4 rfl) ?_
  refine rI_call (va_runV (As := [.int x, .int b, .int d, .int t]) (rest := [.ref (ad 0)]) ⟨hx, hb, hml, hown, hts⟩ (c_X7_dayFault l D cy ad I S x b d t) (cw_X7_124 hts rfl rfl ⟨Nat.le_of_ble_eq_true rfl, Nat.le_of_ble_eq_true rfl⟩) (preVR (ci := 7) (q0 := 0) hK hP rfl rfl) rfl rfl hl.1 rfl (lv_room (Nat.le_of_ble_eq_true rfl)) dX7_isKnown_7 ⟨Nat.le_of_ble_eq_true rfl, Nat.le_of_ble_eq_true rfl⟩) (fun r hr_ => ?_)
  subst hr_
  refine wI_call (va_runV (As := [.int (dfC I x b d t)]) (rest := []) ⟨hx, hb, hml, hown, hts⟩ (c_X7_goesOn l D cy ad I S H.size (dfC I x b d t)) (cw_X7_71 hts rfl rfl ⟨Nat.le_of_ble_eq_true rfl, Nat.le_of_ble_eq_true rfl⟩) (preVW (ci := 7) (q0 := 0) hK hP hD rfl rfl) rfl rfl hl.1 rfl (lv_room (Nat.le_of_ble_eq_true rfl)) dX7_isKnown_10 ⟨Nat.le_of_ble_eq_true rfl, Nat.le_of_ble_eq_true rfl⟩) hP hD hS hA [0, 1, 2, 3, 4, 5, 6, 7, 8, 9, 10, 11, 12, 13, 14, 15, 16] rfl [.inr 0, .inr 1, .inr 2, .inr 3, .inr 4, .inr 5, .inr 6, .inr 7, .inr 8, .inr 9, .inr 10, .inr 11, .inr 12, .inr 13, .inr 14, .inr 15, .inr 16] (by decide) (fun u => (wM cy ad (va_up I 0 (dfC I x b d t)) S)) (fun _ => rfl) (fun _ => rfl) (fun r10_1 u10_1 H locs q10_1 hP hD hS hkp => ?_)
  have hP : va_P D clW (wM cy ad (va_up I 0 (dfC I x b d t)) S) H := hP
  have hD : va_D A (wM cy ad (va_up I 0 (dfC I x b d t)) S) := hD
  by_cases b10_1 : (dfC I x b d t) = 0
  · rw [if_pos b10_1] at q10_1
    subst q10_1
    obtain ⟨j, hj, hdj⟩ := dfC_d b10_1
    refine lv_if_eq (tgt := 36) hx hb dX7_isKnown_13 (by decide) (fun c => absurd c (by decide)) (fun _ => ?_)
    refine lv_aload_n hx hb dX7_isKnown_16 rfl (lv_at hl 0 rfl) ?_
    refine lv_iload_n hx hb dX7_isKnown_17 rfl (lv_at hl 1 rfl) ?_
    refine lv_iload_n hx hb dX7_isKnown_18 rfl (lv_at hl 2 rfl) ?_
    refine rI_call (va_runS (As := [.int x, .int b]) (rest := [.ref (ad 0)]) ⟨hx, hb, hml, hown, hts⟩ (c_X7_placeOf l D cy x b) (cw_X7_103 hts rfl rfl ⟨Nat.le_of_ble_eq_true rfl, Nat.le_of_ble_eq_true rfl⟩) (preSR hK (hP.sub [] rfl)) rfl rfl hl.1 rfl (lv_room (Nat.le_of_ble_eq_true rfl)) dX7_isKnown_19 ⟨Nat.le_of_ble_eq_true rfl, Nat.le_of_ble_eq_true rfl⟩) (fun r hr_ => ?_)
    subst hr_
    have hl : lv_has ls 5 [(0, .ref (ad 0)), (1, .int x), (2, .int b), (3, .int (nI j)), (4, .int t)] := by rw [← hdj]; exact hl
    refine lv_iload_n hx hb dX7_isKnown_22 rfl (lv_at hl 3 rfl) ?_
    refine lv_iload hx hb dX7_isKnown_23 (lv_at hl 4 rfl) ?_
    refine wI_call (va_runV (As := [.int (slM x b), .int (nI j), .int t]) (rest := []) ⟨hx, hb, hml, hown, hts⟩ (c_X7_factOn l D cy ad (va_up I 0 (dfC I x b d t)) S H.size (slM x b) j t k hk hk8 fr to hfr (by omega)) (cw_X7_127 hts rfl rfl ⟨Nat.le_of_ble_eq_true rfl, Nat.le_of_ble_eq_true rfl⟩) (preVW (ci := 7) (q0 := 0) hK hP hD rfl rfl) rfl rfl hl.1 rfl (lv_room (Nat.le_of_ble_eq_true rfl)) dX7_isKnown_25 ⟨Nat.le_of_ble_eq_true rfl, Nat.le_of_ble_eq_true rfl⟩) hP hD hS hA [0, 1, 2, 3, 4, 5, 6, 7, 8, 9, 10, 11, 12, 13, 14, 15, 16] rfl [.inr 0, .inr 1, .inr 2, .inr 3, .inr 4, .inr 5, .inr 6, .inr 7, .inr 8, .inr 9, .inr 10, .inr 11, .inr 12, .inr 13, .inr 14, .inr 15, .inr 16] (by decide) (fun u => (wM cy ad (va_up I 0 (dfC I x b d t)) (va_up S 10 (lkN S (slM x b) t fr to (S 10) k)))) (fun _ => rfl) (fun _ => rfl) (fun r25_2 u25_2 H locs q25_2 hP hD hS hkp => ?_)
    have hP : va_P D clW (wM cy ad (va_up I 0 (dfC I x b d t)) (va_up S 10 (lkN S (slM x b) t fr to (S 10) k))) H := hP
    have hD : va_D A (wM cy ad (va_up I 0 (dfC I x b d t)) (va_up S 10 (lkN S (slM x b) t fr to (S 10) k))) := hD
    subst q25_2
    refine lv_iconst (v := (-1)) hx hb dX7_isKnown_28 (by decide) ?_
    refine lv_icmp_eq (tgt := 36) hx hb dX7_isKnown_29 (by decide) (fun c29_3 => ?_) (fun c29_3 => ?_)
    · refine lv_iconst (v := 0) hx hb dX7_isKnown_36 (by decide) ?_
      exact wZ_ret ((va_up I 0 (dfC I x b d t)), (va_up S 10 (lkN S (slM x b) t fr to (S 10) k))) hS hP hx hb hr hlocks dX7_isKnown_37 narZ0 (Nat.le_of_ble_eq_true rfl) (Nat.le_of_ble_eq_true rfl) hQ ⟨(msc_S (msc_I (msc_0 I S) (by decide) _) (by decide) _), rfl, fun _ => by rw [hdj, nI_clamp (by omega)]; exact (if_pos c29_3).symm⟩
    · refine lv_iconst (v := 1) hx hb dX7_isKnown_32 (by decide) ?_
      refine lv_goto (tgt := 37) hx hb dX7_isKnown_33 (by decide) ?_
      exact wZ_ret ((va_up I 0 (dfC I x b d t)), (va_up S 10 (lkN S (slM x b) t fr to (S 10) k))) hS hP hx hb hr hlocks dX7_isKnown_37 narZ1 (Nat.le_of_ble_eq_true rfl) (Nat.le_of_ble_eq_true rfl) hQ ⟨(msc_S (msc_I (msc_0 I S) (by decide) _) (by decide) _), rfl, fun _ => by rw [hdj, nI_clamp (by omega)]; exact (if_neg c29_3).symm⟩
  · rw [if_neg b10_1] at q10_1
    subst q10_1
    refine lv_if_eq (tgt := 36) hx hb dX7_isKnown_13 (by decide) (fun _ => ?_) (fun c => absurd (by decide) c)
    refine lv_iconst (v := 0) hx hb dX7_isKnown_36 (by decide) ?_
    exact wZ_ret ((va_up I 0 (dfC I x b d t)), S) hS hP hx hb hr hlocks dX7_isKnown_37 narZ0 (Nat.le_of_ble_eq_true rfl) (Nat.le_of_ble_eq_true rfl) hQ ⟨(msc_I (msc_0 I S) (by decide) _), rfl, fun q => absurd q b10_1⟩
