/-! THE STATEMENT IS FALSE AS IT IS PRINTED: a start of its own, over the script xsL, at whose end there are 310 new cells and more, where it allows 272 -/
def r9_cells : Array Value := (xsL.map Value.int).toArray
/-- the witness's start, with the run's script in place of its own -/
def r9_s : State := start1.aboutOf r9_cells
theorem r9_tab : ((Cond.code x code maxLocals ret :: tables_1).all (fun c => c.onTables || c.before start1.args0 r9_s)) = true := by decide +kernel
theorem r9_words : ∀ c ∈ (Cond.code x code maxLocals ret :: tables_1), c.before start1.args0 r9_s = true := fun c hc => by
  have h := List.all_eq_true.mp r9_tab c hc
  rcases Bool.or_eq_true_iff.mp h with h | h
  · exact va_tabs h (show start1.about.vm = r9_s.vm from rfl) (start1.words c hc)
  · exact h
set_option maxRecDepth 16384 in
theorem r9_applies : (headSpec (Cond.code x code maxLocals ret :: tables_1) room_1).applies x start1.e0.platform r9_s = true :=
  (Spec.applies_iff (m := ⟨0, 0⟩) (args := start1.args0) (below := Lib.HandBits.below0) rfl).mpr ⟨rfl, rfl, rfl, by decide +kernel, by decide +kernel, by decide +kernel, launch0.hasRoom_least _ room_1 (by decide +kernel) (by decide +kernel) (by decide +kernel) (by decide +kernel) (by decide +kernel) (by decide +kernel), atoms_intro r9_words⟩
set_option maxRecDepth 16384 in
theorem r9_appliesB : (headSpec (Cond.code x code maxLocals ret :: tables_1) Rb).applies x start1.e0.platform r9_s = true :=
  (Spec.applies_iff (m := ⟨0, 0⟩) (args := start1.args0) (below := Lib.HandBits.below0) rfl).mpr ⟨rfl, rfl, rfl, by decide +kernel, by decide +kernel, by decide +kernel, launch0.hasRoom_least _ Rb (by decide +kernel) (by decide +kernel) (by decide +kernel) (by decide +kernel) (by decide +kernel) (by decide +kernel), atoms_intro r9_words⟩
theorem r9_given : (Cond.and given_1 narrow_1).before start1.args0 r9_s = true := by decide +kernel
theorem r9_rest : rest_1_c.before start1.args0 r9_s = true := by decide +kernel
set_option maxRecDepth 16384 in
theorem r9_at : AtStart classFile x code maxLocals ret World_1 tables_1 room_1 Calls_1 rest_1 Pre_1 launch0 start1.p0 start1.e0 r9_s ⟨0, 0⟩ start1.args0 Lib.HandBits.below0 :=
  ⟨lists_1, trivial, launch0.admits_env _ _ _, launch0.least_env, fairChoices_fair.cas, fairChoices_fair.clock, rfl, by decide +kernel, by decide +kernel, r9_applies, trivial, r9_rest, r9_given⟩
theorem r9_ints : r9_s.IntsAt 0 xsL := by
  have hs := flat_of_before _ r9_given
  have hq := flat_of_before _ r9_rest
  have harr : (Cond.arrayOf (.arg 0) .int).before start1.args0 r9_s = true := hs _ (by decide +kernel)
  have hlen : (Cond.isInt (.length (.arg 0))).before start1.args0 r9_s = true := hq _ (by decide +kernel)
  have hall : (Cond.all (.arg 0) (.isInt (.elem (.arg 0) (.index 0)))).before start1.args0 r9_s = true := hq _ (by decide +kernel)
  obtain ⟨b, xs, hb, hx⟩ := State.ints_of_pre rfl harr hlen hall
  have hb0 : b = 0 := by
    have h : some (Value.ref 0) = some (Value.ref b) := hb
    cases h; rfl
  subst hb0
  obtain ⟨scr, h1, h2, h3, h4⟩ := hx
  obtain ⟨hcb, -, -, -⟩ := State.arrayAt?_spec h1
  have e : scr.slots = r9_cells := by
    have h : r9_s.heap[0]? = some scr := hcb
    have h0 : r9_s.heap[0]?.map (·.slots) = some r9_cells := rfl
    rw [h] at h0
    exact Option.some.inj h0
  exact ⟨scr, h1, by rw [e]; rfl, h3, by decide⟩
/-- the machine's own end out of that start -/
theorem r9_end : ∃ (n : Nat) (o : Outcome), (∀ k, k < n → Within (stepsAlone start1.p0.tables start1.e0 k r9_s) Lib.HandBits.below0) ∧ (stepsAlone start1.p0.tables start1.e0 n r9_s).status = Status.running ∧ Ended (stepsAlone start1.p0.tables start1.e0 n r9_s) Lib.HandBits.below0 o ∧ r9_s.heap.size + 310 ≤ (stepsAlone start1.p0.tables start1.e0 n r9_s).heap.size :=
  bg_walk launch0 rfl 0 start1.p0 start1.e0 (launch0.admits_env _ _ _) fairChoices_fair.cas fairChoices_fair.clock r9_s ⟨0, 0⟩ start1.args0 Lib.HandBits.below0 rfl ((Spec.applies_iff_loose rfl).mp r9_appliesB).1 ⟨rfl, r9_ints, r9_given⟩ trivial
theorem r9_room {s t : State} {o : Outcome} {L : List Loc} {n : Nat} (h : Framed s o t L 272 n) (h2 : s.heap.size + 310 ≤ t.heap.size) : False := by
  have h3 : t.heap.size ≤ s.heap.size + 272 := h.2.2.2.2.1
  omega
/-- the Statement's own refuted claims -/
theorem p44_refuted_1_1 : RefutedClaimed_1_1 := by
  obtain ⟨n, o, h1, h2, h3, h4⟩ := r9_end
  exact ⟨launch0, start1.p0, start1.e0, r9_s, ⟨0, 0⟩, start1.args0, Lib.HandBits.below0, rfl, r9_at, n, o, h1, h2, h3, fun h => r9_room h.2 h4⟩
theorem p44_refuted_1_2 : RefutedClaimed_1_2 := by
  obtain ⟨n, o, h1, h2, h3, h4⟩ := r9_end
  exact ⟨launch0, start1.p0, start1.e0, r9_s, ⟨0, 0⟩, start1.args0, Lib.HandBits.below0, rfl, r9_at, n, o, h1, h2, h3, fun h => r9_room h.2 h4⟩
/-- neither claim holds: the machine has one end, and that end is past the room -/
theorem p44_not_1_1 : ¬ Claimed_1_1 := by
  intro h
  obtain ⟨n, o, h1, h2, h3, h4⟩ := r9_end
  obtain ⟨n', o', g1, g2, g3, g4⟩ := h launch0 rfl lists_1 trivial start1.p0 start1.e0 (launch0.admits_env _ _ _) fairChoices_fair.cas fairChoices_fair.clock r9_s ⟨0, 0⟩ start1.args0 Lib.HandBits.below0 rfl (by decide +kernel) (by decide +kernel) r9_applies ⟨trivial, r9_rest, r9_given⟩
  obtain ⟨rfl, rfl⟩ := the_end_unique (f := fun k => stepsAlone start1.p0.tables start1.e0 k r9_s) h1 h3 g1 g3
  exact r9_room g4.2 h4
theorem p44_not_1_2 : ¬ Claimed_1_2 := by
  intro h
  obtain ⟨n, o, h1, h2, h3, h4⟩ := r9_end
  obtain ⟨n', o', g1, g2, g3, g4⟩ := h launch0 rfl lists_1 trivial start1.p0 start1.e0 (launch0.admits_env _ _ _) fairChoices_fair.cas fairChoices_fair.clock r9_s ⟨0, 0⟩ start1.args0 Lib.HandBits.below0 rfl (by decide +kernel) (by decide +kernel) r9_applies ⟨trivial, r9_rest, r9_given⟩
  obtain ⟨rfl, rfl⟩ := the_end_unique (f := fun k => stepsAlone start1.p0.tables start1.e0 k r9_s) h1 h3 g1 g3
  exact r9_room g4.2 h4
theorem p44_false : ¬ (Claimed_1_1 ∧ Claimed_1_2) := fun h => p44_not_1_1 h.1
