theorem odd_w0 : odd_chk (Cond.code x code maxLocals ret) = true := by decide +kernel
theorem odd_words : ∀ c ∈ (Cond.code x code maxLocals ret :: tables_1), c.before start1.args0 odd_s = true := by
  intro c hc
  refine odd_word ?_ (start1.words c hc)
  rcases List.mem_cons.mp hc with h | h
  · rw [h]; exact odd_w0
  · have h1 : c ∈ tables_1_1 ++ (tables_1_2 ++ (tables_1_3 ++ tables_1_4)) := h
    rcases List.mem_append.mp h1 with h2 | h1
    · exact List.all_eq_true.mp odd_w1 c h2
    rcases List.mem_append.mp h1 with h2 | h1
    · exact List.all_eq_true.mp odd_w2 c h2
    rcases List.mem_append.mp h1 with h2 | h1
    · exact List.all_eq_true.mp odd_w3 c h2
    exact List.all_eq_true.mp odd_w4 c h1
set_option maxRecDepth 16384 in
/-- all that the statement asks of a start holds of odd_s -/
theorem odd_start : AtStart classFile x code maxLocals ret World_1 tables_1 room_1 Calls_1 rest_1 Pre_1 launch0 start1.p0 start1.e0 odd_s ⟨0, 0⟩ start1.args0 Lib.HandBits.below0 :=
  ⟨start1.atStart.1, trivial, launch0.admits_env _ _ _, launch0.least_env, fairChoices_fair.cas, fairChoices_fair.clock, rfl, by decide +kernel, by decide +kernel,
    (Spec.applies_iff rfl).mpr ⟨rfl, rfl, rfl, by decide +kernel, by decide +kernel, by decide +kernel, launch0.hasRoom_least _ room_1 (by decide +kernel) (by decide +kernel) (by decide +kernel) (by decide +kernel) (by decide +kernel) (by decide +kernel), atoms_intro odd_words⟩,
    trivial, odd_rest, odd_narrow⟩
