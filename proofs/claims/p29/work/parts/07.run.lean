def odd_t (k : Nat) : State := stepsAlone start1.p0.tables start1.e0 k odd_s
theorem odd_halts : decide ((odd_t 19).status = .running) = false := by decide +kernel
theorem odd_within : (List.range 19).all (fun k => (odd_t k).frames.length != 1) = true := by decide +kernel
theorem odd_no : ¬ Claimed_1_1 := by
  intro h
  obtain ⟨hL, hW, ha, -, hca, hck, hf, hfit, hheap, happ, hp⟩ := odd_start
  obtain ⟨n, o, -, h2, h3, h4, -⟩ := h launch0 rfl hL hW start1.p0 start1.e0 ha hca hck odd_s ⟨0, 0⟩ start1.args0 Lib.HandBits.below0 hf hfit hheap happ hp
  have hst : ¬ (odd_t 19).status = .running := of_decide_eq_false odd_halts
  rcases Nat.lt_or_ge n 19 with hlt | hge
  · have hlen : ((odd_t n).frames.length != 1) = true := List.all_eq_true.mp odd_within n (List.mem_range.mpr hlt)
    cases o with
    | returned v =>
      have h5 : (odd_t n).frames = [.native { method := ⟨0, 0⟩, args := #[], awaiting := false, answer := some (.returned v) }] := h3
      rw [h5] at hlen
      exact absurd (show false = true from hlen) (by decide)
    | threw a =>
      have h5 : limb_1_1.after start1.args0 odd_s (.threw a) (odd_t n) = true := h4
      simp [limb_1_1, Cond.after, Cond.holds, Cond.value] at h5
  · obtain ⟨j, rfl⟩ := Nat.exists_eq_add_of_le hge
    have e : stepsAlone start1.p0.tables start1.e0 (19 + j) odd_s = odd_t 19 := by
      rw [stepsAlone_add]
      exact stepsAlone_of_not_goesOn _ _ (fun hg => hst hg.1) _
    rw [e] at h2
    exact hst h2
theorem odd_vc : ¬ (Claimed_1_1 ∧ Claimed_1_2) := fun h => odd_no h.1
