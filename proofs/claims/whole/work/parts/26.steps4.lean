/-! ===== asOf, count ===== -/
theorem s_asOf {ad : sA} {nw nt : Nat} {B : sB} {L : sL} (hR : Rel nw nt B L) (x y : Int32) : Stq yX5_asOf cX5_asOf 5 5 yX6_asOf cX6_asOf 6 5 (some .int) [.int x, .int y] ad nw nt B L := by
  obtain ⟨s1, s2, s3, s4, s5, s6, s7, s8, s9, s10⟩ := hR.1
  rcases in_out x (n := nt) (by omega) with ⟨t, ht, rfl⟩ | hot
  · by_cases hl : y < 0
    · exact ⟨_, _, _, _, _, c_asOf_lo s5 s6 ht hl, r_asOf_lo (by exact s4) s6 ht hl, Rel_refuse hR⟩
    · by_cases hh : B 25 0 3 < y
      · exact ⟨_, _, _, _, _, c_asOf_hi s5 s6 ht hl (by rw [s7]; exact hh), r_asOf_hi (by exact s4) s6 ht hl (by exact hh), Rel_refuse hR⟩
      · obtain ⟨k, hk6, g1, g2, g3⟩ := hR.2.2.2.2.1
        exact ⟨_, _, _, _, _, c_asOf_ok s5 s6 ht hl (by rw [s7]; exact hh) g1 hk6 (hR.2.2.2.1.1 t ht).1, (by rw [g3]; exact r_asOf_ok s4 s6 ht hl hh g2 hk6), hR⟩
  · exact ⟨_, _, _, _, _, c_asOf_1 s5 s6 hot, r_asOf_1 (by exact s4) s6 hot, Rel_refuse hR⟩
theorem s_count {ad : sA} {nw nt : Nat} {B : sB} {L : sL} (hR : Rel nw nt B L) (y : Int32) : Stq yX5_count cX5_count 2 5 yX6_count cX6_count 4 5 (some .int) [.int y] ad nw nt B L := by
  obtain ⟨s1, s2, s3, s4, s5, s6, s7, s8, s9, s10⟩ := hR.1
  have hT := hR.2.2.2.1.1
  have e10 : ∀ i, i < nt → (fun q => B 21 q 10) i = B 47 0 i := fun i hi => (hT i hi).2.2.2.2.2.2.2.2.2.2.1
  have hall := cn_all (f := B 47 0) nt (fun i hi => (hT i hi).2.2.2.2.2.2.2.2.2.2.2.1)
  rcases in_out y (n := 8) (by omega) with ⟨k, hk, rfl⟩ | hoy
  · rcases (show k = 0 ∨ k = 1 ∨ k = 2 ∨ k = 3 ∨ k = 4 ∨ k = 5 ∨ k = 6 ∨ k = 7 by omega) with rfl | rfl | rfl | rfl | rfl | rfl | rfl | rfl
    · exact ⟨_, _, _, _, _, c_count_0, (by rw [s7]; exact r_count_0), hR⟩
    · exact ⟨_, _, _, _, _, c_count_1, (by rw [s2, ← s1]; exact r_count_1), hR⟩
    · exact ⟨_, _, _, _, _, c_count_2, (by rw [s5, ← s4]; exact r_count_2), hR⟩
    · exact ⟨_, _, _, _, _, c_count_3 s5 s6, (by rw [cnV_congr nt e10]; exact r_count_3 s4 s6), hR⟩
    · refine ⟨_, _, _, _, _, c_count_4 s5 s6 (by rw [cnV_congr nt e10, cnV_congr nt e10, cnV_congr nt e10]; omega), ?_, hR⟩
      rw [cnV_congr nt e10, cnV_congr nt e10, cnV_congr nt e10, show nt - cnV (B 47 0) (-1) nt - cnV (B 47 0) (-2) nt - cnV (B 47 0) (-3) nt = cnG (B 47 0) nt by omega]
      exact r_count_4 s4 s6
    · exact ⟨_, _, _, _, _, c_count_5 s5 s6, (by rw [cnV_congr nt e10]; exact r_count_5 s4 s6), hR⟩
    · exact ⟨_, _, _, _, _, c_count_6 s5 s6, (by rw [cnV_congr nt e10]; exact r_count_6 s4 s6), hR⟩
    · obtain ⟨k, hk6, g1, g2, g3⟩ := hR.2.2.2.2.1
      exact ⟨_, _, _, _, _, c_count_7, (by rw [g1, ← g2]; exact r_count_7), hR⟩
  · rcases in_out y (n := 17) (by omega) with ⟨k, hk, rfl⟩ | ho2
    · by_cases h11 : 11 ≤ k
      · obtain ⟨j, rfl⟩ : ∃ j, k = j + 10 := ⟨k - 10, by omega⟩
        exact ⟨_, _, _, _, _, c_count_r (by omega) (by omega), (by rw [hR.2.1.2.2 j (by omega)]; exact r_count_r (by omega) (by omega)), hR⟩
      · exact ⟨_, _, _, _, _, c_count_o hoy (Or.inl (nI_lt (b := 11) (by omega) (by decide))), r_count_o hoy (Or.inl (nI_le (b := 10) (by omega) (by decide))), hR⟩
    · refine ⟨_, _, _, _, _, c_count_o hoy ?_, r_count_o hoy ?_, hR⟩
      · exact ho2.elim (fun z => Or.inl (Int32.lt_trans z (by decide))) (fun z => Or.inr (Int32.lt_of_lt_of_le (show (16 : Int32) < nI 17 by decide) z))
      · exact ho2.elim (fun z => Or.inl (Int32.le_of_lt (Int32.lt_trans z (by decide)))) Or.inr
