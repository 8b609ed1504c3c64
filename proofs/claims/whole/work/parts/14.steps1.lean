/-! ===== least, apart, put, take: both answer alike ===== -/
theorem s_least {ad : sA} {nw nt : Nat} {B : sB} {L : sL} (hR : Rel nw nt B L) (x y : Int32) : Stq yX5_least cX5_least 5 2 yX6_least cX6_least 4 1 (some .int) [.int x, .int y] ad nw nt B L := by
  rcases in_out x (n := 5) (by decide) with ⟨j, hj, rfl⟩ | ho
  · by_cases hl : y < 0
    · exact ⟨_, _, _, _, _, c_least_lo hj hl, r_least_lo hj hl, Rel_refuse hR⟩
    · by_cases hh : 100 < y
      · exact ⟨_, _, _, _, _, c_least_hi hj hl hh, r_least_hi hj hl hh, Rel_refuse hR⟩
      · have e1 := (hR.2.1.1 j hj).1
        refine ⟨_, _, _, _, _, c_least_ok hj hl hh, (by rw [e1]; exact r_least_ok hj hl hh), ?_⟩
        unfold Rel at hR ⊢
        simp only [uB_2, u2_a, uB_k, ne_eq, Nat.reduceEqDiff, not_false_eq_true]
        refine ⟨hR.1, ⟨fun i hi => ?_, hR.2.1.2⟩, hR.2.2⟩
        by_cases hij : i = j
        · subst hij
          rw [upd_s, upd_s]
          obtain ⟨k, hk, rfl⟩ := nI_of2 (M := 100) (n := 100) rfl hl (Int32.not_lt.mp hh)
          exact ⟨rfl, k, hk, rfl⟩
        · rw [upd_n hij, upd_n hij]
          exact hR.2.1.1 i hi
  · exact ⟨_, _, _, _, _, c_least_1 ho, r_least_1 ho, Rel_refuse hR⟩
theorem s_apart {ad : sA} {nw nt : Nat} {B : sB} {L : sL} (hR : Rel nw nt B L) (y : Int32) : Stq yX5_apart cX5_apart 4 2 yX6_apart cX6_apart 3 1 (some .int) [.int y] ad nw nt B L := by
  by_cases hl : y < 0
  · exact ⟨_, _, _, _, _, c_apart_lo hl, r_apart_lo hl, Rel_refuse hR⟩
  · by_cases hh : 100 < y
    · exact ⟨_, _, _, _, _, c_apart_hi hl hh, r_apart_hi hl hh, Rel_refuse hR⟩
    · obtain ⟨s1, s2, s3, s4, s5, s6, s7, s8, s9, s10⟩ := hR.1
      refine ⟨_, _, _, _, _, c_apart_ok hl hh, (by rw [s9]; exact r_apart_ok hl hh), ?_⟩
      unfold Rel at hR ⊢
      simp only [uB_2, u2_a, uB_k, ne_eq, Nat.reduceEqDiff, not_false_eq_true, upd_n (show (3 : Nat) ≠ 6 by decide)]
      refine ⟨?_, hR.2.1, hR.2.2.1, hR.2.2.2.1, ?_, hR.2.2.2.2.2⟩
      · obtain ⟨k, hk, rfl⟩ := nI_of2 (M := 100) (n := 100) rfl hl (Int32.not_lt.mp hh)
        exact ⟨s1, s2, s3, s4, s5, s6, s7, s8, rfl, k, hk, rfl⟩
      · obtain ⟨k, hk, g1, g2, g3⟩ := hR.2.2.2.2.1
        exact ⟨k, hk, g1, g2, g3⟩
theorem s_put {ad : sA} {nw nt : Nat} {B : sB} {L : sL} (hR : Rel nw nt B L) (x y z : Int32) : Stq yX5_put cX5_put 6 5 yX6_put cX6_put 4 3 (some .int) [.int x, .int y, .int z] ad nw nt B L := by
  have hR0 := hR
  obtain ⟨⟨s1, s2, s3, s4, s5, s6, s7, s8, s9, s10⟩, hP, hW, hT, hG, hL⟩ := hR
  rcases in_out x (n := nt) (by omega) with ⟨t, ht, rfl⟩ | hot
  · rcases in_out y (n := nw) (by omega) with ⟨w, hw, rfl⟩ | how
    · obtain ⟨p, h7, w1, w2, w3, w4, w5⟩ := hW.1 w hw
      rcases in_out z (n := p) (by omega) with ⟨q, hq, rfl⟩ | hoz
      · obtain ⟨q1, q2, q3, q4, q5⟩ := w4 q hq
        have hT1 := hT.1 t ht
        have e10 : B 21 t 10 = B 47 0 t := hT1.2.2.2.2.2.2.2.2.2.2.1
        by_cases hwh : B 47 0 t = -1
        · rcases q4 with hon | ⟨a, ha, hon, -⟩
          · obtain ⟨k, hk6, g1, g2, g3⟩ := id hG
            by_cases h6 : k < 600
            · refine ⟨_, _, _, _, _, c_put_5 s5 s6 s2 s3 ht hw w2 h7 hq (e10.trans hwh) hon g1 h6 w1, r_put_5 (by exact s4) s6 (by exact s1) s3 ht hw (by exact w3) h7 hq (by exact hwh) (by exact (q3.symm.trans hon)) (by exact g2) h6, ?_⟩
              unfold Rel at hR0 ⊢
              simp only [cLog, rLog, uB_2, u2_a, uB_k, ne_eq, Nat.reduceEqDiff, not_false_eq_true, upd_s, upd_n (show (3 : Nat) ≠ 7 by decide), hT1.1, s7]
              refine ⟨RelS_log hR0.1, hP, RelW_lay s3 hw w3 hq h7 ht s6 hwh hW, ?_, RelG_log g1 h6 hG, hL⟩
              exact RelT_where (Or.inr (Or.inr ⟨10 * w + q, by omega, rfl⟩)) (fun _ => by rw [hwh]; decide) hT
            · have : k = 600 := by omega
              subst this
              exact ⟨_, _, _, _, _, c_put_4 s5 s6 s2 s3 ht hw w2 h7 hq (e10.trans hwh) hon g1, r_put_4 (by exact s4) s6 (by exact s1) s3 ht hw (by exact w3) h7 hq (by exact hwh) (by exact (q3.symm.trans hon)) (by exact g2), Rel_refuse hR0⟩
          · exact ⟨_, _, _, _, _, c_put_3 s5 s6 s2 s3 ht hw w2 h7 hq (e10.trans hwh) hon (by omega), r_put_3 (by exact s4) s6 (by exact s1) s3 ht hw (by exact w3) h7 hq (by exact hwh) (by exact (q3.symm.trans hon)) (by omega), Rel_refuse hR0⟩
        · exact ⟨_, _, _, _, _, c_put_2 s5 s6 s2 s3 ht hw w2 h7 hq (fun z => hwh (e10.symm.trans z)), r_put_2 (by exact s4) s6 (by exact s1) s3 ht hw (by exact w3) h7 hq (by exact hwh), Rel_refuse hR0⟩
      · exact ⟨_, _, _, _, _, c_put_1d s5 s6 s2 s3 ht hw w2 h7 hoz, r_put_1c (by exact s4) s6 (by exact s1) s3 ht hw (by exact w3) h7 hoz, Rel_refuse hR0⟩
    · exact ⟨_, _, _, _, _, c_put_1c s5 s6 s2 s3 ht how, r_put_1b (by exact s4) s6 (by exact s1) s3 ht how, Rel_refuse hR0⟩
  · rcases in_out y (n := nw) (by omega) with ⟨w, hw, rfl⟩ | how
    · exact ⟨_, _, _, _, _, c_put_1b s5 s6 s2 s3 hot hw, r_put_1a (by exact s4) s6 hot, Rel_refuse hR0⟩
    · exact ⟨_, _, _, _, _, c_put_1a s5 s6 s2 s3 hot how, r_put_1a (by exact s4) s6 hot, Rel_refuse hR0⟩
theorem s_take {ad : sA} {nw nt : Nat} {B : sB} {L : sL} (hR : Rel nw nt B L) (y z : Int32) : Stq yX5_take cX5_take 5 5 yX6_take cX6_take 4 3 (some .int) [.int y, .int z] ad nw nt B L := by
  have hR0 := hR
  obtain ⟨⟨s1, s2, s3, s4, s5, s6, s7, s8, s9, s10⟩, hP, hW, hT, hG, hL⟩ := hR
  rcases in_out y (n := nw) (by omega) with ⟨w, hw, rfl⟩ | how
  · obtain ⟨p, h7, w1, w2, w3, w4, w5⟩ := hW.1 w hw
    rcases in_out z (n := p) (by omega) with ⟨q, hq, rfl⟩ | hoz
    · obtain ⟨q1, q2, q3, q4, q5⟩ := w4 q hq
      rcases q4 with hon | ⟨t, ht, hon, hwt⟩
      · exact ⟨_, _, _, _, _, c_take_2 s2 s3 hw w2 h7 hq hon, r_take_2 (by exact s1) s3 hw (by exact w3) h7 hq (by exact (q3.symm.trans hon)), Rel_refuse hR0⟩
      · have hT1 := hT.1 t ht
        obtain ⟨k, hk6, g1, g2, g3⟩ := id hG
        by_cases h6 : k < 600
        · refine ⟨_, _, _, _, _, c_take_4 s2 s3 s6 hw w2 h7 hq ht hon g1 h6 hT1.1, r_take_4 (by exact s1) s3 s6 hw (by exact w3) h7 hq ht (by exact (q3.symm.trans hon)) (by exact g2) h6, ?_⟩
          unfold Rel at hR0 ⊢
          simp only [cLog, rLog, uB_2, u2_a, uB_k, ne_eq, Nat.reduceEqDiff, not_false_eq_true, upd_s, upd_n (show (3 : Nat) ≠ 7 by decide), hT1.1, s7]
          refine ⟨RelS_log hR0.1, hP, RelW_clear s3 hw w3 hq h7 ht s6 hon hW, ?_, RelG_log g1 h6 hG, hL⟩
          exact RelT_where (Or.inl rfl) (fun _ => by rw [hwt]; exact nI_m2 (by omega)) hT
        · have : k = 600 := by omega
          subst this
          exact ⟨_, _, _, _, _, c_take_3 s2 s3 s6 hw w2 h7 hq ht hon g1, r_take_3 (by exact s1) s3 s6 hw (by exact w3) h7 hq ht (by exact (q3.symm.trans hon)) (by exact g2), Rel_refuse hR0⟩
    · exact ⟨_, _, _, _, _, c_take_1b s2 s3 hw w2 h7 hoz, r_take_1b (by exact s1) s3 hw (by exact w3) h7 hoz, Rel_refuse hR0⟩
  · exact ⟨_, _, _, _, _, c_take_1a s2 s3 how, r_take_1a (by exact s1) s3 how, Rel_refuse hR0⟩
