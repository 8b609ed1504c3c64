/-! ===== swap, mend, cast, send ===== -/
theorem upd_upd (f : Nat → Int32) (i : Nat) (x y : Int32) : upd (upd f i x) i y = upd f i y := by
  funext j
  by_cases h : j = i <;> simp [upd, h]
theorem upd_comm {f : Nat → Int32} {i j : Nat} {x y : Int32} (h : i ≠ j) : upd (upd f i x) j y = upd (upd f j y) i x := by
  funext k
  by_cases h1 : k = i
  · subst h1
    simp [upd, h]
  · by_cases h2 : k = j
    · subst h2
      simp [upd, Ne.symm h]
    · simp [upd, h1, h2]
theorem u2_u2 (f : Nat → Nat → Int32) (j i : Nat) (x y : Int32) : u2 (u2 f j i x) j i y = u2 f j i y := by
  funext a b
  by_cases h : a = j ∧ b = i <;> simp [u2, h]
theorem u2_comm {f : Nat → Nat → Int32} {j i j' i' : Nat} {x y : Int32} (h : ¬ (j = j' ∧ i = i')) : u2 (u2 f j i x) j' i' y = u2 (u2 f j' i' y) j i x := by
  funext a b
  by_cases h1 : a = j ∧ b = i
  · obtain ⟨rfl, rfl⟩ := h1
    simp [u2, h]
  · by_cases h2 : a = j' ∧ b = i'
    · simp only [u2, if_neg h1, if_pos h2]
    · simp only [u2, if_neg h1, if_neg h2]
/-- a tyre goes from one place to another that is empty -/
theorem RelW_move {nw nt : Nat} {c18 c19 c20 : Nat → Nat → Int32} {r8 r9 r10 r11 r17 : Nat → Int32} {w q t p w' q' p' : Nat} (h5 : nw ≤ 5) (hw : w < nw) (hp : r8 w = nI p) (hq : q < p) (h7 : p ≤ 7) (hw' : w' < nw) (hp' : r8 w' = nI p') (hq' : q' < p') (h7' : p' ≤ 7) (ht : t < nt) (h40 : nt ≤ 40) (hon : c20 w q = nI t) (h : RelW nw nt c18 c19 c20 r8 r9 r10 r11 r17) : RelW nw nt c18 c19 (u2 (u2 c20 w q (-1)) w' q' (nI t)) r8 r9 (upd (upd r10 (7 * w + q) (-1)) (7 * w' + q') (nI t)) r11 (upd r17 t (nI (10 * w' + q'))) := by
  have h1 := RelW_clear (v := -1) h5 hw hp hq h7 ht h40 hon h
  have h2 := RelW_lay h5 hw' hp' hq' h7' ht h40 (upd_s _ _ _) h1
  rw [upd_upd] at h2
  exact h2
/-- two tyres change their places -/
theorem RelW_swap {nw nt : Nat} {c18 c19 c20 : Nat → Nat → Int32} {r8 r9 r10 r11 r17 : Nat → Int32} {w q a b p w' q' p' : Nat} (h5 : nw ≤ 5) (hw : w < nw) (hp : r8 w = nI p) (hq : q < p) (h7 : p ≤ 7) (hw' : w' < nw) (hp' : r8 w' = nI p') (hq' : q' < p') (h7' : p' ≤ 7) (ha : a < nt) (hb : b < nt) (h40 : nt ≤ 40) (hne : ¬ (w = w' ∧ q = q')) (hab : a ≠ b) (hon : c20 w q = nI a) (hon' : c20 w' q' = nI b) (h : RelW nw nt c18 c19 c20 r8 r9 r10 r11 r17) : RelW nw nt c18 c19 (u2 (u2 c20 w q (nI b)) w' q' (nI a)) r8 r9 (upd (upd r10 (7 * w + q) (nI b)) (7 * w' + q') (nI a)) r11 (upd (upd r17 a (nI (10 * w' + q'))) b (nI (10 * w + q))) := by
  have h1 := RelW_clear (v := -1) h5 hw hp hq h7 ha h40 hon h
  have h2 := RelW_clear (v := -1) h5 hw' hp' hq' h7' hb h40 (by rw [u2_n (by omega)]; exact hon') h1
  have h3 := RelW_lay h5 hw hp hq h7 hb h40 (upd_s _ _ _) h2
  have h4 := RelW_lay h5 hw' hp' hq' h7' ha h40 (by rw [upd_n hab, upd_n hab, upd_s]) h3
  have e1 : u2 (u2 (u2 (u2 c20 w q (-1)) w' q' (-1)) w q (nI b)) w' q' (nI a) = u2 (u2 c20 w q (nI b)) w' q' (nI a) := by
    rw [u2_comm (f := c20) hne, u2_u2, u2_comm (f := c20) (by omega), u2_u2]
  have e2 : upd (upd (upd (upd r10 (7 * w + q) (-1)) (7 * w' + q') (-1)) (7 * w + q) (nI b)) (7 * w' + q') (nI a) = upd (upd r10 (7 * w + q) (nI b)) (7 * w' + q') (nI a) := by
    have hn : 7 * w + q ≠ 7 * w' + q' := by omega
    rw [upd_comm (f := r10) hn, upd_upd, upd_comm (f := r10) (Ne.symm hn), upd_upd]
  have e3 : upd (upd (upd (upd r17 a (-1)) b (-1)) b (nI (10 * w + q))) a (nI (10 * w' + q')) = upd (upd r17 a (nI (10 * w' + q'))) b (nI (10 * w + q)) := by
    rw [upd_upd, upd_comm (f := r17) hab, upd_upd, upd_comm (Ne.symm hab)]
  rw [e1, e2, e3] at h4
  exact h4
theorem RelG_log2 {c6 c7 c8 c9 r r22 r23 r24 : Nat → Int32} {k : Nat} {a b dy x y : Int32} (hab : a ≠ b) (hk : c6 3 = nI k) (h6 : k < 599) (h : RelG c6 c7 c8 c9 r r22 r23 r24) : RelG (upd (upd c6 3 (nI (k + 1))) 3 (nI (k + 1 + 1))) (upd (upd c7 k dy) (k + 1) dy) (upd (upd c8 k b) (k + 1) a) (upd (upd c9 k y) (k + 1) x) (upd (upd r 7 (nI (k + 1))) 7 (nI (k + 1 + 1))) (upd (upd r22 k a) (k + 1) b) (upd (upd r23 k dy) (k + 1) dy) (upd (upd r24 k x) (k + 1) y) := by
  obtain ⟨k', h1, h2, h3, h4⟩ := h
  have hkk : k' = k := (nI_eq (by omega) (by omega)).mp (h2.symm.trans hk)
  subst hkk
  refine ⟨k' + 1 + 1, by omega, upd_s _ _ _, upd_s _ _ _, fun t d => ?_⟩
  rw [wl_add, wl_add, wl_add, wl_add, h4]
  by_cases h5 : a = t ∧ dy ≤ d
  · have h6 : ¬ (b = t ∧ dy ≤ d) := fun z => hab (h5.1.trans z.1.symm)
    rw [if_pos h5, if_neg h6, if_pos h5]
  · rw [if_neg h5, if_neg h5]
theorem s_mend {ad : sA} {nw nt : Nat} {B : sB} {L : sL} (hR : Rel nw nt B L) (x : Int32) : Stq yX5_mend cX5_mend 3 5 yX6_mend cX6_mend 2 3 (some .int) [.int x] ad nw nt B L := by
  have hR0 := hR
  obtain ⟨⟨s1, s2, s3, s4, s5, s6, s7, s8, s9, s10⟩, hP, hW, hT, hG, hL⟩ := hR
  rcases in_out x (n := nt) (by omega) with ⟨t, ht, rfl⟩ | hot
  · obtain ⟨a1, a2, a3, a4, a5, a6, a7, ⟨m, a8, a8'⟩, a9, a10, a11, a12, a13, a14, a15⟩ := hT.1 t ht
    by_cases hwh : B 47 0 t = -1
    · by_cases h9 : m < 9
      · refine ⟨_, _, _, _, _, c_mend_4 s5 s6 ht (a11.trans hwh) (a7.trans a8') h9, r_mend_4 (by exact s4) s6 ht (by exact hwh) (by exact a8') h9, ?_⟩
        unfold Rel at hR0 ⊢
        simp only [uB_2, u2_a, uB_k, ne_eq, Nat.reduceEqDiff, not_false_eq_true]
        refine ⟨hR0.1, hP, hW, ⟨fun t' ht' => ?_, fun t' h1 h2 => ?_⟩, hG, hL⟩
        · have h1 := hT.1 t' ht'
          unfold RelT1 at h1 ⊢
          by_cases he : t' = t
          · subst he
            rw [u2_a]
            simp only [upd_s, upd_n (show (0 : Nat) ≠ 8 by decide), upd_n (show (1 : Nat) ≠ 8 by decide), upd_n (show (2 : Nat) ≠ 8 by decide), upd_n (show (6 : Nat) ≠ 8 by decide), upd_n (show (7 : Nat) ≠ 8 by decide), upd_n (show (9 : Nat) ≠ 8 by decide), upd_n (show (10 : Nat) ≠ 8 by decide), upd_n (show (11 : Nat) ≠ 8 by decide)]
            obtain ⟨b1, b2, b3, b4, b5, b6, b7, b8, b9⟩ := h1
            exact ⟨b1, b2, b3, b4, b5, b6, trivial, ⟨m + 1, by omega, rfl⟩, b9⟩
          · rw [u2_r he, upd_n he]
            exact h1
        · rw [upd_n (by omega)]
          exact hT.2 t' h1 h2
      · have : m = 9 := by omega
        subst this
        exact ⟨_, _, _, _, _, c_mend_3 s5 s6 ht (a11.trans hwh) (a7.trans a8'), r_mend_3 (by exact s4) s6 ht (by exact hwh) (by exact a8'), Rel_refuse hR0⟩
    · exact ⟨_, _, _, _, _, c_mend_2 s5 s6 ht (fun z => hwh (a11.symm.trans z)), r_mend_2 (by exact s4) s6 ht (by exact hwh), Rel_refuse hR0⟩
  · exact ⟨_, _, _, _, _, c_mend_1 s5 s6 hot, r_mend_1 (by exact s4) s6 hot, Rel_refuse hR0⟩
theorem s_cast {ad : sA} {nw nt : Nat} {B : sB} {L : sL} (hR : Rel nw nt B L) (x : Int32) : Stq yX5_cast cX5_cast 3 5 yX6_cast cX6_cast 2 3 (some .int) [.int x] ad nw nt B L := by
  have hR0 := hR
  obtain ⟨⟨s1, s2, s3, s4, s5, s6, s7, s8, s9, s10⟩, hP, hW, hT, hG, hL⟩ := hR
  rcases in_out x (n := nt) (by omega) with ⟨t, ht, rfl⟩ | hot
  · obtain ⟨a1, a2, a3, a4, a5, a6, a7, a8, a9, a10, a11, a12, a13, a14, a15⟩ := hT.1 t ht
    by_cases hwh : B 47 0 t = -1
    · obtain ⟨k, hk6, g1, g2, g3⟩ := id hG
      by_cases h6 : k < 600
      · refine ⟨_, _, _, _, _, c_cast_4 s5 s6 ht (a11.trans hwh) g1 h6, r_cast_4 (by exact s4) s6 ht (by exact hwh) (by exact g2) h6, ?_⟩
        unfold Rel at hR0 ⊢
        simp only [cLog, rLog, uB_2, u2_a, uB_k, ne_eq, Nat.reduceEqDiff, not_false_eq_true, upd_s, upd_n (show (3 : Nat) ≠ 7 by decide), a1, s7]
        refine ⟨RelS_log hR0.1, hP, RelW_where s3 (no_place (by rw [hwh]; decide)) hW, ?_, RelG_log g1 h6 hG, hL⟩
        exact RelT_where (Or.inr (Or.inl rfl)) (fun _ => by rw [hwh]; decide) hT
      · have : k = 600 := by omega
        subst this
        exact ⟨_, _, _, _, _, c_cast_3 s5 s6 ht (a11.trans hwh) g1, r_cast_3 (by exact s4) s6 ht (by exact hwh) (by exact g2), Rel_refuse hR0⟩
    · exact ⟨_, _, _, _, _, c_cast_2 s5 s6 ht (fun z => hwh (a11.symm.trans z)), r_cast_2 (by exact s4) s6 ht (by exact hwh), Rel_refuse hR0⟩
  · exact ⟨_, _, _, _, _, c_cast_1 s5 s6 hot, r_cast_1 (by exact s4) s6 hot, Rel_refuse hR0⟩
theorem s_send {ad : sA} {nw nt : Nat} {B : sB} {L : sL} (hR : Rel nw nt B L) (x : Int32) : Stq yX5_send cX5_send 3 5 yX6_send cX6_send 2 3 (some .int) [.int x] ad nw nt B L := by
  have hR0 := hR
  obtain ⟨⟨s1, s2, s3, s4, s5, s6, s7, ⟨dy, s8, s8'⟩, s9, s10⟩, hP, hW, hT, hG, hL⟩ := hR
  rcases in_out x (n := nt) (by omega) with ⟨t, ht, rfl⟩ | hot
  · obtain ⟨a1, a2, a3, a4, a5, a6, a7, a8, a9, a10, a11, a12, a13, a14, a15⟩ := hT.1 t ht
    by_cases hwh : B 47 0 t = -1
    · by_cases htr : 2 ≤ B 44 0 t
      · exact ⟨_, _, _, _, _, c_send_2b s5 s6 ht (a11.trans hwh) (by rw [a5]; exact htr), r_send_2b (by exact s4) s6 ht (by exact hwh) (by exact htr), Rel_refuse hR0⟩
      · by_cases hme : B 45 0 t < 3
        · obtain ⟨k, hk6, g1, g2, g3⟩ := id hG
          by_cases h6 : k < 600
          · by_cases hd : dy ≤ 1990
            · refine ⟨_, _, _, _, _, c_send_4 s5 s6 ht (a11.trans hwh) (by rw [a5]; exact htr) (by rw [a7]; exact hme) g1 h6 (s7.trans s8') hd, r_send_4 (by exact s4) s6 ht (by exact hwh) (by exact htr) (by exact hme) (by exact g2) h6 (by exact s8') hd, ?_⟩
              unfold Rel at hR0 ⊢
              simp only [cLog, rLog, uB_2, u2_a, uB_k, ne_eq, Nat.reduceEqDiff, not_false_eq_true, upd_s, upd_n (show (3 : Nat) ≠ 7 by decide), a1, s8']
              refine ⟨RelS_log hR0.1, hP, RelW_where s3 (no_place (by rw [hwh]; decide)) hW, ⟨fun t' ht' => ?_, hT.2⟩, RelG_log g1 h6 hG, hL⟩
              have h1 := hT.1 t' ht'
              unfold RelT1 at h1 ⊢
              by_cases he : t' = t
              · subst he
                rw [u2_a, u2_a]
                simp only [upd_s, upd_n (show (0 : Nat) ≠ 10 by decide), upd_n (show (1 : Nat) ≠ 10 by decide), upd_n (show (2 : Nat) ≠ 10 by decide), upd_n (show (6 : Nat) ≠ 10 by decide), upd_n (show (7 : Nat) ≠ 10 by decide), upd_n (show (8 : Nat) ≠ 10 by decide), upd_n (show (9 : Nat) ≠ 10 by decide), upd_n (show (11 : Nat) ≠ 10 by decide), upd_n (show (0 : Nat) ≠ 11 by decide), upd_n (show (1 : Nat) ≠ 11 by decide), upd_n (show (2 : Nat) ≠ 11 by decide), upd_n (show (6 : Nat) ≠ 11 by decide), upd_n (show (7 : Nat) ≠ 11 by decide), upd_n (show (8 : Nat) ≠ 11 by decide), upd_n (show (9 : Nat) ≠ 11 by decide)]
                obtain ⟨b1, b2, b3, b4, b5, b6, b7, b8, b9, b10, b11, b12, b13, b14, b15⟩ := h1
                exact ⟨b1, b2, b3, b4, b5, b6, b7, b8, b9, b10, trivial, Or.inr (Or.inl trivial), fun _ => ⟨trivial, dy + 10, dy, by omega, rfl, rfl, by omega⟩, fun z => (z trivial).elim, b15⟩
              · rw [u2_r he, u2_r he, upd_n he, upd_n he, ← s8']
                exact h1
            · exact ⟨_, _, _, _, _, c_send_3b s5 s6 ht (a11.trans hwh) (by rw [a5]; exact htr) (by rw [a7]; exact hme) g1 h6 (s7.trans s8') s8 (by omega), r_send_3b (by exact s4) s6 ht (by exact hwh) (by exact htr) (by exact hme) (by exact g2) h6 (by exact s8') s8 (by omega), Rel_refuse hR0⟩
          · have : k = 600 := by omega
            subst this
            exact ⟨_, _, _, _, _, c_send_3a s5 s6 ht (a11.trans hwh) (by rw [a5]; exact htr) (by rw [a7]; exact hme) g1, r_send_3a (by exact s4) s6 ht (by exact hwh) (by exact htr) (by exact hme) (by exact g2), Rel_refuse hR0⟩
        · exact ⟨_, _, _, _, _, c_send_2c s5 s6 ht (a11.trans hwh) (by rw [a5]; exact htr) (by rw [a7]; exact hme), r_send_2c (by exact s4) s6 ht (by exact hwh) (by exact htr) (by exact hme), Rel_refuse hR0⟩
    · exact ⟨_, _, _, _, _, c_send_2a s5 s6 ht (fun z => hwh (a11.symm.trans z)), r_send_2a (by exact s4) s6 ht (by exact hwh), Rel_refuse hR0⟩
  · exact ⟨_, _, _, _, _, c_send_1 s5 s6 hot, r_send_1 (by exact s4) s6 hot, Rel_refuse hR0⟩
theorem s_swap {ad : sA} {nw nt : Nat} {B : sB} {L : sL} (hR : Rel nw nt B L) (x y x' y' : Int32) : Stq yX5_swap cX5_swap 9 5 yX6_swap cX6_swap 7 3 (some .int) [.int x, .int y, .int x', .int y'] ad nw nt B L := by
  have hR0 := hR
  obtain ⟨⟨s1, s2, s3, s4, s5, s6, s7, s8, s9, s10⟩, hP, hW, hT, hG, hL⟩ := hR
  rcases in_out x (n := nw) (by omega) with ⟨w, hw, rfl⟩ | how
  · obtain ⟨p, h7, w1, w2, w3, w4, w5⟩ := hW.1 w hw
    rcases in_out x' (n := nw) (by omega) with ⟨v, hv, rfl⟩ | hov
    · obtain ⟨p', h7', v1, v2, v3, v4, v5⟩ := hW.1 v hv
      rcases in_out y (n := p) (by omega) with ⟨q, hq, rfl⟩ | hoz
      · rcases in_out y' (n := p') (by omega) with ⟨q', hq', rfl⟩ | hoz'
        · by_cases hsame : w = v ∧ q = q'
          · obtain ⟨rfl, rfl⟩ := hsame
            have : p' = p := (nI_eq (by omega) (by omega)).mp (v3.symm.trans w3)
            subst this
            exact ⟨_, _, _, _, _, c_swap_1f s2 s3 hw w2 h7 hq, r_swap_1f (by exact s1) s3 hw (by exact w3) h7 hq, Rel_refuse hR0⟩
          · obtain ⟨q1, q2, q3, q4, q5⟩ := w4 q hq
            obtain ⟨u1, u2', u3, u4, u5⟩ := v4 q' hq'
            obtain ⟨k, hk6, g1, g2, g3⟩ := id hG
            rcases (show (¬ w = v) ∨ (w = v ∧ ¬ q = q') by omega) with hne | ⟨hne, hne2⟩
            · rcases q4 with hon | ⟨t, ht, hon, hwt⟩
              · rcases u4 with hon' | ⟨t, ht, hon', hwt⟩
                · exact ⟨_, _, _, _, _, c_swap_2x s2 s3 s6 hw hv w2 h7 hq v2 h7' hq' hne hon hon', r_swap_2x (by exact s1) s3 s6 hw hv (by exact w3) h7 hq (by exact v3) h7' hq' hne (by exact (q3.symm.trans hon)) (by exact (u3.symm.trans hon')), Rel_refuse hR0⟩
                · by_cases h6 : k < 600
                  · refine ⟨_, _, _, _, _, c_swap_4bx s2 s3 s6 hw hv w2 h7 hq v2 h7' hq' hne ht g1 w1 v1 h6 hon hon', r_swap_4bx (by exact s1) s3 s6 hw hv (by exact w3) h7 hq (by exact v3) h7' hq' hne ht (by exact g2) h6 (by exact (q3.symm.trans hon)) (by exact (u3.symm.trans hon')), ?_⟩
                    have a1 := (hT.1 t ht).1
                    unfold Rel at hR0 ⊢
                    simp only [cLog, rLog, uB_2, u2_a, uB_k, ne_eq, Nat.reduceEqDiff, not_false_eq_true, upd_s, upd_n (show (3 : Nat) ≠ 7 by decide), a1, s7]
                    refine ⟨RelS_log hR0.1, hP, ?_, ?_, RelG_log g1 h6 hG, hL⟩
                    · rw [u2_comm hsame, upd_comm (show 7 * w + q ≠ 7 * v + q' by omega)]
                      exact RelW_move s3 hv v3 hq' h7' hw w3 hq h7 ht s6 hon' hW
                    · exact RelT_where (Or.inr (Or.inr ⟨10 * w + q, by omega, rfl⟩)) (fun _ => by rw [hwt]; exact nI_m2 (by omega)) hT
                  · exact ⟨_, _, _, _, _, c_swap_3bx s2 s3 s6 hw hv w2 h7 hq v2 h7' hq' hne ht g1 (by omega) hon hon', r_swap_3bx (by exact s1) s3 s6 hw hv (by exact w3) h7 hq (by exact v3) h7' hq' hne ht (by exact g2) (by omega) (by exact (q3.symm.trans hon)) (by exact (u3.symm.trans hon')), Rel_refuse hR0⟩
              · rcases u4 with hon' | ⟨b, hb, hon', hwb⟩
                · by_cases h6 : k < 600
                  · refine ⟨_, _, _, _, _, c_swap_4ax s2 s3 s6 hw hv w2 h7 hq v2 h7' hq' hne ht g1 w1 v1 h6 hon hon', r_swap_4ax (by exact s1) s3 s6 hw hv (by exact w3) h7 hq (by exact v3) h7' hq' hne ht (by exact g2) h6 (by exact (q3.symm.trans hon)) (by exact (u3.symm.trans hon')), ?_⟩
                    have a1 := (hT.1 t ht).1
                    unfold Rel at hR0 ⊢
                    simp only [cLog, rLog, uB_2, u2_a, uB_k, ne_eq, Nat.reduceEqDiff, not_false_eq_true, upd_s, upd_n (show (3 : Nat) ≠ 7 by decide), a1, s7]
                    refine ⟨RelS_log hR0.1, hP, ?_, ?_, RelG_log g1 h6 hG, hL⟩
                    · exact RelW_move s3 hw w3 hq h7 hv v3 hq' h7' ht s6 hon hW
                    · exact RelT_where (Or.inr (Or.inr ⟨10 * v + q', by omega, rfl⟩)) (fun _ => by rw [hwt]; exact nI_m2 (by omega)) hT
                  · exact ⟨_, _, _, _, _, c_swap_3ax s2 s3 s6 hw hv w2 h7 hq v2 h7' hq' hne ht g1 (by omega) hon hon', r_swap_3ax (by exact s1) s3 s6 hw hv (by exact w3) h7 hq (by exact v3) h7' hq' hne ht (by exact g2) (by omega) (by exact (q3.symm.trans hon)) (by exact (u3.symm.trans hon')), Rel_refuse hR0⟩
                · by_cases h6 : k < 599
                  · refine ⟨_, _, _, _, _, c_swap_4cx s2 s3 s6 hw hv w2 h7 hq v2 h7' hq' hne ht hb g1 w1 v1 h6 hon hon', r_swap_4cx (by exact s1) s3 s6 hw hv (by exact w3) h7 hq (by exact v3) h7' hq' hne ht hb (by exact g2) h6 (by exact (q3.symm.trans hon)) (by exact (u3.symm.trans hon')), ?_⟩
                    have a1 := (hT.1 t ht).1
                    have b1 := (hT.1 b hb).1
                    have htb : t ≠ b := fun z => by
                      subst z
                      rw [hwt] at hwb
                      have := pl_inj hwb (by omega) (by omega) (by omega) (by omega)
                      omega
                    have hnn : nI t ≠ nI b := fun z => htb ((nI_eq (by omega) (by omega)).mp z)
                    unfold Rel at hR0 ⊢
                    simp only [cLog, rLog, uB_2, u2_a, uB_k, ne_eq, Nat.reduceEqDiff, not_false_eq_true, upd_s, upd_n (show (3 : Nat) ≠ 7 by decide), a1, b1, s7]
                    refine ⟨RelS_log (RelS_log hR0.1), hP, RelW_swap s3 hw w3 hq h7 hv v3 hq' h7' ht hb s6 hsame htb hon hon' hW, ?_, RelG_log2 hnn g1 h6 hG, hL⟩
                    have hT2 := RelT_where (t := t) (v := nI (10 * v + q')) (Or.inr (Or.inr ⟨10 * v + q', by omega, rfl⟩)) (fun _ => by rw [hwt]; exact nI_m2 (by omega)) hT
                    have hT3 := RelT_where (t := b) (v := nI (10 * w + q)) (Or.inr (Or.inr ⟨10 * w + q, by omega, rfl⟩)) (fun _ => by rw [upd_n (Ne.symm htb), hwb]; exact nI_m2 (by omega)) hT2
                    rw [u2_comm (by omega)] at hT3
                    exact hT3
                  · exact ⟨_, _, _, _, _, c_swap_3cx s2 s3 s6 hw hv w2 h7 hq v2 h7' hq' hne ht hb g1 hk6 h6 hon hon', r_swap_3cx (by exact s1) s3 s6 hw hv (by exact w3) h7 hq (by exact v3) h7' hq' hne ht hb (by exact g2) hk6 h6 (by exact (q3.symm.trans hon)) (by exact (u3.symm.trans hon')), Rel_refuse hR0⟩
            · rcases q4 with hon | ⟨t, ht, hon, hwt⟩
              · rcases u4 with hon' | ⟨t, ht, hon', hwt⟩
                · exact ⟨_, _, _, _, _, c_swap_2y s2 s3 s6 hw hv w2 h7 hq v2 h7' hq' hne hne2 hon hon', r_swap_2y (by exact s1) s3 s6 hw hv (by exact w3) h7 hq (by exact v3) h7' hq' hne hne2 (by exact (q3.symm.trans hon)) (by exact (u3.symm.trans hon')), Rel_refuse hR0⟩
                · by_cases h6 : k < 600
                  · refine ⟨_, _, _, _, _, c_swap_4by s2 s3 s6 hw hv w2 h7 hq v2 h7' hq' hne hne2 ht g1 w1 v1 h6 hon hon', r_swap_4by (by exact s1) s3 s6 hw hv (by exact w3) h7 hq (by exact v3) h7' hq' hne hne2 ht (by exact g2) h6 (by exact (q3.symm.trans hon)) (by exact (u3.symm.trans hon')), ?_⟩
                    have a1 := (hT.1 t ht).1
                    unfold Rel at hR0 ⊢
                    simp only [cLog, rLog, uB_2, u2_a, uB_k, ne_eq, Nat.reduceEqDiff, not_false_eq_true, upd_s, upd_n (show (3 : Nat) ≠ 7 by decide), a1, s7]
                    refine ⟨RelS_log hR0.1, hP, ?_, ?_, RelG_log g1 h6 hG, hL⟩
                    · rw [u2_comm hsame, upd_comm (show 7 * w + q ≠ 7 * v + q' by omega)]
                      exact RelW_move s3 hv v3 hq' h7' hw w3 hq h7 ht s6 hon' hW
                    · exact RelT_where (Or.inr (Or.inr ⟨10 * w + q, by omega, rfl⟩)) (fun _ => by rw [hwt]; exact nI_m2 (by omega)) hT
                  · exact ⟨_, _, _, _, _, c_swap_3by s2 s3 s6 hw hv w2 h7 hq v2 h7' hq' hne hne2 ht g1 (by omega) hon hon', r_swap_3by (by exact s1) s3 s6 hw hv (by exact w3) h7 hq (by exact v3) h7' hq' hne hne2 ht (by exact g2) (by omega) (by exact (q3.symm.trans hon)) (by exact (u3.symm.trans hon')), Rel_refuse hR0⟩
              · rcases u4 with hon' | ⟨b, hb, hon', hwb⟩
                · by_cases h6 : k < 600
                  · refine ⟨_, _, _, _, _, c_swap_4ay s2 s3 s6 hw hv w2 h7 hq v2 h7' hq' hne hne2 ht g1 w1 v1 h6 hon hon', r_swap_4ay (by exact s1) s3 s6 hw hv (by exact w3) h7 hq (by exact v3) h7' hq' hne hne2 ht (by exact g2) h6 (by exact (q3.symm.trans hon)) (by exact (u3.symm.trans hon')), ?_⟩
                    have a1 := (hT.1 t ht).1
                    unfold Rel at hR0 ⊢
                    simp only [cLog, rLog, uB_2, u2_a, uB_k, ne_eq, Nat.reduceEqDiff, not_false_eq_true, upd_s, upd_n (show (3 : Nat) ≠ 7 by decide), a1, s7]
                    refine ⟨RelS_log hR0.1, hP, ?_, ?_, RelG_log g1 h6 hG, hL⟩
                    · exact RelW_move s3 hw w3 hq h7 hv v3 hq' h7' ht s6 hon hW
                    · exact RelT_where (Or.inr (Or.inr ⟨10 * v + q', by omega, rfl⟩)) (fun _ => by rw [hwt]; exact nI_m2 (by omega)) hT
                  · exact ⟨_, _, _, _, _, c_swap_3ay s2 s3 s6 hw hv w2 h7 hq v2 h7' hq' hne hne2 ht g1 (by omega) hon hon', r_swap_3ay (by exact s1) s3 s6 hw hv (by exact w3) h7 hq (by exact v3) h7' hq' hne hne2 ht (by exact g2) (by omega) (by exact (q3.symm.trans hon)) (by exact (u3.symm.trans hon')), Rel_refuse hR0⟩
                · by_cases h6 : k < 599
                  · refine ⟨_, _, _, _, _, c_swap_4cy s2 s3 s6 hw hv w2 h7 hq v2 h7' hq' hne hne2 ht hb g1 w1 v1 h6 hon hon', r_swap_4cy (by exact s1) s3 s6 hw hv (by exact w3) h7 hq (by exact v3) h7' hq' hne hne2 ht hb (by exact g2) h6 (by exact (q3.symm.trans hon)) (by exact (u3.symm.trans hon')), ?_⟩
                    have a1 := (hT.1 t ht).1
                    have b1 := (hT.1 b hb).1
                    have htb : t ≠ b := fun z => by
                      subst z
                      rw [hwt] at hwb
                      have := pl_inj hwb (by omega) (by omega) (by omega) (by omega)
                      omega
                    have hnn : nI t ≠ nI b := fun z => htb ((nI_eq (by omega) (by omega)).mp z)
                    unfold Rel at hR0 ⊢
                    simp only [cLog, rLog, uB_2, u2_a, uB_k, ne_eq, Nat.reduceEqDiff, not_false_eq_true, upd_s, upd_n (show (3 : Nat) ≠ 7 by decide), a1, b1, s7]
                    refine ⟨RelS_log (RelS_log hR0.1), hP, RelW_swap s3 hw w3 hq h7 hv v3 hq' h7' ht hb s6 hsame htb hon hon' hW, ?_, RelG_log2 hnn g1 h6 hG, hL⟩
                    have hT2 := RelT_where (t := t) (v := nI (10 * v + q')) (Or.inr (Or.inr ⟨10 * v + q', by omega, rfl⟩)) (fun _ => by rw [hwt]; exact nI_m2 (by omega)) hT
                    have hT3 := RelT_where (t := b) (v := nI (10 * w + q)) (Or.inr (Or.inr ⟨10 * w + q, by omega, rfl⟩)) (fun _ => by rw [upd_n (Ne.symm htb), hwb]; exact nI_m2 (by omega)) hT2
                    rw [u2_comm (by omega)] at hT3
                    exact hT3
                  · exact ⟨_, _, _, _, _, c_swap_3cy s2 s3 s6 hw hv w2 h7 hq v2 h7' hq' hne hne2 ht hb g1 hk6 h6 hon hon', r_swap_3cy (by exact s1) s3 s6 hw hv (by exact w3) h7 hq (by exact v3) h7' hq' hne hne2 ht hb (by exact g2) hk6 h6 (by exact (q3.symm.trans hon)) (by exact (u3.symm.trans hon')), Rel_refuse hR0⟩
        · exact ⟨_, _, _, _, _, c_swap_1e s2 s3 hw hv w2 h7 hq v2 h7' hoz', r_swap_1d (by exact s1) s3 hw hv (by exact w3) h7 hq (by exact v3) h7' hoz', Rel_refuse hR0⟩
      · exact ⟨_, _, _, _, _, c_swap_1d s2 s3 hw hv w2 h7 hoz, r_swap_1b (by exact s1) s3 hw (by exact w3) h7 hoz, Rel_refuse hR0⟩
    · rcases in_out y (n := p) (by omega) with ⟨q, hq, rfl⟩ | hoz
      · exact ⟨_, _, _, _, _, c_swap_1c s2 s3 hw hov, r_swap_1c (by exact s1) s3 hw hov (by exact w3) h7 hq, Rel_refuse hR0⟩
      · exact ⟨_, _, _, _, _, c_swap_1c s2 s3 hw hov, r_swap_1b (by exact s1) s3 hw (by exact w3) h7 hoz, Rel_refuse hR0⟩
  · rcases in_out x' (n := nw) (by omega) with ⟨v, hv, rfl⟩ | hov
    · exact ⟨_, _, _, _, _, c_swap_1b s2 s3 how hv, r_swap_1a (by exact s1) s3 how, Rel_refuse hR0⟩
    · exact ⟨_, _, _, _, _, c_swap_1a s2 s3 how hov, r_swap_1a (by exact s1) s3 how, Rel_refuse hR0⟩
