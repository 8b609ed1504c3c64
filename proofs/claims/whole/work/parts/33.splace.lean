/-! ===== place: the twins when a place is added ===== -/
theorem tw_ex {k : Nat → Int32} : ∀ (p m : Nat), m < twN k p → ∃ o, o < p ∧ k o = 2 ∧ twN k o = m
  | 0, m, h => by simp [twN] at h
  | p + 1, m, h => by
    by_cases hk : k p = 2
    · rw [twN_s2 hk] at h
      by_cases hm : m < twN k p
      · obtain ⟨o, h1, h2, h3⟩ := tw_ex p m hm
        exact ⟨o, by omega, h2, h3⟩
      · exact ⟨p, by omega, hk, by omega⟩
    · rw [twN_s0 hk] at h
      obtain ⟨o, h1, h2, h3⟩ := tw_ex p m h
      exact ⟨o, by omega, h2, h3⟩
theorem twN_upd {k : Nat → Int32} {p : Nat} {x : Int32} : ∀ q, q ≤ p → twN (upd k p x) q = twN k q
  | 0, _ => rfl
  | q + 1, h => by
    simp only [twN]
    rw [twN_upd q (by omega), upd_n (by omega)]
theorem twP_upd {k : Nat → Int32} {p q q' : Nat} {x : Int32} (hq : q < p) (hq' : q' < p) : twP (upd k p x) (p + 1) q q' ↔ twP k p q q' := by
  unfold twP
  rw [twN_upd q (by omega), twN_upd q' (by omega), upd_n (by omega), upd_n (by omega)]
  constructor
  · rintro ⟨a1, a2, a3⟩
    exact ⟨hq, hq', a3⟩
  · rintro ⟨a1, a2, a3⟩
    exact ⟨by omega, by omega, a3⟩
theorem twO_neg {k : Nat → Int32} {n q : Nat} {x : Int32} (h7 : n ≤ 7) (h : twO k n q x) : x < 0 ↔ ∀ p, ¬ twP k n q p := by
  rcases h with ⟨p, h1, rfl⟩ | ⟨rfl, h2⟩
  · have := h1.2.1
    exact ⟨fun z => (nI_pos (by omega) z).elim, fun z => (z p h1).elim⟩
  · exact ⟨fun _ => h2, fun _ => by decide⟩
/-- a place that is no twin -/
theorem tw_add0 {k : Nat → Int32} {p : Nat} {x : Int32} {r : Nat → Int32} (hx : ¬ x = 2) (h : ∀ q, q < p → twO k p q (r q)) (hr : r p = -1) : ∀ q, q < p + 1 → twO (upd k p x) (p + 1) q (r q) := by
  intro q hq
  have hne : ∀ q', twP (upd k p x) (p + 1) q q' → q < p ∧ q' < p := by
    intro q' z
    have e1 : q ≠ p := fun e => hx (by have := z.2.2.1; rw [e, upd_s] at this; exact this)
    have e2 : q' ≠ p := fun e => hx (by have := z.2.2.2.1; rw [e, upd_s] at this; exact this)
    have := z.2.1
    omega
  by_cases he : q = p
  · subst he
    exact Or.inr ⟨hr, fun q' z => by have := hne q' z; omega⟩
  · rcases h q (by omega) with ⟨q', h1, h2⟩ | ⟨h1, h2⟩
    · exact Or.inl ⟨q', (twP_upd (by omega) h1.2.1).mpr h1, h2⟩
    · exact Or.inr ⟨h1, fun q' z => h2 q' ((twP_upd (by omega) (hne q' z).2).mp z)⟩
/-- a twin, and no other waits -/
theorem tw_even {k : Nat → Int32} {p : Nat} (hn : ∀ o, o < p → k o = 2 → ∃ q, twP k p o q) : twN k p % 2 = 0 := by
  rcases Nat.mod_two_eq_zero_or_one (twN k p) with h | h
  · exact h
  · obtain ⟨o, h1, h2, h3⟩ := tw_ex (k := k) p (twN k p - 1) (by omega)
    obtain ⟨q, a1, a2, a3, a4, a5⟩ := hn o h1 h2
    have := twN_lt a2 a4
    rcases a5 with ⟨b1, b2⟩ | ⟨b1, b2⟩ <;> omega
theorem tw_add1 {k : Nat → Int32} {p : Nat} {r : Nat → Int32} (h : ∀ q, q < p → twO k p q (r q)) (hr : r p = -1) (hn : ∀ o, o < p → k o = 2 → ∃ q, twP k p o q) : ∀ q, q < p + 1 → twO (upd k p 2) (p + 1) q (r q) := by
  intro q hq
  have hev := tw_even hn
  have hne : ∀ q', twP (upd k p 2) (p + 1) q q' → q < p ∧ q' < p := by
    intro q' z
    obtain ⟨a1, a2, a3, a4, a5⟩ := z
    rw [twN_upd q (by omega), twN_upd q' (by omega)] at a5
    by_cases e1 : q = p
    · subst e1
      have := twN_le (k := k) (show q' ≤ q by omega)
      omega
    · by_cases e2 : q' = p
      · subst e2
        rw [upd_n e1] at a3
        have := twN_lt (show q < q' by omega) a3
        omega
      · omega
  by_cases he : q = p
  · subst he
    exact Or.inr ⟨hr, fun q' z => by have := hne q' z; omega⟩
  · rcases h q (by omega) with ⟨q', h1, h2⟩ | ⟨h1, h2⟩
    · exact Or.inl ⟨q', (twP_upd (by omega) h1.2.1).mpr h1, h2⟩
    · exact Or.inr ⟨h1, fun q' z => h2 q' ((twP_upd (by omega) (hne q' z).2).mp z)⟩
/-- the one that waits -/
theorem tw_wait {k : Nat → Int32} {p o : Nat} (ho : o < p) (hk : k o = 2) (hno : ∀ q, ¬ twP k p o q) : twN k o % 2 = 0 ∧ twN k p = twN k o + 1 := by
  have hev : twN k o % 2 = 0 := by
    rcases Nat.mod_two_eq_zero_or_one (twN k o) with h | h
    · exact h
    · obtain ⟨q, h1, h2, h3⟩ := tw_ex (k := k) o (twN k o - 1) (by omega)
      exact (hno q ⟨ho, by omega, hk, h2, Or.inr ⟨by omega, by omega⟩⟩).elim
  refine ⟨hev, ?_⟩
  have h1 := twN_lt ho hk
  by_cases he : twN k p = twN k o + 1
  · exact he
  · obtain ⟨q, h2, h3, h4⟩ := tw_ex (k := k) p (twN k o + 1) (by omega)
    exact (hno q ⟨ho, h2, hk, h3, Or.inl ⟨hev, h4⟩⟩).elim
theorem tw_add2 {k : Nat → Int32} {p o : Nat} {r : Nat → Int32} (ho : o < p) (hk : k o = 2) (hno : ∀ q, ¬ twP k p o q) (h : ∀ q, q < p → q ≠ o → twO k p q (r q)) (hr : r p = nI o) (hro : r o = nI p) : ∀ q, q < p + 1 → twO (upd k p 2) (p + 1) q (r q) := by
  intro q hq
  obtain ⟨hev, hs⟩ := tw_wait ho hk hno
  have hop : twP (upd k p 2) (p + 1) o p := ⟨by omega, by omega, by rw [upd_n (by omega)]; exact hk, upd_s _ _ _, Or.inl (by rw [twN_upd o (by omega), twN_upd p (by omega)]; exact ⟨hev, hs⟩)⟩
  have hpo : twP (upd k p 2) (p + 1) p o := ⟨by omega, by omega, upd_s _ _ _, by rw [upd_n (by omega)]; exact hk, Or.inr (by rw [twN_upd o (by omega), twN_upd p (by omega)]; exact ⟨hev, hs⟩)⟩
  by_cases he : q = p
  · subst he
    exact Or.inl ⟨o, hpo, hr⟩
  · by_cases he2 : q = o
    · subst he2
      exact Or.inl ⟨p, hop, hro⟩
    · rcases h q (by omega) he2 with ⟨q', h1, h2⟩ | ⟨h1, h2⟩
      · exact Or.inl ⟨q', (twP_upd (by omega) h1.2.1).mpr h1, h2⟩
      · refine Or.inr ⟨h1, fun q' z => ?_⟩
        by_cases e : q' = p
        · subst e
          obtain ⟨a1, a2, a3, a4, a5⟩ := z
          rw [twN_upd q (by omega), twN_upd q' (by omega)] at a5
          rw [upd_n he] at a3
          exact he2 (twN_inj a3 hk (by omega))
        · have := z.2.1
          exact h2 q' ((twP_upd (by omega) (by omega)).mp z)
theorem RelW_place {nw nt : Nat} {c18 c19 c20 : Nat → Nat → Int32} {r8 r9 r10 r11 r11' r17 : Nat → Int32} {w p k : Nat} (h5 : nw ≤ 5) (hw : w < nw) (hp : r8 w = nI p) (h7 : p < 7) (hk : k < 5) (ho : ∀ i, (∀ q, q < p + 1 → i ≠ 7 * w + q) → r11' i = r11 i) (ht : ∀ q, q < p + 1 → twO (upd (c19 w) p (nI k)) (p + 1) q (r11' (7 * w + q))) (h : RelW nw nt c18 c19 c20 r8 r9 r10 r11 r17) : RelW nw nt (u2 c18 w 3 (nI (p + 1))) (u2 c19 w p (nI k)) c20 (upd r8 w (nI (p + 1))) (upd r9 (7 * w + p) (nI k)) (upd r10 (7 * w + p) (-1)) r11' r17 := by
  refine ⟨fun w' hw' => ?_, fun w' h1 h2 => by rw [upd_n (by omega)]; exact h.2 w' h1 h2⟩
  obtain ⟨p', a1, a2, a3, a4, a5, a6⟩ := h.1 w' hw'
  by_cases he : w' = w
  · subst he
    have hpp : p' = p := (nI_eq (by omega) (by omega)).mp (a4.symm.trans hp)
    subst hpp
    refine ⟨p' + 1, by omega, by rw [u2_n (by omega)]; exact a2, u2_s _ _ _ _, upd_s _ _ _, fun q hq => ?_, fun q h1 h2 => a6 q (by omega) h2⟩
    rw [u2_a]
    refine ⟨?_, ?_, ?_, ?_, ht q hq⟩
    · by_cases e : q = p'
      · subst e
        rw [upd_s, upd_s]
      · rw [upd_n e, upd_n (by omega)]
        exact (a5 q (by omega)).1
    · by_cases e : q = p'
      · subst e
        rw [upd_s]
        exact ⟨k, by omega, rfl⟩
      · rw [upd_n e]
        exact (a5 q (by omega)).2.1
    · by_cases e : q = p'
      · subst e
        rw [upd_s]
        exact a6 q (Nat.le_refl _) h7
      · rw [upd_n (by omega)]
        exact (a5 q (by omega)).2.2.1
    · by_cases e : q = p'
      · subst e
        exact Or.inl (a6 q (Nat.le_refl _) h7)
      · exact (a5 q (by omega)).2.2.2.1
  · refine ⟨p', a1, by rw [u2_r he]; exact a2, by rw [u2_r he]; exact a3, by rw [upd_n he]; exact a4, fun q hq => ?_, a6⟩
    rw [u2_r he, upd_n (by omega), upd_n (by omega), ho _ (fun q' _ => by omega)]
    exact a5 q hq
theorem Rel_place {nw nt : Nat} {B G : sB} {L : sL} {w p k : Nat} (hR : Rel nw nt B L) (hw : w < nw) (hp : B 38 0 w = nI p) (h7 : p < 7) (hk : k < 5) (hG : ∀ k', k' ≠ 18 → k' ≠ 19 → k' ≠ 39 → k' ≠ 40 → k' ≠ 41 → G k' = B k') (g18 : G 18 = u2 (B 18) w 3 (nI (p + 1))) (g19 : G 19 = u2 (B 19) w p (nI k)) (g39 : G 39 0 = upd (B 39 0) (7 * w + p) (nI k)) (g40 : G 40 0 = upd (B 40 0) (7 * w + p) (-1)) (ho : ∀ i, (∀ q, q < p + 1 → i ≠ 7 * w + q) → G 41 0 i = B 41 0 i) (ht : ∀ q, q < p + 1 → twO (upd (B 19 w) p (nI k)) (p + 1) q (G 41 0 (7 * w + q))) : Rel nw nt (uB G 38 0 w (nI (p + 1))) L := by
  have h5 := hR.1.2.2.1
  have hRW := RelW_place h5 hw hp h7 hk ho ht hR.2.2.1
  unfold Rel at hR ⊢
  simp only [uB_2, u2_a, uB_k, ne_eq, Nat.reduceEqDiff, not_false_eq_true, hG, g18, g19, g39, g40]
  exact ⟨hR.1, hR.2.1, hRW, hR.2.2.2⟩
theorem s_place {ad : sA} {nw nt : Nat} {B : sB} {L : sL} (hR : Rel nw nt B L) (y x : Int32) : Stq yX5_place cX5_place 4 5 yX6_place cX6_place 6 5 (some .int) [.int y, .int x] ad nw nt B L := by
  obtain ⟨s1, s2, s3, s4, s5, s6, s7, s8, s9, s10⟩ := hR.1
  rcases in_out y (n := nw) (by omega) with ⟨w, hw, rfl⟩ | how
  · rcases in_out x (n := 5) (by omega) with ⟨k, hk, rfl⟩ | hok
    · obtain ⟨p, h7, w1, w2, w3, w4, w5⟩ := hR.2.2.1.1 w hw
      by_cases hf : p = 7
      · subst hf
        exact ⟨_, _, _, _, _, c_place_2 s2 s3 hw hk w2, r_place_2 (by exact s1) s3 hw hk (by exact w3), Rel_refuse hR⟩
      · have hp7 : p < 7 := by omega
        have hgk : ∀ q, q < p → twO (B 19 w) p q (B 41 0 (7 * w + q)) := fun q hq => (w4 q hq).2.2.2.2
        have e41 : ∀ q, q < p → upd (B 41 0) (7 * w + p) (-1) (7 * w + q) = B 41 0 (7 * w + q) := fun q hq => upd_n (by omega)
        by_cases hk2 : k = 2
        · subst hk2
          by_cases hex : ∃ o, o < p ∧ B 19 w o = 2 ∧ B 41 0 (7 * w + o) < 0
          · obtain ⟨o, ho, hko, hno⟩ := hex
            have hno' := (twO_neg h7 (hgk o ho)).mp hno
            have hwt := tw_wait ho hko hno'
            refine ⟨_, _, _, _, _, c_place_3 s2 s3 hw hk w2 hp7, r_place_t (G := uB (uB (rP0 (uB (uB B 19 w p (nI 2)) 18 w 3 (nI (p + 1))) w p 2) 41 0 (7 * w + p) (nI o)) 41 0 (7 * w + o) (nI p)) (by exact s1) s3 hw (by exact w3) hp7 (fun o' a b c _ => ?_) (fun z => ?_), Rel_place (k := 2) hR hw w3 hp7 hk ?_ ?_ ?_ ?_ ?_ ?_ ?_⟩
            · have : o' = o := by
                have b' : B 19 w o' = 2 := (w4 o' a).1.trans b
                have := tw_wait a b' ((twO_neg h7 (hgk o' a)).mp c)
                exact twN_inj b' hko (by omega)
              subst this
              rfl
            · exact (z o ho ⟨(w4 o ho).1.symm.trans hko, hno⟩).elim
            · intro k' a b c d e
              simp only [rP0]
              rw [uB_k e, uB_k e, uB_k e, uB_k d, uB_k c, uB_k a, uB_k b]
            · simp only [rP0, uB_2, uB_k, ne_eq, Nat.reduceEqDiff, not_false_eq_true]
            · simp only [rP0, uB_2, uB_k, ne_eq, Nat.reduceEqDiff, not_false_eq_true]
            · simp only [rP0, uB_2, u2_a, uB_k, ne_eq, Nat.reduceEqDiff, not_false_eq_true]
            · simp only [rP0, uB_2, u2_a, uB_k, ne_eq, Nat.reduceEqDiff, not_false_eq_true]
            · intro i hi
              simp only [rP0, uB_2, u2_a, uB_k, ne_eq, Nat.reduceEqDiff, not_false_eq_true]
              rw [upd_n (hi o (by omega)), upd_n (hi p (by omega)), upd_n (hi p (by omega))]
            · simp only [rP0, uB_2, u2_a, uB_k, ne_eq, Nat.reduceEqDiff, not_false_eq_true]
              refine tw_add2 (r := fun q => upd (upd (upd (B 41 0) (7 * w + p) (-1)) (7 * w + p) (nI o)) (7 * w + o) (nI p) (7 * w + q)) ho hko hno' (fun q a b => ?_) ?_ ?_
              · show twO _ _ _ (upd (upd (upd (B 41 0) (7 * w + p) (-1)) (7 * w + p) (nI o)) (7 * w + o) (nI p) (7 * w + q))
                rw [upd_n (by omega), upd_n (by omega), upd_n (by omega)]
                exact hgk q a
              · show upd (upd (upd (B 41 0) (7 * w + p) (-1)) (7 * w + p) (nI o)) (7 * w + o) (nI p) (7 * w + p) = _
                rw [upd_n (by omega), upd_s]
              · exact upd_s _ _ _
          · have hnx : ∀ o, o < p → B 19 w o = 2 → ∃ q, twP (B 19 w) p o q := fun o a b => Classical.byContradiction (fun z => hex ⟨o, a, b, (twO_neg h7 (hgk o a)).mpr (fun q zz => z ⟨q, zz⟩)⟩)
            refine ⟨_, _, _, _, _, c_place_3 s2 s3 hw hk w2 hp7, r_place_t (G := rP0 (uB (uB B 19 w p (nI 2)) 18 w 3 (nI (p + 1))) w p 2) (by exact s1) s3 hw (by exact w3) hp7 (fun o' a b c _ => ?_) (fun z => rfl), Rel_place (k := 2) hR hw w3 hp7 hk ?_ ?_ ?_ ?_ ?_ ?_ ?_⟩
            · exact (hex ⟨o', a, (w4 o' a).1.trans b, c⟩).elim
            · intro k' a b c d e
              simp only [rP0]
              rw [uB_k e, uB_k d, uB_k c, uB_k a, uB_k b]
            · simp only [rP0, uB_2, uB_k, ne_eq, Nat.reduceEqDiff, not_false_eq_true]
            · simp only [rP0, uB_2, uB_k, ne_eq, Nat.reduceEqDiff, not_false_eq_true]
            · simp only [rP0, uB_2, u2_a, uB_k, ne_eq, Nat.reduceEqDiff, not_false_eq_true]
            · simp only [rP0, uB_2, u2_a, uB_k, ne_eq, Nat.reduceEqDiff, not_false_eq_true]
            · intro i hi
              simp only [rP0, uB_2, u2_a, uB_k, ne_eq, Nat.reduceEqDiff, not_false_eq_true]
              rw [upd_n (hi p (by omega))]
            · simp only [rP0, uB_2, u2_a, uB_k, ne_eq, Nat.reduceEqDiff, not_false_eq_true]
              exact tw_add1 (r := fun q => upd (B 41 0) (7 * w + p) (-1) (7 * w + q)) (fun q a => (e41 q a).symm ▸ hgk q a) (upd_s _ _ _) hnx
        · have hn2 : ¬ nI k = 2 := fun z => hk2 ((nI_eq (a := k) (b := 2) (by omega) (by decide)).mp z)
          refine ⟨_, _, _, _, _, c_place_3 s2 s3 hw hk w2 hp7, (if h0 : p = 0 then r_place_n0 (by exact s1) s3 hw hk (by exact w3) hp7 h0 else r_place_n1 (by exact s1) s3 hw hk (by exact w3) hp7 (by omega) hk2), Rel_place (k := k) hR hw w3 hp7 hk ?_ ?_ ?_ ?_ ?_ ?_ ?_⟩
          · intro k' a b c d e
            simp only [rP0]
            rw [uB_k e, uB_k d, uB_k c, uB_k a, uB_k b]
          · simp only [rP0, uB_2, uB_k, ne_eq, Nat.reduceEqDiff, not_false_eq_true]
          · simp only [rP0, uB_2, uB_k, ne_eq, Nat.reduceEqDiff, not_false_eq_true]
          · simp only [rP0, uB_2, u2_a, uB_k, ne_eq, Nat.reduceEqDiff, not_false_eq_true]
          · simp only [rP0, uB_2, u2_a, uB_k, ne_eq, Nat.reduceEqDiff, not_false_eq_true]
          · intro i hi
            simp only [rP0, uB_2, u2_a, uB_k, ne_eq, Nat.reduceEqDiff, not_false_eq_true]
            rw [upd_n (hi p (by omega))]
          · simp only [rP0, uB_2, u2_a, uB_k, ne_eq, Nat.reduceEqDiff, not_false_eq_true]
            exact tw_add0 (r := fun q => upd (B 41 0) (7 * w + p) (-1) (7 * w + q)) hn2 (fun q a => (e41 q a).symm ▸ hgk q a) (upd_s _ _ _)
    · exact ⟨_, _, _, _, _, c_place_1b s2 s3 hw hok, r_place_1b (by exact s1) s3 hw hok, Rel_refuse hR⟩
  · exact ⟨_, _, _, _, _, c_place_1a s2 s3 how, r_place_1a (by exact s1) s3 how, Rel_refuse hR⟩
