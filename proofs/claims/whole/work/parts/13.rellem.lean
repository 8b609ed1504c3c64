/-! ===== what single changes do to the relation ===== -/
theorem RelS_log {nw nt : Nat} {c r : Nat → Int32} {x : Int32} (h : RelS nw nt c r) : RelS nw nt c (upd r 7 x) := by
  unfold RelS at h ⊢
  simp only [upd_n (show (3 : Nat) ≠ 7 by decide), upd_n (show (4 : Nat) ≠ 7 by decide), upd_n (show (5 : Nat) ≠ 7 by decide), upd_n (show (6 : Nat) ≠ 7 by decide)]
  exact h
theorem wl_upd {n d w : Nat → Int32} {a b c : Int32} : ∀ (k m : Nat) (t dy : Int32), k ≤ m → wl (upd n m a) (upd d m b) (upd w m c) k t dy = wl n d w k t dy
  | 0, _, _, _, _ => rfl
  | k + 1, m, t, dy, h => by
    have hn : k ≠ m := by omega
    simp only [wl, upd_n hn]
    rw [wl_upd k m t dy (by omega)]
theorem wl_add {n d w : Nat → Int32} {a b c : Int32} (k : Nat) (t dy : Int32) : wl (upd n k a) (upd d k b) (upd w k c) (k + 1) t dy = if a = t ∧ b ≤ dy then c else wl n d w k t dy := by
  simp only [wl, upd_s]
  rw [wl_upd k k t dy (Nat.le_refl _)]
theorem RelG_log {c6 c7 c8 c9 r r22 r23 r24 : Nat → Int32} {k : Nat} {a b c : Int32} (hk : c6 3 = nI k) (h6 : k < 600) (h : RelG c6 c7 c8 c9 r r22 r23 r24) : RelG (upd c6 3 (nI (k + 1))) (upd c7 k b) (upd c8 k a) (upd c9 k c) (upd r 7 (nI (k + 1))) (upd r22 k a) (upd r23 k b) (upd r24 k c) := by
  obtain ⟨k', h1, h2, h3, h4⟩ := h
  have hkk : k' = k := (nI_eq (by omega) (by omega)).mp (h2.symm.trans hk)
  subst hkk
  refine ⟨k' + 1, by omega, upd_s _ _ _, upd_s _ _ _, fun t dy => ?_⟩
  rw [wl_add, wl_add, h4]
/-- the number of a tyre's place tells the place -/
theorem pl_inj {w q w' q' : Nat} (h : nI (10 * w + q) = nI (10 * w' + q')) (h5 : w < 5) (h5' : w' < 5) (h7 : q < 7) (h7' : q' < 7) : w = w' ∧ q = q' := by
  have := (nI_eq (a := 10 * w + q) (b := 10 * w' + q') (by omega) (by omega)).mp h
  omega
theorem nI_m1 {k : Nat} (hk : k < 2 ^ 31) : ¬ nI k = -1 := fun h => nI_pos hk (by rw [h]; decide)
theorem nI_m2 {k : Nat} (hk : k < 2 ^ 31) : ¬ nI k = -2 := fun h => nI_pos hk (by rw [h]; decide)
/-- a tyre from the store is laid on an empty place -/
theorem RelW_lay {nw nt : Nat} {c18 c19 c20 : Nat → Nat → Int32} {r8 r9 r10 r11 r17 : Nat → Int32} {w q t p : Nat} (h5 : nw ≤ 5) (hw : w < nw) (hp : r8 w = nI p) (hq : q < p) (h7 : p ≤ 7) (ht : t < nt) (h40 : nt ≤ 40) (hst : r17 t = -1) (h : RelW nw nt c18 c19 c20 r8 r9 r10 r11 r17) : RelW nw nt c18 c19 (u2 c20 w q (nI t)) r8 r9 (upd r10 (7 * w + q) (nI t)) r11 (upd r17 t (nI (10 * w + q))) := by
  refine ⟨fun w' hw' => ?_, h.2⟩
  obtain ⟨p', a1, a2, a3, a4, a5, a6⟩ := h.1 w' hw'
  refine ⟨p', a1, a2, a3, a4, fun q' hq' => ?_, fun q' h1 h2 => ?_⟩
  · obtain ⟨b1, b2, b3, b4, b5⟩ := a5 q' hq'
    by_cases he : w' = w ∧ q' = q
    · obtain ⟨rfl, rfl⟩ := he
      refine ⟨b1, b2, by rw [u2_s, upd_s], Or.inr ⟨t, ht, u2_s _ _ _ _, upd_s _ _ _⟩, b5⟩
    · have hne : 7 * w' + q' ≠ 7 * w + q := by omega
      rw [u2_n he, upd_n hne]
      refine ⟨b1, b2, b3, ?_, b5⟩
      rcases b4 with b4 | ⟨t', c1, c2, c3⟩
      · exact Or.inl b4
      · refine Or.inr ⟨t', c1, c2, ?_⟩
        have htt : t' ≠ t := fun z => by
          subst z
          rw [hst] at c3
          exact nI_m1 (by omega) c3.symm
        rw [upd_n htt]
        exact c3
  · by_cases he : w' = w
    · subst he
      have : p' = p := (nI_eq (by omega) (by omega)).mp (a4.symm.trans hp)
      rw [u2_n (by omega)]
      exact a6 q' h1 h2
    · rw [u2_n (by omega)]
      exact a6 q' h1 h2
/-- a place becomes empty; its tyre is elsewhere -/
theorem RelW_clear {nw nt : Nat} {c18 c19 c20 : Nat → Nat → Int32} {r8 r9 r10 r11 r17 : Nat → Int32} {w q t p : Nat} {v : Int32} (h5 : nw ≤ 5) (hw : w < nw) (hp : r8 w = nI p) (hq : q < p) (h7 : p ≤ 7) (ht : t < nt) (h40 : nt ≤ 40) (hon : c20 w q = nI t) (h : RelW nw nt c18 c19 c20 r8 r9 r10 r11 r17) : RelW nw nt c18 c19 (u2 c20 w q (-1)) r8 r9 (upd r10 (7 * w + q) (-1)) r11 (upd r17 t v) := by
  have hwt : r17 t = nI (10 * w + q) := by
    obtain ⟨p', a1, a2, a3, a4, a5, a6⟩ := h.1 w hw
    have : p' = p := (nI_eq (by omega) (by omega)).mp (a4.symm.trans hp)
    subst this
    obtain ⟨b1, b2, b3, b4, b5⟩ := a5 q hq
    rcases b4 with b4 | ⟨t', c1, c2, c3⟩
    · rw [hon] at b4
      exact (nI_m1 (by omega) b4).elim
    · have : t' = t := (nI_eq (by omega) (by omega)).mp (c2.symm.trans hon)
      subst this
      exact c3
  refine ⟨fun w' hw' => ?_, h.2⟩
  obtain ⟨p', a1, a2, a3, a4, a5, a6⟩ := h.1 w' hw'
  refine ⟨p', a1, a2, a3, a4, fun q' hq' => ?_, fun q' h1 h2 => ?_⟩
  · obtain ⟨b1, b2, b3, b4, b5⟩ := a5 q' hq'
    by_cases he : w' = w ∧ q' = q
    · obtain ⟨rfl, rfl⟩ := he
      exact ⟨b1, b2, by rw [u2_s, upd_s], Or.inl (u2_s _ _ _ _), b5⟩
    · have hne : 7 * w' + q' ≠ 7 * w + q := by omega
      rw [u2_n he, upd_n hne]
      refine ⟨b1, b2, b3, ?_, b5⟩
      rcases b4 with b4 | ⟨t', c1, c2, c3⟩
      · exact Or.inl b4
      · refine Or.inr ⟨t', c1, c2, ?_⟩
        have htt : t' ≠ t := fun z => by
          subst z
          rw [hwt] at c3
          have := pl_inj c3 (by omega) (by omega) (by omega) (by omega)
          omega
        rw [upd_n htt]
        exact c3
  · by_cases he : w' = w ∧ q' = q
    · obtain ⟨rfl, rfl⟩ := he
      exact u2_s _ _ _ _
    · rw [u2_n he]
      exact a6 q' h1 h2
/-- another tyre's place is told anew: no place of a wagon holds it -/
theorem RelW_where {nw nt : Nat} {c18 c19 c20 : Nat → Nat → Int32} {r8 r9 r10 r11 r17 : Nat → Int32} {t : Nat} {v : Int32} (h5 : nw ≤ 5) (hst : ∀ w q, w < 5 → q < 7 → ¬ r17 t = nI (10 * w + q)) (h : RelW nw nt c18 c19 c20 r8 r9 r10 r11 r17) : RelW nw nt c18 c19 c20 r8 r9 r10 r11 (upd r17 t v) := by
  refine ⟨fun w' hw' => ?_, h.2⟩
  obtain ⟨p', a1, a2, a3, a4, a5, a6⟩ := h.1 w' hw'
  refine ⟨p', a1, a2, a3, a4, fun q' hq' => ?_, a6⟩
  obtain ⟨b1, b2, b3, b4, b5⟩ := a5 q' hq'
  refine ⟨b1, b2, b3, ?_, b5⟩
  rcases b4 with b4 | ⟨t', c1, c2, c3⟩
  · exact Or.inl b4
  · refine Or.inr ⟨t', c1, c2, ?_⟩
    have htt : t' ≠ t := fun z => by
      subst z
      exact hst w' q' (by omega) (by omega) c3
    rw [upd_n htt]
    exact c3
theorem no_place {x : Int32} (hx : x < 0) : ∀ w q, w < 5 → q < 7 → ¬ x = nI (10 * w + q) := fun w q _ _ hz => nI_pos (n := 10 * w + q) (by omega) (by rw [← hz]; exact hx)
/-- a tyre's place changes, and it wasn't at the treader's -/
theorem RelT_where {nt : Nat} {dy : Int32} {c21 c22 c23 : Nat → Nat → Int32} {r12 r13 r14 r15 r16 r17 r18 r19 r20 r21 : Nat → Int32} {t : Nat} {v : Int32} (hv : v = -1 ∨ v = -3 ∨ ∃ k, k ≤ 46 ∧ v = nI k) (ho : t < nt → ¬ r17 t = -2) (h : RelT nt dy c21 c22 c23 r12 r13 r14 r15 r16 r17 r18 r19 r20 r21) : RelT nt dy (u2 c21 t 10 v) c22 c23 r12 r13 r14 r15 r16 (upd r17 t v) r18 r19 r20 r21 := by
  have hv2 : ¬ v = -2 := by
    rcases hv with rfl | rfl | ⟨k, hk, rfl⟩
    · decide
    · decide
    · exact nI_m2 (by omega)
  refine ⟨fun t' ht' => ?_, h.2⟩
  have h1 := h.1 t' ht'
  unfold RelT1 at h1 ⊢
  by_cases he : t' = t
  · subst he
    rw [u2_a]
    simp only [upd_s, upd_n (show (0 : Nat) ≠ 10 by decide), upd_n (show (1 : Nat) ≠ 10 by decide), upd_n (show (2 : Nat) ≠ 10 by decide), upd_n (show (6 : Nat) ≠ 10 by decide), upd_n (show (7 : Nat) ≠ 10 by decide), upd_n (show (8 : Nat) ≠ 10 by decide), upd_n (show (9 : Nat) ≠ 10 by decide), upd_n (show (11 : Nat) ≠ 10 by decide)]
    obtain ⟨a1, a2, a3, a4, a5, a6, a7, a8, a9, a10, a11, a12, a13, a14, a15⟩ := h1
    refine ⟨a1, a2, a3, a4, a5, a6, a7, a8, a9, a10, trivial, ?_, fun z => (hv2 z).elim, fun _ => a14 (ho ht'), a15⟩
    rcases hv with rfl | rfl | ⟨k, hk, rfl⟩
    · exact Or.inl rfl
    · exact Or.inr (Or.inr (Or.inl rfl))
    · exact Or.inr (Or.inr (Or.inr ⟨k, hk, rfl⟩))
  · rw [u2_r he, upd_n he]
    exact h1
