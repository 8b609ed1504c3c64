/-! ===== a tyre more, in both ===== -/
theorem BT_k {B : sB} {nt : Nat} {mk dy : Int32} {k : Nat} (h1 : k ≠ 21) (h2 : k ≠ 22) (h3 : k ≠ 23) : BT B nt mk dy k = B k := by
  funext j
  unfold BT
  split <;> first | rfl | exact absurd rfl h1 | exact absurd rfl h2 | exact absurd rfl h3
def BTF (B : sB) (nt m k : Nat) : sB := (cLog (uB (uB (cSt (BT B nt (nI m) (B 0 0 11)) nt) 0 0 9 (nI (nt + 1))) 21 nt 10 (-1)) k ((uB (cSt (BT B nt (nI m) (B 0 0 11)) nt) 0 0 9 (nI (nt + 1))) 0 0 11) ((uB (cSt (BT B nt (nI m) (B 0 0 11)) nt) 0 0 9 (nI (nt + 1))) 21 nt 0) (-1))
def RTF (C : sB) (nt m k : Nat) : sB := (rLog (uB (uB (uB (uB (uB (uB (uB (uB C 25 0 5 (nI (nt + 1))) 42 0 nt (nI m)) 43 0 nt (C 25 0 3)) 47 0 nt (-1)) 46 0 nt 0) 49 0 nt 1) 50 0 (13 * nt) 0) 51 0 (13 * nt) 180) k nt)
def LTF (B : sB) (L : sL) (nt m : Nat) : sL := (wS (Lty L nt) nt (wUD (fun _ => 0) (fun _ => 180) 1 (B 4 0 m)))
theorem BTF_k {B : sB} {nt m k q : Nat} (h0 : q ≠ 0) (h6 : q ≠ 6) (h7 : q ≠ 7) (h8 : q ≠ 8) (h9 : q ≠ 9) (h1 : q ≠ 21) (h2 : q ≠ 22) (h3 : q ≠ 23) : BTF B nt m k q = B q := by
  unfold BTF cLog
  rw [uB_k h6, uB_k h9, uB_k h8, uB_k h7, uB_k h1, uB_k h0, cSt_k h1 h2 h3, BT_k h1 h2 h3]
theorem BTF_0 {B : sB} {nt m k : Nat} : BTF B nt m k 0 0 = upd (B 0 0) 9 (nI (nt + 1)) := by
  unfold BTF cLog
  rw [uB_k (by decide), uB_k (by decide), uB_k (by decide), uB_k (by decide), uB_k (by decide), uB_a, cSt_k (by decide) (by decide) (by decide), BT_k (by decide) (by decide) (by decide)]
theorem BTF_n {B : sB} {nt m : Nat} : cSt (BT B nt (nI m) (B 0 0 11)) nt 21 nt 0 = nI nt := by
  unfold cSt cAdd
  rw [uB_n (by omega), uB_k (by decide), uB_k (by decide), uB_n (by omega), uB_n (by omega)]
  show (if nt = nt then tyN (nI nt) (nI m) (B 0 0 11) else B 21 nt) 0 = nI nt
  rw [if_pos rfl]
  rfl
theorem BTF_6 {B : sB} {nt m k : Nat} : BTF B nt m k 6 0 = upd (B 6 0) 3 (nI (k + 1)) := by
  unfold BTF cLog
  rw [uB_a, uB_k (by decide), uB_k (by decide), uB_k (by decide), uB_k (by decide), uB_k (by decide), cSt_k (by decide) (by decide) (by decide), BT_k (by decide) (by decide) (by decide)]
theorem BTF_7 {B : sB} {nt m k : Nat} : BTF B nt m k 7 0 = upd (B 7 0) k (B 0 0 11) := by
  unfold BTF cLog
  rw [uB_k (by decide), uB_k (by decide), uB_k (by decide), uB_a, uB_k (by decide), uB_k (by decide), cSt_k (by decide) (by decide) (by decide), BT_k (by decide) (by decide) (by decide), uB_n (by omega), cSt_k (by decide) (by decide) (by decide), BT_k (by decide) (by decide) (by decide)]
theorem BTF_8 {B : sB} {nt m k : Nat} : BTF B nt m k 8 0 = upd (B 8 0) k (nI nt) := by
  unfold BTF cLog
  rw [uB_k (by decide), uB_k (by decide), uB_a, uB_k (by decide), uB_k (by decide), uB_k (by decide), cSt_k (by decide) (by decide) (by decide), BT_k (by decide) (by decide) (by decide), uB_k (by decide), BTF_n]
theorem BTF_9 {B : sB} {nt m k : Nat} : BTF B nt m k 9 0 = upd (B 9 0) k (-1) := by
  unfold BTF cLog
  rw [uB_k (by decide), uB_a, uB_k (by decide), uB_k (by decide), uB_k (by decide), uB_k (by decide), cSt_k (by decide) (by decide) (by decide), BT_k (by decide) (by decide) (by decide)]
theorem BTF_21o {B : sB} {nt m k t : Nat} (h : t ≠ nt) : BTF B nt m k 21 t = B 21 t ∧ BTF B nt m k 22 t = B 22 t ∧ BTF B nt m k 23 t = B 23 t := by
  refine ⟨?_, ?_, ?_⟩
  · unfold BTF cLog cSt cAdd
    rw [uB_k (by decide), uB_k (by decide), uB_k (by decide), uB_k (by decide), uB_2, u2_r h, uB_k (by decide), uB_2, u2_r h, uB_k (by decide), uB_k (by decide), uB_2, u2_r h, uB_2, u2_r h]
    exact if_neg h
  · unfold BTF cLog cSt cAdd
    rw [uB_k (by decide), uB_k (by decide), uB_k (by decide), uB_k (by decide), uB_k (by decide), uB_k (by decide), uB_k (by decide), uB_k (by decide), uB_2, u2_r h, uB_k (by decide), uB_k (by decide)]
    exact if_neg h
  · unfold BTF cLog cSt cAdd
    rw [uB_k (by decide), uB_k (by decide), uB_k (by decide), uB_k (by decide), uB_k (by decide), uB_k (by decide), uB_k (by decide), uB_2, u2_r h, uB_k (by decide), uB_k (by decide), uB_k (by decide)]
    exact if_neg h
theorem BTF_21 {B : sB} {nt m k : Nat} : BTF B nt m k 21 nt = upd (upd (upd (upd (tyN (nI nt) (nI m) (B 0 0 11)) 9 0) 6 0) 6 (nI 1)) 10 (-1) := by
  unfold BTF cLog cSt cAdd
  rw [uB_k (by decide), uB_k (by decide), uB_k (by decide), uB_k (by decide), uB_a, uB_k (by decide), uB_a, uB_k (by decide), uB_k (by decide), uB_a, uB_a]
  show upd (upd (upd (upd (if nt = nt then tyN (nI nt) (nI m) (B 0 0 11) else B 21 nt) 9 0) 6 0) 6 (nI (0 + 1))) 10 (-1) = _
  rw [if_pos rfl]
theorem BTF_22 {B : sB} {nt m k : Nat} : BTF B nt m k 22 nt 0 = 0 := by
  unfold BTF cLog cSt cAdd
  rw [uB_k (by decide), uB_k (by decide), uB_k (by decide), uB_k (by decide), uB_k (by decide), uB_k (by decide), uB_k (by decide), uB_k (by decide), uB_s, uB_n (by omega), uB_s]
theorem BTF_23 {B : sB} {nt m k : Nat} : BTF B nt m k 23 nt 0 = 180 := by
  unfold BTF cLog cSt cAdd
  rw [uB_k (by decide), uB_k (by decide), uB_k (by decide), uB_k (by decide), uB_k (by decide), uB_k (by decide), uB_k (by decide), uB_s]
theorem LTF_o {B : sB} {L : sL} {nt m t : Nat} (h : t ≠ nt) : LTF B L nt m 24 t = L 24 t := by
  unfold LTF
  rw [wS_o h]
  exact if_neg h
theorem Rel_T {nw nt m k : Nat} {B : sB} {L : sL} (hR : Rel nw nt B L) (hm : m < 4) (h40 : nt < 40) (hk : B 6 0 3 = nI k) (hf6 : k + 1 ≤ 600) : Rel nw (nt + 1) (RTF (BTF B nt m k) nt m k) (LTF B L nt m) := by
  obtain ⟨⟨s1, s2, s3, s4, s5, s6, s7, s8, s9, s10⟩, hP, hW, hT, hG, hL⟩ := hR
  generalize hC : BTF B nt m k = C
  have ck : ∀ q, q ≠ 0 → q ≠ 6 → q ≠ 7 → q ≠ 8 → q ≠ 9 → q ≠ 21 → q ≠ 22 → q ≠ 23 → C q = B q := fun q a b c d e f g h => by rw [← hC]; exact BTF_k a b c d e f g h
  have c0 : C 0 0 = upd (B 0 0) 9 (nI (nt + 1)) := by rw [← hC]; exact BTF_0
  have c6 : C 6 0 = upd (B 6 0) 3 (nI (k + 1)) := by rw [← hC]; exact BTF_6
  have c7 : C 7 0 = upd (B 7 0) k (B 0 0 11) := by rw [← hC]; exact BTF_7
  have c8 : C 8 0 = upd (B 8 0) k (nI nt) := by rw [← hC]; exact BTF_8
  have c9 : C 9 0 = upd (B 9 0) k (-1) := by rw [← hC]; exact BTF_9
  have c21 : C 21 nt = upd (upd (upd (upd (tyN (nI nt) (nI m) (B 0 0 11)) 9 0) 6 0) 6 (nI 1)) 10 (-1) := by rw [← hC]; exact BTF_21
  have c22 : C 22 nt 0 = 0 := by rw [← hC]; exact BTF_22
  have c23 : C 23 nt 0 = 180 := by rw [← hC]; exact BTF_23
  have co : ∀ t, t ≠ nt → C 21 t = B 21 t ∧ C 22 t = B 22 t ∧ C 23 t = B 23 t := fun t h => by rw [← hC]; exact BTF_21o h
  clear hC
  unfold Rel RTF
  simp only [rLog, uB_2, u2_a, uB_k, ne_eq, Nat.reduceEqDiff, not_false_eq_true, upd_s, upd_n (show (3 : Nat) ≠ 7 by decide), upd_n (show (3 : Nat) ≠ 5 by decide), ck 25 (by decide) (by decide) (by decide) (by decide) (by decide) (by decide) (by decide) (by decide), ck 3 (by decide) (by decide) (by decide) (by decide) (by decide) (by decide) (by decide) (by decide), ck 4 (by decide) (by decide) (by decide) (by decide) (by decide) (by decide) (by decide) (by decide), ck 5 (by decide) (by decide) (by decide) (by decide) (by decide) (by decide) (by decide) (by decide), ck 18 (by decide) (by decide) (by decide) (by decide) (by decide) (by decide) (by decide) (by decide), ck 19 (by decide) (by decide) (by decide) (by decide) (by decide) (by decide) (by decide) (by decide), ck 20 (by decide) (by decide) (by decide) (by decide) (by decide) (by decide) (by decide) (by decide), ck 30 (by decide) (by decide) (by decide) (by decide) (by decide) (by decide) (by decide) (by decide), ck 31 (by decide) (by decide) (by decide) (by decide) (by decide) (by decide) (by decide) (by decide), ck 32 (by decide) (by decide) (by decide) (by decide) (by decide) (by decide) (by decide) (by decide), ck 38 (by decide) (by decide) (by decide) (by decide) (by decide) (by decide) (by decide) (by decide), ck 39 (by decide) (by decide) (by decide) (by decide) (by decide) (by decide) (by decide) (by decide), ck 40 (by decide) (by decide) (by decide) (by decide) (by decide) (by decide) (by decide) (by decide), ck 41 (by decide) (by decide) (by decide) (by decide) (by decide) (by decide) (by decide) (by decide), ck 42 (by decide) (by decide) (by decide) (by decide) (by decide) (by decide) (by decide) (by decide), ck 43 (by decide) (by decide) (by decide) (by decide) (by decide) (by decide) (by decide) (by decide), ck 44 (by decide) (by decide) (by decide) (by decide) (by decide) (by decide) (by decide) (by decide), ck 45 (by decide) (by decide) (by decide) (by decide) (by decide) (by decide) (by decide) (by decide), ck 46 (by decide) (by decide) (by decide) (by decide) (by decide) (by decide) (by decide) (by decide), ck 47 (by decide) (by decide) (by decide) (by decide) (by decide) (by decide) (by decide) (by decide), ck 48 (by decide) (by decide) (by decide) (by decide) (by decide) (by decide) (by decide) (by decide), ck 49 (by decide) (by decide) (by decide) (by decide) (by decide) (by decide) (by decide) (by decide), ck 50 (by decide) (by decide) (by decide) (by decide) (by decide) (by decide) (by decide) (by decide), ck 51 (by decide) (by decide) (by decide) (by decide) (by decide) (by decide) (by decide) (by decide), ck 52 (by decide) (by decide) (by decide) (by decide) (by decide) (by decide) (by decide) (by decide), ck 53 (by decide) (by decide) (by decide) (by decide) (by decide) (by decide) (by decide) (by decide), ck 54 (by decide) (by decide) (by decide) (by decide) (by decide) (by decide) (by decide) (by decide), c0, c6, c7, c8, c9]
  refine ⟨⟨?_, ?_, s3, ?_, upd_s _ _ _, by omega, ?_, s8, ?_, ?_⟩, hP, ?_, ⟨fun t ht => ?_, fun t h1 h2 => hT.2 t (by omega) h2⟩, ?_, fun t ht => ?_⟩
  · rw [upd_n (by decide), upd_n (by decide)]; exact s1
  · rw [upd_n (by decide)]; exact s2
  · rw [upd_n (by decide), upd_s]
  · rw [upd_n (by decide), upd_n (by decide), upd_n (by decide)]; exact s7
  · rw [upd_n (by decide), upd_n (by decide), upd_n (by decide)]; exact s9
  · rw [upd_n (by decide), upd_n (by decide)]; exact s10
  · refine ⟨fun w hw => ?_, hW.2⟩
    obtain ⟨p, a1, a2, a3, a4, a5, a6⟩ := hW.1 w hw
    refine ⟨p, a1, a2, a3, a4, fun q hq => ?_, a6⟩
    obtain ⟨b1, b2, b3, b4, b5⟩ := a5 q hq
    refine ⟨b1, b2, b3, ?_, b5⟩
    rcases b4 with b4 | ⟨t, d1, d2, d3⟩
    · exact Or.inl b4
    · exact Or.inr ⟨t, by omega, d2, by rw [upd_n (by omega)]; exact d3⟩
  · by_cases he : t = nt
    · subst he
      have h7 := hT.2 t (Nat.le_refl _) h40
      unfold RelT1
      rw [c21]
      refine ⟨rfl, by rw [upd_s]; rfl, ⟨m, hm, upd_s _ _ _⟩, ?_, ?_, trivial, ?_, ?_, ?_, ?_, ?_, Or.inl (upd_s _ _ _), ?_, fun _ => rfl, 0, by omega, upd_s _ _ _, rfl, fun i hi => ?_⟩
      · rw [upd_s]; exact s7
      · rw [h7.1]; rfl
      · rw [h7.2]; rfl
      · rw [h7.2]; exact ⟨0, by omega, rfl⟩
      · rw [upd_s]; rfl
      · rw [upd_s]; exact ⟨0, by omega, rfl⟩
      · rw [upd_s, upd_s]
      · rw [upd_s]; exact fun z => absurd z (by decide)
      · have hi0 : i = 0 := by omega
        subst hi0
        rw [c22, c23, Nat.add_zero, upd_s, upd_s, upd_s]
        exact ⟨rfl, ⟨0, 0, rfl, rfl, by omega, by omega⟩, rfl, 180, by omega, rfl⟩
    · obtain ⟨x1, x2, x3⟩ := co t he
      have h1 := hT.1 t (by omega)
      unfold RelT1 at h1 ⊢
      rw [x1, x2, x3, upd_n he, upd_n he, upd_n he, upd_n he, upd_n he]
      obtain ⟨a1, a2, a3, a4, a5, a6, a7, a8, a9, a10, a11, a12, a13, a14, r, y1, y2, y3, y4⟩ := h1
      refine ⟨a1, a2, a3, a4, a5, a6, a7, a8, a9, a10, a11, a12, a13, a14, r, y1, y2, y3, fun i hi => ?_⟩
      rw [upd_n (by omega), upd_n (by omega)]
      exact y4 i hi
  · have hd : B 0 0 11 = B 25 0 3 := s7
    rw [hd]
    have hG2 := RelG_log (a := nI nt) (b := B 25 0 3) (c := -1) hk (by omega) hG
    unfold RelG at hG2 ⊢
    obtain ⟨k', g0, g1, g2, g3⟩ := hG2
    refine ⟨k', g0, g1, ?_, g3⟩
    rw [upd_s] at g2 ⊢
    exact g2
  · by_cases he : t = nt
    · subst he
      intro r m' e1 hr e2 hm'
      rw [upd_s] at e1 e2
      have hr0 : r = 0 := by
        have := (nI_eq (a := 1) (b := r + 1) (by omega) (by omega)).mp e1
        omega
      have hmm : m = m' := (nI_eq (by omega) (by omega)).mp e2
      subst hr0
      subst hmm
      have hmean : B 4 0 m = B 32 0 m := (hP.2.1 m hm).1
      have hw : wUD (C 22 t) (C 23 t) 1 (B 32 0 m) = wUD (fun _ => 0) (fun _ => 180) 1 (B 4 0 m) := by
        rw [hmean]
        refine wUD_congr (fun i hi => ?_) (fun i hi => ?_)
        · rw [show i = 0 by omega]; exact c22
        · rw [show i = 0 by omega]; exact c23
      rw [hw]
      unfold LTF
      exact ⟨wS_u _ _ _, wS_d _ _ _⟩
    · obtain ⟨x1, x2, x3⟩ := co t he
      have h1 := hL t (by omega)
      unfold RelL1 at h1 ⊢
      rw [x2, x3, LTF_o he, upd_n he, upd_n he]
      exact h1
