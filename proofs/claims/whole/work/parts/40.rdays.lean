/-! ===== days: the reference, and both ===== -/
def rSt (B : sB) (t : Nat) : sB := uB (uB (uB (uB (uB B 44 0 t (B 44 0 t + 1)) 46 0 t 0) 49 0 t 1) 50 0 (13 * t) 0) 51 0 (13 * t) 180
def rMv (B : sB) (t : Nat) : sB := if B 25 0 7 = nI 600 then uB B 47 0 t (-1) else rLog (uB B 47 0 t (-1)) (B 25 0 7).toNatClampNeg t
theorem r_mv {ad : sA} {nw nt : Nat} {B : sB} {L : sL} {t k : Nat} (ht : t < 40) (hk : B 25 0 7 = nI k) (h6 : k ≤ 600) : Cf yX6_lays cX6_lays 3 none 1 [.ref (ad 25 0), .int (nI t), .int (-1)] ad nw nt B L none (rMv B t) L := by
  unfold rMv
  by_cases h : k = 600
  · subst h
    rw [if_pos hk]
    exact r_lays_full ht hk
  · rw [if_neg (fun z => h ((nI_eq (by omega) (by decide)).mp (hk.symm.trans z))), hk, nI_clamp (by omega)]
    exact r_lays ht hk (by omega)
def rBr (B : sB) (t : Nat) : sB := rMv (rSt B t) t
/-- the class's cells of one, the reference's of the other, and the day -/
def jd (C R : sB) (e : Nat) : sB := fun k => if k < 25 then (if k = 0 then u2 (C 0) 0 11 (nI e) else C k) else if k = 25 then u2 (R 25) 0 3 (nI e) else R k
theorem jd_c {C R : sB} {e k : Nat} (h : k < 25) (h0 : k ≠ 0) : jd C R e k = C k := by
  unfold jd
  rw [if_pos h, if_neg h0]
theorem jd_r {C R : sB} {e k : Nat} (h : 25 < k) : jd C R e k = R k := by
  unfold jd
  rw [if_neg (by omega), if_neg (by omega)]
theorem jd_0 {C R : sB} {e : Nat} : jd C R e 0 = u2 (C 0) 0 11 (nI e) := rfl
theorem jd_25 {C R : sB} {e : Nat} : jd C R e 25 = u2 (R 25) 0 3 (nI e) := rfl
theorem u2_0 {f : Nat → Nat → Int32} {i : Nat} {x : Int32} : u2 f 0 i x 0 = upd (f 0) i x := u2_a f 0 i x
theorem nb_wh {B : sB} {u : Int32} : ∀ i s, nb B u i = some s → B 21 s 10 = -2
  | 0, s, h => by simp [nb] at h
  | i + 1, s, h => by
    simp only [nb] at h
    cases hh : nb B u i with
    | none =>
      rw [hh] at h
      simp only at h
      split at h
      · rename_i hc
        cases h
        exact hc.1
      · cases h
    | some s' =>
      have := nb_wh i s' hh
      rw [hh] at h
      simp only at h
      split at h
      · rename_i hc
        cases h
        exact hc.1
      · cases h
        exact this
theorem nb_none {B : sB} {u : Int32} : ∀ i, (∀ t, t < i → ¬ (B 21 t 10 = -2 ∧ B 21 t 11 ≤ u)) → nb B u i = none
  | 0, _ => rfl
  | i + 1, h => by
    rw [nb_n (h i (by omega))]
    exact nb_none i (fun t ht => h t (by omega))
theorem nb_min {B : sB} {u : Int32} {t : Nat} (hw : B 21 t 10 = -2) (hu : B 21 t 11 ≤ u) : ∀ i, t < i → (∀ t', t' < i → B 21 t' 10 = -2 → ¬ B 21 t' 11 < B 21 t 11) → (∀ t', t' < t → B 21 t' 10 = -2 → B 21 t 11 < B 21 t' 11) → nb B u i = some t
  | 0, h, _, _ => by omega
  | i + 1, h, h1, h2 => by
    by_cases he : i = t
    · subst he
      cases hh : nb B u i with
      | none => exact nb_0 ⟨hw, hu⟩ hh
      | some s => exact nb_1 ⟨hw, hu⟩ hh (h2 s (nb_lt i s hh) (nb_wh i s hh))
    · have ih := nb_min hw hu i (by omega) (fun t' ht' => h1 t' (by omega)) h2
      by_cases hc : B 21 i 10 = -2 ∧ B 21 i 11 ≤ u
      · exact nb_2 ih (h1 i (by omega) hc.1)
      · rw [nb_n hc]
        exact ih
theorem cBr_k {B : sB} {t k : Nat} (h0 : k ≠ 0) (h6 : k ≠ 6) (h7 : k ≠ 7) (h8 : k ≠ 8) (h9 : k ≠ 9) (h21 : k ≠ 21) (h22 : k ≠ 22) (h23 : k ≠ 23) : cBr B t k = B k := by
  unfold cBr cBb
  rw [cMv_k h6 h7 h8 h9 h21, cSt_k h21 h22 h23, uB_k h21, uB_k h21, uB_k h0]
theorem cBr_0 (B : sB) (t : Nat) : cBr B t 0 = u2 (B 0) 0 11 (B 21 t 11) := by
  unfold cBr cBb
  rw [cMv_k (by decide) (by decide) (by decide) (by decide) (by decide), cSt_k (by decide) (by decide) (by decide), uB_k (by decide), uB_k (by decide), uB_2]
theorem cBr_x (B : sB) (t : Nat) : cBr B t 21 t 6 = nI 1 ∧ cBr B t 21 t 7 = B 21 t 7 + 1 ∧ cBr B t 21 t 9 = 0 ∧ cBr B t 21 t 10 = -1 ∧ cBr B t 21 t 11 = -9 := by
  unfold cBr cBb
  rw [cMv_21]
  refine ⟨?_, ?_, ?_, u2_s _ _ _ _, ?_⟩
  · rw [u2_n (by omega)]
    unfold cSt cAdd
    rw [uB_s]
  · rw [u2_n (by omega)]
    unfold cSt cAdd
    rw [uB_n (by omega), uB_n (by omega), uB_n (by omega), uB_n (by omega), uB_n (by omega), uB_n (by omega), uB_s, uB_k (by decide)]
  · rw [u2_n (by omega)]
    unfold cSt cAdd
    rw [uB_n (by omega), uB_n (by omega), uB_n (by omega), uB_n (by omega), uB_s]
  · rw [u2_n (by omega)]
    unfold cSt cAdd
    rw [uB_n (by omega), uB_n (by omega), uB_n (by omega), uB_n (by omega), uB_n (by omega), uB_s]
theorem cBr_21r {B : sB} {t t' : Nat} (h : t' ≠ t) : cBr B t 21 t' = B 21 t' := by
  funext i
  exact cBr_21 _ _ _ _ (by omega)
theorem cBr_22 (B : sB) (t : Nat) : cBr B t 22 = u2 (B 22) t 0 0 := by
  unfold cBr cBb
  rw [cMv_k (by decide) (by decide) (by decide) (by decide) (by decide)]
  unfold cSt cAdd
  rw [uB_k (by decide), uB_k (by decide), uB_2, uB_k (k := 21) (k' := 22) (by decide), uB_k (k := 21) (k' := 22) (by decide), uB_k (k := 21) (k' := 22) (by decide), uB_k (k := 21) (k' := 22) (by decide), uB_k (k := 0) (k' := 22) (by decide), uB_n (by omega), uB_s]
theorem cBr_23 (B : sB) (t : Nat) : cBr B t 23 = u2 (B 23) t 0 180 := by
  unfold cBr cBb
  rw [cMv_k (by decide) (by decide) (by decide) (by decide) (by decide)]
  unfold cSt cAdd
  rw [uB_k (by decide), uB_2, uB_k (k := 22) (k' := 23) (by decide), uB_k (k := 21) (k' := 23) (by decide), uB_k (k := 21) (k' := 23) (by decide), uB_k (k := 21) (k' := 23) (by decide), uB_k (k := 21) (k' := 23) (by decide), uB_k (k := 0) (k' := 23) (by decide)]
/-- the state when the class is about to move the tyre -/
def cBs (B : sB) (t : Nat) : sB := cSt (uB (uB (uB B 0 0 11 (B 21 t 11)) 21 t 7 (uB B 0 0 11 (B 21 t 11) 21 t 7 + 1)) 21 t 11 (-9)) t
theorem cBs_k {B : sB} {t k : Nat} (h0 : k ≠ 0) (h21 : k ≠ 21) (h22 : k ≠ 22) (h23 : k ≠ 23) : cBs B t k = B k := by
  unfold cBs
  rw [cSt_k h21 h22 h23, uB_k h21, uB_k h21, uB_k h0]
theorem cBr_full {B : sB} {t : Nat} (h : B 6 0 3 = nI 600) : cBr B t 6 = B 6 ∧ cBr B t 7 = B 7 ∧ cBr B t 8 = B 8 ∧ cBr B t 9 = B 9 := by
  have e : cBr B t = uB (cBs B t) 21 t 10 (-1) := by
    show cMv (cBs B t) t = _
    unfold cMv
    rw [if_pos (by rw [cBs_k (by decide) (by decide) (by decide) (by decide)]; exact h)]
  rw [e]
  refine ⟨?_, ?_, ?_, ?_⟩ <;> rw [uB_k (by decide), cBs_k (by decide) (by decide) (by decide) (by decide)]
theorem cBr_log {B : sB} {t k : Nat} (h : B 6 0 3 = nI k) (h6 : k < 600) : cBr B t 6 = u2 (B 6) 0 3 (nI (k + 1)) ∧ cBr B t 7 = u2 (B 7) 0 k (B 21 t 11) ∧ cBr B t 8 = u2 (B 8) 0 k (B 21 t 0) ∧ cBr B t 9 = u2 (B 9) 0 k (-1) := by
  have e6 : cBs B t 6 0 3 = nI k := by rw [cBs_k (by decide) (by decide) (by decide) (by decide)]; exact h
  have e0 : cBs B t 0 0 11 = B 21 t 11 := by
    unfold cBs
    rw [cSt_k (by decide) (by decide) (by decide), uB_k (by decide), uB_k (by decide), uB_s]
  have e21 : cBs B t 21 t 0 = B 21 t 0 := by
    unfold cBs cSt cAdd
    rw [uB_n (by omega), uB_n (by omega), uB_n (by omega), uB_n (by omega), uB_n (by omega), uB_n (by omega), uB_n (by omega), uB_n (by omega)]
  have e : cBr B t = cLog (uB (cBs B t) 21 t 10 (-1)) k (B 21 t 11) (B 21 t 0) (-1) := by
    show cMv (cBs B t) t = _
    unfold cMv
    rw [if_neg (by rw [e6]; exact fun z => by have := (nI_eq (a := k) (b := 600) (by omega) (by decide)).mp z; omega), e6, nI_clamp (by omega), e0, e21]
  rw [e]
  unfold cLog
  refine ⟨?_, ?_, ?_, ?_⟩
  · rw [uB_2, uB_k (by decide), uB_k (by decide), uB_k (by decide), uB_k (by decide), cBs_k (by decide) (by decide) (by decide) (by decide)]
  · rw [uB_k (by decide), uB_k (by decide), uB_k (by decide), uB_2, uB_k (by decide), cBs_k (by decide) (by decide) (by decide) (by decide)]
  · rw [uB_k (by decide), uB_k (by decide), uB_2, uB_k (by decide), uB_k (by decide), cBs_k (by decide) (by decide) (by decide) (by decide)]
  · rw [uB_k (by decide), uB_2, uB_k (by decide), uB_k (by decide), uB_k (by decide), cBs_k (by decide) (by decide) (by decide) (by decide)]
theorem rSt_k {B : sB} {t k : Nat} (h4 : k ≠ 44) (h6 : k ≠ 46) (h9 : k ≠ 49) (h5 : k ≠ 50) (h1 : k ≠ 51) : rSt B t k = B k := by
  unfold rSt
  rw [uB_k h1, uB_k h5, uB_k h9, uB_k h6, uB_k h4]
theorem rMv_k {B : sB} {t k : Nat} (h25 : k ≠ 25) (h47 : k ≠ 47) (h52 : k ≠ 52) (h53 : k ≠ 53) (h54 : k ≠ 54) : rMv B t k = B k := by
  unfold rMv
  split
  · exact uB_k h47
  · unfold rLog
    rw [uB_k h25, uB_k h54, uB_k h53, uB_k h52, uB_k h47]
theorem rMv_47 (B : sB) (t : Nat) : rMv B t 47 0 = upd (B 47 0) t (-1) := by
  unfold rMv
  split
  · rw [uB_2, u2_a]
  · unfold rLog
    rw [uB_k (by decide), uB_k (by decide), uB_k (by decide), uB_k (by decide), uB_2, u2_a]
theorem rBr_full {B : sB} {t : Nat} (h : B 25 0 7 = nI 600) : rBr B t 25 = B 25 ∧ rBr B t 52 = B 52 ∧ rBr B t 53 = B 53 ∧ rBr B t 54 = B 54 := by
  unfold rBr rMv
  rw [if_pos (by rw [rSt_k (by decide) (by decide) (by decide) (by decide) (by decide)]; exact h)]
  refine ⟨?_, ?_, ?_, ?_⟩ <;> rw [uB_k (by decide), rSt_k (by decide) (by decide) (by decide) (by decide) (by decide)]
theorem rBr_log {B : sB} {t k : Nat} (h : B 25 0 7 = nI k) (h6 : k < 600) : rBr B t 25 = u2 (B 25) 0 7 (nI (k + 1)) ∧ rBr B t 52 = u2 (B 52) 0 k (nI t) ∧ rBr B t 53 = u2 (B 53) 0 k (B 25 0 3) ∧ rBr B t 54 = u2 (B 54) 0 k (-1) := by
  have e6 : rSt B t 25 = B 25 := rSt_k (by decide) (by decide) (by decide) (by decide) (by decide)
  unfold rBr rMv
  rw [e6, h, if_neg (fun z => by have := (nI_eq (a := k) (b := 600) (by omega) (by decide)).mp z; omega), nI_clamp (by omega)]
  unfold rLog
  refine ⟨?_, ?_, ?_, ?_⟩
  · rw [uB_2, uB_k (by decide), uB_k (by decide), uB_k (by decide), uB_k (by decide), e6]
  · rw [uB_k (by decide), uB_k (by decide), uB_k (by decide), uB_2, uB_k (by decide), rSt_k (by decide) (by decide) (by decide) (by decide) (by decide)]
  · rw [uB_k (by decide), uB_k (by decide), uB_2, uB_k (k' := 53) (by decide), uB_k (k' := 53) (by decide), uB_k (k' := 25) (by decide), e6, rSt_k (by decide) (by decide) (by decide) (by decide) (by decide)]
  · rw [uB_k (by decide), uB_2, uB_k (k' := 54) (by decide), uB_k (k' := 54) (by decide), uB_k (k' := 54) (by decide), uB_s, rSt_k (by decide) (by decide) (by decide) (by decide) (by decide)]
theorem rBr_k {B : sB} {t k : Nat} (h25 : k ≠ 25) (h4 : k ≠ 44) (h6 : k ≠ 46) (h47 : k ≠ 47) (h9 : k ≠ 49) (h5 : k ≠ 50) (h1 : k ≠ 51) (h52 : k ≠ 52) (h53 : k ≠ 53) (h54 : k ≠ 54) : rBr B t k = B k := by
  unfold rBr
  rw [rMv_k h25 h47 h52 h53 h54, rSt_k h4 h6 h9 h5 h1]
theorem rBr_x (B : sB) (t : Nat) : rBr B t 44 0 = upd (B 44 0) t (B 44 0 t + 1) ∧ rBr B t 46 0 = upd (B 46 0) t 0 ∧ rBr B t 49 0 = upd (B 49 0) t 1 ∧ rBr B t 50 0 = upd (B 50 0) (13 * t) 0 ∧ rBr B t 51 0 = upd (B 51 0) (13 * t) 180 ∧ rBr B t 47 0 = upd (B 47 0) t (-1) := by
  refine ⟨?_, ?_, ?_, ?_, ?_, ?_⟩
  · unfold rBr
    rw [rMv_k (by decide) (by decide) (by decide) (by decide) (by decide)]
    unfold rSt
    rw [uB_k (by decide), uB_k (by decide), uB_k (by decide), uB_k (by decide), uB_2, u2_a]
  · unfold rBr
    rw [rMv_k (by decide) (by decide) (by decide) (by decide) (by decide)]
    unfold rSt
    rw [uB_k (by decide), uB_k (by decide), uB_k (by decide), uB_2, u2_a, uB_k (by decide)]
  · unfold rBr
    rw [rMv_k (by decide) (by decide) (by decide) (by decide) (by decide)]
    unfold rSt
    rw [uB_k (by decide), uB_k (by decide), uB_2, u2_a, uB_k (by decide), uB_k (by decide)]
  · unfold rBr
    rw [rMv_k (by decide) (by decide) (by decide) (by decide) (by decide)]
    unfold rSt
    rw [uB_k (by decide), uB_2, u2_a, uB_k (by decide), uB_k (by decide), uB_k (by decide)]
  · unfold rBr
    rw [rMv_k (by decide) (by decide) (by decide) (by decide) (by decide)]
    unfold rSt
    rw [uB_2, u2_a, uB_k (by decide), uB_k (by decide), uB_k (by decide), uB_k (by decide)]
  · unfold rBr
    rw [rMv_47, rSt_k (by decide) (by decide) (by decide) (by decide) (by decide)]
/-- both bring the tyre back -/
theorem Rel_bring {nw nt : Nat} {C R : sB} {L : sL} {e t : Nat} (hR : Rel nw nt (jd C R e) L) (ht : t < nt) (hw : R 47 0 t = -2) (hdy : R 25 0 3 = nI (e + 1)) (hbk : R 48 0 t = nI (e + 1)) : Rel nw nt (jd (cBr C t) (rBr R t) e) (cBrL C L t) := by
  unfold Rel at hR ⊢
  simp (disch := decide) only [jd_c, jd_r, jd_0, jd_25, u2_0] at hR ⊢
  obtain ⟨q1, q2, q3, q4, q5, q6⟩ := hR
  obtain ⟨x1, x2, x3, x4, x5, x6⟩ := rBr_x R t
  have hT := q4.1 t ht
  have hb11 : C 21 t 11 = nI (e + 1) := ((hT.2.2.2.2.2.2.2.2.2.2.2.2.1 hw).1).trans hbk
  have hnum : C 21 t 0 = nI t := hT.1
  obtain ⟨m, hm4, hm⟩ := hT.2.2.1
  have hmc : C 21 t 1 = nI m := hT.2.1.trans hm
  obtain ⟨y6, y7, y9, y10, y11⟩ := cBr_x C t
  simp (disch := decide) only [cBr_k, rBr_k, cBr_0, cBr_22, cBr_23, u2_0, x1, x2, x3, x4, x5, x6, upd_upd]
  have hW := RelW_where (v := -1) q1.2.2.1 (no_place (x := R 47 0 t) (by rw [hw]; decide)) q3
  have hTT : RelT nt (nI e) (cBr C t 21) (u2 (C 22) t 0 0) (u2 (C 23) t 0 180) (R 42 0) (R 43 0) (upd (R 44 0) t (R 44 0 t + 1)) (R 45 0) (upd (R 46 0) t 0) (upd (R 47 0) t (-1)) (R 48 0) (upd (R 49 0) t 1) (upd (R 50 0) (13 * t) 0) (upd (R 51 0) (13 * t) 180) := by
    refine ⟨fun t' ht' => ?_, fun t' h1 h2 => ?_⟩
    · have h1 := q4.1 t' ht'
      unfold RelT1 at h1 ⊢
      rw [upd_s] at h1
      obtain ⟨b1, b2, b3, b4, b5, b6, b7, b8, b9, b10, b11, b12, b13, b14, r, b15, b16, b17, b18⟩ := h1
      by_cases he : t' = t
      · subst he
        rw [u2_a, u2_a]
        simp only [upd_s]
        rw [y6, y7, y9, y10, y11, cBr_21 _ _ _ _ (by omega), cBr_21 _ _ _ _ (by omega), cBr_21 _ _ _ _ (by omega), cBr_21 _ _ _ _ (by omega)]
        refine ⟨b1, b2, b3, b4, by rw [b5], b6, b7, b8, rfl, ⟨0, by decide, rfl⟩, rfl, Or.inl trivial, fun z => absurd z (by decide), fun _ => rfl, 0, by decide, rfl, rfl, fun i hi => ?_⟩
        have : i = 0 := by omega
        subst this
        rw [Nat.add_zero, upd_s, upd_s, upd_s, upd_s]
        exact ⟨rfl, ⟨0, 0, rfl, rfl, Nat.le_refl _, by decide⟩, rfl, 180, by decide, rfl⟩
      · rw [u2_r he, u2_r he, cBr_21r he]
        simp only [upd_n he]
        refine ⟨b1, b2, b3, b4, b5, b6, b7, b8, b9, b10, b11, b12, b13, b14, r, b15, b16, b17, fun i hi => ?_⟩
        rw [upd_n (by omega), upd_n (by omega)]
        exact b18 i hi
    · rw [upd_n (by omega)]
      exact q4.2 t' h1 h2
  have hLL : RelL nt (cBrL C L t 24) (u2 (C 22) t 0 0) (u2 (C 23) t 0 180) (R 32 0) (R 42 0) (upd (R 49 0) t 1) := by
    intro t' ht' r m' h1 h2 h3 h4
    by_cases he : t' = t
    · subst he
      rw [upd_s] at h1
      have hr : r + 1 = 1 := (nI_eq (by omega) (by decide)).mp h1.symm
      have hmm : m' = m := (nI_eq (by omega) (by omega)).mp (h3.symm.trans hm)
      subst hmm
      rw [hr, u2_a, u2_a]
      have e1 : wUD (upd (C 22 t') 0 0) (upd (C 23 t') 0 180) 1 (R 32 0 m') = wUD (fun _ => 0) (fun _ => 180) 1 (C 4 0 m') := by
        rw [(q2.2.1 m' h4).1]
        refine wUD_congr (fun i hi => ?_) (fun i hi => ?_)
        · have : i = 0 := by omega
          subst this
          exact upd_s _ _ _
        · have : i = 0 := by omega
          subst this
          exact upd_s _ _ _
      rw [e1]
      unfold cBrL
      rw [hmc, nI_clamp (by omega), wS_u, wS_d]
      exact ⟨rfl, rfl⟩
    · rw [upd_n he] at h1
      rw [u2_r he, u2_r he]
      unfold cBrL
      rw [wS_o he]
      exact q6 t' ht' r m' h1 h2 h3 h4
  obtain ⟨k, hk6, g1, g2, g3⟩ := id q5
  rw [upd_n (by decide)] at g2
  by_cases hf : k = 600
  · subst hf
    obtain ⟨z1, z2, z3, z4⟩ := cBr_full (t := t) g1
    obtain ⟨v1, v2, v3, v4⟩ := rBr_full (t := t) g2
    rw [z1, z2, z3, z4, v1, v2, v3, v4]
    rw [upd_s]
    exact ⟨q1, q2, hW, hTT, q5, hLL⟩
  · obtain ⟨z1, z2, z3, z4⟩ := cBr_log (t := t) g1 (by omega)
    obtain ⟨v1, v2, v3, v4⟩ := rBr_log (t := t) g2 (by omega)
    rw [z1, z2, z3, z4, v1, v2, v3, v4]
    simp only [u2_0]
    rw [upd_comm (i := 7) (j := 3) (by decide), hb11, hnum, hdy]
    have hup : upd (upd (R 25 0) 3 (nI e)) 7 (nI (k + 1)) 3 = nI e := by rw [upd_n (by decide), upd_s]
    rw [hup]
    exact ⟨RelS_log q1, q2, hW, hTT, RelG_log g1 (by omega) q5, hLL⟩
theorem cnV_one {f g : Nat → Int32} {v : Int32} {t : Nat} (h1 : f t = v) (h2 : ¬ g t = v) (h3 : ∀ q, q ≠ t → g q = f q) : ∀ n, cnV g v n + (if t < n then 1 else 0) = cnV f v n
  | 0 => rfl
  | n + 1 => by
    have ih := cnV_one h1 h2 h3 n
    simp only [cnV]
    by_cases he : n = t
    · subst he
      rw [if_neg h2, if_pos h1, if_pos (by omega)]
      rw [if_neg (by omega)] at ih
      omega
    · rw [h3 n he]
      by_cases h : t < n
      · rw [if_pos h] at ih
        rw [if_pos (show t < n + 1 by omega)]
        omega
      · rw [if_neg h] at ih
        rw [if_neg (show ¬ t < n + 1 by omega)]
        omega
theorem cnV_br {B : sB} {t nt : Nat} (ht : t < nt) (hw : B 21 t 10 = -2) : cnV (fun q => cBr B t 21 q 10) (-2) nt + 1 = cnV (fun q => B 21 q 10) (-2) nt := by
  have := cnV_one (f := fun q => B 21 q 10) (g := fun q => cBr B t 21 q 10) (v := -2) (t := t) hw (by show ¬ cBr B t 21 t 10 = -2; rw [(cBr_x B t).2.2.2.1]; decide) (fun q hq => by show cBr B t 21 q 10 = _; rw [cBr_21r hq]) nt
  rw [if_pos ht] at this
  exact this
def oInv (nw nt u : Nat) (Bf : sB) (Lf : sL) (e : Nat) (R : sB) : Prop := e ≤ u ∧ u ≤ 2000 ∧ R 25 0 3 = nI e ∧ (∀ k, k < 25 → R k = uB Bf 0 0 11 (nI u) k) ∧ ∃ C L f, cIt nt (nI u) f C L = (Bf, Lf) ∧ cnV (fun q => C 21 q 10) (-2) nt ≤ f ∧ Rel nw nt (jd C R e) L
def dInv (nw nt u : Nat) (Bf : sB) (Lf : sL) (e t : Nat) (R : sB) : Prop := e < u ∧ u ≤ 2000 ∧ R 25 0 3 = nI (e + 1) ∧ (∀ k, k < 25 → R k = uB Bf 0 0 11 (nI u) k) ∧ ∃ C L f, cIt nt (nI u) f C L = (Bf, Lf) ∧ cnV (fun q => C 21 q 10) (-2) nt ≤ f ∧ Rel nw nt (jd C R e) L ∧ ∀ t', t' < t → t' < nt → ¬ (R 47 0 t' = -2 ∧ R 48 0 t' = nI (e + 1))
theorem dInv_0 {nw nt u : Nat} {Bf : sB} {Lf : sL} {e : Nat} {R : sB} (h : oInv nw nt u Bf Lf e R) (hu : e < u) : dInv nw nt u Bf Lf e 0 (uB R 25 0 3 (nI (e + 1))) := by
  obtain ⟨h1, h2, h3, h4, C, L, f, h5, h6, h7⟩ := h
  refine ⟨hu, h2, uB_s _ _ _ _ _, fun k hk => by rw [uB_k (by omega)]; exact h4 k hk, C, L, f, h5, h6, ?_, fun t' ht' => by omega⟩
  have : jd C (uB R 25 0 3 (nI (e + 1))) e = jd C R e := by
    funext k j i
    unfold jd
    by_cases hk : k < 25
    · rw [if_pos hk, if_pos hk]
    · rw [if_neg hk, if_neg hk]
      by_cases hk2 : k = 25
      · subst hk2
        rw [if_pos rfl, if_pos rfl, uB_2]
        by_cases hji : j = 0 ∧ i = 3
        · obtain ⟨rfl, rfl⟩ := hji
          rw [u2_s, u2_s]
        · rw [u2_n hji, u2_n hji, u2_n hji]
      · rw [if_neg hk2, if_neg hk2, uB_k hk2]
  rw [this]
  exact h7
theorem dInv_n {nw nt u : Nat} {Bf : sB} {Lf : sL} {e t : Nat} {R : sB} (h : dInv nw nt u Bf Lf e t R) (hn : ¬ (R 47 0 t = -2 ∧ R 48 0 t = nI (e + 1))) : dInv nw nt u Bf Lf e (t + 1) R := by
  obtain ⟨h1, h2, h3, h4, C, L, f, h5, h6, h7, h8⟩ := h
  refine ⟨h1, h2, h3, h4, C, L, f, h5, h6, h7, fun t' a b => ?_⟩
  by_cases he : t' = t
  · subst he
    exact hn
  · exact h8 t' (by omega) b
theorem jd_T {nw nt : Nat} {C R : sB} {L : sL} {e : Nat} (hR : Rel nw nt (jd C R e) L) (he : e ≤ 2000) {t : Nat} (ht : t < nt) : C 21 t 10 = R 47 0 t ∧ (R 47 0 t = -2 → C 21 t 11 = R 48 0 t ∧ ∃ b, b ≤ 2000 ∧ R 48 0 t = nI b ∧ e < b) := by
  have h1 := hR.2.2.2.1.1 t ht
  unfold RelT1 at h1
  simp (disch := decide) only [jd_c, jd_r, jd_25, u2_0, upd_s] at h1
  obtain ⟨b1, b2, b3, b4, b5, b6, b7, b8, b9, b10, b11, b12, b13, b14⟩ := h1
  refine ⟨b11, fun z => ?_⟩
  obtain ⟨c1, b, d, c2, c3, c4, c5⟩ := b13 z
  have : e = d := (nI_eq (by omega) (by omega)).mp c4
  exact ⟨c1, b, c2, c3, by omega⟩
theorem dInv_y {nw nt u : Nat} {Bf : sB} {Lf : sL} {e t : Nat} {R : sB} (h : dInv nw nt u Bf Lf e t R) (ht : t < nt) (hn : R 47 0 t = -2 ∧ R 48 0 t = nI (e + 1)) : dInv nw nt u Bf Lf e (t + 1) (rBr R t) := by
  obtain ⟨h1, h2, h3, h4, C, L, f, h5, h6, h7, h8⟩ := h
  have hT := fun t' (ht' : t' < nt) => jd_T h7 (by omega) ht'
  have hwc : C 21 t 10 = -2 := (hT t ht).1.trans hn.1
  have hbc : C 21 t 11 = nI (e + 1) := ((hT t ht).2 hn.1).1.trans hn.2
  have hnb : nb C (nI u) nt = some t := by
    refine nb_min hwc (by rw [hbc]; exact nI_le (by omega) (by omega)) nt ht (fun t' ht' hw' => ?_) (fun t' ht' hw' => ?_)
    · have hr' := (hT t' ht').1.symm.trans hw'
      obtain ⟨c1, b, c2, c3, c4⟩ := (hT t' ht').2 hr'
      rw [hbc, c1, c3]
      exact nI_nlt (by omega) (by omega)
    · have hr' := (hT t' (by omega)).1.symm.trans hw'
      obtain ⟨c1, b, c2, c3, c4⟩ := (hT t' (by omega)).2 hr'
      rw [hbc, c1, c3]
      refine nI_lt ?_ (by omega)
      have : b ≠ e + 1 := fun z => h8 t' ht' (by omega) ⟨hr', by rw [c3, z]⟩
      omega
  have hcn := cnV_br ht hwc
  obtain ⟨f', rfl⟩ : ∃ f', f = f' + 1 := ⟨f - 1, by omega⟩
  rw [cIt_s hnb] at h5
  have hs : R 25 0 3 = rBr R t 25 0 3 := by
    have hG := h7.2.2.2.2.1
    obtain ⟨k, hk6, g1, g2, g3⟩ := hG
    rw [jd_25, u2_0, upd_n (by decide)] at g2
    by_cases hf : k = 600
    · subst hf
      rw [(rBr_full (t := t) g2).1]
    · rw [(rBr_log (t := t) g2 (by omega)).1, u2_n (by decide)]
  refine ⟨h1, h2, hs.symm.trans h3, fun k hk => ?_, cBr C t, cBrL C L t, f', h5, by omega, Rel_bring h7 ht hn.1 h3 hn.2, fun t' a b => ?_⟩
  · rw [rBr_k (by omega) (by omega) (by omega) (by omega) (by omega) (by omega) (by omega) (by omega) (by omega) (by omega)]
    exact h4 k hk
  · rw [(rBr_x R t).2.2.2.2.2, rBr_k (k := 48) (by decide) (by decide) (by decide) (by decide) (by decide) (by decide) (by decide) (by decide) (by decide) (by decide)]
    by_cases he : t' = t
    · subst he
      rw [upd_s]
      exact fun z => absurd z.1 (by decide)
    · rw [upd_n he]
      exact h8 t' (by omega) b
theorem dInv_end {nw nt u : Nat} {Bf : sB} {Lf : sL} {e : Nat} {R : sB} (h : dInv nw nt u Bf Lf e nt R) : oInv nw nt u Bf Lf (e + 1) R := by
  obtain ⟨h1, h2, h3, h4, C, L, f, h5, h6, h7, h8⟩ := h
  refine ⟨h1, h2, h3, h4, C, L, f, h5, h6, ?_⟩
  have hT := fun t' (ht' : t' < nt) => jd_T h7 (by omega) ht'
  unfold Rel at h7 ⊢
  simp (disch := decide) only [jd_c, jd_r, jd_0, jd_25, u2_0] at h7 ⊢
  obtain ⟨q1, q2, q3, q4, q5, q6⟩ := h7
  refine ⟨?_, q2, q3, ⟨fun t ht => ?_, q4.2⟩, ?_, q6⟩
  · unfold RelS at q1 ⊢
    simp only [upd_s, upd_n (show (4 : Nat) ≠ 3 by decide), upd_n (show (5 : Nat) ≠ 3 by decide), upd_n (show (6 : Nat) ≠ 3 by decide), upd_n (show (8 : Nat) ≠ 11 by decide), upd_n (show (9 : Nat) ≠ 11 by decide), upd_n (show (10 : Nat) ≠ 11 by decide)] at q1 ⊢
    obtain ⟨r1, r2, r3, r4, r5, r6, r7, r8, r9⟩ := q1
    exact ⟨r1, r2, r3, r4, r5, r6, trivial, ⟨e + 1, by omega, rfl⟩, r9⟩
  · have h1' := q4.1 t ht
    unfold RelT1 at h1' ⊢
    rw [upd_s] at h1' ⊢
    obtain ⟨b1, b2, b3, b4, b5, b6, b7, b8, b9, b10, b11, b12, b13, b14⟩ := h1'
    refine ⟨b1, b2, b3, b4, b5, b6, b7, b8, b9, b10, b11, b12, fun z => ?_, b14⟩
    obtain ⟨c1, b, c2, c3, c4⟩ := (hT t ht).2 z
    refine ⟨c1, b, e + 1, c2, c3, rfl, ?_⟩
    have : b ≠ e + 1 := fun zz => h8 t ht ht ⟨z, by rw [c3, zz]⟩
    omega
  · obtain ⟨k, hk6, g1, g2, g3⟩ := q5
    rw [upd_n (by decide)] at g2
    exact ⟨k, hk6, g1, by rw [upd_n (by decide)]; exact g2, g3⟩
theorem oInv_end {nw nt u : Nat} {Bf : sB} {Lf : sL} {R : sB} (h : oInv nw nt u Bf Lf u R) : Rel nw nt R Lf := by
  obtain ⟨h1, h2, h3, h4, C, L, f, h5, h6, h7⟩ := h
  have hnb : nb C (nI u) nt = none := by
    refine nb_none nt (fun t ht z => ?_)
    obtain ⟨k1, k2⟩ := jd_T h7 h2 ht
    have hr := k1.symm.trans z.1
    obtain ⟨c1, b, c2, c3, c4⟩ := k2 hr
    have := z.2
    rw [c1, c3] at this
    exact nI_ge c4 (by omega) this
  rw [cIt_n hnb] at h5
  obtain ⟨rfl, rfl⟩ := Prod.mk.inj h5
  have : jd C R u = R := by
    funext k j i
    unfold jd
    by_cases hk : k < 25
    · rw [if_pos hk, h4 k hk]
      by_cases hk0 : k = 0
      · subst hk0
        rw [if_pos rfl, uB_2]
      · rw [if_neg hk0, uB_k hk0]
    · rw [if_neg hk]
      by_cases hk2 : k = 25
      · subst hk2
        rw [if_pos rfl]
        by_cases hji : j = 0 ∧ i = 3
        · obtain ⟨rfl, rfl⟩ := hji
          rw [u2_s, h3]
        · rw [u2_n hji]
      · rw [if_neg hk2]
  rw [this] at h7
  exact h7
set_option maxRecDepth 100000 in
set_option maxHeartbeats 4000000 in
theorem l_rdin {ad : sA} {nw nt : Nat} {bc bs : Nat} {n i u e : Nat} {Bf : sB} {Lf : sL} (h40 : nt ≤ 40) (kk : ∀ R, oInv nw nt u Bf Lf (e + 1) R → Es (sCm yX6_days cX6_days 4 (some .int) 3 ad nw nt (fun v B1 L1 => v = some (.int (nI u)) ∧ Rel nw nt B1 L1)) 4 33 [some (.ref (ad 25 0)), some (.int (nI n)), some (.int (nI (i + 1))), none] [] ad nw nt R Lf bc bs) : ∀ (j t : Nat) (R : sB), t + j = nt → dInv nw nt u Bf Lf e t R → Es (sCm yX6_days cX6_days 4 (some .int) 3 ad nw nt (fun v B1 L1 => v = some (.int (nI u)) ∧ Rel nw nt B1 L1)) 4 50 [some (.ref (ad 25 0)), some (.int (nI n)), some (.int (nI i)), some (.int (nI t))] [] ad nw nt R Lf bc bs := by
  have hC : ∀ Q, je_Ok (sCm yX6_days cX6_days 4 (some .int) 3 ad nw nt Q) RX6 cX6_days 4 3 := fun _ => je_Cm_ok
  intro j
  induction j with
  | zero =>
    intro t R hj hI
    have htn : t = nt := by omega
    subst htn
    have hnt : R 25 0 5 = nI t := by
      obtain ⟨h1, h2, h3, h4, C, L, f, h5, h6, h7, h8⟩ := hI
      have := h7.1.2.2.2.1
      rw [jd_25, u2_0, upd_n (by decide)] at this
      exact this
    refine Es_iload_n (hC _) dX6_days_50 rfl ?_
    first | refine Es_aload_n (hC _) dX6_days_51 rfl ?_ | refine Es_aload_nN (hC _) dX6_days_51 rfl ?_
    refine Sg_X6_5 (hC _) fl_X6_107 dX6_days_52 ?_
    rw [hnt]
    refine Es_icmp_ge (hC _) 112 dX6_days_55 (by decide) (fun hb55 => ?_) (fun hb55 => False.elim (hb55 (nI_le (Nat.le_refl _) (by omega))))
    refine Es_iinc (lv' := [_, _, _, _]) (hC _) dX6_days_112 (by decide) rfl (show _ + Int32.ofInt (1) = _ + (1) from rfl) rfl rfl ?_
    refine Es_goto (hC _) 33 dX6_days_115 (by decide) ?_
    refine Es.kill 3 (lv' := [_, _, _, _]) rfl ?_
    rw [nI_1]
    exact kk R (dInv_end hI)
  | succ j ih =>
    intro t R hj hI
    have hnt : R 25 0 5 = nI nt := by
      obtain ⟨h1, h2, h3, h4, C, L, f, h5, h6, h7, h8⟩ := hI
      have := h7.1.2.2.2.1
      rw [jd_25, u2_0, upd_n (by decide)] at this
      exact this
    obtain ⟨k, hk6, hk⟩ : ∃ k, k ≤ 600 ∧ R 25 0 7 = nI k := by
      obtain ⟨h1, h2, h3, h4, C, L, f, h5, h6, h7, h8⟩ := hI
      obtain ⟨k, hk6, g1, g2, g3⟩ := h7.2.2.2.2.1
      rw [jd_25, u2_0, upd_n (by decide)] at g2
      exact ⟨k, hk6, g2⟩
    have hdy : R 25 0 3 = nI (e + 1) := hI.2.2.1
    by_cases h1 : R 47 0 t = -2
    · by_cases h2 : R 48 0 t = nI (e + 1)
      · have hI2 := dInv_y hI (by omega) ⟨h1, h2⟩
        refine Es_iload_n (hC _) dX6_days_50 rfl ?_
        first | refine Es_aload_n (hC _) dX6_days_51 rfl ?_ | refine Es_aload_nN (hC _) dX6_days_51 rfl ?_
        refine Sg_X6_5 (hC _) fl_X6_107 dX6_days_52 ?_
        rw [hnt]
        refine Es_icmp_ge (hC _) 112 dX6_days_55 (by decide) (fun hb55 => False.elim (nI_ge (b := nt) (a := t) (by omega) (by omega) hb55)) (fun hb55 => ?_)
        first | refine Es_aload_n (hC _) dX6_days_58 rfl ?_ | refine Es_aload_nN (hC _) dX6_days_58 rfl ?_
        refine Sg_X6_17 (hC _) fl_X6_50 dX6_days_59 ?_
        refine Es_iload_n (hC _) dX6_days_62 rfl ?_
        refine Es_ialdN (hC _) dX6_days_63 rfl rfl rfl (by omega) (by decide) ?_
        refine Es_bipush (v := -2) (hC _) dX6_days_64 (by decide) ?_
        refine Es_icmp_ne (hC _) 106 dX6_days_66 (by decide) (fun hb66 => False.elim (hb66 h1)) (fun hb66 => ?_)
        first | refine Es_aload_n (hC _) dX6_days_69 rfl ?_ | refine Es_aload_nN (hC _) dX6_days_69 rfl ?_
        refine Sg_X6_18 (hC _) fl_X6_53 dX6_days_70 ?_
        refine Es_iload_n (hC _) dX6_days_73 rfl ?_
        refine Es_ialdN (hC _) dX6_days_74 rfl rfl rfl (by omega) (by decide) ?_
        first | refine Es_aload_n (hC _) dX6_days_75 rfl ?_ | refine Es_aload_nN (hC _) dX6_days_75 rfl ?_
        refine Sg_X6_3 (hC _) fl_X6_104 dX6_days_76 ?_
        refine Es_icmp_eq (hC _) 85 dX6_days_79 (by decide) (fun hb79 => ?_) (fun hb79 => False.elim (hb79 (h2.trans hdy.symm)))
        first | refine Es_aload_n (hC _) dX6_days_85 rfl ?_ | refine Es_aload_nN (hC _) dX6_days_85 rfl ?_
        refine Sg_X6_14 (hC _) fl_X6_41 dX6_days_86 ?_
        refine Es_iload_n (hC _) dX6_days_89 rfl ?_
        refine Es_dup2 (hC _) dX6_days_90 rfl rfl ?_
        refine Es_ialdN (hC _) dX6_days_91 rfl rfl rfl (by omega) (by decide) ?_
        refine Es_iconst (v := 1) (hC _) dX6_days_92 (by decide) ?_
        refine Es_iadd (hC _) dX6_days_93 ?_
        refine Es_iastN (hC _) dX6_days_94 rfl (fun _ => rfl) rfl (by omega) (by decide) ?_
        first | refine Es_aload_n (hC _) dX6_days_95 rfl ?_ | refine Es_aload_nN (hC _) dX6_days_95 rfl ?_
        refine Es_iload_n (hC _) dX6_days_96 rfl ?_
        refine Es_fV (hC _) mv_X6_114 dX6_days_97 (r_fresh (by omega)) rfl rfl ⟨_, rfl, rfl⟩ rfl rfl (by decide) (Nat.le_of_ble_eq_true rfl) ?_
        first | refine Es_aload_n (hC _) dX6_days_100 rfl ?_ | refine Es_aload_nN (hC _) dX6_days_100 rfl ?_
        refine Es_iload_n (hC _) dX6_days_101 rfl ?_
        refine Es_iconst (v := -1) (hC _) dX6_days_102 (by decide) ?_
        refine Es_fV (hC _) mv_X6_124 dX6_days_103 (r_mv (by omega) (show rSt R t 25 0 7 = nI k by rw [rSt_k (by decide) (by decide) (by decide) (by decide) (by decide)]; exact hk) hk6) rfl rfl ⟨_, rfl, rfl⟩ rfl rfl (by decide) (Nat.le_of_ble_eq_true rfl) ?_
        refine Es_iinc (lv' := [_, _, _, _]) (hC _) dX6_days_106 (by decide) rfl (show _ + Int32.ofInt (1) = _ + (1) from rfl) rfl rfl ?_
        refine Es_goto (hC _) 50 dX6_days_109 (by decide) ?_
        rw [nI_1]
        exact ih (t + 1) _ (by omega) hI2
      · have hI2 := dInv_n hI (fun z => h2 z.2)
        refine Es_iload_n (hC _) dX6_days_50 rfl ?_
        first | refine Es_aload_n (hC _) dX6_days_51 rfl ?_ | refine Es_aload_nN (hC _) dX6_days_51 rfl ?_
        refine Sg_X6_5 (hC _) fl_X6_107 dX6_days_52 ?_
        rw [hnt]
        refine Es_icmp_ge (hC _) 112 dX6_days_55 (by decide) (fun hb55 => False.elim (nI_ge (b := nt) (a := t) (by omega) (by omega) hb55)) (fun hb55 => ?_)
        first | refine Es_aload_n (hC _) dX6_days_58 rfl ?_ | refine Es_aload_nN (hC _) dX6_days_58 rfl ?_
        refine Sg_X6_17 (hC _) fl_X6_50 dX6_days_59 ?_
        refine Es_iload_n (hC _) dX6_days_62 rfl ?_
        refine Es_ialdN (hC _) dX6_days_63 rfl rfl rfl (by omega) (by decide) ?_
        refine Es_bipush (v := -2) (hC _) dX6_days_64 (by decide) ?_
        refine Es_icmp_ne (hC _) 106 dX6_days_66 (by decide) (fun hb66 => False.elim (hb66 h1)) (fun hb66 => ?_)
        first | refine Es_aload_n (hC _) dX6_days_69 rfl ?_ | refine Es_aload_nN (hC _) dX6_days_69 rfl ?_
        refine Sg_X6_18 (hC _) fl_X6_53 dX6_days_70 ?_
        refine Es_iload_n (hC _) dX6_days_73 rfl ?_
        refine Es_ialdN (hC _) dX6_days_74 rfl rfl rfl (by omega) (by decide) ?_
        first | refine Es_aload_n (hC _) dX6_days_75 rfl ?_ | refine Es_aload_nN (hC _) dX6_days_75 rfl ?_
        refine Sg_X6_3 (hC _) fl_X6_104 dX6_days_76 ?_
        refine Es_icmp_eq (hC _) 85 dX6_days_79 (by decide) (fun hb79 => False.elim (h2 (hb79.trans hdy))) (fun hb79 => ?_)
        refine Es_goto (hC _) 106 dX6_days_82 (by decide) ?_
        refine Es_iinc (lv' := [_, _, _, _]) (hC _) dX6_days_106 (by decide) rfl (show _ + Int32.ofInt (1) = _ + (1) from rfl) rfl rfl ?_
        refine Es_goto (hC _) 50 dX6_days_109 (by decide) ?_
        rw [nI_1]
        exact ih (t + 1) _ (by omega) hI2
    · have hI2 := dInv_n hI (fun z => h1 z.1)
      refine Es_iload_n (hC _) dX6_days_50 rfl ?_
      first | refine Es_aload_n (hC _) dX6_days_51 rfl ?_ | refine Es_aload_nN (hC _) dX6_days_51 rfl ?_
      refine Sg_X6_5 (hC _) fl_X6_107 dX6_days_52 ?_
      rw [hnt]
      refine Es_icmp_ge (hC _) 112 dX6_days_55 (by decide) (fun hb55 => False.elim (nI_ge (b := nt) (a := t) (by omega) (by omega) hb55)) (fun hb55 => ?_)
      first | refine Es_aload_n (hC _) dX6_days_58 rfl ?_ | refine Es_aload_nN (hC _) dX6_days_58 rfl ?_
      refine Sg_X6_17 (hC _) fl_X6_50 dX6_days_59 ?_
      refine Es_iload_n (hC _) dX6_days_62 rfl ?_
      refine Es_ialdN (hC _) dX6_days_63 rfl rfl rfl (by omega) (by decide) ?_
      refine Es_bipush (v := -2) (hC _) dX6_days_64 (by decide) ?_
      refine Es_icmp_ne (hC _) 106 dX6_days_66 (by decide) (fun hb66 => ?_) (fun hb66 => False.elim (h1 hb66))
      refine Es_iinc (lv' := [_, _, _, _]) (hC _) dX6_days_106 (by decide) rfl (show _ + Int32.ofInt (1) = _ + (1) from rfl) rfl rfl ?_
      refine Es_goto (hC _) 50 dX6_days_109 (by decide) ?_
      rw [nI_1]
      exact ih (t + 1) _ (by omega) hI2
set_option maxRecDepth 100000 in
set_option maxHeartbeats 4000000 in
theorem l_rdout {ad : sA} {nw nt : Nat} {bc bs : Nat} {n d : Nat} {Bf : sB} {Lf : sL} (h40 : nt ≤ 40) (hdn : d + n ≤ 2000) : ∀ (j i : Nat) (R : sB), i + j = n → oInv nw nt (d + n) Bf Lf (d + i) R → Es (sCm yX6_days cX6_days 4 (some .int) 3 ad nw nt (fun v B1 L1 => v = some (.int (nI (d + n))) ∧ Rel nw nt B1 L1)) 4 33 [some (.ref (ad 25 0)), some (.int (nI n)), some (.int (nI i)), none] [] ad nw nt R Lf bc bs := by
  have hC : ∀ Q, je_Ok (sCm yX6_days cX6_days 4 (some .int) 3 ad nw nt Q) RX6 cX6_days 4 3 := fun _ => je_Cm_ok
  intro j
  induction j with
  | zero =>
    intro i R hj hI
    have hin : i = n := by omega
    subst hin
    have hdy : R 25 0 3 = nI (d + i) := hI.2.2.1
    refine Es_iload_n (hC _) dX6_days_33 rfl ?_
    refine Es_iload_n (hC _) dX6_days_34 rfl ?_
    refine Es_icmp_ge (hC _) 118 dX6_days_35 (by decide) (fun hb35 => ?_) (fun hb35 => False.elim (hb35 (nI_le (Nat.le_refl _) (by omega))))
    first | refine Es_aload_n (hC _) dX6_days_118 rfl ?_ | refine Es_aload_nN (hC _) dX6_days_118 rfl ?_
    refine Sg_X6_3 (hC _) fl_X6_104 dX6_days_119 ?_
    exact Es_iret dX6_days_122 rfl ⟨by rw [hdy], oInv_end hI⟩
  | succ j ih =>
    intro i R hj hI
    have hdy : R 25 0 3 = nI (d + i) := hI.2.2.1
    have hI2 := dInv_0 hI (by omega)
    refine Es_iload_n (hC _) dX6_days_33 rfl ?_
    refine Es_iload_n (hC _) dX6_days_34 rfl ?_
    refine Es_icmp_ge (hC _) 118 dX6_days_35 (by decide) (fun hb35 => False.elim (nI_ge (b := n) (a := i) (by omega) (by omega) hb35)) (fun hb35 => ?_)
    first | refine Es_aload_n (hC _) dX6_days_38 rfl ?_ | refine Es_aload_nN (hC _) dX6_days_38 rfl ?_
    refine Es_dup (hC _) dX6_days_39 rfl ?_
    refine Sg_X6_3 (hC _) fl_X6_104 dX6_days_40 ?_
    refine Es_iconst (v := 1) (hC _) dX6_days_43 (by decide) ?_
    refine Es_iadd (hC _) dX6_days_44 ?_
    rw [hdy, nI_1]
    refine Sp_X6_3 (hC _) fl_X6_104 dX6_days_45 ?_
    refine Es_iconst (v := 0) (hC _) dX6_days_48 (by decide) ?_
    refine Es_istore_n (lv' := [_, _, _, _]) (hC _) dX6_days_49 (by decide) rfl rfl ?_
    exact l_rdin h40 (fun R hR => ih (i + 1) R (by omega) hR) nt 0 _ (by omega) hI2
set_option maxRecDepth 100000 in
set_option maxHeartbeats 4000000 in
theorem r_days_lo {ad : sA} {nw nt : Nat} {B : sB} {L : sL} {d : Nat} (hdy : B 25 0 3 = nI d) (hd : d ≤ 2000) {x : Int32} (hl : x < 1) : Cf yX6_days cX6_days 4 (some FieldType.int) 3 [.ref (ad 25 0), .int x] ad nw nt B L (some (.int (-4))) (uB B 30 0 4 (B 30 0 4 + 1)) (L) := by
  have hC : ∀ Q, je_Ok (sCm yX6_days cX6_days 4 (some FieldType.int) 3 ad nw nt Q) RX6 cX6_days 4 3 := fun _ => je_Cm_ok
  refine Cs_of [some (.ref (ad 25 0)), some (.int x), none, none] (by decide) rfl (Nat.le_of_ble_eq_true rfl) ?_
  refine Es_iload_n (hC _) dX6_days_0 rfl ?_
  refine Es_iconst (v := 1) (hC _) dX6_days_1 (by decide) ?_
  refine Es_icmp_ge (hC _) 12 dX6_days_2 (by decide) (fun hb2 => False.elim (Int32.not_le.mpr hl hb2)) (fun hb2 => ?_)
  first | refine Es_aload_n (hC _) dX6_days_5 rfl ?_ | refine Es_aload_nN (hC _) dX6_days_5 rfl ?_
  refine Es_bipush (v := -4) (hC _) dX6_days_6 (by decide) ?_
  refine Es_fV (hC _) mv_X6_93 dX6_days_8 (r_refuse (k := 4) (by decide) (by decide)) rfl rfl ⟨_, rfl, rfl⟩ rfl rfl (by decide) (Nat.le_of_ble_eq_true rfl) ?_
  exact Es_iret dX6_days_11 rfl ⟨rfl, rfl, rfl⟩

set_option maxRecDepth 100000 in
set_option maxHeartbeats 4000000 in
theorem r_days_hi {ad : sA} {nw nt : Nat} {B : sB} {L : sL} {d : Nat} (hdy : B 25 0 3 = nI d) (hd : d ≤ 2000) {x : Int32} (hl : ¬ x < 1) (hh : nI (2000 - d) < x) : Cf yX6_days cX6_days 4 (some FieldType.int) 3 [.ref (ad 25 0), .int x] ad nw nt B L (some (.int (-6))) (uB B 30 0 6 (B 30 0 6 + 1)) (L) := by
  have hC : ∀ Q, je_Ok (sCm yX6_days cX6_days 4 (some FieldType.int) 3 ad nw nt Q) RX6 cX6_days 4 3 := fun _ => je_Cm_ok
  refine Cs_of [some (.ref (ad 25 0)), some (.int x), none, none] (by decide) rfl (Nat.le_of_ble_eq_true rfl) ?_
  refine Es_iload_n (hC _) dX6_days_0 rfl ?_
  refine Es_iconst (v := 1) (hC _) dX6_days_1 (by decide) ?_
  refine Es_icmp_ge (hC _) 12 dX6_days_2 (by decide) (fun hb2 => ?_) (fun hb2 => False.elim (hb2 (Int32.not_lt.mp hl)))
  refine Es_iload_n (hC _) dX6_days_12 rfl ?_
  refine Es_sipush (v := 2000) (hC _) dX6_days_13 (by decide) ?_
  first | refine Es_aload_n (hC _) dX6_days_16 rfl ?_ | refine Es_aload_nN (hC _) dX6_days_16 rfl ?_
  refine Sg_X6_3 (hC _) fl_X6_104 dX6_days_17 ?_
  refine Es_isub (hC _) dX6_days_20 ?_
  rw [hdy, show (2000 : Int32) - nI d = nI (2000 - d) from pk_sub (a := 2000) hd]
  refine Es_icmp_le (hC _) 31 dX6_days_21 (by decide) (fun hb21 => False.elim (Int32.not_le.mpr hh hb21)) (fun hb21 => ?_)
  first | refine Es_aload_n (hC _) dX6_days_24 rfl ?_ | refine Es_aload_nN (hC _) dX6_days_24 rfl ?_
  refine Es_bipush (v := -6) (hC _) dX6_days_25 (by decide) ?_
  refine Es_fV (hC _) mv_X6_93 dX6_days_27 (r_refuse (k := 6) (by decide) (by decide)) rfl rfl ⟨_, rfl, rfl⟩ rfl rfl (by decide) (Nat.le_of_ble_eq_true rfl) ?_
  exact Es_iret dX6_days_30 rfl ⟨rfl, rfl, rfl⟩

set_option maxRecDepth 100000 in
set_option maxHeartbeats 4000000 in
theorem r_days_ok {ad : sA} {nw nt : Nat} {B : sB} {L : sL} {d : Nat} (hdy : B 25 0 3 = nI d) (hd : d ≤ 2000) {n : Nat} {Bf : sB} (h40 : nt ≤ 40) (hn1 : 1 ≤ n) (hn2 : d + n ≤ 2000) (hI : oInv nw nt (d + n) Bf L d B) : Cs yX6_days cX6_days 4 (some FieldType.int) 3 [.ref (ad 25 0), .int (nI n)] ad nw nt (B) (L) (fun v B1 L1 => v = some (.int (nI (d + n))) ∧ Rel nw nt B1 L1) := by
  have hC : ∀ Q, je_Ok (sCm yX6_days cX6_days 4 (some FieldType.int) 3 ad nw nt Q) RX6 cX6_days 4 3 := fun _ => je_Cm_ok
  refine Cs_of [some (.ref (ad 25 0)), some (.int (nI n)), none, none] (by decide) rfl (Nat.le_of_ble_eq_true rfl) ?_
  refine Es_iload_n (hC _) dX6_days_0 rfl ?_
  refine Es_iconst (v := 1) (hC _) dX6_days_1 (by decide) ?_
  refine Es_icmp_ge (hC _) 12 dX6_days_2 (by decide) (fun hb2 => ?_) (fun hb2 => False.elim (hb2 (nI_le (a := 1) (b := n) hn1 (by omega))))
  refine Es_iload_n (hC _) dX6_days_12 rfl ?_
  refine Es_sipush (v := 2000) (hC _) dX6_days_13 (by decide) ?_
  first | refine Es_aload_n (hC _) dX6_days_16 rfl ?_ | refine Es_aload_nN (hC _) dX6_days_16 rfl ?_
  refine Sg_X6_3 (hC _) fl_X6_104 dX6_days_17 ?_
  refine Es_isub (hC _) dX6_days_20 ?_
  rw [hdy, show (2000 : Int32) - nI d = nI (2000 - d) from pk_sub (a := 2000) hd]
  refine Es_icmp_le (hC _) 31 dX6_days_21 (by decide) (fun hb21 => ?_) (fun hb21 => False.elim (hb21 (nI_le (a := n) (b := 2000 - d) (by omega) (by omega))))
  refine Es_iconst (v := 0) (hC _) dX6_days_31 (by decide) ?_
  refine Es_istore_n (lv' := [_, _, _, _]) (hC _) dX6_days_32 (by decide) rfl rfl ?_
  exact l_rdout h40 hn2 n 0 B (by omega) hI

theorem s_days {ad : sA} {nw nt : Nat} {B : sB} {L : sL} (hR : Rel nw nt B L) (x : Int32) : StG yX5_days cX5_days 6 6 yX6_days cX6_days 4 3 (some .int) [.int x] ad nw nt B L := by
  obtain ⟨s1, s2, s3, s4, s5, s6, s7, ⟨d, s8, s8'⟩, s9, s10⟩ := hR.1
  have hdc : B 0 0 11 = nI d := s7.trans s8'
  by_cases hl : x < 1
  · exact Stq.gen ⟨_, _, _, _, _, c_days_lo hdc s8 hl, r_days_lo (by exact s8') s8 hl, Rel_refuse hR⟩
  · by_cases hh : nI (2000 - d) < x
    · exact Stq.gen ⟨_, _, _, _, _, c_days_hi hdc s8 hl hh, r_days_hi (by exact s8') s8 hl hh, Rel_refuse hR⟩
    · obtain ⟨n, hn1, hn2, rfl⟩ : ∃ n, 1 ≤ n ∧ d + n ≤ 2000 ∧ x = nI n := by
        rcases in_out x (n := 2000 - d + 1) (by omega) with ⟨n, hn, rfl⟩ | hz
        · refine ⟨n, ?_, by omega, rfl⟩
          rcases Nat.eq_zero_or_pos n with h0 | h0
          · subst h0
            exact (hl (by decide)).elim
          · exact h0
        · rcases hz with hz | hz
          · exact (hl (Int32.lt_trans hz (by decide))).elim
          · exact (hh (Int32.lt_of_lt_of_le (nI_lt (a := 2000 - d) (b := 2000 - d + 1) (by omega) (by omega)) hz)).elim
      have hCI : CI nt B := by
        obtain ⟨k, hk6, g1, g2, g3⟩ := hR.2.2.2.2.1
        refine ⟨s5, ⟨k, hk6, g1⟩, fun t ht => ?_⟩
        obtain ⟨b1, b2, ⟨m, b3, b3'⟩, b4⟩ := hR.2.2.2.1.1 t ht
        exact ⟨m, b3, b2.trans b3'⟩
      refine StG_of (c_days_ok hdc s8 hn1 hn2 s6 hCI) (r_days_ok (d := d) (n := n) (Bf := (cIt nt (nI (d + n)) 40 B L).1) ?_ s8 s6 hn1 hn2 ?_) (fun v'' B2 L2 q => q)
      · have hf : ∀ f B L, (cIt nt (nI (d + n)) f B L).1 25 = B 25 := by
          intro f
          induction f with
          | zero => intro B L; rfl
          | succ f ih =>
            intro B L
            cases hh : nb B (nI (d + n)) nt with
            | none => rw [cIt_n hh]
            | some t =>
              rw [cIt_s hh, ih, cBr_k (by decide) (by decide) (by decide) (by decide) (by decide) (by decide) (by decide) (by decide)]
        rw [uB_k (by decide), hf]
        exact s8'
      · have hf : ∀ k, 25 ≤ k → ∀ f B L, (cIt nt (nI (d + n)) f B L).1 k = B k := by
          intro k hk f
          induction f with
          | zero => intro B L; rfl
          | succ f ih =>
            intro B L
            cases hh : nb B (nI (d + n)) nt with
            | none => rw [cIt_n hh]
            | some t =>
              rw [cIt_s hh, ih, cBr_k (by omega) (by omega) (by omega) (by omega) (by omega) (by omega) (by omega) (by omega)]
        refine ⟨by omega, hn2, ?_, fun k hk => rfl, B, L, 40, rfl, ?_, ?_⟩
        · rw [uB_k (by decide), hf 25 (by decide)]
          exact s8'
        · have := cnV_le (fun q => B 21 q 10) (-2) nt
          omega
        · have e : jd B (uB (cIt nt (nI (d + n)) 40 B L).1 0 0 11 (nI (d + n))) d = B := by
            funext k j i
            unfold jd
            by_cases hk : k < 25
            · rw [if_pos hk]
              by_cases hk0 : k = 0
              · subst hk0
                rw [if_pos rfl]
                by_cases hji : j = 0 ∧ i = 11
                · obtain ⟨rfl, rfl⟩ := hji
                  rw [u2_s, hdc]
                · rw [u2_n hji]
              · rw [if_neg hk0]
            · rw [if_neg hk]
              by_cases hk2 : k = 25
              · subst hk2
                rw [if_pos rfl, uB_k (by decide), hf 25 (by decide)]
                by_cases hji : j = 0 ∧ i = 3
                · obtain ⟨rfl, rfl⟩ := hji
                  rw [u2_s, s8']
                · rw [u2_n hji]
              · rw [if_neg hk2, uB_k (by omega), hf k (by omega)]
          rw [e]
          exact hR
