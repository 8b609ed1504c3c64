/-! ===== depth, end, wear, reading, tyreOf ===== -/
theorem bdI {x : Int32} {n : Nat} (h : bd x n) (hn : n < 2 ^ 31) : 0 ≤ x.toInt ∧ x.toInt ≤ n := by
  obtain ⟨k, h1, rfl⟩ := h
  rw [nI_toInt (by omega)]
  omega
/-- what is known of a tyre, on both sides -/
def TF (B : sB) (L : sL) (t r d ra len u v m : Nat) : Prop := r < 12 ∧ B 21 t 6 = nI (r + 1) ∧ B 49 0 t = nI (r + 1) ∧ B 23 t r = nI d ∧ B 51 0 (13 * t + r) = nI d ∧ d ≤ 300 ∧ B 22 t r = nI ra ∧ B 50 0 (13 * t + r) = nI ra ∧ B 21 t 9 = nI len ∧ B 46 0 t = nI len ∧ ra ≤ len ∧ len ≤ 1000000 ∧ u ≤ 43200000000 ∧ 1 ≤ v ∧ v ≤ 144000000000000 ∧ L 24 t 0 = lN u ∧ L 24 t 1 = lN v ∧ B 42 0 t = nI m ∧ m < 4 ∧ bd (B 32 0 m) 1000 ∧ okR (rA B t) (r + 1) 1000000 ∧ okR (rD B t) (r + 1) 300 ∧ wUD (rA B t) (rD B t) (r + 1) (B 32 0 m) = (lN u, lN v)
theorem tf_of {nw nt : Nat} {B : sB} {L : sL} {t : Nat} (hR : Rel nw nt B L) (ht : t < nt) : ∃ r d ra len u v m, TF B L t r d ra len u v m := by
  obtain ⟨hS, hP, hW, hT, hG, hL⟩ := hR
  obtain ⟨a1, a2, ⟨m, a3, a3'⟩, a4, a5, a6, a7, a8, a9, a10, a11, a12, a13, a14, r, h12, r1, r2, r3⟩ := hT.1 t ht
  obtain ⟨q1, ⟨ra, len, q2, q2', q3, q3'⟩, q4, ⟨d, q5, q5'⟩⟩ := r3 r (Nat.le_refl _)
  have hmn := (hP.2.1 m a3).2
  have ok1 : okR (B 22 t) (r + 1) 1000000 := fun i hi => by
    obtain ⟨-, ⟨k, n, e1, e2, e3, e4⟩, -, -⟩ := r3 i (by omega)
    rw [e1, nI_toInt (by omega)]
    omega
  have ok2 : okR (B 23 t) (r + 1) 300 := fun i hi => bdI (r3 i (by omega)).2.2.2 (by decide)
  have c1 : ∀ i, i < r + 1 → rA B t i = B 22 t i := fun i hi => ((r3 i (by omega)).1).symm
  have c2 : ∀ i, i < r + 1 → rD B t i = B 23 t i := fun i hi => ((r3 i (by omega)).2.2.1).symm
  have ok3 : okR (rA B t) (r + 1) 1000000 := fun i hi => by rw [c1 i hi]; exact ok1 i hi
  have ok4 : okR (rD B t) (r + 1) 300 := fun i hi => by rw [c2 i hi]; exact ok2 i hi
  obtain ⟨u, v, w1, w2, w3, w4, -⟩ := wUD_n (mean := B 32 0 m) (show r + 1 ≤ 12 by omega) ok3 ok4 (bdI hmn (by decide))
  obtain ⟨l1, l2⟩ := hL t ht r m r1 h12 a3' a3
  rw [← wUD_congr c1 c2, w1] at l1 l2
  exact ⟨r, d, ra, len, u, v, m, h12, r2, r1, q5', q4.symm.trans q5', q5, q2, q1.symm.trans q2, a9.trans q2', q2', q3, q3', w2, w3, w4, l1, l2, a3', a3, hmn, ok3, ok4, w1⟩
theorem Rel_wR {nw nt : Nat} {B : sB} {L : sL} {p : Int64 × Int64} (hR : Rel nw nt B L) : Rel nw nt B (wR L p) := by
  unfold Rel at hR ⊢
  unfold wR
  rw [uL_k (by decide), uL_k (by decide)]
  exact hR
theorem s_depth {ad : sA} {nw nt : Nat} {B : sB} {L : sL} (hR : Rel nw nt B L) (x y : Int32) : Stq yX5_depth cX5_depth 5 5 yX6_depth cX6_depth 3 5 (some .int) [.int x, .int y] ad nw nt B L := by
  obtain ⟨s1, s2, s3, s4, s5, s6, s7, s8, s9, s10⟩ := hR.1
  rcases in_out x (n := nt) (by omega) with ⟨t, ht, rfl⟩ | hot
  · by_cases hl : y < 0
    · exact ⟨_, _, _, _, _, c_depth_lo s5 s6 ht hl, r_depth_lo (by exact s4) s6 ht hl, Rel_refuse hR⟩
    · by_cases hh : 1000000 < y
      · exact ⟨_, _, _, _, _, c_depth_hi s5 s6 ht hl hh, r_depth_hi (by exact s4) s6 ht hl hh, Rel_refuse hR⟩
      · obtain ⟨k, hk, rfl⟩ := nI_of2 (M := 1000000) (n := 1000000) rfl hl (Int32.not_lt.mp hh)
        obtain ⟨r, d, ra, len, u, v, m, h12, t1, t2, t3, t4, t5, t6, t7, t8, t9, t10, t11, t12, t13, t14, t15, t16, t17, t18, t19, t20, t21, t22⟩ := tf_of hR ht
        exact ⟨_, _, _, _, _, c_depth_ok s5 s6 ht t1 h12 t3 t5 t6 t8 t10 t11 t12 t13 t14 t15 t16 hk, r_depth_ok s4 s6 ht t2 h12 t17 t18 t20 t21 t19 t22 t4 t5 t7 t9 t10 t11 t12 t13 t14 hk, Rel_wR hR⟩
  · exact ⟨_, _, _, _, _, c_depth_1 s5 s6 hot, r_depth_1 (by exact s4) s6 hot, Rel_refuse hR⟩
theorem s_end {ad : sA} {nw nt : Nat} {B : sB} {L : sL} (hR : Rel nw nt B L) (x y : Int32) : Stq yX5_end cX5_end 5 5 yX6_end cX6_end 3 5 (some .int) [.int x, .int y] ad nw nt B L := by
  obtain ⟨s1, s2, s3, s4, s5, s6, s7, s8, s9, s10⟩ := hR.1
  rcases in_out x (n := nt) (by omega) with ⟨t, ht, rfl⟩ | hot
  · by_cases hl : y < 0
    · exact ⟨_, _, _, _, _, c_end_lo s5 s6 ht hl, r_end_lo (by exact s4) s6 ht hl, Rel_refuse hR⟩
    · by_cases hh : 300 < y
      · exact ⟨_, _, _, _, _, c_end_hi s5 s6 ht hl hh, r_end_hi (by exact s4) s6 ht hl hh, Rel_refuse hR⟩
      · obtain ⟨k, hk, rfl⟩ := nI_of2 (M := 300) (n := 300) rfl hl (Int32.not_lt.mp hh)
        obtain ⟨r, d, ra, len, u, v, m, h12, t1, t2, t3, t4, t5, t6, t7, t8, t9, t10, t11, t12, t13, t14, t15, t16, t17, t18, t19, t20, t21, t22⟩ := tf_of hR ht
        exact ⟨_, _, _, _, _, c_end_ok s5 s6 ht t1 h12 t3 t5 t6 t8 t10 t11 t12 t13 t14 t15 t16 hk, r_end_ok s4 s6 ht t2 h12 t17 t18 t20 t21 t19 t22 t4 t5 t7 t9 t10 t11 t12 t13 t14 hk, Rel_wR hR⟩
  · exact ⟨_, _, _, _, _, c_end_1 s5 s6 hot, r_end_1 (by exact s4) s6 hot, Rel_refuse hR⟩
theorem s_wear {ad : sA} {nw nt : Nat} {B : sB} {L : sL} (hR : Rel nw nt B L) (x y : Int32) : StqL yX5_wear cX5_wear 4 5 yX6_wear cX6_wear 3 5 (some .long) [.int x, .int y] ad nw nt B L := by
  obtain ⟨s1, s2, s3, s4, s5, s6, s7, s8, s9, s10⟩ := hR.1
  rcases in_out x (n := nt) (by omega) with ⟨t, ht, rfl⟩ | hot
  · rcases in_out y (n := 2) (by omega) with ⟨k, hk, rfl⟩ | hoy
    · obtain ⟨r, d, ra, len, u, v, m, h12, t1, t2, t3, t4, t5, t6, t7, t8, t9, t10, t11, t12, t13, t14, t15, t16, t17, t18, t19, t20, t21, t22⟩ := tf_of hR ht
      rcases (show k = 0 ∨ k = 1 by omega) with rfl | rfl
      · refine ⟨_, _, _, _, _, c_wear_u s5 s6 ht, ?_, Rel_wR (p := (lN u, lN v)) hR⟩
        have h1 := r_wear_u (ad := ad) (nw := nw) (L := L) s4 s6 ht t2 h12 t17 t18 t20 t21 t19
        rw [t22] at h1
        rw [t15]
        exact h1
      · refine ⟨_, _, _, _, _, c_wear_d s5 s6 ht, ?_, Rel_wR (p := (lN u, lN v)) hR⟩
        have h1 := r_wear_d (ad := ad) (nw := nw) (L := L) s4 s6 ht t2 h12 t17 t18 t20 t21 t19
        rw [t22] at h1
        rw [t16]
        exact h1
    · exact ⟨_, _, _, _, _, c_wear_2 s5 s6 ht hoy, r_wear_2 (by exact s4) s6 ht hoy, Rel_refuse hR⟩
  · exact ⟨_, _, _, _, _, c_wear_1 s5 s6 hot, r_wear_1 (by exact s4) s6 hot, Rel_refuse hR⟩
theorem s_reading {ad : sA} {nw nt : Nat} {B : sB} {L : sL} (hR : Rel nw nt B L) (x y z : Int32) : Stq yX5_reading cX5_reading 5 5 yX6_reading cX6_reading 4 5 (some .int) [.int x, .int y, .int z] ad nw nt B L := by
  obtain ⟨s1, s2, s3, s4, s5, s6, s7, s8, s9, s10⟩ := hR.1
  rcases in_out x (n := nt) (by omega) with ⟨t, ht, rfl⟩ | hot
  · obtain ⟨a1, a2, a3, a4, a5, a6, a7, a8, a9, a10, a11, a12, a13, a14, r, h12, r1, r2, r3⟩ := hR.2.2.2.1.1 t ht
    rcases in_out y (n := r + 1) (by omega) with ⟨i, hi, rfl⟩ | hoy
    · rcases in_out z (n := 2) (by omega) with ⟨k, hk, rfl⟩ | hoz
      · obtain ⟨q1, q2, q3, q4⟩ := r3 i (by omega)
        rcases (show k = 0 ∨ k = 1 by omega) with rfl | rfl
        · exact ⟨_, _, _, _, _, c_reading_x s5 s6 ht r2 (by omega) hi, (by rw [q1]; exact r_reading_x s4 s6 ht r1 (by omega) hi), hR⟩
        · exact ⟨_, _, _, _, _, c_reading_y s5 s6 ht r2 (by omega) hi, (by rw [q3]; exact r_reading_y s4 s6 ht r1 (by omega) hi), hR⟩
      · exact ⟨_, _, _, _, _, c_reading_3 s5 s6 ht r2 (by omega) hi hoz, r_reading_3 s4 s6 ht r1 (by omega) hi hoz, hR⟩
    · exact ⟨_, _, _, _, _, c_reading_2 s5 s6 ht r2 (by omega) hoy, r_reading_2 s4 s6 ht r1 (by omega) hoy, hR⟩
  · exact ⟨_, _, _, _, _, c_reading_1 s5 s6 hot, r_reading_1 s4 s6 hot, hR⟩
theorem s_tyreOf {ad : sA} {nw nt : Nat} {B : sB} {L : sL} (hR : Rel nw nt B L) (x y : Int32) : Stq yX5_tyreOf cX5_tyreOf 4 5 yX6_tyreOf cX6_tyreOf 3 5 (some .int) [.int x, .int y] ad nw nt B L := by
  obtain ⟨s1, s2, s3, s4, s5, s6, s7, s8, s9, s10⟩ := hR.1
  rcases in_out x (n := nt) (by omega) with ⟨t, ht, rfl⟩ | hot
  · rcases in_out y (n := 9) (by omega) with ⟨k, hk, rfl⟩ | hoy
    · obtain ⟨a1, a2, a3, a4, a5, a6, a7, a8, a9, a10, a11, a12, a13, a14, r, h12, r1, r2, r3⟩ := hR.2.2.2.1.1 t ht
      rcases (show k = 0 ∨ k = 1 ∨ k = 2 ∨ k = 3 ∨ k = 4 ∨ k = 5 ∨ k = 6 ∨ k = 7 ∨ k = 8 by omega) with rfl | rfl | rfl | rfl | rfl | rfl | rfl | rfl | rfl
      · exact ⟨_, _, _, _, _, c_tyreOf_k0 s5 s6 ht, (by rw [a2]; exact r_tyreOf_k0 s4 s6 ht), hR⟩
      · exact ⟨_, _, _, _, _, c_tyreOf_k1 s5 s6 ht, (by rw [a4]; exact r_tyreOf_k1 s4 s6 ht), hR⟩
      · exact ⟨_, _, _, _, _, c_tyreOf_k2 s5 s6 ht, (by rw [a5]; exact r_tyreOf_k2 s4 s6 ht), hR⟩
      · exact ⟨_, _, _, _, _, c_tyreOf_k3 s5 s6 ht, (by rw [a7]; exact r_tyreOf_k3 s4 s6 ht), hR⟩
      · exact ⟨_, _, _, _, _, c_tyreOf_k4 s5 s6 ht, (by rw [a9]; exact r_tyreOf_k4 s4 s6 ht), hR⟩
      · exact ⟨_, _, _, _, _, c_tyreOf_k5 s5 s6 ht, (by rw [r2, ← r1]; exact r_tyreOf_k5 s4 s6 ht), hR⟩
      · exact ⟨_, _, _, _, _, c_tyreOf_k6 s5 s6 ht, (by rw [a11]; exact r_tyreOf_k6 s4 s6 ht), hR⟩
      · obtain ⟨r, d, ra, len, u, v, m, h12, t1, t2, t3, t4, t5, t6, t7, t8, t9, t10, t11, t12, t13, t14, t15, t16, t17, t18, t19, t20, t21, t22⟩ := tf_of hR ht
        exact ⟨_, _, _, _, _, c_tyreOf_k7 s5 s6 ht t1 h12 t3 t5 t6 t8 t10 t11 t12 t13 t14 t15 t16, r_tyreOf_k7 s4 s6 ht t2 h12 t17 t18 t20 t21 t19 t22 t4 t5 t7 t9 t10 t11 t12 t13 t14, Rel_wR hR⟩
      · by_cases hwh : B 47 0 t = -2
        · exact ⟨_, _, _, _, _, c_tyreOf_k8 s5 s6 ht, (by rw [(a13 hwh).1]; exact r_tyreOf_k8a s4 s6 ht hwh), hR⟩
        · exact ⟨_, _, _, _, _, c_tyreOf_k8 s5 s6 ht, (by rw [a14 hwh]; exact r_tyreOf_k8b s4 s6 ht hwh), hR⟩
    · exact ⟨_, _, _, _, _, c_tyreOf_2 s5 s6 ht hoy, r_tyreOf_2 s4 s6 ht hoy, hR⟩
  · exact ⟨_, _, _, _, _, c_tyreOf_1 s5 s6 hot, r_tyreOf_1 s4 s6 hot, hR⟩
