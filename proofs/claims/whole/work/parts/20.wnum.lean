/-! ===== WEAR in whole numbers: DEPTH, END ===== -/
def wS (L : sL) (t : Nat) (p : Int64 × Int64) : sL := uL (uL L 24 t 0 p.1) 24 t 1 p.2
def wR (L : sL) (p : Int64 × Int64) : sL := uL (uL L 25 0 25 p.1) 25 0 26 p.2
theorem uL_n {L : sL} {k j i k' j' i' : Nat} {x : Int64} (hn : ¬ (k' = k ∧ j' = j ∧ i' = i)) : uL L k j i x k' j' i' = L k' j' i' := by simp only [uL, if_neg hn]
theorem uL_uL (L : sL) (k j i : Nat) (x y : Int64) : uL (uL L k j i x) k j i y = uL L k j i y := by
  funext a b c
  by_cases h : a = k ∧ b = j ∧ c = i
  · simp only [uL, if_pos h]
  · simp only [uL, if_neg h]
theorem uL_comm {L : sL} {k j i k' j' i' : Nat} {x y : Int64} (hn : ¬ (k' = k ∧ j' = j ∧ i' = i)) : uL (uL L k j i x) k' j' i' y = uL (uL L k' j' i' y) k j i x := by
  funext a b c
  by_cases h : a = k ∧ b = j ∧ c = i
  · have h2 : ¬ (a = k' ∧ b = j' ∧ c = i') := fun z => hn ⟨z.1.symm.trans h.1, z.2.1.symm.trans h.2.1, z.2.2.symm.trans h.2.2⟩
    simp only [uL, if_pos h, if_neg h2]
  · simp only [uL, if_neg h]
theorem wR_2 (L : sL) (a b c d : Int64) : uL (uL (uL (uL L 25 0 25 a) 25 0 26 b) 25 0 25 c) 25 0 26 d = wR L (c, d) := by
  unfold wR
  rw [uL_comm (L := uL L 25 0 25 a) (by decide), uL_uL, uL_uL]
theorem wR_3 (L : sL) (p : Int64 × Int64) (q : Int64 × Int64) : wR (wR L p) q = wR L q := wR_2 L p.1 p.2 q.1 q.2
theorem wR_u (L : sL) (p : Int64 × Int64) : wR L p 25 0 25 = p.1 := by
  unfold wR
  rw [uL_n (by decide), uL_s]
theorem wR_d (L : sL) (p : Int64 × Int64) : wR L p 25 0 26 = p.2 := by
  unfold wR
  rw [uL_s]
theorem wS_u (L : sL) (t : Nat) (p : Int64 × Int64) : wS L t p 24 t 0 = p.1 := by
  unfold wS
  rw [uL_n (by omega), uL_s]
theorem wS_d (L : sL) (t : Nat) (p : Int64 × Int64) : wS L t p 24 t 1 = p.2 := by
  unfold wS
  rw [uL_s]
theorem gc_pos {U V : Int64} (hU : 0 < U.toInt) (hV : 0 < V.toInt) : 0 < gcS 100 U V := by
  obtain ⟨x, hx⟩ : ∃ x : Nat, U.toInt = x := ⟨U.toInt.toNat, by omega⟩
  obtain ⟨y, hy⟩ : ∃ y : Nat, V.toInt = y := ⟨V.toInt.toNat, by omega⟩
  have hU2 := Int64.toInt_lt U
  have hV2 := Int64.toInt_lt V
  have hUx := l_of hx (by omega)
  have hVy := l_of hy (by omega)
  subst hUx
  subst hVy
  rw [gcS_N 100 x y (by omega) (by omega)]
  have h1 := gN_pos 100 x y (by omega)
  have h2 : gN 100 x y < 2 ^ 63 := by
    have : ∀ n a b, a < 2 ^ 63 → b < 2 ^ 63 → gN n a b < 2 ^ 63 := by
      intro n
      induction n with
      | zero => intro a b ha hb; exact ha
      | succ n ih =>
        intro a b ha hb
        simp only [gN]
        split
        · exact ha
        · exact ih b (a % b) hb (by have := Nat.mod_lt a (show 0 < b by omega); omega)
    exact this 100 x y (by omega) (by omega)
  exact (pk_lLT (a := 0) (by decide) h2).mpr h1
theorem l_nle {U : Int64} (h : ¬ U ≤ 0) : 0 < U.toInt := by
  rcases Int.lt_or_le 0 U.toInt with q | q
  · exact q
  · exact (h (Int64.le_iff_toInt_le.mpr (show U.toInt ≤ (0 : Int64).toInt from q))).elim
theorem c_fitWear {ad : sA} {nw nt : Nat} {B : sB} {L : sL} {t r : Nat} {mean : Int32} (ht : t < nt) (hr : B 21 t 6 = nI r) (h12 : r ≤ 12) (ho : okR (B 22 t) r 1000000) : Cf yX2_fitWear cX2_fitWear 15 none 3 [.ref (ad 21 t), .int mean] ad nw nt B L none B (wS L t (wUD (B 22 t) (B 23 t) r mean)) := by
  obtain ⟨-, d1, d2⟩ := wD0_i h12 ho
  unfold wS wUD
  by_cases hz : wD0 (B 22 t) r = 0
  · simp only [if_pos hz]
    have hz2 : wD0 (B 22 t) r ≤ 0 := by rw [hz]; decide
    by_cases hu : mean.toInt64 ≤ 0
    · simp only [if_pos hu]
      exact c_fitWear_a ht hr h12 hz2 hu
    · simp only [if_neg hu]
      exact c_fitWear_b ht hr h12 hz2 hu (gc_pos (l_nle hu) (by decide))
  · simp only [if_neg hz]
    have hz2 : ¬ wD0 (B 22 t) r ≤ 0 := fun z => by
      have h1 := Int64.le_iff_toInt_le.mp z
      have h2 : (0 : Int64).toInt = 0 := rfl
      exact hz (Int64.toInt_inj.mp (by omega))
    by_cases hu : wU0 (B 22 t) (B 23 t) r ≤ 0
    · simp only [if_pos hu]
      exact c_fitWear_c ht hr h12 hz2 hu
    · simp only [if_neg hu]
      exact c_fitWear_d ht hr h12 hz2 hu (gc_pos (l_nle hu) (l_nle hz2))
theorem sX_congr {a a' : Nat → Int32} : ∀ n, (∀ i, i < n → a i = a' i) → sX a n = sX a' n
  | 0, _ => rfl
  | n + 1, h => by simp only [sX]; rw [sX_congr n (fun i hi => h i (by omega)), h n (by omega)]
theorem sXX_congr {a a' : Nat → Int32} : ∀ n, (∀ i, i < n → a i = a' i) → sXX a n = sXX a' n
  | 0, _ => rfl
  | n + 1, h => by simp only [sXX]; rw [sXX_congr n (fun i hi => h i (by omega)), h n (by omega)]
theorem sXY_congr {a a' b b' : Nat → Int32} : ∀ n, (∀ i, i < n → a i = a' i) → (∀ i, i < n → b i = b' i) → sXY a b n = sXY a' b' n
  | 0, _, _ => rfl
  | n + 1, h, k => by simp only [sXY]; rw [sXY_congr n (fun i hi => h i (by omega)) (fun i hi => k i (by omega)), h n (by omega), k n (by omega)]
theorem wUD_congr {a a' b b' : Nat → Int32} {n : Nat} {m : Int32} (h : ∀ i, i < n → a i = a' i) (k : ∀ i, i < n → b i = b' i) : wUD a b n m = wUD a' b' n m := by
  have e1 : wD0 a n = wD0 a' n := by unfold wD0; rw [sXX_congr n h, sX_congr n h]
  have e2 : wU0 a b n = wU0 a' b' n := by unfold wU0; rw [sX_congr n h, sX_congr n k, sXY_congr n h k]
  unfold wUD
  rw [e1, e2]
/-- DEPTH: d the latest reading, z lengths since; the wear is u by v -/
def dpN (d v u z : Nat) : Nat := (d * v - u * z) / v
/-- END for the least l -/
def enN (d v u z l : Nat) : Nat := if l = 0 then 1000000 else if d < l then 0 else if u = 0 then 1000000 else min 1000000 ((d - l) * v / u - z)
theorem dpN_le {d v u z : Nat} (hv : 1 ≤ v) : dpN d v u z ≤ d := by
  unfold dpN
  calc (d * v - u * z) / v ≤ d * v / v := Nat.div_le_div_right (Nat.sub_le _ _)
    _ = d := Nat.mul_div_cancel d (by omega)
theorem enN_le (d v u z l : Nat) : enN d v u z l ≤ 1000000 := by
  unfold enN
  split
  · omega
  · split
    · omega
    · split
      · omega
      · omega
theorem enN_0 {d v u z l : Nat} (hv : 1 ≤ v) (h : dpN d v u z < l) : enN d v u z l = 0 := by
  unfold enN
  rw [if_neg (by omega)]
  by_cases h1 : d < l
  · rw [if_pos h1]
  · rw [if_neg h1]
    by_cases hu : u = 0
    · subst hu
      unfold dpN at h
      rw [Nat.zero_mul, Nat.sub_zero, Nat.mul_div_cancel d (by omega)] at h
      omega
    · rw [if_neg hu]
      unfold dpN at h
      have h2 : d * v - u * z < l * v := (Nat.div_lt_iff_lt_mul (by omega)).mp h
      have h3 : (d - l) * v = d * v - l * v := Nat.sub_mul d l v
      have h4 : l * v ≤ d * v := Nat.mul_le_mul_right v (by omega)
      have h5 : (d - l) * v < u * z := by
        rcases Nat.lt_or_ge (l * v) 1 with q | q
        · omega
        · omega
      have h6 : (d - l) * v / u < z := (Nat.div_lt_iff_lt_mul (by omega)).mpr (by rw [Nat.mul_comm z u]; exact h5)
      omega
theorem enN_4 {d v u z l : Nat} (hv : 1 ≤ v) (hl : 0 < l) (hu : 0 < u) (h : l ≤ dpN d v u z) : l ≤ d ∧ z ≤ (d - l) * v / u ∧ enN d v u z l = min 1000000 ((d - l) * v / u - z) := by
  have h0 := dpN_le (d := d) (u := u) (z := z) hv
  have hld : l ≤ d := by omega
  unfold dpN at h
  have h2 : l * v ≤ d * v - u * z := (Nat.le_div_iff_mul_le (by omega)).mp h
  have h3 : (d - l) * v = d * v - l * v := Nat.sub_mul d l v
  have h5 : 0 < l * v := Nat.mul_pos hl (by omega)
  have h6 : z ≤ (d - l) * v / u := (Nat.le_div_iff_mul_le hu).mpr (by rw [Nat.mul_comm z u]; omega)
  refine ⟨by omega, h6, ?_⟩
  unfold enN
  rw [if_neg (by omega), if_neg (by omega), if_neg (by omega)]
theorem l_neg {a b : Nat} (ha : a < 2 ^ 62) (hb : b < 2 ^ 62) (h : a < b) : (lN a - lN b).toInt = (a : Int) - b ∧ lN a - lN b < 0 := by
  have e : (lN a - lN b).toInt = (a : Int) - b := by
    rw [l_sub, pk_lT (by omega), pk_lT (by omega)]
    · rw [pk_lT (by omega), pk_lT (by omega)]; omega
    · rw [pk_lT (by omega), pk_lT (by omega)]; omega
  refine ⟨e, Int64.lt_iff_toInt_lt.mpr ?_⟩
  rw [e]
  have : (0 : Int64).toInt = 0 := rfl
  omega
theorem lN_npos {a : Nat} (h : a < 2 ^ 63) : ¬ lN a < 0 := fun z => by
  have := (pk_lLT (a := a) (b := 0) h (by decide)).mp z
  omega
theorem xor_neg (x y : Int64) : (x ^^^ y < 0) ↔ ((x < 0) ↔ ¬ (y < 0)) := by
  have key : ∀ z : Int64, z < 0 ↔ z.toBitVec.msb = true := by
    intro z
    rw [Int64.lt_iff_toBitVec_slt]
    show z.toBitVec.slt 0#64 = true ↔ _
    rw [BitVec.slt_zero_eq_msb]
  rw [key, key, key, Int64.toBitVec_xor, BitVec.msb_xor]
  cases x.toBitVec.msb <;> cases y.toBitVec.msb <;> simp
theorem flD_nn {a b : Nat} (ha : a < 2 ^ 63) (hb : b < 2 ^ 63) (h0 : 0 < b) : flD (lN a) (lN b) = lN (a / b) := by
  unfold flD
  rw [if_neg, pk_lDiv ha h0 hb]
  intro z
  have := (xor_neg _ _).mp z.1
  exact lN_npos ha (this.mpr (lN_npos hb))
theorem flD_neg {x : Int64} {b : Nat} (hx : x < 0) (hb : b < 2 ^ 63) (h0 : 0 < b) : flD x (lN b) < 0 := by
  have hx2 : x.toInt < 0 := Int64.lt_iff_toInt_lt.mp hx
  have hx3 := Int64.le_toInt x
  have hbI := pk_lT hb
  have hdv : (x / lN b).toInt = x.toInt.tdiv b := by
    rw [Int64.toInt_div, hbI]
    apply bm64
    · have h1 := Int.natAbs_tdiv_le_natAbs x.toInt b
      omega
    · have h1 := Int.natAbs_tdiv_le_natAbs x.toInt b
      have h2 : x.toInt.tdiv b ≤ 0 := by
        rw [← Int.neg_nonneg, ← Int.neg_tdiv]
        exact Int.tdiv_nonneg (by omega) (by omega)
      omega
  have hle : x.toInt.tdiv b ≤ 0 := by
    rw [← Int.neg_nonneg, ← Int.neg_tdiv]
    exact Int.tdiv_nonneg (by omega) (by omega)
  have hz : (0 : Int64).toInt = 0 := rfl
  unfold flD
  by_cases hc : x / lN b * lN b = x
  · rw [if_neg (fun z => z.2 hc)]
    refine Int64.lt_iff_toInt_lt.mpr ?_
    rw [hdv, hz]
    rcases Int.lt_or_eq_of_le hle with h | h
    · exact h
    · exfalso
      have h2 : x / lN b = 0 := Int64.toInt_inj.mp (by rw [hdv, h]; rfl)
      rw [h2, Int64.zero_mul] at hc
      rw [← hc] at hx
      exact absurd hx (by decide)
  · rw [if_pos ⟨(xor_neg _ _).mpr ⟨fun _ => lN_npos hb, fun _ => hx⟩, hc⟩]
    refine Int64.lt_iff_toInt_lt.mpr ?_
    have hb2 : x.toInt.tdiv b - 1 ≥ -9223372036854775808 := by
      have h1 := Int.natAbs_tdiv_le_natAbs x.toInt b
      rcases Nat.lt_or_ge 1 b with h | h
      · have : x.toInt.tdiv b ≠ -9223372036854775808 := by
          intro h3
          have h4 : x.toInt.natAbs / b = 9223372036854775808 := by
            have := Int.natAbs_tdiv x.toInt b
            rw [h3] at this
            exact (this.symm.trans rfl)
          have h5 : x.toInt.natAbs ≤ 9223372036854775808 := by omega
          have h6 : x.toInt.natAbs / b ≤ 9223372036854775808 / 2 := by
            calc x.toInt.natAbs / b ≤ x.toInt.natAbs / 2 := Nat.div_le_div_left h (by omega)
              _ ≤ 9223372036854775808 / 2 := Nat.div_le_div_right h5
          omega
        omega
      · have : b = 1 := by omega
        subst this
        exfalso
        apply hc
        apply Int64.toInt_inj.mp
        have e1 : lN 1 = 1 := rfl
        rw [e1, Int64.mul_one]
        rw [e1] at hdv
        rw [hdv]
        simp
    rw [l_sub, hdv, hz]
    · have : (1 : Int64).toInt = 1 := rfl
      omega
    · rw [hdv]
      have : (1 : Int64).toInt = 1 := rfl
      omega
    · rw [hdv]
      have : (1 : Int64).toInt = 1 := rfl
      omega
