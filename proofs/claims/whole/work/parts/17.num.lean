/-! ===== numbers: longs without wrap-around, sums over the readings, Euclid ===== -/
theorem bm64 {n : Int} (h1 : -9223372036854775808 ≤ n) (h2 : n < 9223372036854775808) : n.bmod (2 ^ 64) = n := by
  simp only [Int.bmod]
  split <;> omega
theorem bm32 {n : Int} (h1 : -2147483648 ≤ n) (h2 : n < 2147483648) : n.bmod (2 ^ 32) = n := by
  simp only [Int.bmod]
  split <;> omega
theorem l_add {x y : Int64} (h1 : -9223372036854775808 ≤ x.toInt + y.toInt) (h2 : x.toInt + y.toInt < 9223372036854775808) : (x + y).toInt = x.toInt + y.toInt := by rw [Int64.toInt_add, bm64 h1 h2]
theorem l_sub {x y : Int64} (h1 : -9223372036854775808 ≤ x.toInt - y.toInt) (h2 : x.toInt - y.toInt < 9223372036854775808) : (x - y).toInt = x.toInt - y.toInt := by rw [Int64.toInt_sub, bm64 h1 h2]
theorem l_mul {x y : Int64} (h1 : -9223372036854775808 ≤ x.toInt * y.toInt) (h2 : x.toInt * y.toInt < 9223372036854775808) : (x * y).toInt = x.toInt * y.toInt := by rw [Int64.toInt_mul, bm64 h1 h2]
theorem l_of {x : Int64} {n : Nat} (h : x.toInt = n) (hn : n < 2 ^ 63) : x = lN n := by
  apply Int64.toInt_inj.mp
  rw [h, pk_lT hn]
theorem l_i {x : Int32} : x.toInt64.toInt = x.toInt := Int32.toInt_toInt64 x
theorem l_nI {n : Nat} (h : n < 2 ^ 31) : (nI n).toInt64.toInt = n := by rw [l_i, nI_toInt h]
def iX (a : Nat → Int32) : Nat → Int
  | 0 => 0
  | n + 1 => iX a n + (a n).toInt
def iXY (a b : Nat → Int32) : Nat → Int
  | 0 => 0
  | n + 1 => iXY a b n + (a n).toInt * (b n).toInt
theorem iX_b {a : Nat → Int32} {M : Int} : ∀ n, (∀ i, i < n → 0 ≤ (a i).toInt ∧ (a i).toInt ≤ M) → 0 ≤ iX a n ∧ iX a n ≤ n * M
  | 0, _ => by simp [iX]
  | n + 1, h => by
    have h1 := iX_b n (fun i hi => h i (by omega))
    have h2 := h n (by omega)
    have e : ((n + 1 : Nat) : Int) * M = n * M + M := by grind
    simp only [iX]
    omega
theorem iXY_b {a b : Nat → Int32} {M K : Int} : ∀ n, (∀ i, i < n → 0 ≤ (a i).toInt ∧ (a i).toInt ≤ M) → (∀ i, i < n → 0 ≤ (b i).toInt ∧ (b i).toInt ≤ K) → 0 ≤ iXY a b n ∧ iXY a b n ≤ n * (M * K)
  | 0, _, _ => by simp [iXY]
  | n + 1, h, k => by
    have h1 := iXY_b n (fun i hi => h i (by omega)) (fun i hi => k i (by omega))
    have h2 := h n (by omega)
    have k2 := k n (by omega)
    have e : ((n + 1 : Nat) : Int) * (M * K) = n * (M * K) + M * K := by grind
    have h3 : 0 ≤ (a n).toInt * (b n).toInt := Int.mul_nonneg h2.1 k2.1
    have h4 : (a n).toInt * (b n).toInt ≤ M * K := Int.mul_le_mul h2.2 k2.2 k2.1 (by omega)
    simp only [iXY]
    omega
/-- a reading's lengths and depth -/
def okR (a : Nat → Int32) (n : Nat) (M : Int) : Prop := ∀ i, i < n → 0 ≤ (a i).toInt ∧ (a i).toInt ≤ M
theorem okR.le {a : Nat → Int32} {n m : Nat} {M : Int} (h : okR a n M) (hm : m ≤ n) : okR a m M := fun i hi => h i (by omega)
theorem sX_i {a : Nat → Int32} {M : Int} (hM : M ≤ 1000000) : ∀ n, n ≤ 12 → okR a n M → (sX a n).toInt = iX a n
  | 0, _, _ => rfl
  | n + 1, h12, h => by
    have h1 := sX_i hM n (by omega) (h.le (by omega))
    have h2 := iX_b n (h.le (Nat.le_succ n))
    have h3 := h n (by omega)
    have h5 : (n : Int) * M ≤ 12 * 1000000 := by
      have : (n : Int) * M ≤ n * 1000000 := Int.mul_le_mul_of_nonneg_left hM (by omega)
      omega
    simp only [sX, iX]
    rw [l_add, h1, l_i]
    · rw [h1, l_i]; omega
    · rw [h1, l_i]; omega
theorem sXY_i {a b : Nat → Int32} {M K : Int} (hM : M ≤ 1000000) (hK : K ≤ 1000000) (hM0 : 0 ≤ M) (hK0 : 0 ≤ K) : ∀ n, n ≤ 12 → okR a n M → okR b n K → (sXY a b n).toInt = iXY a b n
  | 0, _, _, _ => rfl
  | n + 1, h12, h, k => by
    have h1 := sXY_i hM hK hM0 hK0 n (by omega) (h.le (by omega)) (k.le (by omega))
    have h2 := iXY_b n (h.le (Nat.le_succ n)) (k.le (Nat.le_succ n))
    have h3 := h n (by omega)
    have k3 := k n (by omega)
    have h4 : 0 ≤ (a n).toInt * (b n).toInt := Int.mul_nonneg h3.1 k3.1
    have h5 : (a n).toInt * (b n).toInt ≤ 1000000 * 1000000 := Int.mul_le_mul (by omega) (by omega) k3.1 (by omega)
    have h6 : M * K ≤ 1000000 * 1000000 := Int.mul_le_mul hM hK hK0 (by omega)
    have h7 : (n : Int) * (M * K) ≤ n * (1000000 * 1000000) := Int.mul_le_mul_of_nonneg_left h6 (by omega)
    have hm : ((a n).toInt64 * (b n).toInt64).toInt = (a n).toInt * (b n).toInt := by
      rw [l_mul, l_i, l_i]
      · rw [l_i, l_i]; omega
      · rw [l_i, l_i]; omega
    simp only [sXY, iXY]
    rw [l_add, h1, hm]
    · rw [h1, hm]; omega
    · rw [h1, hm]; omega
theorem sXX_xy (a : Nat → Int32) : ∀ n, sXX a n = sXY a a n
  | 0 => rfl
  | n + 1 => by simp only [sXX, sXY, sXX_xy a n]
theorem sq_nn (x : Int) : 0 ≤ x * x := by
  rcases Int.le_total 0 x with h | h
  · exact Int.mul_nonneg h h
  · exact Int.mul_nonneg_of_nonpos_of_nonpos h h
theorem cs1 (a : Nat → Int32) (x : Int) : ∀ n, 0 ≤ iXY a a n - 2 * x * iX a n + n * (x * x)
  | 0 => by simp [iXY, iX]
  | n + 1 => by
    have h1 := cs1 a x n
    have h2 := sq_nn ((a n).toInt - x)
    have e : iXY a a (n + 1) - 2 * x * iX a (n + 1) + ((n + 1 : Nat) : Int) * (x * x) = (iXY a a n - 2 * x * iX a n + n * (x * x)) + ((a n).toInt - x) * ((a n).toInt - x) := by
      simp only [iXY, iX]
      grind
    omega
/-- Cauchy and Schwarz -/
theorem cs2 (a : Nat → Int32) : ∀ n : Nat, 0 ≤ n * iXY a a n - iX a n * iX a n
  | 0 => by simp [iXY, iX]
  | n + 1 => by
    have h1 := cs2 a n
    have h2 := cs1 a (a n).toInt n
    have e : ((n + 1 : Nat) : Int) * iXY a a (n + 1) - iX a (n + 1) * iX a (n + 1) = (n * iXY a a n - iX a n * iX a n) + (iXY a a n - 2 * (a n).toInt * iX a n + n * ((a n).toInt * (a n).toInt)) := by
      simp only [iXY, iX]
      grind
    omega
theorem wD0_i {a : Nat → Int32} {n : Nat} (h12 : n ≤ 12) (h : okR a n 1000000) : (wD0 a n).toInt = n * iXY a a n - iX a n * iX a n ∧ 0 ≤ (wD0 a n).toInt ∧ (wD0 a n).toInt ≤ 144000000000000 := by
  have h1 := sX_i (Int.le_refl _) n h12 h
  have h2 : (sXX a n).toInt = iXY a a n := by rw [sXX_xy]; exact sXY_i (Int.le_refl _) (Int.le_refl _) (by omega) (by omega) n h12 h h
  have b1 := iX_b n h
  have b2 := iXY_b n h h
  have c := cs2 a n
  have hn : ((nI n).toInt64).toInt = n := l_nI (by omega)
  have hn12 : (n : Int) ≤ 12 := by omega
  have g1 : (n : Int) * iXY a a n ≤ 12 * 12000000000000 := Int.mul_le_mul hn12 (by omega) b2.1 (by omega)
  have g0 : 0 ≤ (n : Int) * iXY a a n := Int.mul_nonneg (by omega) b2.1
  have g2 := sq_nn (iX a n)
  have e1 : ((nI n).toInt64 * sXX a n).toInt = n * iXY a a n := by
    rw [l_mul, hn, h2]
    · rw [hn, h2]; omega
    · rw [hn, h2]; omega
  have e2 : (sX a n * sX a n).toInt = iX a n * iX a n := by
    rw [l_mul, h1]
    · rw [h1]; omega
    · rw [h1]; omega
  have e3 : (wD0 a n).toInt = n * iXY a a n - iX a n * iX a n := by
    unfold wD0
    rw [l_sub, e1, e2]
    · rw [e1, e2]; omega
    · rw [e1, e2]; omega
  exact ⟨e3, by omega, by omega⟩
theorem wU0_i {a b : Nat → Int32} {n : Nat} (h12 : n ≤ 12) (h : okR a n 1000000) (k : okR b n 300) : (wU0 a b n).toInt ≤ 43200000000 ∧ -43200000000 ≤ (wU0 a b n).toInt := by
  have h1 := sX_i (Int.le_refl _) n h12 h
  have k1 := sX_i (a := b) (M := 300) (by omega) n h12 k
  have h2 : (sXY a b n).toInt = iXY a b n := sXY_i (M := 1000000) (K := 300) (Int.le_refl _) (by omega) (by omega) (by omega) n h12 h k
  have b1 := iX_b n h
  have b3 := iX_b (M := 300) n k
  have b2 := iXY_b (K := 300) n h k
  have hn : ((nI n).toInt64).toInt = n := l_nI (by omega)
  have hn12 : (n : Int) ≤ 12 := by omega
  have g1 : (n : Int) * iXY a b n ≤ 12 * 3600000000 := Int.mul_le_mul hn12 (by omega) b2.1 (by omega)
  have g0 : 0 ≤ (n : Int) * iXY a b n := Int.mul_nonneg (by omega) b2.1
  have g2 : iX a n * iX b n ≤ 12000000 * 3600 := Int.mul_le_mul (by omega) (by omega) b3.1 (by omega)
  have g3 : 0 ≤ iX a n * iX b n := Int.mul_nonneg b1.1 b3.1
  have e1 : ((nI n).toInt64 * sXY a b n).toInt = n * iXY a b n := by
    rw [l_mul, hn, h2]
    · rw [hn, h2]; omega
    · rw [hn, h2]; omega
  have e2 : (sX a n * sX b n).toInt = iX a n * iX b n := by
    rw [l_mul, h1, k1]
    · rw [h1, k1]; omega
    · rw [h1, k1]; omega
  have e3 : (wU0 a b n).toInt = iX a n * iX b n - n * iXY a b n := by
    unfold wU0
    rw [l_sub, e1, e2]
    · rw [e1, e2]; omega
    · rw [e1, e2]; omega
  omega
/-! Euclid -/
def gN : Nat → Nat → Nat → Nat
  | 0, a, _ => a
  | n + 1, a, b => if b = 0 then a else gN n b (a % b)
def gE : Nat → Nat → Nat → Prop
  | 0, _, b => b = 0
  | n + 1, a, b => b = 0 ∨ gE n b (a % b)
theorem lN_0 {b : Nat} (hb : b < 2 ^ 63) : lN b = 0 ↔ b = 0 := by
  have := pk_lEQ (a := b) (b := 0) hb (by decide)
  exact this
theorem gcS_N : ∀ (n a b : Nat), a < 2 ^ 63 → b < 2 ^ 63 → gcS n (lN a) (lN b) = lN (gN n a b)
  | 0, _, _, _, _ => rfl
  | n + 1, a, b, ha, hb => by
    simp only [gcS, gN]
    by_cases h : b = 0
    · rw [if_pos ((lN_0 hb).mpr h), if_pos h]
    · rw [if_neg (fun z => h ((lN_0 hb).mp z)), if_neg h, pk_lRem ha (by omega) hb]
      exact gcS_N n b (a % b) hb (by have := Nat.mod_lt a (show 0 < b by omega); omega)
theorem gN_pos : ∀ (n a b : Nat), 0 < a → 0 < gN n a b
  | 0, _, _, h => h
  | n + 1, a, b, h => by
    simp only [gN]
    split
    · exact h
    · exact gN_pos n b (a % b) (by omega)
theorem gN_gcd : ∀ (n a b : Nat), gE n a b → gN n a b = Nat.gcd a b
  | 0, a, b, h => by
    have hb : b = 0 := h
    subst hb
    simp [gN]
  | n + 1, a, b, h => by
    simp only [gN]
    by_cases hb : b = 0
    · subst hb
      simp
    · rw [if_neg hb, gN_gcd n b (a % b) (h.resolve_left hb), Nat.gcd_comm b, ← Nat.gcd_rec, Nat.gcd_comm]
theorem gE_up : ∀ (n a b : Nat), gE n a b → gE (n + 1) a b
  | 0, _, _, h => Or.inl h
  | n + 1, a, b, h => h.elim Or.inl (fun q => Or.inr (gE_up n b (a % b) q))
theorem gE_le {n m a b : Nat} (h : gE n a b) (hm : n ≤ m) : gE m a b := by
  induction m with
  | zero =>
    have : n = 0 := by omega
    subst this
    exact h
  | succ m ih =>
    by_cases hnm : n = m + 1
    · subst hnm
      exact h
    · exact gE_up m a b (ih (by omega))
theorem gE_two : ∀ (k a b : Nat), b < 2 ^ k → gE (2 * k) a b
  | 0, a, b, h => by
    have : b = 0 := by simpa using h
    exact this
  | k + 1, a, b, h => by
    rw [show 2 * (k + 1) = 2 * k + 1 + 1 by omega]
    by_cases hb : b = 0
    · exact Or.inl hb
    · refine Or.inr ?_
      by_cases hc : a % b = 0
      · exact Or.inl hc
      · refine Or.inr ?_
        have h1 := Nat.mod_lt a (show 0 < b by omega)
        have h2 : b % (a % b) < 2 ^ k := by
          have h3 := Nat.mod_lt b (show 0 < a % b by omega)
          have h5 : b % (a % b) + (a % b) ≤ b := by
            have h4 := Nat.div_add_mod b (a % b)
            have h6 : 1 ≤ b / (a % b) := (Nat.one_le_div_iff (by omega)).mpr (by omega)
            have h7 : a % b * 1 ≤ a % b * (b / (a % b)) := Nat.mul_le_mul_left _ h6
            omega
          have h8 : 2 ^ (k + 1) = 2 * 2 ^ k := by rw [Nat.pow_succ, Nat.mul_comm]
          omega
        exact gE_two k (a % b) (b % (a % b)) h2
theorem gE_100 {a b : Nat} (h : b < 2 ^ 50) : gE 100 a b := gE_two 50 a b h
/-- what WEAR is: two whole numbers -/
theorem wUD_n {a b : Nat → Int32} {n : Nat} {mean : Int32} (h12 : n ≤ 12) (h : okR a n 1000000) (k : okR b n 300) (hm : 0 ≤ mean.toInt ∧ mean.toInt ≤ 1000) : ∃ u v : Nat, wUD a b n mean = (lN u, lN v) ∧ u ≤ 43200000000 ∧ 1 ≤ v ∧ v ≤ 144000000000000 ∧ ((wD0 a n = 0 ∧ mean.toInt = 0 → u = 0)) := by
  obtain ⟨-, d1, d2⟩ := wD0_i h12 h
  obtain ⟨u1, u2⟩ := wU0_i h12 h k
  have key : ∀ (U V : Int64), U.toInt ≤ 43200000000 → 0 < V.toInt → V.toInt ≤ 144000000000000 → ∃ u v : Nat, (if U ≤ 0 then ((0 : Int64), (1 : Int64)) else (U / gcS 100 U V, V / gcS 100 U V)) = (lN u, lN v) ∧ u ≤ 43200000000 ∧ 1 ≤ v ∧ v ≤ 144000000000000 ∧ (U.toInt ≤ 0 → u = 0) := by
    intro U V hU hV hV2
    by_cases h0 : U ≤ 0
    · rw [if_pos h0]
      exact ⟨0, 1, rfl, by omega, by omega, by omega, fun _ => rfl⟩
    · rw [if_neg h0]
      have h0' : 0 < U.toInt := by
        rcases Int.lt_or_le 0 U.toInt with q | q
        · exact q
        · exact (h0 (Int64.le_iff_toInt_le.mpr (show U.toInt ≤ (0 : Int64).toInt from q))).elim
      obtain ⟨x, hx⟩ : ∃ x : Nat, U.toInt = x := ⟨U.toInt.toNat, by omega⟩
      obtain ⟨y, hy⟩ : ∃ y : Nat, V.toInt = y := ⟨V.toInt.toNat, by omega⟩
      have hUx := l_of hx (by omega)
      have hVy := l_of hy (by omega)
      subst hUx
      subst hVy
      rw [gcS_N 100 x y (by omega) (by omega), gN_gcd 100 x y (gE_100 (by omega))]
      have hg : 0 < Nat.gcd x y := Nat.gcd_pos_of_pos_left y (by omega)
      have hgx : Nat.gcd x y ≤ x := Nat.gcd_le_left y (by omega)
      have hgy : Nat.gcd x y ≤ y := Nat.gcd_le_right x (by omega)
      rw [pk_lDiv (by omega) hg (by omega), pk_lDiv (by omega) hg (by omega)]
      refine ⟨_, _, rfl, ?_, ?_, ?_, fun z => by omega⟩
      · have := Nat.div_le_self x (Nat.gcd x y)
        omega
      · exact (Nat.one_le_div_iff hg).mpr hgy
      · have := Nat.div_le_self y (Nat.gcd x y)
        omega
  have e0 : (0 : Int64).toInt = 0 := rfl
  unfold wUD
  by_cases hz : wD0 a n = 0
  · simp only [if_pos hz]
    obtain ⟨u, v, q1, q2, q3, q4, q5⟩ := key mean.toInt64 100000 (by rw [l_i]; omega) (by decide) (by decide)
    exact ⟨u, v, q1, q2, q3, q4, fun z => q5 (by rw [l_i]; omega)⟩
  · simp only [if_neg hz]
    have hz2 : (wD0 a n).toInt ≠ 0 := fun z => hz (Int64.toInt_inj.mp z)
    obtain ⟨u, v, q1, q2, q3, q4, q5⟩ := key (wU0 a b n) (wD0 a n) u1 (by omega) d2
    exact ⟨u, v, q1, q2, q3, q4, fun z => (hz z.1).elim⟩
