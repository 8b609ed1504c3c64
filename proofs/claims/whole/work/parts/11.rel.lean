/-! ===== THE RELATION between the class's cells and the reference's ===== -/
def u2 (f : Nat → Nat → Int32) (j i : Nat) (x : Int32) : Nat → Nat → Int32 := fun j' i' => if j' = j ∧ i' = i then x else f j' i'
theorem uB_k {B : sB} {k j i k' : Nat} {x : Int32} (hn : k' ≠ k) : uB B k j i x k' = B k' := by
  funext j' i'
  exact uB_n (fun q => hn q.1)
theorem uB_2 (B : sB) (k j i : Nat) (x : Int32) : uB B k j i x k = u2 (B k) j i x := by
  funext j' i'
  simp [uB, u2]
theorem u2_a (f : Nat → Nat → Int32) (j i : Nat) (x : Int32) : u2 f j i x j = upd (f j) i x := by
  funext i'
  simp [u2, upd]
theorem u2_r {f : Nat → Nat → Int32} {j i j' : Nat} {x : Int32} (hn : j' ≠ j) : u2 f j i x j' = f j' := by
  funext i'
  simp [u2, hn]
theorem u2_n {f : Nat → Nat → Int32} {j i j' i' : Nat} {x : Int32} (hn : ¬ (j' = j ∧ i' = i)) : u2 f j i x j' i' = f j' i' := by
  unfold u2
  rw [if_neg hn]
theorem u2_s (f : Nat → Nat → Int32) (j i : Nat) (x : Int32) : u2 f j i x j i = x := by simp [u2]
theorem upd_s (f : Nat → Int32) (i : Nat) (x : Int32) : upd f i x i = x := by simp [upd]
theorem upd_n {f : Nat → Int32} {i i' : Nat} {x : Int32} (hn : i' ≠ i) : upd f i x i' = f i' := by simp [upd, hn]
theorem uL_k {L : sL} {k j i k' : Nat} {x : Int64} (hn : k' ≠ k) : uL L k j i x k' = L k' := by
  funext j' i'
  simp only [uL]
  rw [if_neg (fun q => hn q.1)]
def bd (x : Int32) (n : Nat) : Prop := ∃ k, k ≤ n ∧ x = nI k
/-- scalars -/
def RelS (nw nt : Nat) (c r : Nat → Int32) : Prop := r 4 = nI nw ∧ c 8 = nI nw ∧ nw ≤ 5 ∧ r 5 = nI nt ∧ c 9 = nI nt ∧ nt ≤ 40 ∧ c 11 = r 3 ∧ bd (r 3) 2000 ∧ c 10 = r 6 ∧ bd (r 6) 100
/-- LEASTs, MEANs, REFUSALS -/
def RelP (c3 c4 c5 r0 r1 r2 : Nat → Int32) : Prop := (∀ k, k < 5 → c3 k = r1 k ∧ bd (r1 k) 100) ∧ (∀ m, m < 4 → c4 m = r2 m ∧ bd (r2 m) 1000) ∧ ∀ i, i < 7 → c5 i = r0 i
/-- the pair of a place: the twins as they come -/
def twN (k : Nat → Int32) : Nat → Nat
  | 0 => 0
  | p + 1 => twN k p + if k p = 2 then 1 else 0
/-- q and p are a pair among the first n places -/
def twP (k : Nat → Int32) (n q p : Nat) : Prop := q < n ∧ p < n ∧ k q = 2 ∧ k p = 2 ∧ ((twN k q % 2 = 0 ∧ twN k p = twN k q + 1) ∨ (twN k p % 2 = 0 ∧ twN k q = twN k p + 1))
def twO (k : Nat → Int32) (n q : Nat) (x : Int32) : Prop := (∃ p, twP k n q p ∧ x = nI p) ∨ (x = -1 ∧ ∀ p, ¬ twP k n q p)
/-- one wagon: w its number, p its places -/
def RelW1 (nt w p : Nat) (c18 c19 c20 : Nat → Int32) (r8 r9 r10 r11 r17 : Nat → Int32) : Prop := p ≤ 7 ∧ c18 0 = nI w ∧ c18 3 = nI p ∧ r8 w = nI p ∧ (∀ q, q < p → c19 q = r9 (7 * w + q) ∧ bd (c19 q) 4 ∧ c20 q = r10 (7 * w + q) ∧ (c20 q = -1 ∨ ∃ t, t < nt ∧ c20 q = nI t ∧ r17 t = nI (10 * w + q)) ∧ twO c19 p q (r11 (7 * w + q))) ∧ ∀ q, p ≤ q → q < 7 → c20 q = -1
def RelW (nw nt : Nat) (c18 c19 c20 : Nat → Nat → Int32) (r8 r9 r10 r11 r17 : Nat → Int32) : Prop := (∀ w, w < nw → ∃ p, RelW1 nt w p (c18 w) (c19 w) (c20 w) r8 r9 r10 r11 r17) ∧ ∀ w, nw ≤ w → w < 5 → r8 w = 0
def lea (x y : Int32) : Prop := ∃ k n, x = nI k ∧ y = nI n ∧ k ≤ n ∧ n ≤ 1000000
/-- one tyre -/
def RelT1 (t : Nat) (dy : Int32) (c21 c22 c23 : Nat → Int32) (r12 r13 r14 r15 r16 r17 r18 r19 r20 r21 : Nat → Int32) : Prop :=
  c21 0 = nI t ∧ c21 1 = r12 t ∧ (∃ m, m < 4 ∧ r12 t = nI m) ∧ c21 2 = r13 t ∧ c21 7 = r14 t ∧ True ∧ c21 8 = r15 t ∧ bd (r15 t) 9 ∧ c21 9 = r16 t ∧ bd (r16 t) 1000000 ∧ c21 10 = r17 t ∧
  (r17 t = -1 ∨ r17 t = -2 ∨ r17 t = -3 ∨ ∃ k, k ≤ 46 ∧ r17 t = nI k) ∧ (r17 t = -2 → c21 11 = r18 t ∧ ∃ b d, b ≤ 2000 ∧ r18 t = nI b ∧ dy = nI d ∧ d < b) ∧ (¬ r17 t = -2 → c21 11 = -9) ∧
  ∃ r, r < 12 ∧ r19 t = nI (r + 1) ∧ c21 6 = nI (r + 1) ∧ ∀ i, i ≤ r → c22 i = r20 (13 * t + i) ∧ lea (c22 i) (r16 t) ∧ c23 i = r21 (13 * t + i) ∧ bd (c23 i) 300
def RelT (nt : Nat) (dy : Int32) (c21 c22 c23 : Nat → Nat → Int32) (r12 r13 r14 r15 r16 r17 r18 r19 r20 r21 : Nat → Int32) : Prop := (∀ t, t < nt → RelT1 t dy (c21 t) (c22 t) (c23 t) r12 r13 r14 r15 r16 r17 r18 r19 r20 r21) ∧ ∀ t, nt ≤ t → t < 40 → r14 t = 0 ∧ r15 t = 0
/-- where a tyre was: the last row of the log that fits -/
def wl (num day wh : Nat → Int32) : Nat → Int32 → Int32 → Int32
  | 0, _, _ => -9
  | k + 1, t, dy => if num k = t ∧ day k ≤ dy then wh k else wl num day wh k t dy
def RelG (c6 c7 c8 c9 r r22 r23 r24 : Nat → Int32) : Prop := ∃ k, k ≤ 600 ∧ c6 3 = nI k ∧ r 7 = nI k ∧ ∀ t dy, wl c8 c7 c9 k t dy = wl r22 r23 r24 k t dy
/-- WEAR, as both compute it: sums over the readings -/
def sX (a : Nat → Int32) : Nat → Int64
  | 0 => 0
  | n + 1 => sX a n + (a n).toInt64
def sXX (a : Nat → Int32) : Nat → Int64
  | 0 => 0
  | n + 1 => sXX a n + (a n).toInt64 * (a n).toInt64
def sXY (a b : Nat → Int32) : Nat → Int64
  | 0 => 0
  | n + 1 => sXY a b n + (a n).toInt64 * (b n).toInt64
def wU0 (a b : Nat → Int32) (n : Nat) : Int64 := sX a n * sX b n - (nI n).toInt64 * sXY a b n
def wD0 (a : Nat → Int32) (n : Nat) : Int64 := (nI n).toInt64 * sXX a n - sX a n * sX a n
/-- Euclid's steps -/
def gcS : Nat → Int64 → Int64 → Int64
  | 0, x, _ => x
  | n + 1, x, y => if y = 0 then x else gcS n y (x - x / y * y)
def wUD (a b : Nat → Int32) (n : Nat) (mean : Int32) : Int64 × Int64 :=
  let u := if wD0 a n = 0 then mean.toInt64 else wU0 a b n
  let v := if wD0 a n = 0 then 100000 else wD0 a n
  if u ≤ 0 then (0, 1) else (u / gcS 100 u v, v / gcS 100 u v)
def RelL1 (t : Nat) (l : Nat → Int64) (c22 c23 : Nat → Int32) (r2 r12 r19 : Nat → Int32) : Prop := ∀ r m, r19 t = nI (r + 1) → r < 12 → r12 t = nI m → m < 4 → l 0 = (wUD c22 c23 (r + 1) (r2 m)).1 ∧ l 1 = (wUD c22 c23 (r + 1) (r2 m)).2
def RelL (nt : Nat) (L : Nat → Nat → Int64) (c22 c23 : Nat → Nat → Int32) (r2 r12 r19 : Nat → Int32) : Prop := ∀ t, t < nt → RelL1 t (L t) (c22 t) (c23 t) r2 r12 r19
def Rel (nw nt : Nat) (B : sB) (L : sL) : Prop := RelS nw nt (B 0 0) (B 25 0) ∧ RelP (B 3 0) (B 4 0) (B 5 0) (B 30 0) (B 31 0) (B 32 0) ∧ RelW nw nt (B 18) (B 19) (B 20) (B 38 0) (B 39 0) (B 40 0) (B 41 0) (B 47 0) ∧ RelT nt (B 25 0 3) (B 21) (B 22) (B 23) (B 42 0) (B 43 0) (B 44 0) (B 45 0) (B 46 0) (B 47 0) (B 48 0) (B 49 0) (B 50 0) (B 51 0) ∧ RelG (B 6 0) (B 7 0) (B 8 0) (B 9 0) (B 25 0) (B 52 0) (B 53 0) (B 54 0) ∧ RelL nt (L 24) (B 22) (B 23) (B 32 0) (B 42 0) (B 49 0)
/-- one call of both: the same answer, and the relation again -/
def Stq (yC : MethodName) (cC : ByteArray) (nC dC : Nat) (yR : MethodName) (cR : ByteArray) (nR dR : Nat) (ret : Option FieldType) (As : List Value) (ad : sA) (nw nt : Nat) (B : sB) (L : sL) : Prop := ∃ (v : Int32) (B1 : sB) (L1 : sL) (B2 : sB) (L2 : sL), Cf yC cC nC ret dC (.ref (ad 0 0) :: As) ad nw nt B L (some (.int v)) B1 L1 ∧ Cf yR cR nR ret dR (.ref (ad 25 0) :: As) ad nw nt B1 L1 (some (.int v)) B2 L2 ∧ Rel nw nt B2 L2
/-- the same, for a long -/
def StqL (yC : MethodName) (cC : ByteArray) (nC dC : Nat) (yR : MethodName) (cR : ByteArray) (nR dR : Nat) (ret : Option FieldType) (As : List Value) (ad : sA) (nw nt : Nat) (B : sB) (L : sL) : Prop := ∃ (v : Int64) (B1 : sB) (L1 : sL) (B2 : sB) (L2 : sL), Cf yC cC nC ret dC (.ref (ad 0 0) :: As) ad nw nt B L (some (.long v)) B1 L1 ∧ Cf yR cR nR ret dR (.ref (ad 25 0) :: As) ad nw nt B1 L1 (some (.long v)) B2 L2 ∧ Rel nw nt B2 L2
theorem Rel_refuse {nw nt : Nat} {B : sB} {L : sL} {k : Nat} (hR : Rel nw nt B L) : Rel nw nt (uB (uB B 5 0 k (B 5 0 k + 1)) 30 0 k ((uB B 5 0 k (B 5 0 k + 1)) 30 0 k + 1)) L := by
  unfold Rel at hR ⊢
  simp only [uB_2, u2_a, uB_k, ne_eq, Nat.reduceEqDiff, not_false_eq_true]
  refine ⟨hR.1, ⟨hR.2.1.1, hR.2.1.2.1, fun i hi => ?_⟩, hR.2.2⟩
  have h1 := hR.2.1.2.2 i hi
  by_cases hik : i = k
  · subst hik
    rw [upd_s, upd_s, h1]
  · rw [upd_n hik, upd_n hik, h1]
