/-! ===== a tyre's DEPTH and END as functions of the state; the general step ===== -/
/-- one call of both, in general -/
def StG (yC : MethodName) (cC : ByteArray) (nC dC : Nat) (yR : MethodName) (cR : ByteArray) (nR dR : Nat) (ret : Option FieldType) (As : List Value) (ad : sA) (nw nt : Nat) (B : sB) (L : sL) : Prop := ∃ v : Int32, Cs yC cC nC ret dC (.ref (ad 0 0) :: As) ad nw nt B L (fun v' B1 L1 => v' = some (.int v) ∧ Cs yR cR nR ret dR (.ref (ad 25 0) :: As) ad nw nt B1 L1 (fun v'' B2 L2 => v'' = some (.int v) ∧ Rel nw nt B2 L2))
theorem Stq.gen {yC : MethodName} {cC : ByteArray} {nC dC : Nat} {yR : MethodName} {cR : ByteArray} {nR dR : Nat} {ret : Option FieldType} {As : List Value} {ad : sA} {nw nt : Nat} {B : sB} {L : sL} (h : Stq yC cC nC dC yR cR nR dR ret As ad nw nt B L) : StG yC cC nC dC yR cR nR dR ret As ad nw nt B L := by
  obtain ⟨v, B1, L1, B2, L2, h1, h2, h3⟩ := h
  refine ⟨v, h1.mono (fun v' B' L' q => ?_)⟩
  obtain ⟨rfl, rfl, rfl⟩ := q
  refine ⟨rfl, h2.mono (fun v'' B'' L'' q => ?_)⟩
  obtain ⟨rfl, rfl, rfl⟩ := q
  exact ⟨rfl, h3⟩
def StGL (yC : MethodName) (cC : ByteArray) (nC dC : Nat) (yR : MethodName) (cR : ByteArray) (nR dR : Nat) (ret : Option FieldType) (As : List Value) (ad : sA) (nw nt : Nat) (B : sB) (L : sL) : Prop := ∃ v : Int64, Cs yC cC nC ret dC (.ref (ad 0 0) :: As) ad nw nt B L (fun v' B1 L1 => v' = some (.long v) ∧ Cs yR cR nR ret dR (.ref (ad 25 0) :: As) ad nw nt B1 L1 (fun v'' B2 L2 => v'' = some (.long v) ∧ Rel nw nt B2 L2))
theorem StqL.gen {yC : MethodName} {cC : ByteArray} {nC dC : Nat} {yR : MethodName} {cR : ByteArray} {nR dR : Nat} {ret : Option FieldType} {As : List Value} {ad : sA} {nw nt : Nat} {B : sB} {L : sL} (h : StqL yC cC nC dC yR cR nR dR ret As ad nw nt B L) : StGL yC cC nC dC yR cR nR dR ret As ad nw nt B L := by
  obtain ⟨v, B1, L1, B2, L2, h1, h2, h3⟩ := h
  refine ⟨v, h1.mono (fun v' B' L' q => ?_)⟩
  obtain ⟨rfl, rfl, rfl⟩ := q
  refine ⟨rfl, h2.mono (fun v'' B'' L'' q => ?_)⟩
  obtain ⟨rfl, rfl, rfl⟩ := q
  exact ⟨rfl, h3⟩
def wrel (L L1 : sL) : Prop := L1 = L ∨ ∃ p, L1 = wR L p
theorem wrel.rf {L : sL} : wrel L L := Or.inl rfl
theorem wrel.w {L L1 : sL} (h : wrel L L1) (p : Int64 × Int64) : wrel L (wR L1 p) := by
  rcases h with rfl | ⟨q, rfl⟩
  · exact Or.inr ⟨p, rfl⟩
  · exact Or.inr ⟨p, wR_3 _ _ _⟩
theorem wR_24 (L : sL) (p : Int64 × Int64) : wR L p 24 = L 24 := by
  unfold wR
  rw [uL_k (by decide), uL_k (by decide)]
theorem wrel.l24 {L L1 : sL} (h : wrel L L1) : L1 24 = L 24 := by
  rcases h with rfl | ⟨q, rfl⟩
  · rfl
  · exact wR_24 _ _
theorem Rel_wrel {nw nt : Nat} {B : sB} {L L1 : sL} (h : wrel L L1) (hR : Rel nw nt B L) : Rel nw nt B L1 := by
  rcases h with rfl | ⟨q, rfl⟩
  · exact hR
  · exact Rel_wR hR
def tR (B : sB) (t : Nat) : Nat := (B 21 t 6).toNatClampNeg - 1
def tDp (B : sB) (L : sL) (t mo : Nat) : Nat := dpN (B 23 t (tR B t)).toNatClampNeg (L 24 t 1).toInt.toNat (L 24 t 0).toInt.toNat ((B 21 t 9).toNatClampNeg - (B 22 t (tR B t)).toNatClampNeg + mo)
def tEn (B : sB) (L : sL) (t l : Nat) : Nat := enN (B 23 t (tR B t)).toNatClampNeg (L 24 t 1).toInt.toNat (L 24 t 0).toInt.toNat ((B 21 t 9).toNatClampNeg - (B 22 t (tR B t)).toNatClampNeg) l
def TFa (nt : Nat) (B : sB) (L : sL) : Prop := ∀ t, t < nt → ∃ r d ra len u v m, TF B L t r d ra len u v m
theorem TFa_wrel {nt : Nat} {B : sB} {L L1 : sL} (h : wrel L L1) (hF : TFa nt B L) : TFa nt B L1 := fun t ht => by
  obtain ⟨r, d, ra, len, u, v, m, h1⟩ := hF t ht
  refine ⟨r, d, ra, len, u, v, m, ?_⟩
  unfold TF at h1 ⊢
  rw [h.l24]
  exact h1
theorem tDp_wrel {B : sB} {L L1 : sL} {t mo : Nat} (h : wrel L L1) : tDp B L1 t mo = tDp B L t mo := by
  unfold tDp
  rw [h.l24]
theorem tEn_wrel {B : sB} {L L1 : sL} {t l : Nat} (h : wrel L L1) : tEn B L1 t l = tEn B L t l := by
  unfold tEn
  rw [h.l24]
theorem tDp_eq {B : sB} {L : sL} {t r d ra len u v m mo : Nat} (h : TF B L t r d ra len u v m) : tDp B L t mo = dpN d v u (len - ra + mo) := by
  obtain ⟨h12, t1, t2, t3, t4, t5, t6, t7, t8, t9, t10, t11, t12, t13, t14, t15, t16, -⟩ := h
  have e : tR B t = r := by
    unfold tR
    rw [t1, nI_clamp (by omega)]
    omega
  unfold tDp
  rw [e, t3, t6, t8, t15, t16, nI_clamp (by omega), nI_clamp (by omega), nI_clamp (by omega), pk_lT (by omega), pk_lT (by omega)]
  rfl
theorem tEn_eq {B : sB} {L : sL} {t r d ra len u v m l : Nat} (h : TF B L t r d ra len u v m) : tEn B L t l = enN d v u (len - ra) l := by
  obtain ⟨h12, t1, t2, t3, t4, t5, t6, t7, t8, t9, t10, t11, t12, t13, t14, t15, t16, -⟩ := h
  have e : tR B t = r := by
    unfold tR
    rw [t1, nI_clamp (by omega)]
    omega
  unfold tEn
  rw [e, t3, t6, t8, t15, t16, nI_clamp (by omega), nI_clamp (by omega), nI_clamp (by omega), pk_lT (by omega), pk_lT (by omega)]
  rfl
theorem tDp_le {nt : Nat} {B : sB} {L : sL} {t mo : Nat} (hF : TFa nt B L) (ht : t < nt) : tDp B L t mo ≤ 300 := by
  obtain ⟨r, d, ra, len, u, v, m, h⟩ := hF t ht
  rw [tDp_eq h]
  have h1 := dpN_le (d := d) (u := u) (z := len - ra + mo) h.2.2.2.2.2.2.2.2.2.2.2.2.2.1
  have h2 : d ≤ 300 := h.2.2.2.2.2.1
  omega
theorem tEn_le (B : sB) (L : sL) (t l : Nat) : tEn B L t l ≤ 1000000 := enN_le _ _ _ _ _
theorem cT_depth {ad : sA} {nw nt : Nat} {B : sB} {L : sL} {t mo : Nat} (hF : TFa nt B L) (ht : t < nt) (hmo : mo ≤ 1000000) : Cf yX2_depthAfter cX2_depthAfter 2 (some FieldType.int) 2 [.ref (ad 21 t), .int (nI mo)] ad nw nt B L (some (.int (nI (tDp B L t mo)))) B L := by
  obtain ⟨r, d, ra, len, u, v, m, h⟩ := hF t ht
  rw [tDp_eq h]
  obtain ⟨h12, t1, t2, t3, t4, t5, t6, t7, t8, t9, t10, t11, t12, t13, t14, t15, t16, t17, t18, t19, t20, t21, t22⟩ := h
  exact c_depthAfter ht t1 h12 t3 t5 t6 t8 t10 t11 t12 t13 t14 t15 t16 hmo
theorem cT_end {ad : sA} {nw nt : Nat} {B : sB} {L : sL} {t l : Nat} {x : Int32} (hF : TFa nt B L) (ht : t < nt) (hx : x = nI l) (hl : l ≤ 300) : Cf yX2_endFor cX2_endFor 2 (some FieldType.int) 2 [.ref (ad 21 t), .int x] ad nw nt B L (some (.int (nI (tEn B L t l)))) B L := by
  subst hx
  obtain ⟨r, d, ra, len, u, v, m, h⟩ := hF t ht
  rw [tEn_eq h]
  obtain ⟨h12, t1, t2, t3, t4, t5, t6, t7, t8, t9, t10, t11, t12, t13, t14, t15, t16, t17, t18, t19, t20, t21, t22⟩ := h
  exact c_endFor ht t1 h12 t3 t5 t6 t8 t10 t11 t12 t13 t14 t15 t16 hl
/-- the wear of a tyre -/
def tW (L : sL) (t : Nat) : Int64 × Int64 := (L 24 t 0, L 24 t 1)
theorem rT_depth {ad : sA} {nw nt : Nat} {B : sB} {L : sL} {t mo : Nat} (hF : TFa nt B L) (ht : t < nt) (h40 : nt ≤ 40) (hmo : mo ≤ 1000000) : Cf yX6_depthOf cX6_depthOf 7 (some FieldType.int) 2 [.ref (ad 25 0), .int (nI t), .int (nI mo)] ad nw nt B L (some (.int (nI (tDp B L t mo)))) B (wR L (tW L t)) := by
  obtain ⟨r, d, ra, len, u, v, m, h⟩ := hF t ht
  rw [tDp_eq h]
  obtain ⟨h12, t1, t2, t3, t4, t5, t6, t7, t8, t9, t10, t11, t12, t13, t14, t15, t16, t17, t18, t19, t20, t21, t22⟩ := h
  unfold tW
  rw [t15, t16]
  exact r_depthOf (by omega) t2 h12 t17 t18 t20 t21 t19 t22 t4 t5 t7 t9 t10 t11 t12 t13 t14 hmo
theorem rT_end {ad : sA} {nw nt : Nat} {B : sB} {L : sL} {t l : Nat} {x : Int32} (hF : TFa nt B L) (ht : t < nt) (h40 : nt ≤ 40) (hx : x = nI l) (hl : l ≤ 300) : Cf yX6_endOf cX6_endOf 5 (some FieldType.int) 3 [.ref (ad 25 0), .int (nI t), .int x] ad nw nt B L (some (.int (nI (tEn B L t l)))) B (wR L (tW L t)) := by
  subst hx
  obtain ⟨r, d, ra, len, u, v, m, h⟩ := hF t ht
  rw [tEn_eq h]
  obtain ⟨h12, t1, t2, t3, t4, t5, t6, t7, t8, t9, t10, t11, t12, t13, t14, t15, t16, t17, t18, t19, t20, t21, t22⟩ := h
  unfold tW
  rw [t15, t16]
  exact r_endOf (by omega) t2 h12 t17 t18 t20 t21 t19 t22 t4 t5 t7 t9 t10 t11 t12 t13 t14 hl
/-- the reference's runs, where only the class's cells have changed since -/
theorem rA_h {B Bh : sB} (hb : ∀ k, 25 ≤ k → Bh k = B k) (t : Nat) : rA Bh t = rA B t := by
  funext i
  unfold rA
  rw [hb 50 (by decide)]
theorem rD_h {B Bh : sB} (hb : ∀ k, 25 ≤ k → Bh k = B k) (t : Nat) : rD Bh t = rD B t := by
  funext i
  unfold rD
  rw [hb 51 (by decide)]
theorem rT_depthH {ad : sA} {nw nt : Nat} {B Bh : sB} {L : sL} {t mo : Nat} (hb : ∀ k, 25 ≤ k → Bh k = B k) (hF : TFa nt B L) (ht : t < nt) (h40 : nt ≤ 40) (hmo : mo ≤ 1000000) : Cf yX6_depthOf cX6_depthOf 7 (some FieldType.int) 2 [.ref (ad 25 0), .int (nI t), .int (nI mo)] ad nw nt Bh L (some (.int (nI (tDp B L t mo)))) Bh (wR L (tW L t)) := by
  obtain ⟨r, d, ra, len, u, v, m, h⟩ := hF t ht
  rw [tDp_eq h]
  obtain ⟨h12, t1, t2, t3, t4, t5, t6, t7, t8, t9, t10, t11, t12, t13, t14, t15, t16, t17, t18, t19, t20, t21, t22⟩ := h
  unfold tW
  rw [t15, t16]
  rw [← hb 49 (by decide)] at t2
  rw [← hb 51 (by decide)] at t4
  rw [← hb 50 (by decide)] at t7
  rw [← hb 46 (by decide)] at t9
  rw [← hb 42 (by decide)] at t17
  rw [← hb 32 (by decide)] at t19 t22
  rw [← rA_h hb] at t20 t22
  rw [← rD_h hb] at t21 t22
  exact r_depthOf (by omega) t2 h12 t17 t18 t20 t21 t19 t22 t4 t5 t7 t9 t10 t11 t12 t13 t14 hmo
theorem rT_endH {ad : sA} {nw nt : Nat} {B Bh : sB} {L : sL} {t l : Nat} {x : Int32} (hb : ∀ k, 25 ≤ k → Bh k = B k) (hF : TFa nt B L) (ht : t < nt) (h40 : nt ≤ 40) (hx : x = nI l) (hl : l ≤ 300) : Cf yX6_endOf cX6_endOf 5 (some FieldType.int) 3 [.ref (ad 25 0), .int (nI t), .int x] ad nw nt Bh L (some (.int (nI (tEn B L t l)))) Bh (wR L (tW L t)) := by
  subst hx
  obtain ⟨r, d, ra, len, u, v, m, h⟩ := hF t ht
  rw [tEn_eq h]
  obtain ⟨h12, t1, t2, t3, t4, t5, t6, t7, t8, t9, t10, t11, t12, t13, t14, t15, t16, t17, t18, t19, t20, t21, t22⟩ := h
  unfold tW
  rw [t15, t16]
  rw [← hb 49 (by decide)] at t2
  rw [← hb 51 (by decide)] at t4
  rw [← hb 50 (by decide)] at t7
  rw [← hb 46 (by decide)] at t9
  rw [← hb 42 (by decide)] at t17
  rw [← hb 32 (by decide)] at t19 t22
  rw [← rA_h hb] at t20 t22
  rw [← rD_h hb] at t21 t22
  exact r_endOf (by omega) t2 h12 t17 t18 t20 t21 t19 t22 t4 t5 t7 t9 t10 t11 t12 t13 t14 hl
/-- what the class's own cells tell of a tyre -/
def TFc (nt : Nat) (B : sB) (L : sL) : Prop := ∀ t, t < nt → ∃ r d ra len u v, r < 12 ∧ B 21 t 6 = nI (r + 1) ∧ B 23 t r = nI d ∧ d ≤ 300 ∧ B 22 t r = nI ra ∧ B 21 t 9 = nI len ∧ ra ≤ len ∧ len ≤ 1000000 ∧ u ≤ 43200000000 ∧ 1 ≤ v ∧ v ≤ 144000000000000 ∧ L 24 t 0 = lN u ∧ L 24 t 1 = lN v
theorem TFa.c {nt : Nat} {B : sB} {L : sL} (h : TFa nt B L) : TFc nt B L := fun t ht => by
  obtain ⟨r, d, ra, len, u, v, m, h12, t1, t2, t3, t4, t5, t6, t7, t8, t9, t10, t11, t12, t13, t14, t15, t16, -⟩ := h t ht
  exact ⟨r, d, ra, len, u, v, h12, t1, t3, t5, t6, t8, t10, t11, t12, t13, t14, t15, t16⟩
theorem cT_endc {ad : sA} {nw nt : Nat} {B : sB} {L : sL} {t l : Nat} {x : Int32} (hF : TFc nt B L) (ht : t < nt) (hx : x = nI l) (hl : l ≤ 300) : Cf yX2_endFor cX2_endFor 2 (some FieldType.int) 2 [.ref (ad 21 t), .int x] ad nw nt B L (some (.int (nI (tEn B L t l)))) B L := by
  subst hx
  obtain ⟨r, d, ra, len, u, v, h12, t1, t3, t5, t6, t8, t10, t11, t12, t13, t14, t15, t16⟩ := hF t ht
  have e : tR B t = r := by
    unfold tR
    rw [t1, nI_clamp (by omega)]
    omega
  have e2 : tEn B L t l = enN d v u (len - ra) l := by
    unfold tEn
    rw [e, t3, t6, t8, t15, t16, nI_clamp (by omega), nI_clamp (by omega), nI_clamp (by omega), pk_lT (by omega), pk_lT (by omega)]
    rfl
  rw [e2]
  exact c_endFor ht t1 h12 t3 t5 t6 t8 t10 t11 t12 t13 t14 t15 t16 hl
/-! FAR -/
/-- the end of the tyre on a place, or the most -/
def plE (B : sB) (L : sL) (w p : Nat) : Nat := if B 20 w p < 0 ∨ B 19 w p = 4 then 1000000 else tEn B L (B 20 w p).toNatClampNeg (B 3 0 (B 19 w p).toNatClampNeg).toNatClampNeg
def farS (B : sB) (L : sL) (w : Nat) : Nat → Nat
  | 0 => 1000000
  | p + 1 => min (farS B L w p) (plE B L w p)
theorem farS_le (B : sB) (L : sL) (w : Nat) : ∀ p, farS B L w p ≤ 1000000
  | 0 => Nat.le_refl _
  | p + 1 => by
    have := farS_le B L w p
    simp only [farS]
    omega
theorem farS_wrel {B : sB} {L L1 : sL} {w : Nat} (h : wrel L L1) : ∀ p, farS B L1 w p = farS B L w p
  | 0 => rfl
  | p + 1 => by
    simp only [farS, plE]
    rw [farS_wrel h p, tEn_wrel h]
theorem mnI_N {a b : Nat} (ha : a < 2 ^ 31) (hb : b < 2 ^ 31) : mnI (nI a) (nI b) = nI (min a b) := by
  unfold mnI
  by_cases h : b < a
  · rw [if_pos (nI_lt h ha), Nat.min_eq_right (by omega)]
  · rw [if_neg (nI_nlt (by omega) hb), Nat.min_eq_left (by omega)]
theorem mxI_N {a b : Nat} (ha : a < 2 ^ 31) (hb : b < 2 ^ 31) : mxI (nI a) (nI b) = nI (max a b) := by
  unfold mxI
  by_cases h : a < b
  · rw [if_pos (nI_lt h hb), Nat.max_eq_right (by omega)]
  · rw [if_neg (nI_nlt (by omega) ha), Nat.max_eq_left (by omega)]
/-- what is known of a wagon's place, on the class's side: w its number, p its places -/
def PW (nt : Nat) (B : sB) (w p : Nat) : Prop := p ≤ 7 ∧ B 18 w 3 = nI p ∧ ∀ q, q < p → (∃ k, k < 5 ∧ B 19 w q = nI k) ∧ (B 20 w q = -1 ∨ ∃ t, t < nt ∧ B 20 w q = nI t)
def PL (B : sB) : Prop := ∀ k, k < 5 → ∃ l, l ≤ 100 ∧ B 3 0 k = nI l
