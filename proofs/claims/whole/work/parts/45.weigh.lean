/-! ===== TURNING ABOUT: weigh, findReach ===== -/
def tdE (B : sB) (L : sL) (w : Nat) (a : Nat → Nat) (p k : Nat) : Nat := if B 19 w p = 4 then 1000001 else if B 19 w p = 0 ∧ 0 < B 21 (a k) 7 then 0 else tEn B L (a k) (B 3 0 (B 19 w p).toNatClampNeg).toNatClampNeg + 1
def tdM (B : sB) (w p : Nat) : Bool := decide (¬ B 20 w p < 0 ∧ ¬ B 19 w p = 4)
def tdC (B : sB) (w : Nat) (a : Nat → Nat) (p k : Nat) : Nat := if B 20 w p = nI (a k) then 0 else 1
def tdo (B : sB) (L : sL) (w : Nat) (a : Nat → Nat) (K : Nat) : TD := (K, tdE B L w a, tdM B w, tdC B w a)
theorem tdE_b (B : sB) (L : sL) (w : Nat) (a : Nat → Nat) (p k : Nat) : tdE B L w a p k ≤ 1000001 := by
  unfold tdE
  have := tEn_le B L (a k) (B 3 0 (B 19 w p).toNatClampNeg).toNatClampNeg
  split
  · omega
  · split <;> omega
theorem tdo_ok (B : sB) (L : sL) (w : Nat) (a : Nat → Nat) (K : Nat) : (tdo B L w a K).ok := by
  refine ⟨fun p k => ?_, fun p k => tdE_b B L w a p k⟩
  show tdC B w a p k ≤ 1
  unfold tdC
  split <;> omega
theorem PW_f {nt : Nat} {B H : sB} {w p : Nat} (hf : fT B H) (h : PW nt B w p) : PW nt H w p := by
  unfold PW
  rw [hf 18 (by omega), hf 19 (by omega), hf 20 (by omega)]
  exact h
theorem PL_f {B H : sB} (hf : fT B H) (h : PL B) : PL H := by
  unfold PL
  rw [hf 3 (by omega)]
  exact h
theorem TFc_f {nt : Nat} {B H : sB} {L : sL} (hf : fT B H) (h : TFc nt B L) : TFc nt H L := by
  unfold TFc
  rw [hf 21 (by omega), hf 22 (by omega), hf 23 (by omega)]
  exact h
theorem tEn_f {B H : sB} {L : sL} (hf : fT B H) (t l : Nat) : tEn H L t l = tEn B L t l := by
  unfold tEn tR
  rw [hf 21 (by omega), hf 22 (by omega), hf 23 (by omega)]
theorem fT.rf {B : sB} : fT B B := fun _ _ => rfl
theorem fT.tr {B H I : sB} (h1 : fT B H) (h2 : fT H I) : fT B I := fun q hq => (h2 q hq).trans (h1 q hq)
set_option maxRecDepth 100000 in
set_option maxHeartbeats 4000000 in
theorem c_turnedAt {ad : sA} {nw nt : Nat} {B : sB} {L : sL} {a : Nat → Nat} {K k : Nat} (h40 : nt ≤ 40) (hTL : TL nt B a K) (hk : k < K) : Cf yX1_turnedAt cX1_turnedAt 2 (some (FieldType.object "TyreBook$Tyre")) 0 [.ref (ad 10 0), .int (nI k)] ad nw nt B L (some (.ref (ad 21 (a k)))) (B) (L) := by
  have hC : ∀ Q, je_Ok (sCm yX1_turnedAt cX1_turnedAt 2 (some (FieldType.object "TyreBook$Tyre")) 0 ad nw nt Q) RX1 cX1_turnedAt 2 0 := fun _ => je_Cm_ok
  refine Cs_of [some (.ref (ad 10 0)), some (.int (nI k))] (by decide) rfl (Nat.le_of_ble_eq_true rfl) ?_
  have hK := hTL.2.1
  have hak := (hTL.2.2.2 k hk).2
  refine Es_iload_n (hC _) dX1_turnedAt_0 rfl ?_
  refine Es_if_lt (hC _) 30 dX1_turnedAt_1 (by decide) (fun hb1 => False.elim (nI_pos (by omega) hb1)) (fun hb1 => ?_)
  refine Es_iload_n (hC _) dX1_turnedAt_4 rfl ?_
  first | refine Es_aload_n (hC _) dX1_turnedAt_5 rfl ?_ | refine Es_aload_nN (hC _) dX1_turnedAt_5 rfl ?_
  refine Sg_X1_6 (hC _) fl_X1_50 dX1_turnedAt_6 ?_
  rw [hTL.1]
  refine Es_icmp_ge (hC _) 30 dX1_turnedAt_9 (by decide) (fun hb9 => False.elim (nI_ge (b := K) (a := k) (by omega) (by omega) hb9)) (fun hb9 => ?_)
  refine Es_iload_n (hC _) dX1_turnedAt_12 rfl ?_
  first | refine Es_aload_n (hC _) dX1_turnedAt_13 rfl ?_ | refine Es_aload_nN (hC _) dX1_turnedAt_13 rfl ?_
  refine Sg_X1_0 (hC _) fl_X1_11 dX1_turnedAt_14 ?_
  refine Es_alen (hC _) dX1_turnedAt_17 rfl rfl (by decide) ?_
  refine Es_icmp_ge (hC _) 30 dX1_turnedAt_18 (by decide) (fun hb18 => False.elim (nI_ge (b := 7) (a := k) (by omega) (by decide) hb18)) (fun hb18 => ?_)
  first | refine Es_aload_n (hC _) dX1_turnedAt_21 rfl ?_ | refine Es_aload_nN (hC _) dX1_turnedAt_21 rfl ?_
  refine Sg_X1_0 (hC _) fl_X1_11 dX1_turnedAt_22 ?_
  refine Es_iload_n (hC _) dX1_turnedAt_25 rfl ?_
  refine Es_aaldN (hC _) (Or.inl rfl) dX1_turnedAt_26 rfl rfl rfl (by omega) (by decide) (show va_rf (rT ad (B 11 0 k)) = .ref (ad 21 (a k)) by rw [(hTL.2.2.2 k hk).1, rT, if_neg (nI_pos (by omega)), nI_clamp (by omega)]; rfl) ?_
  refine Es_goto (hC _) 31 dX1_turnedAt_27 (by decide) ?_
  exact Es_aret dX1_turnedAt_31 (by first | exact Or.inl rfl | exact Or.inr ⟨_, rfl⟩) ⟨rfl, rfl, rfl⟩

set_option maxRecDepth 100000 in
set_option maxHeartbeats 4000000 in
theorem c_turnedAt_0 {ad : sA} {nw nt : Nat} {B : sB} {L : sL}  : Cf yX1_turnedAt cX1_turnedAt 2 (some (FieldType.object "TyreBook$Tyre")) 0 [.ref (ad 10 0), .int (-1)] ad nw nt B L (some .null) (B) (L) := by
  have hC : ∀ Q, je_Ok (sCm yX1_turnedAt cX1_turnedAt 2 (some (FieldType.object "TyreBook$Tyre")) 0 ad nw nt Q) RX1 cX1_turnedAt 2 0 := fun _ => je_Cm_ok
  refine Cs_of [some (.ref (ad 10 0)), some (.int (-1))] (by decide) rfl (Nat.le_of_ble_eq_true rfl) ?_
  refine Es_iload_n (hC _) dX1_turnedAt_0 rfl ?_
  refine Es_if_lt (hC _) 30 dX1_turnedAt_1 (by decide) (fun hb1 => ?_) (fun hb1 => False.elim (hb1 (by decide)))
  refine Es_null (hC _) dX1_turnedAt_30 ?_
  exact Es_aret dX1_turnedAt_31 (by first | exact Or.inl rfl | exact Or.inr ⟨_, rfl⟩) ⟨rfl, rfl, rfl⟩

set_option maxRecDepth 100000 in
set_option maxHeartbeats 4000000 in
theorem c_reachOf_4 {ad : sA} {nw nt : Nat} {B : sB} {L : sL} {t k : Nat} (ht : t < nt) (h4 : k = 4) : Cf yX1_reachOf cX1_reachOf 3 (some FieldType.int) 3 [.ref (ad 21 t), .int (nI k), .ref (ad 3 0)] ad nw nt B L (some (.int (iE 1000001))) (B) (L) := by
  have hC : ∀ Q, je_Ok (sCm yX1_reachOf cX1_reachOf 3 (some FieldType.int) 3 ad nw nt Q) RX1 cX1_reachOf 3 3 := fun _ => je_Cm_ok
  refine Cs_of [some (.ref (ad 21 t)), some (.int (nI k)), some (.ref (ad 3 0))] (by decide) rfl (Nat.le_of_ble_eq_true rfl) ?_
  refine Es_iload_n (hC _) dX1_reachOf_0 rfl ?_
  refine Es_iconst (v := 4) (hC _) dX1_reachOf_1 (by decide) ?_
  refine Es_icmp_ne (hC _) 8 dX1_reachOf_2 (by decide) (fun hb2 => False.elim (hb2 (by rw [h4]; rfl))) (fun hb2 => ?_)
  refine Es_ldc (hC _) ct_X1_102 dX1_reachOf_5 ?_
  exact Es_iret dX1_reachOf_7 rfl ⟨rfl, rfl, rfl⟩

set_option maxRecDepth 100000 in
set_option maxHeartbeats 4000000 in
theorem c_reachOf_0 {ad : sA} {nw nt : Nat} {B : sB} {L : sL} {t k l : Nat} (ht : t < nt) (hF : TFc nt B L) (hk5 : k < 5) (hl : B 3 0 k = nI l) (hl1 : l ≤ 100) (h4 : ¬ k = 4) (h0 : k = 0) (h7 : 0 < B 21 t 7) : Cf yX1_reachOf cX1_reachOf 3 (some FieldType.int) 3 [.ref (ad 21 t), .int (nI k), .ref (ad 3 0)] ad nw nt B L (some (.int (iE 0))) (B) (L) := by
  have hC : ∀ Q, je_Ok (sCm yX1_reachOf cX1_reachOf 3 (some FieldType.int) 3 ad nw nt Q) RX1 cX1_reachOf 3 3 := fun _ => je_Cm_ok
  refine Cs_of [some (.ref (ad 21 t)), some (.int (nI k)), some (.ref (ad 3 0))] (by decide) rfl (Nat.le_of_ble_eq_true rfl) ?_
  refine Es_iload_n (hC _) dX1_reachOf_0 rfl ?_
  refine Es_iconst (v := 4) (hC _) dX1_reachOf_1 (by decide) ?_
  refine Es_icmp_ne (hC _) 8 dX1_reachOf_2 (by decide) (fun hb2 => ?_) (fun hb2 => False.elim (h4 ((nI_eq (a := k) (b := 4) (by omega) (by decide)).mp hb2)))
  refine Es_iload_n (hC _) dX1_reachOf_8 rfl ?_
  refine Es_if_ne (hC _) 23 dX1_reachOf_9 (by decide) (fun hb9 => False.elim (hb9 (by rw [h0]; rfl))) (fun hb9 => ?_)
  first | refine Es_aload_n (hC _) dX1_reachOf_12 rfl ?_ | refine Es_aload_nN (hC _) dX1_reachOf_12 rfl ?_
  refine Sg_X2_7 (hC _) fl_X1_103 dX1_reachOf_13 ht ?_
  refine Es_if_le (hC _) 23 dX1_reachOf_16 (by decide) (fun hb16 => False.elim (Int32.not_lt.mpr hb16 h7)) (fun hb16 => ?_)
  refine Es_iconst (v := -1) (hC _) dX1_reachOf_19 (by decide) ?_
  refine Es_goto (hC _) 32 dX1_reachOf_20 (by decide) ?_
  exact Es_iret dX1_reachOf_32 rfl ⟨rfl, rfl, rfl⟩

set_option maxRecDepth 100000 in
set_option maxHeartbeats 4000000 in
theorem c_reachOf_a {ad : sA} {nw nt : Nat} {B : sB} {L : sL} {t k l : Nat} (ht : t < nt) (hF : TFc nt B L) (hk5 : k < 5) (hl : B 3 0 k = nI l) (hl1 : l ≤ 100) (h4 : ¬ k = 4) (h0 : k = 0) (h7 : ¬ 0 < B 21 t 7) : Cf yX1_reachOf cX1_reachOf 3 (some FieldType.int) 3 [.ref (ad 21 t), .int (nI k), .ref (ad 3 0)] ad nw nt B L (some (.int (iE (tEn B L t l + 1)))) (B) (L) := by
  have hC : ∀ Q, je_Ok (sCm yX1_reachOf cX1_reachOf 3 (some FieldType.int) 3 ad nw nt Q) RX1 cX1_reachOf 3 3 := fun _ => je_Cm_ok
  refine Cs_of [some (.ref (ad 21 t)), some (.int (nI k)), some (.ref (ad 3 0))] (by decide) rfl (Nat.le_of_ble_eq_true rfl) ?_
  refine Es_iload_n (hC _) dX1_reachOf_0 rfl ?_
  refine Es_iconst (v := 4) (hC _) dX1_reachOf_1 (by decide) ?_
  refine Es_icmp_ne (hC _) 8 dX1_reachOf_2 (by decide) (fun hb2 => ?_) (fun hb2 => False.elim (h4 ((nI_eq (a := k) (b := 4) (by omega) (by decide)).mp hb2)))
  refine Es_iload_n (hC _) dX1_reachOf_8 rfl ?_
  refine Es_if_ne (hC _) 23 dX1_reachOf_9 (by decide) (fun hb9 => False.elim (hb9 (by rw [h0]; rfl))) (fun hb9 => ?_)
  first | refine Es_aload_n (hC _) dX1_reachOf_12 rfl ?_ | refine Es_aload_nN (hC _) dX1_reachOf_12 rfl ?_
  refine Sg_X2_7 (hC _) fl_X1_103 dX1_reachOf_13 ht ?_
  refine Es_if_le (hC _) 23 dX1_reachOf_16 (by decide) (fun hb16 => ?_) (fun hb16 => False.elim (hb16 (Int32.not_lt.mp h7)))
  first | refine Es_aload_n (hC _) dX1_reachOf_23 rfl ?_ | refine Es_aload_nN (hC _) dX1_reachOf_23 rfl ?_
  first | refine Es_aload_n (hC _) dX1_reachOf_24 rfl ?_ | refine Es_aload_nN (hC _) dX1_reachOf_24 rfl ?_
  refine Es_iload_n (hC _) dX1_reachOf_25 rfl ?_
  refine Es_fSN (hC _) ms_X1_63 dX1_reachOf_26 (c_at (kd := 3) (n := 5) (k := k) rfl rfl rfl (by omega) (by decide)) rfl rfl (by decide) (Nat.le_of_ble_eq_true rfl) ?_
  refine Es_fV (hC _) mv_X1_106 dX1_reachOf_29 (cT_endc hF ht hl (by omega)) (ok21 ht) rfl ⟨_, rfl, rfl⟩ rfl rfl (by decide) (Nat.le_of_ble_eq_true rfl) ?_
  exact Es_iret dX1_reachOf_32 rfl ⟨by rw [iE_s], rfl, rfl⟩

set_option maxRecDepth 100000 in
set_option maxHeartbeats 4000000 in
theorem c_reachOf_b {ad : sA} {nw nt : Nat} {B : sB} {L : sL} {t k l : Nat} (ht : t < nt) (hF : TFc nt B L) (hk5 : k < 5) (hl : B 3 0 k = nI l) (hl1 : l ≤ 100) (h4 : ¬ k = 4) (h0 : ¬ k = 0) : Cf yX1_reachOf cX1_reachOf 3 (some FieldType.int) 3 [.ref (ad 21 t), .int (nI k), .ref (ad 3 0)] ad nw nt B L (some (.int (iE (tEn B L t l + 1)))) (B) (L) := by
  have hC : ∀ Q, je_Ok (sCm yX1_reachOf cX1_reachOf 3 (some FieldType.int) 3 ad nw nt Q) RX1 cX1_reachOf 3 3 := fun _ => je_Cm_ok
  refine Cs_of [some (.ref (ad 21 t)), some (.int (nI k)), some (.ref (ad 3 0))] (by decide) rfl (Nat.le_of_ble_eq_true rfl) ?_
  refine Es_iload_n (hC _) dX1_reachOf_0 rfl ?_
  refine Es_iconst (v := 4) (hC _) dX1_reachOf_1 (by decide) ?_
  refine Es_icmp_ne (hC _) 8 dX1_reachOf_2 (by decide) (fun hb2 => ?_) (fun hb2 => False.elim (h4 ((nI_eq (a := k) (b := 4) (by omega) (by decide)).mp hb2)))
  refine Es_iload_n (hC _) dX1_reachOf_8 rfl ?_
  refine Es_if_ne (hC _) 23 dX1_reachOf_9 (by decide) (fun hb9 => ?_) (fun hb9 => False.elim (h0 ((nI_eq (a := k) (b := 0) (by omega) (by decide)).mp hb9)))
  first | refine Es_aload_n (hC _) dX1_reachOf_23 rfl ?_ | refine Es_aload_nN (hC _) dX1_reachOf_23 rfl ?_
  first | refine Es_aload_n (hC _) dX1_reachOf_24 rfl ?_ | refine Es_aload_nN (hC _) dX1_reachOf_24 rfl ?_
  refine Es_iload_n (hC _) dX1_reachOf_25 rfl ?_
  refine Es_fSN (hC _) ms_X1_63 dX1_reachOf_26 (c_at (kd := 3) (n := 5) (k := k) rfl rfl rfl (by omega) (by decide)) rfl rfl (by decide) (Nat.le_of_ble_eq_true rfl) ?_
  refine Es_fV (hC _) mv_X1_106 dX1_reachOf_29 (cT_endc hF ht hl (by omega)) (ok21 ht) rfl ⟨_, rfl, rfl⟩ rfl rfl (by decide) (Nat.le_of_ble_eq_true rfl) ?_
  exact Es_iret dX1_reachOf_32 rfl ⟨by rw [iE_s], rfl, rfl⟩

theorem c_reachOf {ad : sA} {nw nt : Nat} {B H : sB} {L : sL} {w p q k : Nat} {a : Nat → Nat} (hf : fT B H) (hF : TFc nt B L) (hW : PW nt B w p) (hL : PL B) (hq : q < p) (hk : a k < nt) : Cf yX1_reachOf cX1_reachOf 3 (some FieldType.int) 3 [.ref (ad 21 (a k)), .int (B 19 w q), .ref (ad 3 0)] ad nw nt H L (some (.int (iE (tdE B L w a q k)))) H L := by
  obtain ⟨⟨kd, hk5, hkd⟩, -⟩ := hW.2.2 q hq
  obtain ⟨l, hl1, hl⟩ := hL kd hk5
  have hl' : H 3 0 kd = nI l := by rw [hf 3 (by omega)]; exact hl
  have hF' := TFc_f hf hF
  have h21 : H 21 = B 21 := hf 21 (by omega)
  unfold tdE
  rw [hkd]
  by_cases h4 : kd = 4
  · rw [if_pos (by rw [h4]; rfl)]
    exact c_reachOf_4 hk h4
  · rw [if_neg (show ¬ nI kd = 4 from fun z => h4 ((nI_eq (a := kd) (b := 4) (by omega) (by decide)).mp z))]
    by_cases h0 : kd = 0
    · by_cases h7 : 0 < B 21 (a k) 7
      · rw [if_pos ⟨by rw [h0]; rfl, h7⟩]
        exact c_reachOf_0 hk hF' hk5 hl' hl1 h4 h0 (by rw [h21]; exact h7)
      · rw [if_neg (fun z => h7 z.2), nI_clamp (by omega), hl, nI_clamp (by omega), ← tEn_f hf]
        exact c_reachOf_a hk hF' hk5 hl' hl1 h4 h0 (by rw [h21]; exact h7)
    · rw [if_neg (fun z => h0 ((nI_eq (a := kd) (b := 0) (by omega) (by decide)).mp z.1)), nI_clamp (by omega), hl, nI_clamp (by omega), ← tEn_f hf]
      exact c_reachOf_b hk hF' hk5 hl' hl1 h4 h0
/-- the home among the first i -/
def HM (a : Nat → Nat) (on h : Int32) (i : Nat) : Prop := (∃ k, k < i ∧ on = nI (a k) ∧ h = nI k) ∨ (h = -1 ∧ ∀ k, k < i → ¬ on = nI (a k))
def WE (B H B1 : sB) (L : sL) (w p : Nat) (a : Nat → Nat) (mv : Int32) (i : Nat) : Prop := (∀ q, q ≠ 12 → q ≠ 13 → q ≠ 14 → B1 q = H q) ∧ (∀ j, j ≠ p → B1 14 0 j = H 14 0 j ∧ B1 13 0 j = H 13 0 j) ∧ B1 14 0 p = mv ∧ HM a (B 20 w p) (B1 13 0 p) i ∧ (∀ j, (j < 7 * p ∨ 7 * p + 7 ≤ j) → B1 12 0 j = H 12 0 j) ∧ ∀ k, k < i → B1 12 0 (7 * p + k) = iE (tdE B L w a p k)
theorem WE_f {B H B1 : sB} {L : sL} {w p : Nat} {a : Nat → Nat} {mv : Int32} {i : Nat} (h : WE B H B1 L w p a mv i) (hf : fT B H) : fT B B1 := fun q hq => (h.1 q (by omega) (by omega) (by omega)).trans (hf q hq)
theorem TL_f {nt : Nat} {H B1 : sB} {a : Nat → Nat} {K : Nat} (h : TL nt H a K) (e1 : B1 10 = H 10) (e2 : B1 11 = H 11) : TL nt B1 a K := by
  unfold TL
  rw [e1, e2]
  exact h
theorem WE_s {B H B1 : sB} {L : sL} {w p : Nat} {a : Nat → Nat} {mv : Int32} {i : Nat} {K : Nat} (hSM : SM a K) (hi : i < K) (hb : ∀ k, k < K → a k < 2 ^ 31) (hK : K ≤ 7) (h : WE B H B1 L w p a mv i) (hne : ¬ B 20 w p = nI (a i)) : WE B H (uB B1 12 0 (7 * p + i) (iE (tdE B L w a p i))) L w p a mv (i + 1) := by
  obtain ⟨h1, h2, h3, h4, h5, h6⟩ := h
  refine ⟨fun q a1 a2 a3 => by rw [uB_k a1]; exact h1 q a1 a2 a3, fun j hj => by rw [uB_k (by decide), uB_k (by decide)]; exact h2 j hj, by rw [uB_k (by decide)]; exact h3, ?_, fun j hj => by rw [uB_n (by omega)]; exact h5 j hj, fun k hk => ?_⟩
  · rw [uB_k (by decide)]
    rcases h4 with ⟨k, c1, c2, c3⟩ | ⟨c1, c2⟩
    · exact Or.inl ⟨k, by omega, c2, c3⟩
    · refine Or.inr ⟨c1, fun k hk => ?_⟩
      by_cases he : k = i
      · rw [he]
        exact hne
      · exact c2 k (by omega)
  · by_cases he : k = i
    · rw [he, uB_s]
    · rw [uB_n (by omega)]
      exact h6 k (by omega)
theorem WE_h {B H B1 : sB} {L : sL} {w p : Nat} {a : Nat → Nat} {mv : Int32} {i : Nat} {K : Nat} (hSM : SM a K) (hi : i < K) (hb : ∀ k, k < K → a k < 2 ^ 31) (hK : K ≤ 7) (h : WE B H B1 L w p a mv i) (he : B 20 w p = nI (a i)) : WE B H (uB (uB B1 13 0 p (nI i)) 12 0 (7 * p + i) (iE (tdE B L w a p i))) L w p a mv (i + 1) := by
  obtain ⟨h1, h2, h3, h4, h5, h6⟩ := h
  refine ⟨fun q a1 a2 a3 => by rw [uB_k a1, uB_k a2]; exact h1 q a1 a2 a3, fun j hj => by rw [uB_k (by decide), uB_k (by decide), uB_k (by decide), uB_n (by omega)]; exact h2 j hj, by rw [uB_k (by decide), uB_k (by decide)]; exact h3, ?_, fun j hj => by rw [uB_n (by omega), uB_k (by decide)]; exact h5 j hj, fun k hk => ?_⟩
  · rw [uB_k (by decide), uB_s]
    exact Or.inl ⟨i, by omega, he, rfl⟩
  · by_cases he : k = i
    · rw [he, uB_s]
    · rw [uB_n (by omega), uB_k (by decide)]
      exact h6 k (by omega)
set_option maxRecDepth 100000 in
set_option maxHeartbeats 4000000 in
theorem l_we_n {ad : sA} {nw nt : Nat} {B : sB} {L : sL} {bc bs : Nat} {mv : Int32} {H : sB} {w P p K : Nat} {a : Nat → Nat} (h40 : nt ≤ 40) (hw : w < nw) (hf : fT B H) (hW : PW nt B w P) (hL : PL B) (hF : TFc nt B L) (hTL : TL nt H a K) (hp : p < P) (hon : B 20 w p = -1) : ∀ (n i : Nat) (B1 : sB), i + n = K → WE B H B1 L w p a mv i → Es (sCm yX1_weigh cX1_weigh 8 none 4 ad nw nt (fun v B1 L1 => v = none ∧ L1 = L ∧ WE B H B1 L w p a mv K)) 8 50 [some (.ref (ad 10 0)), some (.ref (ad 18 w)), some (.int (nI p)), some (.ref (ad 3 0)), some (.int (B 19 w p)), some (.null), some (.int (nI i)), none] [] ad nw nt B1 L bc bs := by
  have hC : ∀ Q, je_Ok (sCm yX1_weigh cX1_weigh 8 none 4 ad nw nt Q) RX1 cX1_weigh 8 4 := fun _ => je_Cm_ok
  have hp7 := hW.1
  have hK := hTL.2.1
  have hSM := hTL.2.2.1
  have hb : ∀ k, k < K → a k < 2 ^ 31 := fun k hk => by
    have := (hTL.2.2.2 k hk).2
    omega
  intro n
  induction n with
  | zero =>
    intro i B1 hn hE
    have hiK : i = K := by omega
    subst hiK
    have hTL1 := TL_f hTL (hE.1 10 (by decide) (by decide) (by decide)) (hE.1 11 (by decide) (by decide) (by decide))
    refine Es_iload (hC _) dX1_weigh_50 rfl ?_
    first | refine Es_aload_n (hC _) dX1_weigh_52 rfl ?_ | refine Es_aload_nN (hC _) dX1_weigh_52 rfl ?_
    refine Sg_X1_6 (hC _) fl_X1_50 dX1_weigh_53 ?_
    rw [hTL1.1]
    refine Es_icmp_ge (hC _) 120 dX1_weigh_56 (by decide) (fun hb56 => ?_) (fun hb56 => False.elim (hb56 (nI_le (Nat.le_refl _) (by omega))))
    exact Es_vret dX1_weigh_120 ⟨rfl, rfl, hE⟩
  | succ n ih =>
    intro i B1 hn hE
    have hTL1 := TL_f hTL (hE.1 10 (by decide) (by decide) (by decide)) (hE.1 11 (by decide) (by decide) (by decide))
    have hf1 := WE_f hE hf
    have hai := (hTL.2.2.2 i (by omega)).2
    have hne : ¬ B 20 w p = nI (a i) := by
      rw [hon]
      exact fun z => nI_m1 (by omega) z.symm
    refine Es_iload (hC _) dX1_weigh_50 rfl ?_
    first | refine Es_aload_n (hC _) dX1_weigh_52 rfl ?_ | refine Es_aload_nN (hC _) dX1_weigh_52 rfl ?_
    refine Sg_X1_6 (hC _) fl_X1_50 dX1_weigh_53 ?_
    rw [hTL1.1]
    refine Es_icmp_ge (hC _) 120 dX1_weigh_56 (by decide) (fun hb56 => False.elim (nI_ge (b := K) (a := i) (by omega) (by omega) hb56)) (fun hb56 => ?_)
    first | refine Es_aload_n (hC _) dX1_weigh_59 rfl ?_ | refine Es_aload_nN (hC _) dX1_weigh_59 rfl ?_
    refine Es_iload (hC _) dX1_weigh_60 rfl ?_
    refine Es_fV (hC _) mv_X1_80 dX1_weigh_62 (c_turnedAt h40 hTL1 (by omega)) rfl rfl ⟨_, rfl, rfl⟩ rfl rfl (by decide) (Nat.le_of_ble_eq_true rfl) ?_
    first | refine Es_astore (lv' := [_, _, _, _, _, _, _, _]) (hC _) dX1_weigh_65 (by decide) rfl rfl ?_ | refine Es_astoreN (lv' := [_, _, _, _, _, _, _, _]) (hC _) dX1_weigh_65 (by decide) rfl rfl ?_
    first | refine Es_aload (hC _) dX1_weigh_67 rfl ?_ | refine Es_aloadN (hC _) dX1_weigh_67 rfl ?_
    refine Es_ifnonnull (hC _) 75 dX1_weigh_69 (by decide) ?_
    first | refine Es_aload (hC _) dX1_weigh_75 rfl ?_ | refine Es_aloadN (hC _) dX1_weigh_75 rfl ?_
    first | refine Es_aload (hC _) dX1_weigh_77 rfl ?_ | refine Es_aloadN (hC _) dX1_weigh_77 rfl ?_
    refine Es_acmp_ne_rn (hC _) 92 dX1_weigh_79 (by decide) ?_
    first | refine Es_aload_n (hC _) dX1_weigh_92 rfl ?_ | refine Es_aload_nN (hC _) dX1_weigh_92 rfl ?_
    refine Sg_X1_1 (hC _) fl_X1_17 dX1_weigh_93 ?_
    refine Es_iload_n (hC _) dX1_weigh_96 rfl ?_
    refine Es_bipush (v := 7) (hC _) dX1_weigh_97 (by decide) ?_
    refine Es_imul (hC _) dX1_weigh_99 ?_
    refine Es_iload (hC _) dX1_weigh_100 rfl ?_
    refine Es_iadd (hC _) dX1_weigh_102 ?_
    rw [show nI p * 7 + nI i = nI (7 * p + i) by rw [show (7 : Int32) = nI 7 from rfl, pk_mul, nI_add, Nat.mul_comm p 7]]
    first | refine Es_aload (hC _) dX1_weigh_103 rfl ?_ | refine Es_aloadN (hC _) dX1_weigh_103 rfl ?_
    refine Es_iload (hC _) dX1_weigh_105 rfl ?_
    first | refine Es_aload_n (hC _) dX1_weigh_107 rfl ?_ | refine Es_aload_nN (hC _) dX1_weigh_107 rfl ?_
    refine Es_fS (hC _) ms_X1_98 dX1_weigh_108 (c_reachOf (a := a) hf1 hF hW hL hp hai) rfl rfl (by decide) (Nat.le_of_ble_eq_true rfl) ?_
    refine Es_fSN (hC _) ms_X1_76 dX1_weigh_111 (c_write (kd := 12) (n := 49) rfl (fun _ => rfl) rfl (by omega) (by decide)) rfl rfl (by decide) (Nat.le_of_ble_eq_true rfl) ?_
    refine Es_iinc (lv' := [_, _, _, _, _, _, _, _]) (hC _) dX1_weigh_114 (by decide) rfl (show _ + Int32.ofInt (1) = _ + (1) from rfl) rfl rfl ?_
    refine Es_goto (hC _) 50 dX1_weigh_117 (by decide) ?_
    refine Es.kill 7 (lv' := [_, _, _, _, _, _, _, _]) rfl ?_
    rw [nI_1]
    exact ih (i + 1) _ (by omega) (WE_s hSM (by omega) hb hK hE hne)
set_option maxRecDepth 100000 in
set_option maxHeartbeats 4000000 in
theorem l_we_t {ad : sA} {nw nt : Nat} {B : sB} {L : sL} {bc bs : Nat} {mv : Int32} {H : sB} {w P p K : Nat} {a : Nat → Nat} (h40 : nt ≤ 40) (hw : w < nw) (hf : fT B H) (hW : PW nt B w P) (hL : PL B) (hF : TFc nt B L) (hTL : TL nt H a K) (hp : p < P) {t : Nat} (ht : t < nt) (hon : B 20 w p = nI t) : ∀ (n i : Nat) (B1 : sB), i + n = K → WE B H B1 L w p a mv i → Es (sCm yX1_weigh cX1_weigh 8 none 4 ad nw nt (fun v B1 L1 => v = none ∧ L1 = L ∧ WE B H B1 L w p a mv K)) 8 50 [some (.ref (ad 10 0)), some (.ref (ad 18 w)), some (.int (nI p)), some (.ref (ad 3 0)), some (.int (B 19 w p)), some (.ref (ad 21 t)), some (.int (nI i)), none] [] ad nw nt B1 L bc bs := by
  have hC : ∀ Q, je_Ok (sCm yX1_weigh cX1_weigh 8 none 4 ad nw nt Q) RX1 cX1_weigh 8 4 := fun _ => je_Cm_ok
  have hp7 := hW.1
  have hK := hTL.2.1
  have hSM := hTL.2.2.1
  have hb : ∀ k, k < K → a k < 2 ^ 31 := fun k hk => by
    have := (hTL.2.2.2 k hk).2
    omega
  intro n
  induction n with
  | zero =>
    intro i B1 hn hE
    have hiK : i = K := by omega
    subst hiK
    have hTL1 := TL_f hTL (hE.1 10 (by decide) (by decide) (by decide)) (hE.1 11 (by decide) (by decide) (by decide))
    refine Es_iload (hC _) dX1_weigh_50 rfl ?_
    first | refine Es_aload_n (hC _) dX1_weigh_52 rfl ?_ | refine Es_aload_nN (hC _) dX1_weigh_52 rfl ?_
    refine Sg_X1_6 (hC _) fl_X1_50 dX1_weigh_53 ?_
    rw [hTL1.1]
    refine Es_icmp_ge (hC _) 120 dX1_weigh_56 (by decide) (fun hb56 => ?_) (fun hb56 => False.elim (hb56 (nI_le (Nat.le_refl _) (by omega))))
    exact Es_vret dX1_weigh_120 ⟨rfl, rfl, hE⟩
  | succ n ih =>
    intro i B1 hn hE
    have hTL1 := TL_f hTL (hE.1 10 (by decide) (by decide) (by decide)) (hE.1 11 (by decide) (by decide) (by decide))
    have hf1 := WE_f hE hf
    have hai := (hTL.2.2.2 i (by omega)).2
    by_cases he : a i = t
    · have he2 : B 20 w p = nI (a i) := by rw [he]; exact hon
      refine Es_iload (hC _) dX1_weigh_50 rfl ?_
      first | refine Es_aload_n (hC _) dX1_weigh_52 rfl ?_ | refine Es_aload_nN (hC _) dX1_weigh_52 rfl ?_
      refine Sg_X1_6 (hC _) fl_X1_50 dX1_weigh_53 ?_
      rw [hTL1.1]
      refine Es_icmp_ge (hC _) 120 dX1_weigh_56 (by decide) (fun hb56 => False.elim (nI_ge (b := K) (a := i) (by omega) (by omega) hb56)) (fun hb56 => ?_)
      first | refine Es_aload_n (hC _) dX1_weigh_59 rfl ?_ | refine Es_aload_nN (hC _) dX1_weigh_59 rfl ?_
      refine Es_iload (hC _) dX1_weigh_60 rfl ?_
      refine Es_fV (hC _) mv_X1_80 dX1_weigh_62 (c_turnedAt h40 hTL1 (by omega)) rfl rfl ⟨_, rfl, rfl⟩ rfl rfl (by decide) (Nat.le_of_ble_eq_true rfl) ?_
      first | refine Es_astore (lv' := [_, _, _, _, _, _, _, _]) (hC _) dX1_weigh_65 (by decide) rfl rfl ?_ | refine Es_astoreN (lv' := [_, _, _, _, _, _, _, _]) (hC _) dX1_weigh_65 (by decide) rfl rfl ?_
      first | refine Es_aload (hC _) dX1_weigh_67 rfl ?_ | refine Es_aloadN (hC _) dX1_weigh_67 rfl ?_
      refine Es_ifnonnull (hC _) 75 dX1_weigh_69 (by decide) ?_
      first | refine Es_aload (hC _) dX1_weigh_75 rfl ?_ | refine Es_aloadN (hC _) dX1_weigh_75 rfl ?_
      first | refine Es_aload (hC _) dX1_weigh_77 rfl ?_ | refine Es_aloadN (hC _) dX1_weigh_77 rfl ?_
      refine Es_acmp_ne_rr (hC _) 92 dX1_weigh_79 (by decide) hai ht (fun hb79 => False.elim (hb79 he)) (fun hb79 => ?_)
      first | refine Es_aload_n (hC _) dX1_weigh_82 rfl ?_ | refine Es_aload_nN (hC _) dX1_weigh_82 rfl ?_
      refine Sg_X1_2 (hC _) fl_X1_21 dX1_weigh_83 ?_
      refine Es_iload_n (hC _) dX1_weigh_86 rfl ?_
      refine Es_iload (hC _) dX1_weigh_87 rfl ?_
      refine Es_fSN (hC _) ms_X1_76 dX1_weigh_89 (c_write (kd := 13) (n := 7) rfl (fun _ => rfl) rfl (by omega) (by decide)) rfl rfl (by decide) (Nat.le_of_ble_eq_true rfl) ?_
      first | refine Es_aload_n (hC _) dX1_weigh_92 rfl ?_ | refine Es_aload_nN (hC _) dX1_weigh_92 rfl ?_
      refine Sg_X1_1 (hC _) fl_X1_17 dX1_weigh_93 ?_
      refine Es_iload_n (hC _) dX1_weigh_96 rfl ?_
      refine Es_bipush (v := 7) (hC _) dX1_weigh_97 (by decide) ?_
      refine Es_imul (hC _) dX1_weigh_99 ?_
      refine Es_iload (hC _) dX1_weigh_100 rfl ?_
      refine Es_iadd (hC _) dX1_weigh_102 ?_
      rw [show nI p * 7 + nI i = nI (7 * p + i) by rw [show (7 : Int32) = nI 7 from rfl, pk_mul, nI_add, Nat.mul_comm p 7]]
      first | refine Es_aload (hC _) dX1_weigh_103 rfl ?_ | refine Es_aloadN (hC _) dX1_weigh_103 rfl ?_
      refine Es_iload (hC _) dX1_weigh_105 rfl ?_
      first | refine Es_aload_n (hC _) dX1_weigh_107 rfl ?_ | refine Es_aload_nN (hC _) dX1_weigh_107 rfl ?_
      refine Es_fS (hC _) ms_X1_98 dX1_weigh_108 (c_reachOf (a := a) (fun q hq => (uB_k (by omega)).trans (hf1 q hq)) hF hW hL hp hai) rfl rfl (by decide) (Nat.le_of_ble_eq_true rfl) ?_
      refine Es_fSN (hC _) ms_X1_76 dX1_weigh_111 (c_write (kd := 12) (n := 49) rfl (fun _ => rfl) rfl (by omega) (by decide)) rfl rfl (by decide) (Nat.le_of_ble_eq_true rfl) ?_
      refine Es_iinc (lv' := [_, _, _, _, _, _, _, _]) (hC _) dX1_weigh_114 (by decide) rfl (show _ + Int32.ofInt (1) = _ + (1) from rfl) rfl rfl ?_
      refine Es_goto (hC _) 50 dX1_weigh_117 (by decide) ?_
      refine Es.kill 7 (lv' := [_, _, _, _, _, _, _, _]) rfl ?_
      rw [nI_1]
      exact ih (i + 1) _ (by omega) (WE_h hSM (by omega) hb hK hE he2)
    · have hne : ¬ B 20 w p = nI (a i) := by
        rw [hon]
        exact fun z => he ((nI_eq (by omega) (by omega)).mp z).symm
      refine Es_iload (hC _) dX1_weigh_50 rfl ?_
      first | refine Es_aload_n (hC _) dX1_weigh_52 rfl ?_ | refine Es_aload_nN (hC _) dX1_weigh_52 rfl ?_
      refine Sg_X1_6 (hC _) fl_X1_50 dX1_weigh_53 ?_
      rw [hTL1.1]
      refine Es_icmp_ge (hC _) 120 dX1_weigh_56 (by decide) (fun hb56 => False.elim (nI_ge (b := K) (a := i) (by omega) (by omega) hb56)) (fun hb56 => ?_)
      first | refine Es_aload_n (hC _) dX1_weigh_59 rfl ?_ | refine Es_aload_nN (hC _) dX1_weigh_59 rfl ?_
      refine Es_iload (hC _) dX1_weigh_60 rfl ?_
      refine Es_fV (hC _) mv_X1_80 dX1_weigh_62 (c_turnedAt h40 hTL1 (by omega)) rfl rfl ⟨_, rfl, rfl⟩ rfl rfl (by decide) (Nat.le_of_ble_eq_true rfl) ?_
      first | refine Es_astore (lv' := [_, _, _, _, _, _, _, _]) (hC _) dX1_weigh_65 (by decide) rfl rfl ?_ | refine Es_astoreN (lv' := [_, _, _, _, _, _, _, _]) (hC _) dX1_weigh_65 (by decide) rfl rfl ?_
      first | refine Es_aload (hC _) dX1_weigh_67 rfl ?_ | refine Es_aloadN (hC _) dX1_weigh_67 rfl ?_
      refine Es_ifnonnull (hC _) 75 dX1_weigh_69 (by decide) ?_
      first | refine Es_aload (hC _) dX1_weigh_75 rfl ?_ | refine Es_aloadN (hC _) dX1_weigh_75 rfl ?_
      first | refine Es_aload (hC _) dX1_weigh_77 rfl ?_ | refine Es_aloadN (hC _) dX1_weigh_77 rfl ?_
      refine Es_acmp_ne_rr (hC _) 92 dX1_weigh_79 (by decide) hai ht (fun hb79 => ?_) (fun hb79 => False.elim (he hb79))
      first | refine Es_aload_n (hC _) dX1_weigh_92 rfl ?_ | refine Es_aload_nN (hC _) dX1_weigh_92 rfl ?_
      refine Sg_X1_1 (hC _) fl_X1_17 dX1_weigh_93 ?_
      refine Es_iload_n (hC _) dX1_weigh_96 rfl ?_
      refine Es_bipush (v := 7) (hC _) dX1_weigh_97 (by decide) ?_
      refine Es_imul (hC _) dX1_weigh_99 ?_
      refine Es_iload (hC _) dX1_weigh_100 rfl ?_
      refine Es_iadd (hC _) dX1_weigh_102 ?_
      rw [show nI p * 7 + nI i = nI (7 * p + i) by rw [show (7 : Int32) = nI 7 from rfl, pk_mul, nI_add, Nat.mul_comm p 7]]
      first | refine Es_aload (hC _) dX1_weigh_103 rfl ?_ | refine Es_aloadN (hC _) dX1_weigh_103 rfl ?_
      refine Es_iload (hC _) dX1_weigh_105 rfl ?_
      first | refine Es_aload_n (hC _) dX1_weigh_107 rfl ?_ | refine Es_aload_nN (hC _) dX1_weigh_107 rfl ?_
      refine Es_fS (hC _) ms_X1_98 dX1_weigh_108 (c_reachOf (a := a) hf1 hF hW hL hp hai) rfl rfl (by decide) (Nat.le_of_ble_eq_true rfl) ?_
      refine Es_fSN (hC _) ms_X1_76 dX1_weigh_111 (c_write (kd := 12) (n := 49) rfl (fun _ => rfl) rfl (by omega) (by decide)) rfl rfl (by decide) (Nat.le_of_ble_eq_true rfl) ?_
      refine Es_iinc (lv' := [_, _, _, _, _, _, _, _]) (hC _) dX1_weigh_114 (by decide) rfl (show _ + Int32.ofInt (1) = _ + (1) from rfl) rfl rfl ?_
      refine Es_goto (hC _) 50 dX1_weigh_117 (by decide) ?_
      refine Es.kill 7 (lv' := [_, _, _, _, _, _, _, _]) rfl ?_
      rw [nI_1]
      exact ih (i + 1) _ (by omega) (WE_s hSM (by omega) hb hK hE hne)
set_option maxRecDepth 100000 in
set_option maxHeartbeats 4000000 in
theorem c_weigh_n {ad : sA} {nw nt : Nat} {B : sB} {L : sL} {H : sB} {w P p K : Nat} {a : Nat → Nat} (h40 : nt ≤ 40) (hw : w < nw) (hf : fT B H) (hW : PW nt B w P) (hL : PL B) (hF : TFc nt B L) (hTL : TL nt H a K) (hp : p < P) (hon : B 20 w p = -1) : Cs yX1_weigh cX1_weigh 8 none 4 [.ref (ad 10 0), .ref (ad 18 w), .int (nI p), .ref (ad 3 0)] ad nw nt (H) (L) (fun v B1 L1 => v = none ∧ L1 = L ∧ WE B H B1 L w p a 0 K) := by
  have hC : ∀ Q, je_Ok (sCm yX1_weigh cX1_weigh 8 none 4 ad nw nt Q) RX1 cX1_weigh 8 4 := fun _ => je_Cm_ok
  refine Cs_of [some (.ref (ad 10 0)), some (.ref (ad 18 w)), some (.int (nI p)), some (.ref (ad 3 0)), none, none, none, none] (by decide) rfl (Nat.le_of_ble_eq_true rfl) ?_
  have hWH := PW_f hf hW
  have hp7 := hW.1
  first | refine Es_aload_n (hC _) dX1_weigh_0 rfl ?_ | refine Es_aload_nN (hC _) dX1_weigh_0 rfl ?_
  refine Es_iload_n (hC _) dX1_weigh_1 rfl ?_
  refine Es_fV (hC _) mv_X1_94 dX1_weigh_2 (c_kindOf_in hw hWH.2.1 hWH.1 hp) (ok18 hw) rfl ⟨_, rfl, rfl⟩ rfl rfl (by decide) (Nat.le_of_ble_eq_true rfl) ?_
  rw [hf 19 (by omega)]
  refine Es_istore (lv' := [_, _, _, _, _, _, _, _]) (hC _) dX1_weigh_5 (by decide) rfl rfl ?_
  first | refine Es_aload_n (hC _) dX1_weigh_7 rfl ?_ | refine Es_aload_nN (hC _) dX1_weigh_7 rfl ?_
  refine Es_iload_n (hC _) dX1_weigh_8 rfl ?_
  refine Es_fV (hC _) mv_X1_84 dX1_weigh_9 (c_tyreOn_in hw hWH.2.1 hWH.1 hp) (ok18 hw) rfl ⟨_, rfl, rfl⟩ rfl rfl (by decide) (Nat.le_of_ble_eq_true rfl) ?_
  rw [show rT ad (H 20 w p) = none by rw [hf 20 (by omega), hon]; rfl]
  first | refine Es_astore (lv' := [_, _, _, _, _, _, _, _]) (hC _) dX1_weigh_12 (by decide) rfl rfl ?_ | refine Es_astoreN (lv' := [_, _, _, _, _, _, _, _]) (hC _) dX1_weigh_12 (by decide) rfl rfl ?_
  first | refine Es_aload_n (hC _) dX1_weigh_14 rfl ?_ | refine Es_aload_nN (hC _) dX1_weigh_14 rfl ?_
  refine Sg_X1_3 (hC _) fl_X1_24 dX1_weigh_15 ?_
  refine Es_iload_n (hC _) dX1_weigh_18 rfl ?_
  first | refine Es_aload (hC _) dX1_weigh_19 rfl ?_ | refine Es_aloadN (hC _) dX1_weigh_19 rfl ?_
  refine Es_ifnullN (hC _) 34 dX1_weigh_21 (by decide) ?_
  refine Es_iconst (v := 0) (hC _) dX1_weigh_34 (by decide) ?_
  refine Es_fSN (hC _) ms_X1_76 dX1_weigh_35 (c_write (kd := 14) (n := 7) rfl (fun _ => rfl) rfl (by omega) (by decide)) rfl rfl (by decide) (Nat.le_of_ble_eq_true rfl) ?_
  first | refine Es_aload_n (hC _) dX1_weigh_38 rfl ?_ | refine Es_aload_nN (hC _) dX1_weigh_38 rfl ?_
  refine Sg_X1_2 (hC _) fl_X1_21 dX1_weigh_39 ?_
  refine Es_iload_n (hC _) dX1_weigh_42 rfl ?_
  refine Es_iconst (v := -1) (hC _) dX1_weigh_43 (by decide) ?_
  refine Es_fSN (hC _) ms_X1_76 dX1_weigh_44 (c_write (kd := 13) (n := 7) rfl (fun _ => rfl) rfl (by omega) (by decide)) rfl rfl (by decide) (Nat.le_of_ble_eq_true rfl) ?_
  refine Es_iconst (v := 0) (hC _) dX1_weigh_47 (by decide) ?_
  refine Es_istore (lv' := [_, _, _, _, _, _, _, _]) (hC _) dX1_weigh_48 (by decide) rfl rfl ?_
  exact l_we_n h40 hw hf hW hL hF hTL hp hon K 0 _ (by omega) ⟨fun q h1 h2 h3 => (by rw [uB_k h2, uB_k h3]), fun j hj => (by rw [uB_k (by decide), uB_n (by omega), uB_n (by omega), uB_k (by decide)]; exact ⟨rfl, rfl⟩), (by rw [uB_k (by decide), uB_s]), Or.inr ⟨uB_s _ _ _ _ _, fun k hk => (by omega)⟩, fun j _ => (by rw [uB_k (by decide), uB_k (by decide)]), fun k hk => (by omega)⟩

set_option maxRecDepth 100000 in
set_option maxHeartbeats 4000000 in
theorem c_weigh_t4 {ad : sA} {nw nt : Nat} {B : sB} {L : sL} {H : sB} {w P p K : Nat} {a : Nat → Nat} (h40 : nt ≤ 40) (hw : w < nw) (hf : fT B H) (hW : PW nt B w P) (hL : PL B) (hF : TFc nt B L) (hTL : TL nt H a K) (hp : p < P) {t : Nat} (ht : t < nt) (hon : B 20 w p = nI t) (h4 : B 19 w p = 4) : Cs yX1_weigh cX1_weigh 8 none 4 [.ref (ad 10 0), .ref (ad 18 w), .int (nI p), .ref (ad 3 0)] ad nw nt (H) (L) (fun v B1 L1 => v = none ∧ L1 = L ∧ WE B H B1 L w p a 0 K) := by
  have hC : ∀ Q, je_Ok (sCm yX1_weigh cX1_weigh 8 none 4 ad nw nt Q) RX1 cX1_weigh 8 4 := fun _ => je_Cm_ok
  refine Cs_of [some (.ref (ad 10 0)), some (.ref (ad 18 w)), some (.int (nI p)), some (.ref (ad 3 0)), none, none, none, none] (by decide) rfl (Nat.le_of_ble_eq_true rfl) ?_
  have hWH := PW_f hf hW
  have hp7 := hW.1
  first | refine Es_aload_n (hC _) dX1_weigh_0 rfl ?_ | refine Es_aload_nN (hC _) dX1_weigh_0 rfl ?_
  refine Es_iload_n (hC _) dX1_weigh_1 rfl ?_
  refine Es_fV (hC _) mv_X1_94 dX1_weigh_2 (c_kindOf_in hw hWH.2.1 hWH.1 hp) (ok18 hw) rfl ⟨_, rfl, rfl⟩ rfl rfl (by decide) (Nat.le_of_ble_eq_true rfl) ?_
  rw [hf 19 (by omega)]
  refine Es_istore (lv' := [_, _, _, _, _, _, _, _]) (hC _) dX1_weigh_5 (by decide) rfl rfl ?_
  first | refine Es_aload_n (hC _) dX1_weigh_7 rfl ?_ | refine Es_aload_nN (hC _) dX1_weigh_7 rfl ?_
  refine Es_iload_n (hC _) dX1_weigh_8 rfl ?_
  refine Es_fV (hC _) mv_X1_84 dX1_weigh_9 (c_tyreOn_in hw hWH.2.1 hWH.1 hp) (ok18 hw) rfl ⟨_, rfl, rfl⟩ rfl rfl (by decide) (Nat.le_of_ble_eq_true rfl) ?_
  rw [show rT ad (H 20 w p) = some (ad 21 t) by rw [hf 20 (by omega), hon, rT, if_neg (nI_pos (by omega)), nI_clamp (by omega)]]
  first | refine Es_astore (lv' := [_, _, _, _, _, _, _, _]) (hC _) dX1_weigh_12 (by decide) rfl rfl ?_ | refine Es_astoreN (lv' := [_, _, _, _, _, _, _, _]) (hC _) dX1_weigh_12 (by decide) rfl rfl ?_
  first | refine Es_aload_n (hC _) dX1_weigh_14 rfl ?_ | refine Es_aload_nN (hC _) dX1_weigh_14 rfl ?_
  refine Sg_X1_3 (hC _) fl_X1_24 dX1_weigh_15 ?_
  refine Es_iload_n (hC _) dX1_weigh_18 rfl ?_
  first | refine Es_aload (hC _) dX1_weigh_19 rfl ?_ | refine Es_aloadN (hC _) dX1_weigh_19 rfl ?_
  refine Es_ifnull (hC _) dX1_weigh_21 ?_
  refine Es_iload (hC _) dX1_weigh_24 rfl ?_
  refine Es_iconst (v := 4) (hC _) dX1_weigh_26 (by decide) ?_
  refine Es_icmp_eq (hC _) 34 dX1_weigh_27 (by decide) (fun hb27 => ?_) (fun hb27 => False.elim (hb27 h4))
  refine Es_iconst (v := 0) (hC _) dX1_weigh_34 (by decide) ?_
  refine Es_fSN (hC _) ms_X1_76 dX1_weigh_35 (c_write (kd := 14) (n := 7) rfl (fun _ => rfl) rfl (by omega) (by decide)) rfl rfl (by decide) (Nat.le_of_ble_eq_true rfl) ?_
  first | refine Es_aload_n (hC _) dX1_weigh_38 rfl ?_ | refine Es_aload_nN (hC _) dX1_weigh_38 rfl ?_
  refine Sg_X1_2 (hC _) fl_X1_21 dX1_weigh_39 ?_
  refine Es_iload_n (hC _) dX1_weigh_42 rfl ?_
  refine Es_iconst (v := -1) (hC _) dX1_weigh_43 (by decide) ?_
  refine Es_fSN (hC _) ms_X1_76 dX1_weigh_44 (c_write (kd := 13) (n := 7) rfl (fun _ => rfl) rfl (by omega) (by decide)) rfl rfl (by decide) (Nat.le_of_ble_eq_true rfl) ?_
  refine Es_iconst (v := 0) (hC _) dX1_weigh_47 (by decide) ?_
  refine Es_istore (lv' := [_, _, _, _, _, _, _, _]) (hC _) dX1_weigh_48 (by decide) rfl rfl ?_
  exact l_we_t h40 hw hf hW hL hF hTL hp ht hon K 0 _ (by omega) ⟨fun q h1 h2 h3 => (by rw [uB_k h2, uB_k h3]), fun j hj => (by rw [uB_k (by decide), uB_n (by omega), uB_n (by omega), uB_k (by decide)]; exact ⟨rfl, rfl⟩), (by rw [uB_k (by decide), uB_s]), Or.inr ⟨uB_s _ _ _ _ _, fun k hk => (by omega)⟩, fun j _ => (by rw [uB_k (by decide), uB_k (by decide)]), fun k hk => (by omega)⟩

set_option maxRecDepth 100000 in
set_option maxHeartbeats 4000000 in
theorem c_weigh_t {ad : sA} {nw nt : Nat} {B : sB} {L : sL} {H : sB} {w P p K : Nat} {a : Nat → Nat} (h40 : nt ≤ 40) (hw : w < nw) (hf : fT B H) (hW : PW nt B w P) (hL : PL B) (hF : TFc nt B L) (hTL : TL nt H a K) (hp : p < P) {t : Nat} (ht : t < nt) (hon : B 20 w p = nI t) (h4 : ¬ B 19 w p = 4) : Cs yX1_weigh cX1_weigh 8 none 4 [.ref (ad 10 0), .ref (ad 18 w), .int (nI p), .ref (ad 3 0)] ad nw nt (H) (L) (fun v B1 L1 => v = none ∧ L1 = L ∧ WE B H B1 L w p a 1 K) := by
  have hC : ∀ Q, je_Ok (sCm yX1_weigh cX1_weigh 8 none 4 ad nw nt Q) RX1 cX1_weigh 8 4 := fun _ => je_Cm_ok
  refine Cs_of [some (.ref (ad 10 0)), some (.ref (ad 18 w)), some (.int (nI p)), some (.ref (ad 3 0)), none, none, none, none] (by decide) rfl (Nat.le_of_ble_eq_true rfl) ?_
  have hWH := PW_f hf hW
  have hp7 := hW.1
  first | refine Es_aload_n (hC _) dX1_weigh_0 rfl ?_ | refine Es_aload_nN (hC _) dX1_weigh_0 rfl ?_
  refine Es_iload_n (hC _) dX1_weigh_1 rfl ?_
  refine Es_fV (hC _) mv_X1_94 dX1_weigh_2 (c_kindOf_in hw hWH.2.1 hWH.1 hp) (ok18 hw) rfl ⟨_, rfl, rfl⟩ rfl rfl (by decide) (Nat.le_of_ble_eq_true rfl) ?_
  rw [hf 19 (by omega)]
  refine Es_istore (lv' := [_, _, _, _, _, _, _, _]) (hC _) dX1_weigh_5 (by decide) rfl rfl ?_
  first | refine Es_aload_n (hC _) dX1_weigh_7 rfl ?_ | refine Es_aload_nN (hC _) dX1_weigh_7 rfl ?_
  refine Es_iload_n (hC _) dX1_weigh_8 rfl ?_
  refine Es_fV (hC _) mv_X1_84 dX1_weigh_9 (c_tyreOn_in hw hWH.2.1 hWH.1 hp) (ok18 hw) rfl ⟨_, rfl, rfl⟩ rfl rfl (by decide) (Nat.le_of_ble_eq_true rfl) ?_
  rw [show rT ad (H 20 w p) = some (ad 21 t) by rw [hf 20 (by omega), hon, rT, if_neg (nI_pos (by omega)), nI_clamp (by omega)]]
  first | refine Es_astore (lv' := [_, _, _, _, _, _, _, _]) (hC _) dX1_weigh_12 (by decide) rfl rfl ?_ | refine Es_astoreN (lv' := [_, _, _, _, _, _, _, _]) (hC _) dX1_weigh_12 (by decide) rfl rfl ?_
  first | refine Es_aload_n (hC _) dX1_weigh_14 rfl ?_ | refine Es_aload_nN (hC _) dX1_weigh_14 rfl ?_
  refine Sg_X1_3 (hC _) fl_X1_24 dX1_weigh_15 ?_
  refine Es_iload_n (hC _) dX1_weigh_18 rfl ?_
  first | refine Es_aload (hC _) dX1_weigh_19 rfl ?_ | refine Es_aloadN (hC _) dX1_weigh_19 rfl ?_
  refine Es_ifnull (hC _) dX1_weigh_21 ?_
  refine Es_iload (hC _) dX1_weigh_24 rfl ?_
  refine Es_iconst (v := 4) (hC _) dX1_weigh_26 (by decide) ?_
  refine Es_icmp_eq (hC _) 34 dX1_weigh_27 (by decide) (fun hb27 => False.elim (h4 hb27)) (fun hb27 => ?_)
  refine Es_iconst (v := 1) (hC _) dX1_weigh_30 (by decide) ?_
  refine Es_goto (hC _) 35 dX1_weigh_31 (by decide) ?_
  refine Es_fSN (hC _) ms_X1_76 dX1_weigh_35 (c_write (kd := 14) (n := 7) rfl (fun _ => rfl) rfl (by omega) (by decide)) rfl rfl (by decide) (Nat.le_of_ble_eq_true rfl) ?_
  first | refine Es_aload_n (hC _) dX1_weigh_38 rfl ?_ | refine Es_aload_nN (hC _) dX1_weigh_38 rfl ?_
  refine Sg_X1_2 (hC _) fl_X1_21 dX1_weigh_39 ?_
  refine Es_iload_n (hC _) dX1_weigh_42 rfl ?_
  refine Es_iconst (v := -1) (hC _) dX1_weigh_43 (by decide) ?_
  refine Es_fSN (hC _) ms_X1_76 dX1_weigh_44 (c_write (kd := 13) (n := 7) rfl (fun _ => rfl) rfl (by omega) (by decide)) rfl rfl (by decide) (Nat.le_of_ble_eq_true rfl) ?_
  refine Es_iconst (v := 0) (hC _) dX1_weigh_47 (by decide) ?_
  refine Es_istore (lv' := [_, _, _, _, _, _, _, _]) (hC _) dX1_weigh_48 (by decide) rfl rfl ?_
  exact l_we_t h40 hw hf hW hL hF hTL hp ht hon K 0 _ (by omega) ⟨fun q h1 h2 h3 => (by rw [uB_k h2, uB_k h3]), fun j hj => (by rw [uB_k (by decide), uB_n (by omega), uB_n (by omega), uB_k (by decide)]; exact ⟨rfl, rfl⟩), (by rw [uB_k (by decide), uB_s]), Or.inr ⟨uB_s _ _ _ _ _, fun k hk => (by omega)⟩, fun j _ => (by rw [uB_k (by decide), uB_k (by decide)]), fun k hk => (by omega)⟩

theorem c_weigh {ad : sA} {nw nt : Nat} {B : sB} {L : sL} {H : sB} {w P p K : Nat} {a : Nat → Nat} (h40 : nt ≤ 40) (hw : w < nw) (hf : fT B H) (hW : PW nt B w P) (hL : PL B) (hF : TFc nt B L) (hTL : TL nt H a K) (hp : p < P) : Cs yX1_weigh cX1_weigh 8 none 4 [.ref (ad 10 0), .ref (ad 18 w), .int (nI p), .ref (ad 3 0)] ad nw nt H L (fun v B1 L1 => v = none ∧ L1 = L ∧ WE B H B1 L w p a (if tdM B w p = true then 1 else 0) K) := by
  rcases (hW.2.2 p hp).2 with hon | ⟨t, ht, hon⟩
  · rw [show tdM B w p = false by unfold tdM; rw [hon]; exact decide_eq_false (fun z => z.1 (by decide))]
    exact c_weigh_n h40 hw hf hW hL hF hTL hp hon
  · by_cases h4 : B 19 w p = 4
    · rw [show tdM B w p = false by unfold tdM; exact decide_eq_false (fun z => z.2 h4)]
      exact c_weigh_t4 h40 hw hf hW hL hF hTL hp ht hon h4
    · rw [show tdM B w p = true by unfold tdM; exact decide_eq_true ⟨by rw [hon]; exact nI_pos (by omega), h4⟩]
      exact c_weigh_t h40 hw hf hW hL hF hTL hp ht hon h4
/-- what is weighed of the first i places -/
def WV (B H B1 : sB) (L : sL) (w : Nat) (a : Nat → Nat) (K i : Nat) : Prop := (∀ q, q ≠ 12 → q ≠ 13 → q ≠ 14 → B1 q = H q) ∧ ∀ p, p < i → B1 14 0 p = (if tdM B w p = true then 1 else 0) ∧ HM a (B 20 w p) (B1 13 0 p) K ∧ ∀ k, k < K → B1 12 0 (7 * p + k) = iE (tdE B L w a p k)
theorem WV_s {B H B1 B2 : sB} {L : sL} {w : Nat} {a : Nat → Nat} {K i : Nat} (hK : K ≤ 7) (h : WV B H B1 L w a K i) (h2 : WE B B1 B2 L w i a (if tdM B w i = true then 1 else 0) K) : WV B H B2 L w a K (i + 1) := by
  obtain ⟨a1, a2⟩ := h
  obtain ⟨b1, b2, b3, b4, b5, b6⟩ := h2
  refine ⟨fun q h1 h2 h3 => (b1 q h1 h2 h3).trans (a1 q h1 h2 h3), fun p hp => ?_⟩
  by_cases he : p = i
  · subst he
    exact ⟨b3, b4, b6⟩
  · obtain ⟨c1, c2, c3⟩ := a2 p (by omega)
    obtain ⟨d1, d2⟩ := b2 p he
    rw [d1, d2]
    refine ⟨c1, c2, fun k hk => ?_⟩
    rw [b5 _ (by omega)]
    exact c3 k hk
theorem WV_TT {nt : Nat} {B H B1 : sB} {L : sL} {w : Nat} {a : Nat → Nat} {K P : Nat} (h40 : nt ≤ 40) (hP : P ≤ 7) (hTL : TL nt H a K) (h7 : H 10 0 7 = nI P) (h : WV B H B1 L w a K P) : TT B1 (tdo B L w a K) P := by
  obtain ⟨a1, a2⟩ := h
  have e10 : B1 10 = H 10 := a1 10 (by decide) (by decide) (by decide)
  refine ⟨hTL.2.1, hP, by rw [e10]; exact hTL.1, by rw [e10]; exact h7, fun p hp => (a2 p hp).1, fun p k hp hk => ⟨(a2 p hp).2.2 k hk, tdE_b B L w a p k⟩, fun p k hp hk => ?_⟩
  have hk' : k < K := hk
  have hK7 := hTL.2.1
  have hbk := (hTL.2.2.2 k hk').2
  show tdC B w a p k = _
  unfold tdC
  rcases (a2 p hp).2.1 with ⟨k', c1, c2, c3⟩ | ⟨c1, c2⟩
  · have hbk' := (hTL.2.2.2 k' c1).2
    rw [c2, c3]
    by_cases he : k' = k
    · subst he
      rw [if_pos rfl, if_pos rfl]
    · rw [if_neg (fun z => he (SM_inj hTL.2.2.1 c1 hk' ((nI_eq (by omega) (by omega)).mp z))), if_neg (fun z => he ((nI_eq (by omega) (by omega)).mp z))]
  · rw [c1, if_neg (c2 k hk'), if_neg (fun z => nI_m1 (by omega) z.symm)]
set_option maxRecDepth 100000 in
set_option maxHeartbeats 4000000 in
theorem l_find {ad : sA} {nw nt : Nat} {B : sB} {L : sL} {bc bs : Nat} {H : sB} {w p K : Nat} {a : Nat → Nat} (h40 : nt ≤ 40) (hw : w < nw) (hf : fT B H) (hW : PW nt B w p) (hL : PL B) (hF : TFc nt B L) (hTL : TL nt H a K) (h7 : H 10 0 7 = nI p) (hK0 : 0 < K) : ∀ (n i : Nat) (B1 : sB), i + n = p → WV B H B1 L w a K i → Es (sCm yX1_findReach cX1_findReach 4 (some .boolean) 5 ad nw nt (fun v B1 L1 => L1 = L ∧ fT B B1 ∧ TL nt B1 a K ∧ ((K = 0 ∧ v = some (.int 0)) ∨ (0 < K ∧ TT B1 (tdo B L w a K) p ∧ B1 10 0 8 = iE (rch (tdo B L w a K) p 0 0) ∧ v = some (.int (if rch (tdo B L w a K) p 0 0 = 0 then 0 else 1)))))) 4 29 [some (.ref (ad 10 0)), some (.ref (ad 18 w)), some (.ref (ad 3 0)), some (.int (nI i))] [] ad nw nt B1 L bc bs := by
  have hC : ∀ Q, je_Ok (sCm yX1_findReach cX1_findReach 4 (some .boolean) 5 ad nw nt Q) RX1 cX1_findReach 4 5 := fun _ => je_Cm_ok
  have hp7 := hW.1
  intro n
  induction n with
  | zero =>
    intro i B1 hn hV
    have hip : i = p := by omega
    subst hip
    have h71 : B1 10 0 7 = nI i := by rw [hV.1 10 (by decide) (by decide) (by decide)]; exact h7
    have hTL1 : TL nt B1 a K := TL_f hTL (hV.1 10 (by decide) (by decide) (by decide)) (hV.1 11 (by decide) (by decide) (by decide))
    have hfT1 : fT B B1 := fun q hq => (hV.1 q (by omega) (by omega) (by omega)).trans (hf q hq)
    have hTT := WV_TT h40 hp7 hTL h7 hV
    refine Es_iload_n (hC _) dX1_findReach_29 rfl ?_
    first | refine Es_aload_n (hC _) dX1_findReach_30 rfl ?_ | refine Es_aload_nN (hC _) dX1_findReach_30 rfl ?_
    refine Sg_X1_7 (hC _) fl_X1_45 dX1_findReach_31 ?_
    rw [h71]
    refine Es_icmp_ge (hC _) 50 dX1_findReach_34 (by decide) (fun hb34 => ?_) (fun hb34 => False.elim (hb34 (nI_le (Nat.le_refl _) (by omega))))
    first | refine Es_aload_n (hC _) dX1_findReach_50 rfl ?_ | refine Es_aload_nN (hC _) dX1_findReach_50 rfl ?_
    refine Es_callV (hC _) mv_X1_57 dX1_findReach_51 (c_fillReaches hTT) rfl rfl ⟨_, rfl, rfl⟩ rfl rfl (by decide) (Nat.le_of_ble_eq_true rfl) (fun v' B3 L2 q => ?_)
    obtain ⟨rfl, rfl, g, rfl, hg⟩ := q
    first | refine Es_aload_n (hC _) dX1_findReach_54 rfl ?_ | refine Es_aload_nN (hC _) dX1_findReach_54 rfl ?_
    first | refine Es_aload_n (hC _) dX1_findReach_55 rfl ?_ | refine Es_aload_nN (hC _) dX1_findReach_55 rfl ?_
    refine Sg_X1_5 (hC _) fl_X1_30 dX1_findReach_56 ?_
    refine Es_iconst (v := 0) (hC _) dX1_findReach_59 (by decide) ?_
    refine Es_iconst (v := 0) (hC _) dX1_findReach_60 (by decide) ?_
    refine Es_fS (hC _) ms_X1_60 dX1_findReach_61 c_slot0 rfl rfl (by decide) (Nat.le_of_ble_eq_true rfl) ?_
    refine Es_fSN (hC _) ms_X1_63 dX1_findReach_64 (c_at (kd := 16) (n := 1024) (k := 0) rfl rfl rfl (by decide) (by decide)) rfl rfl (by decide) (Nat.le_of_ble_eq_true rfl) ?_
    rw [sT_r, show g 0 = iE (rch (tdo B L2 w a K) i 0 0) from hg 0 0 (Nat.zero_le _) (by have := (p2_b (show (tdo B L2 w a K).K ≤ 7 from hTT.1)).1; omega)]
    refine Sp_X1_8 (hC _) fl_X1_67 dX1_findReach_67 ?_
    first | refine Es_aload_n (hC _) dX1_findReach_70 rfl ?_ | refine Es_aload_nN (hC _) dX1_findReach_70 rfl ?_
    refine Sg_X1_8 (hC _) fl_X1_67 dX1_findReach_71 ?_
    rw [uB_s]
    refine Es_iconst (v := -1) (hC _) dX1_findReach_74 (by decide) ?_
    have hTL3 : TL nt (uB (sT B1 g) 10 0 8 (iE (rch (tdo B L2 w a K) i 0 0))) a K := by
      unfold TL
      rw [uB_n (by decide), uB_k (by decide), sT_k (by decide), sT_k (by decide)]
      exact hTL1
    have hfT3 : fT B (uB (sT B1 g) 10 0 8 (iE (rch (tdo B L2 w a K) i 0 0))) := fun q hq => by
      rw [uB_k (by omega), sT_k (by omega)]
      exact hfT1 q hq
    have hTT3 : TT (uB (sT B1 g) 10 0 8 (iE (rch (tdo B L2 w a K) i 0 0))) (tdo B L2 w a K) i := by
      have := TT_T (g := g) hTT
      unfold TT at this ⊢
      rw [uB_n (by decide), uB_n (by decide), uB_k (by decide), uB_k (by decide), uB_k (by decide)]
      exact this
    have hr6 : rch (tdo B L2 w a K) i 0 0 ≤ 1000001 := rch_b (D := tdo B L2 w a K) (P := i) (fun q k _ _ => tdE_b B L2 w a q k) _ _ _ (by omega)
    by_cases h0 : rch (tdo B L2 w a K) i 0 0 = 0
    · skip
      refine Es_icmp_eq (hC _) 82 dX1_findReach_75 (by decide) (fun hb75 => ?_) (fun hb75 => False.elim (hb75 (by rw [h0]; rfl)))
      refine Es_iconst (v := 0) (hC _) dX1_findReach_82 (by decide) ?_
      exact Es_iret dX1_findReach_83 rfl ⟨rfl, hfT3, hTL3, Or.inr ⟨hK0, hTT3, uB_s _ _ _ _ _, by rw [if_pos h0]⟩⟩
    · skip
      refine Es_icmp_eq (hC _) 82 dX1_findReach_75 (by decide) (fun hb75 => False.elim (h0 ((iE_eq hr6 (by decide)).mp (hb75.trans iE_0.symm)))) (fun hb75 => ?_)
      refine Es_iconst (v := 1) (hC _) dX1_findReach_78 (by decide) ?_
      refine Es_goto (hC _) 83 dX1_findReach_79 (by decide) ?_
      exact Es_iret dX1_findReach_83 rfl ⟨rfl, hfT3, hTL3, Or.inr ⟨hK0, hTT3, uB_s _ _ _ _ _, by rw [if_neg h0]⟩⟩
  | succ n ih =>
    intro i B1 hn hV
    have h71 : B1 10 0 7 = nI p := by rw [hV.1 10 (by decide) (by decide) (by decide)]; exact h7
    have hTL1 : TL nt B1 a K := TL_f hTL (hV.1 10 (by decide) (by decide) (by decide)) (hV.1 11 (by decide) (by decide) (by decide))
    have hfT1 : fT B B1 := fun q hq => (hV.1 q (by omega) (by omega) (by omega)).trans (hf q hq)
    refine Es_iload_n (hC _) dX1_findReach_29 rfl ?_
    first | refine Es_aload_n (hC _) dX1_findReach_30 rfl ?_ | refine Es_aload_nN (hC _) dX1_findReach_30 rfl ?_
    refine Sg_X1_7 (hC _) fl_X1_45 dX1_findReach_31 ?_
    rw [h71]
    refine Es_icmp_ge (hC _) 50 dX1_findReach_34 (by decide) (fun hb34 => False.elim (nI_ge (b := p) (a := i) (by omega) (by omega) hb34)) (fun hb34 => ?_)
    first | refine Es_aload_n (hC _) dX1_findReach_37 rfl ?_ | refine Es_aload_nN (hC _) dX1_findReach_37 rfl ?_
    first | refine Es_aload_n (hC _) dX1_findReach_38 rfl ?_ | refine Es_aload_nN (hC _) dX1_findReach_38 rfl ?_
    refine Es_iload_n (hC _) dX1_findReach_39 rfl ?_
    first | refine Es_aload_n (hC _) dX1_findReach_40 rfl ?_ | refine Es_aload_nN (hC _) dX1_findReach_40 rfl ?_
    refine Es_callV (hC _) mv_X1_53 dX1_findReach_41 (c_weigh h40 hw hfT1 hW hL hF hTL1 (by omega)) rfl rfl ⟨_, rfl, rfl⟩ rfl rfl (by decide) (Nat.le_of_ble_eq_true rfl) (fun v' B2 L2 q => ?_)
    obtain ⟨rfl, rfl, hE⟩ := q
    refine Es_iinc (lv' := [_, _, _, _]) (hC _) dX1_findReach_44 (by decide) rfl (show _ + Int32.ofInt (1) = _ + (1) from rfl) rfl rfl ?_
    refine Es_goto (hC _) 29 dX1_findReach_47 (by decide) ?_
    rw [nI_1]
    exact ih (i + 1) B2 (by omega) (WV_s hTL.2.1 hV hE)
set_option maxRecDepth 100000 in
set_option maxHeartbeats 4000000 in
theorem c_findReach {ad : sA} {nw nt : Nat} {B : sB} {L : sL} {w p K : Nat} {a : Nat → Nat} (h40 : nt ≤ 40) (hw : w < nw) (hW : PW nt B w p) (hL : PL B) (hF : TFc nt B L) (hnum : ∀ x, x < nt → B 21 x 0 = nI x) (hinj : oInj B w p) (hSM : SM a K) (ham : ∀ x, (∃ j, j < K ∧ a j = x) ↔ onS nt B w p x) : Cs yX1_findReach cX1_findReach 4 (some FieldType.boolean) 5 [.ref (ad 10 0), .ref (ad 18 w), .ref (ad 3 0)] ad nw nt (B) (L) (fun v B1 L1 => L1 = L ∧ fT B B1 ∧ TL nt B1 a K ∧ ((K = 0 ∧ v = some (.int 0)) ∨ (0 < K ∧ TT B1 (tdo B L w a K) p ∧ B1 10 0 8 = iE (rch (tdo B L w a K) p 0 0) ∧ v = some (.int (if rch (tdo B L w a K) p 0 0 = 0 then 0 else 1))))) := by
  have hC : ∀ Q, je_Ok (sCm yX1_findReach cX1_findReach 4 (some FieldType.boolean) 5 ad nw nt Q) RX1 cX1_findReach 4 5 := fun _ => je_Cm_ok
  refine Cs_of [some (.ref (ad 10 0)), some (.ref (ad 18 w)), some (.ref (ad 3 0)), none] (by decide) rfl (Nat.le_of_ble_eq_true rfl) ?_
  have hp7 := hW.1
  first | refine Es_aload_n (hC _) dX1_findReach_0 rfl ?_ | refine Es_aload_nN (hC _) dX1_findReach_0 rfl ?_
  first | refine Es_aload_n (hC _) dX1_findReach_1 rfl ?_ | refine Es_aload_nN (hC _) dX1_findReach_1 rfl ?_
  refine Sg_X3_3 (hC _) fl_X1_33 dX1_findReach_2 hw ?_
  rw [hW.2.1]
  refine Es_bipush (v := 7) (hC _) dX1_findReach_5 (by decide) ?_
  refine Es_fS (hC _) ms_X1_39 dX1_findReach_7 j_mini rfl rfl (by decide) (Nat.le_of_ble_eq_true rfl) ?_
  rw [show mnI (nI p) 7 = nI p by rw [show (7 : Int32) = nI 7 from rfl, mnI_N (by omega) (by decide), Nat.min_eq_left hp7]]
  refine Sp_X1_7 (hC _) fl_X1_45 dX1_findReach_10 ?_
  first | refine Es_aload_n (hC _) dX1_findReach_13 rfl ?_ | refine Es_aload_nN (hC _) dX1_findReach_13 rfl ?_
  first | refine Es_aload_n (hC _) dX1_findReach_14 rfl ?_ | refine Es_aload_nN (hC _) dX1_findReach_14 rfl ?_
  refine Es_callV (hC _) mv_X1_46 dX1_findReach_15 (c_gather (B := uB B 10 0 7 (nI p)) h40 hw (by exact hW) (uB_s _ _ _ _ _) (by exact hnum) (by exact hinj)) rfl rfl ⟨_, rfl, rfl⟩ rfl rfl (by decide) (Nat.le_of_ble_eq_true rfl) (fun v' B1 L2 q => ?_)
  obtain ⟨rfl, rfl, f1, h7, a', K', hTL', hm⟩ := q
  have hfT1 : fT B B1 := fun q hq => (f1 q (by omega) (by omega)).trans (uB_k (by omega))
  have hm : ∀ x, (∃ j, j < K' ∧ a' j = x) ↔ onS nt B w p x := hm
  obtain ⟨rfl, hsame⟩ := SM_same hTL'.2.2.1 hSM (fun x => (hm x).trans (ham x).symm)
  have hTL : TL nt B1 a K' := ⟨hTL'.1, hTL'.2.1, hSM, fun i hi => by rw [hsame i hi]; exact hTL'.2.2.2 i hi⟩
  have hK7 := hTL.2.1
  first | refine Es_aload_n (hC _) dX1_findReach_18 rfl ?_ | refine Es_aload_nN (hC _) dX1_findReach_18 rfl ?_
  refine Sg_X1_6 (hC _) fl_X1_50 dX1_findReach_19 ?_
  rw [hTL.1]
  by_cases hK0 : K' = 0
  · skip
    refine Es_if_ne (hC _) 27 dX1_findReach_22 (by decide) (fun hb22 => False.elim (hb22 (by rw [hK0]; rfl))) (fun hb22 => ?_)
    refine Es_iconst (v := 0) (hC _) dX1_findReach_25 (by decide) ?_
    exact Es_iret dX1_findReach_26 rfl ⟨rfl, hfT1, hTL, Or.inl ⟨hK0, rfl⟩⟩
  · skip
    refine Es_if_ne (hC _) 27 dX1_findReach_22 (by decide) (fun hb22 => ?_) (fun hb22 => False.elim (nI_ne0 (by omega) (by omega) hb22))
    refine Es_iconst (v := 0) (hC _) dX1_findReach_27 (by decide) ?_
    refine Es_istore_n (lv' := [_, _, _, _]) (hC _) dX1_findReach_28 (by decide) rfl rfl ?_
    exact l_find h40 hw hfT1 hW hL hF hTL h7 (by omega) p 0 B1 (by omega) ⟨fun _ _ _ _ => rfl, fun p hp => by omega⟩

