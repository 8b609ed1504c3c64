/-! ===== BEST ===== -/
theorem ex_own (S : Nat → Prop) : ∀ t, ∃ (a : Nat → Nat) (K : Nat), SM a K ∧ ∀ x, (∃ j, j < K ∧ a j = x) ↔ (x < t ∧ S x)
  | 0 => ⟨fun _ => 0, 0, fun i j h1 h2 => by omega, fun x => ⟨fun ⟨j, h, _⟩ => by omega, fun ⟨h, _⟩ => by omega⟩⟩
  | t + 1 => by
    obtain ⟨a, K, h1, h2⟩ := ex_own S t
    by_cases hs : S t
    · refine ⟨fun i => if i < K then a i else t, K + 1, fun i j hij hj => ?_, fun x => ⟨fun ⟨j, hj, e⟩ => ?_, fun ⟨hx, hS⟩ => ?_⟩⟩
      · show (if i < K then a i else t) < (if j < K then a j else t)
        rw [if_pos (by omega)]
        by_cases hjK : j < K
        · rw [if_pos hjK]
          exact h1 i j hij hjK
        · rw [if_neg hjK]
          exact ((h2 (a i)).mp ⟨i, by omega, rfl⟩).1
      · have e : (if j < K then a j else t) = x := e
        by_cases hjK : j < K
        · rw [if_pos hjK] at e
          obtain ⟨c1, c2⟩ := (h2 x).mp ⟨j, hjK, e⟩
          exact ⟨by omega, c2⟩
        · rw [if_neg hjK] at e
          subst e
          exact ⟨by omega, hs⟩
      · by_cases hxt : x = t
        · subst hxt
          refine ⟨K, by omega, ?_⟩
          show (if K < K then a K else x) = x
          rw [if_neg (by omega)]
        · obtain ⟨j, hj, e⟩ := (h2 x).mpr ⟨by omega, hS⟩
          refine ⟨j, by omega, ?_⟩
          show (if j < K then a j else t) = x
          rw [if_pos hj]
          exact e
    · refine ⟨a, K, h1, fun x => (h2 x).trans ⟨fun ⟨c1, c2⟩ => ⟨by omega, c2⟩, fun ⟨c1, c2⟩ => ⟨?_, c2⟩⟩⟩
      by_cases hxt : x = t
      · subst hxt
        exact (hs c2).elim
      · omega
theorem ex_on (nt : Nat) (B : sB) (w p : Nat) : ∃ (a : Nat → Nat) (K : Nat), SM a K ∧ ∀ x, (∃ j, j < K ∧ a j = x) ↔ onS nt B w p x := by
  obtain ⟨a, K, h1, h2⟩ := ex_own (onS nt B w p) nt
  exact ⟨a, K, h1, fun x => (h2 x).trans ⟨fun z => z.2, fun z => ⟨z.1, z⟩⟩⟩
theorem oinj_of {nw nt : Nat} {B : sB} {L : sL} {w p : Nat} (hR : Rel nw nt B L) (hw : w < nw) (hX : PX nt B w p) : oInj B w p := by
  obtain ⟨p', h7, w1, w2, w3, w4, w5⟩ := hR.2.2.1.1 w hw
  have h5 := hR.1.2.2.1
  have h40 := hR.1.2.2.2.2.2.1
  have hpp : p' = p := (nI_eq (by omega) (by have := hX.1.1; omega)).mp (w2.symm.trans hX.1.2.1)
  subst hpp
  intro q q' t hq hq' ht e e'
  have key : ∀ q, q < p' → B 20 w q = nI t → B 47 0 t = nI (10 * w + q) := fun q hq e => by
    rcases (w4 q hq).2.2.2.1 with z | ⟨t', z1, z2, z3⟩
    · rw [z] at e
      exact (nI_m1 ht e.symm).elim
    · have : t' = t := (nI_eq (by omega) ht).mp (z2.symm.trans e)
      subst this
      exact z3
  have := (nI_eq (by omega) (by omega)).mp ((key q hq e).symm.trans (key q' hq' e'))
  omega
theorem num_of {nw nt : Nat} {B : sB} {L : sL} (hR : Rel nw nt B L) : ∀ x, x < nt → B 21 x 0 = nI x := fun x hx => (hR.2.2.2.1.1 x hx).1
theorem Rel_fT {nw nt : Nat} {B B1 : sB} {L : sL} (hR : Rel nw nt B L) (f : fT B B1) : Rel nw nt B1 L := Rel_f (fun q hq => f q (by omega)) (fun i _ => by rw [f 25 (by omega)]) hR
theorem PX_f {nt : Nat} {B B1 : sB} {w p : Nat} (h : PX nt B w p) (f : fT B B1) : PX nt B1 w p := by
  unfold PX PW at h ⊢
  rw [f 18 (by omega), f 19 (by omega), f 20 (by omega), f 38 (by omega), f 39 (by omega), f 40 (by omega)]
  exact h
theorem tdo_f {B B1 : sB} {L : sL} {w K : Nat} {a : Nat → Nat} (h3 : B1 3 = B 3) (h19 : B1 19 = B 19) (h20 : B1 20 = B 20) (h21 : B1 21 = B 21) (h22 : B1 22 = B 22) (h23 : B1 23 = B 23) : tdo B1 L w a K = tdo B L w a K := by
  have e1 : tdE B1 L w a = tdE B L w a := by
    funext p k
    unfold tdE
    rw [h19, h21, h3, tEn_g h21 h22 h23]
  have e2 : tdM B1 w = tdM B w := by
    funext p
    unfold tdM
    rw [h19, h20]
  have e3 : tdC B1 w a = tdC B w a := by
    funext p k
    unfold tdC
    rw [h20]
  unfold tdo
  rw [e1, e2, e3]
theorem onS_f {nt : Nat} {B B1 : sB} {w p x : Nat} (h : B1 20 = B 20) : onS nt B1 w p x ↔ onS nt B w p x := by
  unfold onS
  rw [h]
set_option maxRecDepth 100000 in
set_option maxHeartbeats 4000000 in
theorem c_best_1 {ad : sA} {nw nt : Nat} {B : sB} {L : sL} (hnw : B 0 0 8 = nI nw) (h5 : nw ≤ 5) {y : Int32} (how : out y nw)  : Cf yX5_best cX5_best 3 (some FieldType.int) 6 [.ref (ad 0 0), .int y] ad nw nt B L (some (.int (-1))) (uB B 5 0 1 (B 5 0 1 + 1)) (L) := by
  have hC : ∀ Q, je_Ok (sCm yX5_best cX5_best 3 (some FieldType.int) 6 ad nw nt Q) RX5 cX5_best 3 6 := fun _ => je_Cm_ok
  refine Cs_of [some (.ref (ad 0 0)), some (.int y), none] (by decide) rfl (Nat.le_of_ble_eq_true rfl) ?_
  first | refine Es_aload_n (hC _) dX5_best_0 rfl ?_ | refine Es_aload_nN (hC _) dX5_best_0 rfl ?_
  refine Es_iload_n (hC _) dX5_best_1 rfl ?_
  refine Es_fV (hC _) mv_X5_77 dX5_best_2 (c_wagonAt_out hnw how) rfl rfl ⟨_, rfl, rfl⟩ rfl rfl (by decide) (Nat.le_of_ble_eq_true rfl) ?_
  first | refine Es_astore_n (lv' := [_, _, _]) (hC _) dX5_best_5 (by decide) rfl rfl ?_ | refine Es_astore_nN (lv' := [_, _, _]) (hC _) dX5_best_5 (by decide) rfl rfl ?_
  first | refine Es_aload_n (hC _) dX5_best_6 rfl ?_ | refine Es_aload_nN (hC _) dX5_best_6 rfl ?_
  refine Es_ifnonnullN (hC _) dX5_best_7 ?_
  first | refine Es_aload_n (hC _) dX5_best_10 rfl ?_ | refine Es_aload_nN (hC _) dX5_best_10 rfl ?_
  refine Es_iconst (v := -1) (hC _) dX5_best_11 (by decide) ?_
  refine Es_fV (hC _) mv_X5_70 dX5_best_12 (c_refuse (k := 1) (by decide) (by decide)) rfl rfl ⟨_, rfl, rfl⟩ rfl rfl (by decide) (Nat.le_of_ble_eq_true rfl) ?_
  exact Es_iret dX5_best_15 rfl ⟨rfl, rfl, rfl⟩

set_option maxRecDepth 100000 in
set_option maxHeartbeats 4000000 in
theorem r_best_1 {ad : sA} {nw nt : Nat} {B : sB} {L : sL} (hnw : B 25 0 4 = nI nw) (h5 : nw ≤ 5) {y : Int32} (how : out y nw)  : Cf yX6_best cX6_best 2 (some FieldType.int) 11 [.ref (ad 25 0), .int y] ad nw nt B L (some (.int (-1))) (uB B 30 0 1 (B 30 0 1 + 1)) (L) := by
  have hC : ∀ Q, je_Ok (sCm yX6_best cX6_best 2 (some FieldType.int) 11 ad nw nt Q) RX6 cX6_best 2 11 := fun _ => je_Cm_ok
  refine Cs_of [some (.ref (ad 25 0)), some (.int y)] (by decide) rfl (Nat.le_of_ble_eq_true rfl) ?_
  refine Es_iload_n (hC _) dX6_best_0 rfl ?_
  first | refine Es_aload_n (hC _) dX6_best_1 rfl ?_ | refine Es_aload_nN (hC _) dX6_best_1 rfl ?_
  refine Sg_X6_4 (hC _) fl_X6_86 dX6_best_2 ?_
  rw [hnw]
  refine Es_fS (hC _) ms_X6_89 dX6_best_5 (r_isIn_out how) rfl rfl (by decide) (Nat.le_of_ble_eq_true rfl) ?_
  refine Es_if_ne (hC _) 17 dX6_best_8 (by decide) (fun hb8 => False.elim ((by first | exact absurd hb8 (by decide) | exact absurd hb8 (by assumption) | exact hb8 (by assumption) | exact hb8 rfl | (simp_all [bI]; done)))) (fun hb8 => ?_)
  first | refine Es_aload_n (hC _) dX6_best_11 rfl ?_ | refine Es_aload_nN (hC _) dX6_best_11 rfl ?_
  refine Es_iconst (v := -1) (hC _) dX6_best_12 (by decide) ?_
  refine Es_fV (hC _) mv_X6_93 dX6_best_13 (r_refuse (k := 1) (by decide) (by decide)) rfl rfl ⟨_, rfl, rfl⟩ rfl rfl (by decide) (Nat.le_of_ble_eq_true rfl) ?_
  exact Es_iret dX6_best_16 rfl ⟨rfl, rfl, rfl⟩

set_option maxRecDepth 100000 in
set_option maxHeartbeats 4000000 in
theorem c_best_no {ad : sA} {nw nt : Nat} {B : sB} {L : sL} (hnw : B 0 0 8 = nI nw) (h5 : nw ≤ 5) {w : Nat} (hw : w < nw) {p K : Nat} {a : Nat → Nat} (h40 : nt ≤ 40) (hW : PW nt B w p) (hL : PL B) (hF : TFc nt B L) (hnum : ∀ x, x < nt → B 21 x 0 = nI x) (hinj : oInj B w p) (hSM : SM a K) (ham : ∀ x, (∃ j, j < K ∧ a j = x) ↔ onS nt B w p x) (hz : K = 0 ∨ rch (tdo B L w a K) p 0 0 = 0) : Cs yX5_best cX5_best 3 (some FieldType.int) 6 [.ref (ad 0 0), .int (nI w)] ad nw nt (B) (L) (fun v B1 L1 => v = some (.int (-2)) ∧ L1 = L ∧ K ≤ 7 ∧ ∃ B0, fT B B0 ∧ B1 = uB B0 5 0 2 (B0 5 0 2 + 1)) := by
  have hC : ∀ Q, je_Ok (sCm yX5_best cX5_best 3 (some FieldType.int) 6 ad nw nt Q) RX5 cX5_best 3 6 := fun _ => je_Cm_ok
  refine Cs_of [some (.ref (ad 0 0)), some (.int (nI w)), none] (by decide) rfl (Nat.le_of_ble_eq_true rfl) ?_
  first | refine Es_aload_n (hC _) dX5_best_0 rfl ?_ | refine Es_aload_nN (hC _) dX5_best_0 rfl ?_
  refine Es_iload_n (hC _) dX5_best_1 rfl ?_
  refine Es_fV (hC _) mv_X5_77 dX5_best_2 (c_wagonAt_in hnw h5 hw) rfl rfl ⟨_, rfl, rfl⟩ rfl rfl (by decide) (Nat.le_of_ble_eq_true rfl) ?_
  first | refine Es_astore_n (lv' := [_, _, _]) (hC _) dX5_best_5 (by decide) rfl rfl ?_ | refine Es_astore_nN (lv' := [_, _, _]) (hC _) dX5_best_5 (by decide) rfl rfl ?_
  first | refine Es_aload_n (hC _) dX5_best_6 rfl ?_ | refine Es_aload_nN (hC _) dX5_best_6 rfl ?_
  refine Es_ifnonnull (hC _) 16 dX5_best_7 (by decide) ?_
  first | refine Es_aload_n (hC _) dX5_best_16 rfl ?_ | refine Es_aload_nN (hC _) dX5_best_16 rfl ?_
  refine Sg_X5_6 (hC _) fl_X5_52 dX5_best_17 ?_
  first | refine Es_aload_n (hC _) dX5_best_20 rfl ?_ | refine Es_aload_nN (hC _) dX5_best_20 rfl ?_
  first | refine Es_aload_n (hC _) dX5_best_21 rfl ?_ | refine Es_aload_nN (hC _) dX5_best_21 rfl ?_
  refine Sg_X5_2 (hC _) fl_X5_30 dX5_best_22 ?_
  refine Es_callV (hC _) mv_X5_180 dX5_best_25 (c_findReach h40 hw hW hL hF hnum hinj hSM ham) rfl rfl ⟨_, rfl, rfl⟩ rfl rfl (by decide) (Nat.le_of_ble_eq_true rfl) (fun v' B1 L2 q => ?_)
  obtain ⟨hLe, f1, hTL, hc⟩ := q
  have hv : v' = some (.int 0) := by
    rcases hc with ⟨-, e⟩ | ⟨h1, -, -, e⟩
    · exact e
    · rw [e, if_pos (hz.resolve_left (by omega))]
  subst hv
  refine Es_if_ne (hC _) 38 dX5_best_28 (by decide) (fun hb28 => False.elim (hb28 rfl)) (fun hb28 => ?_)
  first | refine Es_aload_n (hC _) dX5_best_31 rfl ?_ | refine Es_aload_nN (hC _) dX5_best_31 rfl ?_
  refine Es_bipush (v := -2) (hC _) dX5_best_32 (by decide) ?_
  refine Es_fV (hC _) mv_X5_70 dX5_best_34 (c_refuse (k := 2) (by decide) (by decide)) rfl rfl ⟨_, rfl, rfl⟩ rfl rfl (by decide) (Nat.le_of_ble_eq_true rfl) ?_
  exact Es_iret dX5_best_37 rfl ⟨rfl, hLe, hTL.2.1, B1, f1, rfl⟩

set_option maxRecDepth 100000 in
set_option maxHeartbeats 4000000 in
theorem c_best_yes {ad : sA} {nw nt : Nat} {B : sB} {L : sL} (hnw : B 0 0 8 = nI nw) (h5 : nw ≤ 5) {w : Nat} (hw : w < nw) {p K : Nat} {a : Nat → Nat} (h40 : nt ≤ 40) (hW : PW nt B w p) (hL : PL B) (hF : TFc nt B L) (hnum : ∀ x, x < nt → B 21 x 0 = nI x) (hinj : oInj B w p) (hSM : SM a K) (ham : ∀ x, (∃ j, j < K ∧ a j = x) ↔ onS nt B w p x) (hK0 : 0 < K) (hz : ¬ rch (tdo B L w a K) p 0 0 = 0) : Cs yX5_best cX5_best 3 (some FieldType.int) 6 [.ref (ad 0 0), .int (nI w)] ad nw nt (B) (L) (fun v B1 L1 => v = some (.int (iE (rch (tdo B L w a K) p 0 0))) ∧ L1 = L ∧ K ≤ 7 ∧ fT B B1) := by
  have hC : ∀ Q, je_Ok (sCm yX5_best cX5_best 3 (some FieldType.int) 6 ad nw nt Q) RX5 cX5_best 3 6 := fun _ => je_Cm_ok
  refine Cs_of [some (.ref (ad 0 0)), some (.int (nI w)), none] (by decide) rfl (Nat.le_of_ble_eq_true rfl) ?_
  first | refine Es_aload_n (hC _) dX5_best_0 rfl ?_ | refine Es_aload_nN (hC _) dX5_best_0 rfl ?_
  refine Es_iload_n (hC _) dX5_best_1 rfl ?_
  refine Es_fV (hC _) mv_X5_77 dX5_best_2 (c_wagonAt_in hnw h5 hw) rfl rfl ⟨_, rfl, rfl⟩ rfl rfl (by decide) (Nat.le_of_ble_eq_true rfl) ?_
  first | refine Es_astore_n (lv' := [_, _, _]) (hC _) dX5_best_5 (by decide) rfl rfl ?_ | refine Es_astore_nN (lv' := [_, _, _]) (hC _) dX5_best_5 (by decide) rfl rfl ?_
  first | refine Es_aload_n (hC _) dX5_best_6 rfl ?_ | refine Es_aload_nN (hC _) dX5_best_6 rfl ?_
  refine Es_ifnonnull (hC _) 16 dX5_best_7 (by decide) ?_
  first | refine Es_aload_n (hC _) dX5_best_16 rfl ?_ | refine Es_aload_nN (hC _) dX5_best_16 rfl ?_
  refine Sg_X5_6 (hC _) fl_X5_52 dX5_best_17 ?_
  first | refine Es_aload_n (hC _) dX5_best_20 rfl ?_ | refine Es_aload_nN (hC _) dX5_best_20 rfl ?_
  first | refine Es_aload_n (hC _) dX5_best_21 rfl ?_ | refine Es_aload_nN (hC _) dX5_best_21 rfl ?_
  refine Sg_X5_2 (hC _) fl_X5_30 dX5_best_22 ?_
  refine Es_callV (hC _) mv_X5_180 dX5_best_25 (c_findReach h40 hw hW hL hF hnum hinj hSM ham) rfl rfl ⟨_, rfl, rfl⟩ rfl rfl (by decide) (Nat.le_of_ble_eq_true rfl) (fun v' B1 L2 q => ?_)
  obtain ⟨hLe, f1, hTL, hc⟩ := q
  obtain ⟨hTT, h8, hv⟩ : TT B1 (tdo B L w a K) p ∧ B1 10 0 8 = iE (rch (tdo B L w a K) p 0 0) ∧ v' = some (.int 1) := by
    rcases hc with ⟨h1, -⟩ | ⟨h1, h2, h3, e⟩
    · omega
    · exact ⟨h2, h3, by rw [e, if_neg hz]⟩
  subst hv
  refine Es_if_ne (hC _) 38 dX5_best_28 (by decide) (fun hb28 => ?_) (fun hb28 => False.elim (absurd hb28 (by decide)))
  first | refine Es_aload_n (hC _) dX5_best_38 rfl ?_ | refine Es_aload_nN (hC _) dX5_best_38 rfl ?_
  refine Sg_X5_6 (hC _) fl_X5_52 dX5_best_39 ?_
  refine Sg_X1_8 (hC _) fl_X5_184 dX5_best_42 ?_
  exact Es_iret dX5_best_45 rfl ⟨by rw [h8], hLe, hTL.2.1, f1⟩

set_option maxRecDepth 100000 in
set_option maxHeartbeats 4000000 in
theorem r_best_no {ad : sA} {nw nt : Nat} {B : sB} {L : sL} {w p K : Nat} {a : Nat → Nat} {G : sB} (hg : ∀ k, 25 ≤ k → B k = G k) (hRX : RX nw nt G L w p) (hSM : SM a K) (hK : K ≤ 7) (ham : ∀ x, (∃ j, j < K ∧ a j = x) ↔ onS nt G w p x) (hz : K = 0 ∨ rch (tdo G L w a K) p 0 0 = 0) : Cs yX6_best cX6_best 2 (some FieldType.int) 11 [.ref (ad 25 0), .int (nI w)] ad nw nt (B) (L) (fun v B1 L1 => v = some (.int (-2)) ∧ wrel L L1 ∧ ∃ B0, fR B B0 ∧ B1 = uB B0 30 0 2 (B0 30 0 2 + 1)) := by
  have hC : ∀ Q, je_Ok (sCm yX6_best cX6_best 2 (some FieldType.int) 11 ad nw nt Q) RX6 cX6_best 2 11 := fun _ => je_Cm_ok
  refine Cs_of [some (.ref (ad 25 0)), some (.int (nI w))] (by decide) rfl (Nat.le_of_ble_eq_true rfl) ?_
  obtain ⟨hnw, h5, hw, -⟩ := id hRX
  rw [← hg 25 (Nat.le_refl _)] at hnw
  refine Es_iload_n (hC _) dX6_best_0 rfl ?_
  first | refine Es_aload_n (hC _) dX6_best_1 rfl ?_ | refine Es_aload_nN (hC _) dX6_best_1 rfl ?_
  refine Sg_X6_4 (hC _) fl_X6_86 dX6_best_2 ?_
  rw [hnw]
  refine Es_fS (hC _) ms_X6_89 dX6_best_5 (r_isIn_in hw (by omega)) rfl rfl (by decide) (Nat.le_of_ble_eq_true rfl) ?_
  refine Es_if_ne (hC _) 17 dX6_best_8 (by decide) (fun hb8 => ?_) (fun hb8 => False.elim ((by first | exact absurd hb8 (by decide) | exact absurd hb8 (by assumption) | exact hb8 (by assumption) | exact hb8 rfl | (simp_all [bI]; done))))
  first | refine Es_aload_n (hC _) dX6_best_17 rfl ?_ | refine Es_aload_nN (hC _) dX6_best_17 rfl ?_
  refine Es_iload_n (hC _) dX6_best_18 rfl ?_
  refine Es_callV (hC _) mv_X6_189 dX6_best_19 (r_tries hg hRX hSM hK ham) rfl rfl ⟨_, rfl, rfl⟩ rfl rfl (by decide) (Nat.le_of_ble_eq_true rfl) (fun v' B1 L2 q => ?_)
  obtain ⟨hwr, f1, hc⟩ := q
  have hv : v' = some (.int 0) := by
    rcases hc with ⟨-, e⟩ | ⟨h1, e, -⟩
    · exact e
    · rw [e, if_pos (hz.resolve_left (by omega))]
  subst hv
  refine Es_if_eq (hC _) 32 dX6_best_22 (by decide) (fun hb22 => ?_) (fun hb22 => False.elim (hb22 rfl))
  first | refine Es_aload_n (hC _) dX6_best_32 rfl ?_ | refine Es_aload_nN (hC _) dX6_best_32 rfl ?_
  refine Es_bipush (v := -2) (hC _) dX6_best_33 (by decide) ?_
  refine Es_fV (hC _) mv_X6_93 dX6_best_35 (r_refuse (k := 2) (by decide) (by decide)) rfl rfl ⟨_, rfl, rfl⟩ rfl rfl (by decide) (Nat.le_of_ble_eq_true rfl) ?_
  exact Es_iret dX6_best_38 rfl ⟨rfl, hwr, B1, f1, rfl⟩

set_option maxRecDepth 100000 in
set_option maxHeartbeats 4000000 in
theorem r_best_yes {ad : sA} {nw nt : Nat} {B : sB} {L : sL} {w p K : Nat} {a : Nat → Nat} {G : sB} (hg : ∀ k, 25 ≤ k → B k = G k) (hRX : RX nw nt G L w p) (hSM : SM a K) (hK : K ≤ 7) (ham : ∀ x, (∃ j, j < K ∧ a j = x) ↔ onS nt G w p x) (hK0 : 0 < K) (hz : ¬ rch (tdo G L w a K) p 0 0 = 0) : Cs yX6_best cX6_best 2 (some FieldType.int) 11 [.ref (ad 25 0), .int (nI w)] ad nw nt (B) (L) (fun v B1 L1 => v = some (.int (iE (rch (tdo G L w a K) p 0 0))) ∧ wrel L L1 ∧ fR B B1) := by
  have hC : ∀ Q, je_Ok (sCm yX6_best cX6_best 2 (some FieldType.int) 11 ad nw nt Q) RX6 cX6_best 2 11 := fun _ => je_Cm_ok
  refine Cs_of [some (.ref (ad 25 0)), some (.int (nI w))] (by decide) rfl (Nat.le_of_ble_eq_true rfl) ?_
  obtain ⟨hnw, h5, hw, -⟩ := id hRX
  rw [← hg 25 (Nat.le_refl _)] at hnw
  refine Es_iload_n (hC _) dX6_best_0 rfl ?_
  first | refine Es_aload_n (hC _) dX6_best_1 rfl ?_ | refine Es_aload_nN (hC _) dX6_best_1 rfl ?_
  refine Sg_X6_4 (hC _) fl_X6_86 dX6_best_2 ?_
  rw [hnw]
  refine Es_fS (hC _) ms_X6_89 dX6_best_5 (r_isIn_in hw (by omega)) rfl rfl (by decide) (Nat.le_of_ble_eq_true rfl) ?_
  refine Es_if_ne (hC _) 17 dX6_best_8 (by decide) (fun hb8 => ?_) (fun hb8 => False.elim ((by first | exact absurd hb8 (by decide) | exact absurd hb8 (by assumption) | exact hb8 (by assumption) | exact hb8 rfl | (simp_all [bI]; done))))
  first | refine Es_aload_n (hC _) dX6_best_17 rfl ?_ | refine Es_aload_nN (hC _) dX6_best_17 rfl ?_
  refine Es_iload_n (hC _) dX6_best_18 rfl ?_
  refine Es_callV (hC _) mv_X6_189 dX6_best_19 (r_tries hg hRX hSM hK ham) rfl rfl ⟨_, rfl, rfl⟩ rfl rfl (by decide) (Nat.le_of_ble_eq_true rfl) (fun v' B1 L2 q => ?_)
  obtain ⟨hwr, f1, hc⟩ := q
  obtain ⟨hv, hZ⟩ : v' = some (.int 1) ∧ TZ B1 (tdo G L w a K) a p := by
    rcases hc with ⟨h1, -⟩ | ⟨h1, e, hZ⟩
    · omega
    · exact ⟨by rw [e, if_neg hz], hZ⟩
  subst hv
  refine Es_if_eq (hC _) 32 dX6_best_22 (by decide) (fun hb22 => False.elim (absurd hb22 (by decide))) (fun hb22 => ?_)
  first | refine Es_aload_n (hC _) dX6_best_25 rfl ?_ | refine Es_aload_nN (hC _) dX6_best_25 rfl ?_
  refine Sg_X6_32 (hC _) fl_X6_179 dX6_best_26 ?_
  refine Es_goto (hC _) 38 dX6_best_29 (by decide) ?_
  exact Es_iret dX6_best_38 rfl ⟨by rw [(hZ.2 hz).1], hwr, f1⟩

theorem Rel_ref2 {nw nt : Nat} {B B1 B2 : sB} {L L2 : sL} {k : Nat} (hR : Rel nw nt B L) (f : fR (uB B 5 0 k (B 5 0 k + 1)) B1) (hwr : wrel L L2) (e : B2 = uB B1 30 0 k (B1 30 0 k + 1)) : Rel nw nt B2 L2 := by
  subst e
  refine Rel_wrel hwr (Rel_f (fun q hq => ?_) (fun i hi => ?_) (Rel_refuse (k := k) hR))
  · by_cases h30 : q = 30
    · subst h30
      rw [uB_2, uB_2, f.1 30 (by omega)]
    · rw [uB_k h30, uB_k h30, f.1 q (by omega)]
  · rw [uB_k (by decide), uB_k (by decide), f.2 i hi]
theorem s_best {ad : sA} {nw nt : Nat} {B : sB} {L : sL} (hR : Rel nw nt B L) (y : Int32) : StG yX5_best cX5_best 3 6 yX6_best cX6_best 2 11 (some .int) [.int y] ad nw nt B L := by
  obtain ⟨s1, s2, s3, s4, s5, s6, s7, s8, s9, s10⟩ := hR.1
  rcases in_out y (n := nw) (by omega) with ⟨w, hw, rfl⟩ | how
  · obtain ⟨p, hX⟩ := px_of hR hw
    obtain ⟨a, K, hSM, ham⟩ := ex_on nt B w p
    have hPL := (plx_of hR).1
    have hFc := (tfa_of hR).c
    have hnum := num_of hR
    have hinj := oinj_of hR hw hX
    have hRX := RX_of hR hw hX
    by_cases hz : K = 0 ∨ rch (tdo B L w a K) p 0 0 = 0
    · refine ⟨(-2), (c_best_no s2 s3 hw s6 hX.1 hPL hFc hnum hinj hSM ham hz).mono (fun v' B1 L1 q => ?_)⟩
      obtain ⟨rfl, rfl, hK, B0, f, rfl⟩ := q
      refine ⟨rfl, (r_best_no (G := B) (fun k hk => by rw [uB_k (by omega), f k (by omega)]) hRX hSM hK ham hz).mono (fun v'' B2 L2 q => ?_)⟩
      obtain ⟨rfl, hwr, B3, f3, e⟩ := q
      exact ⟨rfl, Rel_ref2 (Rel_fT hR f) f3 hwr e⟩
    · have hK0 : 0 < K := by omega
      have hz2 : ¬ rch (tdo B L w a K) p 0 0 = 0 := fun z => hz (Or.inr z)
      refine ⟨(iE (rch (tdo B L w a K) p 0 0)), (c_best_yes s2 s3 hw s6 hX.1 hPL hFc hnum hinj hSM ham hK0 hz2).mono (fun v' B1 L1 q => ?_)⟩
      obtain ⟨rfl, rfl, hK, f⟩ := q
      refine ⟨rfl, (r_best_yes (G := B) (fun k hk => f k (by omega)) hRX hSM hK ham hK0 hz2).mono (fun v'' B2 L2 q => ?_)⟩
      obtain ⟨rfl, hwr, f3⟩ := q
      exact ⟨rfl, Rel_wrel hwr (f3.Rel (Rel_fT hR f))⟩
  · exact Stq.gen ⟨_, _, _, _, _, c_best_1 s2 s3 how, r_best_1 (by exact s1) s3 how, Rel_refuse hR⟩
