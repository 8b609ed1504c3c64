set_option maxRecDepth 100000 in
set_option maxHeartbeats 4000000 in
theorem l_ww {ad : sA} {nw nt : Nat} {B : sB} {L : sL} {bc bs : Nat} {x dy g : Int32} : ∀ (k : Nat) (i : Int32), k ≤ 600 → i = nI k - 1 → wl (B 8 0) (B 7 0) (B 9 0) k x dy = g → Es (sCm yX0_whereWas cX0_whereWas 4 (some .int) 1 ad nw nt (fun v B1 L1 => v = some (.int g) ∧ B1 = B ∧ L1 = L)) 4 7 [some (.ref (ad 6 0)), some (.int x), some (.int dy), some (.int i)] [] ad nw nt B L bc bs := by
  have hC : ∀ Q, je_Ok (sCm yX0_whereWas cX0_whereWas 4 (some .int) 1 ad nw nt Q) RX0 cX0_whereWas 4 1 := fun _ => je_Cm_ok
  intro k
  induction k with
  | zero =>
    intro i h6 hi hg
    have hi2 : i = -1 := hi
    subst hi2
    refine Es_iload_n (hC _) dX0_whereWas_7 rfl ?_
    refine Es_if_lt (hC _) 50 dX0_whereWas_8 (by decide) (fun hb8 => ?_) (fun hb8 => False.elim (hb8 (by decide)))
    refine Es_bipush (v := -9) (hC _) dX0_whereWas_50 (by decide) ?_
    exact Es_iret dX0_whereWas_52 rfl ⟨by rw [← hg]; rfl, rfl, rfl⟩
  | succ k ih =>
    intro i h6 hi hg
    rw [nI_pred] at hi
    subst hi
    by_cases h1 : B 8 0 k = x
    · by_cases h2 : B 7 0 k ≤ dy
      · skip
        refine Es_iload_n (hC _) dX0_whereWas_7 rfl ?_
        refine Es_if_lt (hC _) 50 dX0_whereWas_8 (by decide) (fun hb8 => False.elim (nI_pos (by omega) hb8)) (fun hb8 => ?_)
        first | refine Es_aload_n (hC _) dX0_whereWas_11 rfl ?_ | refine Es_aload_nN (hC _) dX0_whereWas_11 rfl ?_
        refine Sg_X0_1 (hC _) fl_X0_15 dX0_whereWas_12 ?_
        refine Es_iload_n (hC _) dX0_whereWas_15 rfl ?_
        refine Es_fSN (hC _) ms_X0_29 dX0_whereWas_16 (c_at (kd := 8) (n := 600) rfl rfl rfl (by omega) (by decide)) rfl rfl (by decide) (Nat.le_of_ble_eq_true rfl) ?_
        refine Es_iload_n (hC _) dX0_whereWas_19 rfl ?_
        refine Es_icmp_ne (hC _) 44 dX0_whereWas_20 (by decide) (fun hb20 => False.elim (hb20 h1)) (fun hb20 => ?_)
        first | refine Es_aload_n (hC _) dX0_whereWas_23 rfl ?_ | refine Es_aload_nN (hC _) dX0_whereWas_23 rfl ?_
        refine Sg_X0_0 (hC _) fl_X0_9 dX0_whereWas_24 ?_
        refine Es_iload_n (hC _) dX0_whereWas_27 rfl ?_
        refine Es_fSN (hC _) ms_X0_29 dX0_whereWas_28 (c_at (kd := 7) (n := 600) rfl rfl rfl (by omega) (by decide)) rfl rfl (by decide) (Nat.le_of_ble_eq_true rfl) ?_
        refine Es_iload_n (hC _) dX0_whereWas_31 rfl ?_
        refine Es_icmp_gt (hC _) 44 dX0_whereWas_32 (by decide) (fun hb32 => False.elim (Int32.not_lt.mpr h2 hb32)) (fun hb32 => ?_)
        first | refine Es_aload_n (hC _) dX0_whereWas_35 rfl ?_ | refine Es_aload_nN (hC _) dX0_whereWas_35 rfl ?_
        refine Sg_X0_2 (hC _) fl_X0_18 dX0_whereWas_36 ?_
        refine Es_iload_n (hC _) dX0_whereWas_39 rfl ?_
        refine Es_fSN (hC _) ms_X0_29 dX0_whereWas_40 (c_at (kd := 9) (n := 600) rfl rfl rfl (by omega) (by decide)) rfl rfl (by decide) (Nat.le_of_ble_eq_true rfl) ?_
        exact Es_iret dX0_whereWas_43 rfl ⟨by rw [← hg]; simp only [wl]; rw [if_pos ⟨h1, h2⟩], rfl, rfl⟩
      · skip
        refine Es_iload_n (hC _) dX0_whereWas_7 rfl ?_
        refine Es_if_lt (hC _) 50 dX0_whereWas_8 (by decide) (fun hb8 => False.elim (nI_pos (by omega) hb8)) (fun hb8 => ?_)
        first | refine Es_aload_n (hC _) dX0_whereWas_11 rfl ?_ | refine Es_aload_nN (hC _) dX0_whereWas_11 rfl ?_
        refine Sg_X0_1 (hC _) fl_X0_15 dX0_whereWas_12 ?_
        refine Es_iload_n (hC _) dX0_whereWas_15 rfl ?_
        refine Es_fSN (hC _) ms_X0_29 dX0_whereWas_16 (c_at (kd := 8) (n := 600) rfl rfl rfl (by omega) (by decide)) rfl rfl (by decide) (Nat.le_of_ble_eq_true rfl) ?_
        refine Es_iload_n (hC _) dX0_whereWas_19 rfl ?_
        refine Es_icmp_ne (hC _) 44 dX0_whereWas_20 (by decide) (fun hb20 => False.elim (hb20 h1)) (fun hb20 => ?_)
        first | refine Es_aload_n (hC _) dX0_whereWas_23 rfl ?_ | refine Es_aload_nN (hC _) dX0_whereWas_23 rfl ?_
        refine Sg_X0_0 (hC _) fl_X0_9 dX0_whereWas_24 ?_
        refine Es_iload_n (hC _) dX0_whereWas_27 rfl ?_
        refine Es_fSN (hC _) ms_X0_29 dX0_whereWas_28 (c_at (kd := 7) (n := 600) rfl rfl rfl (by omega) (by decide)) rfl rfl (by decide) (Nat.le_of_ble_eq_true rfl) ?_
        refine Es_iload_n (hC _) dX0_whereWas_31 rfl ?_
        refine Es_icmp_gt (hC _) 44 dX0_whereWas_32 (by decide) (fun hb32 => ?_) (fun hb32 => False.elim (hb32 (Int32.not_le.mp h2)))
        refine Es_iinc (lv' := [_, _, _, _]) (hC _) dX0_whereWas_44 (by decide) rfl (show _ + Int32.ofInt (-1) = _ + (-1) from rfl) rfl rfl ?_
        refine Es_goto (hC _) 7 dX0_whereWas_47 (by decide) ?_
        exact ih (nI k + (-1)) (by omega) (by rw [Int32.sub_eq_add_neg]) (by rw [← hg]; simp only [wl]; rw [if_neg (fun z => h2 z.2)])
    · skip
      refine Es_iload_n (hC _) dX0_whereWas_7 rfl ?_
      refine Es_if_lt (hC _) 50 dX0_whereWas_8 (by decide) (fun hb8 => False.elim (nI_pos (by omega) hb8)) (fun hb8 => ?_)
      first | refine Es_aload_n (hC _) dX0_whereWas_11 rfl ?_ | refine Es_aload_nN (hC _) dX0_whereWas_11 rfl ?_
      refine Sg_X0_1 (hC _) fl_X0_15 dX0_whereWas_12 ?_
      refine Es_iload_n (hC _) dX0_whereWas_15 rfl ?_
      refine Es_fSN (hC _) ms_X0_29 dX0_whereWas_16 (c_at (kd := 8) (n := 600) rfl rfl rfl (by omega) (by decide)) rfl rfl (by decide) (Nat.le_of_ble_eq_true rfl) ?_
      refine Es_iload_n (hC _) dX0_whereWas_19 rfl ?_
      refine Es_icmp_ne (hC _) 44 dX0_whereWas_20 (by decide) (fun hb20 => ?_) (fun hb20 => False.elim (h1 hb20))
      refine Es_iinc (lv' := [_, _, _, _]) (hC _) dX0_whereWas_44 (by decide) rfl (show _ + Int32.ofInt (-1) = _ + (-1) from rfl) rfl rfl ?_
      refine Es_goto (hC _) 7 dX0_whereWas_47 (by decide) ?_
      exact ih (nI k + (-1)) (by omega) (by rw [Int32.sub_eq_add_neg]) (by rw [← hg]; simp only [wl]; rw [if_neg (fun z => h1 z.1)])
set_option maxRecDepth 100000 in
set_option maxHeartbeats 4000000 in
theorem c_whereWas {ad : sA} {nw nt : Nat} {B : sB} {L : sL} {x dy : Int32} {k : Nat} (hk : B 6 0 3 = nI k) (h6 : k ≤ 600) : Cf yX0_whereWas cX0_whereWas 4 (some FieldType.int) 1 [.ref (ad 6 0), .int x, .int dy] ad nw nt B L (some (.int (wl (B 8 0) (B 7 0) (B 9 0) k x dy))) (B) (L) := by
  have hC : ∀ Q, je_Ok (sCm yX0_whereWas cX0_whereWas 4 (some FieldType.int) 1 ad nw nt Q) RX0 cX0_whereWas 4 1 := fun _ => je_Cm_ok
  refine Cs_of [some (.ref (ad 6 0)), some (.int x), some (.int dy), none] (by decide) rfl (Nat.le_of_ble_eq_true rfl) ?_
  first | refine Es_aload_n (hC _) dX0_whereWas_0 rfl ?_ | refine Es_aload_nN (hC _) dX0_whereWas_0 rfl ?_
  refine Sg_X0_3 (hC _) fl_X0_21 dX0_whereWas_1 ?_
  rw [hk]
  refine Es_iconst (v := 1) (hC _) dX0_whereWas_4 (by decide) ?_
  refine Es_isub (hC _) dX0_whereWas_5 ?_
  refine Es_istore_n (lv' := [_, _, _, _]) (hC _) dX0_whereWas_6 (by decide) rfl rfl ?_
  exact l_ww k _ h6 rfl rfl

set_option maxRecDepth 100000 in
set_option maxHeartbeats 4000000 in
theorem c_asOf_1 {ad : sA} {nw nt : Nat} {B : sB} {L : sL} (hnt : B 0 0 9 = nI nt) (h40 : nt ≤ 40) {x : Int32} (hot : out x nt) {y : Int32} : Cf yX5_asOf cX5_asOf 5 (some FieldType.int) 5 [.ref (ad 0 0), .int x, .int y] ad nw nt B L (some (.int (-11))) (uB B 5 0 1 (B 5 0 1 + 1)) (L) := by
  have hC : ∀ Q, je_Ok (sCm yX5_asOf cX5_asOf 5 (some FieldType.int) 5 ad nw nt Q) RX5 cX5_asOf 5 5 := fun _ => je_Cm_ok
  refine Cs_of [some (.ref (ad 0 0)), some (.int x), some (.int y), none, none] (by decide) rfl (Nat.le_of_ble_eq_true rfl) ?_
  first | refine Es_aload_n (hC _) dX5_asOf_0 rfl ?_ | refine Es_aload_nN (hC _) dX5_asOf_0 rfl ?_
  refine Es_iload_n (hC _) dX5_asOf_1 rfl ?_
  refine Es_fV (hC _) mv_X5_132 dX5_asOf_2 (c_tyreAt_out hnt hot) rfl rfl ⟨_, rfl, rfl⟩ rfl rfl (by decide) (Nat.le_of_ble_eq_true rfl) ?_
  first | refine Es_astore_n (lv' := [_, _, _, _, _]) (hC _) dX5_asOf_5 (by decide) rfl rfl ?_ | refine Es_astore_nN (lv' := [_, _, _, _, _]) (hC _) dX5_asOf_5 (by decide) rfl rfl ?_
  first | refine Es_aload_n (hC _) dX5_asOf_6 rfl ?_ | refine Es_aload_nN (hC _) dX5_asOf_6 rfl ?_
  refine Es_ifnonnullN (hC _) dX5_asOf_7 ?_
  first | refine Es_aload_n (hC _) dX5_asOf_10 rfl ?_ | refine Es_aload_nN (hC _) dX5_asOf_10 rfl ?_
  refine Es_iconst (v := -1) (hC _) dX5_asOf_11 (by decide) ?_
  refine Es_fV (hC _) mv_X5_70 dX5_asOf_12 (c_refuse (k := 1) (by decide) (by decide)) rfl rfl ⟨_, rfl, rfl⟩ rfl rfl (by decide) (Nat.le_of_ble_eq_true rfl) ?_
  refine Es_bipush (v := 10) (hC _) dX5_asOf_15 (by decide) ?_
  refine Es_isub (hC _) dX5_asOf_17 ?_
  exact Es_iret dX5_asOf_18 rfl ⟨rfl, rfl, rfl⟩

set_option maxRecDepth 100000 in
set_option maxHeartbeats 4000000 in
theorem r_asOf_1 {ad : sA} {nw nt : Nat} {B : sB} {L : sL} (hnt : B 25 0 5 = nI nt) (h40 : nt ≤ 40) {x : Int32} (hot : out x nt) {y : Int32} : Cf yX6_asOf cX6_asOf 6 (some FieldType.int) 5 [.ref (ad 25 0), .int x, .int y] ad nw nt B L (some (.int (-11))) (uB B 30 0 1 (B 30 0 1 + 1)) (L) := by
  have hC : ∀ Q, je_Ok (sCm yX6_asOf cX6_asOf 6 (some FieldType.int) 5 ad nw nt Q) RX6 cX6_asOf 6 5 := fun _ => je_Cm_ok
  refine Cs_of [some (.ref (ad 25 0)), some (.int x), some (.int y), none, none, none] (by decide) rfl (Nat.le_of_ble_eq_true rfl) ?_
  refine Es_iload_n (hC _) dX6_asOf_0 rfl ?_
  first | refine Es_aload_n (hC _) dX6_asOf_1 rfl ?_ | refine Es_aload_nN (hC _) dX6_asOf_1 rfl ?_
  refine Sg_X6_5 (hC _) fl_X6_107 dX6_asOf_2 ?_
  rw [hnt]
  refine Es_fS (hC _) ms_X6_89 dX6_asOf_5 (r_isIn_out hot) rfl rfl (by decide) (Nat.le_of_ble_eq_true rfl) ?_
  refine Es_if_ne (hC _) 15 dX6_asOf_8 (by decide) (fun hb8 => False.elim ((by first | exact absurd hb8 (by decide) | exact absurd hb8 (by assumption) | exact hb8 (by assumption) | exact hb8 rfl | (simp_all [bI]; done)))) (fun hb8 => ?_)
  refine Es_iconst (v := -1) (hC _) dX6_asOf_11 (by decide) ?_
  refine Es_goto (hC _) 38 dX6_asOf_12 (by decide) ?_
  refine Es_istore_n (lv' := [_, _, _, _, _, _]) (hC _) dX6_asOf_38 (by decide) rfl rfl ?_
  refine Es_iload_n (hC _) dX6_asOf_39 rfl ?_
  refine Es_if_eq (hC _) 52 dX6_asOf_40 (by decide) (fun hb40 => False.elim (absurd hb40 (by decide))) (fun hb40 => ?_)
  first | refine Es_aload_n (hC _) dX6_asOf_43 rfl ?_ | refine Es_aload_nN (hC _) dX6_asOf_43 rfl ?_
  refine Es_iload_n (hC _) dX6_asOf_44 rfl ?_
  refine Es_fV (hC _) mv_X6_93 dX6_asOf_45 (r_refuse (k := 1) (by decide) (by decide)) rfl rfl ⟨_, rfl, rfl⟩ rfl rfl (by decide) (Nat.le_of_ble_eq_true rfl) ?_
  refine Es_bipush (v := 10) (hC _) dX6_asOf_48 (by decide) ?_
  refine Es_isub (hC _) dX6_asOf_50 ?_
  exact Es_iret dX6_asOf_51 rfl ⟨rfl, rfl, rfl⟩

set_option maxRecDepth 100000 in
set_option maxHeartbeats 4000000 in
theorem c_asOf_lo {ad : sA} {nw nt : Nat} {B : sB} {L : sL} (hnt : B 0 0 9 = nI nt) (h40 : nt ≤ 40) {t : Nat} (ht : t < nt) {y : Int32} (hl : y < 0) : Cf yX5_asOf cX5_asOf 5 (some FieldType.int) 5 [.ref (ad 0 0), .int (nI t), .int y] ad nw nt B L (some (.int (-14))) (uB B 5 0 4 (B 5 0 4 + 1)) (L) := by
  have hC : ∀ Q, je_Ok (sCm yX5_asOf cX5_asOf 5 (some FieldType.int) 5 ad nw nt Q) RX5 cX5_asOf 5 5 := fun _ => je_Cm_ok
  refine Cs_of [some (.ref (ad 0 0)), some (.int (nI t)), some (.int y), none, none] (by decide) rfl (Nat.le_of_ble_eq_true rfl) ?_
  first | refine Es_aload_n (hC _) dX5_asOf_0 rfl ?_ | refine Es_aload_nN (hC _) dX5_asOf_0 rfl ?_
  refine Es_iload_n (hC _) dX5_asOf_1 rfl ?_
  refine Es_fV (hC _) mv_X5_132 dX5_asOf_2 (c_tyreAt_in hnt h40 ht) rfl rfl ⟨_, rfl, rfl⟩ rfl rfl (by decide) (Nat.le_of_ble_eq_true rfl) ?_
  first | refine Es_astore_n (lv' := [_, _, _, _, _]) (hC _) dX5_asOf_5 (by decide) rfl rfl ?_ | refine Es_astore_nN (lv' := [_, _, _, _, _]) (hC _) dX5_asOf_5 (by decide) rfl rfl ?_
  first | refine Es_aload_n (hC _) dX5_asOf_6 rfl ?_ | refine Es_aload_nN (hC _) dX5_asOf_6 rfl ?_
  refine Es_ifnonnull (hC _) 19 dX5_asOf_7 (by decide) ?_
  refine Es_iload_n (hC _) dX5_asOf_19 rfl ?_
  refine Es_iconst (v := 0) (hC _) dX5_asOf_20 (by decide) ?_
  first | refine Es_aload_n (hC _) dX5_asOf_21 rfl ?_ | refine Es_aload_nN (hC _) dX5_asOf_21 rfl ?_
  refine Sg_X5_11 (hC _) fl_X5_116 dX5_asOf_22 ?_
  refine Es_fS (hC _) ms_X5_92 dX5_asOf_25 c_outside rfl rfl (by decide) (Nat.le_of_ble_eq_true rfl) ?_
  rw [show outs y 0 (B 0 0 11) = -4 by simp only [outs]; rw [if_pos hl]]
  refine Es_istore (lv' := [_, _, _, _, _]) (hC _) dX5_asOf_28 (by decide) rfl rfl ?_
  refine Es_iload (hC _) dX5_asOf_30 rfl ?_
  refine Es_if_eq (hC _) 45 dX5_asOf_32 (by decide) (fun hb32 => False.elim (absurd hb32 (by decide))) (fun hb32 => ?_)
  first | refine Es_aload_n (hC _) dX5_asOf_35 rfl ?_ | refine Es_aload_nN (hC _) dX5_asOf_35 rfl ?_
  refine Es_iload (hC _) dX5_asOf_36 rfl ?_
  refine Es_fV (hC _) mv_X5_70 dX5_asOf_38 (c_refuse (k := 4) (by decide) (by decide)) rfl rfl ⟨_, rfl, rfl⟩ rfl rfl (by decide) (Nat.le_of_ble_eq_true rfl) ?_
  refine Es_bipush (v := 10) (hC _) dX5_asOf_41 (by decide) ?_
  refine Es_isub (hC _) dX5_asOf_43 ?_
  exact Es_iret dX5_asOf_44 rfl ⟨rfl, rfl, rfl⟩

set_option maxRecDepth 100000 in
set_option maxHeartbeats 4000000 in
theorem r_asOf_lo {ad : sA} {nw nt : Nat} {B : sB} {L : sL} (hnt : B 25 0 5 = nI nt) (h40 : nt ≤ 40) {t : Nat} (ht : t < nt) {y : Int32} (hl : y < 0) : Cf yX6_asOf cX6_asOf 6 (some FieldType.int) 5 [.ref (ad 25 0), .int (nI t), .int y] ad nw nt B L (some (.int (-14))) (uB B 30 0 4 (B 30 0 4 + 1)) (L) := by
  have hC : ∀ Q, je_Ok (sCm yX6_asOf cX6_asOf 6 (some FieldType.int) 5 ad nw nt Q) RX6 cX6_asOf 6 5 := fun _ => je_Cm_ok
  refine Cs_of [some (.ref (ad 25 0)), some (.int (nI t)), some (.int y), none, none, none] (by decide) rfl (Nat.le_of_ble_eq_true rfl) ?_
  refine Es_iload_n (hC _) dX6_asOf_0 rfl ?_
  first | refine Es_aload_n (hC _) dX6_asOf_1 rfl ?_ | refine Es_aload_nN (hC _) dX6_asOf_1 rfl ?_
  refine Sg_X6_5 (hC _) fl_X6_107 dX6_asOf_2 ?_
  rw [hnt]
  refine Es_fS (hC _) ms_X6_89 dX6_asOf_5 (r_isIn_in ht (by omega)) rfl rfl (by decide) (Nat.le_of_ble_eq_true rfl) ?_
  refine Es_if_ne (hC _) 15 dX6_asOf_8 (by decide) (fun hb8 => ?_) (fun hb8 => False.elim ((by first | exact absurd hb8 (by decide) | exact absurd hb8 (by assumption) | exact hb8 (by assumption) | exact hb8 rfl | (simp_all [bI]; done))))
  refine Es_iload_n (hC _) dX6_asOf_15 rfl ?_
  refine Es_if_ge (hC _) 24 dX6_asOf_16 (by decide) (fun hb16 => False.elim (Int32.not_lt.mpr hb16 hl)) (fun hb16 => ?_)
  refine Es_bipush (v := -4) (hC _) dX6_asOf_19 (by decide) ?_
  refine Es_goto (hC _) 38 dX6_asOf_21 (by decide) ?_
  refine Es_istore_n (lv' := [_, _, _, _, _, _]) (hC _) dX6_asOf_38 (by decide) rfl rfl ?_
  refine Es_iload_n (hC _) dX6_asOf_39 rfl ?_
  refine Es_if_eq (hC _) 52 dX6_asOf_40 (by decide) (fun hb40 => False.elim (absurd hb40 (by decide))) (fun hb40 => ?_)
  first | refine Es_aload_n (hC _) dX6_asOf_43 rfl ?_ | refine Es_aload_nN (hC _) dX6_asOf_43 rfl ?_
  refine Es_iload_n (hC _) dX6_asOf_44 rfl ?_
  refine Es_fV (hC _) mv_X6_93 dX6_asOf_45 (r_refuse (k := 4) (by decide) (by decide)) rfl rfl ⟨_, rfl, rfl⟩ rfl rfl (by decide) (Nat.le_of_ble_eq_true rfl) ?_
  refine Es_bipush (v := 10) (hC _) dX6_asOf_48 (by decide) ?_
  refine Es_isub (hC _) dX6_asOf_50 ?_
  exact Es_iret dX6_asOf_51 rfl ⟨rfl, rfl, rfl⟩

set_option maxRecDepth 100000 in
set_option maxHeartbeats 4000000 in
theorem c_asOf_hi {ad : sA} {nw nt : Nat} {B : sB} {L : sL} (hnt : B 0 0 9 = nI nt) (h40 : nt ≤ 40) {t : Nat} (ht : t < nt) {y : Int32} (hl : ¬ y < 0) (hh : B 0 0 11 < y) : Cf yX5_asOf cX5_asOf 5 (some FieldType.int) 5 [.ref (ad 0 0), .int (nI t), .int y] ad nw nt B L (some (.int (-16))) (uB B 5 0 6 (B 5 0 6 + 1)) (L) := by
  have hC : ∀ Q, je_Ok (sCm yX5_asOf cX5_asOf 5 (some FieldType.int) 5 ad nw nt Q) RX5 cX5_asOf 5 5 := fun _ => je_Cm_ok
  refine Cs_of [some (.ref (ad 0 0)), some (.int (nI t)), some (.int y), none, none] (by decide) rfl (Nat.le_of_ble_eq_true rfl) ?_
  first | refine Es_aload_n (hC _) dX5_asOf_0 rfl ?_ | refine Es_aload_nN (hC _) dX5_asOf_0 rfl ?_
  refine Es_iload_n (hC _) dX5_asOf_1 rfl ?_
  refine Es_fV (hC _) mv_X5_132 dX5_asOf_2 (c_tyreAt_in hnt h40 ht) rfl rfl ⟨_, rfl, rfl⟩ rfl rfl (by decide) (Nat.le_of_ble_eq_true rfl) ?_
  first | refine Es_astore_n (lv' := [_, _, _, _, _]) (hC _) dX5_asOf_5 (by decide) rfl rfl ?_ | refine Es_astore_nN (lv' := [_, _, _, _, _]) (hC _) dX5_asOf_5 (by decide) rfl rfl ?_
  first | refine Es_aload_n (hC _) dX5_asOf_6 rfl ?_ | refine Es_aload_nN (hC _) dX5_asOf_6 rfl ?_
  refine Es_ifnonnull (hC _) 19 dX5_asOf_7 (by decide) ?_
  refine Es_iload_n (hC _) dX5_asOf_19 rfl ?_
  refine Es_iconst (v := 0) (hC _) dX5_asOf_20 (by decide) ?_
  first | refine Es_aload_n (hC _) dX5_asOf_21 rfl ?_ | refine Es_aload_nN (hC _) dX5_asOf_21 rfl ?_
  refine Sg_X5_11 (hC _) fl_X5_116 dX5_asOf_22 ?_
  refine Es_fS (hC _) ms_X5_92 dX5_asOf_25 c_outside rfl rfl (by decide) (Nat.le_of_ble_eq_true rfl) ?_
  rw [show outs y 0 (B 0 0 11) = -6 by simp only [outs]; rw [if_neg hl, if_pos hh]]
  refine Es_istore (lv' := [_, _, _, _, _]) (hC _) dX5_asOf_28 (by decide) rfl rfl ?_
  refine Es_iload (hC _) dX5_asOf_30 rfl ?_
  refine Es_if_eq (hC _) 45 dX5_asOf_32 (by decide) (fun hb32 => False.elim (absurd hb32 (by decide))) (fun hb32 => ?_)
  first | refine Es_aload_n (hC _) dX5_asOf_35 rfl ?_ | refine Es_aload_nN (hC _) dX5_asOf_35 rfl ?_
  refine Es_iload (hC _) dX5_asOf_36 rfl ?_
  refine Es_fV (hC _) mv_X5_70 dX5_asOf_38 (c_refuse (k := 6) (by decide) (by decide)) rfl rfl ⟨_, rfl, rfl⟩ rfl rfl (by decide) (Nat.le_of_ble_eq_true rfl) ?_
  refine Es_bipush (v := 10) (hC _) dX5_asOf_41 (by decide) ?_
  refine Es_isub (hC _) dX5_asOf_43 ?_
  exact Es_iret dX5_asOf_44 rfl ⟨rfl, rfl, rfl⟩

set_option maxRecDepth 100000 in
set_option maxHeartbeats 4000000 in
theorem r_asOf_hi {ad : sA} {nw nt : Nat} {B : sB} {L : sL} (hnt : B 25 0 5 = nI nt) (h40 : nt ≤ 40) {t : Nat} (ht : t < nt) {y : Int32} (hl : ¬ y < 0) (hh : B 25 0 3 < y) : Cf yX6_asOf cX6_asOf 6 (some FieldType.int) 5 [.ref (ad 25 0), .int (nI t), .int y] ad nw nt B L (some (.int (-16))) (uB B 30 0 6 (B 30 0 6 + 1)) (L) := by
  have hC : ∀ Q, je_Ok (sCm yX6_asOf cX6_asOf 6 (some FieldType.int) 5 ad nw nt Q) RX6 cX6_asOf 6 5 := fun _ => je_Cm_ok
  refine Cs_of [some (.ref (ad 25 0)), some (.int (nI t)), some (.int y), none, none, none] (by decide) rfl (Nat.le_of_ble_eq_true rfl) ?_
  refine Es_iload_n (hC _) dX6_asOf_0 rfl ?_
  first | refine Es_aload_n (hC _) dX6_asOf_1 rfl ?_ | refine Es_aload_nN (hC _) dX6_asOf_1 rfl ?_
  refine Sg_X6_5 (hC _) fl_X6_107 dX6_asOf_2 ?_
  rw [hnt]
  refine Es_fS (hC _) ms_X6_89 dX6_asOf_5 (r_isIn_in ht (by omega)) rfl rfl (by decide) (Nat.le_of_ble_eq_true rfl) ?_
  refine Es_if_ne (hC _) 15 dX6_asOf_8 (by decide) (fun hb8 => ?_) (fun hb8 => False.elim ((by first | exact absurd hb8 (by decide) | exact absurd hb8 (by assumption) | exact hb8 (by assumption) | exact hb8 rfl | (simp_all [bI]; done))))
  refine Es_iload_n (hC _) dX6_asOf_15 rfl ?_
  refine Es_if_ge (hC _) 24 dX6_asOf_16 (by decide) (fun hb16 => ?_) (fun hb16 => False.elim (hb16 (Int32.not_lt.mp hl)))
  refine Es_iload_n (hC _) dX6_asOf_24 rfl ?_
  first | refine Es_aload_n (hC _) dX6_asOf_25 rfl ?_ | refine Es_aload_nN (hC _) dX6_asOf_25 rfl ?_
  refine Sg_X6_3 (hC _) fl_X6_104 dX6_asOf_26 ?_
  refine Es_icmp_le (hC _) 37 dX6_asOf_29 (by decide) (fun hb29 => False.elim (Int32.not_lt.mpr hb29 hh)) (fun hb29 => ?_)
  refine Es_bipush (v := -6) (hC _) dX6_asOf_32 (by decide) ?_
  refine Es_goto (hC _) 38 dX6_asOf_34 (by decide) ?_
  refine Es_istore_n (lv' := [_, _, _, _, _, _]) (hC _) dX6_asOf_38 (by decide) rfl rfl ?_
  refine Es_iload_n (hC _) dX6_asOf_39 rfl ?_
  refine Es_if_eq (hC _) 52 dX6_asOf_40 (by decide) (fun hb40 => False.elim (absurd hb40 (by decide))) (fun hb40 => ?_)
  first | refine Es_aload_n (hC _) dX6_asOf_43 rfl ?_ | refine Es_aload_nN (hC _) dX6_asOf_43 rfl ?_
  refine Es_iload_n (hC _) dX6_asOf_44 rfl ?_
  refine Es_fV (hC _) mv_X6_93 dX6_asOf_45 (r_refuse (k := 6) (by decide) (by decide)) rfl rfl ⟨_, rfl, rfl⟩ rfl rfl (by decide) (Nat.le_of_ble_eq_true rfl) ?_
  refine Es_bipush (v := 10) (hC _) dX6_asOf_48 (by decide) ?_
  refine Es_isub (hC _) dX6_asOf_50 ?_
  exact Es_iret dX6_asOf_51 rfl ⟨rfl, rfl, rfl⟩

set_option maxRecDepth 100000 in
set_option maxHeartbeats 4000000 in
theorem c_asOf_ok {ad : sA} {nw nt : Nat} {B : sB} {L : sL} (hnt : B 0 0 9 = nI nt) (h40 : nt ≤ 40) {t : Nat} (ht : t < nt) {y : Int32} {k : Nat} (hl : ¬ y < 0) (hh : ¬ B 0 0 11 < y) (hk : B 6 0 3 = nI k) (h6 : k ≤ 600) (hn : B 21 t 0 = nI t) : Cf yX5_asOf cX5_asOf 5 (some FieldType.int) 5 [.ref (ad 0 0), .int (nI t), .int y] ad nw nt B L (some (.int (wl (B 8 0) (B 7 0) (B 9 0) k (nI t) y))) (B) (L) := by
  have hC : ∀ Q, je_Ok (sCm yX5_asOf cX5_asOf 5 (some FieldType.int) 5 ad nw nt Q) RX5 cX5_asOf 5 5 := fun _ => je_Cm_ok
  refine Cs_of [some (.ref (ad 0 0)), some (.int (nI t)), some (.int y), none, none] (by decide) rfl (Nat.le_of_ble_eq_true rfl) ?_
  first | refine Es_aload_n (hC _) dX5_asOf_0 rfl ?_ | refine Es_aload_nN (hC _) dX5_asOf_0 rfl ?_
  refine Es_iload_n (hC _) dX5_asOf_1 rfl ?_
  refine Es_fV (hC _) mv_X5_132 dX5_asOf_2 (c_tyreAt_in hnt h40 ht) rfl rfl ⟨_, rfl, rfl⟩ rfl rfl (by decide) (Nat.le_of_ble_eq_true rfl) ?_
  first | refine Es_astore_n (lv' := [_, _, _, _, _]) (hC _) dX5_asOf_5 (by decide) rfl rfl ?_ | refine Es_astore_nN (lv' := [_, _, _, _, _]) (hC _) dX5_asOf_5 (by decide) rfl rfl ?_
  first | refine Es_aload_n (hC _) dX5_asOf_6 rfl ?_ | refine Es_aload_nN (hC _) dX5_asOf_6 rfl ?_
  refine Es_ifnonnull (hC _) 19 dX5_asOf_7 (by decide) ?_
  refine Es_iload_n (hC _) dX5_asOf_19 rfl ?_
  refine Es_iconst (v := 0) (hC _) dX5_asOf_20 (by decide) ?_
  first | refine Es_aload_n (hC _) dX5_asOf_21 rfl ?_ | refine Es_aload_nN (hC _) dX5_asOf_21 rfl ?_
  refine Sg_X5_11 (hC _) fl_X5_116 dX5_asOf_22 ?_
  refine Es_fS (hC _) ms_X5_92 dX5_asOf_25 c_outside rfl rfl (by decide) (Nat.le_of_ble_eq_true rfl) ?_
  rw [show outs y 0 (B 0 0 11) = 0 by simp only [outs]; rw [if_neg hl, if_neg hh]]
  refine Es_istore (lv' := [_, _, _, _, _]) (hC _) dX5_asOf_28 (by decide) rfl rfl ?_
  refine Es_iload (hC _) dX5_asOf_30 rfl ?_
  refine Es_if_eq (hC _) 45 dX5_asOf_32 (by decide) (fun hb32 => ?_) (fun hb32 => False.elim (hb32 rfl))
  first | refine Es_aload_n (hC _) dX5_asOf_45 rfl ?_ | refine Es_aload_nN (hC _) dX5_asOf_45 rfl ?_
  refine Sg_X5_5 (hC _) fl_X5_45 dX5_asOf_46 ?_
  first | refine Es_aload_n (hC _) dX5_asOf_49 rfl ?_ | refine Es_aload_nN (hC _) dX5_asOf_49 rfl ?_
  refine Sg_X2_0 (hC _) fl_X5_125 dX5_asOf_50 ht ?_
  rw [hn]
  refine Es_iload_n (hC _) dX5_asOf_53 rfl ?_
  refine Es_fV (hC _) mv_X5_239 dX5_asOf_54 (c_whereWas hk h6) rfl rfl ⟨_, rfl, rfl⟩ rfl rfl (by decide) (Nat.le_of_ble_eq_true rfl) ?_
  exact Es_iret dX5_asOf_57 rfl ⟨rfl, rfl, rfl⟩

set_option maxRecDepth 100000 in
set_option maxHeartbeats 4000000 in
theorem l_as {ad : sA} {nw nt : Nat} {B : sB} {L : sL} {bc bs : Nat} {x dy : Int32} {k : Nat} (hk : B 25 0 7 = nI k) (h6 : k ≤ 600) : ∀ (n i : Nat), i ≤ k → k - i = n → Es (sCm yX6_asOf cX6_asOf 6 (some .int) 5 ad nw nt (fun v B1 L1 => v = some (.int (wl (B 52 0) (B 53 0) (B 54 0) k x dy)) ∧ B1 = B ∧ L1 = L)) 6 59 [some (.ref (ad 25 0)), some (.int x), some (.int dy), some (.int 0), some (.int (wl (B 52 0) (B 53 0) (B 54 0) i x dy)), some (.int (nI i))] [] ad nw nt B L bc bs := by
  have hC : ∀ Q, je_Ok (sCm yX6_asOf cX6_asOf 6 (some .int) 5 ad nw nt Q) RX6 cX6_asOf 6 5 := fun _ => je_Cm_ok
  intro n
  induction n with
  | zero =>
    intro i hi hn
    have hik : i = k := by omega
    subst hik
    refine Es_iload (hC _) dX6_asOf_59 rfl ?_
    first | refine Es_aload_n (hC _) dX6_asOf_61 rfl ?_ | refine Es_aload_nN (hC _) dX6_asOf_61 rfl ?_
    refine Sg_X6_7 (hC _) fl_X6_101 dX6_asOf_62 ?_
    rw [hk]
    refine Es_icmp_ge (hC _) 105 dX6_asOf_65 (by decide) (fun hb65 => ?_) (fun hb65 => False.elim (hb65 (nI_le (Nat.le_refl _) (by omega))))
    refine Es_iload (hC _) dX6_asOf_105 rfl ?_
    exact Es_iret dX6_asOf_107 rfl ⟨rfl, rfl, rfl⟩
  | succ n ih =>
    intro i hi hn
    by_cases h1 : B 52 0 i = x
    · by_cases h2 : B 53 0 i ≤ dy
      · skip
        refine Es_iload (hC _) dX6_asOf_59 rfl ?_
        first | refine Es_aload_n (hC _) dX6_asOf_61 rfl ?_ | refine Es_aload_nN (hC _) dX6_asOf_61 rfl ?_
        refine Sg_X6_7 (hC _) fl_X6_101 dX6_asOf_62 ?_
        rw [hk]
        refine Es_icmp_ge (hC _) 105 dX6_asOf_65 (by decide) (fun hb65 => False.elim (nI_ge (b := k) (a := i) (by omega) (by omega) hb65)) (fun hb65 => ?_)
        first | refine Es_aload_n (hC _) dX6_asOf_68 rfl ?_ | refine Es_aload_nN (hC _) dX6_asOf_68 rfl ?_
        refine Sg_X6_22 (hC _) fl_X6_65 dX6_asOf_69 ?_
        refine Es_iload (hC _) dX6_asOf_72 rfl ?_
        refine Es_ialdN (hC _) dX6_asOf_74 rfl rfl rfl (by omega) (by decide) ?_
        refine Es_iload_n (hC _) dX6_asOf_75 rfl ?_
        refine Es_icmp_ne (hC _) 99 dX6_asOf_76 (by decide) (fun hb76 => False.elim (hb76 h1)) (fun hb76 => ?_)
        first | refine Es_aload_n (hC _) dX6_asOf_79 rfl ?_ | refine Es_aload_nN (hC _) dX6_asOf_79 rfl ?_
        refine Sg_X6_23 (hC _) fl_X6_68 dX6_asOf_80 ?_
        refine Es_iload (hC _) dX6_asOf_83 rfl ?_
        refine Es_ialdN (hC _) dX6_asOf_85 rfl rfl rfl (by omega) (by decide) ?_
        refine Es_iload_n (hC _) dX6_asOf_86 rfl ?_
        refine Es_icmp_gt (hC _) 99 dX6_asOf_87 (by decide) (fun hb87 => False.elim (Int32.not_lt.mpr h2 hb87)) (fun hb87 => ?_)
        first | refine Es_aload_n (hC _) dX6_asOf_90 rfl ?_ | refine Es_aload_nN (hC _) dX6_asOf_90 rfl ?_
        refine Sg_X6_24 (hC _) fl_X6_71 dX6_asOf_91 ?_
        refine Es_iload (hC _) dX6_asOf_94 rfl ?_
        refine Es_ialdN (hC _) dX6_asOf_96 rfl rfl rfl (by omega) (by decide) ?_
        refine Es_istore (lv' := [_, _, _, _, _, _]) (hC _) dX6_asOf_97 (by decide) rfl rfl ?_
        refine Es_iinc (lv' := [_, _, _, _, _, _]) (hC _) dX6_asOf_99 (by decide) rfl (show _ + Int32.ofInt (1) = _ + (1) from rfl) rfl rfl ?_
        refine Es_goto (hC _) 59 dX6_asOf_102 (by decide) ?_
        rw [nI_1]
        refine Es.eqV ?_ (ih (i + 1) (by omega) (by omega))
        simp only [wl]
        rw [if_pos ⟨h1, h2⟩]
      · skip
        refine Es_iload (hC _) dX6_asOf_59 rfl ?_
        first | refine Es_aload_n (hC _) dX6_asOf_61 rfl ?_ | refine Es_aload_nN (hC _) dX6_asOf_61 rfl ?_
        refine Sg_X6_7 (hC _) fl_X6_101 dX6_asOf_62 ?_
        rw [hk]
        refine Es_icmp_ge (hC _) 105 dX6_asOf_65 (by decide) (fun hb65 => False.elim (nI_ge (b := k) (a := i) (by omega) (by omega) hb65)) (fun hb65 => ?_)
        first | refine Es_aload_n (hC _) dX6_asOf_68 rfl ?_ | refine Es_aload_nN (hC _) dX6_asOf_68 rfl ?_
        refine Sg_X6_22 (hC _) fl_X6_65 dX6_asOf_69 ?_
        refine Es_iload (hC _) dX6_asOf_72 rfl ?_
        refine Es_ialdN (hC _) dX6_asOf_74 rfl rfl rfl (by omega) (by decide) ?_
        refine Es_iload_n (hC _) dX6_asOf_75 rfl ?_
        refine Es_icmp_ne (hC _) 99 dX6_asOf_76 (by decide) (fun hb76 => False.elim (hb76 h1)) (fun hb76 => ?_)
        first | refine Es_aload_n (hC _) dX6_asOf_79 rfl ?_ | refine Es_aload_nN (hC _) dX6_asOf_79 rfl ?_
        refine Sg_X6_23 (hC _) fl_X6_68 dX6_asOf_80 ?_
        refine Es_iload (hC _) dX6_asOf_83 rfl ?_
        refine Es_ialdN (hC _) dX6_asOf_85 rfl rfl rfl (by omega) (by decide) ?_
        refine Es_iload_n (hC _) dX6_asOf_86 rfl ?_
        refine Es_icmp_gt (hC _) 99 dX6_asOf_87 (by decide) (fun hb87 => ?_) (fun hb87 => False.elim (hb87 (Int32.not_le.mp h2)))
        refine Es_iinc (lv' := [_, _, _, _, _, _]) (hC _) dX6_asOf_99 (by decide) rfl (show _ + Int32.ofInt (1) = _ + (1) from rfl) rfl rfl ?_
        refine Es_goto (hC _) 59 dX6_asOf_102 (by decide) ?_
        rw [nI_1]
        refine Es.eqV ?_ (ih (i + 1) (by omega) (by omega))
        simp only [wl]
        rw [if_neg (fun z => h2 z.2)]
    · skip
      refine Es_iload (hC _) dX6_asOf_59 rfl ?_
      first | refine Es_aload_n (hC _) dX6_asOf_61 rfl ?_ | refine Es_aload_nN (hC _) dX6_asOf_61 rfl ?_
      refine Sg_X6_7 (hC _) fl_X6_101 dX6_asOf_62 ?_
      rw [hk]
      refine Es_icmp_ge (hC _) 105 dX6_asOf_65 (by decide) (fun hb65 => False.elim (nI_ge (b := k) (a := i) (by omega) (by omega) hb65)) (fun hb65 => ?_)
      first | refine Es_aload_n (hC _) dX6_asOf_68 rfl ?_ | refine Es_aload_nN (hC _) dX6_asOf_68 rfl ?_
      refine Sg_X6_22 (hC _) fl_X6_65 dX6_asOf_69 ?_
      refine Es_iload (hC _) dX6_asOf_72 rfl ?_
      refine Es_ialdN (hC _) dX6_asOf_74 rfl rfl rfl (by omega) (by decide) ?_
      refine Es_iload_n (hC _) dX6_asOf_75 rfl ?_
      refine Es_icmp_ne (hC _) 99 dX6_asOf_76 (by decide) (fun hb76 => ?_) (fun hb76 => False.elim (h1 hb76))
      refine Es_iinc (lv' := [_, _, _, _, _, _]) (hC _) dX6_asOf_99 (by decide) rfl (show _ + Int32.ofInt (1) = _ + (1) from rfl) rfl rfl ?_
      refine Es_goto (hC _) 59 dX6_asOf_102 (by decide) ?_
      rw [nI_1]
      refine Es.eqV ?_ (ih (i + 1) (by omega) (by omega))
      simp only [wl]
      rw [if_neg (fun z => h1 z.1)]
set_option maxRecDepth 100000 in
set_option maxHeartbeats 4000000 in
theorem r_asOf_ok {ad : sA} {nw nt : Nat} {B : sB} {L : sL} (hnt : B 25 0 5 = nI nt) (h40 : nt ≤ 40) {t : Nat} (ht : t < nt) {y : Int32} {k : Nat} (hl : ¬ y < 0) (hh : ¬ B 25 0 3 < y) (hk : B 25 0 7 = nI k) (h6 : k ≤ 600) : Cf yX6_asOf cX6_asOf 6 (some FieldType.int) 5 [.ref (ad 25 0), .int (nI t), .int y] ad nw nt B L (some (.int (wl (B 52 0) (B 53 0) (B 54 0) k (nI t) y))) (B) (L) := by
  have hC : ∀ Q, je_Ok (sCm yX6_asOf cX6_asOf 6 (some FieldType.int) 5 ad nw nt Q) RX6 cX6_asOf 6 5 := fun _ => je_Cm_ok
  refine Cs_of [some (.ref (ad 25 0)), some (.int (nI t)), some (.int y), none, none, none] (by decide) rfl (Nat.le_of_ble_eq_true rfl) ?_
  refine Es_iload_n (hC _) dX6_asOf_0 rfl ?_
  first | refine Es_aload_n (hC _) dX6_asOf_1 rfl ?_ | refine Es_aload_nN (hC _) dX6_asOf_1 rfl ?_
  refine Sg_X6_5 (hC _) fl_X6_107 dX6_asOf_2 ?_
  rw [hnt]
  refine Es_fS (hC _) ms_X6_89 dX6_asOf_5 (r_isIn_in ht (by omega)) rfl rfl (by decide) (Nat.le_of_ble_eq_true rfl) ?_
  refine Es_if_ne (hC _) 15 dX6_asOf_8 (by decide) (fun hb8 => ?_) (fun hb8 => False.elim ((by first | exact absurd hb8 (by decide) | exact absurd hb8 (by assumption) | exact hb8 (by assumption) | exact hb8 rfl | (simp_all [bI]; done))))
  refine Es_iload_n (hC _) dX6_asOf_15 rfl ?_
  refine Es_if_ge (hC _) 24 dX6_asOf_16 (by decide) (fun hb16 => ?_) (fun hb16 => False.elim (hb16 (Int32.not_lt.mp hl)))
  refine Es_iload_n (hC _) dX6_asOf_24 rfl ?_
  first | refine Es_aload_n (hC _) dX6_asOf_25 rfl ?_ | refine Es_aload_nN (hC _) dX6_asOf_25 rfl ?_
  refine Sg_X6_3 (hC _) fl_X6_104 dX6_asOf_26 ?_
  refine Es_icmp_le (hC _) 37 dX6_asOf_29 (by decide) (fun hb29 => ?_) (fun hb29 => False.elim (hb29 (Int32.not_lt.mp hh)))
  refine Es_iconst (v := 0) (hC _) dX6_asOf_37 (by decide) ?_
  refine Es_istore_n (lv' := [_, _, _, _, _, _]) (hC _) dX6_asOf_38 (by decide) rfl rfl ?_
  refine Es_iload_n (hC _) dX6_asOf_39 rfl ?_
  refine Es_if_eq (hC _) 52 dX6_asOf_40 (by decide) (fun hb40 => ?_) (fun hb40 => False.elim (hb40 rfl))
  refine Es_bipush (v := -9) (hC _) dX6_asOf_52 (by decide) ?_
  refine Es_istore (lv' := [_, _, _, _, _, _]) (hC _) dX6_asOf_54 (by decide) rfl rfl ?_
  refine Es_iconst (v := 0) (hC _) dX6_asOf_56 (by decide) ?_
  refine Es_istore (lv' := [_, _, _, _, _, _]) (hC _) dX6_asOf_57 (by decide) rfl rfl ?_
  exact l_as hk h6 k 0 (by omega) (by omega)

def cnV (f : Nat → Int32) (v : Int32) : Nat → Nat
  | 0 => 0
  | n + 1 => cnV f v n + if f n = v then 1 else 0
theorem cnV_le (f : Nat → Int32) (v : Int32) : ∀ n, cnV f v n ≤ n
  | 0 => Nat.le_refl 0
  | n + 1 => by
    have := cnV_le f v n
    simp only [cnV]
    split <;> omega
theorem cnV_congr {f g : Nat → Int32} {v : Int32} : ∀ n, (∀ i, i < n → f i = g i) → cnV f v n = cnV g v n
  | 0, _ => rfl
  | n + 1, h => by simp only [cnV]; rw [cnV_congr n (fun i hi => h i (by omega)), h n (by omega)]
def cnG (f : Nat → Int32) : Nat → Nat
  | 0 => 0
  | n + 1 => cnG f n + if f n < 0 then 0 else 1
theorem cnG_le (f : Nat → Int32) : ∀ n, cnG f n ≤ n
  | 0 => Nat.le_refl 0
  | n + 1 => by
    have := cnG_le f n
    simp only [cnG]
    split <;> omega
theorem cn_all {f : Nat → Int32} : ∀ n, (∀ i, i < n → f i = -1 ∨ f i = -2 ∨ f i = -3 ∨ ∃ k, k ≤ 46 ∧ f i = nI k) → cnG f n + cnV f (-1) n + cnV f (-2) n + cnV f (-3) n = n
  | 0, _ => rfl
  | n + 1, h => by
    have h1 := cn_all n (fun i hi => h i (by omega))
    simp only [cnG, cnV]
    rcases h n (by omega) with e | e | e | ⟨k, hk, e⟩
    · simp only [e, show ((-1 : Int32) < 0) = True from by decide, show ((-1 : Int32) = -2) = False from by decide, show ((-1 : Int32) = -3) = False from by decide, if_true, if_false]
      omega
    · simp only [e, show ((-2 : Int32) < 0) = True from by decide, show ((-2 : Int32) = -1) = False from by decide, show ((-2 : Int32) = -3) = False from by decide, if_true, if_false]
      omega
    · simp only [e, show ((-3 : Int32) < 0) = True from by decide, show ((-3 : Int32) = -1) = False from by decide, show ((-3 : Int32) = -2) = False from by decide, if_true, if_false]
      omega
    · have n1 : ¬ nI k = -1 := fun z => nI_pos (n := k) (by omega) (by rw [z]; decide)
      have n2 : ¬ nI k = -2 := fun z => nI_pos (n := k) (by omega) (by rw [z]; decide)
      have n3 : ¬ nI k = -3 := fun z => nI_pos (n := k) (by omega) (by rw [z]; decide)
      rw [e, if_neg (nI_pos (by omega)), if_neg n1, if_neg n2, if_neg n3]
      omega
set_option maxRecDepth 100000 in
set_option maxHeartbeats 4000000 in
theorem l_ta {ad : sA} {nw nt : Nat} {B : sB} {L : sL} {bc bs : Nat} {x : Int32} (hnt : B 0 0 9 = nI nt) (h40 : nt ≤ 40) : ∀ (n i : Nat), i ≤ 40 → 40 - i = n → Es (sCm yX5_tyresAt cX5_tyresAt 5 (some .int) 2 ad nw nt (fun v B1 L1 => v = some (.int (nI (cnV (fun q => B 21 q 10) x nt))) ∧ B1 = B ∧ L1 = L)) 5 4 [some (.ref (ad 0 0)), some (.int x), some (.int (nI (cnV (fun q => B 21 q 10) x (min i nt)))), some (.int (nI i)), none] [] ad nw nt B L bc bs := by
  have hC : ∀ Q, je_Ok (sCm yX5_tyresAt cX5_tyresAt 5 (some .int) 2 ad nw nt Q) RX5 cX5_tyresAt 5 2 := fun _ => je_Cm_ok
  intro n
  induction n with
  | zero =>
    intro i hi hn
    have hik : i = 40 := by omega
    subst hik
    refine Es_iload_n (hC _) dX5_tyresAt_4 rfl ?_
    refine Es_bipush (v := 40) (hC _) dX5_tyresAt_5 (by decide) ?_
    refine Es_icmp_ge (hC _) 40 dX5_tyresAt_7 (by decide) (fun hb7 => ?_) (fun hb7 => False.elim (hb7 (by decide)))
    refine Es_iload_n (hC _) dX5_tyresAt_40 rfl ?_
    exact Es_iret dX5_tyresAt_41 rfl ⟨by rw [show min 40 nt = nt by omega], rfl, rfl⟩
  | succ n ih =>
    intro i hi hn
    by_cases h1 : i < nt
    · by_cases h2 : B 21 i 10 = x
      · skip
        refine Es_iload_n (hC _) dX5_tyresAt_4 rfl ?_
        refine Es_bipush (v := 40) (hC _) dX5_tyresAt_5 (by decide) ?_
        refine Es_icmp_ge (hC _) 40 dX5_tyresAt_7 (by decide) (fun hb7 => False.elim (nI_ge (b := 40) (a := i) (by omega) (by decide) hb7)) (fun hb7 => ?_)
        first | refine Es_aload_n (hC _) dX5_tyresAt_10 rfl ?_ | refine Es_aload_nN (hC _) dX5_tyresAt_10 rfl ?_
        refine Es_iload_n (hC _) dX5_tyresAt_11 rfl ?_
        refine Es_fV (hC _) mv_X5_132 dX5_tyresAt_12 (c_tyreAt_in hnt h40 h1) rfl rfl ⟨_, rfl, rfl⟩ rfl rfl (by decide) (Nat.le_of_ble_eq_true rfl) ?_
        first | refine Es_astore (lv' := [_, _, _, _, _]) (hC _) dX5_tyresAt_15 (by decide) rfl rfl ?_ | refine Es_astoreN (lv' := [_, _, _, _, _]) (hC _) dX5_tyresAt_15 (by decide) rfl rfl ?_
        first | refine Es_aload (hC _) dX5_tyresAt_17 rfl ?_ | refine Es_aloadN (hC _) dX5_tyresAt_17 rfl ?_
        refine Es_ifnull (hC _) dX5_tyresAt_19 ?_
        first | refine Es_aload (hC _) dX5_tyresAt_22 rfl ?_ | refine Es_aloadN (hC _) dX5_tyresAt_22 rfl ?_
        refine Sg_X2_10 (hC _) fl_X5_139 dX5_tyresAt_24 h1 ?_
        refine Es_iload_n (hC _) dX5_tyresAt_27 rfl ?_
        refine Es_icmp_ne (hC _) 34 dX5_tyresAt_28 (by decide) (fun hb28 => False.elim (hb28 h2)) (fun hb28 => ?_)
        refine Es_iinc (lv' := [_, _, _, _, _]) (hC _) dX5_tyresAt_31 (by decide) rfl (show _ + Int32.ofInt (1) = _ + (1) from rfl) rfl rfl ?_
        refine Es_iinc (lv' := [_, _, _, _, _]) (hC _) dX5_tyresAt_34 (by decide) rfl (show _ + Int32.ofInt (1) = _ + (1) from rfl) rfl rfl ?_
        refine Es_goto (hC _) 4 dX5_tyresAt_37 (by decide) ?_
        refine Es.kill 4 (lv' := [_, _, _, _, _]) rfl ?_
        simp only [nI_1]
        refine Es.eqV ?_ (ih (i + 1) (by omega) (by omega))
        rw [show min (i + 1) nt = i + 1 by omega, show min i nt = i by omega]
        simp only [cnV]
        rw [if_pos h2]
      · skip
        refine Es_iload_n (hC _) dX5_tyresAt_4 rfl ?_
        refine Es_bipush (v := 40) (hC _) dX5_tyresAt_5 (by decide) ?_
        refine Es_icmp_ge (hC _) 40 dX5_tyresAt_7 (by decide) (fun hb7 => False.elim (nI_ge (b := 40) (a := i) (by omega) (by decide) hb7)) (fun hb7 => ?_)
        first | refine Es_aload_n (hC _) dX5_tyresAt_10 rfl ?_ | refine Es_aload_nN (hC _) dX5_tyresAt_10 rfl ?_
        refine Es_iload_n (hC _) dX5_tyresAt_11 rfl ?_
        refine Es_fV (hC _) mv_X5_132 dX5_tyresAt_12 (c_tyreAt_in hnt h40 h1) rfl rfl ⟨_, rfl, rfl⟩ rfl rfl (by decide) (Nat.le_of_ble_eq_true rfl) ?_
        first | refine Es_astore (lv' := [_, _, _, _, _]) (hC _) dX5_tyresAt_15 (by decide) rfl rfl ?_ | refine Es_astoreN (lv' := [_, _, _, _, _]) (hC _) dX5_tyresAt_15 (by decide) rfl rfl ?_
        first | refine Es_aload (hC _) dX5_tyresAt_17 rfl ?_ | refine Es_aloadN (hC _) dX5_tyresAt_17 rfl ?_
        refine Es_ifnull (hC _) dX5_tyresAt_19 ?_
        first | refine Es_aload (hC _) dX5_tyresAt_22 rfl ?_ | refine Es_aloadN (hC _) dX5_tyresAt_22 rfl ?_
        refine Sg_X2_10 (hC _) fl_X5_139 dX5_tyresAt_24 h1 ?_
        refine Es_iload_n (hC _) dX5_tyresAt_27 rfl ?_
        refine Es_icmp_ne (hC _) 34 dX5_tyresAt_28 (by decide) (fun hb28 => ?_) (fun hb28 => False.elim (h2 hb28))
        refine Es_iinc (lv' := [_, _, _, _, _]) (hC _) dX5_tyresAt_34 (by decide) rfl (show _ + Int32.ofInt (1) = _ + (1) from rfl) rfl rfl ?_
        refine Es_goto (hC _) 4 dX5_tyresAt_37 (by decide) ?_
        refine Es.kill 4 (lv' := [_, _, _, _, _]) rfl ?_
        rw [nI_1]
        refine Es.eqV ?_ (ih (i + 1) (by omega) (by omega))
        rw [show min (i + 1) nt = i + 1 by omega, show min i nt = i by omega]
        simp only [cnV]
        rw [if_neg h2]
        rfl
    · skip
      refine Es_iload_n (hC _) dX5_tyresAt_4 rfl ?_
      refine Es_bipush (v := 40) (hC _) dX5_tyresAt_5 (by decide) ?_
      refine Es_icmp_ge (hC _) 40 dX5_tyresAt_7 (by decide) (fun hb7 => False.elim (nI_ge (b := 40) (a := i) (by omega) (by decide) hb7)) (fun hb7 => ?_)
      first | refine Es_aload_n (hC _) dX5_tyresAt_10 rfl ?_ | refine Es_aload_nN (hC _) dX5_tyresAt_10 rfl ?_
      refine Es_iload_n (hC _) dX5_tyresAt_11 rfl ?_
      refine Es_fV (hC _) mv_X5_132 dX5_tyresAt_12 (c_tyreAt_out hnt (Or.inr (nI_le (by omega) (by omega)))) rfl rfl ⟨_, rfl, rfl⟩ rfl rfl (by decide) (Nat.le_of_ble_eq_true rfl) ?_
      first | refine Es_astore (lv' := [_, _, _, _, _]) (hC _) dX5_tyresAt_15 (by decide) rfl rfl ?_ | refine Es_astoreN (lv' := [_, _, _, _, _]) (hC _) dX5_tyresAt_15 (by decide) rfl rfl ?_
      first | refine Es_aload (hC _) dX5_tyresAt_17 rfl ?_ | refine Es_aloadN (hC _) dX5_tyresAt_17 rfl ?_
      refine Es_ifnullN (hC _) 34 dX5_tyresAt_19 (by decide) ?_
      refine Es_iinc (lv' := [_, _, _, _, _]) (hC _) dX5_tyresAt_34 (by decide) rfl (show _ + Int32.ofInt (1) = _ + (1) from rfl) rfl rfl ?_
      refine Es_goto (hC _) 4 dX5_tyresAt_37 (by decide) ?_
      refine Es.kill 4 (lv' := [_, _, _, _, _]) rfl ?_
      rw [nI_1]
      refine Es.eqV ?_ (ih (i + 1) (by omega) (by omega))
      rw [show min (i + 1) nt = min i nt by omega]
set_option maxRecDepth 100000 in
set_option maxHeartbeats 4000000 in
theorem c_tyresAt {ad : sA} {nw nt : Nat} {B : sB} {L : sL} (hnt : B 0 0 9 = nI nt) (h40 : nt ≤ 40) {x : Int32} : Cf yX5_tyresAt cX5_tyresAt 5 (some FieldType.int) 2 [.ref (ad 0 0), .int x] ad nw nt B L (some (.int (nI (cnV (fun q => B 21 q 10) x nt)))) (B) (L) := by
  have hC : ∀ Q, je_Ok (sCm yX5_tyresAt cX5_tyresAt 5 (some FieldType.int) 2 ad nw nt Q) RX5 cX5_tyresAt 5 2 := fun _ => je_Cm_ok
  refine Cs_of [some (.ref (ad 0 0)), some (.int x), none, none, none] (by decide) rfl (Nat.le_of_ble_eq_true rfl) ?_
  refine Es_iconst (v := 0) (hC _) dX5_tyresAt_0 (by decide) ?_
  refine Es_istore_n (lv' := [_, _, _, _, _]) (hC _) dX5_tyresAt_1 (by decide) rfl rfl ?_
  refine Es_iconst (v := 0) (hC _) dX5_tyresAt_2 (by decide) ?_
  refine Es_istore_n (lv' := [_, _, _, _, _]) (hC _) dX5_tyresAt_3 (by decide) rfl rfl ?_
  refine Es.eqV ?_ (l_ta hnt h40 40 0 (by omega) (by omega))
  rw [show min 0 nt = 0 by omega]
  rfl

set_option maxRecDepth 100000 in
set_option maxHeartbeats 4000000 in
theorem c_count_0 {ad : sA} {nw nt : Nat} {B : sB} {L : sL}  : Cf yX5_count cX5_count 2 (some FieldType.int) 5 [.ref (ad 0 0), .int (nI 0)] ad nw nt B L (some (.int (B 0 0 11))) (B) (L) := by
  have hC : ∀ Q, je_Ok (sCm yX5_count cX5_count 2 (some FieldType.int) 5 ad nw nt Q) RX5 cX5_count 2 5 := fun _ => je_Cm_ok
  refine Cs_of [some (.ref (ad 0 0)), some (.int (nI 0))] (by decide) rfl (Nat.le_of_ble_eq_true rfl) ?_
  refine Es_iload_n (hC _) dX5_count_0 rfl ?_
  refine Es_tableIn (hC _) 48 dX5_count_1 (by decide) (by decide) (off := 47) (by decide) (by decide) ?_
  first | refine Es_aload_n (hC _) dX5_count_48 rfl ?_ | refine Es_aload_nN (hC _) dX5_count_48 rfl ?_
  refine Sg_X5_11 (hC _) fl_X5_116 dX5_count_49 ?_
  exact Es_iret dX5_count_52 rfl ⟨rfl, rfl, rfl⟩

set_option maxRecDepth 100000 in
set_option maxHeartbeats 4000000 in
theorem c_count_1 {ad : sA} {nw nt : Nat} {B : sB} {L : sL}  : Cf yX5_count cX5_count 2 (some FieldType.int) 5 [.ref (ad 0 0), .int (nI 1)] ad nw nt B L (some (.int (B 0 0 8))) (B) (L) := by
  have hC : ∀ Q, je_Ok (sCm yX5_count cX5_count 2 (some FieldType.int) 5 ad nw nt Q) RX5 cX5_count 2 5 := fun _ => je_Cm_ok
  refine Cs_of [some (.ref (ad 0 0)), some (.int (nI 1))] (by decide) rfl (Nat.le_of_ble_eq_true rfl) ?_
  refine Es_iload_n (hC _) dX5_count_0 rfl ?_
  refine Es_tableIn (hC _) 53 dX5_count_1 (by decide) (by decide) (off := 52) (by decide) (by decide) ?_
  first | refine Es_aload_n (hC _) dX5_count_53 rfl ?_ | refine Es_aload_nN (hC _) dX5_count_53 rfl ?_
  refine Sg_X5_8 (hC _) fl_X5_67 dX5_count_54 ?_
  exact Es_iret dX5_count_57 rfl ⟨rfl, rfl, rfl⟩

set_option maxRecDepth 100000 in
set_option maxHeartbeats 4000000 in
theorem c_count_2 {ad : sA} {nw nt : Nat} {B : sB} {L : sL}  : Cf yX5_count cX5_count 2 (some FieldType.int) 5 [.ref (ad 0 0), .int (nI 2)] ad nw nt B L (some (.int (B 0 0 9))) (B) (L) := by
  have hC : ∀ Q, je_Ok (sCm yX5_count cX5_count 2 (some FieldType.int) 5 ad nw nt Q) RX5 cX5_count 2 5 := fun _ => je_Cm_ok
  refine Cs_of [some (.ref (ad 0 0)), some (.int (nI 2))] (by decide) rfl (Nat.le_of_ble_eq_true rfl) ?_
  refine Es_iload_n (hC _) dX5_count_0 rfl ?_
  refine Es_tableIn (hC _) 58 dX5_count_1 (by decide) (by decide) (off := 57) (by decide) (by decide) ?_
  first | refine Es_aload_n (hC _) dX5_count_58 rfl ?_ | refine Es_aload_nN (hC _) dX5_count_58 rfl ?_
  refine Sg_X5_9 (hC _) fl_X5_110 dX5_count_59 ?_
  exact Es_iret dX5_count_62 rfl ⟨rfl, rfl, rfl⟩

set_option maxRecDepth 100000 in
set_option maxHeartbeats 4000000 in
theorem c_count_3 {ad : sA} {nw nt : Nat} {B : sB} {L : sL} (hnt : B 0 0 9 = nI nt) (h40 : nt ≤ 40)  : Cf yX5_count cX5_count 2 (some FieldType.int) 5 [.ref (ad 0 0), .int (nI 3)] ad nw nt B L (some (.int (nI (cnV (fun q => B 21 q 10) (-1) nt)))) (B) (L) := by
  have hC : ∀ Q, je_Ok (sCm yX5_count cX5_count 2 (some FieldType.int) 5 ad nw nt Q) RX5 cX5_count 2 5 := fun _ => je_Cm_ok
  refine Cs_of [some (.ref (ad 0 0)), some (.int (nI 3))] (by decide) rfl (Nat.le_of_ble_eq_true rfl) ?_
  refine Es_iload_n (hC _) dX5_count_0 rfl ?_
  refine Es_tableIn (hC _) 63 dX5_count_1 (by decide) (by decide) (off := 62) (by decide) (by decide) ?_
  first | refine Es_aload_n (hC _) dX5_count_63 rfl ?_ | refine Es_aload_nN (hC _) dX5_count_63 rfl ?_
  refine Es_iconst (v := -1) (hC _) dX5_count_64 (by decide) ?_
  refine Es_fV (hC _) mv_X5_268 dX5_count_65 (c_tyresAt hnt h40) rfl rfl ⟨_, rfl, rfl⟩ rfl rfl (by decide) (Nat.le_of_ble_eq_true rfl) ?_
  exact Es_iret dX5_count_68 rfl ⟨rfl, rfl, rfl⟩

set_option maxRecDepth 100000 in
set_option maxHeartbeats 4000000 in
theorem c_count_5 {ad : sA} {nw nt : Nat} {B : sB} {L : sL} (hnt : B 0 0 9 = nI nt) (h40 : nt ≤ 40)  : Cf yX5_count cX5_count 2 (some FieldType.int) 5 [.ref (ad 0 0), .int (nI 5)] ad nw nt B L (some (.int (nI (cnV (fun q => B 21 q 10) (-2) nt)))) (B) (L) := by
  have hC : ∀ Q, je_Ok (sCm yX5_count cX5_count 2 (some FieldType.int) 5 ad nw nt Q) RX5 cX5_count 2 5 := fun _ => je_Cm_ok
  refine Cs_of [some (.ref (ad 0 0)), some (.int (nI 5))] (by decide) rfl (Nat.le_of_ble_eq_true rfl) ?_
  refine Es_iload_n (hC _) dX5_count_0 rfl ?_
  refine Es_tableIn (hC _) 94 dX5_count_1 (by decide) (by decide) (off := 93) (by decide) (by decide) ?_
  first | refine Es_aload_n (hC _) dX5_count_94 rfl ?_ | refine Es_aload_nN (hC _) dX5_count_94 rfl ?_
  refine Es_bipush (v := -2) (hC _) dX5_count_95 (by decide) ?_
  refine Es_fV (hC _) mv_X5_268 dX5_count_97 (c_tyresAt hnt h40) rfl rfl ⟨_, rfl, rfl⟩ rfl rfl (by decide) (Nat.le_of_ble_eq_true rfl) ?_
  exact Es_iret dX5_count_100 rfl ⟨rfl, rfl, rfl⟩

set_option maxRecDepth 100000 in
set_option maxHeartbeats 4000000 in
theorem c_count_6 {ad : sA} {nw nt : Nat} {B : sB} {L : sL} (hnt : B 0 0 9 = nI nt) (h40 : nt ≤ 40)  : Cf yX5_count cX5_count 2 (some FieldType.int) 5 [.ref (ad 0 0), .int (nI 6)] ad nw nt B L (some (.int (nI (cnV (fun q => B 21 q 10) (-3) nt)))) (B) (L) := by
  have hC : ∀ Q, je_Ok (sCm yX5_count cX5_count 2 (some FieldType.int) 5 ad nw nt Q) RX5 cX5_count 2 5 := fun _ => je_Cm_ok
  refine Cs_of [some (.ref (ad 0 0)), some (.int (nI 6))] (by decide) rfl (Nat.le_of_ble_eq_true rfl) ?_
  refine Es_iload_n (hC _) dX5_count_0 rfl ?_
  refine Es_tableIn (hC _) 101 dX5_count_1 (by decide) (by decide) (off := 100) (by decide) (by decide) ?_
  first | refine Es_aload_n (hC _) dX5_count_101 rfl ?_ | refine Es_aload_nN (hC _) dX5_count_101 rfl ?_
  refine Es_bipush (v := -3) (hC _) dX5_count_102 (by decide) ?_
  refine Es_fV (hC _) mv_X5_268 dX5_count_104 (c_tyresAt hnt h40) rfl rfl ⟨_, rfl, rfl⟩ rfl rfl (by decide) (Nat.le_of_ble_eq_true rfl) ?_
  exact Es_iret dX5_count_107 rfl ⟨rfl, rfl, rfl⟩

set_option maxRecDepth 100000 in
set_option maxHeartbeats 4000000 in
theorem c_count_4 {ad : sA} {nw nt : Nat} {B : sB} {L : sL} (hnt : B 0 0 9 = nI nt) (h40 : nt ≤ 40) (hs : (cnV (fun q => B 21 q 10) (-1) nt) + (cnV (fun q => B 21 q 10) (-2) nt) + (cnV (fun q => B 21 q 10) (-3) nt) ≤ nt) : Cf yX5_count cX5_count 2 (some FieldType.int) 5 [.ref (ad 0 0), .int (nI 4)] ad nw nt B L (some (.int (nI (nt - (cnV (fun q => B 21 q 10) (-1) nt) - (cnV (fun q => B 21 q 10) (-2) nt) - (cnV (fun q => B 21 q 10) (-3) nt))))) (B) (L) := by
  have hC : ∀ Q, je_Ok (sCm yX5_count cX5_count 2 (some FieldType.int) 5 ad nw nt Q) RX5 cX5_count 2 5 := fun _ => je_Cm_ok
  refine Cs_of [some (.ref (ad 0 0)), some (.int (nI 4))] (by decide) rfl (Nat.le_of_ble_eq_true rfl) ?_
  refine Es_iload_n (hC _) dX5_count_0 rfl ?_
  refine Es_tableIn (hC _) 69 dX5_count_1 (by decide) (by decide) (off := 68) (by decide) (by decide) ?_
  first | refine Es_aload_n (hC _) dX5_count_69 rfl ?_ | refine Es_aload_nN (hC _) dX5_count_69 rfl ?_
  refine Sg_X5_9 (hC _) fl_X5_110 dX5_count_70 ?_
  rw [hnt]
  first | refine Es_aload_n (hC _) dX5_count_73 rfl ?_ | refine Es_aload_nN (hC _) dX5_count_73 rfl ?_
  refine Es_iconst (v := -1) (hC _) dX5_count_74 (by decide) ?_
  refine Es_fV (hC _) mv_X5_268 dX5_count_75 (c_tyresAt hnt h40) rfl rfl ⟨_, rfl, rfl⟩ rfl rfl (by decide) (Nat.le_of_ble_eq_true rfl) ?_
  refine Es_isub (hC _) dX5_count_78 ?_
  first | refine Es_aload_n (hC _) dX5_count_79 rfl ?_ | refine Es_aload_nN (hC _) dX5_count_79 rfl ?_
  refine Es_bipush (v := -2) (hC _) dX5_count_80 (by decide) ?_
  refine Es_fV (hC _) mv_X5_268 dX5_count_82 (c_tyresAt hnt h40) rfl rfl ⟨_, rfl, rfl⟩ rfl rfl (by decide) (Nat.le_of_ble_eq_true rfl) ?_
  refine Es_isub (hC _) dX5_count_85 ?_
  first | refine Es_aload_n (hC _) dX5_count_86 rfl ?_ | refine Es_aload_nN (hC _) dX5_count_86 rfl ?_
  refine Es_bipush (v := -3) (hC _) dX5_count_87 (by decide) ?_
  refine Es_fV (hC _) mv_X5_268 dX5_count_89 (c_tyresAt hnt h40) rfl rfl ⟨_, rfl, rfl⟩ rfl rfl (by decide) (Nat.le_of_ble_eq_true rfl) ?_
  refine Es_isub (hC _) dX5_count_92 ?_
  exact Es_iret dX5_count_93 rfl ⟨by rw [pk_sub (by omega), pk_sub (by omega), pk_sub (by omega)], rfl, rfl⟩

set_option maxRecDepth 100000 in
set_option maxHeartbeats 4000000 in
theorem c_count_7 {ad : sA} {nw nt : Nat} {B : sB} {L : sL}  : Cf yX5_count cX5_count 2 (some FieldType.int) 5 [.ref (ad 0 0), .int (nI 7)] ad nw nt B L (some (.int (B 6 0 3))) (B) (L) := by
  have hC : ∀ Q, je_Ok (sCm yX5_count cX5_count 2 (some FieldType.int) 5 ad nw nt Q) RX5 cX5_count 2 5 := fun _ => je_Cm_ok
  refine Cs_of [some (.ref (ad 0 0)), some (.int (nI 7))] (by decide) rfl (Nat.le_of_ble_eq_true rfl) ?_
  refine Es_iload_n (hC _) dX5_count_0 rfl ?_
  refine Es_tableIn (hC _) 108 dX5_count_1 (by decide) (by decide) (off := 107) (by decide) (by decide) ?_
  first | refine Es_aload_n (hC _) dX5_count_108 rfl ?_ | refine Es_aload_nN (hC _) dX5_count_108 rfl ?_
  refine Sg_X5_5 (hC _) fl_X5_45 dX5_count_109 ?_
  refine Sg_X0_3 (hC _) fl_X5_271 dX5_count_112 ?_
  exact Es_iret dX5_count_115 rfl ⟨rfl, rfl, rfl⟩

set_option maxRecDepth 100000 in
set_option maxHeartbeats 4000000 in
theorem c_count_r {ad : sA} {nw nt : Nat} {B : sB} {L : sL} {k : Nat} (hk : 1 ≤ k) (h6 : k ≤ 6) : Cf yX5_count cX5_count 2 (some FieldType.int) 5 [.ref (ad 0 0), .int (nI (k + 10))] ad nw nt B L (some (.int (B 5 0 k))) (B) (L) := by
  have hC : ∀ Q, je_Ok (sCm yX5_count cX5_count 2 (some FieldType.int) 5 ad nw nt Q) RX5 cX5_count 2 5 := fun _ => je_Cm_ok
  refine Cs_of [some (.ref (ad 0 0)), some (.int (nI (k + 10)))] (by decide) rfl (Nat.le_of_ble_eq_true rfl) ?_
  refine Es_iload_n (hC _) dX5_count_0 rfl ?_
  refine Es_tableOut (hC _) 116 dX5_count_1 (Or.inr (by rw [nI_toInt (by omega)]; omega)) (by decide) ?_
  refine Es_iload_n (hC _) dX5_count_116 rfl ?_
  refine Es_bipush (v := 11) (hC _) dX5_count_117 (by decide) ?_
  refine Es_icmp_lt (hC _) 142 dX5_count_119 (by decide) (fun hb119 => False.elim (nI_nlt (b := 11) (a := k + 10) (by omega) (by omega) hb119)) (fun hb119 => ?_)
  refine Es_iload_n (hC _) dX5_count_122 rfl ?_
  refine Es_bipush (v := 16) (hC _) dX5_count_123 (by decide) ?_
  refine Es_icmp_gt (hC _) 142 dX5_count_125 (by decide) (fun hb125 => False.elim (nI_nlt (a := 16) (b := k + 10) (by omega) (by omega) hb125)) (fun hb125 => ?_)
  first | refine Es_aload_n (hC _) dX5_count_128 rfl ?_ | refine Es_aload_nN (hC _) dX5_count_128 rfl ?_
  refine Sg_X5_4 (hC _) fl_X5_39 dX5_count_129 ?_
  refine Es_iload_n (hC _) dX5_count_132 rfl ?_
  refine Es_bipush (v := 10) (hC _) dX5_count_133 (by decide) ?_
  refine Es_isub (hC _) dX5_count_135 ?_
  refine Es_fS (hC _) ms_X5_96 dX5_count_136 (c_at (kd := 5) (n := 7) (k := k) rfl rfl (by rw [show (10 : Int32) = nI 10 from rfl, pk_sub (by omega)]; congr 1) (by omega) (by decide)) rfl rfl (by decide) (Nat.le_of_ble_eq_true rfl) ?_
  refine Es_goto (hC _) 144 dX5_count_139 (by decide) ?_
  exact Es_iret dX5_count_144 rfl ⟨rfl, rfl, rfl⟩

set_option maxRecDepth 100000 in
set_option maxHeartbeats 4000000 in
theorem c_count_o {ad : sA} {nw nt : Nat} {B : sB} {L : sL} {y : Int32} (hoy : out y 8) (h1 : y < 11 ∨ 16 < y) : Cf yX5_count cX5_count 2 (some FieldType.int) 5 [.ref (ad 0 0), .int y] ad nw nt B L (some (.int (-9))) (B) (L) := by
  have hC : ∀ Q, je_Ok (sCm yX5_count cX5_count 2 (some FieldType.int) 5 ad nw nt Q) RX5 cX5_count 2 5 := fun _ => je_Cm_ok
  refine Cs_of [some (.ref (ad 0 0)), some (.int y)] (by decide) rfl (Nat.le_of_ble_eq_true rfl) ?_
  refine Es_iload_n (hC _) dX5_count_0 rfl ?_
  refine Es_tableOut (hC _) 116 dX5_count_1 (hoy.elim (fun z => Or.inl (Int32.lt_iff_toInt_lt.mp z)) (fun z => Or.inr (Int.lt_of_lt_of_le (show (7 : Int) < (nI 8).toInt by decide) (Int32.le_iff_toInt_le.mp z)))) (by decide) ?_
  refine Es_iload_n (hC _) dX5_count_116 rfl ?_
  refine Es_bipush (v := 11) (hC _) dX5_count_117 (by decide) ?_
  refine Es_icmp_lt (hC _) 142 dX5_count_119 (by decide) (fun hb119 => ?_) (fun hb119 => ?_)
  · refine Es_bipush (v := -9) (hC _) dX5_count_142 (by decide) ?_
    exact Es_iret dX5_count_144 rfl ⟨rfl, rfl, rfl⟩
  · refine Es_iload_n (hC _) dX5_count_122 rfl ?_
    refine Es_bipush (v := 16) (hC _) dX5_count_123 (by decide) ?_
    refine Es_icmp_gt (hC _) 142 dX5_count_125 (by decide) (fun hb125 => ?_) (fun hb125 => ?_)
    · refine Es_bipush (v := -9) (hC _) dX5_count_142 (by decide) ?_
      exact Es_iret dX5_count_144 rfl ⟨rfl, rfl, rfl⟩
    · exact (h1.elim hb119 hb125).elim

set_option maxRecDepth 100000 in
set_option maxHeartbeats 4000000 in
theorem r_count_0 {ad : sA} {nw nt : Nat} {B : sB} {L : sL}  : Cf yX6_count cX6_count 4 (some FieldType.int) 5 [.ref (ad 25 0), .int (nI 0)] ad nw nt B L (some (.int (B 25 0 3))) (B) (L) := by
  have hC : ∀ Q, je_Ok (sCm yX6_count cX6_count 4 (some FieldType.int) 5 ad nw nt Q) RX6 cX6_count 4 5 := fun _ => je_Cm_ok
  refine Cs_of [some (.ref (ad 25 0)), some (.int (nI 0)), none, none] (by decide) rfl (Nat.le_of_ble_eq_true rfl) ?_
  refine Es_iload_n (hC _) dX6_count_0 rfl ?_
  refine Es_bipush (v := 10) (hC _) dX6_count_1 (by decide) ?_
  refine Es_icmp_le (hC _) 22 dX6_count_3 (by decide) (fun hb3 => ?_) (fun hb3 => False.elim (hb3 (by decide)))
  refine Es_iconst (v := 0) (hC _) dX6_count_22 (by decide) ?_
  refine Es_istore_n (lv' := [_, _, _, _]) (hC _) dX6_count_23 (by decide) rfl rfl ?_
  refine Es_iload_n (hC _) dX6_count_24 rfl ?_
  refine Es_tableIn (hC _) 72 dX6_count_25 (by decide) (by decide) (off := 47) (by decide) (by decide) ?_
  first | refine Es_aload_n (hC _) dX6_count_72 rfl ?_ | refine Es_aload_nN (hC _) dX6_count_72 rfl ?_
  refine Sg_X6_3 (hC _) fl_X6_104 dX6_count_73 ?_
  exact Es_iret dX6_count_76 rfl ⟨rfl, rfl, rfl⟩

set_option maxRecDepth 100000 in
set_option maxHeartbeats 4000000 in
theorem r_count_1 {ad : sA} {nw nt : Nat} {B : sB} {L : sL}  : Cf yX6_count cX6_count 4 (some FieldType.int) 5 [.ref (ad 25 0), .int (nI 1)] ad nw nt B L (some (.int (B 25 0 4))) (B) (L) := by
  have hC : ∀ Q, je_Ok (sCm yX6_count cX6_count 4 (some FieldType.int) 5 ad nw nt Q) RX6 cX6_count 4 5 := fun _ => je_Cm_ok
  refine Cs_of [some (.ref (ad 25 0)), some (.int (nI 1)), none, none] (by decide) rfl (Nat.le_of_ble_eq_true rfl) ?_
  refine Es_iload_n (hC _) dX6_count_0 rfl ?_
  refine Es_bipush (v := 10) (hC _) dX6_count_1 (by decide) ?_
  refine Es_icmp_le (hC _) 22 dX6_count_3 (by decide) (fun hb3 => ?_) (fun hb3 => False.elim (hb3 (by decide)))
  refine Es_iconst (v := 0) (hC _) dX6_count_22 (by decide) ?_
  refine Es_istore_n (lv' := [_, _, _, _]) (hC _) dX6_count_23 (by decide) rfl rfl ?_
  refine Es_iload_n (hC _) dX6_count_24 rfl ?_
  refine Es_tableIn (hC _) 77 dX6_count_25 (by decide) (by decide) (off := 52) (by decide) (by decide) ?_
  first | refine Es_aload_n (hC _) dX6_count_77 rfl ?_ | refine Es_aload_nN (hC _) dX6_count_77 rfl ?_
  refine Sg_X6_4 (hC _) fl_X6_86 dX6_count_78 ?_
  exact Es_iret dX6_count_81 rfl ⟨rfl, rfl, rfl⟩

set_option maxRecDepth 100000 in
set_option maxHeartbeats 4000000 in
theorem r_count_2 {ad : sA} {nw nt : Nat} {B : sB} {L : sL}  : Cf yX6_count cX6_count 4 (some FieldType.int) 5 [.ref (ad 25 0), .int (nI 2)] ad nw nt B L (some (.int (B 25 0 5))) (B) (L) := by
  have hC : ∀ Q, je_Ok (sCm yX6_count cX6_count 4 (some FieldType.int) 5 ad nw nt Q) RX6 cX6_count 4 5 := fun _ => je_Cm_ok
  refine Cs_of [some (.ref (ad 25 0)), some (.int (nI 2)), none, none] (by decide) rfl (Nat.le_of_ble_eq_true rfl) ?_
  refine Es_iload_n (hC _) dX6_count_0 rfl ?_
  refine Es_bipush (v := 10) (hC _) dX6_count_1 (by decide) ?_
  refine Es_icmp_le (hC _) 22 dX6_count_3 (by decide) (fun hb3 => ?_) (fun hb3 => False.elim (hb3 (by decide)))
  refine Es_iconst (v := 0) (hC _) dX6_count_22 (by decide) ?_
  refine Es_istore_n (lv' := [_, _, _, _]) (hC _) dX6_count_23 (by decide) rfl rfl ?_
  refine Es_iload_n (hC _) dX6_count_24 rfl ?_
  refine Es_tableIn (hC _) 82 dX6_count_25 (by decide) (by decide) (off := 57) (by decide) (by decide) ?_
  first | refine Es_aload_n (hC _) dX6_count_82 rfl ?_ | refine Es_aload_nN (hC _) dX6_count_82 rfl ?_
  refine Sg_X6_5 (hC _) fl_X6_107 dX6_count_83 ?_
  exact Es_iret dX6_count_86 rfl ⟨rfl, rfl, rfl⟩

set_option maxRecDepth 100000 in
set_option maxHeartbeats 4000000 in
theorem r_count_7 {ad : sA} {nw nt : Nat} {B : sB} {L : sL}  : Cf yX6_count cX6_count 4 (some FieldType.int) 5 [.ref (ad 25 0), .int (nI 7)] ad nw nt B L (some (.int (B 25 0 7))) (B) (L) := by
  have hC : ∀ Q, je_Ok (sCm yX6_count cX6_count 4 (some FieldType.int) 5 ad nw nt Q) RX6 cX6_count 4 5 := fun _ => je_Cm_ok
  refine Cs_of [some (.ref (ad 25 0)), some (.int (nI 7)), none, none] (by decide) rfl (Nat.le_of_ble_eq_true rfl) ?_
  refine Es_iload_n (hC _) dX6_count_0 rfl ?_
  refine Es_bipush (v := 10) (hC _) dX6_count_1 (by decide) ?_
  refine Es_icmp_le (hC _) 22 dX6_count_3 (by decide) (fun hb3 => ?_) (fun hb3 => False.elim (hb3 (by decide)))
  refine Es_iconst (v := 0) (hC _) dX6_count_22 (by decide) ?_
  refine Es_istore_n (lv' := [_, _, _, _]) (hC _) dX6_count_23 (by decide) rfl rfl ?_
  refine Es_iload_n (hC _) dX6_count_24 rfl ?_
  refine Es_tableIn (hC _) 160 dX6_count_25 (by decide) (by decide) (off := 135) (by decide) (by decide) ?_
  first | refine Es_aload_n (hC _) dX6_count_160 rfl ?_ | refine Es_aload_nN (hC _) dX6_count_160 rfl ?_
  refine Sg_X6_7 (hC _) fl_X6_101 dX6_count_161 ?_
  exact Es_iret dX6_count_164 rfl ⟨rfl, rfl, rfl⟩

set_option maxRecDepth 100000 in
set_option maxHeartbeats 4000000 in
theorem l_rc3 {ad : sA} {nw nt : Nat} {B : sB} {L : sL} {bc bs : Nat} (hnt : B 25 0 5 = nI nt) (h40 : nt ≤ 40) : ∀ (n i : Nat), i ≤ nt → nt - i = n → Es (sCm yX6_count cX6_count 4 (some .int) 5 ad nw nt (fun v B1 L1 => v = some (.int (nI (cnV (B 47 0) (-1) nt))) ∧ B1 = B ∧ L1 = L)) 4 89 [some (.ref (ad 25 0)), some (.int (nI 3)), some (.int (nI (cnV (B 47 0) (-1) i))), some (.int (nI i))] [] ad nw nt B L bc bs := by
  have hC : ∀ Q, je_Ok (sCm yX6_count cX6_count 4 (some .int) 5 ad nw nt Q) RX6 cX6_count 4 5 := fun _ => je_Cm_ok
  intro n
  induction n with
  | zero =>
    intro i hi hn
    have hik : i = nt := by omega
    subst hik
    refine Es_iload_n (hC _) dX6_count_89 rfl ?_
    first | refine Es_aload_n (hC _) dX6_count_90 rfl ?_ | refine Es_aload_nN (hC _) dX6_count_90 rfl ?_
    refine Sg_X6_5 (hC _) fl_X6_107 dX6_count_91 ?_
    rw [hnt]
    refine Es_icmp_ge (hC _) 158 dX6_count_94 (by decide) (fun hb94 => ?_) (fun hb94 => False.elim (hb94 (nI_le (Nat.le_refl _) (by omega))))
    refine Es_iload_n (hC _) dX6_count_158 rfl ?_
    exact Es_iret dX6_count_159 rfl ⟨rfl, rfl, rfl⟩
  | succ n ih =>
    intro i hi hn
    by_cases h2 : B 47 0 i = (-1)
    · skip
      refine Es_iload_n (hC _) dX6_count_89 rfl ?_
      first | refine Es_aload_n (hC _) dX6_count_90 rfl ?_ | refine Es_aload_nN (hC _) dX6_count_90 rfl ?_
      refine Sg_X6_5 (hC _) fl_X6_107 dX6_count_91 ?_
      rw [hnt]
      refine Es_icmp_ge (hC _) 158 dX6_count_94 (by decide) (fun hb94 => False.elim (nI_ge (b := nt) (a := i) (by omega) (by omega) hb94)) (fun hb94 => ?_)
      refine Es_iload_n (hC _) dX6_count_97 rfl ?_
      refine Es_iload_n (hC _) dX6_count_98 rfl ?_
      refine Es_iconst (v := 4) (hC _) dX6_count_99 (by decide) ?_
      refine Es_icmp_ne (hC _) 115 dX6_count_100 (by decide) (fun hb100 => ?_) (fun hb100 => False.elim (absurd hb100 (by decide)))
      first | refine Es_aload_n (hC _) dX6_count_115 rfl ?_ | refine Es_aload_nN (hC _) dX6_count_115 rfl ?_
      refine Sg_X6_17 (hC _) fl_X6_50 dX6_count_116 ?_
      refine Es_iload_n (hC _) dX6_count_119 rfl ?_
      refine Es_ialdN (hC _) dX6_count_120 rfl rfl rfl (by omega) (by decide) ?_
      refine Es_iload_n (hC _) dX6_count_121 rfl ?_
      refine Es_iconst (v := 3) (hC _) dX6_count_122 (by decide) ?_
      refine Es_icmp_ne (hC _) 130 dX6_count_123 (by decide) (fun hb123 => False.elim (hb123 rfl)) (fun hb123 => ?_)
      refine Es_iconst (v := -1) (hC _) dX6_count_126 (by decide) ?_
      refine Es_goto (hC _) 142 dX6_count_127 (by decide) ?_
      refine Es_icmp_ne (hC _) 149 dX6_count_142 (by decide) (fun hb142 => False.elim (hb142 h2)) (fun hb142 => ?_)
      refine Es_iconst (v := 1) (hC _) dX6_count_145 (by decide) ?_
      refine Es_goto (hC _) 150 dX6_count_146 (by decide) ?_
      refine Es_iadd (hC _) dX6_count_150 ?_
      refine Es_istore_n (lv' := [_, _, _, _]) (hC _) dX6_count_151 (by decide) rfl rfl ?_
      refine Es_iinc (lv' := [_, _, _, _]) (hC _) dX6_count_152 (by decide) rfl (show _ + Int32.ofInt (1) = _ + (1) from rfl) rfl rfl ?_
      refine Es_goto (hC _) 89 dX6_count_155 (by decide) ?_
      simp only [nI_1]
      refine Es.eqV ?_ (ih (i + 1) (by omega) (by omega))
      simp only [cnV]
      rw [if_pos h2]
    · skip
      refine Es_iload_n (hC _) dX6_count_89 rfl ?_
      first | refine Es_aload_n (hC _) dX6_count_90 rfl ?_ | refine Es_aload_nN (hC _) dX6_count_90 rfl ?_
      refine Sg_X6_5 (hC _) fl_X6_107 dX6_count_91 ?_
      rw [hnt]
      refine Es_icmp_ge (hC _) 158 dX6_count_94 (by decide) (fun hb94 => False.elim (nI_ge (b := nt) (a := i) (by omega) (by omega) hb94)) (fun hb94 => ?_)
      refine Es_iload_n (hC _) dX6_count_97 rfl ?_
      refine Es_iload_n (hC _) dX6_count_98 rfl ?_
      refine Es_iconst (v := 4) (hC _) dX6_count_99 (by decide) ?_
      refine Es_icmp_ne (hC _) 115 dX6_count_100 (by decide) (fun hb100 => ?_) (fun hb100 => False.elim (absurd hb100 (by decide)))
      first | refine Es_aload_n (hC _) dX6_count_115 rfl ?_ | refine Es_aload_nN (hC _) dX6_count_115 rfl ?_
      refine Sg_X6_17 (hC _) fl_X6_50 dX6_count_116 ?_
      refine Es_iload_n (hC _) dX6_count_119 rfl ?_
      refine Es_ialdN (hC _) dX6_count_120 rfl rfl rfl (by omega) (by decide) ?_
      refine Es_iload_n (hC _) dX6_count_121 rfl ?_
      refine Es_iconst (v := 3) (hC _) dX6_count_122 (by decide) ?_
      refine Es_icmp_ne (hC _) 130 dX6_count_123 (by decide) (fun hb123 => False.elim (hb123 rfl)) (fun hb123 => ?_)
      refine Es_iconst (v := -1) (hC _) dX6_count_126 (by decide) ?_
      refine Es_goto (hC _) 142 dX6_count_127 (by decide) ?_
      refine Es_icmp_ne (hC _) 149 dX6_count_142 (by decide) (fun hb142 => ?_) (fun hb142 => False.elim (h2 hb142))
      refine Es_iconst (v := 0) (hC _) dX6_count_149 (by decide) ?_
      refine Es_iadd (hC _) dX6_count_150 ?_
      refine Es_istore_n (lv' := [_, _, _, _]) (hC _) dX6_count_151 (by decide) rfl rfl ?_
      refine Es_iinc (lv' := [_, _, _, _]) (hC _) dX6_count_152 (by decide) rfl (show _ + Int32.ofInt (1) = _ + (1) from rfl) rfl rfl ?_
      refine Es_goto (hC _) 89 dX6_count_155 (by decide) ?_
      simp only [nI_1, show ∀ q : Int32, q + 0 = q from Int32.add_zero]
      refine Es.eqV ?_ (ih (i + 1) (by omega) (by omega))
      simp only [cnV]
      rw [if_neg h2]
      rfl -- []
set_option maxRecDepth 100000 in
set_option maxHeartbeats 4000000 in
theorem r_count_3 {ad : sA} {nw nt : Nat} {B : sB} {L : sL} (hnt : B 25 0 5 = nI nt) (h40 : nt ≤ 40)  : Cf yX6_count cX6_count 4 (some FieldType.int) 5 [.ref (ad 25 0), .int (nI 3)] ad nw nt B L (some (.int (nI (cnV (B 47 0) (-1) nt)))) (B) (L) := by
  have hC : ∀ Q, je_Ok (sCm yX6_count cX6_count 4 (some FieldType.int) 5 ad nw nt Q) RX6 cX6_count 4 5 := fun _ => je_Cm_ok
  refine Cs_of [some (.ref (ad 25 0)), some (.int (nI 3)), none, none] (by decide) rfl (Nat.le_of_ble_eq_true rfl) ?_
  refine Es_iload_n (hC _) dX6_count_0 rfl ?_
  refine Es_bipush (v := 10) (hC _) dX6_count_1 (by decide) ?_
  refine Es_icmp_le (hC _) 22 dX6_count_3 (by decide) (fun hb3 => ?_) (fun hb3 => False.elim (hb3 (by decide)))
  refine Es_iconst (v := 0) (hC _) dX6_count_22 (by decide) ?_
  refine Es_istore_n (lv' := [_, _, _, _]) (hC _) dX6_count_23 (by decide) rfl rfl ?_
  refine Es_iload_n (hC _) dX6_count_24 rfl ?_
  refine Es_tableIn (hC _) 87 dX6_count_25 (by decide) (by decide) (off := 62) (by decide) (by decide) ?_
  refine Es_iconst (v := 0) (hC _) dX6_count_87 (by decide) ?_
  refine Es_istore_n (lv' := [_, _, _, _]) (hC _) dX6_count_88 (by decide) rfl rfl ?_
  exact l_rc3 hnt h40 nt 0 (by omega) (by omega)

set_option maxRecDepth 100000 in
set_option maxHeartbeats 4000000 in
theorem l_rc5 {ad : sA} {nw nt : Nat} {B : sB} {L : sL} {bc bs : Nat} (hnt : B 25 0 5 = nI nt) (h40 : nt ≤ 40) : ∀ (n i : Nat), i ≤ nt → nt - i = n → Es (sCm yX6_count cX6_count 4 (some .int) 5 ad nw nt (fun v B1 L1 => v = some (.int (nI (cnV (B 47 0) (-2) nt))) ∧ B1 = B ∧ L1 = L)) 4 89 [some (.ref (ad 25 0)), some (.int (nI 5)), some (.int (nI (cnV (B 47 0) (-2) i))), some (.int (nI i))] [] ad nw nt B L bc bs := by
  have hC : ∀ Q, je_Ok (sCm yX6_count cX6_count 4 (some .int) 5 ad nw nt Q) RX6 cX6_count 4 5 := fun _ => je_Cm_ok
  intro n
  induction n with
  | zero =>
    intro i hi hn
    have hik : i = nt := by omega
    subst hik
    refine Es_iload_n (hC _) dX6_count_89 rfl ?_
    first | refine Es_aload_n (hC _) dX6_count_90 rfl ?_ | refine Es_aload_nN (hC _) dX6_count_90 rfl ?_
    refine Sg_X6_5 (hC _) fl_X6_107 dX6_count_91 ?_
    rw [hnt]
    refine Es_icmp_ge (hC _) 158 dX6_count_94 (by decide) (fun hb94 => ?_) (fun hb94 => False.elim (hb94 (nI_le (Nat.le_refl _) (by omega))))
    refine Es_iload_n (hC _) dX6_count_158 rfl ?_
    exact Es_iret dX6_count_159 rfl ⟨rfl, rfl, rfl⟩
  | succ n ih =>
    intro i hi hn
    by_cases h2 : B 47 0 i = (-2)
    · skip
      refine Es_iload_n (hC _) dX6_count_89 rfl ?_
      first | refine Es_aload_n (hC _) dX6_count_90 rfl ?_ | refine Es_aload_nN (hC _) dX6_count_90 rfl ?_
      refine Sg_X6_5 (hC _) fl_X6_107 dX6_count_91 ?_
      rw [hnt]
      refine Es_icmp_ge (hC _) 158 dX6_count_94 (by decide) (fun hb94 => False.elim (nI_ge (b := nt) (a := i) (by omega) (by omega) hb94)) (fun hb94 => ?_)
      refine Es_iload_n (hC _) dX6_count_97 rfl ?_
      refine Es_iload_n (hC _) dX6_count_98 rfl ?_
      refine Es_iconst (v := 4) (hC _) dX6_count_99 (by decide) ?_
      refine Es_icmp_ne (hC _) 115 dX6_count_100 (by decide) (fun hb100 => ?_) (fun hb100 => False.elim (absurd hb100 (by decide)))
      first | refine Es_aload_n (hC _) dX6_count_115 rfl ?_ | refine Es_aload_nN (hC _) dX6_count_115 rfl ?_
      refine Sg_X6_17 (hC _) fl_X6_50 dX6_count_116 ?_
      refine Es_iload_n (hC _) dX6_count_119 rfl ?_
      refine Es_ialdN (hC _) dX6_count_120 rfl rfl rfl (by omega) (by decide) ?_
      refine Es_iload_n (hC _) dX6_count_121 rfl ?_
      refine Es_iconst (v := 3) (hC _) dX6_count_122 (by decide) ?_
      refine Es_icmp_ne (hC _) 130 dX6_count_123 (by decide) (fun hb123 => ?_) (fun hb123 => False.elim (absurd hb123 (by decide)))
      refine Es_iload_n (hC _) dX6_count_130 rfl ?_
      refine Es_iconst (v := 5) (hC _) dX6_count_131 (by decide) ?_
      refine Es_icmp_ne (hC _) 140 dX6_count_132 (by decide) (fun hb132 => False.elim (hb132 rfl)) (fun hb132 => ?_)
      refine Es_bipush (v := -2) (hC _) dX6_count_135 (by decide) ?_
      refine Es_goto (hC _) 142 dX6_count_137 (by decide) ?_
      refine Es_icmp_ne (hC _) 149 dX6_count_142 (by decide) (fun hb142 => False.elim (hb142 h2)) (fun hb142 => ?_)
      refine Es_iconst (v := 1) (hC _) dX6_count_145 (by decide) ?_
      refine Es_goto (hC _) 150 dX6_count_146 (by decide) ?_
      refine Es_iadd (hC _) dX6_count_150 ?_
      refine Es_istore_n (lv' := [_, _, _, _]) (hC _) dX6_count_151 (by decide) rfl rfl ?_
      refine Es_iinc (lv' := [_, _, _, _]) (hC _) dX6_count_152 (by decide) rfl (show _ + Int32.ofInt (1) = _ + (1) from rfl) rfl rfl ?_
      refine Es_goto (hC _) 89 dX6_count_155 (by decide) ?_
      simp only [nI_1]
      refine Es.eqV ?_ (ih (i + 1) (by omega) (by omega))
      simp only [cnV]
      rw [if_pos h2]
    · skip
      refine Es_iload_n (hC _) dX6_count_89 rfl ?_
      first | refine Es_aload_n (hC _) dX6_count_90 rfl ?_ | refine Es_aload_nN (hC _) dX6_count_90 rfl ?_
      refine Sg_X6_5 (hC _) fl_X6_107 dX6_count_91 ?_
      rw [hnt]
      refine Es_icmp_ge (hC _) 158 dX6_count_94 (by decide) (fun hb94 => False.elim (nI_ge (b := nt) (a := i) (by omega) (by omega) hb94)) (fun hb94 => ?_)
      refine Es_iload_n (hC _) dX6_count_97 rfl ?_
      refine Es_iload_n (hC _) dX6_count_98 rfl ?_
      refine Es_iconst (v := 4) (hC _) dX6_count_99 (by decide) ?_
      refine Es_icmp_ne (hC _) 115 dX6_count_100 (by decide) (fun hb100 => ?_) (fun hb100 => False.elim (absurd hb100 (by decide)))
      first | refine Es_aload_n (hC _) dX6_count_115 rfl ?_ | refine Es_aload_nN (hC _) dX6_count_115 rfl ?_
      refine Sg_X6_17 (hC _) fl_X6_50 dX6_count_116 ?_
      refine Es_iload_n (hC _) dX6_count_119 rfl ?_
      refine Es_ialdN (hC _) dX6_count_120 rfl rfl rfl (by omega) (by decide) ?_
      refine Es_iload_n (hC _) dX6_count_121 rfl ?_
      refine Es_iconst (v := 3) (hC _) dX6_count_122 (by decide) ?_
      refine Es_icmp_ne (hC _) 130 dX6_count_123 (by decide) (fun hb123 => ?_) (fun hb123 => False.elim (absurd hb123 (by decide)))
      refine Es_iload_n (hC _) dX6_count_130 rfl ?_
      refine Es_iconst (v := 5) (hC _) dX6_count_131 (by decide) ?_
      refine Es_icmp_ne (hC _) 140 dX6_count_132 (by decide) (fun hb132 => False.elim (hb132 rfl)) (fun hb132 => ?_)
      refine Es_bipush (v := -2) (hC _) dX6_count_135 (by decide) ?_
      refine Es_goto (hC _) 142 dX6_count_137 (by decide) ?_
      refine Es_icmp_ne (hC _) 149 dX6_count_142 (by decide) (fun hb142 => ?_) (fun hb142 => False.elim (h2 hb142))
      refine Es_iconst (v := 0) (hC _) dX6_count_149 (by decide) ?_
      refine Es_iadd (hC _) dX6_count_150 ?_
      refine Es_istore_n (lv' := [_, _, _, _]) (hC _) dX6_count_151 (by decide) rfl rfl ?_
      refine Es_iinc (lv' := [_, _, _, _]) (hC _) dX6_count_152 (by decide) rfl (show _ + Int32.ofInt (1) = _ + (1) from rfl) rfl rfl ?_
      refine Es_goto (hC _) 89 dX6_count_155 (by decide) ?_
      simp only [nI_1, show ∀ q : Int32, q + 0 = q from Int32.add_zero]
      refine Es.eqV ?_ (ih (i + 1) (by omega) (by omega))
      simp only [cnV]
      rw [if_neg h2]
      rfl -- []
set_option maxRecDepth 100000 in
set_option maxHeartbeats 4000000 in
theorem r_count_5 {ad : sA} {nw nt : Nat} {B : sB} {L : sL} (hnt : B 25 0 5 = nI nt) (h40 : nt ≤ 40)  : Cf yX6_count cX6_count 4 (some FieldType.int) 5 [.ref (ad 25 0), .int (nI 5)] ad nw nt B L (some (.int (nI (cnV (B 47 0) (-2) nt)))) (B) (L) := by
  have hC : ∀ Q, je_Ok (sCm yX6_count cX6_count 4 (some FieldType.int) 5 ad nw nt Q) RX6 cX6_count 4 5 := fun _ => je_Cm_ok
  refine Cs_of [some (.ref (ad 25 0)), some (.int (nI 5)), none, none] (by decide) rfl (Nat.le_of_ble_eq_true rfl) ?_
  refine Es_iload_n (hC _) dX6_count_0 rfl ?_
  refine Es_bipush (v := 10) (hC _) dX6_count_1 (by decide) ?_
  refine Es_icmp_le (hC _) 22 dX6_count_3 (by decide) (fun hb3 => ?_) (fun hb3 => False.elim (hb3 (by decide)))
  refine Es_iconst (v := 0) (hC _) dX6_count_22 (by decide) ?_
  refine Es_istore_n (lv' := [_, _, _, _]) (hC _) dX6_count_23 (by decide) rfl rfl ?_
  refine Es_iload_n (hC _) dX6_count_24 rfl ?_
  refine Es_tableIn (hC _) 87 dX6_count_25 (by decide) (by decide) (off := 62) (by decide) (by decide) ?_
  refine Es_iconst (v := 0) (hC _) dX6_count_87 (by decide) ?_
  refine Es_istore_n (lv' := [_, _, _, _]) (hC _) dX6_count_88 (by decide) rfl rfl ?_
  exact l_rc5 hnt h40 nt 0 (by omega) (by omega)

set_option maxRecDepth 100000 in
set_option maxHeartbeats 4000000 in
theorem l_rc6 {ad : sA} {nw nt : Nat} {B : sB} {L : sL} {bc bs : Nat} (hnt : B 25 0 5 = nI nt) (h40 : nt ≤ 40) : ∀ (n i : Nat), i ≤ nt → nt - i = n → Es (sCm yX6_count cX6_count 4 (some .int) 5 ad nw nt (fun v B1 L1 => v = some (.int (nI (cnV (B 47 0) (-3) nt))) ∧ B1 = B ∧ L1 = L)) 4 89 [some (.ref (ad 25 0)), some (.int (nI 6)), some (.int (nI (cnV (B 47 0) (-3) i))), some (.int (nI i))] [] ad nw nt B L bc bs := by
  have hC : ∀ Q, je_Ok (sCm yX6_count cX6_count 4 (some .int) 5 ad nw nt Q) RX6 cX6_count 4 5 := fun _ => je_Cm_ok
  intro n
  induction n with
  | zero =>
    intro i hi hn
    have hik : i = nt := by omega
    subst hik
    refine Es_iload_n (hC _) dX6_count_89 rfl ?_
    first | refine Es_aload_n (hC _) dX6_count_90 rfl ?_ | refine Es_aload_nN (hC _) dX6_count_90 rfl ?_
    refine Sg_X6_5 (hC _) fl_X6_107 dX6_count_91 ?_
    rw [hnt]
    refine Es_icmp_ge (hC _) 158 dX6_count_94 (by decide) (fun hb94 => ?_) (fun hb94 => False.elim (hb94 (nI_le (Nat.le_refl _) (by omega))))
    refine Es_iload_n (hC _) dX6_count_158 rfl ?_
    exact Es_iret dX6_count_159 rfl ⟨rfl, rfl, rfl⟩
  | succ n ih =>
    intro i hi hn
    by_cases h2 : B 47 0 i = (-3)
    · skip
      refine Es_iload_n (hC _) dX6_count_89 rfl ?_
      first | refine Es_aload_n (hC _) dX6_count_90 rfl ?_ | refine Es_aload_nN (hC _) dX6_count_90 rfl ?_
      refine Sg_X6_5 (hC _) fl_X6_107 dX6_count_91 ?_
      rw [hnt]
      refine Es_icmp_ge (hC _) 158 dX6_count_94 (by decide) (fun hb94 => False.elim (nI_ge (b := nt) (a := i) (by omega) (by omega) hb94)) (fun hb94 => ?_)
      refine Es_iload_n (hC _) dX6_count_97 rfl ?_
      refine Es_iload_n (hC _) dX6_count_98 rfl ?_
      refine Es_iconst (v := 4) (hC _) dX6_count_99 (by decide) ?_
      refine Es_icmp_ne (hC _) 115 dX6_count_100 (by decide) (fun hb100 => ?_) (fun hb100 => False.elim (absurd hb100 (by decide)))
      first | refine Es_aload_n (hC _) dX6_count_115 rfl ?_ | refine Es_aload_nN (hC _) dX6_count_115 rfl ?_
      refine Sg_X6_17 (hC _) fl_X6_50 dX6_count_116 ?_
      refine Es_iload_n (hC _) dX6_count_119 rfl ?_
      refine Es_ialdN (hC _) dX6_count_120 rfl rfl rfl (by omega) (by decide) ?_
      refine Es_iload_n (hC _) dX6_count_121 rfl ?_
      refine Es_iconst (v := 3) (hC _) dX6_count_122 (by decide) ?_
      refine Es_icmp_ne (hC _) 130 dX6_count_123 (by decide) (fun hb123 => ?_) (fun hb123 => False.elim (absurd hb123 (by decide)))
      refine Es_iload_n (hC _) dX6_count_130 rfl ?_
      refine Es_iconst (v := 5) (hC _) dX6_count_131 (by decide) ?_
      refine Es_icmp_ne (hC _) 140 dX6_count_132 (by decide) (fun hb132 => ?_) (fun hb132 => False.elim (absurd hb132 (by decide)))
      refine Es_bipush (v := -3) (hC _) dX6_count_140 (by decide) ?_
      refine Es_icmp_ne (hC _) 149 dX6_count_142 (by decide) (fun hb142 => False.elim (hb142 h2)) (fun hb142 => ?_)
      refine Es_iconst (v := 1) (hC _) dX6_count_145 (by decide) ?_
      refine Es_goto (hC _) 150 dX6_count_146 (by decide) ?_
      refine Es_iadd (hC _) dX6_count_150 ?_
      refine Es_istore_n (lv' := [_, _, _, _]) (hC _) dX6_count_151 (by decide) rfl rfl ?_
      refine Es_iinc (lv' := [_, _, _, _]) (hC _) dX6_count_152 (by decide) rfl (show _ + Int32.ofInt (1) = _ + (1) from rfl) rfl rfl ?_
      refine Es_goto (hC _) 89 dX6_count_155 (by decide) ?_
      simp only [nI_1]
      refine Es.eqV ?_ (ih (i + 1) (by omega) (by omega))
      simp only [cnV]
      rw [if_pos h2]
    · skip
      refine Es_iload_n (hC _) dX6_count_89 rfl ?_
      first | refine Es_aload_n (hC _) dX6_count_90 rfl ?_ | refine Es_aload_nN (hC _) dX6_count_90 rfl ?_
      refine Sg_X6_5 (hC _) fl_X6_107 dX6_count_91 ?_
      rw [hnt]
      refine Es_icmp_ge (hC _) 158 dX6_count_94 (by decide) (fun hb94 => False.elim (nI_ge (b := nt) (a := i) (by omega) (by omega) hb94)) (fun hb94 => ?_)
      refine Es_iload_n (hC _) dX6_count_97 rfl ?_
      refine Es_iload_n (hC _) dX6_count_98 rfl ?_
      refine Es_iconst (v := 4) (hC _) dX6_count_99 (by decide) ?_
      refine Es_icmp_ne (hC _) 115 dX6_count_100 (by decide) (fun hb100 => ?_) (fun hb100 => False.elim (absurd hb100 (by decide)))
      first | refine Es_aload_n (hC _) dX6_count_115 rfl ?_ | refine Es_aload_nN (hC _) dX6_count_115 rfl ?_
      refine Sg_X6_17 (hC _) fl_X6_50 dX6_count_116 ?_
      refine Es_iload_n (hC _) dX6_count_119 rfl ?_
      refine Es_ialdN (hC _) dX6_count_120 rfl rfl rfl (by omega) (by decide) ?_
      refine Es_iload_n (hC _) dX6_count_121 rfl ?_
      refine Es_iconst (v := 3) (hC _) dX6_count_122 (by decide) ?_
      refine Es_icmp_ne (hC _) 130 dX6_count_123 (by decide) (fun hb123 => ?_) (fun hb123 => False.elim (absurd hb123 (by decide)))
      refine Es_iload_n (hC _) dX6_count_130 rfl ?_
      refine Es_iconst (v := 5) (hC _) dX6_count_131 (by decide) ?_
      refine Es_icmp_ne (hC _) 140 dX6_count_132 (by decide) (fun hb132 => ?_) (fun hb132 => False.elim (absurd hb132 (by decide)))
      refine Es_bipush (v := -3) (hC _) dX6_count_140 (by decide) ?_
      refine Es_icmp_ne (hC _) 149 dX6_count_142 (by decide) (fun hb142 => ?_) (fun hb142 => False.elim (h2 hb142))
      refine Es_iconst (v := 0) (hC _) dX6_count_149 (by decide) ?_
      refine Es_iadd (hC _) dX6_count_150 ?_
      refine Es_istore_n (lv' := [_, _, _, _]) (hC _) dX6_count_151 (by decide) rfl rfl ?_
      refine Es_iinc (lv' := [_, _, _, _]) (hC _) dX6_count_152 (by decide) rfl (show _ + Int32.ofInt (1) = _ + (1) from rfl) rfl rfl ?_
      refine Es_goto (hC _) 89 dX6_count_155 (by decide) ?_
      simp only [nI_1, show ∀ q : Int32, q + 0 = q from Int32.add_zero]
      refine Es.eqV ?_ (ih (i + 1) (by omega) (by omega))
      simp only [cnV]
      rw [if_neg h2]
      rfl -- []
set_option maxRecDepth 100000 in
set_option maxHeartbeats 4000000 in
theorem r_count_6 {ad : sA} {nw nt : Nat} {B : sB} {L : sL} (hnt : B 25 0 5 = nI nt) (h40 : nt ≤ 40)  : Cf yX6_count cX6_count 4 (some FieldType.int) 5 [.ref (ad 25 0), .int (nI 6)] ad nw nt B L (some (.int (nI (cnV (B 47 0) (-3) nt)))) (B) (L) := by
  have hC : ∀ Q, je_Ok (sCm yX6_count cX6_count 4 (some FieldType.int) 5 ad nw nt Q) RX6 cX6_count 4 5 := fun _ => je_Cm_ok
  refine Cs_of [some (.ref (ad 25 0)), some (.int (nI 6)), none, none] (by decide) rfl (Nat.le_of_ble_eq_true rfl) ?_
  refine Es_iload_n (hC _) dX6_count_0 rfl ?_
  refine Es_bipush (v := 10) (hC _) dX6_count_1 (by decide) ?_
  refine Es_icmp_le (hC _) 22 dX6_count_3 (by decide) (fun hb3 => ?_) (fun hb3 => False.elim (hb3 (by decide)))
  refine Es_iconst (v := 0) (hC _) dX6_count_22 (by decide) ?_
  refine Es_istore_n (lv' := [_, _, _, _]) (hC _) dX6_count_23 (by decide) rfl rfl ?_
  refine Es_iload_n (hC _) dX6_count_24 rfl ?_
  refine Es_tableIn (hC _) 87 dX6_count_25 (by decide) (by decide) (off := 62) (by decide) (by decide) ?_
  refine Es_iconst (v := 0) (hC _) dX6_count_87 (by decide) ?_
  refine Es_istore_n (lv' := [_, _, _, _]) (hC _) dX6_count_88 (by decide) rfl rfl ?_
  exact l_rc6 hnt h40 nt 0 (by omega) (by omega)

set_option maxRecDepth 100000 in
set_option maxHeartbeats 4000000 in
theorem l_rc4 {ad : sA} {nw nt : Nat} {B : sB} {L : sL} {bc bs : Nat} (hnt : B 25 0 5 = nI nt) (h40 : nt ≤ 40) : ∀ (n i : Nat), i ≤ nt → nt - i = n → Es (sCm yX6_count cX6_count 4 (some .int) 5 ad nw nt (fun v B1 L1 => v = some (.int (nI (cnG (B 47 0) nt))) ∧ B1 = B ∧ L1 = L)) 4 89 [some (.ref (ad 25 0)), some (.int (nI 4)), some (.int (nI (cnG (B 47 0) i))), some (.int (nI i))] [] ad nw nt B L bc bs := by
  have hC : ∀ Q, je_Ok (sCm yX6_count cX6_count 4 (some .int) 5 ad nw nt Q) RX6 cX6_count 4 5 := fun _ => je_Cm_ok
  intro n
  induction n with
  | zero =>
    intro i hi hn
    have hik : i = nt := by omega
    subst hik
    refine Es_iload_n (hC _) dX6_count_89 rfl ?_
    first | refine Es_aload_n (hC _) dX6_count_90 rfl ?_ | refine Es_aload_nN (hC _) dX6_count_90 rfl ?_
    refine Sg_X6_5 (hC _) fl_X6_107 dX6_count_91 ?_
    rw [hnt]
    refine Es_icmp_ge (hC _) 158 dX6_count_94 (by decide) (fun hb94 => ?_) (fun hb94 => False.elim (hb94 (nI_le (Nat.le_refl _) (by omega))))
    refine Es_iload_n (hC _) dX6_count_158 rfl ?_
    exact Es_iret dX6_count_159 rfl ⟨rfl, rfl, rfl⟩
  | succ n ih =>
    intro i hi hn
    by_cases h2 : B 47 0 i < 0
    · skip
      refine Es_iload_n (hC _) dX6_count_89 rfl ?_
      first | refine Es_aload_n (hC _) dX6_count_90 rfl ?_ | refine Es_aload_nN (hC _) dX6_count_90 rfl ?_
      refine Sg_X6_5 (hC _) fl_X6_107 dX6_count_91 ?_
      rw [hnt]
      refine Es_icmp_ge (hC _) 158 dX6_count_94 (by decide) (fun hb94 => False.elim (nI_ge (b := nt) (a := i) (by omega) (by omega) hb94)) (fun hb94 => ?_)
      refine Es_iload_n (hC _) dX6_count_97 rfl ?_
      refine Es_iload_n (hC _) dX6_count_98 rfl ?_
      refine Es_iconst (v := 4) (hC _) dX6_count_99 (by decide) ?_
      refine Es_icmp_ne (hC _) 115 dX6_count_100 (by decide) (fun hb100 => False.elim (hb100 rfl)) (fun hb100 => ?_)
      first | refine Es_aload_n (hC _) dX6_count_103 rfl ?_ | refine Es_aload_nN (hC _) dX6_count_103 rfl ?_
      refine Sg_X6_17 (hC _) fl_X6_50 dX6_count_104 ?_
      refine Es_iload_n (hC _) dX6_count_107 rfl ?_
      refine Es_ialdN (hC _) dX6_count_108 rfl rfl rfl (by omega) (by decide) ?_
      refine Es_if_lt (hC _) 149 dX6_count_109 (by decide) (fun hb109 => ?_) (fun hb109 => False.elim (hb109 h2))
      refine Es_iconst (v := 0) (hC _) dX6_count_149 (by decide) ?_
      refine Es_iadd (hC _) dX6_count_150 ?_
      refine Es_istore_n (lv' := [_, _, _, _]) (hC _) dX6_count_151 (by decide) rfl rfl ?_
      refine Es_iinc (lv' := [_, _, _, _]) (hC _) dX6_count_152 (by decide) rfl (show _ + Int32.ofInt (1) = _ + (1) from rfl) rfl rfl ?_
      refine Es_goto (hC _) 89 dX6_count_155 (by decide) ?_
      simp only [nI_1, show ∀ q : Int32, q + 0 = q from Int32.add_zero]
      refine Es.eqV ?_ (ih (i + 1) (by omega) (by omega))
      simp only [cnG]
      rw [if_pos h2]
      rfl -- []
    · skip
      refine Es_iload_n (hC _) dX6_count_89 rfl ?_
      first | refine Es_aload_n (hC _) dX6_count_90 rfl ?_ | refine Es_aload_nN (hC _) dX6_count_90 rfl ?_
      refine Sg_X6_5 (hC _) fl_X6_107 dX6_count_91 ?_
      rw [hnt]
      refine Es_icmp_ge (hC _) 158 dX6_count_94 (by decide) (fun hb94 => False.elim (nI_ge (b := nt) (a := i) (by omega) (by omega) hb94)) (fun hb94 => ?_)
      refine Es_iload_n (hC _) dX6_count_97 rfl ?_
      refine Es_iload_n (hC _) dX6_count_98 rfl ?_
      refine Es_iconst (v := 4) (hC _) dX6_count_99 (by decide) ?_
      refine Es_icmp_ne (hC _) 115 dX6_count_100 (by decide) (fun hb100 => False.elim (hb100 rfl)) (fun hb100 => ?_)
      first | refine Es_aload_n (hC _) dX6_count_103 rfl ?_ | refine Es_aload_nN (hC _) dX6_count_103 rfl ?_
      refine Sg_X6_17 (hC _) fl_X6_50 dX6_count_104 ?_
      refine Es_iload_n (hC _) dX6_count_107 rfl ?_
      refine Es_ialdN (hC _) dX6_count_108 rfl rfl rfl (by omega) (by decide) ?_
      refine Es_if_lt (hC _) 149 dX6_count_109 (by decide) (fun hb109 => False.elim (h2 hb109)) (fun hb109 => ?_)
      refine Es_goto (hC _) 145 dX6_count_112 (by decide) ?_
      refine Es_iconst (v := 1) (hC _) dX6_count_145 (by decide) ?_
      refine Es_goto (hC _) 150 dX6_count_146 (by decide) ?_
      refine Es_iadd (hC _) dX6_count_150 ?_
      refine Es_istore_n (lv' := [_, _, _, _]) (hC _) dX6_count_151 (by decide) rfl rfl ?_
      refine Es_iinc (lv' := [_, _, _, _]) (hC _) dX6_count_152 (by decide) rfl (show _ + Int32.ofInt (1) = _ + (1) from rfl) rfl rfl ?_
      refine Es_goto (hC _) 89 dX6_count_155 (by decide) ?_
      simp only [nI_1]
      refine Es.eqV ?_ (ih (i + 1) (by omega) (by omega))
      simp only [cnG]
      rw [if_neg h2]
set_option maxRecDepth 100000 in
set_option maxHeartbeats 4000000 in
theorem r_count_4 {ad : sA} {nw nt : Nat} {B : sB} {L : sL} (hnt : B 25 0 5 = nI nt) (h40 : nt ≤ 40)  : Cf yX6_count cX6_count 4 (some FieldType.int) 5 [.ref (ad 25 0), .int (nI 4)] ad nw nt B L (some (.int (nI (cnG (B 47 0) nt)))) (B) (L) := by
  have hC : ∀ Q, je_Ok (sCm yX6_count cX6_count 4 (some FieldType.int) 5 ad nw nt Q) RX6 cX6_count 4 5 := fun _ => je_Cm_ok
  refine Cs_of [some (.ref (ad 25 0)), some (.int (nI 4)), none, none] (by decide) rfl (Nat.le_of_ble_eq_true rfl) ?_
  refine Es_iload_n (hC _) dX6_count_0 rfl ?_
  refine Es_bipush (v := 10) (hC _) dX6_count_1 (by decide) ?_
  refine Es_icmp_le (hC _) 22 dX6_count_3 (by decide) (fun hb3 => ?_) (fun hb3 => False.elim (hb3 (by decide)))
  refine Es_iconst (v := 0) (hC _) dX6_count_22 (by decide) ?_
  refine Es_istore_n (lv' := [_, _, _, _]) (hC _) dX6_count_23 (by decide) rfl rfl ?_
  refine Es_iload_n (hC _) dX6_count_24 rfl ?_
  refine Es_tableIn (hC _) 87 dX6_count_25 (by decide) (by decide) (off := 62) (by decide) (by decide) ?_
  refine Es_iconst (v := 0) (hC _) dX6_count_87 (by decide) ?_
  refine Es_istore_n (lv' := [_, _, _, _]) (hC _) dX6_count_88 (by decide) rfl rfl ?_
  exact l_rc4 hnt h40 nt 0 (by omega) (by omega)

set_option maxRecDepth 100000 in
set_option maxHeartbeats 4000000 in
theorem r_count_r {ad : sA} {nw nt : Nat} {B : sB} {L : sL} {k : Nat} (hk : 1 ≤ k) (h6 : k ≤ 6) : Cf yX6_count cX6_count 4 (some FieldType.int) 5 [.ref (ad 25 0), .int (nI (k + 10))] ad nw nt B L (some (.int (B 30 0 k))) (B) (L) := by
  have hC : ∀ Q, je_Ok (sCm yX6_count cX6_count 4 (some FieldType.int) 5 ad nw nt Q) RX6 cX6_count 4 5 := fun _ => je_Cm_ok
  refine Cs_of [some (.ref (ad 25 0)), some (.int (nI (k + 10))), none, none] (by decide) rfl (Nat.le_of_ble_eq_true rfl) ?_
  refine Es_iload_n (hC _) dX6_count_0 rfl ?_
  refine Es_bipush (v := 10) (hC _) dX6_count_1 (by decide) ?_
  refine Es_icmp_le (hC _) 22 dX6_count_3 (by decide) (fun hb3 => False.elim (nI_ge (b := k + 10) (a := 10) (by omega) (by omega) hb3)) (fun hb3 => ?_)
  refine Es_iload_n (hC _) dX6_count_6 rfl ?_
  refine Es_bipush (v := 17) (hC _) dX6_count_7 (by decide) ?_
  refine Es_icmp_ge (hC _) 22 dX6_count_9 (by decide) (fun hb9 => False.elim (nI_ge (b := 17) (a := k + 10) (by omega) (by omega) hb9)) (fun hb9 => ?_)
  first | refine Es_aload_n (hC _) dX6_count_12 rfl ?_ | refine Es_aload_nN (hC _) dX6_count_12 rfl ?_
  refine Sg_X6_0 (hC _) fl_X6_7 dX6_count_13 ?_
  refine Es_iload_n (hC _) dX6_count_16 rfl ?_
  refine Es_bipush (v := 10) (hC _) dX6_count_17 (by decide) ?_
  refine Es_isub (hC _) dX6_count_19 ?_
  refine Es_ialdN (k := k) (hC _) dX6_count_20 rfl rfl (by rw [show (10 : Int32) = nI 10 from rfl, pk_sub (by omega)]; congr 1) (by omega) (by decide) ?_
  exact Es_iret dX6_count_21 rfl ⟨rfl, rfl, rfl⟩

set_option maxRecDepth 100000 in
set_option maxHeartbeats 4000000 in
theorem r_count_o {ad : sA} {nw nt : Nat} {B : sB} {L : sL} {y : Int32} (hoy : out y 8) (h1 : y ≤ 10 ∨ 17 ≤ y) : Cf yX6_count cX6_count 4 (some FieldType.int) 5 [.ref (ad 25 0), .int y] ad nw nt B L (some (.int (-9))) (B) (L) := by
  have hC : ∀ Q, je_Ok (sCm yX6_count cX6_count 4 (some FieldType.int) 5 ad nw nt Q) RX6 cX6_count 4 5 := fun _ => je_Cm_ok
  refine Cs_of [some (.ref (ad 25 0)), some (.int y), none, none] (by decide) rfl (Nat.le_of_ble_eq_true rfl) ?_
  refine Es_iload_n (hC _) dX6_count_0 rfl ?_
  refine Es_bipush (v := 10) (hC _) dX6_count_1 (by decide) ?_
  refine Es_icmp_le (hC _) 22 dX6_count_3 (by decide) (fun hb3 => ?_) (fun hb3 => ?_)
  · refine Es_iconst (v := 0) (hC _) dX6_count_22 (by decide) ?_
    refine Es_istore_n (lv' := [_, _, _, _]) (hC _) dX6_count_23 (by decide) rfl rfl ?_
    refine Es_iload_n (hC _) dX6_count_24 rfl ?_
    refine Es_tableOut (hC _) 165 dX6_count_25 (hoy.elim (fun z => Or.inl (Int32.lt_iff_toInt_lt.mp z)) (fun z => Or.inr (Int.lt_of_lt_of_le (show (7 : Int) < (nI 8).toInt by decide) (Int32.le_iff_toInt_le.mp z)))) (by decide) ?_
    refine Es_bipush (v := -9) (hC _) dX6_count_165 (by decide) ?_
    exact Es_iret dX6_count_167 rfl ⟨rfl, rfl, rfl⟩
  · refine Es_iload_n (hC _) dX6_count_6 rfl ?_
    refine Es_bipush (v := 17) (hC _) dX6_count_7 (by decide) ?_
    refine Es_icmp_ge (hC _) 22 dX6_count_9 (by decide) (fun hb9 => ?_) (fun hb9 => ?_)
    · refine Es_iconst (v := 0) (hC _) dX6_count_22 (by decide) ?_
      refine Es_istore_n (lv' := [_, _, _, _]) (hC _) dX6_count_23 (by decide) rfl rfl ?_
      refine Es_iload_n (hC _) dX6_count_24 rfl ?_
      refine Es_tableOut (hC _) 165 dX6_count_25 (hoy.elim (fun z => Or.inl (Int32.lt_iff_toInt_lt.mp z)) (fun z => Or.inr (Int.lt_of_lt_of_le (show (7 : Int) < (nI 8).toInt by decide) (Int32.le_iff_toInt_le.mp z)))) (by decide) ?_
      refine Es_bipush (v := -9) (hC _) dX6_count_165 (by decide) ?_
      exact Es_iret dX6_count_167 rfl ⟨rfl, rfl, rfl⟩
    · exact (h1.elim hb3 hb9).elim

