theorem out_ne {x : Int32} {n j : Nat} (h : out x n) (hj : j < n) (hn : n < 2 ^ 31) : ¬ x = nI j := fun z => by
  subst z
  exact h.elim (nI_pos (by omega)) (nI_ge hj hn)
set_option maxRecDepth 100000 in
set_option maxHeartbeats 4000000 in
theorem c_depth_1 {ad : sA} {nw nt : Nat} {B : sB} {L : sL} (hnt : B 0 0 9 = nI nt) (h40 : nt ≤ 40) {x : Int32} (hot : out x nt) {y : Int32} : Cf yX5_depth cX5_depth 5 (some FieldType.int) 5 [.ref (ad 0 0), .int x, .int y] ad nw nt B L (some (.int (-1))) (uB B 5 0 1 (B 5 0 1 + 1)) (L) := by
  have hC : ∀ Q, je_Ok (sCm yX5_depth cX5_depth 5 (some FieldType.int) 5 ad nw nt Q) RX5 cX5_depth 5 5 := fun _ => je_Cm_ok
  refine Cs_of [some (.ref (ad 0 0)), some (.int x), some (.int y), none, none] (by decide) rfl (Nat.le_of_ble_eq_true rfl) ?_
  first | refine Es_aload_n (hC _) dX5_depth_0 rfl ?_ | refine Es_aload_nN (hC _) dX5_depth_0 rfl ?_
  refine Es_iload_n (hC _) dX5_depth_1 rfl ?_
  refine Es_fV (hC _) mv_X5_132 dX5_depth_2 (c_tyreAt_out hnt hot) rfl rfl ⟨_, rfl, rfl⟩ rfl rfl (by decide) (Nat.le_of_ble_eq_true rfl) ?_
  first | refine Es_astore_n (lv' := [_, _, _, _, _]) (hC _) dX5_depth_5 (by decide) rfl rfl ?_ | refine Es_astore_nN (lv' := [_, _, _, _, _]) (hC _) dX5_depth_5 (by decide) rfl rfl ?_
  first | refine Es_aload_n (hC _) dX5_depth_6 rfl ?_ | refine Es_aload_nN (hC _) dX5_depth_6 rfl ?_
  refine Es_ifnonnullN (hC _) dX5_depth_7 ?_
  first | refine Es_aload_n (hC _) dX5_depth_10 rfl ?_ | refine Es_aload_nN (hC _) dX5_depth_10 rfl ?_
  refine Es_iconst (v := -1) (hC _) dX5_depth_11 (by decide) ?_
  refine Es_fV (hC _) mv_X5_70 dX5_depth_12 (c_refuse (k := 1) (by decide) (by decide)) rfl rfl ⟨_, rfl, rfl⟩ rfl rfl (by decide) (Nat.le_of_ble_eq_true rfl) ?_
  exact Es_iret dX5_depth_15 rfl ⟨rfl, rfl, rfl⟩

set_option maxRecDepth 100000 in
set_option maxHeartbeats 4000000 in
theorem r_depth_1 {ad : sA} {nw nt : Nat} {B : sB} {L : sL} (hnt : B 25 0 5 = nI nt) (h40 : nt ≤ 40) {x : Int32} (hot : out x nt) {y : Int32} : Cf yX6_depth cX6_depth 3 (some FieldType.int) 5 [.ref (ad 25 0), .int x, .int y] ad nw nt B L (some (.int (-1))) (uB B 30 0 1 (B 30 0 1 + 1)) (L) := by
  have hC : ∀ Q, je_Ok (sCm yX6_depth cX6_depth 3 (some FieldType.int) 5 ad nw nt Q) RX6 cX6_depth 3 5 := fun _ => je_Cm_ok
  refine Cs_of [some (.ref (ad 25 0)), some (.int x), some (.int y)] (by decide) rfl (Nat.le_of_ble_eq_true rfl) ?_
  refine Es_iload_n (hC _) dX6_depth_0 rfl ?_
  first | refine Es_aload_n (hC _) dX6_depth_1 rfl ?_ | refine Es_aload_nN (hC _) dX6_depth_1 rfl ?_
  refine Sg_X6_5 (hC _) fl_X6_107 dX6_depth_2 ?_
  rw [hnt]
  refine Es_fS (hC _) ms_X6_89 dX6_depth_5 (r_isIn_out hot) rfl rfl (by decide) (Nat.le_of_ble_eq_true rfl) ?_
  refine Es_if_ne (hC _) 17 dX6_depth_8 (by decide) (fun hb8 => False.elim ((by first | exact absurd hb8 (by decide) | exact absurd hb8 (by assumption) | exact hb8 (by assumption) | exact hb8 rfl | (simp_all [bI]; done)))) (fun hb8 => ?_)
  first | refine Es_aload_n (hC _) dX6_depth_11 rfl ?_ | refine Es_aload_nN (hC _) dX6_depth_11 rfl ?_
  refine Es_iconst (v := -1) (hC _) dX6_depth_12 (by decide) ?_
  refine Es_fV (hC _) mv_X6_93 dX6_depth_13 (r_refuse (k := 1) (by decide) (by decide)) rfl rfl ⟨_, rfl, rfl⟩ rfl rfl (by decide) (Nat.le_of_ble_eq_true rfl) ?_
  exact Es_iret dX6_depth_16 rfl ⟨rfl, rfl, rfl⟩

set_option maxRecDepth 100000 in
set_option maxHeartbeats 4000000 in
theorem c_depth_lo {ad : sA} {nw nt : Nat} {B : sB} {L : sL} (hnt : B 0 0 9 = nI nt) (h40 : nt ≤ 40) {t : Nat} (ht : t < nt) {y : Int32} (hl : y < 0) : Cf yX5_depth cX5_depth 5 (some FieldType.int) 5 [.ref (ad 0 0), .int (nI t), .int y] ad nw nt B L (some (.int (-4))) (uB B 5 0 4 (B 5 0 4 + 1)) (L) := by
  have hC : ∀ Q, je_Ok (sCm yX5_depth cX5_depth 5 (some FieldType.int) 5 ad nw nt Q) RX5 cX5_depth 5 5 := fun _ => je_Cm_ok
  refine Cs_of [some (.ref (ad 0 0)), some (.int (nI t)), some (.int y), none, none] (by decide) rfl (Nat.le_of_ble_eq_true rfl) ?_
  first | refine Es_aload_n (hC _) dX5_depth_0 rfl ?_ | refine Es_aload_nN (hC _) dX5_depth_0 rfl ?_
  refine Es_iload_n (hC _) dX5_depth_1 rfl ?_
  refine Es_fV (hC _) mv_X5_132 dX5_depth_2 (c_tyreAt_in hnt h40 ht) rfl rfl ⟨_, rfl, rfl⟩ rfl rfl (by decide) (Nat.le_of_ble_eq_true rfl) ?_
  first | refine Es_astore_n (lv' := [_, _, _, _, _]) (hC _) dX5_depth_5 (by decide) rfl rfl ?_ | refine Es_astore_nN (lv' := [_, _, _, _, _]) (hC _) dX5_depth_5 (by decide) rfl rfl ?_
  first | refine Es_aload_n (hC _) dX5_depth_6 rfl ?_ | refine Es_aload_nN (hC _) dX5_depth_6 rfl ?_
  refine Es_ifnonnull (hC _) 16 dX5_depth_7 (by decide) ?_
  refine Es_iload_n (hC _) dX5_depth_16 rfl ?_
  refine Es_iconst (v := 0) (hC _) dX5_depth_17 (by decide) ?_
  refine Es_ldc (hC _) ct_X5_171 dX5_depth_18 ?_
  refine Es_fS (hC _) ms_X5_92 dX5_depth_20 c_outside rfl rfl (by decide) (Nat.le_of_ble_eq_true rfl) ?_
  rw [show outs y 0 1000000 = -4 by simp only [outs]; rw [if_pos hl]]
  refine Es_istore (lv' := [_, _, _, _, _]) (hC _) dX5_depth_23 (by decide) rfl rfl ?_
  refine Es_iload (hC _) dX5_depth_25 rfl ?_
  refine Es_if_eq (hC _) 37 dX5_depth_27 (by decide) (fun hb27 => False.elim (absurd hb27 (by decide))) (fun hb27 => ?_)
  first | refine Es_aload_n (hC _) dX5_depth_30 rfl ?_ | refine Es_aload_nN (hC _) dX5_depth_30 rfl ?_
  refine Es_iload (hC _) dX5_depth_31 rfl ?_
  refine Es_fV (hC _) mv_X5_70 dX5_depth_33 (c_refuse (k := 4) (by decide) (by decide)) rfl rfl ⟨_, rfl, rfl⟩ rfl rfl (by decide) (Nat.le_of_ble_eq_true rfl) ?_
  exact Es_iret dX5_depth_36 rfl ⟨rfl, rfl, rfl⟩

set_option maxRecDepth 100000 in
set_option maxHeartbeats 4000000 in
theorem r_depth_lo {ad : sA} {nw nt : Nat} {B : sB} {L : sL} (hnt : B 25 0 5 = nI nt) (h40 : nt ≤ 40) {t : Nat} (ht : t < nt) {y : Int32} (hl : y < 0) : Cf yX6_depth cX6_depth 3 (some FieldType.int) 5 [.ref (ad 25 0), .int (nI t), .int y] ad nw nt B L (some (.int (-4))) (uB B 30 0 4 (B 30 0 4 + 1)) (L) := by
  have hC : ∀ Q, je_Ok (sCm yX6_depth cX6_depth 3 (some FieldType.int) 5 ad nw nt Q) RX6 cX6_depth 3 5 := fun _ => je_Cm_ok
  refine Cs_of [some (.ref (ad 25 0)), some (.int (nI t)), some (.int y)] (by decide) rfl (Nat.le_of_ble_eq_true rfl) ?_
  refine Es_iload_n (hC _) dX6_depth_0 rfl ?_
  first | refine Es_aload_n (hC _) dX6_depth_1 rfl ?_ | refine Es_aload_nN (hC _) dX6_depth_1 rfl ?_
  refine Sg_X6_5 (hC _) fl_X6_107 dX6_depth_2 ?_
  rw [hnt]
  refine Es_fS (hC _) ms_X6_89 dX6_depth_5 (r_isIn_in ht (by omega)) rfl rfl (by decide) (Nat.le_of_ble_eq_true rfl) ?_
  refine Es_if_ne (hC _) 17 dX6_depth_8 (by decide) (fun hb8 => ?_) (fun hb8 => False.elim ((by first | exact absurd hb8 (by decide) | exact absurd hb8 (by assumption) | exact hb8 (by assumption) | exact hb8 rfl | (simp_all [bI]; done))))
  refine Es_iload_n (hC _) dX6_depth_17 rfl ?_
  refine Es_if_ge (hC _) 28 dX6_depth_18 (by decide) (fun hb18 => False.elim (Int32.not_lt.mpr hb18 hl)) (fun hb18 => ?_)
  first | refine Es_aload_n (hC _) dX6_depth_21 rfl ?_ | refine Es_aload_nN (hC _) dX6_depth_21 rfl ?_
  refine Es_bipush (v := -4) (hC _) dX6_depth_22 (by decide) ?_
  refine Es_fV (hC _) mv_X6_93 dX6_depth_24 (r_refuse (k := 4) (by decide) (by decide)) rfl rfl ⟨_, rfl, rfl⟩ rfl rfl (by decide) (Nat.le_of_ble_eq_true rfl) ?_
  exact Es_iret dX6_depth_27 rfl ⟨rfl, rfl, rfl⟩

set_option maxRecDepth 100000 in
set_option maxHeartbeats 4000000 in
theorem c_depth_hi {ad : sA} {nw nt : Nat} {B : sB} {L : sL} (hnt : B 0 0 9 = nI nt) (h40 : nt ≤ 40) {t : Nat} (ht : t < nt) {y : Int32} (hl : ¬ y < 0) (hh : 1000000 < y) : Cf yX5_depth cX5_depth 5 (some FieldType.int) 5 [.ref (ad 0 0), .int (nI t), .int y] ad nw nt B L (some (.int (-6))) (uB B 5 0 6 (B 5 0 6 + 1)) (L) := by
  have hC : ∀ Q, je_Ok (sCm yX5_depth cX5_depth 5 (some FieldType.int) 5 ad nw nt Q) RX5 cX5_depth 5 5 := fun _ => je_Cm_ok
  refine Cs_of [some (.ref (ad 0 0)), some (.int (nI t)), some (.int y), none, none] (by decide) rfl (Nat.le_of_ble_eq_true rfl) ?_
  first | refine Es_aload_n (hC _) dX5_depth_0 rfl ?_ | refine Es_aload_nN (hC _) dX5_depth_0 rfl ?_
  refine Es_iload_n (hC _) dX5_depth_1 rfl ?_
  refine Es_fV (hC _) mv_X5_132 dX5_depth_2 (c_tyreAt_in hnt h40 ht) rfl rfl ⟨_, rfl, rfl⟩ rfl rfl (by decide) (Nat.le_of_ble_eq_true rfl) ?_
  first | refine Es_astore_n (lv' := [_, _, _, _, _]) (hC _) dX5_depth_5 (by decide) rfl rfl ?_ | refine Es_astore_nN (lv' := [_, _, _, _, _]) (hC _) dX5_depth_5 (by decide) rfl rfl ?_
  first | refine Es_aload_n (hC _) dX5_depth_6 rfl ?_ | refine Es_aload_nN (hC _) dX5_depth_6 rfl ?_
  refine Es_ifnonnull (hC _) 16 dX5_depth_7 (by decide) ?_
  refine Es_iload_n (hC _) dX5_depth_16 rfl ?_
  refine Es_iconst (v := 0) (hC _) dX5_depth_17 (by decide) ?_
  refine Es_ldc (hC _) ct_X5_171 dX5_depth_18 ?_
  refine Es_fS (hC _) ms_X5_92 dX5_depth_20 c_outside rfl rfl (by decide) (Nat.le_of_ble_eq_true rfl) ?_
  rw [show outs y 0 1000000 = -6 by simp only [outs]; rw [if_neg hl, if_pos hh]]
  refine Es_istore (lv' := [_, _, _, _, _]) (hC _) dX5_depth_23 (by decide) rfl rfl ?_
  refine Es_iload (hC _) dX5_depth_25 rfl ?_
  refine Es_if_eq (hC _) 37 dX5_depth_27 (by decide) (fun hb27 => False.elim (absurd hb27 (by decide))) (fun hb27 => ?_)
  first | refine Es_aload_n (hC _) dX5_depth_30 rfl ?_ | refine Es_aload_nN (hC _) dX5_depth_30 rfl ?_
  refine Es_iload (hC _) dX5_depth_31 rfl ?_
  refine Es_fV (hC _) mv_X5_70 dX5_depth_33 (c_refuse (k := 6) (by decide) (by decide)) rfl rfl ⟨_, rfl, rfl⟩ rfl rfl (by decide) (Nat.le_of_ble_eq_true rfl) ?_
  exact Es_iret dX5_depth_36 rfl ⟨rfl, rfl, rfl⟩

set_option maxRecDepth 100000 in
set_option maxHeartbeats 4000000 in
theorem r_depth_hi {ad : sA} {nw nt : Nat} {B : sB} {L : sL} (hnt : B 25 0 5 = nI nt) (h40 : nt ≤ 40) {t : Nat} (ht : t < nt) {y : Int32} (hl : ¬ y < 0) (hh : 1000000 < y) : Cf yX6_depth cX6_depth 3 (some FieldType.int) 5 [.ref (ad 25 0), .int (nI t), .int y] ad nw nt B L (some (.int (-6))) (uB B 30 0 6 (B 30 0 6 + 1)) (L) := by
  have hC : ∀ Q, je_Ok (sCm yX6_depth cX6_depth 3 (some FieldType.int) 5 ad nw nt Q) RX6 cX6_depth 3 5 := fun _ => je_Cm_ok
  refine Cs_of [some (.ref (ad 25 0)), some (.int (nI t)), some (.int y)] (by decide) rfl (Nat.le_of_ble_eq_true rfl) ?_
  refine Es_iload_n (hC _) dX6_depth_0 rfl ?_
  first | refine Es_aload_n (hC _) dX6_depth_1 rfl ?_ | refine Es_aload_nN (hC _) dX6_depth_1 rfl ?_
  refine Sg_X6_5 (hC _) fl_X6_107 dX6_depth_2 ?_
  rw [hnt]
  refine Es_fS (hC _) ms_X6_89 dX6_depth_5 (r_isIn_in ht (by omega)) rfl rfl (by decide) (Nat.le_of_ble_eq_true rfl) ?_
  refine Es_if_ne (hC _) 17 dX6_depth_8 (by decide) (fun hb8 => ?_) (fun hb8 => False.elim ((by first | exact absurd hb8 (by decide) | exact absurd hb8 (by assumption) | exact hb8 (by assumption) | exact hb8 rfl | (simp_all [bI]; done))))
  refine Es_iload_n (hC _) dX6_depth_17 rfl ?_
  refine Es_if_ge (hC _) 28 dX6_depth_18 (by decide) (fun hb18 => ?_) (fun hb18 => False.elim (hb18 (Int32.not_lt.mp hl)))
  refine Es_iload_n (hC _) dX6_depth_28 rfl ?_
  refine Es_ldc (hC _) ct_X6_152 dX6_depth_29 ?_
  refine Es_icmp_le (hC _) 43 dX6_depth_31 (by decide) (fun hb31 => False.elim (Int32.not_lt.mpr hb31 hh)) (fun hb31 => ?_)
  first | refine Es_aload_n (hC _) dX6_depth_34 rfl ?_ | refine Es_aload_nN (hC _) dX6_depth_34 rfl ?_
  refine Es_bipush (v := -6) (hC _) dX6_depth_35 (by decide) ?_
  refine Es_fV (hC _) mv_X6_93 dX6_depth_37 (r_refuse (k := 6) (by decide) (by decide)) rfl rfl ⟨_, rfl, rfl⟩ rfl rfl (by decide) (Nat.le_of_ble_eq_true rfl) ?_
  refine Es_goto (hC _) 49 dX6_depth_40 (by decide) ?_
  exact Es_iret dX6_depth_49 rfl ⟨rfl, rfl, rfl⟩

set_option maxRecDepth 100000 in
set_option maxHeartbeats 4000000 in
theorem c_end_1 {ad : sA} {nw nt : Nat} {B : sB} {L : sL} (hnt : B 0 0 9 = nI nt) (h40 : nt ≤ 40) {x : Int32} (hot : out x nt) {y : Int32} : Cf yX5_end cX5_end 5 (some FieldType.int) 5 [.ref (ad 0 0), .int x, .int y] ad nw nt B L (some (.int (-1))) (uB B 5 0 1 (B 5 0 1 + 1)) (L) := by
  have hC : ∀ Q, je_Ok (sCm yX5_end cX5_end 5 (some FieldType.int) 5 ad nw nt Q) RX5 cX5_end 5 5 := fun _ => je_Cm_ok
  refine Cs_of [some (.ref (ad 0 0)), some (.int x), some (.int y), none, none] (by decide) rfl (Nat.le_of_ble_eq_true rfl) ?_
  first | refine Es_aload_n (hC _) dX5_end_0 rfl ?_ | refine Es_aload_nN (hC _) dX5_end_0 rfl ?_
  refine Es_iload_n (hC _) dX5_end_1 rfl ?_
  refine Es_fV (hC _) mv_X5_132 dX5_end_2 (c_tyreAt_out hnt hot) rfl rfl ⟨_, rfl, rfl⟩ rfl rfl (by decide) (Nat.le_of_ble_eq_true rfl) ?_
  first | refine Es_astore_n (lv' := [_, _, _, _, _]) (hC _) dX5_end_5 (by decide) rfl rfl ?_ | refine Es_astore_nN (lv' := [_, _, _, _, _]) (hC _) dX5_end_5 (by decide) rfl rfl ?_
  first | refine Es_aload_n (hC _) dX5_end_6 rfl ?_ | refine Es_aload_nN (hC _) dX5_end_6 rfl ?_
  refine Es_ifnonnullN (hC _) dX5_end_7 ?_
  first | refine Es_aload_n (hC _) dX5_end_10 rfl ?_ | refine Es_aload_nN (hC _) dX5_end_10 rfl ?_
  refine Es_iconst (v := -1) (hC _) dX5_end_11 (by decide) ?_
  refine Es_fV (hC _) mv_X5_70 dX5_end_12 (c_refuse (k := 1) (by decide) (by decide)) rfl rfl ⟨_, rfl, rfl⟩ rfl rfl (by decide) (Nat.le_of_ble_eq_true rfl) ?_
  exact Es_iret dX5_end_15 rfl ⟨rfl, rfl, rfl⟩

set_option maxRecDepth 100000 in
set_option maxHeartbeats 4000000 in
theorem r_end_1 {ad : sA} {nw nt : Nat} {B : sB} {L : sL} (hnt : B 25 0 5 = nI nt) (h40 : nt ≤ 40) {x : Int32} (hot : out x nt) {y : Int32} : Cf yX6_end cX6_end 3 (some FieldType.int) 5 [.ref (ad 25 0), .int x, .int y] ad nw nt B L (some (.int (-1))) (uB B 30 0 1 (B 30 0 1 + 1)) (L) := by
  have hC : ∀ Q, je_Ok (sCm yX6_end cX6_end 3 (some FieldType.int) 5 ad nw nt Q) RX6 cX6_end 3 5 := fun _ => je_Cm_ok
  refine Cs_of [some (.ref (ad 25 0)), some (.int x), some (.int y)] (by decide) rfl (Nat.le_of_ble_eq_true rfl) ?_
  refine Es_iload_n (hC _) dX6_end_0 rfl ?_
  first | refine Es_aload_n (hC _) dX6_end_1 rfl ?_ | refine Es_aload_nN (hC _) dX6_end_1 rfl ?_
  refine Sg_X6_5 (hC _) fl_X6_107 dX6_end_2 ?_
  rw [hnt]
  refine Es_fS (hC _) ms_X6_89 dX6_end_5 (r_isIn_out hot) rfl rfl (by decide) (Nat.le_of_ble_eq_true rfl) ?_
  refine Es_if_ne (hC _) 17 dX6_end_8 (by decide) (fun hb8 => False.elim ((by first | exact absurd hb8 (by decide) | exact absurd hb8 (by assumption) | exact hb8 (by assumption) | exact hb8 rfl | (simp_all [bI]; done)))) (fun hb8 => ?_)
  first | refine Es_aload_n (hC _) dX6_end_11 rfl ?_ | refine Es_aload_nN (hC _) dX6_end_11 rfl ?_
  refine Es_iconst (v := -1) (hC _) dX6_end_12 (by decide) ?_
  refine Es_fV (hC _) mv_X6_93 dX6_end_13 (r_refuse (k := 1) (by decide) (by decide)) rfl rfl ⟨_, rfl, rfl⟩ rfl rfl (by decide) (Nat.le_of_ble_eq_true rfl) ?_
  exact Es_iret dX6_end_16 rfl ⟨rfl, rfl, rfl⟩

set_option maxRecDepth 100000 in
set_option maxHeartbeats 4000000 in
theorem c_end_lo {ad : sA} {nw nt : Nat} {B : sB} {L : sL} (hnt : B 0 0 9 = nI nt) (h40 : nt ≤ 40) {t : Nat} (ht : t < nt) {y : Int32} (hl : y < 0) : Cf yX5_end cX5_end 5 (some FieldType.int) 5 [.ref (ad 0 0), .int (nI t), .int y] ad nw nt B L (some (.int (-4))) (uB B 5 0 4 (B 5 0 4 + 1)) (L) := by
  have hC : ∀ Q, je_Ok (sCm yX5_end cX5_end 5 (some FieldType.int) 5 ad nw nt Q) RX5 cX5_end 5 5 := fun _ => je_Cm_ok
  refine Cs_of [some (.ref (ad 0 0)), some (.int (nI t)), some (.int y), none, none] (by decide) rfl (Nat.le_of_ble_eq_true rfl) ?_
  first | refine Es_aload_n (hC _) dX5_end_0 rfl ?_ | refine Es_aload_nN (hC _) dX5_end_0 rfl ?_
  refine Es_iload_n (hC _) dX5_end_1 rfl ?_
  refine Es_fV (hC _) mv_X5_132 dX5_end_2 (c_tyreAt_in hnt h40 ht) rfl rfl ⟨_, rfl, rfl⟩ rfl rfl (by decide) (Nat.le_of_ble_eq_true rfl) ?_
  first | refine Es_astore_n (lv' := [_, _, _, _, _]) (hC _) dX5_end_5 (by decide) rfl rfl ?_ | refine Es_astore_nN (lv' := [_, _, _, _, _]) (hC _) dX5_end_5 (by decide) rfl rfl ?_
  first | refine Es_aload_n (hC _) dX5_end_6 rfl ?_ | refine Es_aload_nN (hC _) dX5_end_6 rfl ?_
  refine Es_ifnonnull (hC _) 16 dX5_end_7 (by decide) ?_
  refine Es_iload_n (hC _) dX5_end_16 rfl ?_
  refine Es_iconst (v := 0) (hC _) dX5_end_17 (by decide) ?_
  refine Es_sipush (v := 300) (hC _) dX5_end_18 (by decide) ?_
  refine Es_fS (hC _) ms_X5_92 dX5_end_21 c_outside rfl rfl (by decide) (Nat.le_of_ble_eq_true rfl) ?_
  rw [show outs y 0 300 = -4 by simp only [outs]; rw [if_pos hl]]
  refine Es_istore (lv' := [_, _, _, _, _]) (hC _) dX5_end_24 (by decide) rfl rfl ?_
  refine Es_iload (hC _) dX5_end_26 rfl ?_
  refine Es_if_eq (hC _) 38 dX5_end_28 (by decide) (fun hb28 => False.elim (absurd hb28 (by decide))) (fun hb28 => ?_)
  first | refine Es_aload_n (hC _) dX5_end_31 rfl ?_ | refine Es_aload_nN (hC _) dX5_end_31 rfl ?_
  refine Es_iload (hC _) dX5_end_32 rfl ?_
  refine Es_fV (hC _) mv_X5_70 dX5_end_34 (c_refuse (k := 4) (by decide) (by decide)) rfl rfl ⟨_, rfl, rfl⟩ rfl rfl (by decide) (Nat.le_of_ble_eq_true rfl) ?_
  exact Es_iret dX5_end_37 rfl ⟨rfl, rfl, rfl⟩

set_option maxRecDepth 100000 in
set_option maxHeartbeats 4000000 in
theorem r_end_lo {ad : sA} {nw nt : Nat} {B : sB} {L : sL} (hnt : B 25 0 5 = nI nt) (h40 : nt ≤ 40) {t : Nat} (ht : t < nt) {y : Int32} (hl : y < 0) : Cf yX6_end cX6_end 3 (some FieldType.int) 5 [.ref (ad 25 0), .int (nI t), .int y] ad nw nt B L (some (.int (-4))) (uB B 30 0 4 (B 30 0 4 + 1)) (L) := by
  have hC : ∀ Q, je_Ok (sCm yX6_end cX6_end 3 (some FieldType.int) 5 ad nw nt Q) RX6 cX6_end 3 5 := fun _ => je_Cm_ok
  refine Cs_of [some (.ref (ad 25 0)), some (.int (nI t)), some (.int y)] (by decide) rfl (Nat.le_of_ble_eq_true rfl) ?_
  refine Es_iload_n (hC _) dX6_end_0 rfl ?_
  first | refine Es_aload_n (hC _) dX6_end_1 rfl ?_ | refine Es_aload_nN (hC _) dX6_end_1 rfl ?_
  refine Sg_X6_5 (hC _) fl_X6_107 dX6_end_2 ?_
  rw [hnt]
  refine Es_fS (hC _) ms_X6_89 dX6_end_5 (r_isIn_in ht (by omega)) rfl rfl (by decide) (Nat.le_of_ble_eq_true rfl) ?_
  refine Es_if_ne (hC _) 17 dX6_end_8 (by decide) (fun hb8 => ?_) (fun hb8 => False.elim ((by first | exact absurd hb8 (by decide) | exact absurd hb8 (by assumption) | exact hb8 (by assumption) | exact hb8 rfl | (simp_all [bI]; done))))
  refine Es_iload_n (hC _) dX6_end_17 rfl ?_
  refine Es_if_ge (hC _) 28 dX6_end_18 (by decide) (fun hb18 => False.elim (Int32.not_lt.mpr hb18 hl)) (fun hb18 => ?_)
  first | refine Es_aload_n (hC _) dX6_end_21 rfl ?_ | refine Es_aload_nN (hC _) dX6_end_21 rfl ?_
  refine Es_bipush (v := -4) (hC _) dX6_end_22 (by decide) ?_
  refine Es_fV (hC _) mv_X6_93 dX6_end_24 (r_refuse (k := 4) (by decide) (by decide)) rfl rfl ⟨_, rfl, rfl⟩ rfl rfl (by decide) (Nat.le_of_ble_eq_true rfl) ?_
  exact Es_iret dX6_end_27 rfl ⟨rfl, rfl, rfl⟩

set_option maxRecDepth 100000 in
set_option maxHeartbeats 4000000 in
theorem c_end_hi {ad : sA} {nw nt : Nat} {B : sB} {L : sL} (hnt : B 0 0 9 = nI nt) (h40 : nt ≤ 40) {t : Nat} (ht : t < nt) {y : Int32} (hl : ¬ y < 0) (hh : 300 < y) : Cf yX5_end cX5_end 5 (some FieldType.int) 5 [.ref (ad 0 0), .int (nI t), .int y] ad nw nt B L (some (.int (-6))) (uB B 5 0 6 (B 5 0 6 + 1)) (L) := by
  have hC : ∀ Q, je_Ok (sCm yX5_end cX5_end 5 (some FieldType.int) 5 ad nw nt Q) RX5 cX5_end 5 5 := fun _ => je_Cm_ok
  refine Cs_of [some (.ref (ad 0 0)), some (.int (nI t)), some (.int y), none, none] (by decide) rfl (Nat.le_of_ble_eq_true rfl) ?_
  first | refine Es_aload_n (hC _) dX5_end_0 rfl ?_ | refine Es_aload_nN (hC _) dX5_end_0 rfl ?_
  refine Es_iload_n (hC _) dX5_end_1 rfl ?_
  refine Es_fV (hC _) mv_X5_132 dX5_end_2 (c_tyreAt_in hnt h40 ht) rfl rfl ⟨_, rfl, rfl⟩ rfl rfl (by decide) (Nat.le_of_ble_eq_true rfl) ?_
  first | refine Es_astore_n (lv' := [_, _, _, _, _]) (hC _) dX5_end_5 (by decide) rfl rfl ?_ | refine Es_astore_nN (lv' := [_, _, _, _, _]) (hC _) dX5_end_5 (by decide) rfl rfl ?_
  first | refine Es_aload_n (hC _) dX5_end_6 rfl ?_ | refine Es_aload_nN (hC _) dX5_end_6 rfl ?_
  refine Es_ifnonnull (hC _) 16 dX5_end_7 (by decide) ?_
  refine Es_iload_n (hC _) dX5_end_16 rfl ?_
  refine Es_iconst (v := 0) (hC _) dX5_end_17 (by decide) ?_
  refine Es_sipush (v := 300) (hC _) dX5_end_18 (by decide) ?_
  refine Es_fS (hC _) ms_X5_92 dX5_end_21 c_outside rfl rfl (by decide) (Nat.le_of_ble_eq_true rfl) ?_
  rw [show outs y 0 300 = -6 by simp only [outs]; rw [if_neg hl, if_pos hh]]
  refine Es_istore (lv' := [_, _, _, _, _]) (hC _) dX5_end_24 (by decide) rfl rfl ?_
  refine Es_iload (hC _) dX5_end_26 rfl ?_
  refine Es_if_eq (hC _) 38 dX5_end_28 (by decide) (fun hb28 => False.elim (absurd hb28 (by decide))) (fun hb28 => ?_)
  first | refine Es_aload_n (hC _) dX5_end_31 rfl ?_ | refine Es_aload_nN (hC _) dX5_end_31 rfl ?_
  refine Es_iload (hC _) dX5_end_32 rfl ?_
  refine Es_fV (hC _) mv_X5_70 dX5_end_34 (c_refuse (k := 6) (by decide) (by decide)) rfl rfl ⟨_, rfl, rfl⟩ rfl rfl (by decide) (Nat.le_of_ble_eq_true rfl) ?_
  exact Es_iret dX5_end_37 rfl ⟨rfl, rfl, rfl⟩

set_option maxRecDepth 100000 in
set_option maxHeartbeats 4000000 in
theorem r_end_hi {ad : sA} {nw nt : Nat} {B : sB} {L : sL} (hnt : B 25 0 5 = nI nt) (h40 : nt ≤ 40) {t : Nat} (ht : t < nt) {y : Int32} (hl : ¬ y < 0) (hh : 300 < y) : Cf yX6_end cX6_end 3 (some FieldType.int) 5 [.ref (ad 25 0), .int (nI t), .int y] ad nw nt B L (some (.int (-6))) (uB B 30 0 6 (B 30 0 6 + 1)) (L) := by
  have hC : ∀ Q, je_Ok (sCm yX6_end cX6_end 3 (some FieldType.int) 5 ad nw nt Q) RX6 cX6_end 3 5 := fun _ => je_Cm_ok
  refine Cs_of [some (.ref (ad 25 0)), some (.int (nI t)), some (.int y)] (by decide) rfl (Nat.le_of_ble_eq_true rfl) ?_
  refine Es_iload_n (hC _) dX6_end_0 rfl ?_
  first | refine Es_aload_n (hC _) dX6_end_1 rfl ?_ | refine Es_aload_nN (hC _) dX6_end_1 rfl ?_
  refine Sg_X6_5 (hC _) fl_X6_107 dX6_end_2 ?_
  rw [hnt]
  refine Es_fS (hC _) ms_X6_89 dX6_end_5 (r_isIn_in ht (by omega)) rfl rfl (by decide) (Nat.le_of_ble_eq_true rfl) ?_
  refine Es_if_ne (hC _) 17 dX6_end_8 (by decide) (fun hb8 => ?_) (fun hb8 => False.elim ((by first | exact absurd hb8 (by decide) | exact absurd hb8 (by assumption) | exact hb8 (by assumption) | exact hb8 rfl | (simp_all [bI]; done))))
  refine Es_iload_n (hC _) dX6_end_17 rfl ?_
  refine Es_if_ge (hC _) 28 dX6_end_18 (by decide) (fun hb18 => ?_) (fun hb18 => False.elim (hb18 (Int32.not_lt.mp hl)))
  refine Es_iload_n (hC _) dX6_end_28 rfl ?_
  refine Es_sipush (v := 300) (hC _) dX6_end_29 (by decide) ?_
  refine Es_icmp_le (hC _) 44 dX6_end_32 (by decide) (fun hb32 => False.elim (Int32.not_lt.mpr hb32 hh)) (fun hb32 => ?_)
  first | refine Es_aload_n (hC _) dX6_end_35 rfl ?_ | refine Es_aload_nN (hC _) dX6_end_35 rfl ?_
  refine Es_bipush (v := -6) (hC _) dX6_end_36 (by decide) ?_
  refine Es_fV (hC _) mv_X6_93 dX6_end_38 (r_refuse (k := 6) (by decide) (by decide)) rfl rfl ⟨_, rfl, rfl⟩ rfl rfl (by decide) (Nat.le_of_ble_eq_true rfl) ?_
  refine Es_goto (hC _) 50 dX6_end_41 (by decide) ?_
  exact Es_iret dX6_end_50 rfl ⟨rfl, rfl, rfl⟩

set_option maxRecDepth 100000 in
set_option maxHeartbeats 4000000 in
theorem c_depth_ok {ad : sA} {nw nt : Nat} {B : sB} {L : sL} (hnt : B 0 0 9 = nI nt) (h40 : nt ≤ 40) {t : Nat} (ht : t < nt) {r d ra len u v : Nat} (hr : B 21 t 6 = nI (r + 1)) (h12 : r < 12) (hrd : B 23 t r = nI d) (hd : d ≤ 300) (hra : B 22 t r = nI ra) (hlen : B 21 t 9 = nI len) (hle : ra ≤ len) (hl6 : len ≤ 1000000) (hu6 : u ≤ 43200000000) (hv1 : 1 ≤ v) (hv6 : v ≤ 144000000000000) (hu : L 24 t 0 = lN u) (hv : L 24 t 1 = lN v) {y : Nat} (hy : y ≤ 1000000) : Cf yX5_depth cX5_depth 5 (some FieldType.int) 5 [.ref (ad 0 0), .int (nI t), .int (nI y)] ad nw nt B L (some (.int (nI (dpN d v u (len - ra + y))))) (B) (L) := by
  have hC : ∀ Q, je_Ok (sCm yX5_depth cX5_depth 5 (some FieldType.int) 5 ad nw nt Q) RX5 cX5_depth 5 5 := fun _ => je_Cm_ok
  refine Cs_of [some (.ref (ad 0 0)), some (.int (nI t)), some (.int (nI y)), none, none] (by decide) rfl (Nat.le_of_ble_eq_true rfl) ?_
  first | refine Es_aload_n (hC _) dX5_depth_0 rfl ?_ | refine Es_aload_nN (hC _) dX5_depth_0 rfl ?_
  refine Es_iload_n (hC _) dX5_depth_1 rfl ?_
  refine Es_fV (hC _) mv_X5_132 dX5_depth_2 (c_tyreAt_in hnt h40 ht) rfl rfl ⟨_, rfl, rfl⟩ rfl rfl (by decide) (Nat.le_of_ble_eq_true rfl) ?_
  first | refine Es_astore_n (lv' := [_, _, _, _, _]) (hC _) dX5_depth_5 (by decide) rfl rfl ?_ | refine Es_astore_nN (lv' := [_, _, _, _, _]) (hC _) dX5_depth_5 (by decide) rfl rfl ?_
  first | refine Es_aload_n (hC _) dX5_depth_6 rfl ?_ | refine Es_aload_nN (hC _) dX5_depth_6 rfl ?_
  refine Es_ifnonnull (hC _) 16 dX5_depth_7 (by decide) ?_
  refine Es_iload_n (hC _) dX5_depth_16 rfl ?_
  refine Es_iconst (v := 0) (hC _) dX5_depth_17 (by decide) ?_
  refine Es_ldc (hC _) ct_X5_171 dX5_depth_18 ?_
  refine Es_fS (hC _) ms_X5_92 dX5_depth_20 c_outside rfl rfl (by decide) (Nat.le_of_ble_eq_true rfl) ?_
  rw [show outs (nI y) 0 1000000 = 0 by simp only [outs]; rw [if_neg (nI_pos (by omega)), if_neg (show ¬ (1000000 : Int32) < nI y from nI_nlt (a := 1000000) (b := y) hy (by omega))]]
  refine Es_istore (lv' := [_, _, _, _, _]) (hC _) dX5_depth_23 (by decide) rfl rfl ?_
  refine Es_iload (hC _) dX5_depth_25 rfl ?_
  refine Es_if_eq (hC _) 37 dX5_depth_27 (by decide) (fun hb27 => ?_) (fun hb27 => False.elim (hb27 rfl))
  first | refine Es_aload_n (hC _) dX5_depth_37 rfl ?_ | refine Es_aload_nN (hC _) dX5_depth_37 rfl ?_
  refine Es_iload_n (hC _) dX5_depth_38 rfl ?_
  refine Es_fV (hC _) mv_X5_204 dX5_depth_39 (c_depthAfter ht hr h12 hrd hd hra hlen hle hl6 hu6 hv1 hv6 hu hv hy) (ok21 ht) rfl ⟨_, rfl, rfl⟩ rfl rfl (by decide) (Nat.le_of_ble_eq_true rfl) ?_
  exact Es_iret dX5_depth_42 rfl ⟨rfl, rfl, rfl⟩

set_option maxRecDepth 100000 in
set_option maxHeartbeats 4000000 in
theorem r_depth_ok {ad : sA} {nw nt : Nat} {B : sB} {L : sL} (hnt : B 25 0 5 = nI nt) (h40 : nt ≤ 40) {t : Nat} (ht : t < nt) {r m d ra len u v : Nat} (hr : B 49 0 t = nI (r + 1)) (h12 : r < 12) (hmk : B 42 0 t = nI m) (hm4 : m < 4) (ho : okR (rA B t) (r + 1) 1000000) (ho2 : okR (rD B t) (r + 1) 300) (hmn : bd (B 32 0 m) 1000) (hw : wUD (rA B t) (rD B t) (r + 1) (B 32 0 m) = (lN u, lN v)) (hrd : B 51 0 (13 * t + r) = nI d) (hd : d ≤ 300) (hra : B 50 0 (13 * t + r) = nI ra) (hlen : B 46 0 t = nI len) (hle : ra ≤ len) (hl6 : len ≤ 1000000) (hu6 : u ≤ 43200000000) (hv1 : 1 ≤ v) (hv6 : v ≤ 144000000000000) {y : Nat} (hy : y ≤ 1000000) : Cf yX6_depth cX6_depth 3 (some FieldType.int) 5 [.ref (ad 25 0), .int (nI t), .int (nI y)] ad nw nt B L (some (.int (nI (dpN d v u (len - ra + y))))) (B) (wR L (lN u, lN v)) := by
  have hC : ∀ Q, je_Ok (sCm yX6_depth cX6_depth 3 (some FieldType.int) 5 ad nw nt Q) RX6 cX6_depth 3 5 := fun _ => je_Cm_ok
  refine Cs_of [some (.ref (ad 25 0)), some (.int (nI t)), some (.int (nI y))] (by decide) rfl (Nat.le_of_ble_eq_true rfl) ?_
  refine Es_iload_n (hC _) dX6_depth_0 rfl ?_
  first | refine Es_aload_n (hC _) dX6_depth_1 rfl ?_ | refine Es_aload_nN (hC _) dX6_depth_1 rfl ?_
  refine Sg_X6_5 (hC _) fl_X6_107 dX6_depth_2 ?_
  rw [hnt]
  refine Es_fS (hC _) ms_X6_89 dX6_depth_5 (r_isIn_in ht (by omega)) rfl rfl (by decide) (Nat.le_of_ble_eq_true rfl) ?_
  refine Es_if_ne (hC _) 17 dX6_depth_8 (by decide) (fun hb8 => ?_) (fun hb8 => False.elim ((by first | exact absurd hb8 (by decide) | exact absurd hb8 (by assumption) | exact hb8 (by assumption) | exact hb8 rfl | (simp_all [bI]; done))))
  refine Es_iload_n (hC _) dX6_depth_17 rfl ?_
  refine Es_if_ge (hC _) 28 dX6_depth_18 (by decide) (fun hb18 => ?_) (fun hb18 => False.elim (hb18 (nI_pos' (by omega))))
  refine Es_iload_n (hC _) dX6_depth_28 rfl ?_
  refine Es_ldc (hC _) ct_X6_152 dX6_depth_29 ?_
  refine Es_icmp_le (hC _) 43 dX6_depth_31 (by decide) (fun hb31 => ?_) (fun hb31 => False.elim (hb31 (nI_le (b := 1000000) (a := y) hy (by decide))))
  first | refine Es_aload_n (hC _) dX6_depth_43 rfl ?_ | refine Es_aload_nN (hC _) dX6_depth_43 rfl ?_
  refine Es_iload_n (hC _) dX6_depth_44 rfl ?_
  refine Es_iload_n (hC _) dX6_depth_45 rfl ?_
  refine Es_fV (hC _) mv_X6_149 dX6_depth_46 (r_depthOf (by omega) hr h12 hmk hm4 ho ho2 hmn hw hrd hd hra hlen hle hl6 hu6 hv1 hv6 hy) rfl rfl ⟨_, rfl, rfl⟩ rfl rfl (by decide) (Nat.le_of_ble_eq_true rfl) ?_
  exact Es_iret dX6_depth_49 rfl ⟨rfl, rfl, rfl⟩

set_option maxRecDepth 100000 in
set_option maxHeartbeats 4000000 in
theorem c_end_ok {ad : sA} {nw nt : Nat} {B : sB} {L : sL} (hnt : B 0 0 9 = nI nt) (h40 : nt ≤ 40) {t : Nat} (ht : t < nt) {r d ra len u v : Nat} (hr : B 21 t 6 = nI (r + 1)) (h12 : r < 12) (hrd : B 23 t r = nI d) (hd : d ≤ 300) (hra : B 22 t r = nI ra) (hlen : B 21 t 9 = nI len) (hle : ra ≤ len) (hl6 : len ≤ 1000000) (hu6 : u ≤ 43200000000) (hv1 : 1 ≤ v) (hv6 : v ≤ 144000000000000) (hu : L 24 t 0 = lN u) (hv : L 24 t 1 = lN v) {y : Nat} (hy : y ≤ 300) : Cf yX5_end cX5_end 5 (some FieldType.int) 5 [.ref (ad 0 0), .int (nI t), .int (nI y)] ad nw nt B L (some (.int (nI (enN d v u (len - ra) y)))) (B) (L) := by
  have hC : ∀ Q, je_Ok (sCm yX5_end cX5_end 5 (some FieldType.int) 5 ad nw nt Q) RX5 cX5_end 5 5 := fun _ => je_Cm_ok
  refine Cs_of [some (.ref (ad 0 0)), some (.int (nI t)), some (.int (nI y)), none, none] (by decide) rfl (Nat.le_of_ble_eq_true rfl) ?_
  first | refine Es_aload_n (hC _) dX5_end_0 rfl ?_ | refine Es_aload_nN (hC _) dX5_end_0 rfl ?_
  refine Es_iload_n (hC _) dX5_end_1 rfl ?_
  refine Es_fV (hC _) mv_X5_132 dX5_end_2 (c_tyreAt_in hnt h40 ht) rfl rfl ⟨_, rfl, rfl⟩ rfl rfl (by decide) (Nat.le_of_ble_eq_true rfl) ?_
  first | refine Es_astore_n (lv' := [_, _, _, _, _]) (hC _) dX5_end_5 (by decide) rfl rfl ?_ | refine Es_astore_nN (lv' := [_, _, _, _, _]) (hC _) dX5_end_5 (by decide) rfl rfl ?_
  first | refine Es_aload_n (hC _) dX5_end_6 rfl ?_ | refine Es_aload_nN (hC _) dX5_end_6 rfl ?_
  refine Es_ifnonnull (hC _) 16 dX5_end_7 (by decide) ?_
  refine Es_iload_n (hC _) dX5_end_16 rfl ?_
  refine Es_iconst (v := 0) (hC _) dX5_end_17 (by decide) ?_
  refine Es_sipush (v := 300) (hC _) dX5_end_18 (by decide) ?_
  refine Es_fS (hC _) ms_X5_92 dX5_end_21 c_outside rfl rfl (by decide) (Nat.le_of_ble_eq_true rfl) ?_
  rw [show outs (nI y) 0 300 = 0 by simp only [outs]; rw [if_neg (nI_pos (by omega)), if_neg (show ¬ (300 : Int32) < nI y from nI_nlt (a := 300) (b := y) hy (by omega))]]
  refine Es_istore (lv' := [_, _, _, _, _]) (hC _) dX5_end_24 (by decide) rfl rfl ?_
  refine Es_iload (hC _) dX5_end_26 rfl ?_
  refine Es_if_eq (hC _) 38 dX5_end_28 (by decide) (fun hb28 => ?_) (fun hb28 => False.elim (hb28 rfl))
  first | refine Es_aload_n (hC _) dX5_end_38 rfl ?_ | refine Es_aload_nN (hC _) dX5_end_38 rfl ?_
  refine Es_iload_n (hC _) dX5_end_39 rfl ?_
  refine Es_fV (hC _) mv_X5_207 dX5_end_40 (c_endFor ht hr h12 hrd hd hra hlen hle hl6 hu6 hv1 hv6 hu hv hy) (ok21 ht) rfl ⟨_, rfl, rfl⟩ rfl rfl (by decide) (Nat.le_of_ble_eq_true rfl) ?_
  exact Es_iret dX5_end_43 rfl ⟨rfl, rfl, rfl⟩

set_option maxRecDepth 100000 in
set_option maxHeartbeats 4000000 in
theorem r_end_ok {ad : sA} {nw nt : Nat} {B : sB} {L : sL} (hnt : B 25 0 5 = nI nt) (h40 : nt ≤ 40) {t : Nat} (ht : t < nt) {r m d ra len u v : Nat} (hr : B 49 0 t = nI (r + 1)) (h12 : r < 12) (hmk : B 42 0 t = nI m) (hm4 : m < 4) (ho : okR (rA B t) (r + 1) 1000000) (ho2 : okR (rD B t) (r + 1) 300) (hmn : bd (B 32 0 m) 1000) (hw : wUD (rA B t) (rD B t) (r + 1) (B 32 0 m) = (lN u, lN v)) (hrd : B 51 0 (13 * t + r) = nI d) (hd : d ≤ 300) (hra : B 50 0 (13 * t + r) = nI ra) (hlen : B 46 0 t = nI len) (hle : ra ≤ len) (hl6 : len ≤ 1000000) (hu6 : u ≤ 43200000000) (hv1 : 1 ≤ v) (hv6 : v ≤ 144000000000000) {y : Nat} (hy : y ≤ 300) : Cf yX6_end cX6_end 3 (some FieldType.int) 5 [.ref (ad 25 0), .int (nI t), .int (nI y)] ad nw nt B L (some (.int (nI (enN d v u (len - ra) y)))) (B) (wR L (lN u, lN v)) := by
  have hC : ∀ Q, je_Ok (sCm yX6_end cX6_end 3 (some FieldType.int) 5 ad nw nt Q) RX6 cX6_end 3 5 := fun _ => je_Cm_ok
  refine Cs_of [some (.ref (ad 25 0)), some (.int (nI t)), some (.int (nI y))] (by decide) rfl (Nat.le_of_ble_eq_true rfl) ?_
  refine Es_iload_n (hC _) dX6_end_0 rfl ?_
  first | refine Es_aload_n (hC _) dX6_end_1 rfl ?_ | refine Es_aload_nN (hC _) dX6_end_1 rfl ?_
  refine Sg_X6_5 (hC _) fl_X6_107 dX6_end_2 ?_
  rw [hnt]
  refine Es_fS (hC _) ms_X6_89 dX6_end_5 (r_isIn_in ht (by omega)) rfl rfl (by decide) (Nat.le_of_ble_eq_true rfl) ?_
  refine Es_if_ne (hC _) 17 dX6_end_8 (by decide) (fun hb8 => ?_) (fun hb8 => False.elim ((by first | exact absurd hb8 (by decide) | exact absurd hb8 (by assumption) | exact hb8 (by assumption) | exact hb8 rfl | (simp_all [bI]; done))))
  refine Es_iload_n (hC _) dX6_end_17 rfl ?_
  refine Es_if_ge (hC _) 28 dX6_end_18 (by decide) (fun hb18 => ?_) (fun hb18 => False.elim (hb18 (nI_pos' (by omega))))
  refine Es_iload_n (hC _) dX6_end_28 rfl ?_
  refine Es_sipush (v := 300) (hC _) dX6_end_29 (by decide) ?_
  refine Es_icmp_le (hC _) 44 dX6_end_32 (by decide) (fun hb32 => ?_) (fun hb32 => False.elim (hb32 (nI_le (b := 300) (a := y) hy (by decide))))
  first | refine Es_aload_n (hC _) dX6_end_44 rfl ?_ | refine Es_aload_nN (hC _) dX6_end_44 rfl ?_
  refine Es_iload_n (hC _) dX6_end_45 rfl ?_
  refine Es_iload_n (hC _) dX6_end_46 rfl ?_
  refine Es_fV (hC _) mv_X6_161 dX6_end_47 (r_endOf (by omega) hr h12 hmk hm4 ho ho2 hmn hw hrd hd hra hlen hle hl6 hu6 hv1 hv6 hy) rfl rfl ⟨_, rfl, rfl⟩ rfl rfl (by decide) (Nat.le_of_ble_eq_true rfl) ?_
  exact Es_iret dX6_end_50 rfl ⟨rfl, rfl, rfl⟩

set_option maxRecDepth 100000 in
set_option maxHeartbeats 4000000 in
theorem c_wear_1 {ad : sA} {nw nt : Nat} {B : sB} {L : sL} (hnt : B 0 0 9 = nI nt) (h40 : nt ≤ 40) {x : Int32} (hot : out x nt) {y : Int32} : Cf yX5_wear cX5_wear 4 (some FieldType.long) 5 [.ref (ad 0 0), .int x, .int y] ad nw nt B L (some (.long (-1))) (uB B 5 0 1 (B 5 0 1 + 1)) (L) := by
  have hC : ∀ Q, je_Ok (sCm yX5_wear cX5_wear 4 (some FieldType.long) 5 ad nw nt Q) RX5 cX5_wear 4 5 := fun _ => je_Cm_ok
  refine Cs_of [some (.ref (ad 0 0)), some (.int x), some (.int y), none] (by decide) rfl (Nat.le_of_ble_eq_true rfl) ?_
  first | refine Es_aload_n (hC _) dX5_wear_0 rfl ?_ | refine Es_aload_nN (hC _) dX5_wear_0 rfl ?_
  refine Es_iload_n (hC _) dX5_wear_1 rfl ?_
  refine Es_fV (hC _) mv_X5_132 dX5_wear_2 (c_tyreAt_out hnt hot) rfl rfl ⟨_, rfl, rfl⟩ rfl rfl (by decide) (Nat.le_of_ble_eq_true rfl) ?_
  first | refine Es_astore_n (lv' := [_, _, _, _]) (hC _) dX5_wear_5 (by decide) rfl rfl ?_ | refine Es_astore_nN (lv' := [_, _, _, _]) (hC _) dX5_wear_5 (by decide) rfl rfl ?_
  first | refine Es_aload_n (hC _) dX5_wear_6 rfl ?_ | refine Es_aload_nN (hC _) dX5_wear_6 rfl ?_
  refine Es_ifnonnullN (hC _) dX5_wear_7 ?_
  first | refine Es_aload_n (hC _) dX5_wear_10 rfl ?_ | refine Es_aload_nN (hC _) dX5_wear_10 rfl ?_
  refine Es_iconst (v := -1) (hC _) dX5_wear_11 (by decide) ?_
  refine Es_fV (hC _) mv_X5_70 dX5_wear_12 (c_refuse (k := 1) (by decide) (by decide)) rfl rfl ⟨_, rfl, rfl⟩ rfl rfl (by decide) (Nat.le_of_ble_eq_true rfl) ?_
  refine Es_i2l (hC _) dX5_wear_15 ?_
  exact Es_lret dX5_wear_16 ⟨rfl, rfl, rfl⟩

set_option maxRecDepth 100000 in
set_option maxHeartbeats 4000000 in
theorem r_wear_1 {ad : sA} {nw nt : Nat} {B : sB} {L : sL} (hnt : B 25 0 5 = nI nt) (h40 : nt ≤ 40) {x : Int32} (hot : out x nt) {y : Int32} : Cf yX6_wear cX6_wear 3 (some FieldType.long) 5 [.ref (ad 25 0), .int x, .int y] ad nw nt B L (some (.long (-1))) (uB B 30 0 1 (B 30 0 1 + 1)) (L) := by
  have hC : ∀ Q, je_Ok (sCm yX6_wear cX6_wear 3 (some FieldType.long) 5 ad nw nt Q) RX6 cX6_wear 3 5 := fun _ => je_Cm_ok
  refine Cs_of [some (.ref (ad 25 0)), some (.int x), some (.int y)] (by decide) rfl (Nat.le_of_ble_eq_true rfl) ?_
  refine Es_iload_n (hC _) dX6_wear_0 rfl ?_
  first | refine Es_aload_n (hC _) dX6_wear_1 rfl ?_ | refine Es_aload_nN (hC _) dX6_wear_1 rfl ?_
  refine Sg_X6_5 (hC _) fl_X6_107 dX6_wear_2 ?_
  rw [hnt]
  refine Es_fS (hC _) ms_X6_89 dX6_wear_5 (r_isIn_out hot) rfl rfl (by decide) (Nat.le_of_ble_eq_true rfl) ?_
  refine Es_if_ne (hC _) 18 dX6_wear_8 (by decide) (fun hb8 => False.elim ((by first | exact absurd hb8 (by decide) | exact absurd hb8 (by assumption) | exact hb8 (by assumption) | exact hb8 rfl | (simp_all [bI]; done)))) (fun hb8 => ?_)
  first | refine Es_aload_n (hC _) dX6_wear_11 rfl ?_ | refine Es_aload_nN (hC _) dX6_wear_11 rfl ?_
  refine Es_iconst (v := -1) (hC _) dX6_wear_12 (by decide) ?_
  refine Es_fV (hC _) mv_X6_93 dX6_wear_13 (r_refuse (k := 1) (by decide) (by decide)) rfl rfl ⟨_, rfl, rfl⟩ rfl rfl (by decide) (Nat.le_of_ble_eq_true rfl) ?_
  refine Es_i2l (hC _) dX6_wear_16 ?_
  exact Es_lret dX6_wear_17 ⟨rfl, rfl, rfl⟩

set_option maxRecDepth 100000 in
set_option maxHeartbeats 4000000 in
theorem c_wear_2 {ad : sA} {nw nt : Nat} {B : sB} {L : sL} (hnt : B 0 0 9 = nI nt) (h40 : nt ≤ 40) {t : Nat} (ht : t < nt) {y : Int32} (hoy : out y 2) : Cf yX5_wear cX5_wear 4 (some FieldType.long) 5 [.ref (ad 0 0), .int (nI t), .int y] ad nw nt B L (some (.long (-2))) (uB B 5 0 2 (B 5 0 2 + 1)) (L) := by
  have hC : ∀ Q, je_Ok (sCm yX5_wear cX5_wear 4 (some FieldType.long) 5 ad nw nt Q) RX5 cX5_wear 4 5 := fun _ => je_Cm_ok
  refine Cs_of [some (.ref (ad 0 0)), some (.int (nI t)), some (.int y), none] (by decide) rfl (Nat.le_of_ble_eq_true rfl) ?_
  first | refine Es_aload_n (hC _) dX5_wear_0 rfl ?_ | refine Es_aload_nN (hC _) dX5_wear_0 rfl ?_
  refine Es_iload_n (hC _) dX5_wear_1 rfl ?_
  refine Es_fV (hC _) mv_X5_132 dX5_wear_2 (c_tyreAt_in hnt h40 ht) rfl rfl ⟨_, rfl, rfl⟩ rfl rfl (by decide) (Nat.le_of_ble_eq_true rfl) ?_
  first | refine Es_astore_n (lv' := [_, _, _, _]) (hC _) dX5_wear_5 (by decide) rfl rfl ?_ | refine Es_astore_nN (lv' := [_, _, _, _]) (hC _) dX5_wear_5 (by decide) rfl rfl ?_
  first | refine Es_aload_n (hC _) dX5_wear_6 rfl ?_ | refine Es_aload_nN (hC _) dX5_wear_6 rfl ?_
  refine Es_ifnonnull (hC _) 17 dX5_wear_7 (by decide) ?_
  refine Es_iload_n (hC _) dX5_wear_17 rfl ?_
  refine Es_lookup (hC _) 60 dX5_wear_18 (off := 42) (by decide) ((lv_osw (out_ne (j := 0) hoy (by decide) (by decide)) (by decide)).trans (lv_osw (out_ne (j := 1) hoy (by decide) (by decide)) (by decide))) (by decide) ?_
  first | refine Es_aload_n (hC _) dX5_wear_60 rfl ?_ | refine Es_aload_nN (hC _) dX5_wear_60 rfl ?_
  refine Es_bipush (v := -2) (hC _) dX5_wear_61 (by decide) ?_
  refine Es_fV (hC _) mv_X5_70 dX5_wear_63 (c_refuse (k := 2) (by decide) (by decide)) rfl rfl ⟨_, rfl, rfl⟩ rfl rfl (by decide) (Nat.le_of_ble_eq_true rfl) ?_
  refine Es_i2l (hC _) dX5_wear_66 ?_
  exact Es_lret dX5_wear_67 ⟨rfl, rfl, rfl⟩

set_option maxRecDepth 100000 in
set_option maxHeartbeats 4000000 in
theorem r_wear_2 {ad : sA} {nw nt : Nat} {B : sB} {L : sL} (hnt : B 25 0 5 = nI nt) (h40 : nt ≤ 40) {t : Nat} (ht : t < nt) {y : Int32} (hoy : out y 2) : Cf yX6_wear cX6_wear 3 (some FieldType.long) 5 [.ref (ad 25 0), .int (nI t), .int y] ad nw nt B L (some (.long (-2))) (uB B 30 0 2 (B 30 0 2 + 1)) (L) := by
  have hC : ∀ Q, je_Ok (sCm yX6_wear cX6_wear 3 (some FieldType.long) 5 ad nw nt Q) RX6 cX6_wear 3 5 := fun _ => je_Cm_ok
  refine Cs_of [some (.ref (ad 25 0)), some (.int (nI t)), some (.int y)] (by decide) rfl (Nat.le_of_ble_eq_true rfl) ?_
  refine Es_iload_n (hC _) dX6_wear_0 rfl ?_
  first | refine Es_aload_n (hC _) dX6_wear_1 rfl ?_ | refine Es_aload_nN (hC _) dX6_wear_1 rfl ?_
  refine Sg_X6_5 (hC _) fl_X6_107 dX6_wear_2 ?_
  rw [hnt]
  refine Es_fS (hC _) ms_X6_89 dX6_wear_5 (r_isIn_in ht (by omega)) rfl rfl (by decide) (Nat.le_of_ble_eq_true rfl) ?_
  refine Es_if_ne (hC _) 18 dX6_wear_8 (by decide) (fun hb8 => ?_) (fun hb8 => False.elim ((by first | exact absurd hb8 (by decide) | exact absurd hb8 (by assumption) | exact hb8 (by assumption) | exact hb8 rfl | (simp_all [bI]; done))))
  refine Es_iload_n (hC _) dX6_wear_18 rfl ?_
  refine Es_iconst (v := 2) (hC _) dX6_wear_19 (by decide) ?_
  refine Es_fS (hC _) ms_X6_89 dX6_wear_20 (r_isIn_out (n := 2) hoy) rfl rfl (by decide) (Nat.le_of_ble_eq_true rfl) ?_
  refine Es_if_ne (hC _) 34 dX6_wear_23 (by decide) (fun hb23 => False.elim ((by first | exact absurd hb23 (by decide) | exact absurd hb23 (by assumption) | exact hb23 (by assumption) | exact hb23 rfl | (simp_all [bI]; done)))) (fun hb23 => ?_)
  first | refine Es_aload_n (hC _) dX6_wear_26 rfl ?_ | refine Es_aload_nN (hC _) dX6_wear_26 rfl ?_
  refine Es_bipush (v := -2) (hC _) dX6_wear_27 (by decide) ?_
  refine Es_fV (hC _) mv_X6_93 dX6_wear_29 (r_refuse (k := 2) (by decide) (by decide)) rfl rfl ⟨_, rfl, rfl⟩ rfl rfl (by decide) (Nat.le_of_ble_eq_true rfl) ?_
  refine Es_i2l (hC _) dX6_wear_32 ?_
  exact Es_lret dX6_wear_33 ⟨rfl, rfl, rfl⟩

set_option maxRecDepth 100000 in
set_option maxHeartbeats 4000000 in
theorem c_wear_u {ad : sA} {nw nt : Nat} {B : sB} {L : sL} (hnt : B 0 0 9 = nI nt) (h40 : nt ≤ 40) {t : Nat} (ht : t < nt)  : Cf yX5_wear cX5_wear 4 (some FieldType.long) 5 [.ref (ad 0 0), .int (nI t), .int (nI 0)] ad nw nt B L (some (.long (L 24 t 0))) (B) (L) := by
  have hC : ∀ Q, je_Ok (sCm yX5_wear cX5_wear 4 (some FieldType.long) 5 ad nw nt Q) RX5 cX5_wear 4 5 := fun _ => je_Cm_ok
  refine Cs_of [some (.ref (ad 0 0)), some (.int (nI t)), some (.int (nI 0)), none] (by decide) rfl (Nat.le_of_ble_eq_true rfl) ?_
  first | refine Es_aload_n (hC _) dX5_wear_0 rfl ?_ | refine Es_aload_nN (hC _) dX5_wear_0 rfl ?_
  refine Es_iload_n (hC _) dX5_wear_1 rfl ?_
  refine Es_fV (hC _) mv_X5_132 dX5_wear_2 (c_tyreAt_in hnt h40 ht) rfl rfl ⟨_, rfl, rfl⟩ rfl rfl (by decide) (Nat.le_of_ble_eq_true rfl) ?_
  first | refine Es_astore_n (lv' := [_, _, _, _]) (hC _) dX5_wear_5 (by decide) rfl rfl ?_ | refine Es_astore_nN (lv' := [_, _, _, _]) (hC _) dX5_wear_5 (by decide) rfl rfl ?_
  first | refine Es_aload_n (hC _) dX5_wear_6 rfl ?_ | refine Es_aload_nN (hC _) dX5_wear_6 rfl ?_
  refine Es_ifnonnull (hC _) 17 dX5_wear_7 (by decide) ?_
  refine Es_iload_n (hC _) dX5_wear_17 rfl ?_
  refine Es_lookup (hC _) 44 dX5_wear_18 (off := 26) (by decide) (by decide) (by decide) ?_
  first | refine Es_aload_n (hC _) dX5_wear_44 rfl ?_ | refine Es_aload_nN (hC _) dX5_wear_44 rfl ?_
  refine Sg_X2_5 (hC _) fl_X5_194 dX5_wear_45 ht ?_
  refine Sg_X4_0 (hC _) fl_X5_197 dX5_wear_48 ht ?_
  exact Es_lret dX5_wear_51 ⟨rfl, rfl, rfl⟩

set_option maxRecDepth 100000 in
set_option maxHeartbeats 4000000 in
theorem r_wear_u {ad : sA} {nw nt : Nat} {B : sB} {L : sL} (hnt : B 25 0 5 = nI nt) (h40 : nt ≤ 40) {t : Nat} (ht : t < nt) {r m : Nat} (hr : B 49 0 t = nI (r + 1)) (h12 : r < 12) (hmk : B 42 0 t = nI m) (hm4 : m < 4) (ho : okR (rA B t) (r + 1) 1000000) (ho2 : okR (rD B t) (r + 1) 300) (hmn : bd (B 32 0 m) 1000) : Cf yX6_wear cX6_wear 3 (some FieldType.long) 5 [.ref (ad 25 0), .int (nI t), .int (nI 0)] ad nw nt B L (some (.long (wUD (rA B t) (rD B t) (r + 1) (B 32 0 m)).1)) (B) (wR L (wUD (rA B t) (rD B t) (r + 1) (B 32 0 m))) := by
  have hC : ∀ Q, je_Ok (sCm yX6_wear cX6_wear 3 (some FieldType.long) 5 ad nw nt Q) RX6 cX6_wear 3 5 := fun _ => je_Cm_ok
  refine Cs_of [some (.ref (ad 25 0)), some (.int (nI t)), some (.int (nI 0))] (by decide) rfl (Nat.le_of_ble_eq_true rfl) ?_
  refine Es_iload_n (hC _) dX6_wear_0 rfl ?_
  first | refine Es_aload_n (hC _) dX6_wear_1 rfl ?_ | refine Es_aload_nN (hC _) dX6_wear_1 rfl ?_
  refine Sg_X6_5 (hC _) fl_X6_107 dX6_wear_2 ?_
  rw [hnt]
  refine Es_fS (hC _) ms_X6_89 dX6_wear_5 (r_isIn_in ht (by omega)) rfl rfl (by decide) (Nat.le_of_ble_eq_true rfl) ?_
  refine Es_if_ne (hC _) 18 dX6_wear_8 (by decide) (fun hb8 => ?_) (fun hb8 => False.elim ((by first | exact absurd hb8 (by decide) | exact absurd hb8 (by assumption) | exact hb8 (by assumption) | exact hb8 rfl | (simp_all [bI]; done))))
  refine Es_iload_n (hC _) dX6_wear_18 rfl ?_
  refine Es_iconst (v := 2) (hC _) dX6_wear_19 (by decide) ?_
  refine Es_fS (hC _) ms_X6_89 dX6_wear_20 (r_isIn_in (n := 2) (j := 0) (by decide) (by decide)) rfl rfl (by decide) (Nat.le_of_ble_eq_true rfl) ?_
  refine Es_if_ne (hC _) 34 dX6_wear_23 (by decide) (fun hb23 => ?_) (fun hb23 => False.elim ((by first | exact absurd hb23 (by decide) | exact absurd hb23 (by assumption) | exact hb23 (by assumption) | exact hb23 rfl | (simp_all [bI]; done))))
  first | refine Es_aload_n (hC _) dX6_wear_34 rfl ?_ | refine Es_aload_nN (hC _) dX6_wear_34 rfl ?_
  refine Es_iload_n (hC _) dX6_wear_35 rfl ?_
  refine Es_fV (hC _) mv_X6_137 dX6_wear_36 (r_wearOf (by omega) hr h12 hmk hm4 ho ho2 hmn) rfl rfl ⟨_, rfl, rfl⟩ rfl rfl (by decide) (Nat.le_of_ble_eq_true rfl) ?_
  refine Es_iload_n (hC _) dX6_wear_39 rfl ?_
  refine Es_if_ne (hC _) 50 dX6_wear_40 (by decide) (fun hb40 => False.elim (hb40 rfl)) (fun hb40 => ?_)
  first | refine Es_aload_n (hC _) dX6_wear_43 rfl ?_ | refine Es_aload_nN (hC _) dX6_wear_43 rfl ?_
  refine Sg_X6_25 (hC _) fl_X6_128 dX6_wear_44 ?_
  refine Es_goto (hC _) 54 dX6_wear_47 (by decide) ?_
  exact Es_lret dX6_wear_54 ⟨by rw [wR_u], rfl, rfl⟩

set_option maxRecDepth 100000 in
set_option maxHeartbeats 4000000 in
theorem c_wear_d {ad : sA} {nw nt : Nat} {B : sB} {L : sL} (hnt : B 0 0 9 = nI nt) (h40 : nt ≤ 40) {t : Nat} (ht : t < nt)  : Cf yX5_wear cX5_wear 4 (some FieldType.long) 5 [.ref (ad 0 0), .int (nI t), .int (nI 1)] ad nw nt B L (some (.long (L 24 t 1))) (B) (L) := by
  have hC : ∀ Q, je_Ok (sCm yX5_wear cX5_wear 4 (some FieldType.long) 5 ad nw nt Q) RX5 cX5_wear 4 5 := fun _ => je_Cm_ok
  refine Cs_of [some (.ref (ad 0 0)), some (.int (nI t)), some (.int (nI 1)), none] (by decide) rfl (Nat.le_of_ble_eq_true rfl) ?_
  first | refine Es_aload_n (hC _) dX5_wear_0 rfl ?_ | refine Es_aload_nN (hC _) dX5_wear_0 rfl ?_
  refine Es_iload_n (hC _) dX5_wear_1 rfl ?_
  refine Es_fV (hC _) mv_X5_132 dX5_wear_2 (c_tyreAt_in hnt h40 ht) rfl rfl ⟨_, rfl, rfl⟩ rfl rfl (by decide) (Nat.le_of_ble_eq_true rfl) ?_
  first | refine Es_astore_n (lv' := [_, _, _, _]) (hC _) dX5_wear_5 (by decide) rfl rfl ?_ | refine Es_astore_nN (lv' := [_, _, _, _]) (hC _) dX5_wear_5 (by decide) rfl rfl ?_
  first | refine Es_aload_n (hC _) dX5_wear_6 rfl ?_ | refine Es_aload_nN (hC _) dX5_wear_6 rfl ?_
  refine Es_ifnonnull (hC _) 17 dX5_wear_7 (by decide) ?_
  refine Es_iload_n (hC _) dX5_wear_17 rfl ?_
  refine Es_lookup (hC _) 52 dX5_wear_18 (off := 34) (by decide) (by decide) (by decide) ?_
  first | refine Es_aload_n (hC _) dX5_wear_52 rfl ?_ | refine Es_aload_nN (hC _) dX5_wear_52 rfl ?_
  refine Sg_X2_5 (hC _) fl_X5_194 dX5_wear_53 ht ?_
  refine Sg_X4_1 (hC _) fl_X5_201 dX5_wear_56 ht ?_
  exact Es_lret dX5_wear_59 ⟨rfl, rfl, rfl⟩

set_option maxRecDepth 100000 in
set_option maxHeartbeats 4000000 in
theorem r_wear_d {ad : sA} {nw nt : Nat} {B : sB} {L : sL} (hnt : B 25 0 5 = nI nt) (h40 : nt ≤ 40) {t : Nat} (ht : t < nt) {r m : Nat} (hr : B 49 0 t = nI (r + 1)) (h12 : r < 12) (hmk : B 42 0 t = nI m) (hm4 : m < 4) (ho : okR (rA B t) (r + 1) 1000000) (ho2 : okR (rD B t) (r + 1) 300) (hmn : bd (B 32 0 m) 1000) : Cf yX6_wear cX6_wear 3 (some FieldType.long) 5 [.ref (ad 25 0), .int (nI t), .int (nI 1)] ad nw nt B L (some (.long (wUD (rA B t) (rD B t) (r + 1) (B 32 0 m)).2)) (B) (wR L (wUD (rA B t) (rD B t) (r + 1) (B 32 0 m))) := by
  have hC : ∀ Q, je_Ok (sCm yX6_wear cX6_wear 3 (some FieldType.long) 5 ad nw nt Q) RX6 cX6_wear 3 5 := fun _ => je_Cm_ok
  refine Cs_of [some (.ref (ad 25 0)), some (.int (nI t)), some (.int (nI 1))] (by decide) rfl (Nat.le_of_ble_eq_true rfl) ?_
  refine Es_iload_n (hC _) dX6_wear_0 rfl ?_
  first | refine Es_aload_n (hC _) dX6_wear_1 rfl ?_ | refine Es_aload_nN (hC _) dX6_wear_1 rfl ?_
  refine Sg_X6_5 (hC _) fl_X6_107 dX6_wear_2 ?_
  rw [hnt]
  refine Es_fS (hC _) ms_X6_89 dX6_wear_5 (r_isIn_in ht (by omega)) rfl rfl (by decide) (Nat.le_of_ble_eq_true rfl) ?_
  refine Es_if_ne (hC _) 18 dX6_wear_8 (by decide) (fun hb8 => ?_) (fun hb8 => False.elim ((by first | exact absurd hb8 (by decide) | exact absurd hb8 (by assumption) | exact hb8 (by assumption) | exact hb8 rfl | (simp_all [bI]; done))))
  refine Es_iload_n (hC _) dX6_wear_18 rfl ?_
  refine Es_iconst (v := 2) (hC _) dX6_wear_19 (by decide) ?_
  refine Es_fS (hC _) ms_X6_89 dX6_wear_20 (r_isIn_in (n := 2) (j := 1) (by decide) (by decide)) rfl rfl (by decide) (Nat.le_of_ble_eq_true rfl) ?_
  refine Es_if_ne (hC _) 34 dX6_wear_23 (by decide) (fun hb23 => ?_) (fun hb23 => False.elim ((by first | exact absurd hb23 (by decide) | exact absurd hb23 (by assumption) | exact hb23 (by assumption) | exact hb23 rfl | (simp_all [bI]; done))))
  first | refine Es_aload_n (hC _) dX6_wear_34 rfl ?_ | refine Es_aload_nN (hC _) dX6_wear_34 rfl ?_
  refine Es_iload_n (hC _) dX6_wear_35 rfl ?_
  refine Es_fV (hC _) mv_X6_137 dX6_wear_36 (r_wearOf (by omega) hr h12 hmk hm4 ho ho2 hmn) rfl rfl ⟨_, rfl, rfl⟩ rfl rfl (by decide) (Nat.le_of_ble_eq_true rfl) ?_
  refine Es_iload_n (hC _) dX6_wear_39 rfl ?_
  refine Es_if_ne (hC _) 50 dX6_wear_40 (by decide) (fun hb40 => ?_) (fun hb40 => False.elim (absurd hb40 (by decide)))
  first | refine Es_aload_n (hC _) dX6_wear_50 rfl ?_ | refine Es_aload_nN (hC _) dX6_wear_50 rfl ?_
  refine Sg_X6_26 (hC _) fl_X6_132 dX6_wear_51 ?_
  exact Es_lret dX6_wear_54 ⟨by rw [wR_d], rfl, rfl⟩

set_option maxRecDepth 100000 in
set_option maxHeartbeats 4000000 in
theorem c_reading_1 {ad : sA} {nw nt : Nat} {B : sB} {L : sL} (hnt : B 0 0 9 = nI nt) (h40 : nt ≤ 40) {x : Int32} (hot : out x nt) {y z : Int32} : Cf yX5_reading cX5_reading 5 (some FieldType.int) 5 [.ref (ad 0 0), .int x, .int y, .int z] ad nw nt B L (some (.int (-9))) (B) (L) := by
  have hC : ∀ Q, je_Ok (sCm yX5_reading cX5_reading 5 (some FieldType.int) 5 ad nw nt Q) RX5 cX5_reading 5 5 := fun _ => je_Cm_ok
  refine Cs_of [some (.ref (ad 0 0)), some (.int x), some (.int y), some (.int z), none] (by decide) rfl (Nat.le_of_ble_eq_true rfl) ?_
  first | refine Es_aload_n (hC _) dX5_reading_0 rfl ?_ | refine Es_aload_nN (hC _) dX5_reading_0 rfl ?_
  refine Es_iload_n (hC _) dX5_reading_1 rfl ?_
  refine Es_fV (hC _) mv_X5_132 dX5_reading_2 (c_tyreAt_out hnt hot) rfl rfl ⟨_, rfl, rfl⟩ rfl rfl (by decide) (Nat.le_of_ble_eq_true rfl) ?_
  first | refine Es_astore (lv' := [_, _, _, _, _]) (hC _) dX5_reading_5 (by decide) rfl rfl ?_ | refine Es_astoreN (lv' := [_, _, _, _, _]) (hC _) dX5_reading_5 (by decide) rfl rfl ?_
  first | refine Es_aload (hC _) dX5_reading_7 rfl ?_ | refine Es_aloadN (hC _) dX5_reading_7 rfl ?_
  refine Es_ifnullN (hC _) 21 dX5_reading_9 (by decide) ?_
  refine Es_bipush (v := -9) (hC _) dX5_reading_21 (by decide) ?_
  exact Es_iret dX5_reading_23 rfl ⟨rfl, rfl, rfl⟩

set_option maxRecDepth 100000 in
set_option maxHeartbeats 4000000 in
theorem r_reading_1 {ad : sA} {nw nt : Nat} {B : sB} {L : sL} (hnt : B 25 0 5 = nI nt) (h40 : nt ≤ 40) {x : Int32} (hot : out x nt) {y z : Int32} : Cf yX6_reading cX6_reading 4 (some FieldType.int) 5 [.ref (ad 25 0), .int x, .int y, .int z] ad nw nt B L (some (.int (-9))) (B) (L) := by
  have hC : ∀ Q, je_Ok (sCm yX6_reading cX6_reading 4 (some FieldType.int) 5 ad nw nt Q) RX6 cX6_reading 4 5 := fun _ => je_Cm_ok
  refine Cs_of [some (.ref (ad 25 0)), some (.int x), some (.int y), some (.int z)] (by decide) rfl (Nat.le_of_ble_eq_true rfl) ?_
  refine Es_iload_n (hC _) dX6_reading_0 rfl ?_
  first | refine Es_aload_n (hC _) dX6_reading_1 rfl ?_ | refine Es_aload_nN (hC _) dX6_reading_1 rfl ?_
  refine Sg_X6_5 (hC _) fl_X6_107 dX6_reading_2 ?_
  rw [hnt]
  refine Es_fS (hC _) ms_X6_89 dX6_reading_5 (r_isIn_out hot) rfl rfl (by decide) (Nat.le_of_ble_eq_true rfl) ?_
  refine Es_if_eq (hC _) 32 dX6_reading_8 (by decide) (fun hb8 => ?_) (fun hb8 => False.elim ((by first | exact absurd hb8 (by decide) | exact absurd hb8 (by assumption) | exact hb8 (by assumption) | exact hb8 rfl | (simp_all [bI]; done))))
  refine Es_bipush (v := -9) (hC _) dX6_reading_32 (by decide) ?_
  exact Es_iret dX6_reading_34 rfl ⟨rfl, rfl, rfl⟩

set_option maxRecDepth 100000 in
set_option maxHeartbeats 4000000 in
theorem c_reading_2 {ad : sA} {nw nt : Nat} {B : sB} {L : sL} (hnt : B 0 0 9 = nI nt) (h40 : nt ≤ 40) {t : Nat} (ht : t < nt) {r : Nat} (hr : B 21 t 6 = nI r) (h12 : r ≤ 12) {y z : Int32} (hoy : out y r) : Cf yX5_reading cX5_reading 5 (some FieldType.int) 5 [.ref (ad 0 0), .int (nI t), .int y, .int z] ad nw nt B L (some (.int (-9))) (B) (L) := by
  have hC : ∀ Q, je_Ok (sCm yX5_reading cX5_reading 5 (some FieldType.int) 5 ad nw nt Q) RX5 cX5_reading 5 5 := fun _ => je_Cm_ok
  refine Cs_of [some (.ref (ad 0 0)), some (.int (nI t)), some (.int y), some (.int z), none] (by decide) rfl (Nat.le_of_ble_eq_true rfl) ?_
  first | refine Es_aload_n (hC _) dX5_reading_0 rfl ?_ | refine Es_aload_nN (hC _) dX5_reading_0 rfl ?_
  refine Es_iload_n (hC _) dX5_reading_1 rfl ?_
  refine Es_fV (hC _) mv_X5_132 dX5_reading_2 (c_tyreAt_in hnt h40 ht) rfl rfl ⟨_, rfl, rfl⟩ rfl rfl (by decide) (Nat.le_of_ble_eq_true rfl) ?_
  first | refine Es_astore (lv' := [_, _, _, _, _]) (hC _) dX5_reading_5 (by decide) rfl rfl ?_ | refine Es_astoreN (lv' := [_, _, _, _, _]) (hC _) dX5_reading_5 (by decide) rfl rfl ?_
  first | refine Es_aload (hC _) dX5_reading_7 rfl ?_ | refine Es_aloadN (hC _) dX5_reading_7 rfl ?_
  refine Es_ifnull (hC _) dX5_reading_9 ?_
  first | refine Es_aload (hC _) dX5_reading_12 rfl ?_ | refine Es_aloadN (hC _) dX5_reading_12 rfl ?_
  refine Es_iload_n (hC _) dX5_reading_14 rfl ?_
  refine Es_fV (hC _) mv_X5_249 dX5_reading_15 (c_hasReading_out ht hr hoy) (ok21 ht) rfl ⟨_, rfl, rfl⟩ rfl rfl (by decide) (Nat.le_of_ble_eq_true rfl) ?_
  refine Es_if_ne (hC _) 24 dX5_reading_18 (by decide) (fun hb18 => False.elim ((by first | exact absurd hb18 (by decide) | exact absurd hb18 (by assumption) | exact hb18 (by assumption) | exact hb18 rfl | (simp_all [bI]; done)))) (fun hb18 => ?_)
  refine Es_bipush (v := -9) (hC _) dX5_reading_21 (by decide) ?_
  exact Es_iret dX5_reading_23 rfl ⟨rfl, rfl, rfl⟩

set_option maxRecDepth 100000 in
set_option maxHeartbeats 4000000 in
theorem r_reading_2 {ad : sA} {nw nt : Nat} {B : sB} {L : sL} (hnt : B 25 0 5 = nI nt) (h40 : nt ≤ 40) {t : Nat} (ht : t < nt) {r : Nat} (hr : B 49 0 t = nI r) (h12 : r ≤ 12) {y z : Int32} (hoy : out y r) : Cf yX6_reading cX6_reading 4 (some FieldType.int) 5 [.ref (ad 25 0), .int (nI t), .int y, .int z] ad nw nt B L (some (.int (-9))) (B) (L) := by
  have hC : ∀ Q, je_Ok (sCm yX6_reading cX6_reading 4 (some FieldType.int) 5 ad nw nt Q) RX6 cX6_reading 4 5 := fun _ => je_Cm_ok
  refine Cs_of [some (.ref (ad 25 0)), some (.int (nI t)), some (.int y), some (.int z)] (by decide) rfl (Nat.le_of_ble_eq_true rfl) ?_
  refine Es_iload_n (hC _) dX6_reading_0 rfl ?_
  first | refine Es_aload_n (hC _) dX6_reading_1 rfl ?_ | refine Es_aload_nN (hC _) dX6_reading_1 rfl ?_
  refine Sg_X6_5 (hC _) fl_X6_107 dX6_reading_2 ?_
  rw [hnt]
  refine Es_fS (hC _) ms_X6_89 dX6_reading_5 (r_isIn_in ht (by omega)) rfl rfl (by decide) (Nat.le_of_ble_eq_true rfl) ?_
  refine Es_if_eq (hC _) 32 dX6_reading_8 (by decide) (fun hb8 => False.elim ((by first | exact absurd hb8 (by decide) | exact absurd hb8 (by assumption) | exact hb8 (by assumption) | exact hb8 rfl | (simp_all [bI]; done)))) (fun hb8 => ?_)
  refine Es_iload_n (hC _) dX6_reading_11 rfl ?_
  first | refine Es_aload_n (hC _) dX6_reading_12 rfl ?_ | refine Es_aload_nN (hC _) dX6_reading_12 rfl ?_
  refine Sg_X6_19 (hC _) fl_X6_56 dX6_reading_13 ?_
  refine Es_iload_n (hC _) dX6_reading_16 rfl ?_
  refine Es_ialdN (hC _) dX6_reading_17 rfl rfl rfl (by omega) (by decide) ?_
  rw [hr]
  refine Es_fS (hC _) ms_X6_89 dX6_reading_18 (r_isIn_out hoy) rfl rfl (by decide) (Nat.le_of_ble_eq_true rfl) ?_
  refine Es_if_eq (hC _) 32 dX6_reading_21 (by decide) (fun hb21 => ?_) (fun hb21 => False.elim ((by first | exact absurd hb21 (by decide) | exact absurd hb21 (by assumption) | exact hb21 (by assumption) | exact hb21 rfl | (simp_all [bI]; done))))
  refine Es_bipush (v := -9) (hC _) dX6_reading_32 (by decide) ?_
  exact Es_iret dX6_reading_34 rfl ⟨rfl, rfl, rfl⟩

set_option maxRecDepth 100000 in
set_option maxHeartbeats 4000000 in
theorem c_reading_3 {ad : sA} {nw nt : Nat} {B : sB} {L : sL} (hnt : B 0 0 9 = nI nt) (h40 : nt ≤ 40) {t : Nat} (ht : t < nt) {r : Nat} (hr : B 21 t 6 = nI r) (h12 : r ≤ 12) {i : Nat} {z : Int32} (hi : i < r) (hoz : out z 2) : Cf yX5_reading cX5_reading 5 (some FieldType.int) 5 [.ref (ad 0 0), .int (nI t), .int (nI i), .int z] ad nw nt B L (some (.int (-9))) (B) (L) := by
  have hC : ∀ Q, je_Ok (sCm yX5_reading cX5_reading 5 (some FieldType.int) 5 ad nw nt Q) RX5 cX5_reading 5 5 := fun _ => je_Cm_ok
  refine Cs_of [some (.ref (ad 0 0)), some (.int (nI t)), some (.int (nI i)), some (.int z), none] (by decide) rfl (Nat.le_of_ble_eq_true rfl) ?_
  first | refine Es_aload_n (hC _) dX5_reading_0 rfl ?_ | refine Es_aload_nN (hC _) dX5_reading_0 rfl ?_
  refine Es_iload_n (hC _) dX5_reading_1 rfl ?_
  refine Es_fV (hC _) mv_X5_132 dX5_reading_2 (c_tyreAt_in hnt h40 ht) rfl rfl ⟨_, rfl, rfl⟩ rfl rfl (by decide) (Nat.le_of_ble_eq_true rfl) ?_
  first | refine Es_astore (lv' := [_, _, _, _, _]) (hC _) dX5_reading_5 (by decide) rfl rfl ?_ | refine Es_astoreN (lv' := [_, _, _, _, _]) (hC _) dX5_reading_5 (by decide) rfl rfl ?_
  first | refine Es_aload (hC _) dX5_reading_7 rfl ?_ | refine Es_aloadN (hC _) dX5_reading_7 rfl ?_
  refine Es_ifnull (hC _) dX5_reading_9 ?_
  first | refine Es_aload (hC _) dX5_reading_12 rfl ?_ | refine Es_aloadN (hC _) dX5_reading_12 rfl ?_
  refine Es_iload_n (hC _) dX5_reading_14 rfl ?_
  refine Es_fV (hC _) mv_X5_249 dX5_reading_15 (c_hasReading_in ht hr h12 hi) (ok21 ht) rfl ⟨_, rfl, rfl⟩ rfl rfl (by decide) (Nat.le_of_ble_eq_true rfl) ?_
  refine Es_if_ne (hC _) 24 dX5_reading_18 (by decide) (fun hb18 => ?_) (fun hb18 => False.elim ((by first | exact absurd hb18 (by decide) | exact absurd hb18 (by assumption) | exact hb18 (by assumption) | exact hb18 rfl | (simp_all [bI]; done))))
  refine Es_iload_n (hC _) dX5_reading_24 rfl ?_
  refine Es_lookup (hC _) 72 dX5_reading_25 (off := 47) (by decide) ((lv_osw (out_ne (j := 0) hoz (by decide) (by decide)) (by decide)).trans (lv_osw (out_ne (j := 1) hoz (by decide) (by decide)) (by decide))) (by decide) ?_
  refine Es_bipush (v := -9) (hC _) dX5_reading_72 (by decide) ?_
  exact Es_iret dX5_reading_74 rfl ⟨rfl, rfl, rfl⟩

set_option maxRecDepth 100000 in
set_option maxHeartbeats 4000000 in
theorem r_reading_3 {ad : sA} {nw nt : Nat} {B : sB} {L : sL} (hnt : B 25 0 5 = nI nt) (h40 : nt ≤ 40) {t : Nat} (ht : t < nt) {r : Nat} (hr : B 49 0 t = nI r) (h12 : r ≤ 12) {i : Nat} {z : Int32} (hi : i < r) (hoz : out z 2) : Cf yX6_reading cX6_reading 4 (some FieldType.int) 5 [.ref (ad 25 0), .int (nI t), .int (nI i), .int z] ad nw nt B L (some (.int (-9))) (B) (L) := by
  have hC : ∀ Q, je_Ok (sCm yX6_reading cX6_reading 4 (some FieldType.int) 5 ad nw nt Q) RX6 cX6_reading 4 5 := fun _ => je_Cm_ok
  refine Cs_of [some (.ref (ad 25 0)), some (.int (nI t)), some (.int (nI i)), some (.int z)] (by decide) rfl (Nat.le_of_ble_eq_true rfl) ?_
  refine Es_iload_n (hC _) dX6_reading_0 rfl ?_
  first | refine Es_aload_n (hC _) dX6_reading_1 rfl ?_ | refine Es_aload_nN (hC _) dX6_reading_1 rfl ?_
  refine Sg_X6_5 (hC _) fl_X6_107 dX6_reading_2 ?_
  rw [hnt]
  refine Es_fS (hC _) ms_X6_89 dX6_reading_5 (r_isIn_in ht (by omega)) rfl rfl (by decide) (Nat.le_of_ble_eq_true rfl) ?_
  refine Es_if_eq (hC _) 32 dX6_reading_8 (by decide) (fun hb8 => False.elim ((by first | exact absurd hb8 (by decide) | exact absurd hb8 (by assumption) | exact hb8 (by assumption) | exact hb8 rfl | (simp_all [bI]; done)))) (fun hb8 => ?_)
  refine Es_iload_n (hC _) dX6_reading_11 rfl ?_
  first | refine Es_aload_n (hC _) dX6_reading_12 rfl ?_ | refine Es_aload_nN (hC _) dX6_reading_12 rfl ?_
  refine Sg_X6_19 (hC _) fl_X6_56 dX6_reading_13 ?_
  refine Es_iload_n (hC _) dX6_reading_16 rfl ?_
  refine Es_ialdN (hC _) dX6_reading_17 rfl rfl rfl (by omega) (by decide) ?_
  rw [hr]
  refine Es_fS (hC _) ms_X6_89 dX6_reading_18 (r_isIn_in hi (by omega)) rfl rfl (by decide) (Nat.le_of_ble_eq_true rfl) ?_
  refine Es_if_eq (hC _) 32 dX6_reading_21 (by decide) (fun hb21 => False.elim ((by first | exact absurd hb21 (by decide) | exact absurd hb21 (by assumption) | exact hb21 (by assumption) | exact hb21 rfl | (simp_all [bI]; done)))) (fun hb21 => ?_)
  refine Es_iload_n (hC _) dX6_reading_24 rfl ?_
  refine Es_iconst (v := 2) (hC _) dX6_reading_25 (by decide) ?_
  refine Es_fS (hC _) ms_X6_89 dX6_reading_26 (r_isIn_out (n := 2) hoz) rfl rfl (by decide) (Nat.le_of_ble_eq_true rfl) ?_
  refine Es_if_ne (hC _) 35 dX6_reading_29 (by decide) (fun hb29 => False.elim ((by first | exact absurd hb29 (by decide) | exact absurd hb29 (by assumption) | exact hb29 (by assumption) | exact hb29 rfl | (simp_all [bI]; done)))) (fun hb29 => ?_)
  refine Es_bipush (v := -9) (hC _) dX6_reading_32 (by decide) ?_
  exact Es_iret dX6_reading_34 rfl ⟨rfl, rfl, rfl⟩

set_option maxRecDepth 100000 in
set_option maxHeartbeats 4000000 in
theorem c_reading_x {ad : sA} {nw nt : Nat} {B : sB} {L : sL} (hnt : B 0 0 9 = nI nt) (h40 : nt ≤ 40) {t : Nat} (ht : t < nt) {r : Nat} (hr : B 21 t 6 = nI r) (h12 : r ≤ 12) {i : Nat} (hi : i < r) : Cf yX5_reading cX5_reading 5 (some FieldType.int) 5 [.ref (ad 0 0), .int (nI t), .int (nI i), .int (nI 0)] ad nw nt B L (some (.int (B 22 t i))) (B) (L) := by
  have hC : ∀ Q, je_Ok (sCm yX5_reading cX5_reading 5 (some FieldType.int) 5 ad nw nt Q) RX5 cX5_reading 5 5 := fun _ => je_Cm_ok
  refine Cs_of [some (.ref (ad 0 0)), some (.int (nI t)), some (.int (nI i)), some (.int (nI 0)), none] (by decide) rfl (Nat.le_of_ble_eq_true rfl) ?_
  first | refine Es_aload_n (hC _) dX5_reading_0 rfl ?_ | refine Es_aload_nN (hC _) dX5_reading_0 rfl ?_
  refine Es_iload_n (hC _) dX5_reading_1 rfl ?_
  refine Es_fV (hC _) mv_X5_132 dX5_reading_2 (c_tyreAt_in hnt h40 ht) rfl rfl ⟨_, rfl, rfl⟩ rfl rfl (by decide) (Nat.le_of_ble_eq_true rfl) ?_
  first | refine Es_astore (lv' := [_, _, _, _, _]) (hC _) dX5_reading_5 (by decide) rfl rfl ?_ | refine Es_astoreN (lv' := [_, _, _, _, _]) (hC _) dX5_reading_5 (by decide) rfl rfl ?_
  first | refine Es_aload (hC _) dX5_reading_7 rfl ?_ | refine Es_aloadN (hC _) dX5_reading_7 rfl ?_
  refine Es_ifnull (hC _) dX5_reading_9 ?_
  first | refine Es_aload (hC _) dX5_reading_12 rfl ?_ | refine Es_aloadN (hC _) dX5_reading_12 rfl ?_
  refine Es_iload_n (hC _) dX5_reading_14 rfl ?_
  refine Es_fV (hC _) mv_X5_249 dX5_reading_15 (c_hasReading_in ht hr h12 hi) (ok21 ht) rfl ⟨_, rfl, rfl⟩ rfl rfl (by decide) (Nat.le_of_ble_eq_true rfl) ?_
  refine Es_if_ne (hC _) 24 dX5_reading_18 (by decide) (fun hb18 => ?_) (fun hb18 => False.elim ((by first | exact absurd hb18 (by decide) | exact absurd hb18 (by assumption) | exact hb18 (by assumption) | exact hb18 rfl | (simp_all [bI]; done))))
  refine Es_iload_n (hC _) dX5_reading_24 rfl ?_
  refine Es_lookup (hC _) 52 dX5_reading_25 (off := 27) (by decide) (by decide) (by decide) ?_
  first | refine Es_aload (hC _) dX5_reading_52 rfl ?_ | refine Es_aloadN (hC _) dX5_reading_52 rfl ?_
  refine Sg_X2_3 (hC _) fl_X5_252 dX5_reading_54 ht ?_
  refine Es_iload_n (hC _) dX5_reading_57 rfl ?_
  refine Es_fS (hC _) ms_X5_96 dX5_reading_58 (c_at (kd := 22) (n := 12) (ok22 ht) rfl rfl (by omega) (by decide)) rfl rfl (by decide) (Nat.le_of_ble_eq_true rfl) ?_
  exact Es_iret dX5_reading_61 rfl ⟨rfl, rfl, rfl⟩

set_option maxRecDepth 100000 in
set_option maxHeartbeats 4000000 in
theorem r_reading_x {ad : sA} {nw nt : Nat} {B : sB} {L : sL} (hnt : B 25 0 5 = nI nt) (h40 : nt ≤ 40) {t : Nat} (ht : t < nt) {r : Nat} (hr : B 49 0 t = nI r) (h12 : r ≤ 12) {i : Nat} (hi : i < r) : Cf yX6_reading cX6_reading 4 (some FieldType.int) 5 [.ref (ad 25 0), .int (nI t), .int (nI i), .int (nI 0)] ad nw nt B L (some (.int (B 50 0 (13 * t + i)))) (B) (L) := by
  have hC : ∀ Q, je_Ok (sCm yX6_reading cX6_reading 4 (some FieldType.int) 5 ad nw nt Q) RX6 cX6_reading 4 5 := fun _ => je_Cm_ok
  refine Cs_of [some (.ref (ad 25 0)), some (.int (nI t)), some (.int (nI i)), some (.int (nI 0))] (by decide) rfl (Nat.le_of_ble_eq_true rfl) ?_
  refine Es_iload_n (hC _) dX6_reading_0 rfl ?_
  first | refine Es_aload_n (hC _) dX6_reading_1 rfl ?_ | refine Es_aload_nN (hC _) dX6_reading_1 rfl ?_
  refine Sg_X6_5 (hC _) fl_X6_107 dX6_reading_2 ?_
  rw [hnt]
  refine Es_fS (hC _) ms_X6_89 dX6_reading_5 (r_isIn_in ht (by omega)) rfl rfl (by decide) (Nat.le_of_ble_eq_true rfl) ?_
  refine Es_if_eq (hC _) 32 dX6_reading_8 (by decide) (fun hb8 => False.elim ((by first | exact absurd hb8 (by decide) | exact absurd hb8 (by assumption) | exact hb8 (by assumption) | exact hb8 rfl | (simp_all [bI]; done)))) (fun hb8 => ?_)
  refine Es_iload_n (hC _) dX6_reading_11 rfl ?_
  first | refine Es_aload_n (hC _) dX6_reading_12 rfl ?_ | refine Es_aload_nN (hC _) dX6_reading_12 rfl ?_
  refine Sg_X6_19 (hC _) fl_X6_56 dX6_reading_13 ?_
  refine Es_iload_n (hC _) dX6_reading_16 rfl ?_
  refine Es_ialdN (hC _) dX6_reading_17 rfl rfl rfl (by omega) (by decide) ?_
  rw [hr]
  refine Es_fS (hC _) ms_X6_89 dX6_reading_18 (r_isIn_in hi (by omega)) rfl rfl (by decide) (Nat.le_of_ble_eq_true rfl) ?_
  refine Es_if_eq (hC _) 32 dX6_reading_21 (by decide) (fun hb21 => False.elim ((by first | exact absurd hb21 (by decide) | exact absurd hb21 (by assumption) | exact hb21 (by assumption) | exact hb21 rfl | (simp_all [bI]; done)))) (fun hb21 => ?_)
  refine Es_iload_n (hC _) dX6_reading_24 rfl ?_
  refine Es_iconst (v := 2) (hC _) dX6_reading_25 (by decide) ?_
  refine Es_fS (hC _) ms_X6_89 dX6_reading_26 (r_isIn_in (n := 2) (j := 0) (by decide) (by decide)) rfl rfl (by decide) (Nat.le_of_ble_eq_true rfl) ?_
  refine Es_if_ne (hC _) 35 dX6_reading_29 (by decide) (fun hb29 => ?_) (fun hb29 => False.elim ((by first | exact absurd hb29 (by decide) | exact absurd hb29 (by assumption) | exact hb29 (by assumption) | exact hb29 rfl | (simp_all [bI]; done))))
  refine Es_iload_n (hC _) dX6_reading_35 rfl ?_
  refine Es_if_ne (hC _) 53 dX6_reading_36 (by decide) (fun hb36 => False.elim (hb36 rfl)) (fun hb36 => ?_)
  first | refine Es_aload_n (hC _) dX6_reading_39 rfl ?_ | refine Es_aload_nN (hC _) dX6_reading_39 rfl ?_
  refine Sg_X6_20 (hC _) fl_X6_59 dX6_reading_40 ?_
  refine Es_bipush (v := 13) (hC _) dX6_reading_43 (by decide) ?_
  refine Es_iload_n (hC _) dX6_reading_45 rfl ?_
  refine Es_imul (hC _) dX6_reading_46 ?_
  refine Es_iload_n (hC _) dX6_reading_47 rfl ?_
  refine Es_iadd (hC _) dX6_reading_48 ?_
  refine Es_ialdN (hC _) dX6_reading_49 rfl rfl (by rw [show (13 : Int32) = nI 13 from rfl, pk_mul, nI_add]) (by omega) (by decide) ?_
  refine Es_goto (hC _) 64 dX6_reading_50 (by decide) ?_
  exact Es_iret dX6_reading_64 rfl ⟨rfl, rfl, rfl⟩

set_option maxRecDepth 100000 in
set_option maxHeartbeats 4000000 in
theorem c_reading_y {ad : sA} {nw nt : Nat} {B : sB} {L : sL} (hnt : B 0 0 9 = nI nt) (h40 : nt ≤ 40) {t : Nat} (ht : t < nt) {r : Nat} (hr : B 21 t 6 = nI r) (h12 : r ≤ 12) {i : Nat} (hi : i < r) : Cf yX5_reading cX5_reading 5 (some FieldType.int) 5 [.ref (ad 0 0), .int (nI t), .int (nI i), .int (nI 1)] ad nw nt B L (some (.int (B 23 t i))) (B) (L) := by
  have hC : ∀ Q, je_Ok (sCm yX5_reading cX5_reading 5 (some FieldType.int) 5 ad nw nt Q) RX5 cX5_reading 5 5 := fun _ => je_Cm_ok
  refine Cs_of [some (.ref (ad 0 0)), some (.int (nI t)), some (.int (nI i)), some (.int (nI 1)), none] (by decide) rfl (Nat.le_of_ble_eq_true rfl) ?_
  first | refine Es_aload_n (hC _) dX5_reading_0 rfl ?_ | refine Es_aload_nN (hC _) dX5_reading_0 rfl ?_
  refine Es_iload_n (hC _) dX5_reading_1 rfl ?_
  refine Es_fV (hC _) mv_X5_132 dX5_reading_2 (c_tyreAt_in hnt h40 ht) rfl rfl ⟨_, rfl, rfl⟩ rfl rfl (by decide) (Nat.le_of_ble_eq_true rfl) ?_
  first | refine Es_astore (lv' := [_, _, _, _, _]) (hC _) dX5_reading_5 (by decide) rfl rfl ?_ | refine Es_astoreN (lv' := [_, _, _, _, _]) (hC _) dX5_reading_5 (by decide) rfl rfl ?_
  first | refine Es_aload (hC _) dX5_reading_7 rfl ?_ | refine Es_aloadN (hC _) dX5_reading_7 rfl ?_
  refine Es_ifnull (hC _) dX5_reading_9 ?_
  first | refine Es_aload (hC _) dX5_reading_12 rfl ?_ | refine Es_aloadN (hC _) dX5_reading_12 rfl ?_
  refine Es_iload_n (hC _) dX5_reading_14 rfl ?_
  refine Es_fV (hC _) mv_X5_249 dX5_reading_15 (c_hasReading_in ht hr h12 hi) (ok21 ht) rfl ⟨_, rfl, rfl⟩ rfl rfl (by decide) (Nat.le_of_ble_eq_true rfl) ?_
  refine Es_if_ne (hC _) 24 dX5_reading_18 (by decide) (fun hb18 => ?_) (fun hb18 => False.elim ((by first | exact absurd hb18 (by decide) | exact absurd hb18 (by assumption) | exact hb18 (by assumption) | exact hb18 rfl | (simp_all [bI]; done))))
  refine Es_iload_n (hC _) dX5_reading_24 rfl ?_
  refine Es_lookup (hC _) 62 dX5_reading_25 (off := 37) (by decide) (by decide) (by decide) ?_
  first | refine Es_aload (hC _) dX5_reading_62 rfl ?_ | refine Es_aloadN (hC _) dX5_reading_62 rfl ?_
  refine Sg_X2_4 (hC _) fl_X5_255 dX5_reading_64 ht ?_
  refine Es_iload_n (hC _) dX5_reading_67 rfl ?_
  refine Es_fS (hC _) ms_X5_96 dX5_reading_68 (c_at (kd := 23) (n := 12) (ok23 ht) rfl rfl (by omega) (by decide)) rfl rfl (by decide) (Nat.le_of_ble_eq_true rfl) ?_
  exact Es_iret dX5_reading_71 rfl ⟨rfl, rfl, rfl⟩

set_option maxRecDepth 100000 in
set_option maxHeartbeats 4000000 in
theorem r_reading_y {ad : sA} {nw nt : Nat} {B : sB} {L : sL} (hnt : B 25 0 5 = nI nt) (h40 : nt ≤ 40) {t : Nat} (ht : t < nt) {r : Nat} (hr : B 49 0 t = nI r) (h12 : r ≤ 12) {i : Nat} (hi : i < r) : Cf yX6_reading cX6_reading 4 (some FieldType.int) 5 [.ref (ad 25 0), .int (nI t), .int (nI i), .int (nI 1)] ad nw nt B L (some (.int (B 51 0 (13 * t + i)))) (B) (L) := by
  have hC : ∀ Q, je_Ok (sCm yX6_reading cX6_reading 4 (some FieldType.int) 5 ad nw nt Q) RX6 cX6_reading 4 5 := fun _ => je_Cm_ok
  refine Cs_of [some (.ref (ad 25 0)), some (.int (nI t)), some (.int (nI i)), some (.int (nI 1))] (by decide) rfl (Nat.le_of_ble_eq_true rfl) ?_
  refine Es_iload_n (hC _) dX6_reading_0 rfl ?_
  first | refine Es_aload_n (hC _) dX6_reading_1 rfl ?_ | refine Es_aload_nN (hC _) dX6_reading_1 rfl ?_
  refine Sg_X6_5 (hC _) fl_X6_107 dX6_reading_2 ?_
  rw [hnt]
  refine Es_fS (hC _) ms_X6_89 dX6_reading_5 (r_isIn_in ht (by omega)) rfl rfl (by decide) (Nat.le_of_ble_eq_true rfl) ?_
  refine Es_if_eq (hC _) 32 dX6_reading_8 (by decide) (fun hb8 => False.elim ((by first | exact absurd hb8 (by decide) | exact absurd hb8 (by assumption) | exact hb8 (by assumption) | exact hb8 rfl | (simp_all [bI]; done)))) (fun hb8 => ?_)
  refine Es_iload_n (hC _) dX6_reading_11 rfl ?_
  first | refine Es_aload_n (hC _) dX6_reading_12 rfl ?_ | refine Es_aload_nN (hC _) dX6_reading_12 rfl ?_
  refine Sg_X6_19 (hC _) fl_X6_56 dX6_reading_13 ?_
  refine Es_iload_n (hC _) dX6_reading_16 rfl ?_
  refine Es_ialdN (hC _) dX6_reading_17 rfl rfl rfl (by omega) (by decide) ?_
  rw [hr]
  refine Es_fS (hC _) ms_X6_89 dX6_reading_18 (r_isIn_in hi (by omega)) rfl rfl (by decide) (Nat.le_of_ble_eq_true rfl) ?_
  refine Es_if_eq (hC _) 32 dX6_reading_21 (by decide) (fun hb21 => False.elim ((by first | exact absurd hb21 (by decide) | exact absurd hb21 (by assumption) | exact hb21 (by assumption) | exact hb21 rfl | (simp_all [bI]; done)))) (fun hb21 => ?_)
  refine Es_iload_n (hC _) dX6_reading_24 rfl ?_
  refine Es_iconst (v := 2) (hC _) dX6_reading_25 (by decide) ?_
  refine Es_fS (hC _) ms_X6_89 dX6_reading_26 (r_isIn_in (n := 2) (j := 1) (by decide) (by decide)) rfl rfl (by decide) (Nat.le_of_ble_eq_true rfl) ?_
  refine Es_if_ne (hC _) 35 dX6_reading_29 (by decide) (fun hb29 => ?_) (fun hb29 => False.elim ((by first | exact absurd hb29 (by decide) | exact absurd hb29 (by assumption) | exact hb29 (by assumption) | exact hb29 rfl | (simp_all [bI]; done))))
  refine Es_iload_n (hC _) dX6_reading_35 rfl ?_
  refine Es_if_ne (hC _) 53 dX6_reading_36 (by decide) (fun hb36 => ?_) (fun hb36 => False.elim (absurd hb36 (by decide)))
  first | refine Es_aload_n (hC _) dX6_reading_53 rfl ?_ | refine Es_aload_nN (hC _) dX6_reading_53 rfl ?_
  refine Sg_X6_21 (hC _) fl_X6_62 dX6_reading_54 ?_
  refine Es_bipush (v := 13) (hC _) dX6_reading_57 (by decide) ?_
  refine Es_iload_n (hC _) dX6_reading_59 rfl ?_
  refine Es_imul (hC _) dX6_reading_60 ?_
  refine Es_iload_n (hC _) dX6_reading_61 rfl ?_
  refine Es_iadd (hC _) dX6_reading_62 ?_
  refine Es_ialdN (hC _) dX6_reading_63 rfl rfl (by rw [show (13 : Int32) = nI 13 from rfl, pk_mul, nI_add]) (by omega) (by decide) ?_
  exact Es_iret dX6_reading_64 rfl ⟨rfl, rfl, rfl⟩

set_option maxRecDepth 100000 in
set_option maxHeartbeats 4000000 in
theorem c_tyreOf_1 {ad : sA} {nw nt : Nat} {B : sB} {L : sL} (hnt : B 0 0 9 = nI nt) (h40 : nt ≤ 40) {x : Int32} (hot : out x nt) {y : Int32} : Cf yX5_tyreOf cX5_tyreOf 4 (some FieldType.int) 5 [.ref (ad 0 0), .int x, .int y] ad nw nt B L (some (.int (-20))) (B) (L) := by
  have hC : ∀ Q, je_Ok (sCm yX5_tyreOf cX5_tyreOf 4 (some FieldType.int) 5 ad nw nt Q) RX5 cX5_tyreOf 4 5 := fun _ => je_Cm_ok
  refine Cs_of [some (.ref (ad 0 0)), some (.int x), some (.int y), none] (by decide) rfl (Nat.le_of_ble_eq_true rfl) ?_
  first | refine Es_aload_n (hC _) dX5_tyreOf_0 rfl ?_ | refine Es_aload_nN (hC _) dX5_tyreOf_0 rfl ?_
  refine Es_iload_n (hC _) dX5_tyreOf_1 rfl ?_
  refine Es_fV (hC _) mv_X5_132 dX5_tyreOf_2 (c_tyreAt_out hnt hot) rfl rfl ⟨_, rfl, rfl⟩ rfl rfl (by decide) (Nat.le_of_ble_eq_true rfl) ?_
  first | refine Es_astore_n (lv' := [_, _, _, _]) (hC _) dX5_tyreOf_5 (by decide) rfl rfl ?_ | refine Es_astore_nN (lv' := [_, _, _, _]) (hC _) dX5_tyreOf_5 (by decide) rfl rfl ?_
  first | refine Es_aload_n (hC _) dX5_tyreOf_6 rfl ?_ | refine Es_aload_nN (hC _) dX5_tyreOf_6 rfl ?_
  refine Es_ifnonnullN (hC _) dX5_tyreOf_7 ?_
  refine Es_bipush (v := -20) (hC _) dX5_tyreOf_10 (by decide) ?_
  exact Es_iret dX5_tyreOf_12 rfl ⟨rfl, rfl, rfl⟩

set_option maxRecDepth 100000 in
set_option maxHeartbeats 4000000 in
theorem r_tyreOf_1 {ad : sA} {nw nt : Nat} {B : sB} {L : sL} (hnt : B 25 0 5 = nI nt) (h40 : nt ≤ 40) {x : Int32} (hot : out x nt) {y : Int32} : Cf yX6_tyreOf cX6_tyreOf 3 (some FieldType.int) 5 [.ref (ad 25 0), .int x, .int y] ad nw nt B L (some (.int (-20))) (B) (L) := by
  have hC : ∀ Q, je_Ok (sCm yX6_tyreOf cX6_tyreOf 3 (some FieldType.int) 5 ad nw nt Q) RX6 cX6_tyreOf 3 5 := fun _ => je_Cm_ok
  refine Cs_of [some (.ref (ad 25 0)), some (.int x), some (.int y)] (by decide) rfl (Nat.le_of_ble_eq_true rfl) ?_
  refine Es_iload_n (hC _) dX6_tyreOf_0 rfl ?_
  first | refine Es_aload_n (hC _) dX6_tyreOf_1 rfl ?_ | refine Es_aload_nN (hC _) dX6_tyreOf_1 rfl ?_
  refine Sg_X6_5 (hC _) fl_X6_107 dX6_tyreOf_2 ?_
  rw [hnt]
  refine Es_fS (hC _) ms_X6_89 dX6_tyreOf_5 (r_isIn_out hot) rfl rfl (by decide) (Nat.le_of_ble_eq_true rfl) ?_
  refine Es_if_ne (hC _) 14 dX6_tyreOf_8 (by decide) (fun hb8 => False.elim ((by first | exact absurd hb8 (by decide) | exact absurd hb8 (by assumption) | exact hb8 (by assumption) | exact hb8 rfl | (simp_all [bI]; done)))) (fun hb8 => ?_)
  refine Es_bipush (v := -20) (hC _) dX6_tyreOf_11 (by decide) ?_
  exact Es_iret dX6_tyreOf_13 rfl ⟨rfl, rfl, rfl⟩

set_option maxRecDepth 100000 in
set_option maxHeartbeats 4000000 in
theorem c_tyreOf_2 {ad : sA} {nw nt : Nat} {B : sB} {L : sL} (hnt : B 0 0 9 = nI nt) (h40 : nt ≤ 40) {t : Nat} (ht : t < nt) {y : Int32} (hoy : out y 9) : Cf yX5_tyreOf cX5_tyreOf 4 (some FieldType.int) 5 [.ref (ad 0 0), .int (nI t), .int y] ad nw nt B L (some (.int (-20))) (B) (L) := by
  have hC : ∀ Q, je_Ok (sCm yX5_tyreOf cX5_tyreOf 4 (some FieldType.int) 5 ad nw nt Q) RX5 cX5_tyreOf 4 5 := fun _ => je_Cm_ok
  refine Cs_of [some (.ref (ad 0 0)), some (.int (nI t)), some (.int y), none] (by decide) rfl (Nat.le_of_ble_eq_true rfl) ?_
  first | refine Es_aload_n (hC _) dX5_tyreOf_0 rfl ?_ | refine Es_aload_nN (hC _) dX5_tyreOf_0 rfl ?_
  refine Es_iload_n (hC _) dX5_tyreOf_1 rfl ?_
  refine Es_fV (hC _) mv_X5_132 dX5_tyreOf_2 (c_tyreAt_in hnt h40 ht) rfl rfl ⟨_, rfl, rfl⟩ rfl rfl (by decide) (Nat.le_of_ble_eq_true rfl) ?_
  first | refine Es_astore_n (lv' := [_, _, _, _]) (hC _) dX5_tyreOf_5 (by decide) rfl rfl ?_ | refine Es_astore_nN (lv' := [_, _, _, _]) (hC _) dX5_tyreOf_5 (by decide) rfl rfl ?_
  first | refine Es_aload_n (hC _) dX5_tyreOf_6 rfl ?_ | refine Es_aload_nN (hC _) dX5_tyreOf_6 rfl ?_
  refine Es_ifnonnull (hC _) 13 dX5_tyreOf_7 (by decide) ?_
  refine Es_iload_n (hC _) dX5_tyreOf_13 rfl ?_
  refine Es_tableOut (hC _) 110 dX5_tyreOf_14 (hoy.elim (fun z => Or.inl (Int32.lt_iff_toInt_lt.mp z)) (fun z => Or.inr (Int.lt_of_lt_of_le (show (8 : Int) < (nI 9).toInt by decide) (Int32.le_iff_toInt_le.mp z)))) (by decide) ?_
  refine Es_bipush (v := -20) (hC _) dX5_tyreOf_110 (by decide) ?_
  exact Es_iret dX5_tyreOf_112 rfl ⟨rfl, rfl, rfl⟩

set_option maxRecDepth 100000 in
set_option maxHeartbeats 4000000 in
theorem r_tyreOf_2 {ad : sA} {nw nt : Nat} {B : sB} {L : sL} (hnt : B 25 0 5 = nI nt) (h40 : nt ≤ 40) {t : Nat} (ht : t < nt) {y : Int32} (hoy : out y 9) : Cf yX6_tyreOf cX6_tyreOf 3 (some FieldType.int) 5 [.ref (ad 25 0), .int (nI t), .int y] ad nw nt B L (some (.int (-20))) (B) (L) := by
  have hC : ∀ Q, je_Ok (sCm yX6_tyreOf cX6_tyreOf 3 (some FieldType.int) 5 ad nw nt Q) RX6 cX6_tyreOf 3 5 := fun _ => je_Cm_ok
  refine Cs_of [some (.ref (ad 25 0)), some (.int (nI t)), some (.int y)] (by decide) rfl (Nat.le_of_ble_eq_true rfl) ?_
  refine Es_iload_n (hC _) dX6_tyreOf_0 rfl ?_
  first | refine Es_aload_n (hC _) dX6_tyreOf_1 rfl ?_ | refine Es_aload_nN (hC _) dX6_tyreOf_1 rfl ?_
  refine Sg_X6_5 (hC _) fl_X6_107 dX6_tyreOf_2 ?_
  rw [hnt]
  refine Es_fS (hC _) ms_X6_89 dX6_tyreOf_5 (r_isIn_in ht (by omega)) rfl rfl (by decide) (Nat.le_of_ble_eq_true rfl) ?_
  refine Es_if_ne (hC _) 14 dX6_tyreOf_8 (by decide) (fun hb8 => ?_) (fun hb8 => False.elim ((by first | exact absurd hb8 (by decide) | exact absurd hb8 (by assumption) | exact hb8 (by assumption) | exact hb8 rfl | (simp_all [bI]; done))))
  refine Es_iload_n (hC _) dX6_tyreOf_14 rfl ?_
  refine Es_tableOut (hC _) 143 dX6_tyreOf_15 (hoy.elim (fun z => Or.inl (Int32.lt_iff_toInt_lt.mp z)) (fun z => Or.inr (Int.lt_of_lt_of_le (show (8 : Int) < (nI 9).toInt by decide) (Int32.le_iff_toInt_le.mp z)))) (by decide) ?_
  refine Es_bipush (v := -20) (hC _) dX6_tyreOf_143 (by decide) ?_
  exact Es_iret dX6_tyreOf_145 rfl ⟨rfl, rfl, rfl⟩

set_option maxRecDepth 100000 in
set_option maxHeartbeats 4000000 in
theorem c_tyreOf_k0 {ad : sA} {nw nt : Nat} {B : sB} {L : sL} (hnt : B 0 0 9 = nI nt) (h40 : nt ≤ 40) {t : Nat} (ht : t < nt)  : Cf yX5_tyreOf cX5_tyreOf 4 (some FieldType.int) 5 [.ref (ad 0 0), .int (nI t), .int (nI 0)] ad nw nt B L (some (.int (B 21 t 1))) (B) (L) := by
  have hC : ∀ Q, je_Ok (sCm yX5_tyreOf cX5_tyreOf 4 (some FieldType.int) 5 ad nw nt Q) RX5 cX5_tyreOf 4 5 := fun _ => je_Cm_ok
  refine Cs_of [some (.ref (ad 0 0)), some (.int (nI t)), some (.int (nI 0)), none] (by decide) rfl (Nat.le_of_ble_eq_true rfl) ?_
  first | refine Es_aload_n (hC _) dX5_tyreOf_0 rfl ?_ | refine Es_aload_nN (hC _) dX5_tyreOf_0 rfl ?_
  refine Es_iload_n (hC _) dX5_tyreOf_1 rfl ?_
  refine Es_fV (hC _) mv_X5_132 dX5_tyreOf_2 (c_tyreAt_in hnt h40 ht) rfl rfl ⟨_, rfl, rfl⟩ rfl rfl (by decide) (Nat.le_of_ble_eq_true rfl) ?_
  first | refine Es_astore_n (lv' := [_, _, _, _]) (hC _) dX5_tyreOf_5 (by decide) rfl rfl ?_ | refine Es_astore_nN (lv' := [_, _, _, _]) (hC _) dX5_tyreOf_5 (by decide) rfl rfl ?_
  first | refine Es_aload_n (hC _) dX5_tyreOf_6 rfl ?_ | refine Es_aload_nN (hC _) dX5_tyreOf_6 rfl ?_
  refine Es_ifnonnull (hC _) 13 dX5_tyreOf_7 (by decide) ?_
  refine Es_iload_n (hC _) dX5_tyreOf_13 rfl ?_
  refine Es_tableIn (hC _) 64 dX5_tyreOf_14 (by decide) (by decide) (off := 50) (by decide) (by decide) ?_
  first | refine Es_aload_n (hC _) dX5_tyreOf_64 rfl ?_ | refine Es_aload_nN (hC _) dX5_tyreOf_64 rfl ?_
  refine Sg_X2_1 (hC _) fl_X5_155 dX5_tyreOf_65 ht ?_
  exact Es_iret dX5_tyreOf_68 rfl ⟨rfl, rfl, rfl⟩

set_option maxRecDepth 100000 in
set_option maxHeartbeats 4000000 in
theorem r_tyreOf_k0 {ad : sA} {nw nt : Nat} {B : sB} {L : sL} (hnt : B 25 0 5 = nI nt) (h40 : nt ≤ 40) {t : Nat} (ht : t < nt)  : Cf yX6_tyreOf cX6_tyreOf 3 (some FieldType.int) 5 [.ref (ad 25 0), .int (nI t), .int (nI 0)] ad nw nt B L (some (.int (B 42 0 t))) (B) (L) := by
  have hC : ∀ Q, je_Ok (sCm yX6_tyreOf cX6_tyreOf 3 (some FieldType.int) 5 ad nw nt Q) RX6 cX6_tyreOf 3 5 := fun _ => je_Cm_ok
  refine Cs_of [some (.ref (ad 25 0)), some (.int (nI t)), some (.int (nI 0))] (by decide) rfl (Nat.le_of_ble_eq_true rfl) ?_
  refine Es_iload_n (hC _) dX6_tyreOf_0 rfl ?_
  first | refine Es_aload_n (hC _) dX6_tyreOf_1 rfl ?_ | refine Es_aload_nN (hC _) dX6_tyreOf_1 rfl ?_
  refine Sg_X6_5 (hC _) fl_X6_107 dX6_tyreOf_2 ?_
  rw [hnt]
  refine Es_fS (hC _) ms_X6_89 dX6_tyreOf_5 (r_isIn_in ht (by omega)) rfl rfl (by decide) (Nat.le_of_ble_eq_true rfl) ?_
  refine Es_if_ne (hC _) 14 dX6_tyreOf_8 (by decide) (fun hb8 => ?_) (fun hb8 => False.elim ((by first | exact absurd hb8 (by decide) | exact absurd hb8 (by assumption) | exact hb8 (by assumption) | exact hb8 rfl | (simp_all [bI]; done))))
  refine Es_iload_n (hC _) dX6_tyreOf_14 rfl ?_
  refine Es_tableIn (hC _) 64 dX6_tyreOf_15 (by decide) (by decide) (off := 49) (by decide) (by decide) ?_
  first | refine Es_aload_n (hC _) dX6_tyreOf_64 rfl ?_ | refine Es_aload_nN (hC _) dX6_tyreOf_64 rfl ?_
  refine Sg_X6_12 (hC _) fl_X6_35 dX6_tyreOf_65 ?_
  refine Es_iload_n (hC _) dX6_tyreOf_68 rfl ?_
  refine Es_ialdN (hC _) dX6_tyreOf_69 rfl rfl rfl (by omega) (by decide) ?_
  exact Es_iret dX6_tyreOf_70 rfl ⟨rfl, rfl, rfl⟩

set_option maxRecDepth 100000 in
set_option maxHeartbeats 4000000 in
theorem c_tyreOf_k1 {ad : sA} {nw nt : Nat} {B : sB} {L : sL} (hnt : B 0 0 9 = nI nt) (h40 : nt ≤ 40) {t : Nat} (ht : t < nt)  : Cf yX5_tyreOf cX5_tyreOf 4 (some FieldType.int) 5 [.ref (ad 0 0), .int (nI t), .int (nI 1)] ad nw nt B L (some (.int (B 21 t 2))) (B) (L) := by
  have hC : ∀ Q, je_Ok (sCm yX5_tyreOf cX5_tyreOf 4 (some FieldType.int) 5 ad nw nt Q) RX5 cX5_tyreOf 4 5 := fun _ => je_Cm_ok
  refine Cs_of [some (.ref (ad 0 0)), some (.int (nI t)), some (.int (nI 1)), none] (by decide) rfl (Nat.le_of_ble_eq_true rfl) ?_
  first | refine Es_aload_n (hC _) dX5_tyreOf_0 rfl ?_ | refine Es_aload_nN (hC _) dX5_tyreOf_0 rfl ?_
  refine Es_iload_n (hC _) dX5_tyreOf_1 rfl ?_
  refine Es_fV (hC _) mv_X5_132 dX5_tyreOf_2 (c_tyreAt_in hnt h40 ht) rfl rfl ⟨_, rfl, rfl⟩ rfl rfl (by decide) (Nat.le_of_ble_eq_true rfl) ?_
  first | refine Es_astore_n (lv' := [_, _, _, _]) (hC _) dX5_tyreOf_5 (by decide) rfl rfl ?_ | refine Es_astore_nN (lv' := [_, _, _, _]) (hC _) dX5_tyreOf_5 (by decide) rfl rfl ?_
  first | refine Es_aload_n (hC _) dX5_tyreOf_6 rfl ?_ | refine Es_aload_nN (hC _) dX5_tyreOf_6 rfl ?_
  refine Es_ifnonnull (hC _) 13 dX5_tyreOf_7 (by decide) ?_
  refine Es_iload_n (hC _) dX5_tyreOf_13 rfl ?_
  refine Es_tableIn (hC _) 69 dX5_tyreOf_14 (by decide) (by decide) (off := 55) (by decide) (by decide) ?_
  first | refine Es_aload_n (hC _) dX5_tyreOf_69 rfl ?_ | refine Es_aload_nN (hC _) dX5_tyreOf_69 rfl ?_
  refine Sg_X2_2 (hC _) fl_X5_243 dX5_tyreOf_70 ht ?_
  exact Es_iret dX5_tyreOf_73 rfl ⟨rfl, rfl, rfl⟩

set_option maxRecDepth 100000 in
set_option maxHeartbeats 4000000 in
theorem r_tyreOf_k1 {ad : sA} {nw nt : Nat} {B : sB} {L : sL} (hnt : B 25 0 5 = nI nt) (h40 : nt ≤ 40) {t : Nat} (ht : t < nt)  : Cf yX6_tyreOf cX6_tyreOf 3 (some FieldType.int) 5 [.ref (ad 25 0), .int (nI t), .int (nI 1)] ad nw nt B L (some (.int (B 43 0 t))) (B) (L) := by
  have hC : ∀ Q, je_Ok (sCm yX6_tyreOf cX6_tyreOf 3 (some FieldType.int) 5 ad nw nt Q) RX6 cX6_tyreOf 3 5 := fun _ => je_Cm_ok
  refine Cs_of [some (.ref (ad 25 0)), some (.int (nI t)), some (.int (nI 1))] (by decide) rfl (Nat.le_of_ble_eq_true rfl) ?_
  refine Es_iload_n (hC _) dX6_tyreOf_0 rfl ?_
  first | refine Es_aload_n (hC _) dX6_tyreOf_1 rfl ?_ | refine Es_aload_nN (hC _) dX6_tyreOf_1 rfl ?_
  refine Sg_X6_5 (hC _) fl_X6_107 dX6_tyreOf_2 ?_
  rw [hnt]
  refine Es_fS (hC _) ms_X6_89 dX6_tyreOf_5 (r_isIn_in ht (by omega)) rfl rfl (by decide) (Nat.le_of_ble_eq_true rfl) ?_
  refine Es_if_ne (hC _) 14 dX6_tyreOf_8 (by decide) (fun hb8 => ?_) (fun hb8 => False.elim ((by first | exact absurd hb8 (by decide) | exact absurd hb8 (by assumption) | exact hb8 (by assumption) | exact hb8 rfl | (simp_all [bI]; done))))
  refine Es_iload_n (hC _) dX6_tyreOf_14 rfl ?_
  refine Es_tableIn (hC _) 71 dX6_tyreOf_15 (by decide) (by decide) (off := 56) (by decide) (by decide) ?_
  first | refine Es_aload_n (hC _) dX6_tyreOf_71 rfl ?_ | refine Es_aload_nN (hC _) dX6_tyreOf_71 rfl ?_
  refine Sg_X6_13 (hC _) fl_X6_38 dX6_tyreOf_72 ?_
  refine Es_iload_n (hC _) dX6_tyreOf_75 rfl ?_
  refine Es_ialdN (hC _) dX6_tyreOf_76 rfl rfl rfl (by omega) (by decide) ?_
  exact Es_iret dX6_tyreOf_77 rfl ⟨rfl, rfl, rfl⟩

set_option maxRecDepth 100000 in
set_option maxHeartbeats 4000000 in
theorem c_tyreOf_k2 {ad : sA} {nw nt : Nat} {B : sB} {L : sL} (hnt : B 0 0 9 = nI nt) (h40 : nt ≤ 40) {t : Nat} (ht : t < nt)  : Cf yX5_tyreOf cX5_tyreOf 4 (some FieldType.int) 5 [.ref (ad 0 0), .int (nI t), .int (nI 2)] ad nw nt B L (some (.int (B 21 t 7))) (B) (L) := by
  have hC : ∀ Q, je_Ok (sCm yX5_tyreOf cX5_tyreOf 4 (some FieldType.int) 5 ad nw nt Q) RX5 cX5_tyreOf 4 5 := fun _ => je_Cm_ok
  refine Cs_of [some (.ref (ad 0 0)), some (.int (nI t)), some (.int (nI 2)), none] (by decide) rfl (Nat.le_of_ble_eq_true rfl) ?_
  first | refine Es_aload_n (hC _) dX5_tyreOf_0 rfl ?_ | refine Es_aload_nN (hC _) dX5_tyreOf_0 rfl ?_
  refine Es_iload_n (hC _) dX5_tyreOf_1 rfl ?_
  refine Es_fV (hC _) mv_X5_132 dX5_tyreOf_2 (c_tyreAt_in hnt h40 ht) rfl rfl ⟨_, rfl, rfl⟩ rfl rfl (by decide) (Nat.le_of_ble_eq_true rfl) ?_
  first | refine Es_astore_n (lv' := [_, _, _, _]) (hC _) dX5_tyreOf_5 (by decide) rfl rfl ?_ | refine Es_astore_nN (lv' := [_, _, _, _]) (hC _) dX5_tyreOf_5 (by decide) rfl rfl ?_
  first | refine Es_aload_n (hC _) dX5_tyreOf_6 rfl ?_ | refine Es_aload_nN (hC _) dX5_tyreOf_6 rfl ?_
  refine Es_ifnonnull (hC _) 13 dX5_tyreOf_7 (by decide) ?_
  refine Es_iload_n (hC _) dX5_tyreOf_13 rfl ?_
  refine Es_tableIn (hC _) 74 dX5_tyreOf_14 (by decide) (by decide) (off := 60) (by decide) (by decide) ?_
  first | refine Es_aload_n (hC _) dX5_tyreOf_74 rfl ?_ | refine Es_aload_nN (hC _) dX5_tyreOf_74 rfl ?_
  refine Sg_X2_7 (hC _) fl_X5_210 dX5_tyreOf_75 ht ?_
  exact Es_iret dX5_tyreOf_78 rfl ⟨rfl, rfl, rfl⟩

set_option maxRecDepth 100000 in
set_option maxHeartbeats 4000000 in
theorem r_tyreOf_k2 {ad : sA} {nw nt : Nat} {B : sB} {L : sL} (hnt : B 25 0 5 = nI nt) (h40 : nt ≤ 40) {t : Nat} (ht : t < nt)  : Cf yX6_tyreOf cX6_tyreOf 3 (some FieldType.int) 5 [.ref (ad 25 0), .int (nI t), .int (nI 2)] ad nw nt B L (some (.int (B 44 0 t))) (B) (L) := by
  have hC : ∀ Q, je_Ok (sCm yX6_tyreOf cX6_tyreOf 3 (some FieldType.int) 5 ad nw nt Q) RX6 cX6_tyreOf 3 5 := fun _ => je_Cm_ok
  refine Cs_of [some (.ref (ad 25 0)), some (.int (nI t)), some (.int (nI 2))] (by decide) rfl (Nat.le_of_ble_eq_true rfl) ?_
  refine Es_iload_n (hC _) dX6_tyreOf_0 rfl ?_
  first | refine Es_aload_n (hC _) dX6_tyreOf_1 rfl ?_ | refine Es_aload_nN (hC _) dX6_tyreOf_1 rfl ?_
  refine Sg_X6_5 (hC _) fl_X6_107 dX6_tyreOf_2 ?_
  rw [hnt]
  refine Es_fS (hC _) ms_X6_89 dX6_tyreOf_5 (r_isIn_in ht (by omega)) rfl rfl (by decide) (Nat.le_of_ble_eq_true rfl) ?_
  refine Es_if_ne (hC _) 14 dX6_tyreOf_8 (by decide) (fun hb8 => ?_) (fun hb8 => False.elim ((by first | exact absurd hb8 (by decide) | exact absurd hb8 (by assumption) | exact hb8 (by assumption) | exact hb8 rfl | (simp_all [bI]; done))))
  refine Es_iload_n (hC _) dX6_tyreOf_14 rfl ?_
  refine Es_tableIn (hC _) 78 dX6_tyreOf_15 (by decide) (by decide) (off := 63) (by decide) (by decide) ?_
  first | refine Es_aload_n (hC _) dX6_tyreOf_78 rfl ?_ | refine Es_aload_nN (hC _) dX6_tyreOf_78 rfl ?_
  refine Sg_X6_14 (hC _) fl_X6_41 dX6_tyreOf_79 ?_
  refine Es_iload_n (hC _) dX6_tyreOf_82 rfl ?_
  refine Es_ialdN (hC _) dX6_tyreOf_83 rfl rfl rfl (by omega) (by decide) ?_
  exact Es_iret dX6_tyreOf_84 rfl ⟨rfl, rfl, rfl⟩

set_option maxRecDepth 100000 in
set_option maxHeartbeats 4000000 in
theorem c_tyreOf_k3 {ad : sA} {nw nt : Nat} {B : sB} {L : sL} (hnt : B 0 0 9 = nI nt) (h40 : nt ≤ 40) {t : Nat} (ht : t < nt)  : Cf yX5_tyreOf cX5_tyreOf 4 (some FieldType.int) 5 [.ref (ad 0 0), .int (nI t), .int (nI 3)] ad nw nt B L (some (.int (B 21 t 8))) (B) (L) := by
  have hC : ∀ Q, je_Ok (sCm yX5_tyreOf cX5_tyreOf 4 (some FieldType.int) 5 ad nw nt Q) RX5 cX5_tyreOf 4 5 := fun _ => je_Cm_ok
  refine Cs_of [some (.ref (ad 0 0)), some (.int (nI t)), some (.int (nI 3)), none] (by decide) rfl (Nat.le_of_ble_eq_true rfl) ?_
  first | refine Es_aload_n (hC _) dX5_tyreOf_0 rfl ?_ | refine Es_aload_nN (hC _) dX5_tyreOf_0 rfl ?_
  refine Es_iload_n (hC _) dX5_tyreOf_1 rfl ?_
  refine Es_fV (hC _) mv_X5_132 dX5_tyreOf_2 (c_tyreAt_in hnt h40 ht) rfl rfl ⟨_, rfl, rfl⟩ rfl rfl (by decide) (Nat.le_of_ble_eq_true rfl) ?_
  first | refine Es_astore_n (lv' := [_, _, _, _]) (hC _) dX5_tyreOf_5 (by decide) rfl rfl ?_ | refine Es_astore_nN (lv' := [_, _, _, _]) (hC _) dX5_tyreOf_5 (by decide) rfl rfl ?_
  first | refine Es_aload_n (hC _) dX5_tyreOf_6 rfl ?_ | refine Es_aload_nN (hC _) dX5_tyreOf_6 rfl ?_
  refine Es_ifnonnull (hC _) 13 dX5_tyreOf_7 (by decide) ?_
  refine Es_iload_n (hC _) dX5_tyreOf_13 rfl ?_
  refine Es_tableIn (hC _) 79 dX5_tyreOf_14 (by decide) (by decide) (off := 65) (by decide) (by decide) ?_
  first | refine Es_aload_n (hC _) dX5_tyreOf_79 rfl ?_ | refine Es_aload_nN (hC _) dX5_tyreOf_79 rfl ?_
  refine Sg_X2_8 (hC _) fl_X5_213 dX5_tyreOf_80 ht ?_
  exact Es_iret dX5_tyreOf_83 rfl ⟨rfl, rfl, rfl⟩

set_option maxRecDepth 100000 in
set_option maxHeartbeats 4000000 in
theorem r_tyreOf_k3 {ad : sA} {nw nt : Nat} {B : sB} {L : sL} (hnt : B 25 0 5 = nI nt) (h40 : nt ≤ 40) {t : Nat} (ht : t < nt)  : Cf yX6_tyreOf cX6_tyreOf 3 (some FieldType.int) 5 [.ref (ad 25 0), .int (nI t), .int (nI 3)] ad nw nt B L (some (.int (B 45 0 t))) (B) (L) := by
  have hC : ∀ Q, je_Ok (sCm yX6_tyreOf cX6_tyreOf 3 (some FieldType.int) 5 ad nw nt Q) RX6 cX6_tyreOf 3 5 := fun _ => je_Cm_ok
  refine Cs_of [some (.ref (ad 25 0)), some (.int (nI t)), some (.int (nI 3))] (by decide) rfl (Nat.le_of_ble_eq_true rfl) ?_
  refine Es_iload_n (hC _) dX6_tyreOf_0 rfl ?_
  first | refine Es_aload_n (hC _) dX6_tyreOf_1 rfl ?_ | refine Es_aload_nN (hC _) dX6_tyreOf_1 rfl ?_
  refine Sg_X6_5 (hC _) fl_X6_107 dX6_tyreOf_2 ?_
  rw [hnt]
  refine Es_fS (hC _) ms_X6_89 dX6_tyreOf_5 (r_isIn_in ht (by omega)) rfl rfl (by decide) (Nat.le_of_ble_eq_true rfl) ?_
  refine Es_if_ne (hC _) 14 dX6_tyreOf_8 (by decide) (fun hb8 => ?_) (fun hb8 => False.elim ((by first | exact absurd hb8 (by decide) | exact absurd hb8 (by assumption) | exact hb8 (by assumption) | exact hb8 rfl | (simp_all [bI]; done))))
  refine Es_iload_n (hC _) dX6_tyreOf_14 rfl ?_
  refine Es_tableIn (hC _) 85 dX6_tyreOf_15 (by decide) (by decide) (off := 70) (by decide) (by decide) ?_
  first | refine Es_aload_n (hC _) dX6_tyreOf_85 rfl ?_ | refine Es_aload_nN (hC _) dX6_tyreOf_85 rfl ?_
  refine Sg_X6_15 (hC _) fl_X6_44 dX6_tyreOf_86 ?_
  refine Es_iload_n (hC _) dX6_tyreOf_89 rfl ?_
  refine Es_ialdN (hC _) dX6_tyreOf_90 rfl rfl rfl (by omega) (by decide) ?_
  exact Es_iret dX6_tyreOf_91 rfl ⟨rfl, rfl, rfl⟩

set_option maxRecDepth 100000 in
set_option maxHeartbeats 4000000 in
theorem c_tyreOf_k4 {ad : sA} {nw nt : Nat} {B : sB} {L : sL} (hnt : B 0 0 9 = nI nt) (h40 : nt ≤ 40) {t : Nat} (ht : t < nt)  : Cf yX5_tyreOf cX5_tyreOf 4 (some FieldType.int) 5 [.ref (ad 0 0), .int (nI t), .int (nI 4)] ad nw nt B L (some (.int (B 21 t 9))) (B) (L) := by
  have hC : ∀ Q, je_Ok (sCm yX5_tyreOf cX5_tyreOf 4 (some FieldType.int) 5 ad nw nt Q) RX5 cX5_tyreOf 4 5 := fun _ => je_Cm_ok
  refine Cs_of [some (.ref (ad 0 0)), some (.int (nI t)), some (.int (nI 4)), none] (by decide) rfl (Nat.le_of_ble_eq_true rfl) ?_
  first | refine Es_aload_n (hC _) dX5_tyreOf_0 rfl ?_ | refine Es_aload_nN (hC _) dX5_tyreOf_0 rfl ?_
  refine Es_iload_n (hC _) dX5_tyreOf_1 rfl ?_
  refine Es_fV (hC _) mv_X5_132 dX5_tyreOf_2 (c_tyreAt_in hnt h40 ht) rfl rfl ⟨_, rfl, rfl⟩ rfl rfl (by decide) (Nat.le_of_ble_eq_true rfl) ?_
  first | refine Es_astore_n (lv' := [_, _, _, _]) (hC _) dX5_tyreOf_5 (by decide) rfl rfl ?_ | refine Es_astore_nN (lv' := [_, _, _, _]) (hC _) dX5_tyreOf_5 (by decide) rfl rfl ?_
  first | refine Es_aload_n (hC _) dX5_tyreOf_6 rfl ?_ | refine Es_aload_nN (hC _) dX5_tyreOf_6 rfl ?_
  refine Es_ifnonnull (hC _) 13 dX5_tyreOf_7 (by decide) ?_
  refine Es_iload_n (hC _) dX5_tyreOf_13 rfl ?_
  refine Es_tableIn (hC _) 84 dX5_tyreOf_14 (by decide) (by decide) (off := 70) (by decide) (by decide) ?_
  first | refine Es_aload_n (hC _) dX5_tyreOf_84 rfl ?_ | refine Es_aload_nN (hC _) dX5_tyreOf_84 rfl ?_
  refine Sg_X2_9 (hC _) fl_X5_246 dX5_tyreOf_85 ht ?_
  exact Es_iret dX5_tyreOf_88 rfl ⟨rfl, rfl, rfl⟩

set_option maxRecDepth 100000 in
set_option maxHeartbeats 4000000 in
theorem r_tyreOf_k4 {ad : sA} {nw nt : Nat} {B : sB} {L : sL} (hnt : B 25 0 5 = nI nt) (h40 : nt ≤ 40) {t : Nat} (ht : t < nt)  : Cf yX6_tyreOf cX6_tyreOf 3 (some FieldType.int) 5 [.ref (ad 25 0), .int (nI t), .int (nI 4)] ad nw nt B L (some (.int (B 46 0 t))) (B) (L) := by
  have hC : ∀ Q, je_Ok (sCm yX6_tyreOf cX6_tyreOf 3 (some FieldType.int) 5 ad nw nt Q) RX6 cX6_tyreOf 3 5 := fun _ => je_Cm_ok
  refine Cs_of [some (.ref (ad 25 0)), some (.int (nI t)), some (.int (nI 4))] (by decide) rfl (Nat.le_of_ble_eq_true rfl) ?_
  refine Es_iload_n (hC _) dX6_tyreOf_0 rfl ?_
  first | refine Es_aload_n (hC _) dX6_tyreOf_1 rfl ?_ | refine Es_aload_nN (hC _) dX6_tyreOf_1 rfl ?_
  refine Sg_X6_5 (hC _) fl_X6_107 dX6_tyreOf_2 ?_
  rw [hnt]
  refine Es_fS (hC _) ms_X6_89 dX6_tyreOf_5 (r_isIn_in ht (by omega)) rfl rfl (by decide) (Nat.le_of_ble_eq_true rfl) ?_
  refine Es_if_ne (hC _) 14 dX6_tyreOf_8 (by decide) (fun hb8 => ?_) (fun hb8 => False.elim ((by first | exact absurd hb8 (by decide) | exact absurd hb8 (by assumption) | exact hb8 (by assumption) | exact hb8 rfl | (simp_all [bI]; done))))
  refine Es_iload_n (hC _) dX6_tyreOf_14 rfl ?_
  refine Es_tableIn (hC _) 92 dX6_tyreOf_15 (by decide) (by decide) (off := 77) (by decide) (by decide) ?_
  first | refine Es_aload_n (hC _) dX6_tyreOf_92 rfl ?_ | refine Es_aload_nN (hC _) dX6_tyreOf_92 rfl ?_
  refine Sg_X6_16 (hC _) fl_X6_47 dX6_tyreOf_93 ?_
  refine Es_iload_n (hC _) dX6_tyreOf_96 rfl ?_
  refine Es_ialdN (hC _) dX6_tyreOf_97 rfl rfl rfl (by omega) (by decide) ?_
  exact Es_iret dX6_tyreOf_98 rfl ⟨rfl, rfl, rfl⟩

set_option maxRecDepth 100000 in
set_option maxHeartbeats 4000000 in
theorem c_tyreOf_k5 {ad : sA} {nw nt : Nat} {B : sB} {L : sL} (hnt : B 0 0 9 = nI nt) (h40 : nt ≤ 40) {t : Nat} (ht : t < nt)  : Cf yX5_tyreOf cX5_tyreOf 4 (some FieldType.int) 5 [.ref (ad 0 0), .int (nI t), .int (nI 5)] ad nw nt B L (some (.int (B 21 t 6))) (B) (L) := by
  have hC : ∀ Q, je_Ok (sCm yX5_tyreOf cX5_tyreOf 4 (some FieldType.int) 5 ad nw nt Q) RX5 cX5_tyreOf 4 5 := fun _ => je_Cm_ok
  refine Cs_of [some (.ref (ad 0 0)), some (.int (nI t)), some (.int (nI 5)), none] (by decide) rfl (Nat.le_of_ble_eq_true rfl) ?_
  first | refine Es_aload_n (hC _) dX5_tyreOf_0 rfl ?_ | refine Es_aload_nN (hC _) dX5_tyreOf_0 rfl ?_
  refine Es_iload_n (hC _) dX5_tyreOf_1 rfl ?_
  refine Es_fV (hC _) mv_X5_132 dX5_tyreOf_2 (c_tyreAt_in hnt h40 ht) rfl rfl ⟨_, rfl, rfl⟩ rfl rfl (by decide) (Nat.le_of_ble_eq_true rfl) ?_
  first | refine Es_astore_n (lv' := [_, _, _, _]) (hC _) dX5_tyreOf_5 (by decide) rfl rfl ?_ | refine Es_astore_nN (lv' := [_, _, _, _]) (hC _) dX5_tyreOf_5 (by decide) rfl rfl ?_
  first | refine Es_aload_n (hC _) dX5_tyreOf_6 rfl ?_ | refine Es_aload_nN (hC _) dX5_tyreOf_6 rfl ?_
  refine Es_ifnonnull (hC _) 13 dX5_tyreOf_7 (by decide) ?_
  refine Es_iload_n (hC _) dX5_tyreOf_13 rfl ?_
  refine Es_tableIn (hC _) 89 dX5_tyreOf_14 (by decide) (by decide) (off := 75) (by decide) (by decide) ?_
  first | refine Es_aload_n (hC _) dX5_tyreOf_89 rfl ?_ | refine Es_aload_nN (hC _) dX5_tyreOf_89 rfl ?_
  refine Sg_X2_6 (hC _) fl_X5_161 dX5_tyreOf_90 ht ?_
  exact Es_iret dX5_tyreOf_93 rfl ⟨rfl, rfl, rfl⟩

set_option maxRecDepth 100000 in
set_option maxHeartbeats 4000000 in
theorem r_tyreOf_k5 {ad : sA} {nw nt : Nat} {B : sB} {L : sL} (hnt : B 25 0 5 = nI nt) (h40 : nt ≤ 40) {t : Nat} (ht : t < nt)  : Cf yX6_tyreOf cX6_tyreOf 3 (some FieldType.int) 5 [.ref (ad 25 0), .int (nI t), .int (nI 5)] ad nw nt B L (some (.int (B 49 0 t))) (B) (L) := by
  have hC : ∀ Q, je_Ok (sCm yX6_tyreOf cX6_tyreOf 3 (some FieldType.int) 5 ad nw nt Q) RX6 cX6_tyreOf 3 5 := fun _ => je_Cm_ok
  refine Cs_of [some (.ref (ad 25 0)), some (.int (nI t)), some (.int (nI 5))] (by decide) rfl (Nat.le_of_ble_eq_true rfl) ?_
  refine Es_iload_n (hC _) dX6_tyreOf_0 rfl ?_
  first | refine Es_aload_n (hC _) dX6_tyreOf_1 rfl ?_ | refine Es_aload_nN (hC _) dX6_tyreOf_1 rfl ?_
  refine Sg_X6_5 (hC _) fl_X6_107 dX6_tyreOf_2 ?_
  rw [hnt]
  refine Es_fS (hC _) ms_X6_89 dX6_tyreOf_5 (r_isIn_in ht (by omega)) rfl rfl (by decide) (Nat.le_of_ble_eq_true rfl) ?_
  refine Es_if_ne (hC _) 14 dX6_tyreOf_8 (by decide) (fun hb8 => ?_) (fun hb8 => False.elim ((by first | exact absurd hb8 (by decide) | exact absurd hb8 (by assumption) | exact hb8 (by assumption) | exact hb8 rfl | (simp_all [bI]; done))))
  refine Es_iload_n (hC _) dX6_tyreOf_14 rfl ?_
  refine Es_tableIn (hC _) 99 dX6_tyreOf_15 (by decide) (by decide) (off := 84) (by decide) (by decide) ?_
  first | refine Es_aload_n (hC _) dX6_tyreOf_99 rfl ?_ | refine Es_aload_nN (hC _) dX6_tyreOf_99 rfl ?_
  refine Sg_X6_19 (hC _) fl_X6_56 dX6_tyreOf_100 ?_
  refine Es_iload_n (hC _) dX6_tyreOf_103 rfl ?_
  refine Es_ialdN (hC _) dX6_tyreOf_104 rfl rfl rfl (by omega) (by decide) ?_
  exact Es_iret dX6_tyreOf_105 rfl ⟨rfl, rfl, rfl⟩

set_option maxRecDepth 100000 in
set_option maxHeartbeats 4000000 in
theorem c_tyreOf_k6 {ad : sA} {nw nt : Nat} {B : sB} {L : sL} (hnt : B 0 0 9 = nI nt) (h40 : nt ≤ 40) {t : Nat} (ht : t < nt)  : Cf yX5_tyreOf cX5_tyreOf 4 (some FieldType.int) 5 [.ref (ad 0 0), .int (nI t), .int (nI 6)] ad nw nt B L (some (.int (B 21 t 10))) (B) (L) := by
  have hC : ∀ Q, je_Ok (sCm yX5_tyreOf cX5_tyreOf 4 (some FieldType.int) 5 ad nw nt Q) RX5 cX5_tyreOf 4 5 := fun _ => je_Cm_ok
  refine Cs_of [some (.ref (ad 0 0)), some (.int (nI t)), some (.int (nI 6)), none] (by decide) rfl (Nat.le_of_ble_eq_true rfl) ?_
  first | refine Es_aload_n (hC _) dX5_tyreOf_0 rfl ?_ | refine Es_aload_nN (hC _) dX5_tyreOf_0 rfl ?_
  refine Es_iload_n (hC _) dX5_tyreOf_1 rfl ?_
  refine Es_fV (hC _) mv_X5_132 dX5_tyreOf_2 (c_tyreAt_in hnt h40 ht) rfl rfl ⟨_, rfl, rfl⟩ rfl rfl (by decide) (Nat.le_of_ble_eq_true rfl) ?_
  first | refine Es_astore_n (lv' := [_, _, _, _]) (hC _) dX5_tyreOf_5 (by decide) rfl rfl ?_ | refine Es_astore_nN (lv' := [_, _, _, _]) (hC _) dX5_tyreOf_5 (by decide) rfl rfl ?_
  first | refine Es_aload_n (hC _) dX5_tyreOf_6 rfl ?_ | refine Es_aload_nN (hC _) dX5_tyreOf_6 rfl ?_
  refine Es_ifnonnull (hC _) 13 dX5_tyreOf_7 (by decide) ?_
  refine Es_iload_n (hC _) dX5_tyreOf_13 rfl ?_
  refine Es_tableIn (hC _) 94 dX5_tyreOf_14 (by decide) (by decide) (off := 80) (by decide) (by decide) ?_
  first | refine Es_aload_n (hC _) dX5_tyreOf_94 rfl ?_ | refine Es_aload_nN (hC _) dX5_tyreOf_94 rfl ?_
  refine Sg_X2_10 (hC _) fl_X5_139 dX5_tyreOf_95 ht ?_
  exact Es_iret dX5_tyreOf_98 rfl ⟨rfl, rfl, rfl⟩

set_option maxRecDepth 100000 in
set_option maxHeartbeats 4000000 in
theorem r_tyreOf_k6 {ad : sA} {nw nt : Nat} {B : sB} {L : sL} (hnt : B 25 0 5 = nI nt) (h40 : nt ≤ 40) {t : Nat} (ht : t < nt)  : Cf yX6_tyreOf cX6_tyreOf 3 (some FieldType.int) 5 [.ref (ad 25 0), .int (nI t), .int (nI 6)] ad nw nt B L (some (.int (B 47 0 t))) (B) (L) := by
  have hC : ∀ Q, je_Ok (sCm yX6_tyreOf cX6_tyreOf 3 (some FieldType.int) 5 ad nw nt Q) RX6 cX6_tyreOf 3 5 := fun _ => je_Cm_ok
  refine Cs_of [some (.ref (ad 25 0)), some (.int (nI t)), some (.int (nI 6))] (by decide) rfl (Nat.le_of_ble_eq_true rfl) ?_
  refine Es_iload_n (hC _) dX6_tyreOf_0 rfl ?_
  first | refine Es_aload_n (hC _) dX6_tyreOf_1 rfl ?_ | refine Es_aload_nN (hC _) dX6_tyreOf_1 rfl ?_
  refine Sg_X6_5 (hC _) fl_X6_107 dX6_tyreOf_2 ?_
  rw [hnt]
  refine Es_fS (hC _) ms_X6_89 dX6_tyreOf_5 (r_isIn_in ht (by omega)) rfl rfl (by decide) (Nat.le_of_ble_eq_true rfl) ?_
  refine Es_if_ne (hC _) 14 dX6_tyreOf_8 (by decide) (fun hb8 => ?_) (fun hb8 => False.elim ((by first | exact absurd hb8 (by decide) | exact absurd hb8 (by assumption) | exact hb8 (by assumption) | exact hb8 rfl | (simp_all [bI]; done))))
  refine Es_iload_n (hC _) dX6_tyreOf_14 rfl ?_
  refine Es_tableIn (hC _) 106 dX6_tyreOf_15 (by decide) (by decide) (off := 91) (by decide) (by decide) ?_
  first | refine Es_aload_n (hC _) dX6_tyreOf_106 rfl ?_ | refine Es_aload_nN (hC _) dX6_tyreOf_106 rfl ?_
  refine Sg_X6_17 (hC _) fl_X6_50 dX6_tyreOf_107 ?_
  refine Es_iload_n (hC _) dX6_tyreOf_110 rfl ?_
  refine Es_ialdN (hC _) dX6_tyreOf_111 rfl rfl rfl (by omega) (by decide) ?_
  exact Es_iret dX6_tyreOf_112 rfl ⟨rfl, rfl, rfl⟩

set_option maxRecDepth 100000 in
set_option maxHeartbeats 4000000 in
theorem c_tyreOf_k7 {ad : sA} {nw nt : Nat} {B : sB} {L : sL} (hnt : B 0 0 9 = nI nt) (h40 : nt ≤ 40) {t : Nat} (ht : t < nt) {r d ra len u v : Nat} (hr : B 21 t 6 = nI (r + 1)) (h12 : r < 12) (hrd : B 23 t r = nI d) (hd : d ≤ 300) (hra : B 22 t r = nI ra) (hlen : B 21 t 9 = nI len) (hle : ra ≤ len) (hl6 : len ≤ 1000000) (hu6 : u ≤ 43200000000) (hv1 : 1 ≤ v) (hv6 : v ≤ 144000000000000) (hu : L 24 t 0 = lN u) (hv : L 24 t 1 = lN v)  : Cf yX5_tyreOf cX5_tyreOf 4 (some FieldType.int) 5 [.ref (ad 0 0), .int (nI t), .int (nI 7)] ad nw nt B L (some (.int (nI (dpN d v u (len - ra + 0))))) (B) (L) := by
  have hC : ∀ Q, je_Ok (sCm yX5_tyreOf cX5_tyreOf 4 (some FieldType.int) 5 ad nw nt Q) RX5 cX5_tyreOf 4 5 := fun _ => je_Cm_ok
  refine Cs_of [some (.ref (ad 0 0)), some (.int (nI t)), some (.int (nI 7)), none] (by decide) rfl (Nat.le_of_ble_eq_true rfl) ?_
  first | refine Es_aload_n (hC _) dX5_tyreOf_0 rfl ?_ | refine Es_aload_nN (hC _) dX5_tyreOf_0 rfl ?_
  refine Es_iload_n (hC _) dX5_tyreOf_1 rfl ?_
  refine Es_fV (hC _) mv_X5_132 dX5_tyreOf_2 (c_tyreAt_in hnt h40 ht) rfl rfl ⟨_, rfl, rfl⟩ rfl rfl (by decide) (Nat.le_of_ble_eq_true rfl) ?_
  first | refine Es_astore_n (lv' := [_, _, _, _]) (hC _) dX5_tyreOf_5 (by decide) rfl rfl ?_ | refine Es_astore_nN (lv' := [_, _, _, _]) (hC _) dX5_tyreOf_5 (by decide) rfl rfl ?_
  first | refine Es_aload_n (hC _) dX5_tyreOf_6 rfl ?_ | refine Es_aload_nN (hC _) dX5_tyreOf_6 rfl ?_
  refine Es_ifnonnull (hC _) 13 dX5_tyreOf_7 (by decide) ?_
  refine Es_iload_n (hC _) dX5_tyreOf_13 rfl ?_
  refine Es_tableIn (hC _) 99 dX5_tyreOf_14 (by decide) (by decide) (off := 85) (by decide) (by decide) ?_
  first | refine Es_aload_n (hC _) dX5_tyreOf_99 rfl ?_ | refine Es_aload_nN (hC _) dX5_tyreOf_99 rfl ?_
  refine Es_iconst (v := 0) (hC _) dX5_tyreOf_100 (by decide) ?_
  refine Es_fV (hC _) mv_X5_204 dX5_tyreOf_101 (c_depthAfter (mo := 0) ht hr h12 hrd hd hra hlen hle hl6 hu6 hv1 hv6 hu hv (by decide)) (ok21 ht) rfl ⟨_, rfl, rfl⟩ rfl rfl (by decide) (Nat.le_of_ble_eq_true rfl) ?_
  exact Es_iret dX5_tyreOf_104 rfl ⟨rfl, rfl, rfl⟩

set_option maxRecDepth 100000 in
set_option maxHeartbeats 4000000 in
theorem r_tyreOf_k7 {ad : sA} {nw nt : Nat} {B : sB} {L : sL} (hnt : B 25 0 5 = nI nt) (h40 : nt ≤ 40) {t : Nat} (ht : t < nt) {r m d ra len u v : Nat} (hr : B 49 0 t = nI (r + 1)) (h12 : r < 12) (hmk : B 42 0 t = nI m) (hm4 : m < 4) (ho : okR (rA B t) (r + 1) 1000000) (ho2 : okR (rD B t) (r + 1) 300) (hmn : bd (B 32 0 m) 1000) (hw : wUD (rA B t) (rD B t) (r + 1) (B 32 0 m) = (lN u, lN v)) (hrd : B 51 0 (13 * t + r) = nI d) (hd : d ≤ 300) (hra : B 50 0 (13 * t + r) = nI ra) (hlen : B 46 0 t = nI len) (hle : ra ≤ len) (hl6 : len ≤ 1000000) (hu6 : u ≤ 43200000000) (hv1 : 1 ≤ v) (hv6 : v ≤ 144000000000000)  : Cf yX6_tyreOf cX6_tyreOf 3 (some FieldType.int) 5 [.ref (ad 25 0), .int (nI t), .int (nI 7)] ad nw nt B L (some (.int (nI (dpN d v u (len - ra + 0))))) (B) (wR L (lN u, lN v)) := by
  have hC : ∀ Q, je_Ok (sCm yX6_tyreOf cX6_tyreOf 3 (some FieldType.int) 5 ad nw nt Q) RX6 cX6_tyreOf 3 5 := fun _ => je_Cm_ok
  refine Cs_of [some (.ref (ad 25 0)), some (.int (nI t)), some (.int (nI 7))] (by decide) rfl (Nat.le_of_ble_eq_true rfl) ?_
  refine Es_iload_n (hC _) dX6_tyreOf_0 rfl ?_
  first | refine Es_aload_n (hC _) dX6_tyreOf_1 rfl ?_ | refine Es_aload_nN (hC _) dX6_tyreOf_1 rfl ?_
  refine Sg_X6_5 (hC _) fl_X6_107 dX6_tyreOf_2 ?_
  rw [hnt]
  refine Es_fS (hC _) ms_X6_89 dX6_tyreOf_5 (r_isIn_in ht (by omega)) rfl rfl (by decide) (Nat.le_of_ble_eq_true rfl) ?_
  refine Es_if_ne (hC _) 14 dX6_tyreOf_8 (by decide) (fun hb8 => ?_) (fun hb8 => False.elim ((by first | exact absurd hb8 (by decide) | exact absurd hb8 (by assumption) | exact hb8 (by assumption) | exact hb8 rfl | (simp_all [bI]; done))))
  refine Es_iload_n (hC _) dX6_tyreOf_14 rfl ?_
  refine Es_tableIn (hC _) 113 dX6_tyreOf_15 (by decide) (by decide) (off := 98) (by decide) (by decide) ?_
  first | refine Es_aload_n (hC _) dX6_tyreOf_113 rfl ?_ | refine Es_aload_nN (hC _) dX6_tyreOf_113 rfl ?_
  refine Es_iload_n (hC _) dX6_tyreOf_114 rfl ?_
  refine Es_iconst (v := 0) (hC _) dX6_tyreOf_115 (by decide) ?_
  refine Es_fV (hC _) mv_X6_149 dX6_tyreOf_116 (r_depthOf (mo := 0) (by omega) hr h12 hmk hm4 ho ho2 hmn hw hrd hd hra hlen hle hl6 hu6 hv1 hv6 (by decide)) rfl rfl ⟨_, rfl, rfl⟩ rfl rfl (by decide) (Nat.le_of_ble_eq_true rfl) ?_
  exact Es_iret dX6_tyreOf_119 rfl ⟨rfl, rfl, rfl⟩

set_option maxRecDepth 100000 in
set_option maxHeartbeats 4000000 in
theorem c_tyreOf_k8 {ad : sA} {nw nt : Nat} {B : sB} {L : sL} (hnt : B 0 0 9 = nI nt) (h40 : nt ≤ 40) {t : Nat} (ht : t < nt)  : Cf yX5_tyreOf cX5_tyreOf 4 (some FieldType.int) 5 [.ref (ad 0 0), .int (nI t), .int (nI 8)] ad nw nt B L (some (.int (B 21 t 11))) (B) (L) := by
  have hC : ∀ Q, je_Ok (sCm yX5_tyreOf cX5_tyreOf 4 (some FieldType.int) 5 ad nw nt Q) RX5 cX5_tyreOf 4 5 := fun _ => je_Cm_ok
  refine Cs_of [some (.ref (ad 0 0)), some (.int (nI t)), some (.int (nI 8)), none] (by decide) rfl (Nat.le_of_ble_eq_true rfl) ?_
  first | refine Es_aload_n (hC _) dX5_tyreOf_0 rfl ?_ | refine Es_aload_nN (hC _) dX5_tyreOf_0 rfl ?_
  refine Es_iload_n (hC _) dX5_tyreOf_1 rfl ?_
  refine Es_fV (hC _) mv_X5_132 dX5_tyreOf_2 (c_tyreAt_in hnt h40 ht) rfl rfl ⟨_, rfl, rfl⟩ rfl rfl (by decide) (Nat.le_of_ble_eq_true rfl) ?_
  first | refine Es_astore_n (lv' := [_, _, _, _]) (hC _) dX5_tyreOf_5 (by decide) rfl rfl ?_ | refine Es_astore_nN (lv' := [_, _, _, _]) (hC _) dX5_tyreOf_5 (by decide) rfl rfl ?_
  first | refine Es_aload_n (hC _) dX5_tyreOf_6 rfl ?_ | refine Es_aload_nN (hC _) dX5_tyreOf_6 rfl ?_
  refine Es_ifnonnull (hC _) 13 dX5_tyreOf_7 (by decide) ?_
  refine Es_iload_n (hC _) dX5_tyreOf_13 rfl ?_
  refine Es_tableIn (hC _) 105 dX5_tyreOf_14 (by decide) (by decide) (off := 91) (by decide) (by decide) ?_
  first | refine Es_aload_n (hC _) dX5_tyreOf_105 rfl ?_ | refine Es_aload_nN (hC _) dX5_tyreOf_105 rfl ?_
  refine Sg_X2_11 (hC _) fl_X5_216 dX5_tyreOf_106 ht ?_
  exact Es_iret dX5_tyreOf_109 rfl ⟨rfl, rfl, rfl⟩

set_option maxRecDepth 100000 in
set_option maxHeartbeats 4000000 in
theorem r_tyreOf_k8a {ad : sA} {nw nt : Nat} {B : sB} {L : sL} (hnt : B 25 0 5 = nI nt) (h40 : nt ≤ 40) {t : Nat} (ht : t < nt) (hwh : B 47 0 t = -2) : Cf yX6_tyreOf cX6_tyreOf 3 (some FieldType.int) 5 [.ref (ad 25 0), .int (nI t), .int (nI 8)] ad nw nt B L (some (.int (B 48 0 t))) (B) (L) := by
  have hC : ∀ Q, je_Ok (sCm yX6_tyreOf cX6_tyreOf 3 (some FieldType.int) 5 ad nw nt Q) RX6 cX6_tyreOf 3 5 := fun _ => je_Cm_ok
  refine Cs_of [some (.ref (ad 25 0)), some (.int (nI t)), some (.int (nI 8))] (by decide) rfl (Nat.le_of_ble_eq_true rfl) ?_
  refine Es_iload_n (hC _) dX6_tyreOf_0 rfl ?_
  first | refine Es_aload_n (hC _) dX6_tyreOf_1 rfl ?_ | refine Es_aload_nN (hC _) dX6_tyreOf_1 rfl ?_
  refine Sg_X6_5 (hC _) fl_X6_107 dX6_tyreOf_2 ?_
  rw [hnt]
  refine Es_fS (hC _) ms_X6_89 dX6_tyreOf_5 (r_isIn_in ht (by omega)) rfl rfl (by decide) (Nat.le_of_ble_eq_true rfl) ?_
  refine Es_if_ne (hC _) 14 dX6_tyreOf_8 (by decide) (fun hb8 => ?_) (fun hb8 => False.elim ((by first | exact absurd hb8 (by decide) | exact absurd hb8 (by assumption) | exact hb8 (by assumption) | exact hb8 rfl | (simp_all [bI]; done))))
  refine Es_iload_n (hC _) dX6_tyreOf_14 rfl ?_
  refine Es_tableIn (hC _) 120 dX6_tyreOf_15 (by decide) (by decide) (off := 105) (by decide) (by decide) ?_
  first | refine Es_aload_n (hC _) dX6_tyreOf_120 rfl ?_ | refine Es_aload_nN (hC _) dX6_tyreOf_120 rfl ?_
  refine Sg_X6_17 (hC _) fl_X6_50 dX6_tyreOf_121 ?_
  refine Es_iload_n (hC _) dX6_tyreOf_124 rfl ?_
  refine Es_ialdN (hC _) dX6_tyreOf_125 rfl rfl rfl (by omega) (by decide) ?_
  refine Es_bipush (v := -2) (hC _) dX6_tyreOf_126 (by decide) ?_
  refine Es_icmp_ne (hC _) 140 dX6_tyreOf_128 (by decide) (fun hb128 => False.elim (hb128 hwh)) (fun hb128 => ?_)
  first | refine Es_aload_n (hC _) dX6_tyreOf_131 rfl ?_ | refine Es_aload_nN (hC _) dX6_tyreOf_131 rfl ?_
  refine Sg_X6_18 (hC _) fl_X6_53 dX6_tyreOf_132 ?_
  refine Es_iload_n (hC _) dX6_tyreOf_135 rfl ?_
  refine Es_ialdN (hC _) dX6_tyreOf_136 rfl rfl rfl (by omega) (by decide) ?_
  refine Es_goto (hC _) 142 dX6_tyreOf_137 (by decide) ?_
  exact Es_iret dX6_tyreOf_142 rfl ⟨rfl, rfl, rfl⟩

set_option maxRecDepth 100000 in
set_option maxHeartbeats 4000000 in
theorem r_tyreOf_k8b {ad : sA} {nw nt : Nat} {B : sB} {L : sL} (hnt : B 25 0 5 = nI nt) (h40 : nt ≤ 40) {t : Nat} (ht : t < nt) (hwh : ¬ B 47 0 t = -2) : Cf yX6_tyreOf cX6_tyreOf 3 (some FieldType.int) 5 [.ref (ad 25 0), .int (nI t), .int (nI 8)] ad nw nt B L (some (.int (-9))) (B) (L) := by
  have hC : ∀ Q, je_Ok (sCm yX6_tyreOf cX6_tyreOf 3 (some FieldType.int) 5 ad nw nt Q) RX6 cX6_tyreOf 3 5 := fun _ => je_Cm_ok
  refine Cs_of [some (.ref (ad 25 0)), some (.int (nI t)), some (.int (nI 8))] (by decide) rfl (Nat.le_of_ble_eq_true rfl) ?_
  refine Es_iload_n (hC _) dX6_tyreOf_0 rfl ?_
  first | refine Es_aload_n (hC _) dX6_tyreOf_1 rfl ?_ | refine Es_aload_nN (hC _) dX6_tyreOf_1 rfl ?_
  refine Sg_X6_5 (hC _) fl_X6_107 dX6_tyreOf_2 ?_
  rw [hnt]
  refine Es_fS (hC _) ms_X6_89 dX6_tyreOf_5 (r_isIn_in ht (by omega)) rfl rfl (by decide) (Nat.le_of_ble_eq_true rfl) ?_
  refine Es_if_ne (hC _) 14 dX6_tyreOf_8 (by decide) (fun hb8 => ?_) (fun hb8 => False.elim ((by first | exact absurd hb8 (by decide) | exact absurd hb8 (by assumption) | exact hb8 (by assumption) | exact hb8 rfl | (simp_all [bI]; done))))
  refine Es_iload_n (hC _) dX6_tyreOf_14 rfl ?_
  refine Es_tableIn (hC _) 120 dX6_tyreOf_15 (by decide) (by decide) (off := 105) (by decide) (by decide) ?_
  first | refine Es_aload_n (hC _) dX6_tyreOf_120 rfl ?_ | refine Es_aload_nN (hC _) dX6_tyreOf_120 rfl ?_
  refine Sg_X6_17 (hC _) fl_X6_50 dX6_tyreOf_121 ?_
  refine Es_iload_n (hC _) dX6_tyreOf_124 rfl ?_
  refine Es_ialdN (hC _) dX6_tyreOf_125 rfl rfl rfl (by omega) (by decide) ?_
  refine Es_bipush (v := -2) (hC _) dX6_tyreOf_126 (by decide) ?_
  refine Es_icmp_ne (hC _) 140 dX6_tyreOf_128 (by decide) (fun hb128 => ?_) (fun hb128 => False.elim (hwh hb128))
  refine Es_bipush (v := -9) (hC _) dX6_tyreOf_140 (by decide) ?_
  exact Es_iret dX6_tyreOf_142 rfl ⟨rfl, rfl, rfl⟩

