set_option maxRecDepth 100000 in
set_option maxHeartbeats 4000000 in
theorem c_least_1 {ad : sA} {nw nt : Nat} {B : sB} {L : sL} {x y : Int32} (ho : out x 5) : Cf yX5_least cX5_least 5 (some FieldType.int) 2 [.ref (ad 0 0), .int x, .int y] ad nw nt B L (some (.int (-1))) (uB B 5 0 1 (B 5 0 1 + 1)) (L) := by
  have hC : ∀ Q, je_Ok (sCm yX5_least cX5_least 5 (some FieldType.int) 2 ad nw nt Q) RX5 cX5_least 5 2 := fun _ => je_Cm_ok
  refine Cs_of [some (.ref (ad 0 0)), some (.int x), some (.int y), none, none] (by decide) rfl (Nat.le_of_ble_eq_true rfl) ?_
  refine Es_iload_n (hC _) dX5_least_0 rfl ?_
  refine Es_fS (hC _) ms_X5_81 dX5_least_1 (c_isKind_out ho) rfl rfl (by decide) (Nat.le_of_ble_eq_true rfl) ?_
  refine Es_if_ne (hC _) 13 dX5_least_4 (by decide) (fun hb4 => False.elim ((by first | exact absurd hb4 (by decide) | exact absurd hb4 (by assumption) | exact hb4 (by assumption) | exact hb4 rfl | (simp_all [bI]; done)))) (fun hb4 => ?_)
  first | refine Es_aload_n (hC _) dX5_least_7 rfl ?_ | refine Es_aload_nN (hC _) dX5_least_7 rfl ?_
  refine Es_iconst (v := -1) (hC _) dX5_least_8 (by decide) ?_
  refine Es_fV (hC _) mv_X5_70 dX5_least_9 (c_refuse (k := 1) (by decide) (by decide)) rfl rfl ⟨_, rfl, rfl⟩ rfl rfl (by decide) (Nat.le_of_ble_eq_true rfl) ?_
  exact Es_iret dX5_least_12 rfl ⟨rfl, rfl, rfl⟩

set_option maxRecDepth 100000 in
set_option maxHeartbeats 4000000 in
theorem r_least_1 {ad : sA} {nw nt : Nat} {B : sB} {L : sL} {x y : Int32} (ho : out x 5) : Cf yX6_least cX6_least 4 (some FieldType.int) 1 [.ref (ad 25 0), .int x, .int y] ad nw nt B L (some (.int (-1))) (uB B 30 0 1 (B 30 0 1 + 1)) (L) := by
  have hC : ∀ Q, je_Ok (sCm yX6_least cX6_least 4 (some FieldType.int) 1 ad nw nt Q) RX6 cX6_least 4 1 := fun _ => je_Cm_ok
  refine Cs_of [some (.ref (ad 25 0)), some (.int x), some (.int y), none] (by decide) rfl (Nat.le_of_ble_eq_true rfl) ?_
  refine Es_iload_n (hC _) dX6_least_0 rfl ?_
  refine Es_iconst (v := 5) (hC _) dX6_least_1 (by decide) ?_
  refine Es_fS (hC _) ms_X6_89 dX6_least_2 (r_isIn_out (n := 5) ho) rfl rfl (by decide) (Nat.le_of_ble_eq_true rfl) ?_
  refine Es_if_ne (hC _) 14 dX6_least_5 (by decide) (fun hb5 => False.elim ((by first | exact absurd hb5 (by decide) | exact absurd hb5 (by assumption) | exact hb5 (by assumption) | exact hb5 rfl | (simp_all [bI]; done)))) (fun hb5 => ?_)
  first | refine Es_aload_n (hC _) dX6_least_8 rfl ?_ | refine Es_aload_nN (hC _) dX6_least_8 rfl ?_
  refine Es_iconst (v := -1) (hC _) dX6_least_9 (by decide) ?_
  refine Es_fV (hC _) mv_X6_93 dX6_least_10 (r_refuse (k := 1) (by decide) (by decide)) rfl rfl ⟨_, rfl, rfl⟩ rfl rfl (by decide) (Nat.le_of_ble_eq_true rfl) ?_
  exact Es_iret dX6_least_13 rfl ⟨rfl, rfl, rfl⟩

set_option maxRecDepth 100000 in
set_option maxHeartbeats 4000000 in
theorem c_least_lo {ad : sA} {nw nt : Nat} {B : sB} {L : sL} {j : Nat} {y : Int32} (hj : j < 5) (hl : y < 0) : Cf yX5_least cX5_least 5 (some FieldType.int) 2 [.ref (ad 0 0), .int (nI j), .int y] ad nw nt B L (some (.int (-4))) (uB B 5 0 4 (B 5 0 4 + 1)) (L) := by
  have hC : ∀ Q, je_Ok (sCm yX5_least cX5_least 5 (some FieldType.int) 2 ad nw nt Q) RX5 cX5_least 5 2 := fun _ => je_Cm_ok
  refine Cs_of [some (.ref (ad 0 0)), some (.int (nI j)), some (.int y), none, none] (by decide) rfl (Nat.le_of_ble_eq_true rfl) ?_
  refine Es_iload_n (hC _) dX5_least_0 rfl ?_
  refine Es_fS (hC _) ms_X5_81 dX5_least_1 (c_isKind_in hj) rfl rfl (by decide) (Nat.le_of_ble_eq_true rfl) ?_
  refine Es_if_ne (hC _) 13 dX5_least_4 (by decide) (fun hb4 => ?_) (fun hb4 => False.elim ((by first | exact absurd hb4 (by decide) | exact absurd hb4 (by assumption) | exact hb4 (by assumption) | exact hb4 rfl | (simp_all [bI]; done))))
  refine Es_iload_n (hC _) dX5_least_13 rfl ?_
  refine Es_iconst (v := 0) (hC _) dX5_least_14 (by decide) ?_
  refine Es_bipush (v := 100) (hC _) dX5_least_15 (by decide) ?_
  refine Es_fS (hC _) ms_X5_92 dX5_least_17 c_outside rfl rfl (by decide) (Nat.le_of_ble_eq_true rfl) ?_
  rw [(show outs y 0 100 = -4 by simp only [outs]; rw [if_pos hl])]
  refine Es_istore_n (lv' := [_, _, _, _, _]) (hC _) dX5_least_20 (by decide) rfl rfl ?_
  refine Es_iload_n (hC _) dX5_least_21 rfl ?_
  refine Es_if_eq (hC _) 31 dX5_least_22 (by decide) (fun hb22 => False.elim (absurd hb22 (by decide))) (fun hb22 => ?_)
  first | refine Es_aload_n (hC _) dX5_least_25 rfl ?_ | refine Es_aload_nN (hC _) dX5_least_25 rfl ?_
  refine Es_iload_n (hC _) dX5_least_26 rfl ?_
  refine Es_fV (hC _) mv_X5_70 dX5_least_27 (c_refuse (k := 4) (by decide) (by decide)) rfl rfl ⟨_, rfl, rfl⟩ rfl rfl (by decide) (Nat.le_of_ble_eq_true rfl) ?_
  exact Es_iret dX5_least_30 rfl ⟨rfl, rfl, rfl⟩

set_option maxRecDepth 100000 in
set_option maxHeartbeats 4000000 in
theorem r_least_lo {ad : sA} {nw nt : Nat} {B : sB} {L : sL} {j : Nat} {y : Int32} (hj : j < 5) (hl : y < 0) : Cf yX6_least cX6_least 4 (some FieldType.int) 1 [.ref (ad 25 0), .int (nI j), .int y] ad nw nt B L (some (.int (-4))) (uB B 30 0 4 (B 30 0 4 + 1)) (L) := by
  have hC : ∀ Q, je_Ok (sCm yX6_least cX6_least 4 (some FieldType.int) 1 ad nw nt Q) RX6 cX6_least 4 1 := fun _ => je_Cm_ok
  refine Cs_of [some (.ref (ad 25 0)), some (.int (nI j)), some (.int y), none] (by decide) rfl (Nat.le_of_ble_eq_true rfl) ?_
  refine Es_iload_n (hC _) dX6_least_0 rfl ?_
  refine Es_iconst (v := 5) (hC _) dX6_least_1 (by decide) ?_
  refine Es_fS (hC _) ms_X6_89 dX6_least_2 (r_isIn_in (n := 5) hj (by decide)) rfl rfl (by decide) (Nat.le_of_ble_eq_true rfl) ?_
  refine Es_if_ne (hC _) 14 dX6_least_5 (by decide) (fun hb5 => ?_) (fun hb5 => False.elim ((by first | exact absurd hb5 (by decide) | exact absurd hb5 (by assumption) | exact hb5 (by assumption) | exact hb5 rfl | (simp_all [bI]; done))))
  refine Es_iload_n (hC _) dX6_least_14 rfl ?_
  refine Es_if_ge (hC _) 25 dX6_least_15 (by decide) (fun hb15 => False.elim (Int32.not_lt.mpr hb15 hl)) (fun hb15 => ?_)
  first | refine Es_aload_n (hC _) dX6_least_18 rfl ?_ | refine Es_aload_nN (hC _) dX6_least_18 rfl ?_
  refine Es_bipush (v := -4) (hC _) dX6_least_19 (by decide) ?_
  refine Es_fV (hC _) mv_X6_93 dX6_least_21 (r_refuse (k := 4) (by decide) (by decide)) rfl rfl ⟨_, rfl, rfl⟩ rfl rfl (by decide) (Nat.le_of_ble_eq_true rfl) ?_
  exact Es_iret dX6_least_24 rfl ⟨rfl, rfl, rfl⟩

set_option maxRecDepth 100000 in
set_option maxHeartbeats 4000000 in
theorem c_least_hi {ad : sA} {nw nt : Nat} {B : sB} {L : sL} {j : Nat} {y : Int32} (hj : j < 5) (hl : ¬ y < 0) (hh : 100 < y) : Cf yX5_least cX5_least 5 (some FieldType.int) 2 [.ref (ad 0 0), .int (nI j), .int y] ad nw nt B L (some (.int (-6))) (uB B 5 0 6 (B 5 0 6 + 1)) (L) := by
  have hC : ∀ Q, je_Ok (sCm yX5_least cX5_least 5 (some FieldType.int) 2 ad nw nt Q) RX5 cX5_least 5 2 := fun _ => je_Cm_ok
  refine Cs_of [some (.ref (ad 0 0)), some (.int (nI j)), some (.int y), none, none] (by decide) rfl (Nat.le_of_ble_eq_true rfl) ?_
  refine Es_iload_n (hC _) dX5_least_0 rfl ?_
  refine Es_fS (hC _) ms_X5_81 dX5_least_1 (c_isKind_in hj) rfl rfl (by decide) (Nat.le_of_ble_eq_true rfl) ?_
  refine Es_if_ne (hC _) 13 dX5_least_4 (by decide) (fun hb4 => ?_) (fun hb4 => False.elim ((by first | exact absurd hb4 (by decide) | exact absurd hb4 (by assumption) | exact hb4 (by assumption) | exact hb4 rfl | (simp_all [bI]; done))))
  refine Es_iload_n (hC _) dX5_least_13 rfl ?_
  refine Es_iconst (v := 0) (hC _) dX5_least_14 (by decide) ?_
  refine Es_bipush (v := 100) (hC _) dX5_least_15 (by decide) ?_
  refine Es_fS (hC _) ms_X5_92 dX5_least_17 c_outside rfl rfl (by decide) (Nat.le_of_ble_eq_true rfl) ?_
  rw [(show outs y 0 100 = -6 by simp only [outs]; rw [if_neg hl, if_pos hh])]
  refine Es_istore_n (lv' := [_, _, _, _, _]) (hC _) dX5_least_20 (by decide) rfl rfl ?_
  refine Es_iload_n (hC _) dX5_least_21 rfl ?_
  refine Es_if_eq (hC _) 31 dX5_least_22 (by decide) (fun hb22 => False.elim (absurd hb22 (by decide))) (fun hb22 => ?_)
  first | refine Es_aload_n (hC _) dX5_least_25 rfl ?_ | refine Es_aload_nN (hC _) dX5_least_25 rfl ?_
  refine Es_iload_n (hC _) dX5_least_26 rfl ?_
  refine Es_fV (hC _) mv_X5_70 dX5_least_27 (c_refuse (k := 6) (by decide) (by decide)) rfl rfl ⟨_, rfl, rfl⟩ rfl rfl (by decide) (Nat.le_of_ble_eq_true rfl) ?_
  exact Es_iret dX5_least_30 rfl ⟨rfl, rfl, rfl⟩

set_option maxRecDepth 100000 in
set_option maxHeartbeats 4000000 in
theorem r_least_hi {ad : sA} {nw nt : Nat} {B : sB} {L : sL} {j : Nat} {y : Int32} (hj : j < 5) (hl : ¬ y < 0) (hh : 100 < y) : Cf yX6_least cX6_least 4 (some FieldType.int) 1 [.ref (ad 25 0), .int (nI j), .int y] ad nw nt B L (some (.int (-6))) (uB B 30 0 6 (B 30 0 6 + 1)) (L) := by
  have hC : ∀ Q, je_Ok (sCm yX6_least cX6_least 4 (some FieldType.int) 1 ad nw nt Q) RX6 cX6_least 4 1 := fun _ => je_Cm_ok
  refine Cs_of [some (.ref (ad 25 0)), some (.int (nI j)), some (.int y), none] (by decide) rfl (Nat.le_of_ble_eq_true rfl) ?_
  refine Es_iload_n (hC _) dX6_least_0 rfl ?_
  refine Es_iconst (v := 5) (hC _) dX6_least_1 (by decide) ?_
  refine Es_fS (hC _) ms_X6_89 dX6_least_2 (r_isIn_in (n := 5) hj (by decide)) rfl rfl (by decide) (Nat.le_of_ble_eq_true rfl) ?_
  refine Es_if_ne (hC _) 14 dX6_least_5 (by decide) (fun hb5 => ?_) (fun hb5 => False.elim ((by first | exact absurd hb5 (by decide) | exact absurd hb5 (by assumption) | exact hb5 (by assumption) | exact hb5 rfl | (simp_all [bI]; done))))
  refine Es_iload_n (hC _) dX6_least_14 rfl ?_
  refine Es_if_ge (hC _) 25 dX6_least_15 (by decide) (fun hb15 => ?_) (fun hb15 => False.elim (hb15 (Int32.not_lt.mp hl)))
  refine Es_iload_n (hC _) dX6_least_25 rfl ?_
  refine Es_bipush (v := 100) (hC _) dX6_least_26 (by decide) ?_
  refine Es_icmp_le (hC _) 38 dX6_least_28 (by decide) (fun hb28 => False.elim (Int32.not_lt.mpr hb28 hh)) (fun hb28 => ?_)
  first | refine Es_aload_n (hC _) dX6_least_31 rfl ?_ | refine Es_aload_nN (hC _) dX6_least_31 rfl ?_
  refine Es_bipush (v := -6) (hC _) dX6_least_32 (by decide) ?_
  refine Es_fV (hC _) mv_X6_93 dX6_least_34 (r_refuse (k := 6) (by decide) (by decide)) rfl rfl ⟨_, rfl, rfl⟩ rfl rfl (by decide) (Nat.le_of_ble_eq_true rfl) ?_
  exact Es_iret dX6_least_37 rfl ⟨rfl, rfl, rfl⟩

set_option maxRecDepth 100000 in
set_option maxHeartbeats 4000000 in
theorem c_least_ok {ad : sA} {nw nt : Nat} {B : sB} {L : sL} {j : Nat} {y : Int32} (hj : j < 5) (hl : ¬ y < 0) (hh : ¬ 100 < y) : Cf yX5_least cX5_least 5 (some FieldType.int) 2 [.ref (ad 0 0), .int (nI j), .int y] ad nw nt B L (some (.int (B 3 0 j))) (uB B 3 0 j y) (L) := by
  have hC : ∀ Q, je_Ok (sCm yX5_least cX5_least 5 (some FieldType.int) 2 ad nw nt Q) RX5 cX5_least 5 2 := fun _ => je_Cm_ok
  refine Cs_of [some (.ref (ad 0 0)), some (.int (nI j)), some (.int y), none, none] (by decide) rfl (Nat.le_of_ble_eq_true rfl) ?_
  refine Es_iload_n (hC _) dX5_least_0 rfl ?_
  refine Es_fS (hC _) ms_X5_81 dX5_least_1 (c_isKind_in hj) rfl rfl (by decide) (Nat.le_of_ble_eq_true rfl) ?_
  refine Es_if_ne (hC _) 13 dX5_least_4 (by decide) (fun hb4 => ?_) (fun hb4 => False.elim ((by first | exact absurd hb4 (by decide) | exact absurd hb4 (by assumption) | exact hb4 (by assumption) | exact hb4 rfl | (simp_all [bI]; done))))
  refine Es_iload_n (hC _) dX5_least_13 rfl ?_
  refine Es_iconst (v := 0) (hC _) dX5_least_14 (by decide) ?_
  refine Es_bipush (v := 100) (hC _) dX5_least_15 (by decide) ?_
  refine Es_fS (hC _) ms_X5_92 dX5_least_17 c_outside rfl rfl (by decide) (Nat.le_of_ble_eq_true rfl) ?_
  rw [show outs y 0 100 = 0 by simp only [outs]; rw [if_neg hl, if_neg hh]]
  refine Es_istore_n (lv' := [_, _, _, _, _]) (hC _) dX5_least_20 (by decide) rfl rfl ?_
  refine Es_iload_n (hC _) dX5_least_21 rfl ?_
  refine Es_if_eq (hC _) 31 dX5_least_22 (by decide) (fun hb22 => ?_) (fun hb22 => False.elim (hb22 rfl))
  first | refine Es_aload_n (hC _) dX5_least_31 rfl ?_ | refine Es_aload_nN (hC _) dX5_least_31 rfl ?_
  refine Sg_X5_2 (hC _) fl_X5_30 dX5_least_32 ?_
  refine Es_iload_n (hC _) dX5_least_35 rfl ?_
  refine Es_fS (hC _) ms_X5_96 dX5_least_36 (c_at (kd := 3) (n := 5) rfl rfl rfl hj (by decide)) rfl rfl (by decide) (Nat.le_of_ble_eq_true rfl) ?_
  refine Es_istore (lv' := [_, _, _, _, _]) (hC _) dX5_least_39 (by decide) rfl rfl ?_
  first | refine Es_aload_n (hC _) dX5_least_41 rfl ?_ | refine Es_aload_nN (hC _) dX5_least_41 rfl ?_
  refine Sg_X5_2 (hC _) fl_X5_30 dX5_least_42 ?_
  refine Es_iload_n (hC _) dX5_least_45 rfl ?_
  refine Es_iload_n (hC _) dX5_least_46 rfl ?_
  refine Es_fS (hC _) ms_X5_100 dX5_least_47 (c_write (kd := 3) (n := 5) rfl (fun _ => rfl) rfl hj (by decide)) rfl rfl (by decide) (Nat.le_of_ble_eq_true rfl) ?_
  refine Es_iload (hC _) dX5_least_50 rfl ?_
  exact Es_iret dX5_least_52 rfl ⟨rfl, rfl, rfl⟩

set_option maxRecDepth 100000 in
set_option maxHeartbeats 4000000 in
theorem r_least_ok {ad : sA} {nw nt : Nat} {B : sB} {L : sL} {j : Nat} {y : Int32} (hj : j < 5) (hl : ¬ y < 0) (hh : ¬ 100 < y) : Cf yX6_least cX6_least 4 (some FieldType.int) 1 [.ref (ad 25 0), .int (nI j), .int y] ad nw nt B L (some (.int (B 31 0 j))) (uB B 31 0 j y) (L) := by
  have hC : ∀ Q, je_Ok (sCm yX6_least cX6_least 4 (some FieldType.int) 1 ad nw nt Q) RX6 cX6_least 4 1 := fun _ => je_Cm_ok
  refine Cs_of [some (.ref (ad 25 0)), some (.int (nI j)), some (.int y), none] (by decide) rfl (Nat.le_of_ble_eq_true rfl) ?_
  refine Es_iload_n (hC _) dX6_least_0 rfl ?_
  refine Es_iconst (v := 5) (hC _) dX6_least_1 (by decide) ?_
  refine Es_fS (hC _) ms_X6_89 dX6_least_2 (r_isIn_in (n := 5) hj (by decide)) rfl rfl (by decide) (Nat.le_of_ble_eq_true rfl) ?_
  refine Es_if_ne (hC _) 14 dX6_least_5 (by decide) (fun hb5 => ?_) (fun hb5 => False.elim ((by first | exact absurd hb5 (by decide) | exact absurd hb5 (by assumption) | exact hb5 (by assumption) | exact hb5 rfl | (simp_all [bI]; done))))
  refine Es_iload_n (hC _) dX6_least_14 rfl ?_
  refine Es_if_ge (hC _) 25 dX6_least_15 (by decide) (fun hb15 => ?_) (fun hb15 => False.elim (hb15 (Int32.not_lt.mp hl)))
  refine Es_iload_n (hC _) dX6_least_25 rfl ?_
  refine Es_bipush (v := 100) (hC _) dX6_least_26 (by decide) ?_
  refine Es_icmp_le (hC _) 38 dX6_least_28 (by decide) (fun hb28 => ?_) (fun hb28 => False.elim (hb28 (Int32.not_lt.mp hh)))
  first | refine Es_aload_n (hC _) dX6_least_38 rfl ?_ | refine Es_aload_nN (hC _) dX6_least_38 rfl ?_
  refine Sg_X6_1 (hC _) fl_X6_13 dX6_least_39 ?_
  refine Es_iload_n (hC _) dX6_least_42 rfl ?_
  refine Es_ialdN (hC _) dX6_least_43 rfl rfl rfl (by omega) (by decide) ?_
  refine Es_istore_n (lv' := [_, _, _, _]) (hC _) dX6_least_44 (by decide) rfl rfl ?_
  first | refine Es_aload_n (hC _) dX6_least_45 rfl ?_ | refine Es_aload_nN (hC _) dX6_least_45 rfl ?_
  refine Sg_X6_1 (hC _) fl_X6_13 dX6_least_46 ?_
  refine Es_iload_n (hC _) dX6_least_49 rfl ?_
  refine Es_iload_n (hC _) dX6_least_50 rfl ?_
  refine Es_iastN (hC _) dX6_least_51 rfl (fun _ => rfl) rfl (by omega) (by decide) ?_
  refine Es_iload_n (hC _) dX6_least_52 rfl ?_
  exact Es_iret dX6_least_53 rfl ⟨rfl, rfl, rfl⟩

set_option maxRecDepth 100000 in
set_option maxHeartbeats 4000000 in
theorem c_apart_lo {ad : sA} {nw nt : Nat} {B : sB} {L : sL} {y : Int32} (hl : y < 0) : Cf yX5_apart cX5_apart 4 (some FieldType.int) 2 [.ref (ad 0 0), .int y] ad nw nt B L (some (.int (-4))) (uB B 5 0 4 (B 5 0 4 + 1)) (L) := by
  have hC : ∀ Q, je_Ok (sCm yX5_apart cX5_apart 4 (some FieldType.int) 2 ad nw nt Q) RX5 cX5_apart 4 2 := fun _ => je_Cm_ok
  refine Cs_of [some (.ref (ad 0 0)), some (.int y), none, none] (by decide) rfl (Nat.le_of_ble_eq_true rfl) ?_
  refine Es_iload_n (hC _) dX5_apart_0 rfl ?_
  refine Es_iconst (v := 0) (hC _) dX5_apart_1 (by decide) ?_
  refine Es_bipush (v := 100) (hC _) dX5_apart_2 (by decide) ?_
  refine Es_fS (hC _) ms_X5_92 dX5_apart_4 c_outside rfl rfl (by decide) (Nat.le_of_ble_eq_true rfl) ?_
  rw [(show outs y 0 100 = -4 by simp only [outs]; rw [if_pos hl])]
  refine Es_istore_n (lv' := [_, _, _, _]) (hC _) dX5_apart_7 (by decide) rfl rfl ?_
  refine Es_iload_n (hC _) dX5_apart_8 rfl ?_
  refine Es_if_eq (hC _) 18 dX5_apart_9 (by decide) (fun hb9 => False.elim (absurd hb9 (by decide))) (fun hb9 => ?_)
  first | refine Es_aload_n (hC _) dX5_apart_12 rfl ?_ | refine Es_aload_nN (hC _) dX5_apart_12 rfl ?_
  refine Es_iload_n (hC _) dX5_apart_13 rfl ?_
  refine Es_fV (hC _) mv_X5_70 dX5_apart_14 (c_refuse (k := 4) (by decide) (by decide)) rfl rfl ⟨_, rfl, rfl⟩ rfl rfl (by decide) (Nat.le_of_ble_eq_true rfl) ?_
  exact Es_iret dX5_apart_17 rfl ⟨rfl, rfl, rfl⟩

set_option maxRecDepth 100000 in
set_option maxHeartbeats 4000000 in
theorem r_apart_lo {ad : sA} {nw nt : Nat} {B : sB} {L : sL} {y : Int32} (hl : y < 0) : Cf yX6_apart cX6_apart 3 (some FieldType.int) 1 [.ref (ad 25 0), .int y] ad nw nt B L (some (.int (-4))) (uB B 30 0 4 (B 30 0 4 + 1)) (L) := by
  have hC : ∀ Q, je_Ok (sCm yX6_apart cX6_apart 3 (some FieldType.int) 1 ad nw nt Q) RX6 cX6_apart 3 1 := fun _ => je_Cm_ok
  refine Cs_of [some (.ref (ad 25 0)), some (.int y), none] (by decide) rfl (Nat.le_of_ble_eq_true rfl) ?_
  refine Es_iload_n (hC _) dX6_apart_0 rfl ?_
  refine Es_if_ge (hC _) 11 dX6_apart_1 (by decide) (fun hb1 => False.elim (Int32.not_lt.mpr hb1 hl)) (fun hb1 => ?_)
  first | refine Es_aload_n (hC _) dX6_apart_4 rfl ?_ | refine Es_aload_nN (hC _) dX6_apart_4 rfl ?_
  refine Es_bipush (v := -4) (hC _) dX6_apart_5 (by decide) ?_
  refine Es_fV (hC _) mv_X6_93 dX6_apart_7 (r_refuse (k := 4) (by decide) (by decide)) rfl rfl ⟨_, rfl, rfl⟩ rfl rfl (by decide) (Nat.le_of_ble_eq_true rfl) ?_
  exact Es_iret dX6_apart_10 rfl ⟨rfl, rfl, rfl⟩

set_option maxRecDepth 100000 in
set_option maxHeartbeats 4000000 in
theorem c_apart_hi {ad : sA} {nw nt : Nat} {B : sB} {L : sL} {y : Int32} (hl : ¬ y < 0) (hh : 100 < y) : Cf yX5_apart cX5_apart 4 (some FieldType.int) 2 [.ref (ad 0 0), .int y] ad nw nt B L (some (.int (-6))) (uB B 5 0 6 (B 5 0 6 + 1)) (L) := by
  have hC : ∀ Q, je_Ok (sCm yX5_apart cX5_apart 4 (some FieldType.int) 2 ad nw nt Q) RX5 cX5_apart 4 2 := fun _ => je_Cm_ok
  refine Cs_of [some (.ref (ad 0 0)), some (.int y), none, none] (by decide) rfl (Nat.le_of_ble_eq_true rfl) ?_
  refine Es_iload_n (hC _) dX5_apart_0 rfl ?_
  refine Es_iconst (v := 0) (hC _) dX5_apart_1 (by decide) ?_
  refine Es_bipush (v := 100) (hC _) dX5_apart_2 (by decide) ?_
  refine Es_fS (hC _) ms_X5_92 dX5_apart_4 c_outside rfl rfl (by decide) (Nat.le_of_ble_eq_true rfl) ?_
  rw [(show outs y 0 100 = -6 by simp only [outs]; rw [if_neg hl, if_pos hh])]
  refine Es_istore_n (lv' := [_, _, _, _]) (hC _) dX5_apart_7 (by decide) rfl rfl ?_
  refine Es_iload_n (hC _) dX5_apart_8 rfl ?_
  refine Es_if_eq (hC _) 18 dX5_apart_9 (by decide) (fun hb9 => False.elim (absurd hb9 (by decide))) (fun hb9 => ?_)
  first | refine Es_aload_n (hC _) dX5_apart_12 rfl ?_ | refine Es_aload_nN (hC _) dX5_apart_12 rfl ?_
  refine Es_iload_n (hC _) dX5_apart_13 rfl ?_
  refine Es_fV (hC _) mv_X5_70 dX5_apart_14 (c_refuse (k := 6) (by decide) (by decide)) rfl rfl ⟨_, rfl, rfl⟩ rfl rfl (by decide) (Nat.le_of_ble_eq_true rfl) ?_
  exact Es_iret dX5_apart_17 rfl ⟨rfl, rfl, rfl⟩

set_option maxRecDepth 100000 in
set_option maxHeartbeats 4000000 in
theorem r_apart_hi {ad : sA} {nw nt : Nat} {B : sB} {L : sL} {y : Int32} (hl : ¬ y < 0) (hh : 100 < y) : Cf yX6_apart cX6_apart 3 (some FieldType.int) 1 [.ref (ad 25 0), .int y] ad nw nt B L (some (.int (-6))) (uB B 30 0 6 (B 30 0 6 + 1)) (L) := by
  have hC : ∀ Q, je_Ok (sCm yX6_apart cX6_apart 3 (some FieldType.int) 1 ad nw nt Q) RX6 cX6_apart 3 1 := fun _ => je_Cm_ok
  refine Cs_of [some (.ref (ad 25 0)), some (.int y), none] (by decide) rfl (Nat.le_of_ble_eq_true rfl) ?_
  refine Es_iload_n (hC _) dX6_apart_0 rfl ?_
  refine Es_if_ge (hC _) 11 dX6_apart_1 (by decide) (fun hb1 => ?_) (fun hb1 => False.elim (hb1 (Int32.not_lt.mp hl)))
  refine Es_iload_n (hC _) dX6_apart_11 rfl ?_
  refine Es_bipush (v := 100) (hC _) dX6_apart_12 (by decide) ?_
  refine Es_icmp_le (hC _) 24 dX6_apart_14 (by decide) (fun hb14 => False.elim (Int32.not_lt.mpr hb14 hh)) (fun hb14 => ?_)
  first | refine Es_aload_n (hC _) dX6_apart_17 rfl ?_ | refine Es_aload_nN (hC _) dX6_apart_17 rfl ?_
  refine Es_bipush (v := -6) (hC _) dX6_apart_18 (by decide) ?_
  refine Es_fV (hC _) mv_X6_93 dX6_apart_20 (r_refuse (k := 6) (by decide) (by decide)) rfl rfl ⟨_, rfl, rfl⟩ rfl rfl (by decide) (Nat.le_of_ble_eq_true rfl) ?_
  exact Es_iret dX6_apart_23 rfl ⟨rfl, rfl, rfl⟩

set_option maxRecDepth 100000 in
set_option maxHeartbeats 4000000 in
theorem c_apart_ok {ad : sA} {nw nt : Nat} {B : sB} {L : sL} {y : Int32} (hl : ¬ y < 0) (hh : ¬ 100 < y) : Cf yX5_apart cX5_apart 4 (some FieldType.int) 2 [.ref (ad 0 0), .int y] ad nw nt B L (some (.int (B 0 0 10))) (uB B 0 0 10 y) (L) := by
  have hC : ∀ Q, je_Ok (sCm yX5_apart cX5_apart 4 (some FieldType.int) 2 ad nw nt Q) RX5 cX5_apart 4 2 := fun _ => je_Cm_ok
  refine Cs_of [some (.ref (ad 0 0)), some (.int y), none, none] (by decide) rfl (Nat.le_of_ble_eq_true rfl) ?_
  refine Es_iload_n (hC _) dX5_apart_0 rfl ?_
  refine Es_iconst (v := 0) (hC _) dX5_apart_1 (by decide) ?_
  refine Es_bipush (v := 100) (hC _) dX5_apart_2 (by decide) ?_
  refine Es_fS (hC _) ms_X5_92 dX5_apart_4 c_outside rfl rfl (by decide) (Nat.le_of_ble_eq_true rfl) ?_
  rw [show outs y 0 100 = 0 by simp only [outs]; rw [if_neg hl, if_neg hh]]
  refine Es_istore_n (lv' := [_, _, _, _]) (hC _) dX5_apart_7 (by decide) rfl rfl ?_
  refine Es_iload_n (hC _) dX5_apart_8 rfl ?_
  refine Es_if_eq (hC _) 18 dX5_apart_9 (by decide) (fun hb9 => ?_) (fun hb9 => False.elim (hb9 rfl))
  first | refine Es_aload_n (hC _) dX5_apart_18 rfl ?_ | refine Es_aload_nN (hC _) dX5_apart_18 rfl ?_
  refine Sg_X5_10 (hC _) fl_X5_63 dX5_apart_19 ?_
  refine Es_istore_n (lv' := [_, _, _, _]) (hC _) dX5_apart_22 (by decide) rfl rfl ?_
  first | refine Es_aload_n (hC _) dX5_apart_23 rfl ?_ | refine Es_aload_nN (hC _) dX5_apart_23 rfl ?_
  refine Es_iload_n (hC _) dX5_apart_24 rfl ?_
  refine Sp_X5_10 (hC _) fl_X5_63 dX5_apart_25 ?_
  refine Es_iload_n (hC _) dX5_apart_28 rfl ?_
  exact Es_iret dX5_apart_29 rfl ⟨rfl, rfl, rfl⟩

set_option maxRecDepth 100000 in
set_option maxHeartbeats 4000000 in
theorem r_apart_ok {ad : sA} {nw nt : Nat} {B : sB} {L : sL} {y : Int32} (hl : ¬ y < 0) (hh : ¬ 100 < y) : Cf yX6_apart cX6_apart 3 (some FieldType.int) 1 [.ref (ad 25 0), .int y] ad nw nt B L (some (.int (B 25 0 6))) (uB B 25 0 6 y) (L) := by
  have hC : ∀ Q, je_Ok (sCm yX6_apart cX6_apart 3 (some FieldType.int) 1 ad nw nt Q) RX6 cX6_apart 3 1 := fun _ => je_Cm_ok
  refine Cs_of [some (.ref (ad 25 0)), some (.int y), none] (by decide) rfl (Nat.le_of_ble_eq_true rfl) ?_
  refine Es_iload_n (hC _) dX6_apart_0 rfl ?_
  refine Es_if_ge (hC _) 11 dX6_apart_1 (by decide) (fun hb1 => ?_) (fun hb1 => False.elim (hb1 (Int32.not_lt.mp hl)))
  refine Es_iload_n (hC _) dX6_apart_11 rfl ?_
  refine Es_bipush (v := 100) (hC _) dX6_apart_12 (by decide) ?_
  refine Es_icmp_le (hC _) 24 dX6_apart_14 (by decide) (fun hb14 => ?_) (fun hb14 => False.elim (hb14 (Int32.not_lt.mp hh)))
  first | refine Es_aload_n (hC _) dX6_apart_24 rfl ?_ | refine Es_aload_nN (hC _) dX6_apart_24 rfl ?_
  refine Sg_X6_6 (hC _) fl_X6_19 dX6_apart_25 ?_
  refine Es_istore_n (lv' := [_, _, _]) (hC _) dX6_apart_28 (by decide) rfl rfl ?_
  first | refine Es_aload_n (hC _) dX6_apart_29 rfl ?_ | refine Es_aload_nN (hC _) dX6_apart_29 rfl ?_
  refine Es_iload_n (hC _) dX6_apart_30 rfl ?_
  refine Sp_X6_6 (hC _) fl_X6_19 dX6_apart_31 ?_
  refine Es_iload_n (hC _) dX6_apart_34 rfl ?_
  exact Es_iret dX6_apart_35 rfl ⟨rfl, rfl, rfl⟩

set_option maxRecDepth 100000 in
set_option maxHeartbeats 4000000 in
theorem c_put_1a {ad : sA} {nw nt : Nat} {B : sB} {L : sL} (hnt : B 0 0 9 = nI nt) (h40 : nt ≤ 40) (hnw : B 0 0 8 = nI nw) (h5 : nw ≤ 5) {x : Int32} (hot : out x nt) {y : Int32} (how : out y nw) {z : Int32} : Cf yX5_put cX5_put 6 (some FieldType.int) 5 [.ref (ad 0 0), .int x, .int y, .int z] ad nw nt B L (some (.int (-1))) (uB B 5 0 1 (B 5 0 1 + 1)) (L) := by
  have hC : ∀ Q, je_Ok (sCm yX5_put cX5_put 6 (some FieldType.int) 5 ad nw nt Q) RX5 cX5_put 6 5 := fun _ => je_Cm_ok
  refine Cs_of [some (.ref (ad 0 0)), some (.int x), some (.int y), some (.int z), none, none] (by decide) rfl (Nat.le_of_ble_eq_true rfl) ?_
  first | refine Es_aload_n (hC _) dX5_put_0 rfl ?_ | refine Es_aload_nN (hC _) dX5_put_0 rfl ?_
  refine Es_iload_n (hC _) dX5_put_1 rfl ?_
  refine Es_fV (hC _) mv_X5_132 dX5_put_2 (c_tyreAt_out hnt hot) rfl rfl ⟨_, rfl, rfl⟩ rfl rfl (by decide) (Nat.le_of_ble_eq_true rfl) ?_
  first | refine Es_astore (lv' := [_, _, _, _, _, _]) (hC _) dX5_put_5 (by decide) rfl rfl ?_ | refine Es_astoreN (lv' := [_, _, _, _, _, _]) (hC _) dX5_put_5 (by decide) rfl rfl ?_
  first | refine Es_aload_n (hC _) dX5_put_7 rfl ?_ | refine Es_aload_nN (hC _) dX5_put_7 rfl ?_
  refine Es_iload_n (hC _) dX5_put_8 rfl ?_
  refine Es_fV (hC _) mv_X5_77 dX5_put_9 (c_wagonAt_out hnw how) rfl rfl ⟨_, rfl, rfl⟩ rfl rfl (by decide) (Nat.le_of_ble_eq_true rfl) ?_
  first | refine Es_astore (lv' := [_, _, _, _, _, _]) (hC _) dX5_put_12 (by decide) rfl rfl ?_ | refine Es_astoreN (lv' := [_, _, _, _, _, _]) (hC _) dX5_put_12 (by decide) rfl rfl ?_
  first | refine Es_aload (hC _) dX5_put_14 rfl ?_ | refine Es_aloadN (hC _) dX5_put_14 rfl ?_
  refine Es_ifnullN (hC _) 33 dX5_put_16 (by decide) ?_
  first | refine Es_aload_n (hC _) dX5_put_33 rfl ?_ | refine Es_aload_nN (hC _) dX5_put_33 rfl ?_
  refine Es_iconst (v := -1) (hC _) dX5_put_34 (by decide) ?_
  refine Es_fV (hC _) mv_X5_70 dX5_put_35 (c_refuse (k := 1) (by decide) (by decide)) rfl rfl ⟨_, rfl, rfl⟩ rfl rfl (by decide) (Nat.le_of_ble_eq_true rfl) ?_
  exact Es_iret dX5_put_38 rfl ⟨rfl, rfl, rfl⟩

set_option maxRecDepth 100000 in
set_option maxHeartbeats 4000000 in
theorem c_put_1b {ad : sA} {nw nt : Nat} {B : sB} {L : sL} (hnt : B 0 0 9 = nI nt) (h40 : nt ≤ 40) (hnw : B 0 0 8 = nI nw) (h5 : nw ≤ 5) {x : Int32} (hot : out x nt) {w : Nat} (hw : w < nw) {z : Int32} : Cf yX5_put cX5_put 6 (some FieldType.int) 5 [.ref (ad 0 0), .int x, .int (nI w), .int z] ad nw nt B L (some (.int (-1))) (uB B 5 0 1 (B 5 0 1 + 1)) (L) := by
  have hC : ∀ Q, je_Ok (sCm yX5_put cX5_put 6 (some FieldType.int) 5 ad nw nt Q) RX5 cX5_put 6 5 := fun _ => je_Cm_ok
  refine Cs_of [some (.ref (ad 0 0)), some (.int x), some (.int (nI w)), some (.int z), none, none] (by decide) rfl (Nat.le_of_ble_eq_true rfl) ?_
  first | refine Es_aload_n (hC _) dX5_put_0 rfl ?_ | refine Es_aload_nN (hC _) dX5_put_0 rfl ?_
  refine Es_iload_n (hC _) dX5_put_1 rfl ?_
  refine Es_fV (hC _) mv_X5_132 dX5_put_2 (c_tyreAt_out hnt hot) rfl rfl ⟨_, rfl, rfl⟩ rfl rfl (by decide) (Nat.le_of_ble_eq_true rfl) ?_
  first | refine Es_astore (lv' := [_, _, _, _, _, _]) (hC _) dX5_put_5 (by decide) rfl rfl ?_ | refine Es_astoreN (lv' := [_, _, _, _, _, _]) (hC _) dX5_put_5 (by decide) rfl rfl ?_
  first | refine Es_aload_n (hC _) dX5_put_7 rfl ?_ | refine Es_aload_nN (hC _) dX5_put_7 rfl ?_
  refine Es_iload_n (hC _) dX5_put_8 rfl ?_
  refine Es_fV (hC _) mv_X5_77 dX5_put_9 (c_wagonAt_in hnw h5 hw) rfl rfl ⟨_, rfl, rfl⟩ rfl rfl (by decide) (Nat.le_of_ble_eq_true rfl) ?_
  first | refine Es_astore (lv' := [_, _, _, _, _, _]) (hC _) dX5_put_12 (by decide) rfl rfl ?_ | refine Es_astoreN (lv' := [_, _, _, _, _, _]) (hC _) dX5_put_12 (by decide) rfl rfl ?_
  first | refine Es_aload (hC _) dX5_put_14 rfl ?_ | refine Es_aloadN (hC _) dX5_put_14 rfl ?_
  refine Es_ifnullN (hC _) 33 dX5_put_16 (by decide) ?_
  first | refine Es_aload_n (hC _) dX5_put_33 rfl ?_ | refine Es_aload_nN (hC _) dX5_put_33 rfl ?_
  refine Es_iconst (v := -1) (hC _) dX5_put_34 (by decide) ?_
  refine Es_fV (hC _) mv_X5_70 dX5_put_35 (c_refuse (k := 1) (by decide) (by decide)) rfl rfl ⟨_, rfl, rfl⟩ rfl rfl (by decide) (Nat.le_of_ble_eq_true rfl) ?_
  exact Es_iret dX5_put_38 rfl ⟨rfl, rfl, rfl⟩

set_option maxRecDepth 100000 in
set_option maxHeartbeats 4000000 in
theorem c_put_1c {ad : sA} {nw nt : Nat} {B : sB} {L : sL} (hnt : B 0 0 9 = nI nt) (h40 : nt ≤ 40) (hnw : B 0 0 8 = nI nw) (h5 : nw ≤ 5) {t : Nat} (ht : t < nt) {y : Int32} (how : out y nw) {z : Int32} : Cf yX5_put cX5_put 6 (some FieldType.int) 5 [.ref (ad 0 0), .int (nI t), .int y, .int z] ad nw nt B L (some (.int (-1))) (uB B 5 0 1 (B 5 0 1 + 1)) (L) := by
  have hC : ∀ Q, je_Ok (sCm yX5_put cX5_put 6 (some FieldType.int) 5 ad nw nt Q) RX5 cX5_put 6 5 := fun _ => je_Cm_ok
  refine Cs_of [some (.ref (ad 0 0)), some (.int (nI t)), some (.int y), some (.int z), none, none] (by decide) rfl (Nat.le_of_ble_eq_true rfl) ?_
  first | refine Es_aload_n (hC _) dX5_put_0 rfl ?_ | refine Es_aload_nN (hC _) dX5_put_0 rfl ?_
  refine Es_iload_n (hC _) dX5_put_1 rfl ?_
  refine Es_fV (hC _) mv_X5_132 dX5_put_2 (c_tyreAt_in hnt h40 ht) rfl rfl ⟨_, rfl, rfl⟩ rfl rfl (by decide) (Nat.le_of_ble_eq_true rfl) ?_
  first | refine Es_astore (lv' := [_, _, _, _, _, _]) (hC _) dX5_put_5 (by decide) rfl rfl ?_ | refine Es_astoreN (lv' := [_, _, _, _, _, _]) (hC _) dX5_put_5 (by decide) rfl rfl ?_
  first | refine Es_aload_n (hC _) dX5_put_7 rfl ?_ | refine Es_aload_nN (hC _) dX5_put_7 rfl ?_
  refine Es_iload_n (hC _) dX5_put_8 rfl ?_
  refine Es_fV (hC _) mv_X5_77 dX5_put_9 (c_wagonAt_out hnw how) rfl rfl ⟨_, rfl, rfl⟩ rfl rfl (by decide) (Nat.le_of_ble_eq_true rfl) ?_
  first | refine Es_astore (lv' := [_, _, _, _, _, _]) (hC _) dX5_put_12 (by decide) rfl rfl ?_ | refine Es_astoreN (lv' := [_, _, _, _, _, _]) (hC _) dX5_put_12 (by decide) rfl rfl ?_
  first | refine Es_aload (hC _) dX5_put_14 rfl ?_ | refine Es_aloadN (hC _) dX5_put_14 rfl ?_
  refine Es_ifnull (hC _) dX5_put_16 ?_
  first | refine Es_aload (hC _) dX5_put_19 rfl ?_ | refine Es_aloadN (hC _) dX5_put_19 rfl ?_
  refine Es_ifnullN (hC _) 33 dX5_put_21 (by decide) ?_
  first | refine Es_aload_n (hC _) dX5_put_33 rfl ?_ | refine Es_aload_nN (hC _) dX5_put_33 rfl ?_
  refine Es_iconst (v := -1) (hC _) dX5_put_34 (by decide) ?_
  refine Es_fV (hC _) mv_X5_70 dX5_put_35 (c_refuse (k := 1) (by decide) (by decide)) rfl rfl ⟨_, rfl, rfl⟩ rfl rfl (by decide) (Nat.le_of_ble_eq_true rfl) ?_
  exact Es_iret dX5_put_38 rfl ⟨rfl, rfl, rfl⟩

set_option maxRecDepth 100000 in
set_option maxHeartbeats 4000000 in
theorem c_put_1d {ad : sA} {nw nt : Nat} {B : sB} {L : sL} (hnt : B 0 0 9 = nI nt) (h40 : nt ≤ 40) (hnw : B 0 0 8 = nI nw) (h5 : nw ≤ 5) {t : Nat} (ht : t < nt) {w : Nat} (hw : w < nw) {p : Nat} {z : Int32} (hp : B 18 w 3 = nI p) (h7 : p ≤ 7) (hoz : out z p)  : Cf yX5_put cX5_put 6 (some FieldType.int) 5 [.ref (ad 0 0), .int (nI t), .int (nI w), .int z] ad nw nt B L (some (.int (-1))) (uB B 5 0 1 (B 5 0 1 + 1)) (L) := by
  have hC : ∀ Q, je_Ok (sCm yX5_put cX5_put 6 (some FieldType.int) 5 ad nw nt Q) RX5 cX5_put 6 5 := fun _ => je_Cm_ok
  refine Cs_of [some (.ref (ad 0 0)), some (.int (nI t)), some (.int (nI w)), some (.int z), none, none] (by decide) rfl (Nat.le_of_ble_eq_true rfl) ?_
  first | refine Es_aload_n (hC _) dX5_put_0 rfl ?_ | refine Es_aload_nN (hC _) dX5_put_0 rfl ?_
  refine Es_iload_n (hC _) dX5_put_1 rfl ?_
  refine Es_fV (hC _) mv_X5_132 dX5_put_2 (c_tyreAt_in hnt h40 ht) rfl rfl ⟨_, rfl, rfl⟩ rfl rfl (by decide) (Nat.le_of_ble_eq_true rfl) ?_
  first | refine Es_astore (lv' := [_, _, _, _, _, _]) (hC _) dX5_put_5 (by decide) rfl rfl ?_ | refine Es_astoreN (lv' := [_, _, _, _, _, _]) (hC _) dX5_put_5 (by decide) rfl rfl ?_
  first | refine Es_aload_n (hC _) dX5_put_7 rfl ?_ | refine Es_aload_nN (hC _) dX5_put_7 rfl ?_
  refine Es_iload_n (hC _) dX5_put_8 rfl ?_
  refine Es_fV (hC _) mv_X5_77 dX5_put_9 (c_wagonAt_in hnw h5 hw) rfl rfl ⟨_, rfl, rfl⟩ rfl rfl (by decide) (Nat.le_of_ble_eq_true rfl) ?_
  first | refine Es_astore (lv' := [_, _, _, _, _, _]) (hC _) dX5_put_12 (by decide) rfl rfl ?_ | refine Es_astoreN (lv' := [_, _, _, _, _, _]) (hC _) dX5_put_12 (by decide) rfl rfl ?_
  first | refine Es_aload (hC _) dX5_put_14 rfl ?_ | refine Es_aloadN (hC _) dX5_put_14 rfl ?_
  refine Es_ifnull (hC _) dX5_put_16 ?_
  first | refine Es_aload (hC _) dX5_put_19 rfl ?_ | refine Es_aloadN (hC _) dX5_put_19 rfl ?_
  refine Es_ifnull (hC _) dX5_put_21 ?_
  first | refine Es_aload (hC _) dX5_put_24 rfl ?_ | refine Es_aloadN (hC _) dX5_put_24 rfl ?_
  refine Es_iload_n (hC _) dX5_put_26 rfl ?_
  refine Es_fV (hC _) mv_X5_136 dX5_put_27 (c_hasPlace_out hw hp h7 hoz) (ok18 hw) rfl ⟨_, rfl, rfl⟩ rfl rfl (by decide) (Nat.le_of_ble_eq_true rfl) ?_
  refine Es_if_ne (hC _) 39 dX5_put_30 (by decide) (fun hb30 => False.elim ((by first | exact absurd hb30 (by decide) | exact absurd hb30 (by assumption) | exact hb30 (by assumption) | exact hb30 rfl | (simp_all [bI]; done)))) (fun hb30 => ?_)
  first | refine Es_aload_n (hC _) dX5_put_33 rfl ?_ | refine Es_aload_nN (hC _) dX5_put_33 rfl ?_
  refine Es_iconst (v := -1) (hC _) dX5_put_34 (by decide) ?_
  refine Es_fV (hC _) mv_X5_70 dX5_put_35 (c_refuse (k := 1) (by decide) (by decide)) rfl rfl ⟨_, rfl, rfl⟩ rfl rfl (by decide) (Nat.le_of_ble_eq_true rfl) ?_
  exact Es_iret dX5_put_38 rfl ⟨rfl, rfl, rfl⟩

set_option maxRecDepth 100000 in
set_option maxHeartbeats 4000000 in
theorem c_put_2 {ad : sA} {nw nt : Nat} {B : sB} {L : sL} (hnt : B 0 0 9 = nI nt) (h40 : nt ≤ 40) (hnw : B 0 0 8 = nI nw) (h5 : nw ≤ 5) {t : Nat} (ht : t < nt) {w : Nat} (hw : w < nw) {p q : Nat} (hp : B 18 w 3 = nI p) (h7 : p ≤ 7) (hq : q < p) (hwh : ¬ B 21 t 10 = -1) : Cf yX5_put cX5_put 6 (some FieldType.int) 5 [.ref (ad 0 0), .int (nI t), .int (nI w), .int (nI q)] ad nw nt B L (some (.int (-2))) (uB B 5 0 2 (B 5 0 2 + 1)) (L) := by
  have hC : ∀ Q, je_Ok (sCm yX5_put cX5_put 6 (some FieldType.int) 5 ad nw nt Q) RX5 cX5_put 6 5 := fun _ => je_Cm_ok
  refine Cs_of [some (.ref (ad 0 0)), some (.int (nI t)), some (.int (nI w)), some (.int (nI q)), none, none] (by decide) rfl (Nat.le_of_ble_eq_true rfl) ?_
  first | refine Es_aload_n (hC _) dX5_put_0 rfl ?_ | refine Es_aload_nN (hC _) dX5_put_0 rfl ?_
  refine Es_iload_n (hC _) dX5_put_1 rfl ?_
  refine Es_fV (hC _) mv_X5_132 dX5_put_2 (c_tyreAt_in hnt h40 ht) rfl rfl ⟨_, rfl, rfl⟩ rfl rfl (by decide) (Nat.le_of_ble_eq_true rfl) ?_
  first | refine Es_astore (lv' := [_, _, _, _, _, _]) (hC _) dX5_put_5 (by decide) rfl rfl ?_ | refine Es_astoreN (lv' := [_, _, _, _, _, _]) (hC _) dX5_put_5 (by decide) rfl rfl ?_
  first | refine Es_aload_n (hC _) dX5_put_7 rfl ?_ | refine Es_aload_nN (hC _) dX5_put_7 rfl ?_
  refine Es_iload_n (hC _) dX5_put_8 rfl ?_
  refine Es_fV (hC _) mv_X5_77 dX5_put_9 (c_wagonAt_in hnw h5 hw) rfl rfl ⟨_, rfl, rfl⟩ rfl rfl (by decide) (Nat.le_of_ble_eq_true rfl) ?_
  first | refine Es_astore (lv' := [_, _, _, _, _, _]) (hC _) dX5_put_12 (by decide) rfl rfl ?_ | refine Es_astoreN (lv' := [_, _, _, _, _, _]) (hC _) dX5_put_12 (by decide) rfl rfl ?_
  first | refine Es_aload (hC _) dX5_put_14 rfl ?_ | refine Es_aloadN (hC _) dX5_put_14 rfl ?_
  refine Es_ifnull (hC _) dX5_put_16 ?_
  first | refine Es_aload (hC _) dX5_put_19 rfl ?_ | refine Es_aloadN (hC _) dX5_put_19 rfl ?_
  refine Es_ifnull (hC _) dX5_put_21 ?_
  first | refine Es_aload (hC _) dX5_put_24 rfl ?_ | refine Es_aloadN (hC _) dX5_put_24 rfl ?_
  refine Es_iload_n (hC _) dX5_put_26 rfl ?_
  refine Es_fV (hC _) mv_X5_136 dX5_put_27 (c_hasPlace_in hw hp h7 hq) (ok18 hw) rfl ⟨_, rfl, rfl⟩ rfl rfl (by decide) (Nat.le_of_ble_eq_true rfl) ?_
  refine Es_if_ne (hC _) 39 dX5_put_30 (by decide) (fun hb30 => ?_) (fun hb30 => False.elim ((by first | exact absurd hb30 (by decide) | exact absurd hb30 (by assumption) | exact hb30 (by assumption) | exact hb30 rfl | (simp_all [bI]; done))))
  first | refine Es_aload (hC _) dX5_put_39 rfl ?_ | refine Es_aloadN (hC _) dX5_put_39 rfl ?_
  refine Sg_X2_10 (hC _) fl_X5_139 dX5_put_41 (by assumption) ?_
  refine Es_iconst (v := -1) (hC _) dX5_put_44 (by decide) ?_
  refine Es_icmp_ne (hC _) 57 dX5_put_45 (by decide) (fun hb45 => ?_) (fun hb45 => False.elim ((by first | exact absurd hb45 (by decide) | exact absurd hb45 (by assumption) | exact hb45 (by assumption) | exact hb45 rfl | (simp_all [bI]; done))))
  first | refine Es_aload_n (hC _) dX5_put_57 rfl ?_ | refine Es_aload_nN (hC _) dX5_put_57 rfl ?_
  refine Es_bipush (v := -2) (hC _) dX5_put_58 (by decide) ?_
  refine Es_fV (hC _) mv_X5_70 dX5_put_60 (c_refuse (k := 2) (by decide) (by decide)) rfl rfl ⟨_, rfl, rfl⟩ rfl rfl (by decide) (Nat.le_of_ble_eq_true rfl) ?_
  exact Es_iret dX5_put_63 rfl ⟨rfl, rfl, rfl⟩

set_option maxRecDepth 100000 in
set_option maxHeartbeats 4000000 in
theorem c_put_3 {ad : sA} {nw nt : Nat} {B : sB} {L : sL} (hnt : B 0 0 9 = nI nt) (h40 : nt ≤ 40) (hnw : B 0 0 8 = nI nw) (h5 : nw ≤ 5) {t : Nat} (ht : t < nt) {w : Nat} (hw : w < nw) {p q : Nat} (hp : B 18 w 3 = nI p) (h7 : p ≤ 7) (hq : q < p) {a : Nat} (hwh : B 21 t 10 = -1) (hon : B 20 w q = nI a) (ha : a < 2 ^ 31) : Cf yX5_put cX5_put 6 (some FieldType.int) 5 [.ref (ad 0 0), .int (nI t), .int (nI w), .int (nI q)] ad nw nt B L (some (.int (-2))) (uB B 5 0 2 (B 5 0 2 + 1)) (L) := by
  have hC : ∀ Q, je_Ok (sCm yX5_put cX5_put 6 (some FieldType.int) 5 ad nw nt Q) RX5 cX5_put 6 5 := fun _ => je_Cm_ok
  refine Cs_of [some (.ref (ad 0 0)), some (.int (nI t)), some (.int (nI w)), some (.int (nI q)), none, none] (by decide) rfl (Nat.le_of_ble_eq_true rfl) ?_
  first | refine Es_aload_n (hC _) dX5_put_0 rfl ?_ | refine Es_aload_nN (hC _) dX5_put_0 rfl ?_
  refine Es_iload_n (hC _) dX5_put_1 rfl ?_
  refine Es_fV (hC _) mv_X5_132 dX5_put_2 (c_tyreAt_in hnt h40 ht) rfl rfl ⟨_, rfl, rfl⟩ rfl rfl (by decide) (Nat.le_of_ble_eq_true rfl) ?_
  first | refine Es_astore (lv' := [_, _, _, _, _, _]) (hC _) dX5_put_5 (by decide) rfl rfl ?_ | refine Es_astoreN (lv' := [_, _, _, _, _, _]) (hC _) dX5_put_5 (by decide) rfl rfl ?_
  first | refine Es_aload_n (hC _) dX5_put_7 rfl ?_ | refine Es_aload_nN (hC _) dX5_put_7 rfl ?_
  refine Es_iload_n (hC _) dX5_put_8 rfl ?_
  refine Es_fV (hC _) mv_X5_77 dX5_put_9 (c_wagonAt_in hnw h5 hw) rfl rfl ⟨_, rfl, rfl⟩ rfl rfl (by decide) (Nat.le_of_ble_eq_true rfl) ?_
  first | refine Es_astore (lv' := [_, _, _, _, _, _]) (hC _) dX5_put_12 (by decide) rfl rfl ?_ | refine Es_astoreN (lv' := [_, _, _, _, _, _]) (hC _) dX5_put_12 (by decide) rfl rfl ?_
  first | refine Es_aload (hC _) dX5_put_14 rfl ?_ | refine Es_aloadN (hC _) dX5_put_14 rfl ?_
  refine Es_ifnull (hC _) dX5_put_16 ?_
  first | refine Es_aload (hC _) dX5_put_19 rfl ?_ | refine Es_aloadN (hC _) dX5_put_19 rfl ?_
  refine Es_ifnull (hC _) dX5_put_21 ?_
  first | refine Es_aload (hC _) dX5_put_24 rfl ?_ | refine Es_aloadN (hC _) dX5_put_24 rfl ?_
  refine Es_iload_n (hC _) dX5_put_26 rfl ?_
  refine Es_fV (hC _) mv_X5_136 dX5_put_27 (c_hasPlace_in hw hp h7 hq) (ok18 hw) rfl ⟨_, rfl, rfl⟩ rfl rfl (by decide) (Nat.le_of_ble_eq_true rfl) ?_
  refine Es_if_ne (hC _) 39 dX5_put_30 (by decide) (fun hb30 => ?_) (fun hb30 => False.elim ((by first | exact absurd hb30 (by decide) | exact absurd hb30 (by assumption) | exact hb30 (by assumption) | exact hb30 rfl | (simp_all [bI]; done))))
  first | refine Es_aload (hC _) dX5_put_39 rfl ?_ | refine Es_aloadN (hC _) dX5_put_39 rfl ?_
  refine Sg_X2_10 (hC _) fl_X5_139 dX5_put_41 (by assumption) ?_
  refine Es_iconst (v := -1) (hC _) dX5_put_44 (by decide) ?_
  refine Es_icmp_ne (hC _) 57 dX5_put_45 (by decide) (fun hb45 => False.elim ((by first | exact absurd hb45 (by decide) | exact absurd hb45 (by assumption) | exact hb45 (by assumption) | exact hb45 rfl | (simp_all [bI]; done)))) (fun hb45 => ?_)
  first | refine Es_aload (hC _) dX5_put_48 rfl ?_ | refine Es_aloadN (hC _) dX5_put_48 rfl ?_
  refine Es_iload_n (hC _) dX5_put_50 rfl ?_
  refine Es_fV (hC _) mv_X5_142 dX5_put_51 (c_tyreOn_in hw hp h7 hq) (ok18 hw) rfl ⟨_, rfl, rfl⟩ rfl rfl (by decide) (Nat.le_of_ble_eq_true rfl) ?_
  rw [show rT ad (B 20 w q) = some (ad 21 a) by rw [hon, rT, if_neg (nI_pos ha), nI_clamp ha]]
  refine Es_ifnull (hC _) dX5_put_54 ?_
  first | refine Es_aload_n (hC _) dX5_put_57 rfl ?_ | refine Es_aload_nN (hC _) dX5_put_57 rfl ?_
  refine Es_bipush (v := -2) (hC _) dX5_put_58 (by decide) ?_
  refine Es_fV (hC _) mv_X5_70 dX5_put_60 (c_refuse (k := 2) (by decide) (by decide)) rfl rfl ⟨_, rfl, rfl⟩ rfl rfl (by decide) (Nat.le_of_ble_eq_true rfl) ?_
  exact Es_iret dX5_put_63 rfl ⟨rfl, rfl, rfl⟩

set_option maxRecDepth 100000 in
set_option maxHeartbeats 4000000 in
theorem c_put_4 {ad : sA} {nw nt : Nat} {B : sB} {L : sL} (hnt : B 0 0 9 = nI nt) (h40 : nt ≤ 40) (hnw : B 0 0 8 = nI nw) (h5 : nw ≤ 5) {t : Nat} (ht : t < nt) {w : Nat} (hw : w < nw) {p q : Nat} (hp : B 18 w 3 = nI p) (h7 : p ≤ 7) (hq : q < p) (hwh : B 21 t 10 = -1) (hon : B 20 w q = -1) (hk : B 6 0 3 = nI 600) : Cf yX5_put cX5_put 6 (some FieldType.int) 5 [.ref (ad 0 0), .int (nI t), .int (nI w), .int (nI q)] ad nw nt B L (some (.int (-6))) (uB B 5 0 6 (B 5 0 6 + 1)) (L) := by
  have hC : ∀ Q, je_Ok (sCm yX5_put cX5_put 6 (some FieldType.int) 5 ad nw nt Q) RX5 cX5_put 6 5 := fun _ => je_Cm_ok
  refine Cs_of [some (.ref (ad 0 0)), some (.int (nI t)), some (.int (nI w)), some (.int (nI q)), none, none] (by decide) rfl (Nat.le_of_ble_eq_true rfl) ?_
  first | refine Es_aload_n (hC _) dX5_put_0 rfl ?_ | refine Es_aload_nN (hC _) dX5_put_0 rfl ?_
  refine Es_iload_n (hC _) dX5_put_1 rfl ?_
  refine Es_fV (hC _) mv_X5_132 dX5_put_2 (c_tyreAt_in hnt h40 ht) rfl rfl ⟨_, rfl, rfl⟩ rfl rfl (by decide) (Nat.le_of_ble_eq_true rfl) ?_
  first | refine Es_astore (lv' := [_, _, _, _, _, _]) (hC _) dX5_put_5 (by decide) rfl rfl ?_ | refine Es_astoreN (lv' := [_, _, _, _, _, _]) (hC _) dX5_put_5 (by decide) rfl rfl ?_
  first | refine Es_aload_n (hC _) dX5_put_7 rfl ?_ | refine Es_aload_nN (hC _) dX5_put_7 rfl ?_
  refine Es_iload_n (hC _) dX5_put_8 rfl ?_
  refine Es_fV (hC _) mv_X5_77 dX5_put_9 (c_wagonAt_in hnw h5 hw) rfl rfl ⟨_, rfl, rfl⟩ rfl rfl (by decide) (Nat.le_of_ble_eq_true rfl) ?_
  first | refine Es_astore (lv' := [_, _, _, _, _, _]) (hC _) dX5_put_12 (by decide) rfl rfl ?_ | refine Es_astoreN (lv' := [_, _, _, _, _, _]) (hC _) dX5_put_12 (by decide) rfl rfl ?_
  first | refine Es_aload (hC _) dX5_put_14 rfl ?_ | refine Es_aloadN (hC _) dX5_put_14 rfl ?_
  refine Es_ifnull (hC _) dX5_put_16 ?_
  first | refine Es_aload (hC _) dX5_put_19 rfl ?_ | refine Es_aloadN (hC _) dX5_put_19 rfl ?_
  refine Es_ifnull (hC _) dX5_put_21 ?_
  first | refine Es_aload (hC _) dX5_put_24 rfl ?_ | refine Es_aloadN (hC _) dX5_put_24 rfl ?_
  refine Es_iload_n (hC _) dX5_put_26 rfl ?_
  refine Es_fV (hC _) mv_X5_136 dX5_put_27 (c_hasPlace_in hw hp h7 hq) (ok18 hw) rfl ⟨_, rfl, rfl⟩ rfl rfl (by decide) (Nat.le_of_ble_eq_true rfl) ?_
  refine Es_if_ne (hC _) 39 dX5_put_30 (by decide) (fun hb30 => ?_) (fun hb30 => False.elim ((by first | exact absurd hb30 (by decide) | exact absurd hb30 (by assumption) | exact hb30 (by assumption) | exact hb30 rfl | (simp_all [bI]; done))))
  first | refine Es_aload (hC _) dX5_put_39 rfl ?_ | refine Es_aloadN (hC _) dX5_put_39 rfl ?_
  refine Sg_X2_10 (hC _) fl_X5_139 dX5_put_41 (by assumption) ?_
  refine Es_iconst (v := -1) (hC _) dX5_put_44 (by decide) ?_
  refine Es_icmp_ne (hC _) 57 dX5_put_45 (by decide) (fun hb45 => False.elim ((by first | exact absurd hb45 (by decide) | exact absurd hb45 (by assumption) | exact hb45 (by assumption) | exact hb45 rfl | (simp_all [bI]; done)))) (fun hb45 => ?_)
  first | refine Es_aload (hC _) dX5_put_48 rfl ?_ | refine Es_aloadN (hC _) dX5_put_48 rfl ?_
  refine Es_iload_n (hC _) dX5_put_50 rfl ?_
  refine Es_fV (hC _) mv_X5_142 dX5_put_51 (c_tyreOn_in hw hp h7 hq) (ok18 hw) rfl ⟨_, rfl, rfl⟩ rfl rfl (by decide) (Nat.le_of_ble_eq_true rfl) ?_
  rw [show rT ad (B 20 w q) = none by rw [hon]; rfl]
  refine Es_ifnullN (hC _) 64 dX5_put_54 (by decide) ?_
  first | refine Es_aload_n (hC _) dX5_put_64 rfl ?_ | refine Es_aload_nN (hC _) dX5_put_64 rfl ?_
  refine Sg_X5_5 (hC _) fl_X5_45 dX5_put_65 ?_
  refine Es_iconst (v := 1) (hC _) dX5_put_68 (by decide) ?_
  refine Es_fV (hC _) mv_X5_113 dX5_put_69 (c_hasRoomFor (m := 1) hk (by decide) (by decide)) rfl rfl ⟨_, rfl, rfl⟩ rfl rfl (by decide) (Nat.le_of_ble_eq_true rfl) ?_
  refine Es_if_ne (hC _) 82 dX5_put_72 (by decide) (fun hb72 => False.elim ((by first | exact absurd hb72 (by decide) | exact absurd hb72 (by assumption) | exact hb72 (by assumption) | exact hb72 rfl | (simp_all [bI]; done)))) (fun hb72 => ?_)
  first | refine Es_aload_n (hC _) dX5_put_75 rfl ?_ | refine Es_aload_nN (hC _) dX5_put_75 rfl ?_
  refine Es_bipush (v := -6) (hC _) dX5_put_76 (by decide) ?_
  refine Es_fV (hC _) mv_X5_70 dX5_put_78 (c_refuse (k := 6) (by decide) (by decide)) rfl rfl ⟨_, rfl, rfl⟩ rfl rfl (by decide) (Nat.le_of_ble_eq_true rfl) ?_
  exact Es_iret dX5_put_81 rfl ⟨rfl, rfl, rfl⟩

set_option maxRecDepth 100000 in
set_option maxHeartbeats 4000000 in
theorem c_put_5 {ad : sA} {nw nt : Nat} {B : sB} {L : sL} (hnt : B 0 0 9 = nI nt) (h40 : nt ≤ 40) (hnw : B 0 0 8 = nI nw) (h5 : nw ≤ 5) {t : Nat} (ht : t < nt) {w : Nat} (hw : w < nw) {p q : Nat} (hp : B 18 w 3 = nI p) (h7 : p ≤ 7) (hq : q < p) {k : Nat} (hwh : B 21 t 10 = -1) (hon : B 20 w q = -1) (hk : B 6 0 3 = nI k) (h6 : k < 600) (hwn : B 18 w 0 = nI w) : Cf yX5_put cX5_put 6 (some FieldType.int) 5 [.ref (ad 0 0), .int (nI t), .int (nI w), .int (nI q)] ad nw nt B L (some (.int 1)) (cLog (uB (uB B 20 w q (nI t)) 21 t 10 (nI (10 * w + q))) k (B 0 0 11) (B 21 t 0) (nI (10 * w + q))) (L) := by
  have hC : ∀ Q, je_Ok (sCm yX5_put cX5_put 6 (some FieldType.int) 5 ad nw nt Q) RX5 cX5_put 6 5 := fun _ => je_Cm_ok
  refine Cs_of [some (.ref (ad 0 0)), some (.int (nI t)), some (.int (nI w)), some (.int (nI q)), none, none] (by decide) rfl (Nat.le_of_ble_eq_true rfl) ?_
  first | refine Es_aload_n (hC _) dX5_put_0 rfl ?_ | refine Es_aload_nN (hC _) dX5_put_0 rfl ?_
  refine Es_iload_n (hC _) dX5_put_1 rfl ?_
  refine Es_fV (hC _) mv_X5_132 dX5_put_2 (c_tyreAt_in hnt h40 ht) rfl rfl ⟨_, rfl, rfl⟩ rfl rfl (by decide) (Nat.le_of_ble_eq_true rfl) ?_
  first | refine Es_astore (lv' := [_, _, _, _, _, _]) (hC _) dX5_put_5 (by decide) rfl rfl ?_ | refine Es_astoreN (lv' := [_, _, _, _, _, _]) (hC _) dX5_put_5 (by decide) rfl rfl ?_
  first | refine Es_aload_n (hC _) dX5_put_7 rfl ?_ | refine Es_aload_nN (hC _) dX5_put_7 rfl ?_
  refine Es_iload_n (hC _) dX5_put_8 rfl ?_
  refine Es_fV (hC _) mv_X5_77 dX5_put_9 (c_wagonAt_in hnw h5 hw) rfl rfl ⟨_, rfl, rfl⟩ rfl rfl (by decide) (Nat.le_of_ble_eq_true rfl) ?_
  first | refine Es_astore (lv' := [_, _, _, _, _, _]) (hC _) dX5_put_12 (by decide) rfl rfl ?_ | refine Es_astoreN (lv' := [_, _, _, _, _, _]) (hC _) dX5_put_12 (by decide) rfl rfl ?_
  first | refine Es_aload (hC _) dX5_put_14 rfl ?_ | refine Es_aloadN (hC _) dX5_put_14 rfl ?_
  refine Es_ifnull (hC _) dX5_put_16 ?_
  first | refine Es_aload (hC _) dX5_put_19 rfl ?_ | refine Es_aloadN (hC _) dX5_put_19 rfl ?_
  refine Es_ifnull (hC _) dX5_put_21 ?_
  first | refine Es_aload (hC _) dX5_put_24 rfl ?_ | refine Es_aloadN (hC _) dX5_put_24 rfl ?_
  refine Es_iload_n (hC _) dX5_put_26 rfl ?_
  refine Es_fV (hC _) mv_X5_136 dX5_put_27 (c_hasPlace_in hw hp h7 hq) (ok18 hw) rfl ⟨_, rfl, rfl⟩ rfl rfl (by decide) (Nat.le_of_ble_eq_true rfl) ?_
  refine Es_if_ne (hC _) 39 dX5_put_30 (by decide) (fun hb30 => ?_) (fun hb30 => False.elim ((by first | exact absurd hb30 (by decide) | exact absurd hb30 (by assumption) | exact hb30 (by assumption) | exact hb30 rfl | (simp_all [bI]; done))))
  first | refine Es_aload (hC _) dX5_put_39 rfl ?_ | refine Es_aloadN (hC _) dX5_put_39 rfl ?_
  refine Sg_X2_10 (hC _) fl_X5_139 dX5_put_41 (by assumption) ?_
  refine Es_iconst (v := -1) (hC _) dX5_put_44 (by decide) ?_
  refine Es_icmp_ne (hC _) 57 dX5_put_45 (by decide) (fun hb45 => False.elim ((by first | exact absurd hb45 (by decide) | exact absurd hb45 (by assumption) | exact hb45 (by assumption) | exact hb45 rfl | (simp_all [bI]; done)))) (fun hb45 => ?_)
  first | refine Es_aload (hC _) dX5_put_48 rfl ?_ | refine Es_aloadN (hC _) dX5_put_48 rfl ?_
  refine Es_iload_n (hC _) dX5_put_50 rfl ?_
  refine Es_fV (hC _) mv_X5_142 dX5_put_51 (c_tyreOn_in hw hp h7 hq) (ok18 hw) rfl ⟨_, rfl, rfl⟩ rfl rfl (by decide) (Nat.le_of_ble_eq_true rfl) ?_
  rw [show rT ad (B 20 w q) = none by rw [hon]; rfl]
  refine Es_ifnullN (hC _) 64 dX5_put_54 (by decide) ?_
  first | refine Es_aload_n (hC _) dX5_put_64 rfl ?_ | refine Es_aload_nN (hC _) dX5_put_64 rfl ?_
  refine Sg_X5_5 (hC _) fl_X5_45 dX5_put_65 ?_
  refine Es_iconst (v := 1) (hC _) dX5_put_68 (by decide) ?_
  refine Es_fV (hC _) mv_X5_113 dX5_put_69 (c_hasRoomFor (m := 1) hk (by omega) (by decide)) rfl rfl ⟨_, rfl, rfl⟩ rfl rfl (by decide) (Nat.le_of_ble_eq_true rfl) ?_
  refine Es_if_ne (hC _) 82 dX5_put_72 (by decide) (fun hb72 => ?_) (fun hb72 => False.elim (absurd hb72 (by rw [bI, if_pos (by omega)]; decide)))
  first | refine Es_aload (hC _) dX5_put_82 rfl ?_ | refine Es_aloadN (hC _) dX5_put_82 rfl ?_
  refine Es_iload_n (hC _) dX5_put_84 rfl ?_
  first | refine Es_aload (hC _) dX5_put_85 rfl ?_ | refine Es_aloadN (hC _) dX5_put_85 rfl ?_
  refine Es_fV (hC _) mv_X5_145 dX5_put_87 (c_lay hw hp h7 hq ht (by omega)) (ok18 hw) rfl ⟨_, rfl, rfl⟩ rfl rfl (by decide) (Nat.le_of_ble_eq_true rfl) ?_
  first | refine Es_aload_n (hC _) dX5_put_90 rfl ?_ | refine Es_aload_nN (hC _) dX5_put_90 rfl ?_
  first | refine Es_aload (hC _) dX5_put_91 rfl ?_ | refine Es_aloadN (hC _) dX5_put_91 rfl ?_
  first | refine Es_aload (hC _) dX5_put_93 rfl ?_ | refine Es_aloadN (hC _) dX5_put_93 rfl ?_
  refine Es_iload_n (hC _) dX5_put_95 rfl ?_
  refine Es_fV (hC _) mv_X5_149 dX5_put_96 (c_spot hw (by rw [uB_n (by omega)]; exact hwn)) (ok18 hw) rfl ⟨_, rfl, rfl⟩ rfl rfl (by decide) (Nat.le_of_ble_eq_true rfl) ?_
  refine Es_fV (hC _) mv_X5_128 dX5_put_99 (c_move ht (by rw [uB_n (by omega)]; exact hk) h6) rfl rfl ⟨_, rfl, rfl⟩ rfl rfl (by decide) (Nat.le_of_ble_eq_true rfl) ?_
  refine Es_iconst (v := 1) (hC _) dX5_put_102 (by decide) ?_
  exact Es_iret dX5_put_103 rfl ⟨rfl, by rw [uB_n (by omega), uB_n (by omega)], rfl⟩

set_option maxRecDepth 100000 in
set_option maxHeartbeats 4000000 in
theorem r_put_1a {ad : sA} {nw nt : Nat} {B : sB} {L : sL} (hnt : B 25 0 5 = nI nt) (h40 : nt ≤ 40) {x : Int32} (hot : out x nt) {y z : Int32} : Cf yX6_put cX6_put 4 (some FieldType.int) 3 [.ref (ad 25 0), .int x, .int y, .int z] ad nw nt B L (some (.int (-1))) (uB B 30 0 1 (B 30 0 1 + 1)) (L) := by
  have hC : ∀ Q, je_Ok (sCm yX6_put cX6_put 4 (some FieldType.int) 3 ad nw nt Q) RX6 cX6_put 4 3 := fun _ => je_Cm_ok
  refine Cs_of [some (.ref (ad 25 0)), some (.int x), some (.int y), some (.int z)] (by decide) rfl (Nat.le_of_ble_eq_true rfl) ?_
  refine Es_iload_n (hC _) dX6_put_0 rfl ?_
  first | refine Es_aload_n (hC _) dX6_put_1 rfl ?_ | refine Es_aload_nN (hC _) dX6_put_1 rfl ?_
  refine Sg_X6_5 (hC _) fl_X6_107 dX6_put_2 ?_
  rw [hnt]
  refine Es_fS (hC _) ms_X6_89 dX6_put_5 (r_isIn_out hot) rfl rfl (by decide) (Nat.le_of_ble_eq_true rfl) ?_
  refine Es_if_eq (hC _) 20 dX6_put_8 (by decide) (fun hb8 => ?_) (fun hb8 => False.elim ((by first | exact absurd hb8 (by decide) | exact absurd hb8 (by assumption) | exact hb8 (by assumption) | exact hb8 rfl | (simp_all [bI]; done))))
  first | refine Es_aload_n (hC _) dX6_put_20 rfl ?_ | refine Es_aload_nN (hC _) dX6_put_20 rfl ?_
  refine Es_iconst (v := -1) (hC _) dX6_put_21 (by decide) ?_
  refine Es_fV (hC _) mv_X6_93 dX6_put_22 (r_refuse (k := 1) (by decide) (by decide)) rfl rfl ⟨_, rfl, rfl⟩ rfl rfl (by decide) (Nat.le_of_ble_eq_true rfl) ?_
  exact Es_iret dX6_put_25 rfl ⟨rfl, rfl, rfl⟩

set_option maxRecDepth 100000 in
set_option maxHeartbeats 4000000 in
theorem r_put_1b {ad : sA} {nw nt : Nat} {B : sB} {L : sL} (hnt : B 25 0 5 = nI nt) (h40 : nt ≤ 40) (hnw : B 25 0 4 = nI nw) (h5 : nw ≤ 5) {t : Nat} (ht : t < nt) {y : Int32} (how : out y nw) {z : Int32} : Cf yX6_put cX6_put 4 (some FieldType.int) 3 [.ref (ad 25 0), .int (nI t), .int y, .int z] ad nw nt B L (some (.int (-1))) (uB B 30 0 1 (B 30 0 1 + 1)) (L) := by
  have hC : ∀ Q, je_Ok (sCm yX6_put cX6_put 4 (some FieldType.int) 3 ad nw nt Q) RX6 cX6_put 4 3 := fun _ => je_Cm_ok
  refine Cs_of [some (.ref (ad 25 0)), some (.int (nI t)), some (.int y), some (.int z)] (by decide) rfl (Nat.le_of_ble_eq_true rfl) ?_
  refine Es_iload_n (hC _) dX6_put_0 rfl ?_
  first | refine Es_aload_n (hC _) dX6_put_1 rfl ?_ | refine Es_aload_nN (hC _) dX6_put_1 rfl ?_
  refine Sg_X6_5 (hC _) fl_X6_107 dX6_put_2 ?_
  rw [hnt]
  refine Es_fS (hC _) ms_X6_89 dX6_put_5 (r_isIn_in ht (by omega)) rfl rfl (by decide) (Nat.le_of_ble_eq_true rfl) ?_
  refine Es_if_eq (hC _) 20 dX6_put_8 (by decide) (fun hb8 => False.elim ((by first | exact absurd hb8 (by decide) | exact absurd hb8 (by assumption) | exact hb8 (by assumption) | exact hb8 rfl | (simp_all [bI]; done)))) (fun hb8 => ?_)
  first | refine Es_aload_n (hC _) dX6_put_11 rfl ?_ | refine Es_aload_nN (hC _) dX6_put_11 rfl ?_
  refine Es_iload_n (hC _) dX6_put_12 rfl ?_
  refine Es_iload_n (hC _) dX6_put_13 rfl ?_
  refine Es_fV (hC _) mv_X6_121 dX6_put_14 (r_isPlace_out1 hnw how) rfl rfl ⟨_, rfl, rfl⟩ rfl rfl (by decide) (Nat.le_of_ble_eq_true rfl) ?_
  refine Es_if_ne (hC _) 26 dX6_put_17 (by decide) (fun hb17 => False.elim ((by first | exact absurd hb17 (by decide) | exact absurd hb17 (by assumption) | exact hb17 (by assumption) | exact hb17 rfl | (simp_all [bI]; done)))) (fun hb17 => ?_)
  first | refine Es_aload_n (hC _) dX6_put_20 rfl ?_ | refine Es_aload_nN (hC _) dX6_put_20 rfl ?_
  refine Es_iconst (v := -1) (hC _) dX6_put_21 (by decide) ?_
  refine Es_fV (hC _) mv_X6_93 dX6_put_22 (r_refuse (k := 1) (by decide) (by decide)) rfl rfl ⟨_, rfl, rfl⟩ rfl rfl (by decide) (Nat.le_of_ble_eq_true rfl) ?_
  exact Es_iret dX6_put_25 rfl ⟨rfl, rfl, rfl⟩

set_option maxRecDepth 100000 in
set_option maxHeartbeats 4000000 in
theorem r_put_1c {ad : sA} {nw nt : Nat} {B : sB} {L : sL} (hnt : B 25 0 5 = nI nt) (h40 : nt ≤ 40) (hnw : B 25 0 4 = nI nw) (h5 : nw ≤ 5) {t : Nat} (ht : t < nt) {w : Nat} (hw : w < nw) {p : Nat} {z : Int32} (hp : B 38 0 w = nI p) (h7 : p ≤ 7) (hoz : out z p)  : Cf yX6_put cX6_put 4 (some FieldType.int) 3 [.ref (ad 25 0), .int (nI t), .int (nI w), .int z] ad nw nt B L (some (.int (-1))) (uB B 30 0 1 (B 30 0 1 + 1)) (L) := by
  have hC : ∀ Q, je_Ok (sCm yX6_put cX6_put 4 (some FieldType.int) 3 ad nw nt Q) RX6 cX6_put 4 3 := fun _ => je_Cm_ok
  refine Cs_of [some (.ref (ad 25 0)), some (.int (nI t)), some (.int (nI w)), some (.int z)] (by decide) rfl (Nat.le_of_ble_eq_true rfl) ?_
  refine Es_iload_n (hC _) dX6_put_0 rfl ?_
  first | refine Es_aload_n (hC _) dX6_put_1 rfl ?_ | refine Es_aload_nN (hC _) dX6_put_1 rfl ?_
  refine Sg_X6_5 (hC _) fl_X6_107 dX6_put_2 ?_
  rw [hnt]
  refine Es_fS (hC _) ms_X6_89 dX6_put_5 (r_isIn_in ht (by omega)) rfl rfl (by decide) (Nat.le_of_ble_eq_true rfl) ?_
  refine Es_if_eq (hC _) 20 dX6_put_8 (by decide) (fun hb8 => False.elim ((by first | exact absurd hb8 (by decide) | exact absurd hb8 (by assumption) | exact hb8 (by assumption) | exact hb8 rfl | (simp_all [bI]; done)))) (fun hb8 => ?_)
  first | refine Es_aload_n (hC _) dX6_put_11 rfl ?_ | refine Es_aload_nN (hC _) dX6_put_11 rfl ?_
  refine Es_iload_n (hC _) dX6_put_12 rfl ?_
  refine Es_iload_n (hC _) dX6_put_13 rfl ?_
  refine Es_fV (hC _) mv_X6_121 dX6_put_14 (r_isPlace_out2 hnw h5 hw hp hoz) rfl rfl ⟨_, rfl, rfl⟩ rfl rfl (by decide) (Nat.le_of_ble_eq_true rfl) ?_
  refine Es_if_ne (hC _) 26 dX6_put_17 (by decide) (fun hb17 => False.elim ((by first | exact absurd hb17 (by decide) | exact absurd hb17 (by assumption) | exact hb17 (by assumption) | exact hb17 rfl | (simp_all [bI]; done)))) (fun hb17 => ?_)
  first | refine Es_aload_n (hC _) dX6_put_20 rfl ?_ | refine Es_aload_nN (hC _) dX6_put_20 rfl ?_
  refine Es_iconst (v := -1) (hC _) dX6_put_21 (by decide) ?_
  refine Es_fV (hC _) mv_X6_93 dX6_put_22 (r_refuse (k := 1) (by decide) (by decide)) rfl rfl ⟨_, rfl, rfl⟩ rfl rfl (by decide) (Nat.le_of_ble_eq_true rfl) ?_
  exact Es_iret dX6_put_25 rfl ⟨rfl, rfl, rfl⟩

set_option maxRecDepth 100000 in
set_option maxHeartbeats 4000000 in
theorem r_put_2 {ad : sA} {nw nt : Nat} {B : sB} {L : sL} (hnt : B 25 0 5 = nI nt) (h40 : nt ≤ 40) (hnw : B 25 0 4 = nI nw) (h5 : nw ≤ 5) {t : Nat} (ht : t < nt) {w : Nat} (hw : w < nw) {p q : Nat} (hp : B 38 0 w = nI p) (h7 : p ≤ 7) (hq : q < p) (hwh : ¬ B 47 0 t = -1) : Cf yX6_put cX6_put 4 (some FieldType.int) 3 [.ref (ad 25 0), .int (nI t), .int (nI w), .int (nI q)] ad nw nt B L (some (.int (-2))) (uB B 30 0 2 (B 30 0 2 + 1)) (L) := by
  have hC : ∀ Q, je_Ok (sCm yX6_put cX6_put 4 (some FieldType.int) 3 ad nw nt Q) RX6 cX6_put 4 3 := fun _ => je_Cm_ok
  refine Cs_of [some (.ref (ad 25 0)), some (.int (nI t)), some (.int (nI w)), some (.int (nI q))] (by decide) rfl (Nat.le_of_ble_eq_true rfl) ?_
  refine Es_iload_n (hC _) dX6_put_0 rfl ?_
  first | refine Es_aload_n (hC _) dX6_put_1 rfl ?_ | refine Es_aload_nN (hC _) dX6_put_1 rfl ?_
  refine Sg_X6_5 (hC _) fl_X6_107 dX6_put_2 ?_
  rw [hnt]
  refine Es_fS (hC _) ms_X6_89 dX6_put_5 (r_isIn_in ht (by omega)) rfl rfl (by decide) (Nat.le_of_ble_eq_true rfl) ?_
  refine Es_if_eq (hC _) 20 dX6_put_8 (by decide) (fun hb8 => False.elim ((by first | exact absurd hb8 (by decide) | exact absurd hb8 (by assumption) | exact hb8 (by assumption) | exact hb8 rfl | (simp_all [bI]; done)))) (fun hb8 => ?_)
  first | refine Es_aload_n (hC _) dX6_put_11 rfl ?_ | refine Es_aload_nN (hC _) dX6_put_11 rfl ?_
  refine Es_iload_n (hC _) dX6_put_12 rfl ?_
  refine Es_iload_n (hC _) dX6_put_13 rfl ?_
  refine Es_fV (hC _) mv_X6_121 dX6_put_14 (r_isPlace_in hnw h5 hw hp h7 hq) rfl rfl ⟨_, rfl, rfl⟩ rfl rfl (by decide) (Nat.le_of_ble_eq_true rfl) ?_
  refine Es_if_ne (hC _) 26 dX6_put_17 (by decide) (fun hb17 => ?_) (fun hb17 => False.elim ((by first | exact absurd hb17 (by decide) | exact absurd hb17 (by assumption) | exact hb17 (by assumption) | exact hb17 rfl | (simp_all [bI]; done))))
  first | refine Es_aload_n (hC _) dX6_put_26 rfl ?_ | refine Es_aload_nN (hC _) dX6_put_26 rfl ?_
  refine Sg_X6_17 (hC _) fl_X6_50 dX6_put_27 ?_
  refine Es_iload_n (hC _) dX6_put_30 rfl ?_
  refine Es_ialdN (hC _) dX6_put_31 rfl rfl rfl (by omega) (by decide) ?_
  refine Es_iconst (v := -1) (hC _) dX6_put_32 (by decide) ?_
  refine Es_icmp_ne (hC _) 49 dX6_put_33 (by decide) (fun hb33 => ?_) (fun hb33 => False.elim ((by first | exact absurd hb33 (by decide) | exact absurd hb33 (by assumption) | exact hb33 (by assumption) | exact hb33 rfl | (simp_all [bI]; done))))
  first | refine Es_aload_n (hC _) dX6_put_49 rfl ?_ | refine Es_aload_nN (hC _) dX6_put_49 rfl ?_
  refine Es_bipush (v := -2) (hC _) dX6_put_50 (by decide) ?_
  refine Es_fV (hC _) mv_X6_93 dX6_put_52 (r_refuse (k := 2) (by decide) (by decide)) rfl rfl ⟨_, rfl, rfl⟩ rfl rfl (by decide) (Nat.le_of_ble_eq_true rfl) ?_
  exact Es_iret dX6_put_55 rfl ⟨rfl, rfl, rfl⟩

set_option maxRecDepth 100000 in
set_option maxHeartbeats 4000000 in
theorem r_put_3 {ad : sA} {nw nt : Nat} {B : sB} {L : sL} (hnt : B 25 0 5 = nI nt) (h40 : nt ≤ 40) (hnw : B 25 0 4 = nI nw) (h5 : nw ≤ 5) {t : Nat} (ht : t < nt) {w : Nat} (hw : w < nw) {p q : Nat} (hp : B 38 0 w = nI p) (h7 : p ≤ 7) (hq : q < p) {a : Nat} (hwh : B 47 0 t = -1) (hon : B 40 0 (7 * w + q) = nI a) (ha : a < 2 ^ 31) : Cf yX6_put cX6_put 4 (some FieldType.int) 3 [.ref (ad 25 0), .int (nI t), .int (nI w), .int (nI q)] ad nw nt B L (some (.int (-2))) (uB B 30 0 2 (B 30 0 2 + 1)) (L) := by
  have hC : ∀ Q, je_Ok (sCm yX6_put cX6_put 4 (some FieldType.int) 3 ad nw nt Q) RX6 cX6_put 4 3 := fun _ => je_Cm_ok
  refine Cs_of [some (.ref (ad 25 0)), some (.int (nI t)), some (.int (nI w)), some (.int (nI q))] (by decide) rfl (Nat.le_of_ble_eq_true rfl) ?_
  refine Es_iload_n (hC _) dX6_put_0 rfl ?_
  first | refine Es_aload_n (hC _) dX6_put_1 rfl ?_ | refine Es_aload_nN (hC _) dX6_put_1 rfl ?_
  refine Sg_X6_5 (hC _) fl_X6_107 dX6_put_2 ?_
  rw [hnt]
  refine Es_fS (hC _) ms_X6_89 dX6_put_5 (r_isIn_in ht (by omega)) rfl rfl (by decide) (Nat.le_of_ble_eq_true rfl) ?_
  refine Es_if_eq (hC _) 20 dX6_put_8 (by decide) (fun hb8 => False.elim ((by first | exact absurd hb8 (by decide) | exact absurd hb8 (by assumption) | exact hb8 (by assumption) | exact hb8 rfl | (simp_all [bI]; done)))) (fun hb8 => ?_)
  first | refine Es_aload_n (hC _) dX6_put_11 rfl ?_ | refine Es_aload_nN (hC _) dX6_put_11 rfl ?_
  refine Es_iload_n (hC _) dX6_put_12 rfl ?_
  refine Es_iload_n (hC _) dX6_put_13 rfl ?_
  refine Es_fV (hC _) mv_X6_121 dX6_put_14 (r_isPlace_in hnw h5 hw hp h7 hq) rfl rfl ⟨_, rfl, rfl⟩ rfl rfl (by decide) (Nat.le_of_ble_eq_true rfl) ?_
  refine Es_if_ne (hC _) 26 dX6_put_17 (by decide) (fun hb17 => ?_) (fun hb17 => False.elim ((by first | exact absurd hb17 (by decide) | exact absurd hb17 (by assumption) | exact hb17 (by assumption) | exact hb17 rfl | (simp_all [bI]; done))))
  first | refine Es_aload_n (hC _) dX6_put_26 rfl ?_ | refine Es_aload_nN (hC _) dX6_put_26 rfl ?_
  refine Sg_X6_17 (hC _) fl_X6_50 dX6_put_27 ?_
  refine Es_iload_n (hC _) dX6_put_30 rfl ?_
  refine Es_ialdN (hC _) dX6_put_31 rfl rfl rfl (by omega) (by decide) ?_
  refine Es_iconst (v := -1) (hC _) dX6_put_32 (by decide) ?_
  refine Es_icmp_ne (hC _) 49 dX6_put_33 (by decide) (fun hb33 => False.elim ((by first | exact absurd hb33 (by decide) | exact absurd hb33 (by assumption) | exact hb33 (by assumption) | exact hb33 rfl | (simp_all [bI]; done)))) (fun hb33 => ?_)
  first | refine Es_aload_n (hC _) dX6_put_36 rfl ?_ | refine Es_aload_nN (hC _) dX6_put_36 rfl ?_
  refine Sg_X6_10 (hC _) fl_X6_29 dX6_put_37 ?_
  refine Es_iload_n (hC _) dX6_put_40 rfl ?_
  refine Es_iload_n (hC _) dX6_put_41 rfl ?_
  refine Es_fS (hC _) ms_X6_97 dX6_put_42 r_spot rfl rfl (by decide) (Nat.le_of_ble_eq_true rfl) ?_
  refine Es_ialdN (hC _) dX6_put_45 rfl rfl rfl (by omega) (by decide) ?_
  refine Es_if_lt (hC _) 56 dX6_put_46 (by decide) (fun hb46 => False.elim (nI_pos ha (by rw [← hon]; exact hb46))) (fun hb46 => ?_)
  first | refine Es_aload_n (hC _) dX6_put_49 rfl ?_ | refine Es_aload_nN (hC _) dX6_put_49 rfl ?_
  refine Es_bipush (v := -2) (hC _) dX6_put_50 (by decide) ?_
  refine Es_fV (hC _) mv_X6_93 dX6_put_52 (r_refuse (k := 2) (by decide) (by decide)) rfl rfl ⟨_, rfl, rfl⟩ rfl rfl (by decide) (Nat.le_of_ble_eq_true rfl) ?_
  exact Es_iret dX6_put_55 rfl ⟨rfl, rfl, rfl⟩

set_option maxRecDepth 100000 in
set_option maxHeartbeats 4000000 in
theorem r_put_4 {ad : sA} {nw nt : Nat} {B : sB} {L : sL} (hnt : B 25 0 5 = nI nt) (h40 : nt ≤ 40) (hnw : B 25 0 4 = nI nw) (h5 : nw ≤ 5) {t : Nat} (ht : t < nt) {w : Nat} (hw : w < nw) {p q : Nat} (hp : B 38 0 w = nI p) (h7 : p ≤ 7) (hq : q < p) (hwh : B 47 0 t = -1) (hon : B 40 0 (7 * w + q) = -1) (hk : B 25 0 7 = nI 600) : Cf yX6_put cX6_put 4 (some FieldType.int) 3 [.ref (ad 25 0), .int (nI t), .int (nI w), .int (nI q)] ad nw nt B L (some (.int (-6))) (uB B 30 0 6 (B 30 0 6 + 1)) (L) := by
  have hC : ∀ Q, je_Ok (sCm yX6_put cX6_put 4 (some FieldType.int) 3 ad nw nt Q) RX6 cX6_put 4 3 := fun _ => je_Cm_ok
  refine Cs_of [some (.ref (ad 25 0)), some (.int (nI t)), some (.int (nI w)), some (.int (nI q))] (by decide) rfl (Nat.le_of_ble_eq_true rfl) ?_
  refine Es_iload_n (hC _) dX6_put_0 rfl ?_
  first | refine Es_aload_n (hC _) dX6_put_1 rfl ?_ | refine Es_aload_nN (hC _) dX6_put_1 rfl ?_
  refine Sg_X6_5 (hC _) fl_X6_107 dX6_put_2 ?_
  rw [hnt]
  refine Es_fS (hC _) ms_X6_89 dX6_put_5 (r_isIn_in ht (by omega)) rfl rfl (by decide) (Nat.le_of_ble_eq_true rfl) ?_
  refine Es_if_eq (hC _) 20 dX6_put_8 (by decide) (fun hb8 => False.elim ((by first | exact absurd hb8 (by decide) | exact absurd hb8 (by assumption) | exact hb8 (by assumption) | exact hb8 rfl | (simp_all [bI]; done)))) (fun hb8 => ?_)
  first | refine Es_aload_n (hC _) dX6_put_11 rfl ?_ | refine Es_aload_nN (hC _) dX6_put_11 rfl ?_
  refine Es_iload_n (hC _) dX6_put_12 rfl ?_
  refine Es_iload_n (hC _) dX6_put_13 rfl ?_
  refine Es_fV (hC _) mv_X6_121 dX6_put_14 (r_isPlace_in hnw h5 hw hp h7 hq) rfl rfl ⟨_, rfl, rfl⟩ rfl rfl (by decide) (Nat.le_of_ble_eq_true rfl) ?_
  refine Es_if_ne (hC _) 26 dX6_put_17 (by decide) (fun hb17 => ?_) (fun hb17 => False.elim ((by first | exact absurd hb17 (by decide) | exact absurd hb17 (by assumption) | exact hb17 (by assumption) | exact hb17 rfl | (simp_all [bI]; done))))
  first | refine Es_aload_n (hC _) dX6_put_26 rfl ?_ | refine Es_aload_nN (hC _) dX6_put_26 rfl ?_
  refine Sg_X6_17 (hC _) fl_X6_50 dX6_put_27 ?_
  refine Es_iload_n (hC _) dX6_put_30 rfl ?_
  refine Es_ialdN (hC _) dX6_put_31 rfl rfl rfl (by omega) (by decide) ?_
  refine Es_iconst (v := -1) (hC _) dX6_put_32 (by decide) ?_
  refine Es_icmp_ne (hC _) 49 dX6_put_33 (by decide) (fun hb33 => False.elim ((by first | exact absurd hb33 (by decide) | exact absurd hb33 (by assumption) | exact hb33 (by assumption) | exact hb33 rfl | (simp_all [bI]; done)))) (fun hb33 => ?_)
  first | refine Es_aload_n (hC _) dX6_put_36 rfl ?_ | refine Es_aload_nN (hC _) dX6_put_36 rfl ?_
  refine Sg_X6_10 (hC _) fl_X6_29 dX6_put_37 ?_
  refine Es_iload_n (hC _) dX6_put_40 rfl ?_
  refine Es_iload_n (hC _) dX6_put_41 rfl ?_
  refine Es_fS (hC _) ms_X6_97 dX6_put_42 r_spot rfl rfl (by decide) (Nat.le_of_ble_eq_true rfl) ?_
  refine Es_ialdN (hC _) dX6_put_45 rfl rfl rfl (by omega) (by decide) ?_
  refine Es_if_lt (hC _) 56 dX6_put_46 (by decide) (fun hb46 => ?_) (fun hb46 => False.elim (hb46 (by rw [hon]; decide)))
  first | refine Es_aload_n (hC _) dX6_put_56 rfl ?_ | refine Es_aload_nN (hC _) dX6_put_56 rfl ?_
  refine Es_iconst (v := 1) (hC _) dX6_put_57 (by decide) ?_
  refine Es_fV (hC _) mv_X6_110 dX6_put_58 (r_hasRoom (m := 1) hk (by decide) (by decide)) rfl rfl ⟨_, rfl, rfl⟩ rfl rfl (by decide) (Nat.le_of_ble_eq_true rfl) ?_
  refine Es_if_ne (hC _) 71 dX6_put_61 (by decide) (fun hb61 => False.elim ((by first | exact absurd hb61 (by decide) | exact absurd hb61 (by assumption) | exact hb61 (by assumption) | exact hb61 rfl | (simp_all [bI]; done)))) (fun hb61 => ?_)
  first | refine Es_aload_n (hC _) dX6_put_64 rfl ?_ | refine Es_aload_nN (hC _) dX6_put_64 rfl ?_
  refine Es_bipush (v := -6) (hC _) dX6_put_65 (by decide) ?_
  refine Es_fV (hC _) mv_X6_93 dX6_put_67 (r_refuse (k := 6) (by decide) (by decide)) rfl rfl ⟨_, rfl, rfl⟩ rfl rfl (by decide) (Nat.le_of_ble_eq_true rfl) ?_
  exact Es_iret dX6_put_70 rfl ⟨rfl, rfl, rfl⟩

set_option maxRecDepth 100000 in
set_option maxHeartbeats 4000000 in
theorem r_put_5 {ad : sA} {nw nt : Nat} {B : sB} {L : sL} (hnt : B 25 0 5 = nI nt) (h40 : nt ≤ 40) (hnw : B 25 0 4 = nI nw) (h5 : nw ≤ 5) {t : Nat} (ht : t < nt) {w : Nat} (hw : w < nw) {p q : Nat} (hp : B 38 0 w = nI p) (h7 : p ≤ 7) (hq : q < p) {k : Nat} (hwh : B 47 0 t = -1) (hon : B 40 0 (7 * w + q) = -1) (hk : B 25 0 7 = nI k) (h6 : k < 600) : Cf yX6_put cX6_put 4 (some FieldType.int) 3 [.ref (ad 25 0), .int (nI t), .int (nI w), .int (nI q)] ad nw nt B L (some (.int 1)) (rLog (uB (uB B 40 0 (7 * w + q) (nI t)) 47 0 t (nI (10 * w + q))) k t) (L) := by
  have hC : ∀ Q, je_Ok (sCm yX6_put cX6_put 4 (some FieldType.int) 3 ad nw nt Q) RX6 cX6_put 4 3 := fun _ => je_Cm_ok
  refine Cs_of [some (.ref (ad 25 0)), some (.int (nI t)), some (.int (nI w)), some (.int (nI q))] (by decide) rfl (Nat.le_of_ble_eq_true rfl) ?_
  refine Es_iload_n (hC _) dX6_put_0 rfl ?_
  first | refine Es_aload_n (hC _) dX6_put_1 rfl ?_ | refine Es_aload_nN (hC _) dX6_put_1 rfl ?_
  refine Sg_X6_5 (hC _) fl_X6_107 dX6_put_2 ?_
  rw [hnt]
  refine Es_fS (hC _) ms_X6_89 dX6_put_5 (r_isIn_in ht (by omega)) rfl rfl (by decide) (Nat.le_of_ble_eq_true rfl) ?_
  refine Es_if_eq (hC _) 20 dX6_put_8 (by decide) (fun hb8 => False.elim ((by first | exact absurd hb8 (by decide) | exact absurd hb8 (by assumption) | exact hb8 (by assumption) | exact hb8 rfl | (simp_all [bI]; done)))) (fun hb8 => ?_)
  first | refine Es_aload_n (hC _) dX6_put_11 rfl ?_ | refine Es_aload_nN (hC _) dX6_put_11 rfl ?_
  refine Es_iload_n (hC _) dX6_put_12 rfl ?_
  refine Es_iload_n (hC _) dX6_put_13 rfl ?_
  refine Es_fV (hC _) mv_X6_121 dX6_put_14 (r_isPlace_in hnw h5 hw hp h7 hq) rfl rfl ⟨_, rfl, rfl⟩ rfl rfl (by decide) (Nat.le_of_ble_eq_true rfl) ?_
  refine Es_if_ne (hC _) 26 dX6_put_17 (by decide) (fun hb17 => ?_) (fun hb17 => False.elim ((by first | exact absurd hb17 (by decide) | exact absurd hb17 (by assumption) | exact hb17 (by assumption) | exact hb17 rfl | (simp_all [bI]; done))))
  first | refine Es_aload_n (hC _) dX6_put_26 rfl ?_ | refine Es_aload_nN (hC _) dX6_put_26 rfl ?_
  refine Sg_X6_17 (hC _) fl_X6_50 dX6_put_27 ?_
  refine Es_iload_n (hC _) dX6_put_30 rfl ?_
  refine Es_ialdN (hC _) dX6_put_31 rfl rfl rfl (by omega) (by decide) ?_
  refine Es_iconst (v := -1) (hC _) dX6_put_32 (by decide) ?_
  refine Es_icmp_ne (hC _) 49 dX6_put_33 (by decide) (fun hb33 => False.elim ((by first | exact absurd hb33 (by decide) | exact absurd hb33 (by assumption) | exact hb33 (by assumption) | exact hb33 rfl | (simp_all [bI]; done)))) (fun hb33 => ?_)
  first | refine Es_aload_n (hC _) dX6_put_36 rfl ?_ | refine Es_aload_nN (hC _) dX6_put_36 rfl ?_
  refine Sg_X6_10 (hC _) fl_X6_29 dX6_put_37 ?_
  refine Es_iload_n (hC _) dX6_put_40 rfl ?_
  refine Es_iload_n (hC _) dX6_put_41 rfl ?_
  refine Es_fS (hC _) ms_X6_97 dX6_put_42 r_spot rfl rfl (by decide) (Nat.le_of_ble_eq_true rfl) ?_
  refine Es_ialdN (hC _) dX6_put_45 rfl rfl rfl (by omega) (by decide) ?_
  refine Es_if_lt (hC _) 56 dX6_put_46 (by decide) (fun hb46 => ?_) (fun hb46 => False.elim (hb46 (by rw [hon]; decide)))
  first | refine Es_aload_n (hC _) dX6_put_56 rfl ?_ | refine Es_aload_nN (hC _) dX6_put_56 rfl ?_
  refine Es_iconst (v := 1) (hC _) dX6_put_57 (by decide) ?_
  refine Es_fV (hC _) mv_X6_110 dX6_put_58 (r_hasRoom (m := 1) hk (by omega) (by decide)) rfl rfl ⟨_, rfl, rfl⟩ rfl rfl (by decide) (Nat.le_of_ble_eq_true rfl) ?_
  refine Es_if_ne (hC _) 71 dX6_put_61 (by decide) (fun hb61 => ?_) (fun hb61 => False.elim (absurd hb61 (by rw [bI, if_pos (by omega)]; decide)))
  first | refine Es_aload_n (hC _) dX6_put_71 rfl ?_ | refine Es_aload_nN (hC _) dX6_put_71 rfl ?_
  refine Sg_X6_10 (hC _) fl_X6_29 dX6_put_72 ?_
  refine Es_iload_n (hC _) dX6_put_75 rfl ?_
  refine Es_iload_n (hC _) dX6_put_76 rfl ?_
  refine Es_fS (hC _) ms_X6_97 dX6_put_77 r_spot rfl rfl (by decide) (Nat.le_of_ble_eq_true rfl) ?_
  refine Es_iload_n (hC _) dX6_put_80 rfl ?_
  refine Es_iastN (hC _) dX6_put_81 rfl (fun _ => rfl) rfl (by omega) (by decide) ?_
  first | refine Es_aload_n (hC _) dX6_put_82 rfl ?_ | refine Es_aload_nN (hC _) dX6_put_82 rfl ?_
  refine Es_iload_n (hC _) dX6_put_83 rfl ?_
  refine Es_bipush (v := 10) (hC _) dX6_put_84 (by decide) ?_
  refine Es_iload_n (hC _) dX6_put_86 rfl ?_
  refine Es_imul (hC _) dX6_put_87 ?_
  refine Es_iload_n (hC _) dX6_put_88 rfl ?_
  refine Es_iadd (hC _) dX6_put_89 ?_
  rw [show (10 : Int32) = nI 10 from rfl, pk_mul, nI_add]
  refine Es_fV (hC _) mv_X6_124 dX6_put_90 (r_lays (by omega) (by rw [uB_n (by omega)]; exact hk) h6) rfl rfl ⟨_, rfl, rfl⟩ rfl rfl (by decide) (Nat.le_of_ble_eq_true rfl) ?_
  refine Es_iconst (v := 1) (hC _) dX6_put_93 (by decide) ?_
  exact Es_iret dX6_put_94 rfl ⟨rfl, rfl, rfl⟩

set_option maxRecDepth 100000 in
set_option maxHeartbeats 4000000 in
theorem c_take_1a {ad : sA} {nw nt : Nat} {B : sB} {L : sL} (hnw : B 0 0 8 = nI nw) (h5 : nw ≤ 5) {y : Int32} (how : out y nw) {z : Int32} : Cf yX5_take cX5_take 5 (some FieldType.int) 5 [.ref (ad 0 0), .int y, .int z] ad nw nt B L (some (.int (-1))) (uB B 5 0 1 (B 5 0 1 + 1)) (L) := by
  have hC : ∀ Q, je_Ok (sCm yX5_take cX5_take 5 (some FieldType.int) 5 ad nw nt Q) RX5 cX5_take 5 5 := fun _ => je_Cm_ok
  refine Cs_of [some (.ref (ad 0 0)), some (.int y), some (.int z), none, none] (by decide) rfl (Nat.le_of_ble_eq_true rfl) ?_
  first | refine Es_aload_n (hC _) dX5_take_0 rfl ?_ | refine Es_aload_nN (hC _) dX5_take_0 rfl ?_
  refine Es_iload_n (hC _) dX5_take_1 rfl ?_
  refine Es_fV (hC _) mv_X5_77 dX5_take_2 (c_wagonAt_out hnw how) rfl rfl ⟨_, rfl, rfl⟩ rfl rfl (by decide) (Nat.le_of_ble_eq_true rfl) ?_
  first | refine Es_astore_n (lv' := [_, _, _, _, _]) (hC _) dX5_take_5 (by decide) rfl rfl ?_ | refine Es_astore_nN (lv' := [_, _, _, _, _]) (hC _) dX5_take_5 (by decide) rfl rfl ?_
  first | refine Es_aload_n (hC _) dX5_take_6 rfl ?_ | refine Es_aload_nN (hC _) dX5_take_6 rfl ?_
  refine Es_ifnullN (hC _) 18 dX5_take_7 (by decide) ?_
  first | refine Es_aload_n (hC _) dX5_take_18 rfl ?_ | refine Es_aload_nN (hC _) dX5_take_18 rfl ?_
  refine Es_iconst (v := -1) (hC _) dX5_take_19 (by decide) ?_
  refine Es_fV (hC _) mv_X5_70 dX5_take_20 (c_refuse (k := 1) (by decide) (by decide)) rfl rfl ⟨_, rfl, rfl⟩ rfl rfl (by decide) (Nat.le_of_ble_eq_true rfl) ?_
  exact Es_iret dX5_take_23 rfl ⟨rfl, rfl, rfl⟩

set_option maxRecDepth 100000 in
set_option maxHeartbeats 4000000 in
theorem c_take_1b {ad : sA} {nw nt : Nat} {B : sB} {L : sL} (hnw : B 0 0 8 = nI nw) (h5 : nw ≤ 5) {w : Nat} (hw : w < nw) {p : Nat} {z : Int32} (hp : B 18 w 3 = nI p) (h7 : p ≤ 7) (hoz : out z p)  : Cf yX5_take cX5_take 5 (some FieldType.int) 5 [.ref (ad 0 0), .int (nI w), .int z] ad nw nt B L (some (.int (-1))) (uB B 5 0 1 (B 5 0 1 + 1)) (L) := by
  have hC : ∀ Q, je_Ok (sCm yX5_take cX5_take 5 (some FieldType.int) 5 ad nw nt Q) RX5 cX5_take 5 5 := fun _ => je_Cm_ok
  refine Cs_of [some (.ref (ad 0 0)), some (.int (nI w)), some (.int z), none, none] (by decide) rfl (Nat.le_of_ble_eq_true rfl) ?_
  first | refine Es_aload_n (hC _) dX5_take_0 rfl ?_ | refine Es_aload_nN (hC _) dX5_take_0 rfl ?_
  refine Es_iload_n (hC _) dX5_take_1 rfl ?_
  refine Es_fV (hC _) mv_X5_77 dX5_take_2 (c_wagonAt_in hnw h5 hw) rfl rfl ⟨_, rfl, rfl⟩ rfl rfl (by decide) (Nat.le_of_ble_eq_true rfl) ?_
  first | refine Es_astore_n (lv' := [_, _, _, _, _]) (hC _) dX5_take_5 (by decide) rfl rfl ?_ | refine Es_astore_nN (lv' := [_, _, _, _, _]) (hC _) dX5_take_5 (by decide) rfl rfl ?_
  first | refine Es_aload_n (hC _) dX5_take_6 rfl ?_ | refine Es_aload_nN (hC _) dX5_take_6 rfl ?_
  refine Es_ifnull (hC _) dX5_take_7 ?_
  first | refine Es_aload_n (hC _) dX5_take_10 rfl ?_ | refine Es_aload_nN (hC _) dX5_take_10 rfl ?_
  refine Es_iload_n (hC _) dX5_take_11 rfl ?_
  refine Es_fV (hC _) mv_X5_136 dX5_take_12 (c_hasPlace_out hw hp h7 hoz) (ok18 hw) rfl ⟨_, rfl, rfl⟩ rfl rfl (by decide) (Nat.le_of_ble_eq_true rfl) ?_
  refine Es_if_ne (hC _) 24 dX5_take_15 (by decide) (fun hb15 => False.elim ((by first | exact absurd hb15 (by decide) | exact absurd hb15 (by assumption) | exact hb15 (by assumption) | exact hb15 rfl | (simp_all [bI]; done)))) (fun hb15 => ?_)
  first | refine Es_aload_n (hC _) dX5_take_18 rfl ?_ | refine Es_aload_nN (hC _) dX5_take_18 rfl ?_
  refine Es_iconst (v := -1) (hC _) dX5_take_19 (by decide) ?_
  refine Es_fV (hC _) mv_X5_70 dX5_take_20 (c_refuse (k := 1) (by decide) (by decide)) rfl rfl ⟨_, rfl, rfl⟩ rfl rfl (by decide) (Nat.le_of_ble_eq_true rfl) ?_
  exact Es_iret dX5_take_23 rfl ⟨rfl, rfl, rfl⟩

set_option maxRecDepth 100000 in
set_option maxHeartbeats 4000000 in
theorem c_take_2 {ad : sA} {nw nt : Nat} {B : sB} {L : sL} (hnw : B 0 0 8 = nI nw) (h5 : nw ≤ 5) {w : Nat} (hw : w < nw) {p q : Nat} (hp : B 18 w 3 = nI p) (h7 : p ≤ 7) (hq : q < p) (hon : B 20 w q = -1) : Cf yX5_take cX5_take 5 (some FieldType.int) 5 [.ref (ad 0 0), .int (nI w), .int (nI q)] ad nw nt B L (some (.int (-2))) (uB B 5 0 2 (B 5 0 2 + 1)) (L) := by
  have hC : ∀ Q, je_Ok (sCm yX5_take cX5_take 5 (some FieldType.int) 5 ad nw nt Q) RX5 cX5_take 5 5 := fun _ => je_Cm_ok
  refine Cs_of [some (.ref (ad 0 0)), some (.int (nI w)), some (.int (nI q)), none, none] (by decide) rfl (Nat.le_of_ble_eq_true rfl) ?_
  first | refine Es_aload_n (hC _) dX5_take_0 rfl ?_ | refine Es_aload_nN (hC _) dX5_take_0 rfl ?_
  refine Es_iload_n (hC _) dX5_take_1 rfl ?_
  refine Es_fV (hC _) mv_X5_77 dX5_take_2 (c_wagonAt_in hnw h5 hw) rfl rfl ⟨_, rfl, rfl⟩ rfl rfl (by decide) (Nat.le_of_ble_eq_true rfl) ?_
  first | refine Es_astore_n (lv' := [_, _, _, _, _]) (hC _) dX5_take_5 (by decide) rfl rfl ?_ | refine Es_astore_nN (lv' := [_, _, _, _, _]) (hC _) dX5_take_5 (by decide) rfl rfl ?_
  first | refine Es_aload_n (hC _) dX5_take_6 rfl ?_ | refine Es_aload_nN (hC _) dX5_take_6 rfl ?_
  refine Es_ifnull (hC _) dX5_take_7 ?_
  first | refine Es_aload_n (hC _) dX5_take_10 rfl ?_ | refine Es_aload_nN (hC _) dX5_take_10 rfl ?_
  refine Es_iload_n (hC _) dX5_take_11 rfl ?_
  refine Es_fV (hC _) mv_X5_136 dX5_take_12 (c_hasPlace_in hw hp h7 hq) (ok18 hw) rfl ⟨_, rfl, rfl⟩ rfl rfl (by decide) (Nat.le_of_ble_eq_true rfl) ?_
  refine Es_if_ne (hC _) 24 dX5_take_15 (by decide) (fun hb15 => ?_) (fun hb15 => False.elim ((by first | exact absurd hb15 (by decide) | exact absurd hb15 (by assumption) | exact hb15 (by assumption) | exact hb15 rfl | (simp_all [bI]; done))))
  first | refine Es_aload_n (hC _) dX5_take_24 rfl ?_ | refine Es_aload_nN (hC _) dX5_take_24 rfl ?_
  refine Es_iload_n (hC _) dX5_take_25 rfl ?_
  refine Es_fV (hC _) mv_X5_142 dX5_take_26 (c_tyreOn_in hw hp h7 hq) (ok18 hw) rfl ⟨_, rfl, rfl⟩ rfl rfl (by decide) (Nat.le_of_ble_eq_true rfl) ?_
  rw [show rT ad (B 20 w q) = none by rw [hon]; rfl]
  first | refine Es_astore (lv' := [_, _, _, _, _]) (hC _) dX5_take_29 (by decide) rfl rfl ?_ | refine Es_astoreN (lv' := [_, _, _, _, _]) (hC _) dX5_take_29 (by decide) rfl rfl ?_
  first | refine Es_aload (hC _) dX5_take_31 rfl ?_ | refine Es_aloadN (hC _) dX5_take_31 rfl ?_
  refine Es_ifnonnullN (hC _) dX5_take_33 ?_
  first | refine Es_aload_n (hC _) dX5_take_36 rfl ?_ | refine Es_aload_nN (hC _) dX5_take_36 rfl ?_
  refine Es_bipush (v := -2) (hC _) dX5_take_37 (by decide) ?_
  refine Es_fV (hC _) mv_X5_70 dX5_take_39 (c_refuse (k := 2) (by decide) (by decide)) rfl rfl ⟨_, rfl, rfl⟩ rfl rfl (by decide) (Nat.le_of_ble_eq_true rfl) ?_
  exact Es_iret dX5_take_42 rfl ⟨rfl, rfl, rfl⟩

set_option maxRecDepth 100000 in
set_option maxHeartbeats 4000000 in
theorem c_take_3 {ad : sA} {nw nt : Nat} {B : sB} {L : sL} (hnw : B 0 0 8 = nI nw) (h5 : nw ≤ 5) (h40 : nt ≤ 40) {w : Nat} (hw : w < nw) {p q : Nat} (hp : B 18 w 3 = nI p) (h7 : p ≤ 7) (hq : q < p) {t : Nat} (ht : t < nt) (hon : B 20 w q = nI t) (hk : B 6 0 3 = nI 600) : Cf yX5_take cX5_take 5 (some FieldType.int) 5 [.ref (ad 0 0), .int (nI w), .int (nI q)] ad nw nt B L (some (.int (-6))) (uB B 5 0 6 (B 5 0 6 + 1)) (L) := by
  have hC : ∀ Q, je_Ok (sCm yX5_take cX5_take 5 (some FieldType.int) 5 ad nw nt Q) RX5 cX5_take 5 5 := fun _ => je_Cm_ok
  refine Cs_of [some (.ref (ad 0 0)), some (.int (nI w)), some (.int (nI q)), none, none] (by decide) rfl (Nat.le_of_ble_eq_true rfl) ?_
  first | refine Es_aload_n (hC _) dX5_take_0 rfl ?_ | refine Es_aload_nN (hC _) dX5_take_0 rfl ?_
  refine Es_iload_n (hC _) dX5_take_1 rfl ?_
  refine Es_fV (hC _) mv_X5_77 dX5_take_2 (c_wagonAt_in hnw h5 hw) rfl rfl ⟨_, rfl, rfl⟩ rfl rfl (by decide) (Nat.le_of_ble_eq_true rfl) ?_
  first | refine Es_astore_n (lv' := [_, _, _, _, _]) (hC _) dX5_take_5 (by decide) rfl rfl ?_ | refine Es_astore_nN (lv' := [_, _, _, _, _]) (hC _) dX5_take_5 (by decide) rfl rfl ?_
  first | refine Es_aload_n (hC _) dX5_take_6 rfl ?_ | refine Es_aload_nN (hC _) dX5_take_6 rfl ?_
  refine Es_ifnull (hC _) dX5_take_7 ?_
  first | refine Es_aload_n (hC _) dX5_take_10 rfl ?_ | refine Es_aload_nN (hC _) dX5_take_10 rfl ?_
  refine Es_iload_n (hC _) dX5_take_11 rfl ?_
  refine Es_fV (hC _) mv_X5_136 dX5_take_12 (c_hasPlace_in hw hp h7 hq) (ok18 hw) rfl ⟨_, rfl, rfl⟩ rfl rfl (by decide) (Nat.le_of_ble_eq_true rfl) ?_
  refine Es_if_ne (hC _) 24 dX5_take_15 (by decide) (fun hb15 => ?_) (fun hb15 => False.elim ((by first | exact absurd hb15 (by decide) | exact absurd hb15 (by assumption) | exact hb15 (by assumption) | exact hb15 rfl | (simp_all [bI]; done))))
  first | refine Es_aload_n (hC _) dX5_take_24 rfl ?_ | refine Es_aload_nN (hC _) dX5_take_24 rfl ?_
  refine Es_iload_n (hC _) dX5_take_25 rfl ?_
  refine Es_fV (hC _) mv_X5_142 dX5_take_26 (c_tyreOn_in hw hp h7 hq) (ok18 hw) rfl ⟨_, rfl, rfl⟩ rfl rfl (by decide) (Nat.le_of_ble_eq_true rfl) ?_
  rw [show rT ad (B 20 w q) = some (ad 21 t) by rw [hon, rT, if_neg (nI_pos (by omega)), nI_clamp (by omega)]]
  first | refine Es_astore (lv' := [_, _, _, _, _]) (hC _) dX5_take_29 (by decide) rfl rfl ?_ | refine Es_astoreN (lv' := [_, _, _, _, _]) (hC _) dX5_take_29 (by decide) rfl rfl ?_
  first | refine Es_aload (hC _) dX5_take_31 rfl ?_ | refine Es_aloadN (hC _) dX5_take_31 rfl ?_
  refine Es_ifnonnull (hC _) 43 dX5_take_33 (by decide) ?_
  first | refine Es_aload_n (hC _) dX5_take_43 rfl ?_ | refine Es_aload_nN (hC _) dX5_take_43 rfl ?_
  refine Sg_X5_5 (hC _) fl_X5_45 dX5_take_44 ?_
  refine Es_iconst (v := 1) (hC _) dX5_take_47 (by decide) ?_
  refine Es_fV (hC _) mv_X5_113 dX5_take_48 (c_hasRoomFor (m := 1) hk (by decide) (by decide)) rfl rfl ⟨_, rfl, rfl⟩ rfl rfl (by decide) (Nat.le_of_ble_eq_true rfl) ?_
  refine Es_if_ne (hC _) 61 dX5_take_51 (by decide) (fun hb51 => False.elim ((by first | exact absurd hb51 (by decide) | exact absurd hb51 (by assumption) | exact hb51 (by assumption) | exact hb51 rfl | (simp_all [bI]; done)))) (fun hb51 => ?_)
  first | refine Es_aload_n (hC _) dX5_take_54 rfl ?_ | refine Es_aload_nN (hC _) dX5_take_54 rfl ?_
  refine Es_bipush (v := -6) (hC _) dX5_take_55 (by decide) ?_
  refine Es_fV (hC _) mv_X5_70 dX5_take_57 (c_refuse (k := 6) (by decide) (by decide)) rfl rfl ⟨_, rfl, rfl⟩ rfl rfl (by decide) (Nat.le_of_ble_eq_true rfl) ?_
  exact Es_iret dX5_take_60 rfl ⟨rfl, rfl, rfl⟩

set_option maxRecDepth 100000 in
set_option maxHeartbeats 4000000 in
theorem c_take_4 {ad : sA} {nw nt : Nat} {B : sB} {L : sL} (hnw : B 0 0 8 = nI nw) (h5 : nw ≤ 5) (h40 : nt ≤ 40) {w : Nat} (hw : w < nw) {p q : Nat} (hp : B 18 w 3 = nI p) (h7 : p ≤ 7) (hq : q < p) {t : Nat} (ht : t < nt) {k : Nat} (hon : B 20 w q = nI t) (hk : B 6 0 3 = nI k) (h6 : k < 600) (hn : B 21 t 0 = nI t) : Cf yX5_take cX5_take 5 (some FieldType.int) 5 [.ref (ad 0 0), .int (nI w), .int (nI q)] ad nw nt B L (some (.int (nI t))) (cLog (uB (uB B 20 w q (-1)) 21 t 10 (-1)) k (B 0 0 11) (B 21 t 0) (-1)) (L) := by
  have hC : ∀ Q, je_Ok (sCm yX5_take cX5_take 5 (some FieldType.int) 5 ad nw nt Q) RX5 cX5_take 5 5 := fun _ => je_Cm_ok
  refine Cs_of [some (.ref (ad 0 0)), some (.int (nI w)), some (.int (nI q)), none, none] (by decide) rfl (Nat.le_of_ble_eq_true rfl) ?_
  first | refine Es_aload_n (hC _) dX5_take_0 rfl ?_ | refine Es_aload_nN (hC _) dX5_take_0 rfl ?_
  refine Es_iload_n (hC _) dX5_take_1 rfl ?_
  refine Es_fV (hC _) mv_X5_77 dX5_take_2 (c_wagonAt_in hnw h5 hw) rfl rfl ⟨_, rfl, rfl⟩ rfl rfl (by decide) (Nat.le_of_ble_eq_true rfl) ?_
  first | refine Es_astore_n (lv' := [_, _, _, _, _]) (hC _) dX5_take_5 (by decide) rfl rfl ?_ | refine Es_astore_nN (lv' := [_, _, _, _, _]) (hC _) dX5_take_5 (by decide) rfl rfl ?_
  first | refine Es_aload_n (hC _) dX5_take_6 rfl ?_ | refine Es_aload_nN (hC _) dX5_take_6 rfl ?_
  refine Es_ifnull (hC _) dX5_take_7 ?_
  first | refine Es_aload_n (hC _) dX5_take_10 rfl ?_ | refine Es_aload_nN (hC _) dX5_take_10 rfl ?_
  refine Es_iload_n (hC _) dX5_take_11 rfl ?_
  refine Es_fV (hC _) mv_X5_136 dX5_take_12 (c_hasPlace_in hw hp h7 hq) (ok18 hw) rfl ⟨_, rfl, rfl⟩ rfl rfl (by decide) (Nat.le_of_ble_eq_true rfl) ?_
  refine Es_if_ne (hC _) 24 dX5_take_15 (by decide) (fun hb15 => ?_) (fun hb15 => False.elim ((by first | exact absurd hb15 (by decide) | exact absurd hb15 (by assumption) | exact hb15 (by assumption) | exact hb15 rfl | (simp_all [bI]; done))))
  first | refine Es_aload_n (hC _) dX5_take_24 rfl ?_ | refine Es_aload_nN (hC _) dX5_take_24 rfl ?_
  refine Es_iload_n (hC _) dX5_take_25 rfl ?_
  refine Es_fV (hC _) mv_X5_142 dX5_take_26 (c_tyreOn_in hw hp h7 hq) (ok18 hw) rfl ⟨_, rfl, rfl⟩ rfl rfl (by decide) (Nat.le_of_ble_eq_true rfl) ?_
  rw [show rT ad (B 20 w q) = some (ad 21 t) by rw [hon, rT, if_neg (nI_pos (by omega)), nI_clamp (by omega)]]
  first | refine Es_astore (lv' := [_, _, _, _, _]) (hC _) dX5_take_29 (by decide) rfl rfl ?_ | refine Es_astoreN (lv' := [_, _, _, _, _]) (hC _) dX5_take_29 (by decide) rfl rfl ?_
  first | refine Es_aload (hC _) dX5_take_31 rfl ?_ | refine Es_aloadN (hC _) dX5_take_31 rfl ?_
  refine Es_ifnonnull (hC _) 43 dX5_take_33 (by decide) ?_
  first | refine Es_aload_n (hC _) dX5_take_43 rfl ?_ | refine Es_aload_nN (hC _) dX5_take_43 rfl ?_
  refine Sg_X5_5 (hC _) fl_X5_45 dX5_take_44 ?_
  refine Es_iconst (v := 1) (hC _) dX5_take_47 (by decide) ?_
  refine Es_fV (hC _) mv_X5_113 dX5_take_48 (c_hasRoomFor (m := 1) hk (by omega) (by decide)) rfl rfl ⟨_, rfl, rfl⟩ rfl rfl (by decide) (Nat.le_of_ble_eq_true rfl) ?_
  refine Es_if_ne (hC _) 61 dX5_take_51 (by decide) (fun hb51 => ?_) (fun hb51 => False.elim (absurd hb51 (by rw [bI, if_pos (by omega)]; decide)))
  first | refine Es_aload_n (hC _) dX5_take_61 rfl ?_ | refine Es_aload_nN (hC _) dX5_take_61 rfl ?_
  refine Es_iload_n (hC _) dX5_take_62 rfl ?_
  refine Es_null (hC _) dX5_take_63 ?_
  refine Es_fV (hC _) mv_X5_145 dX5_take_64 (c_lay_null hw hp h7 hq) (ok18 hw) rfl ⟨_, rfl, rfl⟩ rfl rfl (by decide) (Nat.le_of_ble_eq_true rfl) ?_
  first | refine Es_aload_n (hC _) dX5_take_67 rfl ?_ | refine Es_aload_nN (hC _) dX5_take_67 rfl ?_
  first | refine Es_aload (hC _) dX5_take_68 rfl ?_ | refine Es_aloadN (hC _) dX5_take_68 rfl ?_
  refine Es_iconst (v := -1) (hC _) dX5_take_70 (by decide) ?_
  refine Es_fV (hC _) mv_X5_128 dX5_take_71 (c_move ht (by rw [uB_n (by omega)]; exact hk) h6) rfl rfl ⟨_, rfl, rfl⟩ rfl rfl (by decide) (Nat.le_of_ble_eq_true rfl) ?_
  first | refine Es_aload (hC _) dX5_take_74 rfl ?_ | refine Es_aloadN (hC _) dX5_take_74 rfl ?_
  refine Sg_X2_0 (hC _) fl_X5_125 dX5_take_76 (by assumption) ?_
  exact Es_iret dX5_take_79 rfl ⟨by simp [cLog, uB, hn], by rw [uB_n (by omega), uB_n (by omega)], rfl⟩

set_option maxRecDepth 100000 in
set_option maxHeartbeats 4000000 in
theorem r_take_1a {ad : sA} {nw nt : Nat} {B : sB} {L : sL} (hnw : B 25 0 4 = nI nw) (h5 : nw ≤ 5) {y : Int32} (how : out y nw) {z : Int32} : Cf yX6_take cX6_take 4 (some FieldType.int) 3 [.ref (ad 25 0), .int y, .int z] ad nw nt B L (some (.int (-1))) (uB B 30 0 1 (B 30 0 1 + 1)) (L) := by
  have hC : ∀ Q, je_Ok (sCm yX6_take cX6_take 4 (some FieldType.int) 3 ad nw nt Q) RX6 cX6_take 4 3 := fun _ => je_Cm_ok
  refine Cs_of [some (.ref (ad 25 0)), some (.int y), some (.int z), none] (by decide) rfl (Nat.le_of_ble_eq_true rfl) ?_
  first | refine Es_aload_n (hC _) dX6_take_0 rfl ?_ | refine Es_aload_nN (hC _) dX6_take_0 rfl ?_
  refine Es_iload_n (hC _) dX6_take_1 rfl ?_
  refine Es_iload_n (hC _) dX6_take_2 rfl ?_
  refine Es_fV (hC _) mv_X6_121 dX6_take_3 (r_isPlace_out1 hnw how) rfl rfl ⟨_, rfl, rfl⟩ rfl rfl (by decide) (Nat.le_of_ble_eq_true rfl) ?_
  refine Es_if_ne (hC _) 15 dX6_take_6 (by decide) (fun hb6 => False.elim ((by first | exact absurd hb6 (by decide) | exact absurd hb6 (by assumption) | exact hb6 (by assumption) | exact hb6 rfl | (simp_all [bI]; done)))) (fun hb6 => ?_)
  first | refine Es_aload_n (hC _) dX6_take_9 rfl ?_ | refine Es_aload_nN (hC _) dX6_take_9 rfl ?_
  refine Es_iconst (v := -1) (hC _) dX6_take_10 (by decide) ?_
  refine Es_fV (hC _) mv_X6_93 dX6_take_11 (r_refuse (k := 1) (by decide) (by decide)) rfl rfl ⟨_, rfl, rfl⟩ rfl rfl (by decide) (Nat.le_of_ble_eq_true rfl) ?_
  exact Es_iret dX6_take_14 rfl ⟨rfl, rfl, rfl⟩

set_option maxRecDepth 100000 in
set_option maxHeartbeats 4000000 in
theorem r_take_1b {ad : sA} {nw nt : Nat} {B : sB} {L : sL} (hnw : B 25 0 4 = nI nw) (h5 : nw ≤ 5) {w : Nat} (hw : w < nw) {p : Nat} {z : Int32} (hp : B 38 0 w = nI p) (h7 : p ≤ 7) (hoz : out z p)  : Cf yX6_take cX6_take 4 (some FieldType.int) 3 [.ref (ad 25 0), .int (nI w), .int z] ad nw nt B L (some (.int (-1))) (uB B 30 0 1 (B 30 0 1 + 1)) (L) := by
  have hC : ∀ Q, je_Ok (sCm yX6_take cX6_take 4 (some FieldType.int) 3 ad nw nt Q) RX6 cX6_take 4 3 := fun _ => je_Cm_ok
  refine Cs_of [some (.ref (ad 25 0)), some (.int (nI w)), some (.int z), none] (by decide) rfl (Nat.le_of_ble_eq_true rfl) ?_
  first | refine Es_aload_n (hC _) dX6_take_0 rfl ?_ | refine Es_aload_nN (hC _) dX6_take_0 rfl ?_
  refine Es_iload_n (hC _) dX6_take_1 rfl ?_
  refine Es_iload_n (hC _) dX6_take_2 rfl ?_
  refine Es_fV (hC _) mv_X6_121 dX6_take_3 (r_isPlace_out2 hnw h5 hw hp hoz) rfl rfl ⟨_, rfl, rfl⟩ rfl rfl (by decide) (Nat.le_of_ble_eq_true rfl) ?_
  refine Es_if_ne (hC _) 15 dX6_take_6 (by decide) (fun hb6 => False.elim ((by first | exact absurd hb6 (by decide) | exact absurd hb6 (by assumption) | exact hb6 (by assumption) | exact hb6 rfl | (simp_all [bI]; done)))) (fun hb6 => ?_)
  first | refine Es_aload_n (hC _) dX6_take_9 rfl ?_ | refine Es_aload_nN (hC _) dX6_take_9 rfl ?_
  refine Es_iconst (v := -1) (hC _) dX6_take_10 (by decide) ?_
  refine Es_fV (hC _) mv_X6_93 dX6_take_11 (r_refuse (k := 1) (by decide) (by decide)) rfl rfl ⟨_, rfl, rfl⟩ rfl rfl (by decide) (Nat.le_of_ble_eq_true rfl) ?_
  exact Es_iret dX6_take_14 rfl ⟨rfl, rfl, rfl⟩

set_option maxRecDepth 100000 in
set_option maxHeartbeats 4000000 in
theorem r_take_2 {ad : sA} {nw nt : Nat} {B : sB} {L : sL} (hnw : B 25 0 4 = nI nw) (h5 : nw ≤ 5) {w : Nat} (hw : w < nw) {p q : Nat} (hp : B 38 0 w = nI p) (h7 : p ≤ 7) (hq : q < p) (hon : B 40 0 (7 * w + q) = -1) : Cf yX6_take cX6_take 4 (some FieldType.int) 3 [.ref (ad 25 0), .int (nI w), .int (nI q)] ad nw nt B L (some (.int (-2))) (uB B 30 0 2 (B 30 0 2 + 1)) (L) := by
  have hC : ∀ Q, je_Ok (sCm yX6_take cX6_take 4 (some FieldType.int) 3 ad nw nt Q) RX6 cX6_take 4 3 := fun _ => je_Cm_ok
  refine Cs_of [some (.ref (ad 25 0)), some (.int (nI w)), some (.int (nI q)), none] (by decide) rfl (Nat.le_of_ble_eq_true rfl) ?_
  first | refine Es_aload_n (hC _) dX6_take_0 rfl ?_ | refine Es_aload_nN (hC _) dX6_take_0 rfl ?_
  refine Es_iload_n (hC _) dX6_take_1 rfl ?_
  refine Es_iload_n (hC _) dX6_take_2 rfl ?_
  refine Es_fV (hC _) mv_X6_121 dX6_take_3 (r_isPlace_in hnw h5 hw hp h7 hq) rfl rfl ⟨_, rfl, rfl⟩ rfl rfl (by decide) (Nat.le_of_ble_eq_true rfl) ?_
  refine Es_if_ne (hC _) 15 dX6_take_6 (by decide) (fun hb6 => ?_) (fun hb6 => False.elim ((by first | exact absurd hb6 (by decide) | exact absurd hb6 (by assumption) | exact hb6 (by assumption) | exact hb6 rfl | (simp_all [bI]; done))))
  first | refine Es_aload_n (hC _) dX6_take_15 rfl ?_ | refine Es_aload_nN (hC _) dX6_take_15 rfl ?_
  refine Sg_X6_10 (hC _) fl_X6_29 dX6_take_16 ?_
  refine Es_iload_n (hC _) dX6_take_19 rfl ?_
  refine Es_iload_n (hC _) dX6_take_20 rfl ?_
  refine Es_fS (hC _) ms_X6_97 dX6_take_21 r_spot rfl rfl (by decide) (Nat.le_of_ble_eq_true rfl) ?_
  refine Es_ialdN (hC _) dX6_take_24 rfl rfl rfl (by omega) (by decide) ?_
  rw [hon]
  refine Es_istore_n (lv' := [_, _, _, _]) (hC _) dX6_take_25 (by decide) rfl rfl ?_
  refine Es_iload_n (hC _) dX6_take_26 rfl ?_
  refine Es_if_ge (hC _) 37 dX6_take_27 (by decide) (fun hb27 => False.elim (absurd hb27 (by decide))) (fun hb27 => ?_)
  first | refine Es_aload_n (hC _) dX6_take_30 rfl ?_ | refine Es_aload_nN (hC _) dX6_take_30 rfl ?_
  refine Es_bipush (v := -2) (hC _) dX6_take_31 (by decide) ?_
  refine Es_fV (hC _) mv_X6_93 dX6_take_33 (r_refuse (k := 2) (by decide) (by decide)) rfl rfl ⟨_, rfl, rfl⟩ rfl rfl (by decide) (Nat.le_of_ble_eq_true rfl) ?_
  exact Es_iret dX6_take_36 rfl ⟨rfl, rfl, rfl⟩

set_option maxRecDepth 100000 in
set_option maxHeartbeats 4000000 in
theorem r_take_3 {ad : sA} {nw nt : Nat} {B : sB} {L : sL} (hnw : B 25 0 4 = nI nw) (h5 : nw ≤ 5) (h40 : nt ≤ 40) {w : Nat} (hw : w < nw) {p q : Nat} (hp : B 38 0 w = nI p) (h7 : p ≤ 7) (hq : q < p) {t : Nat} (ht : t < nt) (hon : B 40 0 (7 * w + q) = nI t) (hk : B 25 0 7 = nI 600) : Cf yX6_take cX6_take 4 (some FieldType.int) 3 [.ref (ad 25 0), .int (nI w), .int (nI q)] ad nw nt B L (some (.int (-6))) (uB B 30 0 6 (B 30 0 6 + 1)) (L) := by
  have hC : ∀ Q, je_Ok (sCm yX6_take cX6_take 4 (some FieldType.int) 3 ad nw nt Q) RX6 cX6_take 4 3 := fun _ => je_Cm_ok
  refine Cs_of [some (.ref (ad 25 0)), some (.int (nI w)), some (.int (nI q)), none] (by decide) rfl (Nat.le_of_ble_eq_true rfl) ?_
  first | refine Es_aload_n (hC _) dX6_take_0 rfl ?_ | refine Es_aload_nN (hC _) dX6_take_0 rfl ?_
  refine Es_iload_n (hC _) dX6_take_1 rfl ?_
  refine Es_iload_n (hC _) dX6_take_2 rfl ?_
  refine Es_fV (hC _) mv_X6_121 dX6_take_3 (r_isPlace_in hnw h5 hw hp h7 hq) rfl rfl ⟨_, rfl, rfl⟩ rfl rfl (by decide) (Nat.le_of_ble_eq_true rfl) ?_
  refine Es_if_ne (hC _) 15 dX6_take_6 (by decide) (fun hb6 => ?_) (fun hb6 => False.elim ((by first | exact absurd hb6 (by decide) | exact absurd hb6 (by assumption) | exact hb6 (by assumption) | exact hb6 rfl | (simp_all [bI]; done))))
  first | refine Es_aload_n (hC _) dX6_take_15 rfl ?_ | refine Es_aload_nN (hC _) dX6_take_15 rfl ?_
  refine Sg_X6_10 (hC _) fl_X6_29 dX6_take_16 ?_
  refine Es_iload_n (hC _) dX6_take_19 rfl ?_
  refine Es_iload_n (hC _) dX6_take_20 rfl ?_
  refine Es_fS (hC _) ms_X6_97 dX6_take_21 r_spot rfl rfl (by decide) (Nat.le_of_ble_eq_true rfl) ?_
  refine Es_ialdN (hC _) dX6_take_24 rfl rfl rfl (by omega) (by decide) ?_
  rw [hon]
  refine Es_istore_n (lv' := [_, _, _, _]) (hC _) dX6_take_25 (by decide) rfl rfl ?_
  refine Es_iload_n (hC _) dX6_take_26 rfl ?_
  refine Es_if_ge (hC _) 37 dX6_take_27 (by decide) (fun hb27 => ?_) (fun hb27 => False.elim (hb27 (nI_pos' (by omega))))
  first | refine Es_aload_n (hC _) dX6_take_37 rfl ?_ | refine Es_aload_nN (hC _) dX6_take_37 rfl ?_
  refine Es_iconst (v := 1) (hC _) dX6_take_38 (by decide) ?_
  refine Es_fV (hC _) mv_X6_110 dX6_take_39 (r_hasRoom (m := 1) hk (by decide) (by decide)) rfl rfl ⟨_, rfl, rfl⟩ rfl rfl (by decide) (Nat.le_of_ble_eq_true rfl) ?_
  refine Es_if_ne (hC _) 52 dX6_take_42 (by decide) (fun hb42 => False.elim ((by first | exact absurd hb42 (by decide) | exact absurd hb42 (by assumption) | exact hb42 (by assumption) | exact hb42 rfl | (simp_all [bI]; done)))) (fun hb42 => ?_)
  first | refine Es_aload_n (hC _) dX6_take_45 rfl ?_ | refine Es_aload_nN (hC _) dX6_take_45 rfl ?_
  refine Es_bipush (v := -6) (hC _) dX6_take_46 (by decide) ?_
  refine Es_fV (hC _) mv_X6_93 dX6_take_48 (r_refuse (k := 6) (by decide) (by decide)) rfl rfl ⟨_, rfl, rfl⟩ rfl rfl (by decide) (Nat.le_of_ble_eq_true rfl) ?_
  exact Es_iret dX6_take_51 rfl ⟨rfl, rfl, rfl⟩

set_option maxRecDepth 100000 in
set_option maxHeartbeats 4000000 in
theorem r_take_4 {ad : sA} {nw nt : Nat} {B : sB} {L : sL} (hnw : B 25 0 4 = nI nw) (h5 : nw ≤ 5) (h40 : nt ≤ 40) {w : Nat} (hw : w < nw) {p q : Nat} (hp : B 38 0 w = nI p) (h7 : p ≤ 7) (hq : q < p) {t : Nat} (ht : t < nt) {k : Nat} (hon : B 40 0 (7 * w + q) = nI t) (hk : B 25 0 7 = nI k) (h6 : k < 600) : Cf yX6_take cX6_take 4 (some FieldType.int) 3 [.ref (ad 25 0), .int (nI w), .int (nI q)] ad nw nt B L (some (.int (nI t))) (rLog (uB (uB B 40 0 (7 * w + q) (-1)) 47 0 t (-1)) k t) (L) := by
  have hC : ∀ Q, je_Ok (sCm yX6_take cX6_take 4 (some FieldType.int) 3 ad nw nt Q) RX6 cX6_take 4 3 := fun _ => je_Cm_ok
  refine Cs_of [some (.ref (ad 25 0)), some (.int (nI w)), some (.int (nI q)), none] (by decide) rfl (Nat.le_of_ble_eq_true rfl) ?_
  first | refine Es_aload_n (hC _) dX6_take_0 rfl ?_ | refine Es_aload_nN (hC _) dX6_take_0 rfl ?_
  refine Es_iload_n (hC _) dX6_take_1 rfl ?_
  refine Es_iload_n (hC _) dX6_take_2 rfl ?_
  refine Es_fV (hC _) mv_X6_121 dX6_take_3 (r_isPlace_in hnw h5 hw hp h7 hq) rfl rfl ⟨_, rfl, rfl⟩ rfl rfl (by decide) (Nat.le_of_ble_eq_true rfl) ?_
  refine Es_if_ne (hC _) 15 dX6_take_6 (by decide) (fun hb6 => ?_) (fun hb6 => False.elim ((by first | exact absurd hb6 (by decide) | exact absurd hb6 (by assumption) | exact hb6 (by assumption) | exact hb6 rfl | (simp_all [bI]; done))))
  first | refine Es_aload_n (hC _) dX6_take_15 rfl ?_ | refine Es_aload_nN (hC _) dX6_take_15 rfl ?_
  refine Sg_X6_10 (hC _) fl_X6_29 dX6_take_16 ?_
  refine Es_iload_n (hC _) dX6_take_19 rfl ?_
  refine Es_iload_n (hC _) dX6_take_20 rfl ?_
  refine Es_fS (hC _) ms_X6_97 dX6_take_21 r_spot rfl rfl (by decide) (Nat.le_of_ble_eq_true rfl) ?_
  refine Es_ialdN (hC _) dX6_take_24 rfl rfl rfl (by omega) (by decide) ?_
  rw [hon]
  refine Es_istore_n (lv' := [_, _, _, _]) (hC _) dX6_take_25 (by decide) rfl rfl ?_
  refine Es_iload_n (hC _) dX6_take_26 rfl ?_
  refine Es_if_ge (hC _) 37 dX6_take_27 (by decide) (fun hb27 => ?_) (fun hb27 => False.elim (hb27 (nI_pos' (by omega))))
  first | refine Es_aload_n (hC _) dX6_take_37 rfl ?_ | refine Es_aload_nN (hC _) dX6_take_37 rfl ?_
  refine Es_iconst (v := 1) (hC _) dX6_take_38 (by decide) ?_
  refine Es_fV (hC _) mv_X6_110 dX6_take_39 (r_hasRoom (m := 1) hk (by omega) (by decide)) rfl rfl ⟨_, rfl, rfl⟩ rfl rfl (by decide) (Nat.le_of_ble_eq_true rfl) ?_
  refine Es_if_ne (hC _) 52 dX6_take_42 (by decide) (fun hb42 => ?_) (fun hb42 => False.elim (absurd hb42 (by rw [bI, if_pos (by omega)]; decide)))
  first | refine Es_aload_n (hC _) dX6_take_52 rfl ?_ | refine Es_aload_nN (hC _) dX6_take_52 rfl ?_
  refine Sg_X6_10 (hC _) fl_X6_29 dX6_take_53 ?_
  refine Es_iload_n (hC _) dX6_take_56 rfl ?_
  refine Es_iload_n (hC _) dX6_take_57 rfl ?_
  refine Es_fS (hC _) ms_X6_97 dX6_take_58 r_spot rfl rfl (by decide) (Nat.le_of_ble_eq_true rfl) ?_
  refine Es_iconst (v := -1) (hC _) dX6_take_61 (by decide) ?_
  refine Es_iastN (hC _) dX6_take_62 rfl (fun _ => rfl) rfl (by omega) (by decide) ?_
  first | refine Es_aload_n (hC _) dX6_take_63 rfl ?_ | refine Es_aload_nN (hC _) dX6_take_63 rfl ?_
  refine Es_iload_n (hC _) dX6_take_64 rfl ?_
  refine Es_iconst (v := -1) (hC _) dX6_take_65 (by decide) ?_
  refine Es_fV (hC _) mv_X6_124 dX6_take_66 (r_lays (by omega) (by rw [uB_n (by omega)]; exact hk) h6) rfl rfl ⟨_, rfl, rfl⟩ rfl rfl (by decide) (Nat.le_of_ble_eq_true rfl) ?_
  refine Es_iload_n (hC _) dX6_take_69 rfl ?_
  exact Es_iret dX6_take_70 rfl ⟨rfl, rfl, rfl⟩

