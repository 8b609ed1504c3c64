set_option maxRecDepth 100000 in
set_option maxHeartbeats 4000000 in
theorem c_at {ad : sA} {nw nt : Nat} {B : sB} {L : sL} {kd j n k : Nat} {i : Int32} (hk : sOk nw nt kd j = true) (hcell : sC ad nw nt B L kd j = ai n (B kd j)) (hi : i = nI k) (hn : k < n) (h31 : n < 2 ^ 31) : Cf yX5_at cX5_at 2 (some FieldType.int) 0 [.ref (ad kd j), .int i] ad nw nt B L (some (.int (B kd j k))) (B) (L) := by
  have hC : ∀ Q, je_Ok (sCm yX5_at cX5_at 2 (some FieldType.int) 0 ad nw nt Q) RX5 cX5_at 2 0 := fun _ => je_Cm_ok
  refine Cs_of [some (.ref (ad kd j)), some (.int i)] (by decide) rfl (Nat.le_of_ble_eq_true rfl) ?_
  subst hi
  refine Es_iload_n (hC _) dX5_at_0 rfl ?_
  refine Es_if_lt (hC _) 16 dX5_at_1 (by decide) (fun hb1 => False.elim (nI_pos (by omega) hb1)) (fun hb1 => ?_)
  refine Es_iload_n (hC _) dX5_at_4 rfl ?_
  first | refine Es_aload_n (hC _) dX5_at_5 rfl ?_ | refine Es_aload_nN (hC _) dX5_at_5 rfl ?_
  refine Es_alen (t := 0) (x := (n, .inl (B kd j))) (hC _) dX5_at_6 hk hcell (by decide) ?_
  refine Es_icmp_ge (hC _) 16 dX5_at_7 (by decide) (fun hb7 => False.elim (nI_ge hn h31 hb7)) (fun hb7 => ?_)
  first | refine Es_aload_n (hC _) dX5_at_10 rfl ?_ | refine Es_aload_nN (hC _) dX5_at_10 rfl ?_
  refine Es_iload_n (hC _) dX5_at_11 rfl ?_
  refine Es_ialdN (hC _) dX5_at_12 hk hcell rfl hn h31 ?_
  refine Es_goto (hC _) 17 dX5_at_13 (by decide) ?_
  exact Es_iret dX5_at_17 rfl ⟨rfl, rfl, rfl⟩

set_option maxRecDepth 100000 in
set_option maxHeartbeats 4000000 in
theorem c_write {ad : sA} {nw nt : Nat} {B : sB} {L : sL} {kd j n k : Nat} {i x : Int32} (hk : sOk nw nt kd j = true) (hcell : ∀ B : sB, sC ad nw nt B L kd j = ai n (B kd j)) (hi : i = nI k) (hn : k < n) (h31 : n < 2 ^ 31) : Cf yX5_write cX5_write 3 none 0 [.ref (ad kd j), .int i, .int x] ad nw nt B L (none) (uB B kd j k x) (L) := by
  have hC : ∀ Q, je_Ok (sCm yX5_write cX5_write 3 none 0 ad nw nt Q) RX5 cX5_write 3 0 := fun _ => je_Cm_ok
  refine Cs_of [some (.ref (ad kd j)), some (.int i), some (.int x)] (by decide) rfl (Nat.le_of_ble_eq_true rfl) ?_
  subst hi
  refine Es_iload_n (hC _) dX5_write_0 rfl ?_
  refine Es_if_lt (hC _) 14 dX5_write_1 (by decide) (fun hb1 => False.elim (nI_pos (by omega) hb1)) (fun hb1 => ?_)
  refine Es_iload_n (hC _) dX5_write_4 rfl ?_
  first | refine Es_aload_n (hC _) dX5_write_5 rfl ?_ | refine Es_aload_nN (hC _) dX5_write_5 rfl ?_
  refine Es_alen (t := 0) (x := (n, .inl (B kd j))) (hC _) dX5_write_6 hk (hcell B) (by decide) ?_
  refine Es_icmp_ge (hC _) 14 dX5_write_7 (by decide) (fun hb7 => False.elim (nI_ge hn h31 hb7)) (fun hb7 => ?_)
  first | refine Es_aload_n (hC _) dX5_write_10 rfl ?_ | refine Es_aload_nN (hC _) dX5_write_10 rfl ?_
  refine Es_iload_n (hC _) dX5_write_11 rfl ?_
  refine Es_iload_n (hC _) dX5_write_12 rfl ?_
  refine Es_iastN (hC _) dX5_write_13 hk hcell rfl hn h31 ?_
  exact Es_vret dX5_write_14 ⟨rfl, rfl, rfl⟩

set_option maxRecDepth 100000 in
set_option maxHeartbeats 4000000 in
theorem c_outside {ad : sA} {nw nt : Nat} {B : sB} {L : sL} {x lo hi : Int32} : Cf yX5_outside cX5_outside 3 (some FieldType.int) 0 [.int x, .int lo, .int hi] ad nw nt B L (some (.int (outs x lo hi))) (B) (L) := by
  have hC : ∀ Q, je_Ok (sCm yX5_outside cX5_outside 3 (some FieldType.int) 0 ad nw nt Q) RX5 cX5_outside 3 0 := fun _ => je_Cm_ok
  refine Cs_of [some (.int x), some (.int lo), some (.int hi)] (by decide) rfl (Nat.le_of_ble_eq_true rfl) ?_
  refine Es_iload_n (hC _) dX5_outside_0 rfl ?_
  refine Es_iload_n (hC _) dX5_outside_1 rfl ?_
  refine Es_icmp_ge (hC _) 10 dX5_outside_2 (by decide) (fun hb2 => ?_) (fun hb2 => ?_)
  · refine Es_iload_n (hC _) dX5_outside_10 rfl ?_
    refine Es_iload_n (hC _) dX5_outside_11 rfl ?_
    refine Es_icmp_le (hC _) 20 dX5_outside_12 (by decide) (fun hb12 => ?_) (fun hb12 => ?_)
    · refine Es_iconst (v := 0) (hC _) dX5_outside_20 (by decide) ?_
      exact Es_iret dX5_outside_21 rfl ⟨by simp only [outs]; first | rw [if_pos (Int32.not_le.mp hb2)] | rw [if_neg (Int32.not_lt.mpr hb2), if_neg (Int32.not_lt.mpr hb12)] | rw [if_neg (Int32.not_lt.mpr hb2), if_pos (Int32.not_le.mp hb12)], rfl, rfl⟩
    · refine Es_bipush (v := -6) (hC _) dX5_outside_15 (by decide) ?_
      refine Es_goto (hC _) 21 dX5_outside_17 (by decide) ?_
      exact Es_iret dX5_outside_21 rfl ⟨by simp only [outs]; first | rw [if_pos (Int32.not_le.mp hb2)] | rw [if_neg (Int32.not_lt.mpr hb2), if_neg (Int32.not_lt.mpr hb12)] | rw [if_neg (Int32.not_lt.mpr hb2), if_pos (Int32.not_le.mp hb12)], rfl, rfl⟩
  · refine Es_bipush (v := -4) (hC _) dX5_outside_5 (by decide) ?_
    refine Es_goto (hC _) 21 dX5_outside_7 (by decide) ?_
    exact Es_iret dX5_outside_21 rfl ⟨by simp only [outs]; first | rw [if_pos (Int32.not_le.mp hb2)] | rw [if_neg (Int32.not_lt.mpr hb2), if_neg (Int32.not_lt.mpr hb12)] | rw [if_neg (Int32.not_lt.mpr hb2), if_pos (Int32.not_le.mp hb12)], rfl, rfl⟩

set_option maxRecDepth 100000 in
set_option maxHeartbeats 4000000 in
theorem c_isKind_in {ad : sA} {nw nt : Nat} {B : sB} {L : sL} {j : Nat} (hj : j < 5) : Cf yX5_isKind cX5_isKind 1 (some FieldType.boolean) 0 [.int (nI j)] ad nw nt B L (some (.int 1)) (B) (L) := by
  have hC : ∀ Q, je_Ok (sCm yX5_isKind cX5_isKind 1 (some FieldType.boolean) 0 ad nw nt Q) RX5 cX5_isKind 1 0 := fun _ => je_Cm_ok
  refine Cs_of [some (.int (nI j))] (by decide) rfl (Nat.le_of_ble_eq_true rfl) ?_
  refine Es_iload_n (hC _) dX5_isKind_0 rfl ?_
  refine Es_if_lt (hC _) 13 dX5_isKind_1 (by decide) (fun hb1 => False.elim (nI_pos (by omega) hb1)) (fun hb1 => ?_)
  refine Es_iload_n (hC _) dX5_isKind_4 rfl ?_
  refine Es_iconst (v := 4) (hC _) dX5_isKind_5 (by decide) ?_
  refine Es_icmp_gt (hC _) 13 dX5_isKind_6 (by decide) (fun hb6 => False.elim (nI_nlt (a := 4) (b := j) (by omega) (by omega) hb6)) (fun hb6 => ?_)
  refine Es_iconst (v := 1) (hC _) dX5_isKind_9 (by decide) ?_
  refine Es_goto (hC _) 14 dX5_isKind_10 (by decide) ?_
  exact Es_iret dX5_isKind_14 rfl ⟨rfl, rfl, rfl⟩

set_option maxRecDepth 100000 in
set_option maxHeartbeats 4000000 in
theorem c_isKind_out {ad : sA} {nw nt : Nat} {B : sB} {L : sL} {x : Int32} (ho : out x 5) : Cf yX5_isKind cX5_isKind 1 (some FieldType.boolean) 0 [.int x] ad nw nt B L (some (.int 0)) (B) (L) := by
  have hC : ∀ Q, je_Ok (sCm yX5_isKind cX5_isKind 1 (some FieldType.boolean) 0 ad nw nt Q) RX5 cX5_isKind 1 0 := fun _ => je_Cm_ok
  refine Cs_of [some (.int x)] (by decide) rfl (Nat.le_of_ble_eq_true rfl) ?_
  refine Es_iload_n (hC _) dX5_isKind_0 rfl ?_
  refine Es_if_lt (hC _) 13 dX5_isKind_1 (by decide) (fun hb1 => ?_) (fun hb1 => ?_)
  · refine Es_iconst (v := 0) (hC _) dX5_isKind_13 (by decide) ?_
    exact Es_iret dX5_isKind_14 rfl ⟨rfl, rfl, rfl⟩
  · refine Es_iload_n (hC _) dX5_isKind_4 rfl ?_
    refine Es_iconst (v := 4) (hC _) dX5_isKind_5 (by decide) ?_
    refine Es_icmp_gt (hC _) 13 dX5_isKind_6 (by decide) (fun hb6 => ?_) (fun hb6 => ?_)
    · refine Es_iconst (v := 0) (hC _) dX5_isKind_13 (by decide) ?_
      exact Es_iret dX5_isKind_14 rfl ⟨rfl, rfl, rfl⟩
    · exact (ho.elim hb1 (fun z => hb6 (Int32.lt_of_lt_of_le (show (4 : Int32) < nI 5 by decide) z))).elim

set_option maxRecDepth 100000 in
set_option maxHeartbeats 4000000 in
theorem c_isMaker_in {ad : sA} {nw nt : Nat} {B : sB} {L : sL} {j : Nat} (hj : j < 4) : Cf yX5_isMaker cX5_isMaker 1 (some FieldType.boolean) 0 [.int (nI j)] ad nw nt B L (some (.int 1)) (B) (L) := by
  have hC : ∀ Q, je_Ok (sCm yX5_isMaker cX5_isMaker 1 (some FieldType.boolean) 0 ad nw nt Q) RX5 cX5_isMaker 1 0 := fun _ => je_Cm_ok
  refine Cs_of [some (.int (nI j))] (by decide) rfl (Nat.le_of_ble_eq_true rfl) ?_
  refine Es_iload_n (hC _) dX5_isMaker_0 rfl ?_
  refine Es_if_lt (hC _) 13 dX5_isMaker_1 (by decide) (fun hb1 => False.elim (nI_pos (by omega) hb1)) (fun hb1 => ?_)
  refine Es_iload_n (hC _) dX5_isMaker_4 rfl ?_
  refine Es_iconst (v := 4) (hC _) dX5_isMaker_5 (by decide) ?_
  refine Es_icmp_ge (hC _) 13 dX5_isMaker_6 (by decide) (fun hb6 => False.elim (nI_ge (b := 4) (a := j) (by omega) (by omega) hb6)) (fun hb6 => ?_)
  refine Es_iconst (v := 1) (hC _) dX5_isMaker_9 (by decide) ?_
  refine Es_goto (hC _) 14 dX5_isMaker_10 (by decide) ?_
  exact Es_iret dX5_isMaker_14 rfl ⟨rfl, rfl, rfl⟩

set_option maxRecDepth 100000 in
set_option maxHeartbeats 4000000 in
theorem c_isMaker_out {ad : sA} {nw nt : Nat} {B : sB} {L : sL} {x : Int32} (ho : out x 4) : Cf yX5_isMaker cX5_isMaker 1 (some FieldType.boolean) 0 [.int x] ad nw nt B L (some (.int 0)) (B) (L) := by
  have hC : ∀ Q, je_Ok (sCm yX5_isMaker cX5_isMaker 1 (some FieldType.boolean) 0 ad nw nt Q) RX5 cX5_isMaker 1 0 := fun _ => je_Cm_ok
  refine Cs_of [some (.int x)] (by decide) rfl (Nat.le_of_ble_eq_true rfl) ?_
  refine Es_iload_n (hC _) dX5_isMaker_0 rfl ?_
  refine Es_if_lt (hC _) 13 dX5_isMaker_1 (by decide) (fun hb1 => ?_) (fun hb1 => ?_)
  · refine Es_iconst (v := 0) (hC _) dX5_isMaker_13 (by decide) ?_
    exact Es_iret dX5_isMaker_14 rfl ⟨rfl, rfl, rfl⟩
  · refine Es_iload_n (hC _) dX5_isMaker_4 rfl ?_
    refine Es_iconst (v := 4) (hC _) dX5_isMaker_5 (by decide) ?_
    refine Es_icmp_ge (hC _) 13 dX5_isMaker_6 (by decide) (fun hb6 => ?_) (fun hb6 => ?_)
    · refine Es_iconst (v := 0) (hC _) dX5_isMaker_13 (by decide) ?_
      exact Es_iret dX5_isMaker_14 rfl ⟨rfl, rfl, rfl⟩
    · exact (ho.elim hb1 hb6).elim

set_option maxRecDepth 100000 in
set_option maxHeartbeats 4000000 in
theorem r_isIn_in {ad : sA} {nw nt : Nat} {B : sB} {L : sL} {j n : Nat} (hj : j < n) (hn : n < 2 ^ 31) : Cf yX6_isIn cX6_isIn 2 (some FieldType.boolean) 0 [.int (nI j), .int (nI n)] ad nw nt B L (some (.int 1)) (B) (L) := by
  have hC : ∀ Q, je_Ok (sCm yX6_isIn cX6_isIn 2 (some FieldType.boolean) 0 ad nw nt Q) RX6 cX6_isIn 2 0 := fun _ => je_Cm_ok
  refine Cs_of [some (.int (nI j)), some (.int (nI n))] (by decide) rfl (Nat.le_of_ble_eq_true rfl) ?_
  refine Es_iload_n (hC _) dX6_isIn_0 rfl ?_
  refine Es_if_lt (hC _) 13 dX6_isIn_1 (by decide) (fun hb1 => False.elim (nI_pos (by omega) hb1)) (fun hb1 => ?_)
  refine Es_iload_n (hC _) dX6_isIn_4 rfl ?_
  refine Es_iload_n (hC _) dX6_isIn_5 rfl ?_
  refine Es_icmp_ge (hC _) 13 dX6_isIn_6 (by decide) (fun hb6 => False.elim (nI_ge hj hn hb6)) (fun hb6 => ?_)
  refine Es_iconst (v := 1) (hC _) dX6_isIn_9 (by decide) ?_
  refine Es_goto (hC _) 14 dX6_isIn_10 (by decide) ?_
  exact Es_iret dX6_isIn_14 rfl ⟨rfl, rfl, rfl⟩

set_option maxRecDepth 100000 in
set_option maxHeartbeats 4000000 in
theorem r_isIn_out {ad : sA} {nw nt : Nat} {B : sB} {L : sL} {x : Int32} {n : Nat} (ho : out x n) : Cf yX6_isIn cX6_isIn 2 (some FieldType.boolean) 0 [.int x, .int (nI n)] ad nw nt B L (some (.int 0)) (B) (L) := by
  have hC : ∀ Q, je_Ok (sCm yX6_isIn cX6_isIn 2 (some FieldType.boolean) 0 ad nw nt Q) RX6 cX6_isIn 2 0 := fun _ => je_Cm_ok
  refine Cs_of [some (.int x), some (.int (nI n))] (by decide) rfl (Nat.le_of_ble_eq_true rfl) ?_
  refine Es_iload_n (hC _) dX6_isIn_0 rfl ?_
  refine Es_if_lt (hC _) 13 dX6_isIn_1 (by decide) (fun hb1 => ?_) (fun hb1 => ?_)
  · refine Es_iconst (v := 0) (hC _) dX6_isIn_13 (by decide) ?_
    exact Es_iret dX6_isIn_14 rfl ⟨rfl, rfl, rfl⟩
  · refine Es_iload_n (hC _) dX6_isIn_4 rfl ?_
    refine Es_iload_n (hC _) dX6_isIn_5 rfl ?_
    refine Es_icmp_ge (hC _) 13 dX6_isIn_6 (by decide) (fun hb6 => ?_) (fun hb6 => ?_)
    · refine Es_iconst (v := 0) (hC _) dX6_isIn_13 (by decide) ?_
      exact Es_iret dX6_isIn_14 rfl ⟨rfl, rfl, rfl⟩
    · exact (ho.elim hb1 hb6).elim

set_option maxRecDepth 100000 in
set_option maxHeartbeats 4000000 in
theorem c_numberOf_null {ad : sA} {nw nt : Nat} {B : sB} {L : sL}  : Cf yX5_numberOf cX5_numberOf 1 (some FieldType.int) 0 [.null] ad nw nt B L (some (.int (-9))) (B) (L) := by
  have hC : ∀ Q, je_Ok (sCm yX5_numberOf cX5_numberOf 1 (some FieldType.int) 0 ad nw nt Q) RX5 cX5_numberOf 1 0 := fun _ => je_Cm_ok
  refine Cs_of [some (.null)] (by decide) rfl (Nat.le_of_ble_eq_true rfl) ?_
  first | refine Es_aload_n (hC _) dX5_numberOf_0 rfl ?_ | refine Es_aload_nN (hC _) dX5_numberOf_0 rfl ?_
  refine Es_ifnonnullN (hC _) dX5_numberOf_1 ?_
  refine Es_bipush (v := -9) (hC _) dX5_numberOf_4 (by decide) ?_
  refine Es_goto (hC _) 13 dX5_numberOf_6 (by decide) ?_
  exact Es_iret dX5_numberOf_13 rfl ⟨rfl, rfl, rfl⟩

set_option maxRecDepth 100000 in
set_option maxHeartbeats 4000000 in
theorem c_numberOf {ad : sA} {nw nt : Nat} {B : sB} {L : sL} {t : Nat} (ht : t < nt) : Cf yX5_numberOf cX5_numberOf 1 (some FieldType.int) 0 [.ref (ad 21 t)] ad nw nt B L (some (.int (B 21 t 0))) (B) (L) := by
  have hC : ∀ Q, je_Ok (sCm yX5_numberOf cX5_numberOf 1 (some FieldType.int) 0 ad nw nt Q) RX5 cX5_numberOf 1 0 := fun _ => je_Cm_ok
  refine Cs_of [some (.ref (ad 21 t))] (by decide) rfl (Nat.le_of_ble_eq_true rfl) ?_
  first | refine Es_aload_n (hC _) dX5_numberOf_0 rfl ?_ | refine Es_aload_nN (hC _) dX5_numberOf_0 rfl ?_
  refine Es_ifnonnull (hC _) 9 dX5_numberOf_1 (by decide) ?_
  first | refine Es_aload_n (hC _) dX5_numberOf_9 rfl ?_ | refine Es_aload_nN (hC _) dX5_numberOf_9 rfl ?_
  refine Sg_X2_0 (hC _) fl_X5_125 dX5_numberOf_10 ht ?_
  exact Es_iret dX5_numberOf_13 rfl ⟨rfl, rfl, rfl⟩

set_option maxRecDepth 100000 in
set_option maxHeartbeats 4000000 in
theorem c_wagonAt_in {ad : sA} {nw nt : Nat} {B : sB} {L : sL} {j : Nat} (hw : B 0 0 8 = nI nw) (h5 : nw ≤ 5) (hj : j < nw) : Cf yX5_wagonAt cX5_wagonAt 2 (some (FieldType.object "TyreBook$Wagon")) 0 [.ref (ad 0 0), .int (nI j)] ad nw nt B L (some (.ref (ad 18 j))) (B) (L) := by
  have hC : ∀ Q, je_Ok (sCm yX5_wagonAt cX5_wagonAt 2 (some (FieldType.object "TyreBook$Wagon")) 0 ad nw nt Q) RX5 cX5_wagonAt 2 0 := fun _ => je_Cm_ok
  refine Cs_of [some (.ref (ad 0 0)), some (.int (nI j))] (by decide) rfl (Nat.le_of_ble_eq_true rfl) ?_
  refine Es_iload_n (hC _) dX5_wagonAt_0 rfl ?_
  refine Es_if_lt (hC _) 30 dX5_wagonAt_1 (by decide) (fun hb1 => False.elim (nI_pos (by omega) hb1)) (fun hb1 => ?_)
  refine Es_iload_n (hC _) dX5_wagonAt_4 rfl ?_
  first | refine Es_aload_n (hC _) dX5_wagonAt_5 rfl ?_ | refine Es_aload_nN (hC _) dX5_wagonAt_5 rfl ?_
  refine Sg_X5_8 (hC _) fl_X5_67 dX5_wagonAt_6 ?_
  rw [hw]
  refine Es_icmp_ge (hC _) 30 dX5_wagonAt_9 (by decide) (fun hb9 => False.elim (nI_ge hj (by omega) hb9)) (fun hb9 => ?_)
  refine Es_iload_n (hC _) dX5_wagonAt_12 rfl ?_
  first | refine Es_aload_n (hC _) dX5_wagonAt_13 rfl ?_ | refine Es_aload_nN (hC _) dX5_wagonAt_13 rfl ?_
  refine Sg_X5_0 (hC _) fl_X5_11 dX5_wagonAt_14 ?_
  refine Es_alen (hC _) dX5_wagonAt_17 rfl rfl (by decide) ?_
  refine Es_icmp_ge (hC _) 30 dX5_wagonAt_18 (by decide) (fun hb18 => False.elim (nI_ge (b := 5) (a := j) (by omega) (by omega) hb18)) (fun hb18 => ?_)
  first | refine Es_aload_n (hC _) dX5_wagonAt_21 rfl ?_ | refine Es_aload_nN (hC _) dX5_wagonAt_21 rfl ?_
  refine Sg_X5_0 (hC _) fl_X5_11 dX5_wagonAt_22 ?_
  refine Es_iload_n (hC _) dX5_wagonAt_25 rfl ?_
  refine Es_aaldN (hC _) (Or.inr rfl) dX5_wagonAt_26 rfl rfl rfl (by omega) (by decide) (show va_rf (if j < nw then some (ad 18 j) else none) = .ref (ad 18 j) by rw [if_pos hj]; rfl) ?_
  refine Es_goto (hC _) 31 dX5_wagonAt_27 (by decide) ?_
  exact Es_aret dX5_wagonAt_31 (by first | exact Or.inl rfl | exact Or.inr ⟨_, rfl⟩) ⟨rfl, rfl, rfl⟩

set_option maxRecDepth 100000 in
set_option maxHeartbeats 4000000 in
theorem c_wagonAt_out {ad : sA} {nw nt : Nat} {B : sB} {L : sL} {x : Int32} (hw : B 0 0 8 = nI nw) (ho : out x nw) : Cf yX5_wagonAt cX5_wagonAt 2 (some (FieldType.object "TyreBook$Wagon")) 0 [.ref (ad 0 0), .int x] ad nw nt B L (some .null) (B) (L) := by
  have hC : ∀ Q, je_Ok (sCm yX5_wagonAt cX5_wagonAt 2 (some (FieldType.object "TyreBook$Wagon")) 0 ad nw nt Q) RX5 cX5_wagonAt 2 0 := fun _ => je_Cm_ok
  refine Cs_of [some (.ref (ad 0 0)), some (.int x)] (by decide) rfl (Nat.le_of_ble_eq_true rfl) ?_
  refine Es_iload_n (hC _) dX5_wagonAt_0 rfl ?_
  refine Es_if_lt (hC _) 30 dX5_wagonAt_1 (by decide) (fun hb1 => ?_) (fun hb1 => ?_)
  · refine Es_null (hC _) dX5_wagonAt_30 ?_
    exact Es_aret dX5_wagonAt_31 (by first | exact Or.inl rfl | exact Or.inr ⟨_, rfl⟩) ⟨rfl, rfl, rfl⟩
  · refine Es_iload_n (hC _) dX5_wagonAt_4 rfl ?_
    first | refine Es_aload_n (hC _) dX5_wagonAt_5 rfl ?_ | refine Es_aload_nN (hC _) dX5_wagonAt_5 rfl ?_
    refine Sg_X5_8 (hC _) fl_X5_67 dX5_wagonAt_6 ?_
    rw [hw]
    refine Es_icmp_ge (hC _) 30 dX5_wagonAt_9 (by decide) (fun hb9 => ?_) (fun hb9 => ?_)
    · refine Es_null (hC _) dX5_wagonAt_30 ?_
      exact Es_aret dX5_wagonAt_31 (by first | exact Or.inl rfl | exact Or.inr ⟨_, rfl⟩) ⟨rfl, rfl, rfl⟩
    · exact (ho.elim hb1 hb9).elim

set_option maxRecDepth 100000 in
set_option maxHeartbeats 4000000 in
theorem c_tyreAt_in {ad : sA} {nw nt : Nat} {B : sB} {L : sL} {j : Nat} (hw : B 0 0 9 = nI nt) (h5 : nt ≤ 40) (hj : j < nt) : Cf yX5_tyreAt cX5_tyreAt 2 (some (FieldType.object "TyreBook$Tyre")) 0 [.ref (ad 0 0), .int (nI j)] ad nw nt B L (some (.ref (ad 21 j))) (B) (L) := by
  have hC : ∀ Q, je_Ok (sCm yX5_tyreAt cX5_tyreAt 2 (some (FieldType.object "TyreBook$Tyre")) 0 ad nw nt Q) RX5 cX5_tyreAt 2 0 := fun _ => je_Cm_ok
  refine Cs_of [some (.ref (ad 0 0)), some (.int (nI j))] (by decide) rfl (Nat.le_of_ble_eq_true rfl) ?_
  refine Es_iload_n (hC _) dX5_tyreAt_0 rfl ?_
  refine Es_if_lt (hC _) 30 dX5_tyreAt_1 (by decide) (fun hb1 => False.elim (nI_pos (by omega) hb1)) (fun hb1 => ?_)
  refine Es_iload_n (hC _) dX5_tyreAt_4 rfl ?_
  first | refine Es_aload_n (hC _) dX5_tyreAt_5 rfl ?_ | refine Es_aload_nN (hC _) dX5_tyreAt_5 rfl ?_
  refine Sg_X5_9 (hC _) fl_X5_110 dX5_tyreAt_6 ?_
  rw [hw]
  refine Es_icmp_ge (hC _) 30 dX5_tyreAt_9 (by decide) (fun hb9 => False.elim (nI_ge hj (by omega) hb9)) (fun hb9 => ?_)
  refine Es_iload_n (hC _) dX5_tyreAt_12 rfl ?_
  first | refine Es_aload_n (hC _) dX5_tyreAt_13 rfl ?_ | refine Es_aload_nN (hC _) dX5_tyreAt_13 rfl ?_
  refine Sg_X5_1 (hC _) fl_X5_17 dX5_tyreAt_14 ?_
  refine Es_alen (hC _) dX5_tyreAt_17 rfl rfl (by decide) ?_
  refine Es_icmp_ge (hC _) 30 dX5_tyreAt_18 (by decide) (fun hb18 => False.elim (nI_ge (b := 40) (a := j) (by omega) (by omega) hb18)) (fun hb18 => ?_)
  first | refine Es_aload_n (hC _) dX5_tyreAt_21 rfl ?_ | refine Es_aload_nN (hC _) dX5_tyreAt_21 rfl ?_
  refine Sg_X5_1 (hC _) fl_X5_17 dX5_tyreAt_22 ?_
  refine Es_iload_n (hC _) dX5_tyreAt_25 rfl ?_
  refine Es_aaldN (hC _) (Or.inl rfl) dX5_tyreAt_26 rfl rfl rfl (by omega) (by decide) (show va_rf (if j < nt then some (ad 21 j) else none) = .ref (ad 21 j) by rw [if_pos hj]; rfl) ?_
  refine Es_goto (hC _) 31 dX5_tyreAt_27 (by decide) ?_
  exact Es_aret dX5_tyreAt_31 (by first | exact Or.inl rfl | exact Or.inr ⟨_, rfl⟩) ⟨rfl, rfl, rfl⟩

set_option maxRecDepth 100000 in
set_option maxHeartbeats 4000000 in
theorem c_tyreAt_out {ad : sA} {nw nt : Nat} {B : sB} {L : sL} {x : Int32} (hw : B 0 0 9 = nI nt) (ho : out x nt) : Cf yX5_tyreAt cX5_tyreAt 2 (some (FieldType.object "TyreBook$Tyre")) 0 [.ref (ad 0 0), .int x] ad nw nt B L (some .null) (B) (L) := by
  have hC : ∀ Q, je_Ok (sCm yX5_tyreAt cX5_tyreAt 2 (some (FieldType.object "TyreBook$Tyre")) 0 ad nw nt Q) RX5 cX5_tyreAt 2 0 := fun _ => je_Cm_ok
  refine Cs_of [some (.ref (ad 0 0)), some (.int x)] (by decide) rfl (Nat.le_of_ble_eq_true rfl) ?_
  refine Es_iload_n (hC _) dX5_tyreAt_0 rfl ?_
  refine Es_if_lt (hC _) 30 dX5_tyreAt_1 (by decide) (fun hb1 => ?_) (fun hb1 => ?_)
  · refine Es_null (hC _) dX5_tyreAt_30 ?_
    exact Es_aret dX5_tyreAt_31 (by first | exact Or.inl rfl | exact Or.inr ⟨_, rfl⟩) ⟨rfl, rfl, rfl⟩
  · refine Es_iload_n (hC _) dX5_tyreAt_4 rfl ?_
    first | refine Es_aload_n (hC _) dX5_tyreAt_5 rfl ?_ | refine Es_aload_nN (hC _) dX5_tyreAt_5 rfl ?_
    refine Sg_X5_9 (hC _) fl_X5_110 dX5_tyreAt_6 ?_
    rw [hw]
    refine Es_icmp_ge (hC _) 30 dX5_tyreAt_9 (by decide) (fun hb9 => ?_) (fun hb9 => ?_)
    · refine Es_null (hC _) dX5_tyreAt_30 ?_
      exact Es_aret dX5_tyreAt_31 (by first | exact Or.inl rfl | exact Or.inr ⟨_, rfl⟩) ⟨rfl, rfl, rfl⟩
    · exact (ho.elim hb1 hb9).elim

set_option maxRecDepth 100000 in
set_option maxHeartbeats 4000000 in
theorem c_refuse {ad : sA} {nw nt : Nat} {B : sB} {L : sL} {k : Nat} {x : Int32} (hx : -x = nI k) (hk : k < 7) : Cf yX5_refuse cX5_refuse 2 (some FieldType.int) 1 [.ref (ad 0 0), .int x] ad nw nt B L (some (.int x)) (uB B 5 0 k (B 5 0 k + 1)) (L) := by
  have hC : ∀ Q, je_Ok (sCm yX5_refuse cX5_refuse 2 (some FieldType.int) 1 ad nw nt Q) RX5 cX5_refuse 2 1 := fun _ => je_Cm_ok
  refine Cs_of [some (.ref (ad 0 0)), some (.int x)] (by decide) rfl (Nat.le_of_ble_eq_true rfl) ?_
  first | refine Es_aload_n (hC _) dX5_refuse_0 rfl ?_ | refine Es_aload_nN (hC _) dX5_refuse_0 rfl ?_
  refine Sg_X5_4 (hC _) fl_X5_39 dX5_refuse_1 ?_
  refine Es_iload_n (hC _) dX5_refuse_4 rfl ?_
  refine Es_ineg (hC _) dX5_refuse_5 ?_
  first | refine Es_aload_n (hC _) dX5_refuse_6 rfl ?_ | refine Es_aload_nN (hC _) dX5_refuse_6 rfl ?_
  refine Sg_X5_4 (hC _) fl_X5_39 dX5_refuse_7 ?_
  refine Es_iload_n (hC _) dX5_refuse_10 rfl ?_
  refine Es_ineg (hC _) dX5_refuse_11 ?_
  refine Es_fS (hC _) ms_X5_96 dX5_refuse_12 (c_at (kd := 5) (n := 7) rfl rfl hx hk (by decide)) rfl rfl (by decide) (Nat.le_of_ble_eq_true rfl) ?_
  refine Es_iconst (v := 1) (hC _) dX5_refuse_15 (by decide) ?_
  refine Es_iadd (hC _) dX5_refuse_16 ?_
  refine Es_fS (hC _) ms_X5_100 dX5_refuse_17 (c_write (kd := 5) (n := 7) rfl (fun _ => rfl) hx hk (by decide)) rfl rfl (by decide) (Nat.le_of_ble_eq_true rfl) ?_
  refine Es_iload_n (hC _) dX5_refuse_20 rfl ?_
  exact Es_iret dX5_refuse_21 rfl ⟨rfl, rfl, rfl⟩

set_option maxRecDepth 100000 in
set_option maxHeartbeats 4000000 in
theorem r_refuse {ad : sA} {nw nt : Nat} {B : sB} {L : sL} {k : Nat} {x : Int32} (hx : -x = nI k) (hk : k < 7) : Cf yX6_refuse cX6_refuse 2 (some FieldType.int) 0 [.ref (ad 25 0), .int x] ad nw nt B L (some (.int x)) (uB B 30 0 k (B 30 0 k + 1)) (L) := by
  have hC : ∀ Q, je_Ok (sCm yX6_refuse cX6_refuse 2 (some FieldType.int) 0 ad nw nt Q) RX6 cX6_refuse 2 0 := fun _ => je_Cm_ok
  refine Cs_of [some (.ref (ad 25 0)), some (.int x)] (by decide) rfl (Nat.le_of_ble_eq_true rfl) ?_
  first | refine Es_aload_n (hC _) dX6_refuse_0 rfl ?_ | refine Es_aload_nN (hC _) dX6_refuse_0 rfl ?_
  refine Sg_X6_0 (hC _) fl_X6_7 dX6_refuse_1 ?_
  refine Es_iload_n (hC _) dX6_refuse_4 rfl ?_
  refine Es_ineg (hC _) dX6_refuse_5 ?_
  refine Es_dup2 (hC _) dX6_refuse_6 rfl rfl ?_
  refine Es_ialdN (hC _) dX6_refuse_7 rfl rfl hx hk (by decide) ?_
  refine Es_iconst (v := 1) (hC _) dX6_refuse_8 (by decide) ?_
  refine Es_iadd (hC _) dX6_refuse_9 ?_
  refine Es_iastN (hC _) dX6_refuse_10 rfl (fun _ => rfl) hx hk (by decide) ?_
  refine Es_iload_n (hC _) dX6_refuse_11 rfl ?_
  exact Es_iret dX6_refuse_12 rfl ⟨rfl, rfl, rfl⟩

set_option maxRecDepth 100000 in
set_option maxHeartbeats 4000000 in
theorem c_hasRoomFor {ad : sA} {nw nt : Nat} {B : sB} {L : sL} {k m : Nat} (hk : B 6 0 3 = nI k) (hk6 : k ≤ 600) (hm : m ≤ 600) : Cf yX0_hasRoomFor cX0_hasRoomFor 2 (some FieldType.boolean) 0 [.ref (ad 6 0), .int (nI m)] ad nw nt B L (some (.int (bI (k + m ≤ 600)))) (B) (L) := by
  have hC : ∀ Q, je_Ok (sCm yX0_hasRoomFor cX0_hasRoomFor 2 (some FieldType.boolean) 0 ad nw nt Q) RX0 cX0_hasRoomFor 2 0 := fun _ => je_Cm_ok
  refine Cs_of [some (.ref (ad 6 0)), some (.int (nI m))] (by decide) rfl (Nat.le_of_ble_eq_true rfl) ?_
  first | refine Es_aload_n (hC _) dX0_hasRoomFor_0 rfl ?_ | refine Es_aload_nN (hC _) dX0_hasRoomFor_0 rfl ?_
  refine Sg_X0_3 (hC _) fl_X0_21 dX0_hasRoomFor_1 ?_
  refine Es_iload_n (hC _) dX0_hasRoomFor_4 rfl ?_
  refine Es_iadd (hC _) dX0_hasRoomFor_5 ?_
  refine Es_sipush (v := 600) (hC _) dX0_hasRoomFor_6 (by decide) ?_
  rw [hk, nI_add]
  refine Es_icmp_gt (hC _) 16 dX0_hasRoomFor_9 (by decide) (fun hb9 => ?_) (fun hb9 => ?_)
  · refine Es_iconst (v := 0) (hC _) dX0_hasRoomFor_16 (by decide) ?_
    exact Es_iret dX0_hasRoomFor_17 rfl ⟨by rw [bI, if_neg (fun z => nI_nlt (a := 600) (b := k + m) z (by omega) hb9)], rfl, rfl⟩
  · refine Es_iconst (v := 1) (hC _) dX0_hasRoomFor_12 (by decide) ?_
    refine Es_goto (hC _) 17 dX0_hasRoomFor_13 (by decide) ?_
    exact Es_iret dX0_hasRoomFor_17 rfl ⟨by rw [bI, if_pos (Nat.le_of_not_lt (fun z => hb9 (nI_lt (a := 600) z (by omega))))], rfl, rfl⟩

set_option maxRecDepth 100000 in
set_option maxHeartbeats 4000000 in
theorem r_hasRoom {ad : sA} {nw nt : Nat} {B : sB} {L : sL} {k m : Nat} (hk : B 25 0 7 = nI k) (hk6 : k ≤ 600) (hm : m ≤ 600) : Cf yX6_hasRoom cX6_hasRoom 2 (some FieldType.boolean) 0 [.ref (ad 25 0), .int (nI m)] ad nw nt B L (some (.int (bI (k + m ≤ 600)))) (B) (L) := by
  have hC : ∀ Q, je_Ok (sCm yX6_hasRoom cX6_hasRoom 2 (some FieldType.boolean) 0 ad nw nt Q) RX6 cX6_hasRoom 2 0 := fun _ => je_Cm_ok
  refine Cs_of [some (.ref (ad 25 0)), some (.int (nI m))] (by decide) rfl (Nat.le_of_ble_eq_true rfl) ?_
  first | refine Es_aload_n (hC _) dX6_hasRoom_0 rfl ?_ | refine Es_aload_nN (hC _) dX6_hasRoom_0 rfl ?_
  refine Sg_X6_7 (hC _) fl_X6_101 dX6_hasRoom_1 ?_
  refine Es_iload_n (hC _) dX6_hasRoom_4 rfl ?_
  refine Es_iadd (hC _) dX6_hasRoom_5 ?_
  refine Es_sipush (v := 600) (hC _) dX6_hasRoom_6 (by decide) ?_
  rw [hk, nI_add]
  refine Es_icmp_gt (hC _) 16 dX6_hasRoom_9 (by decide) (fun hb9 => ?_) (fun hb9 => ?_)
  · refine Es_iconst (v := 0) (hC _) dX6_hasRoom_16 (by decide) ?_
    exact Es_iret dX6_hasRoom_17 rfl ⟨by rw [bI, if_neg (fun z => nI_nlt (a := 600) (b := k + m) z (by omega) hb9)], rfl, rfl⟩
  · refine Es_iconst (v := 1) (hC _) dX6_hasRoom_12 (by decide) ?_
    refine Es_goto (hC _) 17 dX6_hasRoom_13 (by decide) ?_
    exact Es_iret dX6_hasRoom_17 rfl ⟨by rw [bI, if_pos (Nat.le_of_not_lt (fun z => hb9 (nI_lt (a := 600) z (by omega))))], rfl, rfl⟩

/-- the log of the class, one row more -/
def cLog (B : sB) (k : Nat) (dy num wh : Int32) : sB := uB (uB (uB (uB B 7 0 k dy) 8 0 k num) 9 0 k wh) 6 0 3 (nI (k + 1))
/-- the log of the reference, one row more -/
def rLog (B : sB) (k t : Nat) : sB := uB (uB (uB (uB B 52 0 k (nI t)) 53 0 k (B 25 0 3)) 54 0 k (B 47 0 t)) 25 0 7 (nI (k + 1))
set_option maxRecDepth 100000 in
set_option maxHeartbeats 4000000 in
theorem c_note {ad : sA} {nw nt : Nat} {B : sB} {L : sL} {k : Nat} {dy num wh : Int32} (hk : B 6 0 3 = nI k) (h6 : k < 600) : Cf yX0_note cX0_note 4 none 1 [.ref (ad 6 0), .int dy, .int num, .int wh] ad nw nt B L (none) (cLog B k dy num wh) (L) := by
  have hC : ∀ Q, je_Ok (sCm yX0_note cX0_note 4 none 1 ad nw nt Q) RX0 cX0_note 4 1 := fun _ => je_Cm_ok
  refine Cs_of [some (.ref (ad 6 0)), some (.int dy), some (.int num), some (.int wh)] (by decide) rfl (Nat.le_of_ble_eq_true rfl) ?_
  first | refine Es_aload_n (hC _) dX0_note_0 rfl ?_ | refine Es_aload_nN (hC _) dX0_note_0 rfl ?_
  refine Sg_X0_3 (hC _) fl_X0_21 dX0_note_1 ?_
  refine Es_sipush (v := 600) (hC _) dX0_note_4 (by decide) ?_
  refine Es_icmp_ge (hC _) 56 dX0_note_7 (by decide) (fun hb7 => False.elim (nI_ge (b := 600) h6 (by decide) (by rw [← hk]; exact hb7))) (fun hb7 => ?_)
  first | refine Es_aload_n (hC _) dX0_note_10 rfl ?_ | refine Es_aload_nN (hC _) dX0_note_10 rfl ?_
  refine Sg_X0_0 (hC _) fl_X0_9 dX0_note_11 ?_
  first | refine Es_aload_n (hC _) dX0_note_14 rfl ?_ | refine Es_aload_nN (hC _) dX0_note_14 rfl ?_
  refine Sg_X0_3 (hC _) fl_X0_21 dX0_note_15 ?_
  refine Es_iload_n (hC _) dX0_note_18 rfl ?_
  refine Es_fSN (hC _) ms_X0_25 dX0_note_19 (c_write (kd := 7) (n := 600) rfl (fun _ => rfl) hk h6 (by decide)) rfl rfl (by decide) (Nat.le_of_ble_eq_true rfl) ?_
  first | refine Es_aload_n (hC _) dX0_note_22 rfl ?_ | refine Es_aload_nN (hC _) dX0_note_22 rfl ?_
  refine Sg_X0_1 (hC _) fl_X0_15 dX0_note_23 ?_
  first | refine Es_aload_n (hC _) dX0_note_26 rfl ?_ | refine Es_aload_nN (hC _) dX0_note_26 rfl ?_
  refine Sg_X0_3 (hC _) fl_X0_21 dX0_note_27 ?_
  refine Es_iload_n (hC _) dX0_note_30 rfl ?_
  refine Es_fSN (hC _) ms_X0_25 dX0_note_31 (c_write (kd := 8) (n := 600) rfl (fun _ => rfl) (by rw [uB_n (by omega)]; exact hk) h6 (by decide)) rfl rfl (by decide) (Nat.le_of_ble_eq_true rfl) ?_
  first | refine Es_aload_n (hC _) dX0_note_34 rfl ?_ | refine Es_aload_nN (hC _) dX0_note_34 rfl ?_
  refine Sg_X0_2 (hC _) fl_X0_18 dX0_note_35 ?_
  first | refine Es_aload_n (hC _) dX0_note_38 rfl ?_ | refine Es_aload_nN (hC _) dX0_note_38 rfl ?_
  refine Sg_X0_3 (hC _) fl_X0_21 dX0_note_39 ?_
  refine Es_iload_n (hC _) dX0_note_42 rfl ?_
  refine Es_fSN (hC _) ms_X0_25 dX0_note_43 (c_write (kd := 9) (n := 600) rfl (fun _ => rfl) (by rw [uB_n (by omega), uB_n (by omega)]; exact hk) h6 (by decide)) rfl rfl (by decide) (Nat.le_of_ble_eq_true rfl) ?_
  first | refine Es_aload_n (hC _) dX0_note_46 rfl ?_ | refine Es_aload_nN (hC _) dX0_note_46 rfl ?_
  refine Es_dup (hC _) dX0_note_47 rfl ?_
  refine Sg_X0_3 (hC _) fl_X0_21 dX0_note_48 ?_
  refine Es_iconst (v := 1) (hC _) dX0_note_51 (by decide) ?_
  refine Es_iadd (hC _) dX0_note_52 ?_
  refine Sp_X0_3 (hC _) fl_X0_21 dX0_note_53 ?_
  exact Es_vret dX0_note_56 ⟨rfl, by rw [uB_n (by omega), uB_n (by omega), uB_n (by omega), hk, nI_1]; rfl, rfl⟩

set_option maxRecDepth 100000 in
set_option maxHeartbeats 4000000 in
theorem c_note_full {ad : sA} {nw nt : Nat} {B : sB} {L : sL} {dy num wh : Int32} (hk : B 6 0 3 = nI 600) : Cf yX0_note cX0_note 4 none 1 [.ref (ad 6 0), .int dy, .int num, .int wh] ad nw nt B L (none) (B) (L) := by
  have hC : ∀ Q, je_Ok (sCm yX0_note cX0_note 4 none 1 ad nw nt Q) RX0 cX0_note 4 1 := fun _ => je_Cm_ok
  refine Cs_of [some (.ref (ad 6 0)), some (.int dy), some (.int num), some (.int wh)] (by decide) rfl (Nat.le_of_ble_eq_true rfl) ?_
  first | refine Es_aload_n (hC _) dX0_note_0 rfl ?_ | refine Es_aload_nN (hC _) dX0_note_0 rfl ?_
  refine Sg_X0_3 (hC _) fl_X0_21 dX0_note_1 ?_
  refine Es_sipush (v := 600) (hC _) dX0_note_4 (by decide) ?_
  refine Es_icmp_ge (hC _) 56 dX0_note_7 (by decide) (fun hb7 => ?_) (fun hb7 => False.elim (hb7 (by rw [hk]; exact nI_le (Nat.le_refl _) (by decide))))
  exact Es_vret dX0_note_56 ⟨rfl, rfl, rfl⟩

set_option maxRecDepth 100000 in
set_option maxHeartbeats 4000000 in
theorem c_move_null {ad : sA} {nw nt : Nat} {B : sB} {L : sL} {wh : Int32} : Cf yX5_move cX5_move 3 none 2 [.ref (ad 0 0), .null, .int wh] ad nw nt B L (none) (B) (L) := by
  have hC : ∀ Q, je_Ok (sCm yX5_move cX5_move 3 none 2 ad nw nt Q) RX5 cX5_move 3 2 := fun _ => je_Cm_ok
  refine Cs_of [some (.ref (ad 0 0)), some (.null), some (.int wh)] (by decide) rfl (Nat.le_of_ble_eq_true rfl) ?_
  first | refine Es_aload_n (hC _) dX5_move_0 rfl ?_ | refine Es_aload_nN (hC _) dX5_move_0 rfl ?_
  refine Es_ifnullN (hC _) 25 dX5_move_1 (by decide) ?_
  exact Es_vret dX5_move_25 ⟨rfl, rfl, rfl⟩

set_option maxRecDepth 100000 in
set_option maxHeartbeats 4000000 in
theorem c_move {ad : sA} {nw nt : Nat} {B : sB} {L : sL} {t k : Nat} {wh : Int32} (ht : t < nt) (hk : B 6 0 3 = nI k) (h6 : k < 600) : Cf yX5_move cX5_move 3 none 2 [.ref (ad 0 0), .ref (ad 21 t), .int wh] ad nw nt B L (none) (cLog (uB B 21 t 10 wh) k (B 0 0 11) (B 21 t 0) wh) (L) := by
  have hC : ∀ Q, je_Ok (sCm yX5_move cX5_move 3 none 2 ad nw nt Q) RX5 cX5_move 3 2 := fun _ => je_Cm_ok
  refine Cs_of [some (.ref (ad 0 0)), some (.ref (ad 21 t)), some (.int wh)] (by decide) rfl (Nat.le_of_ble_eq_true rfl) ?_
  first | refine Es_aload_n (hC _) dX5_move_0 rfl ?_ | refine Es_aload_nN (hC _) dX5_move_0 rfl ?_
  refine Es_ifnull (hC _) dX5_move_1 ?_
  first | refine Es_aload_n (hC _) dX5_move_4 rfl ?_ | refine Es_aload_nN (hC _) dX5_move_4 rfl ?_
  refine Es_iload_n (hC _) dX5_move_5 rfl ?_
  refine Sp_X2_10 (hC _) fl_X5_139 dX5_move_6 ht ?_
  first | refine Es_aload_n (hC _) dX5_move_9 rfl ?_ | refine Es_aload_nN (hC _) dX5_move_9 rfl ?_
  refine Sg_X5_5 (hC _) fl_X5_45 dX5_move_10 ?_
  first | refine Es_aload_n (hC _) dX5_move_13 rfl ?_ | refine Es_aload_nN (hC _) dX5_move_13 rfl ?_
  refine Sg_X5_11 (hC _) fl_X5_116 dX5_move_14 ?_
  first | refine Es_aload_n (hC _) dX5_move_17 rfl ?_ | refine Es_aload_nN (hC _) dX5_move_17 rfl ?_
  refine Sg_X2_0 (hC _) fl_X5_125 dX5_move_18 ht ?_
  refine Es_iload_n (hC _) dX5_move_21 rfl ?_
  refine Es_fV (hC _) mv_X5_274 dX5_move_22 (c_note (by rw [uB_n (by omega)]; exact hk) h6) rfl rfl ⟨_, rfl, rfl⟩ rfl rfl (by decide) (Nat.le_of_ble_eq_true rfl) ?_
  exact Es_vret dX5_move_25 ⟨rfl, by rw [uB_n (by omega), uB_n (by omega)], rfl⟩

set_option maxRecDepth 100000 in
set_option maxHeartbeats 4000000 in
theorem c_move_full {ad : sA} {nw nt : Nat} {B : sB} {L : sL} {t : Nat} {wh : Int32} (ht : t < nt) (hk : B 6 0 3 = nI 600) : Cf yX5_move cX5_move 3 none 2 [.ref (ad 0 0), .ref (ad 21 t), .int wh] ad nw nt B L (none) (uB B 21 t 10 wh) (L) := by
  have hC : ∀ Q, je_Ok (sCm yX5_move cX5_move 3 none 2 ad nw nt Q) RX5 cX5_move 3 2 := fun _ => je_Cm_ok
  refine Cs_of [some (.ref (ad 0 0)), some (.ref (ad 21 t)), some (.int wh)] (by decide) rfl (Nat.le_of_ble_eq_true rfl) ?_
  first | refine Es_aload_n (hC _) dX5_move_0 rfl ?_ | refine Es_aload_nN (hC _) dX5_move_0 rfl ?_
  refine Es_ifnull (hC _) dX5_move_1 ?_
  first | refine Es_aload_n (hC _) dX5_move_4 rfl ?_ | refine Es_aload_nN (hC _) dX5_move_4 rfl ?_
  refine Es_iload_n (hC _) dX5_move_5 rfl ?_
  refine Sp_X2_10 (hC _) fl_X5_139 dX5_move_6 ht ?_
  first | refine Es_aload_n (hC _) dX5_move_9 rfl ?_ | refine Es_aload_nN (hC _) dX5_move_9 rfl ?_
  refine Sg_X5_5 (hC _) fl_X5_45 dX5_move_10 ?_
  first | refine Es_aload_n (hC _) dX5_move_13 rfl ?_ | refine Es_aload_nN (hC _) dX5_move_13 rfl ?_
  refine Sg_X5_11 (hC _) fl_X5_116 dX5_move_14 ?_
  first | refine Es_aload_n (hC _) dX5_move_17 rfl ?_ | refine Es_aload_nN (hC _) dX5_move_17 rfl ?_
  refine Sg_X2_0 (hC _) fl_X5_125 dX5_move_18 ht ?_
  refine Es_iload_n (hC _) dX5_move_21 rfl ?_
  refine Es_fV (hC _) mv_X5_274 dX5_move_22 (c_note_full (by rw [uB_n (by omega)]; exact hk)) rfl rfl ⟨_, rfl, rfl⟩ rfl rfl (by decide) (Nat.le_of_ble_eq_true rfl) ?_
  exact Es_vret dX5_move_25 ⟨rfl, rfl, rfl⟩

set_option maxRecDepth 100000 in
set_option maxHeartbeats 4000000 in
theorem r_log {ad : sA} {nw nt : Nat} {B : sB} {L : sL} {t k : Nat} (ht : t < 40) (hk : B 25 0 7 = nI k) (h6 : k < 600) : Cf yX6_log cX6_log 2 none 0 [.ref (ad 25 0), .int (nI t)] ad nw nt B L (none) (rLog B k t) (L) := by
  have hC : ∀ Q, je_Ok (sCm yX6_log cX6_log 2 none 0 ad nw nt Q) RX6 cX6_log 2 0 := fun _ => je_Cm_ok
  refine Cs_of [some (.ref (ad 25 0)), some (.int (nI t))] (by decide) rfl (Nat.le_of_ble_eq_true rfl) ?_
  first | refine Es_aload_n (hC _) dX6_log_0 rfl ?_ | refine Es_aload_nN (hC _) dX6_log_0 rfl ?_
  refine Sg_X6_7 (hC _) fl_X6_101 dX6_log_1 ?_
  refine Es_sipush (v := 600) (hC _) dX6_log_4 (by decide) ?_
  refine Es_icmp_ne (hC _) 11 dX6_log_7 (by decide) (fun hb7 => ?_) (fun hb7 => False.elim (absurd ((nI_eq (a := k) (b := 600) (by omega) (by decide)).mp (hk.symm.trans hb7)) (by omega)))
  first | refine Es_aload_n (hC _) dX6_log_11 rfl ?_ | refine Es_aload_nN (hC _) dX6_log_11 rfl ?_
  refine Sg_X6_22 (hC _) fl_X6_65 dX6_log_12 ?_
  first | refine Es_aload_n (hC _) dX6_log_15 rfl ?_ | refine Es_aload_nN (hC _) dX6_log_15 rfl ?_
  refine Sg_X6_7 (hC _) fl_X6_101 dX6_log_16 ?_
  refine Es_iload_n (hC _) dX6_log_19 rfl ?_
  refine Es_iastN (hC _) dX6_log_20 rfl (fun _ => rfl) hk h6 (by decide) ?_
  first | refine Es_aload_n (hC _) dX6_log_21 rfl ?_ | refine Es_aload_nN (hC _) dX6_log_21 rfl ?_
  refine Sg_X6_23 (hC _) fl_X6_68 dX6_log_22 ?_
  first | refine Es_aload_n (hC _) dX6_log_25 rfl ?_ | refine Es_aload_nN (hC _) dX6_log_25 rfl ?_
  refine Sg_X6_7 (hC _) fl_X6_101 dX6_log_26 ?_
  first | refine Es_aload_n (hC _) dX6_log_29 rfl ?_ | refine Es_aload_nN (hC _) dX6_log_29 rfl ?_
  refine Sg_X6_3 (hC _) fl_X6_104 dX6_log_30 ?_
  refine Es_iastN (hC _) dX6_log_33 rfl (fun _ => rfl) (by rw [uB_n (by omega)]; exact hk) h6 (by decide) ?_
  first | refine Es_aload_n (hC _) dX6_log_34 rfl ?_ | refine Es_aload_nN (hC _) dX6_log_34 rfl ?_
  refine Sg_X6_24 (hC _) fl_X6_71 dX6_log_35 ?_
  first | refine Es_aload_n (hC _) dX6_log_38 rfl ?_ | refine Es_aload_nN (hC _) dX6_log_38 rfl ?_
  refine Sg_X6_7 (hC _) fl_X6_101 dX6_log_39 ?_
  first | refine Es_aload_n (hC _) dX6_log_42 rfl ?_ | refine Es_aload_nN (hC _) dX6_log_42 rfl ?_
  refine Sg_X6_17 (hC _) fl_X6_50 dX6_log_43 ?_
  refine Es_iload_n (hC _) dX6_log_46 rfl ?_
  refine Es_ialdN (hC _) dX6_log_47 rfl rfl rfl ht (by decide) ?_
  refine Es_iastN (hC _) dX6_log_48 rfl (fun _ => rfl) (by rw [uB_n (by omega), uB_n (by omega)]; exact hk) h6 (by decide) ?_
  first | refine Es_aload_n (hC _) dX6_log_49 rfl ?_ | refine Es_aload_nN (hC _) dX6_log_49 rfl ?_
  refine Es_dup (hC _) dX6_log_50 rfl ?_
  refine Sg_X6_7 (hC _) fl_X6_101 dX6_log_51 ?_
  refine Es_iconst (v := 1) (hC _) dX6_log_54 (by decide) ?_
  refine Es_iadd (hC _) dX6_log_55 ?_
  refine Sp_X6_7 (hC _) fl_X6_101 dX6_log_56 ?_
  exact Es_vret dX6_log_59 ⟨rfl, by rw [uB_n (by omega), uB_n (by omega), uB_n (by omega), uB_n (by omega), uB_n (by omega), uB_n (by omega), hk, nI_1]; rfl, rfl⟩

set_option maxRecDepth 100000 in
set_option maxHeartbeats 4000000 in
theorem r_log_full {ad : sA} {nw nt : Nat} {B : sB} {L : sL} {x : Int32} (hk : B 25 0 7 = nI 600) : Cf yX6_log cX6_log 2 none 0 [.ref (ad 25 0), .int x] ad nw nt B L (none) (B) (L) := by
  have hC : ∀ Q, je_Ok (sCm yX6_log cX6_log 2 none 0 ad nw nt Q) RX6 cX6_log 2 0 := fun _ => je_Cm_ok
  refine Cs_of [some (.ref (ad 25 0)), some (.int x)] (by decide) rfl (Nat.le_of_ble_eq_true rfl) ?_
  first | refine Es_aload_n (hC _) dX6_log_0 rfl ?_ | refine Es_aload_nN (hC _) dX6_log_0 rfl ?_
  refine Sg_X6_7 (hC _) fl_X6_101 dX6_log_1 ?_
  refine Es_sipush (v := 600) (hC _) dX6_log_4 (by decide) ?_
  refine Es_icmp_ne (hC _) 11 dX6_log_7 (by decide) (fun hb7 => False.elim (hb7 hk)) (fun hb7 => ?_)
  exact Es_vret dX6_log_10 ⟨rfl, rfl, rfl⟩

set_option maxRecDepth 100000 in
set_option maxHeartbeats 4000000 in
theorem r_lays {ad : sA} {nw nt : Nat} {B : sB} {L : sL} {t k : Nat} {x : Int32} (ht : t < 40) (hk : B 25 0 7 = nI k) (h6 : k < 600) : Cf yX6_lays cX6_lays 3 none 1 [.ref (ad 25 0), .int (nI t), .int x] ad nw nt B L (none) (rLog (uB B 47 0 t x) k t) (L) := by
  have hC : ∀ Q, je_Ok (sCm yX6_lays cX6_lays 3 none 1 ad nw nt Q) RX6 cX6_lays 3 1 := fun _ => je_Cm_ok
  refine Cs_of [some (.ref (ad 25 0)), some (.int (nI t)), some (.int x)] (by decide) rfl (Nat.le_of_ble_eq_true rfl) ?_
  first | refine Es_aload_n (hC _) dX6_lays_0 rfl ?_ | refine Es_aload_nN (hC _) dX6_lays_0 rfl ?_
  refine Sg_X6_17 (hC _) fl_X6_50 dX6_lays_1 ?_
  refine Es_iload_n (hC _) dX6_lays_4 rfl ?_
  refine Es_iload_n (hC _) dX6_lays_5 rfl ?_
  refine Es_iastN (hC _) dX6_lays_6 rfl (fun _ => rfl) rfl ht (by decide) ?_
  first | refine Es_aload_n (hC _) dX6_lays_7 rfl ?_ | refine Es_aload_nN (hC _) dX6_lays_7 rfl ?_
  refine Es_iload_n (hC _) dX6_lays_8 rfl ?_
  refine Es_fV (hC _) mv_X6_118 dX6_lays_9 (r_log ht (by rw [uB_n (by omega)]; exact hk) h6) rfl rfl ⟨_, rfl, rfl⟩ rfl rfl (by decide) (Nat.le_of_ble_eq_true rfl) ?_
  exact Es_vret dX6_lays_12 ⟨rfl, rfl, rfl⟩

set_option maxRecDepth 100000 in
set_option maxHeartbeats 4000000 in
theorem r_lays_full {ad : sA} {nw nt : Nat} {B : sB} {L : sL} {t : Nat} {x : Int32} (ht : t < 40) (hk : B 25 0 7 = nI 600) : Cf yX6_lays cX6_lays 3 none 1 [.ref (ad 25 0), .int (nI t), .int x] ad nw nt B L (none) (uB B 47 0 t x) (L) := by
  have hC : ∀ Q, je_Ok (sCm yX6_lays cX6_lays 3 none 1 ad nw nt Q) RX6 cX6_lays 3 1 := fun _ => je_Cm_ok
  refine Cs_of [some (.ref (ad 25 0)), some (.int (nI t)), some (.int x)] (by decide) rfl (Nat.le_of_ble_eq_true rfl) ?_
  first | refine Es_aload_n (hC _) dX6_lays_0 rfl ?_ | refine Es_aload_nN (hC _) dX6_lays_0 rfl ?_
  refine Sg_X6_17 (hC _) fl_X6_50 dX6_lays_1 ?_
  refine Es_iload_n (hC _) dX6_lays_4 rfl ?_
  refine Es_iload_n (hC _) dX6_lays_5 rfl ?_
  refine Es_iastN (hC _) dX6_lays_6 rfl (fun _ => rfl) rfl ht (by decide) ?_
  first | refine Es_aload_n (hC _) dX6_lays_7 rfl ?_ | refine Es_aload_nN (hC _) dX6_lays_7 rfl ?_
  refine Es_iload_n (hC _) dX6_lays_8 rfl ?_
  refine Es_fV (hC _) mv_X6_118 dX6_lays_9 (r_log_full (by rw [uB_n (by omega)]; exact hk)) rfl rfl ⟨_, rfl, rfl⟩ rfl rfl (by decide) (Nat.le_of_ble_eq_true rfl) ?_
  exact Es_vret dX6_lays_12 ⟨rfl, rfl, rfl⟩

set_option maxRecDepth 100000 in
set_option maxHeartbeats 4000000 in
theorem c_hasPlace_in {ad : sA} {nw nt : Nat} {B : sB} {L : sL} {w p : Nat} (hw : w < nw) (hp : B 18 w 3 = nI p) (h7 : p ≤ 7) {j : Nat} (hj : j < p) : Cf yX3_hasPlace cX3_hasPlace 2 (some FieldType.boolean) 0 [.ref (ad 18 w), .int (nI j)] ad nw nt B L (some (.int 1)) (B) (L) := by
  have hC : ∀ Q, je_Ok (sCm yX3_hasPlace cX3_hasPlace 2 (some FieldType.boolean) 0 ad nw nt Q) RX3 cX3_hasPlace 2 0 := fun _ => je_Cm_ok
  refine Cs_of [some (.ref (ad 18 w)), some (.int (nI j))] (by decide) rfl (Nat.le_of_ble_eq_true rfl) ?_
  refine Es_iload_n (hC _) dX3_hasPlace_0 rfl ?_
  refine Es_if_lt (hC _) 22 dX3_hasPlace_1 (by decide) (fun hb1 => False.elim (nI_pos (by omega) hb1)) (fun hb1 => ?_)
  refine Es_iload_n (hC _) dX3_hasPlace_4 rfl ?_
  first | refine Es_aload_n (hC _) dX3_hasPlace_5 rfl ?_ | refine Es_aload_nN (hC _) dX3_hasPlace_5 rfl ?_
  refine Sg_X3_3 (hC _) fl_X3_25 dX3_hasPlace_6 hw ?_
  rw [hp]
  refine Es_icmp_ge (hC _) 22 dX3_hasPlace_9 (by decide) (fun hb9 => False.elim (nI_ge hj (by omega) hb9)) (fun hb9 => ?_)
  refine Es_iload_n (hC _) dX3_hasPlace_12 rfl ?_
  refine Es_bipush (v := 7) (hC _) dX3_hasPlace_13 (by decide) ?_
  refine Es_icmp_ge (hC _) 22 dX3_hasPlace_15 (by decide) (fun hb15 => False.elim (nI_ge (b := 7) (a := j) (by omega) (by omega) hb15)) (fun hb15 => ?_)
  refine Es_iconst (v := 1) (hC _) dX3_hasPlace_18 (by decide) ?_
  refine Es_goto (hC _) 23 dX3_hasPlace_19 (by decide) ?_
  exact Es_iret dX3_hasPlace_23 rfl ⟨rfl, rfl, rfl⟩

set_option maxRecDepth 100000 in
set_option maxHeartbeats 4000000 in
theorem c_hasPlace_out {ad : sA} {nw nt : Nat} {B : sB} {L : sL} {w p : Nat} (hw : w < nw) (hp : B 18 w 3 = nI p) (h7 : p ≤ 7) {x : Int32} (ho : out x p) : Cf yX3_hasPlace cX3_hasPlace 2 (some FieldType.boolean) 0 [.ref (ad 18 w), .int x] ad nw nt B L (some (.int 0)) (B) (L) := by
  have hC : ∀ Q, je_Ok (sCm yX3_hasPlace cX3_hasPlace 2 (some FieldType.boolean) 0 ad nw nt Q) RX3 cX3_hasPlace 2 0 := fun _ => je_Cm_ok
  refine Cs_of [some (.ref (ad 18 w)), some (.int x)] (by decide) rfl (Nat.le_of_ble_eq_true rfl) ?_
  refine Es_iload_n (hC _) dX3_hasPlace_0 rfl ?_
  refine Es_if_lt (hC _) 22 dX3_hasPlace_1 (by decide) (fun hb1 => ?_) (fun hb1 => ?_)
  · refine Es_iconst (v := 0) (hC _) dX3_hasPlace_22 (by decide) ?_
    exact Es_iret dX3_hasPlace_23 rfl ⟨rfl, rfl, rfl⟩
  · refine Es_iload_n (hC _) dX3_hasPlace_4 rfl ?_
    first | refine Es_aload_n (hC _) dX3_hasPlace_5 rfl ?_ | refine Es_aload_nN (hC _) dX3_hasPlace_5 rfl ?_
    refine Sg_X3_3 (hC _) fl_X3_25 dX3_hasPlace_6 hw ?_
    rw [hp]
    refine Es_icmp_ge (hC _) 22 dX3_hasPlace_9 (by decide) (fun hb9 => ?_) (fun hb9 => ?_)
    · refine Es_iconst (v := 0) (hC _) dX3_hasPlace_22 (by decide) ?_
      exact Es_iret dX3_hasPlace_23 rfl ⟨rfl, rfl, rfl⟩
    · exact (ho.elim hb1 hb9).elim

set_option maxRecDepth 100000 in
set_option maxHeartbeats 4000000 in
theorem c_isFull {ad : sA} {nw nt : Nat} {B : sB} {L : sL} {w p : Nat} (hw : w < nw) (hp : B 18 w 3 = nI p) (h7 : p ≤ 7) : Cf yX3_isFull cX3_isFull 1 (some FieldType.boolean) 0 [.ref (ad 18 w)] ad nw nt B L (some (.int (bI (p = 7)))) (B) (L) := by
  have hC : ∀ Q, je_Ok (sCm yX3_isFull cX3_isFull 1 (some FieldType.boolean) 0 ad nw nt Q) RX3 cX3_isFull 1 0 := fun _ => je_Cm_ok
  refine Cs_of [some (.ref (ad 18 w))] (by decide) rfl (Nat.le_of_ble_eq_true rfl) ?_
  first | refine Es_aload_n (hC _) dX3_isFull_0 rfl ?_ | refine Es_aload_nN (hC _) dX3_isFull_0 rfl ?_
  refine Sg_X3_3 (hC _) fl_X3_25 dX3_isFull_1 hw ?_
  refine Es_bipush (v := 7) (hC _) dX3_isFull_4 (by decide) ?_
  rw [hp]
  refine Es_icmp_lt (hC _) 13 dX3_isFull_6 (by decide) (fun hb6 => ?_) (fun hb6 => ?_)
  · refine Es_iconst (v := 0) (hC _) dX3_isFull_13 (by decide) ?_
    exact Es_iret dX3_isFull_14 rfl ⟨by rw [bI, if_neg (fun z => nI_nlt (b := 7) (a := p) (by omega) (by omega) hb6)], rfl, rfl⟩
  · refine Es_iconst (v := 1) (hC _) dX3_isFull_9 (by decide) ?_
    refine Es_goto (hC _) 14 dX3_isFull_10 (by decide) ?_
    exact Es_iret dX3_isFull_14 rfl ⟨by rw [bI, if_pos (Decidable.byContradiction (fun z => hb6 (nI_lt (b := 7) (by omega) (by decide))))], rfl, rfl⟩

set_option maxRecDepth 100000 in
set_option maxHeartbeats 4000000 in
theorem c_addPlace {ad : sA} {nw nt : Nat} {B : sB} {L : sL} {w p : Nat} {x : Int32} (hw : w < nw) (hp : B 18 w 3 = nI p) (h7 : p < 7) : Cf yX3_addPlace cX3_addPlace 3 (some FieldType.int) 1 [.ref (ad 18 w), .int x] ad nw nt B L (some (.int (nI p))) (uB (uB B 19 w p x) 18 w 3 (nI (p + 1))) (L) := by
  have hC : ∀ Q, je_Ok (sCm yX3_addPlace cX3_addPlace 3 (some FieldType.int) 1 ad nw nt Q) RX3 cX3_addPlace 3 1 := fun _ => je_Cm_ok
  refine Cs_of [some (.ref (ad 18 w)), some (.int x), none] (by decide) rfl (Nat.le_of_ble_eq_true rfl) ?_
  first | refine Es_aload_n (hC _) dX3_addPlace_0 rfl ?_ | refine Es_aload_nN (hC _) dX3_addPlace_0 rfl ?_
  refine Sg_X3_3 (hC _) fl_X3_25 dX3_addPlace_1 hw ?_
  rw [hp]
  refine Es_istore_n (lv' := [_, _, _]) (hC _) dX3_addPlace_4 (by decide) rfl rfl ?_
  first | refine Es_aload_n (hC _) dX3_addPlace_5 rfl ?_ | refine Es_aload_nN (hC _) dX3_addPlace_5 rfl ?_
  refine Sg_X3_1 (hC _) fl_X3_9 dX3_addPlace_6 hw ?_
  refine Es_iload_n (hC _) dX3_addPlace_9 rfl ?_
  refine Es_iload_n (hC _) dX3_addPlace_10 rfl ?_
  refine Es_fSN (hC _) ms_X3_28 dX3_addPlace_11 (c_write (kd := 19) (n := 7) (ok19 hw) (fun _ => rfl) rfl h7 (by decide)) rfl rfl (by decide) (Nat.le_of_ble_eq_true rfl) ?_
  first | refine Es_aload_n (hC _) dX3_addPlace_14 rfl ?_ | refine Es_aload_nN (hC _) dX3_addPlace_14 rfl ?_
  refine Es_iload_n (hC _) dX3_addPlace_15 rfl ?_
  refine Es_iconst (v := 1) (hC _) dX3_addPlace_16 (by decide) ?_
  refine Es_iadd (hC _) dX3_addPlace_17 ?_
  rw [nI_1]
  refine Sp_X3_3 (hC _) fl_X3_25 dX3_addPlace_18 hw ?_
  refine Es_iload_n (hC _) dX3_addPlace_21 rfl ?_
  exact Es_iret dX3_addPlace_22 rfl ⟨rfl, rfl, rfl⟩

set_option maxRecDepth 100000 in
set_option maxHeartbeats 4000000 in
theorem c_kindOf_in {ad : sA} {nw nt : Nat} {B : sB} {L : sL} {w p : Nat} (hw : w < nw) (hp : B 18 w 3 = nI p) (h7 : p ≤ 7) {j : Nat} (hj : j < p) : Cf yX3_kindOf cX3_kindOf 2 (some FieldType.int) 1 [.ref (ad 18 w), .int (nI j)] ad nw nt B L (some (.int (B 19 w j))) (B) (L) := by
  have hC : ∀ Q, je_Ok (sCm yX3_kindOf cX3_kindOf 2 (some FieldType.int) 1 ad nw nt Q) RX3 cX3_kindOf 2 1 := fun _ => je_Cm_ok
  refine Cs_of [some (.ref (ad 18 w)), some (.int (nI j))] (by decide) rfl (Nat.le_of_ble_eq_true rfl) ?_
  first | refine Es_aload_n (hC _) dX3_kindOf_0 rfl ?_ | refine Es_aload_nN (hC _) dX3_kindOf_0 rfl ?_
  refine Es_iload_n (hC _) dX3_kindOf_1 rfl ?_
  refine Es_fV (hC _) mv_X3_32 dX3_kindOf_2 (c_hasPlace_in hw hp h7 hj) (ok18 hw) rfl ⟨_, rfl, rfl⟩ rfl rfl (by decide) (Nat.le_of_ble_eq_true rfl) ?_
  refine Es_if_eq (hC _) 19 dX3_kindOf_5 (by decide) (fun hb5 => False.elim (absurd hb5 (by decide))) (fun hb5 => ?_)
  first | refine Es_aload_n (hC _) dX3_kindOf_8 rfl ?_ | refine Es_aload_nN (hC _) dX3_kindOf_8 rfl ?_
  refine Sg_X3_1 (hC _) fl_X3_9 dX3_kindOf_9 hw ?_
  refine Es_iload_n (hC _) dX3_kindOf_12 rfl ?_
  refine Es_fSN (hC _) ms_X3_36 dX3_kindOf_13 (c_at (kd := 19) (n := 7) (ok19 hw) rfl rfl (by omega) (by decide)) rfl rfl (by decide) (Nat.le_of_ble_eq_true rfl) ?_
  refine Es_goto (hC _) 21 dX3_kindOf_16 (by decide) ?_
  exact Es_iret dX3_kindOf_21 rfl ⟨rfl, rfl, rfl⟩

set_option maxRecDepth 100000 in
set_option maxHeartbeats 4000000 in
theorem c_kindOf_out {ad : sA} {nw nt : Nat} {B : sB} {L : sL} {w p : Nat} (hw : w < nw) (hp : B 18 w 3 = nI p) (h7 : p ≤ 7) {x : Int32} (ho : out x p) : Cf yX3_kindOf cX3_kindOf 2 (some FieldType.int) 1 [.ref (ad 18 w), .int x] ad nw nt B L (some (.int (-9))) (B) (L) := by
  have hC : ∀ Q, je_Ok (sCm yX3_kindOf cX3_kindOf 2 (some FieldType.int) 1 ad nw nt Q) RX3 cX3_kindOf 2 1 := fun _ => je_Cm_ok
  refine Cs_of [some (.ref (ad 18 w)), some (.int x)] (by decide) rfl (Nat.le_of_ble_eq_true rfl) ?_
  first | refine Es_aload_n (hC _) dX3_kindOf_0 rfl ?_ | refine Es_aload_nN (hC _) dX3_kindOf_0 rfl ?_
  refine Es_iload_n (hC _) dX3_kindOf_1 rfl ?_
  refine Es_fV (hC _) mv_X3_32 dX3_kindOf_2 (c_hasPlace_out hw hp h7 ho) (ok18 hw) rfl ⟨_, rfl, rfl⟩ rfl rfl (by decide) (Nat.le_of_ble_eq_true rfl) ?_
  refine Es_if_eq (hC _) 19 dX3_kindOf_5 (by decide) (fun hb5 => ?_) (fun hb5 => False.elim (hb5 rfl))
  refine Es_bipush (v := -9) (hC _) dX3_kindOf_19 (by decide) ?_
  exact Es_iret dX3_kindOf_21 rfl ⟨rfl, rfl, rfl⟩

set_option maxRecDepth 100000 in
set_option maxHeartbeats 4000000 in
theorem c_tyreOn_in {ad : sA} {nw nt : Nat} {B : sB} {L : sL} {w p : Nat} (hw : w < nw) (hp : B 18 w 3 = nI p) (h7 : p ≤ 7) {j : Nat} (hj : j < p) : Cf yX3_tyreOn cX3_tyreOn 2 (some (FieldType.object "TyreBook$Tyre")) 1 [.ref (ad 18 w), .int (nI j)] ad nw nt B L (some (va_rf (rT ad (B 20 w j)))) (B) (L) := by
  have hC : ∀ Q, je_Ok (sCm yX3_tyreOn cX3_tyreOn 2 (some (FieldType.object "TyreBook$Tyre")) 1 ad nw nt Q) RX3 cX3_tyreOn 2 1 := fun _ => je_Cm_ok
  refine Cs_of [some (.ref (ad 18 w)), some (.int (nI j))] (by decide) rfl (Nat.le_of_ble_eq_true rfl) ?_
  first | refine Es_aload_n (hC _) dX3_tyreOn_0 rfl ?_ | refine Es_aload_nN (hC _) dX3_tyreOn_0 rfl ?_
  refine Es_iload_n (hC _) dX3_tyreOn_1 rfl ?_
  refine Es_fV (hC _) mv_X3_32 dX3_tyreOn_2 (c_hasPlace_in hw hp h7 hj) (ok18 hw) rfl ⟨_, rfl, rfl⟩ rfl rfl (by decide) (Nat.le_of_ble_eq_true rfl) ?_
  refine Es_if_eq (hC _) 17 dX3_tyreOn_5 (by decide) (fun hb5 => False.elim (absurd hb5 (by decide))) (fun hb5 => ?_)
  first | refine Es_aload_n (hC _) dX3_tyreOn_8 rfl ?_ | refine Es_aload_nN (hC _) dX3_tyreOn_8 rfl ?_
  refine Sg_X3_2 (hC _) fl_X3_17 dX3_tyreOn_9 hw ?_
  refine Es_iload_n (hC _) dX3_tyreOn_12 rfl ?_
  refine Es_aaldN (hC _) (Or.inl rfl) dX3_tyreOn_13 (ok20 hw) rfl rfl (by omega) (by decide) rfl ?_
  refine Es_goto (hC _) 18 dX3_tyreOn_14 (by decide) ?_
  exact Es_aret dX3_tyreOn_18 (va_rf_or _) ⟨rfl, rfl, rfl⟩

set_option maxRecDepth 100000 in
set_option maxHeartbeats 4000000 in
theorem c_tyreOn_out {ad : sA} {nw nt : Nat} {B : sB} {L : sL} {w p : Nat} (hw : w < nw) (hp : B 18 w 3 = nI p) (h7 : p ≤ 7) {x : Int32} (ho : out x p) : Cf yX3_tyreOn cX3_tyreOn 2 (some (FieldType.object "TyreBook$Tyre")) 1 [.ref (ad 18 w), .int x] ad nw nt B L (some .null) (B) (L) := by
  have hC : ∀ Q, je_Ok (sCm yX3_tyreOn cX3_tyreOn 2 (some (FieldType.object "TyreBook$Tyre")) 1 ad nw nt Q) RX3 cX3_tyreOn 2 1 := fun _ => je_Cm_ok
  refine Cs_of [some (.ref (ad 18 w)), some (.int x)] (by decide) rfl (Nat.le_of_ble_eq_true rfl) ?_
  first | refine Es_aload_n (hC _) dX3_tyreOn_0 rfl ?_ | refine Es_aload_nN (hC _) dX3_tyreOn_0 rfl ?_
  refine Es_iload_n (hC _) dX3_tyreOn_1 rfl ?_
  refine Es_fV (hC _) mv_X3_32 dX3_tyreOn_2 (c_hasPlace_out hw hp h7 ho) (ok18 hw) rfl ⟨_, rfl, rfl⟩ rfl rfl (by decide) (Nat.le_of_ble_eq_true rfl) ?_
  refine Es_if_eq (hC _) 17 dX3_tyreOn_5 (by decide) (fun hb5 => ?_) (fun hb5 => False.elim (hb5 rfl))
  refine Es_null (hC _) dX3_tyreOn_17 ?_
  exact Es_aret dX3_tyreOn_18 (by first | exact Or.inl rfl | exact Or.inr ⟨_, rfl⟩) ⟨rfl, rfl, rfl⟩

set_option maxRecDepth 100000 in
set_option maxHeartbeats 4000000 in
theorem c_lay_null {ad : sA} {nw nt : Nat} {B : sB} {L : sL} {w p : Nat} (hw : w < nw) (hp : B 18 w 3 = nI p) (h7 : p ≤ 7) {j : Nat} (hj : j < p) : Cf yX3_lay cX3_lay 3 none 1 [.ref (ad 18 w), .int (nI j), .null] ad nw nt B L (none) (uB B 20 w j (-1)) (L) := by
  have hC : ∀ Q, je_Ok (sCm yX3_lay cX3_lay 3 none 1 ad nw nt Q) RX3 cX3_lay 3 1 := fun _ => je_Cm_ok
  refine Cs_of [some (.ref (ad 18 w)), some (.int (nI j)), some (.null)] (by decide) rfl (Nat.le_of_ble_eq_true rfl) ?_
  first | refine Es_aload_n (hC _) dX3_lay_0 rfl ?_ | refine Es_aload_nN (hC _) dX3_lay_0 rfl ?_
  refine Es_iload_n (hC _) dX3_lay_1 rfl ?_
  refine Es_fV (hC _) mv_X3_32 dX3_lay_2 (c_hasPlace_in hw hp h7 hj) (ok18 hw) rfl ⟨_, rfl, rfl⟩ rfl rfl (by decide) (Nat.le_of_ble_eq_true rfl) ?_
  refine Es_if_eq (hC _) 15 dX3_lay_5 (by decide) (fun hb5 => False.elim (absurd hb5 (by decide))) (fun hb5 => ?_)
  first | refine Es_aload_n (hC _) dX3_lay_8 rfl ?_ | refine Es_aload_nN (hC _) dX3_lay_8 rfl ?_
  refine Sg_X3_2 (hC _) fl_X3_17 dX3_lay_9 hw ?_
  refine Es_iload_n (hC _) dX3_lay_12 rfl ?_
  first | refine Es_aload_n (hC _) dX3_lay_13 rfl ?_ | refine Es_aload_nN (hC _) dX3_lay_13 rfl ?_
  refine Es_aastNK (hC _) dX3_lay_14 (ok20 hw) (fun _ => rfl) rfl (by omega) ?_
  exact Es_vret dX3_lay_15 ⟨rfl, rfl, rfl⟩

set_option maxRecDepth 100000 in
set_option maxHeartbeats 4000000 in
theorem c_lay {ad : sA} {nw nt : Nat} {B : sB} {L : sL} {w p : Nat} (hw : w < nw) (hp : B 18 w 3 = nI p) (h7 : p ≤ 7) {j t : Nat} (hj : j < p) (ht : t < nt) (ht2 : t < 2 ^ 31) : Cf yX3_lay cX3_lay 3 none 1 [.ref (ad 18 w), .int (nI j), .ref (ad 21 t)] ad nw nt B L (none) (uB B 20 w j (nI t)) (L) := by
  have hC : ∀ Q, je_Ok (sCm yX3_lay cX3_lay 3 none 1 ad nw nt Q) RX3 cX3_lay 3 1 := fun _ => je_Cm_ok
  refine Cs_of [some (.ref (ad 18 w)), some (.int (nI j)), some (.ref (ad 21 t))] (by decide) rfl (Nat.le_of_ble_eq_true rfl) ?_
  first | refine Es_aload_n (hC _) dX3_lay_0 rfl ?_ | refine Es_aload_nN (hC _) dX3_lay_0 rfl ?_
  refine Es_iload_n (hC _) dX3_lay_1 rfl ?_
  refine Es_fV (hC _) mv_X3_32 dX3_lay_2 (c_hasPlace_in hw hp h7 hj) (ok18 hw) rfl ⟨_, rfl, rfl⟩ rfl rfl (by decide) (Nat.le_of_ble_eq_true rfl) ?_
  refine Es_if_eq (hC _) 15 dX3_lay_5 (by decide) (fun hb5 => False.elim (absurd hb5 (by decide))) (fun hb5 => ?_)
  first | refine Es_aload_n (hC _) dX3_lay_8 rfl ?_ | refine Es_aload_nN (hC _) dX3_lay_8 rfl ?_
  refine Sg_X3_2 (hC _) fl_X3_17 dX3_lay_9 hw ?_
  refine Es_iload_n (hC _) dX3_lay_12 rfl ?_
  first | refine Es_aload_n (hC _) dX3_lay_13 rfl ?_ | refine Es_aload_nN (hC _) dX3_lay_13 rfl ?_
  refine Es_aastK (hC _) dX3_lay_14 (ok20 hw) (fun _ => rfl) rfl (by omega) ht ht2 ?_
  exact Es_vret dX3_lay_15 ⟨rfl, rfl, rfl⟩

set_option maxRecDepth 100000 in
set_option maxHeartbeats 4000000 in
theorem c_spot {ad : sA} {nw nt : Nat} {B : sB} {L : sL} {w j : Nat} (hw : w < nw) (hn : B 18 w 0 = nI w) : Cf yX3_spot cX3_spot 2 (some FieldType.int) 0 [.ref (ad 18 w), .int (nI j)] ad nw nt B L (some (.int (nI (10 * w + j)))) (B) (L) := by
  have hC : ∀ Q, je_Ok (sCm yX3_spot cX3_spot 2 (some FieldType.int) 0 ad nw nt Q) RX3 cX3_spot 2 0 := fun _ => je_Cm_ok
  refine Cs_of [some (.ref (ad 18 w)), some (.int (nI j))] (by decide) rfl (Nat.le_of_ble_eq_true rfl) ?_
  refine Es_bipush (v := 10) (hC _) dX3_spot_0 (by decide) ?_
  first | refine Es_aload_n (hC _) dX3_spot_2 rfl ?_ | refine Es_aload_nN (hC _) dX3_spot_2 rfl ?_
  refine Sg_X3_0 (hC _) fl_X3_21 dX3_spot_3 hw ?_
  rw [hn]
  refine Es_imul (hC _) dX3_spot_6 ?_
  refine Es_iload_n (hC _) dX3_spot_7 rfl ?_
  refine Es_iadd (hC _) dX3_spot_8 ?_
  exact Es_iret dX3_spot_9 rfl ⟨by rw [show (10 : Int32) = nI 10 from rfl, pk_mul, nI_add], rfl, rfl⟩

set_option maxRecDepth 100000 in
set_option maxHeartbeats 4000000 in
theorem r_spot {ad : sA} {nw nt : Nat} {B : sB} {L : sL} {w j : Nat} : Cf yX6_spot cX6_spot 2 (some FieldType.int) 0 [.int (nI w), .int (nI j)] ad nw nt B L (some (.int (nI (7 * w + j)))) (B) (L) := by
  have hC : ∀ Q, je_Ok (sCm yX6_spot cX6_spot 2 (some FieldType.int) 0 ad nw nt Q) RX6 cX6_spot 2 0 := fun _ => je_Cm_ok
  refine Cs_of [some (.int (nI w)), some (.int (nI j))] (by decide) rfl (Nat.le_of_ble_eq_true rfl) ?_
  refine Es_bipush (v := 7) (hC _) dX6_spot_0 (by decide) ?_
  refine Es_iload_n (hC _) dX6_spot_2 rfl ?_
  refine Es_imul (hC _) dX6_spot_3 ?_
  refine Es_iload_n (hC _) dX6_spot_4 rfl ?_
  refine Es_iadd (hC _) dX6_spot_5 ?_
  exact Es_iret dX6_spot_6 rfl ⟨by rw [show (7 : Int32) = nI 7 from rfl, pk_mul, nI_add], rfl, rfl⟩

set_option maxRecDepth 100000 in
set_option maxHeartbeats 4000000 in
theorem r_isPlace_in {ad : sA} {nw nt : Nat} {B : sB} {L : sL} {w j p : Nat} (hn : B 25 0 4 = nI nw) (h5 : nw ≤ 5) (hw : w < nw) (hp : B 38 0 w = nI p) (h7 : p ≤ 7) (hj : j < p) : Cf yX6_isPlace cX6_isPlace 3 (some FieldType.boolean) 1 [.ref (ad 25 0), .int (nI w), .int (nI j)] ad nw nt B L (some (.int 1)) (B) (L) := by
  have hC : ∀ Q, je_Ok (sCm yX6_isPlace cX6_isPlace 3 (some FieldType.boolean) 1 ad nw nt Q) RX6 cX6_isPlace 3 1 := fun _ => je_Cm_ok
  refine Cs_of [some (.ref (ad 25 0)), some (.int (nI w)), some (.int (nI j))] (by decide) rfl (Nat.le_of_ble_eq_true rfl) ?_
  refine Es_iload_n (hC _) dX6_isPlace_0 rfl ?_
  first | refine Es_aload_n (hC _) dX6_isPlace_1 rfl ?_ | refine Es_aload_nN (hC _) dX6_isPlace_1 rfl ?_
  refine Sg_X6_4 (hC _) fl_X6_86 dX6_isPlace_2 ?_
  rw [hn]
  refine Es_fS (hC _) ms_X6_89 dX6_isPlace_5 (r_isIn_in hw (by omega)) rfl rfl (by decide) (Nat.le_of_ble_eq_true rfl) ?_
  refine Es_if_eq (hC _) 28 dX6_isPlace_8 (by decide) (fun hb8 => False.elim (absurd hb8 (by decide))) (fun hb8 => ?_)
  refine Es_iload_n (hC _) dX6_isPlace_11 rfl ?_
  first | refine Es_aload_n (hC _) dX6_isPlace_12 rfl ?_ | refine Es_aload_nN (hC _) dX6_isPlace_12 rfl ?_
  refine Sg_X6_8 (hC _) fl_X6_23 dX6_isPlace_13 ?_
  refine Es_iload_n (hC _) dX6_isPlace_16 rfl ?_
  refine Es_ialdN (hC _) dX6_isPlace_17 rfl rfl rfl (by omega) (by decide) ?_
  rw [hp]
  refine Es_fS (hC _) ms_X6_89 dX6_isPlace_18 (r_isIn_in hj (by omega)) rfl rfl (by decide) (Nat.le_of_ble_eq_true rfl) ?_
  refine Es_if_eq (hC _) 28 dX6_isPlace_21 (by decide) (fun hb21 => False.elim (absurd hb21 (by decide))) (fun hb21 => ?_)
  refine Es_iconst (v := 1) (hC _) dX6_isPlace_24 (by decide) ?_
  refine Es_goto (hC _) 29 dX6_isPlace_25 (by decide) ?_
  exact Es_iret dX6_isPlace_29 rfl ⟨rfl, rfl, rfl⟩

set_option maxRecDepth 100000 in
set_option maxHeartbeats 4000000 in
theorem r_isPlace_out1 {ad : sA} {nw nt : Nat} {B : sB} {L : sL} {x y : Int32} (hn : B 25 0 4 = nI nw) (ho : out x nw) : Cf yX6_isPlace cX6_isPlace 3 (some FieldType.boolean) 1 [.ref (ad 25 0), .int x, .int y] ad nw nt B L (some (.int 0)) (B) (L) := by
  have hC : ∀ Q, je_Ok (sCm yX6_isPlace cX6_isPlace 3 (some FieldType.boolean) 1 ad nw nt Q) RX6 cX6_isPlace 3 1 := fun _ => je_Cm_ok
  refine Cs_of [some (.ref (ad 25 0)), some (.int x), some (.int y)] (by decide) rfl (Nat.le_of_ble_eq_true rfl) ?_
  refine Es_iload_n (hC _) dX6_isPlace_0 rfl ?_
  first | refine Es_aload_n (hC _) dX6_isPlace_1 rfl ?_ | refine Es_aload_nN (hC _) dX6_isPlace_1 rfl ?_
  refine Sg_X6_4 (hC _) fl_X6_86 dX6_isPlace_2 ?_
  rw [hn]
  refine Es_fS (hC _) ms_X6_89 dX6_isPlace_5 (r_isIn_out ho) rfl rfl (by decide) (Nat.le_of_ble_eq_true rfl) ?_
  refine Es_if_eq (hC _) 28 dX6_isPlace_8 (by decide) (fun hb8 => ?_) (fun hb8 => False.elim (hb8 rfl))
  refine Es_iconst (v := 0) (hC _) dX6_isPlace_28 (by decide) ?_
  exact Es_iret dX6_isPlace_29 rfl ⟨rfl, rfl, rfl⟩

set_option maxRecDepth 100000 in
set_option maxHeartbeats 4000000 in
theorem r_isPlace_out2 {ad : sA} {nw nt : Nat} {B : sB} {L : sL} {w p : Nat} {y : Int32} (hn : B 25 0 4 = nI nw) (h5 : nw ≤ 5) (hw : w < nw) (hp : B 38 0 w = nI p) (ho : out y p) : Cf yX6_isPlace cX6_isPlace 3 (some FieldType.boolean) 1 [.ref (ad 25 0), .int (nI w), .int y] ad nw nt B L (some (.int 0)) (B) (L) := by
  have hC : ∀ Q, je_Ok (sCm yX6_isPlace cX6_isPlace 3 (some FieldType.boolean) 1 ad nw nt Q) RX6 cX6_isPlace 3 1 := fun _ => je_Cm_ok
  refine Cs_of [some (.ref (ad 25 0)), some (.int (nI w)), some (.int y)] (by decide) rfl (Nat.le_of_ble_eq_true rfl) ?_
  refine Es_iload_n (hC _) dX6_isPlace_0 rfl ?_
  first | refine Es_aload_n (hC _) dX6_isPlace_1 rfl ?_ | refine Es_aload_nN (hC _) dX6_isPlace_1 rfl ?_
  refine Sg_X6_4 (hC _) fl_X6_86 dX6_isPlace_2 ?_
  rw [hn]
  refine Es_fS (hC _) ms_X6_89 dX6_isPlace_5 (r_isIn_in hw (by omega)) rfl rfl (by decide) (Nat.le_of_ble_eq_true rfl) ?_
  refine Es_if_eq (hC _) 28 dX6_isPlace_8 (by decide) (fun hb8 => False.elim (absurd hb8 (by decide))) (fun hb8 => ?_)
  refine Es_iload_n (hC _) dX6_isPlace_11 rfl ?_
  first | refine Es_aload_n (hC _) dX6_isPlace_12 rfl ?_ | refine Es_aload_nN (hC _) dX6_isPlace_12 rfl ?_
  refine Sg_X6_8 (hC _) fl_X6_23 dX6_isPlace_13 ?_
  refine Es_iload_n (hC _) dX6_isPlace_16 rfl ?_
  refine Es_ialdN (hC _) dX6_isPlace_17 rfl rfl rfl (by omega) (by decide) ?_
  rw [hp]
  refine Es_fS (hC _) ms_X6_89 dX6_isPlace_18 (r_isIn_out ho) rfl rfl (by decide) (Nat.le_of_ble_eq_true rfl) ?_
  refine Es_if_eq (hC _) 28 dX6_isPlace_21 (by decide) (fun hb21 => ?_) (fun hb21 => False.elim (hb21 rfl))
  refine Es_iconst (v := 0) (hC _) dX6_isPlace_28 (by decide) ?_
  exact Es_iret dX6_isPlace_29 rfl ⟨rfl, rfl, rfl⟩

set_option maxRecDepth 100000 in
set_option maxHeartbeats 4000000 in
theorem r_fresh {ad : sA} {nw nt : Nat} {B : sB} {L : sL} {t : Nat} (ht : t < 40) : Cf yX6_fresh cX6_fresh 2 none 0 [.ref (ad 25 0), .int (nI t)] ad nw nt B L (none) (uB (uB (uB (uB B 46 0 t 0) 49 0 t 1) 50 0 (13 * t) 0) 51 0 (13 * t) 180) (L) := by
  have hC : ∀ Q, je_Ok (sCm yX6_fresh cX6_fresh 2 none 0 ad nw nt Q) RX6 cX6_fresh 2 0 := fun _ => je_Cm_ok
  refine Cs_of [some (.ref (ad 25 0)), some (.int (nI t))] (by decide) rfl (Nat.le_of_ble_eq_true rfl) ?_
  first | refine Es_aload_n (hC _) dX6_fresh_0 rfl ?_ | refine Es_aload_nN (hC _) dX6_fresh_0 rfl ?_
  refine Sg_X6_16 (hC _) fl_X6_47 dX6_fresh_1 ?_
  refine Es_iload_n (hC _) dX6_fresh_4 rfl ?_
  refine Es_iconst (v := 0) (hC _) dX6_fresh_5 (by decide) ?_
  refine Es_iastN (hC _) dX6_fresh_6 rfl (fun _ => rfl) rfl ht (by decide) ?_
  first | refine Es_aload_n (hC _) dX6_fresh_7 rfl ?_ | refine Es_aload_nN (hC _) dX6_fresh_7 rfl ?_
  refine Sg_X6_19 (hC _) fl_X6_56 dX6_fresh_8 ?_
  refine Es_iload_n (hC _) dX6_fresh_11 rfl ?_
  refine Es_iconst (v := 1) (hC _) dX6_fresh_12 (by decide) ?_
  refine Es_iastN (hC _) dX6_fresh_13 rfl (fun _ => rfl) rfl ht (by decide) ?_
  first | refine Es_aload_n (hC _) dX6_fresh_14 rfl ?_ | refine Es_aload_nN (hC _) dX6_fresh_14 rfl ?_
  refine Sg_X6_20 (hC _) fl_X6_59 dX6_fresh_15 ?_
  refine Es_bipush (v := 13) (hC _) dX6_fresh_18 (by decide) ?_
  refine Es_iload_n (hC _) dX6_fresh_20 rfl ?_
  refine Es_imul (hC _) dX6_fresh_21 ?_
  refine Es_iconst (v := 0) (hC _) dX6_fresh_22 (by decide) ?_
  refine Es_iastN (hC _) dX6_fresh_23 rfl (fun _ => rfl) (by rw [show (13 : Int32) = nI 13 from rfl, pk_mul]) (by omega) (by decide) ?_
  first | refine Es_aload_n (hC _) dX6_fresh_24 rfl ?_ | refine Es_aload_nN (hC _) dX6_fresh_24 rfl ?_
  refine Sg_X6_21 (hC _) fl_X6_62 dX6_fresh_25 ?_
  refine Es_bipush (v := 13) (hC _) dX6_fresh_28 (by decide) ?_
  refine Es_iload_n (hC _) dX6_fresh_30 rfl ?_
  refine Es_imul (hC _) dX6_fresh_31 ?_
  refine Es_sipush (v := 180) (hC _) dX6_fresh_32 (by decide) ?_
  refine Es_iastN (hC _) dX6_fresh_35 rfl (fun _ => rfl) (by rw [show (13 : Int32) = nI 13 from rfl, pk_mul]) (by omega) (by decide) ?_
  exact Es_vret dX6_fresh_36 ⟨rfl, rfl, rfl⟩

set_option maxRecDepth 100000 in
set_option maxHeartbeats 4000000 in
theorem r_lastOf {ad : sA} {nw nt : Nat} {B : sB} {L : sL} {t r : Nat} (ht : t < 40) (hr : B 49 0 t = nI (r + 1)) : Cf yX6_lastOf cX6_lastOf 2 (some FieldType.int) 0 [.ref (ad 25 0), .int (nI t)] ad nw nt B L (some (.int (nI (13 * t + r)))) (B) (L) := by
  have hC : ∀ Q, je_Ok (sCm yX6_lastOf cX6_lastOf 2 (some FieldType.int) 0 ad nw nt Q) RX6 cX6_lastOf 2 0 := fun _ => je_Cm_ok
  refine Cs_of [some (.ref (ad 25 0)), some (.int (nI t))] (by decide) rfl (Nat.le_of_ble_eq_true rfl) ?_
  refine Es_bipush (v := 13) (hC _) dX6_lastOf_0 (by decide) ?_
  refine Es_iload_n (hC _) dX6_lastOf_2 rfl ?_
  refine Es_imul (hC _) dX6_lastOf_3 ?_
  first | refine Es_aload_n (hC _) dX6_lastOf_4 rfl ?_ | refine Es_aload_nN (hC _) dX6_lastOf_4 rfl ?_
  refine Sg_X6_19 (hC _) fl_X6_56 dX6_lastOf_5 ?_
  refine Es_iload_n (hC _) dX6_lastOf_8 rfl ?_
  refine Es_ialdN (hC _) dX6_lastOf_9 rfl rfl rfl ht (by decide) ?_
  refine Es_iadd (hC _) dX6_lastOf_10 ?_
  refine Es_iconst (v := 1) (hC _) dX6_lastOf_11 (by decide) ?_
  refine Es_isub (hC _) dX6_lastOf_12 ?_
  exact Es_iret dX6_lastOf_13 rfl ⟨by rw [hr, show (13 : Int32) = nI 13 from rfl, pk_mul, nI_add, ← Nat.add_assoc, nI_pred], rfl, rfl⟩

set_option maxRecDepth 100000 in
set_option maxHeartbeats 4000000 in
theorem c_hasReading_in {ad : sA} {nw nt : Nat} {B : sB} {L : sL} {t r j : Nat} (ht : t < nt) (hr : B 21 t 6 = nI r) (h12 : r ≤ 12) (hj : j < r) : Cf yX2_hasReading cX2_hasReading 2 (some FieldType.boolean) 0 [.ref (ad 21 t), .int (nI j)] ad nw nt B L (some (.int 1)) (B) (L) := by
  have hC : ∀ Q, je_Ok (sCm yX2_hasReading cX2_hasReading 2 (some FieldType.boolean) 0 ad nw nt Q) RX2 cX2_hasReading 2 0 := fun _ => je_Cm_ok
  refine Cs_of [some (.ref (ad 21 t)), some (.int (nI j))] (by decide) rfl (Nat.le_of_ble_eq_true rfl) ?_
  refine Es_iload_n (hC _) dX2_hasReading_0 rfl ?_
  refine Es_if_lt (hC _) 16 dX2_hasReading_1 (by decide) (fun hb1 => False.elim (nI_pos (by omega) hb1)) (fun hb1 => ?_)
  refine Es_iload_n (hC _) dX2_hasReading_4 rfl ?_
  first | refine Es_aload_n (hC _) dX2_hasReading_5 rfl ?_ | refine Es_aload_nN (hC _) dX2_hasReading_5 rfl ?_
  refine Sg_X2_6 (hC _) fl_X2_44 dX2_hasReading_6 ht ?_
  rw [hr]
  refine Es_icmp_ge (hC _) 16 dX2_hasReading_9 (by decide) (fun hb9 => False.elim (nI_ge hj (by omega) hb9)) (fun hb9 => ?_)
  refine Es_iconst (v := 1) (hC _) dX2_hasReading_12 (by decide) ?_
  refine Es_goto (hC _) 17 dX2_hasReading_13 (by decide) ?_
  exact Es_iret dX2_hasReading_17 rfl ⟨rfl, rfl, rfl⟩

set_option maxRecDepth 100000 in
set_option maxHeartbeats 4000000 in
theorem c_hasReading_out {ad : sA} {nw nt : Nat} {B : sB} {L : sL} {t r : Nat} {x : Int32} (ht : t < nt) (hr : B 21 t 6 = nI r) (ho : out x r) : Cf yX2_hasReading cX2_hasReading 2 (some FieldType.boolean) 0 [.ref (ad 21 t), .int x] ad nw nt B L (some (.int 0)) (B) (L) := by
  have hC : ∀ Q, je_Ok (sCm yX2_hasReading cX2_hasReading 2 (some FieldType.boolean) 0 ad nw nt Q) RX2 cX2_hasReading 2 0 := fun _ => je_Cm_ok
  refine Cs_of [some (.ref (ad 21 t)), some (.int x)] (by decide) rfl (Nat.le_of_ble_eq_true rfl) ?_
  refine Es_iload_n (hC _) dX2_hasReading_0 rfl ?_
  refine Es_if_lt (hC _) 16 dX2_hasReading_1 (by decide) (fun hb1 => ?_) (fun hb1 => ?_)
  · refine Es_iconst (v := 0) (hC _) dX2_hasReading_16 (by decide) ?_
    exact Es_iret dX2_hasReading_17 rfl ⟨rfl, rfl, rfl⟩
  · refine Es_iload_n (hC _) dX2_hasReading_4 rfl ?_
    first | refine Es_aload_n (hC _) dX2_hasReading_5 rfl ?_ | refine Es_aload_nN (hC _) dX2_hasReading_5 rfl ?_
    refine Sg_X2_6 (hC _) fl_X2_44 dX2_hasReading_6 ht ?_
    rw [hr]
    refine Es_icmp_ge (hC _) 16 dX2_hasReading_9 (by decide) (fun hb9 => ?_) (fun hb9 => ?_)
    · refine Es_iconst (v := 0) (hC _) dX2_hasReading_16 (by decide) ?_
      exact Es_iret dX2_hasReading_17 rfl ⟨rfl, rfl, rfl⟩
    · exact (ho.elim hb1 hb9).elim

set_option maxRecDepth 100000 in
set_option maxHeartbeats 4000000 in
theorem c_sinceRead {ad : sA} {nw nt : Nat} {B : sB} {L : sL} {t r : Nat} (ht : t < nt) (hr : B 21 t 6 = nI (r + 1)) (h12 : r < 12) : Cf yX2_sinceRead cX2_sinceRead 1 (some FieldType.int) 1 [.ref (ad 21 t)] ad nw nt B L (some (.int (B 21 t 9 - B 22 t r))) (B) (L) := by
  have hC : ∀ Q, je_Ok (sCm yX2_sinceRead cX2_sinceRead 1 (some FieldType.int) 1 ad nw nt Q) RX2 cX2_sinceRead 1 1 := fun _ => je_Cm_ok
  refine Cs_of [some (.ref (ad 21 t))] (by decide) rfl (Nat.le_of_ble_eq_true rfl) ?_
  first | refine Es_aload_n (hC _) dX2_sinceRead_0 rfl ?_ | refine Es_aload_nN (hC _) dX2_sinceRead_0 rfl ?_
  refine Sg_X2_9 (hC _) fl_X2_41 dX2_sinceRead_1 ht ?_
  first | refine Es_aload_n (hC _) dX2_sinceRead_4 rfl ?_ | refine Es_aload_nN (hC _) dX2_sinceRead_4 rfl ?_
  refine Sg_X2_3 (hC _) fl_X2_9 dX2_sinceRead_5 ht ?_
  first | refine Es_aload_n (hC _) dX2_sinceRead_8 rfl ?_ | refine Es_aload_nN (hC _) dX2_sinceRead_8 rfl ?_
  refine Sg_X2_6 (hC _) fl_X2_44 dX2_sinceRead_9 ht ?_
  rw [hr]
  refine Es_iconst (v := 1) (hC _) dX2_sinceRead_12 (by decide) ?_
  refine Es_isub (hC _) dX2_sinceRead_13 ?_
  refine Es_fSN (hC _) ms_X2_61 dX2_sinceRead_14 (c_at (kd := 22) (n := 12) (ok22 ht) rfl (nI_pred _) h12 (by decide)) rfl rfl (by decide) (Nat.le_of_ble_eq_true rfl) ?_
  refine Es_isub (hC _) dX2_sinceRead_17 ?_
  exact Es_iret dX2_sinceRead_18 rfl ⟨rfl, rfl, rfl⟩

