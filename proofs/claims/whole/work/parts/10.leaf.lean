set_option maxRecDepth 100000 in
set_option maxHeartbeats 4000000 in
theorem c_at {ad : sA} {nw nt : Nat} {B : sB} {L : sL} {kd j n k : Nat} (hk : sOk nw nt kd j = true) (hcell : sC ad nw nt B L kd j = ai n (B kd j)) (hn : k < n) (h31 : n < 2 ^ 31) : Cf yX5_at cX5_at 2 (some FieldType.int) 0 [.ref (ad kd j), .int (nI k)] ad nw nt B L (some (.int (B kd j k))) (B) (L) := by
  have hC : ∀ Q, je_Ok (sCm yX5_at cX5_at 2 (some FieldType.int) 0 ad nw nt Q) RX5 cX5_at 2 0 := fun _ => je_Cm_ok
  refine Cs_of [some (.ref (ad kd j)), some (.int (nI k))] (by decide) rfl (Nat.le_of_ble_eq_true rfl) ?_
  refine Es_iload_n (hC _) dX5_at_0 rfl ?_
  refine Es_if_lt (hC _) 16 dX5_at_1 (by decide) (fun hb1 => (nI_pos (by omega) hb1).elim) (fun hb1 => ?_)
  refine Es_iload_n (hC _) dX5_at_4 rfl ?_
  first | refine Es_aload_n (hC _) dX5_at_5 rfl ?_ | refine Es_aload_nN (hC _) dX5_at_5 rfl ?_
  refine Es_alen (t := 0) (x := (n, .inl (B kd j))) (hC _) dX5_at_6 hk hcell (by decide) ?_
  refine Es_icmp_ge (hC _) 16 dX5_at_7 (by decide) (fun hb7 => (nI_ge hn h31 hb7).elim) (fun hb7 => ?_)
  first | refine Es_aload_n (hC _) dX5_at_10 rfl ?_ | refine Es_aload_nN (hC _) dX5_at_10 rfl ?_
  refine Es_iload_n (hC _) dX5_at_11 rfl ?_
  refine Es_ialdN (hC _) dX5_at_12 hk hcell rfl hn h31 ?_
  refine Es_goto (hC _) 17 dX5_at_13 (by decide) ?_
  exact Es_iret dX5_at_17 rfl ⟨rfl, rfl, rfl⟩

set_option maxRecDepth 100000 in
set_option maxHeartbeats 4000000 in
theorem c_write {ad : sA} {nw nt : Nat} {B : sB} {L : sL} {kd j n k : Nat} {x : Int32} (hk : sOk nw nt kd j = true) (hcell : ∀ B : sB, sC ad nw nt B L kd j = ai n (B kd j)) (hn : k < n) (h31 : n < 2 ^ 31) : Cf yX5_write cX5_write 3 none 0 [.ref (ad kd j), .int (nI k), .int x] ad nw nt B L (none) (uB B kd j k x) (L) := by
  have hC : ∀ Q, je_Ok (sCm yX5_write cX5_write 3 none 0 ad nw nt Q) RX5 cX5_write 3 0 := fun _ => je_Cm_ok
  refine Cs_of [some (.ref (ad kd j)), some (.int (nI k)), some (.int x)] (by decide) rfl (Nat.le_of_ble_eq_true rfl) ?_
  refine Es_iload_n (hC _) dX5_write_0 rfl ?_
  refine Es_if_lt (hC _) 14 dX5_write_1 (by decide) (fun hb1 => (nI_pos (by omega) hb1).elim) (fun hb1 => ?_)
  refine Es_iload_n (hC _) dX5_write_4 rfl ?_
  first | refine Es_aload_n (hC _) dX5_write_5 rfl ?_ | refine Es_aload_nN (hC _) dX5_write_5 rfl ?_
  refine Es_alen (t := 0) (x := (n, .inl (B kd j))) (hC _) dX5_write_6 hk (hcell B) (by decide) ?_
  refine Es_icmp_ge (hC _) 14 dX5_write_7 (by decide) (fun hb7 => (nI_ge hn h31 hb7).elim) (fun hb7 => ?_)
  first | refine Es_aload_n (hC _) dX5_write_10 rfl ?_ | refine Es_aload_nN (hC _) dX5_write_10 rfl ?_
  refine Es_iload_n (hC _) dX5_write_11 rfl ?_
  refine Es_iload_n (hC _) dX5_write_12 rfl ?_
  refine Es_iastN (hC _) dX5_write_13 hk hcell rfl hn h31 ?_
  exact Es_vret dX5_write_14 ⟨rfl, rfl, rfl⟩

