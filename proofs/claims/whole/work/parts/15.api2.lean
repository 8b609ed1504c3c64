set_option maxRecDepth 100000 in
set_option maxHeartbeats 4000000 in
theorem c_swap_1a {ad : sA} {nw nt : Nat} {B : sB} {L : sL} (hnw : B 0 0 8 = nI nw) (h5 : nw ≤ 5) {xw : Int32} (how : out xw nw) {xv : Int32} (hov : out xv nw) {a b : Int32} : Cf yX5_swap cX5_swap 9 (some FieldType.int) 5 [.ref (ad 0 0), .int xw, .int a, .int xv, .int b] ad nw nt B L (some (.int (-1))) (uB B 5 0 1 (B 5 0 1 + 1)) (L) := by
  have hC : ∀ Q, je_Ok (sCm yX5_swap cX5_swap 9 (some FieldType.int) 5 ad nw nt Q) RX5 cX5_swap 9 5 := fun _ => je_Cm_ok
  refine Cs_of [some (.ref (ad 0 0)), some (.int xw), some (.int a), some (.int xv), some (.int b), none, none, none, none] (by decide) rfl (Nat.le_of_ble_eq_true rfl) ?_
  first | refine Es_aload_n (hC _) dX5_swap_0 rfl ?_ | refine Es_aload_nN (hC _) dX5_swap_0 rfl ?_
  refine Es_iload_n (hC _) dX5_swap_1 rfl ?_
  refine Es_fV (hC _) mv_X5_77 dX5_swap_2 (c_wagonAt_out hnw how) rfl rfl ⟨_, rfl, rfl⟩ rfl rfl (by decide) (Nat.le_of_ble_eq_true rfl) ?_
  first | refine Es_astore (lv' := [_, _, _, _, _, _, _, _, _]) (hC _) dX5_swap_5 (by decide) rfl rfl ?_ | refine Es_astoreN (lv' := [_, _, _, _, _, _, _, _, _]) (hC _) dX5_swap_5 (by decide) rfl rfl ?_
  first | refine Es_aload_n (hC _) dX5_swap_7 rfl ?_ | refine Es_aload_nN (hC _) dX5_swap_7 rfl ?_
  refine Es_iload_n (hC _) dX5_swap_8 rfl ?_
  refine Es_fV (hC _) mv_X5_77 dX5_swap_9 (c_wagonAt_out hnw hov) rfl rfl ⟨_, rfl, rfl⟩ rfl rfl (by decide) (Nat.le_of_ble_eq_true rfl) ?_
  first | refine Es_astore (lv' := [_, _, _, _, _, _, _, _, _]) (hC _) dX5_swap_12 (by decide) rfl rfl ?_ | refine Es_astoreN (lv' := [_, _, _, _, _, _, _, _, _]) (hC _) dX5_swap_12 (by decide) rfl rfl ?_
  first | refine Es_aload (hC _) dX5_swap_14 rfl ?_ | refine Es_aloadN (hC _) dX5_swap_14 rfl ?_
  refine Es_ifnullN (hC _) 43 dX5_swap_16 (by decide) ?_
  first | refine Es_aload_n (hC _) dX5_swap_43 rfl ?_ | refine Es_aload_nN (hC _) dX5_swap_43 rfl ?_
  refine Es_iconst (v := -1) (hC _) dX5_swap_44 (by decide) ?_
  refine Es_fV (hC _) mv_X5_70 dX5_swap_45 (c_refuse (k := 1) (by decide) (by decide)) rfl rfl ⟨_, rfl, rfl⟩ rfl rfl (by decide) (Nat.le_of_ble_eq_true rfl) ?_
  exact Es_iret dX5_swap_48 rfl ⟨rfl, rfl, rfl⟩

set_option maxRecDepth 100000 in
set_option maxHeartbeats 4000000 in
theorem c_swap_1b {ad : sA} {nw nt : Nat} {B : sB} {L : sL} (hnw : B 0 0 8 = nI nw) (h5 : nw ≤ 5) {xw : Int32} (how : out xw nw) {v : Nat} (hv : v < nw) {a b : Int32} : Cf yX5_swap cX5_swap 9 (some FieldType.int) 5 [.ref (ad 0 0), .int xw, .int a, .int (nI v), .int b] ad nw nt B L (some (.int (-1))) (uB B 5 0 1 (B 5 0 1 + 1)) (L) := by
  have hC : ∀ Q, je_Ok (sCm yX5_swap cX5_swap 9 (some FieldType.int) 5 ad nw nt Q) RX5 cX5_swap 9 5 := fun _ => je_Cm_ok
  refine Cs_of [some (.ref (ad 0 0)), some (.int xw), some (.int a), some (.int (nI v)), some (.int b), none, none, none, none] (by decide) rfl (Nat.le_of_ble_eq_true rfl) ?_
  first | refine Es_aload_n (hC _) dX5_swap_0 rfl ?_ | refine Es_aload_nN (hC _) dX5_swap_0 rfl ?_
  refine Es_iload_n (hC _) dX5_swap_1 rfl ?_
  refine Es_fV (hC _) mv_X5_77 dX5_swap_2 (c_wagonAt_out hnw how) rfl rfl ⟨_, rfl, rfl⟩ rfl rfl (by decide) (Nat.le_of_ble_eq_true rfl) ?_
  first | refine Es_astore (lv' := [_, _, _, _, _, _, _, _, _]) (hC _) dX5_swap_5 (by decide) rfl rfl ?_ | refine Es_astoreN (lv' := [_, _, _, _, _, _, _, _, _]) (hC _) dX5_swap_5 (by decide) rfl rfl ?_
  first | refine Es_aload_n (hC _) dX5_swap_7 rfl ?_ | refine Es_aload_nN (hC _) dX5_swap_7 rfl ?_
  refine Es_iload_n (hC _) dX5_swap_8 rfl ?_
  refine Es_fV (hC _) mv_X5_77 dX5_swap_9 (c_wagonAt_in hnw h5 hv) rfl rfl ⟨_, rfl, rfl⟩ rfl rfl (by decide) (Nat.le_of_ble_eq_true rfl) ?_
  first | refine Es_astore (lv' := [_, _, _, _, _, _, _, _, _]) (hC _) dX5_swap_12 (by decide) rfl rfl ?_ | refine Es_astoreN (lv' := [_, _, _, _, _, _, _, _, _]) (hC _) dX5_swap_12 (by decide) rfl rfl ?_
  first | refine Es_aload (hC _) dX5_swap_14 rfl ?_ | refine Es_aloadN (hC _) dX5_swap_14 rfl ?_
  refine Es_ifnullN (hC _) 43 dX5_swap_16 (by decide) ?_
  first | refine Es_aload_n (hC _) dX5_swap_43 rfl ?_ | refine Es_aload_nN (hC _) dX5_swap_43 rfl ?_
  refine Es_iconst (v := -1) (hC _) dX5_swap_44 (by decide) ?_
  refine Es_fV (hC _) mv_X5_70 dX5_swap_45 (c_refuse (k := 1) (by decide) (by decide)) rfl rfl ⟨_, rfl, rfl⟩ rfl rfl (by decide) (Nat.le_of_ble_eq_true rfl) ?_
  exact Es_iret dX5_swap_48 rfl ⟨rfl, rfl, rfl⟩

set_option maxRecDepth 100000 in
set_option maxHeartbeats 4000000 in
theorem c_swap_1c {ad : sA} {nw nt : Nat} {B : sB} {L : sL} (hnw : B 0 0 8 = nI nw) (h5 : nw ≤ 5) {w : Nat} (hw : w < nw) {xv : Int32} (hov : out xv nw) {a b : Int32} : Cf yX5_swap cX5_swap 9 (some FieldType.int) 5 [.ref (ad 0 0), .int (nI w), .int a, .int xv, .int b] ad nw nt B L (some (.int (-1))) (uB B 5 0 1 (B 5 0 1 + 1)) (L) := by
  have hC : ∀ Q, je_Ok (sCm yX5_swap cX5_swap 9 (some FieldType.int) 5 ad nw nt Q) RX5 cX5_swap 9 5 := fun _ => je_Cm_ok
  refine Cs_of [some (.ref (ad 0 0)), some (.int (nI w)), some (.int a), some (.int xv), some (.int b), none, none, none, none] (by decide) rfl (Nat.le_of_ble_eq_true rfl) ?_
  first | refine Es_aload_n (hC _) dX5_swap_0 rfl ?_ | refine Es_aload_nN (hC _) dX5_swap_0 rfl ?_
  refine Es_iload_n (hC _) dX5_swap_1 rfl ?_
  refine Es_fV (hC _) mv_X5_77 dX5_swap_2 (c_wagonAt_in hnw h5 hw) rfl rfl ⟨_, rfl, rfl⟩ rfl rfl (by decide) (Nat.le_of_ble_eq_true rfl) ?_
  first | refine Es_astore (lv' := [_, _, _, _, _, _, _, _, _]) (hC _) dX5_swap_5 (by decide) rfl rfl ?_ | refine Es_astoreN (lv' := [_, _, _, _, _, _, _, _, _]) (hC _) dX5_swap_5 (by decide) rfl rfl ?_
  first | refine Es_aload_n (hC _) dX5_swap_7 rfl ?_ | refine Es_aload_nN (hC _) dX5_swap_7 rfl ?_
  refine Es_iload_n (hC _) dX5_swap_8 rfl ?_
  refine Es_fV (hC _) mv_X5_77 dX5_swap_9 (c_wagonAt_out hnw hov) rfl rfl ⟨_, rfl, rfl⟩ rfl rfl (by decide) (Nat.le_of_ble_eq_true rfl) ?_
  first | refine Es_astore (lv' := [_, _, _, _, _, _, _, _, _]) (hC _) dX5_swap_12 (by decide) rfl rfl ?_ | refine Es_astoreN (lv' := [_, _, _, _, _, _, _, _, _]) (hC _) dX5_swap_12 (by decide) rfl rfl ?_
  first | refine Es_aload (hC _) dX5_swap_14 rfl ?_ | refine Es_aloadN (hC _) dX5_swap_14 rfl ?_
  refine Es_ifnull (hC _) dX5_swap_16 ?_
  first | refine Es_aload (hC _) dX5_swap_19 rfl ?_ | refine Es_aloadN (hC _) dX5_swap_19 rfl ?_
  refine Es_ifnullN (hC _) 43 dX5_swap_21 (by decide) ?_
  first | refine Es_aload_n (hC _) dX5_swap_43 rfl ?_ | refine Es_aload_nN (hC _) dX5_swap_43 rfl ?_
  refine Es_iconst (v := -1) (hC _) dX5_swap_44 (by decide) ?_
  refine Es_fV (hC _) mv_X5_70 dX5_swap_45 (c_refuse (k := 1) (by decide) (by decide)) rfl rfl ⟨_, rfl, rfl⟩ rfl rfl (by decide) (Nat.le_of_ble_eq_true rfl) ?_
  exact Es_iret dX5_swap_48 rfl ⟨rfl, rfl, rfl⟩

set_option maxRecDepth 100000 in
set_option maxHeartbeats 4000000 in
theorem c_swap_1d {ad : sA} {nw nt : Nat} {B : sB} {L : sL} (hnw : B 0 0 8 = nI nw) (h5 : nw ≤ 5) {w : Nat} (hw : w < nw) {v : Nat} (hv : v < nw) {pw : Nat} {zw : Int32} (hpw : B 18 w 3 = nI pw) (h7w : pw ≤ 7) (hzw : out zw pw) {b : Int32} : Cf yX5_swap cX5_swap 9 (some FieldType.int) 5 [.ref (ad 0 0), .int (nI w), .int zw, .int (nI v), .int b] ad nw nt B L (some (.int (-1))) (uB B 5 0 1 (B 5 0 1 + 1)) (L) := by
  have hC : ∀ Q, je_Ok (sCm yX5_swap cX5_swap 9 (some FieldType.int) 5 ad nw nt Q) RX5 cX5_swap 9 5 := fun _ => je_Cm_ok
  refine Cs_of [some (.ref (ad 0 0)), some (.int (nI w)), some (.int zw), some (.int (nI v)), some (.int b), none, none, none, none] (by decide) rfl (Nat.le_of_ble_eq_true rfl) ?_
  first | refine Es_aload_n (hC _) dX5_swap_0 rfl ?_ | refine Es_aload_nN (hC _) dX5_swap_0 rfl ?_
  refine Es_iload_n (hC _) dX5_swap_1 rfl ?_
  refine Es_fV (hC _) mv_X5_77 dX5_swap_2 (c_wagonAt_in hnw h5 hw) rfl rfl ⟨_, rfl, rfl⟩ rfl rfl (by decide) (Nat.le_of_ble_eq_true rfl) ?_
  first | refine Es_astore (lv' := [_, _, _, _, _, _, _, _, _]) (hC _) dX5_swap_5 (by decide) rfl rfl ?_ | refine Es_astoreN (lv' := [_, _, _, _, _, _, _, _, _]) (hC _) dX5_swap_5 (by decide) rfl rfl ?_
  first | refine Es_aload_n (hC _) dX5_swap_7 rfl ?_ | refine Es_aload_nN (hC _) dX5_swap_7 rfl ?_
  refine Es_iload_n (hC _) dX5_swap_8 rfl ?_
  refine Es_fV (hC _) mv_X5_77 dX5_swap_9 (c_wagonAt_in hnw h5 hv) rfl rfl ⟨_, rfl, rfl⟩ rfl rfl (by decide) (Nat.le_of_ble_eq_true rfl) ?_
  first | refine Es_astore (lv' := [_, _, _, _, _, _, _, _, _]) (hC _) dX5_swap_12 (by decide) rfl rfl ?_ | refine Es_astoreN (lv' := [_, _, _, _, _, _, _, _, _]) (hC _) dX5_swap_12 (by decide) rfl rfl ?_
  first | refine Es_aload (hC _) dX5_swap_14 rfl ?_ | refine Es_aloadN (hC _) dX5_swap_14 rfl ?_
  refine Es_ifnull (hC _) dX5_swap_16 ?_
  first | refine Es_aload (hC _) dX5_swap_19 rfl ?_ | refine Es_aloadN (hC _) dX5_swap_19 rfl ?_
  refine Es_ifnull (hC _) dX5_swap_21 ?_
  first | refine Es_aload (hC _) dX5_swap_24 rfl ?_ | refine Es_aloadN (hC _) dX5_swap_24 rfl ?_
  refine Es_iload_n (hC _) dX5_swap_26 rfl ?_
  refine Es_fV (hC _) mv_X5_136 dX5_swap_27 (c_hasPlace_out hw hpw h7w hzw) (ok18 hw) rfl ⟨_, rfl, rfl⟩ rfl rfl (by decide) (Nat.le_of_ble_eq_true rfl) ?_
  refine Es_if_eq (hC _) 43 dX5_swap_30 (by decide) (fun hb30 => ?_) (fun hb30 => False.elim ((by first | exact absurd hb30 (by decide) | exact absurd hb30 (by assumption) | exact hb30 (by assumption) | exact hb30 rfl | (simp_all [bI]; done))))
  first | refine Es_aload_n (hC _) dX5_swap_43 rfl ?_ | refine Es_aload_nN (hC _) dX5_swap_43 rfl ?_
  refine Es_iconst (v := -1) (hC _) dX5_swap_44 (by decide) ?_
  refine Es_fV (hC _) mv_X5_70 dX5_swap_45 (c_refuse (k := 1) (by decide) (by decide)) rfl rfl ⟨_, rfl, rfl⟩ rfl rfl (by decide) (Nat.le_of_ble_eq_true rfl) ?_
  exact Es_iret dX5_swap_48 rfl ⟨rfl, rfl, rfl⟩

set_option maxRecDepth 100000 in
set_option maxHeartbeats 4000000 in
theorem c_swap_1e {ad : sA} {nw nt : Nat} {B : sB} {L : sL} (hnw : B 0 0 8 = nI nw) (h5 : nw ≤ 5) {w : Nat} (hw : w < nw) {v : Nat} (hv : v < nw) {pw qw : Nat} (hpw : B 18 w 3 = nI pw) (h7w : pw ≤ 7) (hqw : qw < pw) {pv : Nat} {zv : Int32} (hpv : B 18 v 3 = nI pv) (h7v : pv ≤ 7) (hzv : out zv pv)  : Cf yX5_swap cX5_swap 9 (some FieldType.int) 5 [.ref (ad 0 0), .int (nI w), .int (nI qw), .int (nI v), .int zv] ad nw nt B L (some (.int (-1))) (uB B 5 0 1 (B 5 0 1 + 1)) (L) := by
  have hC : ∀ Q, je_Ok (sCm yX5_swap cX5_swap 9 (some FieldType.int) 5 ad nw nt Q) RX5 cX5_swap 9 5 := fun _ => je_Cm_ok
  refine Cs_of [some (.ref (ad 0 0)), some (.int (nI w)), some (.int (nI qw)), some (.int (nI v)), some (.int zv), none, none, none, none] (by decide) rfl (Nat.le_of_ble_eq_true rfl) ?_
  first | refine Es_aload_n (hC _) dX5_swap_0 rfl ?_ | refine Es_aload_nN (hC _) dX5_swap_0 rfl ?_
  refine Es_iload_n (hC _) dX5_swap_1 rfl ?_
  refine Es_fV (hC _) mv_X5_77 dX5_swap_2 (c_wagonAt_in hnw h5 hw) rfl rfl ⟨_, rfl, rfl⟩ rfl rfl (by decide) (Nat.le_of_ble_eq_true rfl) ?_
  first | refine Es_astore (lv' := [_, _, _, _, _, _, _, _, _]) (hC _) dX5_swap_5 (by decide) rfl rfl ?_ | refine Es_astoreN (lv' := [_, _, _, _, _, _, _, _, _]) (hC _) dX5_swap_5 (by decide) rfl rfl ?_
  first | refine Es_aload_n (hC _) dX5_swap_7 rfl ?_ | refine Es_aload_nN (hC _) dX5_swap_7 rfl ?_
  refine Es_iload_n (hC _) dX5_swap_8 rfl ?_
  refine Es_fV (hC _) mv_X5_77 dX5_swap_9 (c_wagonAt_in hnw h5 hv) rfl rfl ⟨_, rfl, rfl⟩ rfl rfl (by decide) (Nat.le_of_ble_eq_true rfl) ?_
  first | refine Es_astore (lv' := [_, _, _, _, _, _, _, _, _]) (hC _) dX5_swap_12 (by decide) rfl rfl ?_ | refine Es_astoreN (lv' := [_, _, _, _, _, _, _, _, _]) (hC _) dX5_swap_12 (by decide) rfl rfl ?_
  first | refine Es_aload (hC _) dX5_swap_14 rfl ?_ | refine Es_aloadN (hC _) dX5_swap_14 rfl ?_
  refine Es_ifnull (hC _) dX5_swap_16 ?_
  first | refine Es_aload (hC _) dX5_swap_19 rfl ?_ | refine Es_aloadN (hC _) dX5_swap_19 rfl ?_
  refine Es_ifnull (hC _) dX5_swap_21 ?_
  first | refine Es_aload (hC _) dX5_swap_24 rfl ?_ | refine Es_aloadN (hC _) dX5_swap_24 rfl ?_
  refine Es_iload_n (hC _) dX5_swap_26 rfl ?_
  refine Es_fV (hC _) mv_X5_136 dX5_swap_27 (c_hasPlace_in hw hpw h7w hqw) (ok18 hw) rfl ⟨_, rfl, rfl⟩ rfl rfl (by decide) (Nat.le_of_ble_eq_true rfl) ?_
  refine Es_if_eq (hC _) 43 dX5_swap_30 (by decide) (fun hb30 => False.elim ((by first | exact absurd hb30 (by decide) | exact absurd hb30 (by assumption) | exact hb30 (by assumption) | exact hb30 rfl | (simp_all [bI]; done)))) (fun hb30 => ?_)
  first | refine Es_aload (hC _) dX5_swap_33 rfl ?_ | refine Es_aloadN (hC _) dX5_swap_33 rfl ?_
  refine Es_iload (hC _) dX5_swap_35 rfl ?_
  refine Es_fV (hC _) mv_X5_136 dX5_swap_37 (c_hasPlace_out hv hpv h7v hzv) (ok18 hv) rfl ⟨_, rfl, rfl⟩ rfl rfl (by decide) (Nat.le_of_ble_eq_true rfl) ?_
  refine Es_if_ne (hC _) 49 dX5_swap_40 (by decide) (fun hb40 => False.elim ((by first | exact absurd hb40 (by decide) | exact absurd hb40 (by assumption) | exact hb40 (by assumption) | exact hb40 rfl | (simp_all [bI]; done)))) (fun hb40 => ?_)
  first | refine Es_aload_n (hC _) dX5_swap_43 rfl ?_ | refine Es_aload_nN (hC _) dX5_swap_43 rfl ?_
  refine Es_iconst (v := -1) (hC _) dX5_swap_44 (by decide) ?_
  refine Es_fV (hC _) mv_X5_70 dX5_swap_45 (c_refuse (k := 1) (by decide) (by decide)) rfl rfl ⟨_, rfl, rfl⟩ rfl rfl (by decide) (Nat.le_of_ble_eq_true rfl) ?_
  exact Es_iret dX5_swap_48 rfl ⟨rfl, rfl, rfl⟩

set_option maxRecDepth 100000 in
set_option maxHeartbeats 4000000 in
theorem c_swap_1f {ad : sA} {nw nt : Nat} {B : sB} {L : sL} (hnw : B 0 0 8 = nI nw) (h5 : nw ≤ 5) {w : Nat} (hw : w < nw) {pw qw : Nat} (hpw : B 18 w 3 = nI pw) (h7w : pw ≤ 7) (hqw : qw < pw)  : Cf yX5_swap cX5_swap 9 (some FieldType.int) 5 [.ref (ad 0 0), .int (nI w), .int (nI qw), .int (nI w), .int (nI qw)] ad nw nt B L (some (.int (-1))) (uB B 5 0 1 (B 5 0 1 + 1)) (L) := by
  have hC : ∀ Q, je_Ok (sCm yX5_swap cX5_swap 9 (some FieldType.int) 5 ad nw nt Q) RX5 cX5_swap 9 5 := fun _ => je_Cm_ok
  refine Cs_of [some (.ref (ad 0 0)), some (.int (nI w)), some (.int (nI qw)), some (.int (nI w)), some (.int (nI qw)), none, none, none, none] (by decide) rfl (Nat.le_of_ble_eq_true rfl) ?_
  first | refine Es_aload_n (hC _) dX5_swap_0 rfl ?_ | refine Es_aload_nN (hC _) dX5_swap_0 rfl ?_
  refine Es_iload_n (hC _) dX5_swap_1 rfl ?_
  refine Es_fV (hC _) mv_X5_77 dX5_swap_2 (c_wagonAt_in hnw h5 hw) rfl rfl ⟨_, rfl, rfl⟩ rfl rfl (by decide) (Nat.le_of_ble_eq_true rfl) ?_
  first | refine Es_astore (lv' := [_, _, _, _, _, _, _, _, _]) (hC _) dX5_swap_5 (by decide) rfl rfl ?_ | refine Es_astoreN (lv' := [_, _, _, _, _, _, _, _, _]) (hC _) dX5_swap_5 (by decide) rfl rfl ?_
  first | refine Es_aload_n (hC _) dX5_swap_7 rfl ?_ | refine Es_aload_nN (hC _) dX5_swap_7 rfl ?_
  refine Es_iload_n (hC _) dX5_swap_8 rfl ?_
  refine Es_fV (hC _) mv_X5_77 dX5_swap_9 (c_wagonAt_in hnw h5 hw) rfl rfl ⟨_, rfl, rfl⟩ rfl rfl (by decide) (Nat.le_of_ble_eq_true rfl) ?_
  first | refine Es_astore (lv' := [_, _, _, _, _, _, _, _, _]) (hC _) dX5_swap_12 (by decide) rfl rfl ?_ | refine Es_astoreN (lv' := [_, _, _, _, _, _, _, _, _]) (hC _) dX5_swap_12 (by decide) rfl rfl ?_
  first | refine Es_aload (hC _) dX5_swap_14 rfl ?_ | refine Es_aloadN (hC _) dX5_swap_14 rfl ?_
  refine Es_ifnull (hC _) dX5_swap_16 ?_
  first | refine Es_aload (hC _) dX5_swap_19 rfl ?_ | refine Es_aloadN (hC _) dX5_swap_19 rfl ?_
  refine Es_ifnull (hC _) dX5_swap_21 ?_
  first | refine Es_aload (hC _) dX5_swap_24 rfl ?_ | refine Es_aloadN (hC _) dX5_swap_24 rfl ?_
  refine Es_iload_n (hC _) dX5_swap_26 rfl ?_
  refine Es_fV (hC _) mv_X5_136 dX5_swap_27 (c_hasPlace_in hw hpw h7w hqw) (ok18 hw) rfl ⟨_, rfl, rfl⟩ rfl rfl (by decide) (Nat.le_of_ble_eq_true rfl) ?_
  refine Es_if_eq (hC _) 43 dX5_swap_30 (by decide) (fun hb30 => False.elim ((by first | exact absurd hb30 (by decide) | exact absurd hb30 (by assumption) | exact hb30 (by assumption) | exact hb30 rfl | (simp_all [bI]; done)))) (fun hb30 => ?_)
  first | refine Es_aload (hC _) dX5_swap_33 rfl ?_ | refine Es_aloadN (hC _) dX5_swap_33 rfl ?_
  refine Es_iload (hC _) dX5_swap_35 rfl ?_
  refine Es_fV (hC _) mv_X5_136 dX5_swap_37 (c_hasPlace_in hw hpw h7w hqw) (ok18 hw) rfl ⟨_, rfl, rfl⟩ rfl rfl (by decide) (Nat.le_of_ble_eq_true rfl) ?_
  refine Es_if_ne (hC _) 49 dX5_swap_40 (by decide) (fun hb40 => ?_) (fun hb40 => False.elim ((by first | exact absurd hb40 (by decide) | exact absurd hb40 (by assumption) | exact hb40 (by assumption) | exact hb40 rfl | (simp_all [bI]; done))))
  refine Es_iload_n (hC _) dX5_swap_49 rfl ?_
  refine Es_iload_n (hC _) dX5_swap_50 rfl ?_
  refine Es_icmp_ne (hC _) 66 dX5_swap_51 (by decide) (fun hb51 => False.elim ((by first | exact absurd hb51 (by decide) | exact absurd hb51 (by assumption) | exact hb51 (by assumption) | exact hb51 rfl | (simp_all [bI]; done)))) (fun hb51 => ?_)
  refine Es_iload_n (hC _) dX5_swap_54 rfl ?_
  refine Es_iload (hC _) dX5_swap_55 rfl ?_
  refine Es_icmp_ne (hC _) 66 dX5_swap_57 (by decide) (fun hb57 => False.elim ((by first | exact absurd hb57 (by decide) | exact absurd hb57 (by assumption) | exact hb57 (by assumption) | exact hb57 rfl | (simp_all [bI]; done)))) (fun hb57 => ?_)
  first | refine Es_aload_n (hC _) dX5_swap_60 rfl ?_ | refine Es_aload_nN (hC _) dX5_swap_60 rfl ?_
  refine Es_iconst (v := -1) (hC _) dX5_swap_61 (by decide) ?_
  refine Es_fV (hC _) mv_X5_70 dX5_swap_62 (c_refuse (k := 1) (by decide) (by decide)) rfl rfl ⟨_, rfl, rfl⟩ rfl rfl (by decide) (Nat.le_of_ble_eq_true rfl) ?_
  exact Es_iret dX5_swap_65 rfl ⟨rfl, rfl, rfl⟩

set_option maxRecDepth 100000 in
set_option maxHeartbeats 4000000 in
theorem c_swap_2x {ad : sA} {nw nt : Nat} {B : sB} {L : sL} (hnw : B 0 0 8 = nI nw) (h5 : nw ≤ 5) (h40 : nt ≤ 40) {w : Nat} (hw : w < nw) {v : Nat} (hv : v < nw) {pw qw : Nat} (hpw : B 18 w 3 = nI pw) (h7w : pw ≤ 7) (hqw : qw < pw) {pv qv : Nat} (hpv : B 18 v 3 = nI pv) (h7v : pv ≤ 7) (hqv : qv < pv) (hne : ¬ w = v) (honw : B 20 w qw = -1) (honv : B 20 v qv = -1)  : Cf yX5_swap cX5_swap 9 (some FieldType.int) 5 [.ref (ad 0 0), .int (nI w), .int (nI qw), .int (nI v), .int (nI qv)] ad nw nt B L (some (.int (-2))) (uB B 5 0 2 (B 5 0 2 + 1)) (L) := by
  have hC : ∀ Q, je_Ok (sCm yX5_swap cX5_swap 9 (some FieldType.int) 5 ad nw nt Q) RX5 cX5_swap 9 5 := fun _ => je_Cm_ok
  refine Cs_of [some (.ref (ad 0 0)), some (.int (nI w)), some (.int (nI qw)), some (.int (nI v)), some (.int (nI qv)), none, none, none, none] (by decide) rfl (Nat.le_of_ble_eq_true rfl) ?_
  first | refine Es_aload_n (hC _) dX5_swap_0 rfl ?_ | refine Es_aload_nN (hC _) dX5_swap_0 rfl ?_
  refine Es_iload_n (hC _) dX5_swap_1 rfl ?_
  refine Es_fV (hC _) mv_X5_77 dX5_swap_2 (c_wagonAt_in hnw h5 hw) rfl rfl ⟨_, rfl, rfl⟩ rfl rfl (by decide) (Nat.le_of_ble_eq_true rfl) ?_
  first | refine Es_astore (lv' := [_, _, _, _, _, _, _, _, _]) (hC _) dX5_swap_5 (by decide) rfl rfl ?_ | refine Es_astoreN (lv' := [_, _, _, _, _, _, _, _, _]) (hC _) dX5_swap_5 (by decide) rfl rfl ?_
  first | refine Es_aload_n (hC _) dX5_swap_7 rfl ?_ | refine Es_aload_nN (hC _) dX5_swap_7 rfl ?_
  refine Es_iload_n (hC _) dX5_swap_8 rfl ?_
  refine Es_fV (hC _) mv_X5_77 dX5_swap_9 (c_wagonAt_in hnw h5 hv) rfl rfl ⟨_, rfl, rfl⟩ rfl rfl (by decide) (Nat.le_of_ble_eq_true rfl) ?_
  first | refine Es_astore (lv' := [_, _, _, _, _, _, _, _, _]) (hC _) dX5_swap_12 (by decide) rfl rfl ?_ | refine Es_astoreN (lv' := [_, _, _, _, _, _, _, _, _]) (hC _) dX5_swap_12 (by decide) rfl rfl ?_
  first | refine Es_aload (hC _) dX5_swap_14 rfl ?_ | refine Es_aloadN (hC _) dX5_swap_14 rfl ?_
  refine Es_ifnull (hC _) dX5_swap_16 ?_
  first | refine Es_aload (hC _) dX5_swap_19 rfl ?_ | refine Es_aloadN (hC _) dX5_swap_19 rfl ?_
  refine Es_ifnull (hC _) dX5_swap_21 ?_
  first | refine Es_aload (hC _) dX5_swap_24 rfl ?_ | refine Es_aloadN (hC _) dX5_swap_24 rfl ?_
  refine Es_iload_n (hC _) dX5_swap_26 rfl ?_
  refine Es_fV (hC _) mv_X5_136 dX5_swap_27 (c_hasPlace_in hw hpw h7w hqw) (ok18 hw) rfl ⟨_, rfl, rfl⟩ rfl rfl (by decide) (Nat.le_of_ble_eq_true rfl) ?_
  refine Es_if_eq (hC _) 43 dX5_swap_30 (by decide) (fun hb30 => False.elim ((by first | exact absurd hb30 (by decide) | exact absurd hb30 (by assumption) | exact hb30 (by assumption) | exact hb30 rfl | (simp_all [bI]; done)))) (fun hb30 => ?_)
  first | refine Es_aload (hC _) dX5_swap_33 rfl ?_ | refine Es_aloadN (hC _) dX5_swap_33 rfl ?_
  refine Es_iload (hC _) dX5_swap_35 rfl ?_
  refine Es_fV (hC _) mv_X5_136 dX5_swap_37 (c_hasPlace_in hv hpv h7v hqv) (ok18 hv) rfl ⟨_, rfl, rfl⟩ rfl rfl (by decide) (Nat.le_of_ble_eq_true rfl) ?_
  refine Es_if_ne (hC _) 49 dX5_swap_40 (by decide) (fun hb40 => ?_) (fun hb40 => False.elim ((by first | exact absurd hb40 (by decide) | exact absurd hb40 (by assumption) | exact hb40 (by assumption) | exact hb40 rfl | (simp_all [bI]; done))))
  refine Es_iload_n (hC _) dX5_swap_49 rfl ?_
  refine Es_iload_n (hC _) dX5_swap_50 rfl ?_
  refine Es_icmp_ne (hC _) 66 dX5_swap_51 (by decide) (fun hb51 => ?_) (fun hb51 => False.elim (hne ((nI_eq (by omega) (by omega)).mp hb51)))
  first | refine Es_aload (hC _) dX5_swap_66 rfl ?_ | refine Es_aloadN (hC _) dX5_swap_66 rfl ?_
  refine Es_iload_n (hC _) dX5_swap_68 rfl ?_
  refine Es_fV (hC _) mv_X5_142 dX5_swap_69 (c_tyreOn_in hw hpw h7w hqw) (ok18 hw) rfl ⟨_, rfl, rfl⟩ rfl rfl (by decide) (Nat.le_of_ble_eq_true rfl) ?_
  rw [show rT ad (B 20 w qw) = none by rw [honw]; rfl]
  first | refine Es_astore (lv' := [_, _, _, _, _, _, _, _, _]) (hC _) dX5_swap_72 (by decide) rfl rfl ?_ | refine Es_astoreN (lv' := [_, _, _, _, _, _, _, _, _]) (hC _) dX5_swap_72 (by decide) rfl rfl ?_
  first | refine Es_aload (hC _) dX5_swap_74 rfl ?_ | refine Es_aloadN (hC _) dX5_swap_74 rfl ?_
  refine Es_iload (hC _) dX5_swap_76 rfl ?_
  refine Es_fV (hC _) mv_X5_142 dX5_swap_78 (c_tyreOn_in hv hpv h7v hqv) (ok18 hv) rfl ⟨_, rfl, rfl⟩ rfl rfl (by decide) (Nat.le_of_ble_eq_true rfl) ?_
  rw [show rT ad (B 20 v qv) = none by rw [honv]; rfl]
  first | refine Es_astore (lv' := [_, _, _, _, _, _, _, _, _]) (hC _) dX5_swap_81 (by decide) rfl rfl ?_ | refine Es_astoreN (lv' := [_, _, _, _, _, _, _, _, _]) (hC _) dX5_swap_81 (by decide) rfl rfl ?_
  first | refine Es_aload (hC _) dX5_swap_83 rfl ?_ | refine Es_aloadN (hC _) dX5_swap_83 rfl ?_
  refine Es_ifnonnullN (hC _) dX5_swap_85 ?_
  first | refine Es_aload (hC _) dX5_swap_88 rfl ?_ | refine Es_aloadN (hC _) dX5_swap_88 rfl ?_
  refine Es_ifnonnullN (hC _) dX5_swap_90 ?_
  first | refine Es_aload_n (hC _) dX5_swap_93 rfl ?_ | refine Es_aload_nN (hC _) dX5_swap_93 rfl ?_
  refine Es_bipush (v := -2) (hC _) dX5_swap_94 (by decide) ?_
  refine Es_fV (hC _) mv_X5_70 dX5_swap_96 (c_refuse (k := 2) (by decide) (by decide)) rfl rfl ⟨_, rfl, rfl⟩ rfl rfl (by decide) (Nat.le_of_ble_eq_true rfl) ?_
  exact Es_iret dX5_swap_99 rfl ⟨rfl, rfl, rfl⟩

set_option maxRecDepth 100000 in
set_option maxHeartbeats 4000000 in
theorem c_swap_2y {ad : sA} {nw nt : Nat} {B : sB} {L : sL} (hnw : B 0 0 8 = nI nw) (h5 : nw ≤ 5) (h40 : nt ≤ 40) {w : Nat} (hw : w < nw) {v : Nat} (hv : v < nw) {pw qw : Nat} (hpw : B 18 w 3 = nI pw) (h7w : pw ≤ 7) (hqw : qw < pw) {pv qv : Nat} (hpv : B 18 v 3 = nI pv) (h7v : pv ≤ 7) (hqv : qv < pv) (hne : w = v) (hne2 : ¬ qw = qv) (honw : B 20 w qw = -1) (honv : B 20 v qv = -1)  : Cf yX5_swap cX5_swap 9 (some FieldType.int) 5 [.ref (ad 0 0), .int (nI w), .int (nI qw), .int (nI v), .int (nI qv)] ad nw nt B L (some (.int (-2))) (uB B 5 0 2 (B 5 0 2 + 1)) (L) := by
  have hC : ∀ Q, je_Ok (sCm yX5_swap cX5_swap 9 (some FieldType.int) 5 ad nw nt Q) RX5 cX5_swap 9 5 := fun _ => je_Cm_ok
  refine Cs_of [some (.ref (ad 0 0)), some (.int (nI w)), some (.int (nI qw)), some (.int (nI v)), some (.int (nI qv)), none, none, none, none] (by decide) rfl (Nat.le_of_ble_eq_true rfl) ?_
  first | refine Es_aload_n (hC _) dX5_swap_0 rfl ?_ | refine Es_aload_nN (hC _) dX5_swap_0 rfl ?_
  refine Es_iload_n (hC _) dX5_swap_1 rfl ?_
  refine Es_fV (hC _) mv_X5_77 dX5_swap_2 (c_wagonAt_in hnw h5 hw) rfl rfl ⟨_, rfl, rfl⟩ rfl rfl (by decide) (Nat.le_of_ble_eq_true rfl) ?_
  first | refine Es_astore (lv' := [_, _, _, _, _, _, _, _, _]) (hC _) dX5_swap_5 (by decide) rfl rfl ?_ | refine Es_astoreN (lv' := [_, _, _, _, _, _, _, _, _]) (hC _) dX5_swap_5 (by decide) rfl rfl ?_
  first | refine Es_aload_n (hC _) dX5_swap_7 rfl ?_ | refine Es_aload_nN (hC _) dX5_swap_7 rfl ?_
  refine Es_iload_n (hC _) dX5_swap_8 rfl ?_
  refine Es_fV (hC _) mv_X5_77 dX5_swap_9 (c_wagonAt_in hnw h5 hv) rfl rfl ⟨_, rfl, rfl⟩ rfl rfl (by decide) (Nat.le_of_ble_eq_true rfl) ?_
  first | refine Es_astore (lv' := [_, _, _, _, _, _, _, _, _]) (hC _) dX5_swap_12 (by decide) rfl rfl ?_ | refine Es_astoreN (lv' := [_, _, _, _, _, _, _, _, _]) (hC _) dX5_swap_12 (by decide) rfl rfl ?_
  first | refine Es_aload (hC _) dX5_swap_14 rfl ?_ | refine Es_aloadN (hC _) dX5_swap_14 rfl ?_
  refine Es_ifnull (hC _) dX5_swap_16 ?_
  first | refine Es_aload (hC _) dX5_swap_19 rfl ?_ | refine Es_aloadN (hC _) dX5_swap_19 rfl ?_
  refine Es_ifnull (hC _) dX5_swap_21 ?_
  first | refine Es_aload (hC _) dX5_swap_24 rfl ?_ | refine Es_aloadN (hC _) dX5_swap_24 rfl ?_
  refine Es_iload_n (hC _) dX5_swap_26 rfl ?_
  refine Es_fV (hC _) mv_X5_136 dX5_swap_27 (c_hasPlace_in hw hpw h7w hqw) (ok18 hw) rfl ⟨_, rfl, rfl⟩ rfl rfl (by decide) (Nat.le_of_ble_eq_true rfl) ?_
  refine Es_if_eq (hC _) 43 dX5_swap_30 (by decide) (fun hb30 => False.elim ((by first | exact absurd hb30 (by decide) | exact absurd hb30 (by assumption) | exact hb30 (by assumption) | exact hb30 rfl | (simp_all [bI]; done)))) (fun hb30 => ?_)
  first | refine Es_aload (hC _) dX5_swap_33 rfl ?_ | refine Es_aloadN (hC _) dX5_swap_33 rfl ?_
  refine Es_iload (hC _) dX5_swap_35 rfl ?_
  refine Es_fV (hC _) mv_X5_136 dX5_swap_37 (c_hasPlace_in hv hpv h7v hqv) (ok18 hv) rfl ⟨_, rfl, rfl⟩ rfl rfl (by decide) (Nat.le_of_ble_eq_true rfl) ?_
  refine Es_if_ne (hC _) 49 dX5_swap_40 (by decide) (fun hb40 => ?_) (fun hb40 => False.elim ((by first | exact absurd hb40 (by decide) | exact absurd hb40 (by assumption) | exact hb40 (by assumption) | exact hb40 rfl | (simp_all [bI]; done))))
  refine Es_iload_n (hC _) dX5_swap_49 rfl ?_
  refine Es_iload_n (hC _) dX5_swap_50 rfl ?_
  refine Es_icmp_ne (hC _) 66 dX5_swap_51 (by decide) (fun hb51 => False.elim (hb51 (by rw [hne]))) (fun hb51 => ?_)
  refine Es_iload_n (hC _) dX5_swap_54 rfl ?_
  refine Es_iload (hC _) dX5_swap_55 rfl ?_
  refine Es_icmp_ne (hC _) 66 dX5_swap_57 (by decide) (fun hb57 => ?_) (fun hb57 => False.elim (hne2 ((nI_eq (by omega) (by omega)).mp hb57)))
  first | refine Es_aload (hC _) dX5_swap_66 rfl ?_ | refine Es_aloadN (hC _) dX5_swap_66 rfl ?_
  refine Es_iload_n (hC _) dX5_swap_68 rfl ?_
  refine Es_fV (hC _) mv_X5_142 dX5_swap_69 (c_tyreOn_in hw hpw h7w hqw) (ok18 hw) rfl ⟨_, rfl, rfl⟩ rfl rfl (by decide) (Nat.le_of_ble_eq_true rfl) ?_
  rw [show rT ad (B 20 w qw) = none by rw [honw]; rfl]
  first | refine Es_astore (lv' := [_, _, _, _, _, _, _, _, _]) (hC _) dX5_swap_72 (by decide) rfl rfl ?_ | refine Es_astoreN (lv' := [_, _, _, _, _, _, _, _, _]) (hC _) dX5_swap_72 (by decide) rfl rfl ?_
  first | refine Es_aload (hC _) dX5_swap_74 rfl ?_ | refine Es_aloadN (hC _) dX5_swap_74 rfl ?_
  refine Es_iload (hC _) dX5_swap_76 rfl ?_
  refine Es_fV (hC _) mv_X5_142 dX5_swap_78 (c_tyreOn_in hv hpv h7v hqv) (ok18 hv) rfl ⟨_, rfl, rfl⟩ rfl rfl (by decide) (Nat.le_of_ble_eq_true rfl) ?_
  rw [show rT ad (B 20 v qv) = none by rw [honv]; rfl]
  first | refine Es_astore (lv' := [_, _, _, _, _, _, _, _, _]) (hC _) dX5_swap_81 (by decide) rfl rfl ?_ | refine Es_astoreN (lv' := [_, _, _, _, _, _, _, _, _]) (hC _) dX5_swap_81 (by decide) rfl rfl ?_
  first | refine Es_aload (hC _) dX5_swap_83 rfl ?_ | refine Es_aloadN (hC _) dX5_swap_83 rfl ?_
  refine Es_ifnonnullN (hC _) dX5_swap_85 ?_
  first | refine Es_aload (hC _) dX5_swap_88 rfl ?_ | refine Es_aloadN (hC _) dX5_swap_88 rfl ?_
  refine Es_ifnonnullN (hC _) dX5_swap_90 ?_
  first | refine Es_aload_n (hC _) dX5_swap_93 rfl ?_ | refine Es_aload_nN (hC _) dX5_swap_93 rfl ?_
  refine Es_bipush (v := -2) (hC _) dX5_swap_94 (by decide) ?_
  refine Es_fV (hC _) mv_X5_70 dX5_swap_96 (c_refuse (k := 2) (by decide) (by decide)) rfl rfl ⟨_, rfl, rfl⟩ rfl rfl (by decide) (Nat.le_of_ble_eq_true rfl) ?_
  exact Es_iret dX5_swap_99 rfl ⟨rfl, rfl, rfl⟩

set_option maxRecDepth 100000 in
set_option maxHeartbeats 4000000 in
theorem c_swap_3ax {ad : sA} {nw nt : Nat} {B : sB} {L : sL} (hnw : B 0 0 8 = nI nw) (h5 : nw ≤ 5) (h40 : nt ≤ 40) {w : Nat} (hw : w < nw) {v : Nat} (hv : v < nw) {pw qw : Nat} (hpw : B 18 w 3 = nI pw) (h7w : pw ≤ 7) (hqw : qw < pw) {pv qv : Nat} (hpv : B 18 v 3 = nI pv) (h7v : pv ≤ 7) (hqv : qv < pv) (hne : ¬ w = v) {t : Nat} (ht : t < nt) {k : Nat} (hk : B 6 0 3 = nI k) (h6 : k = 600) (honw : B 20 w qw = nI t) (honv : B 20 v qv = -1)  : Cf yX5_swap cX5_swap 9 (some FieldType.int) 5 [.ref (ad 0 0), .int (nI w), .int (nI qw), .int (nI v), .int (nI qv)] ad nw nt B L (some (.int (-6))) (uB B 5 0 6 (B 5 0 6 + 1)) (L) := by
  have hC : ∀ Q, je_Ok (sCm yX5_swap cX5_swap 9 (some FieldType.int) 5 ad nw nt Q) RX5 cX5_swap 9 5 := fun _ => je_Cm_ok
  refine Cs_of [some (.ref (ad 0 0)), some (.int (nI w)), some (.int (nI qw)), some (.int (nI v)), some (.int (nI qv)), none, none, none, none] (by decide) rfl (Nat.le_of_ble_eq_true rfl) ?_
  first | refine Es_aload_n (hC _) dX5_swap_0 rfl ?_ | refine Es_aload_nN (hC _) dX5_swap_0 rfl ?_
  refine Es_iload_n (hC _) dX5_swap_1 rfl ?_
  refine Es_fV (hC _) mv_X5_77 dX5_swap_2 (c_wagonAt_in hnw h5 hw) rfl rfl ⟨_, rfl, rfl⟩ rfl rfl (by decide) (Nat.le_of_ble_eq_true rfl) ?_
  first | refine Es_astore (lv' := [_, _, _, _, _, _, _, _, _]) (hC _) dX5_swap_5 (by decide) rfl rfl ?_ | refine Es_astoreN (lv' := [_, _, _, _, _, _, _, _, _]) (hC _) dX5_swap_5 (by decide) rfl rfl ?_
  first | refine Es_aload_n (hC _) dX5_swap_7 rfl ?_ | refine Es_aload_nN (hC _) dX5_swap_7 rfl ?_
  refine Es_iload_n (hC _) dX5_swap_8 rfl ?_
  refine Es_fV (hC _) mv_X5_77 dX5_swap_9 (c_wagonAt_in hnw h5 hv) rfl rfl ⟨_, rfl, rfl⟩ rfl rfl (by decide) (Nat.le_of_ble_eq_true rfl) ?_
  first | refine Es_astore (lv' := [_, _, _, _, _, _, _, _, _]) (hC _) dX5_swap_12 (by decide) rfl rfl ?_ | refine Es_astoreN (lv' := [_, _, _, _, _, _, _, _, _]) (hC _) dX5_swap_12 (by decide) rfl rfl ?_
  first | refine Es_aload (hC _) dX5_swap_14 rfl ?_ | refine Es_aloadN (hC _) dX5_swap_14 rfl ?_
  refine Es_ifnull (hC _) dX5_swap_16 ?_
  first | refine Es_aload (hC _) dX5_swap_19 rfl ?_ | refine Es_aloadN (hC _) dX5_swap_19 rfl ?_
  refine Es_ifnull (hC _) dX5_swap_21 ?_
  first | refine Es_aload (hC _) dX5_swap_24 rfl ?_ | refine Es_aloadN (hC _) dX5_swap_24 rfl ?_
  refine Es_iload_n (hC _) dX5_swap_26 rfl ?_
  refine Es_fV (hC _) mv_X5_136 dX5_swap_27 (c_hasPlace_in hw hpw h7w hqw) (ok18 hw) rfl ⟨_, rfl, rfl⟩ rfl rfl (by decide) (Nat.le_of_ble_eq_true rfl) ?_
  refine Es_if_eq (hC _) 43 dX5_swap_30 (by decide) (fun hb30 => False.elim ((by first | exact absurd hb30 (by decide) | exact absurd hb30 (by assumption) | exact hb30 (by assumption) | exact hb30 rfl | (simp_all [bI]; done)))) (fun hb30 => ?_)
  first | refine Es_aload (hC _) dX5_swap_33 rfl ?_ | refine Es_aloadN (hC _) dX5_swap_33 rfl ?_
  refine Es_iload (hC _) dX5_swap_35 rfl ?_
  refine Es_fV (hC _) mv_X5_136 dX5_swap_37 (c_hasPlace_in hv hpv h7v hqv) (ok18 hv) rfl ⟨_, rfl, rfl⟩ rfl rfl (by decide) (Nat.le_of_ble_eq_true rfl) ?_
  refine Es_if_ne (hC _) 49 dX5_swap_40 (by decide) (fun hb40 => ?_) (fun hb40 => False.elim ((by first | exact absurd hb40 (by decide) | exact absurd hb40 (by assumption) | exact hb40 (by assumption) | exact hb40 rfl | (simp_all [bI]; done))))
  refine Es_iload_n (hC _) dX5_swap_49 rfl ?_
  refine Es_iload_n (hC _) dX5_swap_50 rfl ?_
  refine Es_icmp_ne (hC _) 66 dX5_swap_51 (by decide) (fun hb51 => ?_) (fun hb51 => False.elim (hne ((nI_eq (by omega) (by omega)).mp hb51)))
  first | refine Es_aload (hC _) dX5_swap_66 rfl ?_ | refine Es_aloadN (hC _) dX5_swap_66 rfl ?_
  refine Es_iload_n (hC _) dX5_swap_68 rfl ?_
  refine Es_fV (hC _) mv_X5_142 dX5_swap_69 (c_tyreOn_in hw hpw h7w hqw) (ok18 hw) rfl ⟨_, rfl, rfl⟩ rfl rfl (by decide) (Nat.le_of_ble_eq_true rfl) ?_
  rw [show rT ad (B 20 w qw) = some (ad 21 t) by rw [honw, rT, if_neg (nI_pos (by omega)), nI_clamp (by omega)]]
  first | refine Es_astore (lv' := [_, _, _, _, _, _, _, _, _]) (hC _) dX5_swap_72 (by decide) rfl rfl ?_ | refine Es_astoreN (lv' := [_, _, _, _, _, _, _, _, _]) (hC _) dX5_swap_72 (by decide) rfl rfl ?_
  first | refine Es_aload (hC _) dX5_swap_74 rfl ?_ | refine Es_aloadN (hC _) dX5_swap_74 rfl ?_
  refine Es_iload (hC _) dX5_swap_76 rfl ?_
  refine Es_fV (hC _) mv_X5_142 dX5_swap_78 (c_tyreOn_in hv hpv h7v hqv) (ok18 hv) rfl ⟨_, rfl, rfl⟩ rfl rfl (by decide) (Nat.le_of_ble_eq_true rfl) ?_
  rw [show rT ad (B 20 v qv) = none by rw [honv]; rfl]
  first | refine Es_astore (lv' := [_, _, _, _, _, _, _, _, _]) (hC _) dX5_swap_81 (by decide) rfl rfl ?_ | refine Es_astoreN (lv' := [_, _, _, _, _, _, _, _, _]) (hC _) dX5_swap_81 (by decide) rfl rfl ?_
  first | refine Es_aload (hC _) dX5_swap_83 rfl ?_ | refine Es_aloadN (hC _) dX5_swap_83 rfl ?_
  refine Es_ifnonnull (hC _) 100 dX5_swap_85 (by decide) ?_
  first | refine Es_aload_n (hC _) dX5_swap_100 rfl ?_ | refine Es_aload_nN (hC _) dX5_swap_100 rfl ?_
  refine Sg_X5_5 (hC _) fl_X5_45 dX5_swap_101 ?_
  first | refine Es_aload (hC _) dX5_swap_104 rfl ?_ | refine Es_aloadN (hC _) dX5_swap_104 rfl ?_
  refine Es_ifnull (hC _) dX5_swap_106 ?_
  first | refine Es_aload (hC _) dX5_swap_109 rfl ?_ | refine Es_aloadN (hC _) dX5_swap_109 rfl ?_
  refine Es_ifnonnullN (hC _) dX5_swap_111 ?_
  refine Es_iconst (v := 1) (hC _) dX5_swap_114 (by decide) ?_
  refine Es_goto (hC _) 119 dX5_swap_115 (by decide) ?_
  refine Es_fV (hC _) mv_X5_113 dX5_swap_119 (c_hasRoomFor (m := 1) hk (by omega) (by decide)) rfl rfl ⟨_, rfl, rfl⟩ rfl rfl (by decide) (Nat.le_of_ble_eq_true rfl) ?_
  refine Es_if_ne (hC _) 132 dX5_swap_122 (by decide) (fun hb122 => False.elim ((by rw [bI, if_neg (by omega)] at hb122; exact hb122 rfl))) (fun hb122 => ?_)
  first | refine Es_aload_n (hC _) dX5_swap_125 rfl ?_ | refine Es_aload_nN (hC _) dX5_swap_125 rfl ?_
  refine Es_bipush (v := -6) (hC _) dX5_swap_126 (by decide) ?_
  refine Es_fV (hC _) mv_X5_70 dX5_swap_128 (c_refuse (k := 6) (by decide) (by decide)) rfl rfl ⟨_, rfl, rfl⟩ rfl rfl (by decide) (Nat.le_of_ble_eq_true rfl) ?_
  exact Es_iret dX5_swap_131 rfl ⟨rfl, rfl, rfl⟩

set_option maxRecDepth 100000 in
set_option maxHeartbeats 4000000 in
theorem c_swap_3ay {ad : sA} {nw nt : Nat} {B : sB} {L : sL} (hnw : B 0 0 8 = nI nw) (h5 : nw ≤ 5) (h40 : nt ≤ 40) {w : Nat} (hw : w < nw) {v : Nat} (hv : v < nw) {pw qw : Nat} (hpw : B 18 w 3 = nI pw) (h7w : pw ≤ 7) (hqw : qw < pw) {pv qv : Nat} (hpv : B 18 v 3 = nI pv) (h7v : pv ≤ 7) (hqv : qv < pv) (hne : w = v) (hne2 : ¬ qw = qv) {t : Nat} (ht : t < nt) {k : Nat} (hk : B 6 0 3 = nI k) (h6 : k = 600) (honw : B 20 w qw = nI t) (honv : B 20 v qv = -1)  : Cf yX5_swap cX5_swap 9 (some FieldType.int) 5 [.ref (ad 0 0), .int (nI w), .int (nI qw), .int (nI v), .int (nI qv)] ad nw nt B L (some (.int (-6))) (uB B 5 0 6 (B 5 0 6 + 1)) (L) := by
  have hC : ∀ Q, je_Ok (sCm yX5_swap cX5_swap 9 (some FieldType.int) 5 ad nw nt Q) RX5 cX5_swap 9 5 := fun _ => je_Cm_ok
  refine Cs_of [some (.ref (ad 0 0)), some (.int (nI w)), some (.int (nI qw)), some (.int (nI v)), some (.int (nI qv)), none, none, none, none] (by decide) rfl (Nat.le_of_ble_eq_true rfl) ?_
  first | refine Es_aload_n (hC _) dX5_swap_0 rfl ?_ | refine Es_aload_nN (hC _) dX5_swap_0 rfl ?_
  refine Es_iload_n (hC _) dX5_swap_1 rfl ?_
  refine Es_fV (hC _) mv_X5_77 dX5_swap_2 (c_wagonAt_in hnw h5 hw) rfl rfl ⟨_, rfl, rfl⟩ rfl rfl (by decide) (Nat.le_of_ble_eq_true rfl) ?_
  first | refine Es_astore (lv' := [_, _, _, _, _, _, _, _, _]) (hC _) dX5_swap_5 (by decide) rfl rfl ?_ | refine Es_astoreN (lv' := [_, _, _, _, _, _, _, _, _]) (hC _) dX5_swap_5 (by decide) rfl rfl ?_
  first | refine Es_aload_n (hC _) dX5_swap_7 rfl ?_ | refine Es_aload_nN (hC _) dX5_swap_7 rfl ?_
  refine Es_iload_n (hC _) dX5_swap_8 rfl ?_
  refine Es_fV (hC _) mv_X5_77 dX5_swap_9 (c_wagonAt_in hnw h5 hv) rfl rfl ⟨_, rfl, rfl⟩ rfl rfl (by decide) (Nat.le_of_ble_eq_true rfl) ?_
  first | refine Es_astore (lv' := [_, _, _, _, _, _, _, _, _]) (hC _) dX5_swap_12 (by decide) rfl rfl ?_ | refine Es_astoreN (lv' := [_, _, _, _, _, _, _, _, _]) (hC _) dX5_swap_12 (by decide) rfl rfl ?_
  first | refine Es_aload (hC _) dX5_swap_14 rfl ?_ | refine Es_aloadN (hC _) dX5_swap_14 rfl ?_
  refine Es_ifnull (hC _) dX5_swap_16 ?_
  first | refine Es_aload (hC _) dX5_swap_19 rfl ?_ | refine Es_aloadN (hC _) dX5_swap_19 rfl ?_
  refine Es_ifnull (hC _) dX5_swap_21 ?_
  first | refine Es_aload (hC _) dX5_swap_24 rfl ?_ | refine Es_aloadN (hC _) dX5_swap_24 rfl ?_
  refine Es_iload_n (hC _) dX5_swap_26 rfl ?_
  refine Es_fV (hC _) mv_X5_136 dX5_swap_27 (c_hasPlace_in hw hpw h7w hqw) (ok18 hw) rfl ⟨_, rfl, rfl⟩ rfl rfl (by decide) (Nat.le_of_ble_eq_true rfl) ?_
  refine Es_if_eq (hC _) 43 dX5_swap_30 (by decide) (fun hb30 => False.elim ((by first | exact absurd hb30 (by decide) | exact absurd hb30 (by assumption) | exact hb30 (by assumption) | exact hb30 rfl | (simp_all [bI]; done)))) (fun hb30 => ?_)
  first | refine Es_aload (hC _) dX5_swap_33 rfl ?_ | refine Es_aloadN (hC _) dX5_swap_33 rfl ?_
  refine Es_iload (hC _) dX5_swap_35 rfl ?_
  refine Es_fV (hC _) mv_X5_136 dX5_swap_37 (c_hasPlace_in hv hpv h7v hqv) (ok18 hv) rfl ⟨_, rfl, rfl⟩ rfl rfl (by decide) (Nat.le_of_ble_eq_true rfl) ?_
  refine Es_if_ne (hC _) 49 dX5_swap_40 (by decide) (fun hb40 => ?_) (fun hb40 => False.elim ((by first | exact absurd hb40 (by decide) | exact absurd hb40 (by assumption) | exact hb40 (by assumption) | exact hb40 rfl | (simp_all [bI]; done))))
  refine Es_iload_n (hC _) dX5_swap_49 rfl ?_
  refine Es_iload_n (hC _) dX5_swap_50 rfl ?_
  refine Es_icmp_ne (hC _) 66 dX5_swap_51 (by decide) (fun hb51 => False.elim (hb51 (by rw [hne]))) (fun hb51 => ?_)
  refine Es_iload_n (hC _) dX5_swap_54 rfl ?_
  refine Es_iload (hC _) dX5_swap_55 rfl ?_
  refine Es_icmp_ne (hC _) 66 dX5_swap_57 (by decide) (fun hb57 => ?_) (fun hb57 => False.elim (hne2 ((nI_eq (by omega) (by omega)).mp hb57)))
  first | refine Es_aload (hC _) dX5_swap_66 rfl ?_ | refine Es_aloadN (hC _) dX5_swap_66 rfl ?_
  refine Es_iload_n (hC _) dX5_swap_68 rfl ?_
  refine Es_fV (hC _) mv_X5_142 dX5_swap_69 (c_tyreOn_in hw hpw h7w hqw) (ok18 hw) rfl ⟨_, rfl, rfl⟩ rfl rfl (by decide) (Nat.le_of_ble_eq_true rfl) ?_
  rw [show rT ad (B 20 w qw) = some (ad 21 t) by rw [honw, rT, if_neg (nI_pos (by omega)), nI_clamp (by omega)]]
  first | refine Es_astore (lv' := [_, _, _, _, _, _, _, _, _]) (hC _) dX5_swap_72 (by decide) rfl rfl ?_ | refine Es_astoreN (lv' := [_, _, _, _, _, _, _, _, _]) (hC _) dX5_swap_72 (by decide) rfl rfl ?_
  first | refine Es_aload (hC _) dX5_swap_74 rfl ?_ | refine Es_aloadN (hC _) dX5_swap_74 rfl ?_
  refine Es_iload (hC _) dX5_swap_76 rfl ?_
  refine Es_fV (hC _) mv_X5_142 dX5_swap_78 (c_tyreOn_in hv hpv h7v hqv) (ok18 hv) rfl ⟨_, rfl, rfl⟩ rfl rfl (by decide) (Nat.le_of_ble_eq_true rfl) ?_
  rw [show rT ad (B 20 v qv) = none by rw [honv]; rfl]
  first | refine Es_astore (lv' := [_, _, _, _, _, _, _, _, _]) (hC _) dX5_swap_81 (by decide) rfl rfl ?_ | refine Es_astoreN (lv' := [_, _, _, _, _, _, _, _, _]) (hC _) dX5_swap_81 (by decide) rfl rfl ?_
  first | refine Es_aload (hC _) dX5_swap_83 rfl ?_ | refine Es_aloadN (hC _) dX5_swap_83 rfl ?_
  refine Es_ifnonnull (hC _) 100 dX5_swap_85 (by decide) ?_
  first | refine Es_aload_n (hC _) dX5_swap_100 rfl ?_ | refine Es_aload_nN (hC _) dX5_swap_100 rfl ?_
  refine Sg_X5_5 (hC _) fl_X5_45 dX5_swap_101 ?_
  first | refine Es_aload (hC _) dX5_swap_104 rfl ?_ | refine Es_aloadN (hC _) dX5_swap_104 rfl ?_
  refine Es_ifnull (hC _) dX5_swap_106 ?_
  first | refine Es_aload (hC _) dX5_swap_109 rfl ?_ | refine Es_aloadN (hC _) dX5_swap_109 rfl ?_
  refine Es_ifnonnullN (hC _) dX5_swap_111 ?_
  refine Es_iconst (v := 1) (hC _) dX5_swap_114 (by decide) ?_
  refine Es_goto (hC _) 119 dX5_swap_115 (by decide) ?_
  refine Es_fV (hC _) mv_X5_113 dX5_swap_119 (c_hasRoomFor (m := 1) hk (by omega) (by decide)) rfl rfl ⟨_, rfl, rfl⟩ rfl rfl (by decide) (Nat.le_of_ble_eq_true rfl) ?_
  refine Es_if_ne (hC _) 132 dX5_swap_122 (by decide) (fun hb122 => False.elim ((by rw [bI, if_neg (by omega)] at hb122; exact hb122 rfl))) (fun hb122 => ?_)
  first | refine Es_aload_n (hC _) dX5_swap_125 rfl ?_ | refine Es_aload_nN (hC _) dX5_swap_125 rfl ?_
  refine Es_bipush (v := -6) (hC _) dX5_swap_126 (by decide) ?_
  refine Es_fV (hC _) mv_X5_70 dX5_swap_128 (c_refuse (k := 6) (by decide) (by decide)) rfl rfl ⟨_, rfl, rfl⟩ rfl rfl (by decide) (Nat.le_of_ble_eq_true rfl) ?_
  exact Es_iret dX5_swap_131 rfl ⟨rfl, rfl, rfl⟩

set_option maxRecDepth 100000 in
set_option maxHeartbeats 4000000 in
theorem c_swap_3bx {ad : sA} {nw nt : Nat} {B : sB} {L : sL} (hnw : B 0 0 8 = nI nw) (h5 : nw ≤ 5) (h40 : nt ≤ 40) {w : Nat} (hw : w < nw) {v : Nat} (hv : v < nw) {pw qw : Nat} (hpw : B 18 w 3 = nI pw) (h7w : pw ≤ 7) (hqw : qw < pw) {pv qv : Nat} (hpv : B 18 v 3 = nI pv) (h7v : pv ≤ 7) (hqv : qv < pv) (hne : ¬ w = v) {t : Nat} (ht : t < nt) {k : Nat} (hk : B 6 0 3 = nI k) (h6 : k = 600) (honw : B 20 w qw = -1) (honv : B 20 v qv = nI t)  : Cf yX5_swap cX5_swap 9 (some FieldType.int) 5 [.ref (ad 0 0), .int (nI w), .int (nI qw), .int (nI v), .int (nI qv)] ad nw nt B L (some (.int (-6))) (uB B 5 0 6 (B 5 0 6 + 1)) (L) := by
  have hC : ∀ Q, je_Ok (sCm yX5_swap cX5_swap 9 (some FieldType.int) 5 ad nw nt Q) RX5 cX5_swap 9 5 := fun _ => je_Cm_ok
  refine Cs_of [some (.ref (ad 0 0)), some (.int (nI w)), some (.int (nI qw)), some (.int (nI v)), some (.int (nI qv)), none, none, none, none] (by decide) rfl (Nat.le_of_ble_eq_true rfl) ?_
  first | refine Es_aload_n (hC _) dX5_swap_0 rfl ?_ | refine Es_aload_nN (hC _) dX5_swap_0 rfl ?_
  refine Es_iload_n (hC _) dX5_swap_1 rfl ?_
  refine Es_fV (hC _) mv_X5_77 dX5_swap_2 (c_wagonAt_in hnw h5 hw) rfl rfl ⟨_, rfl, rfl⟩ rfl rfl (by decide) (Nat.le_of_ble_eq_true rfl) ?_
  first | refine Es_astore (lv' := [_, _, _, _, _, _, _, _, _]) (hC _) dX5_swap_5 (by decide) rfl rfl ?_ | refine Es_astoreN (lv' := [_, _, _, _, _, _, _, _, _]) (hC _) dX5_swap_5 (by decide) rfl rfl ?_
  first | refine Es_aload_n (hC _) dX5_swap_7 rfl ?_ | refine Es_aload_nN (hC _) dX5_swap_7 rfl ?_
  refine Es_iload_n (hC _) dX5_swap_8 rfl ?_
  refine Es_fV (hC _) mv_X5_77 dX5_swap_9 (c_wagonAt_in hnw h5 hv) rfl rfl ⟨_, rfl, rfl⟩ rfl rfl (by decide) (Nat.le_of_ble_eq_true rfl) ?_
  first | refine Es_astore (lv' := [_, _, _, _, _, _, _, _, _]) (hC _) dX5_swap_12 (by decide) rfl rfl ?_ | refine Es_astoreN (lv' := [_, _, _, _, _, _, _, _, _]) (hC _) dX5_swap_12 (by decide) rfl rfl ?_
  first | refine Es_aload (hC _) dX5_swap_14 rfl ?_ | refine Es_aloadN (hC _) dX5_swap_14 rfl ?_
  refine Es_ifnull (hC _) dX5_swap_16 ?_
  first | refine Es_aload (hC _) dX5_swap_19 rfl ?_ | refine Es_aloadN (hC _) dX5_swap_19 rfl ?_
  refine Es_ifnull (hC _) dX5_swap_21 ?_
  first | refine Es_aload (hC _) dX5_swap_24 rfl ?_ | refine Es_aloadN (hC _) dX5_swap_24 rfl ?_
  refine Es_iload_n (hC _) dX5_swap_26 rfl ?_
  refine Es_fV (hC _) mv_X5_136 dX5_swap_27 (c_hasPlace_in hw hpw h7w hqw) (ok18 hw) rfl ⟨_, rfl, rfl⟩ rfl rfl (by decide) (Nat.le_of_ble_eq_true rfl) ?_
  refine Es_if_eq (hC _) 43 dX5_swap_30 (by decide) (fun hb30 => False.elim ((by first | exact absurd hb30 (by decide) | exact absurd hb30 (by assumption) | exact hb30 (by assumption) | exact hb30 rfl | (simp_all [bI]; done)))) (fun hb30 => ?_)
  first | refine Es_aload (hC _) dX5_swap_33 rfl ?_ | refine Es_aloadN (hC _) dX5_swap_33 rfl ?_
  refine Es_iload (hC _) dX5_swap_35 rfl ?_
  refine Es_fV (hC _) mv_X5_136 dX5_swap_37 (c_hasPlace_in hv hpv h7v hqv) (ok18 hv) rfl ⟨_, rfl, rfl⟩ rfl rfl (by decide) (Nat.le_of_ble_eq_true rfl) ?_
  refine Es_if_ne (hC _) 49 dX5_swap_40 (by decide) (fun hb40 => ?_) (fun hb40 => False.elim ((by first | exact absurd hb40 (by decide) | exact absurd hb40 (by assumption) | exact hb40 (by assumption) | exact hb40 rfl | (simp_all [bI]; done))))
  refine Es_iload_n (hC _) dX5_swap_49 rfl ?_
  refine Es_iload_n (hC _) dX5_swap_50 rfl ?_
  refine Es_icmp_ne (hC _) 66 dX5_swap_51 (by decide) (fun hb51 => ?_) (fun hb51 => False.elim (hne ((nI_eq (by omega) (by omega)).mp hb51)))
  first | refine Es_aload (hC _) dX5_swap_66 rfl ?_ | refine Es_aloadN (hC _) dX5_swap_66 rfl ?_
  refine Es_iload_n (hC _) dX5_swap_68 rfl ?_
  refine Es_fV (hC _) mv_X5_142 dX5_swap_69 (c_tyreOn_in hw hpw h7w hqw) (ok18 hw) rfl ⟨_, rfl, rfl⟩ rfl rfl (by decide) (Nat.le_of_ble_eq_true rfl) ?_
  rw [show rT ad (B 20 w qw) = none by rw [honw]; rfl]
  first | refine Es_astore (lv' := [_, _, _, _, _, _, _, _, _]) (hC _) dX5_swap_72 (by decide) rfl rfl ?_ | refine Es_astoreN (lv' := [_, _, _, _, _, _, _, _, _]) (hC _) dX5_swap_72 (by decide) rfl rfl ?_
  first | refine Es_aload (hC _) dX5_swap_74 rfl ?_ | refine Es_aloadN (hC _) dX5_swap_74 rfl ?_
  refine Es_iload (hC _) dX5_swap_76 rfl ?_
  refine Es_fV (hC _) mv_X5_142 dX5_swap_78 (c_tyreOn_in hv hpv h7v hqv) (ok18 hv) rfl ⟨_, rfl, rfl⟩ rfl rfl (by decide) (Nat.le_of_ble_eq_true rfl) ?_
  rw [show rT ad (B 20 v qv) = some (ad 21 t) by rw [honv, rT, if_neg (nI_pos (by omega)), nI_clamp (by omega)]]
  first | refine Es_astore (lv' := [_, _, _, _, _, _, _, _, _]) (hC _) dX5_swap_81 (by decide) rfl rfl ?_ | refine Es_astoreN (lv' := [_, _, _, _, _, _, _, _, _]) (hC _) dX5_swap_81 (by decide) rfl rfl ?_
  first | refine Es_aload (hC _) dX5_swap_83 rfl ?_ | refine Es_aloadN (hC _) dX5_swap_83 rfl ?_
  refine Es_ifnonnullN (hC _) dX5_swap_85 ?_
  first | refine Es_aload (hC _) dX5_swap_88 rfl ?_ | refine Es_aloadN (hC _) dX5_swap_88 rfl ?_
  refine Es_ifnonnull (hC _) 100 dX5_swap_90 (by decide) ?_
  first | refine Es_aload_n (hC _) dX5_swap_100 rfl ?_ | refine Es_aload_nN (hC _) dX5_swap_100 rfl ?_
  refine Sg_X5_5 (hC _) fl_X5_45 dX5_swap_101 ?_
  first | refine Es_aload (hC _) dX5_swap_104 rfl ?_ | refine Es_aloadN (hC _) dX5_swap_104 rfl ?_
  refine Es_ifnullN (hC _) 114 dX5_swap_106 (by decide) ?_
  refine Es_iconst (v := 1) (hC _) dX5_swap_114 (by decide) ?_
  refine Es_goto (hC _) 119 dX5_swap_115 (by decide) ?_
  refine Es_fV (hC _) mv_X5_113 dX5_swap_119 (c_hasRoomFor (m := 1) hk (by omega) (by decide)) rfl rfl ⟨_, rfl, rfl⟩ rfl rfl (by decide) (Nat.le_of_ble_eq_true rfl) ?_
  refine Es_if_ne (hC _) 132 dX5_swap_122 (by decide) (fun hb122 => False.elim ((by rw [bI, if_neg (by omega)] at hb122; exact hb122 rfl))) (fun hb122 => ?_)
  first | refine Es_aload_n (hC _) dX5_swap_125 rfl ?_ | refine Es_aload_nN (hC _) dX5_swap_125 rfl ?_
  refine Es_bipush (v := -6) (hC _) dX5_swap_126 (by decide) ?_
  refine Es_fV (hC _) mv_X5_70 dX5_swap_128 (c_refuse (k := 6) (by decide) (by decide)) rfl rfl ⟨_, rfl, rfl⟩ rfl rfl (by decide) (Nat.le_of_ble_eq_true rfl) ?_
  exact Es_iret dX5_swap_131 rfl ⟨rfl, rfl, rfl⟩

set_option maxRecDepth 100000 in
set_option maxHeartbeats 4000000 in
theorem c_swap_3by {ad : sA} {nw nt : Nat} {B : sB} {L : sL} (hnw : B 0 0 8 = nI nw) (h5 : nw ≤ 5) (h40 : nt ≤ 40) {w : Nat} (hw : w < nw) {v : Nat} (hv : v < nw) {pw qw : Nat} (hpw : B 18 w 3 = nI pw) (h7w : pw ≤ 7) (hqw : qw < pw) {pv qv : Nat} (hpv : B 18 v 3 = nI pv) (h7v : pv ≤ 7) (hqv : qv < pv) (hne : w = v) (hne2 : ¬ qw = qv) {t : Nat} (ht : t < nt) {k : Nat} (hk : B 6 0 3 = nI k) (h6 : k = 600) (honw : B 20 w qw = -1) (honv : B 20 v qv = nI t)  : Cf yX5_swap cX5_swap 9 (some FieldType.int) 5 [.ref (ad 0 0), .int (nI w), .int (nI qw), .int (nI v), .int (nI qv)] ad nw nt B L (some (.int (-6))) (uB B 5 0 6 (B 5 0 6 + 1)) (L) := by
  have hC : ∀ Q, je_Ok (sCm yX5_swap cX5_swap 9 (some FieldType.int) 5 ad nw nt Q) RX5 cX5_swap 9 5 := fun _ => je_Cm_ok
  refine Cs_of [some (.ref (ad 0 0)), some (.int (nI w)), some (.int (nI qw)), some (.int (nI v)), some (.int (nI qv)), none, none, none, none] (by decide) rfl (Nat.le_of_ble_eq_true rfl) ?_
  first | refine Es_aload_n (hC _) dX5_swap_0 rfl ?_ | refine Es_aload_nN (hC _) dX5_swap_0 rfl ?_
  refine Es_iload_n (hC _) dX5_swap_1 rfl ?_
  refine Es_fV (hC _) mv_X5_77 dX5_swap_2 (c_wagonAt_in hnw h5 hw) rfl rfl ⟨_, rfl, rfl⟩ rfl rfl (by decide) (Nat.le_of_ble_eq_true rfl) ?_
  first | refine Es_astore (lv' := [_, _, _, _, _, _, _, _, _]) (hC _) dX5_swap_5 (by decide) rfl rfl ?_ | refine Es_astoreN (lv' := [_, _, _, _, _, _, _, _, _]) (hC _) dX5_swap_5 (by decide) rfl rfl ?_
  first | refine Es_aload_n (hC _) dX5_swap_7 rfl ?_ | refine Es_aload_nN (hC _) dX5_swap_7 rfl ?_
  refine Es_iload_n (hC _) dX5_swap_8 rfl ?_
  refine Es_fV (hC _) mv_X5_77 dX5_swap_9 (c_wagonAt_in hnw h5 hv) rfl rfl ⟨_, rfl, rfl⟩ rfl rfl (by decide) (Nat.le_of_ble_eq_true rfl) ?_
  first | refine Es_astore (lv' := [_, _, _, _, _, _, _, _, _]) (hC _) dX5_swap_12 (by decide) rfl rfl ?_ | refine Es_astoreN (lv' := [_, _, _, _, _, _, _, _, _]) (hC _) dX5_swap_12 (by decide) rfl rfl ?_
  first | refine Es_aload (hC _) dX5_swap_14 rfl ?_ | refine Es_aloadN (hC _) dX5_swap_14 rfl ?_
  refine Es_ifnull (hC _) dX5_swap_16 ?_
  first | refine Es_aload (hC _) dX5_swap_19 rfl ?_ | refine Es_aloadN (hC _) dX5_swap_19 rfl ?_
  refine Es_ifnull (hC _) dX5_swap_21 ?_
  first | refine Es_aload (hC _) dX5_swap_24 rfl ?_ | refine Es_aloadN (hC _) dX5_swap_24 rfl ?_
  refine Es_iload_n (hC _) dX5_swap_26 rfl ?_
  refine Es_fV (hC _) mv_X5_136 dX5_swap_27 (c_hasPlace_in hw hpw h7w hqw) (ok18 hw) rfl ⟨_, rfl, rfl⟩ rfl rfl (by decide) (Nat.le_of_ble_eq_true rfl) ?_
  refine Es_if_eq (hC _) 43 dX5_swap_30 (by decide) (fun hb30 => False.elim ((by first | exact absurd hb30 (by decide) | exact absurd hb30 (by assumption) | exact hb30 (by assumption) | exact hb30 rfl | (simp_all [bI]; done)))) (fun hb30 => ?_)
  first | refine Es_aload (hC _) dX5_swap_33 rfl ?_ | refine Es_aloadN (hC _) dX5_swap_33 rfl ?_
  refine Es_iload (hC _) dX5_swap_35 rfl ?_
  refine Es_fV (hC _) mv_X5_136 dX5_swap_37 (c_hasPlace_in hv hpv h7v hqv) (ok18 hv) rfl ⟨_, rfl, rfl⟩ rfl rfl (by decide) (Nat.le_of_ble_eq_true rfl) ?_
  refine Es_if_ne (hC _) 49 dX5_swap_40 (by decide) (fun hb40 => ?_) (fun hb40 => False.elim ((by first | exact absurd hb40 (by decide) | exact absurd hb40 (by assumption) | exact hb40 (by assumption) | exact hb40 rfl | (simp_all [bI]; done))))
  refine Es_iload_n (hC _) dX5_swap_49 rfl ?_
  refine Es_iload_n (hC _) dX5_swap_50 rfl ?_
  refine Es_icmp_ne (hC _) 66 dX5_swap_51 (by decide) (fun hb51 => False.elim (hb51 (by rw [hne]))) (fun hb51 => ?_)
  refine Es_iload_n (hC _) dX5_swap_54 rfl ?_
  refine Es_iload (hC _) dX5_swap_55 rfl ?_
  refine Es_icmp_ne (hC _) 66 dX5_swap_57 (by decide) (fun hb57 => ?_) (fun hb57 => False.elim (hne2 ((nI_eq (by omega) (by omega)).mp hb57)))
  first | refine Es_aload (hC _) dX5_swap_66 rfl ?_ | refine Es_aloadN (hC _) dX5_swap_66 rfl ?_
  refine Es_iload_n (hC _) dX5_swap_68 rfl ?_
  refine Es_fV (hC _) mv_X5_142 dX5_swap_69 (c_tyreOn_in hw hpw h7w hqw) (ok18 hw) rfl ⟨_, rfl, rfl⟩ rfl rfl (by decide) (Nat.le_of_ble_eq_true rfl) ?_
  rw [show rT ad (B 20 w qw) = none by rw [honw]; rfl]
  first | refine Es_astore (lv' := [_, _, _, _, _, _, _, _, _]) (hC _) dX5_swap_72 (by decide) rfl rfl ?_ | refine Es_astoreN (lv' := [_, _, _, _, _, _, _, _, _]) (hC _) dX5_swap_72 (by decide) rfl rfl ?_
  first | refine Es_aload (hC _) dX5_swap_74 rfl ?_ | refine Es_aloadN (hC _) dX5_swap_74 rfl ?_
  refine Es_iload (hC _) dX5_swap_76 rfl ?_
  refine Es_fV (hC _) mv_X5_142 dX5_swap_78 (c_tyreOn_in hv hpv h7v hqv) (ok18 hv) rfl ⟨_, rfl, rfl⟩ rfl rfl (by decide) (Nat.le_of_ble_eq_true rfl) ?_
  rw [show rT ad (B 20 v qv) = some (ad 21 t) by rw [honv, rT, if_neg (nI_pos (by omega)), nI_clamp (by omega)]]
  first | refine Es_astore (lv' := [_, _, _, _, _, _, _, _, _]) (hC _) dX5_swap_81 (by decide) rfl rfl ?_ | refine Es_astoreN (lv' := [_, _, _, _, _, _, _, _, _]) (hC _) dX5_swap_81 (by decide) rfl rfl ?_
  first | refine Es_aload (hC _) dX5_swap_83 rfl ?_ | refine Es_aloadN (hC _) dX5_swap_83 rfl ?_
  refine Es_ifnonnullN (hC _) dX5_swap_85 ?_
  first | refine Es_aload (hC _) dX5_swap_88 rfl ?_ | refine Es_aloadN (hC _) dX5_swap_88 rfl ?_
  refine Es_ifnonnull (hC _) 100 dX5_swap_90 (by decide) ?_
  first | refine Es_aload_n (hC _) dX5_swap_100 rfl ?_ | refine Es_aload_nN (hC _) dX5_swap_100 rfl ?_
  refine Sg_X5_5 (hC _) fl_X5_45 dX5_swap_101 ?_
  first | refine Es_aload (hC _) dX5_swap_104 rfl ?_ | refine Es_aloadN (hC _) dX5_swap_104 rfl ?_
  refine Es_ifnullN (hC _) 114 dX5_swap_106 (by decide) ?_
  refine Es_iconst (v := 1) (hC _) dX5_swap_114 (by decide) ?_
  refine Es_goto (hC _) 119 dX5_swap_115 (by decide) ?_
  refine Es_fV (hC _) mv_X5_113 dX5_swap_119 (c_hasRoomFor (m := 1) hk (by omega) (by decide)) rfl rfl ⟨_, rfl, rfl⟩ rfl rfl (by decide) (Nat.le_of_ble_eq_true rfl) ?_
  refine Es_if_ne (hC _) 132 dX5_swap_122 (by decide) (fun hb122 => False.elim ((by rw [bI, if_neg (by omega)] at hb122; exact hb122 rfl))) (fun hb122 => ?_)
  first | refine Es_aload_n (hC _) dX5_swap_125 rfl ?_ | refine Es_aload_nN (hC _) dX5_swap_125 rfl ?_
  refine Es_bipush (v := -6) (hC _) dX5_swap_126 (by decide) ?_
  refine Es_fV (hC _) mv_X5_70 dX5_swap_128 (c_refuse (k := 6) (by decide) (by decide)) rfl rfl ⟨_, rfl, rfl⟩ rfl rfl (by decide) (Nat.le_of_ble_eq_true rfl) ?_
  exact Es_iret dX5_swap_131 rfl ⟨rfl, rfl, rfl⟩

set_option maxRecDepth 100000 in
set_option maxHeartbeats 4000000 in
theorem c_swap_3cx {ad : sA} {nw nt : Nat} {B : sB} {L : sL} (hnw : B 0 0 8 = nI nw) (h5 : nw ≤ 5) (h40 : nt ≤ 40) {w : Nat} (hw : w < nw) {v : Nat} (hv : v < nw) {pw qw : Nat} (hpw : B 18 w 3 = nI pw) (h7w : pw ≤ 7) (hqw : qw < pw) {pv qv : Nat} (hpv : B 18 v 3 = nI pv) (h7v : pv ≤ 7) (hqv : qv < pv) (hne : ¬ w = v) {a b : Nat} (ha : a < nt) (hb : b < nt) {k : Nat} (hk : B 6 0 3 = nI k) (h60 : k ≤ 600) (h6 : ¬ k < 599) (honw : B 20 w qw = nI a) (honv : B 20 v qv = nI b)  : Cf yX5_swap cX5_swap 9 (some FieldType.int) 5 [.ref (ad 0 0), .int (nI w), .int (nI qw), .int (nI v), .int (nI qv)] ad nw nt B L (some (.int (-6))) (uB B 5 0 6 (B 5 0 6 + 1)) (L) := by
  have hC : ∀ Q, je_Ok (sCm yX5_swap cX5_swap 9 (some FieldType.int) 5 ad nw nt Q) RX5 cX5_swap 9 5 := fun _ => je_Cm_ok
  refine Cs_of [some (.ref (ad 0 0)), some (.int (nI w)), some (.int (nI qw)), some (.int (nI v)), some (.int (nI qv)), none, none, none, none] (by decide) rfl (Nat.le_of_ble_eq_true rfl) ?_
  first | refine Es_aload_n (hC _) dX5_swap_0 rfl ?_ | refine Es_aload_nN (hC _) dX5_swap_0 rfl ?_
  refine Es_iload_n (hC _) dX5_swap_1 rfl ?_
  refine Es_fV (hC _) mv_X5_77 dX5_swap_2 (c_wagonAt_in hnw h5 hw) rfl rfl ⟨_, rfl, rfl⟩ rfl rfl (by decide) (Nat.le_of_ble_eq_true rfl) ?_
  first | refine Es_astore (lv' := [_, _, _, _, _, _, _, _, _]) (hC _) dX5_swap_5 (by decide) rfl rfl ?_ | refine Es_astoreN (lv' := [_, _, _, _, _, _, _, _, _]) (hC _) dX5_swap_5 (by decide) rfl rfl ?_
  first | refine Es_aload_n (hC _) dX5_swap_7 rfl ?_ | refine Es_aload_nN (hC _) dX5_swap_7 rfl ?_
  refine Es_iload_n (hC _) dX5_swap_8 rfl ?_
  refine Es_fV (hC _) mv_X5_77 dX5_swap_9 (c_wagonAt_in hnw h5 hv) rfl rfl ⟨_, rfl, rfl⟩ rfl rfl (by decide) (Nat.le_of_ble_eq_true rfl) ?_
  first | refine Es_astore (lv' := [_, _, _, _, _, _, _, _, _]) (hC _) dX5_swap_12 (by decide) rfl rfl ?_ | refine Es_astoreN (lv' := [_, _, _, _, _, _, _, _, _]) (hC _) dX5_swap_12 (by decide) rfl rfl ?_
  first | refine Es_aload (hC _) dX5_swap_14 rfl ?_ | refine Es_aloadN (hC _) dX5_swap_14 rfl ?_
  refine Es_ifnull (hC _) dX5_swap_16 ?_
  first | refine Es_aload (hC _) dX5_swap_19 rfl ?_ | refine Es_aloadN (hC _) dX5_swap_19 rfl ?_
  refine Es_ifnull (hC _) dX5_swap_21 ?_
  first | refine Es_aload (hC _) dX5_swap_24 rfl ?_ | refine Es_aloadN (hC _) dX5_swap_24 rfl ?_
  refine Es_iload_n (hC _) dX5_swap_26 rfl ?_
  refine Es_fV (hC _) mv_X5_136 dX5_swap_27 (c_hasPlace_in hw hpw h7w hqw) (ok18 hw) rfl ⟨_, rfl, rfl⟩ rfl rfl (by decide) (Nat.le_of_ble_eq_true rfl) ?_
  refine Es_if_eq (hC _) 43 dX5_swap_30 (by decide) (fun hb30 => False.elim ((by first | exact absurd hb30 (by decide) | exact absurd hb30 (by assumption) | exact hb30 (by assumption) | exact hb30 rfl | (simp_all [bI]; done)))) (fun hb30 => ?_)
  first | refine Es_aload (hC _) dX5_swap_33 rfl ?_ | refine Es_aloadN (hC _) dX5_swap_33 rfl ?_
  refine Es_iload (hC _) dX5_swap_35 rfl ?_
  refine Es_fV (hC _) mv_X5_136 dX5_swap_37 (c_hasPlace_in hv hpv h7v hqv) (ok18 hv) rfl ⟨_, rfl, rfl⟩ rfl rfl (by decide) (Nat.le_of_ble_eq_true rfl) ?_
  refine Es_if_ne (hC _) 49 dX5_swap_40 (by decide) (fun hb40 => ?_) (fun hb40 => False.elim ((by first | exact absurd hb40 (by decide) | exact absurd hb40 (by assumption) | exact hb40 (by assumption) | exact hb40 rfl | (simp_all [bI]; done))))
  refine Es_iload_n (hC _) dX5_swap_49 rfl ?_
  refine Es_iload_n (hC _) dX5_swap_50 rfl ?_
  refine Es_icmp_ne (hC _) 66 dX5_swap_51 (by decide) (fun hb51 => ?_) (fun hb51 => False.elim (hne ((nI_eq (by omega) (by omega)).mp hb51)))
  first | refine Es_aload (hC _) dX5_swap_66 rfl ?_ | refine Es_aloadN (hC _) dX5_swap_66 rfl ?_
  refine Es_iload_n (hC _) dX5_swap_68 rfl ?_
  refine Es_fV (hC _) mv_X5_142 dX5_swap_69 (c_tyreOn_in hw hpw h7w hqw) (ok18 hw) rfl ⟨_, rfl, rfl⟩ rfl rfl (by decide) (Nat.le_of_ble_eq_true rfl) ?_
  rw [show rT ad (B 20 w qw) = some (ad 21 a) by rw [honw, rT, if_neg (nI_pos (by omega)), nI_clamp (by omega)]]
  first | refine Es_astore (lv' := [_, _, _, _, _, _, _, _, _]) (hC _) dX5_swap_72 (by decide) rfl rfl ?_ | refine Es_astoreN (lv' := [_, _, _, _, _, _, _, _, _]) (hC _) dX5_swap_72 (by decide) rfl rfl ?_
  first | refine Es_aload (hC _) dX5_swap_74 rfl ?_ | refine Es_aloadN (hC _) dX5_swap_74 rfl ?_
  refine Es_iload (hC _) dX5_swap_76 rfl ?_
  refine Es_fV (hC _) mv_X5_142 dX5_swap_78 (c_tyreOn_in hv hpv h7v hqv) (ok18 hv) rfl ⟨_, rfl, rfl⟩ rfl rfl (by decide) (Nat.le_of_ble_eq_true rfl) ?_
  rw [show rT ad (B 20 v qv) = some (ad 21 b) by rw [honv, rT, if_neg (nI_pos (by omega)), nI_clamp (by omega)]]
  first | refine Es_astore (lv' := [_, _, _, _, _, _, _, _, _]) (hC _) dX5_swap_81 (by decide) rfl rfl ?_ | refine Es_astoreN (lv' := [_, _, _, _, _, _, _, _, _]) (hC _) dX5_swap_81 (by decide) rfl rfl ?_
  first | refine Es_aload (hC _) dX5_swap_83 rfl ?_ | refine Es_aloadN (hC _) dX5_swap_83 rfl ?_
  refine Es_ifnonnull (hC _) 100 dX5_swap_85 (by decide) ?_
  first | refine Es_aload_n (hC _) dX5_swap_100 rfl ?_ | refine Es_aload_nN (hC _) dX5_swap_100 rfl ?_
  refine Sg_X5_5 (hC _) fl_X5_45 dX5_swap_101 ?_
  first | refine Es_aload (hC _) dX5_swap_104 rfl ?_ | refine Es_aloadN (hC _) dX5_swap_104 rfl ?_
  refine Es_ifnull (hC _) dX5_swap_106 ?_
  first | refine Es_aload (hC _) dX5_swap_109 rfl ?_ | refine Es_aloadN (hC _) dX5_swap_109 rfl ?_
  refine Es_ifnonnull (hC _) 118 dX5_swap_111 (by decide) ?_
  refine Es_iconst (v := 2) (hC _) dX5_swap_118 (by decide) ?_
  refine Es_fV (hC _) mv_X5_113 dX5_swap_119 (c_hasRoomFor (m := 2) hk (by omega) (by decide)) rfl rfl ⟨_, rfl, rfl⟩ rfl rfl (by decide) (Nat.le_of_ble_eq_true rfl) ?_
  refine Es_if_ne (hC _) 132 dX5_swap_122 (by decide) (fun hb122 => False.elim ((by rw [bI, if_neg (by omega)] at hb122; exact hb122 rfl))) (fun hb122 => ?_)
  first | refine Es_aload_n (hC _) dX5_swap_125 rfl ?_ | refine Es_aload_nN (hC _) dX5_swap_125 rfl ?_
  refine Es_bipush (v := -6) (hC _) dX5_swap_126 (by decide) ?_
  refine Es_fV (hC _) mv_X5_70 dX5_swap_128 (c_refuse (k := 6) (by decide) (by decide)) rfl rfl ⟨_, rfl, rfl⟩ rfl rfl (by decide) (Nat.le_of_ble_eq_true rfl) ?_
  exact Es_iret dX5_swap_131 rfl ⟨rfl, rfl, rfl⟩

set_option maxRecDepth 100000 in
set_option maxHeartbeats 4000000 in
theorem c_swap_3cy {ad : sA} {nw nt : Nat} {B : sB} {L : sL} (hnw : B 0 0 8 = nI nw) (h5 : nw ≤ 5) (h40 : nt ≤ 40) {w : Nat} (hw : w < nw) {v : Nat} (hv : v < nw) {pw qw : Nat} (hpw : B 18 w 3 = nI pw) (h7w : pw ≤ 7) (hqw : qw < pw) {pv qv : Nat} (hpv : B 18 v 3 = nI pv) (h7v : pv ≤ 7) (hqv : qv < pv) (hne : w = v) (hne2 : ¬ qw = qv) {a b : Nat} (ha : a < nt) (hb : b < nt) {k : Nat} (hk : B 6 0 3 = nI k) (h60 : k ≤ 600) (h6 : ¬ k < 599) (honw : B 20 w qw = nI a) (honv : B 20 v qv = nI b)  : Cf yX5_swap cX5_swap 9 (some FieldType.int) 5 [.ref (ad 0 0), .int (nI w), .int (nI qw), .int (nI v), .int (nI qv)] ad nw nt B L (some (.int (-6))) (uB B 5 0 6 (B 5 0 6 + 1)) (L) := by
  have hC : ∀ Q, je_Ok (sCm yX5_swap cX5_swap 9 (some FieldType.int) 5 ad nw nt Q) RX5 cX5_swap 9 5 := fun _ => je_Cm_ok
  refine Cs_of [some (.ref (ad 0 0)), some (.int (nI w)), some (.int (nI qw)), some (.int (nI v)), some (.int (nI qv)), none, none, none, none] (by decide) rfl (Nat.le_of_ble_eq_true rfl) ?_
  first | refine Es_aload_n (hC _) dX5_swap_0 rfl ?_ | refine Es_aload_nN (hC _) dX5_swap_0 rfl ?_
  refine Es_iload_n (hC _) dX5_swap_1 rfl ?_
  refine Es_fV (hC _) mv_X5_77 dX5_swap_2 (c_wagonAt_in hnw h5 hw) rfl rfl ⟨_, rfl, rfl⟩ rfl rfl (by decide) (Nat.le_of_ble_eq_true rfl) ?_
  first | refine Es_astore (lv' := [_, _, _, _, _, _, _, _, _]) (hC _) dX5_swap_5 (by decide) rfl rfl ?_ | refine Es_astoreN (lv' := [_, _, _, _, _, _, _, _, _]) (hC _) dX5_swap_5 (by decide) rfl rfl ?_
  first | refine Es_aload_n (hC _) dX5_swap_7 rfl ?_ | refine Es_aload_nN (hC _) dX5_swap_7 rfl ?_
  refine Es_iload_n (hC _) dX5_swap_8 rfl ?_
  refine Es_fV (hC _) mv_X5_77 dX5_swap_9 (c_wagonAt_in hnw h5 hv) rfl rfl ⟨_, rfl, rfl⟩ rfl rfl (by decide) (Nat.le_of_ble_eq_true rfl) ?_
  first | refine Es_astore (lv' := [_, _, _, _, _, _, _, _, _]) (hC _) dX5_swap_12 (by decide) rfl rfl ?_ | refine Es_astoreN (lv' := [_, _, _, _, _, _, _, _, _]) (hC _) dX5_swap_12 (by decide) rfl rfl ?_
  first | refine Es_aload (hC _) dX5_swap_14 rfl ?_ | refine Es_aloadN (hC _) dX5_swap_14 rfl ?_
  refine Es_ifnull (hC _) dX5_swap_16 ?_
  first | refine Es_aload (hC _) dX5_swap_19 rfl ?_ | refine Es_aloadN (hC _) dX5_swap_19 rfl ?_
  refine Es_ifnull (hC _) dX5_swap_21 ?_
  first | refine Es_aload (hC _) dX5_swap_24 rfl ?_ | refine Es_aloadN (hC _) dX5_swap_24 rfl ?_
  refine Es_iload_n (hC _) dX5_swap_26 rfl ?_
  refine Es_fV (hC _) mv_X5_136 dX5_swap_27 (c_hasPlace_in hw hpw h7w hqw) (ok18 hw) rfl ⟨_, rfl, rfl⟩ rfl rfl (by decide) (Nat.le_of_ble_eq_true rfl) ?_
  refine Es_if_eq (hC _) 43 dX5_swap_30 (by decide) (fun hb30 => False.elim ((by first | exact absurd hb30 (by decide) | exact absurd hb30 (by assumption) | exact hb30 (by assumption) | exact hb30 rfl | (simp_all [bI]; done)))) (fun hb30 => ?_)
  first | refine Es_aload (hC _) dX5_swap_33 rfl ?_ | refine Es_aloadN (hC _) dX5_swap_33 rfl ?_
  refine Es_iload (hC _) dX5_swap_35 rfl ?_
  refine Es_fV (hC _) mv_X5_136 dX5_swap_37 (c_hasPlace_in hv hpv h7v hqv) (ok18 hv) rfl ⟨_, rfl, rfl⟩ rfl rfl (by decide) (Nat.le_of_ble_eq_true rfl) ?_
  refine Es_if_ne (hC _) 49 dX5_swap_40 (by decide) (fun hb40 => ?_) (fun hb40 => False.elim ((by first | exact absurd hb40 (by decide) | exact absurd hb40 (by assumption) | exact hb40 (by assumption) | exact hb40 rfl | (simp_all [bI]; done))))
  refine Es_iload_n (hC _) dX5_swap_49 rfl ?_
  refine Es_iload_n (hC _) dX5_swap_50 rfl ?_
  refine Es_icmp_ne (hC _) 66 dX5_swap_51 (by decide) (fun hb51 => False.elim (hb51 (by rw [hne]))) (fun hb51 => ?_)
  refine Es_iload_n (hC _) dX5_swap_54 rfl ?_
  refine Es_iload (hC _) dX5_swap_55 rfl ?_
  refine Es_icmp_ne (hC _) 66 dX5_swap_57 (by decide) (fun hb57 => ?_) (fun hb57 => False.elim (hne2 ((nI_eq (by omega) (by omega)).mp hb57)))
  first | refine Es_aload (hC _) dX5_swap_66 rfl ?_ | refine Es_aloadN (hC _) dX5_swap_66 rfl ?_
  refine Es_iload_n (hC _) dX5_swap_68 rfl ?_
  refine Es_fV (hC _) mv_X5_142 dX5_swap_69 (c_tyreOn_in hw hpw h7w hqw) (ok18 hw) rfl ⟨_, rfl, rfl⟩ rfl rfl (by decide) (Nat.le_of_ble_eq_true rfl) ?_
  rw [show rT ad (B 20 w qw) = some (ad 21 a) by rw [honw, rT, if_neg (nI_pos (by omega)), nI_clamp (by omega)]]
  first | refine Es_astore (lv' := [_, _, _, _, _, _, _, _, _]) (hC _) dX5_swap_72 (by decide) rfl rfl ?_ | refine Es_astoreN (lv' := [_, _, _, _, _, _, _, _, _]) (hC _) dX5_swap_72 (by decide) rfl rfl ?_
  first | refine Es_aload (hC _) dX5_swap_74 rfl ?_ | refine Es_aloadN (hC _) dX5_swap_74 rfl ?_
  refine Es_iload (hC _) dX5_swap_76 rfl ?_
  refine Es_fV (hC _) mv_X5_142 dX5_swap_78 (c_tyreOn_in hv hpv h7v hqv) (ok18 hv) rfl ⟨_, rfl, rfl⟩ rfl rfl (by decide) (Nat.le_of_ble_eq_true rfl) ?_
  rw [show rT ad (B 20 v qv) = some (ad 21 b) by rw [honv, rT, if_neg (nI_pos (by omega)), nI_clamp (by omega)]]
  first | refine Es_astore (lv' := [_, _, _, _, _, _, _, _, _]) (hC _) dX5_swap_81 (by decide) rfl rfl ?_ | refine Es_astoreN (lv' := [_, _, _, _, _, _, _, _, _]) (hC _) dX5_swap_81 (by decide) rfl rfl ?_
  first | refine Es_aload (hC _) dX5_swap_83 rfl ?_ | refine Es_aloadN (hC _) dX5_swap_83 rfl ?_
  refine Es_ifnonnull (hC _) 100 dX5_swap_85 (by decide) ?_
  first | refine Es_aload_n (hC _) dX5_swap_100 rfl ?_ | refine Es_aload_nN (hC _) dX5_swap_100 rfl ?_
  refine Sg_X5_5 (hC _) fl_X5_45 dX5_swap_101 ?_
  first | refine Es_aload (hC _) dX5_swap_104 rfl ?_ | refine Es_aloadN (hC _) dX5_swap_104 rfl ?_
  refine Es_ifnull (hC _) dX5_swap_106 ?_
  first | refine Es_aload (hC _) dX5_swap_109 rfl ?_ | refine Es_aloadN (hC _) dX5_swap_109 rfl ?_
  refine Es_ifnonnull (hC _) 118 dX5_swap_111 (by decide) ?_
  refine Es_iconst (v := 2) (hC _) dX5_swap_118 (by decide) ?_
  refine Es_fV (hC _) mv_X5_113 dX5_swap_119 (c_hasRoomFor (m := 2) hk (by omega) (by decide)) rfl rfl ⟨_, rfl, rfl⟩ rfl rfl (by decide) (Nat.le_of_ble_eq_true rfl) ?_
  refine Es_if_ne (hC _) 132 dX5_swap_122 (by decide) (fun hb122 => False.elim ((by rw [bI, if_neg (by omega)] at hb122; exact hb122 rfl))) (fun hb122 => ?_)
  first | refine Es_aload_n (hC _) dX5_swap_125 rfl ?_ | refine Es_aload_nN (hC _) dX5_swap_125 rfl ?_
  refine Es_bipush (v := -6) (hC _) dX5_swap_126 (by decide) ?_
  refine Es_fV (hC _) mv_X5_70 dX5_swap_128 (c_refuse (k := 6) (by decide) (by decide)) rfl rfl ⟨_, rfl, rfl⟩ rfl rfl (by decide) (Nat.le_of_ble_eq_true rfl) ?_
  exact Es_iret dX5_swap_131 rfl ⟨rfl, rfl, rfl⟩

set_option maxRecDepth 100000 in
set_option maxHeartbeats 4000000 in
theorem c_swap_4ax {ad : sA} {nw nt : Nat} {B : sB} {L : sL} (hnw : B 0 0 8 = nI nw) (h5 : nw ≤ 5) (h40 : nt ≤ 40) {w : Nat} (hw : w < nw) {v : Nat} (hv : v < nw) {pw qw : Nat} (hpw : B 18 w 3 = nI pw) (h7w : pw ≤ 7) (hqw : qw < pw) {pv qv : Nat} (hpv : B 18 v 3 = nI pv) (h7v : pv ≤ 7) (hqv : qv < pv) (hne : ¬ w = v) {t : Nat} (ht : t < nt) {k : Nat} (hk : B 6 0 3 = nI k) (hnwn : B 18 w 0 = nI w) (hnvn : B 18 v 0 = nI v) (h6 : k < 600) (honw : B 20 w qw = nI t) (honv : B 20 v qv = -1)  : Cf yX5_swap cX5_swap 9 (some FieldType.int) 5 [.ref (ad 0 0), .int (nI w), .int (nI qw), .int (nI v), .int (nI qv)] ad nw nt B L (some (.int 1)) (cLog (uB (uB (uB B 20 w qw (-1)) 20 v qv (nI t)) 21 t 10 (nI (10 * v + qv))) k (B 0 0 11) (B 21 t 0) (nI (10 * v + qv))) (L) := by
  have hC : ∀ Q, je_Ok (sCm yX5_swap cX5_swap 9 (some FieldType.int) 5 ad nw nt Q) RX5 cX5_swap 9 5 := fun _ => je_Cm_ok
  refine Cs_of [some (.ref (ad 0 0)), some (.int (nI w)), some (.int (nI qw)), some (.int (nI v)), some (.int (nI qv)), none, none, none, none] (by decide) rfl (Nat.le_of_ble_eq_true rfl) ?_
  first | refine Es_aload_n (hC _) dX5_swap_0 rfl ?_ | refine Es_aload_nN (hC _) dX5_swap_0 rfl ?_
  refine Es_iload_n (hC _) dX5_swap_1 rfl ?_
  refine Es_fV (hC _) mv_X5_77 dX5_swap_2 (c_wagonAt_in hnw h5 hw) rfl rfl ⟨_, rfl, rfl⟩ rfl rfl (by decide) (Nat.le_of_ble_eq_true rfl) ?_
  first | refine Es_astore (lv' := [_, _, _, _, _, _, _, _, _]) (hC _) dX5_swap_5 (by decide) rfl rfl ?_ | refine Es_astoreN (lv' := [_, _, _, _, _, _, _, _, _]) (hC _) dX5_swap_5 (by decide) rfl rfl ?_
  first | refine Es_aload_n (hC _) dX5_swap_7 rfl ?_ | refine Es_aload_nN (hC _) dX5_swap_7 rfl ?_
  refine Es_iload_n (hC _) dX5_swap_8 rfl ?_
  refine Es_fV (hC _) mv_X5_77 dX5_swap_9 (c_wagonAt_in hnw h5 hv) rfl rfl ⟨_, rfl, rfl⟩ rfl rfl (by decide) (Nat.le_of_ble_eq_true rfl) ?_
  first | refine Es_astore (lv' := [_, _, _, _, _, _, _, _, _]) (hC _) dX5_swap_12 (by decide) rfl rfl ?_ | refine Es_astoreN (lv' := [_, _, _, _, _, _, _, _, _]) (hC _) dX5_swap_12 (by decide) rfl rfl ?_
  first | refine Es_aload (hC _) dX5_swap_14 rfl ?_ | refine Es_aloadN (hC _) dX5_swap_14 rfl ?_
  refine Es_ifnull (hC _) dX5_swap_16 ?_
  first | refine Es_aload (hC _) dX5_swap_19 rfl ?_ | refine Es_aloadN (hC _) dX5_swap_19 rfl ?_
  refine Es_ifnull (hC _) dX5_swap_21 ?_
  first | refine Es_aload (hC _) dX5_swap_24 rfl ?_ | refine Es_aloadN (hC _) dX5_swap_24 rfl ?_
  refine Es_iload_n (hC _) dX5_swap_26 rfl ?_
  refine Es_fV (hC _) mv_X5_136 dX5_swap_27 (c_hasPlace_in hw hpw h7w hqw) (ok18 hw) rfl ⟨_, rfl, rfl⟩ rfl rfl (by decide) (Nat.le_of_ble_eq_true rfl) ?_
  refine Es_if_eq (hC _) 43 dX5_swap_30 (by decide) (fun hb30 => False.elim ((by first | exact absurd hb30 (by decide) | exact absurd hb30 (by assumption) | exact hb30 (by assumption) | exact hb30 rfl | (simp_all [bI]; done)))) (fun hb30 => ?_)
  first | refine Es_aload (hC _) dX5_swap_33 rfl ?_ | refine Es_aloadN (hC _) dX5_swap_33 rfl ?_
  refine Es_iload (hC _) dX5_swap_35 rfl ?_
  refine Es_fV (hC _) mv_X5_136 dX5_swap_37 (c_hasPlace_in hv hpv h7v hqv) (ok18 hv) rfl ⟨_, rfl, rfl⟩ rfl rfl (by decide) (Nat.le_of_ble_eq_true rfl) ?_
  refine Es_if_ne (hC _) 49 dX5_swap_40 (by decide) (fun hb40 => ?_) (fun hb40 => False.elim ((by first | exact absurd hb40 (by decide) | exact absurd hb40 (by assumption) | exact hb40 (by assumption) | exact hb40 rfl | (simp_all [bI]; done))))
  refine Es_iload_n (hC _) dX5_swap_49 rfl ?_
  refine Es_iload_n (hC _) dX5_swap_50 rfl ?_
  refine Es_icmp_ne (hC _) 66 dX5_swap_51 (by decide) (fun hb51 => ?_) (fun hb51 => False.elim (hne ((nI_eq (by omega) (by omega)).mp hb51)))
  first | refine Es_aload (hC _) dX5_swap_66 rfl ?_ | refine Es_aloadN (hC _) dX5_swap_66 rfl ?_
  refine Es_iload_n (hC _) dX5_swap_68 rfl ?_
  refine Es_fV (hC _) mv_X5_142 dX5_swap_69 (c_tyreOn_in hw hpw h7w hqw) (ok18 hw) rfl ⟨_, rfl, rfl⟩ rfl rfl (by decide) (Nat.le_of_ble_eq_true rfl) ?_
  rw [show rT ad (B 20 w qw) = some (ad 21 t) by rw [honw, rT, if_neg (nI_pos (by omega)), nI_clamp (by omega)]]
  first | refine Es_astore (lv' := [_, _, _, _, _, _, _, _, _]) (hC _) dX5_swap_72 (by decide) rfl rfl ?_ | refine Es_astoreN (lv' := [_, _, _, _, _, _, _, _, _]) (hC _) dX5_swap_72 (by decide) rfl rfl ?_
  first | refine Es_aload (hC _) dX5_swap_74 rfl ?_ | refine Es_aloadN (hC _) dX5_swap_74 rfl ?_
  refine Es_iload (hC _) dX5_swap_76 rfl ?_
  refine Es_fV (hC _) mv_X5_142 dX5_swap_78 (c_tyreOn_in hv hpv h7v hqv) (ok18 hv) rfl ⟨_, rfl, rfl⟩ rfl rfl (by decide) (Nat.le_of_ble_eq_true rfl) ?_
  rw [show rT ad (B 20 v qv) = none by rw [honv]; rfl]
  first | refine Es_astore (lv' := [_, _, _, _, _, _, _, _, _]) (hC _) dX5_swap_81 (by decide) rfl rfl ?_ | refine Es_astoreN (lv' := [_, _, _, _, _, _, _, _, _]) (hC _) dX5_swap_81 (by decide) rfl rfl ?_
  first | refine Es_aload (hC _) dX5_swap_83 rfl ?_ | refine Es_aloadN (hC _) dX5_swap_83 rfl ?_
  refine Es_ifnonnull (hC _) 100 dX5_swap_85 (by decide) ?_
  first | refine Es_aload_n (hC _) dX5_swap_100 rfl ?_ | refine Es_aload_nN (hC _) dX5_swap_100 rfl ?_
  refine Sg_X5_5 (hC _) fl_X5_45 dX5_swap_101 ?_
  first | refine Es_aload (hC _) dX5_swap_104 rfl ?_ | refine Es_aloadN (hC _) dX5_swap_104 rfl ?_
  refine Es_ifnull (hC _) dX5_swap_106 ?_
  first | refine Es_aload (hC _) dX5_swap_109 rfl ?_ | refine Es_aloadN (hC _) dX5_swap_109 rfl ?_
  refine Es_ifnonnullN (hC _) dX5_swap_111 ?_
  refine Es_iconst (v := 1) (hC _) dX5_swap_114 (by decide) ?_
  refine Es_goto (hC _) 119 dX5_swap_115 (by decide) ?_
  refine Es_fV (hC _) mv_X5_113 dX5_swap_119 (c_hasRoomFor (m := 1) hk (by omega) (by decide)) rfl rfl ⟨_, rfl, rfl⟩ rfl rfl (by decide) (Nat.le_of_ble_eq_true rfl) ?_
  refine Es_if_ne (hC _) 132 dX5_swap_122 (by decide) (fun hb122 => ?_) (fun hb122 => False.elim (absurd hb122 (by rw [bI, if_pos (by omega)]; decide)))
  first | refine Es_aload (hC _) dX5_swap_132 rfl ?_ | refine Es_aloadN (hC _) dX5_swap_132 rfl ?_
  refine Es_iload_n (hC _) dX5_swap_134 rfl ?_
  first | refine Es_aload (hC _) dX5_swap_135 rfl ?_ | refine Es_aloadN (hC _) dX5_swap_135 rfl ?_
  refine Es_fV (hC _) mv_X5_145 dX5_swap_137 (c_lay_null hw (by simp [uB, hpw]) h7w hqw) (ok18 hw) rfl ⟨_, rfl, rfl⟩ rfl rfl (by decide) (Nat.le_of_ble_eq_true rfl) ?_
  first | refine Es_aload (hC _) dX5_swap_140 rfl ?_ | refine Es_aloadN (hC _) dX5_swap_140 rfl ?_
  refine Es_iload (hC _) dX5_swap_142 rfl ?_
  first | refine Es_aload (hC _) dX5_swap_144 rfl ?_ | refine Es_aloadN (hC _) dX5_swap_144 rfl ?_
  refine Es_fV (hC _) mv_X5_145 dX5_swap_146 (c_lay hv (by simp [uB, hpv]) h7v hqv ht (by omega)) (ok18 hv) rfl ⟨_, rfl, rfl⟩ rfl rfl (by decide) (Nat.le_of_ble_eq_true rfl) ?_
  first | refine Es_aload_n (hC _) dX5_swap_149 rfl ?_ | refine Es_aload_nN (hC _) dX5_swap_149 rfl ?_
  first | refine Es_aload (hC _) dX5_swap_150 rfl ?_ | refine Es_aloadN (hC _) dX5_swap_150 rfl ?_
  first | refine Es_aload (hC _) dX5_swap_152 rfl ?_ | refine Es_aloadN (hC _) dX5_swap_152 rfl ?_
  refine Es_iload_n (hC _) dX5_swap_154 rfl ?_
  refine Es_fV (hC _) mv_X5_149 dX5_swap_155 (c_spot hw (by simp [uB, cLog, hnwn])) (ok18 hw) rfl ⟨_, rfl, rfl⟩ rfl rfl (by decide) (Nat.le_of_ble_eq_true rfl) ?_
  refine Es_fV (hC _) mv_X5_128 dX5_swap_158 c_move_null rfl rfl ⟨_, rfl, rfl⟩ rfl rfl (by decide) (Nat.le_of_ble_eq_true rfl) ?_
  first | refine Es_aload_n (hC _) dX5_swap_161 rfl ?_ | refine Es_aload_nN (hC _) dX5_swap_161 rfl ?_
  first | refine Es_aload (hC _) dX5_swap_162 rfl ?_ | refine Es_aloadN (hC _) dX5_swap_162 rfl ?_
  first | refine Es_aload (hC _) dX5_swap_164 rfl ?_ | refine Es_aloadN (hC _) dX5_swap_164 rfl ?_
  refine Es_iload (hC _) dX5_swap_166 rfl ?_
  refine Es_fV (hC _) mv_X5_149 dX5_swap_168 (c_spot hv (by simp [uB, cLog, hnvn])) (ok18 hv) rfl ⟨_, rfl, rfl⟩ rfl rfl (by decide) (Nat.le_of_ble_eq_true rfl) ?_
  refine Es_fV (hC _) mv_X5_128 dX5_swap_171 (c_move (k := k) ht (by simp [uB, cLog, hk]) h6) rfl rfl ⟨_, rfl, rfl⟩ rfl rfl (by decide) (Nat.le_of_ble_eq_true rfl) ?_
  refine Es_iconst (v := 1) (hC _) dX5_swap_174 (by decide) ?_
  exact Es_iret dX5_swap_175 rfl ⟨rfl, by simp [uB], rfl⟩

set_option maxRecDepth 100000 in
set_option maxHeartbeats 4000000 in
theorem c_swap_4ay {ad : sA} {nw nt : Nat} {B : sB} {L : sL} (hnw : B 0 0 8 = nI nw) (h5 : nw ≤ 5) (h40 : nt ≤ 40) {w : Nat} (hw : w < nw) {v : Nat} (hv : v < nw) {pw qw : Nat} (hpw : B 18 w 3 = nI pw) (h7w : pw ≤ 7) (hqw : qw < pw) {pv qv : Nat} (hpv : B 18 v 3 = nI pv) (h7v : pv ≤ 7) (hqv : qv < pv) (hne : w = v) (hne2 : ¬ qw = qv) {t : Nat} (ht : t < nt) {k : Nat} (hk : B 6 0 3 = nI k) (hnwn : B 18 w 0 = nI w) (hnvn : B 18 v 0 = nI v) (h6 : k < 600) (honw : B 20 w qw = nI t) (honv : B 20 v qv = -1)  : Cf yX5_swap cX5_swap 9 (some FieldType.int) 5 [.ref (ad 0 0), .int (nI w), .int (nI qw), .int (nI v), .int (nI qv)] ad nw nt B L (some (.int 1)) (cLog (uB (uB (uB B 20 w qw (-1)) 20 v qv (nI t)) 21 t 10 (nI (10 * v + qv))) k (B 0 0 11) (B 21 t 0) (nI (10 * v + qv))) (L) := by
  have hC : ∀ Q, je_Ok (sCm yX5_swap cX5_swap 9 (some FieldType.int) 5 ad nw nt Q) RX5 cX5_swap 9 5 := fun _ => je_Cm_ok
  refine Cs_of [some (.ref (ad 0 0)), some (.int (nI w)), some (.int (nI qw)), some (.int (nI v)), some (.int (nI qv)), none, none, none, none] (by decide) rfl (Nat.le_of_ble_eq_true rfl) ?_
  first | refine Es_aload_n (hC _) dX5_swap_0 rfl ?_ | refine Es_aload_nN (hC _) dX5_swap_0 rfl ?_
  refine Es_iload_n (hC _) dX5_swap_1 rfl ?_
  refine Es_fV (hC _) mv_X5_77 dX5_swap_2 (c_wagonAt_in hnw h5 hw) rfl rfl ⟨_, rfl, rfl⟩ rfl rfl (by decide) (Nat.le_of_ble_eq_true rfl) ?_
  first | refine Es_astore (lv' := [_, _, _, _, _, _, _, _, _]) (hC _) dX5_swap_5 (by decide) rfl rfl ?_ | refine Es_astoreN (lv' := [_, _, _, _, _, _, _, _, _]) (hC _) dX5_swap_5 (by decide) rfl rfl ?_
  first | refine Es_aload_n (hC _) dX5_swap_7 rfl ?_ | refine Es_aload_nN (hC _) dX5_swap_7 rfl ?_
  refine Es_iload_n (hC _) dX5_swap_8 rfl ?_
  refine Es_fV (hC _) mv_X5_77 dX5_swap_9 (c_wagonAt_in hnw h5 hv) rfl rfl ⟨_, rfl, rfl⟩ rfl rfl (by decide) (Nat.le_of_ble_eq_true rfl) ?_
  first | refine Es_astore (lv' := [_, _, _, _, _, _, _, _, _]) (hC _) dX5_swap_12 (by decide) rfl rfl ?_ | refine Es_astoreN (lv' := [_, _, _, _, _, _, _, _, _]) (hC _) dX5_swap_12 (by decide) rfl rfl ?_
  first | refine Es_aload (hC _) dX5_swap_14 rfl ?_ | refine Es_aloadN (hC _) dX5_swap_14 rfl ?_
  refine Es_ifnull (hC _) dX5_swap_16 ?_
  first | refine Es_aload (hC _) dX5_swap_19 rfl ?_ | refine Es_aloadN (hC _) dX5_swap_19 rfl ?_
  refine Es_ifnull (hC _) dX5_swap_21 ?_
  first | refine Es_aload (hC _) dX5_swap_24 rfl ?_ | refine Es_aloadN (hC _) dX5_swap_24 rfl ?_
  refine Es_iload_n (hC _) dX5_swap_26 rfl ?_
  refine Es_fV (hC _) mv_X5_136 dX5_swap_27 (c_hasPlace_in hw hpw h7w hqw) (ok18 hw) rfl ⟨_, rfl, rfl⟩ rfl rfl (by decide) (Nat.le_of_ble_eq_true rfl) ?_
  refine Es_if_eq (hC _) 43 dX5_swap_30 (by decide) (fun hb30 => False.elim ((by first | exact absurd hb30 (by decide) | exact absurd hb30 (by assumption) | exact hb30 (by assumption) | exact hb30 rfl | (simp_all [bI]; done)))) (fun hb30 => ?_)
  first | refine Es_aload (hC _) dX5_swap_33 rfl ?_ | refine Es_aloadN (hC _) dX5_swap_33 rfl ?_
  refine Es_iload (hC _) dX5_swap_35 rfl ?_
  refine Es_fV (hC _) mv_X5_136 dX5_swap_37 (c_hasPlace_in hv hpv h7v hqv) (ok18 hv) rfl ⟨_, rfl, rfl⟩ rfl rfl (by decide) (Nat.le_of_ble_eq_true rfl) ?_
  refine Es_if_ne (hC _) 49 dX5_swap_40 (by decide) (fun hb40 => ?_) (fun hb40 => False.elim ((by first | exact absurd hb40 (by decide) | exact absurd hb40 (by assumption) | exact hb40 (by assumption) | exact hb40 rfl | (simp_all [bI]; done))))
  refine Es_iload_n (hC _) dX5_swap_49 rfl ?_
  refine Es_iload_n (hC _) dX5_swap_50 rfl ?_
  refine Es_icmp_ne (hC _) 66 dX5_swap_51 (by decide) (fun hb51 => False.elim (hb51 (by rw [hne]))) (fun hb51 => ?_)
  refine Es_iload_n (hC _) dX5_swap_54 rfl ?_
  refine Es_iload (hC _) dX5_swap_55 rfl ?_
  refine Es_icmp_ne (hC _) 66 dX5_swap_57 (by decide) (fun hb57 => ?_) (fun hb57 => False.elim (hne2 ((nI_eq (by omega) (by omega)).mp hb57)))
  first | refine Es_aload (hC _) dX5_swap_66 rfl ?_ | refine Es_aloadN (hC _) dX5_swap_66 rfl ?_
  refine Es_iload_n (hC _) dX5_swap_68 rfl ?_
  refine Es_fV (hC _) mv_X5_142 dX5_swap_69 (c_tyreOn_in hw hpw h7w hqw) (ok18 hw) rfl ⟨_, rfl, rfl⟩ rfl rfl (by decide) (Nat.le_of_ble_eq_true rfl) ?_
  rw [show rT ad (B 20 w qw) = some (ad 21 t) by rw [honw, rT, if_neg (nI_pos (by omega)), nI_clamp (by omega)]]
  first | refine Es_astore (lv' := [_, _, _, _, _, _, _, _, _]) (hC _) dX5_swap_72 (by decide) rfl rfl ?_ | refine Es_astoreN (lv' := [_, _, _, _, _, _, _, _, _]) (hC _) dX5_swap_72 (by decide) rfl rfl ?_
  first | refine Es_aload (hC _) dX5_swap_74 rfl ?_ | refine Es_aloadN (hC _) dX5_swap_74 rfl ?_
  refine Es_iload (hC _) dX5_swap_76 rfl ?_
  refine Es_fV (hC _) mv_X5_142 dX5_swap_78 (c_tyreOn_in hv hpv h7v hqv) (ok18 hv) rfl ⟨_, rfl, rfl⟩ rfl rfl (by decide) (Nat.le_of_ble_eq_true rfl) ?_
  rw [show rT ad (B 20 v qv) = none by rw [honv]; rfl]
  first | refine Es_astore (lv' := [_, _, _, _, _, _, _, _, _]) (hC _) dX5_swap_81 (by decide) rfl rfl ?_ | refine Es_astoreN (lv' := [_, _, _, _, _, _, _, _, _]) (hC _) dX5_swap_81 (by decide) rfl rfl ?_
  first | refine Es_aload (hC _) dX5_swap_83 rfl ?_ | refine Es_aloadN (hC _) dX5_swap_83 rfl ?_
  refine Es_ifnonnull (hC _) 100 dX5_swap_85 (by decide) ?_
  first | refine Es_aload_n (hC _) dX5_swap_100 rfl ?_ | refine Es_aload_nN (hC _) dX5_swap_100 rfl ?_
  refine Sg_X5_5 (hC _) fl_X5_45 dX5_swap_101 ?_
  first | refine Es_aload (hC _) dX5_swap_104 rfl ?_ | refine Es_aloadN (hC _) dX5_swap_104 rfl ?_
  refine Es_ifnull (hC _) dX5_swap_106 ?_
  first | refine Es_aload (hC _) dX5_swap_109 rfl ?_ | refine Es_aloadN (hC _) dX5_swap_109 rfl ?_
  refine Es_ifnonnullN (hC _) dX5_swap_111 ?_
  refine Es_iconst (v := 1) (hC _) dX5_swap_114 (by decide) ?_
  refine Es_goto (hC _) 119 dX5_swap_115 (by decide) ?_
  refine Es_fV (hC _) mv_X5_113 dX5_swap_119 (c_hasRoomFor (m := 1) hk (by omega) (by decide)) rfl rfl ⟨_, rfl, rfl⟩ rfl rfl (by decide) (Nat.le_of_ble_eq_true rfl) ?_
  refine Es_if_ne (hC _) 132 dX5_swap_122 (by decide) (fun hb122 => ?_) (fun hb122 => False.elim (absurd hb122 (by rw [bI, if_pos (by omega)]; decide)))
  first | refine Es_aload (hC _) dX5_swap_132 rfl ?_ | refine Es_aloadN (hC _) dX5_swap_132 rfl ?_
  refine Es_iload_n (hC _) dX5_swap_134 rfl ?_
  first | refine Es_aload (hC _) dX5_swap_135 rfl ?_ | refine Es_aloadN (hC _) dX5_swap_135 rfl ?_
  refine Es_fV (hC _) mv_X5_145 dX5_swap_137 (c_lay_null hw (by simp [uB, hpw]) h7w hqw) (ok18 hw) rfl ⟨_, rfl, rfl⟩ rfl rfl (by decide) (Nat.le_of_ble_eq_true rfl) ?_
  first | refine Es_aload (hC _) dX5_swap_140 rfl ?_ | refine Es_aloadN (hC _) dX5_swap_140 rfl ?_
  refine Es_iload (hC _) dX5_swap_142 rfl ?_
  first | refine Es_aload (hC _) dX5_swap_144 rfl ?_ | refine Es_aloadN (hC _) dX5_swap_144 rfl ?_
  refine Es_fV (hC _) mv_X5_145 dX5_swap_146 (c_lay hv (by simp [uB, hpv]) h7v hqv ht (by omega)) (ok18 hv) rfl ⟨_, rfl, rfl⟩ rfl rfl (by decide) (Nat.le_of_ble_eq_true rfl) ?_
  first | refine Es_aload_n (hC _) dX5_swap_149 rfl ?_ | refine Es_aload_nN (hC _) dX5_swap_149 rfl ?_
  first | refine Es_aload (hC _) dX5_swap_150 rfl ?_ | refine Es_aloadN (hC _) dX5_swap_150 rfl ?_
  first | refine Es_aload (hC _) dX5_swap_152 rfl ?_ | refine Es_aloadN (hC _) dX5_swap_152 rfl ?_
  refine Es_iload_n (hC _) dX5_swap_154 rfl ?_
  refine Es_fV (hC _) mv_X5_149 dX5_swap_155 (c_spot hw (by simp [uB, cLog, hnwn])) (ok18 hw) rfl ⟨_, rfl, rfl⟩ rfl rfl (by decide) (Nat.le_of_ble_eq_true rfl) ?_
  refine Es_fV (hC _) mv_X5_128 dX5_swap_158 c_move_null rfl rfl ⟨_, rfl, rfl⟩ rfl rfl (by decide) (Nat.le_of_ble_eq_true rfl) ?_
  first | refine Es_aload_n (hC _) dX5_swap_161 rfl ?_ | refine Es_aload_nN (hC _) dX5_swap_161 rfl ?_
  first | refine Es_aload (hC _) dX5_swap_162 rfl ?_ | refine Es_aloadN (hC _) dX5_swap_162 rfl ?_
  first | refine Es_aload (hC _) dX5_swap_164 rfl ?_ | refine Es_aloadN (hC _) dX5_swap_164 rfl ?_
  refine Es_iload (hC _) dX5_swap_166 rfl ?_
  refine Es_fV (hC _) mv_X5_149 dX5_swap_168 (c_spot hv (by simp [uB, cLog, hnvn])) (ok18 hv) rfl ⟨_, rfl, rfl⟩ rfl rfl (by decide) (Nat.le_of_ble_eq_true rfl) ?_
  refine Es_fV (hC _) mv_X5_128 dX5_swap_171 (c_move (k := k) ht (by simp [uB, cLog, hk]) h6) rfl rfl ⟨_, rfl, rfl⟩ rfl rfl (by decide) (Nat.le_of_ble_eq_true rfl) ?_
  refine Es_iconst (v := 1) (hC _) dX5_swap_174 (by decide) ?_
  exact Es_iret dX5_swap_175 rfl ⟨rfl, by simp [uB], rfl⟩

set_option maxRecDepth 100000 in
set_option maxHeartbeats 4000000 in
theorem c_swap_4bx {ad : sA} {nw nt : Nat} {B : sB} {L : sL} (hnw : B 0 0 8 = nI nw) (h5 : nw ≤ 5) (h40 : nt ≤ 40) {w : Nat} (hw : w < nw) {v : Nat} (hv : v < nw) {pw qw : Nat} (hpw : B 18 w 3 = nI pw) (h7w : pw ≤ 7) (hqw : qw < pw) {pv qv : Nat} (hpv : B 18 v 3 = nI pv) (h7v : pv ≤ 7) (hqv : qv < pv) (hne : ¬ w = v) {t : Nat} (ht : t < nt) {k : Nat} (hk : B 6 0 3 = nI k) (hnwn : B 18 w 0 = nI w) (hnvn : B 18 v 0 = nI v) (h6 : k < 600) (honw : B 20 w qw = -1) (honv : B 20 v qv = nI t)  : Cf yX5_swap cX5_swap 9 (some FieldType.int) 5 [.ref (ad 0 0), .int (nI w), .int (nI qw), .int (nI v), .int (nI qv)] ad nw nt B L (some (.int 1)) (cLog (uB (uB (uB B 20 w qw (nI t)) 20 v qv (-1)) 21 t 10 (nI (10 * w + qw))) k (B 0 0 11) (B 21 t 0) (nI (10 * w + qw))) (L) := by
  have hC : ∀ Q, je_Ok (sCm yX5_swap cX5_swap 9 (some FieldType.int) 5 ad nw nt Q) RX5 cX5_swap 9 5 := fun _ => je_Cm_ok
  refine Cs_of [some (.ref (ad 0 0)), some (.int (nI w)), some (.int (nI qw)), some (.int (nI v)), some (.int (nI qv)), none, none, none, none] (by decide) rfl (Nat.le_of_ble_eq_true rfl) ?_
  first | refine Es_aload_n (hC _) dX5_swap_0 rfl ?_ | refine Es_aload_nN (hC _) dX5_swap_0 rfl ?_
  refine Es_iload_n (hC _) dX5_swap_1 rfl ?_
  refine Es_fV (hC _) mv_X5_77 dX5_swap_2 (c_wagonAt_in hnw h5 hw) rfl rfl ⟨_, rfl, rfl⟩ rfl rfl (by decide) (Nat.le_of_ble_eq_true rfl) ?_
  first | refine Es_astore (lv' := [_, _, _, _, _, _, _, _, _]) (hC _) dX5_swap_5 (by decide) rfl rfl ?_ | refine Es_astoreN (lv' := [_, _, _, _, _, _, _, _, _]) (hC _) dX5_swap_5 (by decide) rfl rfl ?_
  first | refine Es_aload_n (hC _) dX5_swap_7 rfl ?_ | refine Es_aload_nN (hC _) dX5_swap_7 rfl ?_
  refine Es_iload_n (hC _) dX5_swap_8 rfl ?_
  refine Es_fV (hC _) mv_X5_77 dX5_swap_9 (c_wagonAt_in hnw h5 hv) rfl rfl ⟨_, rfl, rfl⟩ rfl rfl (by decide) (Nat.le_of_ble_eq_true rfl) ?_
  first | refine Es_astore (lv' := [_, _, _, _, _, _, _, _, _]) (hC _) dX5_swap_12 (by decide) rfl rfl ?_ | refine Es_astoreN (lv' := [_, _, _, _, _, _, _, _, _]) (hC _) dX5_swap_12 (by decide) rfl rfl ?_
  first | refine Es_aload (hC _) dX5_swap_14 rfl ?_ | refine Es_aloadN (hC _) dX5_swap_14 rfl ?_
  refine Es_ifnull (hC _) dX5_swap_16 ?_
  first | refine Es_aload (hC _) dX5_swap_19 rfl ?_ | refine Es_aloadN (hC _) dX5_swap_19 rfl ?_
  refine Es_ifnull (hC _) dX5_swap_21 ?_
  first | refine Es_aload (hC _) dX5_swap_24 rfl ?_ | refine Es_aloadN (hC _) dX5_swap_24 rfl ?_
  refine Es_iload_n (hC _) dX5_swap_26 rfl ?_
  refine Es_fV (hC _) mv_X5_136 dX5_swap_27 (c_hasPlace_in hw hpw h7w hqw) (ok18 hw) rfl ⟨_, rfl, rfl⟩ rfl rfl (by decide) (Nat.le_of_ble_eq_true rfl) ?_
  refine Es_if_eq (hC _) 43 dX5_swap_30 (by decide) (fun hb30 => False.elim ((by first | exact absurd hb30 (by decide) | exact absurd hb30 (by assumption) | exact hb30 (by assumption) | exact hb30 rfl | (simp_all [bI]; done)))) (fun hb30 => ?_)
  first | refine Es_aload (hC _) dX5_swap_33 rfl ?_ | refine Es_aloadN (hC _) dX5_swap_33 rfl ?_
  refine Es_iload (hC _) dX5_swap_35 rfl ?_
  refine Es_fV (hC _) mv_X5_136 dX5_swap_37 (c_hasPlace_in hv hpv h7v hqv) (ok18 hv) rfl ⟨_, rfl, rfl⟩ rfl rfl (by decide) (Nat.le_of_ble_eq_true rfl) ?_
  refine Es_if_ne (hC _) 49 dX5_swap_40 (by decide) (fun hb40 => ?_) (fun hb40 => False.elim ((by first | exact absurd hb40 (by decide) | exact absurd hb40 (by assumption) | exact hb40 (by assumption) | exact hb40 rfl | (simp_all [bI]; done))))
  refine Es_iload_n (hC _) dX5_swap_49 rfl ?_
  refine Es_iload_n (hC _) dX5_swap_50 rfl ?_
  refine Es_icmp_ne (hC _) 66 dX5_swap_51 (by decide) (fun hb51 => ?_) (fun hb51 => False.elim (hne ((nI_eq (by omega) (by omega)).mp hb51)))
  first | refine Es_aload (hC _) dX5_swap_66 rfl ?_ | refine Es_aloadN (hC _) dX5_swap_66 rfl ?_
  refine Es_iload_n (hC _) dX5_swap_68 rfl ?_
  refine Es_fV (hC _) mv_X5_142 dX5_swap_69 (c_tyreOn_in hw hpw h7w hqw) (ok18 hw) rfl ⟨_, rfl, rfl⟩ rfl rfl (by decide) (Nat.le_of_ble_eq_true rfl) ?_
  rw [show rT ad (B 20 w qw) = none by rw [honw]; rfl]
  first | refine Es_astore (lv' := [_, _, _, _, _, _, _, _, _]) (hC _) dX5_swap_72 (by decide) rfl rfl ?_ | refine Es_astoreN (lv' := [_, _, _, _, _, _, _, _, _]) (hC _) dX5_swap_72 (by decide) rfl rfl ?_
  first | refine Es_aload (hC _) dX5_swap_74 rfl ?_ | refine Es_aloadN (hC _) dX5_swap_74 rfl ?_
  refine Es_iload (hC _) dX5_swap_76 rfl ?_
  refine Es_fV (hC _) mv_X5_142 dX5_swap_78 (c_tyreOn_in hv hpv h7v hqv) (ok18 hv) rfl ⟨_, rfl, rfl⟩ rfl rfl (by decide) (Nat.le_of_ble_eq_true rfl) ?_
  rw [show rT ad (B 20 v qv) = some (ad 21 t) by rw [honv, rT, if_neg (nI_pos (by omega)), nI_clamp (by omega)]]
  first | refine Es_astore (lv' := [_, _, _, _, _, _, _, _, _]) (hC _) dX5_swap_81 (by decide) rfl rfl ?_ | refine Es_astoreN (lv' := [_, _, _, _, _, _, _, _, _]) (hC _) dX5_swap_81 (by decide) rfl rfl ?_
  first | refine Es_aload (hC _) dX5_swap_83 rfl ?_ | refine Es_aloadN (hC _) dX5_swap_83 rfl ?_
  refine Es_ifnonnullN (hC _) dX5_swap_85 ?_
  first | refine Es_aload (hC _) dX5_swap_88 rfl ?_ | refine Es_aloadN (hC _) dX5_swap_88 rfl ?_
  refine Es_ifnonnull (hC _) 100 dX5_swap_90 (by decide) ?_
  first | refine Es_aload_n (hC _) dX5_swap_100 rfl ?_ | refine Es_aload_nN (hC _) dX5_swap_100 rfl ?_
  refine Sg_X5_5 (hC _) fl_X5_45 dX5_swap_101 ?_
  first | refine Es_aload (hC _) dX5_swap_104 rfl ?_ | refine Es_aloadN (hC _) dX5_swap_104 rfl ?_
  refine Es_ifnullN (hC _) 114 dX5_swap_106 (by decide) ?_
  refine Es_iconst (v := 1) (hC _) dX5_swap_114 (by decide) ?_
  refine Es_goto (hC _) 119 dX5_swap_115 (by decide) ?_
  refine Es_fV (hC _) mv_X5_113 dX5_swap_119 (c_hasRoomFor (m := 1) hk (by omega) (by decide)) rfl rfl ⟨_, rfl, rfl⟩ rfl rfl (by decide) (Nat.le_of_ble_eq_true rfl) ?_
  refine Es_if_ne (hC _) 132 dX5_swap_122 (by decide) (fun hb122 => ?_) (fun hb122 => False.elim (absurd hb122 (by rw [bI, if_pos (by omega)]; decide)))
  first | refine Es_aload (hC _) dX5_swap_132 rfl ?_ | refine Es_aloadN (hC _) dX5_swap_132 rfl ?_
  refine Es_iload_n (hC _) dX5_swap_134 rfl ?_
  first | refine Es_aload (hC _) dX5_swap_135 rfl ?_ | refine Es_aloadN (hC _) dX5_swap_135 rfl ?_
  refine Es_fV (hC _) mv_X5_145 dX5_swap_137 (c_lay hw (by simp [uB, hpw]) h7w hqw ht (by omega)) (ok18 hw) rfl ⟨_, rfl, rfl⟩ rfl rfl (by decide) (Nat.le_of_ble_eq_true rfl) ?_
  first | refine Es_aload (hC _) dX5_swap_140 rfl ?_ | refine Es_aloadN (hC _) dX5_swap_140 rfl ?_
  refine Es_iload (hC _) dX5_swap_142 rfl ?_
  first | refine Es_aload (hC _) dX5_swap_144 rfl ?_ | refine Es_aloadN (hC _) dX5_swap_144 rfl ?_
  refine Es_fV (hC _) mv_X5_145 dX5_swap_146 (c_lay_null hv (by simp [uB, hpv]) h7v hqv) (ok18 hv) rfl ⟨_, rfl, rfl⟩ rfl rfl (by decide) (Nat.le_of_ble_eq_true rfl) ?_
  first | refine Es_aload_n (hC _) dX5_swap_149 rfl ?_ | refine Es_aload_nN (hC _) dX5_swap_149 rfl ?_
  first | refine Es_aload (hC _) dX5_swap_150 rfl ?_ | refine Es_aloadN (hC _) dX5_swap_150 rfl ?_
  first | refine Es_aload (hC _) dX5_swap_152 rfl ?_ | refine Es_aloadN (hC _) dX5_swap_152 rfl ?_
  refine Es_iload_n (hC _) dX5_swap_154 rfl ?_
  refine Es_fV (hC _) mv_X5_149 dX5_swap_155 (c_spot hw (by simp [uB, cLog, hnwn])) (ok18 hw) rfl ⟨_, rfl, rfl⟩ rfl rfl (by decide) (Nat.le_of_ble_eq_true rfl) ?_
  refine Es_fV (hC _) mv_X5_128 dX5_swap_158 (c_move (k := k) ht (by simp [uB, cLog, hk]) h6) rfl rfl ⟨_, rfl, rfl⟩ rfl rfl (by decide) (Nat.le_of_ble_eq_true rfl) ?_
  first | refine Es_aload_n (hC _) dX5_swap_161 rfl ?_ | refine Es_aload_nN (hC _) dX5_swap_161 rfl ?_
  first | refine Es_aload (hC _) dX5_swap_162 rfl ?_ | refine Es_aloadN (hC _) dX5_swap_162 rfl ?_
  first | refine Es_aload (hC _) dX5_swap_164 rfl ?_ | refine Es_aloadN (hC _) dX5_swap_164 rfl ?_
  refine Es_iload (hC _) dX5_swap_166 rfl ?_
  refine Es_fV (hC _) mv_X5_149 dX5_swap_168 (c_spot hv (by simp [uB, cLog, hnvn])) (ok18 hv) rfl ⟨_, rfl, rfl⟩ rfl rfl (by decide) (Nat.le_of_ble_eq_true rfl) ?_
  refine Es_fV (hC _) mv_X5_128 dX5_swap_171 c_move_null rfl rfl ⟨_, rfl, rfl⟩ rfl rfl (by decide) (Nat.le_of_ble_eq_true rfl) ?_
  refine Es_iconst (v := 1) (hC _) dX5_swap_174 (by decide) ?_
  exact Es_iret dX5_swap_175 rfl ⟨rfl, by simp [uB], rfl⟩

set_option maxRecDepth 100000 in
set_option maxHeartbeats 4000000 in
theorem c_swap_4by {ad : sA} {nw nt : Nat} {B : sB} {L : sL} (hnw : B 0 0 8 = nI nw) (h5 : nw ≤ 5) (h40 : nt ≤ 40) {w : Nat} (hw : w < nw) {v : Nat} (hv : v < nw) {pw qw : Nat} (hpw : B 18 w 3 = nI pw) (h7w : pw ≤ 7) (hqw : qw < pw) {pv qv : Nat} (hpv : B 18 v 3 = nI pv) (h7v : pv ≤ 7) (hqv : qv < pv) (hne : w = v) (hne2 : ¬ qw = qv) {t : Nat} (ht : t < nt) {k : Nat} (hk : B 6 0 3 = nI k) (hnwn : B 18 w 0 = nI w) (hnvn : B 18 v 0 = nI v) (h6 : k < 600) (honw : B 20 w qw = -1) (honv : B 20 v qv = nI t)  : Cf yX5_swap cX5_swap 9 (some FieldType.int) 5 [.ref (ad 0 0), .int (nI w), .int (nI qw), .int (nI v), .int (nI qv)] ad nw nt B L (some (.int 1)) (cLog (uB (uB (uB B 20 w qw (nI t)) 20 v qv (-1)) 21 t 10 (nI (10 * w + qw))) k (B 0 0 11) (B 21 t 0) (nI (10 * w + qw))) (L) := by
  have hC : ∀ Q, je_Ok (sCm yX5_swap cX5_swap 9 (some FieldType.int) 5 ad nw nt Q) RX5 cX5_swap 9 5 := fun _ => je_Cm_ok
  refine Cs_of [some (.ref (ad 0 0)), some (.int (nI w)), some (.int (nI qw)), some (.int (nI v)), some (.int (nI qv)), none, none, none, none] (by decide) rfl (Nat.le_of_ble_eq_true rfl) ?_
  first | refine Es_aload_n (hC _) dX5_swap_0 rfl ?_ | refine Es_aload_nN (hC _) dX5_swap_0 rfl ?_
  refine Es_iload_n (hC _) dX5_swap_1 rfl ?_
  refine Es_fV (hC _) mv_X5_77 dX5_swap_2 (c_wagonAt_in hnw h5 hw) rfl rfl ⟨_, rfl, rfl⟩ rfl rfl (by decide) (Nat.le_of_ble_eq_true rfl) ?_
  first | refine Es_astore (lv' := [_, _, _, _, _, _, _, _, _]) (hC _) dX5_swap_5 (by decide) rfl rfl ?_ | refine Es_astoreN (lv' := [_, _, _, _, _, _, _, _, _]) (hC _) dX5_swap_5 (by decide) rfl rfl ?_
  first | refine Es_aload_n (hC _) dX5_swap_7 rfl ?_ | refine Es_aload_nN (hC _) dX5_swap_7 rfl ?_
  refine Es_iload_n (hC _) dX5_swap_8 rfl ?_
  refine Es_fV (hC _) mv_X5_77 dX5_swap_9 (c_wagonAt_in hnw h5 hv) rfl rfl ⟨_, rfl, rfl⟩ rfl rfl (by decide) (Nat.le_of_ble_eq_true rfl) ?_
  first | refine Es_astore (lv' := [_, _, _, _, _, _, _, _, _]) (hC _) dX5_swap_12 (by decide) rfl rfl ?_ | refine Es_astoreN (lv' := [_, _, _, _, _, _, _, _, _]) (hC _) dX5_swap_12 (by decide) rfl rfl ?_
  first | refine Es_aload (hC _) dX5_swap_14 rfl ?_ | refine Es_aloadN (hC _) dX5_swap_14 rfl ?_
  refine Es_ifnull (hC _) dX5_swap_16 ?_
  first | refine Es_aload (hC _) dX5_swap_19 rfl ?_ | refine Es_aloadN (hC _) dX5_swap_19 rfl ?_
  refine Es_ifnull (hC _) dX5_swap_21 ?_
  first | refine Es_aload (hC _) dX5_swap_24 rfl ?_ | refine Es_aloadN (hC _) dX5_swap_24 rfl ?_
  refine Es_iload_n (hC _) dX5_swap_26 rfl ?_
  refine Es_fV (hC _) mv_X5_136 dX5_swap_27 (c_hasPlace_in hw hpw h7w hqw) (ok18 hw) rfl ⟨_, rfl, rfl⟩ rfl rfl (by decide) (Nat.le_of_ble_eq_true rfl) ?_
  refine Es_if_eq (hC _) 43 dX5_swap_30 (by decide) (fun hb30 => False.elim ((by first | exact absurd hb30 (by decide) | exact absurd hb30 (by assumption) | exact hb30 (by assumption) | exact hb30 rfl | (simp_all [bI]; done)))) (fun hb30 => ?_)
  first | refine Es_aload (hC _) dX5_swap_33 rfl ?_ | refine Es_aloadN (hC _) dX5_swap_33 rfl ?_
  refine Es_iload (hC _) dX5_swap_35 rfl ?_
  refine Es_fV (hC _) mv_X5_136 dX5_swap_37 (c_hasPlace_in hv hpv h7v hqv) (ok18 hv) rfl ⟨_, rfl, rfl⟩ rfl rfl (by decide) (Nat.le_of_ble_eq_true rfl) ?_
  refine Es_if_ne (hC _) 49 dX5_swap_40 (by decide) (fun hb40 => ?_) (fun hb40 => False.elim ((by first | exact absurd hb40 (by decide) | exact absurd hb40 (by assumption) | exact hb40 (by assumption) | exact hb40 rfl | (simp_all [bI]; done))))
  refine Es_iload_n (hC _) dX5_swap_49 rfl ?_
  refine Es_iload_n (hC _) dX5_swap_50 rfl ?_
  refine Es_icmp_ne (hC _) 66 dX5_swap_51 (by decide) (fun hb51 => False.elim (hb51 (by rw [hne]))) (fun hb51 => ?_)
  refine Es_iload_n (hC _) dX5_swap_54 rfl ?_
  refine Es_iload (hC _) dX5_swap_55 rfl ?_
  refine Es_icmp_ne (hC _) 66 dX5_swap_57 (by decide) (fun hb57 => ?_) (fun hb57 => False.elim (hne2 ((nI_eq (by omega) (by omega)).mp hb57)))
  first | refine Es_aload (hC _) dX5_swap_66 rfl ?_ | refine Es_aloadN (hC _) dX5_swap_66 rfl ?_
  refine Es_iload_n (hC _) dX5_swap_68 rfl ?_
  refine Es_fV (hC _) mv_X5_142 dX5_swap_69 (c_tyreOn_in hw hpw h7w hqw) (ok18 hw) rfl ⟨_, rfl, rfl⟩ rfl rfl (by decide) (Nat.le_of_ble_eq_true rfl) ?_
  rw [show rT ad (B 20 w qw) = none by rw [honw]; rfl]
  first | refine Es_astore (lv' := [_, _, _, _, _, _, _, _, _]) (hC _) dX5_swap_72 (by decide) rfl rfl ?_ | refine Es_astoreN (lv' := [_, _, _, _, _, _, _, _, _]) (hC _) dX5_swap_72 (by decide) rfl rfl ?_
  first | refine Es_aload (hC _) dX5_swap_74 rfl ?_ | refine Es_aloadN (hC _) dX5_swap_74 rfl ?_
  refine Es_iload (hC _) dX5_swap_76 rfl ?_
  refine Es_fV (hC _) mv_X5_142 dX5_swap_78 (c_tyreOn_in hv hpv h7v hqv) (ok18 hv) rfl ⟨_, rfl, rfl⟩ rfl rfl (by decide) (Nat.le_of_ble_eq_true rfl) ?_
  rw [show rT ad (B 20 v qv) = some (ad 21 t) by rw [honv, rT, if_neg (nI_pos (by omega)), nI_clamp (by omega)]]
  first | refine Es_astore (lv' := [_, _, _, _, _, _, _, _, _]) (hC _) dX5_swap_81 (by decide) rfl rfl ?_ | refine Es_astoreN (lv' := [_, _, _, _, _, _, _, _, _]) (hC _) dX5_swap_81 (by decide) rfl rfl ?_
  first | refine Es_aload (hC _) dX5_swap_83 rfl ?_ | refine Es_aloadN (hC _) dX5_swap_83 rfl ?_
  refine Es_ifnonnullN (hC _) dX5_swap_85 ?_
  first | refine Es_aload (hC _) dX5_swap_88 rfl ?_ | refine Es_aloadN (hC _) dX5_swap_88 rfl ?_
  refine Es_ifnonnull (hC _) 100 dX5_swap_90 (by decide) ?_
  first | refine Es_aload_n (hC _) dX5_swap_100 rfl ?_ | refine Es_aload_nN (hC _) dX5_swap_100 rfl ?_
  refine Sg_X5_5 (hC _) fl_X5_45 dX5_swap_101 ?_
  first | refine Es_aload (hC _) dX5_swap_104 rfl ?_ | refine Es_aloadN (hC _) dX5_swap_104 rfl ?_
  refine Es_ifnullN (hC _) 114 dX5_swap_106 (by decide) ?_
  refine Es_iconst (v := 1) (hC _) dX5_swap_114 (by decide) ?_
  refine Es_goto (hC _) 119 dX5_swap_115 (by decide) ?_
  refine Es_fV (hC _) mv_X5_113 dX5_swap_119 (c_hasRoomFor (m := 1) hk (by omega) (by decide)) rfl rfl ⟨_, rfl, rfl⟩ rfl rfl (by decide) (Nat.le_of_ble_eq_true rfl) ?_
  refine Es_if_ne (hC _) 132 dX5_swap_122 (by decide) (fun hb122 => ?_) (fun hb122 => False.elim (absurd hb122 (by rw [bI, if_pos (by omega)]; decide)))
  first | refine Es_aload (hC _) dX5_swap_132 rfl ?_ | refine Es_aloadN (hC _) dX5_swap_132 rfl ?_
  refine Es_iload_n (hC _) dX5_swap_134 rfl ?_
  first | refine Es_aload (hC _) dX5_swap_135 rfl ?_ | refine Es_aloadN (hC _) dX5_swap_135 rfl ?_
  refine Es_fV (hC _) mv_X5_145 dX5_swap_137 (c_lay hw (by simp [uB, hpw]) h7w hqw ht (by omega)) (ok18 hw) rfl ⟨_, rfl, rfl⟩ rfl rfl (by decide) (Nat.le_of_ble_eq_true rfl) ?_
  first | refine Es_aload (hC _) dX5_swap_140 rfl ?_ | refine Es_aloadN (hC _) dX5_swap_140 rfl ?_
  refine Es_iload (hC _) dX5_swap_142 rfl ?_
  first | refine Es_aload (hC _) dX5_swap_144 rfl ?_ | refine Es_aloadN (hC _) dX5_swap_144 rfl ?_
  refine Es_fV (hC _) mv_X5_145 dX5_swap_146 (c_lay_null hv (by simp [uB, hpv]) h7v hqv) (ok18 hv) rfl ⟨_, rfl, rfl⟩ rfl rfl (by decide) (Nat.le_of_ble_eq_true rfl) ?_
  first | refine Es_aload_n (hC _) dX5_swap_149 rfl ?_ | refine Es_aload_nN (hC _) dX5_swap_149 rfl ?_
  first | refine Es_aload (hC _) dX5_swap_150 rfl ?_ | refine Es_aloadN (hC _) dX5_swap_150 rfl ?_
  first | refine Es_aload (hC _) dX5_swap_152 rfl ?_ | refine Es_aloadN (hC _) dX5_swap_152 rfl ?_
  refine Es_iload_n (hC _) dX5_swap_154 rfl ?_
  refine Es_fV (hC _) mv_X5_149 dX5_swap_155 (c_spot hw (by simp [uB, cLog, hnwn])) (ok18 hw) rfl ⟨_, rfl, rfl⟩ rfl rfl (by decide) (Nat.le_of_ble_eq_true rfl) ?_
  refine Es_fV (hC _) mv_X5_128 dX5_swap_158 (c_move (k := k) ht (by simp [uB, cLog, hk]) h6) rfl rfl ⟨_, rfl, rfl⟩ rfl rfl (by decide) (Nat.le_of_ble_eq_true rfl) ?_
  first | refine Es_aload_n (hC _) dX5_swap_161 rfl ?_ | refine Es_aload_nN (hC _) dX5_swap_161 rfl ?_
  first | refine Es_aload (hC _) dX5_swap_162 rfl ?_ | refine Es_aloadN (hC _) dX5_swap_162 rfl ?_
  first | refine Es_aload (hC _) dX5_swap_164 rfl ?_ | refine Es_aloadN (hC _) dX5_swap_164 rfl ?_
  refine Es_iload (hC _) dX5_swap_166 rfl ?_
  refine Es_fV (hC _) mv_X5_149 dX5_swap_168 (c_spot hv (by simp [uB, cLog, hnvn])) (ok18 hv) rfl ⟨_, rfl, rfl⟩ rfl rfl (by decide) (Nat.le_of_ble_eq_true rfl) ?_
  refine Es_fV (hC _) mv_X5_128 dX5_swap_171 c_move_null rfl rfl ⟨_, rfl, rfl⟩ rfl rfl (by decide) (Nat.le_of_ble_eq_true rfl) ?_
  refine Es_iconst (v := 1) (hC _) dX5_swap_174 (by decide) ?_
  exact Es_iret dX5_swap_175 rfl ⟨rfl, by simp [uB], rfl⟩

set_option maxRecDepth 100000 in
set_option maxHeartbeats 4000000 in
theorem c_swap_4cx {ad : sA} {nw nt : Nat} {B : sB} {L : sL} (hnw : B 0 0 8 = nI nw) (h5 : nw ≤ 5) (h40 : nt ≤ 40) {w : Nat} (hw : w < nw) {v : Nat} (hv : v < nw) {pw qw : Nat} (hpw : B 18 w 3 = nI pw) (h7w : pw ≤ 7) (hqw : qw < pw) {pv qv : Nat} (hpv : B 18 v 3 = nI pv) (h7v : pv ≤ 7) (hqv : qv < pv) (hne : ¬ w = v) {a b : Nat} (ha : a < nt) (hb : b < nt) {k : Nat} (hk : B 6 0 3 = nI k) (hnwn : B 18 w 0 = nI w) (hnvn : B 18 v 0 = nI v) (h6 : k < 599) (honw : B 20 w qw = nI a) (honv : B 20 v qv = nI b)  : Cf yX5_swap cX5_swap 9 (some FieldType.int) 5 [.ref (ad 0 0), .int (nI w), .int (nI qw), .int (nI v), .int (nI qv)] ad nw nt B L (some (.int 1)) (cLog (uB (cLog (uB (uB (uB B 20 w qw (nI b)) 20 v qv (nI a)) 21 b 10 (nI (10 * w + qw))) k (B 0 0 11) (B 21 b 0) (nI (10 * w + qw))) 21 a 10 (nI (10 * v + qv))) (k + 1) (B 0 0 11) (B 21 a 0) (nI (10 * v + qv))) (L) := by
  have hC : ∀ Q, je_Ok (sCm yX5_swap cX5_swap 9 (some FieldType.int) 5 ad nw nt Q) RX5 cX5_swap 9 5 := fun _ => je_Cm_ok
  refine Cs_of [some (.ref (ad 0 0)), some (.int (nI w)), some (.int (nI qw)), some (.int (nI v)), some (.int (nI qv)), none, none, none, none] (by decide) rfl (Nat.le_of_ble_eq_true rfl) ?_
  first | refine Es_aload_n (hC _) dX5_swap_0 rfl ?_ | refine Es_aload_nN (hC _) dX5_swap_0 rfl ?_
  refine Es_iload_n (hC _) dX5_swap_1 rfl ?_
  refine Es_fV (hC _) mv_X5_77 dX5_swap_2 (c_wagonAt_in hnw h5 hw) rfl rfl ⟨_, rfl, rfl⟩ rfl rfl (by decide) (Nat.le_of_ble_eq_true rfl) ?_
  first | refine Es_astore (lv' := [_, _, _, _, _, _, _, _, _]) (hC _) dX5_swap_5 (by decide) rfl rfl ?_ | refine Es_astoreN (lv' := [_, _, _, _, _, _, _, _, _]) (hC _) dX5_swap_5 (by decide) rfl rfl ?_
  first | refine Es_aload_n (hC _) dX5_swap_7 rfl ?_ | refine Es_aload_nN (hC _) dX5_swap_7 rfl ?_
  refine Es_iload_n (hC _) dX5_swap_8 rfl ?_
  refine Es_fV (hC _) mv_X5_77 dX5_swap_9 (c_wagonAt_in hnw h5 hv) rfl rfl ⟨_, rfl, rfl⟩ rfl rfl (by decide) (Nat.le_of_ble_eq_true rfl) ?_
  first | refine Es_astore (lv' := [_, _, _, _, _, _, _, _, _]) (hC _) dX5_swap_12 (by decide) rfl rfl ?_ | refine Es_astoreN (lv' := [_, _, _, _, _, _, _, _, _]) (hC _) dX5_swap_12 (by decide) rfl rfl ?_
  first | refine Es_aload (hC _) dX5_swap_14 rfl ?_ | refine Es_aloadN (hC _) dX5_swap_14 rfl ?_
  refine Es_ifnull (hC _) dX5_swap_16 ?_
  first | refine Es_aload (hC _) dX5_swap_19 rfl ?_ | refine Es_aloadN (hC _) dX5_swap_19 rfl ?_
  refine Es_ifnull (hC _) dX5_swap_21 ?_
  first | refine Es_aload (hC _) dX5_swap_24 rfl ?_ | refine Es_aloadN (hC _) dX5_swap_24 rfl ?_
  refine Es_iload_n (hC _) dX5_swap_26 rfl ?_
  refine Es_fV (hC _) mv_X5_136 dX5_swap_27 (c_hasPlace_in hw hpw h7w hqw) (ok18 hw) rfl ⟨_, rfl, rfl⟩ rfl rfl (by decide) (Nat.le_of_ble_eq_true rfl) ?_
  refine Es_if_eq (hC _) 43 dX5_swap_30 (by decide) (fun hb30 => False.elim ((by first | exact absurd hb30 (by decide) | exact absurd hb30 (by assumption) | exact hb30 (by assumption) | exact hb30 rfl | (simp_all [bI]; done)))) (fun hb30 => ?_)
  first | refine Es_aload (hC _) dX5_swap_33 rfl ?_ | refine Es_aloadN (hC _) dX5_swap_33 rfl ?_
  refine Es_iload (hC _) dX5_swap_35 rfl ?_
  refine Es_fV (hC _) mv_X5_136 dX5_swap_37 (c_hasPlace_in hv hpv h7v hqv) (ok18 hv) rfl ⟨_, rfl, rfl⟩ rfl rfl (by decide) (Nat.le_of_ble_eq_true rfl) ?_
  refine Es_if_ne (hC _) 49 dX5_swap_40 (by decide) (fun hb40 => ?_) (fun hb40 => False.elim ((by first | exact absurd hb40 (by decide) | exact absurd hb40 (by assumption) | exact hb40 (by assumption) | exact hb40 rfl | (simp_all [bI]; done))))
  refine Es_iload_n (hC _) dX5_swap_49 rfl ?_
  refine Es_iload_n (hC _) dX5_swap_50 rfl ?_
  refine Es_icmp_ne (hC _) 66 dX5_swap_51 (by decide) (fun hb51 => ?_) (fun hb51 => False.elim (hne ((nI_eq (by omega) (by omega)).mp hb51)))
  first | refine Es_aload (hC _) dX5_swap_66 rfl ?_ | refine Es_aloadN (hC _) dX5_swap_66 rfl ?_
  refine Es_iload_n (hC _) dX5_swap_68 rfl ?_
  refine Es_fV (hC _) mv_X5_142 dX5_swap_69 (c_tyreOn_in hw hpw h7w hqw) (ok18 hw) rfl ⟨_, rfl, rfl⟩ rfl rfl (by decide) (Nat.le_of_ble_eq_true rfl) ?_
  rw [show rT ad (B 20 w qw) = some (ad 21 a) by rw [honw, rT, if_neg (nI_pos (by omega)), nI_clamp (by omega)]]
  first | refine Es_astore (lv' := [_, _, _, _, _, _, _, _, _]) (hC _) dX5_swap_72 (by decide) rfl rfl ?_ | refine Es_astoreN (lv' := [_, _, _, _, _, _, _, _, _]) (hC _) dX5_swap_72 (by decide) rfl rfl ?_
  first | refine Es_aload (hC _) dX5_swap_74 rfl ?_ | refine Es_aloadN (hC _) dX5_swap_74 rfl ?_
  refine Es_iload (hC _) dX5_swap_76 rfl ?_
  refine Es_fV (hC _) mv_X5_142 dX5_swap_78 (c_tyreOn_in hv hpv h7v hqv) (ok18 hv) rfl ⟨_, rfl, rfl⟩ rfl rfl (by decide) (Nat.le_of_ble_eq_true rfl) ?_
  rw [show rT ad (B 20 v qv) = some (ad 21 b) by rw [honv, rT, if_neg (nI_pos (by omega)), nI_clamp (by omega)]]
  first | refine Es_astore (lv' := [_, _, _, _, _, _, _, _, _]) (hC _) dX5_swap_81 (by decide) rfl rfl ?_ | refine Es_astoreN (lv' := [_, _, _, _, _, _, _, _, _]) (hC _) dX5_swap_81 (by decide) rfl rfl ?_
  first | refine Es_aload (hC _) dX5_swap_83 rfl ?_ | refine Es_aloadN (hC _) dX5_swap_83 rfl ?_
  refine Es_ifnonnull (hC _) 100 dX5_swap_85 (by decide) ?_
  first | refine Es_aload_n (hC _) dX5_swap_100 rfl ?_ | refine Es_aload_nN (hC _) dX5_swap_100 rfl ?_
  refine Sg_X5_5 (hC _) fl_X5_45 dX5_swap_101 ?_
  first | refine Es_aload (hC _) dX5_swap_104 rfl ?_ | refine Es_aloadN (hC _) dX5_swap_104 rfl ?_
  refine Es_ifnull (hC _) dX5_swap_106 ?_
  first | refine Es_aload (hC _) dX5_swap_109 rfl ?_ | refine Es_aloadN (hC _) dX5_swap_109 rfl ?_
  refine Es_ifnonnull (hC _) 118 dX5_swap_111 (by decide) ?_
  refine Es_iconst (v := 2) (hC _) dX5_swap_118 (by decide) ?_
  refine Es_fV (hC _) mv_X5_113 dX5_swap_119 (c_hasRoomFor (m := 2) hk (by omega) (by decide)) rfl rfl ⟨_, rfl, rfl⟩ rfl rfl (by decide) (Nat.le_of_ble_eq_true rfl) ?_
  refine Es_if_ne (hC _) 132 dX5_swap_122 (by decide) (fun hb122 => ?_) (fun hb122 => False.elim (absurd hb122 (by rw [bI, if_pos (by omega)]; decide)))
  first | refine Es_aload (hC _) dX5_swap_132 rfl ?_ | refine Es_aloadN (hC _) dX5_swap_132 rfl ?_
  refine Es_iload_n (hC _) dX5_swap_134 rfl ?_
  first | refine Es_aload (hC _) dX5_swap_135 rfl ?_ | refine Es_aloadN (hC _) dX5_swap_135 rfl ?_
  refine Es_fV (hC _) mv_X5_145 dX5_swap_137 (c_lay hw (by simp [uB, hpw]) h7w hqw hb (by omega)) (ok18 hw) rfl ⟨_, rfl, rfl⟩ rfl rfl (by decide) (Nat.le_of_ble_eq_true rfl) ?_
  first | refine Es_aload (hC _) dX5_swap_140 rfl ?_ | refine Es_aloadN (hC _) dX5_swap_140 rfl ?_
  refine Es_iload (hC _) dX5_swap_142 rfl ?_
  first | refine Es_aload (hC _) dX5_swap_144 rfl ?_ | refine Es_aloadN (hC _) dX5_swap_144 rfl ?_
  refine Es_fV (hC _) mv_X5_145 dX5_swap_146 (c_lay hv (by simp [uB, hpv]) h7v hqv ha (by omega)) (ok18 hv) rfl ⟨_, rfl, rfl⟩ rfl rfl (by decide) (Nat.le_of_ble_eq_true rfl) ?_
  first | refine Es_aload_n (hC _) dX5_swap_149 rfl ?_ | refine Es_aload_nN (hC _) dX5_swap_149 rfl ?_
  first | refine Es_aload (hC _) dX5_swap_150 rfl ?_ | refine Es_aloadN (hC _) dX5_swap_150 rfl ?_
  first | refine Es_aload (hC _) dX5_swap_152 rfl ?_ | refine Es_aloadN (hC _) dX5_swap_152 rfl ?_
  refine Es_iload_n (hC _) dX5_swap_154 rfl ?_
  refine Es_fV (hC _) mv_X5_149 dX5_swap_155 (c_spot hw (by simp [uB, cLog, hnwn])) (ok18 hw) rfl ⟨_, rfl, rfl⟩ rfl rfl (by decide) (Nat.le_of_ble_eq_true rfl) ?_
  refine Es_fV (hC _) mv_X5_128 dX5_swap_158 (c_move (k := k) hb (by simp [uB, cLog, hk]) (by omega)) rfl rfl ⟨_, rfl, rfl⟩ rfl rfl (by decide) (Nat.le_of_ble_eq_true rfl) ?_
  first | refine Es_aload_n (hC _) dX5_swap_161 rfl ?_ | refine Es_aload_nN (hC _) dX5_swap_161 rfl ?_
  first | refine Es_aload (hC _) dX5_swap_162 rfl ?_ | refine Es_aloadN (hC _) dX5_swap_162 rfl ?_
  first | refine Es_aload (hC _) dX5_swap_164 rfl ?_ | refine Es_aloadN (hC _) dX5_swap_164 rfl ?_
  refine Es_iload (hC _) dX5_swap_166 rfl ?_
  refine Es_fV (hC _) mv_X5_149 dX5_swap_168 (c_spot hv (by simp [uB, cLog, hnvn])) (ok18 hv) rfl ⟨_, rfl, rfl⟩ rfl rfl (by decide) (Nat.le_of_ble_eq_true rfl) ?_
  refine Es_fV (hC _) mv_X5_128 dX5_swap_171 (c_move (k := k + 1) ha (by simp [uB, cLog, hk]) (by omega)) rfl rfl ⟨_, rfl, rfl⟩ rfl rfl (by decide) (Nat.le_of_ble_eq_true rfl) ?_
  refine Es_iconst (v := 1) (hC _) dX5_swap_174 (by decide) ?_
  exact Es_iret dX5_swap_175 rfl ⟨rfl, by simp [uB, cLog], rfl⟩

set_option maxRecDepth 100000 in
set_option maxHeartbeats 4000000 in
theorem c_swap_4cy {ad : sA} {nw nt : Nat} {B : sB} {L : sL} (hnw : B 0 0 8 = nI nw) (h5 : nw ≤ 5) (h40 : nt ≤ 40) {w : Nat} (hw : w < nw) {v : Nat} (hv : v < nw) {pw qw : Nat} (hpw : B 18 w 3 = nI pw) (h7w : pw ≤ 7) (hqw : qw < pw) {pv qv : Nat} (hpv : B 18 v 3 = nI pv) (h7v : pv ≤ 7) (hqv : qv < pv) (hne : w = v) (hne2 : ¬ qw = qv) {a b : Nat} (ha : a < nt) (hb : b < nt) {k : Nat} (hk : B 6 0 3 = nI k) (hnwn : B 18 w 0 = nI w) (hnvn : B 18 v 0 = nI v) (h6 : k < 599) (honw : B 20 w qw = nI a) (honv : B 20 v qv = nI b)  : Cf yX5_swap cX5_swap 9 (some FieldType.int) 5 [.ref (ad 0 0), .int (nI w), .int (nI qw), .int (nI v), .int (nI qv)] ad nw nt B L (some (.int 1)) (cLog (uB (cLog (uB (uB (uB B 20 w qw (nI b)) 20 v qv (nI a)) 21 b 10 (nI (10 * w + qw))) k (B 0 0 11) (B 21 b 0) (nI (10 * w + qw))) 21 a 10 (nI (10 * v + qv))) (k + 1) (B 0 0 11) (B 21 a 0) (nI (10 * v + qv))) (L) := by
  have hC : ∀ Q, je_Ok (sCm yX5_swap cX5_swap 9 (some FieldType.int) 5 ad nw nt Q) RX5 cX5_swap 9 5 := fun _ => je_Cm_ok
  refine Cs_of [some (.ref (ad 0 0)), some (.int (nI w)), some (.int (nI qw)), some (.int (nI v)), some (.int (nI qv)), none, none, none, none] (by decide) rfl (Nat.le_of_ble_eq_true rfl) ?_
  first | refine Es_aload_n (hC _) dX5_swap_0 rfl ?_ | refine Es_aload_nN (hC _) dX5_swap_0 rfl ?_
  refine Es_iload_n (hC _) dX5_swap_1 rfl ?_
  refine Es_fV (hC _) mv_X5_77 dX5_swap_2 (c_wagonAt_in hnw h5 hw) rfl rfl ⟨_, rfl, rfl⟩ rfl rfl (by decide) (Nat.le_of_ble_eq_true rfl) ?_
  first | refine Es_astore (lv' := [_, _, _, _, _, _, _, _, _]) (hC _) dX5_swap_5 (by decide) rfl rfl ?_ | refine Es_astoreN (lv' := [_, _, _, _, _, _, _, _, _]) (hC _) dX5_swap_5 (by decide) rfl rfl ?_
  first | refine Es_aload_n (hC _) dX5_swap_7 rfl ?_ | refine Es_aload_nN (hC _) dX5_swap_7 rfl ?_
  refine Es_iload_n (hC _) dX5_swap_8 rfl ?_
  refine Es_fV (hC _) mv_X5_77 dX5_swap_9 (c_wagonAt_in hnw h5 hv) rfl rfl ⟨_, rfl, rfl⟩ rfl rfl (by decide) (Nat.le_of_ble_eq_true rfl) ?_
  first | refine Es_astore (lv' := [_, _, _, _, _, _, _, _, _]) (hC _) dX5_swap_12 (by decide) rfl rfl ?_ | refine Es_astoreN (lv' := [_, _, _, _, _, _, _, _, _]) (hC _) dX5_swap_12 (by decide) rfl rfl ?_
  first | refine Es_aload (hC _) dX5_swap_14 rfl ?_ | refine Es_aloadN (hC _) dX5_swap_14 rfl ?_
  refine Es_ifnull (hC _) dX5_swap_16 ?_
  first | refine Es_aload (hC _) dX5_swap_19 rfl ?_ | refine Es_aloadN (hC _) dX5_swap_19 rfl ?_
  refine Es_ifnull (hC _) dX5_swap_21 ?_
  first | refine Es_aload (hC _) dX5_swap_24 rfl ?_ | refine Es_aloadN (hC _) dX5_swap_24 rfl ?_
  refine Es_iload_n (hC _) dX5_swap_26 rfl ?_
  refine Es_fV (hC _) mv_X5_136 dX5_swap_27 (c_hasPlace_in hw hpw h7w hqw) (ok18 hw) rfl ⟨_, rfl, rfl⟩ rfl rfl (by decide) (Nat.le_of_ble_eq_true rfl) ?_
  refine Es_if_eq (hC _) 43 dX5_swap_30 (by decide) (fun hb30 => False.elim ((by first | exact absurd hb30 (by decide) | exact absurd hb30 (by assumption) | exact hb30 (by assumption) | exact hb30 rfl | (simp_all [bI]; done)))) (fun hb30 => ?_)
  first | refine Es_aload (hC _) dX5_swap_33 rfl ?_ | refine Es_aloadN (hC _) dX5_swap_33 rfl ?_
  refine Es_iload (hC _) dX5_swap_35 rfl ?_
  refine Es_fV (hC _) mv_X5_136 dX5_swap_37 (c_hasPlace_in hv hpv h7v hqv) (ok18 hv) rfl ⟨_, rfl, rfl⟩ rfl rfl (by decide) (Nat.le_of_ble_eq_true rfl) ?_
  refine Es_if_ne (hC _) 49 dX5_swap_40 (by decide) (fun hb40 => ?_) (fun hb40 => False.elim ((by first | exact absurd hb40 (by decide) | exact absurd hb40 (by assumption) | exact hb40 (by assumption) | exact hb40 rfl | (simp_all [bI]; done))))
  refine Es_iload_n (hC _) dX5_swap_49 rfl ?_
  refine Es_iload_n (hC _) dX5_swap_50 rfl ?_
  refine Es_icmp_ne (hC _) 66 dX5_swap_51 (by decide) (fun hb51 => False.elim (hb51 (by rw [hne]))) (fun hb51 => ?_)
  refine Es_iload_n (hC _) dX5_swap_54 rfl ?_
  refine Es_iload (hC _) dX5_swap_55 rfl ?_
  refine Es_icmp_ne (hC _) 66 dX5_swap_57 (by decide) (fun hb57 => ?_) (fun hb57 => False.elim (hne2 ((nI_eq (by omega) (by omega)).mp hb57)))
  first | refine Es_aload (hC _) dX5_swap_66 rfl ?_ | refine Es_aloadN (hC _) dX5_swap_66 rfl ?_
  refine Es_iload_n (hC _) dX5_swap_68 rfl ?_
  refine Es_fV (hC _) mv_X5_142 dX5_swap_69 (c_tyreOn_in hw hpw h7w hqw) (ok18 hw) rfl ⟨_, rfl, rfl⟩ rfl rfl (by decide) (Nat.le_of_ble_eq_true rfl) ?_
  rw [show rT ad (B 20 w qw) = some (ad 21 a) by rw [honw, rT, if_neg (nI_pos (by omega)), nI_clamp (by omega)]]
  first | refine Es_astore (lv' := [_, _, _, _, _, _, _, _, _]) (hC _) dX5_swap_72 (by decide) rfl rfl ?_ | refine Es_astoreN (lv' := [_, _, _, _, _, _, _, _, _]) (hC _) dX5_swap_72 (by decide) rfl rfl ?_
  first | refine Es_aload (hC _) dX5_swap_74 rfl ?_ | refine Es_aloadN (hC _) dX5_swap_74 rfl ?_
  refine Es_iload (hC _) dX5_swap_76 rfl ?_
  refine Es_fV (hC _) mv_X5_142 dX5_swap_78 (c_tyreOn_in hv hpv h7v hqv) (ok18 hv) rfl ⟨_, rfl, rfl⟩ rfl rfl (by decide) (Nat.le_of_ble_eq_true rfl) ?_
  rw [show rT ad (B 20 v qv) = some (ad 21 b) by rw [honv, rT, if_neg (nI_pos (by omega)), nI_clamp (by omega)]]
  first | refine Es_astore (lv' := [_, _, _, _, _, _, _, _, _]) (hC _) dX5_swap_81 (by decide) rfl rfl ?_ | refine Es_astoreN (lv' := [_, _, _, _, _, _, _, _, _]) (hC _) dX5_swap_81 (by decide) rfl rfl ?_
  first | refine Es_aload (hC _) dX5_swap_83 rfl ?_ | refine Es_aloadN (hC _) dX5_swap_83 rfl ?_
  refine Es_ifnonnull (hC _) 100 dX5_swap_85 (by decide) ?_
  first | refine Es_aload_n (hC _) dX5_swap_100 rfl ?_ | refine Es_aload_nN (hC _) dX5_swap_100 rfl ?_
  refine Sg_X5_5 (hC _) fl_X5_45 dX5_swap_101 ?_
  first | refine Es_aload (hC _) dX5_swap_104 rfl ?_ | refine Es_aloadN (hC _) dX5_swap_104 rfl ?_
  refine Es_ifnull (hC _) dX5_swap_106 ?_
  first | refine Es_aload (hC _) dX5_swap_109 rfl ?_ | refine Es_aloadN (hC _) dX5_swap_109 rfl ?_
  refine Es_ifnonnull (hC _) 118 dX5_swap_111 (by decide) ?_
  refine Es_iconst (v := 2) (hC _) dX5_swap_118 (by decide) ?_
  refine Es_fV (hC _) mv_X5_113 dX5_swap_119 (c_hasRoomFor (m := 2) hk (by omega) (by decide)) rfl rfl ⟨_, rfl, rfl⟩ rfl rfl (by decide) (Nat.le_of_ble_eq_true rfl) ?_
  refine Es_if_ne (hC _) 132 dX5_swap_122 (by decide) (fun hb122 => ?_) (fun hb122 => False.elim (absurd hb122 (by rw [bI, if_pos (by omega)]; decide)))
  first | refine Es_aload (hC _) dX5_swap_132 rfl ?_ | refine Es_aloadN (hC _) dX5_swap_132 rfl ?_
  refine Es_iload_n (hC _) dX5_swap_134 rfl ?_
  first | refine Es_aload (hC _) dX5_swap_135 rfl ?_ | refine Es_aloadN (hC _) dX5_swap_135 rfl ?_
  refine Es_fV (hC _) mv_X5_145 dX5_swap_137 (c_lay hw (by simp [uB, hpw]) h7w hqw hb (by omega)) (ok18 hw) rfl ⟨_, rfl, rfl⟩ rfl rfl (by decide) (Nat.le_of_ble_eq_true rfl) ?_
  first | refine Es_aload (hC _) dX5_swap_140 rfl ?_ | refine Es_aloadN (hC _) dX5_swap_140 rfl ?_
  refine Es_iload (hC _) dX5_swap_142 rfl ?_
  first | refine Es_aload (hC _) dX5_swap_144 rfl ?_ | refine Es_aloadN (hC _) dX5_swap_144 rfl ?_
  refine Es_fV (hC _) mv_X5_145 dX5_swap_146 (c_lay hv (by simp [uB, hpv]) h7v hqv ha (by omega)) (ok18 hv) rfl ⟨_, rfl, rfl⟩ rfl rfl (by decide) (Nat.le_of_ble_eq_true rfl) ?_
  first | refine Es_aload_n (hC _) dX5_swap_149 rfl ?_ | refine Es_aload_nN (hC _) dX5_swap_149 rfl ?_
  first | refine Es_aload (hC _) dX5_swap_150 rfl ?_ | refine Es_aloadN (hC _) dX5_swap_150 rfl ?_
  first | refine Es_aload (hC _) dX5_swap_152 rfl ?_ | refine Es_aloadN (hC _) dX5_swap_152 rfl ?_
  refine Es_iload_n (hC _) dX5_swap_154 rfl ?_
  refine Es_fV (hC _) mv_X5_149 dX5_swap_155 (c_spot hw (by simp [uB, cLog, hnwn])) (ok18 hw) rfl ⟨_, rfl, rfl⟩ rfl rfl (by decide) (Nat.le_of_ble_eq_true rfl) ?_
  refine Es_fV (hC _) mv_X5_128 dX5_swap_158 (c_move (k := k) hb (by simp [uB, cLog, hk]) (by omega)) rfl rfl ⟨_, rfl, rfl⟩ rfl rfl (by decide) (Nat.le_of_ble_eq_true rfl) ?_
  first | refine Es_aload_n (hC _) dX5_swap_161 rfl ?_ | refine Es_aload_nN (hC _) dX5_swap_161 rfl ?_
  first | refine Es_aload (hC _) dX5_swap_162 rfl ?_ | refine Es_aloadN (hC _) dX5_swap_162 rfl ?_
  first | refine Es_aload (hC _) dX5_swap_164 rfl ?_ | refine Es_aloadN (hC _) dX5_swap_164 rfl ?_
  refine Es_iload (hC _) dX5_swap_166 rfl ?_
  refine Es_fV (hC _) mv_X5_149 dX5_swap_168 (c_spot hv (by simp [uB, cLog, hnvn])) (ok18 hv) rfl ⟨_, rfl, rfl⟩ rfl rfl (by decide) (Nat.le_of_ble_eq_true rfl) ?_
  refine Es_fV (hC _) mv_X5_128 dX5_swap_171 (c_move (k := k + 1) ha (by simp [uB, cLog, hk]) (by omega)) rfl rfl ⟨_, rfl, rfl⟩ rfl rfl (by decide) (Nat.le_of_ble_eq_true rfl) ?_
  refine Es_iconst (v := 1) (hC _) dX5_swap_174 (by decide) ?_
  exact Es_iret dX5_swap_175 rfl ⟨rfl, by simp [uB, cLog], rfl⟩

set_option maxRecDepth 100000 in
set_option maxHeartbeats 4000000 in
theorem r_swap_1a {ad : sA} {nw nt : Nat} {B : sB} {L : sL} (hnw : B 25 0 4 = nI nw) (h5 : nw ≤ 5) {xw : Int32} (how : out xw nw) {a b c : Int32} : Cf yX6_swap cX6_swap 7 (some FieldType.int) 3 [.ref (ad 25 0), .int xw, .int a, .int c, .int b] ad nw nt B L (some (.int (-1))) (uB B 30 0 1 (B 30 0 1 + 1)) (L) := by
  have hC : ∀ Q, je_Ok (sCm yX6_swap cX6_swap 7 (some FieldType.int) 3 ad nw nt Q) RX6 cX6_swap 7 3 := fun _ => je_Cm_ok
  refine Cs_of [some (.ref (ad 25 0)), some (.int xw), some (.int a), some (.int c), some (.int b), none, none] (by decide) rfl (Nat.le_of_ble_eq_true rfl) ?_
  first | refine Es_aload_n (hC _) dX6_swap_0 rfl ?_ | refine Es_aload_nN (hC _) dX6_swap_0 rfl ?_
  refine Es_iload_n (hC _) dX6_swap_1 rfl ?_
  refine Es_iload_n (hC _) dX6_swap_2 rfl ?_
  refine Es_fV (hC _) mv_X6_121 dX6_swap_3 (r_isPlace_out1 hnw how) rfl rfl ⟨_, rfl, rfl⟩ rfl rfl (by decide) (Nat.le_of_ble_eq_true rfl) ?_
  refine Es_if_eq (hC _) 30 dX6_swap_6 (by decide) (fun hb6 => ?_) (fun hb6 => False.elim ((by first | exact absurd hb6 (by decide) | exact absurd hb6 (by assumption) | exact hb6 (by assumption) | exact hb6 rfl | (simp_all [bI]; done))))
  first | refine Es_aload_n (hC _) dX6_swap_30 rfl ?_ | refine Es_aload_nN (hC _) dX6_swap_30 rfl ?_
  refine Es_iconst (v := -1) (hC _) dX6_swap_31 (by decide) ?_
  refine Es_fV (hC _) mv_X6_93 dX6_swap_32 (r_refuse (k := 1) (by decide) (by decide)) rfl rfl ⟨_, rfl, rfl⟩ rfl rfl (by decide) (Nat.le_of_ble_eq_true rfl) ?_
  exact Es_iret dX6_swap_35 rfl ⟨rfl, rfl, rfl⟩

set_option maxRecDepth 100000 in
set_option maxHeartbeats 4000000 in
theorem r_swap_1b {ad : sA} {nw nt : Nat} {B : sB} {L : sL} (hnw : B 25 0 4 = nI nw) (h5 : nw ≤ 5) {w : Nat} (hw : w < nw) {pw : Nat} {zw : Int32} (hpw : B 38 0 w = nI pw) (h7w : pw ≤ 7) (hzw : out zw pw) {b c : Int32} : Cf yX6_swap cX6_swap 7 (some FieldType.int) 3 [.ref (ad 25 0), .int (nI w), .int zw, .int c, .int b] ad nw nt B L (some (.int (-1))) (uB B 30 0 1 (B 30 0 1 + 1)) (L) := by
  have hC : ∀ Q, je_Ok (sCm yX6_swap cX6_swap 7 (some FieldType.int) 3 ad nw nt Q) RX6 cX6_swap 7 3 := fun _ => je_Cm_ok
  refine Cs_of [some (.ref (ad 25 0)), some (.int (nI w)), some (.int zw), some (.int c), some (.int b), none, none] (by decide) rfl (Nat.le_of_ble_eq_true rfl) ?_
  first | refine Es_aload_n (hC _) dX6_swap_0 rfl ?_ | refine Es_aload_nN (hC _) dX6_swap_0 rfl ?_
  refine Es_iload_n (hC _) dX6_swap_1 rfl ?_
  refine Es_iload_n (hC _) dX6_swap_2 rfl ?_
  refine Es_fV (hC _) mv_X6_121 dX6_swap_3 (r_isPlace_out2 hnw h5 hw hpw hzw) rfl rfl ⟨_, rfl, rfl⟩ rfl rfl (by decide) (Nat.le_of_ble_eq_true rfl) ?_
  refine Es_if_eq (hC _) 30 dX6_swap_6 (by decide) (fun hb6 => ?_) (fun hb6 => False.elim ((by first | exact absurd hb6 (by decide) | exact absurd hb6 (by assumption) | exact hb6 (by assumption) | exact hb6 rfl | (simp_all [bI]; done))))
  first | refine Es_aload_n (hC _) dX6_swap_30 rfl ?_ | refine Es_aload_nN (hC _) dX6_swap_30 rfl ?_
  refine Es_iconst (v := -1) (hC _) dX6_swap_31 (by decide) ?_
  refine Es_fV (hC _) mv_X6_93 dX6_swap_32 (r_refuse (k := 1) (by decide) (by decide)) rfl rfl ⟨_, rfl, rfl⟩ rfl rfl (by decide) (Nat.le_of_ble_eq_true rfl) ?_
  exact Es_iret dX6_swap_35 rfl ⟨rfl, rfl, rfl⟩

set_option maxRecDepth 100000 in
set_option maxHeartbeats 4000000 in
theorem r_swap_1c {ad : sA} {nw nt : Nat} {B : sB} {L : sL} (hnw : B 25 0 4 = nI nw) (h5 : nw ≤ 5) {w : Nat} (hw : w < nw) {xv : Int32} (hov : out xv nw) {pw qw : Nat} (hpw : B 38 0 w = nI pw) (h7w : pw ≤ 7) (hqw : qw < pw) {b : Int32} : Cf yX6_swap cX6_swap 7 (some FieldType.int) 3 [.ref (ad 25 0), .int (nI w), .int (nI qw), .int xv, .int b] ad nw nt B L (some (.int (-1))) (uB B 30 0 1 (B 30 0 1 + 1)) (L) := by
  have hC : ∀ Q, je_Ok (sCm yX6_swap cX6_swap 7 (some FieldType.int) 3 ad nw nt Q) RX6 cX6_swap 7 3 := fun _ => je_Cm_ok
  refine Cs_of [some (.ref (ad 25 0)), some (.int (nI w)), some (.int (nI qw)), some (.int xv), some (.int b), none, none] (by decide) rfl (Nat.le_of_ble_eq_true rfl) ?_
  first | refine Es_aload_n (hC _) dX6_swap_0 rfl ?_ | refine Es_aload_nN (hC _) dX6_swap_0 rfl ?_
  refine Es_iload_n (hC _) dX6_swap_1 rfl ?_
  refine Es_iload_n (hC _) dX6_swap_2 rfl ?_
  refine Es_fV (hC _) mv_X6_121 dX6_swap_3 (r_isPlace_in hnw h5 hw hpw h7w hqw) rfl rfl ⟨_, rfl, rfl⟩ rfl rfl (by decide) (Nat.le_of_ble_eq_true rfl) ?_
  refine Es_if_eq (hC _) 30 dX6_swap_6 (by decide) (fun hb6 => False.elim ((by first | exact absurd hb6 (by decide) | exact absurd hb6 (by assumption) | exact hb6 (by assumption) | exact hb6 rfl | (simp_all [bI]; done)))) (fun hb6 => ?_)
  first | refine Es_aload_n (hC _) dX6_swap_9 rfl ?_ | refine Es_aload_nN (hC _) dX6_swap_9 rfl ?_
  refine Es_iload_n (hC _) dX6_swap_10 rfl ?_
  refine Es_iload (hC _) dX6_swap_11 rfl ?_
  refine Es_fV (hC _) mv_X6_121 dX6_swap_13 (r_isPlace_out1 hnw hov) rfl rfl ⟨_, rfl, rfl⟩ rfl rfl (by decide) (Nat.le_of_ble_eq_true rfl) ?_
  refine Es_if_eq (hC _) 30 dX6_swap_16 (by decide) (fun hb16 => ?_) (fun hb16 => False.elim ((by first | exact absurd hb16 (by decide) | exact absurd hb16 (by assumption) | exact hb16 (by assumption) | exact hb16 rfl | (simp_all [bI]; done))))
  first | refine Es_aload_n (hC _) dX6_swap_30 rfl ?_ | refine Es_aload_nN (hC _) dX6_swap_30 rfl ?_
  refine Es_iconst (v := -1) (hC _) dX6_swap_31 (by decide) ?_
  refine Es_fV (hC _) mv_X6_93 dX6_swap_32 (r_refuse (k := 1) (by decide) (by decide)) rfl rfl ⟨_, rfl, rfl⟩ rfl rfl (by decide) (Nat.le_of_ble_eq_true rfl) ?_
  exact Es_iret dX6_swap_35 rfl ⟨rfl, rfl, rfl⟩

set_option maxRecDepth 100000 in
set_option maxHeartbeats 4000000 in
theorem r_swap_1d {ad : sA} {nw nt : Nat} {B : sB} {L : sL} (hnw : B 25 0 4 = nI nw) (h5 : nw ≤ 5) {w : Nat} (hw : w < nw) {v : Nat} (hv : v < nw) {pw qw : Nat} (hpw : B 38 0 w = nI pw) (h7w : pw ≤ 7) (hqw : qw < pw) {pv : Nat} {zv : Int32} (hpv : B 38 0 v = nI pv) (h7v : pv ≤ 7) (hzv : out zv pv)  : Cf yX6_swap cX6_swap 7 (some FieldType.int) 3 [.ref (ad 25 0), .int (nI w), .int (nI qw), .int (nI v), .int zv] ad nw nt B L (some (.int (-1))) (uB B 30 0 1 (B 30 0 1 + 1)) (L) := by
  have hC : ∀ Q, je_Ok (sCm yX6_swap cX6_swap 7 (some FieldType.int) 3 ad nw nt Q) RX6 cX6_swap 7 3 := fun _ => je_Cm_ok
  refine Cs_of [some (.ref (ad 25 0)), some (.int (nI w)), some (.int (nI qw)), some (.int (nI v)), some (.int zv), none, none] (by decide) rfl (Nat.le_of_ble_eq_true rfl) ?_
  first | refine Es_aload_n (hC _) dX6_swap_0 rfl ?_ | refine Es_aload_nN (hC _) dX6_swap_0 rfl ?_
  refine Es_iload_n (hC _) dX6_swap_1 rfl ?_
  refine Es_iload_n (hC _) dX6_swap_2 rfl ?_
  refine Es_fV (hC _) mv_X6_121 dX6_swap_3 (r_isPlace_in hnw h5 hw hpw h7w hqw) rfl rfl ⟨_, rfl, rfl⟩ rfl rfl (by decide) (Nat.le_of_ble_eq_true rfl) ?_
  refine Es_if_eq (hC _) 30 dX6_swap_6 (by decide) (fun hb6 => False.elim ((by first | exact absurd hb6 (by decide) | exact absurd hb6 (by assumption) | exact hb6 (by assumption) | exact hb6 rfl | (simp_all [bI]; done)))) (fun hb6 => ?_)
  first | refine Es_aload_n (hC _) dX6_swap_9 rfl ?_ | refine Es_aload_nN (hC _) dX6_swap_9 rfl ?_
  refine Es_iload_n (hC _) dX6_swap_10 rfl ?_
  refine Es_iload (hC _) dX6_swap_11 rfl ?_
  refine Es_fV (hC _) mv_X6_121 dX6_swap_13 (r_isPlace_out2 hnw h5 hv hpv hzv) rfl rfl ⟨_, rfl, rfl⟩ rfl rfl (by decide) (Nat.le_of_ble_eq_true rfl) ?_
  refine Es_if_eq (hC _) 30 dX6_swap_16 (by decide) (fun hb16 => ?_) (fun hb16 => False.elim ((by first | exact absurd hb16 (by decide) | exact absurd hb16 (by assumption) | exact hb16 (by assumption) | exact hb16 rfl | (simp_all [bI]; done))))
  first | refine Es_aload_n (hC _) dX6_swap_30 rfl ?_ | refine Es_aload_nN (hC _) dX6_swap_30 rfl ?_
  refine Es_iconst (v := -1) (hC _) dX6_swap_31 (by decide) ?_
  refine Es_fV (hC _) mv_X6_93 dX6_swap_32 (r_refuse (k := 1) (by decide) (by decide)) rfl rfl ⟨_, rfl, rfl⟩ rfl rfl (by decide) (Nat.le_of_ble_eq_true rfl) ?_
  exact Es_iret dX6_swap_35 rfl ⟨rfl, rfl, rfl⟩

set_option maxRecDepth 100000 in
set_option maxHeartbeats 4000000 in
theorem r_swap_1f {ad : sA} {nw nt : Nat} {B : sB} {L : sL} (hnw : B 25 0 4 = nI nw) (h5 : nw ≤ 5) {w : Nat} (hw : w < nw) {pw qw : Nat} (hpw : B 38 0 w = nI pw) (h7w : pw ≤ 7) (hqw : qw < pw)  : Cf yX6_swap cX6_swap 7 (some FieldType.int) 3 [.ref (ad 25 0), .int (nI w), .int (nI qw), .int (nI w), .int (nI qw)] ad nw nt B L (some (.int (-1))) (uB B 30 0 1 (B 30 0 1 + 1)) (L) := by
  have hC : ∀ Q, je_Ok (sCm yX6_swap cX6_swap 7 (some FieldType.int) 3 ad nw nt Q) RX6 cX6_swap 7 3 := fun _ => je_Cm_ok
  refine Cs_of [some (.ref (ad 25 0)), some (.int (nI w)), some (.int (nI qw)), some (.int (nI w)), some (.int (nI qw)), none, none] (by decide) rfl (Nat.le_of_ble_eq_true rfl) ?_
  first | refine Es_aload_n (hC _) dX6_swap_0 rfl ?_ | refine Es_aload_nN (hC _) dX6_swap_0 rfl ?_
  refine Es_iload_n (hC _) dX6_swap_1 rfl ?_
  refine Es_iload_n (hC _) dX6_swap_2 rfl ?_
  refine Es_fV (hC _) mv_X6_121 dX6_swap_3 (r_isPlace_in hnw h5 hw hpw h7w hqw) rfl rfl ⟨_, rfl, rfl⟩ rfl rfl (by decide) (Nat.le_of_ble_eq_true rfl) ?_
  refine Es_if_eq (hC _) 30 dX6_swap_6 (by decide) (fun hb6 => False.elim ((by first | exact absurd hb6 (by decide) | exact absurd hb6 (by assumption) | exact hb6 (by assumption) | exact hb6 rfl | (simp_all [bI]; done)))) (fun hb6 => ?_)
  first | refine Es_aload_n (hC _) dX6_swap_9 rfl ?_ | refine Es_aload_nN (hC _) dX6_swap_9 rfl ?_
  refine Es_iload_n (hC _) dX6_swap_10 rfl ?_
  refine Es_iload (hC _) dX6_swap_11 rfl ?_
  refine Es_fV (hC _) mv_X6_121 dX6_swap_13 (r_isPlace_in hnw h5 hw hpw h7w hqw) rfl rfl ⟨_, rfl, rfl⟩ rfl rfl (by decide) (Nat.le_of_ble_eq_true rfl) ?_
  refine Es_if_eq (hC _) 30 dX6_swap_16 (by decide) (fun hb16 => False.elim ((by first | exact absurd hb16 (by decide) | exact absurd hb16 (by assumption) | exact hb16 (by assumption) | exact hb16 rfl | (simp_all [bI]; done)))) (fun hb16 => ?_)
  refine Es_iload_n (hC _) dX6_swap_19 rfl ?_
  refine Es_iload_n (hC _) dX6_swap_20 rfl ?_
  refine Es_icmp_ne (hC _) 36 dX6_swap_21 (by decide) (fun hb21 => False.elim ((by first | exact absurd hb21 (by decide) | exact absurd hb21 (by assumption) | exact hb21 (by assumption) | exact hb21 rfl | (simp_all [bI]; done)))) (fun hb21 => ?_)
  refine Es_iload_n (hC _) dX6_swap_24 rfl ?_
  refine Es_iload (hC _) dX6_swap_25 rfl ?_
  refine Es_icmp_ne (hC _) 36 dX6_swap_27 (by decide) (fun hb27 => False.elim ((by first | exact absurd hb27 (by decide) | exact absurd hb27 (by assumption) | exact hb27 (by assumption) | exact hb27 rfl | (simp_all [bI]; done)))) (fun hb27 => ?_)
  first | refine Es_aload_n (hC _) dX6_swap_30 rfl ?_ | refine Es_aload_nN (hC _) dX6_swap_30 rfl ?_
  refine Es_iconst (v := -1) (hC _) dX6_swap_31 (by decide) ?_
  refine Es_fV (hC _) mv_X6_93 dX6_swap_32 (r_refuse (k := 1) (by decide) (by decide)) rfl rfl ⟨_, rfl, rfl⟩ rfl rfl (by decide) (Nat.le_of_ble_eq_true rfl) ?_
  exact Es_iret dX6_swap_35 rfl ⟨rfl, rfl, rfl⟩

set_option maxRecDepth 100000 in
set_option maxHeartbeats 4000000 in
theorem r_swap_2x {ad : sA} {nw nt : Nat} {B : sB} {L : sL} (hnw : B 25 0 4 = nI nw) (h5 : nw ≤ 5) (h40 : nt ≤ 40) {w : Nat} (hw : w < nw) {v : Nat} (hv : v < nw) {pw qw : Nat} (hpw : B 38 0 w = nI pw) (h7w : pw ≤ 7) (hqw : qw < pw) {pv qv : Nat} (hpv : B 38 0 v = nI pv) (h7v : pv ≤ 7) (hqv : qv < pv) (hne : ¬ w = v) (honw : B 40 0 (7 * w + qw) = -1) (honv : B 40 0 (7 * v + qv) = -1)  : Cf yX6_swap cX6_swap 7 (some FieldType.int) 3 [.ref (ad 25 0), .int (nI w), .int (nI qw), .int (nI v), .int (nI qv)] ad nw nt B L (some (.int (-2))) (uB B 30 0 2 (B 30 0 2 + 1)) (L) := by
  have hC : ∀ Q, je_Ok (sCm yX6_swap cX6_swap 7 (some FieldType.int) 3 ad nw nt Q) RX6 cX6_swap 7 3 := fun _ => je_Cm_ok
  refine Cs_of [some (.ref (ad 25 0)), some (.int (nI w)), some (.int (nI qw)), some (.int (nI v)), some (.int (nI qv)), none, none] (by decide) rfl (Nat.le_of_ble_eq_true rfl) ?_
  first | refine Es_aload_n (hC _) dX6_swap_0 rfl ?_ | refine Es_aload_nN (hC _) dX6_swap_0 rfl ?_
  refine Es_iload_n (hC _) dX6_swap_1 rfl ?_
  refine Es_iload_n (hC _) dX6_swap_2 rfl ?_
  refine Es_fV (hC _) mv_X6_121 dX6_swap_3 (r_isPlace_in hnw h5 hw hpw h7w hqw) rfl rfl ⟨_, rfl, rfl⟩ rfl rfl (by decide) (Nat.le_of_ble_eq_true rfl) ?_
  refine Es_if_eq (hC _) 30 dX6_swap_6 (by decide) (fun hb6 => False.elim ((by first | exact absurd hb6 (by decide) | exact absurd hb6 (by assumption) | exact hb6 (by assumption) | exact hb6 rfl | (simp_all [bI]; done)))) (fun hb6 => ?_)
  first | refine Es_aload_n (hC _) dX6_swap_9 rfl ?_ | refine Es_aload_nN (hC _) dX6_swap_9 rfl ?_
  refine Es_iload_n (hC _) dX6_swap_10 rfl ?_
  refine Es_iload (hC _) dX6_swap_11 rfl ?_
  refine Es_fV (hC _) mv_X6_121 dX6_swap_13 (r_isPlace_in hnw h5 hv hpv h7v hqv) rfl rfl ⟨_, rfl, rfl⟩ rfl rfl (by decide) (Nat.le_of_ble_eq_true rfl) ?_
  refine Es_if_eq (hC _) 30 dX6_swap_16 (by decide) (fun hb16 => False.elim ((by first | exact absurd hb16 (by decide) | exact absurd hb16 (by assumption) | exact hb16 (by assumption) | exact hb16 rfl | (simp_all [bI]; done)))) (fun hb16 => ?_)
  refine Es_iload_n (hC _) dX6_swap_19 rfl ?_
  refine Es_iload_n (hC _) dX6_swap_20 rfl ?_
  refine Es_icmp_ne (hC _) 36 dX6_swap_21 (by decide) (fun hb21 => ?_) (fun hb21 => False.elim (hne ((nI_eq (by omega) (by omega)).mp hb21)))
  first | refine Es_aload_n (hC _) dX6_swap_36 rfl ?_ | refine Es_aload_nN (hC _) dX6_swap_36 rfl ?_
  refine Sg_X6_10 (hC _) fl_X6_29 dX6_swap_37 ?_
  refine Es_iload_n (hC _) dX6_swap_40 rfl ?_
  refine Es_iload_n (hC _) dX6_swap_41 rfl ?_
  refine Es_fS (hC _) ms_X6_97 dX6_swap_42 r_spot rfl rfl (by decide) (Nat.le_of_ble_eq_true rfl) ?_
  refine Es_ialdN (hC _) dX6_swap_45 rfl rfl rfl (by omega) (by decide) ?_
  rw [honw]
  refine Es_istore (lv' := [_, _, _, _, _, _, _]) (hC _) dX6_swap_46 (by decide) rfl rfl ?_
  first | refine Es_aload_n (hC _) dX6_swap_48 rfl ?_ | refine Es_aload_nN (hC _) dX6_swap_48 rfl ?_
  refine Sg_X6_10 (hC _) fl_X6_29 dX6_swap_49 ?_
  refine Es_iload_n (hC _) dX6_swap_52 rfl ?_
  refine Es_iload (hC _) dX6_swap_53 rfl ?_
  refine Es_fS (hC _) ms_X6_97 dX6_swap_55 r_spot rfl rfl (by decide) (Nat.le_of_ble_eq_true rfl) ?_
  refine Es_ialdN (hC _) dX6_swap_58 rfl rfl rfl (by omega) (by decide) ?_
  rw [honv]
  refine Es_istore (lv' := [_, _, _, _, _, _, _]) (hC _) dX6_swap_59 (by decide) rfl rfl ?_
  refine Es_iload (hC _) dX6_swap_61 rfl ?_
  refine Es_if_ge (hC _) 78 dX6_swap_63 (by decide) (fun hb63 => False.elim (absurd hb63 (by decide))) (fun hb63 => ?_)
  refine Es_iload (hC _) dX6_swap_66 rfl ?_
  refine Es_if_ge (hC _) 78 dX6_swap_68 (by decide) (fun hb68 => False.elim (absurd hb68 (by decide))) (fun hb68 => ?_)
  first | refine Es_aload_n (hC _) dX6_swap_71 rfl ?_ | refine Es_aload_nN (hC _) dX6_swap_71 rfl ?_
  refine Es_bipush (v := -2) (hC _) dX6_swap_72 (by decide) ?_
  refine Es_fV (hC _) mv_X6_93 dX6_swap_74 (r_refuse (k := 2) (by decide) (by decide)) rfl rfl ⟨_, rfl, rfl⟩ rfl rfl (by decide) (Nat.le_of_ble_eq_true rfl) ?_
  exact Es_iret dX6_swap_77 rfl ⟨rfl, rfl, rfl⟩

set_option maxRecDepth 100000 in
set_option maxHeartbeats 4000000 in
theorem r_swap_2y {ad : sA} {nw nt : Nat} {B : sB} {L : sL} (hnw : B 25 0 4 = nI nw) (h5 : nw ≤ 5) (h40 : nt ≤ 40) {w : Nat} (hw : w < nw) {v : Nat} (hv : v < nw) {pw qw : Nat} (hpw : B 38 0 w = nI pw) (h7w : pw ≤ 7) (hqw : qw < pw) {pv qv : Nat} (hpv : B 38 0 v = nI pv) (h7v : pv ≤ 7) (hqv : qv < pv) (hne : w = v) (hne2 : ¬ qw = qv) (honw : B 40 0 (7 * w + qw) = -1) (honv : B 40 0 (7 * v + qv) = -1)  : Cf yX6_swap cX6_swap 7 (some FieldType.int) 3 [.ref (ad 25 0), .int (nI w), .int (nI qw), .int (nI v), .int (nI qv)] ad nw nt B L (some (.int (-2))) (uB B 30 0 2 (B 30 0 2 + 1)) (L) := by
  have hC : ∀ Q, je_Ok (sCm yX6_swap cX6_swap 7 (some FieldType.int) 3 ad nw nt Q) RX6 cX6_swap 7 3 := fun _ => je_Cm_ok
  refine Cs_of [some (.ref (ad 25 0)), some (.int (nI w)), some (.int (nI qw)), some (.int (nI v)), some (.int (nI qv)), none, none] (by decide) rfl (Nat.le_of_ble_eq_true rfl) ?_
  first | refine Es_aload_n (hC _) dX6_swap_0 rfl ?_ | refine Es_aload_nN (hC _) dX6_swap_0 rfl ?_
  refine Es_iload_n (hC _) dX6_swap_1 rfl ?_
  refine Es_iload_n (hC _) dX6_swap_2 rfl ?_
  refine Es_fV (hC _) mv_X6_121 dX6_swap_3 (r_isPlace_in hnw h5 hw hpw h7w hqw) rfl rfl ⟨_, rfl, rfl⟩ rfl rfl (by decide) (Nat.le_of_ble_eq_true rfl) ?_
  refine Es_if_eq (hC _) 30 dX6_swap_6 (by decide) (fun hb6 => False.elim ((by first | exact absurd hb6 (by decide) | exact absurd hb6 (by assumption) | exact hb6 (by assumption) | exact hb6 rfl | (simp_all [bI]; done)))) (fun hb6 => ?_)
  first | refine Es_aload_n (hC _) dX6_swap_9 rfl ?_ | refine Es_aload_nN (hC _) dX6_swap_9 rfl ?_
  refine Es_iload_n (hC _) dX6_swap_10 rfl ?_
  refine Es_iload (hC _) dX6_swap_11 rfl ?_
  refine Es_fV (hC _) mv_X6_121 dX6_swap_13 (r_isPlace_in hnw h5 hv hpv h7v hqv) rfl rfl ⟨_, rfl, rfl⟩ rfl rfl (by decide) (Nat.le_of_ble_eq_true rfl) ?_
  refine Es_if_eq (hC _) 30 dX6_swap_16 (by decide) (fun hb16 => False.elim ((by first | exact absurd hb16 (by decide) | exact absurd hb16 (by assumption) | exact hb16 (by assumption) | exact hb16 rfl | (simp_all [bI]; done)))) (fun hb16 => ?_)
  refine Es_iload_n (hC _) dX6_swap_19 rfl ?_
  refine Es_iload_n (hC _) dX6_swap_20 rfl ?_
  refine Es_icmp_ne (hC _) 36 dX6_swap_21 (by decide) (fun hb21 => False.elim (hb21 (by rw [hne]))) (fun hb21 => ?_)
  refine Es_iload_n (hC _) dX6_swap_24 rfl ?_
  refine Es_iload (hC _) dX6_swap_25 rfl ?_
  refine Es_icmp_ne (hC _) 36 dX6_swap_27 (by decide) (fun hb27 => ?_) (fun hb27 => False.elim (hne2 ((nI_eq (by omega) (by omega)).mp hb27)))
  first | refine Es_aload_n (hC _) dX6_swap_36 rfl ?_ | refine Es_aload_nN (hC _) dX6_swap_36 rfl ?_
  refine Sg_X6_10 (hC _) fl_X6_29 dX6_swap_37 ?_
  refine Es_iload_n (hC _) dX6_swap_40 rfl ?_
  refine Es_iload_n (hC _) dX6_swap_41 rfl ?_
  refine Es_fS (hC _) ms_X6_97 dX6_swap_42 r_spot rfl rfl (by decide) (Nat.le_of_ble_eq_true rfl) ?_
  refine Es_ialdN (hC _) dX6_swap_45 rfl rfl rfl (by omega) (by decide) ?_
  rw [honw]
  refine Es_istore (lv' := [_, _, _, _, _, _, _]) (hC _) dX6_swap_46 (by decide) rfl rfl ?_
  first | refine Es_aload_n (hC _) dX6_swap_48 rfl ?_ | refine Es_aload_nN (hC _) dX6_swap_48 rfl ?_
  refine Sg_X6_10 (hC _) fl_X6_29 dX6_swap_49 ?_
  refine Es_iload_n (hC _) dX6_swap_52 rfl ?_
  refine Es_iload (hC _) dX6_swap_53 rfl ?_
  refine Es_fS (hC _) ms_X6_97 dX6_swap_55 r_spot rfl rfl (by decide) (Nat.le_of_ble_eq_true rfl) ?_
  refine Es_ialdN (hC _) dX6_swap_58 rfl rfl rfl (by omega) (by decide) ?_
  rw [honv]
  refine Es_istore (lv' := [_, _, _, _, _, _, _]) (hC _) dX6_swap_59 (by decide) rfl rfl ?_
  refine Es_iload (hC _) dX6_swap_61 rfl ?_
  refine Es_if_ge (hC _) 78 dX6_swap_63 (by decide) (fun hb63 => False.elim (absurd hb63 (by decide))) (fun hb63 => ?_)
  refine Es_iload (hC _) dX6_swap_66 rfl ?_
  refine Es_if_ge (hC _) 78 dX6_swap_68 (by decide) (fun hb68 => False.elim (absurd hb68 (by decide))) (fun hb68 => ?_)
  first | refine Es_aload_n (hC _) dX6_swap_71 rfl ?_ | refine Es_aload_nN (hC _) dX6_swap_71 rfl ?_
  refine Es_bipush (v := -2) (hC _) dX6_swap_72 (by decide) ?_
  refine Es_fV (hC _) mv_X6_93 dX6_swap_74 (r_refuse (k := 2) (by decide) (by decide)) rfl rfl ⟨_, rfl, rfl⟩ rfl rfl (by decide) (Nat.le_of_ble_eq_true rfl) ?_
  exact Es_iret dX6_swap_77 rfl ⟨rfl, rfl, rfl⟩

set_option maxRecDepth 100000 in
set_option maxHeartbeats 4000000 in
theorem r_swap_3ax {ad : sA} {nw nt : Nat} {B : sB} {L : sL} (hnw : B 25 0 4 = nI nw) (h5 : nw ≤ 5) (h40 : nt ≤ 40) {w : Nat} (hw : w < nw) {v : Nat} (hv : v < nw) {pw qw : Nat} (hpw : B 38 0 w = nI pw) (h7w : pw ≤ 7) (hqw : qw < pw) {pv qv : Nat} (hpv : B 38 0 v = nI pv) (h7v : pv ≤ 7) (hqv : qv < pv) (hne : ¬ w = v) {t : Nat} (ht : t < nt) {k : Nat} (hk : B 25 0 7 = nI k) (h6 : k = 600) (honw : B 40 0 (7 * w + qw) = nI t) (honv : B 40 0 (7 * v + qv) = -1)  : Cf yX6_swap cX6_swap 7 (some FieldType.int) 3 [.ref (ad 25 0), .int (nI w), .int (nI qw), .int (nI v), .int (nI qv)] ad nw nt B L (some (.int (-6))) (uB B 30 0 6 (B 30 0 6 + 1)) (L) := by
  have hC : ∀ Q, je_Ok (sCm yX6_swap cX6_swap 7 (some FieldType.int) 3 ad nw nt Q) RX6 cX6_swap 7 3 := fun _ => je_Cm_ok
  refine Cs_of [some (.ref (ad 25 0)), some (.int (nI w)), some (.int (nI qw)), some (.int (nI v)), some (.int (nI qv)), none, none] (by decide) rfl (Nat.le_of_ble_eq_true rfl) ?_
  first | refine Es_aload_n (hC _) dX6_swap_0 rfl ?_ | refine Es_aload_nN (hC _) dX6_swap_0 rfl ?_
  refine Es_iload_n (hC _) dX6_swap_1 rfl ?_
  refine Es_iload_n (hC _) dX6_swap_2 rfl ?_
  refine Es_fV (hC _) mv_X6_121 dX6_swap_3 (r_isPlace_in hnw h5 hw hpw h7w hqw) rfl rfl ⟨_, rfl, rfl⟩ rfl rfl (by decide) (Nat.le_of_ble_eq_true rfl) ?_
  refine Es_if_eq (hC _) 30 dX6_swap_6 (by decide) (fun hb6 => False.elim ((by first | exact absurd hb6 (by decide) | exact absurd hb6 (by assumption) | exact hb6 (by assumption) | exact hb6 rfl | (simp_all [bI]; done)))) (fun hb6 => ?_)
  first | refine Es_aload_n (hC _) dX6_swap_9 rfl ?_ | refine Es_aload_nN (hC _) dX6_swap_9 rfl ?_
  refine Es_iload_n (hC _) dX6_swap_10 rfl ?_
  refine Es_iload (hC _) dX6_swap_11 rfl ?_
  refine Es_fV (hC _) mv_X6_121 dX6_swap_13 (r_isPlace_in hnw h5 hv hpv h7v hqv) rfl rfl ⟨_, rfl, rfl⟩ rfl rfl (by decide) (Nat.le_of_ble_eq_true rfl) ?_
  refine Es_if_eq (hC _) 30 dX6_swap_16 (by decide) (fun hb16 => False.elim ((by first | exact absurd hb16 (by decide) | exact absurd hb16 (by assumption) | exact hb16 (by assumption) | exact hb16 rfl | (simp_all [bI]; done)))) (fun hb16 => ?_)
  refine Es_iload_n (hC _) dX6_swap_19 rfl ?_
  refine Es_iload_n (hC _) dX6_swap_20 rfl ?_
  refine Es_icmp_ne (hC _) 36 dX6_swap_21 (by decide) (fun hb21 => ?_) (fun hb21 => False.elim (hne ((nI_eq (by omega) (by omega)).mp hb21)))
  first | refine Es_aload_n (hC _) dX6_swap_36 rfl ?_ | refine Es_aload_nN (hC _) dX6_swap_36 rfl ?_
  refine Sg_X6_10 (hC _) fl_X6_29 dX6_swap_37 ?_
  refine Es_iload_n (hC _) dX6_swap_40 rfl ?_
  refine Es_iload_n (hC _) dX6_swap_41 rfl ?_
  refine Es_fS (hC _) ms_X6_97 dX6_swap_42 r_spot rfl rfl (by decide) (Nat.le_of_ble_eq_true rfl) ?_
  refine Es_ialdN (hC _) dX6_swap_45 rfl rfl rfl (by omega) (by decide) ?_
  rw [honw]
  refine Es_istore (lv' := [_, _, _, _, _, _, _]) (hC _) dX6_swap_46 (by decide) rfl rfl ?_
  first | refine Es_aload_n (hC _) dX6_swap_48 rfl ?_ | refine Es_aload_nN (hC _) dX6_swap_48 rfl ?_
  refine Sg_X6_10 (hC _) fl_X6_29 dX6_swap_49 ?_
  refine Es_iload_n (hC _) dX6_swap_52 rfl ?_
  refine Es_iload (hC _) dX6_swap_53 rfl ?_
  refine Es_fS (hC _) ms_X6_97 dX6_swap_55 r_spot rfl rfl (by decide) (Nat.le_of_ble_eq_true rfl) ?_
  refine Es_ialdN (hC _) dX6_swap_58 rfl rfl rfl (by omega) (by decide) ?_
  rw [honv]
  refine Es_istore (lv' := [_, _, _, _, _, _, _]) (hC _) dX6_swap_59 (by decide) rfl rfl ?_
  refine Es_iload (hC _) dX6_swap_61 rfl ?_
  refine Es_if_ge (hC _) 78 dX6_swap_63 (by decide) (fun hb63 => ?_) (fun hb63 => False.elim (hb63 (nI_pos' (by omega))))
  first | refine Es_aload_n (hC _) dX6_swap_78 rfl ?_ | refine Es_aload_nN (hC _) dX6_swap_78 rfl ?_
  refine Es_iload (hC _) dX6_swap_79 rfl ?_
  refine Es_if_lt (hC _) 89 dX6_swap_81 (by decide) (fun hb81 => False.elim (nI_pos (by omega) hb81)) (fun hb81 => ?_)
  refine Es_iload (hC _) dX6_swap_84 rfl ?_
  refine Es_if_ge (hC _) 93 dX6_swap_86 (by decide) (fun hb86 => False.elim (absurd hb86 (by decide))) (fun hb86 => ?_)
  refine Es_iconst (v := 1) (hC _) dX6_swap_89 (by decide) ?_
  refine Es_goto (hC _) 94 dX6_swap_90 (by decide) ?_
  refine Es_fV (hC _) mv_X6_110 dX6_swap_94 (r_hasRoom (m := 1) hk (by omega) (by decide)) rfl rfl ⟨_, rfl, rfl⟩ rfl rfl (by decide) (Nat.le_of_ble_eq_true rfl) ?_
  refine Es_if_ne (hC _) 107 dX6_swap_97 (by decide) (fun hb97 => False.elim ((by rw [bI, if_neg (by omega)] at hb97; exact hb97 rfl))) (fun hb97 => ?_)
  first | refine Es_aload_n (hC _) dX6_swap_100 rfl ?_ | refine Es_aload_nN (hC _) dX6_swap_100 rfl ?_
  refine Es_bipush (v := -6) (hC _) dX6_swap_101 (by decide) ?_
  refine Es_fV (hC _) mv_X6_93 dX6_swap_103 (r_refuse (k := 6) (by decide) (by decide)) rfl rfl ⟨_, rfl, rfl⟩ rfl rfl (by decide) (Nat.le_of_ble_eq_true rfl) ?_
  exact Es_iret dX6_swap_106 rfl ⟨rfl, rfl, rfl⟩

set_option maxRecDepth 100000 in
set_option maxHeartbeats 4000000 in
theorem r_swap_3ay {ad : sA} {nw nt : Nat} {B : sB} {L : sL} (hnw : B 25 0 4 = nI nw) (h5 : nw ≤ 5) (h40 : nt ≤ 40) {w : Nat} (hw : w < nw) {v : Nat} (hv : v < nw) {pw qw : Nat} (hpw : B 38 0 w = nI pw) (h7w : pw ≤ 7) (hqw : qw < pw) {pv qv : Nat} (hpv : B 38 0 v = nI pv) (h7v : pv ≤ 7) (hqv : qv < pv) (hne : w = v) (hne2 : ¬ qw = qv) {t : Nat} (ht : t < nt) {k : Nat} (hk : B 25 0 7 = nI k) (h6 : k = 600) (honw : B 40 0 (7 * w + qw) = nI t) (honv : B 40 0 (7 * v + qv) = -1)  : Cf yX6_swap cX6_swap 7 (some FieldType.int) 3 [.ref (ad 25 0), .int (nI w), .int (nI qw), .int (nI v), .int (nI qv)] ad nw nt B L (some (.int (-6))) (uB B 30 0 6 (B 30 0 6 + 1)) (L) := by
  have hC : ∀ Q, je_Ok (sCm yX6_swap cX6_swap 7 (some FieldType.int) 3 ad nw nt Q) RX6 cX6_swap 7 3 := fun _ => je_Cm_ok
  refine Cs_of [some (.ref (ad 25 0)), some (.int (nI w)), some (.int (nI qw)), some (.int (nI v)), some (.int (nI qv)), none, none] (by decide) rfl (Nat.le_of_ble_eq_true rfl) ?_
  first | refine Es_aload_n (hC _) dX6_swap_0 rfl ?_ | refine Es_aload_nN (hC _) dX6_swap_0 rfl ?_
  refine Es_iload_n (hC _) dX6_swap_1 rfl ?_
  refine Es_iload_n (hC _) dX6_swap_2 rfl ?_
  refine Es_fV (hC _) mv_X6_121 dX6_swap_3 (r_isPlace_in hnw h5 hw hpw h7w hqw) rfl rfl ⟨_, rfl, rfl⟩ rfl rfl (by decide) (Nat.le_of_ble_eq_true rfl) ?_
  refine Es_if_eq (hC _) 30 dX6_swap_6 (by decide) (fun hb6 => False.elim ((by first | exact absurd hb6 (by decide) | exact absurd hb6 (by assumption) | exact hb6 (by assumption) | exact hb6 rfl | (simp_all [bI]; done)))) (fun hb6 => ?_)
  first | refine Es_aload_n (hC _) dX6_swap_9 rfl ?_ | refine Es_aload_nN (hC _) dX6_swap_9 rfl ?_
  refine Es_iload_n (hC _) dX6_swap_10 rfl ?_
  refine Es_iload (hC _) dX6_swap_11 rfl ?_
  refine Es_fV (hC _) mv_X6_121 dX6_swap_13 (r_isPlace_in hnw h5 hv hpv h7v hqv) rfl rfl ⟨_, rfl, rfl⟩ rfl rfl (by decide) (Nat.le_of_ble_eq_true rfl) ?_
  refine Es_if_eq (hC _) 30 dX6_swap_16 (by decide) (fun hb16 => False.elim ((by first | exact absurd hb16 (by decide) | exact absurd hb16 (by assumption) | exact hb16 (by assumption) | exact hb16 rfl | (simp_all [bI]; done)))) (fun hb16 => ?_)
  refine Es_iload_n (hC _) dX6_swap_19 rfl ?_
  refine Es_iload_n (hC _) dX6_swap_20 rfl ?_
  refine Es_icmp_ne (hC _) 36 dX6_swap_21 (by decide) (fun hb21 => False.elim (hb21 (by rw [hne]))) (fun hb21 => ?_)
  refine Es_iload_n (hC _) dX6_swap_24 rfl ?_
  refine Es_iload (hC _) dX6_swap_25 rfl ?_
  refine Es_icmp_ne (hC _) 36 dX6_swap_27 (by decide) (fun hb27 => ?_) (fun hb27 => False.elim (hne2 ((nI_eq (by omega) (by omega)).mp hb27)))
  first | refine Es_aload_n (hC _) dX6_swap_36 rfl ?_ | refine Es_aload_nN (hC _) dX6_swap_36 rfl ?_
  refine Sg_X6_10 (hC _) fl_X6_29 dX6_swap_37 ?_
  refine Es_iload_n (hC _) dX6_swap_40 rfl ?_
  refine Es_iload_n (hC _) dX6_swap_41 rfl ?_
  refine Es_fS (hC _) ms_X6_97 dX6_swap_42 r_spot rfl rfl (by decide) (Nat.le_of_ble_eq_true rfl) ?_
  refine Es_ialdN (hC _) dX6_swap_45 rfl rfl rfl (by omega) (by decide) ?_
  rw [honw]
  refine Es_istore (lv' := [_, _, _, _, _, _, _]) (hC _) dX6_swap_46 (by decide) rfl rfl ?_
  first | refine Es_aload_n (hC _) dX6_swap_48 rfl ?_ | refine Es_aload_nN (hC _) dX6_swap_48 rfl ?_
  refine Sg_X6_10 (hC _) fl_X6_29 dX6_swap_49 ?_
  refine Es_iload_n (hC _) dX6_swap_52 rfl ?_
  refine Es_iload (hC _) dX6_swap_53 rfl ?_
  refine Es_fS (hC _) ms_X6_97 dX6_swap_55 r_spot rfl rfl (by decide) (Nat.le_of_ble_eq_true rfl) ?_
  refine Es_ialdN (hC _) dX6_swap_58 rfl rfl rfl (by omega) (by decide) ?_
  rw [honv]
  refine Es_istore (lv' := [_, _, _, _, _, _, _]) (hC _) dX6_swap_59 (by decide) rfl rfl ?_
  refine Es_iload (hC _) dX6_swap_61 rfl ?_
  refine Es_if_ge (hC _) 78 dX6_swap_63 (by decide) (fun hb63 => ?_) (fun hb63 => False.elim (hb63 (nI_pos' (by omega))))
  first | refine Es_aload_n (hC _) dX6_swap_78 rfl ?_ | refine Es_aload_nN (hC _) dX6_swap_78 rfl ?_
  refine Es_iload (hC _) dX6_swap_79 rfl ?_
  refine Es_if_lt (hC _) 89 dX6_swap_81 (by decide) (fun hb81 => False.elim (nI_pos (by omega) hb81)) (fun hb81 => ?_)
  refine Es_iload (hC _) dX6_swap_84 rfl ?_
  refine Es_if_ge (hC _) 93 dX6_swap_86 (by decide) (fun hb86 => False.elim (absurd hb86 (by decide))) (fun hb86 => ?_)
  refine Es_iconst (v := 1) (hC _) dX6_swap_89 (by decide) ?_
  refine Es_goto (hC _) 94 dX6_swap_90 (by decide) ?_
  refine Es_fV (hC _) mv_X6_110 dX6_swap_94 (r_hasRoom (m := 1) hk (by omega) (by decide)) rfl rfl ⟨_, rfl, rfl⟩ rfl rfl (by decide) (Nat.le_of_ble_eq_true rfl) ?_
  refine Es_if_ne (hC _) 107 dX6_swap_97 (by decide) (fun hb97 => False.elim ((by rw [bI, if_neg (by omega)] at hb97; exact hb97 rfl))) (fun hb97 => ?_)
  first | refine Es_aload_n (hC _) dX6_swap_100 rfl ?_ | refine Es_aload_nN (hC _) dX6_swap_100 rfl ?_
  refine Es_bipush (v := -6) (hC _) dX6_swap_101 (by decide) ?_
  refine Es_fV (hC _) mv_X6_93 dX6_swap_103 (r_refuse (k := 6) (by decide) (by decide)) rfl rfl ⟨_, rfl, rfl⟩ rfl rfl (by decide) (Nat.le_of_ble_eq_true rfl) ?_
  exact Es_iret dX6_swap_106 rfl ⟨rfl, rfl, rfl⟩

set_option maxRecDepth 100000 in
set_option maxHeartbeats 4000000 in
theorem r_swap_3bx {ad : sA} {nw nt : Nat} {B : sB} {L : sL} (hnw : B 25 0 4 = nI nw) (h5 : nw ≤ 5) (h40 : nt ≤ 40) {w : Nat} (hw : w < nw) {v : Nat} (hv : v < nw) {pw qw : Nat} (hpw : B 38 0 w = nI pw) (h7w : pw ≤ 7) (hqw : qw < pw) {pv qv : Nat} (hpv : B 38 0 v = nI pv) (h7v : pv ≤ 7) (hqv : qv < pv) (hne : ¬ w = v) {t : Nat} (ht : t < nt) {k : Nat} (hk : B 25 0 7 = nI k) (h6 : k = 600) (honw : B 40 0 (7 * w + qw) = -1) (honv : B 40 0 (7 * v + qv) = nI t)  : Cf yX6_swap cX6_swap 7 (some FieldType.int) 3 [.ref (ad 25 0), .int (nI w), .int (nI qw), .int (nI v), .int (nI qv)] ad nw nt B L (some (.int (-6))) (uB B 30 0 6 (B 30 0 6 + 1)) (L) := by
  have hC : ∀ Q, je_Ok (sCm yX6_swap cX6_swap 7 (some FieldType.int) 3 ad nw nt Q) RX6 cX6_swap 7 3 := fun _ => je_Cm_ok
  refine Cs_of [some (.ref (ad 25 0)), some (.int (nI w)), some (.int (nI qw)), some (.int (nI v)), some (.int (nI qv)), none, none] (by decide) rfl (Nat.le_of_ble_eq_true rfl) ?_
  first | refine Es_aload_n (hC _) dX6_swap_0 rfl ?_ | refine Es_aload_nN (hC _) dX6_swap_0 rfl ?_
  refine Es_iload_n (hC _) dX6_swap_1 rfl ?_
  refine Es_iload_n (hC _) dX6_swap_2 rfl ?_
  refine Es_fV (hC _) mv_X6_121 dX6_swap_3 (r_isPlace_in hnw h5 hw hpw h7w hqw) rfl rfl ⟨_, rfl, rfl⟩ rfl rfl (by decide) (Nat.le_of_ble_eq_true rfl) ?_
  refine Es_if_eq (hC _) 30 dX6_swap_6 (by decide) (fun hb6 => False.elim ((by first | exact absurd hb6 (by decide) | exact absurd hb6 (by assumption) | exact hb6 (by assumption) | exact hb6 rfl | (simp_all [bI]; done)))) (fun hb6 => ?_)
  first | refine Es_aload_n (hC _) dX6_swap_9 rfl ?_ | refine Es_aload_nN (hC _) dX6_swap_9 rfl ?_
  refine Es_iload_n (hC _) dX6_swap_10 rfl ?_
  refine Es_iload (hC _) dX6_swap_11 rfl ?_
  refine Es_fV (hC _) mv_X6_121 dX6_swap_13 (r_isPlace_in hnw h5 hv hpv h7v hqv) rfl rfl ⟨_, rfl, rfl⟩ rfl rfl (by decide) (Nat.le_of_ble_eq_true rfl) ?_
  refine Es_if_eq (hC _) 30 dX6_swap_16 (by decide) (fun hb16 => False.elim ((by first | exact absurd hb16 (by decide) | exact absurd hb16 (by assumption) | exact hb16 (by assumption) | exact hb16 rfl | (simp_all [bI]; done)))) (fun hb16 => ?_)
  refine Es_iload_n (hC _) dX6_swap_19 rfl ?_
  refine Es_iload_n (hC _) dX6_swap_20 rfl ?_
  refine Es_icmp_ne (hC _) 36 dX6_swap_21 (by decide) (fun hb21 => ?_) (fun hb21 => False.elim (hne ((nI_eq (by omega) (by omega)).mp hb21)))
  first | refine Es_aload_n (hC _) dX6_swap_36 rfl ?_ | refine Es_aload_nN (hC _) dX6_swap_36 rfl ?_
  refine Sg_X6_10 (hC _) fl_X6_29 dX6_swap_37 ?_
  refine Es_iload_n (hC _) dX6_swap_40 rfl ?_
  refine Es_iload_n (hC _) dX6_swap_41 rfl ?_
  refine Es_fS (hC _) ms_X6_97 dX6_swap_42 r_spot rfl rfl (by decide) (Nat.le_of_ble_eq_true rfl) ?_
  refine Es_ialdN (hC _) dX6_swap_45 rfl rfl rfl (by omega) (by decide) ?_
  rw [honw]
  refine Es_istore (lv' := [_, _, _, _, _, _, _]) (hC _) dX6_swap_46 (by decide) rfl rfl ?_
  first | refine Es_aload_n (hC _) dX6_swap_48 rfl ?_ | refine Es_aload_nN (hC _) dX6_swap_48 rfl ?_
  refine Sg_X6_10 (hC _) fl_X6_29 dX6_swap_49 ?_
  refine Es_iload_n (hC _) dX6_swap_52 rfl ?_
  refine Es_iload (hC _) dX6_swap_53 rfl ?_
  refine Es_fS (hC _) ms_X6_97 dX6_swap_55 r_spot rfl rfl (by decide) (Nat.le_of_ble_eq_true rfl) ?_
  refine Es_ialdN (hC _) dX6_swap_58 rfl rfl rfl (by omega) (by decide) ?_
  rw [honv]
  refine Es_istore (lv' := [_, _, _, _, _, _, _]) (hC _) dX6_swap_59 (by decide) rfl rfl ?_
  refine Es_iload (hC _) dX6_swap_61 rfl ?_
  refine Es_if_ge (hC _) 78 dX6_swap_63 (by decide) (fun hb63 => False.elim (absurd hb63 (by decide))) (fun hb63 => ?_)
  refine Es_iload (hC _) dX6_swap_66 rfl ?_
  refine Es_if_ge (hC _) 78 dX6_swap_68 (by decide) (fun hb68 => ?_) (fun hb68 => False.elim (hb68 (nI_pos' (by omega))))
  first | refine Es_aload_n (hC _) dX6_swap_78 rfl ?_ | refine Es_aload_nN (hC _) dX6_swap_78 rfl ?_
  refine Es_iload (hC _) dX6_swap_79 rfl ?_
  refine Es_if_lt (hC _) 89 dX6_swap_81 (by decide) (fun hb81 => ?_) (fun hb81 => False.elim (hb81 (by decide)))
  refine Es_iconst (v := 1) (hC _) dX6_swap_89 (by decide) ?_
  refine Es_goto (hC _) 94 dX6_swap_90 (by decide) ?_
  refine Es_fV (hC _) mv_X6_110 dX6_swap_94 (r_hasRoom (m := 1) hk (by omega) (by decide)) rfl rfl ⟨_, rfl, rfl⟩ rfl rfl (by decide) (Nat.le_of_ble_eq_true rfl) ?_
  refine Es_if_ne (hC _) 107 dX6_swap_97 (by decide) (fun hb97 => False.elim ((by rw [bI, if_neg (by omega)] at hb97; exact hb97 rfl))) (fun hb97 => ?_)
  first | refine Es_aload_n (hC _) dX6_swap_100 rfl ?_ | refine Es_aload_nN (hC _) dX6_swap_100 rfl ?_
  refine Es_bipush (v := -6) (hC _) dX6_swap_101 (by decide) ?_
  refine Es_fV (hC _) mv_X6_93 dX6_swap_103 (r_refuse (k := 6) (by decide) (by decide)) rfl rfl ⟨_, rfl, rfl⟩ rfl rfl (by decide) (Nat.le_of_ble_eq_true rfl) ?_
  exact Es_iret dX6_swap_106 rfl ⟨rfl, rfl, rfl⟩

set_option maxRecDepth 100000 in
set_option maxHeartbeats 4000000 in
theorem r_swap_3by {ad : sA} {nw nt : Nat} {B : sB} {L : sL} (hnw : B 25 0 4 = nI nw) (h5 : nw ≤ 5) (h40 : nt ≤ 40) {w : Nat} (hw : w < nw) {v : Nat} (hv : v < nw) {pw qw : Nat} (hpw : B 38 0 w = nI pw) (h7w : pw ≤ 7) (hqw : qw < pw) {pv qv : Nat} (hpv : B 38 0 v = nI pv) (h7v : pv ≤ 7) (hqv : qv < pv) (hne : w = v) (hne2 : ¬ qw = qv) {t : Nat} (ht : t < nt) {k : Nat} (hk : B 25 0 7 = nI k) (h6 : k = 600) (honw : B 40 0 (7 * w + qw) = -1) (honv : B 40 0 (7 * v + qv) = nI t)  : Cf yX6_swap cX6_swap 7 (some FieldType.int) 3 [.ref (ad 25 0), .int (nI w), .int (nI qw), .int (nI v), .int (nI qv)] ad nw nt B L (some (.int (-6))) (uB B 30 0 6 (B 30 0 6 + 1)) (L) := by
  have hC : ∀ Q, je_Ok (sCm yX6_swap cX6_swap 7 (some FieldType.int) 3 ad nw nt Q) RX6 cX6_swap 7 3 := fun _ => je_Cm_ok
  refine Cs_of [some (.ref (ad 25 0)), some (.int (nI w)), some (.int (nI qw)), some (.int (nI v)), some (.int (nI qv)), none, none] (by decide) rfl (Nat.le_of_ble_eq_true rfl) ?_
  first | refine Es_aload_n (hC _) dX6_swap_0 rfl ?_ | refine Es_aload_nN (hC _) dX6_swap_0 rfl ?_
  refine Es_iload_n (hC _) dX6_swap_1 rfl ?_
  refine Es_iload_n (hC _) dX6_swap_2 rfl ?_
  refine Es_fV (hC _) mv_X6_121 dX6_swap_3 (r_isPlace_in hnw h5 hw hpw h7w hqw) rfl rfl ⟨_, rfl, rfl⟩ rfl rfl (by decide) (Nat.le_of_ble_eq_true rfl) ?_
  refine Es_if_eq (hC _) 30 dX6_swap_6 (by decide) (fun hb6 => False.elim ((by first | exact absurd hb6 (by decide) | exact absurd hb6 (by assumption) | exact hb6 (by assumption) | exact hb6 rfl | (simp_all [bI]; done)))) (fun hb6 => ?_)
  first | refine Es_aload_n (hC _) dX6_swap_9 rfl ?_ | refine Es_aload_nN (hC _) dX6_swap_9 rfl ?_
  refine Es_iload_n (hC _) dX6_swap_10 rfl ?_
  refine Es_iload (hC _) dX6_swap_11 rfl ?_
  refine Es_fV (hC _) mv_X6_121 dX6_swap_13 (r_isPlace_in hnw h5 hv hpv h7v hqv) rfl rfl ⟨_, rfl, rfl⟩ rfl rfl (by decide) (Nat.le_of_ble_eq_true rfl) ?_
  refine Es_if_eq (hC _) 30 dX6_swap_16 (by decide) (fun hb16 => False.elim ((by first | exact absurd hb16 (by decide) | exact absurd hb16 (by assumption) | exact hb16 (by assumption) | exact hb16 rfl | (simp_all [bI]; done)))) (fun hb16 => ?_)
  refine Es_iload_n (hC _) dX6_swap_19 rfl ?_
  refine Es_iload_n (hC _) dX6_swap_20 rfl ?_
  refine Es_icmp_ne (hC _) 36 dX6_swap_21 (by decide) (fun hb21 => False.elim (hb21 (by rw [hne]))) (fun hb21 => ?_)
  refine Es_iload_n (hC _) dX6_swap_24 rfl ?_
  refine Es_iload (hC _) dX6_swap_25 rfl ?_
  refine Es_icmp_ne (hC _) 36 dX6_swap_27 (by decide) (fun hb27 => ?_) (fun hb27 => False.elim (hne2 ((nI_eq (by omega) (by omega)).mp hb27)))
  first | refine Es_aload_n (hC _) dX6_swap_36 rfl ?_ | refine Es_aload_nN (hC _) dX6_swap_36 rfl ?_
  refine Sg_X6_10 (hC _) fl_X6_29 dX6_swap_37 ?_
  refine Es_iload_n (hC _) dX6_swap_40 rfl ?_
  refine Es_iload_n (hC _) dX6_swap_41 rfl ?_
  refine Es_fS (hC _) ms_X6_97 dX6_swap_42 r_spot rfl rfl (by decide) (Nat.le_of_ble_eq_true rfl) ?_
  refine Es_ialdN (hC _) dX6_swap_45 rfl rfl rfl (by omega) (by decide) ?_
  rw [honw]
  refine Es_istore (lv' := [_, _, _, _, _, _, _]) (hC _) dX6_swap_46 (by decide) rfl rfl ?_
  first | refine Es_aload_n (hC _) dX6_swap_48 rfl ?_ | refine Es_aload_nN (hC _) dX6_swap_48 rfl ?_
  refine Sg_X6_10 (hC _) fl_X6_29 dX6_swap_49 ?_
  refine Es_iload_n (hC _) dX6_swap_52 rfl ?_
  refine Es_iload (hC _) dX6_swap_53 rfl ?_
  refine Es_fS (hC _) ms_X6_97 dX6_swap_55 r_spot rfl rfl (by decide) (Nat.le_of_ble_eq_true rfl) ?_
  refine Es_ialdN (hC _) dX6_swap_58 rfl rfl rfl (by omega) (by decide) ?_
  rw [honv]
  refine Es_istore (lv' := [_, _, _, _, _, _, _]) (hC _) dX6_swap_59 (by decide) rfl rfl ?_
  refine Es_iload (hC _) dX6_swap_61 rfl ?_
  refine Es_if_ge (hC _) 78 dX6_swap_63 (by decide) (fun hb63 => False.elim (absurd hb63 (by decide))) (fun hb63 => ?_)
  refine Es_iload (hC _) dX6_swap_66 rfl ?_
  refine Es_if_ge (hC _) 78 dX6_swap_68 (by decide) (fun hb68 => ?_) (fun hb68 => False.elim (hb68 (nI_pos' (by omega))))
  first | refine Es_aload_n (hC _) dX6_swap_78 rfl ?_ | refine Es_aload_nN (hC _) dX6_swap_78 rfl ?_
  refine Es_iload (hC _) dX6_swap_79 rfl ?_
  refine Es_if_lt (hC _) 89 dX6_swap_81 (by decide) (fun hb81 => ?_) (fun hb81 => False.elim (hb81 (by decide)))
  refine Es_iconst (v := 1) (hC _) dX6_swap_89 (by decide) ?_
  refine Es_goto (hC _) 94 dX6_swap_90 (by decide) ?_
  refine Es_fV (hC _) mv_X6_110 dX6_swap_94 (r_hasRoom (m := 1) hk (by omega) (by decide)) rfl rfl ⟨_, rfl, rfl⟩ rfl rfl (by decide) (Nat.le_of_ble_eq_true rfl) ?_
  refine Es_if_ne (hC _) 107 dX6_swap_97 (by decide) (fun hb97 => False.elim ((by rw [bI, if_neg (by omega)] at hb97; exact hb97 rfl))) (fun hb97 => ?_)
  first | refine Es_aload_n (hC _) dX6_swap_100 rfl ?_ | refine Es_aload_nN (hC _) dX6_swap_100 rfl ?_
  refine Es_bipush (v := -6) (hC _) dX6_swap_101 (by decide) ?_
  refine Es_fV (hC _) mv_X6_93 dX6_swap_103 (r_refuse (k := 6) (by decide) (by decide)) rfl rfl ⟨_, rfl, rfl⟩ rfl rfl (by decide) (Nat.le_of_ble_eq_true rfl) ?_
  exact Es_iret dX6_swap_106 rfl ⟨rfl, rfl, rfl⟩

set_option maxRecDepth 100000 in
set_option maxHeartbeats 4000000 in
theorem r_swap_3cx {ad : sA} {nw nt : Nat} {B : sB} {L : sL} (hnw : B 25 0 4 = nI nw) (h5 : nw ≤ 5) (h40 : nt ≤ 40) {w : Nat} (hw : w < nw) {v : Nat} (hv : v < nw) {pw qw : Nat} (hpw : B 38 0 w = nI pw) (h7w : pw ≤ 7) (hqw : qw < pw) {pv qv : Nat} (hpv : B 38 0 v = nI pv) (h7v : pv ≤ 7) (hqv : qv < pv) (hne : ¬ w = v) {a b : Nat} (ha : a < nt) (hb : b < nt) {k : Nat} (hk : B 25 0 7 = nI k) (h60 : k ≤ 600) (h6 : ¬ k < 599) (honw : B 40 0 (7 * w + qw) = nI a) (honv : B 40 0 (7 * v + qv) = nI b)  : Cf yX6_swap cX6_swap 7 (some FieldType.int) 3 [.ref (ad 25 0), .int (nI w), .int (nI qw), .int (nI v), .int (nI qv)] ad nw nt B L (some (.int (-6))) (uB B 30 0 6 (B 30 0 6 + 1)) (L) := by
  have hC : ∀ Q, je_Ok (sCm yX6_swap cX6_swap 7 (some FieldType.int) 3 ad nw nt Q) RX6 cX6_swap 7 3 := fun _ => je_Cm_ok
  refine Cs_of [some (.ref (ad 25 0)), some (.int (nI w)), some (.int (nI qw)), some (.int (nI v)), some (.int (nI qv)), none, none] (by decide) rfl (Nat.le_of_ble_eq_true rfl) ?_
  first | refine Es_aload_n (hC _) dX6_swap_0 rfl ?_ | refine Es_aload_nN (hC _) dX6_swap_0 rfl ?_
  refine Es_iload_n (hC _) dX6_swap_1 rfl ?_
  refine Es_iload_n (hC _) dX6_swap_2 rfl ?_
  refine Es_fV (hC _) mv_X6_121 dX6_swap_3 (r_isPlace_in hnw h5 hw hpw h7w hqw) rfl rfl ⟨_, rfl, rfl⟩ rfl rfl (by decide) (Nat.le_of_ble_eq_true rfl) ?_
  refine Es_if_eq (hC _) 30 dX6_swap_6 (by decide) (fun hb6 => False.elim ((by first | exact absurd hb6 (by decide) | exact absurd hb6 (by assumption) | exact hb6 (by assumption) | exact hb6 rfl | (simp_all [bI]; done)))) (fun hb6 => ?_)
  first | refine Es_aload_n (hC _) dX6_swap_9 rfl ?_ | refine Es_aload_nN (hC _) dX6_swap_9 rfl ?_
  refine Es_iload_n (hC _) dX6_swap_10 rfl ?_
  refine Es_iload (hC _) dX6_swap_11 rfl ?_
  refine Es_fV (hC _) mv_X6_121 dX6_swap_13 (r_isPlace_in hnw h5 hv hpv h7v hqv) rfl rfl ⟨_, rfl, rfl⟩ rfl rfl (by decide) (Nat.le_of_ble_eq_true rfl) ?_
  refine Es_if_eq (hC _) 30 dX6_swap_16 (by decide) (fun hb16 => False.elim ((by first | exact absurd hb16 (by decide) | exact absurd hb16 (by assumption) | exact hb16 (by assumption) | exact hb16 rfl | (simp_all [bI]; done)))) (fun hb16 => ?_)
  refine Es_iload_n (hC _) dX6_swap_19 rfl ?_
  refine Es_iload_n (hC _) dX6_swap_20 rfl ?_
  refine Es_icmp_ne (hC _) 36 dX6_swap_21 (by decide) (fun hb21 => ?_) (fun hb21 => False.elim (hne ((nI_eq (by omega) (by omega)).mp hb21)))
  first | refine Es_aload_n (hC _) dX6_swap_36 rfl ?_ | refine Es_aload_nN (hC _) dX6_swap_36 rfl ?_
  refine Sg_X6_10 (hC _) fl_X6_29 dX6_swap_37 ?_
  refine Es_iload_n (hC _) dX6_swap_40 rfl ?_
  refine Es_iload_n (hC _) dX6_swap_41 rfl ?_
  refine Es_fS (hC _) ms_X6_97 dX6_swap_42 r_spot rfl rfl (by decide) (Nat.le_of_ble_eq_true rfl) ?_
  refine Es_ialdN (hC _) dX6_swap_45 rfl rfl rfl (by omega) (by decide) ?_
  rw [honw]
  refine Es_istore (lv' := [_, _, _, _, _, _, _]) (hC _) dX6_swap_46 (by decide) rfl rfl ?_
  first | refine Es_aload_n (hC _) dX6_swap_48 rfl ?_ | refine Es_aload_nN (hC _) dX6_swap_48 rfl ?_
  refine Sg_X6_10 (hC _) fl_X6_29 dX6_swap_49 ?_
  refine Es_iload_n (hC _) dX6_swap_52 rfl ?_
  refine Es_iload (hC _) dX6_swap_53 rfl ?_
  refine Es_fS (hC _) ms_X6_97 dX6_swap_55 r_spot rfl rfl (by decide) (Nat.le_of_ble_eq_true rfl) ?_
  refine Es_ialdN (hC _) dX6_swap_58 rfl rfl rfl (by omega) (by decide) ?_
  rw [honv]
  refine Es_istore (lv' := [_, _, _, _, _, _, _]) (hC _) dX6_swap_59 (by decide) rfl rfl ?_
  refine Es_iload (hC _) dX6_swap_61 rfl ?_
  refine Es_if_ge (hC _) 78 dX6_swap_63 (by decide) (fun hb63 => ?_) (fun hb63 => False.elim (hb63 (nI_pos' (by omega))))
  first | refine Es_aload_n (hC _) dX6_swap_78 rfl ?_ | refine Es_aload_nN (hC _) dX6_swap_78 rfl ?_
  refine Es_iload (hC _) dX6_swap_79 rfl ?_
  refine Es_if_lt (hC _) 89 dX6_swap_81 (by decide) (fun hb81 => False.elim (nI_pos (by omega) hb81)) (fun hb81 => ?_)
  refine Es_iload (hC _) dX6_swap_84 rfl ?_
  refine Es_if_ge (hC _) 93 dX6_swap_86 (by decide) (fun hb86 => ?_) (fun hb86 => False.elim (hb86 (nI_pos' (by omega))))
  refine Es_iconst (v := 2) (hC _) dX6_swap_93 (by decide) ?_
  refine Es_fV (hC _) mv_X6_110 dX6_swap_94 (r_hasRoom (m := 2) hk (by omega) (by decide)) rfl rfl ⟨_, rfl, rfl⟩ rfl rfl (by decide) (Nat.le_of_ble_eq_true rfl) ?_
  refine Es_if_ne (hC _) 107 dX6_swap_97 (by decide) (fun hb97 => False.elim ((by rw [bI, if_neg (by omega)] at hb97; exact hb97 rfl))) (fun hb97 => ?_)
  first | refine Es_aload_n (hC _) dX6_swap_100 rfl ?_ | refine Es_aload_nN (hC _) dX6_swap_100 rfl ?_
  refine Es_bipush (v := -6) (hC _) dX6_swap_101 (by decide) ?_
  refine Es_fV (hC _) mv_X6_93 dX6_swap_103 (r_refuse (k := 6) (by decide) (by decide)) rfl rfl ⟨_, rfl, rfl⟩ rfl rfl (by decide) (Nat.le_of_ble_eq_true rfl) ?_
  exact Es_iret dX6_swap_106 rfl ⟨rfl, rfl, rfl⟩

set_option maxRecDepth 100000 in
set_option maxHeartbeats 4000000 in
theorem r_swap_3cy {ad : sA} {nw nt : Nat} {B : sB} {L : sL} (hnw : B 25 0 4 = nI nw) (h5 : nw ≤ 5) (h40 : nt ≤ 40) {w : Nat} (hw : w < nw) {v : Nat} (hv : v < nw) {pw qw : Nat} (hpw : B 38 0 w = nI pw) (h7w : pw ≤ 7) (hqw : qw < pw) {pv qv : Nat} (hpv : B 38 0 v = nI pv) (h7v : pv ≤ 7) (hqv : qv < pv) (hne : w = v) (hne2 : ¬ qw = qv) {a b : Nat} (ha : a < nt) (hb : b < nt) {k : Nat} (hk : B 25 0 7 = nI k) (h60 : k ≤ 600) (h6 : ¬ k < 599) (honw : B 40 0 (7 * w + qw) = nI a) (honv : B 40 0 (7 * v + qv) = nI b)  : Cf yX6_swap cX6_swap 7 (some FieldType.int) 3 [.ref (ad 25 0), .int (nI w), .int (nI qw), .int (nI v), .int (nI qv)] ad nw nt B L (some (.int (-6))) (uB B 30 0 6 (B 30 0 6 + 1)) (L) := by
  have hC : ∀ Q, je_Ok (sCm yX6_swap cX6_swap 7 (some FieldType.int) 3 ad nw nt Q) RX6 cX6_swap 7 3 := fun _ => je_Cm_ok
  refine Cs_of [some (.ref (ad 25 0)), some (.int (nI w)), some (.int (nI qw)), some (.int (nI v)), some (.int (nI qv)), none, none] (by decide) rfl (Nat.le_of_ble_eq_true rfl) ?_
  first | refine Es_aload_n (hC _) dX6_swap_0 rfl ?_ | refine Es_aload_nN (hC _) dX6_swap_0 rfl ?_
  refine Es_iload_n (hC _) dX6_swap_1 rfl ?_
  refine Es_iload_n (hC _) dX6_swap_2 rfl ?_
  refine Es_fV (hC _) mv_X6_121 dX6_swap_3 (r_isPlace_in hnw h5 hw hpw h7w hqw) rfl rfl ⟨_, rfl, rfl⟩ rfl rfl (by decide) (Nat.le_of_ble_eq_true rfl) ?_
  refine Es_if_eq (hC _) 30 dX6_swap_6 (by decide) (fun hb6 => False.elim ((by first | exact absurd hb6 (by decide) | exact absurd hb6 (by assumption) | exact hb6 (by assumption) | exact hb6 rfl | (simp_all [bI]; done)))) (fun hb6 => ?_)
  first | refine Es_aload_n (hC _) dX6_swap_9 rfl ?_ | refine Es_aload_nN (hC _) dX6_swap_9 rfl ?_
  refine Es_iload_n (hC _) dX6_swap_10 rfl ?_
  refine Es_iload (hC _) dX6_swap_11 rfl ?_
  refine Es_fV (hC _) mv_X6_121 dX6_swap_13 (r_isPlace_in hnw h5 hv hpv h7v hqv) rfl rfl ⟨_, rfl, rfl⟩ rfl rfl (by decide) (Nat.le_of_ble_eq_true rfl) ?_
  refine Es_if_eq (hC _) 30 dX6_swap_16 (by decide) (fun hb16 => False.elim ((by first | exact absurd hb16 (by decide) | exact absurd hb16 (by assumption) | exact hb16 (by assumption) | exact hb16 rfl | (simp_all [bI]; done)))) (fun hb16 => ?_)
  refine Es_iload_n (hC _) dX6_swap_19 rfl ?_
  refine Es_iload_n (hC _) dX6_swap_20 rfl ?_
  refine Es_icmp_ne (hC _) 36 dX6_swap_21 (by decide) (fun hb21 => False.elim (hb21 (by rw [hne]))) (fun hb21 => ?_)
  refine Es_iload_n (hC _) dX6_swap_24 rfl ?_
  refine Es_iload (hC _) dX6_swap_25 rfl ?_
  refine Es_icmp_ne (hC _) 36 dX6_swap_27 (by decide) (fun hb27 => ?_) (fun hb27 => False.elim (hne2 ((nI_eq (by omega) (by omega)).mp hb27)))
  first | refine Es_aload_n (hC _) dX6_swap_36 rfl ?_ | refine Es_aload_nN (hC _) dX6_swap_36 rfl ?_
  refine Sg_X6_10 (hC _) fl_X6_29 dX6_swap_37 ?_
  refine Es_iload_n (hC _) dX6_swap_40 rfl ?_
  refine Es_iload_n (hC _) dX6_swap_41 rfl ?_
  refine Es_fS (hC _) ms_X6_97 dX6_swap_42 r_spot rfl rfl (by decide) (Nat.le_of_ble_eq_true rfl) ?_
  refine Es_ialdN (hC _) dX6_swap_45 rfl rfl rfl (by omega) (by decide) ?_
  rw [honw]
  refine Es_istore (lv' := [_, _, _, _, _, _, _]) (hC _) dX6_swap_46 (by decide) rfl rfl ?_
  first | refine Es_aload_n (hC _) dX6_swap_48 rfl ?_ | refine Es_aload_nN (hC _) dX6_swap_48 rfl ?_
  refine Sg_X6_10 (hC _) fl_X6_29 dX6_swap_49 ?_
  refine Es_iload_n (hC _) dX6_swap_52 rfl ?_
  refine Es_iload (hC _) dX6_swap_53 rfl ?_
  refine Es_fS (hC _) ms_X6_97 dX6_swap_55 r_spot rfl rfl (by decide) (Nat.le_of_ble_eq_true rfl) ?_
  refine Es_ialdN (hC _) dX6_swap_58 rfl rfl rfl (by omega) (by decide) ?_
  rw [honv]
  refine Es_istore (lv' := [_, _, _, _, _, _, _]) (hC _) dX6_swap_59 (by decide) rfl rfl ?_
  refine Es_iload (hC _) dX6_swap_61 rfl ?_
  refine Es_if_ge (hC _) 78 dX6_swap_63 (by decide) (fun hb63 => ?_) (fun hb63 => False.elim (hb63 (nI_pos' (by omega))))
  first | refine Es_aload_n (hC _) dX6_swap_78 rfl ?_ | refine Es_aload_nN (hC _) dX6_swap_78 rfl ?_
  refine Es_iload (hC _) dX6_swap_79 rfl ?_
  refine Es_if_lt (hC _) 89 dX6_swap_81 (by decide) (fun hb81 => False.elim (nI_pos (by omega) hb81)) (fun hb81 => ?_)
  refine Es_iload (hC _) dX6_swap_84 rfl ?_
  refine Es_if_ge (hC _) 93 dX6_swap_86 (by decide) (fun hb86 => ?_) (fun hb86 => False.elim (hb86 (nI_pos' (by omega))))
  refine Es_iconst (v := 2) (hC _) dX6_swap_93 (by decide) ?_
  refine Es_fV (hC _) mv_X6_110 dX6_swap_94 (r_hasRoom (m := 2) hk (by omega) (by decide)) rfl rfl ⟨_, rfl, rfl⟩ rfl rfl (by decide) (Nat.le_of_ble_eq_true rfl) ?_
  refine Es_if_ne (hC _) 107 dX6_swap_97 (by decide) (fun hb97 => False.elim ((by rw [bI, if_neg (by omega)] at hb97; exact hb97 rfl))) (fun hb97 => ?_)
  first | refine Es_aload_n (hC _) dX6_swap_100 rfl ?_ | refine Es_aload_nN (hC _) dX6_swap_100 rfl ?_
  refine Es_bipush (v := -6) (hC _) dX6_swap_101 (by decide) ?_
  refine Es_fV (hC _) mv_X6_93 dX6_swap_103 (r_refuse (k := 6) (by decide) (by decide)) rfl rfl ⟨_, rfl, rfl⟩ rfl rfl (by decide) (Nat.le_of_ble_eq_true rfl) ?_
  exact Es_iret dX6_swap_106 rfl ⟨rfl, rfl, rfl⟩

set_option maxRecDepth 100000 in
set_option maxHeartbeats 4000000 in
theorem r_swap_4ax {ad : sA} {nw nt : Nat} {B : sB} {L : sL} (hnw : B 25 0 4 = nI nw) (h5 : nw ≤ 5) (h40 : nt ≤ 40) {w : Nat} (hw : w < nw) {v : Nat} (hv : v < nw) {pw qw : Nat} (hpw : B 38 0 w = nI pw) (h7w : pw ≤ 7) (hqw : qw < pw) {pv qv : Nat} (hpv : B 38 0 v = nI pv) (h7v : pv ≤ 7) (hqv : qv < pv) (hne : ¬ w = v) {t : Nat} (ht : t < nt) {k : Nat} (hk : B 25 0 7 = nI k) (h6 : k < 600) (honw : B 40 0 (7 * w + qw) = nI t) (honv : B 40 0 (7 * v + qv) = -1)  : Cf yX6_swap cX6_swap 7 (some FieldType.int) 3 [.ref (ad 25 0), .int (nI w), .int (nI qw), .int (nI v), .int (nI qv)] ad nw nt B L (some (.int 1)) (rLog (uB (uB (uB B 40 0 (7 * w + qw) (-1)) 40 0 (7 * v + qv) (nI t)) 47 0 t (nI (10 * v + qv))) k t) (L) := by
  have hC : ∀ Q, je_Ok (sCm yX6_swap cX6_swap 7 (some FieldType.int) 3 ad nw nt Q) RX6 cX6_swap 7 3 := fun _ => je_Cm_ok
  refine Cs_of [some (.ref (ad 25 0)), some (.int (nI w)), some (.int (nI qw)), some (.int (nI v)), some (.int (nI qv)), none, none] (by decide) rfl (Nat.le_of_ble_eq_true rfl) ?_
  first | refine Es_aload_n (hC _) dX6_swap_0 rfl ?_ | refine Es_aload_nN (hC _) dX6_swap_0 rfl ?_
  refine Es_iload_n (hC _) dX6_swap_1 rfl ?_
  refine Es_iload_n (hC _) dX6_swap_2 rfl ?_
  refine Es_fV (hC _) mv_X6_121 dX6_swap_3 (r_isPlace_in hnw h5 hw hpw h7w hqw) rfl rfl ⟨_, rfl, rfl⟩ rfl rfl (by decide) (Nat.le_of_ble_eq_true rfl) ?_
  refine Es_if_eq (hC _) 30 dX6_swap_6 (by decide) (fun hb6 => False.elim ((by first | exact absurd hb6 (by decide) | exact absurd hb6 (by assumption) | exact hb6 (by assumption) | exact hb6 rfl | (simp_all [bI]; done)))) (fun hb6 => ?_)
  first | refine Es_aload_n (hC _) dX6_swap_9 rfl ?_ | refine Es_aload_nN (hC _) dX6_swap_9 rfl ?_
  refine Es_iload_n (hC _) dX6_swap_10 rfl ?_
  refine Es_iload (hC _) dX6_swap_11 rfl ?_
  refine Es_fV (hC _) mv_X6_121 dX6_swap_13 (r_isPlace_in hnw h5 hv hpv h7v hqv) rfl rfl ⟨_, rfl, rfl⟩ rfl rfl (by decide) (Nat.le_of_ble_eq_true rfl) ?_
  refine Es_if_eq (hC _) 30 dX6_swap_16 (by decide) (fun hb16 => False.elim ((by first | exact absurd hb16 (by decide) | exact absurd hb16 (by assumption) | exact hb16 (by assumption) | exact hb16 rfl | (simp_all [bI]; done)))) (fun hb16 => ?_)
  refine Es_iload_n (hC _) dX6_swap_19 rfl ?_
  refine Es_iload_n (hC _) dX6_swap_20 rfl ?_
  refine Es_icmp_ne (hC _) 36 dX6_swap_21 (by decide) (fun hb21 => ?_) (fun hb21 => False.elim (hne ((nI_eq (by omega) (by omega)).mp hb21)))
  first | refine Es_aload_n (hC _) dX6_swap_36 rfl ?_ | refine Es_aload_nN (hC _) dX6_swap_36 rfl ?_
  refine Sg_X6_10 (hC _) fl_X6_29 dX6_swap_37 ?_
  refine Es_iload_n (hC _) dX6_swap_40 rfl ?_
  refine Es_iload_n (hC _) dX6_swap_41 rfl ?_
  refine Es_fS (hC _) ms_X6_97 dX6_swap_42 r_spot rfl rfl (by decide) (Nat.le_of_ble_eq_true rfl) ?_
  refine Es_ialdN (hC _) dX6_swap_45 rfl rfl rfl (by omega) (by decide) ?_
  rw [honw]
  refine Es_istore (lv' := [_, _, _, _, _, _, _]) (hC _) dX6_swap_46 (by decide) rfl rfl ?_
  first | refine Es_aload_n (hC _) dX6_swap_48 rfl ?_ | refine Es_aload_nN (hC _) dX6_swap_48 rfl ?_
  refine Sg_X6_10 (hC _) fl_X6_29 dX6_swap_49 ?_
  refine Es_iload_n (hC _) dX6_swap_52 rfl ?_
  refine Es_iload (hC _) dX6_swap_53 rfl ?_
  refine Es_fS (hC _) ms_X6_97 dX6_swap_55 r_spot rfl rfl (by decide) (Nat.le_of_ble_eq_true rfl) ?_
  refine Es_ialdN (hC _) dX6_swap_58 rfl rfl rfl (by omega) (by decide) ?_
  rw [honv]
  refine Es_istore (lv' := [_, _, _, _, _, _, _]) (hC _) dX6_swap_59 (by decide) rfl rfl ?_
  refine Es_iload (hC _) dX6_swap_61 rfl ?_
  refine Es_if_ge (hC _) 78 dX6_swap_63 (by decide) (fun hb63 => ?_) (fun hb63 => False.elim (hb63 (nI_pos' (by omega))))
  first | refine Es_aload_n (hC _) dX6_swap_78 rfl ?_ | refine Es_aload_nN (hC _) dX6_swap_78 rfl ?_
  refine Es_iload (hC _) dX6_swap_79 rfl ?_
  refine Es_if_lt (hC _) 89 dX6_swap_81 (by decide) (fun hb81 => False.elim (nI_pos (by omega) hb81)) (fun hb81 => ?_)
  refine Es_iload (hC _) dX6_swap_84 rfl ?_
  refine Es_if_ge (hC _) 93 dX6_swap_86 (by decide) (fun hb86 => False.elim (absurd hb86 (by decide))) (fun hb86 => ?_)
  refine Es_iconst (v := 1) (hC _) dX6_swap_89 (by decide) ?_
  refine Es_goto (hC _) 94 dX6_swap_90 (by decide) ?_
  refine Es_fV (hC _) mv_X6_110 dX6_swap_94 (r_hasRoom (m := 1) hk (by omega) (by decide)) rfl rfl ⟨_, rfl, rfl⟩ rfl rfl (by decide) (Nat.le_of_ble_eq_true rfl) ?_
  refine Es_if_ne (hC _) 107 dX6_swap_97 (by decide) (fun hb97 => ?_) (fun hb97 => False.elim (absurd hb97 (by rw [bI, if_pos (by omega)]; decide)))
  first | refine Es_aload_n (hC _) dX6_swap_107 rfl ?_ | refine Es_aload_nN (hC _) dX6_swap_107 rfl ?_
  refine Sg_X6_10 (hC _) fl_X6_29 dX6_swap_108 ?_
  refine Es_iload_n (hC _) dX6_swap_111 rfl ?_
  refine Es_iload_n (hC _) dX6_swap_112 rfl ?_
  refine Es_fS (hC _) ms_X6_97 dX6_swap_113 r_spot rfl rfl (by decide) (Nat.le_of_ble_eq_true rfl) ?_
  refine Es_iload (hC _) dX6_swap_116 rfl ?_
  refine Es_iastN (hC _) dX6_swap_118 rfl (fun _ => rfl) rfl (by omega) (by decide) ?_
  first | refine Es_aload_n (hC _) dX6_swap_119 rfl ?_ | refine Es_aload_nN (hC _) dX6_swap_119 rfl ?_
  refine Sg_X6_10 (hC _) fl_X6_29 dX6_swap_120 ?_
  refine Es_iload_n (hC _) dX6_swap_123 rfl ?_
  refine Es_iload (hC _) dX6_swap_124 rfl ?_
  refine Es_fS (hC _) ms_X6_97 dX6_swap_126 r_spot rfl rfl (by decide) (Nat.le_of_ble_eq_true rfl) ?_
  refine Es_iload (hC _) dX6_swap_129 rfl ?_
  refine Es_iastN (hC _) dX6_swap_131 rfl (fun _ => rfl) rfl (by omega) (by decide) ?_
  refine Es_iload (hC _) dX6_swap_132 rfl ?_
  refine Es_if_lt (hC _) 150 dX6_swap_134 (by decide) (fun hb134 => False.elim (nI_pos (by omega) hb134)) (fun hb134 => ?_)
  first | refine Es_aload_n (hC _) dX6_swap_137 rfl ?_ | refine Es_aload_nN (hC _) dX6_swap_137 rfl ?_
  refine Es_iload (hC _) dX6_swap_138 rfl ?_
  refine Es_bipush (v := 10) (hC _) dX6_swap_140 (by decide) ?_
  refine Es_iload_n (hC _) dX6_swap_142 rfl ?_
  refine Es_imul (hC _) dX6_swap_143 ?_
  refine Es_iload (hC _) dX6_swap_144 rfl ?_
  refine Es_iadd (hC _) dX6_swap_146 ?_
  rw [show (10 : Int32) = nI 10 from rfl, pk_mul, nI_add]
  refine Es_fV (hC _) mv_X6_124 dX6_swap_147 (r_lays (k := k) (by omega) (by simp [uB, rLog, hk]) h6) rfl rfl ⟨_, rfl, rfl⟩ rfl rfl (by decide) (Nat.le_of_ble_eq_true rfl) ?_
  refine Es_iload (hC _) dX6_swap_150 rfl ?_
  refine Es_if_lt (hC _) 167 dX6_swap_152 (by decide) (fun hb152 => ?_) (fun hb152 => False.elim (hb152 (by decide)))
  refine Es_iconst (v := 1) (hC _) dX6_swap_167 (by decide) ?_
  exact Es_iret dX6_swap_168 rfl ⟨rfl, rfl, rfl⟩

set_option maxRecDepth 100000 in
set_option maxHeartbeats 4000000 in
theorem r_swap_4ay {ad : sA} {nw nt : Nat} {B : sB} {L : sL} (hnw : B 25 0 4 = nI nw) (h5 : nw ≤ 5) (h40 : nt ≤ 40) {w : Nat} (hw : w < nw) {v : Nat} (hv : v < nw) {pw qw : Nat} (hpw : B 38 0 w = nI pw) (h7w : pw ≤ 7) (hqw : qw < pw) {pv qv : Nat} (hpv : B 38 0 v = nI pv) (h7v : pv ≤ 7) (hqv : qv < pv) (hne : w = v) (hne2 : ¬ qw = qv) {t : Nat} (ht : t < nt) {k : Nat} (hk : B 25 0 7 = nI k) (h6 : k < 600) (honw : B 40 0 (7 * w + qw) = nI t) (honv : B 40 0 (7 * v + qv) = -1)  : Cf yX6_swap cX6_swap 7 (some FieldType.int) 3 [.ref (ad 25 0), .int (nI w), .int (nI qw), .int (nI v), .int (nI qv)] ad nw nt B L (some (.int 1)) (rLog (uB (uB (uB B 40 0 (7 * w + qw) (-1)) 40 0 (7 * v + qv) (nI t)) 47 0 t (nI (10 * v + qv))) k t) (L) := by
  have hC : ∀ Q, je_Ok (sCm yX6_swap cX6_swap 7 (some FieldType.int) 3 ad nw nt Q) RX6 cX6_swap 7 3 := fun _ => je_Cm_ok
  refine Cs_of [some (.ref (ad 25 0)), some (.int (nI w)), some (.int (nI qw)), some (.int (nI v)), some (.int (nI qv)), none, none] (by decide) rfl (Nat.le_of_ble_eq_true rfl) ?_
  first | refine Es_aload_n (hC _) dX6_swap_0 rfl ?_ | refine Es_aload_nN (hC _) dX6_swap_0 rfl ?_
  refine Es_iload_n (hC _) dX6_swap_1 rfl ?_
  refine Es_iload_n (hC _) dX6_swap_2 rfl ?_
  refine Es_fV (hC _) mv_X6_121 dX6_swap_3 (r_isPlace_in hnw h5 hw hpw h7w hqw) rfl rfl ⟨_, rfl, rfl⟩ rfl rfl (by decide) (Nat.le_of_ble_eq_true rfl) ?_
  refine Es_if_eq (hC _) 30 dX6_swap_6 (by decide) (fun hb6 => False.elim ((by first | exact absurd hb6 (by decide) | exact absurd hb6 (by assumption) | exact hb6 (by assumption) | exact hb6 rfl | (simp_all [bI]; done)))) (fun hb6 => ?_)
  first | refine Es_aload_n (hC _) dX6_swap_9 rfl ?_ | refine Es_aload_nN (hC _) dX6_swap_9 rfl ?_
  refine Es_iload_n (hC _) dX6_swap_10 rfl ?_
  refine Es_iload (hC _) dX6_swap_11 rfl ?_
  refine Es_fV (hC _) mv_X6_121 dX6_swap_13 (r_isPlace_in hnw h5 hv hpv h7v hqv) rfl rfl ⟨_, rfl, rfl⟩ rfl rfl (by decide) (Nat.le_of_ble_eq_true rfl) ?_
  refine Es_if_eq (hC _) 30 dX6_swap_16 (by decide) (fun hb16 => False.elim ((by first | exact absurd hb16 (by decide) | exact absurd hb16 (by assumption) | exact hb16 (by assumption) | exact hb16 rfl | (simp_all [bI]; done)))) (fun hb16 => ?_)
  refine Es_iload_n (hC _) dX6_swap_19 rfl ?_
  refine Es_iload_n (hC _) dX6_swap_20 rfl ?_
  refine Es_icmp_ne (hC _) 36 dX6_swap_21 (by decide) (fun hb21 => False.elim (hb21 (by rw [hne]))) (fun hb21 => ?_)
  refine Es_iload_n (hC _) dX6_swap_24 rfl ?_
  refine Es_iload (hC _) dX6_swap_25 rfl ?_
  refine Es_icmp_ne (hC _) 36 dX6_swap_27 (by decide) (fun hb27 => ?_) (fun hb27 => False.elim (hne2 ((nI_eq (by omega) (by omega)).mp hb27)))
  first | refine Es_aload_n (hC _) dX6_swap_36 rfl ?_ | refine Es_aload_nN (hC _) dX6_swap_36 rfl ?_
  refine Sg_X6_10 (hC _) fl_X6_29 dX6_swap_37 ?_
  refine Es_iload_n (hC _) dX6_swap_40 rfl ?_
  refine Es_iload_n (hC _) dX6_swap_41 rfl ?_
  refine Es_fS (hC _) ms_X6_97 dX6_swap_42 r_spot rfl rfl (by decide) (Nat.le_of_ble_eq_true rfl) ?_
  refine Es_ialdN (hC _) dX6_swap_45 rfl rfl rfl (by omega) (by decide) ?_
  rw [honw]
  refine Es_istore (lv' := [_, _, _, _, _, _, _]) (hC _) dX6_swap_46 (by decide) rfl rfl ?_
  first | refine Es_aload_n (hC _) dX6_swap_48 rfl ?_ | refine Es_aload_nN (hC _) dX6_swap_48 rfl ?_
  refine Sg_X6_10 (hC _) fl_X6_29 dX6_swap_49 ?_
  refine Es_iload_n (hC _) dX6_swap_52 rfl ?_
  refine Es_iload (hC _) dX6_swap_53 rfl ?_
  refine Es_fS (hC _) ms_X6_97 dX6_swap_55 r_spot rfl rfl (by decide) (Nat.le_of_ble_eq_true rfl) ?_
  refine Es_ialdN (hC _) dX6_swap_58 rfl rfl rfl (by omega) (by decide) ?_
  rw [honv]
  refine Es_istore (lv' := [_, _, _, _, _, _, _]) (hC _) dX6_swap_59 (by decide) rfl rfl ?_
  refine Es_iload (hC _) dX6_swap_61 rfl ?_
  refine Es_if_ge (hC _) 78 dX6_swap_63 (by decide) (fun hb63 => ?_) (fun hb63 => False.elim (hb63 (nI_pos' (by omega))))
  first | refine Es_aload_n (hC _) dX6_swap_78 rfl ?_ | refine Es_aload_nN (hC _) dX6_swap_78 rfl ?_
  refine Es_iload (hC _) dX6_swap_79 rfl ?_
  refine Es_if_lt (hC _) 89 dX6_swap_81 (by decide) (fun hb81 => False.elim (nI_pos (by omega) hb81)) (fun hb81 => ?_)
  refine Es_iload (hC _) dX6_swap_84 rfl ?_
  refine Es_if_ge (hC _) 93 dX6_swap_86 (by decide) (fun hb86 => False.elim (absurd hb86 (by decide))) (fun hb86 => ?_)
  refine Es_iconst (v := 1) (hC _) dX6_swap_89 (by decide) ?_
  refine Es_goto (hC _) 94 dX6_swap_90 (by decide) ?_
  refine Es_fV (hC _) mv_X6_110 dX6_swap_94 (r_hasRoom (m := 1) hk (by omega) (by decide)) rfl rfl ⟨_, rfl, rfl⟩ rfl rfl (by decide) (Nat.le_of_ble_eq_true rfl) ?_
  refine Es_if_ne (hC _) 107 dX6_swap_97 (by decide) (fun hb97 => ?_) (fun hb97 => False.elim (absurd hb97 (by rw [bI, if_pos (by omega)]; decide)))
  first | refine Es_aload_n (hC _) dX6_swap_107 rfl ?_ | refine Es_aload_nN (hC _) dX6_swap_107 rfl ?_
  refine Sg_X6_10 (hC _) fl_X6_29 dX6_swap_108 ?_
  refine Es_iload_n (hC _) dX6_swap_111 rfl ?_
  refine Es_iload_n (hC _) dX6_swap_112 rfl ?_
  refine Es_fS (hC _) ms_X6_97 dX6_swap_113 r_spot rfl rfl (by decide) (Nat.le_of_ble_eq_true rfl) ?_
  refine Es_iload (hC _) dX6_swap_116 rfl ?_
  refine Es_iastN (hC _) dX6_swap_118 rfl (fun _ => rfl) rfl (by omega) (by decide) ?_
  first | refine Es_aload_n (hC _) dX6_swap_119 rfl ?_ | refine Es_aload_nN (hC _) dX6_swap_119 rfl ?_
  refine Sg_X6_10 (hC _) fl_X6_29 dX6_swap_120 ?_
  refine Es_iload_n (hC _) dX6_swap_123 rfl ?_
  refine Es_iload (hC _) dX6_swap_124 rfl ?_
  refine Es_fS (hC _) ms_X6_97 dX6_swap_126 r_spot rfl rfl (by decide) (Nat.le_of_ble_eq_true rfl) ?_
  refine Es_iload (hC _) dX6_swap_129 rfl ?_
  refine Es_iastN (hC _) dX6_swap_131 rfl (fun _ => rfl) rfl (by omega) (by decide) ?_
  refine Es_iload (hC _) dX6_swap_132 rfl ?_
  refine Es_if_lt (hC _) 150 dX6_swap_134 (by decide) (fun hb134 => False.elim (nI_pos (by omega) hb134)) (fun hb134 => ?_)
  first | refine Es_aload_n (hC _) dX6_swap_137 rfl ?_ | refine Es_aload_nN (hC _) dX6_swap_137 rfl ?_
  refine Es_iload (hC _) dX6_swap_138 rfl ?_
  refine Es_bipush (v := 10) (hC _) dX6_swap_140 (by decide) ?_
  refine Es_iload_n (hC _) dX6_swap_142 rfl ?_
  refine Es_imul (hC _) dX6_swap_143 ?_
  refine Es_iload (hC _) dX6_swap_144 rfl ?_
  refine Es_iadd (hC _) dX6_swap_146 ?_
  rw [show (10 : Int32) = nI 10 from rfl, pk_mul, nI_add]
  refine Es_fV (hC _) mv_X6_124 dX6_swap_147 (r_lays (k := k) (by omega) (by simp [uB, rLog, hk]) h6) rfl rfl ⟨_, rfl, rfl⟩ rfl rfl (by decide) (Nat.le_of_ble_eq_true rfl) ?_
  refine Es_iload (hC _) dX6_swap_150 rfl ?_
  refine Es_if_lt (hC _) 167 dX6_swap_152 (by decide) (fun hb152 => ?_) (fun hb152 => False.elim (hb152 (by decide)))
  refine Es_iconst (v := 1) (hC _) dX6_swap_167 (by decide) ?_
  exact Es_iret dX6_swap_168 rfl ⟨rfl, rfl, rfl⟩

set_option maxRecDepth 100000 in
set_option maxHeartbeats 4000000 in
theorem r_swap_4bx {ad : sA} {nw nt : Nat} {B : sB} {L : sL} (hnw : B 25 0 4 = nI nw) (h5 : nw ≤ 5) (h40 : nt ≤ 40) {w : Nat} (hw : w < nw) {v : Nat} (hv : v < nw) {pw qw : Nat} (hpw : B 38 0 w = nI pw) (h7w : pw ≤ 7) (hqw : qw < pw) {pv qv : Nat} (hpv : B 38 0 v = nI pv) (h7v : pv ≤ 7) (hqv : qv < pv) (hne : ¬ w = v) {t : Nat} (ht : t < nt) {k : Nat} (hk : B 25 0 7 = nI k) (h6 : k < 600) (honw : B 40 0 (7 * w + qw) = -1) (honv : B 40 0 (7 * v + qv) = nI t)  : Cf yX6_swap cX6_swap 7 (some FieldType.int) 3 [.ref (ad 25 0), .int (nI w), .int (nI qw), .int (nI v), .int (nI qv)] ad nw nt B L (some (.int 1)) (rLog (uB (uB (uB B 40 0 (7 * w + qw) (nI t)) 40 0 (7 * v + qv) (-1)) 47 0 t (nI (10 * w + qw))) k t) (L) := by
  have hC : ∀ Q, je_Ok (sCm yX6_swap cX6_swap 7 (some FieldType.int) 3 ad nw nt Q) RX6 cX6_swap 7 3 := fun _ => je_Cm_ok
  refine Cs_of [some (.ref (ad 25 0)), some (.int (nI w)), some (.int (nI qw)), some (.int (nI v)), some (.int (nI qv)), none, none] (by decide) rfl (Nat.le_of_ble_eq_true rfl) ?_
  first | refine Es_aload_n (hC _) dX6_swap_0 rfl ?_ | refine Es_aload_nN (hC _) dX6_swap_0 rfl ?_
  refine Es_iload_n (hC _) dX6_swap_1 rfl ?_
  refine Es_iload_n (hC _) dX6_swap_2 rfl ?_
  refine Es_fV (hC _) mv_X6_121 dX6_swap_3 (r_isPlace_in hnw h5 hw hpw h7w hqw) rfl rfl ⟨_, rfl, rfl⟩ rfl rfl (by decide) (Nat.le_of_ble_eq_true rfl) ?_
  refine Es_if_eq (hC _) 30 dX6_swap_6 (by decide) (fun hb6 => False.elim ((by first | exact absurd hb6 (by decide) | exact absurd hb6 (by assumption) | exact hb6 (by assumption) | exact hb6 rfl | (simp_all [bI]; done)))) (fun hb6 => ?_)
  first | refine Es_aload_n (hC _) dX6_swap_9 rfl ?_ | refine Es_aload_nN (hC _) dX6_swap_9 rfl ?_
  refine Es_iload_n (hC _) dX6_swap_10 rfl ?_
  refine Es_iload (hC _) dX6_swap_11 rfl ?_
  refine Es_fV (hC _) mv_X6_121 dX6_swap_13 (r_isPlace_in hnw h5 hv hpv h7v hqv) rfl rfl ⟨_, rfl, rfl⟩ rfl rfl (by decide) (Nat.le_of_ble_eq_true rfl) ?_
  refine Es_if_eq (hC _) 30 dX6_swap_16 (by decide) (fun hb16 => False.elim ((by first | exact absurd hb16 (by decide) | exact absurd hb16 (by assumption) | exact hb16 (by assumption) | exact hb16 rfl | (simp_all [bI]; done)))) (fun hb16 => ?_)
  refine Es_iload_n (hC _) dX6_swap_19 rfl ?_
  refine Es_iload_n (hC _) dX6_swap_20 rfl ?_
  refine Es_icmp_ne (hC _) 36 dX6_swap_21 (by decide) (fun hb21 => ?_) (fun hb21 => False.elim (hne ((nI_eq (by omega) (by omega)).mp hb21)))
  first | refine Es_aload_n (hC _) dX6_swap_36 rfl ?_ | refine Es_aload_nN (hC _) dX6_swap_36 rfl ?_
  refine Sg_X6_10 (hC _) fl_X6_29 dX6_swap_37 ?_
  refine Es_iload_n (hC _) dX6_swap_40 rfl ?_
  refine Es_iload_n (hC _) dX6_swap_41 rfl ?_
  refine Es_fS (hC _) ms_X6_97 dX6_swap_42 r_spot rfl rfl (by decide) (Nat.le_of_ble_eq_true rfl) ?_
  refine Es_ialdN (hC _) dX6_swap_45 rfl rfl rfl (by omega) (by decide) ?_
  rw [honw]
  refine Es_istore (lv' := [_, _, _, _, _, _, _]) (hC _) dX6_swap_46 (by decide) rfl rfl ?_
  first | refine Es_aload_n (hC _) dX6_swap_48 rfl ?_ | refine Es_aload_nN (hC _) dX6_swap_48 rfl ?_
  refine Sg_X6_10 (hC _) fl_X6_29 dX6_swap_49 ?_
  refine Es_iload_n (hC _) dX6_swap_52 rfl ?_
  refine Es_iload (hC _) dX6_swap_53 rfl ?_
  refine Es_fS (hC _) ms_X6_97 dX6_swap_55 r_spot rfl rfl (by decide) (Nat.le_of_ble_eq_true rfl) ?_
  refine Es_ialdN (hC _) dX6_swap_58 rfl rfl rfl (by omega) (by decide) ?_
  rw [honv]
  refine Es_istore (lv' := [_, _, _, _, _, _, _]) (hC _) dX6_swap_59 (by decide) rfl rfl ?_
  refine Es_iload (hC _) dX6_swap_61 rfl ?_
  refine Es_if_ge (hC _) 78 dX6_swap_63 (by decide) (fun hb63 => False.elim (absurd hb63 (by decide))) (fun hb63 => ?_)
  refine Es_iload (hC _) dX6_swap_66 rfl ?_
  refine Es_if_ge (hC _) 78 dX6_swap_68 (by decide) (fun hb68 => ?_) (fun hb68 => False.elim (hb68 (nI_pos' (by omega))))
  first | refine Es_aload_n (hC _) dX6_swap_78 rfl ?_ | refine Es_aload_nN (hC _) dX6_swap_78 rfl ?_
  refine Es_iload (hC _) dX6_swap_79 rfl ?_
  refine Es_if_lt (hC _) 89 dX6_swap_81 (by decide) (fun hb81 => ?_) (fun hb81 => False.elim (hb81 (by decide)))
  refine Es_iconst (v := 1) (hC _) dX6_swap_89 (by decide) ?_
  refine Es_goto (hC _) 94 dX6_swap_90 (by decide) ?_
  refine Es_fV (hC _) mv_X6_110 dX6_swap_94 (r_hasRoom (m := 1) hk (by omega) (by decide)) rfl rfl ⟨_, rfl, rfl⟩ rfl rfl (by decide) (Nat.le_of_ble_eq_true rfl) ?_
  refine Es_if_ne (hC _) 107 dX6_swap_97 (by decide) (fun hb97 => ?_) (fun hb97 => False.elim (absurd hb97 (by rw [bI, if_pos (by omega)]; decide)))
  first | refine Es_aload_n (hC _) dX6_swap_107 rfl ?_ | refine Es_aload_nN (hC _) dX6_swap_107 rfl ?_
  refine Sg_X6_10 (hC _) fl_X6_29 dX6_swap_108 ?_
  refine Es_iload_n (hC _) dX6_swap_111 rfl ?_
  refine Es_iload_n (hC _) dX6_swap_112 rfl ?_
  refine Es_fS (hC _) ms_X6_97 dX6_swap_113 r_spot rfl rfl (by decide) (Nat.le_of_ble_eq_true rfl) ?_
  refine Es_iload (hC _) dX6_swap_116 rfl ?_
  refine Es_iastN (hC _) dX6_swap_118 rfl (fun _ => rfl) rfl (by omega) (by decide) ?_
  first | refine Es_aload_n (hC _) dX6_swap_119 rfl ?_ | refine Es_aload_nN (hC _) dX6_swap_119 rfl ?_
  refine Sg_X6_10 (hC _) fl_X6_29 dX6_swap_120 ?_
  refine Es_iload_n (hC _) dX6_swap_123 rfl ?_
  refine Es_iload (hC _) dX6_swap_124 rfl ?_
  refine Es_fS (hC _) ms_X6_97 dX6_swap_126 r_spot rfl rfl (by decide) (Nat.le_of_ble_eq_true rfl) ?_
  refine Es_iload (hC _) dX6_swap_129 rfl ?_
  refine Es_iastN (hC _) dX6_swap_131 rfl (fun _ => rfl) rfl (by omega) (by decide) ?_
  refine Es_iload (hC _) dX6_swap_132 rfl ?_
  refine Es_if_lt (hC _) 150 dX6_swap_134 (by decide) (fun hb134 => ?_) (fun hb134 => False.elim (hb134 (by decide)))
  refine Es_iload (hC _) dX6_swap_150 rfl ?_
  refine Es_if_lt (hC _) 167 dX6_swap_152 (by decide) (fun hb152 => False.elim (nI_pos (by omega) hb152)) (fun hb152 => ?_)
  first | refine Es_aload_n (hC _) dX6_swap_155 rfl ?_ | refine Es_aload_nN (hC _) dX6_swap_155 rfl ?_
  refine Es_iload (hC _) dX6_swap_156 rfl ?_
  refine Es_bipush (v := 10) (hC _) dX6_swap_158 (by decide) ?_
  refine Es_iload_n (hC _) dX6_swap_160 rfl ?_
  refine Es_imul (hC _) dX6_swap_161 ?_
  refine Es_iload_n (hC _) dX6_swap_162 rfl ?_
  refine Es_iadd (hC _) dX6_swap_163 ?_
  rw [show (10 : Int32) = nI 10 from rfl, pk_mul, nI_add]
  refine Es_fV (hC _) mv_X6_124 dX6_swap_164 (r_lays (k := k) (by omega) (by simp [uB, rLog, hk]) h6) rfl rfl ⟨_, rfl, rfl⟩ rfl rfl (by decide) (Nat.le_of_ble_eq_true rfl) ?_
  refine Es_iconst (v := 1) (hC _) dX6_swap_167 (by decide) ?_
  exact Es_iret dX6_swap_168 rfl ⟨rfl, rfl, rfl⟩

set_option maxRecDepth 100000 in
set_option maxHeartbeats 4000000 in
theorem r_swap_4by {ad : sA} {nw nt : Nat} {B : sB} {L : sL} (hnw : B 25 0 4 = nI nw) (h5 : nw ≤ 5) (h40 : nt ≤ 40) {w : Nat} (hw : w < nw) {v : Nat} (hv : v < nw) {pw qw : Nat} (hpw : B 38 0 w = nI pw) (h7w : pw ≤ 7) (hqw : qw < pw) {pv qv : Nat} (hpv : B 38 0 v = nI pv) (h7v : pv ≤ 7) (hqv : qv < pv) (hne : w = v) (hne2 : ¬ qw = qv) {t : Nat} (ht : t < nt) {k : Nat} (hk : B 25 0 7 = nI k) (h6 : k < 600) (honw : B 40 0 (7 * w + qw) = -1) (honv : B 40 0 (7 * v + qv) = nI t)  : Cf yX6_swap cX6_swap 7 (some FieldType.int) 3 [.ref (ad 25 0), .int (nI w), .int (nI qw), .int (nI v), .int (nI qv)] ad nw nt B L (some (.int 1)) (rLog (uB (uB (uB B 40 0 (7 * w + qw) (nI t)) 40 0 (7 * v + qv) (-1)) 47 0 t (nI (10 * w + qw))) k t) (L) := by
  have hC : ∀ Q, je_Ok (sCm yX6_swap cX6_swap 7 (some FieldType.int) 3 ad nw nt Q) RX6 cX6_swap 7 3 := fun _ => je_Cm_ok
  refine Cs_of [some (.ref (ad 25 0)), some (.int (nI w)), some (.int (nI qw)), some (.int (nI v)), some (.int (nI qv)), none, none] (by decide) rfl (Nat.le_of_ble_eq_true rfl) ?_
  first | refine Es_aload_n (hC _) dX6_swap_0 rfl ?_ | refine Es_aload_nN (hC _) dX6_swap_0 rfl ?_
  refine Es_iload_n (hC _) dX6_swap_1 rfl ?_
  refine Es_iload_n (hC _) dX6_swap_2 rfl ?_
  refine Es_fV (hC _) mv_X6_121 dX6_swap_3 (r_isPlace_in hnw h5 hw hpw h7w hqw) rfl rfl ⟨_, rfl, rfl⟩ rfl rfl (by decide) (Nat.le_of_ble_eq_true rfl) ?_
  refine Es_if_eq (hC _) 30 dX6_swap_6 (by decide) (fun hb6 => False.elim ((by first | exact absurd hb6 (by decide) | exact absurd hb6 (by assumption) | exact hb6 (by assumption) | exact hb6 rfl | (simp_all [bI]; done)))) (fun hb6 => ?_)
  first | refine Es_aload_n (hC _) dX6_swap_9 rfl ?_ | refine Es_aload_nN (hC _) dX6_swap_9 rfl ?_
  refine Es_iload_n (hC _) dX6_swap_10 rfl ?_
  refine Es_iload (hC _) dX6_swap_11 rfl ?_
  refine Es_fV (hC _) mv_X6_121 dX6_swap_13 (r_isPlace_in hnw h5 hv hpv h7v hqv) rfl rfl ⟨_, rfl, rfl⟩ rfl rfl (by decide) (Nat.le_of_ble_eq_true rfl) ?_
  refine Es_if_eq (hC _) 30 dX6_swap_16 (by decide) (fun hb16 => False.elim ((by first | exact absurd hb16 (by decide) | exact absurd hb16 (by assumption) | exact hb16 (by assumption) | exact hb16 rfl | (simp_all [bI]; done)))) (fun hb16 => ?_)
  refine Es_iload_n (hC _) dX6_swap_19 rfl ?_
  refine Es_iload_n (hC _) dX6_swap_20 rfl ?_
  refine Es_icmp_ne (hC _) 36 dX6_swap_21 (by decide) (fun hb21 => False.elim (hb21 (by rw [hne]))) (fun hb21 => ?_)
  refine Es_iload_n (hC _) dX6_swap_24 rfl ?_
  refine Es_iload (hC _) dX6_swap_25 rfl ?_
  refine Es_icmp_ne (hC _) 36 dX6_swap_27 (by decide) (fun hb27 => ?_) (fun hb27 => False.elim (hne2 ((nI_eq (by omega) (by omega)).mp hb27)))
  first | refine Es_aload_n (hC _) dX6_swap_36 rfl ?_ | refine Es_aload_nN (hC _) dX6_swap_36 rfl ?_
  refine Sg_X6_10 (hC _) fl_X6_29 dX6_swap_37 ?_
  refine Es_iload_n (hC _) dX6_swap_40 rfl ?_
  refine Es_iload_n (hC _) dX6_swap_41 rfl ?_
  refine Es_fS (hC _) ms_X6_97 dX6_swap_42 r_spot rfl rfl (by decide) (Nat.le_of_ble_eq_true rfl) ?_
  refine Es_ialdN (hC _) dX6_swap_45 rfl rfl rfl (by omega) (by decide) ?_
  rw [honw]
  refine Es_istore (lv' := [_, _, _, _, _, _, _]) (hC _) dX6_swap_46 (by decide) rfl rfl ?_
  first | refine Es_aload_n (hC _) dX6_swap_48 rfl ?_ | refine Es_aload_nN (hC _) dX6_swap_48 rfl ?_
  refine Sg_X6_10 (hC _) fl_X6_29 dX6_swap_49 ?_
  refine Es_iload_n (hC _) dX6_swap_52 rfl ?_
  refine Es_iload (hC _) dX6_swap_53 rfl ?_
  refine Es_fS (hC _) ms_X6_97 dX6_swap_55 r_spot rfl rfl (by decide) (Nat.le_of_ble_eq_true rfl) ?_
  refine Es_ialdN (hC _) dX6_swap_58 rfl rfl rfl (by omega) (by decide) ?_
  rw [honv]
  refine Es_istore (lv' := [_, _, _, _, _, _, _]) (hC _) dX6_swap_59 (by decide) rfl rfl ?_
  refine Es_iload (hC _) dX6_swap_61 rfl ?_
  refine Es_if_ge (hC _) 78 dX6_swap_63 (by decide) (fun hb63 => False.elim (absurd hb63 (by decide))) (fun hb63 => ?_)
  refine Es_iload (hC _) dX6_swap_66 rfl ?_
  refine Es_if_ge (hC _) 78 dX6_swap_68 (by decide) (fun hb68 => ?_) (fun hb68 => False.elim (hb68 (nI_pos' (by omega))))
  first | refine Es_aload_n (hC _) dX6_swap_78 rfl ?_ | refine Es_aload_nN (hC _) dX6_swap_78 rfl ?_
  refine Es_iload (hC _) dX6_swap_79 rfl ?_
  refine Es_if_lt (hC _) 89 dX6_swap_81 (by decide) (fun hb81 => ?_) (fun hb81 => False.elim (hb81 (by decide)))
  refine Es_iconst (v := 1) (hC _) dX6_swap_89 (by decide) ?_
  refine Es_goto (hC _) 94 dX6_swap_90 (by decide) ?_
  refine Es_fV (hC _) mv_X6_110 dX6_swap_94 (r_hasRoom (m := 1) hk (by omega) (by decide)) rfl rfl ⟨_, rfl, rfl⟩ rfl rfl (by decide) (Nat.le_of_ble_eq_true rfl) ?_
  refine Es_if_ne (hC _) 107 dX6_swap_97 (by decide) (fun hb97 => ?_) (fun hb97 => False.elim (absurd hb97 (by rw [bI, if_pos (by omega)]; decide)))
  first | refine Es_aload_n (hC _) dX6_swap_107 rfl ?_ | refine Es_aload_nN (hC _) dX6_swap_107 rfl ?_
  refine Sg_X6_10 (hC _) fl_X6_29 dX6_swap_108 ?_
  refine Es_iload_n (hC _) dX6_swap_111 rfl ?_
  refine Es_iload_n (hC _) dX6_swap_112 rfl ?_
  refine Es_fS (hC _) ms_X6_97 dX6_swap_113 r_spot rfl rfl (by decide) (Nat.le_of_ble_eq_true rfl) ?_
  refine Es_iload (hC _) dX6_swap_116 rfl ?_
  refine Es_iastN (hC _) dX6_swap_118 rfl (fun _ => rfl) rfl (by omega) (by decide) ?_
  first | refine Es_aload_n (hC _) dX6_swap_119 rfl ?_ | refine Es_aload_nN (hC _) dX6_swap_119 rfl ?_
  refine Sg_X6_10 (hC _) fl_X6_29 dX6_swap_120 ?_
  refine Es_iload_n (hC _) dX6_swap_123 rfl ?_
  refine Es_iload (hC _) dX6_swap_124 rfl ?_
  refine Es_fS (hC _) ms_X6_97 dX6_swap_126 r_spot rfl rfl (by decide) (Nat.le_of_ble_eq_true rfl) ?_
  refine Es_iload (hC _) dX6_swap_129 rfl ?_
  refine Es_iastN (hC _) dX6_swap_131 rfl (fun _ => rfl) rfl (by omega) (by decide) ?_
  refine Es_iload (hC _) dX6_swap_132 rfl ?_
  refine Es_if_lt (hC _) 150 dX6_swap_134 (by decide) (fun hb134 => ?_) (fun hb134 => False.elim (hb134 (by decide)))
  refine Es_iload (hC _) dX6_swap_150 rfl ?_
  refine Es_if_lt (hC _) 167 dX6_swap_152 (by decide) (fun hb152 => False.elim (nI_pos (by omega) hb152)) (fun hb152 => ?_)
  first | refine Es_aload_n (hC _) dX6_swap_155 rfl ?_ | refine Es_aload_nN (hC _) dX6_swap_155 rfl ?_
  refine Es_iload (hC _) dX6_swap_156 rfl ?_
  refine Es_bipush (v := 10) (hC _) dX6_swap_158 (by decide) ?_
  refine Es_iload_n (hC _) dX6_swap_160 rfl ?_
  refine Es_imul (hC _) dX6_swap_161 ?_
  refine Es_iload_n (hC _) dX6_swap_162 rfl ?_
  refine Es_iadd (hC _) dX6_swap_163 ?_
  rw [show (10 : Int32) = nI 10 from rfl, pk_mul, nI_add]
  refine Es_fV (hC _) mv_X6_124 dX6_swap_164 (r_lays (k := k) (by omega) (by simp [uB, rLog, hk]) h6) rfl rfl ⟨_, rfl, rfl⟩ rfl rfl (by decide) (Nat.le_of_ble_eq_true rfl) ?_
  refine Es_iconst (v := 1) (hC _) dX6_swap_167 (by decide) ?_
  exact Es_iret dX6_swap_168 rfl ⟨rfl, rfl, rfl⟩

set_option maxRecDepth 100000 in
set_option maxHeartbeats 4000000 in
theorem r_swap_4cx {ad : sA} {nw nt : Nat} {B : sB} {L : sL} (hnw : B 25 0 4 = nI nw) (h5 : nw ≤ 5) (h40 : nt ≤ 40) {w : Nat} (hw : w < nw) {v : Nat} (hv : v < nw) {pw qw : Nat} (hpw : B 38 0 w = nI pw) (h7w : pw ≤ 7) (hqw : qw < pw) {pv qv : Nat} (hpv : B 38 0 v = nI pv) (h7v : pv ≤ 7) (hqv : qv < pv) (hne : ¬ w = v) {a b : Nat} (ha : a < nt) (hb : b < nt) {k : Nat} (hk : B 25 0 7 = nI k) (h6 : k < 599) (honw : B 40 0 (7 * w + qw) = nI a) (honv : B 40 0 (7 * v + qv) = nI b)  : Cf yX6_swap cX6_swap 7 (some FieldType.int) 3 [.ref (ad 25 0), .int (nI w), .int (nI qw), .int (nI v), .int (nI qv)] ad nw nt B L (some (.int 1)) (rLog (uB (rLog (uB (uB (uB B 40 0 (7 * w + qw) (nI b)) 40 0 (7 * v + qv) (nI a)) 47 0 a (nI (10 * v + qv))) k a) 47 0 b (nI (10 * w + qw))) (k + 1) b) (L) := by
  have hC : ∀ Q, je_Ok (sCm yX6_swap cX6_swap 7 (some FieldType.int) 3 ad nw nt Q) RX6 cX6_swap 7 3 := fun _ => je_Cm_ok
  refine Cs_of [some (.ref (ad 25 0)), some (.int (nI w)), some (.int (nI qw)), some (.int (nI v)), some (.int (nI qv)), none, none] (by decide) rfl (Nat.le_of_ble_eq_true rfl) ?_
  first | refine Es_aload_n (hC _) dX6_swap_0 rfl ?_ | refine Es_aload_nN (hC _) dX6_swap_0 rfl ?_
  refine Es_iload_n (hC _) dX6_swap_1 rfl ?_
  refine Es_iload_n (hC _) dX6_swap_2 rfl ?_
  refine Es_fV (hC _) mv_X6_121 dX6_swap_3 (r_isPlace_in hnw h5 hw hpw h7w hqw) rfl rfl ⟨_, rfl, rfl⟩ rfl rfl (by decide) (Nat.le_of_ble_eq_true rfl) ?_
  refine Es_if_eq (hC _) 30 dX6_swap_6 (by decide) (fun hb6 => False.elim ((by first | exact absurd hb6 (by decide) | exact absurd hb6 (by assumption) | exact hb6 (by assumption) | exact hb6 rfl | (simp_all [bI]; done)))) (fun hb6 => ?_)
  first | refine Es_aload_n (hC _) dX6_swap_9 rfl ?_ | refine Es_aload_nN (hC _) dX6_swap_9 rfl ?_
  refine Es_iload_n (hC _) dX6_swap_10 rfl ?_
  refine Es_iload (hC _) dX6_swap_11 rfl ?_
  refine Es_fV (hC _) mv_X6_121 dX6_swap_13 (r_isPlace_in hnw h5 hv hpv h7v hqv) rfl rfl ⟨_, rfl, rfl⟩ rfl rfl (by decide) (Nat.le_of_ble_eq_true rfl) ?_
  refine Es_if_eq (hC _) 30 dX6_swap_16 (by decide) (fun hb16 => False.elim ((by first | exact absurd hb16 (by decide) | exact absurd hb16 (by assumption) | exact hb16 (by assumption) | exact hb16 rfl | (simp_all [bI]; done)))) (fun hb16 => ?_)
  refine Es_iload_n (hC _) dX6_swap_19 rfl ?_
  refine Es_iload_n (hC _) dX6_swap_20 rfl ?_
  refine Es_icmp_ne (hC _) 36 dX6_swap_21 (by decide) (fun hb21 => ?_) (fun hb21 => False.elim (hne ((nI_eq (by omega) (by omega)).mp hb21)))
  first | refine Es_aload_n (hC _) dX6_swap_36 rfl ?_ | refine Es_aload_nN (hC _) dX6_swap_36 rfl ?_
  refine Sg_X6_10 (hC _) fl_X6_29 dX6_swap_37 ?_
  refine Es_iload_n (hC _) dX6_swap_40 rfl ?_
  refine Es_iload_n (hC _) dX6_swap_41 rfl ?_
  refine Es_fS (hC _) ms_X6_97 dX6_swap_42 r_spot rfl rfl (by decide) (Nat.le_of_ble_eq_true rfl) ?_
  refine Es_ialdN (hC _) dX6_swap_45 rfl rfl rfl (by omega) (by decide) ?_
  rw [honw]
  refine Es_istore (lv' := [_, _, _, _, _, _, _]) (hC _) dX6_swap_46 (by decide) rfl rfl ?_
  first | refine Es_aload_n (hC _) dX6_swap_48 rfl ?_ | refine Es_aload_nN (hC _) dX6_swap_48 rfl ?_
  refine Sg_X6_10 (hC _) fl_X6_29 dX6_swap_49 ?_
  refine Es_iload_n (hC _) dX6_swap_52 rfl ?_
  refine Es_iload (hC _) dX6_swap_53 rfl ?_
  refine Es_fS (hC _) ms_X6_97 dX6_swap_55 r_spot rfl rfl (by decide) (Nat.le_of_ble_eq_true rfl) ?_
  refine Es_ialdN (hC _) dX6_swap_58 rfl rfl rfl (by omega) (by decide) ?_
  rw [honv]
  refine Es_istore (lv' := [_, _, _, _, _, _, _]) (hC _) dX6_swap_59 (by decide) rfl rfl ?_
  refine Es_iload (hC _) dX6_swap_61 rfl ?_
  refine Es_if_ge (hC _) 78 dX6_swap_63 (by decide) (fun hb63 => ?_) (fun hb63 => False.elim (hb63 (nI_pos' (by omega))))
  first | refine Es_aload_n (hC _) dX6_swap_78 rfl ?_ | refine Es_aload_nN (hC _) dX6_swap_78 rfl ?_
  refine Es_iload (hC _) dX6_swap_79 rfl ?_
  refine Es_if_lt (hC _) 89 dX6_swap_81 (by decide) (fun hb81 => False.elim (nI_pos (by omega) hb81)) (fun hb81 => ?_)
  refine Es_iload (hC _) dX6_swap_84 rfl ?_
  refine Es_if_ge (hC _) 93 dX6_swap_86 (by decide) (fun hb86 => ?_) (fun hb86 => False.elim (hb86 (nI_pos' (by omega))))
  refine Es_iconst (v := 2) (hC _) dX6_swap_93 (by decide) ?_
  refine Es_fV (hC _) mv_X6_110 dX6_swap_94 (r_hasRoom (m := 2) hk (by omega) (by decide)) rfl rfl ⟨_, rfl, rfl⟩ rfl rfl (by decide) (Nat.le_of_ble_eq_true rfl) ?_
  refine Es_if_ne (hC _) 107 dX6_swap_97 (by decide) (fun hb97 => ?_) (fun hb97 => False.elim (absurd hb97 (by rw [bI, if_pos (by omega)]; decide)))
  first | refine Es_aload_n (hC _) dX6_swap_107 rfl ?_ | refine Es_aload_nN (hC _) dX6_swap_107 rfl ?_
  refine Sg_X6_10 (hC _) fl_X6_29 dX6_swap_108 ?_
  refine Es_iload_n (hC _) dX6_swap_111 rfl ?_
  refine Es_iload_n (hC _) dX6_swap_112 rfl ?_
  refine Es_fS (hC _) ms_X6_97 dX6_swap_113 r_spot rfl rfl (by decide) (Nat.le_of_ble_eq_true rfl) ?_
  refine Es_iload (hC _) dX6_swap_116 rfl ?_
  refine Es_iastN (hC _) dX6_swap_118 rfl (fun _ => rfl) rfl (by omega) (by decide) ?_
  first | refine Es_aload_n (hC _) dX6_swap_119 rfl ?_ | refine Es_aload_nN (hC _) dX6_swap_119 rfl ?_
  refine Sg_X6_10 (hC _) fl_X6_29 dX6_swap_120 ?_
  refine Es_iload_n (hC _) dX6_swap_123 rfl ?_
  refine Es_iload (hC _) dX6_swap_124 rfl ?_
  refine Es_fS (hC _) ms_X6_97 dX6_swap_126 r_spot rfl rfl (by decide) (Nat.le_of_ble_eq_true rfl) ?_
  refine Es_iload (hC _) dX6_swap_129 rfl ?_
  refine Es_iastN (hC _) dX6_swap_131 rfl (fun _ => rfl) rfl (by omega) (by decide) ?_
  refine Es_iload (hC _) dX6_swap_132 rfl ?_
  refine Es_if_lt (hC _) 150 dX6_swap_134 (by decide) (fun hb134 => False.elim (nI_pos (by omega) hb134)) (fun hb134 => ?_)
  first | refine Es_aload_n (hC _) dX6_swap_137 rfl ?_ | refine Es_aload_nN (hC _) dX6_swap_137 rfl ?_
  refine Es_iload (hC _) dX6_swap_138 rfl ?_
  refine Es_bipush (v := 10) (hC _) dX6_swap_140 (by decide) ?_
  refine Es_iload_n (hC _) dX6_swap_142 rfl ?_
  refine Es_imul (hC _) dX6_swap_143 ?_
  refine Es_iload (hC _) dX6_swap_144 rfl ?_
  refine Es_iadd (hC _) dX6_swap_146 ?_
  rw [show (10 : Int32) = nI 10 from rfl, pk_mul, nI_add]
  refine Es_fV (hC _) mv_X6_124 dX6_swap_147 (r_lays (k := k) (by omega) (by simp [uB, rLog, hk]) (by omega)) rfl rfl ⟨_, rfl, rfl⟩ rfl rfl (by decide) (Nat.le_of_ble_eq_true rfl) ?_
  refine Es_iload (hC _) dX6_swap_150 rfl ?_
  refine Es_if_lt (hC _) 167 dX6_swap_152 (by decide) (fun hb152 => False.elim (nI_pos (by omega) hb152)) (fun hb152 => ?_)
  first | refine Es_aload_n (hC _) dX6_swap_155 rfl ?_ | refine Es_aload_nN (hC _) dX6_swap_155 rfl ?_
  refine Es_iload (hC _) dX6_swap_156 rfl ?_
  refine Es_bipush (v := 10) (hC _) dX6_swap_158 (by decide) ?_
  refine Es_iload_n (hC _) dX6_swap_160 rfl ?_
  refine Es_imul (hC _) dX6_swap_161 ?_
  refine Es_iload_n (hC _) dX6_swap_162 rfl ?_
  refine Es_iadd (hC _) dX6_swap_163 ?_
  rw [show (10 : Int32) = nI 10 from rfl, pk_mul, nI_add]
  refine Es_fV (hC _) mv_X6_124 dX6_swap_164 (r_lays (k := k + 1) (by omega) (by simp [uB, rLog, hk]) (by omega)) rfl rfl ⟨_, rfl, rfl⟩ rfl rfl (by decide) (Nat.le_of_ble_eq_true rfl) ?_
  refine Es_iconst (v := 1) (hC _) dX6_swap_167 (by decide) ?_
  exact Es_iret dX6_swap_168 rfl ⟨rfl, rfl, rfl⟩

set_option maxRecDepth 100000 in
set_option maxHeartbeats 4000000 in
theorem r_swap_4cy {ad : sA} {nw nt : Nat} {B : sB} {L : sL} (hnw : B 25 0 4 = nI nw) (h5 : nw ≤ 5) (h40 : nt ≤ 40) {w : Nat} (hw : w < nw) {v : Nat} (hv : v < nw) {pw qw : Nat} (hpw : B 38 0 w = nI pw) (h7w : pw ≤ 7) (hqw : qw < pw) {pv qv : Nat} (hpv : B 38 0 v = nI pv) (h7v : pv ≤ 7) (hqv : qv < pv) (hne : w = v) (hne2 : ¬ qw = qv) {a b : Nat} (ha : a < nt) (hb : b < nt) {k : Nat} (hk : B 25 0 7 = nI k) (h6 : k < 599) (honw : B 40 0 (7 * w + qw) = nI a) (honv : B 40 0 (7 * v + qv) = nI b)  : Cf yX6_swap cX6_swap 7 (some FieldType.int) 3 [.ref (ad 25 0), .int (nI w), .int (nI qw), .int (nI v), .int (nI qv)] ad nw nt B L (some (.int 1)) (rLog (uB (rLog (uB (uB (uB B 40 0 (7 * w + qw) (nI b)) 40 0 (7 * v + qv) (nI a)) 47 0 a (nI (10 * v + qv))) k a) 47 0 b (nI (10 * w + qw))) (k + 1) b) (L) := by
  have hC : ∀ Q, je_Ok (sCm yX6_swap cX6_swap 7 (some FieldType.int) 3 ad nw nt Q) RX6 cX6_swap 7 3 := fun _ => je_Cm_ok
  refine Cs_of [some (.ref (ad 25 0)), some (.int (nI w)), some (.int (nI qw)), some (.int (nI v)), some (.int (nI qv)), none, none] (by decide) rfl (Nat.le_of_ble_eq_true rfl) ?_
  first | refine Es_aload_n (hC _) dX6_swap_0 rfl ?_ | refine Es_aload_nN (hC _) dX6_swap_0 rfl ?_
  refine Es_iload_n (hC _) dX6_swap_1 rfl ?_
  refine Es_iload_n (hC _) dX6_swap_2 rfl ?_
  refine Es_fV (hC _) mv_X6_121 dX6_swap_3 (r_isPlace_in hnw h5 hw hpw h7w hqw) rfl rfl ⟨_, rfl, rfl⟩ rfl rfl (by decide) (Nat.le_of_ble_eq_true rfl) ?_
  refine Es_if_eq (hC _) 30 dX6_swap_6 (by decide) (fun hb6 => False.elim ((by first | exact absurd hb6 (by decide) | exact absurd hb6 (by assumption) | exact hb6 (by assumption) | exact hb6 rfl | (simp_all [bI]; done)))) (fun hb6 => ?_)
  first | refine Es_aload_n (hC _) dX6_swap_9 rfl ?_ | refine Es_aload_nN (hC _) dX6_swap_9 rfl ?_
  refine Es_iload_n (hC _) dX6_swap_10 rfl ?_
  refine Es_iload (hC _) dX6_swap_11 rfl ?_
  refine Es_fV (hC _) mv_X6_121 dX6_swap_13 (r_isPlace_in hnw h5 hv hpv h7v hqv) rfl rfl ⟨_, rfl, rfl⟩ rfl rfl (by decide) (Nat.le_of_ble_eq_true rfl) ?_
  refine Es_if_eq (hC _) 30 dX6_swap_16 (by decide) (fun hb16 => False.elim ((by first | exact absurd hb16 (by decide) | exact absurd hb16 (by assumption) | exact hb16 (by assumption) | exact hb16 rfl | (simp_all [bI]; done)))) (fun hb16 => ?_)
  refine Es_iload_n (hC _) dX6_swap_19 rfl ?_
  refine Es_iload_n (hC _) dX6_swap_20 rfl ?_
  refine Es_icmp_ne (hC _) 36 dX6_swap_21 (by decide) (fun hb21 => False.elim (hb21 (by rw [hne]))) (fun hb21 => ?_)
  refine Es_iload_n (hC _) dX6_swap_24 rfl ?_
  refine Es_iload (hC _) dX6_swap_25 rfl ?_
  refine Es_icmp_ne (hC _) 36 dX6_swap_27 (by decide) (fun hb27 => ?_) (fun hb27 => False.elim (hne2 ((nI_eq (by omega) (by omega)).mp hb27)))
  first | refine Es_aload_n (hC _) dX6_swap_36 rfl ?_ | refine Es_aload_nN (hC _) dX6_swap_36 rfl ?_
  refine Sg_X6_10 (hC _) fl_X6_29 dX6_swap_37 ?_
  refine Es_iload_n (hC _) dX6_swap_40 rfl ?_
  refine Es_iload_n (hC _) dX6_swap_41 rfl ?_
  refine Es_fS (hC _) ms_X6_97 dX6_swap_42 r_spot rfl rfl (by decide) (Nat.le_of_ble_eq_true rfl) ?_
  refine Es_ialdN (hC _) dX6_swap_45 rfl rfl rfl (by omega) (by decide) ?_
  rw [honw]
  refine Es_istore (lv' := [_, _, _, _, _, _, _]) (hC _) dX6_swap_46 (by decide) rfl rfl ?_
  first | refine Es_aload_n (hC _) dX6_swap_48 rfl ?_ | refine Es_aload_nN (hC _) dX6_swap_48 rfl ?_
  refine Sg_X6_10 (hC _) fl_X6_29 dX6_swap_49 ?_
  refine Es_iload_n (hC _) dX6_swap_52 rfl ?_
  refine Es_iload (hC _) dX6_swap_53 rfl ?_
  refine Es_fS (hC _) ms_X6_97 dX6_swap_55 r_spot rfl rfl (by decide) (Nat.le_of_ble_eq_true rfl) ?_
  refine Es_ialdN (hC _) dX6_swap_58 rfl rfl rfl (by omega) (by decide) ?_
  rw [honv]
  refine Es_istore (lv' := [_, _, _, _, _, _, _]) (hC _) dX6_swap_59 (by decide) rfl rfl ?_
  refine Es_iload (hC _) dX6_swap_61 rfl ?_
  refine Es_if_ge (hC _) 78 dX6_swap_63 (by decide) (fun hb63 => ?_) (fun hb63 => False.elim (hb63 (nI_pos' (by omega))))
  first | refine Es_aload_n (hC _) dX6_swap_78 rfl ?_ | refine Es_aload_nN (hC _) dX6_swap_78 rfl ?_
  refine Es_iload (hC _) dX6_swap_79 rfl ?_
  refine Es_if_lt (hC _) 89 dX6_swap_81 (by decide) (fun hb81 => False.elim (nI_pos (by omega) hb81)) (fun hb81 => ?_)
  refine Es_iload (hC _) dX6_swap_84 rfl ?_
  refine Es_if_ge (hC _) 93 dX6_swap_86 (by decide) (fun hb86 => ?_) (fun hb86 => False.elim (hb86 (nI_pos' (by omega))))
  refine Es_iconst (v := 2) (hC _) dX6_swap_93 (by decide) ?_
  refine Es_fV (hC _) mv_X6_110 dX6_swap_94 (r_hasRoom (m := 2) hk (by omega) (by decide)) rfl rfl ⟨_, rfl, rfl⟩ rfl rfl (by decide) (Nat.le_of_ble_eq_true rfl) ?_
  refine Es_if_ne (hC _) 107 dX6_swap_97 (by decide) (fun hb97 => ?_) (fun hb97 => False.elim (absurd hb97 (by rw [bI, if_pos (by omega)]; decide)))
  first | refine Es_aload_n (hC _) dX6_swap_107 rfl ?_ | refine Es_aload_nN (hC _) dX6_swap_107 rfl ?_
  refine Sg_X6_10 (hC _) fl_X6_29 dX6_swap_108 ?_
  refine Es_iload_n (hC _) dX6_swap_111 rfl ?_
  refine Es_iload_n (hC _) dX6_swap_112 rfl ?_
  refine Es_fS (hC _) ms_X6_97 dX6_swap_113 r_spot rfl rfl (by decide) (Nat.le_of_ble_eq_true rfl) ?_
  refine Es_iload (hC _) dX6_swap_116 rfl ?_
  refine Es_iastN (hC _) dX6_swap_118 rfl (fun _ => rfl) rfl (by omega) (by decide) ?_
  first | refine Es_aload_n (hC _) dX6_swap_119 rfl ?_ | refine Es_aload_nN (hC _) dX6_swap_119 rfl ?_
  refine Sg_X6_10 (hC _) fl_X6_29 dX6_swap_120 ?_
  refine Es_iload_n (hC _) dX6_swap_123 rfl ?_
  refine Es_iload (hC _) dX6_swap_124 rfl ?_
  refine Es_fS (hC _) ms_X6_97 dX6_swap_126 r_spot rfl rfl (by decide) (Nat.le_of_ble_eq_true rfl) ?_
  refine Es_iload (hC _) dX6_swap_129 rfl ?_
  refine Es_iastN (hC _) dX6_swap_131 rfl (fun _ => rfl) rfl (by omega) (by decide) ?_
  refine Es_iload (hC _) dX6_swap_132 rfl ?_
  refine Es_if_lt (hC _) 150 dX6_swap_134 (by decide) (fun hb134 => False.elim (nI_pos (by omega) hb134)) (fun hb134 => ?_)
  first | refine Es_aload_n (hC _) dX6_swap_137 rfl ?_ | refine Es_aload_nN (hC _) dX6_swap_137 rfl ?_
  refine Es_iload (hC _) dX6_swap_138 rfl ?_
  refine Es_bipush (v := 10) (hC _) dX6_swap_140 (by decide) ?_
  refine Es_iload_n (hC _) dX6_swap_142 rfl ?_
  refine Es_imul (hC _) dX6_swap_143 ?_
  refine Es_iload (hC _) dX6_swap_144 rfl ?_
  refine Es_iadd (hC _) dX6_swap_146 ?_
  rw [show (10 : Int32) = nI 10 from rfl, pk_mul, nI_add]
  refine Es_fV (hC _) mv_X6_124 dX6_swap_147 (r_lays (k := k) (by omega) (by simp [uB, rLog, hk]) (by omega)) rfl rfl ⟨_, rfl, rfl⟩ rfl rfl (by decide) (Nat.le_of_ble_eq_true rfl) ?_
  refine Es_iload (hC _) dX6_swap_150 rfl ?_
  refine Es_if_lt (hC _) 167 dX6_swap_152 (by decide) (fun hb152 => False.elim (nI_pos (by omega) hb152)) (fun hb152 => ?_)
  first | refine Es_aload_n (hC _) dX6_swap_155 rfl ?_ | refine Es_aload_nN (hC _) dX6_swap_155 rfl ?_
  refine Es_iload (hC _) dX6_swap_156 rfl ?_
  refine Es_bipush (v := 10) (hC _) dX6_swap_158 (by decide) ?_
  refine Es_iload_n (hC _) dX6_swap_160 rfl ?_
  refine Es_imul (hC _) dX6_swap_161 ?_
  refine Es_iload_n (hC _) dX6_swap_162 rfl ?_
  refine Es_iadd (hC _) dX6_swap_163 ?_
  rw [show (10 : Int32) = nI 10 from rfl, pk_mul, nI_add]
  refine Es_fV (hC _) mv_X6_124 dX6_swap_164 (r_lays (k := k + 1) (by omega) (by simp [uB, rLog, hk]) (by omega)) rfl rfl ⟨_, rfl, rfl⟩ rfl rfl (by decide) (Nat.le_of_ble_eq_true rfl) ?_
  refine Es_iconst (v := 1) (hC _) dX6_swap_167 (by decide) ?_
  exact Es_iret dX6_swap_168 rfl ⟨rfl, rfl, rfl⟩

set_option maxRecDepth 100000 in
set_option maxHeartbeats 4000000 in
theorem c_mend_1 {ad : sA} {nw nt : Nat} {B : sB} {L : sL} (hnt : B 0 0 9 = nI nt) (h40 : nt ≤ 40) {x : Int32} (hot : out x nt)  : Cf yX5_mend cX5_mend 3 (some FieldType.int) 5 [.ref (ad 0 0), .int x] ad nw nt B L (some (.int (-1))) (uB B 5 0 1 (B 5 0 1 + 1)) (L) := by
  have hC : ∀ Q, je_Ok (sCm yX5_mend cX5_mend 3 (some FieldType.int) 5 ad nw nt Q) RX5 cX5_mend 3 5 := fun _ => je_Cm_ok
  refine Cs_of [some (.ref (ad 0 0)), some (.int x), none] (by decide) rfl (Nat.le_of_ble_eq_true rfl) ?_
  first | refine Es_aload_n (hC _) dX5_mend_0 rfl ?_ | refine Es_aload_nN (hC _) dX5_mend_0 rfl ?_
  refine Es_iload_n (hC _) dX5_mend_1 rfl ?_
  refine Es_fV (hC _) mv_X5_132 dX5_mend_2 (c_tyreAt_out hnt hot) rfl rfl ⟨_, rfl, rfl⟩ rfl rfl (by decide) (Nat.le_of_ble_eq_true rfl) ?_
  first | refine Es_astore_n (lv' := [_, _, _]) (hC _) dX5_mend_5 (by decide) rfl rfl ?_ | refine Es_astore_nN (lv' := [_, _, _]) (hC _) dX5_mend_5 (by decide) rfl rfl ?_
  first | refine Es_aload_n (hC _) dX5_mend_6 rfl ?_ | refine Es_aload_nN (hC _) dX5_mend_6 rfl ?_
  refine Es_ifnonnullN (hC _) dX5_mend_7 ?_
  first | refine Es_aload_n (hC _) dX5_mend_10 rfl ?_ | refine Es_aload_nN (hC _) dX5_mend_10 rfl ?_
  refine Es_iconst (v := -1) (hC _) dX5_mend_11 (by decide) ?_
  refine Es_fV (hC _) mv_X5_70 dX5_mend_12 (c_refuse (k := 1) (by decide) (by decide)) rfl rfl ⟨_, rfl, rfl⟩ rfl rfl (by decide) (Nat.le_of_ble_eq_true rfl) ?_
  exact Es_iret dX5_mend_15 rfl ⟨rfl, rfl, rfl⟩

set_option maxRecDepth 100000 in
set_option maxHeartbeats 4000000 in
theorem r_mend_1 {ad : sA} {nw nt : Nat} {B : sB} {L : sL} (hnt : B 25 0 5 = nI nt) (h40 : nt ≤ 40) {x : Int32} (hot : out x nt)  : Cf yX6_mend cX6_mend 2 (some FieldType.int) 3 [.ref (ad 25 0), .int x] ad nw nt B L (some (.int (-1))) (uB B 30 0 1 (B 30 0 1 + 1)) (L) := by
  have hC : ∀ Q, je_Ok (sCm yX6_mend cX6_mend 2 (some FieldType.int) 3 ad nw nt Q) RX6 cX6_mend 2 3 := fun _ => je_Cm_ok
  refine Cs_of [some (.ref (ad 25 0)), some (.int x)] (by decide) rfl (Nat.le_of_ble_eq_true rfl) ?_
  refine Es_iload_n (hC _) dX6_mend_0 rfl ?_
  first | refine Es_aload_n (hC _) dX6_mend_1 rfl ?_ | refine Es_aload_nN (hC _) dX6_mend_1 rfl ?_
  refine Sg_X6_5 (hC _) fl_X6_107 dX6_mend_2 ?_
  rw [hnt]
  refine Es_fS (hC _) ms_X6_89 dX6_mend_5 (r_isIn_out hot) rfl rfl (by decide) (Nat.le_of_ble_eq_true rfl) ?_
  refine Es_if_ne (hC _) 17 dX6_mend_8 (by decide) (fun hb8 => False.elim ((by first | exact absurd hb8 (by decide) | exact absurd hb8 (by assumption) | exact hb8 (by assumption) | exact hb8 rfl | (simp_all [bI]; done)))) (fun hb8 => ?_)
  first | refine Es_aload_n (hC _) dX6_mend_11 rfl ?_ | refine Es_aload_nN (hC _) dX6_mend_11 rfl ?_
  refine Es_iconst (v := -1) (hC _) dX6_mend_12 (by decide) ?_
  refine Es_fV (hC _) mv_X6_93 dX6_mend_13 (r_refuse (k := 1) (by decide) (by decide)) rfl rfl ⟨_, rfl, rfl⟩ rfl rfl (by decide) (Nat.le_of_ble_eq_true rfl) ?_
  exact Es_iret dX6_mend_16 rfl ⟨rfl, rfl, rfl⟩

set_option maxRecDepth 100000 in
set_option maxHeartbeats 4000000 in
theorem c_cast_1 {ad : sA} {nw nt : Nat} {B : sB} {L : sL} (hnt : B 0 0 9 = nI nt) (h40 : nt ≤ 40) {x : Int32} (hot : out x nt)  : Cf yX5_cast cX5_cast 3 (some FieldType.int) 5 [.ref (ad 0 0), .int x] ad nw nt B L (some (.int (-1))) (uB B 5 0 1 (B 5 0 1 + 1)) (L) := by
  have hC : ∀ Q, je_Ok (sCm yX5_cast cX5_cast 3 (some FieldType.int) 5 ad nw nt Q) RX5 cX5_cast 3 5 := fun _ => je_Cm_ok
  refine Cs_of [some (.ref (ad 0 0)), some (.int x), none] (by decide) rfl (Nat.le_of_ble_eq_true rfl) ?_
  first | refine Es_aload_n (hC _) dX5_cast_0 rfl ?_ | refine Es_aload_nN (hC _) dX5_cast_0 rfl ?_
  refine Es_iload_n (hC _) dX5_cast_1 rfl ?_
  refine Es_fV (hC _) mv_X5_132 dX5_cast_2 (c_tyreAt_out hnt hot) rfl rfl ⟨_, rfl, rfl⟩ rfl rfl (by decide) (Nat.le_of_ble_eq_true rfl) ?_
  first | refine Es_astore_n (lv' := [_, _, _]) (hC _) dX5_cast_5 (by decide) rfl rfl ?_ | refine Es_astore_nN (lv' := [_, _, _]) (hC _) dX5_cast_5 (by decide) rfl rfl ?_
  first | refine Es_aload_n (hC _) dX5_cast_6 rfl ?_ | refine Es_aload_nN (hC _) dX5_cast_6 rfl ?_
  refine Es_ifnonnullN (hC _) dX5_cast_7 ?_
  first | refine Es_aload_n (hC _) dX5_cast_10 rfl ?_ | refine Es_aload_nN (hC _) dX5_cast_10 rfl ?_
  refine Es_iconst (v := -1) (hC _) dX5_cast_11 (by decide) ?_
  refine Es_fV (hC _) mv_X5_70 dX5_cast_12 (c_refuse (k := 1) (by decide) (by decide)) rfl rfl ⟨_, rfl, rfl⟩ rfl rfl (by decide) (Nat.le_of_ble_eq_true rfl) ?_
  exact Es_iret dX5_cast_15 rfl ⟨rfl, rfl, rfl⟩

set_option maxRecDepth 100000 in
set_option maxHeartbeats 4000000 in
theorem r_cast_1 {ad : sA} {nw nt : Nat} {B : sB} {L : sL} (hnt : B 25 0 5 = nI nt) (h40 : nt ≤ 40) {x : Int32} (hot : out x nt)  : Cf yX6_cast cX6_cast 2 (some FieldType.int) 3 [.ref (ad 25 0), .int x] ad nw nt B L (some (.int (-1))) (uB B 30 0 1 (B 30 0 1 + 1)) (L) := by
  have hC : ∀ Q, je_Ok (sCm yX6_cast cX6_cast 2 (some FieldType.int) 3 ad nw nt Q) RX6 cX6_cast 2 3 := fun _ => je_Cm_ok
  refine Cs_of [some (.ref (ad 25 0)), some (.int x)] (by decide) rfl (Nat.le_of_ble_eq_true rfl) ?_
  refine Es_iload_n (hC _) dX6_cast_0 rfl ?_
  first | refine Es_aload_n (hC _) dX6_cast_1 rfl ?_ | refine Es_aload_nN (hC _) dX6_cast_1 rfl ?_
  refine Sg_X6_5 (hC _) fl_X6_107 dX6_cast_2 ?_
  rw [hnt]
  refine Es_fS (hC _) ms_X6_89 dX6_cast_5 (r_isIn_out hot) rfl rfl (by decide) (Nat.le_of_ble_eq_true rfl) ?_
  refine Es_if_ne (hC _) 17 dX6_cast_8 (by decide) (fun hb8 => False.elim ((by first | exact absurd hb8 (by decide) | exact absurd hb8 (by assumption) | exact hb8 (by assumption) | exact hb8 rfl | (simp_all [bI]; done)))) (fun hb8 => ?_)
  first | refine Es_aload_n (hC _) dX6_cast_11 rfl ?_ | refine Es_aload_nN (hC _) dX6_cast_11 rfl ?_
  refine Es_iconst (v := -1) (hC _) dX6_cast_12 (by decide) ?_
  refine Es_fV (hC _) mv_X6_93 dX6_cast_13 (r_refuse (k := 1) (by decide) (by decide)) rfl rfl ⟨_, rfl, rfl⟩ rfl rfl (by decide) (Nat.le_of_ble_eq_true rfl) ?_
  exact Es_iret dX6_cast_16 rfl ⟨rfl, rfl, rfl⟩

set_option maxRecDepth 100000 in
set_option maxHeartbeats 4000000 in
theorem c_send_1 {ad : sA} {nw nt : Nat} {B : sB} {L : sL} (hnt : B 0 0 9 = nI nt) (h40 : nt ≤ 40) {x : Int32} (hot : out x nt)  : Cf yX5_send cX5_send 3 (some FieldType.int) 5 [.ref (ad 0 0), .int x] ad nw nt B L (some (.int (-1))) (uB B 5 0 1 (B 5 0 1 + 1)) (L) := by
  have hC : ∀ Q, je_Ok (sCm yX5_send cX5_send 3 (some FieldType.int) 5 ad nw nt Q) RX5 cX5_send 3 5 := fun _ => je_Cm_ok
  refine Cs_of [some (.ref (ad 0 0)), some (.int x), none] (by decide) rfl (Nat.le_of_ble_eq_true rfl) ?_
  first | refine Es_aload_n (hC _) dX5_send_0 rfl ?_ | refine Es_aload_nN (hC _) dX5_send_0 rfl ?_
  refine Es_iload_n (hC _) dX5_send_1 rfl ?_
  refine Es_fV (hC _) mv_X5_132 dX5_send_2 (c_tyreAt_out hnt hot) rfl rfl ⟨_, rfl, rfl⟩ rfl rfl (by decide) (Nat.le_of_ble_eq_true rfl) ?_
  first | refine Es_astore_n (lv' := [_, _, _]) (hC _) dX5_send_5 (by decide) rfl rfl ?_ | refine Es_astore_nN (lv' := [_, _, _]) (hC _) dX5_send_5 (by decide) rfl rfl ?_
  first | refine Es_aload_n (hC _) dX5_send_6 rfl ?_ | refine Es_aload_nN (hC _) dX5_send_6 rfl ?_
  refine Es_ifnonnullN (hC _) dX5_send_7 ?_
  first | refine Es_aload_n (hC _) dX5_send_10 rfl ?_ | refine Es_aload_nN (hC _) dX5_send_10 rfl ?_
  refine Es_iconst (v := -1) (hC _) dX5_send_11 (by decide) ?_
  refine Es_fV (hC _) mv_X5_70 dX5_send_12 (c_refuse (k := 1) (by decide) (by decide)) rfl rfl ⟨_, rfl, rfl⟩ rfl rfl (by decide) (Nat.le_of_ble_eq_true rfl) ?_
  exact Es_iret dX5_send_15 rfl ⟨rfl, rfl, rfl⟩

set_option maxRecDepth 100000 in
set_option maxHeartbeats 4000000 in
theorem r_send_1 {ad : sA} {nw nt : Nat} {B : sB} {L : sL} (hnt : B 25 0 5 = nI nt) (h40 : nt ≤ 40) {x : Int32} (hot : out x nt)  : Cf yX6_send cX6_send 2 (some FieldType.int) 3 [.ref (ad 25 0), .int x] ad nw nt B L (some (.int (-1))) (uB B 30 0 1 (B 30 0 1 + 1)) (L) := by
  have hC : ∀ Q, je_Ok (sCm yX6_send cX6_send 2 (some FieldType.int) 3 ad nw nt Q) RX6 cX6_send 2 3 := fun _ => je_Cm_ok
  refine Cs_of [some (.ref (ad 25 0)), some (.int x)] (by decide) rfl (Nat.le_of_ble_eq_true rfl) ?_
  refine Es_iload_n (hC _) dX6_send_0 rfl ?_
  first | refine Es_aload_n (hC _) dX6_send_1 rfl ?_ | refine Es_aload_nN (hC _) dX6_send_1 rfl ?_
  refine Sg_X6_5 (hC _) fl_X6_107 dX6_send_2 ?_
  rw [hnt]
  refine Es_fS (hC _) ms_X6_89 dX6_send_5 (r_isIn_out hot) rfl rfl (by decide) (Nat.le_of_ble_eq_true rfl) ?_
  refine Es_if_ne (hC _) 17 dX6_send_8 (by decide) (fun hb8 => False.elim ((by first | exact absurd hb8 (by decide) | exact absurd hb8 (by assumption) | exact hb8 (by assumption) | exact hb8 rfl | (simp_all [bI]; done)))) (fun hb8 => ?_)
  first | refine Es_aload_n (hC _) dX6_send_11 rfl ?_ | refine Es_aload_nN (hC _) dX6_send_11 rfl ?_
  refine Es_iconst (v := -1) (hC _) dX6_send_12 (by decide) ?_
  refine Es_fV (hC _) mv_X6_93 dX6_send_13 (r_refuse (k := 1) (by decide) (by decide)) rfl rfl ⟨_, rfl, rfl⟩ rfl rfl (by decide) (Nat.le_of_ble_eq_true rfl) ?_
  exact Es_iret dX6_send_16 rfl ⟨rfl, rfl, rfl⟩

set_option maxRecDepth 100000 in
set_option maxHeartbeats 4000000 in
theorem c_mend_2 {ad : sA} {nw nt : Nat} {B : sB} {L : sL} (hnt : B 0 0 9 = nI nt) (h40 : nt ≤ 40) {t : Nat} (ht : t < nt) (hwh : ¬ B 21 t 10 = -1) : Cf yX5_mend cX5_mend 3 (some FieldType.int) 5 [.ref (ad 0 0), .int (nI t)] ad nw nt B L (some (.int (-2))) (uB B 5 0 2 (B 5 0 2 + 1)) (L) := by
  have hC : ∀ Q, je_Ok (sCm yX5_mend cX5_mend 3 (some FieldType.int) 5 ad nw nt Q) RX5 cX5_mend 3 5 := fun _ => je_Cm_ok
  refine Cs_of [some (.ref (ad 0 0)), some (.int (nI t)), none] (by decide) rfl (Nat.le_of_ble_eq_true rfl) ?_
  first | refine Es_aload_n (hC _) dX5_mend_0 rfl ?_ | refine Es_aload_nN (hC _) dX5_mend_0 rfl ?_
  refine Es_iload_n (hC _) dX5_mend_1 rfl ?_
  refine Es_fV (hC _) mv_X5_132 dX5_mend_2 (c_tyreAt_in hnt h40 ht) rfl rfl ⟨_, rfl, rfl⟩ rfl rfl (by decide) (Nat.le_of_ble_eq_true rfl) ?_
  first | refine Es_astore_n (lv' := [_, _, _]) (hC _) dX5_mend_5 (by decide) rfl rfl ?_ | refine Es_astore_nN (lv' := [_, _, _]) (hC _) dX5_mend_5 (by decide) rfl rfl ?_
  first | refine Es_aload_n (hC _) dX5_mend_6 rfl ?_ | refine Es_aload_nN (hC _) dX5_mend_6 rfl ?_
  refine Es_ifnonnull (hC _) 16 dX5_mend_7 (by decide) ?_
  first | refine Es_aload_n (hC _) dX5_mend_16 rfl ?_ | refine Es_aload_nN (hC _) dX5_mend_16 rfl ?_
  refine Sg_X2_10 (hC _) fl_X5_139 dX5_mend_17 (by assumption) ?_
  refine Es_iconst (v := -1) (hC _) dX5_mend_20 (by decide) ?_
  refine Es_icmp_eq (hC _) 31 dX5_mend_21 (by decide) (fun hb21 => False.elim ((by first | exact absurd hb21 (by decide) | exact absurd hb21 (by assumption) | exact hb21 (by assumption) | exact hb21 rfl | (simp_all [bI]; done)))) (fun hb21 => ?_)
  first | refine Es_aload_n (hC _) dX5_mend_24 rfl ?_ | refine Es_aload_nN (hC _) dX5_mend_24 rfl ?_
  refine Es_bipush (v := -2) (hC _) dX5_mend_25 (by decide) ?_
  refine Es_fV (hC _) mv_X5_70 dX5_mend_27 (c_refuse (k := 2) (by decide) (by decide)) rfl rfl ⟨_, rfl, rfl⟩ rfl rfl (by decide) (Nat.le_of_ble_eq_true rfl) ?_
  exact Es_iret dX5_mend_30 rfl ⟨rfl, rfl, rfl⟩

set_option maxRecDepth 100000 in
set_option maxHeartbeats 4000000 in
theorem r_mend_2 {ad : sA} {nw nt : Nat} {B : sB} {L : sL} (hnt : B 25 0 5 = nI nt) (h40 : nt ≤ 40) {t : Nat} (ht : t < nt) (hwh : ¬ B 47 0 t = -1) : Cf yX6_mend cX6_mend 2 (some FieldType.int) 3 [.ref (ad 25 0), .int (nI t)] ad nw nt B L (some (.int (-2))) (uB B 30 0 2 (B 30 0 2 + 1)) (L) := by
  have hC : ∀ Q, je_Ok (sCm yX6_mend cX6_mend 2 (some FieldType.int) 3 ad nw nt Q) RX6 cX6_mend 2 3 := fun _ => je_Cm_ok
  refine Cs_of [some (.ref (ad 25 0)), some (.int (nI t))] (by decide) rfl (Nat.le_of_ble_eq_true rfl) ?_
  refine Es_iload_n (hC _) dX6_mend_0 rfl ?_
  first | refine Es_aload_n (hC _) dX6_mend_1 rfl ?_ | refine Es_aload_nN (hC _) dX6_mend_1 rfl ?_
  refine Sg_X6_5 (hC _) fl_X6_107 dX6_mend_2 ?_
  rw [hnt]
  refine Es_fS (hC _) ms_X6_89 dX6_mend_5 (r_isIn_in ht (by omega)) rfl rfl (by decide) (Nat.le_of_ble_eq_true rfl) ?_
  refine Es_if_ne (hC _) 17 dX6_mend_8 (by decide) (fun hb8 => ?_) (fun hb8 => False.elim ((by first | exact absurd hb8 (by decide) | exact absurd hb8 (by assumption) | exact hb8 (by assumption) | exact hb8 rfl | (simp_all [bI]; done))))
  first | refine Es_aload_n (hC _) dX6_mend_17 rfl ?_ | refine Es_aload_nN (hC _) dX6_mend_17 rfl ?_
  refine Sg_X6_17 (hC _) fl_X6_50 dX6_mend_18 ?_
  refine Es_iload_n (hC _) dX6_mend_21 rfl ?_
  refine Es_ialdN (hC _) dX6_mend_22 rfl rfl rfl (by omega) (by decide) ?_
  refine Es_iconst (v := -1) (hC _) dX6_mend_23 (by decide) ?_
  refine Es_icmp_eq (hC _) 34 dX6_mend_24 (by decide) (fun hb24 => False.elim ((by first | exact absurd hb24 (by decide) | exact absurd hb24 (by assumption) | exact hb24 (by assumption) | exact hb24 rfl | (simp_all [bI]; done)))) (fun hb24 => ?_)
  first | refine Es_aload_n (hC _) dX6_mend_27 rfl ?_ | refine Es_aload_nN (hC _) dX6_mend_27 rfl ?_
  refine Es_bipush (v := -2) (hC _) dX6_mend_28 (by decide) ?_
  refine Es_fV (hC _) mv_X6_93 dX6_mend_30 (r_refuse (k := 2) (by decide) (by decide)) rfl rfl ⟨_, rfl, rfl⟩ rfl rfl (by decide) (Nat.le_of_ble_eq_true rfl) ?_
  exact Es_iret dX6_mend_33 rfl ⟨rfl, rfl, rfl⟩

set_option maxRecDepth 100000 in
set_option maxHeartbeats 4000000 in
theorem c_cast_2 {ad : sA} {nw nt : Nat} {B : sB} {L : sL} (hnt : B 0 0 9 = nI nt) (h40 : nt ≤ 40) {t : Nat} (ht : t < nt) (hwh : ¬ B 21 t 10 = -1) : Cf yX5_cast cX5_cast 3 (some FieldType.int) 5 [.ref (ad 0 0), .int (nI t)] ad nw nt B L (some (.int (-2))) (uB B 5 0 2 (B 5 0 2 + 1)) (L) := by
  have hC : ∀ Q, je_Ok (sCm yX5_cast cX5_cast 3 (some FieldType.int) 5 ad nw nt Q) RX5 cX5_cast 3 5 := fun _ => je_Cm_ok
  refine Cs_of [some (.ref (ad 0 0)), some (.int (nI t)), none] (by decide) rfl (Nat.le_of_ble_eq_true rfl) ?_
  first | refine Es_aload_n (hC _) dX5_cast_0 rfl ?_ | refine Es_aload_nN (hC _) dX5_cast_0 rfl ?_
  refine Es_iload_n (hC _) dX5_cast_1 rfl ?_
  refine Es_fV (hC _) mv_X5_132 dX5_cast_2 (c_tyreAt_in hnt h40 ht) rfl rfl ⟨_, rfl, rfl⟩ rfl rfl (by decide) (Nat.le_of_ble_eq_true rfl) ?_
  first | refine Es_astore_n (lv' := [_, _, _]) (hC _) dX5_cast_5 (by decide) rfl rfl ?_ | refine Es_astore_nN (lv' := [_, _, _]) (hC _) dX5_cast_5 (by decide) rfl rfl ?_
  first | refine Es_aload_n (hC _) dX5_cast_6 rfl ?_ | refine Es_aload_nN (hC _) dX5_cast_6 rfl ?_
  refine Es_ifnonnull (hC _) 16 dX5_cast_7 (by decide) ?_
  first | refine Es_aload_n (hC _) dX5_cast_16 rfl ?_ | refine Es_aload_nN (hC _) dX5_cast_16 rfl ?_
  refine Sg_X2_10 (hC _) fl_X5_139 dX5_cast_17 (by assumption) ?_
  refine Es_iconst (v := -1) (hC _) dX5_cast_20 (by decide) ?_
  refine Es_icmp_eq (hC _) 31 dX5_cast_21 (by decide) (fun hb21 => False.elim ((by first | exact absurd hb21 (by decide) | exact absurd hb21 (by assumption) | exact hb21 (by assumption) | exact hb21 rfl | (simp_all [bI]; done)))) (fun hb21 => ?_)
  first | refine Es_aload_n (hC _) dX5_cast_24 rfl ?_ | refine Es_aload_nN (hC _) dX5_cast_24 rfl ?_
  refine Es_bipush (v := -2) (hC _) dX5_cast_25 (by decide) ?_
  refine Es_fV (hC _) mv_X5_70 dX5_cast_27 (c_refuse (k := 2) (by decide) (by decide)) rfl rfl ⟨_, rfl, rfl⟩ rfl rfl (by decide) (Nat.le_of_ble_eq_true rfl) ?_
  exact Es_iret dX5_cast_30 rfl ⟨rfl, rfl, rfl⟩

set_option maxRecDepth 100000 in
set_option maxHeartbeats 4000000 in
theorem r_cast_2 {ad : sA} {nw nt : Nat} {B : sB} {L : sL} (hnt : B 25 0 5 = nI nt) (h40 : nt ≤ 40) {t : Nat} (ht : t < nt) (hwh : ¬ B 47 0 t = -1) : Cf yX6_cast cX6_cast 2 (some FieldType.int) 3 [.ref (ad 25 0), .int (nI t)] ad nw nt B L (some (.int (-2))) (uB B 30 0 2 (B 30 0 2 + 1)) (L) := by
  have hC : ∀ Q, je_Ok (sCm yX6_cast cX6_cast 2 (some FieldType.int) 3 ad nw nt Q) RX6 cX6_cast 2 3 := fun _ => je_Cm_ok
  refine Cs_of [some (.ref (ad 25 0)), some (.int (nI t))] (by decide) rfl (Nat.le_of_ble_eq_true rfl) ?_
  refine Es_iload_n (hC _) dX6_cast_0 rfl ?_
  first | refine Es_aload_n (hC _) dX6_cast_1 rfl ?_ | refine Es_aload_nN (hC _) dX6_cast_1 rfl ?_
  refine Sg_X6_5 (hC _) fl_X6_107 dX6_cast_2 ?_
  rw [hnt]
  refine Es_fS (hC _) ms_X6_89 dX6_cast_5 (r_isIn_in ht (by omega)) rfl rfl (by decide) (Nat.le_of_ble_eq_true rfl) ?_
  refine Es_if_ne (hC _) 17 dX6_cast_8 (by decide) (fun hb8 => ?_) (fun hb8 => False.elim ((by first | exact absurd hb8 (by decide) | exact absurd hb8 (by assumption) | exact hb8 (by assumption) | exact hb8 rfl | (simp_all [bI]; done))))
  first | refine Es_aload_n (hC _) dX6_cast_17 rfl ?_ | refine Es_aload_nN (hC _) dX6_cast_17 rfl ?_
  refine Sg_X6_17 (hC _) fl_X6_50 dX6_cast_18 ?_
  refine Es_iload_n (hC _) dX6_cast_21 rfl ?_
  refine Es_ialdN (hC _) dX6_cast_22 rfl rfl rfl (by omega) (by decide) ?_
  refine Es_iconst (v := -1) (hC _) dX6_cast_23 (by decide) ?_
  refine Es_icmp_eq (hC _) 34 dX6_cast_24 (by decide) (fun hb24 => False.elim ((by first | exact absurd hb24 (by decide) | exact absurd hb24 (by assumption) | exact hb24 (by assumption) | exact hb24 rfl | (simp_all [bI]; done)))) (fun hb24 => ?_)
  first | refine Es_aload_n (hC _) dX6_cast_27 rfl ?_ | refine Es_aload_nN (hC _) dX6_cast_27 rfl ?_
  refine Es_bipush (v := -2) (hC _) dX6_cast_28 (by decide) ?_
  refine Es_fV (hC _) mv_X6_93 dX6_cast_30 (r_refuse (k := 2) (by decide) (by decide)) rfl rfl ⟨_, rfl, rfl⟩ rfl rfl (by decide) (Nat.le_of_ble_eq_true rfl) ?_
  exact Es_iret dX6_cast_33 rfl ⟨rfl, rfl, rfl⟩

set_option maxRecDepth 100000 in
set_option maxHeartbeats 4000000 in
theorem c_mend_3 {ad : sA} {nw nt : Nat} {B : sB} {L : sL} (hnt : B 0 0 9 = nI nt) (h40 : nt ≤ 40) {t : Nat} (ht : t < nt) (hwh : B 21 t 10 = -1) (hm : B 21 t 8 = nI 9) : Cf yX5_mend cX5_mend 3 (some FieldType.int) 5 [.ref (ad 0 0), .int (nI t)] ad nw nt B L (some (.int (-6))) (uB B 5 0 6 (B 5 0 6 + 1)) (L) := by
  have hC : ∀ Q, je_Ok (sCm yX5_mend cX5_mend 3 (some FieldType.int) 5 ad nw nt Q) RX5 cX5_mend 3 5 := fun _ => je_Cm_ok
  refine Cs_of [some (.ref (ad 0 0)), some (.int (nI t)), none] (by decide) rfl (Nat.le_of_ble_eq_true rfl) ?_
  first | refine Es_aload_n (hC _) dX5_mend_0 rfl ?_ | refine Es_aload_nN (hC _) dX5_mend_0 rfl ?_
  refine Es_iload_n (hC _) dX5_mend_1 rfl ?_
  refine Es_fV (hC _) mv_X5_132 dX5_mend_2 (c_tyreAt_in hnt h40 ht) rfl rfl ⟨_, rfl, rfl⟩ rfl rfl (by decide) (Nat.le_of_ble_eq_true rfl) ?_
  first | refine Es_astore_n (lv' := [_, _, _]) (hC _) dX5_mend_5 (by decide) rfl rfl ?_ | refine Es_astore_nN (lv' := [_, _, _]) (hC _) dX5_mend_5 (by decide) rfl rfl ?_
  first | refine Es_aload_n (hC _) dX5_mend_6 rfl ?_ | refine Es_aload_nN (hC _) dX5_mend_6 rfl ?_
  refine Es_ifnonnull (hC _) 16 dX5_mend_7 (by decide) ?_
  first | refine Es_aload_n (hC _) dX5_mend_16 rfl ?_ | refine Es_aload_nN (hC _) dX5_mend_16 rfl ?_
  refine Sg_X2_10 (hC _) fl_X5_139 dX5_mend_17 (by assumption) ?_
  refine Es_iconst (v := -1) (hC _) dX5_mend_20 (by decide) ?_
  refine Es_icmp_eq (hC _) 31 dX5_mend_21 (by decide) (fun hb21 => ?_) (fun hb21 => False.elim ((by first | exact absurd hb21 (by decide) | exact absurd hb21 (by assumption) | exact hb21 (by assumption) | exact hb21 rfl | (simp_all [bI]; done))))
  first | refine Es_aload_n (hC _) dX5_mend_31 rfl ?_ | refine Es_aload_nN (hC _) dX5_mend_31 rfl ?_
  refine Sg_X2_8 (hC _) fl_X5_213 dX5_mend_32 (by assumption) ?_
  refine Es_bipush (v := 9) (hC _) dX5_mend_35 (by decide) ?_
  refine Es_icmp_lt (hC _) 47 dX5_mend_37 (by decide) (fun hb37 => False.elim (absurd hb37 (by rw [hm]; decide))) (fun hb37 => ?_)
  first | refine Es_aload_n (hC _) dX5_mend_40 rfl ?_ | refine Es_aload_nN (hC _) dX5_mend_40 rfl ?_
  refine Es_bipush (v := -6) (hC _) dX5_mend_41 (by decide) ?_
  refine Es_fV (hC _) mv_X5_70 dX5_mend_43 (c_refuse (k := 6) (by decide) (by decide)) rfl rfl ⟨_, rfl, rfl⟩ rfl rfl (by decide) (Nat.le_of_ble_eq_true rfl) ?_
  exact Es_iret dX5_mend_46 rfl ⟨rfl, rfl, rfl⟩

set_option maxRecDepth 100000 in
set_option maxHeartbeats 4000000 in
theorem r_mend_3 {ad : sA} {nw nt : Nat} {B : sB} {L : sL} (hnt : B 25 0 5 = nI nt) (h40 : nt ≤ 40) {t : Nat} (ht : t < nt) (hwh : B 47 0 t = -1) (hm : B 45 0 t = nI 9) : Cf yX6_mend cX6_mend 2 (some FieldType.int) 3 [.ref (ad 25 0), .int (nI t)] ad nw nt B L (some (.int (-6))) (uB B 30 0 6 (B 30 0 6 + 1)) (L) := by
  have hC : ∀ Q, je_Ok (sCm yX6_mend cX6_mend 2 (some FieldType.int) 3 ad nw nt Q) RX6 cX6_mend 2 3 := fun _ => je_Cm_ok
  refine Cs_of [some (.ref (ad 25 0)), some (.int (nI t))] (by decide) rfl (Nat.le_of_ble_eq_true rfl) ?_
  refine Es_iload_n (hC _) dX6_mend_0 rfl ?_
  first | refine Es_aload_n (hC _) dX6_mend_1 rfl ?_ | refine Es_aload_nN (hC _) dX6_mend_1 rfl ?_
  refine Sg_X6_5 (hC _) fl_X6_107 dX6_mend_2 ?_
  rw [hnt]
  refine Es_fS (hC _) ms_X6_89 dX6_mend_5 (r_isIn_in ht (by omega)) rfl rfl (by decide) (Nat.le_of_ble_eq_true rfl) ?_
  refine Es_if_ne (hC _) 17 dX6_mend_8 (by decide) (fun hb8 => ?_) (fun hb8 => False.elim ((by first | exact absurd hb8 (by decide) | exact absurd hb8 (by assumption) | exact hb8 (by assumption) | exact hb8 rfl | (simp_all [bI]; done))))
  first | refine Es_aload_n (hC _) dX6_mend_17 rfl ?_ | refine Es_aload_nN (hC _) dX6_mend_17 rfl ?_
  refine Sg_X6_17 (hC _) fl_X6_50 dX6_mend_18 ?_
  refine Es_iload_n (hC _) dX6_mend_21 rfl ?_
  refine Es_ialdN (hC _) dX6_mend_22 rfl rfl rfl (by omega) (by decide) ?_
  refine Es_iconst (v := -1) (hC _) dX6_mend_23 (by decide) ?_
  refine Es_icmp_eq (hC _) 34 dX6_mend_24 (by decide) (fun hb24 => ?_) (fun hb24 => False.elim ((by first | exact absurd hb24 (by decide) | exact absurd hb24 (by assumption) | exact hb24 (by assumption) | exact hb24 rfl | (simp_all [bI]; done))))
  first | refine Es_aload_n (hC _) dX6_mend_34 rfl ?_ | refine Es_aload_nN (hC _) dX6_mend_34 rfl ?_
  refine Sg_X6_15 (hC _) fl_X6_44 dX6_mend_35 ?_
  refine Es_iload_n (hC _) dX6_mend_38 rfl ?_
  refine Es_ialdN (hC _) dX6_mend_39 rfl rfl rfl (by omega) (by decide) ?_
  refine Es_bipush (v := 9) (hC _) dX6_mend_40 (by decide) ?_
  refine Es_icmp_ne (hC _) 52 dX6_mend_42 (by decide) (fun hb42 => False.elim (hb42 (by rw [hm]; decide))) (fun hb42 => ?_)
  first | refine Es_aload_n (hC _) dX6_mend_45 rfl ?_ | refine Es_aload_nN (hC _) dX6_mend_45 rfl ?_
  refine Es_bipush (v := -6) (hC _) dX6_mend_46 (by decide) ?_
  refine Es_fV (hC _) mv_X6_93 dX6_mend_48 (r_refuse (k := 6) (by decide) (by decide)) rfl rfl ⟨_, rfl, rfl⟩ rfl rfl (by decide) (Nat.le_of_ble_eq_true rfl) ?_
  exact Es_iret dX6_mend_51 rfl ⟨rfl, rfl, rfl⟩

set_option maxRecDepth 100000 in
set_option maxHeartbeats 4000000 in
theorem c_mend_4 {ad : sA} {nw nt : Nat} {B : sB} {L : sL} (hnt : B 0 0 9 = nI nt) (h40 : nt ≤ 40) {t : Nat} (ht : t < nt) {m : Nat} (hwh : B 21 t 10 = -1) (hm : B 21 t 8 = nI m) (h9 : m < 9) : Cf yX5_mend cX5_mend 3 (some FieldType.int) 5 [.ref (ad 0 0), .int (nI t)] ad nw nt B L (some (.int (nI (m + 1)))) (uB B 21 t 8 (nI (m + 1))) (L) := by
  have hC : ∀ Q, je_Ok (sCm yX5_mend cX5_mend 3 (some FieldType.int) 5 ad nw nt Q) RX5 cX5_mend 3 5 := fun _ => je_Cm_ok
  refine Cs_of [some (.ref (ad 0 0)), some (.int (nI t)), none] (by decide) rfl (Nat.le_of_ble_eq_true rfl) ?_
  first | refine Es_aload_n (hC _) dX5_mend_0 rfl ?_ | refine Es_aload_nN (hC _) dX5_mend_0 rfl ?_
  refine Es_iload_n (hC _) dX5_mend_1 rfl ?_
  refine Es_fV (hC _) mv_X5_132 dX5_mend_2 (c_tyreAt_in hnt h40 ht) rfl rfl ⟨_, rfl, rfl⟩ rfl rfl (by decide) (Nat.le_of_ble_eq_true rfl) ?_
  first | refine Es_astore_n (lv' := [_, _, _]) (hC _) dX5_mend_5 (by decide) rfl rfl ?_ | refine Es_astore_nN (lv' := [_, _, _]) (hC _) dX5_mend_5 (by decide) rfl rfl ?_
  first | refine Es_aload_n (hC _) dX5_mend_6 rfl ?_ | refine Es_aload_nN (hC _) dX5_mend_6 rfl ?_
  refine Es_ifnonnull (hC _) 16 dX5_mend_7 (by decide) ?_
  first | refine Es_aload_n (hC _) dX5_mend_16 rfl ?_ | refine Es_aload_nN (hC _) dX5_mend_16 rfl ?_
  refine Sg_X2_10 (hC _) fl_X5_139 dX5_mend_17 (by assumption) ?_
  refine Es_iconst (v := -1) (hC _) dX5_mend_20 (by decide) ?_
  refine Es_icmp_eq (hC _) 31 dX5_mend_21 (by decide) (fun hb21 => ?_) (fun hb21 => False.elim ((by first | exact absurd hb21 (by decide) | exact absurd hb21 (by assumption) | exact hb21 (by assumption) | exact hb21 rfl | (simp_all [bI]; done))))
  first | refine Es_aload_n (hC _) dX5_mend_31 rfl ?_ | refine Es_aload_nN (hC _) dX5_mend_31 rfl ?_
  refine Sg_X2_8 (hC _) fl_X5_213 dX5_mend_32 (by assumption) ?_
  refine Es_bipush (v := 9) (hC _) dX5_mend_35 (by decide) ?_
  refine Es_icmp_lt (hC _) 47 dX5_mend_37 (by decide) (fun hb37 => ?_) (fun hb37 => False.elim (hb37 (by rw [hm]; exact nI_lt (b := 9) h9 (by decide))))
  first | refine Es_aload_n (hC _) dX5_mend_47 rfl ?_ | refine Es_aload_nN (hC _) dX5_mend_47 rfl ?_
  refine Es_dup (hC _) dX5_mend_48 rfl ?_
  refine Sg_X2_8 (hC _) fl_X5_213 dX5_mend_49 (by assumption) ?_
  refine Es_iconst (v := 1) (hC _) dX5_mend_52 (by decide) ?_
  refine Es_iadd (hC _) dX5_mend_53 ?_
  rw [hm, nI_1]
  refine Sp_X2_8 (hC _) fl_X5_213 dX5_mend_54 (by assumption) ?_
  first | refine Es_aload_n (hC _) dX5_mend_57 rfl ?_ | refine Es_aload_nN (hC _) dX5_mend_57 rfl ?_
  refine Sg_X2_8 (hC _) fl_X5_213 dX5_mend_58 (by assumption) ?_
  exact Es_iret dX5_mend_61 rfl ⟨by rw [uB_s], rfl, rfl⟩

set_option maxRecDepth 100000 in
set_option maxHeartbeats 4000000 in
theorem r_mend_4 {ad : sA} {nw nt : Nat} {B : sB} {L : sL} (hnt : B 25 0 5 = nI nt) (h40 : nt ≤ 40) {t : Nat} (ht : t < nt) {m : Nat} (hwh : B 47 0 t = -1) (hm : B 45 0 t = nI m) (h9 : m < 9) : Cf yX6_mend cX6_mend 2 (some FieldType.int) 3 [.ref (ad 25 0), .int (nI t)] ad nw nt B L (some (.int (nI (m + 1)))) (uB B 45 0 t (nI (m + 1))) (L) := by
  have hC : ∀ Q, je_Ok (sCm yX6_mend cX6_mend 2 (some FieldType.int) 3 ad nw nt Q) RX6 cX6_mend 2 3 := fun _ => je_Cm_ok
  refine Cs_of [some (.ref (ad 25 0)), some (.int (nI t))] (by decide) rfl (Nat.le_of_ble_eq_true rfl) ?_
  refine Es_iload_n (hC _) dX6_mend_0 rfl ?_
  first | refine Es_aload_n (hC _) dX6_mend_1 rfl ?_ | refine Es_aload_nN (hC _) dX6_mend_1 rfl ?_
  refine Sg_X6_5 (hC _) fl_X6_107 dX6_mend_2 ?_
  rw [hnt]
  refine Es_fS (hC _) ms_X6_89 dX6_mend_5 (r_isIn_in ht (by omega)) rfl rfl (by decide) (Nat.le_of_ble_eq_true rfl) ?_
  refine Es_if_ne (hC _) 17 dX6_mend_8 (by decide) (fun hb8 => ?_) (fun hb8 => False.elim ((by first | exact absurd hb8 (by decide) | exact absurd hb8 (by assumption) | exact hb8 (by assumption) | exact hb8 rfl | (simp_all [bI]; done))))
  first | refine Es_aload_n (hC _) dX6_mend_17 rfl ?_ | refine Es_aload_nN (hC _) dX6_mend_17 rfl ?_
  refine Sg_X6_17 (hC _) fl_X6_50 dX6_mend_18 ?_
  refine Es_iload_n (hC _) dX6_mend_21 rfl ?_
  refine Es_ialdN (hC _) dX6_mend_22 rfl rfl rfl (by omega) (by decide) ?_
  refine Es_iconst (v := -1) (hC _) dX6_mend_23 (by decide) ?_
  refine Es_icmp_eq (hC _) 34 dX6_mend_24 (by decide) (fun hb24 => ?_) (fun hb24 => False.elim ((by first | exact absurd hb24 (by decide) | exact absurd hb24 (by assumption) | exact hb24 (by assumption) | exact hb24 rfl | (simp_all [bI]; done))))
  first | refine Es_aload_n (hC _) dX6_mend_34 rfl ?_ | refine Es_aload_nN (hC _) dX6_mend_34 rfl ?_
  refine Sg_X6_15 (hC _) fl_X6_44 dX6_mend_35 ?_
  refine Es_iload_n (hC _) dX6_mend_38 rfl ?_
  refine Es_ialdN (hC _) dX6_mend_39 rfl rfl rfl (by omega) (by decide) ?_
  refine Es_bipush (v := 9) (hC _) dX6_mend_40 (by decide) ?_
  refine Es_icmp_ne (hC _) 52 dX6_mend_42 (by decide) (fun hb42 => ?_) (fun hb42 => False.elim (absurd ((nI_eq (a := m) (b := 9) (by omega) (by decide)).mp (hm.symm.trans hb42)) (by omega)))
  first | refine Es_aload_n (hC _) dX6_mend_52 rfl ?_ | refine Es_aload_nN (hC _) dX6_mend_52 rfl ?_
  refine Sg_X6_15 (hC _) fl_X6_44 dX6_mend_53 ?_
  refine Es_iload_n (hC _) dX6_mend_56 rfl ?_
  refine Es_dup2 (hC _) dX6_mend_57 rfl rfl ?_
  refine Es_ialdN (hC _) dX6_mend_58 rfl rfl rfl (by omega) (by decide) ?_
  refine Es_iconst (v := 1) (hC _) dX6_mend_59 (by decide) ?_
  refine Es_iadd (hC _) dX6_mend_60 ?_
  rw [hm, nI_1]
  refine Es_iastN (hC _) dX6_mend_61 rfl (fun _ => rfl) rfl (by omega) (by decide) ?_
  first | refine Es_aload_n (hC _) dX6_mend_62 rfl ?_ | refine Es_aload_nN (hC _) dX6_mend_62 rfl ?_
  refine Sg_X6_15 (hC _) fl_X6_44 dX6_mend_63 ?_
  refine Es_iload_n (hC _) dX6_mend_66 rfl ?_
  refine Es_ialdN (hC _) dX6_mend_67 rfl rfl rfl (by omega) (by decide) ?_
  exact Es_iret dX6_mend_68 rfl ⟨by rw [uB_s], rfl, rfl⟩

set_option maxRecDepth 100000 in
set_option maxHeartbeats 4000000 in
theorem c_cast_3 {ad : sA} {nw nt : Nat} {B : sB} {L : sL} (hnt : B 0 0 9 = nI nt) (h40 : nt ≤ 40) {t : Nat} (ht : t < nt) (hwh : B 21 t 10 = -1) (hk : B 6 0 3 = nI 600) : Cf yX5_cast cX5_cast 3 (some FieldType.int) 5 [.ref (ad 0 0), .int (nI t)] ad nw nt B L (some (.int (-6))) (uB B 5 0 6 (B 5 0 6 + 1)) (L) := by
  have hC : ∀ Q, je_Ok (sCm yX5_cast cX5_cast 3 (some FieldType.int) 5 ad nw nt Q) RX5 cX5_cast 3 5 := fun _ => je_Cm_ok
  refine Cs_of [some (.ref (ad 0 0)), some (.int (nI t)), none] (by decide) rfl (Nat.le_of_ble_eq_true rfl) ?_
  first | refine Es_aload_n (hC _) dX5_cast_0 rfl ?_ | refine Es_aload_nN (hC _) dX5_cast_0 rfl ?_
  refine Es_iload_n (hC _) dX5_cast_1 rfl ?_
  refine Es_fV (hC _) mv_X5_132 dX5_cast_2 (c_tyreAt_in hnt h40 ht) rfl rfl ⟨_, rfl, rfl⟩ rfl rfl (by decide) (Nat.le_of_ble_eq_true rfl) ?_
  first | refine Es_astore_n (lv' := [_, _, _]) (hC _) dX5_cast_5 (by decide) rfl rfl ?_ | refine Es_astore_nN (lv' := [_, _, _]) (hC _) dX5_cast_5 (by decide) rfl rfl ?_
  first | refine Es_aload_n (hC _) dX5_cast_6 rfl ?_ | refine Es_aload_nN (hC _) dX5_cast_6 rfl ?_
  refine Es_ifnonnull (hC _) 16 dX5_cast_7 (by decide) ?_
  first | refine Es_aload_n (hC _) dX5_cast_16 rfl ?_ | refine Es_aload_nN (hC _) dX5_cast_16 rfl ?_
  refine Sg_X2_10 (hC _) fl_X5_139 dX5_cast_17 (by assumption) ?_
  refine Es_iconst (v := -1) (hC _) dX5_cast_20 (by decide) ?_
  refine Es_icmp_eq (hC _) 31 dX5_cast_21 (by decide) (fun hb21 => ?_) (fun hb21 => False.elim ((by first | exact absurd hb21 (by decide) | exact absurd hb21 (by assumption) | exact hb21 (by assumption) | exact hb21 rfl | (simp_all [bI]; done))))
  first | refine Es_aload_n (hC _) dX5_cast_31 rfl ?_ | refine Es_aload_nN (hC _) dX5_cast_31 rfl ?_
  refine Sg_X5_5 (hC _) fl_X5_45 dX5_cast_32 ?_
  refine Es_iconst (v := 1) (hC _) dX5_cast_35 (by decide) ?_
  refine Es_fV (hC _) mv_X5_113 dX5_cast_36 (c_hasRoomFor (m := 1) hk (by omega) (by decide)) rfl rfl ⟨_, rfl, rfl⟩ rfl rfl (by decide) (Nat.le_of_ble_eq_true rfl) ?_
  refine Es_if_ne (hC _) 49 dX5_cast_39 (by decide) (fun hb39 => False.elim ((by first | exact absurd hb39 (by decide) | exact absurd hb39 (by assumption) | exact hb39 (by assumption) | exact hb39 rfl | (simp_all [bI]; done)))) (fun hb39 => ?_)
  first | refine Es_aload_n (hC _) dX5_cast_42 rfl ?_ | refine Es_aload_nN (hC _) dX5_cast_42 rfl ?_
  refine Es_bipush (v := -6) (hC _) dX5_cast_43 (by decide) ?_
  refine Es_fV (hC _) mv_X5_70 dX5_cast_45 (c_refuse (k := 6) (by decide) (by decide)) rfl rfl ⟨_, rfl, rfl⟩ rfl rfl (by decide) (Nat.le_of_ble_eq_true rfl) ?_
  exact Es_iret dX5_cast_48 rfl ⟨rfl, rfl, rfl⟩

set_option maxRecDepth 100000 in
set_option maxHeartbeats 4000000 in
theorem r_cast_3 {ad : sA} {nw nt : Nat} {B : sB} {L : sL} (hnt : B 25 0 5 = nI nt) (h40 : nt ≤ 40) {t : Nat} (ht : t < nt) (hwh : B 47 0 t = -1) (hk : B 25 0 7 = nI 600) : Cf yX6_cast cX6_cast 2 (some FieldType.int) 3 [.ref (ad 25 0), .int (nI t)] ad nw nt B L (some (.int (-6))) (uB B 30 0 6 (B 30 0 6 + 1)) (L) := by
  have hC : ∀ Q, je_Ok (sCm yX6_cast cX6_cast 2 (some FieldType.int) 3 ad nw nt Q) RX6 cX6_cast 2 3 := fun _ => je_Cm_ok
  refine Cs_of [some (.ref (ad 25 0)), some (.int (nI t))] (by decide) rfl (Nat.le_of_ble_eq_true rfl) ?_
  refine Es_iload_n (hC _) dX6_cast_0 rfl ?_
  first | refine Es_aload_n (hC _) dX6_cast_1 rfl ?_ | refine Es_aload_nN (hC _) dX6_cast_1 rfl ?_
  refine Sg_X6_5 (hC _) fl_X6_107 dX6_cast_2 ?_
  rw [hnt]
  refine Es_fS (hC _) ms_X6_89 dX6_cast_5 (r_isIn_in ht (by omega)) rfl rfl (by decide) (Nat.le_of_ble_eq_true rfl) ?_
  refine Es_if_ne (hC _) 17 dX6_cast_8 (by decide) (fun hb8 => ?_) (fun hb8 => False.elim ((by first | exact absurd hb8 (by decide) | exact absurd hb8 (by assumption) | exact hb8 (by assumption) | exact hb8 rfl | (simp_all [bI]; done))))
  first | refine Es_aload_n (hC _) dX6_cast_17 rfl ?_ | refine Es_aload_nN (hC _) dX6_cast_17 rfl ?_
  refine Sg_X6_17 (hC _) fl_X6_50 dX6_cast_18 ?_
  refine Es_iload_n (hC _) dX6_cast_21 rfl ?_
  refine Es_ialdN (hC _) dX6_cast_22 rfl rfl rfl (by omega) (by decide) ?_
  refine Es_iconst (v := -1) (hC _) dX6_cast_23 (by decide) ?_
  refine Es_icmp_eq (hC _) 34 dX6_cast_24 (by decide) (fun hb24 => ?_) (fun hb24 => False.elim ((by first | exact absurd hb24 (by decide) | exact absurd hb24 (by assumption) | exact hb24 (by assumption) | exact hb24 rfl | (simp_all [bI]; done))))
  first | refine Es_aload_n (hC _) dX6_cast_34 rfl ?_ | refine Es_aload_nN (hC _) dX6_cast_34 rfl ?_
  refine Es_iconst (v := 1) (hC _) dX6_cast_35 (by decide) ?_
  refine Es_fV (hC _) mv_X6_110 dX6_cast_36 (r_hasRoom (m := 1) hk (by omega) (by decide)) rfl rfl ⟨_, rfl, rfl⟩ rfl rfl (by decide) (Nat.le_of_ble_eq_true rfl) ?_
  refine Es_if_ne (hC _) 49 dX6_cast_39 (by decide) (fun hb39 => False.elim ((by first | exact absurd hb39 (by decide) | exact absurd hb39 (by assumption) | exact hb39 (by assumption) | exact hb39 rfl | (simp_all [bI]; done)))) (fun hb39 => ?_)
  first | refine Es_aload_n (hC _) dX6_cast_42 rfl ?_ | refine Es_aload_nN (hC _) dX6_cast_42 rfl ?_
  refine Es_bipush (v := -6) (hC _) dX6_cast_43 (by decide) ?_
  refine Es_fV (hC _) mv_X6_93 dX6_cast_45 (r_refuse (k := 6) (by decide) (by decide)) rfl rfl ⟨_, rfl, rfl⟩ rfl rfl (by decide) (Nat.le_of_ble_eq_true rfl) ?_
  exact Es_iret dX6_cast_48 rfl ⟨rfl, rfl, rfl⟩

set_option maxRecDepth 100000 in
set_option maxHeartbeats 4000000 in
theorem c_cast_4 {ad : sA} {nw nt : Nat} {B : sB} {L : sL} (hnt : B 0 0 9 = nI nt) (h40 : nt ≤ 40) {t : Nat} (ht : t < nt) {k : Nat} (hwh : B 21 t 10 = -1) (hk : B 6 0 3 = nI k) (h6 : k < 600) : Cf yX5_cast cX5_cast 3 (some FieldType.int) 5 [.ref (ad 0 0), .int (nI t)] ad nw nt B L (some (.int 1)) (cLog (uB B 21 t 10 (-3)) k (B 0 0 11) (B 21 t 0) (-3)) (L) := by
  have hC : ∀ Q, je_Ok (sCm yX5_cast cX5_cast 3 (some FieldType.int) 5 ad nw nt Q) RX5 cX5_cast 3 5 := fun _ => je_Cm_ok
  refine Cs_of [some (.ref (ad 0 0)), some (.int (nI t)), none] (by decide) rfl (Nat.le_of_ble_eq_true rfl) ?_
  first | refine Es_aload_n (hC _) dX5_cast_0 rfl ?_ | refine Es_aload_nN (hC _) dX5_cast_0 rfl ?_
  refine Es_iload_n (hC _) dX5_cast_1 rfl ?_
  refine Es_fV (hC _) mv_X5_132 dX5_cast_2 (c_tyreAt_in hnt h40 ht) rfl rfl ⟨_, rfl, rfl⟩ rfl rfl (by decide) (Nat.le_of_ble_eq_true rfl) ?_
  first | refine Es_astore_n (lv' := [_, _, _]) (hC _) dX5_cast_5 (by decide) rfl rfl ?_ | refine Es_astore_nN (lv' := [_, _, _]) (hC _) dX5_cast_5 (by decide) rfl rfl ?_
  first | refine Es_aload_n (hC _) dX5_cast_6 rfl ?_ | refine Es_aload_nN (hC _) dX5_cast_6 rfl ?_
  refine Es_ifnonnull (hC _) 16 dX5_cast_7 (by decide) ?_
  first | refine Es_aload_n (hC _) dX5_cast_16 rfl ?_ | refine Es_aload_nN (hC _) dX5_cast_16 rfl ?_
  refine Sg_X2_10 (hC _) fl_X5_139 dX5_cast_17 (by assumption) ?_
  refine Es_iconst (v := -1) (hC _) dX5_cast_20 (by decide) ?_
  refine Es_icmp_eq (hC _) 31 dX5_cast_21 (by decide) (fun hb21 => ?_) (fun hb21 => False.elim ((by first | exact absurd hb21 (by decide) | exact absurd hb21 (by assumption) | exact hb21 (by assumption) | exact hb21 rfl | (simp_all [bI]; done))))
  first | refine Es_aload_n (hC _) dX5_cast_31 rfl ?_ | refine Es_aload_nN (hC _) dX5_cast_31 rfl ?_
  refine Sg_X5_5 (hC _) fl_X5_45 dX5_cast_32 ?_
  refine Es_iconst (v := 1) (hC _) dX5_cast_35 (by decide) ?_
  refine Es_fV (hC _) mv_X5_113 dX5_cast_36 (c_hasRoomFor (m := 1) hk (by omega) (by decide)) rfl rfl ⟨_, rfl, rfl⟩ rfl rfl (by decide) (Nat.le_of_ble_eq_true rfl) ?_
  refine Es_if_ne (hC _) 49 dX5_cast_39 (by decide) (fun hb39 => ?_) (fun hb39 => False.elim (absurd hb39 (by rw [bI, if_pos (by omega)]; decide)))
  first | refine Es_aload_n (hC _) dX5_cast_49 rfl ?_ | refine Es_aload_nN (hC _) dX5_cast_49 rfl ?_
  first | refine Es_aload_n (hC _) dX5_cast_50 rfl ?_ | refine Es_aload_nN (hC _) dX5_cast_50 rfl ?_
  refine Es_bipush (v := -3) (hC _) dX5_cast_51 (by decide) ?_
  refine Es_fV (hC _) mv_X5_128 dX5_cast_53 (c_move ht hk h6) rfl rfl ⟨_, rfl, rfl⟩ rfl rfl (by decide) (Nat.le_of_ble_eq_true rfl) ?_
  refine Es_iconst (v := 1) (hC _) dX5_cast_56 (by decide) ?_
  exact Es_iret dX5_cast_57 rfl ⟨rfl, rfl, rfl⟩

set_option maxRecDepth 100000 in
set_option maxHeartbeats 4000000 in
theorem r_cast_4 {ad : sA} {nw nt : Nat} {B : sB} {L : sL} (hnt : B 25 0 5 = nI nt) (h40 : nt ≤ 40) {t : Nat} (ht : t < nt) {k : Nat} (hwh : B 47 0 t = -1) (hk : B 25 0 7 = nI k) (h6 : k < 600) : Cf yX6_cast cX6_cast 2 (some FieldType.int) 3 [.ref (ad 25 0), .int (nI t)] ad nw nt B L (some (.int 1)) (rLog (uB B 47 0 t (-3)) k t) (L) := by
  have hC : ∀ Q, je_Ok (sCm yX6_cast cX6_cast 2 (some FieldType.int) 3 ad nw nt Q) RX6 cX6_cast 2 3 := fun _ => je_Cm_ok
  refine Cs_of [some (.ref (ad 25 0)), some (.int (nI t))] (by decide) rfl (Nat.le_of_ble_eq_true rfl) ?_
  refine Es_iload_n (hC _) dX6_cast_0 rfl ?_
  first | refine Es_aload_n (hC _) dX6_cast_1 rfl ?_ | refine Es_aload_nN (hC _) dX6_cast_1 rfl ?_
  refine Sg_X6_5 (hC _) fl_X6_107 dX6_cast_2 ?_
  rw [hnt]
  refine Es_fS (hC _) ms_X6_89 dX6_cast_5 (r_isIn_in ht (by omega)) rfl rfl (by decide) (Nat.le_of_ble_eq_true rfl) ?_
  refine Es_if_ne (hC _) 17 dX6_cast_8 (by decide) (fun hb8 => ?_) (fun hb8 => False.elim ((by first | exact absurd hb8 (by decide) | exact absurd hb8 (by assumption) | exact hb8 (by assumption) | exact hb8 rfl | (simp_all [bI]; done))))
  first | refine Es_aload_n (hC _) dX6_cast_17 rfl ?_ | refine Es_aload_nN (hC _) dX6_cast_17 rfl ?_
  refine Sg_X6_17 (hC _) fl_X6_50 dX6_cast_18 ?_
  refine Es_iload_n (hC _) dX6_cast_21 rfl ?_
  refine Es_ialdN (hC _) dX6_cast_22 rfl rfl rfl (by omega) (by decide) ?_
  refine Es_iconst (v := -1) (hC _) dX6_cast_23 (by decide) ?_
  refine Es_icmp_eq (hC _) 34 dX6_cast_24 (by decide) (fun hb24 => ?_) (fun hb24 => False.elim ((by first | exact absurd hb24 (by decide) | exact absurd hb24 (by assumption) | exact hb24 (by assumption) | exact hb24 rfl | (simp_all [bI]; done))))
  first | refine Es_aload_n (hC _) dX6_cast_34 rfl ?_ | refine Es_aload_nN (hC _) dX6_cast_34 rfl ?_
  refine Es_iconst (v := 1) (hC _) dX6_cast_35 (by decide) ?_
  refine Es_fV (hC _) mv_X6_110 dX6_cast_36 (r_hasRoom (m := 1) hk (by omega) (by decide)) rfl rfl ⟨_, rfl, rfl⟩ rfl rfl (by decide) (Nat.le_of_ble_eq_true rfl) ?_
  refine Es_if_ne (hC _) 49 dX6_cast_39 (by decide) (fun hb39 => ?_) (fun hb39 => False.elim (absurd hb39 (by rw [bI, if_pos (by omega)]; decide)))
  first | refine Es_aload_n (hC _) dX6_cast_49 rfl ?_ | refine Es_aload_nN (hC _) dX6_cast_49 rfl ?_
  refine Es_iload_n (hC _) dX6_cast_50 rfl ?_
  refine Es_bipush (v := -3) (hC _) dX6_cast_51 (by decide) ?_
  refine Es_fV (hC _) mv_X6_124 dX6_cast_53 (r_lays (by omega) hk h6) rfl rfl ⟨_, rfl, rfl⟩ rfl rfl (by decide) (Nat.le_of_ble_eq_true rfl) ?_
  refine Es_iconst (v := 1) (hC _) dX6_cast_56 (by decide) ?_
  exact Es_iret dX6_cast_57 rfl ⟨rfl, rfl, rfl⟩

set_option maxRecDepth 100000 in
set_option maxHeartbeats 4000000 in
theorem c_send_2a {ad : sA} {nw nt : Nat} {B : sB} {L : sL} (hnt : B 0 0 9 = nI nt) (h40 : nt ≤ 40) {t : Nat} (ht : t < nt) (hwh : ¬ B 21 t 10 = -1) : Cf yX5_send cX5_send 3 (some FieldType.int) 5 [.ref (ad 0 0), .int (nI t)] ad nw nt B L (some (.int (-2))) (uB B 5 0 2 (B 5 0 2 + 1)) (L) := by
  have hC : ∀ Q, je_Ok (sCm yX5_send cX5_send 3 (some FieldType.int) 5 ad nw nt Q) RX5 cX5_send 3 5 := fun _ => je_Cm_ok
  refine Cs_of [some (.ref (ad 0 0)), some (.int (nI t)), none] (by decide) rfl (Nat.le_of_ble_eq_true rfl) ?_
  first | refine Es_aload_n (hC _) dX5_send_0 rfl ?_ | refine Es_aload_nN (hC _) dX5_send_0 rfl ?_
  refine Es_iload_n (hC _) dX5_send_1 rfl ?_
  refine Es_fV (hC _) mv_X5_132 dX5_send_2 (c_tyreAt_in hnt h40 ht) rfl rfl ⟨_, rfl, rfl⟩ rfl rfl (by decide) (Nat.le_of_ble_eq_true rfl) ?_
  first | refine Es_astore_n (lv' := [_, _, _]) (hC _) dX5_send_5 (by decide) rfl rfl ?_ | refine Es_astore_nN (lv' := [_, _, _]) (hC _) dX5_send_5 (by decide) rfl rfl ?_
  first | refine Es_aload_n (hC _) dX5_send_6 rfl ?_ | refine Es_aload_nN (hC _) dX5_send_6 rfl ?_
  refine Es_ifnonnull (hC _) 16 dX5_send_7 (by decide) ?_
  first | refine Es_aload_n (hC _) dX5_send_16 rfl ?_ | refine Es_aload_nN (hC _) dX5_send_16 rfl ?_
  refine Sg_X2_10 (hC _) fl_X5_139 dX5_send_17 (by assumption) ?_
  refine Es_iconst (v := -1) (hC _) dX5_send_20 (by decide) ?_
  refine Es_icmp_ne (hC _) 40 dX5_send_21 (by decide) (fun hb21 => ?_) (fun hb21 => False.elim ((by first | exact absurd hb21 (by decide) | exact absurd hb21 (by assumption) | exact hb21 (by assumption) | exact hb21 rfl | (simp_all [bI]; done))))
  first | refine Es_aload_n (hC _) dX5_send_40 rfl ?_ | refine Es_aload_nN (hC _) dX5_send_40 rfl ?_
  refine Es_bipush (v := -2) (hC _) dX5_send_41 (by decide) ?_
  refine Es_fV (hC _) mv_X5_70 dX5_send_43 (c_refuse (k := 2) (by decide) (by decide)) rfl rfl ⟨_, rfl, rfl⟩ rfl rfl (by decide) (Nat.le_of_ble_eq_true rfl) ?_
  exact Es_iret dX5_send_46 rfl ⟨rfl, rfl, rfl⟩

set_option maxRecDepth 100000 in
set_option maxHeartbeats 4000000 in
theorem r_send_2a {ad : sA} {nw nt : Nat} {B : sB} {L : sL} (hnt : B 25 0 5 = nI nt) (h40 : nt ≤ 40) {t : Nat} (ht : t < nt) (hwh : ¬ B 47 0 t = -1) : Cf yX6_send cX6_send 2 (some FieldType.int) 3 [.ref (ad 25 0), .int (nI t)] ad nw nt B L (some (.int (-2))) (uB B 30 0 2 (B 30 0 2 + 1)) (L) := by
  have hC : ∀ Q, je_Ok (sCm yX6_send cX6_send 2 (some FieldType.int) 3 ad nw nt Q) RX6 cX6_send 2 3 := fun _ => je_Cm_ok
  refine Cs_of [some (.ref (ad 25 0)), some (.int (nI t))] (by decide) rfl (Nat.le_of_ble_eq_true rfl) ?_
  refine Es_iload_n (hC _) dX6_send_0 rfl ?_
  first | refine Es_aload_n (hC _) dX6_send_1 rfl ?_ | refine Es_aload_nN (hC _) dX6_send_1 rfl ?_
  refine Sg_X6_5 (hC _) fl_X6_107 dX6_send_2 ?_
  rw [hnt]
  refine Es_fS (hC _) ms_X6_89 dX6_send_5 (r_isIn_in ht (by omega)) rfl rfl (by decide) (Nat.le_of_ble_eq_true rfl) ?_
  refine Es_if_ne (hC _) 17 dX6_send_8 (by decide) (fun hb8 => ?_) (fun hb8 => False.elim ((by first | exact absurd hb8 (by decide) | exact absurd hb8 (by assumption) | exact hb8 (by assumption) | exact hb8 rfl | (simp_all [bI]; done))))
  first | refine Es_aload_n (hC _) dX6_send_17 rfl ?_ | refine Es_aload_nN (hC _) dX6_send_17 rfl ?_
  refine Sg_X6_17 (hC _) fl_X6_50 dX6_send_18 ?_
  refine Es_iload_n (hC _) dX6_send_21 rfl ?_
  refine Es_ialdN (hC _) dX6_send_22 rfl rfl rfl (by omega) (by decide) ?_
  refine Es_iconst (v := -1) (hC _) dX6_send_23 (by decide) ?_
  refine Es_icmp_ne (hC _) 47 dX6_send_24 (by decide) (fun hb24 => ?_) (fun hb24 => False.elim ((by first | exact absurd hb24 (by decide) | exact absurd hb24 (by assumption) | exact hb24 (by assumption) | exact hb24 rfl | (simp_all [bI]; done))))
  first | refine Es_aload_n (hC _) dX6_send_47 rfl ?_ | refine Es_aload_nN (hC _) dX6_send_47 rfl ?_
  refine Es_bipush (v := -2) (hC _) dX6_send_48 (by decide) ?_
  refine Es_fV (hC _) mv_X6_93 dX6_send_50 (r_refuse (k := 2) (by decide) (by decide)) rfl rfl ⟨_, rfl, rfl⟩ rfl rfl (by decide) (Nat.le_of_ble_eq_true rfl) ?_
  exact Es_iret dX6_send_53 rfl ⟨rfl, rfl, rfl⟩

set_option maxRecDepth 100000 in
set_option maxHeartbeats 4000000 in
theorem c_send_2b {ad : sA} {nw nt : Nat} {B : sB} {L : sL} (hnt : B 0 0 9 = nI nt) (h40 : nt ≤ 40) {t : Nat} (ht : t < nt) (hwh : B 21 t 10 = -1) (htr : 2 ≤ B 21 t 7) : Cf yX5_send cX5_send 3 (some FieldType.int) 5 [.ref (ad 0 0), .int (nI t)] ad nw nt B L (some (.int (-2))) (uB B 5 0 2 (B 5 0 2 + 1)) (L) := by
  have hC : ∀ Q, je_Ok (sCm yX5_send cX5_send 3 (some FieldType.int) 5 ad nw nt Q) RX5 cX5_send 3 5 := fun _ => je_Cm_ok
  refine Cs_of [some (.ref (ad 0 0)), some (.int (nI t)), none] (by decide) rfl (Nat.le_of_ble_eq_true rfl) ?_
  first | refine Es_aload_n (hC _) dX5_send_0 rfl ?_ | refine Es_aload_nN (hC _) dX5_send_0 rfl ?_
  refine Es_iload_n (hC _) dX5_send_1 rfl ?_
  refine Es_fV (hC _) mv_X5_132 dX5_send_2 (c_tyreAt_in hnt h40 ht) rfl rfl ⟨_, rfl, rfl⟩ rfl rfl (by decide) (Nat.le_of_ble_eq_true rfl) ?_
  first | refine Es_astore_n (lv' := [_, _, _]) (hC _) dX5_send_5 (by decide) rfl rfl ?_ | refine Es_astore_nN (lv' := [_, _, _]) (hC _) dX5_send_5 (by decide) rfl rfl ?_
  first | refine Es_aload_n (hC _) dX5_send_6 rfl ?_ | refine Es_aload_nN (hC _) dX5_send_6 rfl ?_
  refine Es_ifnonnull (hC _) 16 dX5_send_7 (by decide) ?_
  first | refine Es_aload_n (hC _) dX5_send_16 rfl ?_ | refine Es_aload_nN (hC _) dX5_send_16 rfl ?_
  refine Sg_X2_10 (hC _) fl_X5_139 dX5_send_17 (by assumption) ?_
  refine Es_iconst (v := -1) (hC _) dX5_send_20 (by decide) ?_
  refine Es_icmp_ne (hC _) 40 dX5_send_21 (by decide) (fun hb21 => False.elim ((by first | exact absurd hb21 (by decide) | exact absurd hb21 (by assumption) | exact hb21 (by assumption) | exact hb21 rfl | (simp_all [bI]; done)))) (fun hb21 => ?_)
  first | refine Es_aload_n (hC _) dX5_send_24 rfl ?_ | refine Es_aload_nN (hC _) dX5_send_24 rfl ?_
  refine Sg_X2_7 (hC _) fl_X5_210 dX5_send_25 (by assumption) ?_
  refine Es_iconst (v := 2) (hC _) dX5_send_28 (by decide) ?_
  refine Es_icmp_ge (hC _) 40 dX5_send_29 (by decide) (fun hb29 => ?_) (fun hb29 => False.elim ((by first | exact absurd hb29 (by decide) | exact absurd hb29 (by assumption) | exact hb29 (by assumption) | exact hb29 rfl | (simp_all [bI]; done))))
  first | refine Es_aload_n (hC _) dX5_send_40 rfl ?_ | refine Es_aload_nN (hC _) dX5_send_40 rfl ?_
  refine Es_bipush (v := -2) (hC _) dX5_send_41 (by decide) ?_
  refine Es_fV (hC _) mv_X5_70 dX5_send_43 (c_refuse (k := 2) (by decide) (by decide)) rfl rfl ⟨_, rfl, rfl⟩ rfl rfl (by decide) (Nat.le_of_ble_eq_true rfl) ?_
  exact Es_iret dX5_send_46 rfl ⟨rfl, rfl, rfl⟩

set_option maxRecDepth 100000 in
set_option maxHeartbeats 4000000 in
theorem r_send_2b {ad : sA} {nw nt : Nat} {B : sB} {L : sL} (hnt : B 25 0 5 = nI nt) (h40 : nt ≤ 40) {t : Nat} (ht : t < nt) (hwh : B 47 0 t = -1) (htr : 2 ≤ B 44 0 t) : Cf yX6_send cX6_send 2 (some FieldType.int) 3 [.ref (ad 25 0), .int (nI t)] ad nw nt B L (some (.int (-2))) (uB B 30 0 2 (B 30 0 2 + 1)) (L) := by
  have hC : ∀ Q, je_Ok (sCm yX6_send cX6_send 2 (some FieldType.int) 3 ad nw nt Q) RX6 cX6_send 2 3 := fun _ => je_Cm_ok
  refine Cs_of [some (.ref (ad 25 0)), some (.int (nI t))] (by decide) rfl (Nat.le_of_ble_eq_true rfl) ?_
  refine Es_iload_n (hC _) dX6_send_0 rfl ?_
  first | refine Es_aload_n (hC _) dX6_send_1 rfl ?_ | refine Es_aload_nN (hC _) dX6_send_1 rfl ?_
  refine Sg_X6_5 (hC _) fl_X6_107 dX6_send_2 ?_
  rw [hnt]
  refine Es_fS (hC _) ms_X6_89 dX6_send_5 (r_isIn_in ht (by omega)) rfl rfl (by decide) (Nat.le_of_ble_eq_true rfl) ?_
  refine Es_if_ne (hC _) 17 dX6_send_8 (by decide) (fun hb8 => ?_) (fun hb8 => False.elim ((by first | exact absurd hb8 (by decide) | exact absurd hb8 (by assumption) | exact hb8 (by assumption) | exact hb8 rfl | (simp_all [bI]; done))))
  first | refine Es_aload_n (hC _) dX6_send_17 rfl ?_ | refine Es_aload_nN (hC _) dX6_send_17 rfl ?_
  refine Sg_X6_17 (hC _) fl_X6_50 dX6_send_18 ?_
  refine Es_iload_n (hC _) dX6_send_21 rfl ?_
  refine Es_ialdN (hC _) dX6_send_22 rfl rfl rfl (by omega) (by decide) ?_
  refine Es_iconst (v := -1) (hC _) dX6_send_23 (by decide) ?_
  refine Es_icmp_ne (hC _) 47 dX6_send_24 (by decide) (fun hb24 => False.elim ((by first | exact absurd hb24 (by decide) | exact absurd hb24 (by assumption) | exact hb24 (by assumption) | exact hb24 rfl | (simp_all [bI]; done)))) (fun hb24 => ?_)
  first | refine Es_aload_n (hC _) dX6_send_27 rfl ?_ | refine Es_aload_nN (hC _) dX6_send_27 rfl ?_
  refine Sg_X6_14 (hC _) fl_X6_41 dX6_send_28 ?_
  refine Es_iload_n (hC _) dX6_send_31 rfl ?_
  refine Es_ialdN (hC _) dX6_send_32 rfl rfl rfl (by omega) (by decide) ?_
  refine Es_iconst (v := 2) (hC _) dX6_send_33 (by decide) ?_
  refine Es_icmp_ge (hC _) 47 dX6_send_34 (by decide) (fun hb34 => ?_) (fun hb34 => False.elim ((by first | exact absurd hb34 (by decide) | exact absurd hb34 (by assumption) | exact hb34 (by assumption) | exact hb34 rfl | (simp_all [bI]; done))))
  first | refine Es_aload_n (hC _) dX6_send_47 rfl ?_ | refine Es_aload_nN (hC _) dX6_send_47 rfl ?_
  refine Es_bipush (v := -2) (hC _) dX6_send_48 (by decide) ?_
  refine Es_fV (hC _) mv_X6_93 dX6_send_50 (r_refuse (k := 2) (by decide) (by decide)) rfl rfl ⟨_, rfl, rfl⟩ rfl rfl (by decide) (Nat.le_of_ble_eq_true rfl) ?_
  exact Es_iret dX6_send_53 rfl ⟨rfl, rfl, rfl⟩

set_option maxRecDepth 100000 in
set_option maxHeartbeats 4000000 in
theorem c_send_2c {ad : sA} {nw nt : Nat} {B : sB} {L : sL} (hnt : B 0 0 9 = nI nt) (h40 : nt ≤ 40) {t : Nat} (ht : t < nt) (hwh : B 21 t 10 = -1) (htr : ¬ 2 ≤ B 21 t 7) (hme : ¬ B 21 t 8 < 3) : Cf yX5_send cX5_send 3 (some FieldType.int) 5 [.ref (ad 0 0), .int (nI t)] ad nw nt B L (some (.int (-2))) (uB B 5 0 2 (B 5 0 2 + 1)) (L) := by
  have hC : ∀ Q, je_Ok (sCm yX5_send cX5_send 3 (some FieldType.int) 5 ad nw nt Q) RX5 cX5_send 3 5 := fun _ => je_Cm_ok
  refine Cs_of [some (.ref (ad 0 0)), some (.int (nI t)), none] (by decide) rfl (Nat.le_of_ble_eq_true rfl) ?_
  first | refine Es_aload_n (hC _) dX5_send_0 rfl ?_ | refine Es_aload_nN (hC _) dX5_send_0 rfl ?_
  refine Es_iload_n (hC _) dX5_send_1 rfl ?_
  refine Es_fV (hC _) mv_X5_132 dX5_send_2 (c_tyreAt_in hnt h40 ht) rfl rfl ⟨_, rfl, rfl⟩ rfl rfl (by decide) (Nat.le_of_ble_eq_true rfl) ?_
  first | refine Es_astore_n (lv' := [_, _, _]) (hC _) dX5_send_5 (by decide) rfl rfl ?_ | refine Es_astore_nN (lv' := [_, _, _]) (hC _) dX5_send_5 (by decide) rfl rfl ?_
  first | refine Es_aload_n (hC _) dX5_send_6 rfl ?_ | refine Es_aload_nN (hC _) dX5_send_6 rfl ?_
  refine Es_ifnonnull (hC _) 16 dX5_send_7 (by decide) ?_
  first | refine Es_aload_n (hC _) dX5_send_16 rfl ?_ | refine Es_aload_nN (hC _) dX5_send_16 rfl ?_
  refine Sg_X2_10 (hC _) fl_X5_139 dX5_send_17 (by assumption) ?_
  refine Es_iconst (v := -1) (hC _) dX5_send_20 (by decide) ?_
  refine Es_icmp_ne (hC _) 40 dX5_send_21 (by decide) (fun hb21 => False.elim ((by first | exact absurd hb21 (by decide) | exact absurd hb21 (by assumption) | exact hb21 (by assumption) | exact hb21 rfl | (simp_all [bI]; done)))) (fun hb21 => ?_)
  first | refine Es_aload_n (hC _) dX5_send_24 rfl ?_ | refine Es_aload_nN (hC _) dX5_send_24 rfl ?_
  refine Sg_X2_7 (hC _) fl_X5_210 dX5_send_25 (by assumption) ?_
  refine Es_iconst (v := 2) (hC _) dX5_send_28 (by decide) ?_
  refine Es_icmp_ge (hC _) 40 dX5_send_29 (by decide) (fun hb29 => False.elim ((by first | exact absurd hb29 (by decide) | exact absurd hb29 (by assumption) | exact hb29 (by assumption) | exact hb29 rfl | (simp_all [bI]; done)))) (fun hb29 => ?_)
  first | refine Es_aload_n (hC _) dX5_send_32 rfl ?_ | refine Es_aload_nN (hC _) dX5_send_32 rfl ?_
  refine Sg_X2_8 (hC _) fl_X5_213 dX5_send_33 (by assumption) ?_
  refine Es_iconst (v := 3) (hC _) dX5_send_36 (by decide) ?_
  refine Es_icmp_lt (hC _) 47 dX5_send_37 (by decide) (fun hb37 => False.elim ((by first | exact absurd hb37 (by decide) | exact absurd hb37 (by assumption) | exact hb37 (by assumption) | exact hb37 rfl | (simp_all [bI]; done)))) (fun hb37 => ?_)
  first | refine Es_aload_n (hC _) dX5_send_40 rfl ?_ | refine Es_aload_nN (hC _) dX5_send_40 rfl ?_
  refine Es_bipush (v := -2) (hC _) dX5_send_41 (by decide) ?_
  refine Es_fV (hC _) mv_X5_70 dX5_send_43 (c_refuse (k := 2) (by decide) (by decide)) rfl rfl ⟨_, rfl, rfl⟩ rfl rfl (by decide) (Nat.le_of_ble_eq_true rfl) ?_
  exact Es_iret dX5_send_46 rfl ⟨rfl, rfl, rfl⟩

set_option maxRecDepth 100000 in
set_option maxHeartbeats 4000000 in
theorem r_send_2c {ad : sA} {nw nt : Nat} {B : sB} {L : sL} (hnt : B 25 0 5 = nI nt) (h40 : nt ≤ 40) {t : Nat} (ht : t < nt) (hwh : B 47 0 t = -1) (htr : ¬ 2 ≤ B 44 0 t) (hme : ¬ B 45 0 t < 3) : Cf yX6_send cX6_send 2 (some FieldType.int) 3 [.ref (ad 25 0), .int (nI t)] ad nw nt B L (some (.int (-2))) (uB B 30 0 2 (B 30 0 2 + 1)) (L) := by
  have hC : ∀ Q, je_Ok (sCm yX6_send cX6_send 2 (some FieldType.int) 3 ad nw nt Q) RX6 cX6_send 2 3 := fun _ => je_Cm_ok
  refine Cs_of [some (.ref (ad 25 0)), some (.int (nI t))] (by decide) rfl (Nat.le_of_ble_eq_true rfl) ?_
  refine Es_iload_n (hC _) dX6_send_0 rfl ?_
  first | refine Es_aload_n (hC _) dX6_send_1 rfl ?_ | refine Es_aload_nN (hC _) dX6_send_1 rfl ?_
  refine Sg_X6_5 (hC _) fl_X6_107 dX6_send_2 ?_
  rw [hnt]
  refine Es_fS (hC _) ms_X6_89 dX6_send_5 (r_isIn_in ht (by omega)) rfl rfl (by decide) (Nat.le_of_ble_eq_true rfl) ?_
  refine Es_if_ne (hC _) 17 dX6_send_8 (by decide) (fun hb8 => ?_) (fun hb8 => False.elim ((by first | exact absurd hb8 (by decide) | exact absurd hb8 (by assumption) | exact hb8 (by assumption) | exact hb8 rfl | (simp_all [bI]; done))))
  first | refine Es_aload_n (hC _) dX6_send_17 rfl ?_ | refine Es_aload_nN (hC _) dX6_send_17 rfl ?_
  refine Sg_X6_17 (hC _) fl_X6_50 dX6_send_18 ?_
  refine Es_iload_n (hC _) dX6_send_21 rfl ?_
  refine Es_ialdN (hC _) dX6_send_22 rfl rfl rfl (by omega) (by decide) ?_
  refine Es_iconst (v := -1) (hC _) dX6_send_23 (by decide) ?_
  refine Es_icmp_ne (hC _) 47 dX6_send_24 (by decide) (fun hb24 => False.elim ((by first | exact absurd hb24 (by decide) | exact absurd hb24 (by assumption) | exact hb24 (by assumption) | exact hb24 rfl | (simp_all [bI]; done)))) (fun hb24 => ?_)
  first | refine Es_aload_n (hC _) dX6_send_27 rfl ?_ | refine Es_aload_nN (hC _) dX6_send_27 rfl ?_
  refine Sg_X6_14 (hC _) fl_X6_41 dX6_send_28 ?_
  refine Es_iload_n (hC _) dX6_send_31 rfl ?_
  refine Es_ialdN (hC _) dX6_send_32 rfl rfl rfl (by omega) (by decide) ?_
  refine Es_iconst (v := 2) (hC _) dX6_send_33 (by decide) ?_
  refine Es_icmp_ge (hC _) 47 dX6_send_34 (by decide) (fun hb34 => False.elim ((by first | exact absurd hb34 (by decide) | exact absurd hb34 (by assumption) | exact hb34 (by assumption) | exact hb34 rfl | (simp_all [bI]; done)))) (fun hb34 => ?_)
  first | refine Es_aload_n (hC _) dX6_send_37 rfl ?_ | refine Es_aload_nN (hC _) dX6_send_37 rfl ?_
  refine Sg_X6_15 (hC _) fl_X6_44 dX6_send_38 ?_
  refine Es_iload_n (hC _) dX6_send_41 rfl ?_
  refine Es_ialdN (hC _) dX6_send_42 rfl rfl rfl (by omega) (by decide) ?_
  refine Es_iconst (v := 3) (hC _) dX6_send_43 (by decide) ?_
  refine Es_icmp_lt (hC _) 54 dX6_send_44 (by decide) (fun hb44 => False.elim ((by first | exact absurd hb44 (by decide) | exact absurd hb44 (by assumption) | exact hb44 (by assumption) | exact hb44 rfl | (simp_all [bI]; done)))) (fun hb44 => ?_)
  first | refine Es_aload_n (hC _) dX6_send_47 rfl ?_ | refine Es_aload_nN (hC _) dX6_send_47 rfl ?_
  refine Es_bipush (v := -2) (hC _) dX6_send_48 (by decide) ?_
  refine Es_fV (hC _) mv_X6_93 dX6_send_50 (r_refuse (k := 2) (by decide) (by decide)) rfl rfl ⟨_, rfl, rfl⟩ rfl rfl (by decide) (Nat.le_of_ble_eq_true rfl) ?_
  exact Es_iret dX6_send_53 rfl ⟨rfl, rfl, rfl⟩

set_option maxRecDepth 100000 in
set_option maxHeartbeats 4000000 in
theorem c_send_3a {ad : sA} {nw nt : Nat} {B : sB} {L : sL} (hnt : B 0 0 9 = nI nt) (h40 : nt ≤ 40) {t : Nat} (ht : t < nt) (hwh : B 21 t 10 = -1) (htr : ¬ 2 ≤ B 21 t 7) (hme : B 21 t 8 < 3) (hk : B 6 0 3 = nI 600) : Cf yX5_send cX5_send 3 (some FieldType.int) 5 [.ref (ad 0 0), .int (nI t)] ad nw nt B L (some (.int (-6))) (uB B 5 0 6 (B 5 0 6 + 1)) (L) := by
  have hC : ∀ Q, je_Ok (sCm yX5_send cX5_send 3 (some FieldType.int) 5 ad nw nt Q) RX5 cX5_send 3 5 := fun _ => je_Cm_ok
  refine Cs_of [some (.ref (ad 0 0)), some (.int (nI t)), none] (by decide) rfl (Nat.le_of_ble_eq_true rfl) ?_
  first | refine Es_aload_n (hC _) dX5_send_0 rfl ?_ | refine Es_aload_nN (hC _) dX5_send_0 rfl ?_
  refine Es_iload_n (hC _) dX5_send_1 rfl ?_
  refine Es_fV (hC _) mv_X5_132 dX5_send_2 (c_tyreAt_in hnt h40 ht) rfl rfl ⟨_, rfl, rfl⟩ rfl rfl (by decide) (Nat.le_of_ble_eq_true rfl) ?_
  first | refine Es_astore_n (lv' := [_, _, _]) (hC _) dX5_send_5 (by decide) rfl rfl ?_ | refine Es_astore_nN (lv' := [_, _, _]) (hC _) dX5_send_5 (by decide) rfl rfl ?_
  first | refine Es_aload_n (hC _) dX5_send_6 rfl ?_ | refine Es_aload_nN (hC _) dX5_send_6 rfl ?_
  refine Es_ifnonnull (hC _) 16 dX5_send_7 (by decide) ?_
  first | refine Es_aload_n (hC _) dX5_send_16 rfl ?_ | refine Es_aload_nN (hC _) dX5_send_16 rfl ?_
  refine Sg_X2_10 (hC _) fl_X5_139 dX5_send_17 (by assumption) ?_
  refine Es_iconst (v := -1) (hC _) dX5_send_20 (by decide) ?_
  refine Es_icmp_ne (hC _) 40 dX5_send_21 (by decide) (fun hb21 => False.elim ((by first | exact absurd hb21 (by decide) | exact absurd hb21 (by assumption) | exact hb21 (by assumption) | exact hb21 rfl | (simp_all [bI]; done)))) (fun hb21 => ?_)
  first | refine Es_aload_n (hC _) dX5_send_24 rfl ?_ | refine Es_aload_nN (hC _) dX5_send_24 rfl ?_
  refine Sg_X2_7 (hC _) fl_X5_210 dX5_send_25 (by assumption) ?_
  refine Es_iconst (v := 2) (hC _) dX5_send_28 (by decide) ?_
  refine Es_icmp_ge (hC _) 40 dX5_send_29 (by decide) (fun hb29 => False.elim ((by first | exact absurd hb29 (by decide) | exact absurd hb29 (by assumption) | exact hb29 (by assumption) | exact hb29 rfl | (simp_all [bI]; done)))) (fun hb29 => ?_)
  first | refine Es_aload_n (hC _) dX5_send_32 rfl ?_ | refine Es_aload_nN (hC _) dX5_send_32 rfl ?_
  refine Sg_X2_8 (hC _) fl_X5_213 dX5_send_33 (by assumption) ?_
  refine Es_iconst (v := 3) (hC _) dX5_send_36 (by decide) ?_
  refine Es_icmp_lt (hC _) 47 dX5_send_37 (by decide) (fun hb37 => ?_) (fun hb37 => False.elim ((by first | exact absurd hb37 (by decide) | exact absurd hb37 (by assumption) | exact hb37 (by assumption) | exact hb37 rfl | (simp_all [bI]; done))))
  first | refine Es_aload_n (hC _) dX5_send_47 rfl ?_ | refine Es_aload_nN (hC _) dX5_send_47 rfl ?_
  refine Sg_X5_5 (hC _) fl_X5_45 dX5_send_48 ?_
  refine Es_iconst (v := 1) (hC _) dX5_send_51 (by decide) ?_
  refine Es_fV (hC _) mv_X5_113 dX5_send_52 (c_hasRoomFor (m := 1) hk (by omega) (by decide)) rfl rfl ⟨_, rfl, rfl⟩ rfl rfl (by decide) (Nat.le_of_ble_eq_true rfl) ?_
  refine Es_if_eq (hC _) 71 dX5_send_55 (by decide) (fun hb55 => ?_) (fun hb55 => False.elim ((by first | exact absurd hb55 (by decide) | exact absurd hb55 (by assumption) | exact hb55 (by assumption) | exact hb55 rfl | (simp_all [bI]; done))))
  first | refine Es_aload_n (hC _) dX5_send_71 rfl ?_ | refine Es_aload_nN (hC _) dX5_send_71 rfl ?_
  refine Es_bipush (v := -6) (hC _) dX5_send_72 (by decide) ?_
  refine Es_fV (hC _) mv_X5_70 dX5_send_74 (c_refuse (k := 6) (by decide) (by decide)) rfl rfl ⟨_, rfl, rfl⟩ rfl rfl (by decide) (Nat.le_of_ble_eq_true rfl) ?_
  exact Es_iret dX5_send_77 rfl ⟨rfl, rfl, rfl⟩

set_option maxRecDepth 100000 in
set_option maxHeartbeats 4000000 in
theorem r_send_3a {ad : sA} {nw nt : Nat} {B : sB} {L : sL} (hnt : B 25 0 5 = nI nt) (h40 : nt ≤ 40) {t : Nat} (ht : t < nt) (hwh : B 47 0 t = -1) (htr : ¬ 2 ≤ B 44 0 t) (hme : B 45 0 t < 3) (hk : B 25 0 7 = nI 600) : Cf yX6_send cX6_send 2 (some FieldType.int) 3 [.ref (ad 25 0), .int (nI t)] ad nw nt B L (some (.int (-6))) (uB B 30 0 6 (B 30 0 6 + 1)) (L) := by
  have hC : ∀ Q, je_Ok (sCm yX6_send cX6_send 2 (some FieldType.int) 3 ad nw nt Q) RX6 cX6_send 2 3 := fun _ => je_Cm_ok
  refine Cs_of [some (.ref (ad 25 0)), some (.int (nI t))] (by decide) rfl (Nat.le_of_ble_eq_true rfl) ?_
  refine Es_iload_n (hC _) dX6_send_0 rfl ?_
  first | refine Es_aload_n (hC _) dX6_send_1 rfl ?_ | refine Es_aload_nN (hC _) dX6_send_1 rfl ?_
  refine Sg_X6_5 (hC _) fl_X6_107 dX6_send_2 ?_
  rw [hnt]
  refine Es_fS (hC _) ms_X6_89 dX6_send_5 (r_isIn_in ht (by omega)) rfl rfl (by decide) (Nat.le_of_ble_eq_true rfl) ?_
  refine Es_if_ne (hC _) 17 dX6_send_8 (by decide) (fun hb8 => ?_) (fun hb8 => False.elim ((by first | exact absurd hb8 (by decide) | exact absurd hb8 (by assumption) | exact hb8 (by assumption) | exact hb8 rfl | (simp_all [bI]; done))))
  first | refine Es_aload_n (hC _) dX6_send_17 rfl ?_ | refine Es_aload_nN (hC _) dX6_send_17 rfl ?_
  refine Sg_X6_17 (hC _) fl_X6_50 dX6_send_18 ?_
  refine Es_iload_n (hC _) dX6_send_21 rfl ?_
  refine Es_ialdN (hC _) dX6_send_22 rfl rfl rfl (by omega) (by decide) ?_
  refine Es_iconst (v := -1) (hC _) dX6_send_23 (by decide) ?_
  refine Es_icmp_ne (hC _) 47 dX6_send_24 (by decide) (fun hb24 => False.elim ((by first | exact absurd hb24 (by decide) | exact absurd hb24 (by assumption) | exact hb24 (by assumption) | exact hb24 rfl | (simp_all [bI]; done)))) (fun hb24 => ?_)
  first | refine Es_aload_n (hC _) dX6_send_27 rfl ?_ | refine Es_aload_nN (hC _) dX6_send_27 rfl ?_
  refine Sg_X6_14 (hC _) fl_X6_41 dX6_send_28 ?_
  refine Es_iload_n (hC _) dX6_send_31 rfl ?_
  refine Es_ialdN (hC _) dX6_send_32 rfl rfl rfl (by omega) (by decide) ?_
  refine Es_iconst (v := 2) (hC _) dX6_send_33 (by decide) ?_
  refine Es_icmp_ge (hC _) 47 dX6_send_34 (by decide) (fun hb34 => False.elim ((by first | exact absurd hb34 (by decide) | exact absurd hb34 (by assumption) | exact hb34 (by assumption) | exact hb34 rfl | (simp_all [bI]; done)))) (fun hb34 => ?_)
  first | refine Es_aload_n (hC _) dX6_send_37 rfl ?_ | refine Es_aload_nN (hC _) dX6_send_37 rfl ?_
  refine Sg_X6_15 (hC _) fl_X6_44 dX6_send_38 ?_
  refine Es_iload_n (hC _) dX6_send_41 rfl ?_
  refine Es_ialdN (hC _) dX6_send_42 rfl rfl rfl (by omega) (by decide) ?_
  refine Es_iconst (v := 3) (hC _) dX6_send_43 (by decide) ?_
  refine Es_icmp_lt (hC _) 54 dX6_send_44 (by decide) (fun hb44 => ?_) (fun hb44 => False.elim ((by first | exact absurd hb44 (by decide) | exact absurd hb44 (by assumption) | exact hb44 (by assumption) | exact hb44 rfl | (simp_all [bI]; done))))
  first | refine Es_aload_n (hC _) dX6_send_54 rfl ?_ | refine Es_aload_nN (hC _) dX6_send_54 rfl ?_
  refine Es_iconst (v := 1) (hC _) dX6_send_55 (by decide) ?_
  refine Es_fV (hC _) mv_X6_110 dX6_send_56 (r_hasRoom (m := 1) hk (by omega) (by decide)) rfl rfl ⟨_, rfl, rfl⟩ rfl rfl (by decide) (Nat.le_of_ble_eq_true rfl) ?_
  refine Es_if_eq (hC _) 75 dX6_send_59 (by decide) (fun hb59 => ?_) (fun hb59 => False.elim ((by first | exact absurd hb59 (by decide) | exact absurd hb59 (by assumption) | exact hb59 (by assumption) | exact hb59 rfl | (simp_all [bI]; done))))
  first | refine Es_aload_n (hC _) dX6_send_75 rfl ?_ | refine Es_aload_nN (hC _) dX6_send_75 rfl ?_
  refine Es_bipush (v := -6) (hC _) dX6_send_76 (by decide) ?_
  refine Es_fV (hC _) mv_X6_93 dX6_send_78 (r_refuse (k := 6) (by decide) (by decide)) rfl rfl ⟨_, rfl, rfl⟩ rfl rfl (by decide) (Nat.le_of_ble_eq_true rfl) ?_
  exact Es_iret dX6_send_81 rfl ⟨rfl, rfl, rfl⟩

set_option maxRecDepth 100000 in
set_option maxHeartbeats 4000000 in
theorem c_send_3b {ad : sA} {nw nt : Nat} {B : sB} {L : sL} (hnt : B 0 0 9 = nI nt) (h40 : nt ≤ 40) {t : Nat} (ht : t < nt) (hwh : B 21 t 10 = -1) (htr : ¬ 2 ≤ B 21 t 7) (hme : B 21 t 8 < 3) {k dy : Nat} (hk : B 6 0 3 = nI k) (h6 : k < 600) (hdy : B 0 0 11 = nI dy) (h20 : dy ≤ 2000) (hd : 1990 < dy) : Cf yX5_send cX5_send 3 (some FieldType.int) 5 [.ref (ad 0 0), .int (nI t)] ad nw nt B L (some (.int (-6))) (uB B 5 0 6 (B 5 0 6 + 1)) (L) := by
  have hC : ∀ Q, je_Ok (sCm yX5_send cX5_send 3 (some FieldType.int) 5 ad nw nt Q) RX5 cX5_send 3 5 := fun _ => je_Cm_ok
  refine Cs_of [some (.ref (ad 0 0)), some (.int (nI t)), none] (by decide) rfl (Nat.le_of_ble_eq_true rfl) ?_
  first | refine Es_aload_n (hC _) dX5_send_0 rfl ?_ | refine Es_aload_nN (hC _) dX5_send_0 rfl ?_
  refine Es_iload_n (hC _) dX5_send_1 rfl ?_
  refine Es_fV (hC _) mv_X5_132 dX5_send_2 (c_tyreAt_in hnt h40 ht) rfl rfl ⟨_, rfl, rfl⟩ rfl rfl (by decide) (Nat.le_of_ble_eq_true rfl) ?_
  first | refine Es_astore_n (lv' := [_, _, _]) (hC _) dX5_send_5 (by decide) rfl rfl ?_ | refine Es_astore_nN (lv' := [_, _, _]) (hC _) dX5_send_5 (by decide) rfl rfl ?_
  first | refine Es_aload_n (hC _) dX5_send_6 rfl ?_ | refine Es_aload_nN (hC _) dX5_send_6 rfl ?_
  refine Es_ifnonnull (hC _) 16 dX5_send_7 (by decide) ?_
  first | refine Es_aload_n (hC _) dX5_send_16 rfl ?_ | refine Es_aload_nN (hC _) dX5_send_16 rfl ?_
  refine Sg_X2_10 (hC _) fl_X5_139 dX5_send_17 (by assumption) ?_
  refine Es_iconst (v := -1) (hC _) dX5_send_20 (by decide) ?_
  refine Es_icmp_ne (hC _) 40 dX5_send_21 (by decide) (fun hb21 => False.elim ((by first | exact absurd hb21 (by decide) | exact absurd hb21 (by assumption) | exact hb21 (by assumption) | exact hb21 rfl | (simp_all [bI]; done)))) (fun hb21 => ?_)
  first | refine Es_aload_n (hC _) dX5_send_24 rfl ?_ | refine Es_aload_nN (hC _) dX5_send_24 rfl ?_
  refine Sg_X2_7 (hC _) fl_X5_210 dX5_send_25 (by assumption) ?_
  refine Es_iconst (v := 2) (hC _) dX5_send_28 (by decide) ?_
  refine Es_icmp_ge (hC _) 40 dX5_send_29 (by decide) (fun hb29 => False.elim ((by first | exact absurd hb29 (by decide) | exact absurd hb29 (by assumption) | exact hb29 (by assumption) | exact hb29 rfl | (simp_all [bI]; done)))) (fun hb29 => ?_)
  first | refine Es_aload_n (hC _) dX5_send_32 rfl ?_ | refine Es_aload_nN (hC _) dX5_send_32 rfl ?_
  refine Sg_X2_8 (hC _) fl_X5_213 dX5_send_33 (by assumption) ?_
  refine Es_iconst (v := 3) (hC _) dX5_send_36 (by decide) ?_
  refine Es_icmp_lt (hC _) 47 dX5_send_37 (by decide) (fun hb37 => ?_) (fun hb37 => False.elim ((by first | exact absurd hb37 (by decide) | exact absurd hb37 (by assumption) | exact hb37 (by assumption) | exact hb37 rfl | (simp_all [bI]; done))))
  first | refine Es_aload_n (hC _) dX5_send_47 rfl ?_ | refine Es_aload_nN (hC _) dX5_send_47 rfl ?_
  refine Sg_X5_5 (hC _) fl_X5_45 dX5_send_48 ?_
  refine Es_iconst (v := 1) (hC _) dX5_send_51 (by decide) ?_
  refine Es_fV (hC _) mv_X5_113 dX5_send_52 (c_hasRoomFor (m := 1) hk (by omega) (by decide)) rfl rfl ⟨_, rfl, rfl⟩ rfl rfl (by decide) (Nat.le_of_ble_eq_true rfl) ?_
  refine Es_if_eq (hC _) 71 dX5_send_55 (by decide) (fun hb55 => False.elim (absurd hb55 (by rw [bI, if_pos (by omega)]; decide))) (fun hb55 => ?_)
  first | refine Es_aload_n (hC _) dX5_send_58 rfl ?_ | refine Es_aload_nN (hC _) dX5_send_58 rfl ?_
  refine Sg_X5_11 (hC _) fl_X5_116 dX5_send_59 ?_
  refine Es_bipush (v := 10) (hC _) dX5_send_62 (by decide) ?_
  rw [hdy]
  refine Es_iadd (hC _) dX5_send_64 ?_
  rw [show nI dy + 10 = nI (dy + 10) from nI_add dy 10]
  refine Es_sipush (v := 2000) (hC _) dX5_send_65 (by decide) ?_
  refine Es_icmp_le (hC _) 78 dX5_send_68 (by decide) (fun hb68 => False.elim (nI_ge (b := dy + 10) (a := 2000) (by omega) (by omega) hb68)) (fun hb68 => ?_)
  first | refine Es_aload_n (hC _) dX5_send_71 rfl ?_ | refine Es_aload_nN (hC _) dX5_send_71 rfl ?_
  refine Es_bipush (v := -6) (hC _) dX5_send_72 (by decide) ?_
  refine Es_fV (hC _) mv_X5_70 dX5_send_74 (c_refuse (k := 6) (by decide) (by decide)) rfl rfl ⟨_, rfl, rfl⟩ rfl rfl (by decide) (Nat.le_of_ble_eq_true rfl) ?_
  exact Es_iret dX5_send_77 rfl ⟨rfl, rfl, rfl⟩

set_option maxRecDepth 100000 in
set_option maxHeartbeats 4000000 in
theorem r_send_3b {ad : sA} {nw nt : Nat} {B : sB} {L : sL} (hnt : B 25 0 5 = nI nt) (h40 : nt ≤ 40) {t : Nat} (ht : t < nt) (hwh : B 47 0 t = -1) (htr : ¬ 2 ≤ B 44 0 t) (hme : B 45 0 t < 3) {k dy : Nat} (hk : B 25 0 7 = nI k) (h6 : k < 600) (hdy : B 25 0 3 = nI dy) (h20 : dy ≤ 2000) (hd : 1990 < dy) : Cf yX6_send cX6_send 2 (some FieldType.int) 3 [.ref (ad 25 0), .int (nI t)] ad nw nt B L (some (.int (-6))) (uB B 30 0 6 (B 30 0 6 + 1)) (L) := by
  have hC : ∀ Q, je_Ok (sCm yX6_send cX6_send 2 (some FieldType.int) 3 ad nw nt Q) RX6 cX6_send 2 3 := fun _ => je_Cm_ok
  refine Cs_of [some (.ref (ad 25 0)), some (.int (nI t))] (by decide) rfl (Nat.le_of_ble_eq_true rfl) ?_
  refine Es_iload_n (hC _) dX6_send_0 rfl ?_
  first | refine Es_aload_n (hC _) dX6_send_1 rfl ?_ | refine Es_aload_nN (hC _) dX6_send_1 rfl ?_
  refine Sg_X6_5 (hC _) fl_X6_107 dX6_send_2 ?_
  rw [hnt]
  refine Es_fS (hC _) ms_X6_89 dX6_send_5 (r_isIn_in ht (by omega)) rfl rfl (by decide) (Nat.le_of_ble_eq_true rfl) ?_
  refine Es_if_ne (hC _) 17 dX6_send_8 (by decide) (fun hb8 => ?_) (fun hb8 => False.elim ((by first | exact absurd hb8 (by decide) | exact absurd hb8 (by assumption) | exact hb8 (by assumption) | exact hb8 rfl | (simp_all [bI]; done))))
  first | refine Es_aload_n (hC _) dX6_send_17 rfl ?_ | refine Es_aload_nN (hC _) dX6_send_17 rfl ?_
  refine Sg_X6_17 (hC _) fl_X6_50 dX6_send_18 ?_
  refine Es_iload_n (hC _) dX6_send_21 rfl ?_
  refine Es_ialdN (hC _) dX6_send_22 rfl rfl rfl (by omega) (by decide) ?_
  refine Es_iconst (v := -1) (hC _) dX6_send_23 (by decide) ?_
  refine Es_icmp_ne (hC _) 47 dX6_send_24 (by decide) (fun hb24 => False.elim ((by first | exact absurd hb24 (by decide) | exact absurd hb24 (by assumption) | exact hb24 (by assumption) | exact hb24 rfl | (simp_all [bI]; done)))) (fun hb24 => ?_)
  first | refine Es_aload_n (hC _) dX6_send_27 rfl ?_ | refine Es_aload_nN (hC _) dX6_send_27 rfl ?_
  refine Sg_X6_14 (hC _) fl_X6_41 dX6_send_28 ?_
  refine Es_iload_n (hC _) dX6_send_31 rfl ?_
  refine Es_ialdN (hC _) dX6_send_32 rfl rfl rfl (by omega) (by decide) ?_
  refine Es_iconst (v := 2) (hC _) dX6_send_33 (by decide) ?_
  refine Es_icmp_ge (hC _) 47 dX6_send_34 (by decide) (fun hb34 => False.elim ((by first | exact absurd hb34 (by decide) | exact absurd hb34 (by assumption) | exact hb34 (by assumption) | exact hb34 rfl | (simp_all [bI]; done)))) (fun hb34 => ?_)
  first | refine Es_aload_n (hC _) dX6_send_37 rfl ?_ | refine Es_aload_nN (hC _) dX6_send_37 rfl ?_
  refine Sg_X6_15 (hC _) fl_X6_44 dX6_send_38 ?_
  refine Es_iload_n (hC _) dX6_send_41 rfl ?_
  refine Es_ialdN (hC _) dX6_send_42 rfl rfl rfl (by omega) (by decide) ?_
  refine Es_iconst (v := 3) (hC _) dX6_send_43 (by decide) ?_
  refine Es_icmp_lt (hC _) 54 dX6_send_44 (by decide) (fun hb44 => ?_) (fun hb44 => False.elim ((by first | exact absurd hb44 (by decide) | exact absurd hb44 (by assumption) | exact hb44 (by assumption) | exact hb44 rfl | (simp_all [bI]; done))))
  first | refine Es_aload_n (hC _) dX6_send_54 rfl ?_ | refine Es_aload_nN (hC _) dX6_send_54 rfl ?_
  refine Es_iconst (v := 1) (hC _) dX6_send_55 (by decide) ?_
  refine Es_fV (hC _) mv_X6_110 dX6_send_56 (r_hasRoom (m := 1) hk (by omega) (by decide)) rfl rfl ⟨_, rfl, rfl⟩ rfl rfl (by decide) (Nat.le_of_ble_eq_true rfl) ?_
  refine Es_if_eq (hC _) 75 dX6_send_59 (by decide) (fun hb59 => False.elim (absurd hb59 (by rw [bI, if_pos (by omega)]; decide))) (fun hb59 => ?_)
  first | refine Es_aload_n (hC _) dX6_send_62 rfl ?_ | refine Es_aload_nN (hC _) dX6_send_62 rfl ?_
  refine Sg_X6_3 (hC _) fl_X6_104 dX6_send_63 ?_
  refine Es_bipush (v := 10) (hC _) dX6_send_66 (by decide) ?_
  rw [hdy]
  refine Es_iadd (hC _) dX6_send_68 ?_
  rw [show nI dy + 10 = nI (dy + 10) from nI_add dy 10]
  refine Es_sipush (v := 2000) (hC _) dX6_send_69 (by decide) ?_
  refine Es_icmp_le (hC _) 82 dX6_send_72 (by decide) (fun hb72 => False.elim (nI_ge (b := dy + 10) (a := 2000) (by omega) (by omega) hb72)) (fun hb72 => ?_)
  first | refine Es_aload_n (hC _) dX6_send_75 rfl ?_ | refine Es_aload_nN (hC _) dX6_send_75 rfl ?_
  refine Es_bipush (v := -6) (hC _) dX6_send_76 (by decide) ?_
  refine Es_fV (hC _) mv_X6_93 dX6_send_78 (r_refuse (k := 6) (by decide) (by decide)) rfl rfl ⟨_, rfl, rfl⟩ rfl rfl (by decide) (Nat.le_of_ble_eq_true rfl) ?_
  exact Es_iret dX6_send_81 rfl ⟨rfl, rfl, rfl⟩

set_option maxRecDepth 100000 in
set_option maxHeartbeats 4000000 in
theorem c_send_4 {ad : sA} {nw nt : Nat} {B : sB} {L : sL} (hnt : B 0 0 9 = nI nt) (h40 : nt ≤ 40) {t : Nat} (ht : t < nt) (hwh : B 21 t 10 = -1) (htr : ¬ 2 ≤ B 21 t 7) (hme : B 21 t 8 < 3) {k dy : Nat} (hk : B 6 0 3 = nI k) (h6 : k < 600) (hdy : B 0 0 11 = nI dy) (hd : dy ≤ 1990) : Cf yX5_send cX5_send 3 (some FieldType.int) 5 [.ref (ad 0 0), .int (nI t)] ad nw nt B L (some (.int (nI (dy + 10)))) (cLog (uB (uB B 21 t 11 (nI (dy + 10))) 21 t 10 (-2)) k (nI dy) (B 21 t 0) (-2)) (L) := by
  have hC : ∀ Q, je_Ok (sCm yX5_send cX5_send 3 (some FieldType.int) 5 ad nw nt Q) RX5 cX5_send 3 5 := fun _ => je_Cm_ok
  refine Cs_of [some (.ref (ad 0 0)), some (.int (nI t)), none] (by decide) rfl (Nat.le_of_ble_eq_true rfl) ?_
  first | refine Es_aload_n (hC _) dX5_send_0 rfl ?_ | refine Es_aload_nN (hC _) dX5_send_0 rfl ?_
  refine Es_iload_n (hC _) dX5_send_1 rfl ?_
  refine Es_fV (hC _) mv_X5_132 dX5_send_2 (c_tyreAt_in hnt h40 ht) rfl rfl ⟨_, rfl, rfl⟩ rfl rfl (by decide) (Nat.le_of_ble_eq_true rfl) ?_
  first | refine Es_astore_n (lv' := [_, _, _]) (hC _) dX5_send_5 (by decide) rfl rfl ?_ | refine Es_astore_nN (lv' := [_, _, _]) (hC _) dX5_send_5 (by decide) rfl rfl ?_
  first | refine Es_aload_n (hC _) dX5_send_6 rfl ?_ | refine Es_aload_nN (hC _) dX5_send_6 rfl ?_
  refine Es_ifnonnull (hC _) 16 dX5_send_7 (by decide) ?_
  first | refine Es_aload_n (hC _) dX5_send_16 rfl ?_ | refine Es_aload_nN (hC _) dX5_send_16 rfl ?_
  refine Sg_X2_10 (hC _) fl_X5_139 dX5_send_17 (by assumption) ?_
  refine Es_iconst (v := -1) (hC _) dX5_send_20 (by decide) ?_
  refine Es_icmp_ne (hC _) 40 dX5_send_21 (by decide) (fun hb21 => False.elim ((by first | exact absurd hb21 (by decide) | exact absurd hb21 (by assumption) | exact hb21 (by assumption) | exact hb21 rfl | (simp_all [bI]; done)))) (fun hb21 => ?_)
  first | refine Es_aload_n (hC _) dX5_send_24 rfl ?_ | refine Es_aload_nN (hC _) dX5_send_24 rfl ?_
  refine Sg_X2_7 (hC _) fl_X5_210 dX5_send_25 (by assumption) ?_
  refine Es_iconst (v := 2) (hC _) dX5_send_28 (by decide) ?_
  refine Es_icmp_ge (hC _) 40 dX5_send_29 (by decide) (fun hb29 => False.elim ((by first | exact absurd hb29 (by decide) | exact absurd hb29 (by assumption) | exact hb29 (by assumption) | exact hb29 rfl | (simp_all [bI]; done)))) (fun hb29 => ?_)
  first | refine Es_aload_n (hC _) dX5_send_32 rfl ?_ | refine Es_aload_nN (hC _) dX5_send_32 rfl ?_
  refine Sg_X2_8 (hC _) fl_X5_213 dX5_send_33 (by assumption) ?_
  refine Es_iconst (v := 3) (hC _) dX5_send_36 (by decide) ?_
  refine Es_icmp_lt (hC _) 47 dX5_send_37 (by decide) (fun hb37 => ?_) (fun hb37 => False.elim ((by first | exact absurd hb37 (by decide) | exact absurd hb37 (by assumption) | exact hb37 (by assumption) | exact hb37 rfl | (simp_all [bI]; done))))
  first | refine Es_aload_n (hC _) dX5_send_47 rfl ?_ | refine Es_aload_nN (hC _) dX5_send_47 rfl ?_
  refine Sg_X5_5 (hC _) fl_X5_45 dX5_send_48 ?_
  refine Es_iconst (v := 1) (hC _) dX5_send_51 (by decide) ?_
  refine Es_fV (hC _) mv_X5_113 dX5_send_52 (c_hasRoomFor (m := 1) hk (by omega) (by decide)) rfl rfl ⟨_, rfl, rfl⟩ rfl rfl (by decide) (Nat.le_of_ble_eq_true rfl) ?_
  refine Es_if_eq (hC _) 71 dX5_send_55 (by decide) (fun hb55 => False.elim (absurd hb55 (by rw [bI, if_pos (by omega)]; decide))) (fun hb55 => ?_)
  first | refine Es_aload_n (hC _) dX5_send_58 rfl ?_ | refine Es_aload_nN (hC _) dX5_send_58 rfl ?_
  refine Sg_X5_11 (hC _) fl_X5_116 dX5_send_59 ?_
  refine Es_bipush (v := 10) (hC _) dX5_send_62 (by decide) ?_
  rw [hdy]
  refine Es_iadd (hC _) dX5_send_64 ?_
  rw [show nI dy + 10 = nI (dy + 10) from nI_add dy 10]
  refine Es_sipush (v := 2000) (hC _) dX5_send_65 (by decide) ?_
  refine Es_icmp_le (hC _) 78 dX5_send_68 (by decide) (fun hb68 => ?_) (fun hb68 => False.elim (hb68 (nI_le (b := 2000) (a := dy + 10) (by omega) (by decide))))
  first | refine Es_aload_n (hC _) dX5_send_78 rfl ?_ | refine Es_aload_nN (hC _) dX5_send_78 rfl ?_
  first | refine Es_aload_n (hC _) dX5_send_79 rfl ?_ | refine Es_aload_nN (hC _) dX5_send_79 rfl ?_
  refine Sg_X5_11 (hC _) fl_X5_116 dX5_send_80 ?_
  refine Es_bipush (v := 10) (hC _) dX5_send_83 (by decide) ?_
  rw [hdy]
  refine Es_iadd (hC _) dX5_send_85 ?_
  rw [show nI dy + 10 = nI (dy + 10) from nI_add dy 10]
  refine Sp_X2_11 (hC _) fl_X5_216 dX5_send_86 (by assumption) ?_
  first | refine Es_aload_n (hC _) dX5_send_89 rfl ?_ | refine Es_aload_nN (hC _) dX5_send_89 rfl ?_
  first | refine Es_aload_n (hC _) dX5_send_90 rfl ?_ | refine Es_aload_nN (hC _) dX5_send_90 rfl ?_
  refine Es_bipush (v := -2) (hC _) dX5_send_91 (by decide) ?_
  refine Es_fV (hC _) mv_X5_128 dX5_send_93 (c_move ht (by simp [uB, hk]) h6) rfl rfl ⟨_, rfl, rfl⟩ rfl rfl (by decide) (Nat.le_of_ble_eq_true rfl) ?_
  first | refine Es_aload_n (hC _) dX5_send_96 rfl ?_ | refine Es_aload_nN (hC _) dX5_send_96 rfl ?_
  refine Sg_X2_11 (hC _) fl_X5_216 dX5_send_97 (by assumption) ?_
  exact Es_iret dX5_send_100 rfl ⟨by simp [cLog, uB], by simp [uB, hdy], rfl⟩

set_option maxRecDepth 100000 in
set_option maxHeartbeats 4000000 in
theorem r_send_4 {ad : sA} {nw nt : Nat} {B : sB} {L : sL} (hnt : B 25 0 5 = nI nt) (h40 : nt ≤ 40) {t : Nat} (ht : t < nt) (hwh : B 47 0 t = -1) (htr : ¬ 2 ≤ B 44 0 t) (hme : B 45 0 t < 3) {k dy : Nat} (hk : B 25 0 7 = nI k) (h6 : k < 600) (hdy : B 25 0 3 = nI dy) (hd : dy ≤ 1990) : Cf yX6_send cX6_send 2 (some FieldType.int) 3 [.ref (ad 25 0), .int (nI t)] ad nw nt B L (some (.int (nI (dy + 10)))) (rLog (uB (uB B 48 0 t (nI (dy + 10))) 47 0 t (-2)) k t) (L) := by
  have hC : ∀ Q, je_Ok (sCm yX6_send cX6_send 2 (some FieldType.int) 3 ad nw nt Q) RX6 cX6_send 2 3 := fun _ => je_Cm_ok
  refine Cs_of [some (.ref (ad 25 0)), some (.int (nI t))] (by decide) rfl (Nat.le_of_ble_eq_true rfl) ?_
  refine Es_iload_n (hC _) dX6_send_0 rfl ?_
  first | refine Es_aload_n (hC _) dX6_send_1 rfl ?_ | refine Es_aload_nN (hC _) dX6_send_1 rfl ?_
  refine Sg_X6_5 (hC _) fl_X6_107 dX6_send_2 ?_
  rw [hnt]
  refine Es_fS (hC _) ms_X6_89 dX6_send_5 (r_isIn_in ht (by omega)) rfl rfl (by decide) (Nat.le_of_ble_eq_true rfl) ?_
  refine Es_if_ne (hC _) 17 dX6_send_8 (by decide) (fun hb8 => ?_) (fun hb8 => False.elim ((by first | exact absurd hb8 (by decide) | exact absurd hb8 (by assumption) | exact hb8 (by assumption) | exact hb8 rfl | (simp_all [bI]; done))))
  first | refine Es_aload_n (hC _) dX6_send_17 rfl ?_ | refine Es_aload_nN (hC _) dX6_send_17 rfl ?_
  refine Sg_X6_17 (hC _) fl_X6_50 dX6_send_18 ?_
  refine Es_iload_n (hC _) dX6_send_21 rfl ?_
  refine Es_ialdN (hC _) dX6_send_22 rfl rfl rfl (by omega) (by decide) ?_
  refine Es_iconst (v := -1) (hC _) dX6_send_23 (by decide) ?_
  refine Es_icmp_ne (hC _) 47 dX6_send_24 (by decide) (fun hb24 => False.elim ((by first | exact absurd hb24 (by decide) | exact absurd hb24 (by assumption) | exact hb24 (by assumption) | exact hb24 rfl | (simp_all [bI]; done)))) (fun hb24 => ?_)
  first | refine Es_aload_n (hC _) dX6_send_27 rfl ?_ | refine Es_aload_nN (hC _) dX6_send_27 rfl ?_
  refine Sg_X6_14 (hC _) fl_X6_41 dX6_send_28 ?_
  refine Es_iload_n (hC _) dX6_send_31 rfl ?_
  refine Es_ialdN (hC _) dX6_send_32 rfl rfl rfl (by omega) (by decide) ?_
  refine Es_iconst (v := 2) (hC _) dX6_send_33 (by decide) ?_
  refine Es_icmp_ge (hC _) 47 dX6_send_34 (by decide) (fun hb34 => False.elim ((by first | exact absurd hb34 (by decide) | exact absurd hb34 (by assumption) | exact hb34 (by assumption) | exact hb34 rfl | (simp_all [bI]; done)))) (fun hb34 => ?_)
  first | refine Es_aload_n (hC _) dX6_send_37 rfl ?_ | refine Es_aload_nN (hC _) dX6_send_37 rfl ?_
  refine Sg_X6_15 (hC _) fl_X6_44 dX6_send_38 ?_
  refine Es_iload_n (hC _) dX6_send_41 rfl ?_
  refine Es_ialdN (hC _) dX6_send_42 rfl rfl rfl (by omega) (by decide) ?_
  refine Es_iconst (v := 3) (hC _) dX6_send_43 (by decide) ?_
  refine Es_icmp_lt (hC _) 54 dX6_send_44 (by decide) (fun hb44 => ?_) (fun hb44 => False.elim ((by first | exact absurd hb44 (by decide) | exact absurd hb44 (by assumption) | exact hb44 (by assumption) | exact hb44 rfl | (simp_all [bI]; done))))
  first | refine Es_aload_n (hC _) dX6_send_54 rfl ?_ | refine Es_aload_nN (hC _) dX6_send_54 rfl ?_
  refine Es_iconst (v := 1) (hC _) dX6_send_55 (by decide) ?_
  refine Es_fV (hC _) mv_X6_110 dX6_send_56 (r_hasRoom (m := 1) hk (by omega) (by decide)) rfl rfl ⟨_, rfl, rfl⟩ rfl rfl (by decide) (Nat.le_of_ble_eq_true rfl) ?_
  refine Es_if_eq (hC _) 75 dX6_send_59 (by decide) (fun hb59 => False.elim (absurd hb59 (by rw [bI, if_pos (by omega)]; decide))) (fun hb59 => ?_)
  first | refine Es_aload_n (hC _) dX6_send_62 rfl ?_ | refine Es_aload_nN (hC _) dX6_send_62 rfl ?_
  refine Sg_X6_3 (hC _) fl_X6_104 dX6_send_63 ?_
  refine Es_bipush (v := 10) (hC _) dX6_send_66 (by decide) ?_
  rw [hdy]
  refine Es_iadd (hC _) dX6_send_68 ?_
  rw [show nI dy + 10 = nI (dy + 10) from nI_add dy 10]
  refine Es_sipush (v := 2000) (hC _) dX6_send_69 (by decide) ?_
  refine Es_icmp_le (hC _) 82 dX6_send_72 (by decide) (fun hb72 => ?_) (fun hb72 => False.elim (hb72 (nI_le (b := 2000) (a := dy + 10) (by omega) (by decide))))
  first | refine Es_aload_n (hC _) dX6_send_82 rfl ?_ | refine Es_aload_nN (hC _) dX6_send_82 rfl ?_
  refine Sg_X6_18 (hC _) fl_X6_53 dX6_send_83 ?_
  refine Es_iload_n (hC _) dX6_send_86 rfl ?_
  first | refine Es_aload_n (hC _) dX6_send_87 rfl ?_ | refine Es_aload_nN (hC _) dX6_send_87 rfl ?_
  refine Sg_X6_3 (hC _) fl_X6_104 dX6_send_88 ?_
  refine Es_bipush (v := 10) (hC _) dX6_send_91 (by decide) ?_
  rw [hdy]
  refine Es_iadd (hC _) dX6_send_93 ?_
  rw [show nI dy + 10 = nI (dy + 10) from nI_add dy 10]
  refine Es_iastN (hC _) dX6_send_94 rfl (fun _ => rfl) rfl (by omega) (by decide) ?_
  first | refine Es_aload_n (hC _) dX6_send_95 rfl ?_ | refine Es_aload_nN (hC _) dX6_send_95 rfl ?_
  refine Es_iload_n (hC _) dX6_send_96 rfl ?_
  refine Es_bipush (v := -2) (hC _) dX6_send_97 (by decide) ?_
  refine Es_fV (hC _) mv_X6_124 dX6_send_99 (r_lays (by omega) (by simp [uB, hk]) h6) rfl rfl ⟨_, rfl, rfl⟩ rfl rfl (by decide) (Nat.le_of_ble_eq_true rfl) ?_
  first | refine Es_aload_n (hC _) dX6_send_102 rfl ?_ | refine Es_aload_nN (hC _) dX6_send_102 rfl ?_
  refine Sg_X6_18 (hC _) fl_X6_53 dX6_send_103 ?_
  refine Es_iload_n (hC _) dX6_send_106 rfl ?_
  refine Es_ialdN (hC _) dX6_send_107 rfl rfl rfl (by omega) (by decide) ?_
  exact Es_iret dX6_send_108 rfl ⟨by simp [rLog, uB], rfl, rfl⟩

