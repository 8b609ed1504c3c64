set_option maxRecDepth 100000 in
set_option maxHeartbeats 4000000 in
theorem c_placeOf_1a {ad : sA} {nw nt : Nat} {B : sB} {L : sL} (hnw : B 0 0 8 = nI nw) (h5 : nw ≤ 5) {y : Int32} (how : out y nw) {z v : Int32} : Cf yX5_placeOf cX5_placeOf 5 (some FieldType.int) 5 [.ref (ad 0 0), .int y, .int z, .int v] ad nw nt B L (some (.int (-9))) (B) (L) := by
  have hC : ∀ Q, je_Ok (sCm yX5_placeOf cX5_placeOf 5 (some FieldType.int) 5 ad nw nt Q) RX5 cX5_placeOf 5 5 := fun _ => je_Cm_ok
  refine Cs_of [some (.ref (ad 0 0)), some (.int y), some (.int z), some (.int v), none] (by decide) rfl (Nat.le_of_ble_eq_true rfl) ?_
  first | refine Es_aload_n (hC _) dX5_placeOf_0 rfl ?_ | refine Es_aload_nN (hC _) dX5_placeOf_0 rfl ?_
  refine Es_iload_n (hC _) dX5_placeOf_1 rfl ?_
  refine Es_fV (hC _) mv_X5_77 dX5_placeOf_2 (c_wagonAt_out hnw how) rfl rfl ⟨_, rfl, rfl⟩ rfl rfl (by decide) (Nat.le_of_ble_eq_true rfl) ?_
  first | refine Es_astore (lv' := [_, _, _, _, _]) (hC _) dX5_placeOf_5 (by decide) rfl rfl ?_ | refine Es_astoreN (lv' := [_, _, _, _, _]) (hC _) dX5_placeOf_5 (by decide) rfl rfl ?_
  first | refine Es_aload (hC _) dX5_placeOf_7 rfl ?_ | refine Es_aloadN (hC _) dX5_placeOf_7 rfl ?_
  refine Es_ifnullN (hC _) 21 dX5_placeOf_9 (by decide) ?_
  refine Es_bipush (v := -9) (hC _) dX5_placeOf_21 (by decide) ?_
  exact Es_iret dX5_placeOf_23 rfl ⟨rfl, rfl, rfl⟩

set_option maxRecDepth 100000 in
set_option maxHeartbeats 4000000 in
theorem c_placeOf_1b {ad : sA} {nw nt : Nat} {B : sB} {L : sL} (hnw : B 0 0 8 = nI nw) (h5 : nw ≤ 5) {w : Nat} (hw : w < nw) {p : Nat} {z : Int32} (hp : B 18 w 3 = nI p) (h7 : p ≤ 7) (hoz : out z p) {v : Int32} : Cf yX5_placeOf cX5_placeOf 5 (some FieldType.int) 5 [.ref (ad 0 0), .int (nI w), .int z, .int v] ad nw nt B L (some (.int (-9))) (B) (L) := by
  have hC : ∀ Q, je_Ok (sCm yX5_placeOf cX5_placeOf 5 (some FieldType.int) 5 ad nw nt Q) RX5 cX5_placeOf 5 5 := fun _ => je_Cm_ok
  refine Cs_of [some (.ref (ad 0 0)), some (.int (nI w)), some (.int z), some (.int v), none] (by decide) rfl (Nat.le_of_ble_eq_true rfl) ?_
  first | refine Es_aload_n (hC _) dX5_placeOf_0 rfl ?_ | refine Es_aload_nN (hC _) dX5_placeOf_0 rfl ?_
  refine Es_iload_n (hC _) dX5_placeOf_1 rfl ?_
  refine Es_fV (hC _) mv_X5_77 dX5_placeOf_2 (c_wagonAt_in hnw h5 hw) rfl rfl ⟨_, rfl, rfl⟩ rfl rfl (by decide) (Nat.le_of_ble_eq_true rfl) ?_
  first | refine Es_astore (lv' := [_, _, _, _, _]) (hC _) dX5_placeOf_5 (by decide) rfl rfl ?_ | refine Es_astoreN (lv' := [_, _, _, _, _]) (hC _) dX5_placeOf_5 (by decide) rfl rfl ?_
  first | refine Es_aload (hC _) dX5_placeOf_7 rfl ?_ | refine Es_aloadN (hC _) dX5_placeOf_7 rfl ?_
  refine Es_ifnull (hC _) dX5_placeOf_9 ?_
  first | refine Es_aload (hC _) dX5_placeOf_12 rfl ?_ | refine Es_aloadN (hC _) dX5_placeOf_12 rfl ?_
  refine Es_iload_n (hC _) dX5_placeOf_14 rfl ?_
  refine Es_fV (hC _) mv_X5_136 dX5_placeOf_15 (c_hasPlace_out hw hp h7 hoz) (ok18 hw) rfl ⟨_, rfl, rfl⟩ rfl rfl (by decide) (Nat.le_of_ble_eq_true rfl) ?_
  refine Es_if_ne (hC _) 24 dX5_placeOf_18 (by decide) (fun hb18 => False.elim ((by first | exact absurd hb18 (by decide) | exact absurd hb18 (by assumption) | exact hb18 (by assumption) | exact hb18 rfl | (simp_all [bI]; done)))) (fun hb18 => ?_)
  refine Es_bipush (v := -9) (hC _) dX5_placeOf_21 (by decide) ?_
  exact Es_iret dX5_placeOf_23 rfl ⟨rfl, rfl, rfl⟩

set_option maxRecDepth 100000 in
set_option maxHeartbeats 4000000 in
theorem c_placeOf_o {ad : sA} {nw nt : Nat} {B : sB} {L : sL} (hnw : B 0 0 8 = nI nw) (h5 : nw ≤ 5) {w : Nat} (hw : w < nw) {p q : Nat} (hp : B 18 w 3 = nI p) (h7 : p ≤ 7) (hq : q < p) {v : Int32} (hov : out v 3) : Cf yX5_placeOf cX5_placeOf 5 (some FieldType.int) 5 [.ref (ad 0 0), .int (nI w), .int (nI q), .int v] ad nw nt B L (some (.int (-9))) (B) (L) := by
  have hC : ∀ Q, je_Ok (sCm yX5_placeOf cX5_placeOf 5 (some FieldType.int) 5 ad nw nt Q) RX5 cX5_placeOf 5 5 := fun _ => je_Cm_ok
  refine Cs_of [some (.ref (ad 0 0)), some (.int (nI w)), some (.int (nI q)), some (.int v), none] (by decide) rfl (Nat.le_of_ble_eq_true rfl) ?_
  first | refine Es_aload_n (hC _) dX5_placeOf_0 rfl ?_ | refine Es_aload_nN (hC _) dX5_placeOf_0 rfl ?_
  refine Es_iload_n (hC _) dX5_placeOf_1 rfl ?_
  refine Es_fV (hC _) mv_X5_77 dX5_placeOf_2 (c_wagonAt_in hnw h5 hw) rfl rfl ⟨_, rfl, rfl⟩ rfl rfl (by decide) (Nat.le_of_ble_eq_true rfl) ?_
  first | refine Es_astore (lv' := [_, _, _, _, _]) (hC _) dX5_placeOf_5 (by decide) rfl rfl ?_ | refine Es_astoreN (lv' := [_, _, _, _, _]) (hC _) dX5_placeOf_5 (by decide) rfl rfl ?_
  first | refine Es_aload (hC _) dX5_placeOf_7 rfl ?_ | refine Es_aloadN (hC _) dX5_placeOf_7 rfl ?_
  refine Es_ifnull (hC _) dX5_placeOf_9 ?_
  first | refine Es_aload (hC _) dX5_placeOf_12 rfl ?_ | refine Es_aloadN (hC _) dX5_placeOf_12 rfl ?_
  refine Es_iload_n (hC _) dX5_placeOf_14 rfl ?_
  refine Es_fV (hC _) mv_X5_136 dX5_placeOf_15 (c_hasPlace_in hw hp h7 hq) (ok18 hw) rfl ⟨_, rfl, rfl⟩ rfl rfl (by decide) (Nat.le_of_ble_eq_true rfl) ?_
  refine Es_if_ne (hC _) 24 dX5_placeOf_18 (by decide) (fun hb18 => ?_) (fun hb18 => False.elim ((by first | exact absurd hb18 (by decide) | exact absurd hb18 (by assumption) | exact hb18 (by assumption) | exact hb18 rfl | (simp_all [bI]; done))))
  refine Es_iload_n (hC _) dX5_placeOf_24 rfl ?_
  refine Es_tableOut (hC _) 76 dX5_placeOf_25 (hov.elim (fun z => Or.inl (Int32.lt_iff_toInt_lt.mp z)) (fun z => Or.inr (Int.lt_of_lt_of_le (show (2 : Int) < (nI 3).toInt by decide) (Int32.le_iff_toInt_le.mp z)))) (by decide) ?_
  refine Es_bipush (v := -9) (hC _) dX5_placeOf_76 (by decide) ?_
  exact Es_iret dX5_placeOf_78 rfl ⟨rfl, rfl, rfl⟩

set_option maxRecDepth 100000 in
set_option maxHeartbeats 4000000 in
theorem c_placeOf_0 {ad : sA} {nw nt : Nat} {B : sB} {L : sL} (hnw : B 0 0 8 = nI nw) (h5 : nw ≤ 5) {w : Nat} (hw : w < nw) {p q : Nat} (hp : B 18 w 3 = nI p) (h7 : p ≤ 7) (hq : q < p)  : Cf yX5_placeOf cX5_placeOf 5 (some FieldType.int) 5 [.ref (ad 0 0), .int (nI w), .int (nI q), .int (nI 0)] ad nw nt B L (some (.int (B 19 w q))) (B) (L) := by
  have hC : ∀ Q, je_Ok (sCm yX5_placeOf cX5_placeOf 5 (some FieldType.int) 5 ad nw nt Q) RX5 cX5_placeOf 5 5 := fun _ => je_Cm_ok
  refine Cs_of [some (.ref (ad 0 0)), some (.int (nI w)), some (.int (nI q)), some (.int (nI 0)), none] (by decide) rfl (Nat.le_of_ble_eq_true rfl) ?_
  first | refine Es_aload_n (hC _) dX5_placeOf_0 rfl ?_ | refine Es_aload_nN (hC _) dX5_placeOf_0 rfl ?_
  refine Es_iload_n (hC _) dX5_placeOf_1 rfl ?_
  refine Es_fV (hC _) mv_X5_77 dX5_placeOf_2 (c_wagonAt_in hnw h5 hw) rfl rfl ⟨_, rfl, rfl⟩ rfl rfl (by decide) (Nat.le_of_ble_eq_true rfl) ?_
  first | refine Es_astore (lv' := [_, _, _, _, _]) (hC _) dX5_placeOf_5 (by decide) rfl rfl ?_ | refine Es_astoreN (lv' := [_, _, _, _, _]) (hC _) dX5_placeOf_5 (by decide) rfl rfl ?_
  first | refine Es_aload (hC _) dX5_placeOf_7 rfl ?_ | refine Es_aloadN (hC _) dX5_placeOf_7 rfl ?_
  refine Es_ifnull (hC _) dX5_placeOf_9 ?_
  first | refine Es_aload (hC _) dX5_placeOf_12 rfl ?_ | refine Es_aloadN (hC _) dX5_placeOf_12 rfl ?_
  refine Es_iload_n (hC _) dX5_placeOf_14 rfl ?_
  refine Es_fV (hC _) mv_X5_136 dX5_placeOf_15 (c_hasPlace_in hw hp h7 hq) (ok18 hw) rfl ⟨_, rfl, rfl⟩ rfl rfl (by decide) (Nat.le_of_ble_eq_true rfl) ?_
  refine Es_if_ne (hC _) 24 dX5_placeOf_18 (by decide) (fun hb18 => ?_) (fun hb18 => False.elim ((by first | exact absurd hb18 (by decide) | exact absurd hb18 (by assumption) | exact hb18 (by assumption) | exact hb18 rfl | (simp_all [bI]; done))))
  refine Es_iload_n (hC _) dX5_placeOf_24 rfl ?_
  refine Es_tableIn (hC _) 52 dX5_placeOf_25 (by decide) (by decide) (off := 27) (by decide) (by decide) ?_
  first | refine Es_aload (hC _) dX5_placeOf_52 rfl ?_ | refine Es_aloadN (hC _) dX5_placeOf_52 rfl ?_
  refine Es_iload_n (hC _) dX5_placeOf_54 rfl ?_
  refine Es_fV (hC _) mv_X5_258 dX5_placeOf_55 (c_kindOf_in hw hp h7 hq) (ok18 hw) rfl ⟨_, rfl, rfl⟩ rfl rfl (by decide) (Nat.le_of_ble_eq_true rfl) ?_
  exact Es_iret dX5_placeOf_58 rfl ⟨rfl, rfl, rfl⟩

set_option maxRecDepth 100000 in
set_option maxHeartbeats 4000000 in
theorem c_placeOf_1n {ad : sA} {nw nt : Nat} {B : sB} {L : sL} (hnw : B 0 0 8 = nI nw) (h5 : nw ≤ 5) {w : Nat} (hw : w < nw) {p q : Nat} (hp : B 18 w 3 = nI p) (h7 : p ≤ 7) (hq : q < p) (hon : B 20 w q = -1) : Cf yX5_placeOf cX5_placeOf 5 (some FieldType.int) 5 [.ref (ad 0 0), .int (nI w), .int (nI q), .int (nI 1)] ad nw nt B L (some (.int (-9))) (B) (L) := by
  have hC : ∀ Q, je_Ok (sCm yX5_placeOf cX5_placeOf 5 (some FieldType.int) 5 ad nw nt Q) RX5 cX5_placeOf 5 5 := fun _ => je_Cm_ok
  refine Cs_of [some (.ref (ad 0 0)), some (.int (nI w)), some (.int (nI q)), some (.int (nI 1)), none] (by decide) rfl (Nat.le_of_ble_eq_true rfl) ?_
  first | refine Es_aload_n (hC _) dX5_placeOf_0 rfl ?_ | refine Es_aload_nN (hC _) dX5_placeOf_0 rfl ?_
  refine Es_iload_n (hC _) dX5_placeOf_1 rfl ?_
  refine Es_fV (hC _) mv_X5_77 dX5_placeOf_2 (c_wagonAt_in hnw h5 hw) rfl rfl ⟨_, rfl, rfl⟩ rfl rfl (by decide) (Nat.le_of_ble_eq_true rfl) ?_
  first | refine Es_astore (lv' := [_, _, _, _, _]) (hC _) dX5_placeOf_5 (by decide) rfl rfl ?_ | refine Es_astoreN (lv' := [_, _, _, _, _]) (hC _) dX5_placeOf_5 (by decide) rfl rfl ?_
  first | refine Es_aload (hC _) dX5_placeOf_7 rfl ?_ | refine Es_aloadN (hC _) dX5_placeOf_7 rfl ?_
  refine Es_ifnull (hC _) dX5_placeOf_9 ?_
  first | refine Es_aload (hC _) dX5_placeOf_12 rfl ?_ | refine Es_aloadN (hC _) dX5_placeOf_12 rfl ?_
  refine Es_iload_n (hC _) dX5_placeOf_14 rfl ?_
  refine Es_fV (hC _) mv_X5_136 dX5_placeOf_15 (c_hasPlace_in hw hp h7 hq) (ok18 hw) rfl ⟨_, rfl, rfl⟩ rfl rfl (by decide) (Nat.le_of_ble_eq_true rfl) ?_
  refine Es_if_ne (hC _) 24 dX5_placeOf_18 (by decide) (fun hb18 => ?_) (fun hb18 => False.elim ((by first | exact absurd hb18 (by decide) | exact absurd hb18 (by assumption) | exact hb18 (by assumption) | exact hb18 rfl | (simp_all [bI]; done))))
  refine Es_iload_n (hC _) dX5_placeOf_24 rfl ?_
  refine Es_tableIn (hC _) 59 dX5_placeOf_25 (by decide) (by decide) (off := 34) (by decide) (by decide) ?_
  first | refine Es_aload (hC _) dX5_placeOf_59 rfl ?_ | refine Es_aloadN (hC _) dX5_placeOf_59 rfl ?_
  refine Es_iload_n (hC _) dX5_placeOf_61 rfl ?_
  refine Es_fV (hC _) mv_X5_142 dX5_placeOf_62 (c_tyreOn_in hw hp h7 hq) (ok18 hw) rfl ⟨_, rfl, rfl⟩ rfl rfl (by decide) (Nat.le_of_ble_eq_true rfl) ?_
  rw [show rT ad (B 20 w q) = none by rw [hon]; rfl]
  refine Es_fS (hC _) ms_X5_261 dX5_placeOf_65 c_numberOf_null rfl rfl (by decide) (Nat.le_of_ble_eq_true rfl) ?_
  exact Es_iret dX5_placeOf_68 rfl ⟨rfl, rfl, rfl⟩

set_option maxRecDepth 100000 in
set_option maxHeartbeats 4000000 in
theorem c_placeOf_1t {ad : sA} {nw nt : Nat} {B : sB} {L : sL} (hnw : B 0 0 8 = nI nw) (h5 : nw ≤ 5) {w : Nat} (hw : w < nw) {p q : Nat} (hp : B 18 w 3 = nI p) (h7 : p ≤ 7) (hq : q < p) {t : Nat} (ht : t < nt) (h40 : nt ≤ 40) (hon : B 20 w q = nI t) (hn : B 21 t 0 = nI t) : Cf yX5_placeOf cX5_placeOf 5 (some FieldType.int) 5 [.ref (ad 0 0), .int (nI w), .int (nI q), .int (nI 1)] ad nw nt B L (some (.int (nI t))) (B) (L) := by
  have hC : ∀ Q, je_Ok (sCm yX5_placeOf cX5_placeOf 5 (some FieldType.int) 5 ad nw nt Q) RX5 cX5_placeOf 5 5 := fun _ => je_Cm_ok
  refine Cs_of [some (.ref (ad 0 0)), some (.int (nI w)), some (.int (nI q)), some (.int (nI 1)), none] (by decide) rfl (Nat.le_of_ble_eq_true rfl) ?_
  first | refine Es_aload_n (hC _) dX5_placeOf_0 rfl ?_ | refine Es_aload_nN (hC _) dX5_placeOf_0 rfl ?_
  refine Es_iload_n (hC _) dX5_placeOf_1 rfl ?_
  refine Es_fV (hC _) mv_X5_77 dX5_placeOf_2 (c_wagonAt_in hnw h5 hw) rfl rfl ⟨_, rfl, rfl⟩ rfl rfl (by decide) (Nat.le_of_ble_eq_true rfl) ?_
  first | refine Es_astore (lv' := [_, _, _, _, _]) (hC _) dX5_placeOf_5 (by decide) rfl rfl ?_ | refine Es_astoreN (lv' := [_, _, _, _, _]) (hC _) dX5_placeOf_5 (by decide) rfl rfl ?_
  first | refine Es_aload (hC _) dX5_placeOf_7 rfl ?_ | refine Es_aloadN (hC _) dX5_placeOf_7 rfl ?_
  refine Es_ifnull (hC _) dX5_placeOf_9 ?_
  first | refine Es_aload (hC _) dX5_placeOf_12 rfl ?_ | refine Es_aloadN (hC _) dX5_placeOf_12 rfl ?_
  refine Es_iload_n (hC _) dX5_placeOf_14 rfl ?_
  refine Es_fV (hC _) mv_X5_136 dX5_placeOf_15 (c_hasPlace_in hw hp h7 hq) (ok18 hw) rfl ⟨_, rfl, rfl⟩ rfl rfl (by decide) (Nat.le_of_ble_eq_true rfl) ?_
  refine Es_if_ne (hC _) 24 dX5_placeOf_18 (by decide) (fun hb18 => ?_) (fun hb18 => False.elim ((by first | exact absurd hb18 (by decide) | exact absurd hb18 (by assumption) | exact hb18 (by assumption) | exact hb18 rfl | (simp_all [bI]; done))))
  refine Es_iload_n (hC _) dX5_placeOf_24 rfl ?_
  refine Es_tableIn (hC _) 59 dX5_placeOf_25 (by decide) (by decide) (off := 34) (by decide) (by decide) ?_
  first | refine Es_aload (hC _) dX5_placeOf_59 rfl ?_ | refine Es_aloadN (hC _) dX5_placeOf_59 rfl ?_
  refine Es_iload_n (hC _) dX5_placeOf_61 rfl ?_
  refine Es_fV (hC _) mv_X5_142 dX5_placeOf_62 (c_tyreOn_in hw hp h7 hq) (ok18 hw) rfl ⟨_, rfl, rfl⟩ rfl rfl (by decide) (Nat.le_of_ble_eq_true rfl) ?_
  rw [show rT ad (B 20 w q) = some (ad 21 t) by rw [hon, rT, if_neg (nI_pos (by omega)), nI_clamp (by omega)]]
  refine Es_fS (hC _) ms_X5_261 dX5_placeOf_65 (c_numberOf ht) rfl rfl (by decide) (Nat.le_of_ble_eq_true rfl) ?_
  exact Es_iret dX5_placeOf_68 rfl ⟨by rw [hn], rfl, rfl⟩

set_option maxRecDepth 100000 in
set_option maxHeartbeats 4000000 in
theorem c_placeOf_2 {ad : sA} {nw nt : Nat} {B : sB} {L : sL} (hnw : B 0 0 8 = nI nw) (h5 : nw ≤ 5) {w : Nat} (hw : w < nw) {p q : Nat} (hp : B 18 w 3 = nI p) (h7 : p ≤ 7) (hq : q < p)  : Cf yX5_placeOf cX5_placeOf 5 (some FieldType.int) 5 [.ref (ad 0 0), .int (nI w), .int (nI q), .int (nI 2)] ad nw nt B L (some (.int (prV (B 19 w) p q))) (B) (L) := by
  have hC : ∀ Q, je_Ok (sCm yX5_placeOf cX5_placeOf 5 (some FieldType.int) 5 ad nw nt Q) RX5 cX5_placeOf 5 5 := fun _ => je_Cm_ok
  refine Cs_of [some (.ref (ad 0 0)), some (.int (nI w)), some (.int (nI q)), some (.int (nI 2)), none] (by decide) rfl (Nat.le_of_ble_eq_true rfl) ?_
  first | refine Es_aload_n (hC _) dX5_placeOf_0 rfl ?_ | refine Es_aload_nN (hC _) dX5_placeOf_0 rfl ?_
  refine Es_iload_n (hC _) dX5_placeOf_1 rfl ?_
  refine Es_fV (hC _) mv_X5_77 dX5_placeOf_2 (c_wagonAt_in hnw h5 hw) rfl rfl ⟨_, rfl, rfl⟩ rfl rfl (by decide) (Nat.le_of_ble_eq_true rfl) ?_
  first | refine Es_astore (lv' := [_, _, _, _, _]) (hC _) dX5_placeOf_5 (by decide) rfl rfl ?_ | refine Es_astoreN (lv' := [_, _, _, _, _]) (hC _) dX5_placeOf_5 (by decide) rfl rfl ?_
  first | refine Es_aload (hC _) dX5_placeOf_7 rfl ?_ | refine Es_aloadN (hC _) dX5_placeOf_7 rfl ?_
  refine Es_ifnull (hC _) dX5_placeOf_9 ?_
  first | refine Es_aload (hC _) dX5_placeOf_12 rfl ?_ | refine Es_aloadN (hC _) dX5_placeOf_12 rfl ?_
  refine Es_iload_n (hC _) dX5_placeOf_14 rfl ?_
  refine Es_fV (hC _) mv_X5_136 dX5_placeOf_15 (c_hasPlace_in hw hp h7 hq) (ok18 hw) rfl ⟨_, rfl, rfl⟩ rfl rfl (by decide) (Nat.le_of_ble_eq_true rfl) ?_
  refine Es_if_ne (hC _) 24 dX5_placeOf_18 (by decide) (fun hb18 => ?_) (fun hb18 => False.elim ((by first | exact absurd hb18 (by decide) | exact absurd hb18 (by assumption) | exact hb18 (by assumption) | exact hb18 rfl | (simp_all [bI]; done))))
  refine Es_iload_n (hC _) dX5_placeOf_24 rfl ?_
  refine Es_tableIn (hC _) 69 dX5_placeOf_25 (by decide) (by decide) (off := 44) (by decide) (by decide) ?_
  first | refine Es_aload (hC _) dX5_placeOf_69 rfl ?_ | refine Es_aloadN (hC _) dX5_placeOf_69 rfl ?_
  refine Es_iload_n (hC _) dX5_placeOf_71 rfl ?_
  refine Es_fV (hC _) mv_X5_265 dX5_placeOf_72 (c_pairOf hw hp h7 hq) (ok18 hw) rfl ⟨_, rfl, rfl⟩ rfl rfl (by decide) (Nat.le_of_ble_eq_true rfl) ?_
  exact Es_iret dX5_placeOf_75 rfl ⟨rfl, rfl, rfl⟩

set_option maxRecDepth 100000 in
set_option maxHeartbeats 4000000 in
theorem r_placeOf_1a {ad : sA} {nw nt : Nat} {B : sB} {L : sL} (hnw : B 25 0 4 = nI nw) (h5 : nw ≤ 5) {y : Int32} (how : out y nw) {z v : Int32} : Cf yX6_placeOf cX6_placeOf 5 (some FieldType.int) 5 [.ref (ad 25 0), .int y, .int z, .int v] ad nw nt B L (some (.int (-9))) (B) (L) := by
  have hC : ∀ Q, je_Ok (sCm yX6_placeOf cX6_placeOf 5 (some FieldType.int) 5 ad nw nt Q) RX6 cX6_placeOf 5 5 := fun _ => je_Cm_ok
  refine Cs_of [some (.ref (ad 25 0)), some (.int y), some (.int z), some (.int v), none] (by decide) rfl (Nat.le_of_ble_eq_true rfl) ?_
  first | refine Es_aload_n (hC _) dX6_placeOf_0 rfl ?_ | refine Es_aload_nN (hC _) dX6_placeOf_0 rfl ?_
  refine Es_iload_n (hC _) dX6_placeOf_1 rfl ?_
  refine Es_iload_n (hC _) dX6_placeOf_2 rfl ?_
  refine Es_fV (hC _) mv_X6_121 dX6_placeOf_3 (r_isPlace_out1 hnw how) rfl rfl ⟨_, rfl, rfl⟩ rfl rfl (by decide) (Nat.le_of_ble_eq_true rfl) ?_
  refine Es_if_ne (hC _) 12 dX6_placeOf_6 (by decide) (fun hb6 => False.elim ((by first | exact absurd hb6 (by decide) | exact absurd hb6 (by assumption) | exact hb6 (by assumption) | exact hb6 rfl | (simp_all [bI]; done)))) (fun hb6 => ?_)
  refine Es_bipush (v := -9) (hC _) dX6_placeOf_9 (by decide) ?_
  exact Es_iret dX6_placeOf_11 rfl ⟨rfl, rfl, rfl⟩

set_option maxRecDepth 100000 in
set_option maxHeartbeats 4000000 in
theorem r_placeOf_1b {ad : sA} {nw nt : Nat} {B : sB} {L : sL} (hnw : B 25 0 4 = nI nw) (h5 : nw ≤ 5) {w : Nat} (hw : w < nw) {p : Nat} {z : Int32} (hp : B 38 0 w = nI p) (h7 : p ≤ 7) (hoz : out z p) {v : Int32} : Cf yX6_placeOf cX6_placeOf 5 (some FieldType.int) 5 [.ref (ad 25 0), .int (nI w), .int z, .int v] ad nw nt B L (some (.int (-9))) (B) (L) := by
  have hC : ∀ Q, je_Ok (sCm yX6_placeOf cX6_placeOf 5 (some FieldType.int) 5 ad nw nt Q) RX6 cX6_placeOf 5 5 := fun _ => je_Cm_ok
  refine Cs_of [some (.ref (ad 25 0)), some (.int (nI w)), some (.int z), some (.int v), none] (by decide) rfl (Nat.le_of_ble_eq_true rfl) ?_
  first | refine Es_aload_n (hC _) dX6_placeOf_0 rfl ?_ | refine Es_aload_nN (hC _) dX6_placeOf_0 rfl ?_
  refine Es_iload_n (hC _) dX6_placeOf_1 rfl ?_
  refine Es_iload_n (hC _) dX6_placeOf_2 rfl ?_
  refine Es_fV (hC _) mv_X6_121 dX6_placeOf_3 (r_isPlace_out2 hnw h5 hw hp hoz) rfl rfl ⟨_, rfl, rfl⟩ rfl rfl (by decide) (Nat.le_of_ble_eq_true rfl) ?_
  refine Es_if_ne (hC _) 12 dX6_placeOf_6 (by decide) (fun hb6 => False.elim ((by first | exact absurd hb6 (by decide) | exact absurd hb6 (by assumption) | exact hb6 (by assumption) | exact hb6 rfl | (simp_all [bI]; done)))) (fun hb6 => ?_)
  refine Es_bipush (v := -9) (hC _) dX6_placeOf_9 (by decide) ?_
  exact Es_iret dX6_placeOf_11 rfl ⟨rfl, rfl, rfl⟩

set_option maxRecDepth 100000 in
set_option maxHeartbeats 4000000 in
theorem r_placeOf_o {ad : sA} {nw nt : Nat} {B : sB} {L : sL} (hnw : B 25 0 4 = nI nw) (h5 : nw ≤ 5) {w : Nat} (hw : w < nw) {p q : Nat} (hp : B 38 0 w = nI p) (h7 : p ≤ 7) (hq : q < p) {v : Int32} (hov : out v 3) : Cf yX6_placeOf cX6_placeOf 5 (some FieldType.int) 5 [.ref (ad 25 0), .int (nI w), .int (nI q), .int v] ad nw nt B L (some (.int (-9))) (B) (L) := by
  have hC : ∀ Q, je_Ok (sCm yX6_placeOf cX6_placeOf 5 (some FieldType.int) 5 ad nw nt Q) RX6 cX6_placeOf 5 5 := fun _ => je_Cm_ok
  refine Cs_of [some (.ref (ad 25 0)), some (.int (nI w)), some (.int (nI q)), some (.int v), none] (by decide) rfl (Nat.le_of_ble_eq_true rfl) ?_
  first | refine Es_aload_n (hC _) dX6_placeOf_0 rfl ?_ | refine Es_aload_nN (hC _) dX6_placeOf_0 rfl ?_
  refine Es_iload_n (hC _) dX6_placeOf_1 rfl ?_
  refine Es_iload_n (hC _) dX6_placeOf_2 rfl ?_
  refine Es_fV (hC _) mv_X6_121 dX6_placeOf_3 (r_isPlace_in hnw h5 hw hp h7 hq) rfl rfl ⟨_, rfl, rfl⟩ rfl rfl (by decide) (Nat.le_of_ble_eq_true rfl) ?_
  refine Es_if_ne (hC _) 12 dX6_placeOf_6 (by decide) (fun hb6 => ?_) (fun hb6 => False.elim ((by first | exact absurd hb6 (by decide) | exact absurd hb6 (by assumption) | exact hb6 (by assumption) | exact hb6 rfl | (simp_all [bI]; done))))
  refine Es_iload_n (hC _) dX6_placeOf_12 rfl ?_
  refine Es_iload_n (hC _) dX6_placeOf_13 rfl ?_
  refine Es_fS (hC _) ms_X6_97 dX6_placeOf_14 r_spot rfl rfl (by decide) (Nat.le_of_ble_eq_true rfl) ?_
  refine Es_istore (lv' := [_, _, _, _, _]) (hC _) dX6_placeOf_17 (by decide) rfl rfl ?_
  refine Es_iload_n (hC _) dX6_placeOf_19 rfl ?_
  refine Es_if_ne (hC _) 33 dX6_placeOf_20 (by decide) (fun hb20 => ?_) (fun hb20 => False.elim (out_ne (j := 0) hov (by decide) (by decide) hb20))
  refine Es_iload_n (hC _) dX6_placeOf_33 rfl ?_
  refine Es_iconst (v := 1) (hC _) dX6_placeOf_34 (by decide) ?_
  refine Es_icmp_ne (hC _) 63 dX6_placeOf_35 (by decide) (fun hb35 => ?_) (fun hb35 => False.elim (out_ne (j := 1) hov (by decide) (by decide) hb35))
  refine Es_iload_n (hC _) dX6_placeOf_63 rfl ?_
  refine Es_iconst (v := 2) (hC _) dX6_placeOf_64 (by decide) ?_
  refine Es_icmp_ne (hC _) 93 dX6_placeOf_65 (by decide) (fun hb65 => ?_) (fun hb65 => False.elim (out_ne (j := 2) hov (by decide) (by decide) hb65))
  refine Es_bipush (v := -9) (hC _) dX6_placeOf_93 (by decide) ?_
  exact Es_iret dX6_placeOf_95 rfl ⟨rfl, rfl, rfl⟩

set_option maxRecDepth 100000 in
set_option maxHeartbeats 4000000 in
theorem r_placeOf_0 {ad : sA} {nw nt : Nat} {B : sB} {L : sL} (hnw : B 25 0 4 = nI nw) (h5 : nw ≤ 5) {w : Nat} (hw : w < nw) {p q : Nat} (hp : B 38 0 w = nI p) (h7 : p ≤ 7) (hq : q < p)  : Cf yX6_placeOf cX6_placeOf 5 (some FieldType.int) 5 [.ref (ad 25 0), .int (nI w), .int (nI q), .int (nI 0)] ad nw nt B L (some (.int (B 39 0 (7 * w + q)))) (B) (L) := by
  have hC : ∀ Q, je_Ok (sCm yX6_placeOf cX6_placeOf 5 (some FieldType.int) 5 ad nw nt Q) RX6 cX6_placeOf 5 5 := fun _ => je_Cm_ok
  refine Cs_of [some (.ref (ad 25 0)), some (.int (nI w)), some (.int (nI q)), some (.int (nI 0)), none] (by decide) rfl (Nat.le_of_ble_eq_true rfl) ?_
  first | refine Es_aload_n (hC _) dX6_placeOf_0 rfl ?_ | refine Es_aload_nN (hC _) dX6_placeOf_0 rfl ?_
  refine Es_iload_n (hC _) dX6_placeOf_1 rfl ?_
  refine Es_iload_n (hC _) dX6_placeOf_2 rfl ?_
  refine Es_fV (hC _) mv_X6_121 dX6_placeOf_3 (r_isPlace_in hnw h5 hw hp h7 hq) rfl rfl ⟨_, rfl, rfl⟩ rfl rfl (by decide) (Nat.le_of_ble_eq_true rfl) ?_
  refine Es_if_ne (hC _) 12 dX6_placeOf_6 (by decide) (fun hb6 => ?_) (fun hb6 => False.elim ((by first | exact absurd hb6 (by decide) | exact absurd hb6 (by assumption) | exact hb6 (by assumption) | exact hb6 rfl | (simp_all [bI]; done))))
  refine Es_iload_n (hC _) dX6_placeOf_12 rfl ?_
  refine Es_iload_n (hC _) dX6_placeOf_13 rfl ?_
  refine Es_fS (hC _) ms_X6_97 dX6_placeOf_14 r_spot rfl rfl (by decide) (Nat.le_of_ble_eq_true rfl) ?_
  refine Es_istore (lv' := [_, _, _, _, _]) (hC _) dX6_placeOf_17 (by decide) rfl rfl ?_
  refine Es_iload_n (hC _) dX6_placeOf_19 rfl ?_
  refine Es_if_ne (hC _) 33 dX6_placeOf_20 (by decide) (fun hb20 => False.elim (hb20 rfl)) (fun hb20 => ?_)
  first | refine Es_aload_n (hC _) dX6_placeOf_23 rfl ?_ | refine Es_aload_nN (hC _) dX6_placeOf_23 rfl ?_
  refine Sg_X6_9 (hC _) fl_X6_26 dX6_placeOf_24 ?_
  refine Es_iload (hC _) dX6_placeOf_27 rfl ?_
  refine Es_ialdN (hC _) dX6_placeOf_29 rfl rfl rfl (by omega) (by decide) ?_
  refine Es_goto (hC _) 95 dX6_placeOf_30 (by decide) ?_
  exact Es_iret dX6_placeOf_95 rfl ⟨rfl, rfl, rfl⟩

set_option maxRecDepth 100000 in
set_option maxHeartbeats 4000000 in
theorem r_placeOf_1n {ad : sA} {nw nt : Nat} {B : sB} {L : sL} (hnw : B 25 0 4 = nI nw) (h5 : nw ≤ 5) {w : Nat} (hw : w < nw) {p q : Nat} (hp : B 38 0 w = nI p) (h7 : p ≤ 7) (hq : q < p) (hon : B 40 0 (7 * w + q) = -1) : Cf yX6_placeOf cX6_placeOf 5 (some FieldType.int) 5 [.ref (ad 25 0), .int (nI w), .int (nI q), .int (nI 1)] ad nw nt B L (some (.int (-9))) (B) (L) := by
  have hC : ∀ Q, je_Ok (sCm yX6_placeOf cX6_placeOf 5 (some FieldType.int) 5 ad nw nt Q) RX6 cX6_placeOf 5 5 := fun _ => je_Cm_ok
  refine Cs_of [some (.ref (ad 25 0)), some (.int (nI w)), some (.int (nI q)), some (.int (nI 1)), none] (by decide) rfl (Nat.le_of_ble_eq_true rfl) ?_
  first | refine Es_aload_n (hC _) dX6_placeOf_0 rfl ?_ | refine Es_aload_nN (hC _) dX6_placeOf_0 rfl ?_
  refine Es_iload_n (hC _) dX6_placeOf_1 rfl ?_
  refine Es_iload_n (hC _) dX6_placeOf_2 rfl ?_
  refine Es_fV (hC _) mv_X6_121 dX6_placeOf_3 (r_isPlace_in hnw h5 hw hp h7 hq) rfl rfl ⟨_, rfl, rfl⟩ rfl rfl (by decide) (Nat.le_of_ble_eq_true rfl) ?_
  refine Es_if_ne (hC _) 12 dX6_placeOf_6 (by decide) (fun hb6 => ?_) (fun hb6 => False.elim ((by first | exact absurd hb6 (by decide) | exact absurd hb6 (by assumption) | exact hb6 (by assumption) | exact hb6 rfl | (simp_all [bI]; done))))
  refine Es_iload_n (hC _) dX6_placeOf_12 rfl ?_
  refine Es_iload_n (hC _) dX6_placeOf_13 rfl ?_
  refine Es_fS (hC _) ms_X6_97 dX6_placeOf_14 r_spot rfl rfl (by decide) (Nat.le_of_ble_eq_true rfl) ?_
  refine Es_istore (lv' := [_, _, _, _, _]) (hC _) dX6_placeOf_17 (by decide) rfl rfl ?_
  refine Es_iload_n (hC _) dX6_placeOf_19 rfl ?_
  refine Es_if_ne (hC _) 33 dX6_placeOf_20 (by decide) (fun hb20 => ?_) (fun hb20 => False.elim (absurd hb20 (by decide)))
  refine Es_iload_n (hC _) dX6_placeOf_33 rfl ?_
  refine Es_iconst (v := 1) (hC _) dX6_placeOf_34 (by decide) ?_
  refine Es_icmp_ne (hC _) 63 dX6_placeOf_35 (by decide) (fun hb35 => False.elim (hb35 rfl)) (fun hb35 => ?_)
  first | refine Es_aload_n (hC _) dX6_placeOf_38 rfl ?_ | refine Es_aload_nN (hC _) dX6_placeOf_38 rfl ?_
  refine Sg_X6_10 (hC _) fl_X6_29 dX6_placeOf_39 ?_
  refine Es_iload (hC _) dX6_placeOf_42 rfl ?_
  refine Es_ialdN (hC _) dX6_placeOf_44 rfl rfl rfl (by omega) (by decide) ?_
  rw [hon]
  refine Es_if_ge (hC _) 53 dX6_placeOf_45 (by decide) (fun hb45 => False.elim (absurd hb45 (by decide))) (fun hb45 => ?_)
  refine Es_bipush (v := -9) (hC _) dX6_placeOf_48 (by decide) ?_
  refine Es_goto (hC _) 95 dX6_placeOf_50 (by decide) ?_
  exact Es_iret dX6_placeOf_95 rfl ⟨rfl, rfl, rfl⟩

set_option maxRecDepth 100000 in
set_option maxHeartbeats 4000000 in
theorem r_placeOf_1t {ad : sA} {nw nt : Nat} {B : sB} {L : sL} (hnw : B 25 0 4 = nI nw) (h5 : nw ≤ 5) {w : Nat} (hw : w < nw) {p q : Nat} (hp : B 38 0 w = nI p) (h7 : p ≤ 7) (hq : q < p) {t : Nat} (ht : t < nt) (h40 : nt ≤ 40) (hon : B 40 0 (7 * w + q) = nI t) : Cf yX6_placeOf cX6_placeOf 5 (some FieldType.int) 5 [.ref (ad 25 0), .int (nI w), .int (nI q), .int (nI 1)] ad nw nt B L (some (.int (nI t))) (B) (L) := by
  have hC : ∀ Q, je_Ok (sCm yX6_placeOf cX6_placeOf 5 (some FieldType.int) 5 ad nw nt Q) RX6 cX6_placeOf 5 5 := fun _ => je_Cm_ok
  refine Cs_of [some (.ref (ad 25 0)), some (.int (nI w)), some (.int (nI q)), some (.int (nI 1)), none] (by decide) rfl (Nat.le_of_ble_eq_true rfl) ?_
  first | refine Es_aload_n (hC _) dX6_placeOf_0 rfl ?_ | refine Es_aload_nN (hC _) dX6_placeOf_0 rfl ?_
  refine Es_iload_n (hC _) dX6_placeOf_1 rfl ?_
  refine Es_iload_n (hC _) dX6_placeOf_2 rfl ?_
  refine Es_fV (hC _) mv_X6_121 dX6_placeOf_3 (r_isPlace_in hnw h5 hw hp h7 hq) rfl rfl ⟨_, rfl, rfl⟩ rfl rfl (by decide) (Nat.le_of_ble_eq_true rfl) ?_
  refine Es_if_ne (hC _) 12 dX6_placeOf_6 (by decide) (fun hb6 => ?_) (fun hb6 => False.elim ((by first | exact absurd hb6 (by decide) | exact absurd hb6 (by assumption) | exact hb6 (by assumption) | exact hb6 rfl | (simp_all [bI]; done))))
  refine Es_iload_n (hC _) dX6_placeOf_12 rfl ?_
  refine Es_iload_n (hC _) dX6_placeOf_13 rfl ?_
  refine Es_fS (hC _) ms_X6_97 dX6_placeOf_14 r_spot rfl rfl (by decide) (Nat.le_of_ble_eq_true rfl) ?_
  refine Es_istore (lv' := [_, _, _, _, _]) (hC _) dX6_placeOf_17 (by decide) rfl rfl ?_
  refine Es_iload_n (hC _) dX6_placeOf_19 rfl ?_
  refine Es_if_ne (hC _) 33 dX6_placeOf_20 (by decide) (fun hb20 => ?_) (fun hb20 => False.elim (absurd hb20 (by decide)))
  refine Es_iload_n (hC _) dX6_placeOf_33 rfl ?_
  refine Es_iconst (v := 1) (hC _) dX6_placeOf_34 (by decide) ?_
  refine Es_icmp_ne (hC _) 63 dX6_placeOf_35 (by decide) (fun hb35 => False.elim (hb35 rfl)) (fun hb35 => ?_)
  first | refine Es_aload_n (hC _) dX6_placeOf_38 rfl ?_ | refine Es_aload_nN (hC _) dX6_placeOf_38 rfl ?_
  refine Sg_X6_10 (hC _) fl_X6_29 dX6_placeOf_39 ?_
  refine Es_iload (hC _) dX6_placeOf_42 rfl ?_
  refine Es_ialdN (hC _) dX6_placeOf_44 rfl rfl rfl (by omega) (by decide) ?_
  rw [hon]
  refine Es_if_ge (hC _) 53 dX6_placeOf_45 (by decide) (fun hb45 => ?_) (fun hb45 => False.elim (hb45 (nI_pos' (by omega))))
  first | refine Es_aload_n (hC _) dX6_placeOf_53 rfl ?_ | refine Es_aload_nN (hC _) dX6_placeOf_53 rfl ?_
  refine Sg_X6_10 (hC _) fl_X6_29 dX6_placeOf_54 ?_
  refine Es_iload (hC _) dX6_placeOf_57 rfl ?_
  refine Es_ialdN (hC _) dX6_placeOf_59 rfl rfl rfl (by omega) (by decide) ?_
  rw [hon]
  refine Es_goto (hC _) 95 dX6_placeOf_60 (by decide) ?_
  exact Es_iret dX6_placeOf_95 rfl ⟨rfl, rfl, rfl⟩

set_option maxRecDepth 100000 in
set_option maxHeartbeats 4000000 in
theorem r_placeOf_2n {ad : sA} {nw nt : Nat} {B : sB} {L : sL} (hnw : B 25 0 4 = nI nw) (h5 : nw ≤ 5) {w : Nat} (hw : w < nw) {p q : Nat} (hp : B 38 0 w = nI p) (h7 : p ≤ 7) (hq : q < p) (hon : B 41 0 (7 * w + q) = -1) : Cf yX6_placeOf cX6_placeOf 5 (some FieldType.int) 5 [.ref (ad 25 0), .int (nI w), .int (nI q), .int (nI 2)] ad nw nt B L (some (.int (-9))) (B) (L) := by
  have hC : ∀ Q, je_Ok (sCm yX6_placeOf cX6_placeOf 5 (some FieldType.int) 5 ad nw nt Q) RX6 cX6_placeOf 5 5 := fun _ => je_Cm_ok
  refine Cs_of [some (.ref (ad 25 0)), some (.int (nI w)), some (.int (nI q)), some (.int (nI 2)), none] (by decide) rfl (Nat.le_of_ble_eq_true rfl) ?_
  first | refine Es_aload_n (hC _) dX6_placeOf_0 rfl ?_ | refine Es_aload_nN (hC _) dX6_placeOf_0 rfl ?_
  refine Es_iload_n (hC _) dX6_placeOf_1 rfl ?_
  refine Es_iload_n (hC _) dX6_placeOf_2 rfl ?_
  refine Es_fV (hC _) mv_X6_121 dX6_placeOf_3 (r_isPlace_in hnw h5 hw hp h7 hq) rfl rfl ⟨_, rfl, rfl⟩ rfl rfl (by decide) (Nat.le_of_ble_eq_true rfl) ?_
  refine Es_if_ne (hC _) 12 dX6_placeOf_6 (by decide) (fun hb6 => ?_) (fun hb6 => False.elim ((by first | exact absurd hb6 (by decide) | exact absurd hb6 (by assumption) | exact hb6 (by assumption) | exact hb6 rfl | (simp_all [bI]; done))))
  refine Es_iload_n (hC _) dX6_placeOf_12 rfl ?_
  refine Es_iload_n (hC _) dX6_placeOf_13 rfl ?_
  refine Es_fS (hC _) ms_X6_97 dX6_placeOf_14 r_spot rfl rfl (by decide) (Nat.le_of_ble_eq_true rfl) ?_
  refine Es_istore (lv' := [_, _, _, _, _]) (hC _) dX6_placeOf_17 (by decide) rfl rfl ?_
  refine Es_iload_n (hC _) dX6_placeOf_19 rfl ?_
  refine Es_if_ne (hC _) 33 dX6_placeOf_20 (by decide) (fun hb20 => ?_) (fun hb20 => False.elim (absurd hb20 (by decide)))
  refine Es_iload_n (hC _) dX6_placeOf_33 rfl ?_
  refine Es_iconst (v := 1) (hC _) dX6_placeOf_34 (by decide) ?_
  refine Es_icmp_ne (hC _) 63 dX6_placeOf_35 (by decide) (fun hb35 => ?_) (fun hb35 => False.elim (absurd hb35 (by decide)))
  refine Es_iload_n (hC _) dX6_placeOf_63 rfl ?_
  refine Es_iconst (v := 2) (hC _) dX6_placeOf_64 (by decide) ?_
  refine Es_icmp_ne (hC _) 93 dX6_placeOf_65 (by decide) (fun hb65 => False.elim (hb65 rfl)) (fun hb65 => ?_)
  first | refine Es_aload_n (hC _) dX6_placeOf_68 rfl ?_ | refine Es_aload_nN (hC _) dX6_placeOf_68 rfl ?_
  refine Sg_X6_11 (hC _) fl_X6_32 dX6_placeOf_69 ?_
  refine Es_iload (hC _) dX6_placeOf_72 rfl ?_
  refine Es_ialdN (hC _) dX6_placeOf_74 rfl rfl rfl (by omega) (by decide) ?_
  rw [hon]
  refine Es_if_ge (hC _) 83 dX6_placeOf_75 (by decide) (fun hb75 => False.elim (absurd hb75 (by decide))) (fun hb75 => ?_)
  refine Es_bipush (v := -9) (hC _) dX6_placeOf_78 (by decide) ?_
  refine Es_goto (hC _) 95 dX6_placeOf_80 (by decide) ?_
  exact Es_iret dX6_placeOf_95 rfl ⟨rfl, rfl, rfl⟩

set_option maxRecDepth 100000 in
set_option maxHeartbeats 4000000 in
theorem r_placeOf_2t {ad : sA} {nw nt : Nat} {B : sB} {L : sL} (hnw : B 25 0 4 = nI nw) (h5 : nw ≤ 5) {w : Nat} (hw : w < nw) {p q : Nat} (hp : B 38 0 w = nI p) (h7 : p ≤ 7) (hq : q < p) {t : Nat} (ht : t < 7) (hon : B 41 0 (7 * w + q) = nI t) : Cf yX6_placeOf cX6_placeOf 5 (some FieldType.int) 5 [.ref (ad 25 0), .int (nI w), .int (nI q), .int (nI 2)] ad nw nt B L (some (.int (nI t))) (B) (L) := by
  have hC : ∀ Q, je_Ok (sCm yX6_placeOf cX6_placeOf 5 (some FieldType.int) 5 ad nw nt Q) RX6 cX6_placeOf 5 5 := fun _ => je_Cm_ok
  refine Cs_of [some (.ref (ad 25 0)), some (.int (nI w)), some (.int (nI q)), some (.int (nI 2)), none] (by decide) rfl (Nat.le_of_ble_eq_true rfl) ?_
  first | refine Es_aload_n (hC _) dX6_placeOf_0 rfl ?_ | refine Es_aload_nN (hC _) dX6_placeOf_0 rfl ?_
  refine Es_iload_n (hC _) dX6_placeOf_1 rfl ?_
  refine Es_iload_n (hC _) dX6_placeOf_2 rfl ?_
  refine Es_fV (hC _) mv_X6_121 dX6_placeOf_3 (r_isPlace_in hnw h5 hw hp h7 hq) rfl rfl ⟨_, rfl, rfl⟩ rfl rfl (by decide) (Nat.le_of_ble_eq_true rfl) ?_
  refine Es_if_ne (hC _) 12 dX6_placeOf_6 (by decide) (fun hb6 => ?_) (fun hb6 => False.elim ((by first | exact absurd hb6 (by decide) | exact absurd hb6 (by assumption) | exact hb6 (by assumption) | exact hb6 rfl | (simp_all [bI]; done))))
  refine Es_iload_n (hC _) dX6_placeOf_12 rfl ?_
  refine Es_iload_n (hC _) dX6_placeOf_13 rfl ?_
  refine Es_fS (hC _) ms_X6_97 dX6_placeOf_14 r_spot rfl rfl (by decide) (Nat.le_of_ble_eq_true rfl) ?_
  refine Es_istore (lv' := [_, _, _, _, _]) (hC _) dX6_placeOf_17 (by decide) rfl rfl ?_
  refine Es_iload_n (hC _) dX6_placeOf_19 rfl ?_
  refine Es_if_ne (hC _) 33 dX6_placeOf_20 (by decide) (fun hb20 => ?_) (fun hb20 => False.elim (absurd hb20 (by decide)))
  refine Es_iload_n (hC _) dX6_placeOf_33 rfl ?_
  refine Es_iconst (v := 1) (hC _) dX6_placeOf_34 (by decide) ?_
  refine Es_icmp_ne (hC _) 63 dX6_placeOf_35 (by decide) (fun hb35 => ?_) (fun hb35 => False.elim (absurd hb35 (by decide)))
  refine Es_iload_n (hC _) dX6_placeOf_63 rfl ?_
  refine Es_iconst (v := 2) (hC _) dX6_placeOf_64 (by decide) ?_
  refine Es_icmp_ne (hC _) 93 dX6_placeOf_65 (by decide) (fun hb65 => False.elim (hb65 rfl)) (fun hb65 => ?_)
  first | refine Es_aload_n (hC _) dX6_placeOf_68 rfl ?_ | refine Es_aload_nN (hC _) dX6_placeOf_68 rfl ?_
  refine Sg_X6_11 (hC _) fl_X6_32 dX6_placeOf_69 ?_
  refine Es_iload (hC _) dX6_placeOf_72 rfl ?_
  refine Es_ialdN (hC _) dX6_placeOf_74 rfl rfl rfl (by omega) (by decide) ?_
  rw [hon]
  refine Es_if_ge (hC _) 83 dX6_placeOf_75 (by decide) (fun hb75 => ?_) (fun hb75 => False.elim (hb75 (nI_pos' (by omega))))
  first | refine Es_aload_n (hC _) dX6_placeOf_83 rfl ?_ | refine Es_aload_nN (hC _) dX6_placeOf_83 rfl ?_
  refine Sg_X6_11 (hC _) fl_X6_32 dX6_placeOf_84 ?_
  refine Es_iload (hC _) dX6_placeOf_87 rfl ?_
  refine Es_ialdN (hC _) dX6_placeOf_89 rfl rfl rfl (by omega) (by decide) ?_
  rw [hon]
  refine Es_goto (hC _) 95 dX6_placeOf_90 (by decide) ?_
  exact Es_iret dX6_placeOf_95 rfl ⟨rfl, rfl, rfl⟩

theorem s_placeOf {ad : sA} {nw nt : Nat} {B : sB} {L : sL} (hR : Rel nw nt B L) (y z v : Int32) : Stq yX5_placeOf cX5_placeOf 5 5 yX6_placeOf cX6_placeOf 5 5 (some .int) [.int y, .int z, .int v] ad nw nt B L := by
  obtain ⟨s1, s2, s3, s4, s5, s6, s7, s8, s9, s10⟩ := hR.1
  rcases in_out y (n := nw) (by omega) with ⟨w, hw, rfl⟩ | how
  · obtain ⟨p, h7, w1, w2, w3, w4, w5⟩ := hR.2.2.1.1 w hw
    rcases in_out z (n := p) (by omega) with ⟨q, hq, rfl⟩ | hoz
    · obtain ⟨q1, q2, q3, q4, q5⟩ := w4 q hq
      rcases in_out v (n := 3) (by omega) with ⟨k, hk, rfl⟩ | hov
      · rcases (show k = 0 ∨ k = 1 ∨ k = 2 by omega) with rfl | rfl | rfl
        · exact ⟨_, _, _, _, _, c_placeOf_0 s2 s3 hw w2 h7 hq, (by rw [q1]; exact r_placeOf_0 s1 s3 hw w3 h7 hq), hR⟩
        · rcases q4 with hon | ⟨t, ht, hon, -⟩
          · exact ⟨_, _, _, _, _, c_placeOf_1n s2 s3 hw w2 h7 hq hon, r_placeOf_1n s1 s3 hw w3 h7 hq (q3.symm.trans hon), hR⟩
          · exact ⟨_, _, _, _, _, c_placeOf_1t s2 s3 hw w2 h7 hq ht s6 hon (hR.2.2.2.1.1 t ht).1, r_placeOf_1t s1 s3 hw w3 h7 hq ht s6 (q3.symm.trans hon), hR⟩
        · rcases q5 with ⟨p2, e1, e2⟩ | ⟨e1, e2⟩
          · refine ⟨_, _, _, _, _, c_placeOf_2 s2 s3 hw w2 h7 hq, ?_, hR⟩
            rw [prV_some e1]
            exact r_placeOf_2t s1 s3 hw w3 h7 hq (by have := e1.2.1; omega) e2
          · refine ⟨_, _, _, _, _, c_placeOf_2 s2 s3 hw w2 h7 hq, ?_, hR⟩
            rw [prV_none e2]
            exact r_placeOf_2n s1 s3 hw w3 h7 hq e1
      · exact ⟨_, _, _, _, _, c_placeOf_o s2 s3 hw w2 h7 hq hov, r_placeOf_o s1 s3 hw w3 h7 hq hov, hR⟩
    · exact ⟨_, _, _, _, _, c_placeOf_1b s2 s3 hw w2 h7 hoz, r_placeOf_1b s1 s3 hw w3 h7 hoz, hR⟩
  · exact ⟨_, _, _, _, _, c_placeOf_1a s2 s3 how, r_placeOf_1a s1 s3 how, hR⟩
set_option maxRecDepth 100000 in
set_option maxHeartbeats 4000000 in
theorem c_place_1a {ad : sA} {nw nt : Nat} {B : sB} {L : sL} (hnw : B 0 0 8 = nI nw) (h5 : nw ≤ 5) {y : Int32} (how : out y nw) {x : Int32} : Cf yX5_place cX5_place 4 (some FieldType.int) 5 [.ref (ad 0 0), .int y, .int x] ad nw nt B L (some (.int (-1))) (uB B 5 0 1 (B 5 0 1 + 1)) (L) := by
  have hC : ∀ Q, je_Ok (sCm yX5_place cX5_place 4 (some FieldType.int) 5 ad nw nt Q) RX5 cX5_place 4 5 := fun _ => je_Cm_ok
  refine Cs_of [some (.ref (ad 0 0)), some (.int y), some (.int x), none] (by decide) rfl (Nat.le_of_ble_eq_true rfl) ?_
  first | refine Es_aload_n (hC _) dX5_place_0 rfl ?_ | refine Es_aload_nN (hC _) dX5_place_0 rfl ?_
  refine Es_iload_n (hC _) dX5_place_1 rfl ?_
  refine Es_fV (hC _) mv_X5_77 dX5_place_2 (c_wagonAt_out hnw how) rfl rfl ⟨_, rfl, rfl⟩ rfl rfl (by decide) (Nat.le_of_ble_eq_true rfl) ?_
  first | refine Es_astore_n (lv' := [_, _, _, _]) (hC _) dX5_place_5 (by decide) rfl rfl ?_ | refine Es_astore_nN (lv' := [_, _, _, _]) (hC _) dX5_place_5 (by decide) rfl rfl ?_
  first | refine Es_aload_n (hC _) dX5_place_6 rfl ?_ | refine Es_aload_nN (hC _) dX5_place_6 rfl ?_
  refine Es_ifnullN (hC _) 17 dX5_place_7 (by decide) ?_
  first | refine Es_aload_n (hC _) dX5_place_17 rfl ?_ | refine Es_aload_nN (hC _) dX5_place_17 rfl ?_
  refine Es_iconst (v := -1) (hC _) dX5_place_18 (by decide) ?_
  refine Es_fV (hC _) mv_X5_70 dX5_place_19 (c_refuse (k := 1) (by decide) (by decide)) rfl rfl ⟨_, rfl, rfl⟩ rfl rfl (by decide) (Nat.le_of_ble_eq_true rfl) ?_
  exact Es_iret dX5_place_22 rfl ⟨rfl, rfl, rfl⟩

set_option maxRecDepth 100000 in
set_option maxHeartbeats 4000000 in
theorem c_place_1b {ad : sA} {nw nt : Nat} {B : sB} {L : sL} (hnw : B 0 0 8 = nI nw) (h5 : nw ≤ 5) {w : Nat} (hw : w < nw) {x : Int32} (hok : out x 5)  : Cf yX5_place cX5_place 4 (some FieldType.int) 5 [.ref (ad 0 0), .int (nI w), .int x] ad nw nt B L (some (.int (-1))) (uB B 5 0 1 (B 5 0 1 + 1)) (L) := by
  have hC : ∀ Q, je_Ok (sCm yX5_place cX5_place 4 (some FieldType.int) 5 ad nw nt Q) RX5 cX5_place 4 5 := fun _ => je_Cm_ok
  refine Cs_of [some (.ref (ad 0 0)), some (.int (nI w)), some (.int x), none] (by decide) rfl (Nat.le_of_ble_eq_true rfl) ?_
  first | refine Es_aload_n (hC _) dX5_place_0 rfl ?_ | refine Es_aload_nN (hC _) dX5_place_0 rfl ?_
  refine Es_iload_n (hC _) dX5_place_1 rfl ?_
  refine Es_fV (hC _) mv_X5_77 dX5_place_2 (c_wagonAt_in hnw h5 hw) rfl rfl ⟨_, rfl, rfl⟩ rfl rfl (by decide) (Nat.le_of_ble_eq_true rfl) ?_
  first | refine Es_astore_n (lv' := [_, _, _, _]) (hC _) dX5_place_5 (by decide) rfl rfl ?_ | refine Es_astore_nN (lv' := [_, _, _, _]) (hC _) dX5_place_5 (by decide) rfl rfl ?_
  first | refine Es_aload_n (hC _) dX5_place_6 rfl ?_ | refine Es_aload_nN (hC _) dX5_place_6 rfl ?_
  refine Es_ifnull (hC _) dX5_place_7 ?_
  refine Es_iload_n (hC _) dX5_place_10 rfl ?_
  refine Es_fS (hC _) ms_X5_81 dX5_place_11 (c_isKind_out hok) rfl rfl (by decide) (Nat.le_of_ble_eq_true rfl) ?_
  refine Es_if_ne (hC _) 23 dX5_place_14 (by decide) (fun hb14 => False.elim ((by first | exact absurd hb14 (by decide) | exact absurd hb14 (by assumption) | exact hb14 (by assumption) | exact hb14 rfl | (simp_all [bI]; done)))) (fun hb14 => ?_)
  first | refine Es_aload_n (hC _) dX5_place_17 rfl ?_ | refine Es_aload_nN (hC _) dX5_place_17 rfl ?_
  refine Es_iconst (v := -1) (hC _) dX5_place_18 (by decide) ?_
  refine Es_fV (hC _) mv_X5_70 dX5_place_19 (c_refuse (k := 1) (by decide) (by decide)) rfl rfl ⟨_, rfl, rfl⟩ rfl rfl (by decide) (Nat.le_of_ble_eq_true rfl) ?_
  exact Es_iret dX5_place_22 rfl ⟨rfl, rfl, rfl⟩

set_option maxRecDepth 100000 in
set_option maxHeartbeats 4000000 in
theorem c_place_2 {ad : sA} {nw nt : Nat} {B : sB} {L : sL} (hnw : B 0 0 8 = nI nw) (h5 : nw ≤ 5) {w : Nat} (hw : w < nw) {k : Nat} (hk : k < 5) (hp : B 18 w 3 = nI 7) : Cf yX5_place cX5_place 4 (some FieldType.int) 5 [.ref (ad 0 0), .int (nI w), .int (nI k)] ad nw nt B L (some (.int (-6))) (uB B 5 0 6 (B 5 0 6 + 1)) (L) := by
  have hC : ∀ Q, je_Ok (sCm yX5_place cX5_place 4 (some FieldType.int) 5 ad nw nt Q) RX5 cX5_place 4 5 := fun _ => je_Cm_ok
  refine Cs_of [some (.ref (ad 0 0)), some (.int (nI w)), some (.int (nI k)), none] (by decide) rfl (Nat.le_of_ble_eq_true rfl) ?_
  first | refine Es_aload_n (hC _) dX5_place_0 rfl ?_ | refine Es_aload_nN (hC _) dX5_place_0 rfl ?_
  refine Es_iload_n (hC _) dX5_place_1 rfl ?_
  refine Es_fV (hC _) mv_X5_77 dX5_place_2 (c_wagonAt_in hnw h5 hw) rfl rfl ⟨_, rfl, rfl⟩ rfl rfl (by decide) (Nat.le_of_ble_eq_true rfl) ?_
  first | refine Es_astore_n (lv' := [_, _, _, _]) (hC _) dX5_place_5 (by decide) rfl rfl ?_ | refine Es_astore_nN (lv' := [_, _, _, _]) (hC _) dX5_place_5 (by decide) rfl rfl ?_
  first | refine Es_aload_n (hC _) dX5_place_6 rfl ?_ | refine Es_aload_nN (hC _) dX5_place_6 rfl ?_
  refine Es_ifnull (hC _) dX5_place_7 ?_
  refine Es_iload_n (hC _) dX5_place_10 rfl ?_
  refine Es_fS (hC _) ms_X5_81 dX5_place_11 (c_isKind_in hk) rfl rfl (by decide) (Nat.le_of_ble_eq_true rfl) ?_
  refine Es_if_ne (hC _) 23 dX5_place_14 (by decide) (fun hb14 => ?_) (fun hb14 => False.elim ((by first | exact absurd hb14 (by decide) | exact absurd hb14 (by assumption) | exact hb14 (by assumption) | exact hb14 rfl | (simp_all [bI]; done))))
  first | refine Es_aload_n (hC _) dX5_place_23 rfl ?_ | refine Es_aload_nN (hC _) dX5_place_23 rfl ?_
  refine Es_fV (hC _) mv_X5_85 dX5_place_24 (c_isFull hw hp (by decide)) (ok18 hw) rfl ⟨_, rfl, rfl⟩ rfl rfl (by decide) (Nat.le_of_ble_eq_true rfl) ?_
  refine Es_if_eq (hC _) 37 dX5_place_27 (by decide) (fun hb27 => False.elim (absurd hb27 (by decide))) (fun hb27 => ?_)
  first | refine Es_aload_n (hC _) dX5_place_30 rfl ?_ | refine Es_aload_nN (hC _) dX5_place_30 rfl ?_
  refine Es_bipush (v := -6) (hC _) dX5_place_31 (by decide) ?_
  refine Es_fV (hC _) mv_X5_70 dX5_place_33 (c_refuse (k := 6) (by decide) (by decide)) rfl rfl ⟨_, rfl, rfl⟩ rfl rfl (by decide) (Nat.le_of_ble_eq_true rfl) ?_
  exact Es_iret dX5_place_36 rfl ⟨rfl, rfl, rfl⟩

set_option maxRecDepth 100000 in
set_option maxHeartbeats 4000000 in
theorem c_place_3 {ad : sA} {nw nt : Nat} {B : sB} {L : sL} (hnw : B 0 0 8 = nI nw) (h5 : nw ≤ 5) {w : Nat} (hw : w < nw) {k : Nat} (hk : k < 5) {p : Nat} (hp : B 18 w 3 = nI p) (h7 : p < 7) : Cf yX5_place cX5_place 4 (some FieldType.int) 5 [.ref (ad 0 0), .int (nI w), .int (nI k)] ad nw nt B L (some (.int (nI p))) (uB (uB B 19 w p (nI k)) 18 w 3 (nI (p + 1))) (L) := by
  have hC : ∀ Q, je_Ok (sCm yX5_place cX5_place 4 (some FieldType.int) 5 ad nw nt Q) RX5 cX5_place 4 5 := fun _ => je_Cm_ok
  refine Cs_of [some (.ref (ad 0 0)), some (.int (nI w)), some (.int (nI k)), none] (by decide) rfl (Nat.le_of_ble_eq_true rfl) ?_
  first | refine Es_aload_n (hC _) dX5_place_0 rfl ?_ | refine Es_aload_nN (hC _) dX5_place_0 rfl ?_
  refine Es_iload_n (hC _) dX5_place_1 rfl ?_
  refine Es_fV (hC _) mv_X5_77 dX5_place_2 (c_wagonAt_in hnw h5 hw) rfl rfl ⟨_, rfl, rfl⟩ rfl rfl (by decide) (Nat.le_of_ble_eq_true rfl) ?_
  first | refine Es_astore_n (lv' := [_, _, _, _]) (hC _) dX5_place_5 (by decide) rfl rfl ?_ | refine Es_astore_nN (lv' := [_, _, _, _]) (hC _) dX5_place_5 (by decide) rfl rfl ?_
  first | refine Es_aload_n (hC _) dX5_place_6 rfl ?_ | refine Es_aload_nN (hC _) dX5_place_6 rfl ?_
  refine Es_ifnull (hC _) dX5_place_7 ?_
  refine Es_iload_n (hC _) dX5_place_10 rfl ?_
  refine Es_fS (hC _) ms_X5_81 dX5_place_11 (c_isKind_in hk) rfl rfl (by decide) (Nat.le_of_ble_eq_true rfl) ?_
  refine Es_if_ne (hC _) 23 dX5_place_14 (by decide) (fun hb14 => ?_) (fun hb14 => False.elim ((by first | exact absurd hb14 (by decide) | exact absurd hb14 (by assumption) | exact hb14 (by assumption) | exact hb14 rfl | (simp_all [bI]; done))))
  first | refine Es_aload_n (hC _) dX5_place_23 rfl ?_ | refine Es_aload_nN (hC _) dX5_place_23 rfl ?_
  refine Es_fV (hC _) mv_X5_85 dX5_place_24 (c_isFull hw hp (by omega)) (ok18 hw) rfl ⟨_, rfl, rfl⟩ rfl rfl (by decide) (Nat.le_of_ble_eq_true rfl) ?_
  refine Es_if_eq (hC _) 37 dX5_place_27 (by decide) (fun hb27 => ?_) (fun hb27 => False.elim (hb27 (by rw [bI, if_neg (by omega)])))
  first | refine Es_aload_n (hC _) dX5_place_37 rfl ?_ | refine Es_aload_nN (hC _) dX5_place_37 rfl ?_
  refine Es_iload_n (hC _) dX5_place_38 rfl ?_
  refine Es_fV (hC _) mv_X5_89 dX5_place_39 (c_addPlace hw hp h7) (ok18 hw) rfl ⟨_, rfl, rfl⟩ rfl rfl (by decide) (Nat.le_of_ble_eq_true rfl) ?_
  exact Es_iret dX5_place_42 rfl ⟨rfl, rfl, rfl⟩

set_option maxRecDepth 100000 in
set_option maxHeartbeats 4000000 in
theorem r_place_1a {ad : sA} {nw nt : Nat} {B : sB} {L : sL} (hnw : B 25 0 4 = nI nw) (h5 : nw ≤ 5) {y : Int32} (how : out y nw) {x : Int32} : Cf yX6_place cX6_place 6 (some FieldType.int) 5 [.ref (ad 25 0), .int y, .int x] ad nw nt B L (some (.int (-1))) (uB B 30 0 1 (B 30 0 1 + 1)) (L) := by
  have hC : ∀ Q, je_Ok (sCm yX6_place cX6_place 6 (some FieldType.int) 5 ad nw nt Q) RX6 cX6_place 6 5 := fun _ => je_Cm_ok
  refine Cs_of [some (.ref (ad 25 0)), some (.int y), some (.int x), none, none, none] (by decide) rfl (Nat.le_of_ble_eq_true rfl) ?_
  refine Es_iload_n (hC _) dX6_place_0 rfl ?_
  first | refine Es_aload_n (hC _) dX6_place_1 rfl ?_ | refine Es_aload_nN (hC _) dX6_place_1 rfl ?_
  refine Sg_X6_4 (hC _) fl_X6_86 dX6_place_2 ?_
  rw [hnw]
  refine Es_fS (hC _) ms_X6_89 dX6_place_5 (r_isIn_out how) rfl rfl (by decide) (Nat.le_of_ble_eq_true rfl) ?_
  refine Es_if_eq (hC _) 19 dX6_place_8 (by decide) (fun hb8 => ?_) (fun hb8 => False.elim ((by first | exact absurd hb8 (by decide) | exact absurd hb8 (by assumption) | exact hb8 (by assumption) | exact hb8 rfl | (simp_all [bI]; done))))
  first | refine Es_aload_n (hC _) dX6_place_19 rfl ?_ | refine Es_aload_nN (hC _) dX6_place_19 rfl ?_
  refine Es_iconst (v := -1) (hC _) dX6_place_20 (by decide) ?_
  refine Es_fV (hC _) mv_X6_93 dX6_place_21 (r_refuse (k := 1) (by decide) (by decide)) rfl rfl ⟨_, rfl, rfl⟩ rfl rfl (by decide) (Nat.le_of_ble_eq_true rfl) ?_
  exact Es_iret dX6_place_24 rfl ⟨rfl, rfl, rfl⟩

set_option maxRecDepth 100000 in
set_option maxHeartbeats 4000000 in
theorem r_place_1b {ad : sA} {nw nt : Nat} {B : sB} {L : sL} (hnw : B 25 0 4 = nI nw) (h5 : nw ≤ 5) {w : Nat} (hw : w < nw) {x : Int32} (hok : out x 5)  : Cf yX6_place cX6_place 6 (some FieldType.int) 5 [.ref (ad 25 0), .int (nI w), .int x] ad nw nt B L (some (.int (-1))) (uB B 30 0 1 (B 30 0 1 + 1)) (L) := by
  have hC : ∀ Q, je_Ok (sCm yX6_place cX6_place 6 (some FieldType.int) 5 ad nw nt Q) RX6 cX6_place 6 5 := fun _ => je_Cm_ok
  refine Cs_of [some (.ref (ad 25 0)), some (.int (nI w)), some (.int x), none, none, none] (by decide) rfl (Nat.le_of_ble_eq_true rfl) ?_
  refine Es_iload_n (hC _) dX6_place_0 rfl ?_
  first | refine Es_aload_n (hC _) dX6_place_1 rfl ?_ | refine Es_aload_nN (hC _) dX6_place_1 rfl ?_
  refine Sg_X6_4 (hC _) fl_X6_86 dX6_place_2 ?_
  rw [hnw]
  refine Es_fS (hC _) ms_X6_89 dX6_place_5 (r_isIn_in hw (by omega)) rfl rfl (by decide) (Nat.le_of_ble_eq_true rfl) ?_
  refine Es_if_eq (hC _) 19 dX6_place_8 (by decide) (fun hb8 => False.elim ((by first | exact absurd hb8 (by decide) | exact absurd hb8 (by assumption) | exact hb8 (by assumption) | exact hb8 rfl | (simp_all [bI]; done)))) (fun hb8 => ?_)
  refine Es_iload_n (hC _) dX6_place_11 rfl ?_
  refine Es_iconst (v := 5) (hC _) dX6_place_12 (by decide) ?_
  refine Es_fS (hC _) ms_X6_89 dX6_place_13 (r_isIn_out (n := 5) hok) rfl rfl (by decide) (Nat.le_of_ble_eq_true rfl) ?_
  refine Es_if_ne (hC _) 25 dX6_place_16 (by decide) (fun hb16 => False.elim ((by first | exact absurd hb16 (by decide) | exact absurd hb16 (by assumption) | exact hb16 (by assumption) | exact hb16 rfl | (simp_all [bI]; done)))) (fun hb16 => ?_)
  first | refine Es_aload_n (hC _) dX6_place_19 rfl ?_ | refine Es_aload_nN (hC _) dX6_place_19 rfl ?_
  refine Es_iconst (v := -1) (hC _) dX6_place_20 (by decide) ?_
  refine Es_fV (hC _) mv_X6_93 dX6_place_21 (r_refuse (k := 1) (by decide) (by decide)) rfl rfl ⟨_, rfl, rfl⟩ rfl rfl (by decide) (Nat.le_of_ble_eq_true rfl) ?_
  exact Es_iret dX6_place_24 rfl ⟨rfl, rfl, rfl⟩

set_option maxRecDepth 100000 in
set_option maxHeartbeats 4000000 in
theorem r_place_2 {ad : sA} {nw nt : Nat} {B : sB} {L : sL} (hnw : B 25 0 4 = nI nw) (h5 : nw ≤ 5) {w : Nat} (hw : w < nw) {k : Nat} (hk : k < 5) (hp : B 38 0 w = nI 7) : Cf yX6_place cX6_place 6 (some FieldType.int) 5 [.ref (ad 25 0), .int (nI w), .int (nI k)] ad nw nt B L (some (.int (-6))) (uB B 30 0 6 (B 30 0 6 + 1)) (L) := by
  have hC : ∀ Q, je_Ok (sCm yX6_place cX6_place 6 (some FieldType.int) 5 ad nw nt Q) RX6 cX6_place 6 5 := fun _ => je_Cm_ok
  refine Cs_of [some (.ref (ad 25 0)), some (.int (nI w)), some (.int (nI k)), none, none, none] (by decide) rfl (Nat.le_of_ble_eq_true rfl) ?_
  refine Es_iload_n (hC _) dX6_place_0 rfl ?_
  first | refine Es_aload_n (hC _) dX6_place_1 rfl ?_ | refine Es_aload_nN (hC _) dX6_place_1 rfl ?_
  refine Sg_X6_4 (hC _) fl_X6_86 dX6_place_2 ?_
  rw [hnw]
  refine Es_fS (hC _) ms_X6_89 dX6_place_5 (r_isIn_in hw (by omega)) rfl rfl (by decide) (Nat.le_of_ble_eq_true rfl) ?_
  refine Es_if_eq (hC _) 19 dX6_place_8 (by decide) (fun hb8 => False.elim ((by first | exact absurd hb8 (by decide) | exact absurd hb8 (by assumption) | exact hb8 (by assumption) | exact hb8 rfl | (simp_all [bI]; done)))) (fun hb8 => ?_)
  refine Es_iload_n (hC _) dX6_place_11 rfl ?_
  refine Es_iconst (v := 5) (hC _) dX6_place_12 (by decide) ?_
  refine Es_fS (hC _) ms_X6_89 dX6_place_13 (r_isIn_in (n := 5) hk (by decide)) rfl rfl (by decide) (Nat.le_of_ble_eq_true rfl) ?_
  refine Es_if_ne (hC _) 25 dX6_place_16 (by decide) (fun hb16 => ?_) (fun hb16 => False.elim ((by first | exact absurd hb16 (by decide) | exact absurd hb16 (by assumption) | exact hb16 (by assumption) | exact hb16 rfl | (simp_all [bI]; done))))
  first | refine Es_aload_n (hC _) dX6_place_25 rfl ?_ | refine Es_aload_nN (hC _) dX6_place_25 rfl ?_
  refine Sg_X6_8 (hC _) fl_X6_23 dX6_place_26 ?_
  refine Es_iload_n (hC _) dX6_place_29 rfl ?_
  refine Es_ialdN (hC _) dX6_place_30 rfl rfl rfl (by omega) (by decide) ?_
  refine Es_bipush (v := 7) (hC _) dX6_place_31 (by decide) ?_
  refine Es_icmp_ne (hC _) 43 dX6_place_33 (by decide) (fun hb33 => False.elim (hb33 (by rw [hp]; rfl))) (fun hb33 => ?_)
  first | refine Es_aload_n (hC _) dX6_place_36 rfl ?_ | refine Es_aload_nN (hC _) dX6_place_36 rfl ?_
  refine Es_bipush (v := -6) (hC _) dX6_place_37 (by decide) ?_
  refine Es_fV (hC _) mv_X6_93 dX6_place_39 (r_refuse (k := 6) (by decide) (by decide)) rfl rfl ⟨_, rfl, rfl⟩ rfl rfl (by decide) (Nat.le_of_ble_eq_true rfl) ?_
  exact Es_iret dX6_place_42 rfl ⟨rfl, rfl, rfl⟩

def rP0 (B : sB) (w p k : Nat) : sB := uB (uB (uB B 39 0 (7 * w + p) (nI k)) 40 0 (7 * w + p) (-1)) 41 0 (7 * w + p) (-1)
set_option maxRecDepth 100000 in
set_option maxHeartbeats 4000000 in
theorem r_place_n0 {ad : sA} {nw nt : Nat} {B : sB} {L : sL} (hnw : B 25 0 4 = nI nw) (h5 : nw ≤ 5) {w : Nat} (hw : w < nw) {k : Nat} (hk : k < 5) {p : Nat} (hp : B 38 0 w = nI p) (h7 : p < 7) (h0 : p = 0) : Cf yX6_place cX6_place 6 (some FieldType.int) 5 [.ref (ad 25 0), .int (nI w), .int (nI k)] ad nw nt B L (some (.int (nI p))) (uB (rP0 B w p k) 38 0 w (nI (p + 1))) (L) := by
  have hC : ∀ Q, je_Ok (sCm yX6_place cX6_place 6 (some FieldType.int) 5 ad nw nt Q) RX6 cX6_place 6 5 := fun _ => je_Cm_ok
  refine Cs_of [some (.ref (ad 25 0)), some (.int (nI w)), some (.int (nI k)), none, none, none] (by decide) rfl (Nat.le_of_ble_eq_true rfl) ?_
  refine Es_iload_n (hC _) dX6_place_0 rfl ?_
  first | refine Es_aload_n (hC _) dX6_place_1 rfl ?_ | refine Es_aload_nN (hC _) dX6_place_1 rfl ?_
  refine Sg_X6_4 (hC _) fl_X6_86 dX6_place_2 ?_
  rw [hnw]
  refine Es_fS (hC _) ms_X6_89 dX6_place_5 (r_isIn_in hw (by omega)) rfl rfl (by decide) (Nat.le_of_ble_eq_true rfl) ?_
  refine Es_if_eq (hC _) 19 dX6_place_8 (by decide) (fun hb8 => False.elim ((by first | exact absurd hb8 (by decide) | exact absurd hb8 (by assumption) | exact hb8 (by assumption) | exact hb8 rfl | (simp_all [bI]; done)))) (fun hb8 => ?_)
  refine Es_iload_n (hC _) dX6_place_11 rfl ?_
  refine Es_iconst (v := 5) (hC _) dX6_place_12 (by decide) ?_
  refine Es_fS (hC _) ms_X6_89 dX6_place_13 (r_isIn_in (n := 5) hk (by decide)) rfl rfl (by decide) (Nat.le_of_ble_eq_true rfl) ?_
  refine Es_if_ne (hC _) 25 dX6_place_16 (by decide) (fun hb16 => ?_) (fun hb16 => False.elim ((by first | exact absurd hb16 (by decide) | exact absurd hb16 (by assumption) | exact hb16 (by assumption) | exact hb16 rfl | (simp_all [bI]; done))))
  first | refine Es_aload_n (hC _) dX6_place_25 rfl ?_ | refine Es_aload_nN (hC _) dX6_place_25 rfl ?_
  refine Sg_X6_8 (hC _) fl_X6_23 dX6_place_26 ?_
  refine Es_iload_n (hC _) dX6_place_29 rfl ?_
  refine Es_ialdN (hC _) dX6_place_30 rfl rfl rfl (by omega) (by decide) ?_
  refine Es_bipush (v := 7) (hC _) dX6_place_31 (by decide) ?_
  refine Es_icmp_ne (hC _) 43 dX6_place_33 (by decide) (fun hb33 => ?_) (fun hb33 => False.elim (absurd ((nI_eq (a := p) (b := 7) (by omega) (by decide)).mp (hp.symm.trans hb33)) (by omega)))
  first | refine Es_aload_n (hC _) dX6_place_43 rfl ?_ | refine Es_aload_nN (hC _) dX6_place_43 rfl ?_
  refine Sg_X6_8 (hC _) fl_X6_23 dX6_place_44 ?_
  refine Es_iload_n (hC _) dX6_place_47 rfl ?_
  refine Es_ialdN (hC _) dX6_place_48 rfl rfl rfl (by omega) (by decide) ?_
  rw [hp]
  refine Es_istore_n (lv' := [_, _, _, _, _, _]) (hC _) dX6_place_49 (by decide) rfl rfl ?_
  refine Es_iload_n (hC _) dX6_place_50 rfl ?_
  refine Es_iload_n (hC _) dX6_place_51 rfl ?_
  refine Es_fS (hC _) ms_X6_97 dX6_place_52 r_spot rfl rfl (by decide) (Nat.le_of_ble_eq_true rfl) ?_
  refine Es_istore (lv' := [_, _, _, _, _, _]) (hC _) dX6_place_55 (by decide) rfl rfl ?_
  first | refine Es_aload_n (hC _) dX6_place_57 rfl ?_ | refine Es_aload_nN (hC _) dX6_place_57 rfl ?_
  refine Sg_X6_9 (hC _) fl_X6_26 dX6_place_58 ?_
  refine Es_iload (hC _) dX6_place_61 rfl ?_
  refine Es_iload_n (hC _) dX6_place_63 rfl ?_
  refine Es_iastN (hC _) dX6_place_64 rfl (fun _ => rfl) rfl (by omega) (by decide) ?_
  first | refine Es_aload_n (hC _) dX6_place_65 rfl ?_ | refine Es_aload_nN (hC _) dX6_place_65 rfl ?_
  refine Sg_X6_10 (hC _) fl_X6_29 dX6_place_66 ?_
  refine Es_iload (hC _) dX6_place_69 rfl ?_
  refine Es_iconst (v := -1) (hC _) dX6_place_71 (by decide) ?_
  refine Es_iastN (hC _) dX6_place_72 rfl (fun _ => rfl) rfl (by omega) (by decide) ?_
  first | refine Es_aload_n (hC _) dX6_place_73 rfl ?_ | refine Es_aload_nN (hC _) dX6_place_73 rfl ?_
  refine Sg_X6_11 (hC _) fl_X6_32 dX6_place_74 ?_
  refine Es_iload (hC _) dX6_place_77 rfl ?_
  refine Es_iconst (v := -1) (hC _) dX6_place_79 (by decide) ?_
  refine Es_iastN (hC _) dX6_place_80 rfl (fun _ => rfl) rfl (by omega) (by decide) ?_
  refine Es_iload_n (hC _) dX6_place_81 rfl ?_
  refine Es_iconst (v := 1) (hC _) dX6_place_82 (by decide) ?_
  refine Es_isub (hC _) dX6_place_83 ?_
  refine Es_istore (lv' := [_, _, _, _, _, _]) (hC _) dX6_place_84 (by decide) rfl rfl ?_
  refine Es_iload (hC _) dX6_place_86 rfl ?_
  refine Es_if_lt (hC _) 165 dX6_place_88 (by decide) (fun hb88 => ?_) (fun hb88 => False.elim (hb88 (by rw [h0]; decide)))
  first | refine Es_aload_n (hC _) dX6_place_165 rfl ?_ | refine Es_aload_nN (hC _) dX6_place_165 rfl ?_
  refine Sg_X6_8 (hC _) fl_X6_23 dX6_place_166 ?_
  refine Es_iload_n (hC _) dX6_place_169 rfl ?_
  refine Es_dup2 (hC _) dX6_place_170 rfl rfl ?_
  refine Es_ialdN (hC _) dX6_place_171 rfl rfl rfl (by omega) (by decide) ?_
  rw [show (uB (uB (uB B 39 0 (7 * w + p) (nI k)) 40 0 (7 * w + p) (-1)) 41 0 (7 * w + p) (-1) : sB) 38 0 w = nI p by simp [uB, rP0, hp]]
  refine Es_iconst (v := 1) (hC _) dX6_place_172 (by decide) ?_
  refine Es_iadd (hC _) dX6_place_173 ?_
  rw [nI_1]
  refine Es_iastN (hC _) dX6_place_174 rfl (fun _ => rfl) rfl (by omega) (by decide) ?_
  refine Es_iload_n (hC _) dX6_place_175 rfl ?_
  exact Es_iret dX6_place_176 rfl ⟨rfl, rfl, rfl⟩

set_option maxRecDepth 100000 in
set_option maxHeartbeats 4000000 in
theorem r_place_n1 {ad : sA} {nw nt : Nat} {B : sB} {L : sL} (hnw : B 25 0 4 = nI nw) (h5 : nw ≤ 5) {w : Nat} (hw : w < nw) {k : Nat} (hk : k < 5) {p : Nat} (hp : B 38 0 w = nI p) (h7 : p < 7) (h0 : 0 < p) (hk2 : k ≠ 2) : Cf yX6_place cX6_place 6 (some FieldType.int) 5 [.ref (ad 25 0), .int (nI w), .int (nI k)] ad nw nt B L (some (.int (nI p))) (uB (rP0 B w p k) 38 0 w (nI (p + 1))) (L) := by
  have hC : ∀ Q, je_Ok (sCm yX6_place cX6_place 6 (some FieldType.int) 5 ad nw nt Q) RX6 cX6_place 6 5 := fun _ => je_Cm_ok
  refine Cs_of [some (.ref (ad 25 0)), some (.int (nI w)), some (.int (nI k)), none, none, none] (by decide) rfl (Nat.le_of_ble_eq_true rfl) ?_
  refine Es_iload_n (hC _) dX6_place_0 rfl ?_
  first | refine Es_aload_n (hC _) dX6_place_1 rfl ?_ | refine Es_aload_nN (hC _) dX6_place_1 rfl ?_
  refine Sg_X6_4 (hC _) fl_X6_86 dX6_place_2 ?_
  rw [hnw]
  refine Es_fS (hC _) ms_X6_89 dX6_place_5 (r_isIn_in hw (by omega)) rfl rfl (by decide) (Nat.le_of_ble_eq_true rfl) ?_
  refine Es_if_eq (hC _) 19 dX6_place_8 (by decide) (fun hb8 => False.elim ((by first | exact absurd hb8 (by decide) | exact absurd hb8 (by assumption) | exact hb8 (by assumption) | exact hb8 rfl | (simp_all [bI]; done)))) (fun hb8 => ?_)
  refine Es_iload_n (hC _) dX6_place_11 rfl ?_
  refine Es_iconst (v := 5) (hC _) dX6_place_12 (by decide) ?_
  refine Es_fS (hC _) ms_X6_89 dX6_place_13 (r_isIn_in (n := 5) hk (by decide)) rfl rfl (by decide) (Nat.le_of_ble_eq_true rfl) ?_
  refine Es_if_ne (hC _) 25 dX6_place_16 (by decide) (fun hb16 => ?_) (fun hb16 => False.elim ((by first | exact absurd hb16 (by decide) | exact absurd hb16 (by assumption) | exact hb16 (by assumption) | exact hb16 rfl | (simp_all [bI]; done))))
  first | refine Es_aload_n (hC _) dX6_place_25 rfl ?_ | refine Es_aload_nN (hC _) dX6_place_25 rfl ?_
  refine Sg_X6_8 (hC _) fl_X6_23 dX6_place_26 ?_
  refine Es_iload_n (hC _) dX6_place_29 rfl ?_
  refine Es_ialdN (hC _) dX6_place_30 rfl rfl rfl (by omega) (by decide) ?_
  refine Es_bipush (v := 7) (hC _) dX6_place_31 (by decide) ?_
  refine Es_icmp_ne (hC _) 43 dX6_place_33 (by decide) (fun hb33 => ?_) (fun hb33 => False.elim (absurd ((nI_eq (a := p) (b := 7) (by omega) (by decide)).mp (hp.symm.trans hb33)) (by omega)))
  first | refine Es_aload_n (hC _) dX6_place_43 rfl ?_ | refine Es_aload_nN (hC _) dX6_place_43 rfl ?_
  refine Sg_X6_8 (hC _) fl_X6_23 dX6_place_44 ?_
  refine Es_iload_n (hC _) dX6_place_47 rfl ?_
  refine Es_ialdN (hC _) dX6_place_48 rfl rfl rfl (by omega) (by decide) ?_
  rw [hp]
  refine Es_istore_n (lv' := [_, _, _, _, _, _]) (hC _) dX6_place_49 (by decide) rfl rfl ?_
  refine Es_iload_n (hC _) dX6_place_50 rfl ?_
  refine Es_iload_n (hC _) dX6_place_51 rfl ?_
  refine Es_fS (hC _) ms_X6_97 dX6_place_52 r_spot rfl rfl (by decide) (Nat.le_of_ble_eq_true rfl) ?_
  refine Es_istore (lv' := [_, _, _, _, _, _]) (hC _) dX6_place_55 (by decide) rfl rfl ?_
  first | refine Es_aload_n (hC _) dX6_place_57 rfl ?_ | refine Es_aload_nN (hC _) dX6_place_57 rfl ?_
  refine Sg_X6_9 (hC _) fl_X6_26 dX6_place_58 ?_
  refine Es_iload (hC _) dX6_place_61 rfl ?_
  refine Es_iload_n (hC _) dX6_place_63 rfl ?_
  refine Es_iastN (hC _) dX6_place_64 rfl (fun _ => rfl) rfl (by omega) (by decide) ?_
  first | refine Es_aload_n (hC _) dX6_place_65 rfl ?_ | refine Es_aload_nN (hC _) dX6_place_65 rfl ?_
  refine Sg_X6_10 (hC _) fl_X6_29 dX6_place_66 ?_
  refine Es_iload (hC _) dX6_place_69 rfl ?_
  refine Es_iconst (v := -1) (hC _) dX6_place_71 (by decide) ?_
  refine Es_iastN (hC _) dX6_place_72 rfl (fun _ => rfl) rfl (by omega) (by decide) ?_
  first | refine Es_aload_n (hC _) dX6_place_73 rfl ?_ | refine Es_aload_nN (hC _) dX6_place_73 rfl ?_
  refine Sg_X6_11 (hC _) fl_X6_32 dX6_place_74 ?_
  refine Es_iload (hC _) dX6_place_77 rfl ?_
  refine Es_iconst (v := -1) (hC _) dX6_place_79 (by decide) ?_
  refine Es_iastN (hC _) dX6_place_80 rfl (fun _ => rfl) rfl (by omega) (by decide) ?_
  refine Es_iload_n (hC _) dX6_place_81 rfl ?_
  refine Es_iconst (v := 1) (hC _) dX6_place_82 (by decide) ?_
  refine Es_isub (hC _) dX6_place_83 ?_
  rw [show nI p - 1 = nI (p - 1) by rw [show (1 : Int32) = nI 1 from rfl, pk_sub (by omega)]]
  refine Es_istore (lv' := [_, _, _, _, _, _]) (hC _) dX6_place_84 (by decide) rfl rfl ?_
  refine Es_iload (hC _) dX6_place_86 rfl ?_
  refine Es_if_lt (hC _) 165 dX6_place_88 (by decide) (fun hb88 => False.elim (nI_pos (by omega) hb88)) (fun hb88 => ?_)
  refine Es_iload_n (hC _) dX6_place_91 rfl ?_
  refine Es_iconst (v := 2) (hC _) dX6_place_92 (by decide) ?_
  refine Es_icmp_ne (hC _) 165 dX6_place_93 (by decide) (fun hb93 => ?_) (fun hb93 => False.elim (hk2 ((nI_eq (a := k) (b := 2) (by omega) (by decide)).mp hb93)))
  first | refine Es_aload_n (hC _) dX6_place_165 rfl ?_ | refine Es_aload_nN (hC _) dX6_place_165 rfl ?_
  refine Sg_X6_8 (hC _) fl_X6_23 dX6_place_166 ?_
  refine Es_iload_n (hC _) dX6_place_169 rfl ?_
  refine Es_dup2 (hC _) dX6_place_170 rfl rfl ?_
  refine Es_ialdN (hC _) dX6_place_171 rfl rfl rfl (by omega) (by decide) ?_
  rw [show (uB (uB (uB B 39 0 (7 * w + p) (nI k)) 40 0 (7 * w + p) (-1)) 41 0 (7 * w + p) (-1) : sB) 38 0 w = nI p by simp [uB, rP0, hp]]
  refine Es_iconst (v := 1) (hC _) dX6_place_172 (by decide) ?_
  refine Es_iadd (hC _) dX6_place_173 ?_
  rw [nI_1]
  refine Es_iastN (hC _) dX6_place_174 rfl (fun _ => rfl) rfl (by omega) (by decide) ?_
  refine Es_iload_n (hC _) dX6_place_175 rfl ?_
  exact Es_iret dX6_place_176 rfl ⟨rfl, rfl, rfl⟩

set_option maxRecDepth 100000 in
set_option maxHeartbeats 4000000 in
theorem l_place {ad : sA} {nw nt : Nat} {B : sB} {L : sL} {bc bs : Nat} {w p : Nat} {G : sB} (hw5 : w < 5) (h7 : p < 7) (hp : B 38 0 w = nI p) (hGf : ∀ o, o < p → B 39 0 (7 * w + o) = 2 → B 41 0 (7 * w + o) < 0 → (∀ o', o < o' → o' < p → ¬ (B 39 0 (7 * w + o') = 2 ∧ B 41 0 (7 * w + o') < 0)) → G = uB (uB (rP0 B w p 2) 41 0 (7 * w + p) (nI o)) 41 0 (7 * w + o) (nI p)) (hGn : (∀ o', o' < p → ¬ (B 39 0 (7 * w + o') = 2 ∧ B 41 0 (7 * w + o') < 0)) → G = rP0 B w p 2) : ∀ (j : Nat) (x : Int32), j ≤ p → x = nI j - 1 → (∀ o', j ≤ o' → o' < p → ¬ (B 39 0 (7 * w + o') = 2 ∧ B 41 0 (7 * w + o') < 0)) → Es (sCm yX6_place cX6_place 6 (some .int) 5 ad nw nt (fun v B1 L1 => v = some (.int (nI p)) ∧ B1 = uB G 38 0 w (nI (p + 1)) ∧ L1 = L)) 6 86 [some (.ref (ad 25 0)), some (.int (nI w)), some (.int (nI 2)), some (.int (nI p)), some (.int (nI (7 * w + p))), some (.int x)] [] ad nw nt (rP0 B w p 2) L bc bs := by
  have hC : ∀ Q, je_Ok (sCm yX6_place cX6_place 6 (some .int) 5 ad nw nt Q) RX6 cX6_place 6 5 := fun _ => je_Cm_ok
  intro j
  induction j with
  | zero =>
    intro x hj hx hI
    have hx2 : x = -1 := hx
    subst hx2
    have hG := hGn (fun o' h => hI o' (Nat.zero_le _) h)
    subst hG
    refine Es_iload (hC _) dX6_place_86 rfl ?_
    refine Es_if_lt (hC _) 165 dX6_place_88 (by decide) (fun hb88 => ?_) (fun hb88 => False.elim (hb88 (by decide)))
    first | refine Es_aload_n (hC _) dX6_place_165 rfl ?_ | refine Es_aload_nN (hC _) dX6_place_165 rfl ?_
    refine Sg_X6_8 (hC _) fl_X6_23 dX6_place_166 ?_
    refine Es_iload_n (hC _) dX6_place_169 rfl ?_
    refine Es_dup2 (hC _) dX6_place_170 rfl rfl ?_
    refine Es_ialdN (hC _) dX6_place_171 rfl rfl rfl (by omega) (by decide) ?_
    rw [show (rP0 B w p 2 : sB) 38 0 w = nI p by simp [uB, rP0, hp]]
    refine Es_iconst (v := 1) (hC _) dX6_place_172 (by decide) ?_
    refine Es_iadd (hC _) dX6_place_173 ?_
    rw [nI_1]
    refine Es_iastN (hC _) dX6_place_174 rfl (fun _ => rfl) rfl (by omega) (by decide) ?_
    refine Es_iload_n (hC _) dX6_place_175 rfl ?_
    exact Es_iret dX6_place_176 rfl ⟨rfl, rfl, rfl⟩
  | succ o ih =>
    intro x hj hx hI
    rw [nI_pred] at hx
    subst hx
    have e9 : (rP0 B w p 2) 39 0 (7 * w + o) = B 39 0 (7 * w + o) := by simp only [rP0]; rw [uB_n (by omega), uB_n (by omega), uB_n (by omega)]
    have e11 : (rP0 B w p 2) 41 0 (7 * w + o) = B 41 0 (7 * w + o) := by simp only [rP0]; rw [uB_n (by omega), uB_n (by omega), uB_n (by omega)]
    have ex : (rP0 B w p 2) 41 0 (7 * w + p) = -1 := by simp only [rP0]; rw [uB_s]
    by_cases h1 : B 39 0 (7 * w + o) = 2
    · by_cases h2 : B 41 0 (7 * w + o) < 0
      · have hG := hGf o (by omega) h1 h2 (fun o' a b => hI o' (by omega) b)
        subst hG
        by_cases ho : o = 0
        · skip
          refine Es_iload (hC _) dX6_place_86 rfl ?_
          refine Es_if_lt (hC _) 165 dX6_place_88 (by decide) (fun hb88 => False.elim (nI_pos (by omega) hb88)) (fun hb88 => ?_)
          refine Es_iload_n (hC _) dX6_place_91 rfl ?_
          refine Es_iconst (v := 2) (hC _) dX6_place_92 (by decide) ?_
          refine Es_icmp_ne (hC _) 165 dX6_place_93 (by decide) (fun hb93 => False.elim (hb93 rfl)) (fun hb93 => ?_)
          first | refine Es_aload_n (hC _) dX6_place_96 rfl ?_ | refine Es_aload_nN (hC _) dX6_place_96 rfl ?_
          refine Sg_X6_11 (hC _) fl_X6_32 dX6_place_97 ?_
          refine Es_iload (hC _) dX6_place_100 rfl ?_
          refine Es_ialdN (hC _) dX6_place_102 rfl rfl rfl (by omega) (by decide) ?_
          rw [ex]
          refine Es_if_ge (hC _) 165 dX6_place_103 (by decide) (fun hb103 => False.elim (absurd hb103 (by decide))) (fun hb103 => ?_)
          first | refine Es_aload_n (hC _) dX6_place_106 rfl ?_ | refine Es_aload_nN (hC _) dX6_place_106 rfl ?_
          refine Sg_X6_9 (hC _) fl_X6_26 dX6_place_107 ?_
          refine Es_iload_n (hC _) dX6_place_110 rfl ?_
          refine Es_iload (hC _) dX6_place_111 rfl ?_
          refine Es_fS (hC _) ms_X6_97 dX6_place_113 r_spot rfl rfl (by decide) (Nat.le_of_ble_eq_true rfl) ?_
          refine Es_ialdN (hC _) dX6_place_116 rfl rfl rfl (by omega) (by decide) ?_
          rw [e9]
          refine Es_iconst (v := 2) (hC _) dX6_place_117 (by decide) ?_
          refine Es_icmp_ne (hC _) 159 dX6_place_118 (by decide) (fun hb118 => False.elim (hb118 h1)) (fun hb118 => ?_)
          first | refine Es_aload_n (hC _) dX6_place_121 rfl ?_ | refine Es_aload_nN (hC _) dX6_place_121 rfl ?_
          refine Sg_X6_11 (hC _) fl_X6_32 dX6_place_122 ?_
          refine Es_iload_n (hC _) dX6_place_125 rfl ?_
          refine Es_iload (hC _) dX6_place_126 rfl ?_
          refine Es_fS (hC _) ms_X6_97 dX6_place_128 r_spot rfl rfl (by decide) (Nat.le_of_ble_eq_true rfl) ?_
          refine Es_ialdN (hC _) dX6_place_131 rfl rfl rfl (by omega) (by decide) ?_
          rw [e11]
          refine Es_if_lt (hC _) 138 dX6_place_132 (by decide) (fun hb132 => ?_) (fun hb132 => False.elim (hb132 h2))
          first | refine Es_aload_n (hC _) dX6_place_138 rfl ?_ | refine Es_aload_nN (hC _) dX6_place_138 rfl ?_
          refine Sg_X6_11 (hC _) fl_X6_32 dX6_place_139 ?_
          refine Es_iload (hC _) dX6_place_142 rfl ?_
          refine Es_iload (hC _) dX6_place_144 rfl ?_
          refine Es_iastN (hC _) dX6_place_146 rfl (fun _ => rfl) rfl (by omega) (by decide) ?_
          first | refine Es_aload_n (hC _) dX6_place_147 rfl ?_ | refine Es_aload_nN (hC _) dX6_place_147 rfl ?_
          refine Sg_X6_11 (hC _) fl_X6_32 dX6_place_148 ?_
          refine Es_iload_n (hC _) dX6_place_151 rfl ?_
          refine Es_iload (hC _) dX6_place_152 rfl ?_
          refine Es_fS (hC _) ms_X6_97 dX6_place_154 r_spot rfl rfl (by decide) (Nat.le_of_ble_eq_true rfl) ?_
          refine Es_iload_n (hC _) dX6_place_157 rfl ?_
          refine Es_iastN (hC _) dX6_place_158 rfl (fun _ => rfl) rfl (by omega) (by decide) ?_
          refine Es_iinc (lv' := [_, _, _, _, _, _]) (hC _) dX6_place_159 (by decide) rfl (show _ + Int32.ofInt (-1) = _ + (-1) from rfl) rfl rfl ?_
          refine Es_goto (hC _) 86 dX6_place_162 (by decide) ?_
          refine Es_iload (hC _) dX6_place_86 rfl ?_
          refine Es_if_lt (hC _) 165 dX6_place_88 (by decide) (fun hb => ?_) (fun hb => False.elim (hb (by rw [ho]; decide)))
          first | refine Es_aload_n (hC _) dX6_place_165 rfl ?_ | refine Es_aload_nN (hC _) dX6_place_165 rfl ?_
          refine Sg_X6_8 (hC _) fl_X6_23 dX6_place_166 ?_
          refine Es_iload_n (hC _) dX6_place_169 rfl ?_
          refine Es_dup2 (hC _) dX6_place_170 rfl rfl ?_
          refine Es_ialdN (hC _) dX6_place_171 rfl rfl rfl (by omega) (by decide) ?_
          rw [show (uB (uB (rP0 B w p 2) 41 0 (7 * w + p) (nI o)) 41 0 (7 * w + o) (nI p) : sB) 38 0 w = nI p by simp [uB, rP0, hp]]
          refine Es_iconst (v := 1) (hC _) dX6_place_172 (by decide) ?_
          refine Es_iadd (hC _) dX6_place_173 ?_
          rw [nI_1]
          refine Es_iastN (hC _) dX6_place_174 rfl (fun _ => rfl) rfl (by omega) (by decide) ?_
          refine Es_iload_n (hC _) dX6_place_175 rfl ?_
          exact Es_iret dX6_place_176 rfl ⟨rfl, rfl, rfl⟩
        · skip
          refine Es_iload (hC _) dX6_place_86 rfl ?_
          refine Es_if_lt (hC _) 165 dX6_place_88 (by decide) (fun hb88 => False.elim (nI_pos (by omega) hb88)) (fun hb88 => ?_)
          refine Es_iload_n (hC _) dX6_place_91 rfl ?_
          refine Es_iconst (v := 2) (hC _) dX6_place_92 (by decide) ?_
          refine Es_icmp_ne (hC _) 165 dX6_place_93 (by decide) (fun hb93 => False.elim (hb93 rfl)) (fun hb93 => ?_)
          first | refine Es_aload_n (hC _) dX6_place_96 rfl ?_ | refine Es_aload_nN (hC _) dX6_place_96 rfl ?_
          refine Sg_X6_11 (hC _) fl_X6_32 dX6_place_97 ?_
          refine Es_iload (hC _) dX6_place_100 rfl ?_
          refine Es_ialdN (hC _) dX6_place_102 rfl rfl rfl (by omega) (by decide) ?_
          rw [ex]
          refine Es_if_ge (hC _) 165 dX6_place_103 (by decide) (fun hb103 => False.elim (absurd hb103 (by decide))) (fun hb103 => ?_)
          first | refine Es_aload_n (hC _) dX6_place_106 rfl ?_ | refine Es_aload_nN (hC _) dX6_place_106 rfl ?_
          refine Sg_X6_9 (hC _) fl_X6_26 dX6_place_107 ?_
          refine Es_iload_n (hC _) dX6_place_110 rfl ?_
          refine Es_iload (hC _) dX6_place_111 rfl ?_
          refine Es_fS (hC _) ms_X6_97 dX6_place_113 r_spot rfl rfl (by decide) (Nat.le_of_ble_eq_true rfl) ?_
          refine Es_ialdN (hC _) dX6_place_116 rfl rfl rfl (by omega) (by decide) ?_
          rw [e9]
          refine Es_iconst (v := 2) (hC _) dX6_place_117 (by decide) ?_
          refine Es_icmp_ne (hC _) 159 dX6_place_118 (by decide) (fun hb118 => False.elim (hb118 h1)) (fun hb118 => ?_)
          first | refine Es_aload_n (hC _) dX6_place_121 rfl ?_ | refine Es_aload_nN (hC _) dX6_place_121 rfl ?_
          refine Sg_X6_11 (hC _) fl_X6_32 dX6_place_122 ?_
          refine Es_iload_n (hC _) dX6_place_125 rfl ?_
          refine Es_iload (hC _) dX6_place_126 rfl ?_
          refine Es_fS (hC _) ms_X6_97 dX6_place_128 r_spot rfl rfl (by decide) (Nat.le_of_ble_eq_true rfl) ?_
          refine Es_ialdN (hC _) dX6_place_131 rfl rfl rfl (by omega) (by decide) ?_
          rw [e11]
          refine Es_if_lt (hC _) 138 dX6_place_132 (by decide) (fun hb132 => ?_) (fun hb132 => False.elim (hb132 h2))
          first | refine Es_aload_n (hC _) dX6_place_138 rfl ?_ | refine Es_aload_nN (hC _) dX6_place_138 rfl ?_
          refine Sg_X6_11 (hC _) fl_X6_32 dX6_place_139 ?_
          refine Es_iload (hC _) dX6_place_142 rfl ?_
          refine Es_iload (hC _) dX6_place_144 rfl ?_
          refine Es_iastN (hC _) dX6_place_146 rfl (fun _ => rfl) rfl (by omega) (by decide) ?_
          first | refine Es_aload_n (hC _) dX6_place_147 rfl ?_ | refine Es_aload_nN (hC _) dX6_place_147 rfl ?_
          refine Sg_X6_11 (hC _) fl_X6_32 dX6_place_148 ?_
          refine Es_iload_n (hC _) dX6_place_151 rfl ?_
          refine Es_iload (hC _) dX6_place_152 rfl ?_
          refine Es_fS (hC _) ms_X6_97 dX6_place_154 r_spot rfl rfl (by decide) (Nat.le_of_ble_eq_true rfl) ?_
          refine Es_iload_n (hC _) dX6_place_157 rfl ?_
          refine Es_iastN (hC _) dX6_place_158 rfl (fun _ => rfl) rfl (by omega) (by decide) ?_
          refine Es_iinc (lv' := [_, _, _, _, _, _]) (hC _) dX6_place_159 (by decide) rfl (show _ + Int32.ofInt (-1) = _ + (-1) from rfl) rfl rfl ?_
          rw [show nI o + (-1) = nI (o - 1) by rw [← Int32.sub_eq_add_neg, show (1 : Int32) = nI 1 from rfl, pk_sub (by omega)]]
          refine Es_goto (hC _) 86 dX6_place_162 (by decide) ?_
          refine Es_iload (hC _) dX6_place_86 rfl ?_
          refine Es_if_lt (hC _) 165 dX6_place_88 (by decide) (fun hb => False.elim (nI_pos (by omega) hb)) (fun hb => ?_)
          refine Es_iload_n (hC _) dX6_place_91 rfl ?_
          refine Es_iconst (v := 2) (hC _) dX6_place_92 (by decide) ?_
          refine Es_icmp_ne (hC _) 165 dX6_place_93 (by decide) (fun hb93 => False.elim (hb93 rfl)) (fun hb93 => ?_)
          first | refine Es_aload_n (hC _) dX6_place_96 rfl ?_ | refine Es_aload_nN (hC _) dX6_place_96 rfl ?_
          refine Sg_X6_11 (hC _) fl_X6_32 dX6_place_97 ?_
          refine Es_iload (hC _) dX6_place_100 rfl ?_
          refine Es_ialdN (hC _) dX6_place_102 rfl rfl rfl (by omega) (by decide) ?_
          rw [uB_n (by omega), uB_s]
          refine Es_if_ge (hC _) 165 dX6_place_103 (by decide) (fun hb103 => ?_) (fun hb103 => False.elim (hb103 (nI_pos' (by omega))))
          first | refine Es_aload_n (hC _) dX6_place_165 rfl ?_ | refine Es_aload_nN (hC _) dX6_place_165 rfl ?_
          refine Sg_X6_8 (hC _) fl_X6_23 dX6_place_166 ?_
          refine Es_iload_n (hC _) dX6_place_169 rfl ?_
          refine Es_dup2 (hC _) dX6_place_170 rfl rfl ?_
          refine Es_ialdN (hC _) dX6_place_171 rfl rfl rfl (by omega) (by decide) ?_
          rw [show (uB (uB (rP0 B w p 2) 41 0 (7 * w + p) (nI o)) 41 0 (7 * w + o) (nI p) : sB) 38 0 w = nI p by simp [uB, rP0, hp]]
          refine Es_iconst (v := 1) (hC _) dX6_place_172 (by decide) ?_
          refine Es_iadd (hC _) dX6_place_173 ?_
          rw [nI_1]
          refine Es_iastN (hC _) dX6_place_174 rfl (fun _ => rfl) rfl (by omega) (by decide) ?_
          refine Es_iload_n (hC _) dX6_place_175 rfl ?_
          exact Es_iret dX6_place_176 rfl ⟨rfl, rfl, rfl⟩
      · skip
        refine Es_iload (hC _) dX6_place_86 rfl ?_
        refine Es_if_lt (hC _) 165 dX6_place_88 (by decide) (fun hb88 => False.elim (nI_pos (by omega) hb88)) (fun hb88 => ?_)
        refine Es_iload_n (hC _) dX6_place_91 rfl ?_
        refine Es_iconst (v := 2) (hC _) dX6_place_92 (by decide) ?_
        refine Es_icmp_ne (hC _) 165 dX6_place_93 (by decide) (fun hb93 => False.elim (hb93 rfl)) (fun hb93 => ?_)
        first | refine Es_aload_n (hC _) dX6_place_96 rfl ?_ | refine Es_aload_nN (hC _) dX6_place_96 rfl ?_
        refine Sg_X6_11 (hC _) fl_X6_32 dX6_place_97 ?_
        refine Es_iload (hC _) dX6_place_100 rfl ?_
        refine Es_ialdN (hC _) dX6_place_102 rfl rfl rfl (by omega) (by decide) ?_
        rw [ex]
        refine Es_if_ge (hC _) 165 dX6_place_103 (by decide) (fun hb103 => False.elim (absurd hb103 (by decide))) (fun hb103 => ?_)
        first | refine Es_aload_n (hC _) dX6_place_106 rfl ?_ | refine Es_aload_nN (hC _) dX6_place_106 rfl ?_
        refine Sg_X6_9 (hC _) fl_X6_26 dX6_place_107 ?_
        refine Es_iload_n (hC _) dX6_place_110 rfl ?_
        refine Es_iload (hC _) dX6_place_111 rfl ?_
        refine Es_fS (hC _) ms_X6_97 dX6_place_113 r_spot rfl rfl (by decide) (Nat.le_of_ble_eq_true rfl) ?_
        refine Es_ialdN (hC _) dX6_place_116 rfl rfl rfl (by omega) (by decide) ?_
        rw [e9]
        refine Es_iconst (v := 2) (hC _) dX6_place_117 (by decide) ?_
        refine Es_icmp_ne (hC _) 159 dX6_place_118 (by decide) (fun hb118 => False.elim (hb118 h1)) (fun hb118 => ?_)
        first | refine Es_aload_n (hC _) dX6_place_121 rfl ?_ | refine Es_aload_nN (hC _) dX6_place_121 rfl ?_
        refine Sg_X6_11 (hC _) fl_X6_32 dX6_place_122 ?_
        refine Es_iload_n (hC _) dX6_place_125 rfl ?_
        refine Es_iload (hC _) dX6_place_126 rfl ?_
        refine Es_fS (hC _) ms_X6_97 dX6_place_128 r_spot rfl rfl (by decide) (Nat.le_of_ble_eq_true rfl) ?_
        refine Es_ialdN (hC _) dX6_place_131 rfl rfl rfl (by omega) (by decide) ?_
        rw [e11]
        refine Es_if_lt (hC _) 138 dX6_place_132 (by decide) (fun hb132 => False.elim (h2 hb132)) (fun hb132 => ?_)
        refine Es_goto (hC _) 159 dX6_place_135 (by decide) ?_
        refine Es_iinc (lv' := [_, _, _, _, _, _]) (hC _) dX6_place_159 (by decide) rfl (show _ + Int32.ofInt (-1) = _ + (-1) from rfl) rfl rfl ?_
        refine Es_goto (hC _) 86 dX6_place_162 (by decide) ?_
        exact ih _ (by omega) (by rw [Int32.sub_eq_add_neg]) (fun o' a b => if hoo : o' = o then (by rw [hoo]; exact fun z => h2 z.2) else hI o' (by omega) b)
    · skip
      refine Es_iload (hC _) dX6_place_86 rfl ?_
      refine Es_if_lt (hC _) 165 dX6_place_88 (by decide) (fun hb88 => False.elim (nI_pos (by omega) hb88)) (fun hb88 => ?_)
      refine Es_iload_n (hC _) dX6_place_91 rfl ?_
      refine Es_iconst (v := 2) (hC _) dX6_place_92 (by decide) ?_
      refine Es_icmp_ne (hC _) 165 dX6_place_93 (by decide) (fun hb93 => False.elim (hb93 rfl)) (fun hb93 => ?_)
      first | refine Es_aload_n (hC _) dX6_place_96 rfl ?_ | refine Es_aload_nN (hC _) dX6_place_96 rfl ?_
      refine Sg_X6_11 (hC _) fl_X6_32 dX6_place_97 ?_
      refine Es_iload (hC _) dX6_place_100 rfl ?_
      refine Es_ialdN (hC _) dX6_place_102 rfl rfl rfl (by omega) (by decide) ?_
      rw [ex]
      refine Es_if_ge (hC _) 165 dX6_place_103 (by decide) (fun hb103 => False.elim (absurd hb103 (by decide))) (fun hb103 => ?_)
      first | refine Es_aload_n (hC _) dX6_place_106 rfl ?_ | refine Es_aload_nN (hC _) dX6_place_106 rfl ?_
      refine Sg_X6_9 (hC _) fl_X6_26 dX6_place_107 ?_
      refine Es_iload_n (hC _) dX6_place_110 rfl ?_
      refine Es_iload (hC _) dX6_place_111 rfl ?_
      refine Es_fS (hC _) ms_X6_97 dX6_place_113 r_spot rfl rfl (by decide) (Nat.le_of_ble_eq_true rfl) ?_
      refine Es_ialdN (hC _) dX6_place_116 rfl rfl rfl (by omega) (by decide) ?_
      rw [e9]
      refine Es_iconst (v := 2) (hC _) dX6_place_117 (by decide) ?_
      refine Es_icmp_ne (hC _) 159 dX6_place_118 (by decide) (fun hb118 => ?_) (fun hb118 => False.elim (h1 hb118))
      refine Es_iinc (lv' := [_, _, _, _, _, _]) (hC _) dX6_place_159 (by decide) rfl (show _ + Int32.ofInt (-1) = _ + (-1) from rfl) rfl rfl ?_
      refine Es_goto (hC _) 86 dX6_place_162 (by decide) ?_
      exact ih _ (by omega) (by rw [Int32.sub_eq_add_neg]) (fun o' a b => if hoo : o' = o then (by rw [hoo]; exact fun z => h1 z.1) else hI o' (by omega) b)
set_option maxRecDepth 100000 in
set_option maxHeartbeats 4000000 in
theorem r_place_t {ad : sA} {nw nt : Nat} {B : sB} {L : sL} (hnw : B 25 0 4 = nI nw) (h5 : nw ≤ 5) {w : Nat} (hw : w < nw) {p : Nat} {G : sB} (hp : B 38 0 w = nI p) (h7 : p < 7) (hGf : ∀ o, o < p → B 39 0 (7 * w + o) = 2 → B 41 0 (7 * w + o) < 0 → (∀ o', o < o' → o' < p → ¬ (B 39 0 (7 * w + o') = 2 ∧ B 41 0 (7 * w + o') < 0)) → G = uB (uB (rP0 B w p 2) 41 0 (7 * w + p) (nI o)) 41 0 (7 * w + o) (nI p)) (hGn : (∀ o', o' < p → ¬ (B 39 0 (7 * w + o') = 2 ∧ B 41 0 (7 * w + o') < 0)) → G = rP0 B w p 2) : Cf yX6_place cX6_place 6 (some FieldType.int) 5 [.ref (ad 25 0), .int (nI w), .int (nI 2)] ad nw nt B L (some (.int (nI p))) (uB G 38 0 w (nI (p + 1))) (L) := by
  have hC : ∀ Q, je_Ok (sCm yX6_place cX6_place 6 (some FieldType.int) 5 ad nw nt Q) RX6 cX6_place 6 5 := fun _ => je_Cm_ok
  refine Cs_of [some (.ref (ad 25 0)), some (.int (nI w)), some (.int (nI 2)), none, none, none] (by decide) rfl (Nat.le_of_ble_eq_true rfl) ?_
  refine Es_iload_n (hC _) dX6_place_0 rfl ?_
  first | refine Es_aload_n (hC _) dX6_place_1 rfl ?_ | refine Es_aload_nN (hC _) dX6_place_1 rfl ?_
  refine Sg_X6_4 (hC _) fl_X6_86 dX6_place_2 ?_
  rw [hnw]
  refine Es_fS (hC _) ms_X6_89 dX6_place_5 (r_isIn_in hw (by omega)) rfl rfl (by decide) (Nat.le_of_ble_eq_true rfl) ?_
  refine Es_if_eq (hC _) 19 dX6_place_8 (by decide) (fun hb8 => False.elim ((by first | exact absurd hb8 (by decide) | exact absurd hb8 (by assumption) | exact hb8 (by assumption) | exact hb8 rfl | (simp_all [bI]; done)))) (fun hb8 => ?_)
  refine Es_iload_n (hC _) dX6_place_11 rfl ?_
  refine Es_iconst (v := 5) (hC _) dX6_place_12 (by decide) ?_
  refine Es_fS (hC _) ms_X6_89 dX6_place_13 (r_isIn_in (n := 5) (j := 2) (by decide) (by decide)) rfl rfl (by decide) (Nat.le_of_ble_eq_true rfl) ?_
  refine Es_if_ne (hC _) 25 dX6_place_16 (by decide) (fun hb16 => ?_) (fun hb16 => False.elim ((by first | exact absurd hb16 (by decide) | exact absurd hb16 (by assumption) | exact hb16 (by assumption) | exact hb16 rfl | (simp_all [bI]; done))))
  first | refine Es_aload_n (hC _) dX6_place_25 rfl ?_ | refine Es_aload_nN (hC _) dX6_place_25 rfl ?_
  refine Sg_X6_8 (hC _) fl_X6_23 dX6_place_26 ?_
  refine Es_iload_n (hC _) dX6_place_29 rfl ?_
  refine Es_ialdN (hC _) dX6_place_30 rfl rfl rfl (by omega) (by decide) ?_
  refine Es_bipush (v := 7) (hC _) dX6_place_31 (by decide) ?_
  refine Es_icmp_ne (hC _) 43 dX6_place_33 (by decide) (fun hb33 => ?_) (fun hb33 => False.elim (absurd ((nI_eq (a := p) (b := 7) (by omega) (by decide)).mp (hp.symm.trans hb33)) (by omega)))
  first | refine Es_aload_n (hC _) dX6_place_43 rfl ?_ | refine Es_aload_nN (hC _) dX6_place_43 rfl ?_
  refine Sg_X6_8 (hC _) fl_X6_23 dX6_place_44 ?_
  refine Es_iload_n (hC _) dX6_place_47 rfl ?_
  refine Es_ialdN (hC _) dX6_place_48 rfl rfl rfl (by omega) (by decide) ?_
  rw [hp]
  refine Es_istore_n (lv' := [_, _, _, _, _, _]) (hC _) dX6_place_49 (by decide) rfl rfl ?_
  refine Es_iload_n (hC _) dX6_place_50 rfl ?_
  refine Es_iload_n (hC _) dX6_place_51 rfl ?_
  refine Es_fS (hC _) ms_X6_97 dX6_place_52 r_spot rfl rfl (by decide) (Nat.le_of_ble_eq_true rfl) ?_
  refine Es_istore (lv' := [_, _, _, _, _, _]) (hC _) dX6_place_55 (by decide) rfl rfl ?_
  first | refine Es_aload_n (hC _) dX6_place_57 rfl ?_ | refine Es_aload_nN (hC _) dX6_place_57 rfl ?_
  refine Sg_X6_9 (hC _) fl_X6_26 dX6_place_58 ?_
  refine Es_iload (hC _) dX6_place_61 rfl ?_
  refine Es_iload_n (hC _) dX6_place_63 rfl ?_
  refine Es_iastN (hC _) dX6_place_64 rfl (fun _ => rfl) rfl (by omega) (by decide) ?_
  first | refine Es_aload_n (hC _) dX6_place_65 rfl ?_ | refine Es_aload_nN (hC _) dX6_place_65 rfl ?_
  refine Sg_X6_10 (hC _) fl_X6_29 dX6_place_66 ?_
  refine Es_iload (hC _) dX6_place_69 rfl ?_
  refine Es_iconst (v := -1) (hC _) dX6_place_71 (by decide) ?_
  refine Es_iastN (hC _) dX6_place_72 rfl (fun _ => rfl) rfl (by omega) (by decide) ?_
  first | refine Es_aload_n (hC _) dX6_place_73 rfl ?_ | refine Es_aload_nN (hC _) dX6_place_73 rfl ?_
  refine Sg_X6_11 (hC _) fl_X6_32 dX6_place_74 ?_
  refine Es_iload (hC _) dX6_place_77 rfl ?_
  refine Es_iconst (v := -1) (hC _) dX6_place_79 (by decide) ?_
  refine Es_iastN (hC _) dX6_place_80 rfl (fun _ => rfl) rfl (by omega) (by decide) ?_
  refine Es_iload_n (hC _) dX6_place_81 rfl ?_
  refine Es_iconst (v := 1) (hC _) dX6_place_82 (by decide) ?_
  refine Es_isub (hC _) dX6_place_83 ?_
  refine Es_istore (lv' := [_, _, _, _, _, _]) (hC _) dX6_place_84 (by decide) rfl rfl ?_
  exact l_place (by omega) h7 hp hGf hGn p _ (Nat.le_refl _) rfl (fun o' a b => by omega)

