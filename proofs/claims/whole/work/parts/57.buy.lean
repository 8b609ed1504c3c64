/-! ===== buy ===== -/
set_option maxRecDepth 100000 in
set_option maxHeartbeats 4000000 in
theorem c_buy_1 {ad : sA} {nw nt : Nat} {B : sB} {L : sL} {y : Int32} (hm : out y 4) : Cf yX5_buy cX5_buy 3 (some FieldType.int) 5 [.ref (ad 0 0), .int y] ad nw nt B L (some (.int (-1))) (uB B 5 0 1 (B 5 0 1 + 1)) (L) := by
  have hC : ∀ Q, je_Ok (sCm yX5_buy cX5_buy 3 (some FieldType.int) 5 ad nw nt Q) RX5 cX5_buy 3 5 := fun _ => je_Cm_ok
  refine Cs_of [some (.ref (ad 0 0)), some (.int y), none] (by decide) rfl (Nat.le_of_ble_eq_true rfl) ?_
  refine Es_iload_n (hC _) dX5_buy_0 rfl ?_
  refine Es_fS (hC _) ms_X5_104 dX5_buy_1 (c_isMaker_out hm) rfl rfl (by decide) (Nat.le_of_ble_eq_true rfl) ?_
  refine Es_if_ne (hC _) 13 dX5_buy_4 (by decide) (fun hb4 => False.elim (absurd rfl hb4)) (fun hb4 => ?_)
  first | refine Es_aload_n (hC _) dX5_buy_7 rfl ?_ | refine Es_aload_nN (hC _) dX5_buy_7 rfl ?_
  refine Es_iconst (v := -1) (hC _) dX5_buy_8 (by decide) ?_
  refine Es_fV (hC _) mv_X5_70 dX5_buy_9 (c_refuse (k := 1) (by decide) (by decide)) rfl rfl ⟨_, rfl, rfl⟩ rfl rfl (by decide) (Nat.le_of_ble_eq_true rfl) ?_
  exact Es_iret dX5_buy_12 rfl ⟨rfl, rfl, rfl⟩

set_option maxRecDepth 100000 in
set_option maxHeartbeats 4000000 in
theorem c_buy_40 {ad : sA} {nw nt : Nat} {B : sB} {L : sL} {m k : Nat} (hm : m < 4) (h9 : B 0 0 9 = nI nt) (hk : B 6 0 3 = nI k) (hk6 : k ≤ 600) (h40 : nt = 40) : Cf yX5_buy cX5_buy 3 (some FieldType.int) 5 [.ref (ad 0 0), .int (nI m)] ad nw nt B L (some (.int (-6))) (uB B 5 0 6 (B 5 0 6 + 1)) (L) := by
  have hC : ∀ Q, je_Ok (sCm yX5_buy cX5_buy 3 (some FieldType.int) 5 ad nw nt Q) RX5 cX5_buy 3 5 := fun _ => je_Cm_ok
  refine Cs_of [some (.ref (ad 0 0)), some (.int (nI m)), none] (by decide) rfl (Nat.le_of_ble_eq_true rfl) ?_
  refine Es_iload_n (hC _) dX5_buy_0 rfl ?_
  refine Es_fS (hC _) ms_X5_104 dX5_buy_1 (c_isMaker_in hm) rfl rfl (by decide) (Nat.le_of_ble_eq_true rfl) ?_
  refine Es_if_ne (hC _) 13 dX5_buy_4 (by decide) (fun hb4 => ?_) (fun hb4 => False.elim (absurd hb4 (by decide)))
  first | refine Es_aload_n (hC _) dX5_buy_13 rfl ?_ | refine Es_aload_nN (hC _) dX5_buy_13 rfl ?_
  refine Sg_X5_9 (hC _) fl_X5_110 dX5_buy_14 ?_
  rw [h9]
  refine Es_if_lt (hC _) 43 dX5_buy_17 (by decide) (fun hb17 => False.elim (nI_pos (n := nt) (by omega) hb17)) (fun hb17 => ?_)
  first | refine Es_aload_n (hC _) dX5_buy_20 rfl ?_ | refine Es_aload_nN (hC _) dX5_buy_20 rfl ?_
  refine Sg_X5_9 (hC _) fl_X5_110 dX5_buy_21 ?_
  rw [h9]
  first | refine Es_aload_n (hC _) dX5_buy_24 rfl ?_ | refine Es_aload_nN (hC _) dX5_buy_24 rfl ?_
  refine Sg_X5_1 (hC _) fl_X5_17 dX5_buy_25 ?_
  refine Es_alen (hC _) dX5_buy_28 rfl rfl (by decide) ?_
  refine Es_icmp_ge (hC _) 43 dX5_buy_29 (by decide) (fun hb29 => ?_) (fun hb29 => False.elim ((by rw [h40] at hb29; exact absurd (show nI 40 ≤ nI 40 from (by decide)) hb29)))
  first | refine Es_aload_n (hC _) dX5_buy_43 rfl ?_ | refine Es_aload_nN (hC _) dX5_buy_43 rfl ?_
  refine Es_bipush (v := -6) (hC _) dX5_buy_44 (by decide) ?_
  refine Es_fV (hC _) mv_X5_70 dX5_buy_46 (c_refuse (k := 6) (by decide) (by decide)) rfl rfl ⟨_, rfl, rfl⟩ rfl rfl (by decide) (Nat.le_of_ble_eq_true rfl) ?_
  exact Es_iret dX5_buy_49 rfl ⟨rfl, rfl, rfl⟩

set_option maxRecDepth 100000 in
set_option maxHeartbeats 4000000 in
theorem c_buy_log {ad : sA} {nw nt : Nat} {B : sB} {L : sL} {m k : Nat} (hm : m < 4) (h9 : B 0 0 9 = nI nt) (hk : B 6 0 3 = nI k) (hk6 : k ≤ 600) (h40 : nt < 40) (hf6 : ¬ k + 1 ≤ 600) : Cf yX5_buy cX5_buy 3 (some FieldType.int) 5 [.ref (ad 0 0), .int (nI m)] ad nw nt B L (some (.int (-6))) (uB B 5 0 6 (B 5 0 6 + 1)) (L) := by
  have hC : ∀ Q, je_Ok (sCm yX5_buy cX5_buy 3 (some FieldType.int) 5 ad nw nt Q) RX5 cX5_buy 3 5 := fun _ => je_Cm_ok
  refine Cs_of [some (.ref (ad 0 0)), some (.int (nI m)), none] (by decide) rfl (Nat.le_of_ble_eq_true rfl) ?_
  refine Es_iload_n (hC _) dX5_buy_0 rfl ?_
  refine Es_fS (hC _) ms_X5_104 dX5_buy_1 (c_isMaker_in hm) rfl rfl (by decide) (Nat.le_of_ble_eq_true rfl) ?_
  refine Es_if_ne (hC _) 13 dX5_buy_4 (by decide) (fun hb4 => ?_) (fun hb4 => False.elim (absurd hb4 (by decide)))
  first | refine Es_aload_n (hC _) dX5_buy_13 rfl ?_ | refine Es_aload_nN (hC _) dX5_buy_13 rfl ?_
  refine Sg_X5_9 (hC _) fl_X5_110 dX5_buy_14 ?_
  rw [h9]
  refine Es_if_lt (hC _) 43 dX5_buy_17 (by decide) (fun hb17 => False.elim (nI_pos (n := nt) (by omega) hb17)) (fun hb17 => ?_)
  first | refine Es_aload_n (hC _) dX5_buy_20 rfl ?_ | refine Es_aload_nN (hC _) dX5_buy_20 rfl ?_
  refine Sg_X5_9 (hC _) fl_X5_110 dX5_buy_21 ?_
  rw [h9]
  first | refine Es_aload_n (hC _) dX5_buy_24 rfl ?_ | refine Es_aload_nN (hC _) dX5_buy_24 rfl ?_
  refine Sg_X5_1 (hC _) fl_X5_17 dX5_buy_25 ?_
  refine Es_alen (hC _) dX5_buy_28 rfl rfl (by decide) ?_
  refine Es_icmp_ge (hC _) 43 dX5_buy_29 (by decide) (fun hb29 => False.elim (nI_ge (a := nt) (b := 40) (by omega) (by omega) hb29)) (fun hb29 => ?_)
  first | refine Es_aload_n (hC _) dX5_buy_32 rfl ?_ | refine Es_aload_nN (hC _) dX5_buy_32 rfl ?_
  refine Sg_X5_5 (hC _) fl_X5_45 dX5_buy_33 ?_
  refine Es_iconst (v := 1) (hC _) dX5_buy_36 (by decide) ?_
  refine Es_fV (hC _) mv_X5_113 dX5_buy_37 (c_hasRoomFor (m := 1) hk hk6 (by decide)) rfl rfl ⟨_, rfl, rfl⟩ rfl rfl (by decide) (Nat.le_of_ble_eq_true rfl) ?_
  refine Es_if_ne (hC _) 50 dX5_buy_40 (by decide) (fun hb40 => False.elim (hb40 (by rw [bI, if_neg hf6]))) (fun hb40 => ?_)
  first | refine Es_aload_n (hC _) dX5_buy_43 rfl ?_ | refine Es_aload_nN (hC _) dX5_buy_43 rfl ?_
  refine Es_bipush (v := -6) (hC _) dX5_buy_44 (by decide) ?_
  refine Es_fV (hC _) mv_X5_70 dX5_buy_46 (c_refuse (k := 6) (by decide) (by decide)) rfl rfl ⟨_, rfl, rfl⟩ rfl rfl (by decide) (Nat.le_of_ble_eq_true rfl) ?_
  exact Es_iret dX5_buy_49 rfl ⟨rfl, rfl, rfl⟩

set_option maxRecDepth 100000 in
set_option maxHeartbeats 4000000 in
theorem c_buy_yes {ad : sA} {nw nt : Nat} {B : sB} {L : sL} {h : je_H} {m k : Nat} (hs : sH ad nw nt B L h) (hm : m < 4) (h9 : B 0 0 9 = nI nt) (hk : B 6 0 3 = nI k) (hf6 : k + 1 ≤ 600) (h40 : nt < 40) (hN : Nm nw nt B) : Ct yX5_buy cX5_buy 3 (some .int) 5 4 38 [.ref (ad 0 0), .int (nI m)] h (fun v h1 => v = some (.int (nI nt)) ∧ ∃ ad1 : sA, ad1 0 0 = ad 0 0 ∧ ad1 25 0 = ad 25 0 ∧ sH ad1 nw (nt + 1) (cLog (uB (uB (cSt (BT B nt (nI m) (B 0 0 11)) nt) 0 0 9 (nI (nt + 1))) 21 nt 10 (-1)) k ((uB (cSt (BT B nt (nI m) (B 0 0 11)) nt) 0 0 9 (nI (nt + 1))) 0 0 11) ((uB (cSt (BT B nt (nI m) (B 0 0 11)) nt) 0 0 9 (nI (nt + 1))) 21 nt 0) (-1)) (wS (Lty L nt) nt (wUD (fun _ => 0) (fun _ => 180) 1 (B 4 0 m))) h1) := by
  refine Ct_of [some (.ref (ad 0 0)), some (.int (nI m)), none] (by decide) rfl (Nat.le_of_ble_eq_true rfl) ?_
  have hC : ∀ Q, je_Ok (je_Cm yX5_buy cX5_buy 3 (some .int) 5 4 38 Q) RX5 cX5_buy 3 5 := fun _ => je_Cm_ok
  have hk6 : k ≤ 600 := by omega
  refine (show Es (je_Cm yX5_buy cX5_buy 3 (some .int) 5 4 38 (fun v h1 => v = some (.int (nI nt)) ∧ ∃ ad1 : sA, ad1 0 0 = ad 0 0 ∧ ad1 25 0 = ad 25 0 ∧ sH ad1 nw (nt + 1) (cLog (uB (uB (cSt (BT B nt (nI m) (B 0 0 11)) nt) 0 0 9 (nI (nt + 1))) 21 nt 10 (-1)) k ((uB (cSt (BT B nt (nI m) (B 0 0 11)) nt) 0 0 9 (nI (nt + 1))) 0 0 11) ((uB (cSt (BT B nt (nI m) (B 0 0 11)) nt) 0 0 9 (nI (nt + 1))) 21 nt 0) (-1)) (wS (Lty L nt) nt (wUD (fun _ => 0) (fun _ => 180) 1 (B 4 0 m))) h1)) 3 0 [some (.ref (ad 0 0)), some (.int (nI m)), none] [] ad nw nt B L 4 38 from ?_) h hs
  refine Es_iload_n (hC _) dX5_buy_0 rfl ?_
  refine Es_fS (hC _) ms_X5_104 dX5_buy_1 (c_isMaker_in hm) rfl rfl (by decide) (Nat.le_of_ble_eq_true rfl) ?_
  refine Es_if_ne (hC _) 13 dX5_buy_4 (by decide) (fun hb4 => ?_) (fun hb4 => False.elim (absurd hb4 (by decide)))
  first | refine Es_aload_n (hC _) dX5_buy_13 rfl ?_ | refine Es_aload_nN (hC _) dX5_buy_13 rfl ?_
  refine Sg_X5_9 (hC _) fl_X5_110 dX5_buy_14 ?_
  rw [h9]
  refine Es_if_lt (hC _) 43 dX5_buy_17 (by decide) (fun hb17 => False.elim (nI_pos (n := nt) (by omega) hb17)) (fun hb17 => ?_)
  first | refine Es_aload_n (hC _) dX5_buy_20 rfl ?_ | refine Es_aload_nN (hC _) dX5_buy_20 rfl ?_
  refine Sg_X5_9 (hC _) fl_X5_110 dX5_buy_21 ?_
  rw [h9]
  first | refine Es_aload_n (hC _) dX5_buy_24 rfl ?_ | refine Es_aload_nN (hC _) dX5_buy_24 rfl ?_
  refine Sg_X5_1 (hC _) fl_X5_17 dX5_buy_25 ?_
  refine Es_alen (hC _) dX5_buy_28 rfl rfl (by decide) ?_
  refine Es_icmp_ge (hC _) 43 dX5_buy_29 (by decide) (fun hb29 => False.elim (nI_ge (a := nt) (b := 40) (by omega) (by omega) hb29)) (fun hb29 => ?_)
  first | refine Es_aload_n (hC _) dX5_buy_32 rfl ?_ | refine Es_aload_nN (hC _) dX5_buy_32 rfl ?_
  refine Sg_X5_5 (hC _) fl_X5_45 dX5_buy_33 ?_
  refine Es_iconst (v := 1) (hC _) dX5_buy_36 (by decide) ?_
  refine Es_fV (hC _) mv_X5_113 dX5_buy_37 (c_hasRoomFor (m := 1) hk hk6 (by decide)) rfl rfl ⟨_, rfl, rfl⟩ rfl rfl (by decide) (Nat.le_of_ble_eq_true rfl) ?_
  refine Es_if_ne (hC _) 50 dX5_buy_40 (by decide) (fun hb40 => ?_) (fun hb40 => False.elim (absurd hb40 (by rw [bI, if_pos hf6]; decide)))

  intro h hs
  refine Eh_new (h0 := h) (l := []) (C := RX2) (T := TX2) (N := 12) (ci := 2) (fs := [.int 0, .int 0, .int 0, .null, .null, .null, .int 0, .int 0, .int 0, .int 0, .int 0, .int 0]) trivial (hC _) tyX2 tyX2_ok uw_X2 rfl cl_X5_15 in_X2 it_X2 dX5_buy_50 (by intro j hj; exact (by decide : ∀ j, j < 12 → defaultValue (tyX2 j) = vp_V [.int 0, .int 0, .int 0, .null, .null, .null, .int 0, .int 0, .int 0, .int 0, .int 0, .int 0] j) j hj) (by decide) (by decide) (fun a hl => ?_)
  refine En_dup (hC _) dX5_buy_53 rfl ?_
  refine En_aload_n (hC _) dX5_buy_54 rfl ?_
  refine En_get (hC _) 9 uw_X5 rfl fl_X5_110 (by decide) dX5_buy_55 (hp_base hl (hs.1 0 0 rfl)) rfl ?_
  rw [h9]
  refine En_iload_n (hC _) dX5_buy_58 rfl ?_
  refine En_aload_n (hC _) dX5_buy_59 rfl ?_
  refine En_get (hC _) 11 uw_X5 rfl fl_X5_116 (by decide) dX5_buy_60 (hp_base hl (hs.1 0 0 rfl)) rfl ?_
  refine En_callI (As := [.int (nI nt), .int (nI m), .int (B 0 0 11)]) (rest := [.ref a]) (hC _) mi_X5_119 dX5_buy_63 (i_X2 (h0 := h) hl) rfl rfl (by decide) (Nat.le_of_ble_eq_true rfl) (by decide) (by decide) (fun v9 h9 q9 => ?_)
  obtain ⟨rfl, q1, q2, q3, rfl, hl⟩ := q9
  refine En_astore_n (lv' := [_, _, _]) (hC _) dX5_buy_66 (by decide) rfl rfl ?_
  have hs1 := sH_T (mk := nI m) (dy := B 0 0 11) hs (by omega) hN hl
  have ea : adT ad nt a q1 q2 q3 21 nt = a := if_pos rfl
  have e00 : adT ad nt a q1 q2 q3 0 0 = ad 0 0 := rfl
  have e25 : adT ad nt a q1 q2 q3 25 0 = ad 25 0 := rfl
  generalize adT ad nt a q1 q2 q3 = ad1 at hs1 ea e00 e25
  refine (show Es_y (je_Cm yX5_buy cX5_buy 3 (some .int) 5 4 38 (fun v h1 => v = some (.int (nI nt)) ∧ ∃ ad1 : sA, ad1 0 0 = ad 0 0 ∧ ad1 25 0 = ad 25 0 ∧ sH ad1 nw (nt + 1) (cLog (uB (uB (cSt (BT B nt (nI m) (B 0 0 11)) nt) 0 0 9 (nI (nt + 1))) 21 nt 10 (-1)) k ((uB (cSt (BT B nt (nI m) (B 0 0 11)) nt) 0 0 9 (nI (nt + 1))) 0 0 11) ((uB (cSt (BT B nt (nI m) (B 0 0 11)) nt) 0 0 9 (nI (nt + 1))) 21 nt 0) (-1)) (wS (Lty L nt) nt (wUD (fun _ => 0) (fun _ => 180) 1 (B 4 0 m))) h1)) 3 67 [some (.ref (ad 0 0)), some (.int (nI m)), some (.ref a)] [] ad1 nw (nt + 1) (BT B nt (nI m) (B 0 0 11)) (Lty L nt) _ _ from ?_) _ hs1
  rw [← ea, ← e00]
  refine Es_aload_n_y (hC _) dX5_buy_67 rfl ?_
  refine Es_aload_n_y (hC _) dX5_buy_68 rfl ?_
  refine Sg_X5_3_y (hC _) fl_X5_36 dX5_buy_69 ?_
  refine Es_iload_n_y (hC _) dX5_buy_72 rfl ?_
  refine Es_fS_y (hC _) ms_X5_96 dX5_buy_73 (c_at_y (kd := 4) (n := 4) rfl rfl rfl hm (by decide)) rfl rfl (by decide) (Nat.le_of_ble_eq_true rfl) ?_
  refine Es_fV_y (hC _) mv_X5_122 dX5_buy_76 (c_startTread_y (show nt < nt + 1 by omega)) (ok21 (by omega)) rfl ⟨_, rfl, rfl⟩ rfl rfl (by decide) (Nat.le_of_ble_eq_true rfl) ?_
  have e0 : (cSt (BT B nt (nI m) (B 0 0 11)) nt) 21 nt 0 = nI nt := by
    unfold cSt cAdd
    rw [uB_n (by omega), uB_k (by decide), uB_k (by decide), uB_n (by omega), uB_n (by omega)]
    show (if nt = nt then tyN (nI nt) (nI m) (B 0 0 11) else B 21 nt) 0 = nI nt
    rw [if_pos rfl]
    rfl
  refine Es_aload_n_y (hC _) dX5_buy_79 rfl ?_
  refine Sg_X5_1_y (hC _) fl_X5_17 dX5_buy_80 ?_
  refine Es_aload_n_y (hC _) dX5_buy_83 rfl ?_
  refine Sg_X2_0_y (hC _) fl_X5_125 dX5_buy_84 (show nt < nt + 1 by omega) ?_
  rw [e0]
  refine Es_aload_n_y (hC _) dX5_buy_87 rfl ?_
  intro h2 hs2
  refine En_aast (t := 1) (hC _) (Or.inl rfl) dX5_buy_88 (hs2.1 2 0 rfl) (hs2.1 21 nt (ok21 (by omega))) (vp_in_nI h40 (by decide)) ?_
  refine (show Es (je_Cm yX5_buy cX5_buy 3 (some .int) 5 4 38 _) 3 89 [some (.ref (ad1 0 0)), some (.int (nI m)), some (.ref (ad1 21 nt))] [] ad1 nw (nt + 1) (cSt (BT B nt (nI m) (B 0 0 11)) nt) (wS (Lty L nt) nt (wUD (fun _ => 0) (fun _ => 180) 1 (B 4 0 m))) _ _ from ?_) _ (by rw [nI_clamp (by omega)]; exact sH_of_y hs2)
  first | refine Es_aload_n (hC _) dX5_buy_89 rfl ?_ | refine Es_aload_nN (hC _) dX5_buy_89 rfl ?_
  first | refine Es_aload_n (hC _) dX5_buy_90 rfl ?_ | refine Es_aload_nN (hC _) dX5_buy_90 rfl ?_
  refine Sg_X2_0 (hC _) fl_X5_125 dX5_buy_91 (by omega) ?_
  rw [e0]
  refine Es_iconst (v := 1) (hC _) dX5_buy_94 (by decide) ?_
  refine Es_iadd (hC _) dX5_buy_95 ?_
  rw [nI_1]
  refine Sp_X5_9 (hC _) fl_X5_110 dX5_buy_96 ?_
  first | refine Es_aload_n (hC _) dX5_buy_99 rfl ?_ | refine Es_aload_nN (hC _) dX5_buy_99 rfl ?_
  first | refine Es_aload_n (hC _) dX5_buy_100 rfl ?_ | refine Es_aload_nN (hC _) dX5_buy_100 rfl ?_
  refine Es_iconst (v := -1) (hC _) dX5_buy_101 (by decide) ?_
  refine Es_fV (hC _) mv_X5_128 dX5_buy_102 (c_move (k := k) (by omega) (by rw [uB_k (by decide), cSt_k (by decide) (by decide) (by decide)]; exact hk) (by omega)) rfl rfl ⟨_, rfl, rfl⟩ rfl rfl (by decide) (Nat.le_of_ble_eq_true rfl) ?_
  first | refine Es_aload_n (hC _) dX5_buy_105 rfl ?_ | refine Es_aload_nN (hC _) dX5_buy_105 rfl ?_
  refine Sg_X2_0 (hC _) fl_X5_125 dX5_buy_106 (by omega) ?_
  rw [show (cLog (uB (uB (cSt (BT B nt (nI m) (B 0 0 11)) nt) 0 0 9 (nI (nt + 1))) 21 nt 10 (-1)) k ((uB (cSt (BT B nt (nI m) (B 0 0 11)) nt) 0 0 9 (nI (nt + 1))) 0 0 11) ((uB (cSt (BT B nt (nI m) (B 0 0 11)) nt) 0 0 9 (nI (nt + 1))) 21 nt 0) (-1)) 21 nt 0 = nI nt by rw [cLog, uB_k (by decide), uB_k (by decide), uB_k (by decide), uB_k (by decide), uB_n (by omega), uB_k (by decide), e0]]
  exact fun h3 hs3 => En_iret dX5_buy_109 rfl ⟨rfl, ad1, rfl, e25, hs3⟩
set_option maxRecDepth 100000 in
set_option maxHeartbeats 4000000 in
theorem r_buy_1 {ad : sA} {nw nt : Nat} {B : sB} {L : sL} {y : Int32} (hm : out y 4) : Cf yX6_buy cX6_buy 3 (some FieldType.int) 5 [.ref (ad 25 0), .int y] ad nw nt B L (some (.int (-1))) (uB B 30 0 1 (B 30 0 1 + 1)) (L) := by
  have hC : ∀ Q, je_Ok (sCm yX6_buy cX6_buy 3 (some FieldType.int) 5 ad nw nt Q) RX6 cX6_buy 3 5 := fun _ => je_Cm_ok
  refine Cs_of [some (.ref (ad 25 0)), some (.int y), none] (by decide) rfl (Nat.le_of_ble_eq_true rfl) ?_
  refine Es_iload_n (hC _) dX6_buy_0 rfl ?_
  refine Es_iconst (v := 4) (hC _) dX6_buy_1 (by decide) ?_
  refine Es_fS (hC _) ms_X6_89 dX6_buy_2 (r_isIn_out (n := 4) hm) rfl rfl (by decide) (Nat.le_of_ble_eq_true rfl) ?_
  refine Es_if_ne (hC _) 14 dX6_buy_5 (by decide) (fun hb5 => False.elim (absurd rfl hb5)) (fun hb5 => ?_)
  first | refine Es_aload_n (hC _) dX6_buy_8 rfl ?_ | refine Es_aload_nN (hC _) dX6_buy_8 rfl ?_
  refine Es_iconst (v := -1) (hC _) dX6_buy_9 (by decide) ?_
  refine Es_fV (hC _) mv_X6_93 dX6_buy_10 (r_refuse (k := 1) (by decide) (by decide)) rfl rfl ⟨_, rfl, rfl⟩ rfl rfl (by decide) (Nat.le_of_ble_eq_true rfl) ?_
  exact Es_iret dX6_buy_13 rfl ⟨rfl, rfl, rfl⟩

set_option maxRecDepth 100000 in
set_option maxHeartbeats 4000000 in
theorem r_buy_40 {ad : sA} {nw nt : Nat} {B : sB} {L : sL} {m : Nat} (hm : m < 4) (h5 : B 25 0 5 = nI 40) : Cf yX6_buy cX6_buy 3 (some FieldType.int) 5 [.ref (ad 25 0), .int (nI m)] ad nw nt B L (some (.int (-6))) (uB B 30 0 6 (B 30 0 6 + 1)) (L) := by
  have hC : ∀ Q, je_Ok (sCm yX6_buy cX6_buy 3 (some FieldType.int) 5 ad nw nt Q) RX6 cX6_buy 3 5 := fun _ => je_Cm_ok
  refine Cs_of [some (.ref (ad 25 0)), some (.int (nI m)), none] (by decide) rfl (Nat.le_of_ble_eq_true rfl) ?_
  refine Es_iload_n (hC _) dX6_buy_0 rfl ?_
  refine Es_iconst (v := 4) (hC _) dX6_buy_1 (by decide) ?_
  refine Es_fS (hC _) ms_X6_89 dX6_buy_2 (r_isIn_in (n := 4) hm (by decide)) rfl rfl (by decide) (Nat.le_of_ble_eq_true rfl) ?_
  refine Es_if_ne (hC _) 14 dX6_buy_5 (by decide) (fun hb5 => ?_) (fun hb5 => False.elim (absurd hb5 (by decide)))
  first | refine Es_aload_n (hC _) dX6_buy_14 rfl ?_ | refine Es_aload_nN (hC _) dX6_buy_14 rfl ?_
  refine Sg_X6_5 (hC _) fl_X6_107 dX6_buy_15 ?_
  rw [h5]
  refine Es_bipush (v := 40) (hC _) dX6_buy_18 (by decide) ?_
  refine Es_icmp_eq (hC _) 31 dX6_buy_20 (by decide) (fun hb20 => ?_) (fun hb20 => False.elim (hb20 (by decide)))
  first | refine Es_aload_n (hC _) dX6_buy_31 rfl ?_ | refine Es_aload_nN (hC _) dX6_buy_31 rfl ?_
  refine Es_bipush (v := -6) (hC _) dX6_buy_32 (by decide) ?_
  refine Es_fV (hC _) mv_X6_93 dX6_buy_34 (r_refuse (k := 6) (by decide) (by decide)) rfl rfl ⟨_, rfl, rfl⟩ rfl rfl (by decide) (Nat.le_of_ble_eq_true rfl) ?_
  exact Es_iret dX6_buy_37 rfl ⟨rfl, rfl, rfl⟩

set_option maxRecDepth 100000 in
set_option maxHeartbeats 4000000 in
theorem r_buy_log {ad : sA} {nw nt : Nat} {B : sB} {L : sL} {m n k : Nat} (hm : m < 4) (h5 : B 25 0 5 = nI n) (h40 : n < 40) (hk : B 25 0 7 = nI k) (hk6 : k ≤ 600) (hf6 : ¬ k + 1 ≤ 600) : Cf yX6_buy cX6_buy 3 (some FieldType.int) 5 [.ref (ad 25 0), .int (nI m)] ad nw nt B L (some (.int (-6))) (uB B 30 0 6 (B 30 0 6 + 1)) (L) := by
  have hC : ∀ Q, je_Ok (sCm yX6_buy cX6_buy 3 (some FieldType.int) 5 ad nw nt Q) RX6 cX6_buy 3 5 := fun _ => je_Cm_ok
  refine Cs_of [some (.ref (ad 25 0)), some (.int (nI m)), none] (by decide) rfl (Nat.le_of_ble_eq_true rfl) ?_
  refine Es_iload_n (hC _) dX6_buy_0 rfl ?_
  refine Es_iconst (v := 4) (hC _) dX6_buy_1 (by decide) ?_
  refine Es_fS (hC _) ms_X6_89 dX6_buy_2 (r_isIn_in (n := 4) hm (by decide)) rfl rfl (by decide) (Nat.le_of_ble_eq_true rfl) ?_
  refine Es_if_ne (hC _) 14 dX6_buy_5 (by decide) (fun hb5 => ?_) (fun hb5 => False.elim (absurd hb5 (by decide)))
  first | refine Es_aload_n (hC _) dX6_buy_14 rfl ?_ | refine Es_aload_nN (hC _) dX6_buy_14 rfl ?_
  refine Sg_X6_5 (hC _) fl_X6_107 dX6_buy_15 ?_
  rw [h5]
  refine Es_bipush (v := 40) (hC _) dX6_buy_18 (by decide) ?_
  refine Es_icmp_eq (hC _) 31 dX6_buy_20 (by decide) (fun hb20 => False.elim ((by have := (nI_eq (a := n) (b := 40) (by omega) (by omega)).mp hb20; omega))) (fun hb20 => ?_)
  first | refine Es_aload_n (hC _) dX6_buy_23 rfl ?_ | refine Es_aload_nN (hC _) dX6_buy_23 rfl ?_
  refine Es_iconst (v := 1) (hC _) dX6_buy_24 (by decide) ?_
  refine Es_fV (hC _) mv_X6_110 dX6_buy_25 (r_hasRoom (m := 1) hk hk6 (by decide)) rfl rfl ⟨_, rfl, rfl⟩ rfl rfl (by decide) (Nat.le_of_ble_eq_true rfl) ?_
  refine Es_if_ne (hC _) 38 dX6_buy_28 (by decide) (fun hb28 => False.elim (hb28 (by rw [bI, if_neg hf6]))) (fun hb28 => ?_)
  first | refine Es_aload_n (hC _) dX6_buy_31 rfl ?_ | refine Es_aload_nN (hC _) dX6_buy_31 rfl ?_
  refine Es_bipush (v := -6) (hC _) dX6_buy_32 (by decide) ?_
  refine Es_fV (hC _) mv_X6_93 dX6_buy_34 (r_refuse (k := 6) (by decide) (by decide)) rfl rfl ⟨_, rfl, rfl⟩ rfl rfl (by decide) (Nat.le_of_ble_eq_true rfl) ?_
  exact Es_iret dX6_buy_37 rfl ⟨rfl, rfl, rfl⟩

set_option maxRecDepth 100000 in
set_option maxHeartbeats 4000000 in
theorem r_buy_yes {ad : sA} {nw nt : Nat} {B : sB} {L : sL} {m n k : Nat} (hm : m < 4) (h5 : B 25 0 5 = nI n) (h40 : n < 40) (hk : B 25 0 7 = nI k) (hk6 : k ≤ 600) (hf6 : k + 1 ≤ 600) : Cf yX6_buy cX6_buy 3 (some FieldType.int) 5 [.ref (ad 25 0), .int (nI m)] ad nw nt B L (some (.int (nI n))) (rLog (uB (uB (uB (uB (uB (uB (uB (uB B 25 0 5 (nI (n + 1))) 42 0 n (nI m)) 43 0 n (B 25 0 3)) 47 0 n (-1)) 46 0 n 0) 49 0 n 1) 50 0 (13 * n) 0) 51 0 (13 * n) 180) k n) (L) := by
  have hC : ∀ Q, je_Ok (sCm yX6_buy cX6_buy 3 (some FieldType.int) 5 ad nw nt Q) RX6 cX6_buy 3 5 := fun _ => je_Cm_ok
  refine Cs_of [some (.ref (ad 25 0)), some (.int (nI m)), none] (by decide) rfl (Nat.le_of_ble_eq_true rfl) ?_
  refine Es_iload_n (hC _) dX6_buy_0 rfl ?_
  refine Es_iconst (v := 4) (hC _) dX6_buy_1 (by decide) ?_
  refine Es_fS (hC _) ms_X6_89 dX6_buy_2 (r_isIn_in (n := 4) hm (by decide)) rfl rfl (by decide) (Nat.le_of_ble_eq_true rfl) ?_
  refine Es_if_ne (hC _) 14 dX6_buy_5 (by decide) (fun hb5 => ?_) (fun hb5 => False.elim (absurd hb5 (by decide)))
  first | refine Es_aload_n (hC _) dX6_buy_14 rfl ?_ | refine Es_aload_nN (hC _) dX6_buy_14 rfl ?_
  refine Sg_X6_5 (hC _) fl_X6_107 dX6_buy_15 ?_
  rw [h5]
  refine Es_bipush (v := 40) (hC _) dX6_buy_18 (by decide) ?_
  refine Es_icmp_eq (hC _) 31 dX6_buy_20 (by decide) (fun hb20 => False.elim ((by have := (nI_eq (a := n) (b := 40) (by omega) (by omega)).mp hb20; omega))) (fun hb20 => ?_)
  first | refine Es_aload_n (hC _) dX6_buy_23 rfl ?_ | refine Es_aload_nN (hC _) dX6_buy_23 rfl ?_
  refine Es_iconst (v := 1) (hC _) dX6_buy_24 (by decide) ?_
  refine Es_fV (hC _) mv_X6_110 dX6_buy_25 (r_hasRoom (m := 1) hk hk6 (by decide)) rfl rfl ⟨_, rfl, rfl⟩ rfl rfl (by decide) (Nat.le_of_ble_eq_true rfl) ?_
  refine Es_if_ne (hC _) 38 dX6_buy_28 (by decide) (fun hb28 => ?_) (fun hb28 => False.elim (absurd hb28 (by rw [bI, if_pos hf6]; decide)))
  first | refine Es_aload_n (hC _) dX6_buy_38 rfl ?_ | refine Es_aload_nN (hC _) dX6_buy_38 rfl ?_
  refine Sg_X6_5 (hC _) fl_X6_107 dX6_buy_39 ?_
  rw [h5]
  refine Es_istore_n (lv' := [_, _, _]) (hC _) dX6_buy_42 (by decide) rfl rfl ?_
  first | refine Es_aload_n (hC _) dX6_buy_43 rfl ?_ | refine Es_aload_nN (hC _) dX6_buy_43 rfl ?_
  refine Es_dup (hC _) dX6_buy_44 rfl ?_
  refine Sg_X6_5 (hC _) fl_X6_107 dX6_buy_45 ?_
  rw [h5]
  refine Es_iconst (v := 1) (hC _) dX6_buy_48 (by decide) ?_
  refine Es_iadd (hC _) dX6_buy_49 ?_
  rw [nI_1]
  refine Sp_X6_5 (hC _) fl_X6_107 dX6_buy_50 ?_
  first | refine Es_aload_n (hC _) dX6_buy_53 rfl ?_ | refine Es_aload_nN (hC _) dX6_buy_53 rfl ?_
  refine Sg_X6_12 (hC _) fl_X6_35 dX6_buy_54 ?_
  refine Es_iload_n (hC _) dX6_buy_57 rfl ?_
  refine Es_iload_n (hC _) dX6_buy_58 rfl ?_
  refine Es_iastN (hC _) dX6_buy_59 rfl (fun _ => rfl) rfl (by omega) (by decide) ?_
  first | refine Es_aload_n (hC _) dX6_buy_60 rfl ?_ | refine Es_aload_nN (hC _) dX6_buy_60 rfl ?_
  refine Sg_X6_13 (hC _) fl_X6_38 dX6_buy_61 ?_
  refine Es_iload_n (hC _) dX6_buy_64 rfl ?_
  first | refine Es_aload_n (hC _) dX6_buy_65 rfl ?_ | refine Es_aload_nN (hC _) dX6_buy_65 rfl ?_
  refine Sg_X6_3 (hC _) fl_X6_104 dX6_buy_66 ?_
  rw [uB_k (by decide), uB_n (by decide)]
  refine Es_iastN (hC _) dX6_buy_69 rfl (fun _ => rfl) rfl (by omega) (by decide) ?_
  first | refine Es_aload_n (hC _) dX6_buy_70 rfl ?_ | refine Es_aload_nN (hC _) dX6_buy_70 rfl ?_
  refine Sg_X6_17 (hC _) fl_X6_50 dX6_buy_71 ?_
  refine Es_iload_n (hC _) dX6_buy_74 rfl ?_
  refine Es_iconst (v := -1) (hC _) dX6_buy_75 (by decide) ?_
  refine Es_iastN (hC _) dX6_buy_76 rfl (fun _ => rfl) rfl (by omega) (by decide) ?_
  first | refine Es_aload_n (hC _) dX6_buy_77 rfl ?_ | refine Es_aload_nN (hC _) dX6_buy_77 rfl ?_
  refine Es_iload_n (hC _) dX6_buy_78 rfl ?_
  refine Es_fV (hC _) mv_X6_114 dX6_buy_79 (r_fresh h40) rfl rfl ⟨_, rfl, rfl⟩ rfl rfl (by decide) (Nat.le_of_ble_eq_true rfl) ?_
  first | refine Es_aload_n (hC _) dX6_buy_82 rfl ?_ | refine Es_aload_nN (hC _) dX6_buy_82 rfl ?_
  refine Es_iload_n (hC _) dX6_buy_83 rfl ?_
  refine Es_fV (hC _) mv_X6_118 dX6_buy_84 (r_log (k := k) h40 (by rw [uB_k (by decide), uB_k (by decide), uB_k (by decide), uB_k (by decide), uB_k (by decide), uB_k (by decide), uB_k (by decide), uB_n (by decide)]; exact hk) (by omega)) rfl rfl ⟨_, rfl, rfl⟩ rfl rfl (by decide) (Nat.le_of_ble_eq_true rfl) ?_
  refine Es_iload_n (hC _) dX6_buy_87 rfl ?_
  exact Es_iret dX6_buy_88 rfl ⟨rfl, rfl, rfl⟩

