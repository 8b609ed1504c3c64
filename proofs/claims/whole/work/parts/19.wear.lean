set_option maxRecDepth 100000 in
set_option maxHeartbeats 4000000 in
theorem l_cf {ad : sA} {nw nt : Nat} {B : sB} {L : sL} {bc bs : Nat} {a0 b0 g : Int64} : ∀ (n s : Nat) (x y : Int64), s + n = 100 → gcS n x y = g → Es (sCm yX4_commonFactor cX4_commonFactor 11 (some .long) 0 ad nw nt (fun v B1 L1 => v = some (.long g) ∧ B1 = B ∧ L1 = L)) 11 9 [some (.long a0), none, some (.long b0), none, some (.long x), none, some (.long y), none, some (.int (nI s)), none, none] [] ad nw nt B L bc bs := by
  have hC : ∀ Q, je_Ok (sCm yX4_commonFactor cX4_commonFactor 11 (some .long) 0 ad nw nt Q) RX4 cX4_commonFactor 11 0 := fun _ => je_Cm_ok
  intro n
  induction n with
  | zero =>
    intro s x y hs hg
    refine Es_iload (hC _) dX4_commonFactor_9 rfl ?_
    refine Es_bipush (v := 100) (hC _) dX4_commonFactor_11 (by decide) ?_
    refine Es_icmp_ge (hC _) 44 dX4_commonFactor_13 (by decide) (fun hb13 => ?_) (fun hb13 => False.elim (hb13 (nI_le (a := 100) (b := s) (by omega) (by omega))))
    refine Es_lload (hC _) dX4_commonFactor_44 rfl ?_
    exact Es_lret dX4_commonFactor_46 ⟨by rw [← hg]; rfl, rfl, rfl⟩
  | succ n ih =>
    intro s x y hs hg
    refine Es_iload (hC _) dX4_commonFactor_9 rfl ?_
    refine Es_bipush (v := 100) (hC _) dX4_commonFactor_11 (by decide) ?_
    refine Es_icmp_ge (hC _) 44 dX4_commonFactor_13 (by decide) (fun hb13 => False.elim (nI_ge (b := 100) (a := s) (by omega) (by decide) hb13)) (fun hb13 => ?_)
    refine Es_lload (hC _) dX4_commonFactor_16 rfl ?_
    refine Es_lconst (v := 0) (hC _) dX4_commonFactor_18 (by decide) ?_
    refine Es_lcmp (hC _) dX4_commonFactor_19 ?_
    refine Es_if_eq (hC _) 44 dX4_commonFactor_20 (by decide) (fun hb20 => ?_) (fun hb20 => ?_)
    · refine Es_lload (hC _) dX4_commonFactor_44 rfl ?_
      exact Es_lret dX4_commonFactor_46 ⟨by rw [← hg]; simp only [gcS]; rw [if_pos ((lgz _ _).mp hb20)], rfl, rfl⟩
    · refine Es_lload (hC _) dX4_commonFactor_23 rfl ?_
      refine Es_lload (hC _) dX4_commonFactor_25 rfl ?_
      refine Es_lrem (hC _) dX4_commonFactor_27 (fun z => hb20 ((lgz _ _).mpr z)) ?_
      refine Es_lstore (lv' := [_, _, _, _, _, _, _, _, _, _, _]) (hC _) dX4_commonFactor_28 (by decide) rfl rfl ?_
      refine Es_lload (hC _) dX4_commonFactor_30 rfl ?_
      refine Es_lstore (lv' := [_, _, _, _, _, _, _, _, _, _, _]) (hC _) dX4_commonFactor_32 (by decide) rfl rfl ?_
      refine Es_lload (hC _) dX4_commonFactor_34 rfl ?_
      refine Es_lstore (lv' := [_, _, _, _, _, _, _, _, _, _, _]) (hC _) dX4_commonFactor_36 (by decide) rfl rfl ?_
      refine Es_iinc (lv' := [_, _, _, _, _, _, _, _, _, _, _]) (hC _) dX4_commonFactor_38 (by decide) rfl (show _ + Int32.ofInt (1) = _ + (1) from rfl) rfl rfl ?_
      refine Es_goto (hC _) 9 dX4_commonFactor_41 (by decide) ?_
      refine Es.kill 9 (lv' := [_, _, _, _, _, _, _, _, _, _, _]) rfl ?_
      rw [nI_1]
      exact ih (s + 1) y (x - x / y * y) (by omega) (by rw [← hg]; simp only [gcS]; rw [if_neg (fun z => hb20 ((lgz _ _).mpr z))])
set_option maxRecDepth 100000 in
set_option maxHeartbeats 4000000 in
theorem c_commonFactor {ad : sA} {nw nt : Nat} {B : sB} {L : sL} {a0 b0 : Int64} : Cf yX4_commonFactor cX4_commonFactor 11 (some FieldType.long) 0 [.long a0, .long b0] ad nw nt B L (some (.long (gcS 100 a0 b0))) (B) (L) := by
  have hC : ∀ Q, je_Ok (sCm yX4_commonFactor cX4_commonFactor 11 (some FieldType.long) 0 ad nw nt Q) RX4 cX4_commonFactor 11 0 := fun _ => je_Cm_ok
  refine Cs_of [some (.long a0), none, some (.long b0), none, none, none, none, none, none, none, none] (by decide) rfl (Nat.le_of_ble_eq_true rfl) ?_
  refine Es_lload_n (hC _) dX4_commonFactor_0 rfl ?_
  refine Es_lstore (lv' := [_, _, _, _, _, _, _, _, _, _, _]) (hC _) dX4_commonFactor_1 (by decide) rfl rfl ?_
  refine Es_lload_n (hC _) dX4_commonFactor_3 rfl ?_
  refine Es_lstore (lv' := [_, _, _, _, _, _, _, _, _, _, _]) (hC _) dX4_commonFactor_4 (by decide) rfl rfl ?_
  refine Es_iconst (v := 0) (hC _) dX4_commonFactor_6 (by decide) ?_
  refine Es_istore (lv' := [_, _, _, _, _, _, _, _, _, _, _]) (hC _) dX4_commonFactor_7 (by decide) rfl rfl ?_
  exact l_cf 100 0 a0 b0 rfl rfl

set_option maxRecDepth 100000 in
set_option maxHeartbeats 4000000 in
theorem c_become_0 {ad : sA} {nw nt : Nat} {B : sB} {L : sL} {t : Nat} (ht : t < nt) {u v : Int64} (hu : u ≤ 0) : Cf yX4_become cX4_become 7 none 1 [.ref (ad 24 t), .long u, .long v] ad nw nt B L (none) (B) (uL (uL L 24 t 0 0) 24 t 1 1) := by
  have hC : ∀ Q, je_Ok (sCm yX4_become cX4_become 7 none 1 ad nw nt Q) RX4 cX4_become 7 1 := fun _ => je_Cm_ok
  refine Cs_of [some (.ref (ad 24 t)), some (.long u), none, some (.long v), none, none, none] (by decide) rfl (Nat.le_of_ble_eq_true rfl) ?_
  refine Es_lload_n (hC _) dX4_become_0 rfl ?_
  refine Es_lload_n (hC _) dX4_become_1 rfl ?_
  refine Es_fS (hC _) ms_X4_18 dX4_become_2 c_commonFactor rfl rfl (by decide) (Nat.le_of_ble_eq_true rfl) ?_
  refine Es_lstore (lv' := [_, _, _, _, _, _, _]) (hC _) dX4_become_5 (by decide) rfl rfl ?_
  refine Es_lload_n (hC _) dX4_become_7 rfl ?_
  refine Es_lconst (v := 0) (hC _) dX4_become_8 (by decide) ?_
  refine Es_lcmp (hC _) dX4_become_9 ?_
  refine Es_if_le (hC _) 26 dX4_become_10 (by decide) (fun hb10 => ?_) (fun hb10 => False.elim (hb10 ((lgle _ _).mpr hu)))
  first | refine Es_aload_n (hC _) dX4_become_26 rfl ?_ | refine Es_aload_nN (hC _) dX4_become_26 rfl ?_
  refine Es_lconst (v := 0) (hC _) dX4_become_27 (by decide) ?_
  refine Sp_X4_0 (hC _) fl_X4_9 dX4_become_28 ht ?_
  first | refine Es_aload_n (hC _) dX4_become_31 rfl ?_ | refine Es_aload_nN (hC _) dX4_become_31 rfl ?_
  refine Es_lconst (v := 1) (hC _) dX4_become_32 (by decide) ?_
  refine Sp_X4_1 (hC _) fl_X4_15 dX4_become_33 ht ?_
  exact Es_vret dX4_become_36 ⟨rfl, rfl, rfl⟩

set_option maxRecDepth 100000 in
set_option maxHeartbeats 4000000 in
theorem c_become_1 {ad : sA} {nw nt : Nat} {B : sB} {L : sL} {t : Nat} (ht : t < nt) {u v : Int64} (hu : ¬ u ≤ 0) (hv : ¬ v ≤ 0) (hg : 0 < gcS 100 u v) : Cf yX4_become cX4_become 7 none 1 [.ref (ad 24 t), .long u, .long v] ad nw nt B L (none) (B) (uL (uL L 24 t 0 (u / gcS 100 u v)) 24 t 1 (v / gcS 100 u v)) := by
  have hC : ∀ Q, je_Ok (sCm yX4_become cX4_become 7 none 1 ad nw nt Q) RX4 cX4_become 7 1 := fun _ => je_Cm_ok
  refine Cs_of [some (.ref (ad 24 t)), some (.long u), none, some (.long v), none, none, none] (by decide) rfl (Nat.le_of_ble_eq_true rfl) ?_
  refine Es_lload_n (hC _) dX4_become_0 rfl ?_
  refine Es_lload_n (hC _) dX4_become_1 rfl ?_
  refine Es_fS (hC _) ms_X4_18 dX4_become_2 c_commonFactor rfl rfl (by decide) (Nat.le_of_ble_eq_true rfl) ?_
  refine Es_lstore (lv' := [_, _, _, _, _, _, _]) (hC _) dX4_become_5 (by decide) rfl rfl ?_
  refine Es_lload_n (hC _) dX4_become_7 rfl ?_
  refine Es_lconst (v := 0) (hC _) dX4_become_8 (by decide) ?_
  refine Es_lcmp (hC _) dX4_become_9 ?_
  refine Es_if_le (hC _) 26 dX4_become_10 (by decide) (fun hb10 => False.elim (hu ((lgle _ _).mp hb10))) (fun hb10 => ?_)
  refine Es_lload_n (hC _) dX4_become_13 rfl ?_
  refine Es_lconst (v := 0) (hC _) dX4_become_14 (by decide) ?_
  refine Es_lcmp (hC _) dX4_become_15 ?_
  refine Es_if_le (hC _) 26 dX4_become_16 (by decide) (fun hb16 => False.elim (hv ((lgle _ _).mp hb16))) (fun hb16 => ?_)
  refine Es_lload (hC _) dX4_become_19 rfl ?_
  refine Es_lconst (v := 0) (hC _) dX4_become_21 (by decide) ?_
  refine Es_lcmp (hC _) dX4_become_22 ?_
  refine Es_if_gt (hC _) 37 dX4_become_23 (by decide) (fun hb23 => ?_) (fun hb23 => False.elim (hb23 ((lggt _ _).mpr hg)))
  first | refine Es_aload_n (hC _) dX4_become_37 rfl ?_ | refine Es_aload_nN (hC _) dX4_become_37 rfl ?_
  refine Es_lload_n (hC _) dX4_become_38 rfl ?_
  refine Es_lload (hC _) dX4_become_39 rfl ?_
  refine Es_ldiv (hC _) dX4_become_41 (fun z => by rw [z] at hg; exact absurd hg (by decide)) ?_
  refine Sp_X4_0 (hC _) fl_X4_9 dX4_become_42 ht ?_
  first | refine Es_aload_n (hC _) dX4_become_45 rfl ?_ | refine Es_aload_nN (hC _) dX4_become_45 rfl ?_
  refine Es_lload_n (hC _) dX4_become_46 rfl ?_
  refine Es_lload (hC _) dX4_become_47 rfl ?_
  refine Es_ldiv (hC _) dX4_become_49 (fun z => by rw [z] at hg; exact absurd hg (by decide)) ?_
  refine Sp_X4_1 (hC _) fl_X4_15 dX4_become_50 ht ?_
  exact Es_vret dX4_become_53 ⟨rfl, rfl, rfl⟩

set_option maxRecDepth 100000 in
set_option maxHeartbeats 4000000 in
theorem c_become_0n {ad : sA} {nw nt : Nat} {B : sB} {L : sL} {u v : Int64} (hu : u ≤ 0) : Cf yX4_become cX4_become 7 none 1 [.ref (ad 17 0), .long u, .long v] ad nw nt B L (none) (B) (uL (uL L 17 0 0 0) 17 0 1 1) := by
  have hC : ∀ Q, je_Ok (sCm yX4_become cX4_become 7 none 1 ad nw nt Q) RX4 cX4_become 7 1 := fun _ => je_Cm_ok
  refine Cs_of [some (.ref (ad 17 0)), some (.long u), none, some (.long v), none, none, none] (by decide) rfl (Nat.le_of_ble_eq_true rfl) ?_
  refine Es_lload_n (hC _) dX4_become_0 rfl ?_
  refine Es_lload_n (hC _) dX4_become_1 rfl ?_
  refine Es_fS (hC _) ms_X4_18 dX4_become_2 c_commonFactor rfl rfl (by decide) (Nat.le_of_ble_eq_true rfl) ?_
  refine Es_lstore (lv' := [_, _, _, _, _, _, _]) (hC _) dX4_become_5 (by decide) rfl rfl ?_
  refine Es_lload_n (hC _) dX4_become_7 rfl ?_
  refine Es_lconst (v := 0) (hC _) dX4_become_8 (by decide) ?_
  refine Es_lcmp (hC _) dX4_become_9 ?_
  refine Es_if_le (hC _) 26 dX4_become_10 (by decide) (fun hb10 => ?_) (fun hb10 => False.elim (hb10 ((lgle _ _).mpr hu)))
  first | refine Es_aload_n (hC _) dX4_become_26 rfl ?_ | refine Es_aload_nN (hC _) dX4_become_26 rfl ?_
  refine Es_lconst (v := 0) (hC _) dX4_become_27 (by decide) ?_
  refine Sp_X4_0n (hC _) fl_X4_9 dX4_become_28 ?_
  first | refine Es_aload_n (hC _) dX4_become_31 rfl ?_ | refine Es_aload_nN (hC _) dX4_become_31 rfl ?_
  refine Es_lconst (v := 1) (hC _) dX4_become_32 (by decide) ?_
  refine Sp_X4_1n (hC _) fl_X4_15 dX4_become_33 ?_
  exact Es_vret dX4_become_36 ⟨rfl, rfl, rfl⟩

set_option maxRecDepth 100000 in
set_option maxHeartbeats 4000000 in
theorem c_become_1n {ad : sA} {nw nt : Nat} {B : sB} {L : sL} {u v : Int64} (hu : ¬ u ≤ 0) (hv : ¬ v ≤ 0) (hg : 0 < gcS 100 u v) : Cf yX4_become cX4_become 7 none 1 [.ref (ad 17 0), .long u, .long v] ad nw nt B L (none) (B) (uL (uL L 17 0 0 (u / gcS 100 u v)) 17 0 1 (v / gcS 100 u v)) := by
  have hC : ∀ Q, je_Ok (sCm yX4_become cX4_become 7 none 1 ad nw nt Q) RX4 cX4_become 7 1 := fun _ => je_Cm_ok
  refine Cs_of [some (.ref (ad 17 0)), some (.long u), none, some (.long v), none, none, none] (by decide) rfl (Nat.le_of_ble_eq_true rfl) ?_
  refine Es_lload_n (hC _) dX4_become_0 rfl ?_
  refine Es_lload_n (hC _) dX4_become_1 rfl ?_
  refine Es_fS (hC _) ms_X4_18 dX4_become_2 c_commonFactor rfl rfl (by decide) (Nat.le_of_ble_eq_true rfl) ?_
  refine Es_lstore (lv' := [_, _, _, _, _, _, _]) (hC _) dX4_become_5 (by decide) rfl rfl ?_
  refine Es_lload_n (hC _) dX4_become_7 rfl ?_
  refine Es_lconst (v := 0) (hC _) dX4_become_8 (by decide) ?_
  refine Es_lcmp (hC _) dX4_become_9 ?_
  refine Es_if_le (hC _) 26 dX4_become_10 (by decide) (fun hb10 => False.elim (hu ((lgle _ _).mp hb10))) (fun hb10 => ?_)
  refine Es_lload_n (hC _) dX4_become_13 rfl ?_
  refine Es_lconst (v := 0) (hC _) dX4_become_14 (by decide) ?_
  refine Es_lcmp (hC _) dX4_become_15 ?_
  refine Es_if_le (hC _) 26 dX4_become_16 (by decide) (fun hb16 => False.elim (hv ((lgle _ _).mp hb16))) (fun hb16 => ?_)
  refine Es_lload (hC _) dX4_become_19 rfl ?_
  refine Es_lconst (v := 0) (hC _) dX4_become_21 (by decide) ?_
  refine Es_lcmp (hC _) dX4_become_22 ?_
  refine Es_if_gt (hC _) 37 dX4_become_23 (by decide) (fun hb23 => ?_) (fun hb23 => False.elim (hb23 ((lggt _ _).mpr hg)))
  first | refine Es_aload_n (hC _) dX4_become_37 rfl ?_ | refine Es_aload_nN (hC _) dX4_become_37 rfl ?_
  refine Es_lload_n (hC _) dX4_become_38 rfl ?_
  refine Es_lload (hC _) dX4_become_39 rfl ?_
  refine Es_ldiv (hC _) dX4_become_41 (fun z => by rw [z] at hg; exact absurd hg (by decide)) ?_
  refine Sp_X4_0n (hC _) fl_X4_9 dX4_become_42 ?_
  first | refine Es_aload_n (hC _) dX4_become_45 rfl ?_ | refine Es_aload_nN (hC _) dX4_become_45 rfl ?_
  refine Es_lload_n (hC _) dX4_become_46 rfl ?_
  refine Es_lload (hC _) dX4_become_47 rfl ?_
  refine Es_ldiv (hC _) dX4_become_49 (fun z => by rw [z] at hg; exact absurd hg (by decide)) ?_
  refine Sp_X4_1n (hC _) fl_X4_15 dX4_become_50 ?_
  exact Es_vret dX4_become_53 ⟨rfl, rfl, rfl⟩

set_option maxRecDepth 100000 in
set_option maxHeartbeats 4000000 in
theorem l_fw {Cx : je_C} {d : Nat} {ad : sA} {nw nt : Nat} {B : sB} {L : sL} {bc bs : Nat} {t r : Nat} {mean : Int32} (hC : je_Ok Cx RX2 cX2_fitWear 15 d) (hd : 1 ≤ d) (ht : t < nt) (hr : B 21 t 6 = nI r) (h12 : r ≤ 12) (kk : Es Cx 15 85 [some (.ref (ad 21 t)), some (.int mean), some (.long (sX (B 22 t) r)), none, some (.long (sX (B 23 t) r)), none, some (.long (sXX (B 22 t) r)), none, some (.long (sXY (B 22 t) (B 23 t) r)), none, some (.int (nI r)), none, none, none, none] [] ad nw nt B L bc bs) : ∀ (n i : Nat), i ≤ r → r - i = n → Es Cx 15 14 [some (.ref (ad 21 t)), some (.int mean), some (.long (sX (B 22 t) i)), none, some (.long (sX (B 23 t) i)), none, some (.long (sXX (B 22 t) i)), none, some (.long (sXY (B 22 t) (B 23 t) i)), none, some (.int (nI i)), none, none, none, none] [] ad nw nt B L bc bs := by
  intro n
  induction n with
  | zero =>
    intro i hi hn
    have hir : i = r := by omega
    subst hir
    refine Es_iload hC dX2_fitWear_14 rfl ?_
    first | refine Es_aload_n hC dX2_fitWear_16 rfl ?_ | refine Es_aload_nN hC dX2_fitWear_16 rfl ?_
    refine Sg_X2_6 hC fl_X2_44 dX2_fitWear_17 ht ?_
    rw [hr]
    refine Es_icmp_ge hC 85 dX2_fitWear_20 (by decide) (fun hb20 => ?_) (fun hb20 => False.elim (hb20 (nI_le (by omega) (by omega))))
    exact kk
  | succ n ih =>
    intro i hi hn
    refine Es_iload hC dX2_fitWear_14 rfl ?_
    first | refine Es_aload_n hC dX2_fitWear_16 rfl ?_ | refine Es_aload_nN hC dX2_fitWear_16 rfl ?_
    refine Sg_X2_6 hC fl_X2_44 dX2_fitWear_17 ht ?_
    rw [hr]
    refine Es_icmp_ge hC 85 dX2_fitWear_20 (by decide) (fun hb20 => False.elim (nI_ge (b := r) (a := i) (by omega) (by omega) hb20)) (fun hb20 => ?_)
    first | refine Es_aload_n hC dX2_fitWear_23 rfl ?_ | refine Es_aload_nN hC dX2_fitWear_23 rfl ?_
    refine Sg_X2_3 hC fl_X2_9 dX2_fitWear_24 ht ?_
    refine Es_iload hC dX2_fitWear_27 rfl ?_
    refine Es_fSN hC ms_X2_61 dX2_fitWear_29 (c_at (kd := 22) (n := 12) (ok22 ht) rfl rfl (by omega) (by decide)) rfl rfl (by omega) (Nat.le_of_ble_eq_true rfl) ?_
    refine Es_i2l hC dX2_fitWear_32 ?_
    refine Es_lstore (lv' := [_, _, _, _, _, _, _, _, _, _, _, _, _, _, _]) hC dX2_fitWear_33 (by decide) rfl rfl ?_
    first | refine Es_aload_n hC dX2_fitWear_35 rfl ?_ | refine Es_aload_nN hC dX2_fitWear_35 rfl ?_
    refine Sg_X2_4 hC fl_X2_15 dX2_fitWear_36 ht ?_
    refine Es_iload hC dX2_fitWear_39 rfl ?_
    refine Es_fSN hC ms_X2_61 dX2_fitWear_41 (c_at (kd := 23) (n := 12) (ok23 ht) rfl rfl (by omega) (by decide)) rfl rfl (by omega) (Nat.le_of_ble_eq_true rfl) ?_
    refine Es_i2l hC dX2_fitWear_44 ?_
    refine Es_lstore (lv' := [_, _, _, _, _, _, _, _, _, _, _, _, _, _, _]) hC dX2_fitWear_45 (by decide) rfl rfl ?_
    refine Es_lload_n hC dX2_fitWear_47 rfl ?_
    refine Es_lload hC dX2_fitWear_48 rfl ?_
    refine Es_ladd hC dX2_fitWear_50 ?_
    refine Es_lstore_n (lv' := [_, _, _, _, _, _, _, _, _, _, _, _, _, _, _]) hC dX2_fitWear_51 (by decide) rfl rfl ?_
    refine Es_lload hC dX2_fitWear_52 rfl ?_
    refine Es_lload hC dX2_fitWear_54 rfl ?_
    refine Es_ladd hC dX2_fitWear_56 ?_
    refine Es_lstore (lv' := [_, _, _, _, _, _, _, _, _, _, _, _, _, _, _]) hC dX2_fitWear_57 (by decide) rfl rfl ?_
    refine Es_lload hC dX2_fitWear_59 rfl ?_
    refine Es_lload hC dX2_fitWear_61 rfl ?_
    refine Es_lload hC dX2_fitWear_63 rfl ?_
    refine Es_lmul hC dX2_fitWear_65 ?_
    refine Es_ladd hC dX2_fitWear_66 ?_
    refine Es_lstore (lv' := [_, _, _, _, _, _, _, _, _, _, _, _, _, _, _]) hC dX2_fitWear_67 (by decide) rfl rfl ?_
    refine Es_lload hC dX2_fitWear_69 rfl ?_
    refine Es_lload hC dX2_fitWear_71 rfl ?_
    refine Es_lload hC dX2_fitWear_73 rfl ?_
    refine Es_lmul hC dX2_fitWear_75 ?_
    refine Es_ladd hC dX2_fitWear_76 ?_
    refine Es_lstore (lv' := [_, _, _, _, _, _, _, _, _, _, _, _, _, _, _]) hC dX2_fitWear_77 (by decide) rfl rfl ?_
    refine Es_iinc (lv' := [_, _, _, _, _, _, _, _, _, _, _, _, _, _, _]) hC dX2_fitWear_79 (by decide) rfl (show _ + Int32.ofInt (1) = _ + (1) from rfl) rfl rfl ?_
    refine Es_goto hC 14 dX2_fitWear_82 (by decide) ?_
    refine Es.kill 11 (lv' := [_, _, _, _, _, _, _, _, _, _, _, _, _, _, _]) rfl ?_
    refine Es.kill 13 (lv' := [_, _, _, _, _, _, _, _, _, _, _, _, _, _, _]) rfl ?_
    rw [nI_1]
    exact ih (i + 1) (by omega) (by omega)
set_option maxRecDepth 100000 in
set_option maxHeartbeats 4000000 in
theorem c_fitWear_a {ad : sA} {nw nt : Nat} {B : sB} {L : sL} {t r : Nat} {mean : Int32} (ht : t < nt) (hr : B 21 t 6 = nI r) (h12 : r ≤ 12) (hz : wD0 (B 22 t) r ≤ 0) (hu : mean.toInt64 ≤ 0) : Cf yX2_fitWear cX2_fitWear 15 none 3 [.ref (ad 21 t), .int mean] ad nw nt B L (none) (B) (uL (uL L 24 t 0 0) 24 t 1 1) := by
  have hC : ∀ Q, je_Ok (sCm yX2_fitWear cX2_fitWear 15 none 3 ad nw nt Q) RX2 cX2_fitWear 15 3 := fun _ => je_Cm_ok
  refine Cs_of [some (.ref (ad 21 t)), some (.int mean), none, none, none, none, none, none, none, none, none, none, none, none, none] (by decide) rfl (Nat.le_of_ble_eq_true rfl) ?_
  refine Es_lconst (v := 0) (hC _) dX2_fitWear_0 (by decide) ?_
  refine Es_lstore_n (lv' := [_, _, _, _, _, _, _, _, _, _, _, _, _, _, _]) (hC _) dX2_fitWear_1 (by decide) rfl rfl ?_
  refine Es_lconst (v := 0) (hC _) dX2_fitWear_2 (by decide) ?_
  refine Es_lstore (lv' := [_, _, _, _, _, _, _, _, _, _, _, _, _, _, _]) (hC _) dX2_fitWear_3 (by decide) rfl rfl ?_
  refine Es_lconst (v := 0) (hC _) dX2_fitWear_5 (by decide) ?_
  refine Es_lstore (lv' := [_, _, _, _, _, _, _, _, _, _, _, _, _, _, _]) (hC _) dX2_fitWear_6 (by decide) rfl rfl ?_
  refine Es_lconst (v := 0) (hC _) dX2_fitWear_8 (by decide) ?_
  refine Es_lstore (lv' := [_, _, _, _, _, _, _, _, _, _, _, _, _, _, _]) (hC _) dX2_fitWear_9 (by decide) rfl rfl ?_
  refine Es_iconst (v := 0) (hC _) dX2_fitWear_11 (by decide) ?_
  refine Es_istore (lv' := [_, _, _, _, _, _, _, _, _, _, _, _, _, _, _]) (hC _) dX2_fitWear_12 (by decide) rfl rfl ?_
  refine l_fw (r := r) (hC _) (by decide) ht hr h12 ?_ r 0 (by omega) (by omega)
  first | refine Es_aload_n (hC _) dX2_fitWear_85 rfl ?_ | refine Es_aload_nN (hC _) dX2_fitWear_85 rfl ?_
  refine Sg_X2_6 (hC _) fl_X2_44 dX2_fitWear_86 ht ?_
  rw [hr]
  refine Es_i2l (hC _) dX2_fitWear_89 ?_
  refine Es_lload (hC _) dX2_fitWear_90 rfl ?_
  refine Es_lmul (hC _) dX2_fitWear_92 ?_
  refine Es_lload_n (hC _) dX2_fitWear_93 rfl ?_
  refine Es_lload_n (hC _) dX2_fitWear_94 rfl ?_
  refine Es_lmul (hC _) dX2_fitWear_95 ?_
  refine Es_lsub (hC _) dX2_fitWear_96 ?_
  refine Es_lstore (lv' := [_, _, _, _, _, _, _, _, _, _, _, _, _, _, _]) (hC _) dX2_fitWear_97 (by decide) rfl rfl ?_
  refine Es_lload (hC _) dX2_fitWear_99 rfl ?_
  refine Es_lconst (v := 0) (hC _) dX2_fitWear_101 (by decide) ?_
  refine Es_lcmp (hC _) dX2_fitWear_102 ?_
  refine Es_if_le (hC _) 131 dX2_fitWear_103 (by decide) (fun hb103 => ?_) (fun hb103 => False.elim (hb103 ((lgle _ _).mpr hz)))
  first | refine Es_aload_n (hC _) dX2_fitWear_131 rfl ?_ | refine Es_aload_nN (hC _) dX2_fitWear_131 rfl ?_
  refine Sg_X2_5 (hC _) fl_X2_21 dX2_fitWear_132 ht ?_
  refine Es_iload_n (hC _) dX2_fitWear_135 rfl ?_
  refine Es_i2l (hC _) dX2_fitWear_136 ?_
  refine Es_ldc2 (hC _) cq_X2_69 dX2_fitWear_137 ?_
  refine Es_fV (hC _) mv_X2_65 dX2_fitWear_140 (c_become_0 ht hu) (ok24 ht) rfl ⟨_, rfl, rfl⟩ rfl rfl (by decide) (Nat.le_of_ble_eq_true rfl) ?_
  exact Es_vret dX2_fitWear_143 ⟨rfl, rfl, rfl⟩

set_option maxRecDepth 100000 in
set_option maxHeartbeats 4000000 in
theorem c_fitWear_b {ad : sA} {nw nt : Nat} {B : sB} {L : sL} {t r : Nat} {mean : Int32} (ht : t < nt) (hr : B 21 t 6 = nI r) (h12 : r ≤ 12) (hz : wD0 (B 22 t) r ≤ 0) (hu : ¬ mean.toInt64 ≤ 0) (hg : 0 < gcS 100 mean.toInt64 100000) : Cf yX2_fitWear cX2_fitWear 15 none 3 [.ref (ad 21 t), .int mean] ad nw nt B L (none) (B) (uL (uL L 24 t 0 (mean.toInt64 / gcS 100 mean.toInt64 100000)) 24 t 1 (100000 / gcS 100 mean.toInt64 100000)) := by
  have hC : ∀ Q, je_Ok (sCm yX2_fitWear cX2_fitWear 15 none 3 ad nw nt Q) RX2 cX2_fitWear 15 3 := fun _ => je_Cm_ok
  refine Cs_of [some (.ref (ad 21 t)), some (.int mean), none, none, none, none, none, none, none, none, none, none, none, none, none] (by decide) rfl (Nat.le_of_ble_eq_true rfl) ?_
  refine Es_lconst (v := 0) (hC _) dX2_fitWear_0 (by decide) ?_
  refine Es_lstore_n (lv' := [_, _, _, _, _, _, _, _, _, _, _, _, _, _, _]) (hC _) dX2_fitWear_1 (by decide) rfl rfl ?_
  refine Es_lconst (v := 0) (hC _) dX2_fitWear_2 (by decide) ?_
  refine Es_lstore (lv' := [_, _, _, _, _, _, _, _, _, _, _, _, _, _, _]) (hC _) dX2_fitWear_3 (by decide) rfl rfl ?_
  refine Es_lconst (v := 0) (hC _) dX2_fitWear_5 (by decide) ?_
  refine Es_lstore (lv' := [_, _, _, _, _, _, _, _, _, _, _, _, _, _, _]) (hC _) dX2_fitWear_6 (by decide) rfl rfl ?_
  refine Es_lconst (v := 0) (hC _) dX2_fitWear_8 (by decide) ?_
  refine Es_lstore (lv' := [_, _, _, _, _, _, _, _, _, _, _, _, _, _, _]) (hC _) dX2_fitWear_9 (by decide) rfl rfl ?_
  refine Es_iconst (v := 0) (hC _) dX2_fitWear_11 (by decide) ?_
  refine Es_istore (lv' := [_, _, _, _, _, _, _, _, _, _, _, _, _, _, _]) (hC _) dX2_fitWear_12 (by decide) rfl rfl ?_
  refine l_fw (r := r) (hC _) (by decide) ht hr h12 ?_ r 0 (by omega) (by omega)
  first | refine Es_aload_n (hC _) dX2_fitWear_85 rfl ?_ | refine Es_aload_nN (hC _) dX2_fitWear_85 rfl ?_
  refine Sg_X2_6 (hC _) fl_X2_44 dX2_fitWear_86 ht ?_
  rw [hr]
  refine Es_i2l (hC _) dX2_fitWear_89 ?_
  refine Es_lload (hC _) dX2_fitWear_90 rfl ?_
  refine Es_lmul (hC _) dX2_fitWear_92 ?_
  refine Es_lload_n (hC _) dX2_fitWear_93 rfl ?_
  refine Es_lload_n (hC _) dX2_fitWear_94 rfl ?_
  refine Es_lmul (hC _) dX2_fitWear_95 ?_
  refine Es_lsub (hC _) dX2_fitWear_96 ?_
  refine Es_lstore (lv' := [_, _, _, _, _, _, _, _, _, _, _, _, _, _, _]) (hC _) dX2_fitWear_97 (by decide) rfl rfl ?_
  refine Es_lload (hC _) dX2_fitWear_99 rfl ?_
  refine Es_lconst (v := 0) (hC _) dX2_fitWear_101 (by decide) ?_
  refine Es_lcmp (hC _) dX2_fitWear_102 ?_
  refine Es_if_le (hC _) 131 dX2_fitWear_103 (by decide) (fun hb103 => ?_) (fun hb103 => False.elim (hb103 ((lgle _ _).mpr hz)))
  first | refine Es_aload_n (hC _) dX2_fitWear_131 rfl ?_ | refine Es_aload_nN (hC _) dX2_fitWear_131 rfl ?_
  refine Sg_X2_5 (hC _) fl_X2_21 dX2_fitWear_132 ht ?_
  refine Es_iload_n (hC _) dX2_fitWear_135 rfl ?_
  refine Es_i2l (hC _) dX2_fitWear_136 ?_
  refine Es_ldc2 (hC _) cq_X2_69 dX2_fitWear_137 ?_
  refine Es_fV (hC _) mv_X2_65 dX2_fitWear_140 (c_become_1 ht hu (by decide) hg) (ok24 ht) rfl ⟨_, rfl, rfl⟩ rfl rfl (by decide) (Nat.le_of_ble_eq_true rfl) ?_
  exact Es_vret dX2_fitWear_143 ⟨rfl, rfl, rfl⟩

set_option maxRecDepth 100000 in
set_option maxHeartbeats 4000000 in
theorem c_fitWear_c {ad : sA} {nw nt : Nat} {B : sB} {L : sL} {t r : Nat} {mean : Int32} (ht : t < nt) (hr : B 21 t 6 = nI r) (h12 : r ≤ 12) (hz : ¬ wD0 (B 22 t) r ≤ 0) (hu : wU0 (B 22 t) (B 23 t) r ≤ 0) : Cf yX2_fitWear cX2_fitWear 15 none 3 [.ref (ad 21 t), .int mean] ad nw nt B L (none) (B) (uL (uL L 24 t 0 0) 24 t 1 1) := by
  have hC : ∀ Q, je_Ok (sCm yX2_fitWear cX2_fitWear 15 none 3 ad nw nt Q) RX2 cX2_fitWear 15 3 := fun _ => je_Cm_ok
  refine Cs_of [some (.ref (ad 21 t)), some (.int mean), none, none, none, none, none, none, none, none, none, none, none, none, none] (by decide) rfl (Nat.le_of_ble_eq_true rfl) ?_
  refine Es_lconst (v := 0) (hC _) dX2_fitWear_0 (by decide) ?_
  refine Es_lstore_n (lv' := [_, _, _, _, _, _, _, _, _, _, _, _, _, _, _]) (hC _) dX2_fitWear_1 (by decide) rfl rfl ?_
  refine Es_lconst (v := 0) (hC _) dX2_fitWear_2 (by decide) ?_
  refine Es_lstore (lv' := [_, _, _, _, _, _, _, _, _, _, _, _, _, _, _]) (hC _) dX2_fitWear_3 (by decide) rfl rfl ?_
  refine Es_lconst (v := 0) (hC _) dX2_fitWear_5 (by decide) ?_
  refine Es_lstore (lv' := [_, _, _, _, _, _, _, _, _, _, _, _, _, _, _]) (hC _) dX2_fitWear_6 (by decide) rfl rfl ?_
  refine Es_lconst (v := 0) (hC _) dX2_fitWear_8 (by decide) ?_
  refine Es_lstore (lv' := [_, _, _, _, _, _, _, _, _, _, _, _, _, _, _]) (hC _) dX2_fitWear_9 (by decide) rfl rfl ?_
  refine Es_iconst (v := 0) (hC _) dX2_fitWear_11 (by decide) ?_
  refine Es_istore (lv' := [_, _, _, _, _, _, _, _, _, _, _, _, _, _, _]) (hC _) dX2_fitWear_12 (by decide) rfl rfl ?_
  refine l_fw (r := r) (hC _) (by decide) ht hr h12 ?_ r 0 (by omega) (by omega)
  first | refine Es_aload_n (hC _) dX2_fitWear_85 rfl ?_ | refine Es_aload_nN (hC _) dX2_fitWear_85 rfl ?_
  refine Sg_X2_6 (hC _) fl_X2_44 dX2_fitWear_86 ht ?_
  rw [hr]
  refine Es_i2l (hC _) dX2_fitWear_89 ?_
  refine Es_lload (hC _) dX2_fitWear_90 rfl ?_
  refine Es_lmul (hC _) dX2_fitWear_92 ?_
  refine Es_lload_n (hC _) dX2_fitWear_93 rfl ?_
  refine Es_lload_n (hC _) dX2_fitWear_94 rfl ?_
  refine Es_lmul (hC _) dX2_fitWear_95 ?_
  refine Es_lsub (hC _) dX2_fitWear_96 ?_
  refine Es_lstore (lv' := [_, _, _, _, _, _, _, _, _, _, _, _, _, _, _]) (hC _) dX2_fitWear_97 (by decide) rfl rfl ?_
  refine Es_lload (hC _) dX2_fitWear_99 rfl ?_
  refine Es_lconst (v := 0) (hC _) dX2_fitWear_101 (by decide) ?_
  refine Es_lcmp (hC _) dX2_fitWear_102 ?_
  refine Es_if_le (hC _) 131 dX2_fitWear_103 (by decide) (fun hb103 => False.elim (hz ((lgle _ _).mp hb103))) (fun hb103 => ?_)
  first | refine Es_aload_n (hC _) dX2_fitWear_106 rfl ?_ | refine Es_aload_nN (hC _) dX2_fitWear_106 rfl ?_
  refine Sg_X2_5 (hC _) fl_X2_21 dX2_fitWear_107 ht ?_
  refine Es_lload_n (hC _) dX2_fitWear_110 rfl ?_
  refine Es_lload (hC _) dX2_fitWear_111 rfl ?_
  refine Es_lmul (hC _) dX2_fitWear_113 ?_
  first | refine Es_aload_n (hC _) dX2_fitWear_114 rfl ?_ | refine Es_aload_nN (hC _) dX2_fitWear_114 rfl ?_
  refine Sg_X2_6 (hC _) fl_X2_44 dX2_fitWear_115 ht ?_
  rw [hr]
  refine Es_i2l (hC _) dX2_fitWear_118 ?_
  refine Es_lload (hC _) dX2_fitWear_119 rfl ?_
  refine Es_lmul (hC _) dX2_fitWear_121 ?_
  refine Es_lsub (hC _) dX2_fitWear_122 ?_
  refine Es_lload (hC _) dX2_fitWear_123 rfl ?_
  refine Es_fV (hC _) mv_X2_65 dX2_fitWear_125 (c_become_0 ht hu) (ok24 ht) rfl ⟨_, rfl, rfl⟩ rfl rfl (by decide) (Nat.le_of_ble_eq_true rfl) ?_
  refine Es_goto (hC _) 143 dX2_fitWear_128 (by decide) ?_
  exact Es_vret dX2_fitWear_143 ⟨rfl, rfl, rfl⟩

set_option maxRecDepth 100000 in
set_option maxHeartbeats 4000000 in
theorem c_fitWear_d {ad : sA} {nw nt : Nat} {B : sB} {L : sL} {t r : Nat} {mean : Int32} (ht : t < nt) (hr : B 21 t 6 = nI r) (h12 : r ≤ 12) (hz : ¬ wD0 (B 22 t) r ≤ 0) (hu : ¬ wU0 (B 22 t) (B 23 t) r ≤ 0) (hg : 0 < gcS 100 (wU0 (B 22 t) (B 23 t) r) (wD0 (B 22 t) r)) : Cf yX2_fitWear cX2_fitWear 15 none 3 [.ref (ad 21 t), .int mean] ad nw nt B L (none) (B) (uL (uL L 24 t 0 (wU0 (B 22 t) (B 23 t) r / gcS 100 (wU0 (B 22 t) (B 23 t) r) (wD0 (B 22 t) r))) 24 t 1 (wD0 (B 22 t) r / gcS 100 (wU0 (B 22 t) (B 23 t) r) (wD0 (B 22 t) r))) := by
  have hC : ∀ Q, je_Ok (sCm yX2_fitWear cX2_fitWear 15 none 3 ad nw nt Q) RX2 cX2_fitWear 15 3 := fun _ => je_Cm_ok
  refine Cs_of [some (.ref (ad 21 t)), some (.int mean), none, none, none, none, none, none, none, none, none, none, none, none, none] (by decide) rfl (Nat.le_of_ble_eq_true rfl) ?_
  refine Es_lconst (v := 0) (hC _) dX2_fitWear_0 (by decide) ?_
  refine Es_lstore_n (lv' := [_, _, _, _, _, _, _, _, _, _, _, _, _, _, _]) (hC _) dX2_fitWear_1 (by decide) rfl rfl ?_
  refine Es_lconst (v := 0) (hC _) dX2_fitWear_2 (by decide) ?_
  refine Es_lstore (lv' := [_, _, _, _, _, _, _, _, _, _, _, _, _, _, _]) (hC _) dX2_fitWear_3 (by decide) rfl rfl ?_
  refine Es_lconst (v := 0) (hC _) dX2_fitWear_5 (by decide) ?_
  refine Es_lstore (lv' := [_, _, _, _, _, _, _, _, _, _, _, _, _, _, _]) (hC _) dX2_fitWear_6 (by decide) rfl rfl ?_
  refine Es_lconst (v := 0) (hC _) dX2_fitWear_8 (by decide) ?_
  refine Es_lstore (lv' := [_, _, _, _, _, _, _, _, _, _, _, _, _, _, _]) (hC _) dX2_fitWear_9 (by decide) rfl rfl ?_
  refine Es_iconst (v := 0) (hC _) dX2_fitWear_11 (by decide) ?_
  refine Es_istore (lv' := [_, _, _, _, _, _, _, _, _, _, _, _, _, _, _]) (hC _) dX2_fitWear_12 (by decide) rfl rfl ?_
  refine l_fw (r := r) (hC _) (by decide) ht hr h12 ?_ r 0 (by omega) (by omega)
  first | refine Es_aload_n (hC _) dX2_fitWear_85 rfl ?_ | refine Es_aload_nN (hC _) dX2_fitWear_85 rfl ?_
  refine Sg_X2_6 (hC _) fl_X2_44 dX2_fitWear_86 ht ?_
  rw [hr]
  refine Es_i2l (hC _) dX2_fitWear_89 ?_
  refine Es_lload (hC _) dX2_fitWear_90 rfl ?_
  refine Es_lmul (hC _) dX2_fitWear_92 ?_
  refine Es_lload_n (hC _) dX2_fitWear_93 rfl ?_
  refine Es_lload_n (hC _) dX2_fitWear_94 rfl ?_
  refine Es_lmul (hC _) dX2_fitWear_95 ?_
  refine Es_lsub (hC _) dX2_fitWear_96 ?_
  refine Es_lstore (lv' := [_, _, _, _, _, _, _, _, _, _, _, _, _, _, _]) (hC _) dX2_fitWear_97 (by decide) rfl rfl ?_
  refine Es_lload (hC _) dX2_fitWear_99 rfl ?_
  refine Es_lconst (v := 0) (hC _) dX2_fitWear_101 (by decide) ?_
  refine Es_lcmp (hC _) dX2_fitWear_102 ?_
  refine Es_if_le (hC _) 131 dX2_fitWear_103 (by decide) (fun hb103 => False.elim (hz ((lgle _ _).mp hb103))) (fun hb103 => ?_)
  first | refine Es_aload_n (hC _) dX2_fitWear_106 rfl ?_ | refine Es_aload_nN (hC _) dX2_fitWear_106 rfl ?_
  refine Sg_X2_5 (hC _) fl_X2_21 dX2_fitWear_107 ht ?_
  refine Es_lload_n (hC _) dX2_fitWear_110 rfl ?_
  refine Es_lload (hC _) dX2_fitWear_111 rfl ?_
  refine Es_lmul (hC _) dX2_fitWear_113 ?_
  first | refine Es_aload_n (hC _) dX2_fitWear_114 rfl ?_ | refine Es_aload_nN (hC _) dX2_fitWear_114 rfl ?_
  refine Sg_X2_6 (hC _) fl_X2_44 dX2_fitWear_115 ht ?_
  rw [hr]
  refine Es_i2l (hC _) dX2_fitWear_118 ?_
  refine Es_lload (hC _) dX2_fitWear_119 rfl ?_
  refine Es_lmul (hC _) dX2_fitWear_121 ?_
  refine Es_lsub (hC _) dX2_fitWear_122 ?_
  refine Es_lload (hC _) dX2_fitWear_123 rfl ?_
  refine Es_fV (hC _) mv_X2_65 dX2_fitWear_125 (c_become_1 ht hu hz hg) (ok24 ht) rfl ⟨_, rfl, rfl⟩ rfl rfl (by decide) (Nat.le_of_ble_eq_true rfl) ?_
  refine Es_goto (hC _) 143 dX2_fitWear_128 (by decide) ?_
  exact Es_vret dX2_fitWear_143 ⟨rfl, rfl, rfl⟩

