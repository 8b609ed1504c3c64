/-! ===== TURNING ABOUT: the class's table of changes, and its choice ===== -/
theorem fwK_le {D : TD} {F : Nat} {f : Nat → Nat} {p u b M : Nat} (hb : b ≤ M) : ∀ k, fwK D F f p u b k ≤ M
  | 0 => hb
  | k + 1 => by
    have := fwK_le (D := D) (F := F) (f := f) (p := p) (u := u) hb k
    simp only [fwK]
    omega
set_option maxRecDepth 100000 in
set_option maxHeartbeats 4000000 in
theorem c_cw_1 {ad : sA} {nw nt : Nat} {B : sB} {L : sL} {D : TD} {f : Nat → Nat} {F P p u k : Nat} (hT : TT B D P) (hF : B 10 0 8 = iE F) (hF6 : F ≤ 1000001) (hp : p < P) (hu : u < 2 ^ D.K) (hk : k < D.K) (hrow : ∀ u', u' < 2 ^ D.K → B 16 0 (128 * (p + 1) + u') = nI (f u') ∧ f u' ≤ 200) (hbt : bt u k = true) : Cf yX1_changesWith cX1_changesWith 5 (some FieldType.int) 1 [.ref (ad 10 0), .int (nI p), .int (nI u), .int (nI k)] ad nw nt B L (some (.int (nI (cwN D F f p u k)))) (B) (L) := by
  have hC : ∀ Q, je_Ok (sCm yX1_changesWith cX1_changesWith 5 (some FieldType.int) 1 ad nw nt Q) RX1 cX1_changesWith 5 1 := fun _ => je_Cm_ok
  refine Cs_of [some (.ref (ad 10 0)), some (.int (nI p)), some (.int (nI u)), some (.int (nI k)), none] (by decide) rfl (Nat.le_of_ble_eq_true rfl) ?_
  obtain ⟨hK, hP, t6, t7, t14, t12, t13⟩ := hT
  have h2 := p2_b hK
  obtain ⟨e1, e2⟩ := t12 p k hp hk
  refine Es_iload_n (hC _) dX1_changesWith_0 rfl ?_
  refine Es_iload_n (hC _) dX1_changesWith_1 rfl ?_
  refine Es_fS (hC _) ms_X1_116 dX1_changesWith_2 (c_isUsed_y (by omega) (by omega) hbt) rfl rfl (by decide) (Nat.le_of_ble_eq_true rfl) ?_
  refine Es_if_ne (hC _) 28 dX1_changesWith_5 (by decide) (fun hb5 => ?_) (fun hb5 => False.elim (absurd hb5 (by decide)))
  refine Es_bipush (v := 100) (hC _) dX1_changesWith_28 (by decide) ?_
  exact Es_iret dX1_changesWith_30 rfl ⟨by unfold cwN; rw [if_pos (Or.inl hbt)]; rfl, rfl, rfl⟩

set_option maxRecDepth 100000 in
set_option maxHeartbeats 4000000 in
theorem c_cw_2 {ad : sA} {nw nt : Nat} {B : sB} {L : sL} {D : TD} {f : Nat → Nat} {F P p u k : Nat} (hT : TT B D P) (hF : B 10 0 8 = iE F) (hF6 : F ≤ 1000001) (hp : p < P) (hu : u < 2 ^ D.K) (hk : k < D.K) (hrow : ∀ u', u' < 2 ^ D.K → B 16 0 (128 * (p + 1) + u') = nI (f u') ∧ f u' ≤ 200) (hbt : ¬ bt u k = true) (hE : D.E p k < F) : Cf yX1_changesWith cX1_changesWith 5 (some FieldType.int) 1 [.ref (ad 10 0), .int (nI p), .int (nI u), .int (nI k)] ad nw nt B L (some (.int (nI (cwN D F f p u k)))) (B) (L) := by
  have hC : ∀ Q, je_Ok (sCm yX1_changesWith cX1_changesWith 5 (some FieldType.int) 1 ad nw nt Q) RX1 cX1_changesWith 5 1 := fun _ => je_Cm_ok
  refine Cs_of [some (.ref (ad 10 0)), some (.int (nI p)), some (.int (nI u)), some (.int (nI k)), none] (by decide) rfl (Nat.le_of_ble_eq_true rfl) ?_
  obtain ⟨hK, hP, t6, t7, t14, t12, t13⟩ := hT
  have h2 := p2_b hK
  obtain ⟨e1, e2⟩ := t12 p k hp hk
  refine Es_iload_n (hC _) dX1_changesWith_0 rfl ?_
  refine Es_iload_n (hC _) dX1_changesWith_1 rfl ?_
  refine Es_fS (hC _) ms_X1_116 dX1_changesWith_2 (c_isUsed_n (by omega) (by omega) hbt) rfl rfl (by decide) (Nat.le_of_ble_eq_true rfl) ?_
  refine Es_if_ne (hC _) 28 dX1_changesWith_5 (by decide) (fun hb5 => False.elim (hb5 rfl)) (fun hb5 => ?_)
  first | refine Es_aload_n (hC _) dX1_changesWith_8 rfl ?_ | refine Es_aload_nN (hC _) dX1_changesWith_8 rfl ?_
  refine Sg_X1_1 (hC _) fl_X1_17 dX1_changesWith_9 ?_
  refine Es_iload_n (hC _) dX1_changesWith_12 rfl ?_
  refine Es_bipush (v := 7) (hC _) dX1_changesWith_13 (by decide) ?_
  refine Es_imul (hC _) dX1_changesWith_15 ?_
  refine Es_iload_n (hC _) dX1_changesWith_16 rfl ?_
  refine Es_iadd (hC _) dX1_changesWith_17 ?_
  rw [show nI p * 7 + nI k = nI (7 * p + k) by rw [show (7 : Int32) = nI 7 from rfl, pk_mul, nI_add, Nat.mul_comm p 7]]
  refine Es_fSN (hC _) ms_X1_63 dX1_changesWith_18 (c_at (kd := 12) (n := 49) rfl rfl rfl (by omega) (by decide)) rfl rfl (by decide) (Nat.le_of_ble_eq_true rfl) ?_
  rw [e1]
  first | refine Es_aload_n (hC _) dX1_changesWith_21 rfl ?_ | refine Es_aload_nN (hC _) dX1_changesWith_21 rfl ?_
  refine Sg_X1_8 (hC _) fl_X1_67 dX1_changesWith_22 ?_
  rw [hF]
  refine Es_icmp_ge (hC _) 31 dX1_changesWith_25 (by decide) (fun hb25 => False.elim (Int32.not_lt.mpr hb25 ((iE_lt e2 hF6).mpr hE))) (fun hb25 => ?_)
  refine Es_bipush (v := 100) (hC _) dX1_changesWith_28 (by decide) ?_
  exact Es_iret dX1_changesWith_30 rfl ⟨by unfold cwN; rw [if_pos (Or.inr hE)]; rfl, rfl, rfl⟩

set_option maxRecDepth 100000 in
set_option maxHeartbeats 4000000 in
theorem c_cw_3 {ad : sA} {nw nt : Nat} {B : sB} {L : sL} {D : TD} {f : Nat → Nat} {F P p u k : Nat} (hT : TT B D P) (hF : B 10 0 8 = iE F) (hF6 : F ≤ 1000001) (hp : p < P) (hu : u < 2 ^ D.K) (hk : k < D.K) (hrow : ∀ u', u' < 2 ^ D.K → B 16 0 (128 * (p + 1) + u') = nI (f u') ∧ f u' ≤ 200) (hbt : ¬ bt u k = true) (hE : ¬ D.E p k < F) (hh : B 13 0 p = nI k) : Cf yX1_changesWith cX1_changesWith 5 (some FieldType.int) 1 [.ref (ad 10 0), .int (nI p), .int (nI u), .int (nI k)] ad nw nt B L (some (.int (nI (cwN D F f p u k)))) (B) (L) := by
  have hC : ∀ Q, je_Ok (sCm yX1_changesWith cX1_changesWith 5 (some FieldType.int) 1 ad nw nt Q) RX1 cX1_changesWith 5 1 := fun _ => je_Cm_ok
  refine Cs_of [some (.ref (ad 10 0)), some (.int (nI p)), some (.int (nI u)), some (.int (nI k)), none] (by decide) rfl (Nat.le_of_ble_eq_true rfl) ?_
  obtain ⟨hK, hP, t6, t7, t14, t12, t13⟩ := hT
  have h2 := p2_b hK
  obtain ⟨e1, e2⟩ := t12 p k hp hk
  refine Es_iload_n (hC _) dX1_changesWith_0 rfl ?_
  refine Es_iload_n (hC _) dX1_changesWith_1 rfl ?_
  refine Es_fS (hC _) ms_X1_116 dX1_changesWith_2 (c_isUsed_n (by omega) (by omega) hbt) rfl rfl (by decide) (Nat.le_of_ble_eq_true rfl) ?_
  refine Es_if_ne (hC _) 28 dX1_changesWith_5 (by decide) (fun hb5 => False.elim (hb5 rfl)) (fun hb5 => ?_)
  first | refine Es_aload_n (hC _) dX1_changesWith_8 rfl ?_ | refine Es_aload_nN (hC _) dX1_changesWith_8 rfl ?_
  refine Sg_X1_1 (hC _) fl_X1_17 dX1_changesWith_9 ?_
  refine Es_iload_n (hC _) dX1_changesWith_12 rfl ?_
  refine Es_bipush (v := 7) (hC _) dX1_changesWith_13 (by decide) ?_
  refine Es_imul (hC _) dX1_changesWith_15 ?_
  refine Es_iload_n (hC _) dX1_changesWith_16 rfl ?_
  refine Es_iadd (hC _) dX1_changesWith_17 ?_
  rw [show nI p * 7 + nI k = nI (7 * p + k) by rw [show (7 : Int32) = nI 7 from rfl, pk_mul, nI_add, Nat.mul_comm p 7]]
  refine Es_fSN (hC _) ms_X1_63 dX1_changesWith_18 (c_at (kd := 12) (n := 49) rfl rfl rfl (by omega) (by decide)) rfl rfl (by decide) (Nat.le_of_ble_eq_true rfl) ?_
  rw [e1]
  first | refine Es_aload_n (hC _) dX1_changesWith_21 rfl ?_ | refine Es_aload_nN (hC _) dX1_changesWith_21 rfl ?_
  refine Sg_X1_8 (hC _) fl_X1_67 dX1_changesWith_22 ?_
  rw [hF]
  refine Es_icmp_ge (hC _) 31 dX1_changesWith_25 (by decide) (fun hb25 => ?_) (fun hb25 => False.elim (hb25 (Int32.not_lt.mp (fun z => hE ((iE_lt e2 hF6).mp z)))))
  first | refine Es_aload_n (hC _) dX1_changesWith_31 rfl ?_ | refine Es_aload_nN (hC _) dX1_changesWith_31 rfl ?_
  refine Sg_X1_2 (hC _) fl_X1_21 dX1_changesWith_32 ?_
  refine Es_iload_n (hC _) dX1_changesWith_35 rfl ?_
  refine Es_fSN (hC _) ms_X1_63 dX1_changesWith_36 (c_at (kd := 13) (n := 7) rfl rfl rfl (by omega) (by decide)) rfl rfl (by decide) (Nat.le_of_ble_eq_true rfl) ?_
  refine Es_iload_n (hC _) dX1_changesWith_39 rfl ?_
  refine Es_icmp_ne (hC _) 47 dX1_changesWith_40 (by decide) (fun hb40 => False.elim (hb40 hh)) (fun hb40 => ?_)
  refine Es_iconst (v := 0) (hC _) dX1_changesWith_43 (by decide) ?_
  refine Es_goto (hC _) 48 dX1_changesWith_44 (by decide) ?_
  refine Es_istore (lv' := [_, _, _, _, _]) (hC _) dX1_changesWith_48 (by decide) rfl rfl ?_
  refine Es_iload (hC _) dX1_changesWith_50 rfl ?_
  first | refine Es_aload_n (hC _) dX1_changesWith_52 rfl ?_ | refine Es_aload_nN (hC _) dX1_changesWith_52 rfl ?_
  refine Sg_X1_5 (hC _) fl_X1_30 dX1_changesWith_53 ?_
  refine Es_iload_n (hC _) dX1_changesWith_56 rfl ?_
  refine Es_iconst (v := 1) (hC _) dX1_changesWith_57 (by decide) ?_
  refine Es_iadd (hC _) dX1_changesWith_58 ?_
  rw [nI_1]
  refine Es_iload_n (hC _) dX1_changesWith_59 rfl ?_
  refine Es_iconst (v := 1) (hC _) dX1_changesWith_60 (by decide) ?_
  refine Es_iload_n (hC _) dX1_changesWith_61 rfl ?_
  refine Es_ishl (hC _) dX1_changesWith_62 ?_
  refine Es_ior (hC _) dX1_changesWith_63 ?_
  rw [or_N (by omega) (by omega) hbt]
  refine Es_fS (hC _) ms_X1_60 dX1_changesWith_64 (c_slot (by omega) (by have := ad_N hK hu hk hbt; omega)) rfl rfl (by decide) (Nat.le_of_ble_eq_true rfl) ?_
  refine Es_fSN (hC _) ms_X1_63 dX1_changesWith_67 (c_at (kd := 16) (n := 1024) rfl rfl rfl (by have := ad_N hK hu hk hbt; omega) (by decide)) rfl rfl (by decide) (Nat.le_of_ble_eq_true rfl) ?_
  rw [(hrow _ (ad_N hK hu hk hbt)).1]
  refine Es_iadd (hC _) dX1_changesWith_70 ?_
  exact Es_iret dX1_changesWith_71 rfl ⟨by rw [cwN_y hbt (by omega), t13 p k hp hk, if_pos hh]; exact congrArg (fun q => some (Value.int q)) (nI_add 0 _), rfl, rfl⟩

set_option maxRecDepth 100000 in
set_option maxHeartbeats 4000000 in
theorem c_cw_4 {ad : sA} {nw nt : Nat} {B : sB} {L : sL} {D : TD} {f : Nat → Nat} {F P p u k : Nat} (hT : TT B D P) (hF : B 10 0 8 = iE F) (hF6 : F ≤ 1000001) (hp : p < P) (hu : u < 2 ^ D.K) (hk : k < D.K) (hrow : ∀ u', u' < 2 ^ D.K → B 16 0 (128 * (p + 1) + u') = nI (f u') ∧ f u' ≤ 200) (hbt : ¬ bt u k = true) (hE : ¬ D.E p k < F) (hh : ¬ B 13 0 p = nI k) : Cf yX1_changesWith cX1_changesWith 5 (some FieldType.int) 1 [.ref (ad 10 0), .int (nI p), .int (nI u), .int (nI k)] ad nw nt B L (some (.int (nI (cwN D F f p u k)))) (B) (L) := by
  have hC : ∀ Q, je_Ok (sCm yX1_changesWith cX1_changesWith 5 (some FieldType.int) 1 ad nw nt Q) RX1 cX1_changesWith 5 1 := fun _ => je_Cm_ok
  refine Cs_of [some (.ref (ad 10 0)), some (.int (nI p)), some (.int (nI u)), some (.int (nI k)), none] (by decide) rfl (Nat.le_of_ble_eq_true rfl) ?_
  obtain ⟨hK, hP, t6, t7, t14, t12, t13⟩ := hT
  have h2 := p2_b hK
  obtain ⟨e1, e2⟩ := t12 p k hp hk
  refine Es_iload_n (hC _) dX1_changesWith_0 rfl ?_
  refine Es_iload_n (hC _) dX1_changesWith_1 rfl ?_
  refine Es_fS (hC _) ms_X1_116 dX1_changesWith_2 (c_isUsed_n (by omega) (by omega) hbt) rfl rfl (by decide) (Nat.le_of_ble_eq_true rfl) ?_
  refine Es_if_ne (hC _) 28 dX1_changesWith_5 (by decide) (fun hb5 => False.elim (hb5 rfl)) (fun hb5 => ?_)
  first | refine Es_aload_n (hC _) dX1_changesWith_8 rfl ?_ | refine Es_aload_nN (hC _) dX1_changesWith_8 rfl ?_
  refine Sg_X1_1 (hC _) fl_X1_17 dX1_changesWith_9 ?_
  refine Es_iload_n (hC _) dX1_changesWith_12 rfl ?_
  refine Es_bipush (v := 7) (hC _) dX1_changesWith_13 (by decide) ?_
  refine Es_imul (hC _) dX1_changesWith_15 ?_
  refine Es_iload_n (hC _) dX1_changesWith_16 rfl ?_
  refine Es_iadd (hC _) dX1_changesWith_17 ?_
  rw [show nI p * 7 + nI k = nI (7 * p + k) by rw [show (7 : Int32) = nI 7 from rfl, pk_mul, nI_add, Nat.mul_comm p 7]]
  refine Es_fSN (hC _) ms_X1_63 dX1_changesWith_18 (c_at (kd := 12) (n := 49) rfl rfl rfl (by omega) (by decide)) rfl rfl (by decide) (Nat.le_of_ble_eq_true rfl) ?_
  rw [e1]
  first | refine Es_aload_n (hC _) dX1_changesWith_21 rfl ?_ | refine Es_aload_nN (hC _) dX1_changesWith_21 rfl ?_
  refine Sg_X1_8 (hC _) fl_X1_67 dX1_changesWith_22 ?_
  rw [hF]
  refine Es_icmp_ge (hC _) 31 dX1_changesWith_25 (by decide) (fun hb25 => ?_) (fun hb25 => False.elim (hb25 (Int32.not_lt.mp (fun z => hE ((iE_lt e2 hF6).mp z)))))
  first | refine Es_aload_n (hC _) dX1_changesWith_31 rfl ?_ | refine Es_aload_nN (hC _) dX1_changesWith_31 rfl ?_
  refine Sg_X1_2 (hC _) fl_X1_21 dX1_changesWith_32 ?_
  refine Es_iload_n (hC _) dX1_changesWith_35 rfl ?_
  refine Es_fSN (hC _) ms_X1_63 dX1_changesWith_36 (c_at (kd := 13) (n := 7) rfl rfl rfl (by omega) (by decide)) rfl rfl (by decide) (Nat.le_of_ble_eq_true rfl) ?_
  refine Es_iload_n (hC _) dX1_changesWith_39 rfl ?_
  refine Es_icmp_ne (hC _) 47 dX1_changesWith_40 (by decide) (fun hb40 => ?_) (fun hb40 => False.elim (hh hb40))
  refine Es_iconst (v := 1) (hC _) dX1_changesWith_47 (by decide) ?_
  refine Es_istore (lv' := [_, _, _, _, _]) (hC _) dX1_changesWith_48 (by decide) rfl rfl ?_
  refine Es_iload (hC _) dX1_changesWith_50 rfl ?_
  first | refine Es_aload_n (hC _) dX1_changesWith_52 rfl ?_ | refine Es_aload_nN (hC _) dX1_changesWith_52 rfl ?_
  refine Sg_X1_5 (hC _) fl_X1_30 dX1_changesWith_53 ?_
  refine Es_iload_n (hC _) dX1_changesWith_56 rfl ?_
  refine Es_iconst (v := 1) (hC _) dX1_changesWith_57 (by decide) ?_
  refine Es_iadd (hC _) dX1_changesWith_58 ?_
  rw [nI_1]
  refine Es_iload_n (hC _) dX1_changesWith_59 rfl ?_
  refine Es_iconst (v := 1) (hC _) dX1_changesWith_60 (by decide) ?_
  refine Es_iload_n (hC _) dX1_changesWith_61 rfl ?_
  refine Es_ishl (hC _) dX1_changesWith_62 ?_
  refine Es_ior (hC _) dX1_changesWith_63 ?_
  rw [or_N (by omega) (by omega) hbt]
  refine Es_fS (hC _) ms_X1_60 dX1_changesWith_64 (c_slot (by omega) (by have := ad_N hK hu hk hbt; omega)) rfl rfl (by decide) (Nat.le_of_ble_eq_true rfl) ?_
  refine Es_fSN (hC _) ms_X1_63 dX1_changesWith_67 (c_at (kd := 16) (n := 1024) rfl rfl rfl (by have := ad_N hK hu hk hbt; omega) (by decide)) rfl rfl (by decide) (Nat.le_of_ble_eq_true rfl) ?_
  rw [(hrow _ (ad_N hK hu hk hbt)).1]
  refine Es_iadd (hC _) dX1_changesWith_70 ?_
  exact Es_iret dX1_changesWith_71 rfl ⟨by rw [cwN_y hbt (by omega), t13 p k hp hk, if_neg hh]; exact congrArg (fun q => some (Value.int q)) (nI_add 1 _), rfl, rfl⟩

theorem c_cw {ad : sA} {nw nt : Nat} {B : sB} {L : sL} {D : TD} {f : Nat → Nat} {F P p u k : Nat} (hT : TT B D P) (hF : B 10 0 8 = iE F) (hF6 : F ≤ 1000001) (hp : p < P) (hu : u < 2 ^ D.K) (hk : k < D.K) (hrow : ∀ u', u' < 2 ^ D.K → B 16 0 (128 * (p + 1) + u') = nI (f u') ∧ f u' ≤ 200) : Cf yX1_changesWith cX1_changesWith 5 (some FieldType.int) 1 [.ref (ad 10 0), .int (nI p), .int (nI u), .int (nI k)] ad nw nt B L (some (.int (nI (cwN D F f p u k)))) B L := by
  by_cases hbt : bt u k = true
  · exact c_cw_1 hT hF hF6 hp hu hk hrow hbt
  · by_cases hE : D.E p k < F
    · exact c_cw_2 hT hF hF6 hp hu hk hrow hbt hE
    · by_cases hh : B 13 0 p = nI k
      · exact c_cw_3 hT hF hF6 hp hu hk hrow hbt hE hh
      · exact c_cw_4 hT hF hF6 hp hu hk hrow hbt hE hh
theorem cwN_b {B : sB} {D : TD} {f : Nat → Nat} {F P p u k : Nat} (hT : TT B D P) (hF : B 10 0 8 = iE F) (hF6 : F ≤ 1000001) (hp : p < P) (hu : u < 2 ^ D.K) (hk : k < D.K) (hrow : ∀ u', u' < 2 ^ D.K → B 16 0 (128 * (p + 1) + u') = nI (f u') ∧ f u' ≤ 200) : cwN D F f p u k ≤ 201 := by
  unfold cwN
  split
  · omega
  · rename_i hc
    have h1 : ¬ bt u k = true := fun z => hc (Or.inl z)
    have h2 := (hrow _ (ad_N hT.1 hu hk h1)).2
    have h3 := hT.2.2.2.2.2.2 p k hp hk
    rw [h3]
    split <;> omega
set_option maxRecDepth 100000 in
set_option maxHeartbeats 4000000 in
theorem l_ff {ad : sA} {nw nt : Nat} {B : sB} {L : sL} {bc bs : Nat} {b : Nat} {D : TD} {f : Nat → Nat} {F P p u : Nat} (hT : TT B D P) (hF : B 10 0 8 = iE F) (hF6 : F ≤ 1000001) (hp : p < P) (hu : u < 2 ^ D.K) (hrow : ∀ u', u' < 2 ^ D.K → B 16 0 (128 * (p + 1) + u') = nI (f u') ∧ f u' ≤ 200) (hb : b ≤ 200) : ∀ (n i : Nat), i + n = D.K → Es (sCm yX1_fewestFrom cX1_fewestFrom 5 (some .int) 2 ad nw nt (fun v B1 L1 => v = some (.int (nI (fwK D F f p u b D.K))) ∧ B1 = B ∧ L1 = L)) 5 35 [some (.ref (ad 10 0)), some (.int (nI p)), some (.int (nI u)), some (.int (nI (fwK D F f p u b i))), some (.int (nI i))] [] ad nw nt B L bc bs := by
  have hC : ∀ Q, je_Ok (sCm yX1_fewestFrom cX1_fewestFrom 5 (some .int) 2 ad nw nt Q) RX1 cX1_fewestFrom 5 2 := fun _ => je_Cm_ok
  have hK := hT.1
  have t6 := hT.2.2.1
  intro n
  induction n with
  | zero =>
    intro i hn
    have hik : i = D.K := by omega
    subst hik
    refine Es_iload (hC _) dX1_fewestFrom_35 rfl ?_
    first | refine Es_aload_n (hC _) dX1_fewestFrom_37 rfl ?_ | refine Es_aload_nN (hC _) dX1_fewestFrom_37 rfl ?_
    refine Sg_X1_6 (hC _) fl_X1_50 dX1_fewestFrom_38 ?_
    rw [t6]
    refine Es_icmp_ge (hC _) 63 dX1_fewestFrom_41 (by decide) (fun hb41 => ?_) (fun hb41 => False.elim (hb41 (nI_le (Nat.le_refl _) (by omega))))
    refine Es_iload_n (hC _) dX1_fewestFrom_63 rfl ?_
    exact Es_iret dX1_fewestFrom_64 rfl ⟨rfl, rfl, rfl⟩
  | succ n ih =>
    intro i hn
    have hkk := ih (i + 1) (by omega)
    simp only [fwK] at hkk
    have h1 := fwK_le (D := D) (F := F) (f := f) (p := p) (u := u) hb i
    have h2 := cwN_b (k := i) hT hF hF6 hp hu (by omega) hrow
    refine Es_iload (hC _) dX1_fewestFrom_35 rfl ?_
    first | refine Es_aload_n (hC _) dX1_fewestFrom_37 rfl ?_ | refine Es_aload_nN (hC _) dX1_fewestFrom_37 rfl ?_
    refine Sg_X1_6 (hC _) fl_X1_50 dX1_fewestFrom_38 ?_
    rw [t6]
    refine Es_icmp_ge (hC _) 63 dX1_fewestFrom_41 (by decide) (fun hb41 => False.elim (nI_ge (b := D.K) (a := i) (by omega) (by omega) hb41)) (fun hb41 => ?_)
    refine Es_iload_n (hC _) dX1_fewestFrom_44 rfl ?_
    first | refine Es_aload_n (hC _) dX1_fewestFrom_45 rfl ?_ | refine Es_aload_nN (hC _) dX1_fewestFrom_45 rfl ?_
    refine Es_iload_n (hC _) dX1_fewestFrom_46 rfl ?_
    refine Es_iload_n (hC _) dX1_fewestFrom_47 rfl ?_
    refine Es_iload (hC _) dX1_fewestFrom_48 rfl ?_
    refine Es_fV (hC _) mv_X1_126 dX1_fewestFrom_50 (c_cw hT hF hF6 hp hu (by omega) hrow) rfl rfl ⟨_, rfl, rfl⟩ rfl rfl (by decide) (Nat.le_of_ble_eq_true rfl) ?_
    refine Es_fS (hC _) ms_X1_39 dX1_fewestFrom_53 j_mini rfl rfl (by decide) (Nat.le_of_ble_eq_true rfl) ?_
    rw [mnI_N (by omega) (by omega)]
    refine Es_istore_n (lv' := [_, _, _, _, _]) (hC _) dX1_fewestFrom_56 (by decide) rfl rfl ?_
    refine Es_iinc (lv' := [_, _, _, _, _]) (hC _) dX1_fewestFrom_57 (by decide) rfl (show _ + Int32.ofInt (1) = _ + (1) from rfl) rfl rfl ?_
    refine Es_goto (hC _) 35 dX1_fewestFrom_60 (by decide) ?_
    rw [nI_1]
    exact hkk
set_option maxRecDepth 100000 in
set_option maxHeartbeats 4000000 in
theorem c_fewestFrom_y {ad : sA} {nw nt : Nat} {B : sB} {L : sL} {D : TD} {f : Nat → Nat} {F P p u : Nat} (hT : TT B D P) (hF : B 10 0 8 = iE F) (hF6 : F ≤ 1000001) (hp : p < P) (hu : u < 2 ^ D.K) (hrow : ∀ u', u' < 2 ^ D.K → B 16 0 (128 * (p + 1) + u') = nI (f u') ∧ f u' ≤ 200) (hm : D.mu p = true) : Cf yX1_fewestFrom cX1_fewestFrom 5 (some FieldType.int) 2 [.ref (ad 10 0), .int (nI p), .int (nI u)] ad nw nt B L (some (.int (nI (fwK D F f p u 100 D.K)))) (B) (L) := by
  have hC : ∀ Q, je_Ok (sCm yX1_fewestFrom cX1_fewestFrom 5 (some FieldType.int) 2 ad nw nt Q) RX1 cX1_fewestFrom 5 2 := fun _ => je_Cm_ok
  refine Cs_of [some (.ref (ad 10 0)), some (.int (nI p)), some (.int (nI u)), none, none] (by decide) rfl (Nat.le_of_ble_eq_true rfl) ?_
  have hT0 := hT
  obtain ⟨hK, hP, t6, t7, t14, t12, t13⟩ := hT
  have h2 := p2_b hK
  first | refine Es_aload_n (hC _) dX1_fewestFrom_0 rfl ?_ | refine Es_aload_nN (hC _) dX1_fewestFrom_0 rfl ?_
  refine Sg_X1_3 (hC _) fl_X1_24 dX1_fewestFrom_1 ?_
  refine Es_iload_n (hC _) dX1_fewestFrom_4 rfl ?_
  refine Es_fSN (hC _) ms_X1_63 dX1_fewestFrom_5 (c_at (kd := 14) (n := 7) rfl rfl rfl (by omega) (by decide)) rfl rfl (by decide) (Nat.le_of_ble_eq_true rfl) ?_
  rw [t14 p hp, if_pos hm]
  refine Es_iconst (v := 1) (hC _) dX1_fewestFrom_8 (by decide) ?_
  refine Es_icmp_ne (hC _) 17 dX1_fewestFrom_9 (by decide) (fun hb9 => False.elim (hb9 rfl)) (fun hb9 => ?_)
  refine Es_bipush (v := 100) (hC _) dX1_fewestFrom_12 (by decide) ?_
  refine Es_goto (hC _) 31 dX1_fewestFrom_14 (by decide) ?_
  refine Es_istore_n (lv' := [_, _, _, _, _]) (hC _) dX1_fewestFrom_31 (by decide) rfl rfl ?_
  refine Es_iconst (v := 0) (hC _) dX1_fewestFrom_32 (by decide) ?_
  refine Es_istore (lv' := [_, _, _, _, _]) (hC _) dX1_fewestFrom_33 (by decide) rfl rfl ?_
  exact l_ff hT0 hF hF6 hp hu hrow (by decide) D.K 0 (by omega)

set_option maxRecDepth 100000 in
set_option maxHeartbeats 4000000 in
theorem c_fewestFrom_n {ad : sA} {nw nt : Nat} {B : sB} {L : sL} {D : TD} {f : Nat → Nat} {F P p u : Nat} (hT : TT B D P) (hF : B 10 0 8 = iE F) (hF6 : F ≤ 1000001) (hp : p < P) (hu : u < 2 ^ D.K) (hrow : ∀ u', u' < 2 ^ D.K → B 16 0 (128 * (p + 1) + u') = nI (f u') ∧ f u' ≤ 200) (hm : ¬ D.mu p = true) : Cf yX1_fewestFrom cX1_fewestFrom 5 (some FieldType.int) 2 [.ref (ad 10 0), .int (nI p), .int (nI u)] ad nw nt B L (some (.int (nI (fwK D F f p u (f u) D.K)))) (B) (L) := by
  have hC : ∀ Q, je_Ok (sCm yX1_fewestFrom cX1_fewestFrom 5 (some FieldType.int) 2 ad nw nt Q) RX1 cX1_fewestFrom 5 2 := fun _ => je_Cm_ok
  refine Cs_of [some (.ref (ad 10 0)), some (.int (nI p)), some (.int (nI u)), none, none] (by decide) rfl (Nat.le_of_ble_eq_true rfl) ?_
  have hT0 := hT
  obtain ⟨hK, hP, t6, t7, t14, t12, t13⟩ := hT
  have h2 := p2_b hK
  first | refine Es_aload_n (hC _) dX1_fewestFrom_0 rfl ?_ | refine Es_aload_nN (hC _) dX1_fewestFrom_0 rfl ?_
  refine Sg_X1_3 (hC _) fl_X1_24 dX1_fewestFrom_1 ?_
  refine Es_iload_n (hC _) dX1_fewestFrom_4 rfl ?_
  refine Es_fSN (hC _) ms_X1_63 dX1_fewestFrom_5 (c_at (kd := 14) (n := 7) rfl rfl rfl (by omega) (by decide)) rfl rfl (by decide) (Nat.le_of_ble_eq_true rfl) ?_
  rw [t14 p hp, if_neg hm]
  refine Es_iconst (v := 1) (hC _) dX1_fewestFrom_8 (by decide) ?_
  refine Es_icmp_ne (hC _) 17 dX1_fewestFrom_9 (by decide) (fun hb9 => ?_) (fun hb9 => False.elim (absurd hb9 (by decide)))
  first | refine Es_aload_n (hC _) dX1_fewestFrom_17 rfl ?_ | refine Es_aload_nN (hC _) dX1_fewestFrom_17 rfl ?_
  refine Sg_X1_5 (hC _) fl_X1_30 dX1_fewestFrom_18 ?_
  refine Es_iload_n (hC _) dX1_fewestFrom_21 rfl ?_
  refine Es_iconst (v := 1) (hC _) dX1_fewestFrom_22 (by decide) ?_
  refine Es_iadd (hC _) dX1_fewestFrom_23 ?_
  rw [nI_1]
  refine Es_iload_n (hC _) dX1_fewestFrom_24 rfl ?_
  refine Es_fS (hC _) ms_X1_60 dX1_fewestFrom_25 (c_slot (by omega) (by omega)) rfl rfl (by decide) (Nat.le_of_ble_eq_true rfl) ?_
  refine Es_fSN (hC _) ms_X1_63 dX1_fewestFrom_28 (c_at (kd := 16) (n := 1024) rfl rfl rfl (by omega) (by decide)) rfl rfl (by decide) (Nat.le_of_ble_eq_true rfl) ?_
  rw [(hrow u hu).1]
  refine Es_istore_n (lv' := [_, _, _, _, _]) (hC _) dX1_fewestFrom_31 (by decide) rfl rfl ?_
  refine Es_iconst (v := 0) (hC _) dX1_fewestFrom_32 (by decide) ?_
  refine Es_istore (lv' := [_, _, _, _, _]) (hC _) dX1_fewestFrom_33 (by decide) rfl rfl ?_
  exact l_ff hT0 hF hF6 hp hu hrow (hrow u hu).2 D.K 0 (by omega)

theorem c_fewestFrom {ad : sA} {nw nt : Nat} {B : sB} {L : sL} {D : TD} {F P p u n : Nat} (hT : TT B D P) (hF : B 10 0 8 = iE F) (hF6 : F ≤ 1000001) (hp : p < P) (hu : u < 2 ^ D.K) (hrow : ∀ u', u' < 2 ^ D.K → B 16 0 (128 * (p + 1) + u') = nI (fwN D F n (p + 1) u') ∧ fwN D F n (p + 1) u' ≤ 200) : Cf yX1_fewestFrom cX1_fewestFrom 5 (some FieldType.int) 2 [.ref (ad 10 0), .int (nI p), .int (nI u)] ad nw nt B L (some (.int (nI (fwN D F (n + 1) p u)))) B L := by
  simp only [fwN]
  by_cases hm : D.mu p = true
  · rw [if_pos hm]
    exact c_fewestFrom_y hT hF hF6 hp hu hrow hm
  · rw [if_neg hm]
    exact c_fewestFrom_n hT hF hF6 hp hu hrow hm
theorem fw_b {D : TD} {F : Nat} : ∀ n p u, fwN D F n p u ≤ 100
  | 0, p, u => by
    simp only [fwN]
    split <;> omega
  | n + 1, p, u => by
    simp only [fwN]
    refine fwK_le ?_ D.K
    split
    · omega
    · exact fw_b n (p + 1) u
set_option maxRecDepth 100000 in
set_option maxHeartbeats 4000000 in
theorem l_fc3 {ad : sA} {nw nt : Nat} {B : sB} {L : sL} {bc bs : Nat} {D : TD} {F P : Nat} (hT : TT B D P) (hF : B 10 0 8 = iE F) (hF6 : F ≤ 1000001) {p : Nat} (hp : p < P) (kk : ∀ g, (∀ q u, p ≤ q → q ≤ P → u < 2 ^ D.K → g (128 * q + u) = nI (fwN D F (P - q) q u)) → Es (sCm yX1_fillChanges cX1_fillChanges 4 none 3 ad nw nt (fun v B1 L1 => v = none ∧ L1 = L ∧ ∃ g, B1 = sT B g ∧ ∀ q u, q ≤ P → u < 2 ^ D.K → g (128 * q + u) = nI (fwN D F (P - q) q u))) 4 51 [some (.ref (ad 10 0)), some (.int (nI (2 ^ D.K - 1))), some (.int (nI p - 1)), none] [] ad nw nt (sT B g) L bc bs) : ∀ (n u : Nat) (g : Nat → Int32), u + n = 2 ^ D.K → (∀ q u, p < q → q ≤ P → u < 2 ^ D.K → g (128 * q + u) = nI (fwN D F (P - q) q u)) → (∀ u', u' < u → g (128 * p + u') = nI (fwN D F (P - p) p u')) → Es (sCm yX1_fillChanges cX1_fillChanges 4 none 3 ad nw nt (fun v B1 L1 => v = none ∧ L1 = L ∧ ∃ g, B1 = sT B g ∧ ∀ q u, q ≤ P → u < 2 ^ D.K → g (128 * q + u) = nI (fwN D F (P - q) q u))) 4 57 [some (.ref (ad 10 0)), some (.int (nI (2 ^ D.K - 1))), some (.int (nI p)), some (.int (nI u))] [] ad nw nt (sT B g) L bc bs := by
  have hC : ∀ Q, je_Ok (sCm yX1_fillChanges cX1_fillChanges 4 none 3 ad nw nt Q) RX1 cX1_fillChanges 4 3 := fun _ => je_Cm_ok
  have hT0 := hT
  obtain ⟨hK, hP, t6, t7, t14, t12, t13⟩ := hT
  have h2 := p2_b hK
  intro n
  induction n with
  | zero =>
    intro u g hn hg hr
    have hk0 := kk g (fun q u' h1 h3 h4 => if he : q = p then (by rw [he]; exact hr u' (by omega)) else hg q u' (by omega) h3 h4)
    refine Es_iload_n (hC _) dX1_fillChanges_57 rfl ?_
    refine Es_iload_n (hC _) dX1_fillChanges_58 rfl ?_
    refine Es_icmp_gt (hC _) 86 dX1_fillChanges_59 (by decide) (fun hb59 => ?_) (fun hb59 => False.elim (hb59 (nI_lt (a := 2 ^ D.K - 1) (b := u) (by omega) (by omega))))
    refine Es_iinc (lv' := [_, _, _, _]) (hC _) dX1_fillChanges_86 (by decide) rfl (show _ + Int32.ofInt (-1) = _ + (-1) from rfl) rfl rfl ?_
    refine Es_goto (hC _) 51 dX1_fillChanges_89 (by decide) ?_
    refine Es.kill 3 (lv' := [_, _, _, _]) rfl ?_
    rw [← Int32.sub_eq_add_neg]
    exact hk0
  | succ n ih =>
    intro u g hn hg hr
    have e : P - p = P - (p + 1) + 1 := by omega
    have hrow : ∀ u', u' < 2 ^ D.K → sT B g 16 0 (128 * (p + 1) + u') = nI (fwN D F (P - (p + 1)) (p + 1) u') ∧ fwN D F (P - (p + 1)) (p + 1) u' ≤ 200 := fun u' hu' => ⟨hg (p + 1) u' (by omega) (by omega) hu', Nat.le_trans (fw_b _ _ _) (by decide)⟩
    refine Es_iload_n (hC _) dX1_fillChanges_57 rfl ?_
    refine Es_iload_n (hC _) dX1_fillChanges_58 rfl ?_
    refine Es_icmp_gt (hC _) 86 dX1_fillChanges_59 (by decide) (fun hb59 => False.elim (nI_nlt (a := 2 ^ D.K - 1) (b := u) (by omega) (by omega) hb59)) (fun hb59 => ?_)
    first | refine Es_aload_n (hC _) dX1_fillChanges_62 rfl ?_ | refine Es_aload_nN (hC _) dX1_fillChanges_62 rfl ?_
    refine Sg_X1_5 (hC _) fl_X1_30 dX1_fillChanges_63 ?_
    refine Es_iload_n (hC _) dX1_fillChanges_66 rfl ?_
    refine Es_iload_n (hC _) dX1_fillChanges_67 rfl ?_
    refine Es_fS (hC _) ms_X1_60 dX1_fillChanges_68 (c_slot (by omega) (by omega)) rfl rfl (by decide) (Nat.le_of_ble_eq_true rfl) ?_
    first | refine Es_aload_n (hC _) dX1_fillChanges_71 rfl ?_ | refine Es_aload_nN (hC _) dX1_fillChanges_71 rfl ?_
    refine Es_iload_n (hC _) dX1_fillChanges_72 rfl ?_
    refine Es_iload_n (hC _) dX1_fillChanges_73 rfl ?_
    refine Es_fV (hC _) mv_X1_123 dX1_fillChanges_74 (c_fewestFrom (TT_T hT0) (by rw [sT_k (by decide)]; exact hF) hF6 hp (by omega) hrow) rfl rfl ⟨_, rfl, rfl⟩ rfl rfl (by decide) (Nat.le_of_ble_eq_true rfl) ?_
    refine Es_fSN (hC _) ms_X1_76 dX1_fillChanges_77 (c_write (kd := 16) (n := 1024) rfl (fun _ => rfl) rfl (by omega) (by decide)) rfl rfl (by decide) (Nat.le_of_ble_eq_true rfl) ?_
    refine Es_iinc (lv' := [_, _, _, _]) (hC _) dX1_fillChanges_80 (by decide) rfl (show _ + Int32.ofInt (1) = _ + (1) from rfl) rfl rfl ?_
    refine Es_goto (hC _) 57 dX1_fillChanges_83 (by decide) ?_
    rw [nI_1, sT_u]
    refine ih (u + 1) _ (by omega) (fun q u' h1 h3 h4 => ?_) (fun u' h1 => ?_)
    · rw [upd_n (by omega)]
      exact hg q u' h1 h3 h4
    · by_cases he : u' = u
      · rw [he, upd_s, ← e]
      · rw [upd_n (by omega)]
        exact hr u' (by omega)
set_option maxRecDepth 100000 in
set_option maxHeartbeats 4000000 in
theorem l_fc2 {ad : sA} {nw nt : Nat} {B : sB} {L : sL} {bc bs : Nat} {D : TD} {F P : Nat} (hT : TT B D P) (hF : B 10 0 8 = iE F) (hF6 : F ≤ 1000001) : ∀ (p : Nat) (x : Int32) (g : Nat → Int32), p ≤ P → x = nI p - 1 → (∀ q u, p ≤ q → q ≤ P → u < 2 ^ D.K → g (128 * q + u) = nI (fwN D F (P - q) q u)) → Es (sCm yX1_fillChanges cX1_fillChanges 4 none 3 ad nw nt (fun v B1 L1 => v = none ∧ L1 = L ∧ ∃ g, B1 = sT B g ∧ ∀ q u, q ≤ P → u < 2 ^ D.K → g (128 * q + u) = nI (fwN D F (P - q) q u))) 4 51 [some (.ref (ad 10 0)), some (.int (nI (2 ^ D.K - 1))), some (.int x), none] [] ad nw nt (sT B g) L bc bs := by
  have hC : ∀ Q, je_Ok (sCm yX1_fillChanges cX1_fillChanges 4 none 3 ad nw nt Q) RX1 cX1_fillChanges 4 3 := fun _ => je_Cm_ok
  have hT0 := hT
  obtain ⟨hK, hP, t6, t7, t14, t12, t13⟩ := hT
  have h2 := p2_b hK
  intro p
  induction p with
  | zero =>
    intro x g hp hx hg
    have hx2 : x = -1 := hx
    subst hx2
    refine Es_iload_n (hC _) dX1_fillChanges_51 rfl ?_
    refine Es_if_lt (hC _) 92 dX1_fillChanges_52 (by decide) (fun hb52 => ?_) (fun hb52 => False.elim (hb52 (by decide)))
    exact Es_vret dX1_fillChanges_92 ⟨rfl, rfl, g, rfl, fun q u h1 h3 => hg q u (Nat.zero_le _) h1 h3⟩
  | succ p ih =>
    intro x g hp hx hg
    rw [nI_pred] at hx
    subst hx
    refine Es_iload_n (hC _) dX1_fillChanges_51 rfl ?_
    refine Es_if_lt (hC _) 92 dX1_fillChanges_52 (by decide) (fun hb52 => False.elim (nI_pos (by omega) hb52)) (fun hb52 => ?_)
    refine Es_iconst (v := 0) (hC _) dX1_fillChanges_55 (by decide) ?_
    refine Es_istore_n (lv' := [_, _, _, _]) (hC _) dX1_fillChanges_56 (by decide) rfl rfl ?_
    exact l_fc3 hT0 hF hF6 (by omega) (fun g hg => ih _ g (by omega) rfl hg) (2 ^ D.K) 0 g (by omega) (fun q u h1 h3 h4 => hg q u (by omega) h3 h4) (fun u' h => by omega)
set_option maxRecDepth 100000 in
set_option maxHeartbeats 4000000 in
theorem l_fc1 {ad : sA} {nw nt : Nat} {B : sB} {L : sL} {bc bs : Nat} {D : TD} {F P : Nat} (hT : TT B D P) (hF : B 10 0 8 = iE F) (hF6 : F ≤ 1000001) : ∀ (n u : Nat) (g : Nat → Int32), u + n = 2 ^ D.K → (∀ u', u' < u → g (128 * P + u') = nI (fwN D F 0 P u')) → Es (sCm yX1_fillChanges cX1_fillChanges 4 none 3 ad nw nt (fun v B1 L1 => v = none ∧ L1 = L ∧ ∃ g, B1 = sT B g ∧ ∀ q u, q ≤ P → u < 2 ^ D.K → g (128 * q + u) = nI (fwN D F (P - q) q u))) 4 7 [some (.ref (ad 10 0)), some (.int (nI (2 ^ D.K - 1))), some (.int (nI u)), none] [] ad nw nt (sT B g) L bc bs := by
  have hC : ∀ Q, je_Ok (sCm yX1_fillChanges cX1_fillChanges 4 none 3 ad nw nt Q) RX1 cX1_fillChanges 4 3 := fun _ => je_Cm_ok
  have hT0 := hT
  obtain ⟨hK, hP, t6, t7, t14, t12, t13⟩ := hT
  have h2 := p2_b hK
  intro n
  induction n with
  | zero =>
    intro u g hn hr
    refine Es_iload_n (hC _) dX1_fillChanges_7 rfl ?_
    refine Es_iload_n (hC _) dX1_fillChanges_8 rfl ?_
    refine Es_icmp_gt (hC _) 44 dX1_fillChanges_9 (by decide) (fun hb9 => ?_) (fun hb9 => False.elim (hb9 (nI_lt (a := 2 ^ D.K - 1) (b := u) (by omega) (by omega))))
    first | refine Es_aload_n (hC _) dX1_fillChanges_44 rfl ?_ | refine Es_aload_nN (hC _) dX1_fillChanges_44 rfl ?_
    refine Sg_X1_7 (hC _) fl_X1_45 dX1_fillChanges_45 ?_
    rw [sT_k (by decide), t7]
    refine Es_iconst (v := 1) (hC _) dX1_fillChanges_48 (by decide) ?_
    refine Es_isub (hC _) dX1_fillChanges_49 ?_
    refine Es_istore_n (lv' := [_, _, _, _]) (hC _) dX1_fillChanges_50 (by decide) rfl rfl ?_
    exact l_fc2 hT0 hF hF6 P _ g (Nat.le_refl _) rfl (fun q u' h1 h3 h4 => (by rw [show q = P by omega, Nat.sub_self]; exact hr u' (by omega)))
  | succ n ih =>
    intro u g hn hr
    by_cases hc : u = 2 ^ D.K - 1
    · have e : nI (fwN D F 0 P u) = 0 := by
        simp only [fwN]
        rw [if_pos hc]
        rfl
      refine Es_iload_n (hC _) dX1_fillChanges_7 rfl ?_
      refine Es_iload_n (hC _) dX1_fillChanges_8 rfl ?_
      refine Es_icmp_gt (hC _) 44 dX1_fillChanges_9 (by decide) (fun hb9 => False.elim (nI_nlt (a := 2 ^ D.K - 1) (b := u) (by omega) (by omega) hb9)) (fun hb9 => ?_)
      first | refine Es_aload_n (hC _) dX1_fillChanges_12 rfl ?_ | refine Es_aload_nN (hC _) dX1_fillChanges_12 rfl ?_
      refine Sg_X1_5 (hC _) fl_X1_30 dX1_fillChanges_13 ?_
      first | refine Es_aload_n (hC _) dX1_fillChanges_16 rfl ?_ | refine Es_aload_nN (hC _) dX1_fillChanges_16 rfl ?_
      refine Sg_X1_7 (hC _) fl_X1_45 dX1_fillChanges_17 ?_
      rw [sT_k (by decide), t7]
      refine Es_iload_n (hC _) dX1_fillChanges_20 rfl ?_
      refine Es_fS (hC _) ms_X1_60 dX1_fillChanges_21 (c_slot (by omega) (by omega)) rfl rfl (by decide) (Nat.le_of_ble_eq_true rfl) ?_
      refine Es_iload_n (hC _) dX1_fillChanges_24 rfl ?_
      refine Es_iload_n (hC _) dX1_fillChanges_25 rfl ?_
      refine Es_icmp_ne (hC _) 33 dX1_fillChanges_26 (by decide) (fun hb26 => False.elim (hb26 (by rw [hc]))) (fun hb26 => ?_)
      refine Es_iconst (v := 0) (hC _) dX1_fillChanges_29 (by decide) ?_
      refine Es_goto (hC _) 35 dX1_fillChanges_30 (by decide) ?_
      refine Es_fSN (hC _) ms_X1_76 dX1_fillChanges_35 (c_write (kd := 16) (n := 1024) rfl (fun _ => rfl) rfl (by omega) (by decide)) rfl rfl (by decide) (Nat.le_of_ble_eq_true rfl) ?_
      refine Es_iinc (lv' := [_, _, _, _]) (hC _) dX1_fillChanges_38 (by decide) rfl (show _ + Int32.ofInt (1) = _ + (1) from rfl) rfl rfl ?_
      refine Es_goto (hC _) 7 dX1_fillChanges_41 (by decide) ?_
      rw [nI_1, sT_u]
      refine ih (u + 1) _ (by omega) (fun u' h1 => ?_)
      by_cases he : u' = u
      · rw [he, upd_s, e]
      · rw [upd_n (by omega)]
        exact hr u' (by omega)
    · have e : nI (fwN D F 0 P u) = 100 := by
        simp only [fwN]
        rw [if_neg hc]
        rfl
      refine Es_iload_n (hC _) dX1_fillChanges_7 rfl ?_
      refine Es_iload_n (hC _) dX1_fillChanges_8 rfl ?_
      refine Es_icmp_gt (hC _) 44 dX1_fillChanges_9 (by decide) (fun hb9 => False.elim (nI_nlt (a := 2 ^ D.K - 1) (b := u) (by omega) (by omega) hb9)) (fun hb9 => ?_)
      first | refine Es_aload_n (hC _) dX1_fillChanges_12 rfl ?_ | refine Es_aload_nN (hC _) dX1_fillChanges_12 rfl ?_
      refine Sg_X1_5 (hC _) fl_X1_30 dX1_fillChanges_13 ?_
      first | refine Es_aload_n (hC _) dX1_fillChanges_16 rfl ?_ | refine Es_aload_nN (hC _) dX1_fillChanges_16 rfl ?_
      refine Sg_X1_7 (hC _) fl_X1_45 dX1_fillChanges_17 ?_
      rw [sT_k (by decide), t7]
      refine Es_iload_n (hC _) dX1_fillChanges_20 rfl ?_
      refine Es_fS (hC _) ms_X1_60 dX1_fillChanges_21 (c_slot (by omega) (by omega)) rfl rfl (by decide) (Nat.le_of_ble_eq_true rfl) ?_
      refine Es_iload_n (hC _) dX1_fillChanges_24 rfl ?_
      refine Es_iload_n (hC _) dX1_fillChanges_25 rfl ?_
      refine Es_icmp_ne (hC _) 33 dX1_fillChanges_26 (by decide) (fun hb26 => ?_) (fun hb26 => False.elim (hc ((nI_eq (by omega) (by omega)).mp hb26)))
      refine Es_bipush (v := 100) (hC _) dX1_fillChanges_33 (by decide) ?_
      refine Es_fSN (hC _) ms_X1_76 dX1_fillChanges_35 (c_write (kd := 16) (n := 1024) rfl (fun _ => rfl) rfl (by omega) (by decide)) rfl rfl (by decide) (Nat.le_of_ble_eq_true rfl) ?_
      refine Es_iinc (lv' := [_, _, _, _]) (hC _) dX1_fillChanges_38 (by decide) rfl (show _ + Int32.ofInt (1) = _ + (1) from rfl) rfl rfl ?_
      refine Es_goto (hC _) 7 dX1_fillChanges_41 (by decide) ?_
      rw [nI_1, sT_u]
      refine ih (u + 1) _ (by omega) (fun u' h1 => ?_)
      by_cases he : u' = u
      · rw [he, upd_s, e]
      · rw [upd_n (by omega)]
        exact hr u' (by omega)
set_option maxRecDepth 100000 in
set_option maxHeartbeats 4000000 in
theorem c_fillChanges {ad : sA} {nw nt : Nat} {B : sB} {L : sL} {D : TD} {F P : Nat} (hT : TT B D P) (hF : B 10 0 8 = iE F) (hF6 : F ≤ 1000001)  : Cs yX1_fillChanges cX1_fillChanges 4 none 3 [.ref (ad 10 0)] ad nw nt (B) (L) (fun v B1 L1 => v = none ∧ L1 = L ∧ ∃ g, B1 = sT B g ∧ ∀ q u, q ≤ P → u < 2 ^ D.K → g (128 * q + u) = nI (fwN D F (P - q) q u)) := by
  have hC : ∀ Q, je_Ok (sCm yX1_fillChanges cX1_fillChanges 4 none 3 ad nw nt Q) RX1 cX1_fillChanges 4 3 := fun _ => je_Cm_ok
  refine Cs_of [some (.ref (ad 10 0)), none, none, none] (by decide) rfl (Nat.le_of_ble_eq_true rfl) ?_
  first | refine Es_aload_n (hC _) dX1_fillChanges_0 rfl ?_ | refine Es_aload_nN (hC _) dX1_fillChanges_0 rfl ?_
  refine Es_fV (hC _) mv_X1_109 dX1_fillChanges_1 (c_allUsed hT.1 hT.2.2.1) rfl rfl ⟨_, rfl, rfl⟩ rfl rfl (by decide) (Nat.le_of_ble_eq_true rfl) ?_
  refine Es_istore_n (lv' := [_, _, _, _]) (hC _) dX1_fillChanges_4 (by decide) rfl rfl ?_
  refine Es_iconst (v := 0) (hC _) dX1_fillChanges_5 (by decide) ?_
  refine Es_istore_n (lv' := [_, _, _, _]) (hC _) dX1_fillChanges_6 (by decide) rfl rfl ?_
  have hh := l_fc1 (ad := ad) (nw := nw) (nt := nt) (L := L) (bc := 0) (bs := 0) hT hF hF6 (2 ^ D.K) 0 (B 16 0) (by omega) (fun u' h => by omega)
  rw [sT_id] at hh
  exact hh

def oI : Option Nat → Int32
  | none => -1
  | some k => nI k
set_option maxRecDepth 100000 in
set_option maxHeartbeats 4000000 in
theorem l_ch {ad : sA} {nw nt : Nat} {B : sB} {L : sL} {bc bs : Nat} {D : TD} {f : Nat → Nat} {F P p u : Nat} (hT : TT B D P) (hF : B 10 0 8 = iE F) (hF6 : F ≤ 1000001) (hp : p < P) (hu : u < 2 ^ D.K) (hrow : ∀ u', u' < 2 ^ D.K → B 16 0 (128 * (p + 1) + u') = nI (f u') ∧ f u' ≤ 200) {v : Nat} {g : Option Nat} (hv : v ≤ 200) : ∀ (n i : Nat), i + n = D.K → fsK D F f p u v n i = g → Es (sCm yX1_choose cX1_choose 5 (some .int) 2 ad nw nt (fun v B1 L1 => v = some (.int (oI g)) ∧ B1 = B ∧ L1 = L)) 5 16 [some (.ref (ad 10 0)), some (.int (nI p)), some (.int (nI u)), some (.int (nI v)), some (.int (nI i))] [] ad nw nt B L bc bs := by
  have hC : ∀ Q, je_Ok (sCm yX1_choose cX1_choose 5 (some .int) 2 ad nw nt Q) RX1 cX1_choose 5 2 := fun _ => je_Cm_ok
  have hK := hT.1
  have t6 := hT.2.2.1
  intro n
  induction n with
  | zero =>
    intro i hn hg
    have hik : i = D.K := by omega
    subst hik
    refine Es_iload (hC _) dX1_choose_16 rfl ?_
    first | refine Es_aload_n (hC _) dX1_choose_18 rfl ?_ | refine Es_aload_nN (hC _) dX1_choose_18 rfl ?_
    refine Sg_X1_6 (hC _) fl_X1_50 dX1_choose_19 ?_
    rw [t6]
    refine Es_icmp_ge (hC _) 46 dX1_choose_22 (by decide) (fun hb22 => ?_) (fun hb22 => False.elim (hb22 (nI_le (Nat.le_refl _) (by omega))))
    refine Es_iconst (v := -1) (hC _) dX1_choose_46 (by decide) ?_
    exact Es_iret dX1_choose_47 rfl ⟨by rw [← hg]; rfl, rfl, rfl⟩
  | succ n ih =>
    intro i hn hg
    have h2 := cwN_b (k := i) hT hF hF6 hp hu (by omega) hrow
    simp only [fsK] at hg
    by_cases hc : cwN D F f p u i = v
    · rw [if_pos hc] at hg
      refine Es_iload (hC _) dX1_choose_16 rfl ?_
      first | refine Es_aload_n (hC _) dX1_choose_18 rfl ?_ | refine Es_aload_nN (hC _) dX1_choose_18 rfl ?_
      refine Sg_X1_6 (hC _) fl_X1_50 dX1_choose_19 ?_
      rw [t6]
      refine Es_icmp_ge (hC _) 46 dX1_choose_22 (by decide) (fun hb22 => False.elim (nI_ge (b := D.K) (a := i) (by omega) (by omega) hb22)) (fun hb22 => ?_)
      first | refine Es_aload_n (hC _) dX1_choose_25 rfl ?_ | refine Es_aload_nN (hC _) dX1_choose_25 rfl ?_
      refine Es_iload_n (hC _) dX1_choose_26 rfl ?_
      refine Es_iload_n (hC _) dX1_choose_27 rfl ?_
      refine Es_iload (hC _) dX1_choose_28 rfl ?_
      refine Es_fV (hC _) mv_X1_126 dX1_choose_30 (c_cw hT hF hF6 hp hu (by omega) hrow) rfl rfl ⟨_, rfl, rfl⟩ rfl rfl (by decide) (Nat.le_of_ble_eq_true rfl) ?_
      refine Es_iload_n (hC _) dX1_choose_33 rfl ?_
      refine Es_icmp_ne (hC _) 40 dX1_choose_34 (by decide) (fun hb34 => False.elim (hb34 (by rw [hc]))) (fun hb34 => ?_)
      refine Es_iload (hC _) dX1_choose_37 rfl ?_
      exact Es_iret dX1_choose_39 rfl ⟨by rw [← hg]; rfl, rfl, rfl⟩
    · rw [if_neg hc] at hg
      refine Es_iload (hC _) dX1_choose_16 rfl ?_
      first | refine Es_aload_n (hC _) dX1_choose_18 rfl ?_ | refine Es_aload_nN (hC _) dX1_choose_18 rfl ?_
      refine Sg_X1_6 (hC _) fl_X1_50 dX1_choose_19 ?_
      rw [t6]
      refine Es_icmp_ge (hC _) 46 dX1_choose_22 (by decide) (fun hb22 => False.elim (nI_ge (b := D.K) (a := i) (by omega) (by omega) hb22)) (fun hb22 => ?_)
      first | refine Es_aload_n (hC _) dX1_choose_25 rfl ?_ | refine Es_aload_nN (hC _) dX1_choose_25 rfl ?_
      refine Es_iload_n (hC _) dX1_choose_26 rfl ?_
      refine Es_iload_n (hC _) dX1_choose_27 rfl ?_
      refine Es_iload (hC _) dX1_choose_28 rfl ?_
      refine Es_fV (hC _) mv_X1_126 dX1_choose_30 (c_cw hT hF hF6 hp hu (by omega) hrow) rfl rfl ⟨_, rfl, rfl⟩ rfl rfl (by decide) (Nat.le_of_ble_eq_true rfl) ?_
      refine Es_iload_n (hC _) dX1_choose_33 rfl ?_
      refine Es_icmp_ne (hC _) 40 dX1_choose_34 (by decide) (fun hb34 => ?_) (fun hb34 => False.elim (hc ((nI_eq (by omega) (by omega)).mp hb34)))
      refine Es_iinc (lv' := [_, _, _, _, _]) (hC _) dX1_choose_40 (by decide) rfl (show _ + Int32.ofInt (1) = _ + (1) from rfl) rfl rfl ?_
      refine Es_goto (hC _) 16 dX1_choose_43 (by decide) ?_
      rw [nI_1]
      exact ih (i + 1) (by omega) hg
set_option maxRecDepth 100000 in
set_option maxHeartbeats 4000000 in
theorem c_choose {ad : sA} {nw nt : Nat} {B : sB} {L : sL} {D : TD} {f : Nat → Nat} {F P p u : Nat} (hT : TT B D P) (hF : B 10 0 8 = iE F) (hF6 : F ≤ 1000001) (hp : p < P) (hu : u < 2 ^ D.K) (hrow : ∀ u', u' < 2 ^ D.K → B 16 0 (128 * (p + 1) + u') = nI (f u') ∧ f u' ≤ 200) {v : Nat} (hv : v ≤ 200) (hv2 : B 16 0 (128 * p + u) = nI v) : Cf yX1_choose cX1_choose 5 (some FieldType.int) 2 [.ref (ad 10 0), .int (nI p), .int (nI u)] ad nw nt B L (some (.int (oI (fsK D F f p u v D.K 0)))) (B) (L) := by
  have hC : ∀ Q, je_Ok (sCm yX1_choose cX1_choose 5 (some FieldType.int) 2 ad nw nt Q) RX1 cX1_choose 5 2 := fun _ => je_Cm_ok
  refine Cs_of [some (.ref (ad 10 0)), some (.int (nI p)), some (.int (nI u)), none, none] (by decide) rfl (Nat.le_of_ble_eq_true rfl) ?_
  have hK := hT.1
  have hP := hT.2.1
  have h2 := p2_b hK
  first | refine Es_aload_n (hC _) dX1_choose_0 rfl ?_ | refine Es_aload_nN (hC _) dX1_choose_0 rfl ?_
  refine Sg_X1_5 (hC _) fl_X1_30 dX1_choose_1 ?_
  refine Es_iload_n (hC _) dX1_choose_4 rfl ?_
  refine Es_iload_n (hC _) dX1_choose_5 rfl ?_
  refine Es_fS (hC _) ms_X1_60 dX1_choose_6 (c_slot (by omega) (by omega)) rfl rfl (by decide) (Nat.le_of_ble_eq_true rfl) ?_
  refine Es_fSN (hC _) ms_X1_63 dX1_choose_9 (c_at (kd := 16) (n := 1024) rfl rfl rfl (by omega) (by decide)) rfl rfl (by decide) (Nat.le_of_ble_eq_true rfl) ?_
  rw [hv2]
  refine Es_istore_n (lv' := [_, _, _, _, _]) (hC _) dX1_choose_12 (by decide) rfl rfl ?_
  refine Es_iconst (v := 0) (hC _) dX1_choose_13 (by decide) ?_
  refine Es_istore (lv' := [_, _, _, _, _]) (hC _) dX1_choose_14 (by decide) rfl rfl ?_
  exact l_ch hT hF hF6 hp hu hrow hv D.K 0 (by omega) rfl

def sU (B : sB) (c : Nat → Int32) : sB := fun k j i => if k = 15 ∧ j = 0 then c i else B k j i
theorem sU_r (B : sB) (g : Nat → Int32) (i : Nat) : sU B g 15 0 i = g i := rfl
theorem sU_k {B : sB} {g : Nat → Int32} {k : Nat} (h : k ≠ 15) : sU B g k = B k := by
  funext j i
  unfold sU
  rw [if_neg (fun z => h z.1)]
theorem sU_id (B : sB) : sU B (B 15 0) = B := by
  funext k j i
  unfold sU
  by_cases h : k = 15 ∧ j = 0
  · rw [if_pos h, h.1, h.2]
  · rw [if_neg h]
theorem sU_u (B : sB) (g : Nat → Int32) (i : Nat) (x : Int32) : uB (sU B g) 15 0 i x = sU B (upd g i x) := by
  funext k j i'
  by_cases h : k = 15 ∧ j = 0 ∧ i' = i
  · obtain ⟨rfl, rfl, rfl⟩ := h
    rw [uB_s, sU_r, upd_s]
  · rw [uB_n h]
    unfold sU
    by_cases h2 : k = 15 ∧ j = 0
    · rw [if_pos h2, if_pos h2, upd_n (fun z => h ⟨h2.1, h2.2, z⟩)]
    · rw [if_neg h2, if_neg h2]
theorem TT_U {B : sB} {D : TD} {P : Nat} {g : Nat → Int32} (h : TT B D P) : TT (sU B g) D P := by
  unfold TT
  rw [sU_k (by decide), sU_k (by decide), sU_k (by decide), sU_k (by decide)]
  exact h
set_option maxRecDepth 100000 in
set_option maxHeartbeats 4000000 in
theorem l_fway {ad : sA} {nw nt : Nat} {B : sB} {L : sL} {bc bs : Nat} {D : TD} {F P : Nat} {g : Nat → Int32} (hT : TT B D P) (hF : B 10 0 8 = iE F) (hF6 : F ≤ 1000001) (hg : ∀ q u, q ≤ P → u < 2 ^ D.K → g (128 * q + u) = nI (fwN D F (P - q) q u)) : ∀ (n p u : Nat) (c : Nat → Int32) (pre : List (Option Nat)), p + n = P → u < 2 ^ D.K → fwN D F n p u < 100 → pre.length = p → pre ++ chs D F n p u = chs D F P 0 0 → (∀ q, q < p → c q = oI (pre.getD q none)) → Es (sCm yX1_findWay cX1_findWay 4 (some .int) 4 ad nw nt (fun v B1 L1 => v = some (.int (nI (fwN D F P 0 0))) ∧ L1 = L ∧ ∃ g c, B1 = sU (sT B g) c ∧ ∀ q, q < P → c q = oI ((chs D F P 0 0).getD q none))) 4 8 [some (.ref (ad 10 0)), some (.int (nI u)), some (.int (nI p)), none] [] ad nw nt (sU (sT B g) c) L bc bs := by
  have hC : ∀ Q, je_Ok (sCm yX1_findWay cX1_findWay 4 (some .int) 4 ad nw nt Q) RX1 cX1_findWay 4 4 := fun _ => je_Cm_ok
  have hT0 := hT
  obtain ⟨hK, hP, t6, t7, t14, t12, t13⟩ := hT
  have h2 := p2_b hK
  intro n
  induction n with
  | zero =>
    intro p u c pre hn hu hlt hpl hpe hc
    have hpp : p = P := by omega
    subst hpp
    have hpe2 : pre = chs D F p 0 0 := by rw [← hpe]; simp only [chs, List.append_nil]
    have e0 := hg 0 0 (Nat.zero_le _) (by omega)
    refine Es_iload_n (hC _) dX1_findWay_8 rfl ?_
    first | refine Es_aload_n (hC _) dX1_findWay_9 rfl ?_ | refine Es_aload_nN (hC _) dX1_findWay_9 rfl ?_
    refine Sg_X1_7 (hC _) fl_X1_45 dX1_findWay_10 ?_
    rw [sU_k (by decide), sT_k (by decide), t7]
    refine Es_icmp_ge (hC _) 53 dX1_findWay_13 (by decide) (fun hb13 => ?_) (fun hb13 => False.elim (hb13 (nI_le (Nat.le_refl _) (by omega))))
    first | refine Es_aload_n (hC _) dX1_findWay_53 rfl ?_ | refine Es_aload_nN (hC _) dX1_findWay_53 rfl ?_
    refine Sg_X1_5 (hC _) fl_X1_30 dX1_findWay_54 ?_
    refine Es_iconst (v := 0) (hC _) dX1_findWay_57 (by decide) ?_
    refine Es_iconst (v := 0) (hC _) dX1_findWay_58 (by decide) ?_
    refine Es_fS (hC _) ms_X1_60 dX1_findWay_59 c_slot0 rfl rfl (by decide) (Nat.le_of_ble_eq_true rfl) ?_
    refine Es_fSN (hC _) ms_X1_63 dX1_findWay_62 (c_at (kd := 16) (n := 1024) (k := 0) rfl rfl rfl (by decide) (by decide)) rfl rfl (by decide) (Nat.le_of_ble_eq_true rfl) ?_
    rw [sU_k (by decide), sT_r, show g 0 = nI (fwN D F p 0 0) from e0]
    exact Es_iret dX1_findWay_65 rfl ⟨rfl, rfl, g, c, rfl, fun q hq => by rw [hc q hq, hpe2]⟩
  | succ n ih =>
    intro p u c pre hn hu hlt hpl hpe hc
    have hrow : ∀ u', u' < 2 ^ D.K → sU (sT B g) c 16 0 (128 * (p + 1) + u') = nI (fwN D F n (p + 1) u') ∧ fwN D F n (p + 1) u' ≤ 200 := fun u' hu' => ⟨by rw [sU_k (by decide), sT_r, hg (p + 1) u' (by omega) hu', show P - (p + 1) = n by omega], Nat.le_trans (fw_b _ _ _) (by decide)⟩
    have hv2 : sU (sT B g) c 16 0 (128 * p + u) = nI (fwN D F (n + 1) p u) := by rw [sU_k (by decide), sT_r, hg p u (by omega) hu, show P - p = n + 1 by omega]
    cases hs : fsK D F (fwN D F n (p + 1)) p u (fwN D F (n + 1) p u) D.K 0 with
    | none =>
      have hch : chs D F (n + 1) p u = none :: chs D F n (p + 1) u := by
        simp only [chs]
        rw [hs]
      have hlt2 : fwN D F n (p + 1) u < 100 := by
        have hn := fsK_n D.K 0 hs
        have hfw : fwN D F (n + 1) p u = fwK D F (fwN D F n (p + 1)) p u (if D.mu p = true then 100 else fwN D F n (p + 1) u) D.K := rfl
        rcases fwK_c (D := D) (F := F) (f := fwN D F n (p + 1)) (p := p) (u := u) (b := if D.mu p = true then 100 else fwN D F n (p + 1) u) D.K with e | ⟨i, h1, e⟩
        · rw [← hfw] at e
          by_cases hm : D.mu p = true
          · rw [if_pos hm] at e
            omega
          · rw [if_neg hm] at e
            omega
        · rw [← hfw] at e
          exact (hn i (by omega) (by omega) e.symm).elim
      refine Es_iload_n (hC _) dX1_findWay_8 rfl ?_
      first | refine Es_aload_n (hC _) dX1_findWay_9 rfl ?_ | refine Es_aload_nN (hC _) dX1_findWay_9 rfl ?_
      refine Sg_X1_7 (hC _) fl_X1_45 dX1_findWay_10 ?_
      rw [sU_k (by decide), sT_k (by decide), t7]
      refine Es_icmp_ge (hC _) 53 dX1_findWay_13 (by decide) (fun hb13 => False.elim (nI_ge (b := P) (a := p) (by omega) (by omega) hb13)) (fun hb13 => ?_)
      first | refine Es_aload_n (hC _) dX1_findWay_16 rfl ?_ | refine Es_aload_nN (hC _) dX1_findWay_16 rfl ?_
      refine Es_iload_n (hC _) dX1_findWay_17 rfl ?_
      refine Es_iload_n (hC _) dX1_findWay_18 rfl ?_
      refine Es_fV (hC _) mv_X1_73 dX1_findWay_19 (c_choose (TT_U (TT_T hT0)) (by rw [sU_k (by decide), sT_k (by decide)]; exact hF) hF6 (by omega) hu hrow (Nat.le_trans (fw_b _ _ _) (by decide)) hv2) rfl rfl ⟨_, rfl, rfl⟩ rfl rfl (by decide) (Nat.le_of_ble_eq_true rfl) ?_
      rw [hs]
      show Es _ _ _ _ (.int (-1) :: _) _ _ _ _ _ _ _
      refine Es_istore_n (lv' := [_, _, _, _]) (hC _) dX1_findWay_22 (by decide) rfl rfl ?_
      first | refine Es_aload_n (hC _) dX1_findWay_23 rfl ?_ | refine Es_aload_nN (hC _) dX1_findWay_23 rfl ?_
      refine Sg_X1_4 (hC _) fl_X1_27 dX1_findWay_24 ?_
      refine Es_iload_n (hC _) dX1_findWay_27 rfl ?_
      refine Es_iload_n (hC _) dX1_findWay_28 rfl ?_
      refine Es_fSN (hC _) ms_X1_76 dX1_findWay_29 (c_write (kd := 15) (n := 7) rfl (fun _ => rfl) rfl (by omega) (by decide)) rfl rfl (by decide) (Nat.le_of_ble_eq_true rfl) ?_
      refine Es_iload_n (hC _) dX1_findWay_32 rfl ?_
      refine Es_iconst (v := -1) (hC _) dX1_findWay_33 (by decide) ?_
      refine Es_icmp_ne (hC _) 41 dX1_findWay_34 (by decide) (fun hb34 => False.elim (hb34 rfl)) (fun hb34 => ?_)
      refine Es_iload_n (hC _) dX1_findWay_37 rfl ?_
      refine Es_goto (hC _) 46 dX1_findWay_38 (by decide) ?_
      refine Es_istore_n (lv' := [_, _, _, _]) (hC _) dX1_findWay_46 (by decide) rfl rfl ?_
      refine Es_iinc (lv' := [_, _, _, _]) (hC _) dX1_findWay_47 (by decide) rfl (show _ + Int32.ofInt (1) = _ + (1) from rfl) rfl rfl ?_
      refine Es_goto (hC _) 8 dX1_findWay_50 (by decide) ?_
      refine Es.kill 3 (lv' := [_, _, _, _]) rfl ?_
      rw [nI_1, sU_u]
      refine ih (p + 1) u _ (pre ++ [none]) (by omega) hu hlt2 (by rw [List.length_append, hpl]; rfl) (by rw [List.append_assoc, ← hpe, hch]; rfl) (fun q hq => ?_)
      by_cases he : q = p
      · rw [he, upd_s, List.getD_eq_getElem?_getD, List.getElem?_append_right (by omega), hpl, Nat.sub_self]
        rfl
      · rw [upd_n he, hc q (by omega), List.getD_eq_getElem?_getD, List.getD_eq_getElem?_getD, List.getElem?_append_left (by omega)]
    | some k =>
      obtain ⟨a1, a2, a3, a4⟩ := fsK_s D.K 0 k hs
      have hch : chs D F (n + 1) p u = some k :: chs D F n (p + 1) (u + 2 ^ k) := by
        simp only [chs]
        rw [hs]
      obtain ⟨hbt, b2, b3⟩ := cwN_l (D := D) (F := F) (f := fwN D F n (p + 1)) (p := p) (u := u) (k := k) (by omega)
      have hau := ad_N hK hu (show k < D.K by omega) hbt
      have hlt2 : fwN D F n (p + 1) (u + 2 ^ k) < 100 := by omega
      refine Es_iload_n (hC _) dX1_findWay_8 rfl ?_
      first | refine Es_aload_n (hC _) dX1_findWay_9 rfl ?_ | refine Es_aload_nN (hC _) dX1_findWay_9 rfl ?_
      refine Sg_X1_7 (hC _) fl_X1_45 dX1_findWay_10 ?_
      rw [sU_k (by decide), sT_k (by decide), t7]
      refine Es_icmp_ge (hC _) 53 dX1_findWay_13 (by decide) (fun hb13 => False.elim (nI_ge (b := P) (a := p) (by omega) (by omega) hb13)) (fun hb13 => ?_)
      first | refine Es_aload_n (hC _) dX1_findWay_16 rfl ?_ | refine Es_aload_nN (hC _) dX1_findWay_16 rfl ?_
      refine Es_iload_n (hC _) dX1_findWay_17 rfl ?_
      refine Es_iload_n (hC _) dX1_findWay_18 rfl ?_
      refine Es_fV (hC _) mv_X1_73 dX1_findWay_19 (c_choose (TT_U (TT_T hT0)) (by rw [sU_k (by decide), sT_k (by decide)]; exact hF) hF6 (by omega) hu hrow (Nat.le_trans (fw_b _ _ _) (by decide)) hv2) rfl rfl ⟨_, rfl, rfl⟩ rfl rfl (by decide) (Nat.le_of_ble_eq_true rfl) ?_
      rw [hs]
      show Es _ _ _ _ (.int (nI k) :: _) _ _ _ _ _ _ _
      refine Es_istore_n (lv' := [_, _, _, _]) (hC _) dX1_findWay_22 (by decide) rfl rfl ?_
      first | refine Es_aload_n (hC _) dX1_findWay_23 rfl ?_ | refine Es_aload_nN (hC _) dX1_findWay_23 rfl ?_
      refine Sg_X1_4 (hC _) fl_X1_27 dX1_findWay_24 ?_
      refine Es_iload_n (hC _) dX1_findWay_27 rfl ?_
      refine Es_iload_n (hC _) dX1_findWay_28 rfl ?_
      refine Es_fSN (hC _) ms_X1_76 dX1_findWay_29 (c_write (kd := 15) (n := 7) rfl (fun _ => rfl) rfl (by omega) (by decide)) rfl rfl (by decide) (Nat.le_of_ble_eq_true rfl) ?_
      refine Es_iload_n (hC _) dX1_findWay_32 rfl ?_
      refine Es_iconst (v := -1) (hC _) dX1_findWay_33 (by decide) ?_
      refine Es_icmp_ne (hC _) 41 dX1_findWay_34 (by decide) (fun hb34 => ?_) (fun hb34 => False.elim (nI_m1 (by omega) hb34))
      refine Es_iload_n (hC _) dX1_findWay_41 rfl ?_
      refine Es_iconst (v := 1) (hC _) dX1_findWay_42 (by decide) ?_
      refine Es_iload_n (hC _) dX1_findWay_43 rfl ?_
      refine Es_ishl (hC _) dX1_findWay_44 ?_
      refine Es_ior (hC _) dX1_findWay_45 ?_
      rw [or_N (by omega) (by omega) hbt]
      refine Es_istore_n (lv' := [_, _, _, _]) (hC _) dX1_findWay_46 (by decide) rfl rfl ?_
      refine Es_iinc (lv' := [_, _, _, _]) (hC _) dX1_findWay_47 (by decide) rfl (show _ + Int32.ofInt (1) = _ + (1) from rfl) rfl rfl ?_
      refine Es_goto (hC _) 8 dX1_findWay_50 (by decide) ?_
      refine Es.kill 3 (lv' := [_, _, _, _]) rfl ?_
      rw [nI_1, sU_u]
      refine ih (p + 1) (u + 2 ^ k) _ (pre ++ [some k]) (by omega) hau hlt2 (by rw [List.length_append, hpl]; rfl) (by rw [List.append_assoc, ← hpe, hch]; rfl) (fun q hq => ?_)
      by_cases he : q = p
      · rw [he, upd_s, List.getD_eq_getElem?_getD, List.getElem?_append_right (by omega), hpl, Nat.sub_self]
        rfl
      · rw [upd_n he, hc q (by omega), List.getD_eq_getElem?_getD, List.getD_eq_getElem?_getD, List.getElem?_append_left (by omega)]
set_option maxRecDepth 100000 in
set_option maxHeartbeats 4000000 in
theorem c_findWay {ad : sA} {nw nt : Nat} {B : sB} {L : sL} {D : TD} {F P : Nat} (hT : TT B D P) (hF : B 10 0 8 = iE F) (hF6 : F ≤ 1000001) (hlt : fwN D F P 0 0 < 100) : Cs yX1_findWay cX1_findWay 4 (some FieldType.int) 4 [.ref (ad 10 0)] ad nw nt (B) (L) (fun v B1 L1 => v = some (.int (nI (fwN D F P 0 0))) ∧ L1 = L ∧ ∃ g c, B1 = sU (sT B g) c ∧ ∀ q, q < P → c q = oI ((chs D F P 0 0).getD q none)) := by
  have hC : ∀ Q, je_Ok (sCm yX1_findWay cX1_findWay 4 (some FieldType.int) 4 ad nw nt Q) RX1 cX1_findWay 4 4 := fun _ => je_Cm_ok
  refine Cs_of [some (.ref (ad 10 0)), none, none, none] (by decide) rfl (Nat.le_of_ble_eq_true rfl) ?_
  first | refine Es_aload_n (hC _) dX1_findWay_0 rfl ?_ | refine Es_aload_nN (hC _) dX1_findWay_0 rfl ?_
  refine Es_callV (hC _) mv_X1_70 dX1_findWay_1 (c_fillChanges hT hF hF6) rfl rfl ⟨_, rfl, rfl⟩ rfl rfl (by decide) (Nat.le_of_ble_eq_true rfl) (fun v' B1 L2 q => ?_)
  obtain ⟨rfl, rfl, g, rfl, hg⟩ := q
  refine Es_iconst (v := 0) (hC _) dX1_findWay_4 (by decide) ?_
  refine Es_istore_n (lv' := [_, _, _, _]) (hC _) dX1_findWay_5 (by decide) rfl rfl ?_
  refine Es_iconst (v := 0) (hC _) dX1_findWay_6 (by decide) ?_
  refine Es_istore_n (lv' := [_, _, _, _]) (hC _) dX1_findWay_7 (by decide) rfl rfl ?_
  have hh := l_fway (ad := ad) (nw := nw) (nt := nt) (L := L2) (bc := 0) (bs := 0) hT hF hF6 hg P 0 0 (sT B g 15 0) [] (by omega) (by have := (p2_b hT.1).1; omega) hlt rfl rfl (fun q hq => by omega)
  rw [sU_id] at hh
  exact hh

