theorem gN_lt {n a b : Nat} (ha : a < 2 ^ 63) (hb : b < 2 ^ 63) : gN n a b < 2 ^ 63 := by
  induction n generalizing a b with
  | zero => exact ha
  | succ n ih =>
    simp only [gN]
    split
    · exact ha
    · exact ih hb (by have := Nat.mod_lt a (show 0 < b by omega); omega)
theorem r_wearOf {ad : sA} {nw nt : Nat} {B : sB} {L : sL} {t r m : Nat} (ht : t < 40) (hr : B 49 0 t = nI r) (h12 : r ≤ 12) (hmk : B 42 0 t = nI m) (hm4 : m < 4) (ho : okR (rA B t) r 1000000) (ho2 : okR (rD B t) r 300) (hmn : bd (B 32 0 m) 1000) : Cf yX6_wearOf cX6_wearOf 17 none 0 [.ref (ad 25 0), .int (nI t)] ad nw nt B L none B (wR L (wUD (rA B t) (rD B t) r (B 32 0 m))) := by
  obtain ⟨-, d1, d2⟩ := wD0_i h12 ho
  obtain ⟨u1, u2⟩ := wU0_i h12 ho ho2
  obtain ⟨mn, hmn1, hmn2⟩ := hmn
  unfold wUD
  by_cases hz : wD0 (rA B t) r = 0
  · simp only [if_pos hz]
    by_cases hu : (B 32 0 m).toInt64 ≤ 0
    · simp only [if_pos hu]
      exact r_wearOf_a ht hr h12 hmk hm4 hz hu
    · simp only [if_neg hu]
      have hu2 := l_nle hu
      have e1 : (B 32 0 m).toInt64 = lN mn := by rw [hmn2]; exact nI_l (by omega)
      have e2 : (100000 : Int64) = lN 100000 := rfl
      have h0 : 0 < mn := by rw [e1, pk_lT (by omega)] at hu2; omega
      have h1 := r_wearOf_b (ad := ad) (nw := nw) (nt := nt) (L := L) ht hr h12 hmk hm4 hz hu e1 e2 (by omega) (by omega) (by omega) rfl (gN_pos 100 mn 100000 h0) (gN_lt (by omega) (by omega))
      rw [e1, e2, gcS_N 100 mn 100000 (by omega) (by omega)]
      exact h1
  · simp only [if_neg hz]
    have hz2 : (wD0 (rA B t) r).toInt ≠ 0 := fun z => hz (Int64.toInt_inj.mp z)
    by_cases hu : wU0 (rA B t) (rD B t) r ≤ 0
    · simp only [if_pos hu]
      exact r_wearOf_c ht hr h12 hmk hm4 hz hu
    · simp only [if_neg hu]
      have hu2 := l_nle hu
      obtain ⟨x, hx⟩ : ∃ x : Nat, (wU0 (rA B t) (rD B t) r).toInt = x := ⟨(wU0 (rA B t) (rD B t) r).toInt.toNat, by omega⟩
      obtain ⟨y, hy⟩ : ∃ y : Nat, (wD0 (rA B t) r).toInt = y := ⟨(wD0 (rA B t) r).toInt.toNat, by omega⟩
      have e1 := l_of hx (by omega)
      have e2 := l_of hy (by omega)
      have h1 := r_wearOf_d (ad := ad) (nw := nw) (nt := nt) (L := L) ht hr h12 hmk hm4 hz hu e1 e2 (by omega) (by omega) (by omega) rfl (gN_pos 100 x y (by omega)) (gN_lt (by omega) (by omega))
      rw [e1, e2, gcS_N 100 x y (by omega) (by omega)]
      exact h1
theorem b_dv {d v : Nat} (hd : d ≤ 300) (hv : v ≤ 144000000000000) : d * v ≤ 43200000000000000 := by
  have := Nat.mul_le_mul hd hv
  omega
theorem b_uz {u z : Nat} (hu : u ≤ 43200000000) (hz : z ≤ 2000000) : u * z ≤ 86400000000000000 := by
  have := Nat.mul_le_mul hu hz
  omega
theorem mn_ok {W z : Nat} (h : z ≤ W) (hW : W < 2 ^ 62) : (mnL 1000000 (lN W - lN z)).toInt32 = nI (min 1000000 (W - z)) := by
  have e6 : (1000000 : Int64) = lN 1000000 := rfl
  rw [lN_sub h]
  unfold mnL
  rw [e6]
  by_cases hq : W - z < 1000000
  · rw [if_pos ((pk_lLT (by omega) (by omega)).mpr hq), lN_i]
    congr 1
    omega
  · rw [if_neg (fun q => hq ((pk_lLT (by omega) (by omega)).mp q)), lN_i]
    congr 1
    omega
theorem mm_ok {W z : Nat} (hW : W < 2 ^ 62) (hz : z < 2 ^ 62) : (mxL 0 (mnL 1000000 (lN W - lN z))).toInt32 = nI (min 1000000 (W - z)) := by
  have e6 : (1000000 : Int64) = lN 1000000 := rfl
  have e0 : (0 : Int64) = lN 0 := rfl
  rcases Nat.lt_or_ge W z with h | h
  · obtain ⟨h1, h2⟩ := l_neg hW hz h
    have h3 : mnL 1000000 (lN W - lN z) = lN W - lN z := by
      unfold mnL
      rw [if_pos]
      refine Int64.lt_iff_toInt_lt.mpr ?_
      rw [h1, e6, pk_lT (by omega)]
      omega
    rw [h3]
    unfold mxL
    rw [if_neg (fun q => absurd (Int64.lt_trans q h2) (by decide)), e0, lN_i]
    congr 1
    omega
  · rw [lN_sub h]
    have h3 : mnL 1000000 (lN (W - z)) = lN (min 1000000 (W - z)) := by
      unfold mnL
      rw [e6]
      by_cases hq : W - z < 1000000
      · rw [if_pos ((pk_lLT (by omega) (by omega)).mpr hq)]
        congr 1
        omega
      · rw [if_neg (fun q => hq ((pk_lLT (by omega) (by omega)).mp q))]
        congr 1
        omega
    rw [h3]
    unfold mxL
    by_cases hq : 0 < min 1000000 (W - z)
    · rw [e0, if_pos ((pk_lLT (by omega) (by omega)).mpr hq), lN_i]
    · rw [e0, if_neg (fun q => hq ((pk_lLT (by omega) (by omega)).mp q)), lN_i]
      congr 1
      omega
set_option maxRecDepth 100000 in
set_option maxHeartbeats 4000000 in
theorem c_depthFrom_p {ad : sA} {nw nt : Nat} {B : sB} {L : sL} {t : Nat} (ht : t < nt) {d z u v : Nat} (hd : d ≤ 300) (hz : z ≤ 2000000) (hu6 : u ≤ 43200000000) (hv1 : 1 ≤ v) (hv6 : v ≤ 144000000000000) (hu : L 24 t 0 = lN u) (hv : L 24 t 1 = lN v) (hc : u * z < d * v) : Cf yX4_depthFrom cX4_depthFrom 5 (some FieldType.int) 0 [.ref (ad 24 t), .int (nI d), .int (nI z)] ad nw nt B L (some (.int (nI (dpN d v u z)))) (B) (L) := by
  have hC : ∀ Q, je_Ok (sCm yX4_depthFrom cX4_depthFrom 5 (some FieldType.int) 0 ad nw nt Q) RX4 cX4_depthFrom 5 0 := fun _ => je_Cm_ok
  refine Cs_of [some (.ref (ad 24 t)), some (.int (nI d)), some (.int (nI z)), none, none] (by decide) rfl (Nat.le_of_ble_eq_true rfl) ?_
  have hb1 := b_dv hd hv6
  have hb2 := b_uz hu6 hz
  refine Es_iload_n (hC _) dX4_depthFrom_0 rfl ?_
  refine Es_i2l (hC _) dX4_depthFrom_1 ?_
  first | refine Es_aload_n (hC _) dX4_depthFrom_2 rfl ?_ | refine Es_aload_nN (hC _) dX4_depthFrom_2 rfl ?_
  refine Sg_X4_1 (hC _) fl_X4_15 dX4_depthFrom_3 ht ?_
  refine Es_lmul (hC _) dX4_depthFrom_6 ?_
  first | refine Es_aload_n (hC _) dX4_depthFrom_7 rfl ?_ | refine Es_aload_nN (hC _) dX4_depthFrom_7 rfl ?_
  refine Sg_X4_0 (hC _) fl_X4_9 dX4_depthFrom_8 ht ?_
  refine Es_iload_n (hC _) dX4_depthFrom_11 rfl ?_
  refine Es_i2l (hC _) dX4_depthFrom_12 ?_
  refine Es_lmul (hC _) dX4_depthFrom_13 ?_
  refine Es_lsub (hC _) dX4_depthFrom_14 ?_
  rw [hu, hv, nI_l (by omega), nI_l (by omega), lN_mul, lN_mul, lN_sub (by omega)]
  refine Es_lstore_n (lv' := [_, _, _, _, _]) (hC _) dX4_depthFrom_15 (by decide) rfl rfl ?_
  refine Es_lload_n (hC _) dX4_depthFrom_16 rfl ?_
  refine Es_lconst (v := 0) (hC _) dX4_depthFrom_17 (by decide) ?_
  refine Es_lcmp (hC _) dX4_depthFrom_18 ?_
  refine Es_if_le (hC _) 31 dX4_depthFrom_19 (by decide) (fun hb19 => False.elim (absurd ((pk_lLE (by omega) (by decide)).mp ((lgle _ (lN 0)).mp hb19)) (by omega))) (fun hb19 => ?_)
  first | refine Es_aload_n (hC _) dX4_depthFrom_22 rfl ?_ | refine Es_aload_nN (hC _) dX4_depthFrom_22 rfl ?_
  refine Sg_X4_1 (hC _) fl_X4_15 dX4_depthFrom_23 ht ?_
  refine Es_lconst (v := 0) (hC _) dX4_depthFrom_26 (by decide) ?_
  refine Es_lcmp (hC _) dX4_depthFrom_27 ?_
  refine Es_if_gt (hC _) 35 dX4_depthFrom_28 (by decide) (fun hb28 => ?_) (fun hb28 => False.elim (hb28 ((lggt _ _).mpr (by rw [hv]; exact (pk_lLT (a := 0) (by decide) (by omega)).mpr (by omega)))))
  refine Es_lload_n (hC _) dX4_depthFrom_35 rfl ?_
  first | refine Es_aload_n (hC _) dX4_depthFrom_36 rfl ?_ | refine Es_aload_nN (hC _) dX4_depthFrom_36 rfl ?_
  refine Sg_X4_1 (hC _) fl_X4_15 dX4_depthFrom_37 ht ?_
  refine Es_ldiv (hC _) dX4_depthFrom_40 (fun z => by rw [hv] at z; have := (lN_0 (by omega)).mp z; omega) ?_
  rw [hv, pk_lDiv (by omega) (by omega) (by omega)]
  refine Es_l2i (hC _) dX4_depthFrom_41 ?_
  rw [lN_i]
  exact Es_iret dX4_depthFrom_42 rfl ⟨rfl, rfl, rfl⟩

set_option maxRecDepth 100000 in
set_option maxHeartbeats 4000000 in
theorem c_depthFrom_n {ad : sA} {nw nt : Nat} {B : sB} {L : sL} {t : Nat} (ht : t < nt) {d z u v : Nat} (hd : d ≤ 300) (hz : z ≤ 2000000) (hu6 : u ≤ 43200000000) (hv1 : 1 ≤ v) (hv6 : v ≤ 144000000000000) (hu : L 24 t 0 = lN u) (hv : L 24 t 1 = lN v) (hc : d * v ≤ u * z) : Cf yX4_depthFrom cX4_depthFrom 5 (some FieldType.int) 0 [.ref (ad 24 t), .int (nI d), .int (nI z)] ad nw nt B L (some (.int (nI (dpN d v u z)))) (B) (L) := by
  have hC : ∀ Q, je_Ok (sCm yX4_depthFrom cX4_depthFrom 5 (some FieldType.int) 0 ad nw nt Q) RX4 cX4_depthFrom 5 0 := fun _ => je_Cm_ok
  refine Cs_of [some (.ref (ad 24 t)), some (.int (nI d)), some (.int (nI z)), none, none] (by decide) rfl (Nat.le_of_ble_eq_true rfl) ?_
  have hb1 := b_dv hd hv6
  have hb2 := b_uz hu6 hz
  refine Es_iload_n (hC _) dX4_depthFrom_0 rfl ?_
  refine Es_i2l (hC _) dX4_depthFrom_1 ?_
  first | refine Es_aload_n (hC _) dX4_depthFrom_2 rfl ?_ | refine Es_aload_nN (hC _) dX4_depthFrom_2 rfl ?_
  refine Sg_X4_1 (hC _) fl_X4_15 dX4_depthFrom_3 ht ?_
  refine Es_lmul (hC _) dX4_depthFrom_6 ?_
  first | refine Es_aload_n (hC _) dX4_depthFrom_7 rfl ?_ | refine Es_aload_nN (hC _) dX4_depthFrom_7 rfl ?_
  refine Sg_X4_0 (hC _) fl_X4_9 dX4_depthFrom_8 ht ?_
  refine Es_iload_n (hC _) dX4_depthFrom_11 rfl ?_
  refine Es_i2l (hC _) dX4_depthFrom_12 ?_
  refine Es_lmul (hC _) dX4_depthFrom_13 ?_
  refine Es_lsub (hC _) dX4_depthFrom_14 ?_
  rw [hu, hv, nI_l (by omega), nI_l (by omega), lN_mul, lN_mul]
  refine Es_lstore_n (lv' := [_, _, _, _, _]) (hC _) dX4_depthFrom_15 (by decide) rfl rfl ?_
  refine Es_lload_n (hC _) dX4_depthFrom_16 rfl ?_
  refine Es_lconst (v := 0) (hC _) dX4_depthFrom_17 (by decide) ?_
  refine Es_lcmp (hC _) dX4_depthFrom_18 ?_
  refine Es_if_le (hC _) 31 dX4_depthFrom_19 (by decide) (fun hb19 => ?_) (fun hb19 => False.elim (hb19 ((lgle _ _).mpr (by rcases Nat.lt_or_eq_of_le hc with q | q; exact Int64.le_of_lt (l_neg (by omega) (by omega) q).2; rw [q, Int64.sub_self]; decide))))
  refine Es_iconst (v := 0) (hC _) dX4_depthFrom_31 (by decide) ?_
  refine Es_goto (hC _) 42 dX4_depthFrom_32 (by decide) ?_
  exact Es_iret dX4_depthFrom_42 rfl ⟨by unfold dpN; rw [Nat.sub_eq_zero_of_le hc, Nat.zero_div]; rfl, rfl, rfl⟩

theorem c_depthFrom {ad : sA} {nw nt : Nat} {B : sB} {L : sL} {t : Nat} (ht : t < nt) {d z u v : Nat} (hd : d ≤ 300) (hz : z ≤ 2000000) (hu6 : u ≤ 43200000000) (hv1 : 1 ≤ v) (hv6 : v ≤ 144000000000000) (hu : L 24 t 0 = lN u) (hv : L 24 t 1 = lN v) : Cf yX4_depthFrom cX4_depthFrom 5 (some FieldType.int) 0 [.ref (ad 24 t), .int (nI d), .int (nI z)] ad nw nt B L (some (.int (nI (dpN d v u z)))) B L := by
  rcases Nat.lt_or_ge (u * z) (d * v) with hc | hc
  · exact c_depthFrom_p ht hd hz hu6 hv1 hv6 hu hv hc
  · exact c_depthFrom_n ht hd hz hu6 hv1 hv6 hu hv hc
set_option maxRecDepth 100000 in
set_option maxHeartbeats 4000000 in
theorem c_endFrom_1 {ad : sA} {nw nt : Nat} {B : sB} {L : sL} {t : Nat} (ht : t < nt) {d z u v : Nat} (hd : d ≤ 300) (hz : z ≤ 2000000) (hu6 : u ≤ 43200000000) (hv1 : 1 ≤ v) (hv6 : v ≤ 144000000000000) (hu : L 24 t 0 = lN u) (hv : L 24 t 1 = lN v) {l : Nat} (hl : l ≤ 300) (h0 : l = 0) : Cf yX4_endFrom cX4_endFrom 6 (some FieldType.int) 1 [.ref (ad 24 t), .int (nI d), .int (nI z), .int (nI l)] ad nw nt B L (some (.int (nI (enN d v u z l)))) (B) (L) := by
  have hC : ∀ Q, je_Ok (sCm yX4_endFrom cX4_endFrom 6 (some FieldType.int) 1 ad nw nt Q) RX4 cX4_endFrom 6 1 := fun _ => je_Cm_ok
  refine Cs_of [some (.ref (ad 24 t)), some (.int (nI d)), some (.int (nI z)), some (.int (nI l)), none, none] (by decide) rfl (Nat.le_of_ble_eq_true rfl) ?_
  refine Es_iload_n (hC _) dX4_endFrom_0 rfl ?_
  refine Es_if_gt (hC _) 7 dX4_endFrom_1 (by decide) (fun hb1 => False.elim (absurd ((nI_ltI (a := 0) (b := l) (by decide) (by omega)).mp hb1) (by omega))) (fun hb1 => ?_)
  refine Es_ldc (hC _) ct_X4_22 dX4_endFrom_4 ?_
  exact Es_iret dX4_endFrom_6 rfl ⟨by unfold enN; rw [if_pos h0]; rfl, rfl, rfl⟩

set_option maxRecDepth 100000 in
set_option maxHeartbeats 4000000 in
theorem c_endFrom_2 {ad : sA} {nw nt : Nat} {B : sB} {L : sL} {t : Nat} (ht : t < nt) {d z u v : Nat} (hd : d ≤ 300) (hz : z ≤ 2000000) (hu6 : u ≤ 43200000000) (hv1 : 1 ≤ v) (hv6 : v ≤ 144000000000000) (hu : L 24 t 0 = lN u) (hv : L 24 t 1 = lN v) {l : Nat} (hl : l ≤ 300) (h0 : 0 < l) (h1 : d < l) : Cf yX4_endFrom cX4_endFrom 6 (some FieldType.int) 1 [.ref (ad 24 t), .int (nI d), .int (nI z), .int (nI l)] ad nw nt B L (some (.int (nI (enN d v u z l)))) (B) (L) := by
  have hC : ∀ Q, je_Ok (sCm yX4_endFrom cX4_endFrom 6 (some FieldType.int) 1 ad nw nt Q) RX4 cX4_endFrom 6 1 := fun _ => je_Cm_ok
  refine Cs_of [some (.ref (ad 24 t)), some (.int (nI d)), some (.int (nI z)), some (.int (nI l)), none, none] (by decide) rfl (Nat.le_of_ble_eq_true rfl) ?_
  refine Es_iload_n (hC _) dX4_endFrom_0 rfl ?_
  refine Es_if_gt (hC _) 7 dX4_endFrom_1 (by decide) (fun hb1 => ?_) (fun hb1 => False.elim (hb1 (nI_lt (a := 0) (b := l) (by omega) (by omega))))
  refine Es_iload_n (hC _) dX4_endFrom_7 rfl ?_
  refine Es_iload_n (hC _) dX4_endFrom_8 rfl ?_
  refine Es_icmp_ge (hC _) 14 dX4_endFrom_9 (by decide) (fun hb9 => False.elim (nI_ge (b := l) (a := d) h1 (by omega) hb9)) (fun hb9 => ?_)
  refine Es_iconst (v := 0) (hC _) dX4_endFrom_12 (by decide) ?_
  exact Es_iret dX4_endFrom_13 rfl ⟨by unfold enN; rw [if_neg (by omega), if_pos h1]; rfl, rfl, rfl⟩

set_option maxRecDepth 100000 in
set_option maxHeartbeats 4000000 in
theorem c_endFrom_3 {ad : sA} {nw nt : Nat} {B : sB} {L : sL} {t : Nat} (ht : t < nt) {d z u v : Nat} (hd : d ≤ 300) (hz : z ≤ 2000000) (hu6 : u ≤ 43200000000) (hv1 : 1 ≤ v) (hv6 : v ≤ 144000000000000) (hu : L 24 t 0 = lN u) (hv : L 24 t 1 = lN v) {l : Nat} (hl : l ≤ 300) (h0 : 0 < l) (h1 : l ≤ d) (h2 : u = 0) : Cf yX4_endFrom cX4_endFrom 6 (some FieldType.int) 1 [.ref (ad 24 t), .int (nI d), .int (nI z), .int (nI l)] ad nw nt B L (some (.int (nI (enN d v u z l)))) (B) (L) := by
  have hC : ∀ Q, je_Ok (sCm yX4_endFrom cX4_endFrom 6 (some FieldType.int) 1 ad nw nt Q) RX4 cX4_endFrom 6 1 := fun _ => je_Cm_ok
  refine Cs_of [some (.ref (ad 24 t)), some (.int (nI d)), some (.int (nI z)), some (.int (nI l)), none, none] (by decide) rfl (Nat.le_of_ble_eq_true rfl) ?_
  refine Es_iload_n (hC _) dX4_endFrom_0 rfl ?_
  refine Es_if_gt (hC _) 7 dX4_endFrom_1 (by decide) (fun hb1 => ?_) (fun hb1 => False.elim (hb1 (nI_lt (a := 0) (b := l) (by omega) (by omega))))
  refine Es_iload_n (hC _) dX4_endFrom_7 rfl ?_
  refine Es_iload_n (hC _) dX4_endFrom_8 rfl ?_
  refine Es_icmp_ge (hC _) 14 dX4_endFrom_9 (by decide) (fun hb9 => ?_) (fun hb9 => False.elim (hb9 (nI_le (a := l) (b := d) (by omega) (by omega))))
  first | refine Es_aload_n (hC _) dX4_endFrom_14 rfl ?_ | refine Es_aload_nN (hC _) dX4_endFrom_14 rfl ?_
  refine Sg_X4_0 (hC _) fl_X4_9 dX4_endFrom_15 ht ?_
  refine Es_lconst (v := 0) (hC _) dX4_endFrom_18 (by decide) ?_
  refine Es_lcmp (hC _) dX4_endFrom_19 ?_
  refine Es_if_gt (hC _) 26 dX4_endFrom_20 (by decide) (fun hb20 => False.elim (absurd ((pk_lLT (a := 0) (b := u) (by decide) (by omega)).mp (hu ▸ (lggt _ _).mp hb20)) (by omega))) (fun hb20 => ?_)
  refine Es_ldc (hC _) ct_X4_22 dX4_endFrom_23 ?_
  exact Es_iret dX4_endFrom_25 rfl ⟨by unfold enN; rw [if_neg (by omega), if_neg (by omega), if_pos h2]; rfl, rfl, rfl⟩

set_option maxRecDepth 100000 in
set_option maxHeartbeats 4000000 in
theorem c_endFrom_4 {ad : sA} {nw nt : Nat} {B : sB} {L : sL} {t : Nat} (ht : t < nt) {d z u v : Nat} (hd : d ≤ 300) (hz : z ≤ 2000000) (hu6 : u ≤ 43200000000) (hv1 : 1 ≤ v) (hv6 : v ≤ 144000000000000) (hu : L 24 t 0 = lN u) (hv : L 24 t 1 = lN v) {l : Nat} (hl : l ≤ 300) (h0 : 0 < l) (h1 : l ≤ d) (h2 : 0 < u) : Cf yX4_endFrom cX4_endFrom 6 (some FieldType.int) 1 [.ref (ad 24 t), .int (nI d), .int (nI z), .int (nI l)] ad nw nt B L (some (.int (nI (enN d v u z l)))) (B) (L) := by
  have hC : ∀ Q, je_Ok (sCm yX4_endFrom cX4_endFrom 6 (some FieldType.int) 1 ad nw nt Q) RX4 cX4_endFrom 6 1 := fun _ => je_Cm_ok
  refine Cs_of [some (.ref (ad 24 t)), some (.int (nI d)), some (.int (nI z)), some (.int (nI l)), none, none] (by decide) rfl (Nat.le_of_ble_eq_true rfl) ?_
  have hb1 := b_dv (d := d - l) (by omega) hv6
  have hb2 := Nat.div_le_self ((d - l) * v) u
  refine Es_iload_n (hC _) dX4_endFrom_0 rfl ?_
  refine Es_if_gt (hC _) 7 dX4_endFrom_1 (by decide) (fun hb1 => ?_) (fun hb1 => False.elim (hb1 (nI_lt (a := 0) (b := l) (by omega) (by omega))))
  refine Es_iload_n (hC _) dX4_endFrom_7 rfl ?_
  refine Es_iload_n (hC _) dX4_endFrom_8 rfl ?_
  refine Es_icmp_ge (hC _) 14 dX4_endFrom_9 (by decide) (fun hb9 => ?_) (fun hb9 => False.elim (hb9 (nI_le (a := l) (b := d) (by omega) (by omega))))
  first | refine Es_aload_n (hC _) dX4_endFrom_14 rfl ?_ | refine Es_aload_nN (hC _) dX4_endFrom_14 rfl ?_
  refine Sg_X4_0 (hC _) fl_X4_9 dX4_endFrom_15 ht ?_
  refine Es_lconst (v := 0) (hC _) dX4_endFrom_18 (by decide) ?_
  refine Es_lcmp (hC _) dX4_endFrom_19 ?_
  refine Es_if_gt (hC _) 26 dX4_endFrom_20 (by decide) (fun hb20 => ?_) (fun hb20 => False.elim (hb20 ((lggt _ _).mpr (by rw [hu]; exact (pk_lLT (a := 0) (b := u) (by decide) (by omega)).mpr h2))))
  refine Es_iload_n (hC _) dX4_endFrom_26 rfl ?_
  refine Es_iload_n (hC _) dX4_endFrom_27 rfl ?_
  refine Es_isub (hC _) dX4_endFrom_28 ?_
  refine Es_i2l (hC _) dX4_endFrom_29 ?_
  first | refine Es_aload_n (hC _) dX4_endFrom_30 rfl ?_ | refine Es_aload_nN (hC _) dX4_endFrom_30 rfl ?_
  refine Sg_X4_1 (hC _) fl_X4_15 dX4_endFrom_31 ht ?_
  refine Es_lmul (hC _) dX4_endFrom_34 ?_
  first | refine Es_aload_n (hC _) dX4_endFrom_35 rfl ?_ | refine Es_aload_nN (hC _) dX4_endFrom_35 rfl ?_
  refine Sg_X4_0 (hC _) fl_X4_9 dX4_endFrom_36 ht ?_
  refine Es_ldiv (hC _) dX4_endFrom_39 (fun z => by rw [hu] at z; have := (lN_0 (by omega)).mp z; omega) ?_
  rw [hu, hv, pk_sub h1, nI_l (by omega), lN_mul, pk_lDiv (by omega) h2 (by omega)]
  refine Es_lstore (lv' := [_, _, _, _, _, _]) (hC _) dX4_endFrom_40 (by decide) rfl rfl ?_
  refine Es_lconst (v := 0) (hC _) dX4_endFrom_42 (by decide) ?_
  refine Es_ldc2 (hC _) cq_X4_23 dX4_endFrom_43 ?_
  refine Es_lload (hC _) dX4_endFrom_46 rfl ?_
  refine Es_iload_n (hC _) dX4_endFrom_48 rfl ?_
  refine Es_i2l (hC _) dX4_endFrom_49 ?_
  refine Es_lsub (hC _) dX4_endFrom_50 ?_
  rw [nI_l (by omega)]
  refine Es_fS (hC _) ms_X4_25 dX4_endFrom_51 j_minl rfl rfl (by decide) (Nat.le_of_ble_eq_true rfl) ?_
  refine Es_fS (hC _) ms_X4_30 dX4_endFrom_54 j_maxl rfl rfl (by decide) (Nat.le_of_ble_eq_true rfl) ?_
  refine Es_l2i (hC _) dX4_endFrom_57 ?_
  exact Es_iret dX4_endFrom_58 rfl ⟨by unfold enN; rw [if_neg (by omega), if_neg (by omega), if_neg (by omega), ← mm_ok (by omega) (by omega)], rfl, rfl⟩

theorem c_endFrom {ad : sA} {nw nt : Nat} {B : sB} {L : sL} {t : Nat} (ht : t < nt) {d z u v : Nat} (hd : d ≤ 300) (hz : z ≤ 2000000) (hu6 : u ≤ 43200000000) (hv1 : 1 ≤ v) (hv6 : v ≤ 144000000000000) (hu : L 24 t 0 = lN u) (hv : L 24 t 1 = lN v) {l : Nat} (hl : l ≤ 300) : Cf yX4_endFrom cX4_endFrom 6 (some FieldType.int) 1 [.ref (ad 24 t), .int (nI d), .int (nI z), .int (nI l)] ad nw nt B L (some (.int (nI (enN d v u z l)))) B L := by
  by_cases h0 : l = 0
  · exact c_endFrom_1 ht hd hz hu6 hv1 hv6 hu hv hl h0
  · rcases Nat.lt_or_ge d l with h1 | h1
    · exact c_endFrom_2 ht hd hz hu6 hv1 hv6 hu hv hl (by omega) h1
    · by_cases h2 : u = 0
      · exact c_endFrom_3 ht hd hz hu6 hv1 hv6 hu hv hl (by omega) h1 h2
      · exact c_endFrom_4 ht hd hz hu6 hv1 hv6 hu hv hl (by omega) h1 (by omega)
set_option maxRecDepth 100000 in
set_option maxHeartbeats 4000000 in
theorem c_endFrom_1n {ad : sA} {nw nt : Nat} {B : sB} {L : sL} {d z u v : Nat} (hd : d ≤ 300) (hz : z ≤ 2000000) (hu6 : u ≤ 43200000000) (hv1 : 1 ≤ v) (hv6 : v ≤ 144000000000000) (hu : L 17 0 0 = lN u) (hv : L 17 0 1 = lN v) {l : Nat} (hl : l ≤ 300) (h0 : l = 0) : Cf yX4_endFrom cX4_endFrom 6 (some FieldType.int) 1 [.ref (ad 17 0), .int (nI d), .int (nI z), .int (nI l)] ad nw nt B L (some (.int (nI (enN d v u z l)))) (B) (L) := by
  have hC : ∀ Q, je_Ok (sCm yX4_endFrom cX4_endFrom 6 (some FieldType.int) 1 ad nw nt Q) RX4 cX4_endFrom 6 1 := fun _ => je_Cm_ok
  refine Cs_of [some (.ref (ad 17 0)), some (.int (nI d)), some (.int (nI z)), some (.int (nI l)), none, none] (by decide) rfl (Nat.le_of_ble_eq_true rfl) ?_
  refine Es_iload_n (hC _) dX4_endFrom_0 rfl ?_
  refine Es_if_gt (hC _) 7 dX4_endFrom_1 (by decide) (fun hb1 => False.elim (absurd ((nI_ltI (a := 0) (b := l) (by decide) (by omega)).mp hb1) (by omega))) (fun hb1 => ?_)
  refine Es_ldc (hC _) ct_X4_22 dX4_endFrom_4 ?_
  exact Es_iret dX4_endFrom_6 rfl ⟨by unfold enN; rw [if_pos h0]; rfl, rfl, rfl⟩

set_option maxRecDepth 100000 in
set_option maxHeartbeats 4000000 in
theorem c_endFrom_2n {ad : sA} {nw nt : Nat} {B : sB} {L : sL} {d z u v : Nat} (hd : d ≤ 300) (hz : z ≤ 2000000) (hu6 : u ≤ 43200000000) (hv1 : 1 ≤ v) (hv6 : v ≤ 144000000000000) (hu : L 17 0 0 = lN u) (hv : L 17 0 1 = lN v) {l : Nat} (hl : l ≤ 300) (h0 : 0 < l) (h1 : d < l) : Cf yX4_endFrom cX4_endFrom 6 (some FieldType.int) 1 [.ref (ad 17 0), .int (nI d), .int (nI z), .int (nI l)] ad nw nt B L (some (.int (nI (enN d v u z l)))) (B) (L) := by
  have hC : ∀ Q, je_Ok (sCm yX4_endFrom cX4_endFrom 6 (some FieldType.int) 1 ad nw nt Q) RX4 cX4_endFrom 6 1 := fun _ => je_Cm_ok
  refine Cs_of [some (.ref (ad 17 0)), some (.int (nI d)), some (.int (nI z)), some (.int (nI l)), none, none] (by decide) rfl (Nat.le_of_ble_eq_true rfl) ?_
  refine Es_iload_n (hC _) dX4_endFrom_0 rfl ?_
  refine Es_if_gt (hC _) 7 dX4_endFrom_1 (by decide) (fun hb1 => ?_) (fun hb1 => False.elim (hb1 (nI_lt (a := 0) (b := l) (by omega) (by omega))))
  refine Es_iload_n (hC _) dX4_endFrom_7 rfl ?_
  refine Es_iload_n (hC _) dX4_endFrom_8 rfl ?_
  refine Es_icmp_ge (hC _) 14 dX4_endFrom_9 (by decide) (fun hb9 => False.elim (nI_ge (b := l) (a := d) h1 (by omega) hb9)) (fun hb9 => ?_)
  refine Es_iconst (v := 0) (hC _) dX4_endFrom_12 (by decide) ?_
  exact Es_iret dX4_endFrom_13 rfl ⟨by unfold enN; rw [if_neg (by omega), if_pos h1]; rfl, rfl, rfl⟩

set_option maxRecDepth 100000 in
set_option maxHeartbeats 4000000 in
theorem c_endFrom_3n {ad : sA} {nw nt : Nat} {B : sB} {L : sL} {d z u v : Nat} (hd : d ≤ 300) (hz : z ≤ 2000000) (hu6 : u ≤ 43200000000) (hv1 : 1 ≤ v) (hv6 : v ≤ 144000000000000) (hu : L 17 0 0 = lN u) (hv : L 17 0 1 = lN v) {l : Nat} (hl : l ≤ 300) (h0 : 0 < l) (h1 : l ≤ d) (h2 : u = 0) : Cf yX4_endFrom cX4_endFrom 6 (some FieldType.int) 1 [.ref (ad 17 0), .int (nI d), .int (nI z), .int (nI l)] ad nw nt B L (some (.int (nI (enN d v u z l)))) (B) (L) := by
  have hC : ∀ Q, je_Ok (sCm yX4_endFrom cX4_endFrom 6 (some FieldType.int) 1 ad nw nt Q) RX4 cX4_endFrom 6 1 := fun _ => je_Cm_ok
  refine Cs_of [some (.ref (ad 17 0)), some (.int (nI d)), some (.int (nI z)), some (.int (nI l)), none, none] (by decide) rfl (Nat.le_of_ble_eq_true rfl) ?_
  refine Es_iload_n (hC _) dX4_endFrom_0 rfl ?_
  refine Es_if_gt (hC _) 7 dX4_endFrom_1 (by decide) (fun hb1 => ?_) (fun hb1 => False.elim (hb1 (nI_lt (a := 0) (b := l) (by omega) (by omega))))
  refine Es_iload_n (hC _) dX4_endFrom_7 rfl ?_
  refine Es_iload_n (hC _) dX4_endFrom_8 rfl ?_
  refine Es_icmp_ge (hC _) 14 dX4_endFrom_9 (by decide) (fun hb9 => ?_) (fun hb9 => False.elim (hb9 (nI_le (a := l) (b := d) (by omega) (by omega))))
  first | refine Es_aload_n (hC _) dX4_endFrom_14 rfl ?_ | refine Es_aload_nN (hC _) dX4_endFrom_14 rfl ?_
  refine Sg_X4_0n (hC _) fl_X4_9 dX4_endFrom_15 ?_
  refine Es_lconst (v := 0) (hC _) dX4_endFrom_18 (by decide) ?_
  refine Es_lcmp (hC _) dX4_endFrom_19 ?_
  refine Es_if_gt (hC _) 26 dX4_endFrom_20 (by decide) (fun hb20 => False.elim (absurd ((pk_lLT (a := 0) (b := u) (by decide) (by omega)).mp (hu ▸ (lggt _ _).mp hb20)) (by omega))) (fun hb20 => ?_)
  refine Es_ldc (hC _) ct_X4_22 dX4_endFrom_23 ?_
  exact Es_iret dX4_endFrom_25 rfl ⟨by unfold enN; rw [if_neg (by omega), if_neg (by omega), if_pos h2]; rfl, rfl, rfl⟩

set_option maxRecDepth 100000 in
set_option maxHeartbeats 4000000 in
theorem c_endFrom_4n {ad : sA} {nw nt : Nat} {B : sB} {L : sL} {d z u v : Nat} (hd : d ≤ 300) (hz : z ≤ 2000000) (hu6 : u ≤ 43200000000) (hv1 : 1 ≤ v) (hv6 : v ≤ 144000000000000) (hu : L 17 0 0 = lN u) (hv : L 17 0 1 = lN v) {l : Nat} (hl : l ≤ 300) (h0 : 0 < l) (h1 : l ≤ d) (h2 : 0 < u) : Cf yX4_endFrom cX4_endFrom 6 (some FieldType.int) 1 [.ref (ad 17 0), .int (nI d), .int (nI z), .int (nI l)] ad nw nt B L (some (.int (nI (enN d v u z l)))) (B) (L) := by
  have hC : ∀ Q, je_Ok (sCm yX4_endFrom cX4_endFrom 6 (some FieldType.int) 1 ad nw nt Q) RX4 cX4_endFrom 6 1 := fun _ => je_Cm_ok
  refine Cs_of [some (.ref (ad 17 0)), some (.int (nI d)), some (.int (nI z)), some (.int (nI l)), none, none] (by decide) rfl (Nat.le_of_ble_eq_true rfl) ?_
  have hb1 := b_dv (d := d - l) (by omega) hv6
  have hb2 := Nat.div_le_self ((d - l) * v) u
  refine Es_iload_n (hC _) dX4_endFrom_0 rfl ?_
  refine Es_if_gt (hC _) 7 dX4_endFrom_1 (by decide) (fun hb1 => ?_) (fun hb1 => False.elim (hb1 (nI_lt (a := 0) (b := l) (by omega) (by omega))))
  refine Es_iload_n (hC _) dX4_endFrom_7 rfl ?_
  refine Es_iload_n (hC _) dX4_endFrom_8 rfl ?_
  refine Es_icmp_ge (hC _) 14 dX4_endFrom_9 (by decide) (fun hb9 => ?_) (fun hb9 => False.elim (hb9 (nI_le (a := l) (b := d) (by omega) (by omega))))
  first | refine Es_aload_n (hC _) dX4_endFrom_14 rfl ?_ | refine Es_aload_nN (hC _) dX4_endFrom_14 rfl ?_
  refine Sg_X4_0n (hC _) fl_X4_9 dX4_endFrom_15 ?_
  refine Es_lconst (v := 0) (hC _) dX4_endFrom_18 (by decide) ?_
  refine Es_lcmp (hC _) dX4_endFrom_19 ?_
  refine Es_if_gt (hC _) 26 dX4_endFrom_20 (by decide) (fun hb20 => ?_) (fun hb20 => False.elim (hb20 ((lggt _ _).mpr (by rw [hu]; exact (pk_lLT (a := 0) (b := u) (by decide) (by omega)).mpr h2))))
  refine Es_iload_n (hC _) dX4_endFrom_26 rfl ?_
  refine Es_iload_n (hC _) dX4_endFrom_27 rfl ?_
  refine Es_isub (hC _) dX4_endFrom_28 ?_
  refine Es_i2l (hC _) dX4_endFrom_29 ?_
  first | refine Es_aload_n (hC _) dX4_endFrom_30 rfl ?_ | refine Es_aload_nN (hC _) dX4_endFrom_30 rfl ?_
  refine Sg_X4_1n (hC _) fl_X4_15 dX4_endFrom_31 ?_
  refine Es_lmul (hC _) dX4_endFrom_34 ?_
  first | refine Es_aload_n (hC _) dX4_endFrom_35 rfl ?_ | refine Es_aload_nN (hC _) dX4_endFrom_35 rfl ?_
  refine Sg_X4_0n (hC _) fl_X4_9 dX4_endFrom_36 ?_
  refine Es_ldiv (hC _) dX4_endFrom_39 (fun z => by rw [hu] at z; have := (lN_0 (by omega)).mp z; omega) ?_
  rw [hu, hv, pk_sub h1, nI_l (by omega), lN_mul, pk_lDiv (by omega) h2 (by omega)]
  refine Es_lstore (lv' := [_, _, _, _, _, _]) (hC _) dX4_endFrom_40 (by decide) rfl rfl ?_
  refine Es_lconst (v := 0) (hC _) dX4_endFrom_42 (by decide) ?_
  refine Es_ldc2 (hC _) cq_X4_23 dX4_endFrom_43 ?_
  refine Es_lload (hC _) dX4_endFrom_46 rfl ?_
  refine Es_iload_n (hC _) dX4_endFrom_48 rfl ?_
  refine Es_i2l (hC _) dX4_endFrom_49 ?_
  refine Es_lsub (hC _) dX4_endFrom_50 ?_
  rw [nI_l (by omega)]
  refine Es_fS (hC _) ms_X4_25 dX4_endFrom_51 j_minl rfl rfl (by decide) (Nat.le_of_ble_eq_true rfl) ?_
  refine Es_fS (hC _) ms_X4_30 dX4_endFrom_54 j_maxl rfl rfl (by decide) (Nat.le_of_ble_eq_true rfl) ?_
  refine Es_l2i (hC _) dX4_endFrom_57 ?_
  exact Es_iret dX4_endFrom_58 rfl ⟨by unfold enN; rw [if_neg (by omega), if_neg (by omega), if_neg (by omega), ← mm_ok (by omega) (by omega)], rfl, rfl⟩

theorem c_endFromn {ad : sA} {nw nt : Nat} {B : sB} {L : sL} {d z u v : Nat} (hd : d ≤ 300) (hz : z ≤ 2000000) (hu6 : u ≤ 43200000000) (hv1 : 1 ≤ v) (hv6 : v ≤ 144000000000000) (hu : L 17 0 0 = lN u) (hv : L 17 0 1 = lN v) {l : Nat} (hl : l ≤ 300) : Cf yX4_endFrom cX4_endFrom 6 (some FieldType.int) 1 [.ref (ad 17 0), .int (nI d), .int (nI z), .int (nI l)] ad nw nt B L (some (.int (nI (enN d v u z l)))) B L := by
  by_cases h0 : l = 0
  · exact c_endFrom_1n hd hz hu6 hv1 hv6 hu hv hl h0
  · rcases Nat.lt_or_ge d l with h1 | h1
    · exact c_endFrom_2n hd hz hu6 hv1 hv6 hu hv hl (by omega) h1
    · by_cases h2 : u = 0
      · exact c_endFrom_3n hd hz hu6 hv1 hv6 hu hv hl (by omega) h1 h2
      · exact c_endFrom_4n hd hz hu6 hv1 hv6 hu hv hl (by omega) h1 (by omega)
set_option maxRecDepth 100000 in
set_option maxHeartbeats 4000000 in
theorem c_depthAfter {ad : sA} {nw nt : Nat} {B : sB} {L : sL} {t r d ra len u v : Nat} (ht : t < nt) (hr : B 21 t 6 = nI (r + 1)) (h12 : r < 12) (hrd : B 23 t r = nI d) (hd : d ≤ 300) (hra : B 22 t r = nI ra) (hlen : B 21 t 9 = nI len) (hle : ra ≤ len) (hl6 : len ≤ 1000000) (hu6 : u ≤ 43200000000) (hv1 : 1 ≤ v) (hv6 : v ≤ 144000000000000) (hu : L 24 t 0 = lN u) (hv : L 24 t 1 = lN v) {mo : Nat} (hmo : mo ≤ 1000000) : Cf yX2_depthAfter cX2_depthAfter 2 (some FieldType.int) 2 [.ref (ad 21 t), .int (nI mo)] ad nw nt B L (some (.int (nI (dpN d v u (len - ra + mo))))) (B) (L) := by
  have hC : ∀ Q, je_Ok (sCm yX2_depthAfter cX2_depthAfter 2 (some FieldType.int) 2 ad nw nt Q) RX2 cX2_depthAfter 2 2 := fun _ => je_Cm_ok
  refine Cs_of [some (.ref (ad 21 t)), some (.int (nI mo))] (by decide) rfl (Nat.le_of_ble_eq_true rfl) ?_
  first | refine Es_aload_n (hC _) dX2_depthAfter_0 rfl ?_ | refine Es_aload_nN (hC _) dX2_depthAfter_0 rfl ?_
  refine Sg_X2_5 (hC _) fl_X2_21 dX2_depthAfter_1 ht ?_
  first | refine Es_aload_n (hC _) dX2_depthAfter_4 rfl ?_ | refine Es_aload_nN (hC _) dX2_depthAfter_4 rfl ?_
  refine Sg_X2_4 (hC _) fl_X2_15 dX2_depthAfter_5 ht ?_
  first | refine Es_aload_n (hC _) dX2_depthAfter_8 rfl ?_ | refine Es_aload_nN (hC _) dX2_depthAfter_8 rfl ?_
  refine Sg_X2_6 (hC _) fl_X2_44 dX2_depthAfter_9 ht ?_
  rw [hr]
  refine Es_iconst (v := 1) (hC _) dX2_depthAfter_12 (by decide) ?_
  refine Es_isub (hC _) dX2_depthAfter_13 ?_
  refine Es_fSN (hC _) ms_X2_61 dX2_depthAfter_14 (c_at (kd := 23) (n := 12) (ok23 ht) rfl (nI_pred _) h12 (by decide)) rfl rfl (by decide) (Nat.le_of_ble_eq_true rfl) ?_
  rw [hrd]
  first | refine Es_aload_n (hC _) dX2_depthAfter_17 rfl ?_ | refine Es_aload_nN (hC _) dX2_depthAfter_17 rfl ?_
  refine Es_fV (hC _) mv_X2_71 dX2_depthAfter_18 (c_sinceRead ht hr h12) (ok21 ht) rfl ⟨_, rfl, rfl⟩ rfl rfl (by decide) (Nat.le_of_ble_eq_true rfl) ?_
  rw [hlen, hra, pk_sub hle]
  refine Es_iload_n (hC _) dX2_depthAfter_21 rfl ?_
  refine Es_iadd (hC _) dX2_depthAfter_22 ?_
  rw [nI_add]
  refine Es_fV (hC _) mv_X2_75 dX2_depthAfter_23 (c_depthFrom ht hd (by omega) hu6 hv1 hv6 hu hv) (ok24 ht) rfl ⟨_, rfl, rfl⟩ rfl rfl (by decide) (Nat.le_of_ble_eq_true rfl) ?_
  exact Es_iret dX2_depthAfter_26 rfl ⟨rfl, rfl, rfl⟩

set_option maxRecDepth 100000 in
set_option maxHeartbeats 4000000 in
theorem c_endFor {ad : sA} {nw nt : Nat} {B : sB} {L : sL} {t r d ra len u v : Nat} (ht : t < nt) (hr : B 21 t 6 = nI (r + 1)) (h12 : r < 12) (hrd : B 23 t r = nI d) (hd : d ≤ 300) (hra : B 22 t r = nI ra) (hlen : B 21 t 9 = nI len) (hle : ra ≤ len) (hl6 : len ≤ 1000000) (hu6 : u ≤ 43200000000) (hv1 : 1 ≤ v) (hv6 : v ≤ 144000000000000) (hu : L 24 t 0 = lN u) (hv : L 24 t 1 = lN v) {l : Nat} (hl : l ≤ 300) : Cf yX2_endFor cX2_endFor 2 (some FieldType.int) 2 [.ref (ad 21 t), .int (nI l)] ad nw nt B L (some (.int (nI (enN d v u (len - ra) l)))) (B) (L) := by
  have hC : ∀ Q, je_Ok (sCm yX2_endFor cX2_endFor 2 (some FieldType.int) 2 ad nw nt Q) RX2 cX2_endFor 2 2 := fun _ => je_Cm_ok
  refine Cs_of [some (.ref (ad 21 t)), some (.int (nI l))] (by decide) rfl (Nat.le_of_ble_eq_true rfl) ?_
  first | refine Es_aload_n (hC _) dX2_endFor_0 rfl ?_ | refine Es_aload_nN (hC _) dX2_endFor_0 rfl ?_
  refine Sg_X2_5 (hC _) fl_X2_21 dX2_endFor_1 ht ?_
  first | refine Es_aload_n (hC _) dX2_endFor_4 rfl ?_ | refine Es_aload_nN (hC _) dX2_endFor_4 rfl ?_
  refine Sg_X2_4 (hC _) fl_X2_15 dX2_endFor_5 ht ?_
  first | refine Es_aload_n (hC _) dX2_endFor_8 rfl ?_ | refine Es_aload_nN (hC _) dX2_endFor_8 rfl ?_
  refine Sg_X2_6 (hC _) fl_X2_44 dX2_endFor_9 ht ?_
  rw [hr]
  refine Es_iconst (v := 1) (hC _) dX2_endFor_12 (by decide) ?_
  refine Es_isub (hC _) dX2_endFor_13 ?_
  refine Es_fSN (hC _) ms_X2_61 dX2_endFor_14 (c_at (kd := 23) (n := 12) (ok23 ht) rfl (nI_pred _) h12 (by decide)) rfl rfl (by decide) (Nat.le_of_ble_eq_true rfl) ?_
  rw [hrd]
  first | refine Es_aload_n (hC _) dX2_endFor_17 rfl ?_ | refine Es_aload_nN (hC _) dX2_endFor_17 rfl ?_
  refine Es_fV (hC _) mv_X2_71 dX2_endFor_18 (c_sinceRead ht hr h12) (ok21 ht) rfl ⟨_, rfl, rfl⟩ rfl rfl (by decide) (Nat.le_of_ble_eq_true rfl) ?_
  rw [hlen, hra, pk_sub hle]
  refine Es_iload_n (hC _) dX2_endFor_21 rfl ?_
  refine Es_fV (hC _) mv_X2_79 dX2_endFor_22 (c_endFrom ht hd (by omega) hu6 hv1 hv6 hu hv hl) (ok24 ht) rfl ⟨_, rfl, rfl⟩ rfl rfl (by decide) (Nat.le_of_ble_eq_true rfl) ?_
  exact Es_iret dX2_endFor_25 rfl ⟨rfl, rfl, rfl⟩

set_option maxRecDepth 100000 in
set_option maxHeartbeats 4000000 in
theorem r_depthOf_p {ad : sA} {nw nt : Nat} {B : sB} {L : sL} {t r m d ra len u v : Nat} (ht : t < 40) (hr : B 49 0 t = nI (r + 1)) (h12 : r < 12) (hmk : B 42 0 t = nI m) (hm4 : m < 4) (ho : okR (rA B t) (r + 1) 1000000) (ho2 : okR (rD B t) (r + 1) 300) (hmn : bd (B 32 0 m) 1000) (hw : wUD (rA B t) (rD B t) (r + 1) (B 32 0 m) = (lN u, lN v)) (hrd : B 51 0 (13 * t + r) = nI d) (hd : d ≤ 300) (hra : B 50 0 (13 * t + r) = nI ra) (hlen : B 46 0 t = nI len) (hle : ra ≤ len) (hl6 : len ≤ 1000000) (hu6 : u ≤ 43200000000) (hv1 : 1 ≤ v) (hv6 : v ≤ 144000000000000) {mo : Nat} (hmo : mo ≤ 1000000) (hc : u * (len - ra + mo) ≤ d * v) : Cf yX6_depthOf cX6_depthOf 7 (some FieldType.int) 2 [.ref (ad 25 0), .int (nI t), .int (nI mo)] ad nw nt B L (some (.int (nI (dpN d v u (len - ra + mo))))) (B) (wR L (lN u, lN v)) := by
  have hC : ∀ Q, je_Ok (sCm yX6_depthOf cX6_depthOf 7 (some FieldType.int) 2 ad nw nt Q) RX6 cX6_depthOf 7 2 := fun _ => je_Cm_ok
  refine Cs_of [some (.ref (ad 25 0)), some (.int (nI t)), some (.int (nI mo)), none, none, none, none] (by decide) rfl (Nat.le_of_ble_eq_true rfl) ?_
  have hb1 := b_dv hd hv6
  have hb2 := b_uz (z := len - ra + mo) hu6 (by omega)
  first | refine Es_aload_n (hC _) dX6_depthOf_0 rfl ?_ | refine Es_aload_nN (hC _) dX6_depthOf_0 rfl ?_
  refine Es_iload_n (hC _) dX6_depthOf_1 rfl ?_
  refine Es_fV (hC _) mv_X6_137 dX6_depthOf_2 (r_wearOf ht hr h12 hmk hm4 ho ho2 hmn) rfl rfl ⟨_, rfl, rfl⟩ rfl rfl (by decide) (Nat.le_of_ble_eq_true rfl) ?_
  rw [hw]
  first | refine Es_aload_n (hC _) dX6_depthOf_5 rfl ?_ | refine Es_aload_nN (hC _) dX6_depthOf_5 rfl ?_
  refine Sg_X6_16 (hC _) fl_X6_47 dX6_depthOf_6 ?_
  refine Es_iload_n (hC _) dX6_depthOf_9 rfl ?_
  refine Es_ialdN (hC _) dX6_depthOf_10 rfl rfl rfl ht (by decide) ?_
  refine Es_i2l (hC _) dX6_depthOf_11 ?_
  rw [hlen]
  refine Es_iload_n (hC _) dX6_depthOf_12 rfl ?_
  refine Es_i2l (hC _) dX6_depthOf_13 ?_
  refine Es_ladd (hC _) dX6_depthOf_14 ?_
  first | refine Es_aload_n (hC _) dX6_depthOf_15 rfl ?_ | refine Es_aload_nN (hC _) dX6_depthOf_15 rfl ?_
  refine Sg_X6_20 (hC _) fl_X6_59 dX6_depthOf_16 ?_
  first | refine Es_aload_n (hC _) dX6_depthOf_19 rfl ?_ | refine Es_aload_nN (hC _) dX6_depthOf_19 rfl ?_
  refine Es_iload_n (hC _) dX6_depthOf_20 rfl ?_
  refine Es_fV (hC _) mv_X6_140 dX6_depthOf_21 (r_lastOf ht hr) rfl rfl ⟨_, rfl, rfl⟩ rfl rfl (by decide) (Nat.le_of_ble_eq_true rfl) ?_
  refine Es_ialdN (hC _) dX6_depthOf_24 rfl rfl rfl (by omega) (by decide) ?_
  refine Es_i2l (hC _) dX6_depthOf_25 ?_
  refine Es_lsub (hC _) dX6_depthOf_26 ?_
  rw [hra, nI_l (by omega), nI_l (by omega), nI_l (by omega), lN_add, lN_sub (by omega), show len + mo - ra = len - ra + mo by omega]
  refine Es_lstore_n (lv' := [_, _, _, _, _, _, _]) (hC _) dX6_depthOf_27 (by decide) rfl rfl ?_
  first | refine Es_aload_n (hC _) dX6_depthOf_28 rfl ?_ | refine Es_aload_nN (hC _) dX6_depthOf_28 rfl ?_
  refine Sg_X6_21 (hC _) fl_X6_62 dX6_depthOf_29 ?_
  first | refine Es_aload_n (hC _) dX6_depthOf_32 rfl ?_ | refine Es_aload_nN (hC _) dX6_depthOf_32 rfl ?_
  refine Es_iload_n (hC _) dX6_depthOf_33 rfl ?_
  refine Es_fV (hC _) mv_X6_140 dX6_depthOf_34 (r_lastOf ht hr) rfl rfl ⟨_, rfl, rfl⟩ rfl rfl (by decide) (Nat.le_of_ble_eq_true rfl) ?_
  refine Es_ialdN (hC _) dX6_depthOf_37 rfl rfl rfl (by omega) (by decide) ?_
  rw [hrd]
  refine Es_i2l (hC _) dX6_depthOf_38 ?_
  first | refine Es_aload_n (hC _) dX6_depthOf_39 rfl ?_ | refine Es_aload_nN (hC _) dX6_depthOf_39 rfl ?_
  refine Sg_X6_26 (hC _) fl_X6_132 dX6_depthOf_40 ?_
  rw [wR_d]
  refine Es_lmul (hC _) dX6_depthOf_43 ?_
  first | refine Es_aload_n (hC _) dX6_depthOf_44 rfl ?_ | refine Es_aload_nN (hC _) dX6_depthOf_44 rfl ?_
  refine Sg_X6_25 (hC _) fl_X6_128 dX6_depthOf_45 ?_
  rw [wR_u]
  refine Es_lload_n (hC _) dX6_depthOf_48 rfl ?_
  refine Es_lmul (hC _) dX6_depthOf_49 ?_
  refine Es_lsub (hC _) dX6_depthOf_50 ?_
  first | refine Es_aload_n (hC _) dX6_depthOf_51 rfl ?_ | refine Es_aload_nN (hC _) dX6_depthOf_51 rfl ?_
  refine Sg_X6_26 (hC _) fl_X6_132 dX6_depthOf_52 ?_
  rw [wR_d]
  show Es _ _ _ _ (.long (lN v) :: .long ((nI d).toInt64 * lN v - lN u * lN (len - ra + mo)) :: _) _ _ _ _ _ _ _
  rw [nI_l (by omega), lN_mul, lN_mul]
  refine Es_fS (hC _) ms_X6_143 dX6_depthOf_55 (j_floorDiv (fun z => by have := (lN_0 (by omega)).mp z; omega)) rfl rfl (by decide) (Nat.le_of_ble_eq_true rfl) ?_
  rw [lN_sub hc, flD_nn (by omega) (by omega) (by omega)]
  refine Es_lstore (lv' := [_, _, _, _, _, _, _]) (hC _) dX6_depthOf_58 (by decide) rfl rfl ?_
  refine Es_lload (hC _) dX6_depthOf_60 rfl ?_
  refine Es_lconst (v := 0) (hC _) dX6_depthOf_62 (by decide) ?_
  refine Es_lcmp (hC _) dX6_depthOf_63 ?_
  refine Es_if_ge (hC _) 71 dX6_depthOf_64 (by decide) (fun hb64 => ?_) (fun hb64 => False.elim (hb64 ((lgge _ (lN 0)).mpr ((pk_lLE (a := 0) (by decide) (by have := Nat.div_le_self (d * v - u * (len - ra + mo)) v; omega)).mpr (Nat.zero_le _)))))
  refine Es_lload (hC _) dX6_depthOf_71 rfl ?_
  refine Es_l2i (hC _) dX6_depthOf_73 ?_
  rw [lN_i]
  exact Es_iret dX6_depthOf_74 rfl ⟨rfl, rfl, rfl⟩

set_option maxRecDepth 100000 in
set_option maxHeartbeats 4000000 in
theorem r_depthOf_n {ad : sA} {nw nt : Nat} {B : sB} {L : sL} {t r m d ra len u v : Nat} (ht : t < 40) (hr : B 49 0 t = nI (r + 1)) (h12 : r < 12) (hmk : B 42 0 t = nI m) (hm4 : m < 4) (ho : okR (rA B t) (r + 1) 1000000) (ho2 : okR (rD B t) (r + 1) 300) (hmn : bd (B 32 0 m) 1000) (hw : wUD (rA B t) (rD B t) (r + 1) (B 32 0 m) = (lN u, lN v)) (hrd : B 51 0 (13 * t + r) = nI d) (hd : d ≤ 300) (hra : B 50 0 (13 * t + r) = nI ra) (hlen : B 46 0 t = nI len) (hle : ra ≤ len) (hl6 : len ≤ 1000000) (hu6 : u ≤ 43200000000) (hv1 : 1 ≤ v) (hv6 : v ≤ 144000000000000) {mo : Nat} (hmo : mo ≤ 1000000) (hc : d * v < u * (len - ra + mo)) : Cf yX6_depthOf cX6_depthOf 7 (some FieldType.int) 2 [.ref (ad 25 0), .int (nI t), .int (nI mo)] ad nw nt B L (some (.int (nI (dpN d v u (len - ra + mo))))) (B) (wR L (lN u, lN v)) := by
  have hC : ∀ Q, je_Ok (sCm yX6_depthOf cX6_depthOf 7 (some FieldType.int) 2 ad nw nt Q) RX6 cX6_depthOf 7 2 := fun _ => je_Cm_ok
  refine Cs_of [some (.ref (ad 25 0)), some (.int (nI t)), some (.int (nI mo)), none, none, none, none] (by decide) rfl (Nat.le_of_ble_eq_true rfl) ?_
  have hb1 := b_dv hd hv6
  have hb2 := b_uz (z := len - ra + mo) hu6 (by omega)
  first | refine Es_aload_n (hC _) dX6_depthOf_0 rfl ?_ | refine Es_aload_nN (hC _) dX6_depthOf_0 rfl ?_
  refine Es_iload_n (hC _) dX6_depthOf_1 rfl ?_
  refine Es_fV (hC _) mv_X6_137 dX6_depthOf_2 (r_wearOf ht hr h12 hmk hm4 ho ho2 hmn) rfl rfl ⟨_, rfl, rfl⟩ rfl rfl (by decide) (Nat.le_of_ble_eq_true rfl) ?_
  rw [hw]
  first | refine Es_aload_n (hC _) dX6_depthOf_5 rfl ?_ | refine Es_aload_nN (hC _) dX6_depthOf_5 rfl ?_
  refine Sg_X6_16 (hC _) fl_X6_47 dX6_depthOf_6 ?_
  refine Es_iload_n (hC _) dX6_depthOf_9 rfl ?_
  refine Es_ialdN (hC _) dX6_depthOf_10 rfl rfl rfl ht (by decide) ?_
  refine Es_i2l (hC _) dX6_depthOf_11 ?_
  rw [hlen]
  refine Es_iload_n (hC _) dX6_depthOf_12 rfl ?_
  refine Es_i2l (hC _) dX6_depthOf_13 ?_
  refine Es_ladd (hC _) dX6_depthOf_14 ?_
  first | refine Es_aload_n (hC _) dX6_depthOf_15 rfl ?_ | refine Es_aload_nN (hC _) dX6_depthOf_15 rfl ?_
  refine Sg_X6_20 (hC _) fl_X6_59 dX6_depthOf_16 ?_
  first | refine Es_aload_n (hC _) dX6_depthOf_19 rfl ?_ | refine Es_aload_nN (hC _) dX6_depthOf_19 rfl ?_
  refine Es_iload_n (hC _) dX6_depthOf_20 rfl ?_
  refine Es_fV (hC _) mv_X6_140 dX6_depthOf_21 (r_lastOf ht hr) rfl rfl ⟨_, rfl, rfl⟩ rfl rfl (by decide) (Nat.le_of_ble_eq_true rfl) ?_
  refine Es_ialdN (hC _) dX6_depthOf_24 rfl rfl rfl (by omega) (by decide) ?_
  refine Es_i2l (hC _) dX6_depthOf_25 ?_
  refine Es_lsub (hC _) dX6_depthOf_26 ?_
  rw [hra, nI_l (by omega), nI_l (by omega), nI_l (by omega), lN_add, lN_sub (by omega), show len + mo - ra = len - ra + mo by omega]
  refine Es_lstore_n (lv' := [_, _, _, _, _, _, _]) (hC _) dX6_depthOf_27 (by decide) rfl rfl ?_
  first | refine Es_aload_n (hC _) dX6_depthOf_28 rfl ?_ | refine Es_aload_nN (hC _) dX6_depthOf_28 rfl ?_
  refine Sg_X6_21 (hC _) fl_X6_62 dX6_depthOf_29 ?_
  first | refine Es_aload_n (hC _) dX6_depthOf_32 rfl ?_ | refine Es_aload_nN (hC _) dX6_depthOf_32 rfl ?_
  refine Es_iload_n (hC _) dX6_depthOf_33 rfl ?_
  refine Es_fV (hC _) mv_X6_140 dX6_depthOf_34 (r_lastOf ht hr) rfl rfl ⟨_, rfl, rfl⟩ rfl rfl (by decide) (Nat.le_of_ble_eq_true rfl) ?_
  refine Es_ialdN (hC _) dX6_depthOf_37 rfl rfl rfl (by omega) (by decide) ?_
  rw [hrd]
  refine Es_i2l (hC _) dX6_depthOf_38 ?_
  first | refine Es_aload_n (hC _) dX6_depthOf_39 rfl ?_ | refine Es_aload_nN (hC _) dX6_depthOf_39 rfl ?_
  refine Sg_X6_26 (hC _) fl_X6_132 dX6_depthOf_40 ?_
  rw [wR_d]
  refine Es_lmul (hC _) dX6_depthOf_43 ?_
  first | refine Es_aload_n (hC _) dX6_depthOf_44 rfl ?_ | refine Es_aload_nN (hC _) dX6_depthOf_44 rfl ?_
  refine Sg_X6_25 (hC _) fl_X6_128 dX6_depthOf_45 ?_
  rw [wR_u]
  refine Es_lload_n (hC _) dX6_depthOf_48 rfl ?_
  refine Es_lmul (hC _) dX6_depthOf_49 ?_
  refine Es_lsub (hC _) dX6_depthOf_50 ?_
  first | refine Es_aload_n (hC _) dX6_depthOf_51 rfl ?_ | refine Es_aload_nN (hC _) dX6_depthOf_51 rfl ?_
  refine Sg_X6_26 (hC _) fl_X6_132 dX6_depthOf_52 ?_
  rw [wR_d]
  show Es _ _ _ _ (.long (lN v) :: .long ((nI d).toInt64 * lN v - lN u * lN (len - ra + mo)) :: _) _ _ _ _ _ _ _
  rw [nI_l (by omega), lN_mul, lN_mul]
  refine Es_fS (hC _) ms_X6_143 dX6_depthOf_55 (j_floorDiv (fun z => by have := (lN_0 (by omega)).mp z; omega)) rfl rfl (by decide) (Nat.le_of_ble_eq_true rfl) ?_
  refine Es_lstore (lv' := [_, _, _, _, _, _, _]) (hC _) dX6_depthOf_58 (by decide) rfl rfl ?_
  refine Es_lload (hC _) dX6_depthOf_60 rfl ?_
  refine Es_lconst (v := 0) (hC _) dX6_depthOf_62 (by decide) ?_
  refine Es_lcmp (hC _) dX6_depthOf_63 ?_
  refine Es_if_ge (hC _) 71 dX6_depthOf_64 (by decide) (fun hb64 => False.elim (Int64.not_le.mpr (flD_neg (l_neg (by omega) (by omega) hc).2 (by omega) (by omega)) ((lgge _ _).mp hb64))) (fun hb64 => ?_)
  refine Es_iconst (v := 0) (hC _) dX6_depthOf_67 (by decide) ?_
  refine Es_goto (hC _) 74 dX6_depthOf_68 (by decide) ?_
  exact Es_iret dX6_depthOf_74 rfl ⟨by unfold dpN; rw [Nat.sub_eq_zero_of_le (by omega), Nat.zero_div]; rfl, rfl, rfl⟩

theorem r_depthOf {ad : sA} {nw nt : Nat} {B : sB} {L : sL} {t r m d ra len u v : Nat} (ht : t < 40) (hr : B 49 0 t = nI (r + 1)) (h12 : r < 12) (hmk : B 42 0 t = nI m) (hm4 : m < 4) (ho : okR (rA B t) (r + 1) 1000000) (ho2 : okR (rD B t) (r + 1) 300) (hmn : bd (B 32 0 m) 1000) (hw : wUD (rA B t) (rD B t) (r + 1) (B 32 0 m) = (lN u, lN v)) (hrd : B 51 0 (13 * t + r) = nI d) (hd : d ≤ 300) (hra : B 50 0 (13 * t + r) = nI ra) (hlen : B 46 0 t = nI len) (hle : ra ≤ len) (hl6 : len ≤ 1000000) (hu6 : u ≤ 43200000000) (hv1 : 1 ≤ v) (hv6 : v ≤ 144000000000000) {mo : Nat} (hmo : mo ≤ 1000000) : Cf yX6_depthOf cX6_depthOf 7 (some FieldType.int) 2 [.ref (ad 25 0), .int (nI t), .int (nI mo)] ad nw nt B L (some (.int (nI (dpN d v u (len - ra + mo))))) B (wR L (lN u, lN v)) := by
  rcases Nat.lt_or_ge (d * v) (u * (len - ra + mo)) with hc | hc
  · exact r_depthOf_n ht hr h12 hmk hm4 ho ho2 hmn hw hrd hd hra hlen hle hl6 hu6 hv1 hv6 hmo hc
  · exact r_depthOf_p ht hr h12 hmk hm4 ho ho2 hmn hw hrd hd hra hlen hle hl6 hu6 hv1 hv6 hmo hc
set_option maxRecDepth 100000 in
set_option maxHeartbeats 4000000 in
theorem r_endOf_1 {ad : sA} {nw nt : Nat} {B : sB} {L : sL} {t r m d ra len u v : Nat} (ht : t < 40) (hr : B 49 0 t = nI (r + 1)) (h12 : r < 12) (hmk : B 42 0 t = nI m) (hm4 : m < 4) (ho : okR (rA B t) (r + 1) 1000000) (ho2 : okR (rD B t) (r + 1) 300) (hmn : bd (B 32 0 m) 1000) (hw : wUD (rA B t) (rD B t) (r + 1) (B 32 0 m) = (lN u, lN v)) (hrd : B 51 0 (13 * t + r) = nI d) (hd : d ≤ 300) (hra : B 50 0 (13 * t + r) = nI ra) (hlen : B 46 0 t = nI len) (hle : ra ≤ len) (hl6 : len ≤ 1000000) (hu6 : u ≤ 43200000000) (hv1 : 1 ≤ v) (hv6 : v ≤ 144000000000000) {l : Nat} (hl : l ≤ 300) (hc : dpN d v u (len - ra) < l) : Cf yX6_endOf cX6_endOf 5 (some FieldType.int) 3 [.ref (ad 25 0), .int (nI t), .int (nI l)] ad nw nt B L (some (.int (nI (enN d v u (len - ra) l)))) (B) (wR L (lN u, lN v)) := by
  have hC : ∀ Q, je_Ok (sCm yX6_endOf cX6_endOf 5 (some FieldType.int) 3 ad nw nt Q) RX6 cX6_endOf 5 3 := fun _ => je_Cm_ok
  refine Cs_of [some (.ref (ad 25 0)), some (.int (nI t)), some (.int (nI l)), none, none] (by decide) rfl (Nat.le_of_ble_eq_true rfl) ?_
  have hdd := dpN_le (d := d) (u := u) (z := len - ra) hv1
  first | refine Es_aload_n (hC _) dX6_endOf_0 rfl ?_ | refine Es_aload_nN (hC _) dX6_endOf_0 rfl ?_
  refine Es_iload_n (hC _) dX6_endOf_1 rfl ?_
  refine Es_iconst (v := 0) (hC _) dX6_endOf_2 (by decide) ?_
  refine Es_fV (hC _) mv_X6_149 dX6_endOf_3 (r_depthOf (mo := 0) ht hr h12 hmk hm4 ho ho2 hmn hw hrd hd hra hlen hle hl6 hu6 hv1 hv6 (by decide)) rfl rfl ⟨_, rfl, rfl⟩ rfl rfl (by decide) (Nat.le_of_ble_eq_true rfl) ?_
  rw [Nat.add_zero]
  refine Es_iload_n (hC _) dX6_endOf_6 rfl ?_
  refine Es_icmp_ge (hC _) 12 dX6_endOf_7 (by decide) (fun hb7 => False.elim (nI_ge (b := l) (a := dpN d v u (len - ra)) hc (by omega) hb7)) (fun hb7 => ?_)
  refine Es_iconst (v := 0) (hC _) dX6_endOf_10 (by decide) ?_
  exact Es_iret dX6_endOf_11 rfl ⟨by rw [enN_0 hv1 hc]; rfl, rfl, rfl⟩

set_option maxRecDepth 100000 in
set_option maxHeartbeats 4000000 in
theorem r_endOf_2 {ad : sA} {nw nt : Nat} {B : sB} {L : sL} {t r m d ra len u v : Nat} (ht : t < 40) (hr : B 49 0 t = nI (r + 1)) (h12 : r < 12) (hmk : B 42 0 t = nI m) (hm4 : m < 4) (ho : okR (rA B t) (r + 1) 1000000) (ho2 : okR (rD B t) (r + 1) 300) (hmn : bd (B 32 0 m) 1000) (hw : wUD (rA B t) (rD B t) (r + 1) (B 32 0 m) = (lN u, lN v)) (hrd : B 51 0 (13 * t + r) = nI d) (hd : d ≤ 300) (hra : B 50 0 (13 * t + r) = nI ra) (hlen : B 46 0 t = nI len) (hle : ra ≤ len) (hl6 : len ≤ 1000000) (hu6 : u ≤ 43200000000) (hv1 : 1 ≤ v) (hv6 : v ≤ 144000000000000) {l : Nat} (hl : l ≤ 300) (hc : l ≤ dpN d v u (len - ra)) (h0 : l = 0) : Cf yX6_endOf cX6_endOf 5 (some FieldType.int) 3 [.ref (ad 25 0), .int (nI t), .int (nI l)] ad nw nt B L (some (.int (nI (enN d v u (len - ra) l)))) (B) (wR L (lN u, lN v)) := by
  have hC : ∀ Q, je_Ok (sCm yX6_endOf cX6_endOf 5 (some FieldType.int) 3 ad nw nt Q) RX6 cX6_endOf 5 3 := fun _ => je_Cm_ok
  refine Cs_of [some (.ref (ad 25 0)), some (.int (nI t)), some (.int (nI l)), none, none] (by decide) rfl (Nat.le_of_ble_eq_true rfl) ?_
  have hdd := dpN_le (d := d) (u := u) (z := len - ra) hv1
  first | refine Es_aload_n (hC _) dX6_endOf_0 rfl ?_ | refine Es_aload_nN (hC _) dX6_endOf_0 rfl ?_
  refine Es_iload_n (hC _) dX6_endOf_1 rfl ?_
  refine Es_iconst (v := 0) (hC _) dX6_endOf_2 (by decide) ?_
  refine Es_fV (hC _) mv_X6_149 dX6_endOf_3 (r_depthOf (mo := 0) ht hr h12 hmk hm4 ho ho2 hmn hw hrd hd hra hlen hle hl6 hu6 hv1 hv6 (by decide)) rfl rfl ⟨_, rfl, rfl⟩ rfl rfl (by decide) (Nat.le_of_ble_eq_true rfl) ?_
  rw [Nat.add_zero]
  refine Es_iload_n (hC _) dX6_endOf_6 rfl ?_
  refine Es_icmp_ge (hC _) 12 dX6_endOf_7 (by decide) (fun hb7 => ?_) (fun hb7 => False.elim (hb7 (nI_le (a := l) (b := dpN d v u (len - ra)) hc (by omega))))
  refine Es_iload_n (hC _) dX6_endOf_12 rfl ?_
  refine Es_if_eq (hC _) 25 dX6_endOf_13 (by decide) (fun hb13 => ?_) (fun hb13 => False.elim (hb13 (by rw [h0]; rfl)))
  refine Es_ldc (hC _) ct_X6_152 dX6_endOf_25 ?_
  exact Es_iret dX6_endOf_27 rfl ⟨by unfold enN; rw [if_pos h0]; rfl, rfl, rfl⟩

set_option maxRecDepth 100000 in
set_option maxHeartbeats 4000000 in
theorem r_endOf_3 {ad : sA} {nw nt : Nat} {B : sB} {L : sL} {t r m d ra len u v : Nat} (ht : t < 40) (hr : B 49 0 t = nI (r + 1)) (h12 : r < 12) (hmk : B 42 0 t = nI m) (hm4 : m < 4) (ho : okR (rA B t) (r + 1) 1000000) (ho2 : okR (rD B t) (r + 1) 300) (hmn : bd (B 32 0 m) 1000) (hw : wUD (rA B t) (rD B t) (r + 1) (B 32 0 m) = (lN u, lN v)) (hrd : B 51 0 (13 * t + r) = nI d) (hd : d ≤ 300) (hra : B 50 0 (13 * t + r) = nI ra) (hlen : B 46 0 t = nI len) (hle : ra ≤ len) (hl6 : len ≤ 1000000) (hu6 : u ≤ 43200000000) (hv1 : 1 ≤ v) (hv6 : v ≤ 144000000000000) {l : Nat} (hl : l ≤ 300) (hc : l ≤ dpN d v u (len - ra)) (h0 : 0 < l) (h2 : u = 0) : Cf yX6_endOf cX6_endOf 5 (some FieldType.int) 3 [.ref (ad 25 0), .int (nI t), .int (nI l)] ad nw nt B L (some (.int (nI (enN d v u (len - ra) l)))) (B) (wR L (lN u, lN v)) := by
  have hC : ∀ Q, je_Ok (sCm yX6_endOf cX6_endOf 5 (some FieldType.int) 3 ad nw nt Q) RX6 cX6_endOf 5 3 := fun _ => je_Cm_ok
  refine Cs_of [some (.ref (ad 25 0)), some (.int (nI t)), some (.int (nI l)), none, none] (by decide) rfl (Nat.le_of_ble_eq_true rfl) ?_
  have hdd := dpN_le (d := d) (u := u) (z := len - ra) hv1
  first | refine Es_aload_n (hC _) dX6_endOf_0 rfl ?_ | refine Es_aload_nN (hC _) dX6_endOf_0 rfl ?_
  refine Es_iload_n (hC _) dX6_endOf_1 rfl ?_
  refine Es_iconst (v := 0) (hC _) dX6_endOf_2 (by decide) ?_
  refine Es_fV (hC _) mv_X6_149 dX6_endOf_3 (r_depthOf (mo := 0) ht hr h12 hmk hm4 ho ho2 hmn hw hrd hd hra hlen hle hl6 hu6 hv1 hv6 (by decide)) rfl rfl ⟨_, rfl, rfl⟩ rfl rfl (by decide) (Nat.le_of_ble_eq_true rfl) ?_
  rw [Nat.add_zero]
  refine Es_iload_n (hC _) dX6_endOf_6 rfl ?_
  refine Es_icmp_ge (hC _) 12 dX6_endOf_7 (by decide) (fun hb7 => ?_) (fun hb7 => False.elim (hb7 (nI_le (a := l) (b := dpN d v u (len - ra)) hc (by omega))))
  refine Es_iload_n (hC _) dX6_endOf_12 rfl ?_
  refine Es_if_eq (hC _) 25 dX6_endOf_13 (by decide) (fun hb13 => False.elim (nI_ne0 (by omega) (by omega) hb13)) (fun hb13 => ?_)
  first | refine Es_aload_n (hC _) dX6_endOf_16 rfl ?_ | refine Es_aload_nN (hC _) dX6_endOf_16 rfl ?_
  refine Sg_X6_25 (hC _) fl_X6_128 dX6_endOf_17 ?_
  rw [wR_u]
  refine Es_lconst (v := 0) (hC _) dX6_endOf_20 (by decide) ?_
  refine Es_lcmp (hC _) dX6_endOf_21 ?_
  refine Es_if_ne (hC _) 28 dX6_endOf_22 (by decide) (fun hb22 => False.elim (hb22 ((lgz _ _).mpr (by rw [h2]; rfl)))) (fun hb22 => ?_)
  refine Es_ldc (hC _) ct_X6_152 dX6_endOf_25 ?_
  exact Es_iret dX6_endOf_27 rfl ⟨by unfold enN; rw [if_neg (by omega), if_neg (by omega), if_pos h2]; rfl, rfl, rfl⟩

set_option maxRecDepth 100000 in
set_option maxHeartbeats 4000000 in
theorem r_endOf_4 {ad : sA} {nw nt : Nat} {B : sB} {L : sL} {t r m d ra len u v : Nat} (ht : t < 40) (hr : B 49 0 t = nI (r + 1)) (h12 : r < 12) (hmk : B 42 0 t = nI m) (hm4 : m < 4) (ho : okR (rA B t) (r + 1) 1000000) (ho2 : okR (rD B t) (r + 1) 300) (hmn : bd (B 32 0 m) 1000) (hw : wUD (rA B t) (rD B t) (r + 1) (B 32 0 m) = (lN u, lN v)) (hrd : B 51 0 (13 * t + r) = nI d) (hd : d ≤ 300) (hra : B 50 0 (13 * t + r) = nI ra) (hlen : B 46 0 t = nI len) (hle : ra ≤ len) (hl6 : len ≤ 1000000) (hu6 : u ≤ 43200000000) (hv1 : 1 ≤ v) (hv6 : v ≤ 144000000000000) {l : Nat} (hl : l ≤ 300) (hc : l ≤ dpN d v u (len - ra)) (h0 : 0 < l) (h2 : 0 < u) : Cf yX6_endOf cX6_endOf 5 (some FieldType.int) 3 [.ref (ad 25 0), .int (nI t), .int (nI l)] ad nw nt B L (some (.int (nI (enN d v u (len - ra) l)))) (B) (wR L (lN u, lN v)) := by
  have hC : ∀ Q, je_Ok (sCm yX6_endOf cX6_endOf 5 (some FieldType.int) 3 ad nw nt Q) RX6 cX6_endOf 5 3 := fun _ => je_Cm_ok
  refine Cs_of [some (.ref (ad 25 0)), some (.int (nI t)), some (.int (nI l)), none, none] (by decide) rfl (Nat.le_of_ble_eq_true rfl) ?_
  have hdd := dpN_le (d := d) (u := u) (z := len - ra) hv1
  obtain ⟨e1, e2, e3⟩ := enN_4 hv1 h0 h2 hc
  have hb1 := b_dv (d := d - l) (by omega) hv6
  have hb2 := Nat.div_le_self ((d - l) * v) u
  first | refine Es_aload_n (hC _) dX6_endOf_0 rfl ?_ | refine Es_aload_nN (hC _) dX6_endOf_0 rfl ?_
  refine Es_iload_n (hC _) dX6_endOf_1 rfl ?_
  refine Es_iconst (v := 0) (hC _) dX6_endOf_2 (by decide) ?_
  refine Es_fV (hC _) mv_X6_149 dX6_endOf_3 (r_depthOf (mo := 0) ht hr h12 hmk hm4 ho ho2 hmn hw hrd hd hra hlen hle hl6 hu6 hv1 hv6 (by decide)) rfl rfl ⟨_, rfl, rfl⟩ rfl rfl (by decide) (Nat.le_of_ble_eq_true rfl) ?_
  rw [Nat.add_zero]
  refine Es_iload_n (hC _) dX6_endOf_6 rfl ?_
  refine Es_icmp_ge (hC _) 12 dX6_endOf_7 (by decide) (fun hb7 => ?_) (fun hb7 => False.elim (hb7 (nI_le (a := l) (b := dpN d v u (len - ra)) hc (by omega))))
  refine Es_iload_n (hC _) dX6_endOf_12 rfl ?_
  refine Es_if_eq (hC _) 25 dX6_endOf_13 (by decide) (fun hb13 => False.elim (nI_ne0 (by omega) (by omega) hb13)) (fun hb13 => ?_)
  first | refine Es_aload_n (hC _) dX6_endOf_16 rfl ?_ | refine Es_aload_nN (hC _) dX6_endOf_16 rfl ?_
  refine Sg_X6_25 (hC _) fl_X6_128 dX6_endOf_17 ?_
  rw [wR_u]
  refine Es_lconst (v := 0) (hC _) dX6_endOf_20 (by decide) ?_
  refine Es_lcmp (hC _) dX6_endOf_21 ?_
  refine Es_if_ne (hC _) 28 dX6_endOf_22 (by decide) (fun hb22 => ?_) (fun hb22 => False.elim ((by have := (lN_0 (b := u) (by omega)).mp ((lgz _ _).mp hb22); omega)))
  first | refine Es_aload_n (hC _) dX6_endOf_28 rfl ?_ | refine Es_aload_nN (hC _) dX6_endOf_28 rfl ?_
  refine Sg_X6_21 (hC _) fl_X6_62 dX6_endOf_29 ?_
  first | refine Es_aload_n (hC _) dX6_endOf_32 rfl ?_ | refine Es_aload_nN (hC _) dX6_endOf_32 rfl ?_
  refine Es_iload_n (hC _) dX6_endOf_33 rfl ?_
  refine Es_fV (hC _) mv_X6_140 dX6_endOf_34 (r_lastOf ht hr) rfl rfl ⟨_, rfl, rfl⟩ rfl rfl (by decide) (Nat.le_of_ble_eq_true rfl) ?_
  refine Es_ialdN (hC _) dX6_endOf_37 rfl rfl rfl (by omega) (by decide) ?_
  rw [hrd]
  refine Es_iload_n (hC _) dX6_endOf_38 rfl ?_
  refine Es_isub (hC _) dX6_endOf_39 ?_
  rw [pk_sub e1]
  refine Es_i2l (hC _) dX6_endOf_40 ?_
  first | refine Es_aload_n (hC _) dX6_endOf_41 rfl ?_ | refine Es_aload_nN (hC _) dX6_endOf_41 rfl ?_
  refine Sg_X6_26 (hC _) fl_X6_132 dX6_endOf_42 ?_
  rw [wR_d]
  refine Es_lmul (hC _) dX6_endOf_45 ?_
  rw [nI_l (by omega)]
  show Es _ _ _ _ (.long (lN (d - l) * lN v) :: _) _ _ _ _ _ _ _
  rw [lN_mul]
  first | refine Es_aload_n (hC _) dX6_endOf_46 rfl ?_ | refine Es_aload_nN (hC _) dX6_endOf_46 rfl ?_
  refine Sg_X6_25 (hC _) fl_X6_128 dX6_endOf_47 ?_
  rw [wR_u]
  show Es _ _ _ _ (.long (lN u) :: _) _ _ _ _ _ _ _
  refine Es_fS (hC _) ms_X6_143 dX6_endOf_50 (j_floorDiv (fun z => by have := (lN_0 (by omega)).mp z; omega)) rfl rfl (by decide) (Nat.le_of_ble_eq_true rfl) ?_
  rw [flD_nn (by omega) (by omega) h2]
  refine Es_lstore_n (lv' := [_, _, _, _, _]) (hC _) dX6_endOf_53 (by decide) rfl rfl ?_
  refine Es_ldc2 (hC _) cq_X6_153 dX6_endOf_54 ?_
  refine Es_lload_n (hC _) dX6_endOf_57 rfl ?_
  first | refine Es_aload_n (hC _) dX6_endOf_58 rfl ?_ | refine Es_aload_nN (hC _) dX6_endOf_58 rfl ?_
  refine Sg_X6_16 (hC _) fl_X6_47 dX6_endOf_59 ?_
  refine Es_iload_n (hC _) dX6_endOf_62 rfl ?_
  refine Es_ialdN (hC _) dX6_endOf_63 rfl rfl rfl ht (by decide) ?_
  rw [hlen]
  first | refine Es_aload_n (hC _) dX6_endOf_64 rfl ?_ | refine Es_aload_nN (hC _) dX6_endOf_64 rfl ?_
  refine Sg_X6_20 (hC _) fl_X6_59 dX6_endOf_65 ?_
  first | refine Es_aload_n (hC _) dX6_endOf_68 rfl ?_ | refine Es_aload_nN (hC _) dX6_endOf_68 rfl ?_
  refine Es_iload_n (hC _) dX6_endOf_69 rfl ?_
  refine Es_fV (hC _) mv_X6_140 dX6_endOf_70 (r_lastOf ht hr) rfl rfl ⟨_, rfl, rfl⟩ rfl rfl (by decide) (Nat.le_of_ble_eq_true rfl) ?_
  refine Es_ialdN (hC _) dX6_endOf_73 rfl rfl rfl (by omega) (by decide) ?_
  rw [hra]
  refine Es_isub (hC _) dX6_endOf_74 ?_
  rw [pk_sub hle]
  refine Es_i2l (hC _) dX6_endOf_75 ?_
  rw [nI_l (by omega)]
  refine Es_lsub (hC _) dX6_endOf_76 ?_
  refine Es_fS (hC _) ms_X6_155 dX6_endOf_77 j_minl rfl rfl (by decide) (Nat.le_of_ble_eq_true rfl) ?_
  refine Es_l2i (hC _) dX6_endOf_80 ?_
  exact Es_iret dX6_endOf_81 rfl ⟨by rw [e3]; exact congrArg (fun q => some (Value.int q)) (mn_ok e2 (by omega)), rfl, rfl⟩

theorem r_endOf {ad : sA} {nw nt : Nat} {B : sB} {L : sL} {t r m d ra len u v : Nat} (ht : t < 40) (hr : B 49 0 t = nI (r + 1)) (h12 : r < 12) (hmk : B 42 0 t = nI m) (hm4 : m < 4) (ho : okR (rA B t) (r + 1) 1000000) (ho2 : okR (rD B t) (r + 1) 300) (hmn : bd (B 32 0 m) 1000) (hw : wUD (rA B t) (rD B t) (r + 1) (B 32 0 m) = (lN u, lN v)) (hrd : B 51 0 (13 * t + r) = nI d) (hd : d ≤ 300) (hra : B 50 0 (13 * t + r) = nI ra) (hlen : B 46 0 t = nI len) (hle : ra ≤ len) (hl6 : len ≤ 1000000) (hu6 : u ≤ 43200000000) (hv1 : 1 ≤ v) (hv6 : v ≤ 144000000000000) {l : Nat} (hl : l ≤ 300) : Cf yX6_endOf cX6_endOf 5 (some FieldType.int) 3 [.ref (ad 25 0), .int (nI t), .int (nI l)] ad nw nt B L (some (.int (nI (enN d v u (len - ra) l)))) B (wR L (lN u, lN v)) := by
  rcases Nat.lt_or_ge (dpN d v u (len - ra)) l with hc | hc
  · exact r_endOf_1 ht hr h12 hmk hm4 ho ho2 hmn hw hrd hd hra hlen hle hl6 hu6 hv1 hv6 hl hc
  · by_cases h0 : l = 0
    · exact r_endOf_2 ht hr h12 hmk hm4 ho ho2 hmn hw hrd hd hra hlen hle hl6 hu6 hv1 hv6 hl hc h0
    · by_cases h2 : u = 0
      · exact r_endOf_3 ht hr h12 hmk hm4 ho ho2 hmn hw hrd hd hra hlen hle hl6 hu6 hv1 hv6 hl hc (by omega) h2
      · exact r_endOf_4 ht hr h12 hmk hm4 ho ho2 hmn hw hrd hd hra hlen hle hl6 hu6 hv1 hv6 hl hc (by omega) (by omega)
