/-! ===== few ===== -/
def oneN (mn l : Nat) : Nat := if mn = 0 ∨ l = 0 then 1000000 else min 1000000 ((180 - l) * 100000 / mn)
def tfN (a e : Nat) : Nat := if a = 0 then 0 else (a - 1) / e + 1
theorem tfN_eq {a e : Nat} (he : 1 ≤ e) : (a + e - 1) / e = tfN a e := by
  unfold tfN
  by_cases h : a = 0
  · rw [if_pos h, h]
    exact Nat.div_eq_of_lt (by omega)
  · rw [if_neg h, show a + e - 1 = a - 1 + e by omega, Nat.add_div_right _ (by omega)]
theorem oneN_b {mn l : Nat} (hm : mn ≤ 1000) (hl : l ≤ 100) : 1 ≤ oneN mn l ∧ oneN mn l ≤ 1000000 := by
  unfold oneN
  by_cases h : mn = 0 ∨ l = 0
  · rw [if_pos h]
    omega
  · rw [if_neg h]
    have h1 : 1 ≤ (180 - l) * 100000 / mn := (Nat.le_div_iff_mul_le (by omega)).mpr (by omega)
    omega
theorem oneN_0 {mn l : Nat} (h : mn = 0 ∨ l = 0) : oneN mn l = 1000000 := if_pos h
theorem oneN_1 {mn l : Nat} (h : ¬ mn = 0) (h2 : ¬ l = 0) : oneN mn l = min 1000000 ((180 - l) * 100000 / mn) := if_neg (fun z => z.elim h h2)
/-- what is needed on a place -/
def ndS (B : sB) (L : sL) (w n mn q : Nat) : Nat := if B 19 w q = 4 then 0 else if B 20 w q < 0 then max 1 (tfN n (oneN mn (B 3 0 (B 19 w q).toNatClampNeg).toNatClampNeg)) else tfN (n - tEn B L (B 20 w q).toNatClampNeg (B 3 0 (B 19 w q).toNatClampNeg).toNatClampNeg) (oneN mn (B 3 0 (B 19 w q).toNatClampNeg).toNatClampNeg)
def sdS (B : sB) (L : sL) (w n mn : Nat) : Nat → Nat
  | 0 => 0
  | q + 1 => sdS B L w n mn q + ndS B L w n mn q
theorem nd_4 {B : sB} {L : sL} {w n mn q : Nat} (h4 : B 19 w q = 4) : ndS B L w n mn q = 0 := if_pos h4
theorem nd_0 {B : sB} {L : sL} {w n mn q k l : Nat} (h4 : ¬ B 19 w q = 4) (hk : B 19 w q = nI k) (hk5 : k < 5) (hl : B 3 0 k = nI l) (hl1 : l ≤ 100) (hon : B 20 w q = -1) : ndS B L w n mn q = max 1 (tfN n (oneN mn l)) := by
  unfold ndS
  rw [if_neg h4, if_pos (by rw [hon]; decide), hk, nI_clamp (by omega), hl, nI_clamp (by omega)]
theorem nd_t {B : sB} {L : sL} {w n mn q k l t : Nat} (h4 : ¬ B 19 w q = 4) (hk : B 19 w q = nI k) (hk5 : k < 5) (hl : B 3 0 k = nI l) (hl1 : l ≤ 100) (hon : B 20 w q = nI t) (ht : t < 2 ^ 31) : ndS B L w n mn q = tfN (n - tEn B L t l) (oneN mn l) := by
  unfold ndS
  rw [if_neg h4, if_neg (by rw [hon]; exact nI_pos ht), hk, nI_clamp (by omega), hl, nI_clamp (by omega), hon, nI_clamp ht]
theorem tfN_le {a e : Nat} (ha : a ≤ 1000000) : tfN a e ≤ 1000001 := by
  unfold tfN
  split
  · omega
  · have := Nat.div_le_self (a - 1) e
    omega
theorem mx0 {a b : Nat} (ha : a ≤ 1000000) (hb : b ≤ 1000000) : mxI 0 (nI a - nI b) = nI (a - b) := by
  unfold mxI
  rcases Nat.lt_or_ge a b with h | h
  · have h1 := pk_sneg (a := a) (b := b) (by omega) h
    rw [if_neg (fun z => absurd (Int32.lt_trans z h1) (by decide)), Nat.sub_eq_zero_of_le (by omega)]
    rfl
  · rw [pk_sub h]
    by_cases h0 : 0 < a - b
    · rw [if_pos (show (0 : Int32) < nI (a - b) from nI_lt (a := 0) h0 (by omega))]
    · rw [show a - b = 0 by omega]
      rfl
set_option maxRecDepth 100000 in
set_option maxHeartbeats 4000000 in
theorem c_tyresFor_0 {ad : sA} {nw nt : Nat} {B : sB} {L : sL} {x y : Int32} (hx : x ≤ 0) : Cf yX5_tyresFor cX5_tyresFor 2 (some FieldType.int) 0 [.int x, .int y] ad nw nt B L (some (.int 0)) (B) (L) := by
  have hC : ∀ Q, je_Ok (sCm yX5_tyresFor cX5_tyresFor 2 (some FieldType.int) 0 ad nw nt Q) RX5 cX5_tyresFor 2 0 := fun _ => je_Cm_ok
  refine Cs_of [some (.int x), some (.int y)] (by decide) rfl (Nat.le_of_ble_eq_true rfl) ?_
  refine Es_iload_n (hC _) dX5_tyresFor_0 rfl ?_
  refine Es_if_le (hC _) 8 dX5_tyresFor_1 (by decide) (fun hb1 => ?_) (fun hb1 => False.elim (hb1 hx))
  refine Es_iconst (v := 0) (hC _) dX5_tyresFor_8 (by decide) ?_
  refine Es_goto (hC _) 19 dX5_tyresFor_9 (by decide) ?_
  exact Es_iret dX5_tyresFor_19 rfl ⟨rfl, rfl, rfl⟩

set_option maxRecDepth 100000 in
set_option maxHeartbeats 4000000 in
theorem c_tyresFor_p {ad : sA} {nw nt : Nat} {B : sB} {L : sL} {a e : Nat} (ha : 0 < a) (ha6 : a ≤ 1000000) (he : 1 ≤ e) (he6 : e ≤ 1000000) : Cf yX5_tyresFor cX5_tyresFor 2 (some FieldType.int) 0 [.int (nI a), .int (nI e)] ad nw nt B L (some (.int (nI (tfN a e)))) (B) (L) := by
  have hC : ∀ Q, je_Ok (sCm yX5_tyresFor cX5_tyresFor 2 (some FieldType.int) 0 ad nw nt Q) RX5 cX5_tyresFor 2 0 := fun _ => je_Cm_ok
  refine Cs_of [some (.int (nI a)), some (.int (nI e))] (by decide) rfl (Nat.le_of_ble_eq_true rfl) ?_
  refine Es_iload_n (hC _) dX5_tyresFor_0 rfl ?_
  refine Es_if_le (hC _) 8 dX5_tyresFor_1 (by decide) (fun hb1 => False.elim (nI_nle ha (by omega) hb1)) (fun hb1 => ?_)
  refine Es_iload_n (hC _) dX5_tyresFor_4 rfl ?_
  refine Es_if_gt (hC _) 12 dX5_tyresFor_5 (by decide) (fun hb5 => ?_) (fun hb5 => False.elim (hb5 (nI_lt (a := 0) (b := e) (by omega) (by omega))))
  refine Es_iload_n (hC _) dX5_tyresFor_12 rfl ?_
  refine Es_iconst (v := 1) (hC _) dX5_tyresFor_13 (by decide) ?_
  refine Es_isub (hC _) dX5_tyresFor_14 ?_
  rw [show nI a - 1 = nI (a - 1) from pk_sub (b := 1) ha]
  refine Es_iload_n (hC _) dX5_tyresFor_15 rfl ?_
  refine Es_idiv (hC _) dX5_tyresFor_16 (nI_ne0 he (by omega)) ?_
  rw [pk_div (by omega) (by omega) (by omega)]
  refine Es_iconst (v := 1) (hC _) dX5_tyresFor_17 (by decide) ?_
  refine Es_iadd (hC _) dX5_tyresFor_18 ?_
  rw [nI_1, show (a - 1) / e + 1 = tfN a e by unfold tfN; rw [if_neg (by omega)]]
  exact Es_iret dX5_tyresFor_19 rfl ⟨rfl, rfl, rfl⟩

theorem c_tyresFor {ad : sA} {nw nt : Nat} {B : sB} {L : sL} {a e : Nat} (ha6 : a ≤ 1000000) (he : 1 ≤ e) (he6 : e ≤ 1000000) : Cf yX5_tyresFor cX5_tyresFor 2 (some FieldType.int) 0 [.int (nI a), .int (nI e)] ad nw nt B L (some (.int (nI (tfN a e)))) B L := by
  by_cases h : a = 0
  · subst h
    exact c_tyresFor_0 (by decide)
  · exact c_tyresFor_p (by omega) ha6 he he6
theorem c_tyresFor_s {ad : sA} {nw nt : Nat} {B : sB} {L : sL} {a b e : Nat} (ha6 : a ≤ 1000000) (hb6 : b ≤ 1000000) (he : 1 ≤ e) (he6 : e ≤ 1000000) : Cf yX5_tyresFor cX5_tyresFor 2 (some FieldType.int) 0 [.int (nI a - nI b), .int (nI e)] ad nw nt B L (some (.int (nI (tfN (a - b) e)))) B L := by
  rcases Nat.lt_or_ge a b with h | h
  · rw [Nat.sub_eq_zero_of_le (by omega)]
    exact c_tyresFor_0 (Int32.le_of_lt (pk_sneg (by omega) h))
  · rw [pk_sub h]
    exact c_tyresFor (by omega) he he6
theorem c_endFromx {ad : sA} {nw nt : Nat} {B : sB} {L : sL} {x y z : Int32} {u v mn l : Nat} (hx : x = nI 180) (hy : y = nI 0) (hz : z = nI l) (hu6 : u ≤ 1000) (hv1 : 1 ≤ v) (hv6 : v ≤ 100000) (hu : L 17 0 0 = lN u) (hv : L 17 0 1 = lN v) (hl : l ≤ 100) (hen : enN 180 v u 0 l = oneN mn l) : Cf yX4_endFrom cX4_endFrom 6 (some FieldType.int) 1 [.ref (ad 17 0), .int x, .int y, .int z] ad nw nt B L (some (.int (nI (oneN mn l)))) B L := by
  subst hx hy hz
  rw [← hen]
  exact c_endFromn (by decide) (by decide) (by omega) hv1 (by omega) hu hv (by omega)
set_option maxRecDepth 100000 in
set_option maxHeartbeats 4000000 in
theorem c_neededOn_4 {ad : sA} {nw nt : Nat} {B : sB} {L : sL} {w p q n mn u v : Nat} (h40 : nt ≤ 40) (hw : w < nw) (hp : B 18 w 3 = nI p) (h7 : p ≤ 7) (hq : q < p) (hn6 : n ≤ 1000000) (hmn : mn ≤ 1000) (hF : TFc nt B L) (hu6 : u ≤ 1000) (hv1 : 1 ≤ v) (hv6 : v ≤ 100000) (hu : L 17 0 0 = lN u) (hv : L 17 0 1 = lN v) (hen : ∀ l, l ≤ 100 → enN 180 v u 0 l = oneN mn l) (h4 : B 19 w q = 4) : Cf yX5_neededOn cX5_neededOn 8 (some FieldType.int) 4 [.ref (ad 0 0), .ref (ad 18 w), .int (nI q), .int (nI n)] ad nw nt B L (some (.int (nI (ndS B L w n mn q)))) (B) (L) := by
  have hC : ∀ Q, je_Ok (sCm yX5_neededOn cX5_neededOn 8 (some FieldType.int) 4 ad nw nt Q) RX5 cX5_neededOn 8 4 := fun _ => je_Cm_ok
  refine Cs_of [some (.ref (ad 0 0)), some (.ref (ad 18 w)), some (.int (nI q)), some (.int (nI n)), none, none, none, none] (by decide) rfl (Nat.le_of_ble_eq_true rfl) ?_
  first | refine Es_aload_n (hC _) dX5_neededOn_0 rfl ?_ | refine Es_aload_nN (hC _) dX5_neededOn_0 rfl ?_
  refine Es_iload_n (hC _) dX5_neededOn_1 rfl ?_
  refine Es_fV (hC _) mv_X5_258 dX5_neededOn_2 (c_kindOf_in hw hp h7 hq) (ok18 hw) rfl ⟨_, rfl, rfl⟩ rfl rfl (by decide) (Nat.le_of_ble_eq_true rfl) ?_
  refine Es_istore (lv' := [_, _, _, _, _, _, _, _]) (hC _) dX5_neededOn_5 (by decide) rfl rfl ?_
  refine Es_iload (hC _) dX5_neededOn_7 rfl ?_
  refine Es_iconst (v := 4) (hC _) dX5_neededOn_9 (by decide) ?_
  refine Es_icmp_ne (hC _) 15 dX5_neededOn_10 (by decide) (fun hb10 => False.elim (hb10 h4)) (fun hb10 => ?_)
  refine Es_iconst (v := 0) (hC _) dX5_neededOn_13 (by decide) ?_
  exact Es_iret dX5_neededOn_14 rfl ⟨by rw [nd_4 h4]; rfl, rfl, rfl⟩

set_option maxRecDepth 100000 in
set_option maxHeartbeats 4000000 in
theorem c_neededOn_0 {ad : sA} {nw nt : Nat} {B : sB} {L : sL} {w p q n mn u v : Nat} (h40 : nt ≤ 40) (hw : w < nw) (hp : B 18 w 3 = nI p) (h7 : p ≤ 7) (hq : q < p) (hn6 : n ≤ 1000000) (hmn : mn ≤ 1000) (hF : TFc nt B L) (hu6 : u ≤ 1000) (hv1 : 1 ≤ v) (hv6 : v ≤ 100000) (hu : L 17 0 0 = lN u) (hv : L 17 0 1 = lN v) (hen : ∀ l, l ≤ 100 → enN 180 v u 0 l = oneN mn l) {k l : Nat} (hk : B 19 w q = nI k) (hk5 : k < 5) (hl : B 3 0 k = nI l) (hl1 : l ≤ 100) (h4 : ¬ B 19 w q = 4) (hon : B 20 w q = -1) : Cf yX5_neededOn cX5_neededOn 8 (some FieldType.int) 4 [.ref (ad 0 0), .ref (ad 18 w), .int (nI q), .int (nI n)] ad nw nt B L (some (.int (nI (ndS B L w n mn q)))) (B) (L) := by
  have hC : ∀ Q, je_Ok (sCm yX5_neededOn cX5_neededOn 8 (some FieldType.int) 4 ad nw nt Q) RX5 cX5_neededOn 8 4 := fun _ => je_Cm_ok
  refine Cs_of [some (.ref (ad 0 0)), some (.ref (ad 18 w)), some (.int (nI q)), some (.int (nI n)), none, none, none, none] (by decide) rfl (Nat.le_of_ble_eq_true rfl) ?_
  have ho := oneN_b hmn hl1
  have ht6 := tfN_le (a := n) (e := oneN mn l) hn6
  first | refine Es_aload_n (hC _) dX5_neededOn_0 rfl ?_ | refine Es_aload_nN (hC _) dX5_neededOn_0 rfl ?_
  refine Es_iload_n (hC _) dX5_neededOn_1 rfl ?_
  refine Es_fV (hC _) mv_X5_258 dX5_neededOn_2 (c_kindOf_in hw hp h7 hq) (ok18 hw) rfl ⟨_, rfl, rfl⟩ rfl rfl (by decide) (Nat.le_of_ble_eq_true rfl) ?_
  refine Es_istore (lv' := [_, _, _, _, _, _, _, _]) (hC _) dX5_neededOn_5 (by decide) rfl rfl ?_
  refine Es_iload (hC _) dX5_neededOn_7 rfl ?_
  refine Es_iconst (v := 4) (hC _) dX5_neededOn_9 (by decide) ?_
  refine Es_icmp_ne (hC _) 15 dX5_neededOn_10 (by decide) (fun hb10 => ?_) (fun hb10 => False.elim (h4 hb10))
  first | refine Es_aload_n (hC _) dX5_neededOn_15 rfl ?_ | refine Es_aload_nN (hC _) dX5_neededOn_15 rfl ?_
  refine Sg_X5_2 (hC _) fl_X5_30 dX5_neededOn_16 ?_
  refine Es_iload (hC _) dX5_neededOn_19 rfl ?_
  rw [hk]
  refine Es_fS (hC _) ms_X5_96 dX5_neededOn_21 (c_at (kd := 3) (n := 5) (k := k) rfl rfl rfl (by omega) (by decide)) rfl rfl (by decide) (Nat.le_of_ble_eq_true rfl) ?_
  rw [hl]
  refine Es_istore (lv' := [_, _, _, _, _, _, _, _]) (hC _) dX5_neededOn_24 (by decide) rfl rfl ?_
  first | refine Es_aload_n (hC _) dX5_neededOn_26 rfl ?_ | refine Es_aload_nN (hC _) dX5_neededOn_26 rfl ?_
  refine Sg_X5_7 (hC _) fl_X5_59 dX5_neededOn_27 ?_
  refine Es_sipush (v := 180) (hC _) dX5_neededOn_30 (by decide) ?_
  refine Es_iconst (v := 0) (hC _) dX5_neededOn_33 (by decide) ?_
  refine Es_iload (hC _) dX5_neededOn_34 rfl ?_
  refine Es_fV (hC _) mv_X5_280 dX5_neededOn_36 (c_endFromx (mn := mn) rfl rfl rfl hu6 hv1 hv6 hu hv hl1 (hen l hl1)) rfl rfl ⟨_, rfl, rfl⟩ rfl rfl (by decide) (Nat.le_of_ble_eq_true rfl) ?_
  refine Es_istore (lv' := [_, _, _, _, _, _, _, _]) (hC _) dX5_neededOn_39 (by decide) rfl rfl ?_
  first | refine Es_aload_n (hC _) dX5_neededOn_41 rfl ?_ | refine Es_aload_nN (hC _) dX5_neededOn_41 rfl ?_
  refine Es_iload_n (hC _) dX5_neededOn_42 rfl ?_
  refine Es_fV (hC _) mv_X5_142 dX5_neededOn_43 (c_tyreOn_in hw hp h7 hq) (ok18 hw) rfl ⟨_, rfl, rfl⟩ rfl rfl (by decide) (Nat.le_of_ble_eq_true rfl) ?_
  rw [show rT ad (B 20 w q) = none by rw [hon]; rfl]
  first | refine Es_astore (lv' := [_, _, _, _, _, _, _, _]) (hC _) dX5_neededOn_46 (by decide) rfl rfl ?_ | refine Es_astoreN (lv' := [_, _, _, _, _, _, _, _]) (hC _) dX5_neededOn_46 (by decide) rfl rfl ?_
  first | refine Es_aload (hC _) dX5_neededOn_48 rfl ?_ | refine Es_aloadN (hC _) dX5_neededOn_48 rfl ?_
  refine Es_ifnonnullN (hC _) dX5_neededOn_50 ?_
  refine Es_iconst (v := 1) (hC _) dX5_neededOn_53 (by decide) ?_
  refine Es_iload_n (hC _) dX5_neededOn_54 rfl ?_
  refine Es_iload (hC _) dX5_neededOn_55 rfl ?_
  refine Es_fS (hC _) ms_X5_283 dX5_neededOn_57 (c_tyresFor hn6 ho.1 ho.2) rfl rfl (by decide) (Nat.le_of_ble_eq_true rfl) ?_
  refine Es_fS (hC _) ms_X5_286 dX5_neededOn_60 j_maxi rfl rfl (by decide) (Nat.le_of_ble_eq_true rfl) ?_
  rw [show mxI 1 (nI (tfN n (oneN mn l))) = nI (max 1 (tfN n (oneN mn l))) from mxI_N (a := 1) (by decide) (by omega), ← nd_0 (L := L) h4 hk hk5 hl hl1 hon]
  exact Es_iret dX5_neededOn_63 rfl ⟨rfl, rfl, rfl⟩

set_option maxRecDepth 100000 in
set_option maxHeartbeats 4000000 in
theorem c_neededOn_t {ad : sA} {nw nt : Nat} {B : sB} {L : sL} {w p q n mn u v : Nat} (h40 : nt ≤ 40) (hw : w < nw) (hp : B 18 w 3 = nI p) (h7 : p ≤ 7) (hq : q < p) (hn6 : n ≤ 1000000) (hmn : mn ≤ 1000) (hF : TFc nt B L) (hu6 : u ≤ 1000) (hv1 : 1 ≤ v) (hv6 : v ≤ 100000) (hu : L 17 0 0 = lN u) (hv : L 17 0 1 = lN v) (hen : ∀ l, l ≤ 100 → enN 180 v u 0 l = oneN mn l) {k l : Nat} (hk : B 19 w q = nI k) (hk5 : k < 5) (hl : B 3 0 k = nI l) (hl1 : l ≤ 100) {t : Nat} (ht : t < nt) (h4 : ¬ B 19 w q = 4) (hon : B 20 w q = nI t) : Cf yX5_neededOn cX5_neededOn 8 (some FieldType.int) 4 [.ref (ad 0 0), .ref (ad 18 w), .int (nI q), .int (nI n)] ad nw nt B L (some (.int (nI (ndS B L w n mn q)))) (B) (L) := by
  have hC : ∀ Q, je_Ok (sCm yX5_neededOn cX5_neededOn 8 (some FieldType.int) 4 ad nw nt Q) RX5 cX5_neededOn 8 4 := fun _ => je_Cm_ok
  refine Cs_of [some (.ref (ad 0 0)), some (.ref (ad 18 w)), some (.int (nI q)), some (.int (nI n)), none, none, none, none] (by decide) rfl (Nat.le_of_ble_eq_true rfl) ?_
  have ho := oneN_b hmn hl1
  have hte := tEn_le B L t l
  first | refine Es_aload_n (hC _) dX5_neededOn_0 rfl ?_ | refine Es_aload_nN (hC _) dX5_neededOn_0 rfl ?_
  refine Es_iload_n (hC _) dX5_neededOn_1 rfl ?_
  refine Es_fV (hC _) mv_X5_258 dX5_neededOn_2 (c_kindOf_in hw hp h7 hq) (ok18 hw) rfl ⟨_, rfl, rfl⟩ rfl rfl (by decide) (Nat.le_of_ble_eq_true rfl) ?_
  refine Es_istore (lv' := [_, _, _, _, _, _, _, _]) (hC _) dX5_neededOn_5 (by decide) rfl rfl ?_
  refine Es_iload (hC _) dX5_neededOn_7 rfl ?_
  refine Es_iconst (v := 4) (hC _) dX5_neededOn_9 (by decide) ?_
  refine Es_icmp_ne (hC _) 15 dX5_neededOn_10 (by decide) (fun hb10 => ?_) (fun hb10 => False.elim (h4 hb10))
  first | refine Es_aload_n (hC _) dX5_neededOn_15 rfl ?_ | refine Es_aload_nN (hC _) dX5_neededOn_15 rfl ?_
  refine Sg_X5_2 (hC _) fl_X5_30 dX5_neededOn_16 ?_
  refine Es_iload (hC _) dX5_neededOn_19 rfl ?_
  rw [hk]
  refine Es_fS (hC _) ms_X5_96 dX5_neededOn_21 (c_at (kd := 3) (n := 5) (k := k) rfl rfl rfl (by omega) (by decide)) rfl rfl (by decide) (Nat.le_of_ble_eq_true rfl) ?_
  rw [hl]
  refine Es_istore (lv' := [_, _, _, _, _, _, _, _]) (hC _) dX5_neededOn_24 (by decide) rfl rfl ?_
  first | refine Es_aload_n (hC _) dX5_neededOn_26 rfl ?_ | refine Es_aload_nN (hC _) dX5_neededOn_26 rfl ?_
  refine Sg_X5_7 (hC _) fl_X5_59 dX5_neededOn_27 ?_
  refine Es_sipush (v := 180) (hC _) dX5_neededOn_30 (by decide) ?_
  refine Es_iconst (v := 0) (hC _) dX5_neededOn_33 (by decide) ?_
  refine Es_iload (hC _) dX5_neededOn_34 rfl ?_
  refine Es_fV (hC _) mv_X5_280 dX5_neededOn_36 (c_endFromx (mn := mn) rfl rfl rfl hu6 hv1 hv6 hu hv hl1 (hen l hl1)) rfl rfl ⟨_, rfl, rfl⟩ rfl rfl (by decide) (Nat.le_of_ble_eq_true rfl) ?_
  refine Es_istore (lv' := [_, _, _, _, _, _, _, _]) (hC _) dX5_neededOn_39 (by decide) rfl rfl ?_
  first | refine Es_aload_n (hC _) dX5_neededOn_41 rfl ?_ | refine Es_aload_nN (hC _) dX5_neededOn_41 rfl ?_
  refine Es_iload_n (hC _) dX5_neededOn_42 rfl ?_
  refine Es_fV (hC _) mv_X5_142 dX5_neededOn_43 (c_tyreOn_in hw hp h7 hq) (ok18 hw) rfl ⟨_, rfl, rfl⟩ rfl rfl (by decide) (Nat.le_of_ble_eq_true rfl) ?_
  rw [show rT ad (B 20 w q) = some (ad 21 t) by rw [hon, rT, if_neg (nI_pos (by omega)), nI_clamp (by omega)]]
  first | refine Es_astore (lv' := [_, _, _, _, _, _, _, _]) (hC _) dX5_neededOn_46 (by decide) rfl rfl ?_ | refine Es_astoreN (lv' := [_, _, _, _, _, _, _, _]) (hC _) dX5_neededOn_46 (by decide) rfl rfl ?_
  first | refine Es_aload (hC _) dX5_neededOn_48 rfl ?_ | refine Es_aloadN (hC _) dX5_neededOn_48 rfl ?_
  refine Es_ifnonnull (hC _) 64 dX5_neededOn_50 (by decide) ?_
  refine Es_iload_n (hC _) dX5_neededOn_64 rfl ?_
  first | refine Es_aload (hC _) dX5_neededOn_65 rfl ?_ | refine Es_aloadN (hC _) dX5_neededOn_65 rfl ?_
  refine Es_iload (hC _) dX5_neededOn_67 rfl ?_
  refine Es_fV (hC _) mv_X5_207 dX5_neededOn_69 (cT_endc hF ht rfl (by omega)) (ok21 ht) rfl ⟨_, rfl, rfl⟩ rfl rfl (by decide) (Nat.le_of_ble_eq_true rfl) ?_
  refine Es_isub (hC _) dX5_neededOn_72 ?_
  refine Es_iload (hC _) dX5_neededOn_73 rfl ?_
  refine Es_fS (hC _) ms_X5_283 dX5_neededOn_75 (c_tyresFor_s hn6 hte ho.1 ho.2) rfl rfl (by decide) (Nat.le_of_ble_eq_true rfl) ?_
  rw [← nd_t (L := L) h4 hk hk5 hl hl1 hon (by omega)]
  exact Es_iret dX5_neededOn_78 rfl ⟨rfl, rfl, rfl⟩

theorem c_neededOn {ad : sA} {nw nt : Nat} {B : sB} {L : sL} {w p q n mn u v : Nat} (h40 : nt ≤ 40) (hw : w < nw) (hW : PW nt B w p) (hq : q < p) (hn6 : n ≤ 1000000) (hmn : mn ≤ 1000) (hL : PL B) (hF : TFc nt B L) (hu6 : u ≤ 1000) (hv1 : 1 ≤ v) (hv6 : v ≤ 100000) (hu : L 17 0 0 = lN u) (hv : L 17 0 1 = lN v) (hen : ∀ l, l ≤ 100 → enN 180 v u 0 l = oneN mn l) : Cf yX5_neededOn cX5_neededOn 8 (some FieldType.int) 4 [.ref (ad 0 0), .ref (ad 18 w), .int (nI q), .int (nI n)] ad nw nt B L (some (.int (nI (ndS B L w n mn q)))) B L := by
  obtain ⟨h7, hp, hall⟩ := hW
  obtain ⟨⟨k, hk5, hk⟩, hon⟩ := hall q hq
  obtain ⟨l, hl1, hl⟩ := hL k hk5
  by_cases h4 : B 19 w q = 4
  · exact c_neededOn_4 h40 hw hp h7 hq hn6 hmn hF hu6 hv1 hv6 hu hv hen h4
  · rcases hon with hon | ⟨t, ht, hon⟩
    · exact c_neededOn_0 h40 hw hp h7 hq hn6 hmn hF hu6 hv1 hv6 hu hv hen hk hk5 hl hl1 h4 hon
    · exact c_neededOn_t h40 hw hp h7 hq hn6 hmn hF hu6 hv1 hv6 hu hv hen hk hk5 hl hl1 ht h4 hon
set_option maxRecDepth 100000 in
set_option maxHeartbeats 4000000 in
theorem l_few {ad : sA} {nw nt : Nat} {B : sB} {L : sL} {bc bs : Nat} {y z : Int32} {w p n mn u v : Nat} (h40 : nt ≤ 40) (hw : w < nw) (hW : PW nt B w p) (hn6 : n ≤ 1000000) (hmn : mn ≤ 1000) (hL : PL B) (hF : TFc nt B L) (hu6 : u ≤ 1000) (hv1 : 1 ≤ v) (hv6 : v ≤ 100000) (hu : L 17 0 0 = lN u) (hv : L 17 0 1 = lN v) (hen : ∀ l, l ≤ 100 → enN 180 v u 0 l = oneN mn l) : ∀ (j i : Nat), i ≤ p → p - i = j → Es (sCm yX5_few cX5_few 8 (some .int) 5 ad nw nt (fun v B1 L1 => v = some (.int (nI (sdS B L w n mn p))) ∧ B1 = B ∧ L1 = L)) 8 71 [some (.ref (ad 0 0)), some (.int (nI w)), some (.int y), some (.int (nI n)), some (.ref (ad 18 w)), some (.int z), some (.int (nI (sdS B L w n mn i))), some (.int (nI i))] [] ad nw nt B L bc bs := by
  have hC : ∀ Q, je_Ok (sCm yX5_few cX5_few 8 (some .int) 5 ad nw nt Q) RX5 cX5_few 8 5 := fun _ => je_Cm_ok
  intro j
  induction j with
  | zero =>
    intro i hi hn
    have hik : i = p := by omega
    subst hik
    refine Es_iload (hC _) dX5_few_71 rfl ?_
    first | refine Es_aload (hC _) dX5_few_73 rfl ?_ | refine Es_aloadN (hC _) dX5_few_73 rfl ?_
    refine Sg_X3_3 (hC _) fl_X5_232 dX5_few_75 hw ?_
    rw [hW.2.1]
    refine Es_icmp_ge (hC _) 101 dX5_few_78 (by decide) (fun hb78 => ?_) (fun hb78 => False.elim (hb78 (nI_le (Nat.le_refl _) (by have := hW.1; omega))))
    refine Es_iload (hC _) dX5_few_101 rfl ?_
    exact Es_iret dX5_few_103 rfl ⟨rfl, rfl, rfl⟩
  | succ j ih =>
    intro i hi hn
    refine Es_iload (hC _) dX5_few_71 rfl ?_
    first | refine Es_aload (hC _) dX5_few_73 rfl ?_ | refine Es_aloadN (hC _) dX5_few_73 rfl ?_
    refine Sg_X3_3 (hC _) fl_X5_232 dX5_few_75 hw ?_
    rw [hW.2.1]
    refine Es_icmp_ge (hC _) 101 dX5_few_78 (by decide) (fun hb78 => False.elim (nI_ge (b := p) (a := i) (by omega) (by have := hW.1; omega) hb78)) (fun hb78 => ?_)
    refine Es_iload (hC _) dX5_few_81 rfl ?_
    first | refine Es_aload_n (hC _) dX5_few_83 rfl ?_ | refine Es_aload_nN (hC _) dX5_few_83 rfl ?_
    first | refine Es_aload (hC _) dX5_few_84 rfl ?_ | refine Es_aloadN (hC _) dX5_few_84 rfl ?_
    refine Es_iload (hC _) dX5_few_86 rfl ?_
    refine Es_iload_n (hC _) dX5_few_88 rfl ?_
    refine Es_fV (hC _) mv_X5_235 dX5_few_89 (c_neededOn h40 hw hW (by omega) hn6 hmn hL hF hu6 hv1 hv6 hu hv hen) rfl rfl ⟨_, rfl, rfl⟩ rfl rfl (by decide) (Nat.le_of_ble_eq_true rfl) ?_
    refine Es_iadd (hC _) dX5_few_92 ?_
    refine Es_istore (lv' := [_, _, _, _, _, _, _, _]) (hC _) dX5_few_93 (by decide) rfl rfl ?_
    refine Es_iinc (lv' := [_, _, _, _, _, _, _, _]) (hC _) dX5_few_95 (by decide) rfl (show _ + Int32.ofInt (1) = _ + (1) from rfl) rfl rfl ?_
    refine Es_goto (hC _) 71 dX5_few_98 (by decide) ?_
    rw [nI_1, nI_add]
    exact ih (i + 1) (by omega) (by omega)
set_option maxRecDepth 100000 in
set_option maxHeartbeats 4000000 in
theorem c_few_1a {ad : sA} {nw nt : Nat} {B : sB} {L : sL} (hnw : B 0 0 8 = nI nw) (h5 : nw ≤ 5) {y : Int32} (how : out y nw) {x z : Int32} : Cf yX5_few cX5_few 8 (some FieldType.int) 5 [.ref (ad 0 0), .int y, .int x, .int z] ad nw nt B L (some (.int (-1))) (uB B 5 0 1 (B 5 0 1 + 1)) (L) := by
  have hC : ∀ Q, je_Ok (sCm yX5_few cX5_few 8 (some FieldType.int) 5 ad nw nt Q) RX5 cX5_few 8 5 := fun _ => je_Cm_ok
  refine Cs_of [some (.ref (ad 0 0)), some (.int y), some (.int x), some (.int z), none, none, none, none] (by decide) rfl (Nat.le_of_ble_eq_true rfl) ?_
  first | refine Es_aload_n (hC _) dX5_few_0 rfl ?_ | refine Es_aload_nN (hC _) dX5_few_0 rfl ?_
  refine Es_iload_n (hC _) dX5_few_1 rfl ?_
  refine Es_fV (hC _) mv_X5_77 dX5_few_2 (c_wagonAt_out hnw how) rfl rfl ⟨_, rfl, rfl⟩ rfl rfl (by decide) (Nat.le_of_ble_eq_true rfl) ?_
  first | refine Es_astore (lv' := [_, _, _, _, _, _, _, _]) (hC _) dX5_few_5 (by decide) rfl rfl ?_ | refine Es_astoreN (lv' := [_, _, _, _, _, _, _, _]) (hC _) dX5_few_5 (by decide) rfl rfl ?_
  first | refine Es_aload (hC _) dX5_few_7 rfl ?_ | refine Es_aloadN (hC _) dX5_few_7 rfl ?_
  refine Es_ifnullN (hC _) 19 dX5_few_9 (by decide) ?_
  first | refine Es_aload_n (hC _) dX5_few_19 rfl ?_ | refine Es_aload_nN (hC _) dX5_few_19 rfl ?_
  refine Es_iconst (v := -1) (hC _) dX5_few_20 (by decide) ?_
  refine Es_fV (hC _) mv_X5_70 dX5_few_21 (c_refuse (k := 1) (by decide) (by decide)) rfl rfl ⟨_, rfl, rfl⟩ rfl rfl (by decide) (Nat.le_of_ble_eq_true rfl) ?_
  exact Es_iret dX5_few_24 rfl ⟨rfl, rfl, rfl⟩

set_option maxRecDepth 100000 in
set_option maxHeartbeats 4000000 in
theorem c_few_1b {ad : sA} {nw nt : Nat} {B : sB} {L : sL} (hnw : B 0 0 8 = nI nw) (h5 : nw ≤ 5) {w : Nat} (hw : w < nw) {x z : Int32} (hox : out x 4) : Cf yX5_few cX5_few 8 (some FieldType.int) 5 [.ref (ad 0 0), .int (nI w), .int x, .int z] ad nw nt B L (some (.int (-1))) (uB B 5 0 1 (B 5 0 1 + 1)) (L) := by
  have hC : ∀ Q, je_Ok (sCm yX5_few cX5_few 8 (some FieldType.int) 5 ad nw nt Q) RX5 cX5_few 8 5 := fun _ => je_Cm_ok
  refine Cs_of [some (.ref (ad 0 0)), some (.int (nI w)), some (.int x), some (.int z), none, none, none, none] (by decide) rfl (Nat.le_of_ble_eq_true rfl) ?_
  first | refine Es_aload_n (hC _) dX5_few_0 rfl ?_ | refine Es_aload_nN (hC _) dX5_few_0 rfl ?_
  refine Es_iload_n (hC _) dX5_few_1 rfl ?_
  refine Es_fV (hC _) mv_X5_77 dX5_few_2 (c_wagonAt_in hnw h5 hw) rfl rfl ⟨_, rfl, rfl⟩ rfl rfl (by decide) (Nat.le_of_ble_eq_true rfl) ?_
  first | refine Es_astore (lv' := [_, _, _, _, _, _, _, _]) (hC _) dX5_few_5 (by decide) rfl rfl ?_ | refine Es_astoreN (lv' := [_, _, _, _, _, _, _, _]) (hC _) dX5_few_5 (by decide) rfl rfl ?_
  first | refine Es_aload (hC _) dX5_few_7 rfl ?_ | refine Es_aloadN (hC _) dX5_few_7 rfl ?_
  refine Es_ifnull (hC _) dX5_few_9 ?_
  refine Es_iload_n (hC _) dX5_few_12 rfl ?_
  refine Es_fS (hC _) ms_X5_104 dX5_few_13 (c_isMaker_out hox) rfl rfl (by decide) (Nat.le_of_ble_eq_true rfl) ?_
  refine Es_if_ne (hC _) 25 dX5_few_16 (by decide) (fun hb16 => False.elim ((by first | exact absurd hb16 (by decide) | exact absurd hb16 (by assumption) | exact hb16 (by assumption) | exact hb16 rfl | (simp_all [bI]; done)))) (fun hb16 => ?_)
  first | refine Es_aload_n (hC _) dX5_few_19 rfl ?_ | refine Es_aload_nN (hC _) dX5_few_19 rfl ?_
  refine Es_iconst (v := -1) (hC _) dX5_few_20 (by decide) ?_
  refine Es_fV (hC _) mv_X5_70 dX5_few_21 (c_refuse (k := 1) (by decide) (by decide)) rfl rfl ⟨_, rfl, rfl⟩ rfl rfl (by decide) (Nat.le_of_ble_eq_true rfl) ?_
  exact Es_iret dX5_few_24 rfl ⟨rfl, rfl, rfl⟩

set_option maxRecDepth 100000 in
set_option maxHeartbeats 4000000 in
theorem c_few_lo {ad : sA} {nw nt : Nat} {B : sB} {L : sL} (hnw : B 0 0 8 = nI nw) (h5 : nw ≤ 5) {w : Nat} (hw : w < nw) {m : Nat} (hm4 : m < 4) {z : Int32} (hl : z < 0) : Cf yX5_few cX5_few 8 (some FieldType.int) 5 [.ref (ad 0 0), .int (nI w), .int (nI m), .int z] ad nw nt B L (some (.int (-4))) (uB B 5 0 4 (B 5 0 4 + 1)) (L) := by
  have hC : ∀ Q, je_Ok (sCm yX5_few cX5_few 8 (some FieldType.int) 5 ad nw nt Q) RX5 cX5_few 8 5 := fun _ => je_Cm_ok
  refine Cs_of [some (.ref (ad 0 0)), some (.int (nI w)), some (.int (nI m)), some (.int z), none, none, none, none] (by decide) rfl (Nat.le_of_ble_eq_true rfl) ?_
  first | refine Es_aload_n (hC _) dX5_few_0 rfl ?_ | refine Es_aload_nN (hC _) dX5_few_0 rfl ?_
  refine Es_iload_n (hC _) dX5_few_1 rfl ?_
  refine Es_fV (hC _) mv_X5_77 dX5_few_2 (c_wagonAt_in hnw h5 hw) rfl rfl ⟨_, rfl, rfl⟩ rfl rfl (by decide) (Nat.le_of_ble_eq_true rfl) ?_
  first | refine Es_astore (lv' := [_, _, _, _, _, _, _, _]) (hC _) dX5_few_5 (by decide) rfl rfl ?_ | refine Es_astoreN (lv' := [_, _, _, _, _, _, _, _]) (hC _) dX5_few_5 (by decide) rfl rfl ?_
  first | refine Es_aload (hC _) dX5_few_7 rfl ?_ | refine Es_aloadN (hC _) dX5_few_7 rfl ?_
  refine Es_ifnull (hC _) dX5_few_9 ?_
  refine Es_iload_n (hC _) dX5_few_12 rfl ?_
  refine Es_fS (hC _) ms_X5_104 dX5_few_13 (c_isMaker_in hm4) rfl rfl (by decide) (Nat.le_of_ble_eq_true rfl) ?_
  refine Es_if_ne (hC _) 25 dX5_few_16 (by decide) (fun hb16 => ?_) (fun hb16 => False.elim ((by first | exact absurd hb16 (by decide) | exact absurd hb16 (by assumption) | exact hb16 (by assumption) | exact hb16 rfl | (simp_all [bI]; done))))
  refine Es_iload_n (hC _) dX5_few_25 rfl ?_
  refine Es_iconst (v := 0) (hC _) dX5_few_26 (by decide) ?_
  refine Es_ldc (hC _) ct_X5_171 dX5_few_27 ?_
  refine Es_fS (hC _) ms_X5_92 dX5_few_29 c_outside rfl rfl (by decide) (Nat.le_of_ble_eq_true rfl) ?_
  rw [show outs z 0 1000000 = -4 from if_pos hl]
  refine Es_istore (lv' := [_, _, _, _, _, _, _, _]) (hC _) dX5_few_32 (by decide) rfl rfl ?_
  refine Es_iload (hC _) dX5_few_34 rfl ?_
  refine Es_if_eq (hC _) 46 dX5_few_36 (by decide) (fun hb36 => False.elim (absurd hb36 (by decide))) (fun hb36 => ?_)
  first | refine Es_aload_n (hC _) dX5_few_39 rfl ?_ | refine Es_aload_nN (hC _) dX5_few_39 rfl ?_
  refine Es_iload (hC _) dX5_few_40 rfl ?_
  refine Es_fV (hC _) mv_X5_70 dX5_few_42 (c_refuse (k := 4) (by decide) (by decide)) rfl rfl ⟨_, rfl, rfl⟩ rfl rfl (by decide) (Nat.le_of_ble_eq_true rfl) ?_
  exact Es_iret dX5_few_45 rfl ⟨rfl, rfl, rfl⟩

set_option maxRecDepth 100000 in
set_option maxHeartbeats 4000000 in
theorem c_few_hi {ad : sA} {nw nt : Nat} {B : sB} {L : sL} (hnw : B 0 0 8 = nI nw) (h5 : nw ≤ 5) {w : Nat} (hw : w < nw) {m : Nat} (hm4 : m < 4) {z : Int32} (hl : ¬ z < 0) (hh : 1000000 < z) : Cf yX5_few cX5_few 8 (some FieldType.int) 5 [.ref (ad 0 0), .int (nI w), .int (nI m), .int z] ad nw nt B L (some (.int (-6))) (uB B 5 0 6 (B 5 0 6 + 1)) (L) := by
  have hC : ∀ Q, je_Ok (sCm yX5_few cX5_few 8 (some FieldType.int) 5 ad nw nt Q) RX5 cX5_few 8 5 := fun _ => je_Cm_ok
  refine Cs_of [some (.ref (ad 0 0)), some (.int (nI w)), some (.int (nI m)), some (.int z), none, none, none, none] (by decide) rfl (Nat.le_of_ble_eq_true rfl) ?_
  first | refine Es_aload_n (hC _) dX5_few_0 rfl ?_ | refine Es_aload_nN (hC _) dX5_few_0 rfl ?_
  refine Es_iload_n (hC _) dX5_few_1 rfl ?_
  refine Es_fV (hC _) mv_X5_77 dX5_few_2 (c_wagonAt_in hnw h5 hw) rfl rfl ⟨_, rfl, rfl⟩ rfl rfl (by decide) (Nat.le_of_ble_eq_true rfl) ?_
  first | refine Es_astore (lv' := [_, _, _, _, _, _, _, _]) (hC _) dX5_few_5 (by decide) rfl rfl ?_ | refine Es_astoreN (lv' := [_, _, _, _, _, _, _, _]) (hC _) dX5_few_5 (by decide) rfl rfl ?_
  first | refine Es_aload (hC _) dX5_few_7 rfl ?_ | refine Es_aloadN (hC _) dX5_few_7 rfl ?_
  refine Es_ifnull (hC _) dX5_few_9 ?_
  refine Es_iload_n (hC _) dX5_few_12 rfl ?_
  refine Es_fS (hC _) ms_X5_104 dX5_few_13 (c_isMaker_in hm4) rfl rfl (by decide) (Nat.le_of_ble_eq_true rfl) ?_
  refine Es_if_ne (hC _) 25 dX5_few_16 (by decide) (fun hb16 => ?_) (fun hb16 => False.elim ((by first | exact absurd hb16 (by decide) | exact absurd hb16 (by assumption) | exact hb16 (by assumption) | exact hb16 rfl | (simp_all [bI]; done))))
  refine Es_iload_n (hC _) dX5_few_25 rfl ?_
  refine Es_iconst (v := 0) (hC _) dX5_few_26 (by decide) ?_
  refine Es_ldc (hC _) ct_X5_171 dX5_few_27 ?_
  refine Es_fS (hC _) ms_X5_92 dX5_few_29 c_outside rfl rfl (by decide) (Nat.le_of_ble_eq_true rfl) ?_
  rw [show outs z 0 1000000 = -6 from (if_neg hl).trans (if_pos hh)]
  refine Es_istore (lv' := [_, _, _, _, _, _, _, _]) (hC _) dX5_few_32 (by decide) rfl rfl ?_
  refine Es_iload (hC _) dX5_few_34 rfl ?_
  refine Es_if_eq (hC _) 46 dX5_few_36 (by decide) (fun hb36 => False.elim (absurd hb36 (by decide))) (fun hb36 => ?_)
  first | refine Es_aload_n (hC _) dX5_few_39 rfl ?_ | refine Es_aload_nN (hC _) dX5_few_39 rfl ?_
  refine Es_iload (hC _) dX5_few_40 rfl ?_
  refine Es_fV (hC _) mv_X5_70 dX5_few_42 (c_refuse (k := 6) (by decide) (by decide)) rfl rfl ⟨_, rfl, rfl⟩ rfl rfl (by decide) (Nat.le_of_ble_eq_true rfl) ?_
  exact Es_iret dX5_few_45 rfl ⟨rfl, rfl, rfl⟩

set_option maxRecDepth 100000 in
set_option maxHeartbeats 4000000 in
theorem c_few_ok {ad : sA} {nw nt : Nat} {B : sB} {L : sL} (hnw : B 0 0 8 = nI nw) (h5 : nw ≤ 5) {w : Nat} (hw : w < nw) {m : Nat} (hm4 : m < 4) {L' : sL} {p n mn u v : Nat} (h40 : nt ≤ 40) (hW : PW nt B w p) (hn6 : n ≤ 1000000) (hmn : mn ≤ 1000) (hL : PL B) (hF : TFc nt B L') (hu6 : u ≤ 1000) (hv1 : 1 ≤ v) (hv6 : v ≤ 100000) (hu : L' 17 0 0 = lN u) (hv : L' 17 0 1 = lN v) (hen : ∀ l, l ≤ 100 → enN 180 v u 0 l = oneN mn l) (hbec : Cf yX4_become cX4_become 7 none 1 [.ref (ad 17 0), .long (B 4 0 m).toInt64, .long 100000] ad nw nt B L none B L') : Cf yX5_few cX5_few 8 (some FieldType.int) 5 [.ref (ad 0 0), .int (nI w), .int (nI m), .int (nI n)] ad nw nt B L (some (.int (nI (sdS B L' w n mn p)))) (B) (L') := by
  have hC : ∀ Q, je_Ok (sCm yX5_few cX5_few 8 (some FieldType.int) 5 ad nw nt Q) RX5 cX5_few 8 5 := fun _ => je_Cm_ok
  refine Cs_of [some (.ref (ad 0 0)), some (.int (nI w)), some (.int (nI m)), some (.int (nI n)), none, none, none, none] (by decide) rfl (Nat.le_of_ble_eq_true rfl) ?_
  first | refine Es_aload_n (hC _) dX5_few_0 rfl ?_ | refine Es_aload_nN (hC _) dX5_few_0 rfl ?_
  refine Es_iload_n (hC _) dX5_few_1 rfl ?_
  refine Es_fV (hC _) mv_X5_77 dX5_few_2 (c_wagonAt_in hnw h5 hw) rfl rfl ⟨_, rfl, rfl⟩ rfl rfl (by decide) (Nat.le_of_ble_eq_true rfl) ?_
  first | refine Es_astore (lv' := [_, _, _, _, _, _, _, _]) (hC _) dX5_few_5 (by decide) rfl rfl ?_ | refine Es_astoreN (lv' := [_, _, _, _, _, _, _, _]) (hC _) dX5_few_5 (by decide) rfl rfl ?_
  first | refine Es_aload (hC _) dX5_few_7 rfl ?_ | refine Es_aloadN (hC _) dX5_few_7 rfl ?_
  refine Es_ifnull (hC _) dX5_few_9 ?_
  refine Es_iload_n (hC _) dX5_few_12 rfl ?_
  refine Es_fS (hC _) ms_X5_104 dX5_few_13 (c_isMaker_in hm4) rfl rfl (by decide) (Nat.le_of_ble_eq_true rfl) ?_
  refine Es_if_ne (hC _) 25 dX5_few_16 (by decide) (fun hb16 => ?_) (fun hb16 => False.elim ((by first | exact absurd hb16 (by decide) | exact absurd hb16 (by assumption) | exact hb16 (by assumption) | exact hb16 rfl | (simp_all [bI]; done))))
  refine Es_iload_n (hC _) dX5_few_25 rfl ?_
  refine Es_iconst (v := 0) (hC _) dX5_few_26 (by decide) ?_
  refine Es_ldc (hC _) ct_X5_171 dX5_few_27 ?_
  refine Es_fS (hC _) ms_X5_92 dX5_few_29 c_outside rfl rfl (by decide) (Nat.le_of_ble_eq_true rfl) ?_
  rw [show outs (nI n) 0 1000000 = 0 from (if_neg (nI_pos (by omega))).trans (if_neg (nI_nlt (a := 1000000) (b := n) hn6 (by decide)))]
  refine Es_istore (lv' := [_, _, _, _, _, _, _, _]) (hC _) dX5_few_32 (by decide) rfl rfl ?_
  refine Es_iload (hC _) dX5_few_34 rfl ?_
  refine Es_if_eq (hC _) 46 dX5_few_36 (by decide) (fun hb36 => ?_) (fun hb36 => False.elim (hb36 rfl))
  first | refine Es_aload_n (hC _) dX5_few_46 rfl ?_ | refine Es_aload_nN (hC _) dX5_few_46 rfl ?_
  refine Sg_X5_7 (hC _) fl_X5_59 dX5_few_47 ?_
  first | refine Es_aload_n (hC _) dX5_few_50 rfl ?_ | refine Es_aload_nN (hC _) dX5_few_50 rfl ?_
  refine Sg_X5_3 (hC _) fl_X5_36 dX5_few_51 ?_
  refine Es_iload_n (hC _) dX5_few_54 rfl ?_
  refine Es_fS (hC _) ms_X5_96 dX5_few_55 (c_at (kd := 4) (n := 4) rfl rfl rfl hm4 (by decide)) rfl rfl (by decide) (Nat.le_of_ble_eq_true rfl) ?_
  refine Es_i2l (hC _) dX5_few_58 ?_
  refine Es_ldc2 (hC _) cq_X5_226 dX5_few_59 ?_
  refine Es_fV (hC _) mv_X5_228 dX5_few_62 hbec rfl rfl ⟨_, rfl, rfl⟩ rfl rfl (by decide) (Nat.le_of_ble_eq_true rfl) ?_
  refine Es_iconst (v := 0) (hC _) dX5_few_65 (by decide) ?_
  refine Es_istore (lv' := [_, _, _, _, _, _, _, _]) (hC _) dX5_few_66 (by decide) rfl rfl ?_
  refine Es_iconst (v := 0) (hC _) dX5_few_68 (by decide) ?_
  refine Es_istore (lv' := [_, _, _, _, _, _, _, _]) (hC _) dX5_few_69 (by decide) rfl rfl ?_
  exact l_few (mn := mn) h40 hw hW hn6 hmn hL hF hu6 hv1 hv6 hu hv hen p 0 (by omega) (by omega)

set_option maxRecDepth 100000 in
set_option maxHeartbeats 4000000 in
theorem r_few_1a {ad : sA} {nw nt : Nat} {B : sB} {L : sL} (hnw : B 25 0 4 = nI nw) (h5 : nw ≤ 5) {y : Int32} (how : out y nw) {x z : Int32} : Cf yX6_few cX6_few 11 (some FieldType.int) 5 [.ref (ad 25 0), .int y, .int x, .int z] ad nw nt B L (some (.int (-1))) (uB B 30 0 1 (B 30 0 1 + 1)) (L) := by
  have hC : ∀ Q, je_Ok (sCm yX6_few cX6_few 11 (some FieldType.int) 5 ad nw nt Q) RX6 cX6_few 11 5 := fun _ => je_Cm_ok
  refine Cs_of [some (.ref (ad 25 0)), some (.int y), some (.int x), some (.int z), none, none, none, none, none, none, none] (by decide) rfl (Nat.le_of_ble_eq_true rfl) ?_
  refine Es_iload_n (hC _) dX6_few_0 rfl ?_
  first | refine Es_aload_n (hC _) dX6_few_1 rfl ?_ | refine Es_aload_nN (hC _) dX6_few_1 rfl ?_
  refine Sg_X6_4 (hC _) fl_X6_86 dX6_few_2 ?_
  rw [hnw]
  refine Es_fS (hC _) ms_X6_89 dX6_few_5 (r_isIn_out how) rfl rfl (by decide) (Nat.le_of_ble_eq_true rfl) ?_
  refine Es_if_eq (hC _) 19 dX6_few_8 (by decide) (fun hb8 => ?_) (fun hb8 => False.elim ((by first | exact absurd hb8 (by decide) | exact absurd hb8 (by assumption) | exact hb8 (by assumption) | exact hb8 rfl | (simp_all [bI]; done))))
  first | refine Es_aload_n (hC _) dX6_few_19 rfl ?_ | refine Es_aload_nN (hC _) dX6_few_19 rfl ?_
  refine Es_iconst (v := -1) (hC _) dX6_few_20 (by decide) ?_
  refine Es_fV (hC _) mv_X6_93 dX6_few_21 (r_refuse (k := 1) (by decide) (by decide)) rfl rfl ⟨_, rfl, rfl⟩ rfl rfl (by decide) (Nat.le_of_ble_eq_true rfl) ?_
  exact Es_iret dX6_few_24 rfl ⟨rfl, rfl, rfl⟩

set_option maxRecDepth 100000 in
set_option maxHeartbeats 4000000 in
theorem r_few_1b {ad : sA} {nw nt : Nat} {B : sB} {L : sL} (hnw : B 25 0 4 = nI nw) (h5 : nw ≤ 5) {w : Nat} (hw : w < nw) {x z : Int32} (hox : out x 4) : Cf yX6_few cX6_few 11 (some FieldType.int) 5 [.ref (ad 25 0), .int (nI w), .int x, .int z] ad nw nt B L (some (.int (-1))) (uB B 30 0 1 (B 30 0 1 + 1)) (L) := by
  have hC : ∀ Q, je_Ok (sCm yX6_few cX6_few 11 (some FieldType.int) 5 ad nw nt Q) RX6 cX6_few 11 5 := fun _ => je_Cm_ok
  refine Cs_of [some (.ref (ad 25 0)), some (.int (nI w)), some (.int x), some (.int z), none, none, none, none, none, none, none] (by decide) rfl (Nat.le_of_ble_eq_true rfl) ?_
  refine Es_iload_n (hC _) dX6_few_0 rfl ?_
  first | refine Es_aload_n (hC _) dX6_few_1 rfl ?_ | refine Es_aload_nN (hC _) dX6_few_1 rfl ?_
  refine Sg_X6_4 (hC _) fl_X6_86 dX6_few_2 ?_
  rw [hnw]
  refine Es_fS (hC _) ms_X6_89 dX6_few_5 (r_isIn_in hw (by omega)) rfl rfl (by decide) (Nat.le_of_ble_eq_true rfl) ?_
  refine Es_if_eq (hC _) 19 dX6_few_8 (by decide) (fun hb8 => False.elim ((by first | exact absurd hb8 (by decide) | exact absurd hb8 (by assumption) | exact hb8 (by assumption) | exact hb8 rfl | (simp_all [bI]; done)))) (fun hb8 => ?_)
  refine Es_iload_n (hC _) dX6_few_11 rfl ?_
  refine Es_iconst (v := 4) (hC _) dX6_few_12 (by decide) ?_
  refine Es_fS (hC _) ms_X6_89 dX6_few_13 (r_isIn_out (n := 4) hox) rfl rfl (by decide) (Nat.le_of_ble_eq_true rfl) ?_
  refine Es_if_ne (hC _) 25 dX6_few_16 (by decide) (fun hb16 => False.elim ((by first | exact absurd hb16 (by decide) | exact absurd hb16 (by assumption) | exact hb16 (by assumption) | exact hb16 rfl | (simp_all [bI]; done)))) (fun hb16 => ?_)
  first | refine Es_aload_n (hC _) dX6_few_19 rfl ?_ | refine Es_aload_nN (hC _) dX6_few_19 rfl ?_
  refine Es_iconst (v := -1) (hC _) dX6_few_20 (by decide) ?_
  refine Es_fV (hC _) mv_X6_93 dX6_few_21 (r_refuse (k := 1) (by decide) (by decide)) rfl rfl ⟨_, rfl, rfl⟩ rfl rfl (by decide) (Nat.le_of_ble_eq_true rfl) ?_
  exact Es_iret dX6_few_24 rfl ⟨rfl, rfl, rfl⟩

set_option maxRecDepth 100000 in
set_option maxHeartbeats 4000000 in
theorem r_few_lo {ad : sA} {nw nt : Nat} {B : sB} {L : sL} (hnw : B 25 0 4 = nI nw) (h5 : nw ≤ 5) {w : Nat} (hw : w < nw) {m : Nat} (hm4 : m < 4) {z : Int32} (hl : z < 0) : Cf yX6_few cX6_few 11 (some FieldType.int) 5 [.ref (ad 25 0), .int (nI w), .int (nI m), .int z] ad nw nt B L (some (.int (-4))) (uB B 30 0 4 (B 30 0 4 + 1)) (L) := by
  have hC : ∀ Q, je_Ok (sCm yX6_few cX6_few 11 (some FieldType.int) 5 ad nw nt Q) RX6 cX6_few 11 5 := fun _ => je_Cm_ok
  refine Cs_of [some (.ref (ad 25 0)), some (.int (nI w)), some (.int (nI m)), some (.int z), none, none, none, none, none, none, none] (by decide) rfl (Nat.le_of_ble_eq_true rfl) ?_
  refine Es_iload_n (hC _) dX6_few_0 rfl ?_
  first | refine Es_aload_n (hC _) dX6_few_1 rfl ?_ | refine Es_aload_nN (hC _) dX6_few_1 rfl ?_
  refine Sg_X6_4 (hC _) fl_X6_86 dX6_few_2 ?_
  rw [hnw]
  refine Es_fS (hC _) ms_X6_89 dX6_few_5 (r_isIn_in hw (by omega)) rfl rfl (by decide) (Nat.le_of_ble_eq_true rfl) ?_
  refine Es_if_eq (hC _) 19 dX6_few_8 (by decide) (fun hb8 => False.elim ((by first | exact absurd hb8 (by decide) | exact absurd hb8 (by assumption) | exact hb8 (by assumption) | exact hb8 rfl | (simp_all [bI]; done)))) (fun hb8 => ?_)
  refine Es_iload_n (hC _) dX6_few_11 rfl ?_
  refine Es_iconst (v := 4) (hC _) dX6_few_12 (by decide) ?_
  refine Es_fS (hC _) ms_X6_89 dX6_few_13 (r_isIn_in (n := 4) hm4 (by decide)) rfl rfl (by decide) (Nat.le_of_ble_eq_true rfl) ?_
  refine Es_if_ne (hC _) 25 dX6_few_16 (by decide) (fun hb16 => ?_) (fun hb16 => False.elim ((by first | exact absurd hb16 (by decide) | exact absurd hb16 (by assumption) | exact hb16 (by assumption) | exact hb16 rfl | (simp_all [bI]; done))))
  refine Es_iload_n (hC _) dX6_few_25 rfl ?_
  refine Es_if_ge (hC _) 36 dX6_few_26 (by decide) (fun hb26 => False.elim (Int32.not_le.mpr hl hb26)) (fun hb26 => ?_)
  first | refine Es_aload_n (hC _) dX6_few_29 rfl ?_ | refine Es_aload_nN (hC _) dX6_few_29 rfl ?_
  refine Es_bipush (v := -4) (hC _) dX6_few_30 (by decide) ?_
  refine Es_fV (hC _) mv_X6_93 dX6_few_32 (r_refuse (k := 4) (by decide) (by decide)) rfl rfl ⟨_, rfl, rfl⟩ rfl rfl (by decide) (Nat.le_of_ble_eq_true rfl) ?_
  exact Es_iret dX6_few_35 rfl ⟨rfl, rfl, rfl⟩

set_option maxRecDepth 100000 in
set_option maxHeartbeats 4000000 in
theorem r_few_hi {ad : sA} {nw nt : Nat} {B : sB} {L : sL} (hnw : B 25 0 4 = nI nw) (h5 : nw ≤ 5) {w : Nat} (hw : w < nw) {m : Nat} (hm4 : m < 4) {z : Int32} (hl : ¬ z < 0) (hh : 1000000 < z) : Cf yX6_few cX6_few 11 (some FieldType.int) 5 [.ref (ad 25 0), .int (nI w), .int (nI m), .int z] ad nw nt B L (some (.int (-6))) (uB B 30 0 6 (B 30 0 6 + 1)) (L) := by
  have hC : ∀ Q, je_Ok (sCm yX6_few cX6_few 11 (some FieldType.int) 5 ad nw nt Q) RX6 cX6_few 11 5 := fun _ => je_Cm_ok
  refine Cs_of [some (.ref (ad 25 0)), some (.int (nI w)), some (.int (nI m)), some (.int z), none, none, none, none, none, none, none] (by decide) rfl (Nat.le_of_ble_eq_true rfl) ?_
  refine Es_iload_n (hC _) dX6_few_0 rfl ?_
  first | refine Es_aload_n (hC _) dX6_few_1 rfl ?_ | refine Es_aload_nN (hC _) dX6_few_1 rfl ?_
  refine Sg_X6_4 (hC _) fl_X6_86 dX6_few_2 ?_
  rw [hnw]
  refine Es_fS (hC _) ms_X6_89 dX6_few_5 (r_isIn_in hw (by omega)) rfl rfl (by decide) (Nat.le_of_ble_eq_true rfl) ?_
  refine Es_if_eq (hC _) 19 dX6_few_8 (by decide) (fun hb8 => False.elim ((by first | exact absurd hb8 (by decide) | exact absurd hb8 (by assumption) | exact hb8 (by assumption) | exact hb8 rfl | (simp_all [bI]; done)))) (fun hb8 => ?_)
  refine Es_iload_n (hC _) dX6_few_11 rfl ?_
  refine Es_iconst (v := 4) (hC _) dX6_few_12 (by decide) ?_
  refine Es_fS (hC _) ms_X6_89 dX6_few_13 (r_isIn_in (n := 4) hm4 (by decide)) rfl rfl (by decide) (Nat.le_of_ble_eq_true rfl) ?_
  refine Es_if_ne (hC _) 25 dX6_few_16 (by decide) (fun hb16 => ?_) (fun hb16 => False.elim ((by first | exact absurd hb16 (by decide) | exact absurd hb16 (by assumption) | exact hb16 (by assumption) | exact hb16 rfl | (simp_all [bI]; done))))
  refine Es_iload_n (hC _) dX6_few_25 rfl ?_
  refine Es_if_ge (hC _) 36 dX6_few_26 (by decide) (fun hb26 => ?_) (fun hb26 => False.elim (hb26 (Int32.not_lt.mp hl)))
  refine Es_iload_n (hC _) dX6_few_36 rfl ?_
  refine Es_ldc (hC _) ct_X6_152 dX6_few_37 ?_
  refine Es_icmp_le (hC _) 49 dX6_few_39 (by decide) (fun hb39 => False.elim (Int32.not_le.mpr hh hb39)) (fun hb39 => ?_)
  first | refine Es_aload_n (hC _) dX6_few_42 rfl ?_ | refine Es_aload_nN (hC _) dX6_few_42 rfl ?_
  refine Es_bipush (v := -6) (hC _) dX6_few_43 (by decide) ?_
  refine Es_fV (hC _) mv_X6_93 dX6_few_45 (r_refuse (k := 6) (by decide) (by decide)) rfl rfl ⟨_, rfl, rfl⟩ rfl rfl (by decide) (Nat.le_of_ble_eq_true rfl) ?_
  exact Es_iret dX6_few_48 rfl ⟨rfl, rfl, rfl⟩

set_option maxRecDepth 100000 in
set_option maxHeartbeats 4000000 in
theorem l_rfew {ad : sA} {nw nt : Nat} {B : sB} {L : sL} {bc bs : Nat} {w p n mn m : Nat} (h40 : nt ≤ 40) (hw5 : w < 5) (hX : PX nt B w p) (hn6 : n ≤ 1000000) (hmn : mn ≤ 1000) (hm4 : m < 4) (hmm : B 32 0 m = nI mn) (hLX0 : PLX B) (hF : TFa nt B L) : ∀ (j i : Nat) (L1 : sL), i ≤ p → p - i = j → wrel L L1 → Es (sCm yX6_few cX6_few 11 (some .int) 5 ad nw nt (fun v B1 L2 => v = some (.int (nI (sdS B L w n mn p))) ∧ B1 = B ∧ wrel L L2)) 11 55 [some (.ref (ad 25 0)), some (.int (nI w)), some (.int (nI m)), some (.int (nI n)), some (.int (nI (sdS B L w n mn i))), some (.int (nI i)), none, none, none, none, none] [] ad nw nt B L1 bc bs := by
  have hC : ∀ Q, je_Ok (sCm yX6_few cX6_few 11 (some .int) 5 ad nw nt Q) RX6 cX6_few 11 5 := fun _ => je_Cm_ok
  obtain ⟨⟨h7, -, hq⟩, hp, hrr⟩ := hX
  obtain ⟨hL, hLX⟩ := hLX0
  intro j
  induction j with
  | zero =>
    intro i L1 hi hn hwr
    have hik : i = p := by omega
    subst hik
    refine Es_iload (hC _) dX6_few_55 rfl ?_
    first | refine Es_aload_n (hC _) dX6_few_57 rfl ?_ | refine Es_aload_nN (hC _) dX6_few_57 rfl ?_
    refine Sg_X6_8 (hC _) fl_X6_23 dX6_few_58 ?_
    refine Es_iload_n (hC _) dX6_few_61 rfl ?_
    refine Es_ialdN (hC _) dX6_few_62 rfl rfl rfl (by omega) (by decide) ?_
    rw [hp]
    refine Es_icmp_ge (hC _) 223 dX6_few_63 (by decide) (fun hb63 => ?_) (fun hb63 => False.elim (hb63 (nI_le (Nat.le_refl _) (by omega))))
    refine Es_iload (hC _) dX6_few_223 rfl ?_
    exact Es_iret dX6_few_225 rfl ⟨rfl, rfl, hwr⟩
  | succ j ih =>
    intro i L1 hi hn hwr
    obtain ⟨⟨k, hk5, hk⟩, hon⟩ := hq i (by omega)
    obtain ⟨hr9, hr10⟩ := hrr i (by omega)
    obtain ⟨l, hl1, hl⟩ := hL k hk5
    have ho := oneN_b hmn hl1
    by_cases h4 : B 19 w i = 4
    · skip
      refine Es_iload (hC _) dX6_few_55 rfl ?_
      first | refine Es_aload_n (hC _) dX6_few_57 rfl ?_ | refine Es_aload_nN (hC _) dX6_few_57 rfl ?_
      refine Sg_X6_8 (hC _) fl_X6_23 dX6_few_58 ?_
      refine Es_iload_n (hC _) dX6_few_61 rfl ?_
      refine Es_ialdN (hC _) dX6_few_62 rfl rfl rfl (by omega) (by decide) ?_
      rw [hp]
      refine Es_icmp_ge (hC _) 223 dX6_few_63 (by decide) (fun hb63 => False.elim (nI_ge (b := p) (a := i) (by omega) (by omega) hb63)) (fun hb63 => ?_)
      refine Es_iload_n (hC _) dX6_few_66 rfl ?_
      refine Es_iload (hC _) dX6_few_67 rfl ?_
      refine Es_fS (hC _) ms_X6_97 dX6_few_69 r_spot rfl rfl (by decide) (Nat.le_of_ble_eq_true rfl) ?_
      refine Es_istore (lv' := [_, _, _, _, _, _, _, _, _, _, _]) (hC _) dX6_few_72 (by decide) rfl rfl ?_
      first | refine Es_aload_n (hC _) dX6_few_74 rfl ?_ | refine Es_aload_nN (hC _) dX6_few_74 rfl ?_
      refine Sg_X6_9 (hC _) fl_X6_26 dX6_few_75 ?_
      refine Es_iload (hC _) dX6_few_78 rfl ?_
      refine Es_ialdN (hC _) dX6_few_80 rfl rfl rfl (by omega) (by decide) ?_
      rw [hr9]
      refine Es_iconst (v := 4) (hC _) dX6_few_81 (by decide) ?_
      refine Es_icmp_ne (hC _) 88 dX6_few_82 (by decide) (fun hb82 => False.elim (hb82 h4)) (fun hb82 => ?_)
      refine Es_goto (hC _) 217 dX6_few_85 (by decide) ?_
      refine Es_iinc (lv' := [_, _, _, _, _, _, _, _, _, _, _]) (hC _) dX6_few_217 (by decide) rfl (show _ + Int32.ofInt (1) = _ + (1) from rfl) rfl rfl ?_
      refine Es_goto (hC _) 55 dX6_few_220 (by decide) ?_
      refine Es.kill 6 (lv' := [_, _, _, _, _, _, _, _, _, _, _]) rfl ?_
      refine Es.kill 7 (lv' := [_, _, _, _, _, _, _, _, _, _, _]) rfl ?_
      refine Es.kill 8 (lv' := [_, _, _, _, _, _, _, _, _, _, _]) rfl ?_
      refine Es.kill 9 (lv' := [_, _, _, _, _, _, _, _, _, _, _]) rfl ?_
      refine Es.kill 10 (lv' := [_, _, _, _, _, _, _, _, _, _, _]) rfl ?_
      simp only [nI_1]
      refine Es.eqV ?_ (ih (i + 1) L1 (by omega) (by omega) hwr)
      simp only [sdS]
      rw [nd_4 h4, Nat.add_zero (sdS B L w n mn i)]
    · rcases hon with hon | ⟨t, ht, hon⟩
      · have e := nd_0 (L := L) (n := n) (mn := mn) h4 hk hk5 hl hl1 hon
        have ht6 := tfN_le (a := n) (e := oneN mn l) hn6
        by_cases hz : mn = 0
        · skip
          refine Es_iload (hC _) dX6_few_55 rfl ?_
          first | refine Es_aload_n (hC _) dX6_few_57 rfl ?_ | refine Es_aload_nN (hC _) dX6_few_57 rfl ?_
          refine Sg_X6_8 (hC _) fl_X6_23 dX6_few_58 ?_
          refine Es_iload_n (hC _) dX6_few_61 rfl ?_
          refine Es_ialdN (hC _) dX6_few_62 rfl rfl rfl (by omega) (by decide) ?_
          rw [hp]
          refine Es_icmp_ge (hC _) 223 dX6_few_63 (by decide) (fun hb63 => False.elim (nI_ge (b := p) (a := i) (by omega) (by omega) hb63)) (fun hb63 => ?_)
          refine Es_iload_n (hC _) dX6_few_66 rfl ?_
          refine Es_iload (hC _) dX6_few_67 rfl ?_
          refine Es_fS (hC _) ms_X6_97 dX6_few_69 r_spot rfl rfl (by decide) (Nat.le_of_ble_eq_true rfl) ?_
          refine Es_istore (lv' := [_, _, _, _, _, _, _, _, _, _, _]) (hC _) dX6_few_72 (by decide) rfl rfl ?_
          first | refine Es_aload_n (hC _) dX6_few_74 rfl ?_ | refine Es_aload_nN (hC _) dX6_few_74 rfl ?_
          refine Sg_X6_9 (hC _) fl_X6_26 dX6_few_75 ?_
          refine Es_iload (hC _) dX6_few_78 rfl ?_
          refine Es_ialdN (hC _) dX6_few_80 rfl rfl rfl (by omega) (by decide) ?_
          rw [hr9]
          refine Es_iconst (v := 4) (hC _) dX6_few_81 (by decide) ?_
          refine Es_icmp_ne (hC _) 88 dX6_few_82 (by decide) (fun hb82 => ?_) (fun hb82 => False.elim (h4 hb82))
          first | refine Es_aload_n (hC _) dX6_few_88 rfl ?_ | refine Es_aload_nN (hC _) dX6_few_88 rfl ?_
          refine Sg_X6_1 (hC _) fl_X6_13 dX6_few_89 ?_
          first | refine Es_aload_n (hC _) dX6_few_92 rfl ?_ | refine Es_aload_nN (hC _) dX6_few_92 rfl ?_
          refine Sg_X6_9 (hC _) fl_X6_26 dX6_few_93 ?_
          refine Es_iload (hC _) dX6_few_96 rfl ?_
          refine Es_ialdN (hC _) dX6_few_98 rfl rfl rfl (by omega) (by decide) ?_
          rw [hr9, hk]
          refine Es_ialdN (hC _) dX6_few_99 rfl rfl rfl (by omega) (by decide) ?_
          rw [hLX k hk5, hl]
          refine Es_istore (lv' := [_, _, _, _, _, _, _, _, _, _, _]) (hC _) dX6_few_100 (by decide) rfl rfl ?_
          first | refine Es_aload_n (hC _) dX6_few_102 rfl ?_ | refine Es_aload_nN (hC _) dX6_few_102 rfl ?_
          refine Sg_X6_2 (hC _) fl_X6_16 dX6_few_103 ?_
          refine Es_iload_n (hC _) dX6_few_106 rfl ?_
          refine Es_ialdN (hC _) dX6_few_107 rfl rfl rfl hm4 (by decide) ?_
          rw [hmm]
          refine Es_if_eq (hC _) 116 dX6_few_108 (by decide) (fun hb108 => ?_) (fun hb108 => False.elim (hb108 (by rw [hz]; rfl)))
          refine Es_ldc (hC _) ct_X6_152 dX6_few_116 ?_
          refine Es_goto (hC _) 142 dX6_few_118 (by decide) ?_
          rw [show (1000000 : Int32) = nI (oneN mn l) by rw [oneN_0 (Or.inl hz)]; rfl]
          refine Es_istore (lv' := [_, _, _, _, _, _, _, _, _, _, _]) (hC _) dX6_few_142 (by decide) rfl rfl ?_
          first | refine Es_aload_n (hC _) dX6_few_144 rfl ?_ | refine Es_aload_nN (hC _) dX6_few_144 rfl ?_
          refine Sg_X6_10 (hC _) fl_X6_29 dX6_few_145 ?_
          refine Es_iload (hC _) dX6_few_148 rfl ?_
          refine Es_ialdN (hC _) dX6_few_150 rfl rfl rfl (by omega) (by decide) ?_
          rw [hr10]
          refine Es_if_ge (hC _) 158 dX6_few_151 (by decide) (fun hb151 => False.elim (absurd (hon ▸ hb151) (by decide))) (fun hb151 => ?_)
          refine Es_iload_n (hC _) dX6_few_154 rfl ?_
          refine Es_goto (hC _) 177 dX6_few_155 (by decide) ?_
          refine Es_istore (lv' := [_, _, _, _, _, _, _, _, _, _, _]) (hC _) dX6_few_177 (by decide) rfl rfl ?_
          refine Es_iload (hC _) dX6_few_179 rfl ?_
          refine Es_iload (hC _) dX6_few_181 rfl ?_
          refine Es_iadd (hC _) dX6_few_183 ?_
          refine Es_iconst (v := 1) (hC _) dX6_few_184 (by decide) ?_
          rw [nI_add]
          refine Es_isub (hC _) dX6_few_185 ?_
          rw [show nI (n + oneN mn l) - 1 = nI (n + oneN mn l - 1) from pk_sub (b := 1) (by omega)]
          refine Es_iload (hC _) dX6_few_186 rfl ?_
          refine Es_idiv (hC _) dX6_few_188 (nI_ne0 (by omega) (by omega)) ?_
          rw [pk_div (by omega) (by omega) (by omega), tfN_eq ho.1]
          refine Es_istore (lv' := [_, _, _, _, _, _, _, _, _, _, _]) (hC _) dX6_few_189 (by decide) rfl rfl ?_
          refine Es_iload (hC _) dX6_few_191 rfl ?_
          first | refine Es_aload_n (hC _) dX6_few_193 rfl ?_ | refine Es_aload_nN (hC _) dX6_few_193 rfl ?_
          refine Sg_X6_10 (hC _) fl_X6_29 dX6_few_194 ?_
          refine Es_iload (hC _) dX6_few_197 rfl ?_
          refine Es_ialdN (hC _) dX6_few_199 rfl rfl rfl (by omega) (by decide) ?_
          rw [hr10]
          refine Es_if_ge (hC _) 212 dX6_few_200 (by decide) (fun hb200 => False.elim (absurd (hon ▸ hb200) (by decide))) (fun hb200 => ?_)
          refine Es_iconst (v := 1) (hC _) dX6_few_203 (by decide) ?_
          refine Es_iload (hC _) dX6_few_204 rfl ?_
          refine Es_fS (hC _) ms_X6_193 dX6_few_206 j_maxi rfl rfl (by decide) (Nat.le_of_ble_eq_true rfl) ?_
          rw [show mxI 1 (nI (tfN n (oneN mn l))) = nI (max 1 (tfN n (oneN mn l))) from mxI_N (a := 1) (by decide) (by omega)]
          refine Es_goto (hC _) 214 dX6_few_209 (by decide) ?_
          refine Es_iadd (hC _) dX6_few_214 ?_
          refine Es_istore (lv' := [_, _, _, _, _, _, _, _, _, _, _]) (hC _) dX6_few_215 (by decide) rfl rfl ?_
          refine Es_iinc (lv' := [_, _, _, _, _, _, _, _, _, _, _]) (hC _) dX6_few_217 (by decide) rfl (show _ + Int32.ofInt (1) = _ + (1) from rfl) rfl rfl ?_
          refine Es_goto (hC _) 55 dX6_few_220 (by decide) ?_
          refine Es.kill 6 (lv' := [_, _, _, _, _, _, _, _, _, _, _]) rfl ?_
          refine Es.kill 7 (lv' := [_, _, _, _, _, _, _, _, _, _, _]) rfl ?_
          refine Es.kill 8 (lv' := [_, _, _, _, _, _, _, _, _, _, _]) rfl ?_
          refine Es.kill 9 (lv' := [_, _, _, _, _, _, _, _, _, _, _]) rfl ?_
          refine Es.kill 10 (lv' := [_, _, _, _, _, _, _, _, _, _, _]) rfl ?_
          simp only [nI_1, nI_add]
          refine Es.eqV ?_ (ih (i + 1) L1 (by omega) (by omega) hwr)
          simp only [sdS]
          rw [e]
        · by_cases hz2 : l = 0
          · skip
            refine Es_iload (hC _) dX6_few_55 rfl ?_
            first | refine Es_aload_n (hC _) dX6_few_57 rfl ?_ | refine Es_aload_nN (hC _) dX6_few_57 rfl ?_
            refine Sg_X6_8 (hC _) fl_X6_23 dX6_few_58 ?_
            refine Es_iload_n (hC _) dX6_few_61 rfl ?_
            refine Es_ialdN (hC _) dX6_few_62 rfl rfl rfl (by omega) (by decide) ?_
            rw [hp]
            refine Es_icmp_ge (hC _) 223 dX6_few_63 (by decide) (fun hb63 => False.elim (nI_ge (b := p) (a := i) (by omega) (by omega) hb63)) (fun hb63 => ?_)
            refine Es_iload_n (hC _) dX6_few_66 rfl ?_
            refine Es_iload (hC _) dX6_few_67 rfl ?_
            refine Es_fS (hC _) ms_X6_97 dX6_few_69 r_spot rfl rfl (by decide) (Nat.le_of_ble_eq_true rfl) ?_
            refine Es_istore (lv' := [_, _, _, _, _, _, _, _, _, _, _]) (hC _) dX6_few_72 (by decide) rfl rfl ?_
            first | refine Es_aload_n (hC _) dX6_few_74 rfl ?_ | refine Es_aload_nN (hC _) dX6_few_74 rfl ?_
            refine Sg_X6_9 (hC _) fl_X6_26 dX6_few_75 ?_
            refine Es_iload (hC _) dX6_few_78 rfl ?_
            refine Es_ialdN (hC _) dX6_few_80 rfl rfl rfl (by omega) (by decide) ?_
            rw [hr9]
            refine Es_iconst (v := 4) (hC _) dX6_few_81 (by decide) ?_
            refine Es_icmp_ne (hC _) 88 dX6_few_82 (by decide) (fun hb82 => ?_) (fun hb82 => False.elim (h4 hb82))
            first | refine Es_aload_n (hC _) dX6_few_88 rfl ?_ | refine Es_aload_nN (hC _) dX6_few_88 rfl ?_
            refine Sg_X6_1 (hC _) fl_X6_13 dX6_few_89 ?_
            first | refine Es_aload_n (hC _) dX6_few_92 rfl ?_ | refine Es_aload_nN (hC _) dX6_few_92 rfl ?_
            refine Sg_X6_9 (hC _) fl_X6_26 dX6_few_93 ?_
            refine Es_iload (hC _) dX6_few_96 rfl ?_
            refine Es_ialdN (hC _) dX6_few_98 rfl rfl rfl (by omega) (by decide) ?_
            rw [hr9, hk]
            refine Es_ialdN (hC _) dX6_few_99 rfl rfl rfl (by omega) (by decide) ?_
            rw [hLX k hk5, hl]
            refine Es_istore (lv' := [_, _, _, _, _, _, _, _, _, _, _]) (hC _) dX6_few_100 (by decide) rfl rfl ?_
            first | refine Es_aload_n (hC _) dX6_few_102 rfl ?_ | refine Es_aload_nN (hC _) dX6_few_102 rfl ?_
            refine Sg_X6_2 (hC _) fl_X6_16 dX6_few_103 ?_
            refine Es_iload_n (hC _) dX6_few_106 rfl ?_
            refine Es_ialdN (hC _) dX6_few_107 rfl rfl rfl hm4 (by decide) ?_
            rw [hmm]
            refine Es_if_eq (hC _) 116 dX6_few_108 (by decide) (fun hb108 => False.elim (nI_ne0 (by omega) (by omega) hb108)) (fun hb108 => ?_)
            refine Es_iload (hC _) dX6_few_111 rfl ?_
            refine Es_if_ne (hC _) 121 dX6_few_113 (by decide) (fun hb113 => False.elim (hb113 (by rw [hz2]; rfl))) (fun hb113 => ?_)
            refine Es_ldc (hC _) ct_X6_152 dX6_few_116 ?_
            refine Es_goto (hC _) 142 dX6_few_118 (by decide) ?_
            rw [show (1000000 : Int32) = nI (oneN mn l) by rw [oneN_0 (Or.inr hz2)]; rfl]
            refine Es_istore (lv' := [_, _, _, _, _, _, _, _, _, _, _]) (hC _) dX6_few_142 (by decide) rfl rfl ?_
            first | refine Es_aload_n (hC _) dX6_few_144 rfl ?_ | refine Es_aload_nN (hC _) dX6_few_144 rfl ?_
            refine Sg_X6_10 (hC _) fl_X6_29 dX6_few_145 ?_
            refine Es_iload (hC _) dX6_few_148 rfl ?_
            refine Es_ialdN (hC _) dX6_few_150 rfl rfl rfl (by omega) (by decide) ?_
            rw [hr10]
            refine Es_if_ge (hC _) 158 dX6_few_151 (by decide) (fun hb151 => False.elim (absurd (hon ▸ hb151) (by decide))) (fun hb151 => ?_)
            refine Es_iload_n (hC _) dX6_few_154 rfl ?_
            refine Es_goto (hC _) 177 dX6_few_155 (by decide) ?_
            refine Es_istore (lv' := [_, _, _, _, _, _, _, _, _, _, _]) (hC _) dX6_few_177 (by decide) rfl rfl ?_
            refine Es_iload (hC _) dX6_few_179 rfl ?_
            refine Es_iload (hC _) dX6_few_181 rfl ?_
            refine Es_iadd (hC _) dX6_few_183 ?_
            refine Es_iconst (v := 1) (hC _) dX6_few_184 (by decide) ?_
            rw [nI_add]
            refine Es_isub (hC _) dX6_few_185 ?_
            rw [show nI (n + oneN mn l) - 1 = nI (n + oneN mn l - 1) from pk_sub (b := 1) (by omega)]
            refine Es_iload (hC _) dX6_few_186 rfl ?_
            refine Es_idiv (hC _) dX6_few_188 (nI_ne0 (by omega) (by omega)) ?_
            rw [pk_div (by omega) (by omega) (by omega), tfN_eq ho.1]
            refine Es_istore (lv' := [_, _, _, _, _, _, _, _, _, _, _]) (hC _) dX6_few_189 (by decide) rfl rfl ?_
            refine Es_iload (hC _) dX6_few_191 rfl ?_
            first | refine Es_aload_n (hC _) dX6_few_193 rfl ?_ | refine Es_aload_nN (hC _) dX6_few_193 rfl ?_
            refine Sg_X6_10 (hC _) fl_X6_29 dX6_few_194 ?_
            refine Es_iload (hC _) dX6_few_197 rfl ?_
            refine Es_ialdN (hC _) dX6_few_199 rfl rfl rfl (by omega) (by decide) ?_
            rw [hr10]
            refine Es_if_ge (hC _) 212 dX6_few_200 (by decide) (fun hb200 => False.elim (absurd (hon ▸ hb200) (by decide))) (fun hb200 => ?_)
            refine Es_iconst (v := 1) (hC _) dX6_few_203 (by decide) ?_
            refine Es_iload (hC _) dX6_few_204 rfl ?_
            refine Es_fS (hC _) ms_X6_193 dX6_few_206 j_maxi rfl rfl (by decide) (Nat.le_of_ble_eq_true rfl) ?_
            rw [show mxI 1 (nI (tfN n (oneN mn l))) = nI (max 1 (tfN n (oneN mn l))) from mxI_N (a := 1) (by decide) (by omega)]
            refine Es_goto (hC _) 214 dX6_few_209 (by decide) ?_
            refine Es_iadd (hC _) dX6_few_214 ?_
            refine Es_istore (lv' := [_, _, _, _, _, _, _, _, _, _, _]) (hC _) dX6_few_215 (by decide) rfl rfl ?_
            refine Es_iinc (lv' := [_, _, _, _, _, _, _, _, _, _, _]) (hC _) dX6_few_217 (by decide) rfl (show _ + Int32.ofInt (1) = _ + (1) from rfl) rfl rfl ?_
            refine Es_goto (hC _) 55 dX6_few_220 (by decide) ?_
            refine Es.kill 6 (lv' := [_, _, _, _, _, _, _, _, _, _, _]) rfl ?_
            refine Es.kill 7 (lv' := [_, _, _, _, _, _, _, _, _, _, _]) rfl ?_
            refine Es.kill 8 (lv' := [_, _, _, _, _, _, _, _, _, _, _]) rfl ?_
            refine Es.kill 9 (lv' := [_, _, _, _, _, _, _, _, _, _, _]) rfl ?_
            refine Es.kill 10 (lv' := [_, _, _, _, _, _, _, _, _, _, _]) rfl ?_
            simp only [nI_1, nI_add]
            refine Es.eqV ?_ (ih (i + 1) L1 (by omega) (by omega) hwr)
            simp only [sdS]
            rw [e]
          · skip
            refine Es_iload (hC _) dX6_few_55 rfl ?_
            first | refine Es_aload_n (hC _) dX6_few_57 rfl ?_ | refine Es_aload_nN (hC _) dX6_few_57 rfl ?_
            refine Sg_X6_8 (hC _) fl_X6_23 dX6_few_58 ?_
            refine Es_iload_n (hC _) dX6_few_61 rfl ?_
            refine Es_ialdN (hC _) dX6_few_62 rfl rfl rfl (by omega) (by decide) ?_
            rw [hp]
            refine Es_icmp_ge (hC _) 223 dX6_few_63 (by decide) (fun hb63 => False.elim (nI_ge (b := p) (a := i) (by omega) (by omega) hb63)) (fun hb63 => ?_)
            refine Es_iload_n (hC _) dX6_few_66 rfl ?_
            refine Es_iload (hC _) dX6_few_67 rfl ?_
            refine Es_fS (hC _) ms_X6_97 dX6_few_69 r_spot rfl rfl (by decide) (Nat.le_of_ble_eq_true rfl) ?_
            refine Es_istore (lv' := [_, _, _, _, _, _, _, _, _, _, _]) (hC _) dX6_few_72 (by decide) rfl rfl ?_
            first | refine Es_aload_n (hC _) dX6_few_74 rfl ?_ | refine Es_aload_nN (hC _) dX6_few_74 rfl ?_
            refine Sg_X6_9 (hC _) fl_X6_26 dX6_few_75 ?_
            refine Es_iload (hC _) dX6_few_78 rfl ?_
            refine Es_ialdN (hC _) dX6_few_80 rfl rfl rfl (by omega) (by decide) ?_
            rw [hr9]
            refine Es_iconst (v := 4) (hC _) dX6_few_81 (by decide) ?_
            refine Es_icmp_ne (hC _) 88 dX6_few_82 (by decide) (fun hb82 => ?_) (fun hb82 => False.elim (h4 hb82))
            first | refine Es_aload_n (hC _) dX6_few_88 rfl ?_ | refine Es_aload_nN (hC _) dX6_few_88 rfl ?_
            refine Sg_X6_1 (hC _) fl_X6_13 dX6_few_89 ?_
            first | refine Es_aload_n (hC _) dX6_few_92 rfl ?_ | refine Es_aload_nN (hC _) dX6_few_92 rfl ?_
            refine Sg_X6_9 (hC _) fl_X6_26 dX6_few_93 ?_
            refine Es_iload (hC _) dX6_few_96 rfl ?_
            refine Es_ialdN (hC _) dX6_few_98 rfl rfl rfl (by omega) (by decide) ?_
            rw [hr9, hk]
            refine Es_ialdN (hC _) dX6_few_99 rfl rfl rfl (by omega) (by decide) ?_
            rw [hLX k hk5, hl]
            refine Es_istore (lv' := [_, _, _, _, _, _, _, _, _, _, _]) (hC _) dX6_few_100 (by decide) rfl rfl ?_
            first | refine Es_aload_n (hC _) dX6_few_102 rfl ?_ | refine Es_aload_nN (hC _) dX6_few_102 rfl ?_
            refine Sg_X6_2 (hC _) fl_X6_16 dX6_few_103 ?_
            refine Es_iload_n (hC _) dX6_few_106 rfl ?_
            refine Es_ialdN (hC _) dX6_few_107 rfl rfl rfl hm4 (by decide) ?_
            rw [hmm]
            refine Es_if_eq (hC _) 116 dX6_few_108 (by decide) (fun hb108 => False.elim (nI_ne0 (by omega) (by omega) hb108)) (fun hb108 => ?_)
            refine Es_iload (hC _) dX6_few_111 rfl ?_
            refine Es_if_ne (hC _) 121 dX6_few_113 (by decide) (fun hb113 => ?_) (fun hb113 => False.elim (nI_ne0 (by omega) (by omega) hb113))
            refine Es_ldc (hC _) ct_X6_152 dX6_few_121 ?_
            refine Es_sipush (v := 180) (hC _) dX6_few_123 (by decide) ?_
            refine Es_iload (hC _) dX6_few_126 rfl ?_
            refine Es_isub (hC _) dX6_few_128 ?_
            refine Es_ldc (hC _) ct_X6_192 dX6_few_129 ?_
            rw [show (180 : Int32) - nI l = nI (180 - l) from pk_sub (a := 180) (by omega)]
            refine Es_imul (hC _) dX6_few_131 ?_
            rw [show nI (180 - l) * 100000 = nI ((180 - l) * 100000) from pk_mul _ 100000]
            first | refine Es_aload_n (hC _) dX6_few_132 rfl ?_ | refine Es_aload_nN (hC _) dX6_few_132 rfl ?_
            refine Sg_X6_2 (hC _) fl_X6_16 dX6_few_133 ?_
            refine Es_iload_n (hC _) dX6_few_136 rfl ?_
            refine Es_ialdN (hC _) dX6_few_137 rfl rfl rfl hm4 (by decide) ?_
            rw [hmm]
            refine Es_idiv (hC _) dX6_few_138 (nI_ne0 (by omega) (by omega)) ?_
            rw [pk_div (by omega) (by omega) (by omega)]
            refine Es_fS (hC _) ms_X6_164 dX6_few_139 j_mini rfl rfl (by decide) (Nat.le_of_ble_eq_true rfl) ?_
            rw [show mnI 1000000 (nI ((180 - l) * 100000 / mn)) = nI (oneN mn l) by rw [oneN_1 hz hz2]; exact mnI_N (a := 1000000) (by decide) (by have := Nat.div_le_self ((180 - l) * 100000) mn; omega)]
            refine Es_istore (lv' := [_, _, _, _, _, _, _, _, _, _, _]) (hC _) dX6_few_142 (by decide) rfl rfl ?_
            first | refine Es_aload_n (hC _) dX6_few_144 rfl ?_ | refine Es_aload_nN (hC _) dX6_few_144 rfl ?_
            refine Sg_X6_10 (hC _) fl_X6_29 dX6_few_145 ?_
            refine Es_iload (hC _) dX6_few_148 rfl ?_
            refine Es_ialdN (hC _) dX6_few_150 rfl rfl rfl (by omega) (by decide) ?_
            rw [hr10]
            refine Es_if_ge (hC _) 158 dX6_few_151 (by decide) (fun hb151 => False.elim (absurd (hon ▸ hb151) (by decide))) (fun hb151 => ?_)
            refine Es_iload_n (hC _) dX6_few_154 rfl ?_
            refine Es_goto (hC _) 177 dX6_few_155 (by decide) ?_
            refine Es_istore (lv' := [_, _, _, _, _, _, _, _, _, _, _]) (hC _) dX6_few_177 (by decide) rfl rfl ?_
            refine Es_iload (hC _) dX6_few_179 rfl ?_
            refine Es_iload (hC _) dX6_few_181 rfl ?_
            refine Es_iadd (hC _) dX6_few_183 ?_
            refine Es_iconst (v := 1) (hC _) dX6_few_184 (by decide) ?_
            rw [nI_add]
            refine Es_isub (hC _) dX6_few_185 ?_
            rw [show nI (n + oneN mn l) - 1 = nI (n + oneN mn l - 1) from pk_sub (b := 1) (by omega)]
            refine Es_iload (hC _) dX6_few_186 rfl ?_
            refine Es_idiv (hC _) dX6_few_188 (nI_ne0 (by omega) (by omega)) ?_
            rw [pk_div (by omega) (by omega) (by omega), tfN_eq ho.1]
            refine Es_istore (lv' := [_, _, _, _, _, _, _, _, _, _, _]) (hC _) dX6_few_189 (by decide) rfl rfl ?_
            refine Es_iload (hC _) dX6_few_191 rfl ?_
            first | refine Es_aload_n (hC _) dX6_few_193 rfl ?_ | refine Es_aload_nN (hC _) dX6_few_193 rfl ?_
            refine Sg_X6_10 (hC _) fl_X6_29 dX6_few_194 ?_
            refine Es_iload (hC _) dX6_few_197 rfl ?_
            refine Es_ialdN (hC _) dX6_few_199 rfl rfl rfl (by omega) (by decide) ?_
            rw [hr10]
            refine Es_if_ge (hC _) 212 dX6_few_200 (by decide) (fun hb200 => False.elim (absurd (hon ▸ hb200) (by decide))) (fun hb200 => ?_)
            refine Es_iconst (v := 1) (hC _) dX6_few_203 (by decide) ?_
            refine Es_iload (hC _) dX6_few_204 rfl ?_
            refine Es_fS (hC _) ms_X6_193 dX6_few_206 j_maxi rfl rfl (by decide) (Nat.le_of_ble_eq_true rfl) ?_
            rw [show mxI 1 (nI (tfN n (oneN mn l))) = nI (max 1 (tfN n (oneN mn l))) from mxI_N (a := 1) (by decide) (by omega)]
            refine Es_goto (hC _) 214 dX6_few_209 (by decide) ?_
            refine Es_iadd (hC _) dX6_few_214 ?_
            refine Es_istore (lv' := [_, _, _, _, _, _, _, _, _, _, _]) (hC _) dX6_few_215 (by decide) rfl rfl ?_
            refine Es_iinc (lv' := [_, _, _, _, _, _, _, _, _, _, _]) (hC _) dX6_few_217 (by decide) rfl (show _ + Int32.ofInt (1) = _ + (1) from rfl) rfl rfl ?_
            refine Es_goto (hC _) 55 dX6_few_220 (by decide) ?_
            refine Es.kill 6 (lv' := [_, _, _, _, _, _, _, _, _, _, _]) rfl ?_
            refine Es.kill 7 (lv' := [_, _, _, _, _, _, _, _, _, _, _]) rfl ?_
            refine Es.kill 8 (lv' := [_, _, _, _, _, _, _, _, _, _, _]) rfl ?_
            refine Es.kill 9 (lv' := [_, _, _, _, _, _, _, _, _, _, _]) rfl ?_
            refine Es.kill 10 (lv' := [_, _, _, _, _, _, _, _, _, _, _]) rfl ?_
            simp only [nI_1, nI_add]
            refine Es.eqV ?_ (ih (i + 1) L1 (by omega) (by omega) hwr)
            simp only [sdS]
            rw [e]
      · have e := nd_t (L := L) (n := n) (mn := mn) h4 hk hk5 hl hl1 hon (by omega)
        have hte := tEn_le B L t l
        by_cases hz : mn = 0
        · skip
          refine Es_iload (hC _) dX6_few_55 rfl ?_
          first | refine Es_aload_n (hC _) dX6_few_57 rfl ?_ | refine Es_aload_nN (hC _) dX6_few_57 rfl ?_
          refine Sg_X6_8 (hC _) fl_X6_23 dX6_few_58 ?_
          refine Es_iload_n (hC _) dX6_few_61 rfl ?_
          refine Es_ialdN (hC _) dX6_few_62 rfl rfl rfl (by omega) (by decide) ?_
          rw [hp]
          refine Es_icmp_ge (hC _) 223 dX6_few_63 (by decide) (fun hb63 => False.elim (nI_ge (b := p) (a := i) (by omega) (by omega) hb63)) (fun hb63 => ?_)
          refine Es_iload_n (hC _) dX6_few_66 rfl ?_
          refine Es_iload (hC _) dX6_few_67 rfl ?_
          refine Es_fS (hC _) ms_X6_97 dX6_few_69 r_spot rfl rfl (by decide) (Nat.le_of_ble_eq_true rfl) ?_
          refine Es_istore (lv' := [_, _, _, _, _, _, _, _, _, _, _]) (hC _) dX6_few_72 (by decide) rfl rfl ?_
          first | refine Es_aload_n (hC _) dX6_few_74 rfl ?_ | refine Es_aload_nN (hC _) dX6_few_74 rfl ?_
          refine Sg_X6_9 (hC _) fl_X6_26 dX6_few_75 ?_
          refine Es_iload (hC _) dX6_few_78 rfl ?_
          refine Es_ialdN (hC _) dX6_few_80 rfl rfl rfl (by omega) (by decide) ?_
          rw [hr9]
          refine Es_iconst (v := 4) (hC _) dX6_few_81 (by decide) ?_
          refine Es_icmp_ne (hC _) 88 dX6_few_82 (by decide) (fun hb82 => ?_) (fun hb82 => False.elim (h4 hb82))
          first | refine Es_aload_n (hC _) dX6_few_88 rfl ?_ | refine Es_aload_nN (hC _) dX6_few_88 rfl ?_
          refine Sg_X6_1 (hC _) fl_X6_13 dX6_few_89 ?_
          first | refine Es_aload_n (hC _) dX6_few_92 rfl ?_ | refine Es_aload_nN (hC _) dX6_few_92 rfl ?_
          refine Sg_X6_9 (hC _) fl_X6_26 dX6_few_93 ?_
          refine Es_iload (hC _) dX6_few_96 rfl ?_
          refine Es_ialdN (hC _) dX6_few_98 rfl rfl rfl (by omega) (by decide) ?_
          rw [hr9, hk]
          refine Es_ialdN (hC _) dX6_few_99 rfl rfl rfl (by omega) (by decide) ?_
          rw [hLX k hk5, hl]
          refine Es_istore (lv' := [_, _, _, _, _, _, _, _, _, _, _]) (hC _) dX6_few_100 (by decide) rfl rfl ?_
          first | refine Es_aload_n (hC _) dX6_few_102 rfl ?_ | refine Es_aload_nN (hC _) dX6_few_102 rfl ?_
          refine Sg_X6_2 (hC _) fl_X6_16 dX6_few_103 ?_
          refine Es_iload_n (hC _) dX6_few_106 rfl ?_
          refine Es_ialdN (hC _) dX6_few_107 rfl rfl rfl hm4 (by decide) ?_
          rw [hmm]
          refine Es_if_eq (hC _) 116 dX6_few_108 (by decide) (fun hb108 => ?_) (fun hb108 => False.elim (hb108 (by rw [hz]; rfl)))
          refine Es_ldc (hC _) ct_X6_152 dX6_few_116 ?_
          refine Es_goto (hC _) 142 dX6_few_118 (by decide) ?_
          rw [show (1000000 : Int32) = nI (oneN mn l) by rw [oneN_0 (Or.inl hz)]; rfl]
          refine Es_istore (lv' := [_, _, _, _, _, _, _, _, _, _, _]) (hC _) dX6_few_142 (by decide) rfl rfl ?_
          first | refine Es_aload_n (hC _) dX6_few_144 rfl ?_ | refine Es_aload_nN (hC _) dX6_few_144 rfl ?_
          refine Sg_X6_10 (hC _) fl_X6_29 dX6_few_145 ?_
          refine Es_iload (hC _) dX6_few_148 rfl ?_
          refine Es_ialdN (hC _) dX6_few_150 rfl rfl rfl (by omega) (by decide) ?_
          rw [hr10]
          refine Es_if_ge (hC _) 158 dX6_few_151 (by decide) (fun hb151 => ?_) (fun hb151 => False.elim (hb151 (by rw [hon]; exact nI_pos' (by omega))))
          refine Es_iconst (v := 0) (hC _) dX6_few_158 (by decide) ?_
          refine Es_iload_n (hC _) dX6_few_159 rfl ?_
          first | refine Es_aload_n (hC _) dX6_few_160 rfl ?_ | refine Es_aload_nN (hC _) dX6_few_160 rfl ?_
          first | refine Es_aload_n (hC _) dX6_few_161 rfl ?_ | refine Es_aload_nN (hC _) dX6_few_161 rfl ?_
          refine Sg_X6_10 (hC _) fl_X6_29 dX6_few_162 ?_
          refine Es_iload (hC _) dX6_few_165 rfl ?_
          refine Es_ialdN (hC _) dX6_few_167 rfl rfl rfl (by omega) (by decide) ?_
          rw [hr10, hon]
          refine Es_iload (hC _) dX6_few_168 rfl ?_
          refine Es_fV (hC _) mv_X6_161 dX6_few_170 (rT_end (TFa_wrel hwr hF) ht h40 rfl (by omega)) rfl rfl ⟨_, rfl, rfl⟩ rfl rfl (by decide) (Nat.le_of_ble_eq_true rfl) ?_
          rw [tEn_wrel hwr]
          refine Es_isub (hC _) dX6_few_173 ?_
          refine Es_fS (hC _) ms_X6_193 dX6_few_174 j_maxi rfl rfl (by decide) (Nat.le_of_ble_eq_true rfl) ?_
          rw [mx0 hn6 hte]
          refine Es_istore (lv' := [_, _, _, _, _, _, _, _, _, _, _]) (hC _) dX6_few_177 (by decide) rfl rfl ?_
          refine Es_iload (hC _) dX6_few_179 rfl ?_
          refine Es_iload (hC _) dX6_few_181 rfl ?_
          refine Es_iadd (hC _) dX6_few_183 ?_
          refine Es_iconst (v := 1) (hC _) dX6_few_184 (by decide) ?_
          rw [nI_add]
          refine Es_isub (hC _) dX6_few_185 ?_
          rw [show nI ((n - tEn B L t l) + oneN mn l) - 1 = nI ((n - tEn B L t l) + oneN mn l - 1) from pk_sub (b := 1) (by omega)]
          refine Es_iload (hC _) dX6_few_186 rfl ?_
          refine Es_idiv (hC _) dX6_few_188 (nI_ne0 (by omega) (by omega)) ?_
          rw [pk_div (by omega) (by omega) (by omega), tfN_eq ho.1]
          refine Es_istore (lv' := [_, _, _, _, _, _, _, _, _, _, _]) (hC _) dX6_few_189 (by decide) rfl rfl ?_
          refine Es_iload (hC _) dX6_few_191 rfl ?_
          first | refine Es_aload_n (hC _) dX6_few_193 rfl ?_ | refine Es_aload_nN (hC _) dX6_few_193 rfl ?_
          refine Sg_X6_10 (hC _) fl_X6_29 dX6_few_194 ?_
          refine Es_iload (hC _) dX6_few_197 rfl ?_
          refine Es_ialdN (hC _) dX6_few_199 rfl rfl rfl (by omega) (by decide) ?_
          rw [hr10]
          refine Es_if_ge (hC _) 212 dX6_few_200 (by decide) (fun hb200 => ?_) (fun hb200 => False.elim (hb200 (by rw [hon]; exact nI_pos' (by omega))))
          refine Es_iload (hC _) dX6_few_212 rfl ?_
          refine Es_iadd (hC _) dX6_few_214 ?_
          refine Es_istore (lv' := [_, _, _, _, _, _, _, _, _, _, _]) (hC _) dX6_few_215 (by decide) rfl rfl ?_
          refine Es_iinc (lv' := [_, _, _, _, _, _, _, _, _, _, _]) (hC _) dX6_few_217 (by decide) rfl (show _ + Int32.ofInt (1) = _ + (1) from rfl) rfl rfl ?_
          refine Es_goto (hC _) 55 dX6_few_220 (by decide) ?_
          refine Es.kill 6 (lv' := [_, _, _, _, _, _, _, _, _, _, _]) rfl ?_
          refine Es.kill 7 (lv' := [_, _, _, _, _, _, _, _, _, _, _]) rfl ?_
          refine Es.kill 8 (lv' := [_, _, _, _, _, _, _, _, _, _, _]) rfl ?_
          refine Es.kill 9 (lv' := [_, _, _, _, _, _, _, _, _, _, _]) rfl ?_
          refine Es.kill 10 (lv' := [_, _, _, _, _, _, _, _, _, _, _]) rfl ?_
          simp only [nI_1, nI_add]
          refine Es.eqV ?_ (ih (i + 1) (wR L1 (tW L1 t)) (by omega) (by omega) (hwr.w _))
          simp only [sdS]
          rw [e]
        · by_cases hz2 : l = 0
          · skip
            refine Es_iload (hC _) dX6_few_55 rfl ?_
            first | refine Es_aload_n (hC _) dX6_few_57 rfl ?_ | refine Es_aload_nN (hC _) dX6_few_57 rfl ?_
            refine Sg_X6_8 (hC _) fl_X6_23 dX6_few_58 ?_
            refine Es_iload_n (hC _) dX6_few_61 rfl ?_
            refine Es_ialdN (hC _) dX6_few_62 rfl rfl rfl (by omega) (by decide) ?_
            rw [hp]
            refine Es_icmp_ge (hC _) 223 dX6_few_63 (by decide) (fun hb63 => False.elim (nI_ge (b := p) (a := i) (by omega) (by omega) hb63)) (fun hb63 => ?_)
            refine Es_iload_n (hC _) dX6_few_66 rfl ?_
            refine Es_iload (hC _) dX6_few_67 rfl ?_
            refine Es_fS (hC _) ms_X6_97 dX6_few_69 r_spot rfl rfl (by decide) (Nat.le_of_ble_eq_true rfl) ?_
            refine Es_istore (lv' := [_, _, _, _, _, _, _, _, _, _, _]) (hC _) dX6_few_72 (by decide) rfl rfl ?_
            first | refine Es_aload_n (hC _) dX6_few_74 rfl ?_ | refine Es_aload_nN (hC _) dX6_few_74 rfl ?_
            refine Sg_X6_9 (hC _) fl_X6_26 dX6_few_75 ?_
            refine Es_iload (hC _) dX6_few_78 rfl ?_
            refine Es_ialdN (hC _) dX6_few_80 rfl rfl rfl (by omega) (by decide) ?_
            rw [hr9]
            refine Es_iconst (v := 4) (hC _) dX6_few_81 (by decide) ?_
            refine Es_icmp_ne (hC _) 88 dX6_few_82 (by decide) (fun hb82 => ?_) (fun hb82 => False.elim (h4 hb82))
            first | refine Es_aload_n (hC _) dX6_few_88 rfl ?_ | refine Es_aload_nN (hC _) dX6_few_88 rfl ?_
            refine Sg_X6_1 (hC _) fl_X6_13 dX6_few_89 ?_
            first | refine Es_aload_n (hC _) dX6_few_92 rfl ?_ | refine Es_aload_nN (hC _) dX6_few_92 rfl ?_
            refine Sg_X6_9 (hC _) fl_X6_26 dX6_few_93 ?_
            refine Es_iload (hC _) dX6_few_96 rfl ?_
            refine Es_ialdN (hC _) dX6_few_98 rfl rfl rfl (by omega) (by decide) ?_
            rw [hr9, hk]
            refine Es_ialdN (hC _) dX6_few_99 rfl rfl rfl (by omega) (by decide) ?_
            rw [hLX k hk5, hl]
            refine Es_istore (lv' := [_, _, _, _, _, _, _, _, _, _, _]) (hC _) dX6_few_100 (by decide) rfl rfl ?_
            first | refine Es_aload_n (hC _) dX6_few_102 rfl ?_ | refine Es_aload_nN (hC _) dX6_few_102 rfl ?_
            refine Sg_X6_2 (hC _) fl_X6_16 dX6_few_103 ?_
            refine Es_iload_n (hC _) dX6_few_106 rfl ?_
            refine Es_ialdN (hC _) dX6_few_107 rfl rfl rfl hm4 (by decide) ?_
            rw [hmm]
            refine Es_if_eq (hC _) 116 dX6_few_108 (by decide) (fun hb108 => False.elim (nI_ne0 (by omega) (by omega) hb108)) (fun hb108 => ?_)
            refine Es_iload (hC _) dX6_few_111 rfl ?_
            refine Es_if_ne (hC _) 121 dX6_few_113 (by decide) (fun hb113 => False.elim (hb113 (by rw [hz2]; rfl))) (fun hb113 => ?_)
            refine Es_ldc (hC _) ct_X6_152 dX6_few_116 ?_
            refine Es_goto (hC _) 142 dX6_few_118 (by decide) ?_
            rw [show (1000000 : Int32) = nI (oneN mn l) by rw [oneN_0 (Or.inr hz2)]; rfl]
            refine Es_istore (lv' := [_, _, _, _, _, _, _, _, _, _, _]) (hC _) dX6_few_142 (by decide) rfl rfl ?_
            first | refine Es_aload_n (hC _) dX6_few_144 rfl ?_ | refine Es_aload_nN (hC _) dX6_few_144 rfl ?_
            refine Sg_X6_10 (hC _) fl_X6_29 dX6_few_145 ?_
            refine Es_iload (hC _) dX6_few_148 rfl ?_
            refine Es_ialdN (hC _) dX6_few_150 rfl rfl rfl (by omega) (by decide) ?_
            rw [hr10]
            refine Es_if_ge (hC _) 158 dX6_few_151 (by decide) (fun hb151 => ?_) (fun hb151 => False.elim (hb151 (by rw [hon]; exact nI_pos' (by omega))))
            refine Es_iconst (v := 0) (hC _) dX6_few_158 (by decide) ?_
            refine Es_iload_n (hC _) dX6_few_159 rfl ?_
            first | refine Es_aload_n (hC _) dX6_few_160 rfl ?_ | refine Es_aload_nN (hC _) dX6_few_160 rfl ?_
            first | refine Es_aload_n (hC _) dX6_few_161 rfl ?_ | refine Es_aload_nN (hC _) dX6_few_161 rfl ?_
            refine Sg_X6_10 (hC _) fl_X6_29 dX6_few_162 ?_
            refine Es_iload (hC _) dX6_few_165 rfl ?_
            refine Es_ialdN (hC _) dX6_few_167 rfl rfl rfl (by omega) (by decide) ?_
            rw [hr10, hon]
            refine Es_iload (hC _) dX6_few_168 rfl ?_
            refine Es_fV (hC _) mv_X6_161 dX6_few_170 (rT_end (TFa_wrel hwr hF) ht h40 rfl (by omega)) rfl rfl ⟨_, rfl, rfl⟩ rfl rfl (by decide) (Nat.le_of_ble_eq_true rfl) ?_
            rw [tEn_wrel hwr]
            refine Es_isub (hC _) dX6_few_173 ?_
            refine Es_fS (hC _) ms_X6_193 dX6_few_174 j_maxi rfl rfl (by decide) (Nat.le_of_ble_eq_true rfl) ?_
            rw [mx0 hn6 hte]
            refine Es_istore (lv' := [_, _, _, _, _, _, _, _, _, _, _]) (hC _) dX6_few_177 (by decide) rfl rfl ?_
            refine Es_iload (hC _) dX6_few_179 rfl ?_
            refine Es_iload (hC _) dX6_few_181 rfl ?_
            refine Es_iadd (hC _) dX6_few_183 ?_
            refine Es_iconst (v := 1) (hC _) dX6_few_184 (by decide) ?_
            rw [nI_add]
            refine Es_isub (hC _) dX6_few_185 ?_
            rw [show nI ((n - tEn B L t l) + oneN mn l) - 1 = nI ((n - tEn B L t l) + oneN mn l - 1) from pk_sub (b := 1) (by omega)]
            refine Es_iload (hC _) dX6_few_186 rfl ?_
            refine Es_idiv (hC _) dX6_few_188 (nI_ne0 (by omega) (by omega)) ?_
            rw [pk_div (by omega) (by omega) (by omega), tfN_eq ho.1]
            refine Es_istore (lv' := [_, _, _, _, _, _, _, _, _, _, _]) (hC _) dX6_few_189 (by decide) rfl rfl ?_
            refine Es_iload (hC _) dX6_few_191 rfl ?_
            first | refine Es_aload_n (hC _) dX6_few_193 rfl ?_ | refine Es_aload_nN (hC _) dX6_few_193 rfl ?_
            refine Sg_X6_10 (hC _) fl_X6_29 dX6_few_194 ?_
            refine Es_iload (hC _) dX6_few_197 rfl ?_
            refine Es_ialdN (hC _) dX6_few_199 rfl rfl rfl (by omega) (by decide) ?_
            rw [hr10]
            refine Es_if_ge (hC _) 212 dX6_few_200 (by decide) (fun hb200 => ?_) (fun hb200 => False.elim (hb200 (by rw [hon]; exact nI_pos' (by omega))))
            refine Es_iload (hC _) dX6_few_212 rfl ?_
            refine Es_iadd (hC _) dX6_few_214 ?_
            refine Es_istore (lv' := [_, _, _, _, _, _, _, _, _, _, _]) (hC _) dX6_few_215 (by decide) rfl rfl ?_
            refine Es_iinc (lv' := [_, _, _, _, _, _, _, _, _, _, _]) (hC _) dX6_few_217 (by decide) rfl (show _ + Int32.ofInt (1) = _ + (1) from rfl) rfl rfl ?_
            refine Es_goto (hC _) 55 dX6_few_220 (by decide) ?_
            refine Es.kill 6 (lv' := [_, _, _, _, _, _, _, _, _, _, _]) rfl ?_
            refine Es.kill 7 (lv' := [_, _, _, _, _, _, _, _, _, _, _]) rfl ?_
            refine Es.kill 8 (lv' := [_, _, _, _, _, _, _, _, _, _, _]) rfl ?_
            refine Es.kill 9 (lv' := [_, _, _, _, _, _, _, _, _, _, _]) rfl ?_
            refine Es.kill 10 (lv' := [_, _, _, _, _, _, _, _, _, _, _]) rfl ?_
            simp only [nI_1, nI_add]
            refine Es.eqV ?_ (ih (i + 1) (wR L1 (tW L1 t)) (by omega) (by omega) (hwr.w _))
            simp only [sdS]
            rw [e]
          · skip
            refine Es_iload (hC _) dX6_few_55 rfl ?_
            first | refine Es_aload_n (hC _) dX6_few_57 rfl ?_ | refine Es_aload_nN (hC _) dX6_few_57 rfl ?_
            refine Sg_X6_8 (hC _) fl_X6_23 dX6_few_58 ?_
            refine Es_iload_n (hC _) dX6_few_61 rfl ?_
            refine Es_ialdN (hC _) dX6_few_62 rfl rfl rfl (by omega) (by decide) ?_
            rw [hp]
            refine Es_icmp_ge (hC _) 223 dX6_few_63 (by decide) (fun hb63 => False.elim (nI_ge (b := p) (a := i) (by omega) (by omega) hb63)) (fun hb63 => ?_)
            refine Es_iload_n (hC _) dX6_few_66 rfl ?_
            refine Es_iload (hC _) dX6_few_67 rfl ?_
            refine Es_fS (hC _) ms_X6_97 dX6_few_69 r_spot rfl rfl (by decide) (Nat.le_of_ble_eq_true rfl) ?_
            refine Es_istore (lv' := [_, _, _, _, _, _, _, _, _, _, _]) (hC _) dX6_few_72 (by decide) rfl rfl ?_
            first | refine Es_aload_n (hC _) dX6_few_74 rfl ?_ | refine Es_aload_nN (hC _) dX6_few_74 rfl ?_
            refine Sg_X6_9 (hC _) fl_X6_26 dX6_few_75 ?_
            refine Es_iload (hC _) dX6_few_78 rfl ?_
            refine Es_ialdN (hC _) dX6_few_80 rfl rfl rfl (by omega) (by decide) ?_
            rw [hr9]
            refine Es_iconst (v := 4) (hC _) dX6_few_81 (by decide) ?_
            refine Es_icmp_ne (hC _) 88 dX6_few_82 (by decide) (fun hb82 => ?_) (fun hb82 => False.elim (h4 hb82))
            first | refine Es_aload_n (hC _) dX6_few_88 rfl ?_ | refine Es_aload_nN (hC _) dX6_few_88 rfl ?_
            refine Sg_X6_1 (hC _) fl_X6_13 dX6_few_89 ?_
            first | refine Es_aload_n (hC _) dX6_few_92 rfl ?_ | refine Es_aload_nN (hC _) dX6_few_92 rfl ?_
            refine Sg_X6_9 (hC _) fl_X6_26 dX6_few_93 ?_
            refine Es_iload (hC _) dX6_few_96 rfl ?_
            refine Es_ialdN (hC _) dX6_few_98 rfl rfl rfl (by omega) (by decide) ?_
            rw [hr9, hk]
            refine Es_ialdN (hC _) dX6_few_99 rfl rfl rfl (by omega) (by decide) ?_
            rw [hLX k hk5, hl]
            refine Es_istore (lv' := [_, _, _, _, _, _, _, _, _, _, _]) (hC _) dX6_few_100 (by decide) rfl rfl ?_
            first | refine Es_aload_n (hC _) dX6_few_102 rfl ?_ | refine Es_aload_nN (hC _) dX6_few_102 rfl ?_
            refine Sg_X6_2 (hC _) fl_X6_16 dX6_few_103 ?_
            refine Es_iload_n (hC _) dX6_few_106 rfl ?_
            refine Es_ialdN (hC _) dX6_few_107 rfl rfl rfl hm4 (by decide) ?_
            rw [hmm]
            refine Es_if_eq (hC _) 116 dX6_few_108 (by decide) (fun hb108 => False.elim (nI_ne0 (by omega) (by omega) hb108)) (fun hb108 => ?_)
            refine Es_iload (hC _) dX6_few_111 rfl ?_
            refine Es_if_ne (hC _) 121 dX6_few_113 (by decide) (fun hb113 => ?_) (fun hb113 => False.elim (nI_ne0 (by omega) (by omega) hb113))
            refine Es_ldc (hC _) ct_X6_152 dX6_few_121 ?_
            refine Es_sipush (v := 180) (hC _) dX6_few_123 (by decide) ?_
            refine Es_iload (hC _) dX6_few_126 rfl ?_
            refine Es_isub (hC _) dX6_few_128 ?_
            refine Es_ldc (hC _) ct_X6_192 dX6_few_129 ?_
            rw [show (180 : Int32) - nI l = nI (180 - l) from pk_sub (a := 180) (by omega)]
            refine Es_imul (hC _) dX6_few_131 ?_
            rw [show nI (180 - l) * 100000 = nI ((180 - l) * 100000) from pk_mul _ 100000]
            first | refine Es_aload_n (hC _) dX6_few_132 rfl ?_ | refine Es_aload_nN (hC _) dX6_few_132 rfl ?_
            refine Sg_X6_2 (hC _) fl_X6_16 dX6_few_133 ?_
            refine Es_iload_n (hC _) dX6_few_136 rfl ?_
            refine Es_ialdN (hC _) dX6_few_137 rfl rfl rfl hm4 (by decide) ?_
            rw [hmm]
            refine Es_idiv (hC _) dX6_few_138 (nI_ne0 (by omega) (by omega)) ?_
            rw [pk_div (by omega) (by omega) (by omega)]
            refine Es_fS (hC _) ms_X6_164 dX6_few_139 j_mini rfl rfl (by decide) (Nat.le_of_ble_eq_true rfl) ?_
            rw [show mnI 1000000 (nI ((180 - l) * 100000 / mn)) = nI (oneN mn l) by rw [oneN_1 hz hz2]; exact mnI_N (a := 1000000) (by decide) (by have := Nat.div_le_self ((180 - l) * 100000) mn; omega)]
            refine Es_istore (lv' := [_, _, _, _, _, _, _, _, _, _, _]) (hC _) dX6_few_142 (by decide) rfl rfl ?_
            first | refine Es_aload_n (hC _) dX6_few_144 rfl ?_ | refine Es_aload_nN (hC _) dX6_few_144 rfl ?_
            refine Sg_X6_10 (hC _) fl_X6_29 dX6_few_145 ?_
            refine Es_iload (hC _) dX6_few_148 rfl ?_
            refine Es_ialdN (hC _) dX6_few_150 rfl rfl rfl (by omega) (by decide) ?_
            rw [hr10]
            refine Es_if_ge (hC _) 158 dX6_few_151 (by decide) (fun hb151 => ?_) (fun hb151 => False.elim (hb151 (by rw [hon]; exact nI_pos' (by omega))))
            refine Es_iconst (v := 0) (hC _) dX6_few_158 (by decide) ?_
            refine Es_iload_n (hC _) dX6_few_159 rfl ?_
            first | refine Es_aload_n (hC _) dX6_few_160 rfl ?_ | refine Es_aload_nN (hC _) dX6_few_160 rfl ?_
            first | refine Es_aload_n (hC _) dX6_few_161 rfl ?_ | refine Es_aload_nN (hC _) dX6_few_161 rfl ?_
            refine Sg_X6_10 (hC _) fl_X6_29 dX6_few_162 ?_
            refine Es_iload (hC _) dX6_few_165 rfl ?_
            refine Es_ialdN (hC _) dX6_few_167 rfl rfl rfl (by omega) (by decide) ?_
            rw [hr10, hon]
            refine Es_iload (hC _) dX6_few_168 rfl ?_
            refine Es_fV (hC _) mv_X6_161 dX6_few_170 (rT_end (TFa_wrel hwr hF) ht h40 rfl (by omega)) rfl rfl ⟨_, rfl, rfl⟩ rfl rfl (by decide) (Nat.le_of_ble_eq_true rfl) ?_
            rw [tEn_wrel hwr]
            refine Es_isub (hC _) dX6_few_173 ?_
            refine Es_fS (hC _) ms_X6_193 dX6_few_174 j_maxi rfl rfl (by decide) (Nat.le_of_ble_eq_true rfl) ?_
            rw [mx0 hn6 hte]
            refine Es_istore (lv' := [_, _, _, _, _, _, _, _, _, _, _]) (hC _) dX6_few_177 (by decide) rfl rfl ?_
            refine Es_iload (hC _) dX6_few_179 rfl ?_
            refine Es_iload (hC _) dX6_few_181 rfl ?_
            refine Es_iadd (hC _) dX6_few_183 ?_
            refine Es_iconst (v := 1) (hC _) dX6_few_184 (by decide) ?_
            rw [nI_add]
            refine Es_isub (hC _) dX6_few_185 ?_
            rw [show nI ((n - tEn B L t l) + oneN mn l) - 1 = nI ((n - tEn B L t l) + oneN mn l - 1) from pk_sub (b := 1) (by omega)]
            refine Es_iload (hC _) dX6_few_186 rfl ?_
            refine Es_idiv (hC _) dX6_few_188 (nI_ne0 (by omega) (by omega)) ?_
            rw [pk_div (by omega) (by omega) (by omega), tfN_eq ho.1]
            refine Es_istore (lv' := [_, _, _, _, _, _, _, _, _, _, _]) (hC _) dX6_few_189 (by decide) rfl rfl ?_
            refine Es_iload (hC _) dX6_few_191 rfl ?_
            first | refine Es_aload_n (hC _) dX6_few_193 rfl ?_ | refine Es_aload_nN (hC _) dX6_few_193 rfl ?_
            refine Sg_X6_10 (hC _) fl_X6_29 dX6_few_194 ?_
            refine Es_iload (hC _) dX6_few_197 rfl ?_
            refine Es_ialdN (hC _) dX6_few_199 rfl rfl rfl (by omega) (by decide) ?_
            rw [hr10]
            refine Es_if_ge (hC _) 212 dX6_few_200 (by decide) (fun hb200 => ?_) (fun hb200 => False.elim (hb200 (by rw [hon]; exact nI_pos' (by omega))))
            refine Es_iload (hC _) dX6_few_212 rfl ?_
            refine Es_iadd (hC _) dX6_few_214 ?_
            refine Es_istore (lv' := [_, _, _, _, _, _, _, _, _, _, _]) (hC _) dX6_few_215 (by decide) rfl rfl ?_
            refine Es_iinc (lv' := [_, _, _, _, _, _, _, _, _, _, _]) (hC _) dX6_few_217 (by decide) rfl (show _ + Int32.ofInt (1) = _ + (1) from rfl) rfl rfl ?_
            refine Es_goto (hC _) 55 dX6_few_220 (by decide) ?_
            refine Es.kill 6 (lv' := [_, _, _, _, _, _, _, _, _, _, _]) rfl ?_
            refine Es.kill 7 (lv' := [_, _, _, _, _, _, _, _, _, _, _]) rfl ?_
            refine Es.kill 8 (lv' := [_, _, _, _, _, _, _, _, _, _, _]) rfl ?_
            refine Es.kill 9 (lv' := [_, _, _, _, _, _, _, _, _, _, _]) rfl ?_
            refine Es.kill 10 (lv' := [_, _, _, _, _, _, _, _, _, _, _]) rfl ?_
            simp only [nI_1, nI_add]
            refine Es.eqV ?_ (ih (i + 1) (wR L1 (tW L1 t)) (by omega) (by omega) (hwr.w _))
            simp only [sdS]
            rw [e]
set_option maxRecDepth 100000 in
set_option maxHeartbeats 4000000 in
theorem r_few_ok {ad : sA} {nw nt : Nat} {B : sB} {L : sL} (hnw : B 25 0 4 = nI nw) (h5 : nw ≤ 5) {w : Nat} (hw : w < nw) {m : Nat} (hm4 : m < 4) {p n mn : Nat} (h40 : nt ≤ 40) (hX : PX nt B w p) (hn6 : n ≤ 1000000) (hmn : mn ≤ 1000) (hmm : B 32 0 m = nI mn) (hLX : PLX B) (hF : TFa nt B L) : Cs yX6_few cX6_few 11 (some FieldType.int) 5 [.ref (ad 25 0), .int (nI w), .int (nI m), .int (nI n)] ad nw nt (B) (L) (fun v B1 L2 => v = some (.int (nI (sdS B L w n mn p))) ∧ B1 = B ∧ wrel L L2) := by
  have hC : ∀ Q, je_Ok (sCm yX6_few cX6_few 11 (some FieldType.int) 5 ad nw nt Q) RX6 cX6_few 11 5 := fun _ => je_Cm_ok
  refine Cs_of [some (.ref (ad 25 0)), some (.int (nI w)), some (.int (nI m)), some (.int (nI n)), none, none, none, none, none, none, none] (by decide) rfl (Nat.le_of_ble_eq_true rfl) ?_
  refine Es_iload_n (hC _) dX6_few_0 rfl ?_
  first | refine Es_aload_n (hC _) dX6_few_1 rfl ?_ | refine Es_aload_nN (hC _) dX6_few_1 rfl ?_
  refine Sg_X6_4 (hC _) fl_X6_86 dX6_few_2 ?_
  rw [hnw]
  refine Es_fS (hC _) ms_X6_89 dX6_few_5 (r_isIn_in hw (by omega)) rfl rfl (by decide) (Nat.le_of_ble_eq_true rfl) ?_
  refine Es_if_eq (hC _) 19 dX6_few_8 (by decide) (fun hb8 => False.elim ((by first | exact absurd hb8 (by decide) | exact absurd hb8 (by assumption) | exact hb8 (by assumption) | exact hb8 rfl | (simp_all [bI]; done)))) (fun hb8 => ?_)
  refine Es_iload_n (hC _) dX6_few_11 rfl ?_
  refine Es_iconst (v := 4) (hC _) dX6_few_12 (by decide) ?_
  refine Es_fS (hC _) ms_X6_89 dX6_few_13 (r_isIn_in (n := 4) hm4 (by decide)) rfl rfl (by decide) (Nat.le_of_ble_eq_true rfl) ?_
  refine Es_if_ne (hC _) 25 dX6_few_16 (by decide) (fun hb16 => ?_) (fun hb16 => False.elim ((by first | exact absurd hb16 (by decide) | exact absurd hb16 (by assumption) | exact hb16 (by assumption) | exact hb16 rfl | (simp_all [bI]; done))))
  refine Es_iload_n (hC _) dX6_few_25 rfl ?_
  refine Es_if_ge (hC _) 36 dX6_few_26 (by decide) (fun hb26 => ?_) (fun hb26 => False.elim (hb26 (nI_pos' (by omega))))
  refine Es_iload_n (hC _) dX6_few_36 rfl ?_
  refine Es_ldc (hC _) ct_X6_152 dX6_few_37 ?_
  refine Es_icmp_le (hC _) 49 dX6_few_39 (by decide) (fun hb39 => ?_) (fun hb39 => False.elim (hb39 (nI_le (a := n) (b := 1000000) hn6 (by decide))))
  refine Es_iconst (v := 0) (hC _) dX6_few_49 (by decide) ?_
  refine Es_istore (lv' := [_, _, _, _, _, _, _, _, _, _, _]) (hC _) dX6_few_50 (by decide) rfl rfl ?_
  refine Es_iconst (v := 0) (hC _) dX6_few_52 (by decide) ?_
  refine Es_istore (lv' := [_, _, _, _, _, _, _, _, _, _, _]) (hC _) dX6_few_53 (by decide) rfl rfl ?_
  exact l_rfew h40 (by omega) hX hn6 hmn hm4 hmm hLX hF p 0 L (by omega) (by omega) wrel.rf

theorem Rel_L {nw nt : Nat} {B : sB} {L L' : sL} (h : L' 24 = L 24) (hR : Rel nw nt B L) : Rel nw nt B L' := by
  unfold Rel at hR ⊢
  rw [h]
  exact hR
theorem enN_one {mn g l : Nat} (hm : 0 < mn) (hg : 0 < g) (h1 : g ∣ mn) (h2 : g ∣ 100000) (hl : l ≤ 100) : enN 180 (100000 / g) (mn / g) 0 l = oneN mn l := by
  unfold enN oneN
  by_cases h0 : l = 0
  · rw [if_pos h0, if_pos (Or.inr h0)]
  · obtain ⟨a, rfl⟩ := h1
    obtain ⟨b, hb⟩ := h2
    have ha : 0 < a := Nat.pos_of_mul_pos_left hm
    have e1 : g * a / g = a := Nat.mul_div_cancel_left a hg
    have e2 : 100000 / g = b := by rw [hb]; exact Nat.mul_div_cancel_left b hg
    rw [if_neg h0, if_neg (by omega), e1, e2, if_neg (by omega), if_neg (by omega), Nat.sub_zero]
    congr 1
    rw [hb, show (180 - l) * (g * b) = g * ((180 - l) * b) by rw [Nat.mul_left_comm], Nat.mul_div_mul_left _ _ hg]
theorem s_few {ad : sA} {nw nt : Nat} {B : sB} {L : sL} (hR : Rel nw nt B L) (y x z : Int32) : StG yX5_few cX5_few 8 5 yX6_few cX6_few 11 5 (some .int) [.int y, .int x, .int z] ad nw nt B L := by
  obtain ⟨s1, s2, s3, s4, s5, s6, s7, s8, s9, s10⟩ := hR.1
  rcases in_out y (n := nw) (by omega) with ⟨w, hw, rfl⟩ | how
  · rcases in_out x (n := 4) (by omega) with ⟨m, hm4, rfl⟩ | hox
    · by_cases hl : z < 0
      · exact Stq.gen ⟨_, _, _, _, _, c_few_lo s2 s3 hw hm4 hl, r_few_lo (by exact s1) s3 hw hm4 hl, Rel_refuse hR⟩
      · by_cases hh : 1000000 < z
        · exact Stq.gen ⟨_, _, _, _, _, c_few_hi s2 s3 hw hm4 hl hh, r_few_hi (by exact s1) s3 hw hm4 hl hh, Rel_refuse hR⟩
        · obtain ⟨n, hn6, rfl⟩ : ∃ n, n ≤ 1000000 ∧ z = nI n := nI_of2 (M := 1000000) rfl hl (Int32.not_lt.mp hh)
          obtain ⟨p, hX⟩ := px_of hR hw
          have hLX := plx_of hR
          have hF := tfa_of hR
          obtain ⟨e4, mn, hmn, hmm⟩ := hR.2.1.2.1 m hm4
          have key : ∃ (L' : sL) (u v : Nat), L' 24 = L 24 ∧ u ≤ 1000 ∧ 1 ≤ v ∧ v ≤ 100000 ∧ L' 17 0 0 = lN u ∧ L' 17 0 1 = lN v ∧ (∀ l, l ≤ 100 → enN 180 v u 0 l = oneN mn l) ∧ Cf yX4_become cX4_become 7 none 1 [.ref (ad 17 0), .long (B 4 0 m).toInt64, .long 100000] ad nw nt B L none B L' := by
            have e1 : (B 4 0 m).toInt64 = lN mn := by rw [e4, hmm]; exact nI_l (by omega)
            rw [e1]
            by_cases h0 : mn = 0
            · refine ⟨_, 0, 1, ?_, by decide, by decide, by decide, ?_, ?_, fun l hl => ?_, c_become_0n (by rw [h0]; decide)⟩
              · rw [uL_k (by decide), uL_k (by decide)]
              · rw [uL_n (by decide), uL_s]
                rfl
              · rw [uL_s]
                rfl
              · rw [oneN_0 (Or.inl h0)]
                unfold enN
                split
                · rfl
                · rw [if_neg (by omega), if_pos rfl]
            · have hnle : ¬ lN mn ≤ 0 := fun q => by
                have := (pk_lLE (a := mn) (b := 0) (by omega) (by decide)).mp q
                omega
              have hgc : gcS 100 (lN mn) 100000 = lN (Nat.gcd mn 100000) := by
                rw [show (100000 : Int64) = lN 100000 from rfl, gcS_N 100 mn 100000 (by omega) (by omega), gN_gcd 100 mn 100000 (gE_100 (by decide))]
              have hg0 : 0 < Nat.gcd mn 100000 := Nat.gcd_pos_of_pos_right mn (by decide)
              have hgm : Nat.gcd mn 100000 ≤ 100000 := Nat.gcd_le_right mn (by decide)
              refine ⟨_, mn / Nat.gcd mn 100000, 100000 / Nat.gcd mn 100000, ?_, ?_, ?_, ?_, ?_, ?_, fun l hl => enN_one (by omega) hg0 (Nat.gcd_dvd_left _ _) (Nat.gcd_dvd_right _ _) hl, c_become_1n hnle (by decide) (by rw [hgc]; exact (pk_lLT (a := 0) (by decide) (by omega)).mpr hg0)⟩
              · rw [uL_k (by decide), uL_k (by decide)]
              · exact Nat.le_trans (Nat.div_le_self _ _) hmn
              · exact (Nat.le_div_iff_mul_le hg0).mpr (by omega)
              · exact Nat.div_le_self _ _
              · rw [uL_n (by decide), uL_s, hgc, pk_lDiv (by omega) hg0 (by omega)]
              · rw [uL_s, hgc, show (100000 : Int64) = lN 100000 from rfl, pk_lDiv (by omega) hg0 (by omega)]
          obtain ⟨L', u, v, k1, k2, k3, k4, k5, k6, k7, k8⟩ := key
          have hR' := Rel_L k1 hR
          refine StG_of (c_few_ok s2 s3 hw hm4 s6 hX.1 hn6 hmn hLX.1 (tfa_of hR').c k2 k3 k4 k5 k6 k7 k8) (r_few_ok s1 s3 hw hm4 s6 hX hn6 hmn hmm hLX (tfa_of hR')) (fun v'' B2 L2 q => ?_)
          obtain ⟨rfl, rfl, q⟩ := q
          exact ⟨rfl, Rel_wrel q hR'⟩
    · exact Stq.gen ⟨_, _, _, _, _, c_few_1b s2 s3 hw hox, r_few_1b (by exact s1) s3 hw hox, Rel_refuse hR⟩
  · exact Stq.gen ⟨_, _, _, _, _, c_few_1a s2 s3 how, r_few_1a (by exact s1) s3 how, Rel_refuse hR⟩
