/-! ===== read ===== -/
/-- two rows, shifted down by one from a to b -/
def sh2 (B : sB) (k1 k2 j a b : Nat) : sB := fun k' j' x => if (k' = k1 ∨ k' = k2) ∧ j' = j ∧ a ≤ x ∧ x < b then B k' j' (x + 1) else B k' j' x
theorem sh2_0 (B : sB) (k1 k2 j a : Nat) : sh2 B k1 k2 j a a = B := by
  funext k' j' x
  unfold sh2
  rw [if_neg (fun z => by omega)]
theorem sh2_r {B : sB} {k1 k2 j a b k' j' x : Nat} (h : b ≤ x) : sh2 B k1 k2 j a b k' j' x = B k' j' x := by
  unfold sh2
  rw [if_neg (fun z => by omega)]
theorem sh2_l {B : sB} {k1 k2 j a b k' j' x : Nat} (h : x < a) : sh2 B k1 k2 j a b k' j' x = B k' j' x := by
  unfold sh2
  rw [if_neg (fun z => by omega)]
theorem sh2_j {B : sB} {k1 k2 j a b k' j' : Nat} (h : j' ≠ j) : sh2 B k1 k2 j a b k' j' = B k' j' := by
  funext x
  unfold sh2
  rw [if_neg (fun z => h z.2.1)]
theorem sh2_k {B : sB} {k1 k2 j a b k' : Nat} (h : k' ≠ k1) (h2 : k' ≠ k2) : sh2 B k1 k2 j a b k' = B k' := by
  funext j' x
  unfold sh2
  rw [if_neg (fun z => z.1.elim h h2)]
theorem sh2_m1 {B : sB} {k1 k2 j a b x : Nat} (h : a ≤ x) (h2 : x < b) : sh2 B k1 k2 j a b k1 j x = B k1 j (x + 1) := by
  unfold sh2
  rw [if_pos ⟨Or.inl rfl, rfl, h, h2⟩]
theorem sh2_m2 {B : sB} {k1 k2 j a b x : Nat} (h : a ≤ x) (h2 : x < b) : sh2 B k1 k2 j a b k2 j x = B k2 j (x + 1) := by
  unfold sh2
  rw [if_pos ⟨Or.inr rfl, rfl, h, h2⟩]
theorem sh2_s {B : sB} {k1 k2 j a b : Nat} (hk : k1 ≠ k2) (h : a ≤ b) : uB (uB (sh2 B k1 k2 j a b) k1 j b (B k1 j (b + 1))) k2 j b (B k2 j (b + 1)) = sh2 B k1 k2 j a (b + 1) := by
  funext k' j' x
  by_cases hj : j' = j
  · by_cases hx : x = b
    · subst hj hx
      by_cases h1 : k' = k1
      · subst h1
        rw [uB_n (by omega), uB_s, sh2_m1 h (by omega)]
      · by_cases h2 : k' = k2
        · subst h2
          rw [uB_s, sh2_m2 h (by omega)]
        · rw [uB_n (by omega), uB_n (by omega), sh2_k h1 h2, sh2_k h1 h2]
    · rw [uB_n (by omega), uB_n (by omega)]
      unfold sh2
      by_cases hc : (k' = k1 ∨ k' = k2) ∧ j' = j ∧ a ≤ x ∧ x < b
      · rw [if_pos hc, if_pos ⟨hc.1, hc.2.1, hc.2.2.1, by omega⟩]
      · rw [if_neg hc, if_neg (fun z => hc ⟨z.1, z.2.1, z.2.2.1, by omega⟩)]
  · rw [uB_n (by omega), uB_n (by omega), sh2_j hj, sh2_j hj]
set_option maxRecDepth 100000 in
set_option maxHeartbeats 4000000 in
theorem l_drop {ad : sA} {nw nt : Nat} {B : sB} {L : sL} {bc bs : Nat} {t : Nat} (ht : t < nt) : ∀ (n b : Nat), 1 ≤ b → b + n = 11 → Es (sCm yX2_dropSecondReading cX2_dropSecondReading 2 none 1 ad nw nt (fun v B1 L1 => v = none ∧ B1 = uB (sh2 B 22 23 t 1 11) 21 t 6 (nI 11) ∧ L1 = L)) 2 2 [some (.ref (ad 21 t)), some (.int (nI (b + 1)))] [] ad nw nt (sh2 B 22 23 t 1 b) L bc bs := by
  have hC : ∀ Q, je_Ok (sCm yX2_dropSecondReading cX2_dropSecondReading 2 none 1 ad nw nt Q) RX2 cX2_dropSecondReading 2 1 := fun _ => je_Cm_ok
  intro n
  induction n with
  | zero =>
    intro b hb hn
    have hb2 : b = 11 := by omega
    subst hb2
    refine Es_iload_n (hC _) dX2_dropSecondReading_2 rfl ?_
    refine Es_bipush (v := 12) (hC _) dX2_dropSecondReading_3 (by decide) ?_
    refine Es_icmp_ge (hC _) 50 dX2_dropSecondReading_5 (by decide) (fun hb5 => ?_) (fun hb5 => False.elim (hb5 (by decide)))
    first | refine Es_aload_n (hC _) dX2_dropSecondReading_50 rfl ?_ | refine Es_aload_nN (hC _) dX2_dropSecondReading_50 rfl ?_
    refine Es_bipush (v := 11) (hC _) dX2_dropSecondReading_51 (by decide) ?_
    refine Sp_X2_6 (hC _) fl_X2_44 dX2_dropSecondReading_53 ht ?_
    exact Es_vret dX2_dropSecondReading_56 ⟨rfl, rfl, rfl⟩
  | succ n ih =>
    intro b hb hn
    refine Es_iload_n (hC _) dX2_dropSecondReading_2 rfl ?_
    refine Es_bipush (v := 12) (hC _) dX2_dropSecondReading_3 (by decide) ?_
    refine Es_icmp_ge (hC _) 50 dX2_dropSecondReading_5 (by decide) (fun hb5 => False.elim (nI_ge (b := 12) (a := b + 1) (by omega) (by decide) hb5)) (fun hb5 => ?_)
    first | refine Es_aload_n (hC _) dX2_dropSecondReading_8 rfl ?_ | refine Es_aload_nN (hC _) dX2_dropSecondReading_8 rfl ?_
    refine Sg_X2_3 (hC _) fl_X2_9 dX2_dropSecondReading_9 ht ?_
    refine Es_iload_n (hC _) dX2_dropSecondReading_12 rfl ?_
    refine Es_iconst (v := 1) (hC _) dX2_dropSecondReading_13 (by decide) ?_
    refine Es_isub (hC _) dX2_dropSecondReading_14 ?_
    first | refine Es_aload_n (hC _) dX2_dropSecondReading_15 rfl ?_ | refine Es_aload_nN (hC _) dX2_dropSecondReading_15 rfl ?_
    refine Sg_X2_3 (hC _) fl_X2_9 dX2_dropSecondReading_16 ht ?_
    refine Es_iload_n (hC _) dX2_dropSecondReading_19 rfl ?_
    refine Es_fSN (hC _) ms_X2_61 dX2_dropSecondReading_20 (c_at (kd := 22) (n := 12) (ok22 ht) rfl rfl (by omega) (by decide)) rfl rfl (by decide) (Nat.le_of_ble_eq_true rfl) ?_
    rw [sh2_r (by omega)]
    refine Es_fSN (hC _) ms_X2_57 dX2_dropSecondReading_23 (c_write (kd := 22) (n := 12) (ok22 ht) (fun _ => rfl) (nI_pred _) (by omega) (by decide)) rfl rfl (by decide) (Nat.le_of_ble_eq_true rfl) ?_
    first | refine Es_aload_n (hC _) dX2_dropSecondReading_26 rfl ?_ | refine Es_aload_nN (hC _) dX2_dropSecondReading_26 rfl ?_
    refine Sg_X2_4 (hC _) fl_X2_15 dX2_dropSecondReading_27 ht ?_
    refine Es_iload_n (hC _) dX2_dropSecondReading_30 rfl ?_
    refine Es_iconst (v := 1) (hC _) dX2_dropSecondReading_31 (by decide) ?_
    refine Es_isub (hC _) dX2_dropSecondReading_32 ?_
    first | refine Es_aload_n (hC _) dX2_dropSecondReading_33 rfl ?_ | refine Es_aload_nN (hC _) dX2_dropSecondReading_33 rfl ?_
    refine Sg_X2_4 (hC _) fl_X2_15 dX2_dropSecondReading_34 ht ?_
    refine Es_iload_n (hC _) dX2_dropSecondReading_37 rfl ?_
    refine Es_fSN (hC _) ms_X2_61 dX2_dropSecondReading_38 (c_at (kd := 23) (n := 12) (ok23 ht) rfl rfl (by omega) (by decide)) rfl rfl (by decide) (Nat.le_of_ble_eq_true rfl) ?_
    rw [uB_n (by omega), sh2_r (by omega)]
    refine Es_fSN (hC _) ms_X2_57 dX2_dropSecondReading_41 (c_write (kd := 23) (n := 12) (ok23 ht) (fun _ => rfl) (nI_pred _) (by omega) (by decide)) rfl rfl (by decide) (Nat.le_of_ble_eq_true rfl) ?_
    refine Es_iinc (lv' := [_, _]) (hC _) dX2_dropSecondReading_44 (by decide) rfl (show _ + Int32.ofInt (1) = _ + (1) from rfl) rfl rfl ?_
    refine Es_goto (hC _) 2 dX2_dropSecondReading_47 (by decide) ?_
    rw [nI_1, sh2_s (by decide) hb]
    exact ih (b + 1) (by omega) (by omega)
set_option maxRecDepth 100000 in
set_option maxHeartbeats 4000000 in
theorem c_drop {ad : sA} {nw nt : Nat} {B : sB} {L : sL} {t : Nat} (ht : t < nt) : Cf yX2_dropSecondReading cX2_dropSecondReading 2 none 1 [.ref (ad 21 t)] ad nw nt B L (none) (uB (sh2 B 22 23 t 1 11) 21 t 6 (nI 11)) (L) := by
  have hC : ∀ Q, je_Ok (sCm yX2_dropSecondReading cX2_dropSecondReading 2 none 1 ad nw nt Q) RX2 cX2_dropSecondReading 2 1 := fun _ => je_Cm_ok
  refine Cs_of [some (.ref (ad 21 t)), none] (by decide) rfl (Nat.le_of_ble_eq_true rfl) ?_
  refine Es_iconst (v := 2) (hC _) dX2_dropSecondReading_0 (by decide) ?_
  refine Es_istore_n (lv' := [_, _]) (hC _) dX2_dropSecondReading_1 (by decide) rfl rfl ?_
  have hh := l_drop (ad := ad) (nw := nw) (B := B) (L := L) (bc := 0) (bs := 0) ht 10 1 (by decide) rfl
  rw [sh2_0] at hh
  exact hh

def cAdd (B : sB) (t r : Nat) (x : Int32) : sB := uB (uB (uB B 22 t r (B 21 t 9)) 23 t r x) 21 t 6 (nI (r + 1))
def cDr (B : sB) (t : Nat) : sB := uB (sh2 B 22 23 t 1 11) 21 t 6 (nI 11)
set_option maxRecDepth 100000 in
set_option maxHeartbeats 4000000 in
theorem c_addReading_n {ad : sA} {nw nt : Nat} {B : sB} {L : sL} {t r : Nat} {x : Int32} (ht : t < nt) (hr : B 21 t 6 = nI r) (h12 : r < 12) : Cf yX2_addReading cX2_addReading 2 none 2 [.ref (ad 21 t), .int x] ad nw nt B L (none) (cAdd B t r x) (L) := by
  have hC : ∀ Q, je_Ok (sCm yX2_addReading cX2_addReading 2 none 2 ad nw nt Q) RX2 cX2_addReading 2 2 := fun _ => je_Cm_ok
  refine Cs_of [some (.ref (ad 21 t)), some (.int x)] (by decide) rfl (Nat.le_of_ble_eq_true rfl) ?_
  first | refine Es_aload_n (hC _) dX2_addReading_0 rfl ?_ | refine Es_aload_nN (hC _) dX2_addReading_0 rfl ?_
  refine Sg_X2_6 (hC _) fl_X2_44 dX2_addReading_1 ht ?_
  rw [hr]
  refine Es_bipush (v := 12) (hC _) dX2_addReading_4 (by decide) ?_
  refine Es_icmp_lt (hC _) 13 dX2_addReading_6 (by decide) (fun hb6 => ?_) (fun hb6 => False.elim (hb6 (nI_lt (b := 12) (a := r) h12 (by decide))))
  first | refine Es_aload_n (hC _) dX2_addReading_13 rfl ?_ | refine Es_aload_nN (hC _) dX2_addReading_13 rfl ?_
  refine Sg_X2_3 (hC _) fl_X2_9 dX2_addReading_14 ht ?_
  first | refine Es_aload_n (hC _) dX2_addReading_17 rfl ?_ | refine Es_aload_nN (hC _) dX2_addReading_17 rfl ?_
  refine Sg_X2_6 (hC _) fl_X2_44 dX2_addReading_18 ht ?_
  rw [hr]
  first | refine Es_aload_n (hC _) dX2_addReading_21 rfl ?_ | refine Es_aload_nN (hC _) dX2_addReading_21 rfl ?_
  refine Sg_X2_9 (hC _) fl_X2_41 dX2_addReading_22 ht ?_
  refine Es_fSN (hC _) ms_X2_57 dX2_addReading_25 (c_write (kd := 22) (n := 12) (ok22 ht) (fun _ => rfl) rfl (by omega) (by decide)) rfl rfl (by decide) (Nat.le_of_ble_eq_true rfl) ?_
  first | refine Es_aload_n (hC _) dX2_addReading_28 rfl ?_ | refine Es_aload_nN (hC _) dX2_addReading_28 rfl ?_
  refine Sg_X2_4 (hC _) fl_X2_15 dX2_addReading_29 ht ?_
  first | refine Es_aload_n (hC _) dX2_addReading_32 rfl ?_ | refine Es_aload_nN (hC _) dX2_addReading_32 rfl ?_
  refine Sg_X2_6 (hC _) fl_X2_44 dX2_addReading_33 ht ?_
  rw [uB_n (by omega), hr]
  refine Es_iload_n (hC _) dX2_addReading_36 rfl ?_
  refine Es_fSN (hC _) ms_X2_57 dX2_addReading_37 (c_write (kd := 23) (n := 12) (ok23 ht) (fun _ => rfl) rfl (by omega) (by decide)) rfl rfl (by decide) (Nat.le_of_ble_eq_true rfl) ?_
  first | refine Es_aload_n (hC _) dX2_addReading_40 rfl ?_ | refine Es_aload_nN (hC _) dX2_addReading_40 rfl ?_
  refine Es_dup (hC _) dX2_addReading_41 rfl ?_
  refine Sg_X2_6 (hC _) fl_X2_44 dX2_addReading_42 ht ?_
  rw [uB_n (by omega), uB_n (by omega), hr]
  refine Es_iconst (v := 1) (hC _) dX2_addReading_45 (by decide) ?_
  refine Es_iadd (hC _) dX2_addReading_46 ?_
  rw [nI_1]
  refine Sp_X2_6 (hC _) fl_X2_44 dX2_addReading_47 ht ?_
  exact Es_vret dX2_addReading_50 ⟨rfl, rfl, rfl⟩

set_option maxRecDepth 100000 in
set_option maxHeartbeats 4000000 in
theorem c_addReading_f {ad : sA} {nw nt : Nat} {B : sB} {L : sL} {t : Nat} {x : Int32} (ht : t < nt) (hr : B 21 t 6 = nI 12) : Cf yX2_addReading cX2_addReading 2 none 2 [.ref (ad 21 t), .int x] ad nw nt B L (none) (cAdd (cDr B t) t 11 x) (L) := by
  have hC : ∀ Q, je_Ok (sCm yX2_addReading cX2_addReading 2 none 2 ad nw nt Q) RX2 cX2_addReading 2 2 := fun _ => je_Cm_ok
  refine Cs_of [some (.ref (ad 21 t)), some (.int x)] (by decide) rfl (Nat.le_of_ble_eq_true rfl) ?_
  first | refine Es_aload_n (hC _) dX2_addReading_0 rfl ?_ | refine Es_aload_nN (hC _) dX2_addReading_0 rfl ?_
  refine Sg_X2_6 (hC _) fl_X2_44 dX2_addReading_1 ht ?_
  rw [hr]
  refine Es_bipush (v := 12) (hC _) dX2_addReading_4 (by decide) ?_
  refine Es_icmp_lt (hC _) 13 dX2_addReading_6 (by decide) (fun hb6 => False.elim (absurd hb6 (by decide))) (fun hb6 => ?_)
  first | refine Es_aload_n (hC _) dX2_addReading_9 rfl ?_ | refine Es_aload_nN (hC _) dX2_addReading_9 rfl ?_
  refine Es_fV (hC _) mv_X2_54 dX2_addReading_10 (c_drop ht) (ok21 ht) rfl ⟨_, rfl, rfl⟩ rfl rfl (by decide) (Nat.le_of_ble_eq_true rfl) ?_
  first | refine Es_aload_n (hC _) dX2_addReading_13 rfl ?_ | refine Es_aload_nN (hC _) dX2_addReading_13 rfl ?_
  refine Sg_X2_3 (hC _) fl_X2_9 dX2_addReading_14 ht ?_
  first | refine Es_aload_n (hC _) dX2_addReading_17 rfl ?_ | refine Es_aload_nN (hC _) dX2_addReading_17 rfl ?_
  refine Sg_X2_6 (hC _) fl_X2_44 dX2_addReading_18 ht ?_
  rw [uB_s]
  first | refine Es_aload_n (hC _) dX2_addReading_21 rfl ?_ | refine Es_aload_nN (hC _) dX2_addReading_21 rfl ?_
  refine Sg_X2_9 (hC _) fl_X2_41 dX2_addReading_22 ht ?_
  refine Es_fSN (hC _) ms_X2_57 dX2_addReading_25 (c_write (kd := 22) (n := 12) (ok22 ht) (fun _ => rfl) rfl (by omega) (by decide)) rfl rfl (by decide) (Nat.le_of_ble_eq_true rfl) ?_
  first | refine Es_aload_n (hC _) dX2_addReading_28 rfl ?_ | refine Es_aload_nN (hC _) dX2_addReading_28 rfl ?_
  refine Sg_X2_4 (hC _) fl_X2_15 dX2_addReading_29 ht ?_
  first | refine Es_aload_n (hC _) dX2_addReading_32 rfl ?_ | refine Es_aload_nN (hC _) dX2_addReading_32 rfl ?_
  refine Sg_X2_6 (hC _) fl_X2_44 dX2_addReading_33 ht ?_
  rw [uB_n (by omega), uB_s]
  refine Es_iload_n (hC _) dX2_addReading_36 rfl ?_
  refine Es_fSN (hC _) ms_X2_57 dX2_addReading_37 (c_write (kd := 23) (n := 12) (ok23 ht) (fun _ => rfl) rfl (by omega) (by decide)) rfl rfl (by decide) (Nat.le_of_ble_eq_true rfl) ?_
  first | refine Es_aload_n (hC _) dX2_addReading_40 rfl ?_ | refine Es_aload_nN (hC _) dX2_addReading_40 rfl ?_
  refine Es_dup (hC _) dX2_addReading_41 rfl ?_
  refine Sg_X2_6 (hC _) fl_X2_44 dX2_addReading_42 ht ?_
  rw [uB_n (by omega), uB_n (by omega), uB_s]
  refine Es_iconst (v := 1) (hC _) dX2_addReading_45 (by decide) ?_
  refine Es_iadd (hC _) dX2_addReading_46 ?_
  rw [show nI 11 + 1 = nI 12 from rfl]
  refine Sp_X2_6 (hC _) fl_X2_44 dX2_addReading_47 ht ?_
  exact Es_vret dX2_addReading_50 ⟨rfl, rfl, rfl⟩

set_option maxRecDepth 100000 in
set_option maxHeartbeats 4000000 in
theorem c_read_1 {ad : sA} {nw nt : Nat} {B : sB} {L : sL} (hnt : B 0 0 9 = nI nt) (h40 : nt ≤ 40) {x : Int32} (hot : out x nt) {y : Int32} : Cf yX5_read cX5_read 5 (some FieldType.int) 5 [.ref (ad 0 0), .int x, .int y] ad nw nt B L (some (.int (-1))) (uB B 5 0 1 (B 5 0 1 + 1)) (L) := by
  have hC : ∀ Q, je_Ok (sCm yX5_read cX5_read 5 (some FieldType.int) 5 ad nw nt Q) RX5 cX5_read 5 5 := fun _ => je_Cm_ok
  refine Cs_of [some (.ref (ad 0 0)), some (.int x), some (.int y), none, none] (by decide) rfl (Nat.le_of_ble_eq_true rfl) ?_
  first | refine Es_aload_n (hC _) dX5_read_0 rfl ?_ | refine Es_aload_nN (hC _) dX5_read_0 rfl ?_
  refine Es_iload_n (hC _) dX5_read_1 rfl ?_
  refine Es_fV (hC _) mv_X5_132 dX5_read_2 (c_tyreAt_out hnt hot) rfl rfl ⟨_, rfl, rfl⟩ rfl rfl (by decide) (Nat.le_of_ble_eq_true rfl) ?_
  first | refine Es_astore_n (lv' := [_, _, _, _, _]) (hC _) dX5_read_5 (by decide) rfl rfl ?_ | refine Es_astore_nN (lv' := [_, _, _, _, _]) (hC _) dX5_read_5 (by decide) rfl rfl ?_
  first | refine Es_aload_n (hC _) dX5_read_6 rfl ?_ | refine Es_aload_nN (hC _) dX5_read_6 rfl ?_
  refine Es_ifnonnullN (hC _) dX5_read_7 ?_
  first | refine Es_aload_n (hC _) dX5_read_10 rfl ?_ | refine Es_aload_nN (hC _) dX5_read_10 rfl ?_
  refine Es_iconst (v := -1) (hC _) dX5_read_11 (by decide) ?_
  refine Es_fV (hC _) mv_X5_70 dX5_read_12 (c_refuse (k := 1) (by decide) (by decide)) rfl rfl ⟨_, rfl, rfl⟩ rfl rfl (by decide) (Nat.le_of_ble_eq_true rfl) ?_
  exact Es_iret dX5_read_15 rfl ⟨rfl, rfl, rfl⟩

set_option maxRecDepth 100000 in
set_option maxHeartbeats 4000000 in
theorem c_read_2a {ad : sA} {nw nt : Nat} {B : sB} {L : sL} (hnt : B 0 0 9 = nI nt) (h40 : nt ≤ 40) {t : Nat} (ht : t < nt) {y : Int32} (hw : B 21 t 10 = -2) : Cf yX5_read cX5_read 5 (some FieldType.int) 5 [.ref (ad 0 0), .int (nI t), .int y] ad nw nt B L (some (.int (-2))) (uB B 5 0 2 (B 5 0 2 + 1)) (L) := by
  have hC : ∀ Q, je_Ok (sCm yX5_read cX5_read 5 (some FieldType.int) 5 ad nw nt Q) RX5 cX5_read 5 5 := fun _ => je_Cm_ok
  refine Cs_of [some (.ref (ad 0 0)), some (.int (nI t)), some (.int y), none, none] (by decide) rfl (Nat.le_of_ble_eq_true rfl) ?_
  first | refine Es_aload_n (hC _) dX5_read_0 rfl ?_ | refine Es_aload_nN (hC _) dX5_read_0 rfl ?_
  refine Es_iload_n (hC _) dX5_read_1 rfl ?_
  refine Es_fV (hC _) mv_X5_132 dX5_read_2 (c_tyreAt_in hnt h40 ht) rfl rfl ⟨_, rfl, rfl⟩ rfl rfl (by decide) (Nat.le_of_ble_eq_true rfl) ?_
  first | refine Es_astore_n (lv' := [_, _, _, _, _]) (hC _) dX5_read_5 (by decide) rfl rfl ?_ | refine Es_astore_nN (lv' := [_, _, _, _, _]) (hC _) dX5_read_5 (by decide) rfl rfl ?_
  first | refine Es_aload_n (hC _) dX5_read_6 rfl ?_ | refine Es_aload_nN (hC _) dX5_read_6 rfl ?_
  refine Es_ifnonnull (hC _) 16 dX5_read_7 (by decide) ?_
  first | refine Es_aload_n (hC _) dX5_read_16 rfl ?_ | refine Es_aload_nN (hC _) dX5_read_16 rfl ?_
  refine Sg_X2_10 (hC _) fl_X5_139 dX5_read_17 ht ?_
  refine Es_bipush (v := -2) (hC _) dX5_read_20 (by decide) ?_
  refine Es_icmp_eq (hC _) 34 dX5_read_22 (by decide) (fun hb22 => ?_) (fun hb22 => False.elim (hb22 hw))
  first | refine Es_aload_n (hC _) dX5_read_34 rfl ?_ | refine Es_aload_nN (hC _) dX5_read_34 rfl ?_
  refine Es_bipush (v := -2) (hC _) dX5_read_35 (by decide) ?_
  refine Es_fV (hC _) mv_X5_70 dX5_read_37 (c_refuse (k := 2) (by decide) (by decide)) rfl rfl ⟨_, rfl, rfl⟩ rfl rfl (by decide) (Nat.le_of_ble_eq_true rfl) ?_
  exact Es_iret dX5_read_40 rfl ⟨rfl, rfl, rfl⟩

set_option maxRecDepth 100000 in
set_option maxHeartbeats 4000000 in
theorem c_read_2b {ad : sA} {nw nt : Nat} {B : sB} {L : sL} (hnt : B 0 0 9 = nI nt) (h40 : nt ≤ 40) {t : Nat} (ht : t < nt) {y : Int32} (hw : B 21 t 10 = -3) : Cf yX5_read cX5_read 5 (some FieldType.int) 5 [.ref (ad 0 0), .int (nI t), .int y] ad nw nt B L (some (.int (-2))) (uB B 5 0 2 (B 5 0 2 + 1)) (L) := by
  have hC : ∀ Q, je_Ok (sCm yX5_read cX5_read 5 (some FieldType.int) 5 ad nw nt Q) RX5 cX5_read 5 5 := fun _ => je_Cm_ok
  refine Cs_of [some (.ref (ad 0 0)), some (.int (nI t)), some (.int y), none, none] (by decide) rfl (Nat.le_of_ble_eq_true rfl) ?_
  first | refine Es_aload_n (hC _) dX5_read_0 rfl ?_ | refine Es_aload_nN (hC _) dX5_read_0 rfl ?_
  refine Es_iload_n (hC _) dX5_read_1 rfl ?_
  refine Es_fV (hC _) mv_X5_132 dX5_read_2 (c_tyreAt_in hnt h40 ht) rfl rfl ⟨_, rfl, rfl⟩ rfl rfl (by decide) (Nat.le_of_ble_eq_true rfl) ?_
  first | refine Es_astore_n (lv' := [_, _, _, _, _]) (hC _) dX5_read_5 (by decide) rfl rfl ?_ | refine Es_astore_nN (lv' := [_, _, _, _, _]) (hC _) dX5_read_5 (by decide) rfl rfl ?_
  first | refine Es_aload_n (hC _) dX5_read_6 rfl ?_ | refine Es_aload_nN (hC _) dX5_read_6 rfl ?_
  refine Es_ifnonnull (hC _) 16 dX5_read_7 (by decide) ?_
  first | refine Es_aload_n (hC _) dX5_read_16 rfl ?_ | refine Es_aload_nN (hC _) dX5_read_16 rfl ?_
  refine Sg_X2_10 (hC _) fl_X5_139 dX5_read_17 ht ?_
  refine Es_bipush (v := -2) (hC _) dX5_read_20 (by decide) ?_
  refine Es_icmp_eq (hC _) 34 dX5_read_22 (by decide) (fun hb22 => False.elim (absurd (hw.symm.trans hb22) (by decide))) (fun hb22 => ?_)
  first | refine Es_aload_n (hC _) dX5_read_25 rfl ?_ | refine Es_aload_nN (hC _) dX5_read_25 rfl ?_
  refine Sg_X2_10 (hC _) fl_X5_139 dX5_read_26 ht ?_
  refine Es_bipush (v := -3) (hC _) dX5_read_29 (by decide) ?_
  refine Es_icmp_ne (hC _) 41 dX5_read_31 (by decide) (fun hb31 => False.elim (hb31 hw)) (fun hb31 => ?_)
  first | refine Es_aload_n (hC _) dX5_read_34 rfl ?_ | refine Es_aload_nN (hC _) dX5_read_34 rfl ?_
  refine Es_bipush (v := -2) (hC _) dX5_read_35 (by decide) ?_
  refine Es_fV (hC _) mv_X5_70 dX5_read_37 (c_refuse (k := 2) (by decide) (by decide)) rfl rfl ⟨_, rfl, rfl⟩ rfl rfl (by decide) (Nat.le_of_ble_eq_true rfl) ?_
  exact Es_iret dX5_read_40 rfl ⟨rfl, rfl, rfl⟩

set_option maxRecDepth 100000 in
set_option maxHeartbeats 4000000 in
theorem c_read_lo {ad : sA} {nw nt : Nat} {B : sB} {L : sL} (hnt : B 0 0 9 = nI nt) (h40 : nt ≤ 40) {t : Nat} (ht : t < nt) {y : Int32} (hw1 : ¬ B 21 t 10 = -2) (hw2 : ¬ B 21 t 10 = -3) (hl : y < 0) : Cf yX5_read cX5_read 5 (some FieldType.int) 5 [.ref (ad 0 0), .int (nI t), .int y] ad nw nt B L (some (.int (-4))) (uB B 5 0 4 (B 5 0 4 + 1)) (L) := by
  have hC : ∀ Q, je_Ok (sCm yX5_read cX5_read 5 (some FieldType.int) 5 ad nw nt Q) RX5 cX5_read 5 5 := fun _ => je_Cm_ok
  refine Cs_of [some (.ref (ad 0 0)), some (.int (nI t)), some (.int y), none, none] (by decide) rfl (Nat.le_of_ble_eq_true rfl) ?_
  first | refine Es_aload_n (hC _) dX5_read_0 rfl ?_ | refine Es_aload_nN (hC _) dX5_read_0 rfl ?_
  refine Es_iload_n (hC _) dX5_read_1 rfl ?_
  refine Es_fV (hC _) mv_X5_132 dX5_read_2 (c_tyreAt_in hnt h40 ht) rfl rfl ⟨_, rfl, rfl⟩ rfl rfl (by decide) (Nat.le_of_ble_eq_true rfl) ?_
  first | refine Es_astore_n (lv' := [_, _, _, _, _]) (hC _) dX5_read_5 (by decide) rfl rfl ?_ | refine Es_astore_nN (lv' := [_, _, _, _, _]) (hC _) dX5_read_5 (by decide) rfl rfl ?_
  first | refine Es_aload_n (hC _) dX5_read_6 rfl ?_ | refine Es_aload_nN (hC _) dX5_read_6 rfl ?_
  refine Es_ifnonnull (hC _) 16 dX5_read_7 (by decide) ?_
  first | refine Es_aload_n (hC _) dX5_read_16 rfl ?_ | refine Es_aload_nN (hC _) dX5_read_16 rfl ?_
  refine Sg_X2_10 (hC _) fl_X5_139 dX5_read_17 ht ?_
  refine Es_bipush (v := -2) (hC _) dX5_read_20 (by decide) ?_
  refine Es_icmp_eq (hC _) 34 dX5_read_22 (by decide) (fun hb22 => False.elim (hw1 hb22)) (fun hb22 => ?_)
  first | refine Es_aload_n (hC _) dX5_read_25 rfl ?_ | refine Es_aload_nN (hC _) dX5_read_25 rfl ?_
  refine Sg_X2_10 (hC _) fl_X5_139 dX5_read_26 ht ?_
  refine Es_bipush (v := -3) (hC _) dX5_read_29 (by decide) ?_
  refine Es_icmp_ne (hC _) 41 dX5_read_31 (by decide) (fun hb31 => ?_) (fun hb31 => False.elim (hw2 hb31))
  refine Es_iload_n (hC _) dX5_read_41 rfl ?_
  refine Es_iconst (v := 0) (hC _) dX5_read_42 (by decide) ?_
  refine Es_sipush (v := 300) (hC _) dX5_read_43 (by decide) ?_
  refine Es_fS (hC _) ms_X5_92 dX5_read_46 c_outside rfl rfl (by decide) (Nat.le_of_ble_eq_true rfl) ?_
  rw [show outs y 0 300 = -4 from if_pos hl]
  refine Es_istore (lv' := [_, _, _, _, _]) (hC _) dX5_read_49 (by decide) rfl rfl ?_
  refine Es_iload (hC _) dX5_read_51 rfl ?_
  refine Es_if_eq (hC _) 63 dX5_read_53 (by decide) (fun hb53 => False.elim (absurd hb53 (by decide))) (fun hb53 => ?_)
  first | refine Es_aload_n (hC _) dX5_read_56 rfl ?_ | refine Es_aload_nN (hC _) dX5_read_56 rfl ?_
  refine Es_iload (hC _) dX5_read_57 rfl ?_
  refine Es_fV (hC _) mv_X5_70 dX5_read_59 (c_refuse (k := 4) (by decide) (by decide)) rfl rfl ⟨_, rfl, rfl⟩ rfl rfl (by decide) (Nat.le_of_ble_eq_true rfl) ?_
  exact Es_iret dX5_read_62 rfl ⟨rfl, rfl, rfl⟩

set_option maxRecDepth 100000 in
set_option maxHeartbeats 4000000 in
theorem c_read_hi {ad : sA} {nw nt : Nat} {B : sB} {L : sL} (hnt : B 0 0 9 = nI nt) (h40 : nt ≤ 40) {t : Nat} (ht : t < nt) {y : Int32} (hw1 : ¬ B 21 t 10 = -2) (hw2 : ¬ B 21 t 10 = -3) (hl : ¬ y < 0) (hh : 300 < y) : Cf yX5_read cX5_read 5 (some FieldType.int) 5 [.ref (ad 0 0), .int (nI t), .int y] ad nw nt B L (some (.int (-6))) (uB B 5 0 6 (B 5 0 6 + 1)) (L) := by
  have hC : ∀ Q, je_Ok (sCm yX5_read cX5_read 5 (some FieldType.int) 5 ad nw nt Q) RX5 cX5_read 5 5 := fun _ => je_Cm_ok
  refine Cs_of [some (.ref (ad 0 0)), some (.int (nI t)), some (.int y), none, none] (by decide) rfl (Nat.le_of_ble_eq_true rfl) ?_
  first | refine Es_aload_n (hC _) dX5_read_0 rfl ?_ | refine Es_aload_nN (hC _) dX5_read_0 rfl ?_
  refine Es_iload_n (hC _) dX5_read_1 rfl ?_
  refine Es_fV (hC _) mv_X5_132 dX5_read_2 (c_tyreAt_in hnt h40 ht) rfl rfl ⟨_, rfl, rfl⟩ rfl rfl (by decide) (Nat.le_of_ble_eq_true rfl) ?_
  first | refine Es_astore_n (lv' := [_, _, _, _, _]) (hC _) dX5_read_5 (by decide) rfl rfl ?_ | refine Es_astore_nN (lv' := [_, _, _, _, _]) (hC _) dX5_read_5 (by decide) rfl rfl ?_
  first | refine Es_aload_n (hC _) dX5_read_6 rfl ?_ | refine Es_aload_nN (hC _) dX5_read_6 rfl ?_
  refine Es_ifnonnull (hC _) 16 dX5_read_7 (by decide) ?_
  first | refine Es_aload_n (hC _) dX5_read_16 rfl ?_ | refine Es_aload_nN (hC _) dX5_read_16 rfl ?_
  refine Sg_X2_10 (hC _) fl_X5_139 dX5_read_17 ht ?_
  refine Es_bipush (v := -2) (hC _) dX5_read_20 (by decide) ?_
  refine Es_icmp_eq (hC _) 34 dX5_read_22 (by decide) (fun hb22 => False.elim (hw1 hb22)) (fun hb22 => ?_)
  first | refine Es_aload_n (hC _) dX5_read_25 rfl ?_ | refine Es_aload_nN (hC _) dX5_read_25 rfl ?_
  refine Sg_X2_10 (hC _) fl_X5_139 dX5_read_26 ht ?_
  refine Es_bipush (v := -3) (hC _) dX5_read_29 (by decide) ?_
  refine Es_icmp_ne (hC _) 41 dX5_read_31 (by decide) (fun hb31 => ?_) (fun hb31 => False.elim (hw2 hb31))
  refine Es_iload_n (hC _) dX5_read_41 rfl ?_
  refine Es_iconst (v := 0) (hC _) dX5_read_42 (by decide) ?_
  refine Es_sipush (v := 300) (hC _) dX5_read_43 (by decide) ?_
  refine Es_fS (hC _) ms_X5_92 dX5_read_46 c_outside rfl rfl (by decide) (Nat.le_of_ble_eq_true rfl) ?_
  rw [show outs y 0 300 = -6 from (if_neg hl).trans (if_pos hh)]
  refine Es_istore (lv' := [_, _, _, _, _]) (hC _) dX5_read_49 (by decide) rfl rfl ?_
  refine Es_iload (hC _) dX5_read_51 rfl ?_
  refine Es_if_eq (hC _) 63 dX5_read_53 (by decide) (fun hb53 => False.elim (absurd hb53 (by decide))) (fun hb53 => ?_)
  first | refine Es_aload_n (hC _) dX5_read_56 rfl ?_ | refine Es_aload_nN (hC _) dX5_read_56 rfl ?_
  refine Es_iload (hC _) dX5_read_57 rfl ?_
  refine Es_fV (hC _) mv_X5_70 dX5_read_59 (c_refuse (k := 6) (by decide) (by decide)) rfl rfl ⟨_, rfl, rfl⟩ rfl rfl (by decide) (Nat.le_of_ble_eq_true rfl) ?_
  exact Es_iret dX5_read_62 rfl ⟨rfl, rfl, rfl⟩

set_option maxRecDepth 100000 in
set_option maxHeartbeats 4000000 in
theorem c_read_ok {ad : sA} {nw nt : Nat} {B : sB} {L : sL} (hnt : B 0 0 9 = nI nt) (h40 : nt ≤ 40) {t : Nat} (ht : t < nt) {y : Int32} (hw1 : ¬ B 21 t 10 = -2) (hw2 : ¬ B 21 t 10 = -3) {G : sB} {n m : Nat} (hl : ¬ y < 0) (hh : ¬ 300 < y) (hadd : Cf yX2_addReading cX2_addReading 2 none 2 [.ref (ad 21 t), .int y] ad nw nt B L none G L) (hn : G 21 t 6 = nI n) (h12 : n ≤ 12) (hm : G 21 t 1 = nI m) (hm4 : m < 4) (ho : okR (G 22 t) n 1000000) : Cf yX5_read cX5_read 5 (some FieldType.int) 5 [.ref (ad 0 0), .int (nI t), .int y] ad nw nt B L (some (.int (nI n))) (G) (wS L t (wUD (G 22 t) (G 23 t) n (G 4 0 m))) := by
  have hC : ∀ Q, je_Ok (sCm yX5_read cX5_read 5 (some FieldType.int) 5 ad nw nt Q) RX5 cX5_read 5 5 := fun _ => je_Cm_ok
  refine Cs_of [some (.ref (ad 0 0)), some (.int (nI t)), some (.int y), none, none] (by decide) rfl (Nat.le_of_ble_eq_true rfl) ?_
  first | refine Es_aload_n (hC _) dX5_read_0 rfl ?_ | refine Es_aload_nN (hC _) dX5_read_0 rfl ?_
  refine Es_iload_n (hC _) dX5_read_1 rfl ?_
  refine Es_fV (hC _) mv_X5_132 dX5_read_2 (c_tyreAt_in hnt h40 ht) rfl rfl ⟨_, rfl, rfl⟩ rfl rfl (by decide) (Nat.le_of_ble_eq_true rfl) ?_
  first | refine Es_astore_n (lv' := [_, _, _, _, _]) (hC _) dX5_read_5 (by decide) rfl rfl ?_ | refine Es_astore_nN (lv' := [_, _, _, _, _]) (hC _) dX5_read_5 (by decide) rfl rfl ?_
  first | refine Es_aload_n (hC _) dX5_read_6 rfl ?_ | refine Es_aload_nN (hC _) dX5_read_6 rfl ?_
  refine Es_ifnonnull (hC _) 16 dX5_read_7 (by decide) ?_
  first | refine Es_aload_n (hC _) dX5_read_16 rfl ?_ | refine Es_aload_nN (hC _) dX5_read_16 rfl ?_
  refine Sg_X2_10 (hC _) fl_X5_139 dX5_read_17 ht ?_
  refine Es_bipush (v := -2) (hC _) dX5_read_20 (by decide) ?_
  refine Es_icmp_eq (hC _) 34 dX5_read_22 (by decide) (fun hb22 => False.elim (hw1 hb22)) (fun hb22 => ?_)
  first | refine Es_aload_n (hC _) dX5_read_25 rfl ?_ | refine Es_aload_nN (hC _) dX5_read_25 rfl ?_
  refine Sg_X2_10 (hC _) fl_X5_139 dX5_read_26 ht ?_
  refine Es_bipush (v := -3) (hC _) dX5_read_29 (by decide) ?_
  refine Es_icmp_ne (hC _) 41 dX5_read_31 (by decide) (fun hb31 => ?_) (fun hb31 => False.elim (hw2 hb31))
  refine Es_iload_n (hC _) dX5_read_41 rfl ?_
  refine Es_iconst (v := 0) (hC _) dX5_read_42 (by decide) ?_
  refine Es_sipush (v := 300) (hC _) dX5_read_43 (by decide) ?_
  refine Es_fS (hC _) ms_X5_92 dX5_read_46 c_outside rfl rfl (by decide) (Nat.le_of_ble_eq_true rfl) ?_
  rw [show outs y 0 300 = 0 from (if_neg hl).trans (if_neg hh)]
  refine Es_istore (lv' := [_, _, _, _, _]) (hC _) dX5_read_49 (by decide) rfl rfl ?_
  refine Es_iload (hC _) dX5_read_51 rfl ?_
  refine Es_if_eq (hC _) 63 dX5_read_53 (by decide) (fun hb53 => ?_) (fun hb53 => False.elim (hb53 rfl))
  first | refine Es_aload_n (hC _) dX5_read_63 rfl ?_ | refine Es_aload_nN (hC _) dX5_read_63 rfl ?_
  refine Es_iload_n (hC _) dX5_read_64 rfl ?_
  refine Es_fV (hC _) mv_X5_152 dX5_read_65 hadd (ok21 ht) rfl ⟨_, rfl, rfl⟩ rfl rfl (by decide) (Nat.le_of_ble_eq_true rfl) ?_
  first | refine Es_aload_n (hC _) dX5_read_68 rfl ?_ | refine Es_aload_nN (hC _) dX5_read_68 rfl ?_
  first | refine Es_aload_n (hC _) dX5_read_69 rfl ?_ | refine Es_aload_nN (hC _) dX5_read_69 rfl ?_
  refine Sg_X5_3 (hC _) fl_X5_36 dX5_read_70 ?_
  first | refine Es_aload_n (hC _) dX5_read_73 rfl ?_ | refine Es_aload_nN (hC _) dX5_read_73 rfl ?_
  refine Sg_X2_1 (hC _) fl_X5_155 dX5_read_74 ht ?_
  refine Es_fS (hC _) ms_X5_96 dX5_read_77 (c_at (kd := 4) (n := 4) rfl rfl hm hm4 (by decide)) rfl rfl (by decide) (Nat.le_of_ble_eq_true rfl) ?_
  refine Es_fV (hC _) mv_X5_158 dX5_read_80 (c_fitWear ht hn h12 ho) (ok21 ht) rfl ⟨_, rfl, rfl⟩ rfl rfl (by decide) (Nat.le_of_ble_eq_true rfl) ?_
  first | refine Es_aload_n (hC _) dX5_read_83 rfl ?_ | refine Es_aload_nN (hC _) dX5_read_83 rfl ?_
  refine Sg_X2_6 (hC _) fl_X5_161 dX5_read_84 ht ?_
  exact Es_iret dX5_read_87 rfl ⟨by rw [hn], rfl, rfl⟩

set_option maxRecDepth 100000 in
set_option maxHeartbeats 4000000 in
theorem r_read_1 {ad : sA} {nw nt : Nat} {B : sB} {L : sL} (hnt : B 25 0 5 = nI nt) (h40 : nt ≤ 40) {x : Int32} (hot : out x nt) {y : Int32} : Cf yX6_read cX6_read 5 (some FieldType.int) 5 [.ref (ad 25 0), .int x, .int y] ad nw nt B L (some (.int (-1))) (uB B 30 0 1 (B 30 0 1 + 1)) (L) := by
  have hC : ∀ Q, je_Ok (sCm yX6_read cX6_read 5 (some FieldType.int) 5 ad nw nt Q) RX6 cX6_read 5 5 := fun _ => je_Cm_ok
  refine Cs_of [some (.ref (ad 25 0)), some (.int x), some (.int y), none, none] (by decide) rfl (Nat.le_of_ble_eq_true rfl) ?_
  refine Es_iload_n (hC _) dX6_read_0 rfl ?_
  first | refine Es_aload_n (hC _) dX6_read_1 rfl ?_ | refine Es_aload_nN (hC _) dX6_read_1 rfl ?_
  refine Sg_X6_5 (hC _) fl_X6_107 dX6_read_2 ?_
  rw [hnt]
  refine Es_fS (hC _) ms_X6_89 dX6_read_5 (r_isIn_out hot) rfl rfl (by decide) (Nat.le_of_ble_eq_true rfl) ?_
  refine Es_if_ne (hC _) 17 dX6_read_8 (by decide) (fun hb8 => False.elim ((by first | exact absurd hb8 (by decide) | exact absurd hb8 (by assumption) | exact hb8 (by assumption) | exact hb8 rfl | (simp_all [bI]; done)))) (fun hb8 => ?_)
  first | refine Es_aload_n (hC _) dX6_read_11 rfl ?_ | refine Es_aload_nN (hC _) dX6_read_11 rfl ?_
  refine Es_iconst (v := -1) (hC _) dX6_read_12 (by decide) ?_
  refine Es_fV (hC _) mv_X6_93 dX6_read_13 (r_refuse (k := 1) (by decide) (by decide)) rfl rfl ⟨_, rfl, rfl⟩ rfl rfl (by decide) (Nat.le_of_ble_eq_true rfl) ?_
  exact Es_iret dX6_read_16 rfl ⟨rfl, rfl, rfl⟩

set_option maxRecDepth 100000 in
set_option maxHeartbeats 4000000 in
theorem r_read_2a {ad : sA} {nw nt : Nat} {B : sB} {L : sL} (hnt : B 25 0 5 = nI nt) (h40 : nt ≤ 40) {t : Nat} (ht : t < nt) {y : Int32} (hw : B 47 0 t = -2) : Cf yX6_read cX6_read 5 (some FieldType.int) 5 [.ref (ad 25 0), .int (nI t), .int y] ad nw nt B L (some (.int (-2))) (uB B 30 0 2 (B 30 0 2 + 1)) (L) := by
  have hC : ∀ Q, je_Ok (sCm yX6_read cX6_read 5 (some FieldType.int) 5 ad nw nt Q) RX6 cX6_read 5 5 := fun _ => je_Cm_ok
  refine Cs_of [some (.ref (ad 25 0)), some (.int (nI t)), some (.int y), none, none] (by decide) rfl (Nat.le_of_ble_eq_true rfl) ?_
  refine Es_iload_n (hC _) dX6_read_0 rfl ?_
  first | refine Es_aload_n (hC _) dX6_read_1 rfl ?_ | refine Es_aload_nN (hC _) dX6_read_1 rfl ?_
  refine Sg_X6_5 (hC _) fl_X6_107 dX6_read_2 ?_
  rw [hnt]
  refine Es_fS (hC _) ms_X6_89 dX6_read_5 (r_isIn_in ht (by omega)) rfl rfl (by decide) (Nat.le_of_ble_eq_true rfl) ?_
  refine Es_if_ne (hC _) 17 dX6_read_8 (by decide) (fun hb8 => ?_) (fun hb8 => False.elim ((by first | exact absurd hb8 (by decide) | exact absurd hb8 (by assumption) | exact hb8 (by assumption) | exact hb8 rfl | (simp_all [bI]; done))))
  first | refine Es_aload_n (hC _) dX6_read_17 rfl ?_ | refine Es_aload_nN (hC _) dX6_read_17 rfl ?_
  refine Sg_X6_17 (hC _) fl_X6_50 dX6_read_18 ?_
  refine Es_iload_n (hC _) dX6_read_21 rfl ?_
  refine Es_ialdN (hC _) dX6_read_22 rfl rfl rfl (by omega) (by decide) ?_
  refine Es_bipush (v := -2) (hC _) dX6_read_23 (by decide) ?_
  refine Es_icmp_eq (hC _) 39 dX6_read_25 (by decide) (fun hb25 => ?_) (fun hb25 => False.elim (hb25 hw))
  first | refine Es_aload_n (hC _) dX6_read_39 rfl ?_ | refine Es_aload_nN (hC _) dX6_read_39 rfl ?_
  refine Es_bipush (v := -2) (hC _) dX6_read_40 (by decide) ?_
  refine Es_fV (hC _) mv_X6_93 dX6_read_42 (r_refuse (k := 2) (by decide) (by decide)) rfl rfl ⟨_, rfl, rfl⟩ rfl rfl (by decide) (Nat.le_of_ble_eq_true rfl) ?_
  exact Es_iret dX6_read_45 rfl ⟨rfl, rfl, rfl⟩

set_option maxRecDepth 100000 in
set_option maxHeartbeats 4000000 in
theorem r_read_2b {ad : sA} {nw nt : Nat} {B : sB} {L : sL} (hnt : B 25 0 5 = nI nt) (h40 : nt ≤ 40) {t : Nat} (ht : t < nt) {y : Int32} (hw : B 47 0 t = -3) : Cf yX6_read cX6_read 5 (some FieldType.int) 5 [.ref (ad 25 0), .int (nI t), .int y] ad nw nt B L (some (.int (-2))) (uB B 30 0 2 (B 30 0 2 + 1)) (L) := by
  have hC : ∀ Q, je_Ok (sCm yX6_read cX6_read 5 (some FieldType.int) 5 ad nw nt Q) RX6 cX6_read 5 5 := fun _ => je_Cm_ok
  refine Cs_of [some (.ref (ad 25 0)), some (.int (nI t)), some (.int y), none, none] (by decide) rfl (Nat.le_of_ble_eq_true rfl) ?_
  refine Es_iload_n (hC _) dX6_read_0 rfl ?_
  first | refine Es_aload_n (hC _) dX6_read_1 rfl ?_ | refine Es_aload_nN (hC _) dX6_read_1 rfl ?_
  refine Sg_X6_5 (hC _) fl_X6_107 dX6_read_2 ?_
  rw [hnt]
  refine Es_fS (hC _) ms_X6_89 dX6_read_5 (r_isIn_in ht (by omega)) rfl rfl (by decide) (Nat.le_of_ble_eq_true rfl) ?_
  refine Es_if_ne (hC _) 17 dX6_read_8 (by decide) (fun hb8 => ?_) (fun hb8 => False.elim ((by first | exact absurd hb8 (by decide) | exact absurd hb8 (by assumption) | exact hb8 (by assumption) | exact hb8 rfl | (simp_all [bI]; done))))
  first | refine Es_aload_n (hC _) dX6_read_17 rfl ?_ | refine Es_aload_nN (hC _) dX6_read_17 rfl ?_
  refine Sg_X6_17 (hC _) fl_X6_50 dX6_read_18 ?_
  refine Es_iload_n (hC _) dX6_read_21 rfl ?_
  refine Es_ialdN (hC _) dX6_read_22 rfl rfl rfl (by omega) (by decide) ?_
  refine Es_bipush (v := -2) (hC _) dX6_read_23 (by decide) ?_
  refine Es_icmp_eq (hC _) 39 dX6_read_25 (by decide) (fun hb25 => False.elim (absurd (hw.symm.trans hb25) (by decide))) (fun hb25 => ?_)
  first | refine Es_aload_n (hC _) dX6_read_28 rfl ?_ | refine Es_aload_nN (hC _) dX6_read_28 rfl ?_
  refine Sg_X6_17 (hC _) fl_X6_50 dX6_read_29 ?_
  refine Es_iload_n (hC _) dX6_read_32 rfl ?_
  refine Es_ialdN (hC _) dX6_read_33 rfl rfl rfl (by omega) (by decide) ?_
  refine Es_bipush (v := -3) (hC _) dX6_read_34 (by decide) ?_
  refine Es_icmp_ne (hC _) 46 dX6_read_36 (by decide) (fun hb36 => False.elim (hb36 hw)) (fun hb36 => ?_)
  first | refine Es_aload_n (hC _) dX6_read_39 rfl ?_ | refine Es_aload_nN (hC _) dX6_read_39 rfl ?_
  refine Es_bipush (v := -2) (hC _) dX6_read_40 (by decide) ?_
  refine Es_fV (hC _) mv_X6_93 dX6_read_42 (r_refuse (k := 2) (by decide) (by decide)) rfl rfl ⟨_, rfl, rfl⟩ rfl rfl (by decide) (Nat.le_of_ble_eq_true rfl) ?_
  exact Es_iret dX6_read_45 rfl ⟨rfl, rfl, rfl⟩

set_option maxRecDepth 100000 in
set_option maxHeartbeats 4000000 in
theorem r_read_lo {ad : sA} {nw nt : Nat} {B : sB} {L : sL} (hnt : B 25 0 5 = nI nt) (h40 : nt ≤ 40) {t : Nat} (ht : t < nt) {y : Int32} (hw1 : ¬ B 47 0 t = -2) (hw2 : ¬ B 47 0 t = -3) (hl : y < 0) : Cf yX6_read cX6_read 5 (some FieldType.int) 5 [.ref (ad 25 0), .int (nI t), .int y] ad nw nt B L (some (.int (-4))) (uB B 30 0 4 (B 30 0 4 + 1)) (L) := by
  have hC : ∀ Q, je_Ok (sCm yX6_read cX6_read 5 (some FieldType.int) 5 ad nw nt Q) RX6 cX6_read 5 5 := fun _ => je_Cm_ok
  refine Cs_of [some (.ref (ad 25 0)), some (.int (nI t)), some (.int y), none, none] (by decide) rfl (Nat.le_of_ble_eq_true rfl) ?_
  refine Es_iload_n (hC _) dX6_read_0 rfl ?_
  first | refine Es_aload_n (hC _) dX6_read_1 rfl ?_ | refine Es_aload_nN (hC _) dX6_read_1 rfl ?_
  refine Sg_X6_5 (hC _) fl_X6_107 dX6_read_2 ?_
  rw [hnt]
  refine Es_fS (hC _) ms_X6_89 dX6_read_5 (r_isIn_in ht (by omega)) rfl rfl (by decide) (Nat.le_of_ble_eq_true rfl) ?_
  refine Es_if_ne (hC _) 17 dX6_read_8 (by decide) (fun hb8 => ?_) (fun hb8 => False.elim ((by first | exact absurd hb8 (by decide) | exact absurd hb8 (by assumption) | exact hb8 (by assumption) | exact hb8 rfl | (simp_all [bI]; done))))
  first | refine Es_aload_n (hC _) dX6_read_17 rfl ?_ | refine Es_aload_nN (hC _) dX6_read_17 rfl ?_
  refine Sg_X6_17 (hC _) fl_X6_50 dX6_read_18 ?_
  refine Es_iload_n (hC _) dX6_read_21 rfl ?_
  refine Es_ialdN (hC _) dX6_read_22 rfl rfl rfl (by omega) (by decide) ?_
  refine Es_bipush (v := -2) (hC _) dX6_read_23 (by decide) ?_
  refine Es_icmp_eq (hC _) 39 dX6_read_25 (by decide) (fun hb25 => False.elim (hw1 hb25)) (fun hb25 => ?_)
  first | refine Es_aload_n (hC _) dX6_read_28 rfl ?_ | refine Es_aload_nN (hC _) dX6_read_28 rfl ?_
  refine Sg_X6_17 (hC _) fl_X6_50 dX6_read_29 ?_
  refine Es_iload_n (hC _) dX6_read_32 rfl ?_
  refine Es_ialdN (hC _) dX6_read_33 rfl rfl rfl (by omega) (by decide) ?_
  refine Es_bipush (v := -3) (hC _) dX6_read_34 (by decide) ?_
  refine Es_icmp_ne (hC _) 46 dX6_read_36 (by decide) (fun hb36 => ?_) (fun hb36 => False.elim (hw2 hb36))
  refine Es_iload_n (hC _) dX6_read_46 rfl ?_
  refine Es_if_ge (hC _) 57 dX6_read_47 (by decide) (fun hb47 => False.elim (Int32.not_le.mpr hl hb47)) (fun hb47 => ?_)
  first | refine Es_aload_n (hC _) dX6_read_50 rfl ?_ | refine Es_aload_nN (hC _) dX6_read_50 rfl ?_
  refine Es_bipush (v := -4) (hC _) dX6_read_51 (by decide) ?_
  refine Es_fV (hC _) mv_X6_93 dX6_read_53 (r_refuse (k := 4) (by decide) (by decide)) rfl rfl ⟨_, rfl, rfl⟩ rfl rfl (by decide) (Nat.le_of_ble_eq_true rfl) ?_
  exact Es_iret dX6_read_56 rfl ⟨rfl, rfl, rfl⟩

set_option maxRecDepth 100000 in
set_option maxHeartbeats 4000000 in
theorem r_read_hi {ad : sA} {nw nt : Nat} {B : sB} {L : sL} (hnt : B 25 0 5 = nI nt) (h40 : nt ≤ 40) {t : Nat} (ht : t < nt) {y : Int32} (hw1 : ¬ B 47 0 t = -2) (hw2 : ¬ B 47 0 t = -3) (hl : ¬ y < 0) (hh : 300 < y) : Cf yX6_read cX6_read 5 (some FieldType.int) 5 [.ref (ad 25 0), .int (nI t), .int y] ad nw nt B L (some (.int (-6))) (uB B 30 0 6 (B 30 0 6 + 1)) (L) := by
  have hC : ∀ Q, je_Ok (sCm yX6_read cX6_read 5 (some FieldType.int) 5 ad nw nt Q) RX6 cX6_read 5 5 := fun _ => je_Cm_ok
  refine Cs_of [some (.ref (ad 25 0)), some (.int (nI t)), some (.int y), none, none] (by decide) rfl (Nat.le_of_ble_eq_true rfl) ?_
  refine Es_iload_n (hC _) dX6_read_0 rfl ?_
  first | refine Es_aload_n (hC _) dX6_read_1 rfl ?_ | refine Es_aload_nN (hC _) dX6_read_1 rfl ?_
  refine Sg_X6_5 (hC _) fl_X6_107 dX6_read_2 ?_
  rw [hnt]
  refine Es_fS (hC _) ms_X6_89 dX6_read_5 (r_isIn_in ht (by omega)) rfl rfl (by decide) (Nat.le_of_ble_eq_true rfl) ?_
  refine Es_if_ne (hC _) 17 dX6_read_8 (by decide) (fun hb8 => ?_) (fun hb8 => False.elim ((by first | exact absurd hb8 (by decide) | exact absurd hb8 (by assumption) | exact hb8 (by assumption) | exact hb8 rfl | (simp_all [bI]; done))))
  first | refine Es_aload_n (hC _) dX6_read_17 rfl ?_ | refine Es_aload_nN (hC _) dX6_read_17 rfl ?_
  refine Sg_X6_17 (hC _) fl_X6_50 dX6_read_18 ?_
  refine Es_iload_n (hC _) dX6_read_21 rfl ?_
  refine Es_ialdN (hC _) dX6_read_22 rfl rfl rfl (by omega) (by decide) ?_
  refine Es_bipush (v := -2) (hC _) dX6_read_23 (by decide) ?_
  refine Es_icmp_eq (hC _) 39 dX6_read_25 (by decide) (fun hb25 => False.elim (hw1 hb25)) (fun hb25 => ?_)
  first | refine Es_aload_n (hC _) dX6_read_28 rfl ?_ | refine Es_aload_nN (hC _) dX6_read_28 rfl ?_
  refine Sg_X6_17 (hC _) fl_X6_50 dX6_read_29 ?_
  refine Es_iload_n (hC _) dX6_read_32 rfl ?_
  refine Es_ialdN (hC _) dX6_read_33 rfl rfl rfl (by omega) (by decide) ?_
  refine Es_bipush (v := -3) (hC _) dX6_read_34 (by decide) ?_
  refine Es_icmp_ne (hC _) 46 dX6_read_36 (by decide) (fun hb36 => ?_) (fun hb36 => False.elim (hw2 hb36))
  refine Es_iload_n (hC _) dX6_read_46 rfl ?_
  refine Es_if_ge (hC _) 57 dX6_read_47 (by decide) (fun hb47 => ?_) (fun hb47 => False.elim (hb47 (Int32.not_lt.mp hl)))
  refine Es_iload_n (hC _) dX6_read_57 rfl ?_
  refine Es_sipush (v := 300) (hC _) dX6_read_58 (by decide) ?_
  refine Es_icmp_le (hC _) 71 dX6_read_61 (by decide) (fun hb61 => False.elim (Int32.not_le.mpr hh hb61)) (fun hb61 => ?_)
  first | refine Es_aload_n (hC _) dX6_read_64 rfl ?_ | refine Es_aload_nN (hC _) dX6_read_64 rfl ?_
  refine Es_bipush (v := -6) (hC _) dX6_read_65 (by decide) ?_
  refine Es_fV (hC _) mv_X6_93 dX6_read_67 (r_refuse (k := 6) (by decide) (by decide)) rfl rfl ⟨_, rfl, rfl⟩ rfl rfl (by decide) (Nat.le_of_ble_eq_true rfl) ?_
  exact Es_iret dX6_read_70 rfl ⟨rfl, rfl, rfl⟩

set_option maxRecDepth 100000 in
set_option maxHeartbeats 4000000 in
theorem r_read_n {ad : sA} {nw nt : Nat} {B : sB} {L : sL} (hnt : B 25 0 5 = nI nt) (h40 : nt ≤ 40) {t : Nat} (ht : t < nt) {y : Int32} (hw1 : ¬ B 47 0 t = -2) (hw2 : ¬ B 47 0 t = -3) {r : Nat} (hl : ¬ y < 0) (hh : ¬ 300 < y) (hr : B 49 0 t = nI r) (h12 : r < 12) : Cf yX6_read cX6_read 5 (some FieldType.int) 5 [.ref (ad 25 0), .int (nI t), .int y] ad nw nt B L (some (.int (nI (r + 1)))) (uB (uB (uB B 50 0 (13 * t + r) (B 46 0 t)) 51 0 (13 * t + r) y) 49 0 t (nI (r + 1))) (L) := by
  have hC : ∀ Q, je_Ok (sCm yX6_read cX6_read 5 (some FieldType.int) 5 ad nw nt Q) RX6 cX6_read 5 5 := fun _ => je_Cm_ok
  refine Cs_of [some (.ref (ad 25 0)), some (.int (nI t)), some (.int y), none, none] (by decide) rfl (Nat.le_of_ble_eq_true rfl) ?_
  refine Es_iload_n (hC _) dX6_read_0 rfl ?_
  first | refine Es_aload_n (hC _) dX6_read_1 rfl ?_ | refine Es_aload_nN (hC _) dX6_read_1 rfl ?_
  refine Sg_X6_5 (hC _) fl_X6_107 dX6_read_2 ?_
  rw [hnt]
  refine Es_fS (hC _) ms_X6_89 dX6_read_5 (r_isIn_in ht (by omega)) rfl rfl (by decide) (Nat.le_of_ble_eq_true rfl) ?_
  refine Es_if_ne (hC _) 17 dX6_read_8 (by decide) (fun hb8 => ?_) (fun hb8 => False.elim ((by first | exact absurd hb8 (by decide) | exact absurd hb8 (by assumption) | exact hb8 (by assumption) | exact hb8 rfl | (simp_all [bI]; done))))
  first | refine Es_aload_n (hC _) dX6_read_17 rfl ?_ | refine Es_aload_nN (hC _) dX6_read_17 rfl ?_
  refine Sg_X6_17 (hC _) fl_X6_50 dX6_read_18 ?_
  refine Es_iload_n (hC _) dX6_read_21 rfl ?_
  refine Es_ialdN (hC _) dX6_read_22 rfl rfl rfl (by omega) (by decide) ?_
  refine Es_bipush (v := -2) (hC _) dX6_read_23 (by decide) ?_
  refine Es_icmp_eq (hC _) 39 dX6_read_25 (by decide) (fun hb25 => False.elim (hw1 hb25)) (fun hb25 => ?_)
  first | refine Es_aload_n (hC _) dX6_read_28 rfl ?_ | refine Es_aload_nN (hC _) dX6_read_28 rfl ?_
  refine Sg_X6_17 (hC _) fl_X6_50 dX6_read_29 ?_
  refine Es_iload_n (hC _) dX6_read_32 rfl ?_
  refine Es_ialdN (hC _) dX6_read_33 rfl rfl rfl (by omega) (by decide) ?_
  refine Es_bipush (v := -3) (hC _) dX6_read_34 (by decide) ?_
  refine Es_icmp_ne (hC _) 46 dX6_read_36 (by decide) (fun hb36 => ?_) (fun hb36 => False.elim (hw2 hb36))
  refine Es_iload_n (hC _) dX6_read_46 rfl ?_
  refine Es_if_ge (hC _) 57 dX6_read_47 (by decide) (fun hb47 => ?_) (fun hb47 => False.elim (hb47 (Int32.not_lt.mp hl)))
  refine Es_iload_n (hC _) dX6_read_57 rfl ?_
  refine Es_sipush (v := 300) (hC _) dX6_read_58 (by decide) ?_
  refine Es_icmp_le (hC _) 71 dX6_read_61 (by decide) (fun hb61 => ?_) (fun hb61 => False.elim (hb61 (Int32.not_lt.mp hh)))
  refine Es_bipush (v := 13) (hC _) dX6_read_71 (by decide) ?_
  refine Es_iload_n (hC _) dX6_read_73 rfl ?_
  refine Es_imul (hC _) dX6_read_74 ?_
  refine Es_istore_n (lv' := [_, _, _, _, _]) (hC _) dX6_read_75 (by decide) rfl rfl ?_
  first | refine Es_aload_n (hC _) dX6_read_76 rfl ?_ | refine Es_aload_nN (hC _) dX6_read_76 rfl ?_
  refine Sg_X6_20 (hC _) fl_X6_59 dX6_read_77 ?_
  refine Es_iload_n (hC _) dX6_read_80 rfl ?_
  first | refine Es_aload_n (hC _) dX6_read_81 rfl ?_ | refine Es_aload_nN (hC _) dX6_read_81 rfl ?_
  refine Sg_X6_19 (hC _) fl_X6_56 dX6_read_82 ?_
  refine Es_iload_n (hC _) dX6_read_85 rfl ?_
  refine Es_ialdN (hC _) dX6_read_86 rfl rfl rfl (by omega) (by decide) ?_
  rw [hr]
  refine Es_iadd (hC _) dX6_read_87 ?_
  first | refine Es_aload_n (hC _) dX6_read_88 rfl ?_ | refine Es_aload_nN (hC _) dX6_read_88 rfl ?_
  refine Sg_X6_16 (hC _) fl_X6_47 dX6_read_89 ?_
  refine Es_iload_n (hC _) dX6_read_92 rfl ?_
  refine Es_ialdN (hC _) dX6_read_93 rfl rfl rfl (by omega) (by decide) ?_
  refine Es_iastN (hC _) dX6_read_94 rfl (fun _ => rfl) (by rw [show (13 : Int32) = nI 13 from rfl, pk_mul, nI_add]) (by omega) (by decide) ?_
  first | refine Es_aload_n (hC _) dX6_read_95 rfl ?_ | refine Es_aload_nN (hC _) dX6_read_95 rfl ?_
  refine Sg_X6_21 (hC _) fl_X6_62 dX6_read_96 ?_
  refine Es_iload_n (hC _) dX6_read_99 rfl ?_
  first | refine Es_aload_n (hC _) dX6_read_100 rfl ?_ | refine Es_aload_nN (hC _) dX6_read_100 rfl ?_
  refine Sg_X6_19 (hC _) fl_X6_56 dX6_read_101 ?_
  refine Es_iload_n (hC _) dX6_read_104 rfl ?_
  refine Es_ialdN (hC _) dX6_read_105 rfl rfl rfl (by omega) (by decide) ?_
  rw [uB_n (by omega), hr]
  refine Es_iadd (hC _) dX6_read_106 ?_
  refine Es_iload_n (hC _) dX6_read_107 rfl ?_
  refine Es_iastN (hC _) dX6_read_108 rfl (fun _ => rfl) (by rw [show (13 : Int32) = nI 13 from rfl, pk_mul, nI_add]) (by omega) (by decide) ?_
  first | refine Es_aload_n (hC _) dX6_read_109 rfl ?_ | refine Es_aload_nN (hC _) dX6_read_109 rfl ?_
  refine Sg_X6_19 (hC _) fl_X6_56 dX6_read_110 ?_
  refine Es_iload_n (hC _) dX6_read_113 rfl ?_
  refine Es_ialdN (hC _) dX6_read_114 rfl rfl rfl (by omega) (by decide) ?_
  rw [uB_n (by omega), uB_n (by omega), hr]
  refine Es_bipush (v := 12) (hC _) dX6_read_115 (by decide) ?_
  refine Es_icmp_ge (hC _) 133 dX6_read_117 (by decide) (fun hb117 => False.elim (nI_ge (b := 12) (a := r) h12 (by decide) hb117)) (fun hb117 => ?_)
  first | refine Es_aload_n (hC _) dX6_read_120 rfl ?_ | refine Es_aload_nN (hC _) dX6_read_120 rfl ?_
  refine Sg_X6_19 (hC _) fl_X6_56 dX6_read_121 ?_
  refine Es_iload_n (hC _) dX6_read_124 rfl ?_
  refine Es_dup2 (hC _) dX6_read_125 rfl rfl ?_
  refine Es_ialdN (hC _) dX6_read_126 rfl rfl rfl (by omega) (by decide) ?_
  rw [uB_n (by omega), uB_n (by omega), hr]
  refine Es_iconst (v := 1) (hC _) dX6_read_127 (by decide) ?_
  refine Es_iadd (hC _) dX6_read_128 ?_
  rw [nI_1]
  refine Es_iastN (hC _) dX6_read_129 rfl (fun _ => rfl) rfl (by omega) (by decide) ?_
  refine Es_goto (hC _) 189 dX6_read_130 (by decide) ?_
  first | refine Es_aload_n (hC _) dX6_read_189 rfl ?_ | refine Es_aload_nN (hC _) dX6_read_189 rfl ?_
  refine Sg_X6_19 (hC _) fl_X6_56 dX6_read_190 ?_
  refine Es_iload_n (hC _) dX6_read_193 rfl ?_
  refine Es_ialdN (hC _) dX6_read_194 rfl rfl rfl (by omega) (by decide) ?_
  rw [uB_s]
  exact Es_iret dX6_read_195 rfl ⟨rfl, rfl, rfl⟩

set_option maxRecDepth 100000 in
set_option maxHeartbeats 4000000 in
theorem l_rread {ad : sA} {nw nt : Nat} {B : sB} {L : sL} {bc bs : Nat} {t : Nat} {y : Int32} (ht : t < 40) (hr : B 49 0 t = nI 12) : ∀ (n b : Nat), 1 ≤ b → b + n = 12 → Es (sCm yX6_read cX6_read 5 (some .int) 5 ad nw nt (fun v B1 L1 => v = some (.int (nI 12)) ∧ B1 = sh2 B 50 51 0 (13 * t + 1) (13 * t + 12) ∧ L1 = L)) 5 136 [some (.ref (ad 25 0)), some (.int (nI t)), some (.int y), some (.int (13 * nI t)), some (.int (nI b))] [] ad nw nt (sh2 B 50 51 0 (13 * t + 1) (13 * t + b)) L bc bs := by
  have hC : ∀ Q, je_Ok (sCm yX6_read cX6_read 5 (some .int) 5 ad nw nt Q) RX6 cX6_read 5 5 := fun _ => je_Cm_ok
  intro n
  induction n with
  | zero =>
    intro b hb hn
    have hb2 : b = 12 := by omega
    subst hb2
    refine Es_iload (hC _) dX6_read_136 rfl ?_
    refine Es_bipush (v := 12) (hC _) dX6_read_138 (by decide) ?_
    refine Es_icmp_ge (hC _) 189 dX6_read_140 (by decide) (fun hb140 => ?_) (fun hb140 => False.elim (hb140 (by decide)))
    first | refine Es_aload_n (hC _) dX6_read_189 rfl ?_ | refine Es_aload_nN (hC _) dX6_read_189 rfl ?_
    refine Sg_X6_19 (hC _) fl_X6_56 dX6_read_190 ?_
    refine Es_iload_n (hC _) dX6_read_193 rfl ?_
    refine Es_ialdN (hC _) dX6_read_194 rfl rfl rfl (by omega) (by decide) ?_
    rw [sh2_k (by decide) (by decide), hr]
    exact Es_iret dX6_read_195 rfl ⟨rfl, rfl, rfl⟩
  | succ n ih =>
    intro b hb hn
    refine Es_iload (hC _) dX6_read_136 rfl ?_
    refine Es_bipush (v := 12) (hC _) dX6_read_138 (by decide) ?_
    refine Es_icmp_ge (hC _) 189 dX6_read_140 (by decide) (fun hb140 => False.elim (nI_ge (b := 12) (a := b) (by omega) (by decide) hb140)) (fun hb140 => ?_)
    first | refine Es_aload_n (hC _) dX6_read_143 rfl ?_ | refine Es_aload_nN (hC _) dX6_read_143 rfl ?_
    refine Sg_X6_20 (hC _) fl_X6_59 dX6_read_144 ?_
    refine Es_iload_n (hC _) dX6_read_147 rfl ?_
    refine Es_iload (hC _) dX6_read_148 rfl ?_
    refine Es_iadd (hC _) dX6_read_150 ?_
    first | refine Es_aload_n (hC _) dX6_read_151 rfl ?_ | refine Es_aload_nN (hC _) dX6_read_151 rfl ?_
    refine Sg_X6_20 (hC _) fl_X6_59 dX6_read_152 ?_
    refine Es_iload_n (hC _) dX6_read_155 rfl ?_
    refine Es_iload (hC _) dX6_read_156 rfl ?_
    refine Es_iadd (hC _) dX6_read_158 ?_
    refine Es_iconst (v := 1) (hC _) dX6_read_159 (by decide) ?_
    refine Es_iadd (hC _) dX6_read_160 ?_
    refine Es_ialdN (hC _) dX6_read_161 rfl rfl (by rw [show (13 : Int32) = nI 13 from rfl, pk_mul, nI_add, nI_1]) (by omega) (by decide) ?_
    rw [sh2_r (by omega)]
    refine Es_iastN (hC _) dX6_read_162 rfl (fun _ => rfl) (by rw [show (13 : Int32) = nI 13 from rfl, pk_mul, nI_add]) (by omega) (by decide) ?_
    first | refine Es_aload_n (hC _) dX6_read_163 rfl ?_ | refine Es_aload_nN (hC _) dX6_read_163 rfl ?_
    refine Sg_X6_21 (hC _) fl_X6_62 dX6_read_164 ?_
    refine Es_iload_n (hC _) dX6_read_167 rfl ?_
    refine Es_iload (hC _) dX6_read_168 rfl ?_
    refine Es_iadd (hC _) dX6_read_170 ?_
    first | refine Es_aload_n (hC _) dX6_read_171 rfl ?_ | refine Es_aload_nN (hC _) dX6_read_171 rfl ?_
    refine Sg_X6_21 (hC _) fl_X6_62 dX6_read_172 ?_
    refine Es_iload_n (hC _) dX6_read_175 rfl ?_
    refine Es_iload (hC _) dX6_read_176 rfl ?_
    refine Es_iadd (hC _) dX6_read_178 ?_
    refine Es_iconst (v := 1) (hC _) dX6_read_179 (by decide) ?_
    refine Es_iadd (hC _) dX6_read_180 ?_
    refine Es_ialdN (hC _) dX6_read_181 rfl rfl (by rw [show (13 : Int32) = nI 13 from rfl, pk_mul, nI_add, nI_1]) (by omega) (by decide) ?_
    rw [uB_n (by omega), sh2_r (by omega)]
    refine Es_iastN (hC _) dX6_read_182 rfl (fun _ => rfl) (by rw [show (13 : Int32) = nI 13 from rfl, pk_mul, nI_add]) (by omega) (by decide) ?_
    refine Es_iinc (lv' := [_, _, _, _, _]) (hC _) dX6_read_183 (by decide) rfl (show _ + Int32.ofInt (1) = _ + (1) from rfl) rfl rfl ?_
    refine Es_goto (hC _) 136 dX6_read_186 (by decide) ?_
    rw [nI_1, sh2_s (by decide) (by omega)]
    exact ih (b + 1) (by omega) (by omega)
set_option maxRecDepth 100000 in
set_option maxHeartbeats 4000000 in
theorem r_read_f {ad : sA} {nw nt : Nat} {B : sB} {L : sL} (hnt : B 25 0 5 = nI nt) (h40 : nt ≤ 40) {t : Nat} (ht : t < nt) {y : Int32} (hw1 : ¬ B 47 0 t = -2) (hw2 : ¬ B 47 0 t = -3) (hl : ¬ y < 0) (hh : ¬ 300 < y) (hr : B 49 0 t = nI 12) : Cf yX6_read cX6_read 5 (some FieldType.int) 5 [.ref (ad 25 0), .int (nI t), .int y] ad nw nt B L (some (.int (nI 12))) (sh2 (uB (uB B 50 0 (13 * t + 12) (B 46 0 t)) 51 0 (13 * t + 12) y) 50 51 0 (13 * t + 1) (13 * t + 12)) (L) := by
  have hC : ∀ Q, je_Ok (sCm yX6_read cX6_read 5 (some FieldType.int) 5 ad nw nt Q) RX6 cX6_read 5 5 := fun _ => je_Cm_ok
  refine Cs_of [some (.ref (ad 25 0)), some (.int (nI t)), some (.int y), none, none] (by decide) rfl (Nat.le_of_ble_eq_true rfl) ?_
  refine Es_iload_n (hC _) dX6_read_0 rfl ?_
  first | refine Es_aload_n (hC _) dX6_read_1 rfl ?_ | refine Es_aload_nN (hC _) dX6_read_1 rfl ?_
  refine Sg_X6_5 (hC _) fl_X6_107 dX6_read_2 ?_
  rw [hnt]
  refine Es_fS (hC _) ms_X6_89 dX6_read_5 (r_isIn_in ht (by omega)) rfl rfl (by decide) (Nat.le_of_ble_eq_true rfl) ?_
  refine Es_if_ne (hC _) 17 dX6_read_8 (by decide) (fun hb8 => ?_) (fun hb8 => False.elim ((by first | exact absurd hb8 (by decide) | exact absurd hb8 (by assumption) | exact hb8 (by assumption) | exact hb8 rfl | (simp_all [bI]; done))))
  first | refine Es_aload_n (hC _) dX6_read_17 rfl ?_ | refine Es_aload_nN (hC _) dX6_read_17 rfl ?_
  refine Sg_X6_17 (hC _) fl_X6_50 dX6_read_18 ?_
  refine Es_iload_n (hC _) dX6_read_21 rfl ?_
  refine Es_ialdN (hC _) dX6_read_22 rfl rfl rfl (by omega) (by decide) ?_
  refine Es_bipush (v := -2) (hC _) dX6_read_23 (by decide) ?_
  refine Es_icmp_eq (hC _) 39 dX6_read_25 (by decide) (fun hb25 => False.elim (hw1 hb25)) (fun hb25 => ?_)
  first | refine Es_aload_n (hC _) dX6_read_28 rfl ?_ | refine Es_aload_nN (hC _) dX6_read_28 rfl ?_
  refine Sg_X6_17 (hC _) fl_X6_50 dX6_read_29 ?_
  refine Es_iload_n (hC _) dX6_read_32 rfl ?_
  refine Es_ialdN (hC _) dX6_read_33 rfl rfl rfl (by omega) (by decide) ?_
  refine Es_bipush (v := -3) (hC _) dX6_read_34 (by decide) ?_
  refine Es_icmp_ne (hC _) 46 dX6_read_36 (by decide) (fun hb36 => ?_) (fun hb36 => False.elim (hw2 hb36))
  refine Es_iload_n (hC _) dX6_read_46 rfl ?_
  refine Es_if_ge (hC _) 57 dX6_read_47 (by decide) (fun hb47 => ?_) (fun hb47 => False.elim (hb47 (Int32.not_lt.mp hl)))
  refine Es_iload_n (hC _) dX6_read_57 rfl ?_
  refine Es_sipush (v := 300) (hC _) dX6_read_58 (by decide) ?_
  refine Es_icmp_le (hC _) 71 dX6_read_61 (by decide) (fun hb61 => ?_) (fun hb61 => False.elim (hb61 (Int32.not_lt.mp hh)))
  refine Es_bipush (v := 13) (hC _) dX6_read_71 (by decide) ?_
  refine Es_iload_n (hC _) dX6_read_73 rfl ?_
  refine Es_imul (hC _) dX6_read_74 ?_
  refine Es_istore_n (lv' := [_, _, _, _, _]) (hC _) dX6_read_75 (by decide) rfl rfl ?_
  first | refine Es_aload_n (hC _) dX6_read_76 rfl ?_ | refine Es_aload_nN (hC _) dX6_read_76 rfl ?_
  refine Sg_X6_20 (hC _) fl_X6_59 dX6_read_77 ?_
  refine Es_iload_n (hC _) dX6_read_80 rfl ?_
  first | refine Es_aload_n (hC _) dX6_read_81 rfl ?_ | refine Es_aload_nN (hC _) dX6_read_81 rfl ?_
  refine Sg_X6_19 (hC _) fl_X6_56 dX6_read_82 ?_
  refine Es_iload_n (hC _) dX6_read_85 rfl ?_
  refine Es_ialdN (hC _) dX6_read_86 rfl rfl rfl (by omega) (by decide) ?_
  rw [hr]
  refine Es_iadd (hC _) dX6_read_87 ?_
  first | refine Es_aload_n (hC _) dX6_read_88 rfl ?_ | refine Es_aload_nN (hC _) dX6_read_88 rfl ?_
  refine Sg_X6_16 (hC _) fl_X6_47 dX6_read_89 ?_
  refine Es_iload_n (hC _) dX6_read_92 rfl ?_
  refine Es_ialdN (hC _) dX6_read_93 rfl rfl rfl (by omega) (by decide) ?_
  refine Es_iastN (hC _) dX6_read_94 rfl (fun _ => rfl) (by rw [show (13 : Int32) = nI 13 from rfl, pk_mul, nI_add]) (by omega) (by decide) ?_
  first | refine Es_aload_n (hC _) dX6_read_95 rfl ?_ | refine Es_aload_nN (hC _) dX6_read_95 rfl ?_
  refine Sg_X6_21 (hC _) fl_X6_62 dX6_read_96 ?_
  refine Es_iload_n (hC _) dX6_read_99 rfl ?_
  first | refine Es_aload_n (hC _) dX6_read_100 rfl ?_ | refine Es_aload_nN (hC _) dX6_read_100 rfl ?_
  refine Sg_X6_19 (hC _) fl_X6_56 dX6_read_101 ?_
  refine Es_iload_n (hC _) dX6_read_104 rfl ?_
  refine Es_ialdN (hC _) dX6_read_105 rfl rfl rfl (by omega) (by decide) ?_
  rw [uB_n (by omega), hr]
  refine Es_iadd (hC _) dX6_read_106 ?_
  refine Es_iload_n (hC _) dX6_read_107 rfl ?_
  refine Es_iastN (hC _) dX6_read_108 rfl (fun _ => rfl) (by rw [show (13 : Int32) = nI 13 from rfl, pk_mul, nI_add]) (by omega) (by decide) ?_
  first | refine Es_aload_n (hC _) dX6_read_109 rfl ?_ | refine Es_aload_nN (hC _) dX6_read_109 rfl ?_
  refine Sg_X6_19 (hC _) fl_X6_56 dX6_read_110 ?_
  refine Es_iload_n (hC _) dX6_read_113 rfl ?_
  refine Es_ialdN (hC _) dX6_read_114 rfl rfl rfl (by omega) (by decide) ?_
  rw [uB_n (by omega), uB_n (by omega), hr]
  refine Es_bipush (v := 12) (hC _) dX6_read_115 (by decide) ?_
  refine Es_icmp_ge (hC _) 133 dX6_read_117 (by decide) (fun hb117 => ?_) (fun hb117 => False.elim (hb117 (by decide)))
  refine Es_iconst (v := 1) (hC _) dX6_read_133 (by decide) ?_
  refine Es_istore (lv' := [_, _, _, _, _]) (hC _) dX6_read_134 (by decide) rfl rfl ?_
  have hh := l_rread (ad := ad) (nw := nw) (nt := nt) (B := uB (uB B 50 0 (13 * t + 12) (B 46 0 t)) 51 0 (13 * t + 12) y) (L := L) (bc := 0) (bs := 0) (t := t) (y := y) (by omega) (by rw [uB_n (by omega), uB_n (by omega), hr]) 11 1 (by decide) rfl
  rw [sh2_0] at hh
  exact hh

/-- a tyre's rows change -/
theorem Rel_rd {nw nt : Nat} {B G : sB} {L L' : sL} {t n : Nat} (hR : Rel nw nt B L) (ht : t < nt) (hk : ∀ k, k ≠ 21 → k ≠ 22 → k ≠ 23 → k ≠ 49 → k ≠ 50 → k ≠ 51 → G k = B k) (h21 : ∀ t', t' ≠ t → G 21 t' = B 21 t') (h21t : ∀ i, i ≠ 6 → G 21 t i = B 21 t i) (h216 : G 21 t 6 = nI n) (h22 : ∀ t', t' ≠ t → G 22 t' = B 22 t') (h23 : ∀ t', t' ≠ t → G 23 t' = B 23 t') (h49 : ∀ t', t' ≠ t → G 49 0 t' = B 49 0 t') (h49t : G 49 0 t = nI n) (h50 : ∀ t' i, t' ≠ t → i < 12 → G 50 0 (13 * t' + i) = B 50 0 (13 * t' + i)) (h51 : ∀ t' i, t' ≠ t → i < 12 → G 51 0 (13 * t' + i) = B 51 0 (13 * t' + i)) (hn1 : 1 ≤ n) (hn12 : n ≤ 12) (hrow : ∀ i, i < n → G 22 t i = G 50 0 (13 * t + i) ∧ lea (G 22 t i) (B 46 0 t) ∧ G 23 t i = G 51 0 (13 * t + i) ∧ bd (G 23 t i) 300) (hL : ∀ t', t' ≠ t → L' 24 t' = L 24 t') (hLt : ∀ m, B 42 0 t = nI m → m < 4 → L' 24 t 0 = (wUD (G 22 t) (G 23 t) n (B 32 0 m)).1 ∧ L' 24 t 1 = (wUD (G 22 t) (G 23 t) n (B 32 0 m)).2) : Rel nw nt G L' := by
  unfold Rel at hR ⊢
  obtain ⟨q1, q2, q3, q4, q5, q6⟩ := hR
  simp only [hk, ne_eq, Nat.reduceEqDiff, not_false_eq_true]
  refine ⟨q1, q2, q3, ⟨fun t' ht' => ?_, q4.2⟩, q5, fun t' ht' => ?_⟩
  · have h1 := q4.1 t' ht'
    unfold RelT1 at h1 ⊢
    by_cases he : t' = t
    · subst he
      simp only [h21t, ne_eq, Nat.reduceEqDiff, not_false_eq_true]
      obtain ⟨b1, b2, b3, b4, b5, b6, b7, b8, b9, b10, b11, b12, b13, b14, b15⟩ := h1
      refine ⟨b1, b2, b3, b4, b5, b6, b7, b8, b9, b10, b11, b12, b13, b14, n - 1, by omega, ?_, ?_, fun i hi => hrow i (by omega)⟩
      · rw [show n - 1 + 1 = n by omega]; exact h49t
      · rw [show n - 1 + 1 = n by omega]; exact h216
    · rw [h21 t' he, h22 t' he, h23 t' he, h49 t' he]
      obtain ⟨b1, b2, b3, b4, b5, b6, b7, b8, b9, b10, b11, b12, b13, b14, r, b15, b16, b17, b18⟩ := h1
      refine ⟨b1, b2, b3, b4, b5, b6, b7, b8, b9, b10, b11, b12, b13, b14, r, b15, b16, b17, fun i hi => ?_⟩
      rw [h50 t' i he (by omega), h51 t' i he (by omega)]
      exact b18 i hi
  · by_cases he : t' = t
    · subst he
      intro r m h1 h2 h3 h4
      have : r + 1 = n := (nI_eq (by omega) (by omega)).mp (h1.symm.trans h49t)
      rw [this]
      exact hLt m h3 h4
    · unfold RelL1
      rw [h22 t' he, h23 t' he, h49 t' he, hL t' he]
      exact q6 t' ht'
theorem wS_o {L : sL} {t t' : Nat} {p : Int64 × Int64} (h : t' ≠ t) : wS L t p 24 t' = L 24 t' := by
  funext i
  unfold wS
  rw [uL_n (by omega), uL_n (by omega)]
theorem lea_ok {a b : Int32} (h : lea a b) : 0 ≤ a.toInt ∧ a.toInt ≤ 1000000 := by
  obtain ⟨k, n, rfl, rfl, h1, h2⟩ := h
  rw [nI_toInt (by omega)]
  omega
theorem s_read {ad : sA} {nw nt : Nat} {B : sB} {L : sL} (hR : Rel nw nt B L) (x y : Int32) : Stq yX5_read cX5_read 5 5 yX6_read cX6_read 5 5 (some .int) [.int x, .int y] ad nw nt B L := by
  obtain ⟨s1, s2, s3, s4, s5, s6, s7, s8, s9, s10⟩ := hR.1
  rcases in_out x (n := nt) (by omega) with ⟨t, ht, rfl⟩ | hot
  · obtain ⟨a1, a2, ⟨m, hm4, a3⟩, a4, a5, a6, a7, a8, a9, ⟨len, hlen, a10⟩, a11, a12, a13, a14, r, h12, a15, a16, a17⟩ := hR.2.2.2.1.1 t ht
    by_cases w1 : B 47 0 t = -2
    · exact ⟨_, _, _, _, _, c_read_2a s5 s6 ht (a11.trans w1), r_read_2a (by exact s4) s6 ht (by exact w1), Rel_refuse hR⟩
    · by_cases w2 : B 47 0 t = -3
      · exact ⟨_, _, _, _, _, c_read_2b s5 s6 ht (a11.trans w2), r_read_2b (by exact s4) s6 ht (by exact w2), Rel_refuse hR⟩
      · have v1 : ¬ B 21 t 10 = -2 := fun z => w1 (a11.symm.trans z)
        have v2 : ¬ B 21 t 10 = -3 := fun z => w2 (a11.symm.trans z)
        by_cases hl : y < 0
        · exact ⟨_, _, _, _, _, c_read_lo s5 s6 ht v1 v2 hl, r_read_lo (by exact s4) s6 ht (by exact w1) (by exact w2) hl, Rel_refuse hR⟩
        · by_cases hh : 300 < y
          · exact ⟨_, _, _, _, _, c_read_hi s5 s6 ht v1 v2 hl hh, r_read_hi (by exact s4) s6 ht (by exact w1) (by exact w2) hl hh, Rel_refuse hR⟩
          · have hby : bd y 300 := by
              rcases in_out y (n := 301) (by omega) with ⟨d, hd, rfl⟩ | z
              · exact ⟨d, by omega, rfl⟩
              · rcases z with z | z
                · exact (hl z).elim
                · exact (hh (Int32.lt_of_lt_of_le (show (300 : Int32) < nI 301 by decide) z)).elim
            have hmm : B 21 t 1 = nI m := a2.trans a3
            have e4 : B 4 0 m = B 32 0 m := (hR.2.1.2.1 m hm4).1
            have ell : lea (B 46 0 t) (B 46 0 t) := ⟨len, len, a10, a10, Nat.le_refl _, hlen⟩
            have em : ∀ m', B 42 0 t = nI m' → m' < 4 → m' = m := fun m' h1 h2 => (nI_eq (by omega) (by omega)).mp (h1.symm.trans a3)
            by_cases hf : r + 1 = 12
            · have hr11 : r = 11 := by omega
              subst hr11
              have g22 : ∀ i, i < 12 → cAdd (cDr B t) t 11 y 22 t i = if i = 11 then B 46 0 t else if 1 ≤ i then B 22 t (i + 1) else B 22 t i := by
                intro i hi
                unfold cAdd
                rw [uB_n (by omega), uB_n (by omega)]
                by_cases h1 : i = 11
                · subst h1
                  rw [uB_s, if_pos rfl]
                  unfold cDr
                  rw [uB_n (by omega), sh2_k (by decide) (by decide)]
                  exact a9
                · rw [uB_n (by omega), if_neg h1]
                  unfold cDr
                  rw [uB_n (by omega)]
                  by_cases h2 : 1 ≤ i
                  · rw [if_pos h2, sh2_m1 h2 (by omega)]
                  · rw [if_neg h2, sh2_l (by omega)]
              have g23 : ∀ i, i < 12 → cAdd (cDr B t) t 11 y 23 t i = if i = 11 then y else if 1 ≤ i then B 23 t (i + 1) else B 23 t i := by
                intro i hi
                unfold cAdd
                rw [uB_n (by omega)]
                by_cases h1 : i = 11
                · subst h1
                  rw [uB_s, if_pos rfl]
                · rw [uB_n (by omega), uB_n (by omega), if_neg h1]
                  unfold cDr
                  rw [uB_n (by omega)]
                  by_cases h2 : 1 ≤ i
                  · rw [if_pos h2, sh2_m2 h2 (by omega)]
                  · rw [if_neg h2, sh2_l (by omega)]
              have hle : ∀ i, i < 12 → lea (cAdd (cDr B t) t 11 y 22 t i) (B 46 0 t) := by
                intro i hi
                rw [g22 i hi]
                by_cases h1 : i = 11
                · rw [if_pos h1]
                  exact ell
                · rw [if_neg h1]
                  by_cases h2 : 1 ≤ i
                  · rw [if_pos h2]
                    exact (a17 (i + 1) (by omega)).2.1
                  · rw [if_neg h2]
                    exact (a17 i (by omega)).2.1
              refine ⟨_, _, _, _, _, c_read_ok s5 s6 ht v1 v2 hl hh (c_addReading_f ht a16) (n := 12) (m := m) (by exact (uB_s _ _ _ _ _)) (by decide) ?_ hm4 (fun i hi => lea_ok (hle i hi)), r_read_f (by exact s4) s6 ht (by exact w1) (by exact w2) hl hh (by exact a15), Rel_rd (t := t) (n := 12) hR ht ?_ ?_ ?_ ?_ ?_ ?_ ?_ ?_ ?_ ?_ (by decide) (by decide) ?_ (fun t' h => wS_o h) ?_⟩
              · unfold cAdd cDr
                rw [uB_n (by omega), uB_n (by omega), uB_n (by omega), uB_n (by omega), sh2_k (by decide) (by decide)]
                exact hmm
              · intro k' b1 b2 b3 b4 b5 b6
                rw [sh2_k b5 b6, uB_k b6, uB_k b5]
                unfold cAdd cDr
                rw [uB_k b1, uB_k b3, uB_k b2, uB_k b1, sh2_k b2 b3]
              · intro t' h
                rw [sh2_k (by decide) (by decide), uB_k (by decide), uB_k (by decide)]
                unfold cAdd cDr
                funext i
                rw [uB_n (by omega), uB_n (by omega), uB_n (by omega), uB_n (by omega), sh2_k (by decide) (by decide)]
              · intro i h
                rw [sh2_k (by decide) (by decide), uB_k (by decide), uB_k (by decide)]
                unfold cAdd cDr
                rw [uB_n (by omega), uB_n (by omega), uB_n (by omega), uB_n (by omega), sh2_k (by decide) (by decide)]
              · rw [sh2_k (by decide) (by decide), uB_k (by decide), uB_k (by decide)]
                exact uB_s _ _ _ _ _
              · intro t' h
                rw [sh2_k (by decide) (by decide), uB_k (by decide), uB_k (by decide)]
                unfold cAdd cDr
                funext i
                rw [uB_n (by omega), uB_n (by omega), uB_n (by omega), uB_n (by omega), sh2_j h]
              · intro t' h
                rw [sh2_k (by decide) (by decide), uB_k (by decide), uB_k (by decide)]
                unfold cAdd cDr
                funext i
                rw [uB_n (by omega), uB_n (by omega), uB_n (by omega), uB_n (by omega), sh2_j h]
              · intro t' h
                rw [sh2_k (by decide) (by decide), uB_k (by decide), uB_k (by decide)]
                unfold cAdd cDr
                rw [uB_k (by decide), uB_k (by decide), uB_k (by decide), uB_k (by decide), sh2_k (by decide) (by decide)]
              · rw [sh2_k (by decide) (by decide), uB_k (by decide), uB_k (by decide)]
                unfold cAdd cDr
                rw [uB_k (by decide), uB_k (by decide), uB_k (by decide), uB_k (by decide), sh2_k (by decide) (by decide)]
                exact a15
              · intro t' i h hi
                have hne : 13 * t' + i < 13 * t + 1 ∨ 13 * t + 12 ≤ 13 * t' + i := by omega
                have hne2 : 13 * t' + i ≠ 13 * t + 12 := by omega
                rw [hne.elim (fun z => sh2_l z) (fun z => sh2_r z), uB_n (by omega), uB_n (by omega)]
                unfold cAdd cDr
                rw [uB_k (by decide), uB_k (by decide), uB_k (by decide), uB_k (by decide), sh2_k (by decide) (by decide)]
              · intro t' i h hi
                have hne : 13 * t' + i < 13 * t + 1 ∨ 13 * t + 12 ≤ 13 * t' + i := by omega
                have hne2 : 13 * t' + i ≠ 13 * t + 12 := by omega
                rw [hne.elim (fun z => sh2_l z) (fun z => sh2_r z), uB_n (by omega), uB_n (by omega)]
                unfold cAdd cDr
                rw [uB_k (by decide), uB_k (by decide), uB_k (by decide), uB_k (by decide), sh2_k (by decide) (by decide)]
              · intro i hi
                rw [sh2_k (k' := 22) (by decide) (by decide), sh2_k (k' := 23) (by decide) (by decide), uB_k (k' := 22) (by decide), uB_k (k' := 23) (by decide), uB_k (k' := 22) (by decide), uB_k (k' := 23) (by decide)]
                refine ⟨?_, hle i hi, ?_, ?_⟩
                · rw [g22 i hi]
                  by_cases h1 : i = 11
                  · subst h1
                    rw [if_pos rfl, sh2_m1 (by omega) (by omega), uB_n (by omega), uB_s]
                    unfold cAdd cDr
                    rw [uB_k (by decide), uB_k (by decide), uB_k (by decide), uB_k (by decide), sh2_k (by decide) (by decide)]
                  · rw [if_neg h1]
                    by_cases h2 : 1 ≤ i
                    · rw [if_pos h2, sh2_m1 (by omega) (by omega), uB_n (by omega), uB_n (by omega)]
                      unfold cAdd cDr
                      rw [uB_k (by decide), uB_k (by decide), uB_k (by decide), uB_k (by decide), sh2_k (by decide) (by decide)]
                      exact (a17 (i + 1) (by omega)).1
                    · rw [if_neg h2, sh2_l (by omega), uB_n (by omega), uB_n (by omega)]
                      unfold cAdd cDr
                      rw [uB_k (by decide), uB_k (by decide), uB_k (by decide), uB_k (by decide), sh2_k (by decide) (by decide)]
                      exact (a17 i (by omega)).1
                · rw [g23 i hi]
                  by_cases h1 : i = 11
                  · subst h1
                    rw [if_pos rfl, sh2_m2 (by omega) (by omega), uB_s]
                  · rw [if_neg h1]
                    by_cases h2 : 1 ≤ i
                    · rw [if_pos h2, sh2_m2 (by omega) (by omega), uB_n (by omega), uB_n (by omega)]
                      unfold cAdd cDr
                      rw [uB_k (by decide), uB_k (by decide), uB_k (by decide), uB_k (by decide), sh2_k (by decide) (by decide)]
                      exact (a17 (i + 1) (by omega)).2.2.1
                    · rw [if_neg h2, sh2_l (by omega), uB_n (by omega), uB_n (by omega)]
                      unfold cAdd cDr
                      rw [uB_k (by decide), uB_k (by decide), uB_k (by decide), uB_k (by decide), sh2_k (by decide) (by decide)]
                      exact (a17 i (by omega)).2.2.1
                · rw [g23 i hi]
                  by_cases h1 : i = 11
                  · rw [if_pos h1]
                    exact hby
                  · rw [if_neg h1]
                    by_cases h2 : 1 ≤ i
                    · rw [if_pos h2]
                      exact (a17 (i + 1) (by omega)).2.2.2
                    · rw [if_neg h2]
                      exact (a17 i (by omega)).2.2.2
              · intro m' h1 h2
                have := em m' h1 h2
                subst this
                rw [wS_u, wS_d, sh2_k (k' := 22) (by decide) (by decide), sh2_k (k' := 23) (by decide) (by decide), uB_k (k' := 22) (by decide), uB_k (k' := 23) (by decide), uB_k (k' := 22) (by decide), uB_k (k' := 23) (by decide)]
                rw [show cAdd (cDr B t) t 11 y 4 0 m' = B 32 0 m' by rw [← e4]; rfl]
                exact ⟨rfl, rfl⟩
            · have g22 : ∀ i, i < r + 2 → cAdd B t (r + 1) y 22 t i = if i = r + 1 then B 46 0 t else B 22 t i := by
                intro i hi
                unfold cAdd
                rw [uB_n (by omega), uB_n (by omega)]
                by_cases h1 : i = r + 1
                · subst h1
                  rw [uB_s, if_pos rfl]
                  exact a9
                · rw [uB_n (by omega), if_neg h1]
              have g23 : ∀ i, i < r + 2 → cAdd B t (r + 1) y 23 t i = if i = r + 1 then y else B 23 t i := by
                intro i hi
                unfold cAdd
                rw [uB_n (by omega)]
                by_cases h1 : i = r + 1
                · subst h1
                  rw [uB_s, if_pos rfl]
                · rw [uB_n (by omega), uB_n (by omega), if_neg h1]
              have hle : ∀ i, i < r + 2 → lea (cAdd B t (r + 1) y 22 t i) (B 46 0 t) := by
                intro i hi
                rw [g22 i hi]
                by_cases h1 : i = r + 1
                · rw [if_pos h1]
                  exact ell
                · rw [if_neg h1]
                  exact (a17 i (by omega)).2.1
              refine ⟨_, _, _, _, _, c_read_ok s5 s6 ht v1 v2 hl hh (c_addReading_n ht a16 (by omega)) (n := r + 2) (m := m) (by exact (uB_s _ _ _ _ _)) (by omega) ?_ hm4 (fun i hi => lea_ok (hle i hi)), r_read_n (by exact s4) s6 ht (by exact w1) (by exact w2) hl hh (by exact a15) (by omega), Rel_rd (t := t) (n := r + 2) hR ht ?_ ?_ ?_ ?_ ?_ ?_ ?_ ?_ ?_ ?_ (by omega) (by omega) ?_ (fun t' h => wS_o h) ?_⟩
              · unfold cAdd
                rw [uB_n (by omega), uB_n (by omega), uB_n (by omega)]
                exact hmm
              · intro k' b1 b2 b3 b4 b5 b6
                rw [uB_k b4, uB_k b6, uB_k b5]
                unfold cAdd
                rw [uB_k b1, uB_k b3, uB_k b2]
              · intro t' h
                rw [uB_k (by decide), uB_k (by decide), uB_k (by decide)]
                unfold cAdd
                funext i
                rw [uB_n (by omega), uB_n (by omega), uB_n (by omega)]
              · intro i h
                rw [uB_k (by decide), uB_k (by decide), uB_k (by decide)]
                unfold cAdd
                rw [uB_n (by omega), uB_n (by omega), uB_n (by omega)]
              · rw [uB_k (by decide), uB_k (by decide), uB_k (by decide)]
                exact uB_s _ _ _ _ _
              · intro t' h
                rw [uB_k (by decide), uB_k (by decide), uB_k (by decide)]
                unfold cAdd
                funext i
                rw [uB_n (by omega), uB_n (by omega), uB_n (by omega)]
              · intro t' h
                rw [uB_k (by decide), uB_k (by decide), uB_k (by decide)]
                unfold cAdd
                funext i
                rw [uB_n (by omega), uB_n (by omega), uB_n (by omega)]
              · intro t' h
                rw [uB_n (by omega), uB_k (by decide), uB_k (by decide)]
                unfold cAdd
                rw [uB_k (by decide), uB_k (by decide), uB_k (by decide)]
              · exact uB_s _ _ _ _ _
              · intro t' i h hi
                rw [uB_n (by omega), uB_n (by omega), uB_n (by omega)]
                unfold cAdd
                rw [uB_k (by decide), uB_k (by decide), uB_k (by decide)]
              · intro t' i h hi
                rw [uB_n (by omega), uB_n (by omega), uB_n (by omega)]
                unfold cAdd
                rw [uB_k (by decide), uB_k (by decide), uB_k (by decide)]
              · intro i hi
                rw [uB_k (k' := 22) (by decide), uB_k (k' := 23) (by decide), uB_k (k' := 22) (by decide), uB_k (k' := 23) (by decide), uB_k (k' := 22) (by decide), uB_k (k' := 23) (by decide)]
                refine ⟨?_, hle i hi, ?_, ?_⟩
                · rw [g22 i hi]
                  by_cases h1 : i = r + 1
                  · subst h1
                    rw [if_pos rfl, uB_n (by omega), uB_n (by omega), uB_s]
                    unfold cAdd
                    rw [uB_k (by decide), uB_k (by decide), uB_k (by decide)]
                  · rw [if_neg h1, uB_n (by omega), uB_n (by omega), uB_n (by omega)]
                    unfold cAdd
                    rw [uB_k (by decide), uB_k (by decide), uB_k (by decide)]
                    exact (a17 i (by omega)).1
                · rw [g23 i hi]
                  by_cases h1 : i = r + 1
                  · subst h1
                    rw [if_pos rfl, uB_n (by omega), uB_s]
                  · rw [if_neg h1, uB_n (by omega), uB_n (by omega), uB_n (by omega)]
                    unfold cAdd
                    rw [uB_k (by decide), uB_k (by decide), uB_k (by decide)]
                    exact (a17 i (by omega)).2.2.1
                · rw [g23 i hi]
                  by_cases h1 : i = r + 1
                  · rw [if_pos h1]
                    exact hby
                  · rw [if_neg h1]
                    exact (a17 i (by omega)).2.2.2
              · intro m' h1 h2
                have := em m' h1 h2
                subst this
                rw [wS_u, wS_d, uB_k (k' := 22) (by decide), uB_k (k' := 23) (by decide), uB_k (k' := 22) (by decide), uB_k (k' := 23) (by decide), uB_k (k' := 22) (by decide), uB_k (k' := 23) (by decide)]
                rw [show cAdd B t (r + 1) y 4 0 m' = B 32 0 m' by rw [← e4]; rfl]
                exact ⟨rfl, rfl⟩
  · exact ⟨_, _, _, _, _, c_read_1 s5 s6 hot, r_read_1 (by exact s4) s6 hot, Rel_refuse hR⟩
