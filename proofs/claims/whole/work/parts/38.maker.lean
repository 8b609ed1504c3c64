/-! ===== maker ===== -/
def rfL (B : sB) (L : sL) (m nt : Nat) : Nat → sL
  | 0 => L
  | i + 1 => if i < nt ∧ B 21 i 1 = nI m then wS (rfL B L m nt i) i (wUD (B 22 i) (B 23 i) (B 21 i 6).toNatClampNeg (B 4 0 m)) else rfL B L m nt i
theorem rfL_s {B : sB} {L : sL} {m nt i : Nat} (h1 : i < nt) (h2 : B 21 i 1 = nI m) : rfL B L m nt (i + 1) = wS (rfL B L m nt i) i (wUD (B 22 i) (B 23 i) (B 21 i 6).toNatClampNeg (B 4 0 m)) := by
  simp only [rfL]
  rw [if_pos ⟨h1, h2⟩]
theorem rfL_n {B : sB} {L : sL} {m nt i : Nat} (h : ¬ (i < nt ∧ B 21 i 1 = nI m)) : rfL B L m nt (i + 1) = rfL B L m nt i := by
  simp only [rfL]
  rw [if_neg h]
theorem rfL_o {B : sB} {L : sL} {m nt t : Nat} : ∀ i, (i ≤ t ∨ ¬ B 21 t 1 = nI m) → rfL B L m nt i 24 t = L 24 t
  | 0, _ => rfl
  | i + 1, h => by
    have ih := rfL_o (B := B) (L := L) (m := m) (nt := nt) (t := t) i (h.elim (fun z => Or.inl (by omega)) Or.inr)
    by_cases hc : i < nt ∧ B 21 i 1 = nI m
    · rw [rfL_s hc.1 hc.2, wS_o (fun z => by
        subst z
        rcases h with h | h
        · omega
        · exact h hc.2)]
      exact ih
    · rw [rfL_n hc]
      exact ih
theorem rfL_y {B : sB} {L : sL} {m nt t : Nat} (ht : t < nt) (hm : B 21 t 1 = nI m) : ∀ i, t < i → rfL B L m nt i 24 t 0 = (wUD (B 22 t) (B 23 t) (B 21 t 6).toNatClampNeg (B 4 0 m)).1 ∧ rfL B L m nt i 24 t 1 = (wUD (B 22 t) (B 23 t) (B 21 t 6).toNatClampNeg (B 4 0 m)).2
  | 0, h => by omega
  | i + 1, h => by
    by_cases he : i = t
    · subst he
      rw [rfL_s ht hm, wS_u, wS_d]
      exact ⟨rfl, rfl⟩
    · have ih := rfL_y ht hm (B := B) (L := L) i (by omega)
      by_cases hc : i < nt ∧ B 21 i 1 = nI m
      · rw [rfL_s hc.1 hc.2, wS_o (fun z => he z.symm)]
        exact ih
      · rw [rfL_n hc]
        exact ih
/-- the readings of each tyre are in their bounds -/
def RO (nt : Nat) (B : sB) : Prop := ∀ t, t < nt → ∃ r, r ≤ 12 ∧ B 21 t 6 = nI r ∧ okR (B 22 t) r 1000000
set_option maxRecDepth 100000 in
set_option maxHeartbeats 4000000 in
theorem l_refit {ad : sA} {nw nt : Nat} {B : sB} {L : sL} {bc bs : Nat} {m : Nat} (hnt : B 0 0 9 = nI nt) (h40 : nt ≤ 40) (hm4 : m < 4) (hRO : RO nt B) : ∀ (n i : Nat), i + n = 40 → Es (sCm yX5_refitTyresOf cX5_refitTyresOf 4 none 4 ad nw nt (fun v B1 L1 => v = none ∧ B1 = B ∧ L1 = rfL B L m nt 40)) 4 2 [some (.ref (ad 0 0)), some (.int (nI m)), some (.int (nI i)), none] [] ad nw nt B (rfL B L m nt i) bc bs := by
  have hC : ∀ Q, je_Ok (sCm yX5_refitTyresOf cX5_refitTyresOf 4 none 4 ad nw nt Q) RX5 cX5_refitTyresOf 4 4 := fun _ => je_Cm_ok
  intro n
  induction n with
  | zero =>
    intro i hn
    have hik : i = 40 := by omega
    subst hik
    refine Es_iload_n (hC _) dX5_refitTyresOf_2 rfl ?_
    refine Es_bipush (v := 40) (hC _) dX5_refitTyresOf_3 (by decide) ?_
    refine Es_icmp_ge (hC _) 44 dX5_refitTyresOf_5 (by decide) (fun hb5 => ?_) (fun hb5 => False.elim (hb5 (by decide)))
    exact Es_vret dX5_refitTyresOf_44 ⟨rfl, rfl, rfl⟩
  | succ n ih =>
    intro i hn
    by_cases ht : i < nt
    · obtain ⟨r, h12, hr, ho⟩ := hRO i ht
      by_cases hmk : B 21 i 1 = nI m
      · have e := rfL_s (L := L) ht hmk
        rw [hr, nI_clamp (by omega)] at e
        refine Es_iload_n (hC _) dX5_refitTyresOf_2 rfl ?_
        refine Es_bipush (v := 40) (hC _) dX5_refitTyresOf_3 (by decide) ?_
        refine Es_icmp_ge (hC _) 44 dX5_refitTyresOf_5 (by decide) (fun hb5 => False.elim (nI_ge (b := 40) (a := i) (by omega) (by decide) hb5)) (fun hb5 => ?_)
        first | refine Es_aload_n (hC _) dX5_refitTyresOf_8 rfl ?_ | refine Es_aload_nN (hC _) dX5_refitTyresOf_8 rfl ?_
        refine Es_iload_n (hC _) dX5_refitTyresOf_9 rfl ?_
        refine Es_fV (hC _) mv_X5_132 dX5_refitTyresOf_10 (c_tyreAt_in hnt h40 ht) rfl rfl ⟨_, rfl, rfl⟩ rfl rfl (by decide) (Nat.le_of_ble_eq_true rfl) ?_
        first | refine Es_astore_n (lv' := [_, _, _, _]) (hC _) dX5_refitTyresOf_13 (by decide) rfl rfl ?_ | refine Es_astore_nN (lv' := [_, _, _, _]) (hC _) dX5_refitTyresOf_13 (by decide) rfl rfl ?_
        first | refine Es_aload_n (hC _) dX5_refitTyresOf_14 rfl ?_ | refine Es_aload_nN (hC _) dX5_refitTyresOf_14 rfl ?_
        refine Es_ifnull (hC _) dX5_refitTyresOf_15 ?_
        first | refine Es_aload_n (hC _) dX5_refitTyresOf_18 rfl ?_ | refine Es_aload_nN (hC _) dX5_refitTyresOf_18 rfl ?_
        refine Sg_X2_1 (hC _) fl_X5_155 dX5_refitTyresOf_19 ht ?_
        refine Es_iload_n (hC _) dX5_refitTyresOf_22 rfl ?_
        refine Es_icmp_ne (hC _) 38 dX5_refitTyresOf_23 (by decide) (fun hb23 => False.elim (hb23 hmk)) (fun hb23 => ?_)
        first | refine Es_aload_n (hC _) dX5_refitTyresOf_26 rfl ?_ | refine Es_aload_nN (hC _) dX5_refitTyresOf_26 rfl ?_
        first | refine Es_aload_n (hC _) dX5_refitTyresOf_27 rfl ?_ | refine Es_aload_nN (hC _) dX5_refitTyresOf_27 rfl ?_
        refine Sg_X5_3 (hC _) fl_X5_36 dX5_refitTyresOf_28 ?_
        refine Es_iload_n (hC _) dX5_refitTyresOf_31 rfl ?_
        refine Es_fS (hC _) ms_X5_96 dX5_refitTyresOf_32 (c_at (kd := 4) (n := 4) rfl rfl rfl hm4 (by decide)) rfl rfl (by decide) (Nat.le_of_ble_eq_true rfl) ?_
        refine Es_fV (hC _) mv_X5_158 dX5_refitTyresOf_35 (c_fitWear ht hr h12 ho) (ok21 ht) rfl ⟨_, rfl, rfl⟩ rfl rfl (by decide) (Nat.le_of_ble_eq_true rfl) ?_
        refine Es_iinc (lv' := [_, _, _, _]) (hC _) dX5_refitTyresOf_38 (by decide) rfl (show _ + Int32.ofInt (1) = _ + (1) from rfl) rfl rfl ?_
        refine Es_goto (hC _) 2 dX5_refitTyresOf_41 (by decide) ?_
        refine Es.kill 3 (lv' := [_, _, _, _]) rfl ?_
        rw [nI_1]
        rw [← e]
        exact ih (i + 1) (by omega)
      · skip
        refine Es_iload_n (hC _) dX5_refitTyresOf_2 rfl ?_
        refine Es_bipush (v := 40) (hC _) dX5_refitTyresOf_3 (by decide) ?_
        refine Es_icmp_ge (hC _) 44 dX5_refitTyresOf_5 (by decide) (fun hb5 => False.elim (nI_ge (b := 40) (a := i) (by omega) (by decide) hb5)) (fun hb5 => ?_)
        first | refine Es_aload_n (hC _) dX5_refitTyresOf_8 rfl ?_ | refine Es_aload_nN (hC _) dX5_refitTyresOf_8 rfl ?_
        refine Es_iload_n (hC _) dX5_refitTyresOf_9 rfl ?_
        refine Es_fV (hC _) mv_X5_132 dX5_refitTyresOf_10 (c_tyreAt_in hnt h40 ht) rfl rfl ⟨_, rfl, rfl⟩ rfl rfl (by decide) (Nat.le_of_ble_eq_true rfl) ?_
        first | refine Es_astore_n (lv' := [_, _, _, _]) (hC _) dX5_refitTyresOf_13 (by decide) rfl rfl ?_ | refine Es_astore_nN (lv' := [_, _, _, _]) (hC _) dX5_refitTyresOf_13 (by decide) rfl rfl ?_
        first | refine Es_aload_n (hC _) dX5_refitTyresOf_14 rfl ?_ | refine Es_aload_nN (hC _) dX5_refitTyresOf_14 rfl ?_
        refine Es_ifnull (hC _) dX5_refitTyresOf_15 ?_
        first | refine Es_aload_n (hC _) dX5_refitTyresOf_18 rfl ?_ | refine Es_aload_nN (hC _) dX5_refitTyresOf_18 rfl ?_
        refine Sg_X2_1 (hC _) fl_X5_155 dX5_refitTyresOf_19 ht ?_
        refine Es_iload_n (hC _) dX5_refitTyresOf_22 rfl ?_
        refine Es_icmp_ne (hC _) 38 dX5_refitTyresOf_23 (by decide) (fun hb23 => ?_) (fun hb23 => False.elim (hmk hb23))
        refine Es_iinc (lv' := [_, _, _, _]) (hC _) dX5_refitTyresOf_38 (by decide) rfl (show _ + Int32.ofInt (1) = _ + (1) from rfl) rfl rfl ?_
        refine Es_goto (hC _) 2 dX5_refitTyresOf_41 (by decide) ?_
        refine Es.kill 3 (lv' := [_, _, _, _]) rfl ?_
        rw [nI_1]
        rw [← rfL_n (fun z => hmk z.2)]
        exact ih (i + 1) (by omega)
    · skip
      refine Es_iload_n (hC _) dX5_refitTyresOf_2 rfl ?_
      refine Es_bipush (v := 40) (hC _) dX5_refitTyresOf_3 (by decide) ?_
      refine Es_icmp_ge (hC _) 44 dX5_refitTyresOf_5 (by decide) (fun hb5 => False.elim (nI_ge (b := 40) (a := i) (by omega) (by decide) hb5)) (fun hb5 => ?_)
      first | refine Es_aload_n (hC _) dX5_refitTyresOf_8 rfl ?_ | refine Es_aload_nN (hC _) dX5_refitTyresOf_8 rfl ?_
      refine Es_iload_n (hC _) dX5_refitTyresOf_9 rfl ?_
      refine Es_fV (hC _) mv_X5_132 dX5_refitTyresOf_10 (c_tyreAt_out hnt (Or.inr (nI_le (by omega) (by omega)))) rfl rfl ⟨_, rfl, rfl⟩ rfl rfl (by decide) (Nat.le_of_ble_eq_true rfl) ?_
      first | refine Es_astore_n (lv' := [_, _, _, _]) (hC _) dX5_refitTyresOf_13 (by decide) rfl rfl ?_ | refine Es_astore_nN (lv' := [_, _, _, _]) (hC _) dX5_refitTyresOf_13 (by decide) rfl rfl ?_
      first | refine Es_aload_n (hC _) dX5_refitTyresOf_14 rfl ?_ | refine Es_aload_nN (hC _) dX5_refitTyresOf_14 rfl ?_
      refine Es_ifnullN (hC _) 38 dX5_refitTyresOf_15 (by decide) ?_
      refine Es_iinc (lv' := [_, _, _, _]) (hC _) dX5_refitTyresOf_38 (by decide) rfl (show _ + Int32.ofInt (1) = _ + (1) from rfl) rfl rfl ?_
      refine Es_goto (hC _) 2 dX5_refitTyresOf_41 (by decide) ?_
      refine Es.kill 3 (lv' := [_, _, _, _]) rfl ?_
      rw [nI_1]
      rw [← rfL_n (fun z => ht z.1)]
      exact ih (i + 1) (by omega)
set_option maxRecDepth 100000 in
set_option maxHeartbeats 4000000 in
theorem c_refit {ad : sA} {nw nt : Nat} {B : sB} {L : sL} {m : Nat} (hnt : B 0 0 9 = nI nt) (h40 : nt ≤ 40) (hm4 : m < 4) (hRO : RO nt B) : Cf yX5_refitTyresOf cX5_refitTyresOf 4 none 4 [.ref (ad 0 0), .int (nI m)] ad nw nt B L (none) (B) (rfL B L m nt 40) := by
  have hC : ∀ Q, je_Ok (sCm yX5_refitTyresOf cX5_refitTyresOf 4 none 4 ad nw nt Q) RX5 cX5_refitTyresOf 4 4 := fun _ => je_Cm_ok
  refine Cs_of [some (.ref (ad 0 0)), some (.int (nI m)), none, none] (by decide) rfl (Nat.le_of_ble_eq_true rfl) ?_
  refine Es_iconst (v := 0) (hC _) dX5_refitTyresOf_0 (by decide) ?_
  refine Es_istore_n (lv' := [_, _, _, _]) (hC _) dX5_refitTyresOf_1 (by decide) rfl rfl ?_
  exact l_refit hnt h40 hm4 hRO 40 0 rfl

set_option maxRecDepth 100000 in
set_option maxHeartbeats 4000000 in
theorem c_maker_1 {ad : sA} {nw nt : Nat} {B : sB} {L : sL} {x y : Int32} (ho : out x 4) : Cf yX5_maker cX5_maker 5 (some FieldType.int) 5 [.ref (ad 0 0), .int x, .int y] ad nw nt B L (some (.int (-1))) (uB B 5 0 1 (B 5 0 1 + 1)) (L) := by
  have hC : ∀ Q, je_Ok (sCm yX5_maker cX5_maker 5 (some FieldType.int) 5 ad nw nt Q) RX5 cX5_maker 5 5 := fun _ => je_Cm_ok
  refine Cs_of [some (.ref (ad 0 0)), some (.int x), some (.int y), none, none] (by decide) rfl (Nat.le_of_ble_eq_true rfl) ?_
  refine Es_iload_n (hC _) dX5_maker_0 rfl ?_
  refine Es_fS (hC _) ms_X5_104 dX5_maker_1 (c_isMaker_out ho) rfl rfl (by decide) (Nat.le_of_ble_eq_true rfl) ?_
  refine Es_if_ne (hC _) 13 dX5_maker_4 (by decide) (fun hb4 => False.elim ((by first | exact absurd hb4 (by decide) | exact absurd hb4 (by assumption) | exact hb4 (by assumption) | exact hb4 rfl | (simp_all [bI]; done)))) (fun hb4 => ?_)
  first | refine Es_aload_n (hC _) dX5_maker_7 rfl ?_ | refine Es_aload_nN (hC _) dX5_maker_7 rfl ?_
  refine Es_iconst (v := -1) (hC _) dX5_maker_8 (by decide) ?_
  refine Es_fV (hC _) mv_X5_70 dX5_maker_9 (c_refuse (k := 1) (by decide) (by decide)) rfl rfl ⟨_, rfl, rfl⟩ rfl rfl (by decide) (Nat.le_of_ble_eq_true rfl) ?_
  exact Es_iret dX5_maker_12 rfl ⟨rfl, rfl, rfl⟩

set_option maxRecDepth 100000 in
set_option maxHeartbeats 4000000 in
theorem c_maker_lo {ad : sA} {nw nt : Nat} {B : sB} {L : sL} {m : Nat} {y : Int32} (hm4 : m < 4) (hl : y < 0) : Cf yX5_maker cX5_maker 5 (some FieldType.int) 5 [.ref (ad 0 0), .int (nI m), .int y] ad nw nt B L (some (.int (-4))) (uB B 5 0 4 (B 5 0 4 + 1)) (L) := by
  have hC : ∀ Q, je_Ok (sCm yX5_maker cX5_maker 5 (some FieldType.int) 5 ad nw nt Q) RX5 cX5_maker 5 5 := fun _ => je_Cm_ok
  refine Cs_of [some (.ref (ad 0 0)), some (.int (nI m)), some (.int y), none, none] (by decide) rfl (Nat.le_of_ble_eq_true rfl) ?_
  refine Es_iload_n (hC _) dX5_maker_0 rfl ?_
  refine Es_fS (hC _) ms_X5_104 dX5_maker_1 (c_isMaker_in hm4) rfl rfl (by decide) (Nat.le_of_ble_eq_true rfl) ?_
  refine Es_if_ne (hC _) 13 dX5_maker_4 (by decide) (fun hb4 => ?_) (fun hb4 => False.elim ((by first | exact absurd hb4 (by decide) | exact absurd hb4 (by assumption) | exact hb4 (by assumption) | exact hb4 rfl | (simp_all [bI]; done))))
  refine Es_iload_n (hC _) dX5_maker_13 rfl ?_
  refine Es_iconst (v := 0) (hC _) dX5_maker_14 (by decide) ?_
  refine Es_sipush (v := 1000) (hC _) dX5_maker_15 (by decide) ?_
  refine Es_fS (hC _) ms_X5_92 dX5_maker_18 c_outside rfl rfl (by decide) (Nat.le_of_ble_eq_true rfl) ?_
  rw [show outs y 0 1000 = -4 from if_pos hl]
  refine Es_istore_n (lv' := [_, _, _, _, _]) (hC _) dX5_maker_21 (by decide) rfl rfl ?_
  refine Es_iload_n (hC _) dX5_maker_22 rfl ?_
  refine Es_if_eq (hC _) 32 dX5_maker_23 (by decide) (fun hb23 => False.elim (absurd hb23 (by decide))) (fun hb23 => ?_)
  first | refine Es_aload_n (hC _) dX5_maker_26 rfl ?_ | refine Es_aload_nN (hC _) dX5_maker_26 rfl ?_
  refine Es_iload_n (hC _) dX5_maker_27 rfl ?_
  refine Es_fV (hC _) mv_X5_70 dX5_maker_28 (c_refuse (k := 4) (by decide) (by decide)) rfl rfl ⟨_, rfl, rfl⟩ rfl rfl (by decide) (Nat.le_of_ble_eq_true rfl) ?_
  exact Es_iret dX5_maker_31 rfl ⟨rfl, rfl, rfl⟩

set_option maxRecDepth 100000 in
set_option maxHeartbeats 4000000 in
theorem c_maker_hi {ad : sA} {nw nt : Nat} {B : sB} {L : sL} {m : Nat} {y : Int32} (hm4 : m < 4) (hl : ¬ y < 0) (hh : 1000 < y) : Cf yX5_maker cX5_maker 5 (some FieldType.int) 5 [.ref (ad 0 0), .int (nI m), .int y] ad nw nt B L (some (.int (-6))) (uB B 5 0 6 (B 5 0 6 + 1)) (L) := by
  have hC : ∀ Q, je_Ok (sCm yX5_maker cX5_maker 5 (some FieldType.int) 5 ad nw nt Q) RX5 cX5_maker 5 5 := fun _ => je_Cm_ok
  refine Cs_of [some (.ref (ad 0 0)), some (.int (nI m)), some (.int y), none, none] (by decide) rfl (Nat.le_of_ble_eq_true rfl) ?_
  refine Es_iload_n (hC _) dX5_maker_0 rfl ?_
  refine Es_fS (hC _) ms_X5_104 dX5_maker_1 (c_isMaker_in hm4) rfl rfl (by decide) (Nat.le_of_ble_eq_true rfl) ?_
  refine Es_if_ne (hC _) 13 dX5_maker_4 (by decide) (fun hb4 => ?_) (fun hb4 => False.elim ((by first | exact absurd hb4 (by decide) | exact absurd hb4 (by assumption) | exact hb4 (by assumption) | exact hb4 rfl | (simp_all [bI]; done))))
  refine Es_iload_n (hC _) dX5_maker_13 rfl ?_
  refine Es_iconst (v := 0) (hC _) dX5_maker_14 (by decide) ?_
  refine Es_sipush (v := 1000) (hC _) dX5_maker_15 (by decide) ?_
  refine Es_fS (hC _) ms_X5_92 dX5_maker_18 c_outside rfl rfl (by decide) (Nat.le_of_ble_eq_true rfl) ?_
  rw [show outs y 0 1000 = -6 from (if_neg hl).trans (if_pos hh)]
  refine Es_istore_n (lv' := [_, _, _, _, _]) (hC _) dX5_maker_21 (by decide) rfl rfl ?_
  refine Es_iload_n (hC _) dX5_maker_22 rfl ?_
  refine Es_if_eq (hC _) 32 dX5_maker_23 (by decide) (fun hb23 => False.elim (absurd hb23 (by decide))) (fun hb23 => ?_)
  first | refine Es_aload_n (hC _) dX5_maker_26 rfl ?_ | refine Es_aload_nN (hC _) dX5_maker_26 rfl ?_
  refine Es_iload_n (hC _) dX5_maker_27 rfl ?_
  refine Es_fV (hC _) mv_X5_70 dX5_maker_28 (c_refuse (k := 6) (by decide) (by decide)) rfl rfl ⟨_, rfl, rfl⟩ rfl rfl (by decide) (Nat.le_of_ble_eq_true rfl) ?_
  exact Es_iret dX5_maker_31 rfl ⟨rfl, rfl, rfl⟩

set_option maxRecDepth 100000 in
set_option maxHeartbeats 4000000 in
theorem c_maker_ok {ad : sA} {nw nt : Nat} {B : sB} {L : sL} {m : Nat} {y : Int32} (hm4 : m < 4) (hl : ¬ y < 0) (hh : ¬ 1000 < y) (hnt : B 0 0 9 = nI nt) (h40 : nt ≤ 40) (hRO : RO nt B) : Cf yX5_maker cX5_maker 5 (some FieldType.int) 5 [.ref (ad 0 0), .int (nI m), .int y] ad nw nt B L (some (.int (B 4 0 m))) (uB B 4 0 m y) (rfL (uB B 4 0 m y) L m nt 40) := by
  have hC : ∀ Q, je_Ok (sCm yX5_maker cX5_maker 5 (some FieldType.int) 5 ad nw nt Q) RX5 cX5_maker 5 5 := fun _ => je_Cm_ok
  refine Cs_of [some (.ref (ad 0 0)), some (.int (nI m)), some (.int y), none, none] (by decide) rfl (Nat.le_of_ble_eq_true rfl) ?_
  refine Es_iload_n (hC _) dX5_maker_0 rfl ?_
  refine Es_fS (hC _) ms_X5_104 dX5_maker_1 (c_isMaker_in hm4) rfl rfl (by decide) (Nat.le_of_ble_eq_true rfl) ?_
  refine Es_if_ne (hC _) 13 dX5_maker_4 (by decide) (fun hb4 => ?_) (fun hb4 => False.elim ((by first | exact absurd hb4 (by decide) | exact absurd hb4 (by assumption) | exact hb4 (by assumption) | exact hb4 rfl | (simp_all [bI]; done))))
  refine Es_iload_n (hC _) dX5_maker_13 rfl ?_
  refine Es_iconst (v := 0) (hC _) dX5_maker_14 (by decide) ?_
  refine Es_sipush (v := 1000) (hC _) dX5_maker_15 (by decide) ?_
  refine Es_fS (hC _) ms_X5_92 dX5_maker_18 c_outside rfl rfl (by decide) (Nat.le_of_ble_eq_true rfl) ?_
  rw [show outs y 0 1000 = 0 from (if_neg hl).trans (if_neg hh)]
  refine Es_istore_n (lv' := [_, _, _, _, _]) (hC _) dX5_maker_21 (by decide) rfl rfl ?_
  refine Es_iload_n (hC _) dX5_maker_22 rfl ?_
  refine Es_if_eq (hC _) 32 dX5_maker_23 (by decide) (fun hb23 => ?_) (fun hb23 => False.elim (hb23 rfl))
  first | refine Es_aload_n (hC _) dX5_maker_32 rfl ?_ | refine Es_aload_nN (hC _) dX5_maker_32 rfl ?_
  refine Sg_X5_3 (hC _) fl_X5_36 dX5_maker_33 ?_
  refine Es_iload_n (hC _) dX5_maker_36 rfl ?_
  refine Es_fS (hC _) ms_X5_96 dX5_maker_37 (c_at (kd := 4) (n := 4) rfl rfl rfl hm4 (by decide)) rfl rfl (by decide) (Nat.le_of_ble_eq_true rfl) ?_
  refine Es_istore (lv' := [_, _, _, _, _]) (hC _) dX5_maker_40 (by decide) rfl rfl ?_
  first | refine Es_aload_n (hC _) dX5_maker_42 rfl ?_ | refine Es_aload_nN (hC _) dX5_maker_42 rfl ?_
  refine Sg_X5_3 (hC _) fl_X5_36 dX5_maker_43 ?_
  refine Es_iload_n (hC _) dX5_maker_46 rfl ?_
  refine Es_iload_n (hC _) dX5_maker_47 rfl ?_
  refine Es_fS (hC _) ms_X5_100 dX5_maker_48 (c_write (kd := 4) (n := 4) rfl (fun _ => rfl) rfl hm4 (by decide)) rfl rfl (by decide) (Nat.le_of_ble_eq_true rfl) ?_
  first | refine Es_aload_n (hC _) dX5_maker_51 rfl ?_ | refine Es_aload_nN (hC _) dX5_maker_51 rfl ?_
  refine Es_iload_n (hC _) dX5_maker_52 rfl ?_
  refine Es_fV (hC _) mv_X5_107 dX5_maker_53 (c_refit (by exact hnt) h40 hm4 (by exact hRO)) rfl rfl ⟨_, rfl, rfl⟩ rfl rfl (by decide) (Nat.le_of_ble_eq_true rfl) ?_
  refine Es_iload (hC _) dX5_maker_56 rfl ?_
  exact Es_iret dX5_maker_58 rfl ⟨rfl, rfl, rfl⟩

set_option maxRecDepth 100000 in
set_option maxHeartbeats 4000000 in
theorem r_maker_1 {ad : sA} {nw nt : Nat} {B : sB} {L : sL} {x y : Int32} (ho : out x 4) : Cf yX6_maker cX6_maker 4 (some FieldType.int) 5 [.ref (ad 25 0), .int x, .int y] ad nw nt B L (some (.int (-1))) (uB B 30 0 1 (B 30 0 1 + 1)) (L) := by
  have hC : ∀ Q, je_Ok (sCm yX6_maker cX6_maker 4 (some FieldType.int) 5 ad nw nt Q) RX6 cX6_maker 4 5 := fun _ => je_Cm_ok
  refine Cs_of [some (.ref (ad 25 0)), some (.int x), some (.int y), none] (by decide) rfl (Nat.le_of_ble_eq_true rfl) ?_
  refine Es_iload_n (hC _) dX6_maker_0 rfl ?_
  refine Es_iconst (v := 4) (hC _) dX6_maker_1 (by decide) ?_
  refine Es_fS (hC _) ms_X6_89 dX6_maker_2 (r_isIn_out (n := 4) ho) rfl rfl (by decide) (Nat.le_of_ble_eq_true rfl) ?_
  refine Es_if_ne (hC _) 14 dX6_maker_5 (by decide) (fun hb5 => False.elim ((by first | exact absurd hb5 (by decide) | exact absurd hb5 (by assumption) | exact hb5 (by assumption) | exact hb5 rfl | (simp_all [bI]; done)))) (fun hb5 => ?_)
  first | refine Es_aload_n (hC _) dX6_maker_8 rfl ?_ | refine Es_aload_nN (hC _) dX6_maker_8 rfl ?_
  refine Es_iconst (v := -1) (hC _) dX6_maker_9 (by decide) ?_
  refine Es_fV (hC _) mv_X6_93 dX6_maker_10 (r_refuse (k := 1) (by decide) (by decide)) rfl rfl ⟨_, rfl, rfl⟩ rfl rfl (by decide) (Nat.le_of_ble_eq_true rfl) ?_
  exact Es_iret dX6_maker_13 rfl ⟨rfl, rfl, rfl⟩

set_option maxRecDepth 100000 in
set_option maxHeartbeats 4000000 in
theorem r_maker_lo {ad : sA} {nw nt : Nat} {B : sB} {L : sL} {m : Nat} {y : Int32} (hm4 : m < 4) (hl : y < 0) : Cf yX6_maker cX6_maker 4 (some FieldType.int) 5 [.ref (ad 25 0), .int (nI m), .int y] ad nw nt B L (some (.int (-4))) (uB B 30 0 4 (B 30 0 4 + 1)) (L) := by
  have hC : ∀ Q, je_Ok (sCm yX6_maker cX6_maker 4 (some FieldType.int) 5 ad nw nt Q) RX6 cX6_maker 4 5 := fun _ => je_Cm_ok
  refine Cs_of [some (.ref (ad 25 0)), some (.int (nI m)), some (.int y), none] (by decide) rfl (Nat.le_of_ble_eq_true rfl) ?_
  refine Es_iload_n (hC _) dX6_maker_0 rfl ?_
  refine Es_iconst (v := 4) (hC _) dX6_maker_1 (by decide) ?_
  refine Es_fS (hC _) ms_X6_89 dX6_maker_2 (r_isIn_in (n := 4) hm4 (by decide)) rfl rfl (by decide) (Nat.le_of_ble_eq_true rfl) ?_
  refine Es_if_ne (hC _) 14 dX6_maker_5 (by decide) (fun hb5 => ?_) (fun hb5 => False.elim ((by first | exact absurd hb5 (by decide) | exact absurd hb5 (by assumption) | exact hb5 (by assumption) | exact hb5 rfl | (simp_all [bI]; done))))
  refine Es_iload_n (hC _) dX6_maker_14 rfl ?_
  refine Es_if_ge (hC _) 25 dX6_maker_15 (by decide) (fun hb15 => False.elim (Int32.not_le.mpr hl hb15)) (fun hb15 => ?_)
  first | refine Es_aload_n (hC _) dX6_maker_18 rfl ?_ | refine Es_aload_nN (hC _) dX6_maker_18 rfl ?_
  refine Es_bipush (v := -4) (hC _) dX6_maker_19 (by decide) ?_
  refine Es_fV (hC _) mv_X6_93 dX6_maker_21 (r_refuse (k := 4) (by decide) (by decide)) rfl rfl ⟨_, rfl, rfl⟩ rfl rfl (by decide) (Nat.le_of_ble_eq_true rfl) ?_
  exact Es_iret dX6_maker_24 rfl ⟨rfl, rfl, rfl⟩

set_option maxRecDepth 100000 in
set_option maxHeartbeats 4000000 in
theorem r_maker_hi {ad : sA} {nw nt : Nat} {B : sB} {L : sL} {m : Nat} {y : Int32} (hm4 : m < 4) (hl : ¬ y < 0) (hh : 1000 < y) : Cf yX6_maker cX6_maker 4 (some FieldType.int) 5 [.ref (ad 25 0), .int (nI m), .int y] ad nw nt B L (some (.int (-6))) (uB B 30 0 6 (B 30 0 6 + 1)) (L) := by
  have hC : ∀ Q, je_Ok (sCm yX6_maker cX6_maker 4 (some FieldType.int) 5 ad nw nt Q) RX6 cX6_maker 4 5 := fun _ => je_Cm_ok
  refine Cs_of [some (.ref (ad 25 0)), some (.int (nI m)), some (.int y), none] (by decide) rfl (Nat.le_of_ble_eq_true rfl) ?_
  refine Es_iload_n (hC _) dX6_maker_0 rfl ?_
  refine Es_iconst (v := 4) (hC _) dX6_maker_1 (by decide) ?_
  refine Es_fS (hC _) ms_X6_89 dX6_maker_2 (r_isIn_in (n := 4) hm4 (by decide)) rfl rfl (by decide) (Nat.le_of_ble_eq_true rfl) ?_
  refine Es_if_ne (hC _) 14 dX6_maker_5 (by decide) (fun hb5 => ?_) (fun hb5 => False.elim ((by first | exact absurd hb5 (by decide) | exact absurd hb5 (by assumption) | exact hb5 (by assumption) | exact hb5 rfl | (simp_all [bI]; done))))
  refine Es_iload_n (hC _) dX6_maker_14 rfl ?_
  refine Es_if_ge (hC _) 25 dX6_maker_15 (by decide) (fun hb15 => ?_) (fun hb15 => False.elim (hb15 (Int32.not_lt.mp hl)))
  refine Es_iload_n (hC _) dX6_maker_25 rfl ?_
  refine Es_sipush (v := 1000) (hC _) dX6_maker_26 (by decide) ?_
  refine Es_icmp_le (hC _) 39 dX6_maker_29 (by decide) (fun hb29 => False.elim (Int32.not_le.mpr hh hb29)) (fun hb29 => ?_)
  first | refine Es_aload_n (hC _) dX6_maker_32 rfl ?_ | refine Es_aload_nN (hC _) dX6_maker_32 rfl ?_
  refine Es_bipush (v := -6) (hC _) dX6_maker_33 (by decide) ?_
  refine Es_fV (hC _) mv_X6_93 dX6_maker_35 (r_refuse (k := 6) (by decide) (by decide)) rfl rfl ⟨_, rfl, rfl⟩ rfl rfl (by decide) (Nat.le_of_ble_eq_true rfl) ?_
  exact Es_iret dX6_maker_38 rfl ⟨rfl, rfl, rfl⟩

set_option maxRecDepth 100000 in
set_option maxHeartbeats 4000000 in
theorem r_maker_ok {ad : sA} {nw nt : Nat} {B : sB} {L : sL} {m : Nat} {y : Int32} (hm4 : m < 4) (hl : ¬ y < 0) (hh : ¬ 1000 < y) : Cf yX6_maker cX6_maker 4 (some FieldType.int) 5 [.ref (ad 25 0), .int (nI m), .int y] ad nw nt B L (some (.int (B 32 0 m))) (uB B 32 0 m y) (L) := by
  have hC : ∀ Q, je_Ok (sCm yX6_maker cX6_maker 4 (some FieldType.int) 5 ad nw nt Q) RX6 cX6_maker 4 5 := fun _ => je_Cm_ok
  refine Cs_of [some (.ref (ad 25 0)), some (.int (nI m)), some (.int y), none] (by decide) rfl (Nat.le_of_ble_eq_true rfl) ?_
  refine Es_iload_n (hC _) dX6_maker_0 rfl ?_
  refine Es_iconst (v := 4) (hC _) dX6_maker_1 (by decide) ?_
  refine Es_fS (hC _) ms_X6_89 dX6_maker_2 (r_isIn_in (n := 4) hm4 (by decide)) rfl rfl (by decide) (Nat.le_of_ble_eq_true rfl) ?_
  refine Es_if_ne (hC _) 14 dX6_maker_5 (by decide) (fun hb5 => ?_) (fun hb5 => False.elim ((by first | exact absurd hb5 (by decide) | exact absurd hb5 (by assumption) | exact hb5 (by assumption) | exact hb5 rfl | (simp_all [bI]; done))))
  refine Es_iload_n (hC _) dX6_maker_14 rfl ?_
  refine Es_if_ge (hC _) 25 dX6_maker_15 (by decide) (fun hb15 => ?_) (fun hb15 => False.elim (hb15 (Int32.not_lt.mp hl)))
  refine Es_iload_n (hC _) dX6_maker_25 rfl ?_
  refine Es_sipush (v := 1000) (hC _) dX6_maker_26 (by decide) ?_
  refine Es_icmp_le (hC _) 39 dX6_maker_29 (by decide) (fun hb29 => ?_) (fun hb29 => False.elim (hb29 (Int32.not_lt.mp hh)))
  first | refine Es_aload_n (hC _) dX6_maker_39 rfl ?_ | refine Es_aload_nN (hC _) dX6_maker_39 rfl ?_
  refine Sg_X6_2 (hC _) fl_X6_16 dX6_maker_40 ?_
  refine Es_iload_n (hC _) dX6_maker_43 rfl ?_
  refine Es_ialdN (hC _) dX6_maker_44 rfl rfl rfl hm4 (by decide) ?_
  refine Es_istore_n (lv' := [_, _, _, _]) (hC _) dX6_maker_45 (by decide) rfl rfl ?_
  first | refine Es_aload_n (hC _) dX6_maker_46 rfl ?_ | refine Es_aload_nN (hC _) dX6_maker_46 rfl ?_
  refine Sg_X6_2 (hC _) fl_X6_16 dX6_maker_47 ?_
  refine Es_iload_n (hC _) dX6_maker_50 rfl ?_
  refine Es_iload_n (hC _) dX6_maker_51 rfl ?_
  refine Es_iastN (hC _) dX6_maker_52 rfl (fun _ => rfl) rfl hm4 (by decide) ?_
  refine Es_iload_n (hC _) dX6_maker_53 rfl ?_
  exact Es_iret dX6_maker_54 rfl ⟨rfl, rfl, rfl⟩

theorem s_maker {ad : sA} {nw nt : Nat} {B : sB} {L : sL} (hR : Rel nw nt B L) (x y : Int32) : Stq yX5_maker cX5_maker 5 5 yX6_maker cX6_maker 4 5 (some .int) [.int x, .int y] ad nw nt B L := by
  obtain ⟨s1, s2, s3, s4, s5, s6, s7, s8, s9, s10⟩ := hR.1
  rcases in_out x (n := 4) (by omega) with ⟨m, hm4, rfl⟩ | ho
  · by_cases hl : y < 0
    · exact ⟨_, _, _, _, _, c_maker_lo hm4 hl, r_maker_lo hm4 hl, Rel_refuse hR⟩
    · by_cases hh : 1000 < y
      · exact ⟨_, _, _, _, _, c_maker_hi hm4 hl hh, r_maker_hi hm4 hl hh, Rel_refuse hR⟩
      · obtain ⟨n, hn, hyn⟩ : ∃ n, n ≤ 1000 ∧ y = nI n := nI_of2 (M := 1000) rfl hl (Int32.not_lt.mp hh)
        have hRO : RO nt B := fun t ht => by
          obtain ⟨b1, b2, b3, b4, b5, b6, b7, b8, b9, b10, b11, b12, b13, b14, r, b15, b16, b17, b18⟩ := hR.2.2.2.1.1 t ht
          exact ⟨r + 1, by omega, b17, fun i hi => lea_ok (b18 i (by omega)).2.1⟩
        refine ⟨_, _, _, _, _, c_maker_ok hm4 hl hh s5 s6 hRO, (by rw [(hR.2.1.2.1 m hm4).1]; exact r_maker_ok hm4 hl hh), ?_⟩
        unfold Rel at hR ⊢
        obtain ⟨q1, q2, q3, q4, q5, q6⟩ := hR
        simp only [uB_2, u2_a, uB_k, ne_eq, Nat.reduceEqDiff, not_false_eq_true]
        refine ⟨q1, ⟨q2.1, fun k hk => ?_, q2.2.2⟩, q3, q4, q5, fun t ht => ?_⟩
        · by_cases hkm : k = m
          · subst hkm
            rw [upd_s, upd_s]
            exact ⟨rfl, n, hn, hyn⟩
          · rw [upd_n hkm, upd_n hkm]
            exact q2.2.1 k hk
        · obtain ⟨b1, b2, b3, b4, b5, b6, b7, b8, b9, b10, b11, b12, b13, b14, r, b15, b16, b17, b18⟩ := q4.1 t ht
          intro r' m' h1 h2 h3 h4
          have hrr : r' + 1 = r + 1 := (nI_eq (by omega) (by omega)).mp (h1.symm.trans b16)
          by_cases hmm : m' = m
          · subst hmm
            have e1 : uB B 4 0 m' y 21 t 1 = nI m' := by
              rw [uB_k (by decide)]
              exact b2.trans h3
            obtain ⟨z1, z2⟩ := rfL_y (B := uB B 4 0 m' y) (L := L) ht e1 40 (by omega)
            rw [uB_s, uB_k (by decide), uB_k (by decide), uB_k (by decide), b17, nI_clamp (by omega), ← hrr] at z1 z2
            rw [upd_s]
            exact ⟨z1, z2⟩
          · have e1 : ¬ uB B 4 0 m y 21 t 1 = nI m := by
              rw [uB_k (by decide), b2, h3]
              exact fun z => hmm ((nI_eq (by omega) (by omega)).mp z)
            rw [rfL_o 40 (Or.inr e1), upd_n hmm]
            exact q6 t ht r' m' h1 h2 h3 h4
  · exact ⟨_, _, _, _, _, c_maker_1 ho, r_maker_1 ho, Rel_refuse hR⟩
