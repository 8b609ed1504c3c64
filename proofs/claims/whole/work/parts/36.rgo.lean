set_option maxRecDepth 100000 in
set_option maxHeartbeats 4000000 in
theorem r_goes_a {ad : sA} {nw nt : Nat} {B : sB} {L : sL} {w q : Nat} {x : Int32} (hw5 : w < 5) (hq7 : q < 7) (hon : B 40 0 (7 * w + q) = -1) : Cf yX6_goes cX6_goes 3 (some FieldType.boolean) 0 [.ref (ad 25 0), .int (nI (7 * w + q)), .int x] ad nw nt B L (some (.int 0)) (B) (L) := by
  have hC : ∀ Q, je_Ok (sCm yX6_goes cX6_goes 3 (some FieldType.boolean) 0 ad nw nt Q) RX6 cX6_goes 3 0 := fun _ => je_Cm_ok
  refine Cs_of [some (.ref (ad 25 0)), some (.int (nI (7 * w + q))), some (.int x)] (by decide) rfl (Nat.le_of_ble_eq_true rfl) ?_
  first | refine Es_aload_n (hC _) dX6_goes_0 rfl ?_ | refine Es_aload_nN (hC _) dX6_goes_0 rfl ?_
  refine Sg_X6_10 (hC _) fl_X6_29 dX6_goes_1 ?_
  refine Es_iload_n (hC _) dX6_goes_4 rfl ?_
  refine Es_ialdN (hC _) dX6_goes_5 rfl rfl rfl (by omega) (by decide) ?_
  refine Es_if_lt (hC _) 37 dX6_goes_6 (by decide) (fun hb6 => ?_) (fun hb6 => False.elim (hb6 (by rw [hon]; decide)))
  refine Es_iconst (v := 0) (hC _) dX6_goes_37 (by decide) ?_
  exact Es_iret dX6_goes_38 rfl ⟨rfl, rfl, rfl⟩

set_option maxRecDepth 100000 in
set_option maxHeartbeats 4000000 in
theorem r_goes_b {ad : sA} {nw nt : Nat} {B : sB} {L : sL} {w q : Nat} {x : Int32} (hw5 : w < 5) (hq7 : q < 7) {t : Nat} (ht : t < nt) (h40 : nt ≤ 40) (hon : B 40 0 (7 * w + q) = nI t) (h4 : B 39 0 (7 * w + q) = 4) : Cf yX6_goes cX6_goes 3 (some FieldType.boolean) 0 [.ref (ad 25 0), .int (nI (7 * w + q)), .int x] ad nw nt B L (some (.int 0)) (B) (L) := by
  have hC : ∀ Q, je_Ok (sCm yX6_goes cX6_goes 3 (some FieldType.boolean) 0 ad nw nt Q) RX6 cX6_goes 3 0 := fun _ => je_Cm_ok
  refine Cs_of [some (.ref (ad 25 0)), some (.int (nI (7 * w + q))), some (.int x)] (by decide) rfl (Nat.le_of_ble_eq_true rfl) ?_
  first | refine Es_aload_n (hC _) dX6_goes_0 rfl ?_ | refine Es_aload_nN (hC _) dX6_goes_0 rfl ?_
  refine Sg_X6_10 (hC _) fl_X6_29 dX6_goes_1 ?_
  refine Es_iload_n (hC _) dX6_goes_4 rfl ?_
  refine Es_ialdN (hC _) dX6_goes_5 rfl rfl rfl (by omega) (by decide) ?_
  refine Es_if_lt (hC _) 37 dX6_goes_6 (by decide) (fun hb6 => False.elim (nI_pos (by omega) (hon ▸ hb6))) (fun hb6 => ?_)
  first | refine Es_aload_n (hC _) dX6_goes_9 rfl ?_ | refine Es_aload_nN (hC _) dX6_goes_9 rfl ?_
  refine Sg_X6_9 (hC _) fl_X6_26 dX6_goes_10 ?_
  refine Es_iload_n (hC _) dX6_goes_13 rfl ?_
  refine Es_ialdN (hC _) dX6_goes_14 rfl rfl rfl (by omega) (by decide) ?_
  refine Es_iconst (v := 4) (hC _) dX6_goes_15 (by decide) ?_
  refine Es_icmp_eq (hC _) 37 dX6_goes_16 (by decide) (fun hb16 => ?_) (fun hb16 => False.elim (hb16 h4))
  refine Es_iconst (v := 0) (hC _) dX6_goes_37 (by decide) ?_
  exact Es_iret dX6_goes_38 rfl ⟨rfl, rfl, rfl⟩

set_option maxRecDepth 100000 in
set_option maxHeartbeats 4000000 in
theorem r_goes_c {ad : sA} {nw nt : Nat} {B : sB} {L : sL} {w q : Nat} {x : Int32} (hw5 : w < 5) (hq7 : q < 7) {t : Nat} (ht : t < nt) (h40 : nt ≤ 40) (hon : B 40 0 (7 * w + q) = nI t) (h4 : ¬ B 39 0 (7 * w + q) = 4) (hx : ¬ x = 0) : Cf yX6_goes cX6_goes 3 (some FieldType.boolean) 0 [.ref (ad 25 0), .int (nI (7 * w + q)), .int x] ad nw nt B L (some (.int 1)) (B) (L) := by
  have hC : ∀ Q, je_Ok (sCm yX6_goes cX6_goes 3 (some FieldType.boolean) 0 ad nw nt Q) RX6 cX6_goes 3 0 := fun _ => je_Cm_ok
  refine Cs_of [some (.ref (ad 25 0)), some (.int (nI (7 * w + q))), some (.int x)] (by decide) rfl (Nat.le_of_ble_eq_true rfl) ?_
  first | refine Es_aload_n (hC _) dX6_goes_0 rfl ?_ | refine Es_aload_nN (hC _) dX6_goes_0 rfl ?_
  refine Sg_X6_10 (hC _) fl_X6_29 dX6_goes_1 ?_
  refine Es_iload_n (hC _) dX6_goes_4 rfl ?_
  refine Es_ialdN (hC _) dX6_goes_5 rfl rfl rfl (by omega) (by decide) ?_
  refine Es_if_lt (hC _) 37 dX6_goes_6 (by decide) (fun hb6 => False.elim (nI_pos (by omega) (hon ▸ hb6))) (fun hb6 => ?_)
  first | refine Es_aload_n (hC _) dX6_goes_9 rfl ?_ | refine Es_aload_nN (hC _) dX6_goes_9 rfl ?_
  refine Sg_X6_9 (hC _) fl_X6_26 dX6_goes_10 ?_
  refine Es_iload_n (hC _) dX6_goes_13 rfl ?_
  refine Es_ialdN (hC _) dX6_goes_14 rfl rfl rfl (by omega) (by decide) ?_
  refine Es_iconst (v := 4) (hC _) dX6_goes_15 (by decide) ?_
  refine Es_icmp_eq (hC _) 37 dX6_goes_16 (by decide) (fun hb16 => False.elim (h4 hb16)) (fun hb16 => ?_)
  refine Es_iload_n (hC _) dX6_goes_19 rfl ?_
  refine Es_if_ne (hC _) 33 dX6_goes_20 (by decide) (fun hb20 => ?_) (fun hb20 => False.elim (hx hb20))
  refine Es_iconst (v := 1) (hC _) dX6_goes_33 (by decide) ?_
  refine Es_goto (hC _) 38 dX6_goes_34 (by decide) ?_
  exact Es_iret dX6_goes_38 rfl ⟨rfl, rfl, rfl⟩

set_option maxRecDepth 100000 in
set_option maxHeartbeats 4000000 in
theorem r_goes_d {ad : sA} {nw nt : Nat} {B : sB} {L : sL} {w q : Nat} {x : Int32} (hw5 : w < 5) (hq7 : q < 7) {t : Nat} (ht : t < nt) (h40 : nt ≤ 40) (hon : B 40 0 (7 * w + q) = nI t) (h4 : ¬ B 39 0 (7 * w + q) = 4) (hx : x = 0) (h3 : B 39 0 (7 * w + q) = 3) : Cf yX6_goes cX6_goes 3 (some FieldType.boolean) 0 [.ref (ad 25 0), .int (nI (7 * w + q)), .int x] ad nw nt B L (some (.int 0)) (B) (L) := by
  have hC : ∀ Q, je_Ok (sCm yX6_goes cX6_goes 3 (some FieldType.boolean) 0 ad nw nt Q) RX6 cX6_goes 3 0 := fun _ => je_Cm_ok
  refine Cs_of [some (.ref (ad 25 0)), some (.int (nI (7 * w + q))), some (.int x)] (by decide) rfl (Nat.le_of_ble_eq_true rfl) ?_
  first | refine Es_aload_n (hC _) dX6_goes_0 rfl ?_ | refine Es_aload_nN (hC _) dX6_goes_0 rfl ?_
  refine Sg_X6_10 (hC _) fl_X6_29 dX6_goes_1 ?_
  refine Es_iload_n (hC _) dX6_goes_4 rfl ?_
  refine Es_ialdN (hC _) dX6_goes_5 rfl rfl rfl (by omega) (by decide) ?_
  refine Es_if_lt (hC _) 37 dX6_goes_6 (by decide) (fun hb6 => False.elim (nI_pos (by omega) (hon ▸ hb6))) (fun hb6 => ?_)
  first | refine Es_aload_n (hC _) dX6_goes_9 rfl ?_ | refine Es_aload_nN (hC _) dX6_goes_9 rfl ?_
  refine Sg_X6_9 (hC _) fl_X6_26 dX6_goes_10 ?_
  refine Es_iload_n (hC _) dX6_goes_13 rfl ?_
  refine Es_ialdN (hC _) dX6_goes_14 rfl rfl rfl (by omega) (by decide) ?_
  refine Es_iconst (v := 4) (hC _) dX6_goes_15 (by decide) ?_
  refine Es_icmp_eq (hC _) 37 dX6_goes_16 (by decide) (fun hb16 => False.elim (h4 hb16)) (fun hb16 => ?_)
  refine Es_iload_n (hC _) dX6_goes_19 rfl ?_
  refine Es_if_ne (hC _) 33 dX6_goes_20 (by decide) (fun hb20 => False.elim (hb20 hx)) (fun hb20 => ?_)
  first | refine Es_aload_n (hC _) dX6_goes_23 rfl ?_ | refine Es_aload_nN (hC _) dX6_goes_23 rfl ?_
  refine Sg_X6_9 (hC _) fl_X6_26 dX6_goes_24 ?_
  refine Es_iload_n (hC _) dX6_goes_27 rfl ?_
  refine Es_ialdN (hC _) dX6_goes_28 rfl rfl rfl (by omega) (by decide) ?_
  refine Es_iconst (v := 3) (hC _) dX6_goes_29 (by decide) ?_
  refine Es_icmp_eq (hC _) 37 dX6_goes_30 (by decide) (fun hb30 => ?_) (fun hb30 => False.elim (hb30 h3))
  refine Es_iconst (v := 0) (hC _) dX6_goes_37 (by decide) ?_
  exact Es_iret dX6_goes_38 rfl ⟨rfl, rfl, rfl⟩

set_option maxRecDepth 100000 in
set_option maxHeartbeats 4000000 in
theorem r_goes_e {ad : sA} {nw nt : Nat} {B : sB} {L : sL} {w q : Nat} {x : Int32} (hw5 : w < 5) (hq7 : q < 7) {t : Nat} (ht : t < nt) (h40 : nt ≤ 40) (hon : B 40 0 (7 * w + q) = nI t) (h4 : ¬ B 39 0 (7 * w + q) = 4) (hx : x = 0) (h3 : ¬ B 39 0 (7 * w + q) = 3) : Cf yX6_goes cX6_goes 3 (some FieldType.boolean) 0 [.ref (ad 25 0), .int (nI (7 * w + q)), .int x] ad nw nt B L (some (.int 1)) (B) (L) := by
  have hC : ∀ Q, je_Ok (sCm yX6_goes cX6_goes 3 (some FieldType.boolean) 0 ad nw nt Q) RX6 cX6_goes 3 0 := fun _ => je_Cm_ok
  refine Cs_of [some (.ref (ad 25 0)), some (.int (nI (7 * w + q))), some (.int x)] (by decide) rfl (Nat.le_of_ble_eq_true rfl) ?_
  first | refine Es_aload_n (hC _) dX6_goes_0 rfl ?_ | refine Es_aload_nN (hC _) dX6_goes_0 rfl ?_
  refine Sg_X6_10 (hC _) fl_X6_29 dX6_goes_1 ?_
  refine Es_iload_n (hC _) dX6_goes_4 rfl ?_
  refine Es_ialdN (hC _) dX6_goes_5 rfl rfl rfl (by omega) (by decide) ?_
  refine Es_if_lt (hC _) 37 dX6_goes_6 (by decide) (fun hb6 => False.elim (nI_pos (by omega) (hon ▸ hb6))) (fun hb6 => ?_)
  first | refine Es_aload_n (hC _) dX6_goes_9 rfl ?_ | refine Es_aload_nN (hC _) dX6_goes_9 rfl ?_
  refine Sg_X6_9 (hC _) fl_X6_26 dX6_goes_10 ?_
  refine Es_iload_n (hC _) dX6_goes_13 rfl ?_
  refine Es_ialdN (hC _) dX6_goes_14 rfl rfl rfl (by omega) (by decide) ?_
  refine Es_iconst (v := 4) (hC _) dX6_goes_15 (by decide) ?_
  refine Es_icmp_eq (hC _) 37 dX6_goes_16 (by decide) (fun hb16 => False.elim (h4 hb16)) (fun hb16 => ?_)
  refine Es_iload_n (hC _) dX6_goes_19 rfl ?_
  refine Es_if_ne (hC _) 33 dX6_goes_20 (by decide) (fun hb20 => False.elim (hb20 hx)) (fun hb20 => ?_)
  first | refine Es_aload_n (hC _) dX6_goes_23 rfl ?_ | refine Es_aload_nN (hC _) dX6_goes_23 rfl ?_
  refine Sg_X6_9 (hC _) fl_X6_26 dX6_goes_24 ?_
  refine Es_iload_n (hC _) dX6_goes_27 rfl ?_
  refine Es_ialdN (hC _) dX6_goes_28 rfl rfl rfl (by omega) (by decide) ?_
  refine Es_iconst (v := 3) (hC _) dX6_goes_29 (by decide) ?_
  refine Es_icmp_eq (hC _) 37 dX6_goes_30 (by decide) (fun hb30 => False.elim (h3 hb30)) (fun hb30 => ?_)
  refine Es_iconst (v := 1) (hC _) dX6_goes_33 (by decide) ?_
  refine Es_goto (hC _) 38 dX6_goes_34 (by decide) ?_
  exact Es_iret dX6_goes_38 rfl ⟨rfl, rfl, rfl⟩

theorem r_goes_n {ad : sA} {nw nt : Nat} {B : sB} {L : sL} {w p q : Nat} {x : Int32} (hw5 : w < 5) (h40 : nt ≤ 40) (hX : PX nt B w p) (hq : q < p) (h : B 19 w q = 4 ∨ (B 19 w q = 3 ∧ x = 0) ∨ B 20 w q = -1) : Cf yX6_goes cX6_goes 3 (some FieldType.boolean) 0 [.ref (ad 25 0), .int (nI (7 * w + q)), .int x] ad nw nt B L (some (.int 0)) B L := by
  have h7 := hX.1.1
  obtain ⟨e1, e2⟩ := hX.2.2 q hq
  rcases (hX.1.2.2 q hq).2 with hon | ⟨t, ht, hon⟩
  · exact r_goes_a hw5 (by omega) (e2.trans hon)
  · by_cases h4 : B 19 w q = 4
    · exact r_goes_b hw5 (by omega) ht h40 (e2.trans hon) (e1.trans h4)
    · have h3 : B 19 w q = 3 ∧ x = 0 := by
        rcases h with h | h | h
        · exact (h4 h).elim
        · exact h
        · rw [hon] at h
          exact (nI_m1 (by omega) h).elim
      exact r_goes_d hw5 (by omega) ht h40 (e2.trans hon) (fun z => h4 (e1.symm.trans z)) h3.2 (e1.trans h3.1)
theorem r_goes_t {ad : sA} {nw nt : Nat} {B : sB} {L : sL} {w p q t : Nat} {x : Int32} (hw5 : w < 5) (h40 : nt ≤ 40) (hX : PX nt B w p) (hq : q < p) (ht : t < nt) (hon : B 20 w q = nI t) (h4 : ¬ B 19 w q = 4) (h3 : ¬ (B 19 w q = 3 ∧ x = 0)) : Cf yX6_goes cX6_goes 3 (some FieldType.boolean) 0 [.ref (ad 25 0), .int (nI (7 * w + q)), .int x] ad nw nt B L (some (.int 1)) B L := by
  have h7 := hX.1.1
  obtain ⟨e1, e2⟩ := hX.2.2 q hq
  by_cases hx : x = 0
  · exact r_goes_e hw5 (by omega) ht h40 (e2.trans hon) (fun z => h4 (e1.symm.trans z)) hx (fun z => h3 ⟨e1.symm.trans z, hx⟩)
  · exact r_goes_c hw5 (by omega) ht h40 (e2.trans hon) (fun z => h4 (e1.symm.trans z)) hx
theorem PX_r {nt : Nat} {B : sB} {w p w' q : Nat} {x n : Int32} (hX : PX nt B w p) : PX nt (rlR B w' x n q) w p := by
  unfold PX PW
  rw [rlR_k (by decide), rlR_k (by decide), rlR_k (by decide), rlR_k (by decide), rlR_k (by decide), rlR_k (by decide)]
  exact hX
theorem PX_c {nt : Nat} {B : sB} {w p w' q : Nat} {x n : Int32} (hX : PX nt B w p) : PX nt (rlC B w' x n q) w p := by
  unfold PX PW
  rw [rlC_k (by decide), rlC_k (by decide), rlC_k (by decide), rlC_k (by decide), rlC_k (by decide), rlC_k (by decide)]
  exact hX
set_option maxRecDepth 100000 in
set_option maxHeartbeats 4000000 in
theorem l_go1 {ad : sA} {nw nt : Nat} {B : sB} {L : sL} {bc bs : Nat} {Q : Option Value → sB → sL → Prop} {w p m : Nat} {x : Int32} (h40 : nt ≤ 40) (hw5 : w < 5) (hX : PX nt B w p) (hm : m ≤ 10000) (hLr : ∀ q t, q < p → rO B w x q = some t → ∃ len, B 46 0 t = nI len ∧ len + m ≤ 1000000) (kk : Es (sCm yX6_go cX6_go 5 (some .int) 5 ad nw nt Q) 5 124 [some (.ref (ad 25 0)), some (.int (nI w)), some (.int (nI m)), some (.int x), some (.int (nI p))] [] ad nw nt B L bc bs) : ∀ (n i : Nat), i ≤ p → p - i = n → Es (sCm yX6_go cX6_go 5 (some .int) 5 ad nw nt Q) 5 63 [some (.ref (ad 25 0)), some (.int (nI w)), some (.int (nI m)), some (.int x), some (.int (nI i))] [] ad nw nt B L bc bs := by
  have hC : ∀ Q, je_Ok (sCm yX6_go cX6_go 5 (some .int) 5 ad nw nt Q) RX6 cX6_go 5 5 := fun _ => je_Cm_ok
  have h7 := hX.1.1
  intro n
  induction n with
  | zero =>
    intro i hi hn
    have hik : i = p := by omega
    subst hik
    refine Es_iload (hC _) dX6_go_63 rfl ?_
    first | refine Es_aload_n (hC _) dX6_go_65 rfl ?_ | refine Es_aload_nN (hC _) dX6_go_65 rfl ?_
    refine Sg_X6_8 (hC _) fl_X6_23 dX6_go_66 ?_
    refine Es_iload_n (hC _) dX6_go_69 rfl ?_
    refine Es_ialdN (hC _) dX6_go_70 rfl rfl rfl (by omega) (by decide) ?_
    rw [hX.2.1]
    refine Es_icmp_ge (hC _) 124 dX6_go_71 (by decide) (fun hb71 => ?_) (fun hb71 => False.elim (hb71 (nI_le (Nat.le_refl _) (by omega))))
    exact kk
  | succ n ih =>
    intro i hi hn
    rcases rO_cs (x := x) hX.1 (show i < p by omega) h40 with ⟨e, he⟩ | ⟨t, ht, e, hon, h4, h3⟩
    · skip
      refine Es_iload (hC _) dX6_go_63 rfl ?_
      first | refine Es_aload_n (hC _) dX6_go_65 rfl ?_ | refine Es_aload_nN (hC _) dX6_go_65 rfl ?_
      refine Sg_X6_8 (hC _) fl_X6_23 dX6_go_66 ?_
      refine Es_iload_n (hC _) dX6_go_69 rfl ?_
      refine Es_ialdN (hC _) dX6_go_70 rfl rfl rfl (by omega) (by decide) ?_
      rw [hX.2.1]
      refine Es_icmp_ge (hC _) 124 dX6_go_71 (by decide) (fun hb71 => False.elim (nI_ge (b := p) (a := i) (by omega) (by omega) hb71)) (fun hb71 => ?_)
      first | refine Es_aload_n (hC _) dX6_go_74 rfl ?_ | refine Es_aload_nN (hC _) dX6_go_74 rfl ?_
      refine Es_iload_n (hC _) dX6_go_75 rfl ?_
      refine Es_iload (hC _) dX6_go_76 rfl ?_
      refine Es_fS (hC _) ms_X6_97 dX6_go_78 r_spot rfl rfl (by decide) (Nat.le_of_ble_eq_true rfl) ?_
      refine Es_iload_n (hC _) dX6_go_81 rfl ?_
      refine Es_fV (hC _) mv_X6_169 dX6_go_82 (r_goes_n hw5 h40 hX (by omega) he) rfl rfl ⟨_, rfl, rfl⟩ rfl rfl (by decide) (Nat.le_of_ble_eq_true rfl) ?_
      refine Es_if_eq (hC _) 118 dX6_go_85 (by decide) (fun hb85 => ?_) (fun hb85 => False.elim (hb85 rfl))
      refine Es_iinc (lv' := [_, _, _, _, _]) (hC _) dX6_go_118 (by decide) rfl (show _ + Int32.ofInt (1) = _ + (1) from rfl) rfl rfl ?_
      refine Es_goto (hC _) 63 dX6_go_121 (by decide) ?_
      rw [nI_1]
      exact ih (i + 1) (by omega) (by omega)
    · obtain ⟨len, hlen, hlm⟩ := hLr i t (by omega) e
      refine Es_iload (hC _) dX6_go_63 rfl ?_
      first | refine Es_aload_n (hC _) dX6_go_65 rfl ?_ | refine Es_aload_nN (hC _) dX6_go_65 rfl ?_
      refine Sg_X6_8 (hC _) fl_X6_23 dX6_go_66 ?_
      refine Es_iload_n (hC _) dX6_go_69 rfl ?_
      refine Es_ialdN (hC _) dX6_go_70 rfl rfl rfl (by omega) (by decide) ?_
      rw [hX.2.1]
      refine Es_icmp_ge (hC _) 124 dX6_go_71 (by decide) (fun hb71 => False.elim (nI_ge (b := p) (a := i) (by omega) (by omega) hb71)) (fun hb71 => ?_)
      first | refine Es_aload_n (hC _) dX6_go_74 rfl ?_ | refine Es_aload_nN (hC _) dX6_go_74 rfl ?_
      refine Es_iload_n (hC _) dX6_go_75 rfl ?_
      refine Es_iload (hC _) dX6_go_76 rfl ?_
      refine Es_fS (hC _) ms_X6_97 dX6_go_78 r_spot rfl rfl (by decide) (Nat.le_of_ble_eq_true rfl) ?_
      refine Es_iload_n (hC _) dX6_go_81 rfl ?_
      refine Es_fV (hC _) mv_X6_169 dX6_go_82 (r_goes_t hw5 h40 hX (by omega) ht hon h4 h3) rfl rfl ⟨_, rfl, rfl⟩ rfl rfl (by decide) (Nat.le_of_ble_eq_true rfl) ?_
      refine Es_if_eq (hC _) 118 dX6_go_85 (by decide) (fun hb85 => False.elim (absurd hb85 (by decide))) (fun hb85 => ?_)
      first | refine Es_aload_n (hC _) dX6_go_88 rfl ?_ | refine Es_aload_nN (hC _) dX6_go_88 rfl ?_
      refine Sg_X6_16 (hC _) fl_X6_47 dX6_go_89 ?_
      first | refine Es_aload_n (hC _) dX6_go_92 rfl ?_ | refine Es_aload_nN (hC _) dX6_go_92 rfl ?_
      refine Sg_X6_10 (hC _) fl_X6_29 dX6_go_93 ?_
      refine Es_iload_n (hC _) dX6_go_96 rfl ?_
      refine Es_iload (hC _) dX6_go_97 rfl ?_
      refine Es_fS (hC _) ms_X6_97 dX6_go_99 r_spot rfl rfl (by decide) (Nat.le_of_ble_eq_true rfl) ?_
      refine Es_ialdN (hC _) dX6_go_102 rfl rfl rfl (by omega) (by decide) ?_
      rw [(hX.2.2 i (by omega)).2, hon]
      refine Es_ialdN (hC _) dX6_go_103 rfl rfl rfl (by omega) (by decide) ?_
      rw [hlen]
      refine Es_iload_n (hC _) dX6_go_104 rfl ?_
      refine Es_iadd (hC _) dX6_go_105 ?_
      rw [nI_add]
      refine Es_ldc (hC _) ct_X6_152 dX6_go_106 ?_
      refine Es_icmp_le (hC _) 118 dX6_go_108 (by decide) (fun hb108 => ?_) (fun hb108 => False.elim (hb108 (nI_le (a := len + m) (b := 1000000) hlm (by decide))))
      refine Es_iinc (lv' := [_, _, _, _, _]) (hC _) dX6_go_118 (by decide) rfl (show _ + Int32.ofInt (1) = _ + (1) from rfl) rfl rfl ?_
      refine Es_goto (hC _) 63 dX6_go_121 (by decide) ?_
      rw [nI_1]
      exact ih (i + 1) (by omega) (by omega)
set_option maxRecDepth 100000 in
set_option maxHeartbeats 4000000 in
theorem l_go1r {ad : sA} {nw nt : Nat} {B : sB} {L : sL} {bc bs : Nat} {L0 : sL} {w p m : Nat} {x : Int32} (h40 : nt ≤ 40) (hw5 : w < 5) (hX : PX nt B w p) (hm : m ≤ 10000) (hwr : wrel L0 L) (hLr : ∀ t, t < nt → ∃ len, len ≤ 1000000 ∧ B 46 0 t = nI len) : ∀ (n i : Nat), i ≤ p → p - i = n → (∃ q t len, i ≤ q ∧ q < p ∧ rO B w x q = some t ∧ B 46 0 t = nI len ∧ len ≤ 1000000 ∧ 1000000 < len + m) → Es (sCm yX6_go cX6_go 5 (some .int) 5 ad nw nt (fun v B1 L1 => v = some (.int (-6)) ∧ B1 = uB B 30 0 6 (B 30 0 6 + 1) ∧ wrel L0 L1)) 5 63 [some (.ref (ad 25 0)), some (.int (nI w)), some (.int (nI m)), some (.int x), some (.int (nI i))] [] ad nw nt B L bc bs := by
  have hC : ∀ Q, je_Ok (sCm yX6_go cX6_go 5 (some .int) 5 ad nw nt Q) RX6 cX6_go 5 5 := fun _ => je_Cm_ok
  have h7 := hX.1.1
  intro n
  induction n with
  | zero =>
    intro i hi hn hex
    obtain ⟨q, t, len, a1, a2, -⟩ := hex
    omega
  | succ n ih =>
    intro i hi hn hex
    rcases rO_cs (x := x) hX.1 (show i < p by omega) h40 with ⟨e, he⟩ | ⟨t, ht, e, hon, h4, h3⟩
    · have hex2 : ∃ q t len, i + 1 ≤ q ∧ q < p ∧ rO B w x q = some t ∧ B 46 0 t = nI len ∧ len ≤ 1000000 ∧ 1000000 < len + m := by
        obtain ⟨q, t, len, a1, a2, a3, a4⟩ := hex
        have : q ≠ i := fun z => by
          rw [z, e] at a3
          cases a3
        exact ⟨q, t, len, by omega, a2, a3, a4⟩
      refine Es_iload (hC _) dX6_go_63 rfl ?_
      first | refine Es_aload_n (hC _) dX6_go_65 rfl ?_ | refine Es_aload_nN (hC _) dX6_go_65 rfl ?_
      refine Sg_X6_8 (hC _) fl_X6_23 dX6_go_66 ?_
      refine Es_iload_n (hC _) dX6_go_69 rfl ?_
      refine Es_ialdN (hC _) dX6_go_70 rfl rfl rfl (by omega) (by decide) ?_
      rw [hX.2.1]
      refine Es_icmp_ge (hC _) 124 dX6_go_71 (by decide) (fun hb71 => False.elim (nI_ge (b := p) (a := i) (by omega) (by omega) hb71)) (fun hb71 => ?_)
      first | refine Es_aload_n (hC _) dX6_go_74 rfl ?_ | refine Es_aload_nN (hC _) dX6_go_74 rfl ?_
      refine Es_iload_n (hC _) dX6_go_75 rfl ?_
      refine Es_iload (hC _) dX6_go_76 rfl ?_
      refine Es_fS (hC _) ms_X6_97 dX6_go_78 r_spot rfl rfl (by decide) (Nat.le_of_ble_eq_true rfl) ?_
      refine Es_iload_n (hC _) dX6_go_81 rfl ?_
      refine Es_fV (hC _) mv_X6_169 dX6_go_82 (r_goes_n hw5 h40 hX (by omega) he) rfl rfl ⟨_, rfl, rfl⟩ rfl rfl (by decide) (Nat.le_of_ble_eq_true rfl) ?_
      refine Es_if_eq (hC _) 118 dX6_go_85 (by decide) (fun hb85 => ?_) (fun hb85 => False.elim (hb85 rfl))
      refine Es_iinc (lv' := [_, _, _, _, _]) (hC _) dX6_go_118 (by decide) rfl (show _ + Int32.ofInt (1) = _ + (1) from rfl) rfl rfl ?_
      refine Es_goto (hC _) 63 dX6_go_121 (by decide) ?_
      rw [nI_1]
      exact ih (i + 1) (by omega) (by omega) hex2
    · obtain ⟨len, hl6, hlen⟩ := hLr t ht
      by_cases hlm : len + m ≤ 1000000
      · have hex2 : ∃ q t len, i + 1 ≤ q ∧ q < p ∧ rO B w x q = some t ∧ B 46 0 t = nI len ∧ len ≤ 1000000 ∧ 1000000 < len + m := by
          obtain ⟨q, t', len', a1, a2, a3, a4, a5, a6⟩ := hex
          have : q ≠ i := fun z => by
            rw [z, e] at a3
            cases a3
            have := (nI_eq (a := len') (b := len) (by omega) (by omega)).mp (a4.symm.trans hlen)
            omega
          exact ⟨q, t', len', by omega, a2, a3, a4, a5, a6⟩
        refine Es_iload (hC _) dX6_go_63 rfl ?_
        first | refine Es_aload_n (hC _) dX6_go_65 rfl ?_ | refine Es_aload_nN (hC _) dX6_go_65 rfl ?_
        refine Sg_X6_8 (hC _) fl_X6_23 dX6_go_66 ?_
        refine Es_iload_n (hC _) dX6_go_69 rfl ?_
        refine Es_ialdN (hC _) dX6_go_70 rfl rfl rfl (by omega) (by decide) ?_
        rw [hX.2.1]
        refine Es_icmp_ge (hC _) 124 dX6_go_71 (by decide) (fun hb71 => False.elim (nI_ge (b := p) (a := i) (by omega) (by omega) hb71)) (fun hb71 => ?_)
        first | refine Es_aload_n (hC _) dX6_go_74 rfl ?_ | refine Es_aload_nN (hC _) dX6_go_74 rfl ?_
        refine Es_iload_n (hC _) dX6_go_75 rfl ?_
        refine Es_iload (hC _) dX6_go_76 rfl ?_
        refine Es_fS (hC _) ms_X6_97 dX6_go_78 r_spot rfl rfl (by decide) (Nat.le_of_ble_eq_true rfl) ?_
        refine Es_iload_n (hC _) dX6_go_81 rfl ?_
        refine Es_fV (hC _) mv_X6_169 dX6_go_82 (r_goes_t hw5 h40 hX (by omega) ht hon h4 h3) rfl rfl ⟨_, rfl, rfl⟩ rfl rfl (by decide) (Nat.le_of_ble_eq_true rfl) ?_
        refine Es_if_eq (hC _) 118 dX6_go_85 (by decide) (fun hb85 => False.elim (absurd hb85 (by decide))) (fun hb85 => ?_)
        first | refine Es_aload_n (hC _) dX6_go_88 rfl ?_ | refine Es_aload_nN (hC _) dX6_go_88 rfl ?_
        refine Sg_X6_16 (hC _) fl_X6_47 dX6_go_89 ?_
        first | refine Es_aload_n (hC _) dX6_go_92 rfl ?_ | refine Es_aload_nN (hC _) dX6_go_92 rfl ?_
        refine Sg_X6_10 (hC _) fl_X6_29 dX6_go_93 ?_
        refine Es_iload_n (hC _) dX6_go_96 rfl ?_
        refine Es_iload (hC _) dX6_go_97 rfl ?_
        refine Es_fS (hC _) ms_X6_97 dX6_go_99 r_spot rfl rfl (by decide) (Nat.le_of_ble_eq_true rfl) ?_
        refine Es_ialdN (hC _) dX6_go_102 rfl rfl rfl (by omega) (by decide) ?_
        rw [(hX.2.2 i (by omega)).2, hon]
        refine Es_ialdN (hC _) dX6_go_103 rfl rfl rfl (by omega) (by decide) ?_
        rw [hlen]
        refine Es_iload_n (hC _) dX6_go_104 rfl ?_
        refine Es_iadd (hC _) dX6_go_105 ?_
        rw [nI_add]
        refine Es_ldc (hC _) ct_X6_152 dX6_go_106 ?_
        refine Es_icmp_le (hC _) 118 dX6_go_108 (by decide) (fun hb108 => ?_) (fun hb108 => False.elim (hb108 (nI_le (a := len + m) (b := 1000000) hlm (by decide))))
        refine Es_iinc (lv' := [_, _, _, _, _]) (hC _) dX6_go_118 (by decide) rfl (show _ + Int32.ofInt (1) = _ + (1) from rfl) rfl rfl ?_
        refine Es_goto (hC _) 63 dX6_go_121 (by decide) ?_
        rw [nI_1]
        exact ih (i + 1) (by omega) (by omega) hex2
      · skip
        refine Es_iload (hC _) dX6_go_63 rfl ?_
        first | refine Es_aload_n (hC _) dX6_go_65 rfl ?_ | refine Es_aload_nN (hC _) dX6_go_65 rfl ?_
        refine Sg_X6_8 (hC _) fl_X6_23 dX6_go_66 ?_
        refine Es_iload_n (hC _) dX6_go_69 rfl ?_
        refine Es_ialdN (hC _) dX6_go_70 rfl rfl rfl (by omega) (by decide) ?_
        rw [hX.2.1]
        refine Es_icmp_ge (hC _) 124 dX6_go_71 (by decide) (fun hb71 => False.elim (nI_ge (b := p) (a := i) (by omega) (by omega) hb71)) (fun hb71 => ?_)
        first | refine Es_aload_n (hC _) dX6_go_74 rfl ?_ | refine Es_aload_nN (hC _) dX6_go_74 rfl ?_
        refine Es_iload_n (hC _) dX6_go_75 rfl ?_
        refine Es_iload (hC _) dX6_go_76 rfl ?_
        refine Es_fS (hC _) ms_X6_97 dX6_go_78 r_spot rfl rfl (by decide) (Nat.le_of_ble_eq_true rfl) ?_
        refine Es_iload_n (hC _) dX6_go_81 rfl ?_
        refine Es_fV (hC _) mv_X6_169 dX6_go_82 (r_goes_t hw5 h40 hX (by omega) ht hon h4 h3) rfl rfl ⟨_, rfl, rfl⟩ rfl rfl (by decide) (Nat.le_of_ble_eq_true rfl) ?_
        refine Es_if_eq (hC _) 118 dX6_go_85 (by decide) (fun hb85 => False.elim (absurd hb85 (by decide))) (fun hb85 => ?_)
        first | refine Es_aload_n (hC _) dX6_go_88 rfl ?_ | refine Es_aload_nN (hC _) dX6_go_88 rfl ?_
        refine Sg_X6_16 (hC _) fl_X6_47 dX6_go_89 ?_
        first | refine Es_aload_n (hC _) dX6_go_92 rfl ?_ | refine Es_aload_nN (hC _) dX6_go_92 rfl ?_
        refine Sg_X6_10 (hC _) fl_X6_29 dX6_go_93 ?_
        refine Es_iload_n (hC _) dX6_go_96 rfl ?_
        refine Es_iload (hC _) dX6_go_97 rfl ?_
        refine Es_fS (hC _) ms_X6_97 dX6_go_99 r_spot rfl rfl (by decide) (Nat.le_of_ble_eq_true rfl) ?_
        refine Es_ialdN (hC _) dX6_go_102 rfl rfl rfl (by omega) (by decide) ?_
        rw [(hX.2.2 i (by omega)).2, hon]
        refine Es_ialdN (hC _) dX6_go_103 rfl rfl rfl (by omega) (by decide) ?_
        rw [hlen]
        refine Es_iload_n (hC _) dX6_go_104 rfl ?_
        refine Es_iadd (hC _) dX6_go_105 ?_
        rw [nI_add]
        refine Es_ldc (hC _) ct_X6_152 dX6_go_106 ?_
        refine Es_icmp_le (hC _) 118 dX6_go_108 (by decide) (fun hb108 => False.elim (nI_ge (b := len + m) (a := 1000000) (by omega) (by omega) hb108)) (fun hb108 => ?_)
        first | refine Es_aload_n (hC _) dX6_go_111 rfl ?_ | refine Es_aload_nN (hC _) dX6_go_111 rfl ?_
        refine Es_bipush (v := -6) (hC _) dX6_go_112 (by decide) ?_
        refine Es_fV (hC _) mv_X6_93 dX6_go_114 (r_refuse (k := 6) (by decide) (by decide)) rfl rfl ⟨_, rfl, rfl⟩ rfl rfl (by decide) (Nat.le_of_ble_eq_true rfl) ?_
        exact Es_iret dX6_go_117 rfl ⟨rfl, rfl, hwr⟩
set_option maxRecDepth 100000 in
set_option maxHeartbeats 4000000 in
theorem l_go2 {ad : sA} {nw nt : Nat} {B : sB} {L : sL} {bc bs : Nat} {Q : Option Value → sB → sL → Prop} {w p m : Nat} {x : Int32} (h40 : nt ≤ 40) (hw5 : w < 5) (hX : PX nt B w p) (hI : rInj B w x p) (kk : Es (sCm yX6_go cX6_go 5 (some .int) 5 ad nw nt Q) 5 178 [some (.ref (ad 25 0)), some (.int (nI w)), some (.int (nI m)), some (.int x), some (.int (nI p))] [] ad nw nt (rlR B w x (nI m) p) L bc bs) : ∀ (n i : Nat), i ≤ p → p - i = n → Es (sCm yX6_go cX6_go 5 (some .int) 5 ad nw nt Q) 5 127 [some (.ref (ad 25 0)), some (.int (nI w)), some (.int (nI m)), some (.int x), some (.int (nI i))] [] ad nw nt (rlR B w x (nI m) i) L bc bs := by
  have hC : ∀ Q, je_Ok (sCm yX6_go cX6_go 5 (some .int) 5 ad nw nt Q) RX6 cX6_go 5 5 := fun _ => je_Cm_ok
  have h7 := hX.1.1
  intro n
  induction n with
  | zero =>
    intro i hi hn
    have hik : i = p := by omega
    subst hik
    refine Es_iload (hC _) dX6_go_127 rfl ?_
    first | refine Es_aload_n (hC _) dX6_go_129 rfl ?_ | refine Es_aload_nN (hC _) dX6_go_129 rfl ?_
    refine Sg_X6_8 (hC _) fl_X6_23 dX6_go_130 ?_
    refine Es_iload_n (hC _) dX6_go_133 rfl ?_
    refine Es_ialdN (hC _) dX6_go_134 rfl rfl rfl (by omega) (by decide) ?_
    rw [(PX_r hX).2.1]
    refine Es_icmp_ge (hC _) 178 dX6_go_135 (by decide) (fun hb135 => ?_) (fun hb135 => False.elim (hb135 (nI_le (Nat.le_refl _) (by omega))))
    exact kk
  | succ n ih =>
    intro i hi hn
    rcases rO_cs (x := x) hX.1 (show i < p by omega) h40 with ⟨e, he⟩ | ⟨t, ht, e, hon, h4, h3⟩
    · skip
      refine Es_iload (hC _) dX6_go_127 rfl ?_
      first | refine Es_aload_n (hC _) dX6_go_129 rfl ?_ | refine Es_aload_nN (hC _) dX6_go_129 rfl ?_
      refine Sg_X6_8 (hC _) fl_X6_23 dX6_go_130 ?_
      refine Es_iload_n (hC _) dX6_go_133 rfl ?_
      refine Es_ialdN (hC _) dX6_go_134 rfl rfl rfl (by omega) (by decide) ?_
      rw [(PX_r hX).2.1]
      refine Es_icmp_ge (hC _) 178 dX6_go_135 (by decide) (fun hb135 => False.elim (nI_ge (b := p) (a := i) (by omega) (by omega) hb135)) (fun hb135 => ?_)
      first | refine Es_aload_n (hC _) dX6_go_138 rfl ?_ | refine Es_aload_nN (hC _) dX6_go_138 rfl ?_
      refine Es_iload_n (hC _) dX6_go_139 rfl ?_
      refine Es_iload (hC _) dX6_go_140 rfl ?_
      refine Es_fS (hC _) ms_X6_97 dX6_go_142 r_spot rfl rfl (by decide) (Nat.le_of_ble_eq_true rfl) ?_
      refine Es_iload_n (hC _) dX6_go_145 rfl ?_
      refine Es_fV (hC _) mv_X6_169 dX6_go_146 (r_goes_n hw5 h40 (PX_r hX) (by omega) (by rw [rlR_k (by decide), rlR_k (by decide)]; exact he)) rfl rfl ⟨_, rfl, rfl⟩ rfl rfl (by decide) (Nat.le_of_ble_eq_true rfl) ?_
      refine Es_if_eq (hC _) 172 dX6_go_149 (by decide) (fun hb149 => ?_) (fun hb149 => False.elim (hb149 rfl))
      refine Es_iinc (lv' := [_, _, _, _, _]) (hC _) dX6_go_172 (by decide) rfl (show _ + Int32.ofInt (1) = _ + (1) from rfl) rfl rfl ?_
      refine Es_goto (hC _) 127 dX6_go_175 (by decide) ?_
      rw [nI_1, ← rlR_n e]
      exact ih (i + 1) (by omega) (by omega)
    · skip
      refine Es_iload (hC _) dX6_go_127 rfl ?_
      first | refine Es_aload_n (hC _) dX6_go_129 rfl ?_ | refine Es_aload_nN (hC _) dX6_go_129 rfl ?_
      refine Sg_X6_8 (hC _) fl_X6_23 dX6_go_130 ?_
      refine Es_iload_n (hC _) dX6_go_133 rfl ?_
      refine Es_ialdN (hC _) dX6_go_134 rfl rfl rfl (by omega) (by decide) ?_
      rw [(PX_r hX).2.1]
      refine Es_icmp_ge (hC _) 178 dX6_go_135 (by decide) (fun hb135 => False.elim (nI_ge (b := p) (a := i) (by omega) (by omega) hb135)) (fun hb135 => ?_)
      first | refine Es_aload_n (hC _) dX6_go_138 rfl ?_ | refine Es_aload_nN (hC _) dX6_go_138 rfl ?_
      refine Es_iload_n (hC _) dX6_go_139 rfl ?_
      refine Es_iload (hC _) dX6_go_140 rfl ?_
      refine Es_fS (hC _) ms_X6_97 dX6_go_142 r_spot rfl rfl (by decide) (Nat.le_of_ble_eq_true rfl) ?_
      refine Es_iload_n (hC _) dX6_go_145 rfl ?_
      refine Es_fV (hC _) mv_X6_169 dX6_go_146 (r_goes_t hw5 h40 (PX_r hX) (by omega) ht (by rw [rlR_k (by decide)]; exact hon) (by rw [rlR_k (by decide)]; exact h4) (by rw [rlR_k (by decide)]; exact h3)) rfl rfl ⟨_, rfl, rfl⟩ rfl rfl (by decide) (Nat.le_of_ble_eq_true rfl) ?_
      refine Es_if_eq (hC _) 172 dX6_go_149 (by decide) (fun hb149 => False.elim (absurd hb149 (by decide))) (fun hb149 => ?_)
      first | refine Es_aload_n (hC _) dX6_go_152 rfl ?_ | refine Es_aload_nN (hC _) dX6_go_152 rfl ?_
      refine Sg_X6_16 (hC _) fl_X6_47 dX6_go_153 ?_
      first | refine Es_aload_n (hC _) dX6_go_156 rfl ?_ | refine Es_aload_nN (hC _) dX6_go_156 rfl ?_
      refine Sg_X6_10 (hC _) fl_X6_29 dX6_go_157 ?_
      refine Es_iload_n (hC _) dX6_go_160 rfl ?_
      refine Es_iload (hC _) dX6_go_161 rfl ?_
      refine Es_fS (hC _) ms_X6_97 dX6_go_163 r_spot rfl rfl (by decide) (Nat.le_of_ble_eq_true rfl) ?_
      refine Es_ialdN (hC _) dX6_go_166 rfl rfl rfl (by omega) (by decide) ?_
      rw [((PX_r hX).2.2 i (by omega)).2, rlR_k (by decide), hon]
      refine Es_dup2 (hC _) dX6_go_167 rfl rfl ?_
      refine Es_ialdN (hC _) dX6_go_168 rfl rfl rfl (by omega) (by decide) ?_
      refine Es_iload_n (hC _) dX6_go_169 rfl ?_
      refine Es_iadd (hC _) dX6_go_170 ?_
      refine Es_iastN (hC _) dX6_go_171 rfl (fun _ => rfl) rfl (by omega) (by decide) ?_
      refine Es_iinc (lv' := [_, _, _, _, _]) (hC _) dX6_go_172 (by decide) rfl (show _ + Int32.ofInt (1) = _ + (1) from rfl) rfl rfl ?_
      refine Es_goto (hC _) 127 dX6_go_175 (by decide) ?_
      rw [nI_1, rlR_t e (hI.f (by omega) e)]
      exact ih (i + 1) (by omega) (by omega)
set_option maxRecDepth 100000 in
set_option maxHeartbeats 4000000 in
theorem r_go_1 {ad : sA} {nw nt : Nat} {B : sB} {L : sL} (hnw : B 25 0 4 = nI nw) (h5 : nw ≤ 5) {y : Int32} (how : out y nw) {z x : Int32} : Cf yX6_go cX6_go 5 (some FieldType.int) 5 [.ref (ad 25 0), .int y, .int z, .int x] ad nw nt B L (some (.int (-1))) (uB B 30 0 1 (B 30 0 1 + 1)) (L) := by
  have hC : ∀ Q, je_Ok (sCm yX6_go cX6_go 5 (some FieldType.int) 5 ad nw nt Q) RX6 cX6_go 5 5 := fun _ => je_Cm_ok
  refine Cs_of [some (.ref (ad 25 0)), some (.int y), some (.int z), some (.int x), none] (by decide) rfl (Nat.le_of_ble_eq_true rfl) ?_
  refine Es_iload_n (hC _) dX6_go_0 rfl ?_
  first | refine Es_aload_n (hC _) dX6_go_1 rfl ?_ | refine Es_aload_nN (hC _) dX6_go_1 rfl ?_
  refine Sg_X6_4 (hC _) fl_X6_86 dX6_go_2 ?_
  rw [hnw]
  refine Es_fS (hC _) ms_X6_89 dX6_go_5 (r_isIn_out how) rfl rfl (by decide) (Nat.le_of_ble_eq_true rfl) ?_
  refine Es_if_ne (hC _) 17 dX6_go_8 (by decide) (fun hb8 => False.elim ((by first | exact absurd hb8 (by decide) | exact absurd hb8 (by assumption) | exact hb8 (by assumption) | exact hb8 rfl | (simp_all [bI]; done)))) (fun hb8 => ?_)
  first | refine Es_aload_n (hC _) dX6_go_11 rfl ?_ | refine Es_aload_nN (hC _) dX6_go_11 rfl ?_
  refine Es_iconst (v := -1) (hC _) dX6_go_12 (by decide) ?_
  refine Es_fV (hC _) mv_X6_93 dX6_go_13 (r_refuse (k := 1) (by decide) (by decide)) rfl rfl ⟨_, rfl, rfl⟩ rfl rfl (by decide) (Nat.le_of_ble_eq_true rfl) ?_
  exact Es_iret dX6_go_16 rfl ⟨rfl, rfl, rfl⟩

set_option maxRecDepth 100000 in
set_option maxHeartbeats 4000000 in
theorem r_go_2 {ad : sA} {nw nt : Nat} {B : sB} {L : sL} {Bh : sB} (hb : ∀ k, 25 ≤ k → Bh k = B k) (hnw : B 25 0 4 = nI nw) (h5 : nw ≤ 5) {w : Nat} (hw : w < nw) {p ap : Nat} {z x : Int32} (hap : B 25 0 6 = nI ap) (hap1 : ap ≤ 100) (h40 : nt ≤ 40) (hX : PX nt B w p) (hLX : PLX B) (hF : TFa nt B L) (hXP : PXP B w p) (hTR : PTR nt B) (hy : ¬ whyS B L w p ap p 0 = -9) : Cs yX6_go cX6_go 5 (some FieldType.int) 5 [.ref (ad 25 0), .int (nI w), .int z, .int x] ad nw nt (Bh) (L) (fun v B1 L1 => v = some (.int (-2)) ∧ B1 = uB Bh 30 0 2 (Bh 30 0 2 + 1) ∧ wrel L L1) := by
  have hC : ∀ Q, je_Ok (sCm yX6_go cX6_go 5 (some FieldType.int) 5 ad nw nt Q) RX6 cX6_go 5 5 := fun _ => je_Cm_ok
  refine Cs_of [some (.ref (ad 25 0)), some (.int (nI w)), some (.int z), some (.int x), none] (by decide) rfl (Nat.le_of_ble_eq_true rfl) ?_
  refine Es_iload_n (hC _) dX6_go_0 rfl ?_
  first | refine Es_aload_n (hC _) dX6_go_1 rfl ?_ | refine Es_aload_nN (hC _) dX6_go_1 rfl ?_
  refine Sg_X6_4 (hC _) fl_X6_86 dX6_go_2 ?_
  rw [hb 25 (by decide), hnw]
  refine Es_fS (hC _) ms_X6_89 dX6_go_5 (r_isIn_in hw (by omega)) rfl rfl (by decide) (Nat.le_of_ble_eq_true rfl) ?_
  refine Es_if_ne (hC _) 17 dX6_go_8 (by decide) (fun hb8 => ?_) (fun hb8 => False.elim ((by first | exact absurd hb8 (by decide) | exact absurd hb8 (by assumption) | exact hb8 (by assumption) | exact hb8 rfl | (simp_all [bI]; done))))
  first | refine Es_aload_n (hC _) dX6_go_17 rfl ?_ | refine Es_aload_nN (hC _) dX6_go_17 rfl ?_
  refine Es_iload_n (hC _) dX6_go_18 rfl ?_
  refine Es_callV (hC _) mv_X6_166 dX6_go_19 (r_whyOfH hb h40 (by omega) hX hLX hF hXP hTR hap hap1 wrel.rf) rfl rfl ⟨_, rfl, rfl⟩ rfl rfl (by decide) (Nat.le_of_ble_eq_true rfl) (fun v' B1 L2 q => ?_)
  obtain ⟨rfl, e, q⟩ := q
  subst B1
  refine Es_bipush (v := -9) (hC _) dX6_go_22 (by decide) ?_
  refine Es_icmp_eq (hC _) 34 dX6_go_24 (by decide) (fun hb24 => False.elim (hy hb24)) (fun hb24 => ?_)
  first | refine Es_aload_n (hC _) dX6_go_27 rfl ?_ | refine Es_aload_nN (hC _) dX6_go_27 rfl ?_
  refine Es_bipush (v := -2) (hC _) dX6_go_28 (by decide) ?_
  refine Es_fV (hC _) mv_X6_93 dX6_go_30 (r_refuse (k := 2) (by decide) (by decide)) rfl rfl ⟨_, rfl, rfl⟩ rfl rfl (by decide) (Nat.le_of_ble_eq_true rfl) ?_
  exact Es_iret dX6_go_33 rfl ⟨rfl, rfl, q⟩

set_option maxRecDepth 100000 in
set_option maxHeartbeats 4000000 in
theorem r_go_lo {ad : sA} {nw nt : Nat} {B : sB} {L : sL} {Bh : sB} (hb : ∀ k, 25 ≤ k → Bh k = B k) (hnw : B 25 0 4 = nI nw) (h5 : nw ≤ 5) {w : Nat} (hw : w < nw) {p ap : Nat} {z x : Int32} (hap : B 25 0 6 = nI ap) (hap1 : ap ≤ 100) (h40 : nt ≤ 40) (hX : PX nt B w p) (hLX : PLX B) (hF : TFa nt B L) (hXP : PXP B w p) (hTR : PTR nt B) (hy : whyS B L w p ap p 0 = -9) (hl : z < 1) : Cs yX6_go cX6_go 5 (some FieldType.int) 5 [.ref (ad 25 0), .int (nI w), .int z, .int x] ad nw nt (Bh) (L) (fun v B1 L1 => v = some (.int (-4)) ∧ B1 = uB Bh 30 0 4 (Bh 30 0 4 + 1) ∧ wrel L L1) := by
  have hC : ∀ Q, je_Ok (sCm yX6_go cX6_go 5 (some FieldType.int) 5 ad nw nt Q) RX6 cX6_go 5 5 := fun _ => je_Cm_ok
  refine Cs_of [some (.ref (ad 25 0)), some (.int (nI w)), some (.int z), some (.int x), none] (by decide) rfl (Nat.le_of_ble_eq_true rfl) ?_
  refine Es_iload_n (hC _) dX6_go_0 rfl ?_
  first | refine Es_aload_n (hC _) dX6_go_1 rfl ?_ | refine Es_aload_nN (hC _) dX6_go_1 rfl ?_
  refine Sg_X6_4 (hC _) fl_X6_86 dX6_go_2 ?_
  rw [hb 25 (by decide), hnw]
  refine Es_fS (hC _) ms_X6_89 dX6_go_5 (r_isIn_in hw (by omega)) rfl rfl (by decide) (Nat.le_of_ble_eq_true rfl) ?_
  refine Es_if_ne (hC _) 17 dX6_go_8 (by decide) (fun hb8 => ?_) (fun hb8 => False.elim ((by first | exact absurd hb8 (by decide) | exact absurd hb8 (by assumption) | exact hb8 (by assumption) | exact hb8 rfl | (simp_all [bI]; done))))
  first | refine Es_aload_n (hC _) dX6_go_17 rfl ?_ | refine Es_aload_nN (hC _) dX6_go_17 rfl ?_
  refine Es_iload_n (hC _) dX6_go_18 rfl ?_
  refine Es_callV (hC _) mv_X6_166 dX6_go_19 (r_whyOfH hb h40 (by omega) hX hLX hF hXP hTR hap hap1 wrel.rf) rfl rfl ⟨_, rfl, rfl⟩ rfl rfl (by decide) (Nat.le_of_ble_eq_true rfl) (fun v' B1 L2 q => ?_)
  obtain ⟨rfl, e, q⟩ := q
  subst B1
  refine Es_bipush (v := -9) (hC _) dX6_go_22 (by decide) ?_
  refine Es_icmp_eq (hC _) 34 dX6_go_24 (by decide) (fun hb24 => ?_) (fun hb24 => False.elim (hb24 hy))
  refine Es_iload_n (hC _) dX6_go_34 rfl ?_
  refine Es_iconst (v := 1) (hC _) dX6_go_35 (by decide) ?_
  refine Es_icmp_ge (hC _) 46 dX6_go_36 (by decide) (fun hb36 => False.elim (Int32.not_le.mpr hl hb36)) (fun hb36 => ?_)
  first | refine Es_aload_n (hC _) dX6_go_39 rfl ?_ | refine Es_aload_nN (hC _) dX6_go_39 rfl ?_
  refine Es_bipush (v := -4) (hC _) dX6_go_40 (by decide) ?_
  refine Es_fV (hC _) mv_X6_93 dX6_go_42 (r_refuse (k := 4) (by decide) (by decide)) rfl rfl ⟨_, rfl, rfl⟩ rfl rfl (by decide) (Nat.le_of_ble_eq_true rfl) ?_
  exact Es_iret dX6_go_45 rfl ⟨rfl, rfl, q⟩

set_option maxRecDepth 100000 in
set_option maxHeartbeats 4000000 in
theorem r_go_hi {ad : sA} {nw nt : Nat} {B : sB} {L : sL} {Bh : sB} (hb : ∀ k, 25 ≤ k → Bh k = B k) (hnw : B 25 0 4 = nI nw) (h5 : nw ≤ 5) {w : Nat} (hw : w < nw) {p ap : Nat} {z x : Int32} (hap : B 25 0 6 = nI ap) (hap1 : ap ≤ 100) (h40 : nt ≤ 40) (hX : PX nt B w p) (hLX : PLX B) (hF : TFa nt B L) (hXP : PXP B w p) (hTR : PTR nt B) (hy : whyS B L w p ap p 0 = -9) (hl : ¬ z < 1) (hh : 10000 < z) : Cs yX6_go cX6_go 5 (some FieldType.int) 5 [.ref (ad 25 0), .int (nI w), .int z, .int x] ad nw nt (Bh) (L) (fun v B1 L1 => v = some (.int (-6)) ∧ B1 = uB Bh 30 0 6 (Bh 30 0 6 + 1) ∧ wrel L L1) := by
  have hC : ∀ Q, je_Ok (sCm yX6_go cX6_go 5 (some FieldType.int) 5 ad nw nt Q) RX6 cX6_go 5 5 := fun _ => je_Cm_ok
  refine Cs_of [some (.ref (ad 25 0)), some (.int (nI w)), some (.int z), some (.int x), none] (by decide) rfl (Nat.le_of_ble_eq_true rfl) ?_
  refine Es_iload_n (hC _) dX6_go_0 rfl ?_
  first | refine Es_aload_n (hC _) dX6_go_1 rfl ?_ | refine Es_aload_nN (hC _) dX6_go_1 rfl ?_
  refine Sg_X6_4 (hC _) fl_X6_86 dX6_go_2 ?_
  rw [hb 25 (by decide), hnw]
  refine Es_fS (hC _) ms_X6_89 dX6_go_5 (r_isIn_in hw (by omega)) rfl rfl (by decide) (Nat.le_of_ble_eq_true rfl) ?_
  refine Es_if_ne (hC _) 17 dX6_go_8 (by decide) (fun hb8 => ?_) (fun hb8 => False.elim ((by first | exact absurd hb8 (by decide) | exact absurd hb8 (by assumption) | exact hb8 (by assumption) | exact hb8 rfl | (simp_all [bI]; done))))
  first | refine Es_aload_n (hC _) dX6_go_17 rfl ?_ | refine Es_aload_nN (hC _) dX6_go_17 rfl ?_
  refine Es_iload_n (hC _) dX6_go_18 rfl ?_
  refine Es_callV (hC _) mv_X6_166 dX6_go_19 (r_whyOfH hb h40 (by omega) hX hLX hF hXP hTR hap hap1 wrel.rf) rfl rfl ⟨_, rfl, rfl⟩ rfl rfl (by decide) (Nat.le_of_ble_eq_true rfl) (fun v' B1 L2 q => ?_)
  obtain ⟨rfl, e, q⟩ := q
  subst B1
  refine Es_bipush (v := -9) (hC _) dX6_go_22 (by decide) ?_
  refine Es_icmp_eq (hC _) 34 dX6_go_24 (by decide) (fun hb24 => ?_) (fun hb24 => False.elim (hb24 hy))
  refine Es_iload_n (hC _) dX6_go_34 rfl ?_
  refine Es_iconst (v := 1) (hC _) dX6_go_35 (by decide) ?_
  refine Es_icmp_ge (hC _) 46 dX6_go_36 (by decide) (fun hb36 => ?_) (fun hb36 => False.elim (hb36 (Int32.not_lt.mp hl)))
  refine Es_iload_n (hC _) dX6_go_46 rfl ?_
  refine Es_sipush (v := 10000) (hC _) dX6_go_47 (by decide) ?_
  refine Es_icmp_le (hC _) 60 dX6_go_50 (by decide) (fun hb50 => False.elim (Int32.not_le.mpr hh hb50)) (fun hb50 => ?_)
  first | refine Es_aload_n (hC _) dX6_go_53 rfl ?_ | refine Es_aload_nN (hC _) dX6_go_53 rfl ?_
  refine Es_bipush (v := -6) (hC _) dX6_go_54 (by decide) ?_
  refine Es_fV (hC _) mv_X6_93 dX6_go_56 (r_refuse (k := 6) (by decide) (by decide)) rfl rfl ⟨_, rfl, rfl⟩ rfl rfl (by decide) (Nat.le_of_ble_eq_true rfl) ?_
  exact Es_iret dX6_go_59 rfl ⟨rfl, rfl, q⟩

set_option maxRecDepth 100000 in
set_option maxHeartbeats 4000000 in
theorem r_go_room {ad : sA} {nw nt : Nat} {B : sB} {L : sL} {Bh : sB} (hb : ∀ k, 25 ≤ k → Bh k = B k) (hnw : B 25 0 4 = nI nw) (h5 : nw ≤ 5) {w : Nat} (hw : w < nw) {p ap : Nat} {m : Nat} {x : Int32} (hap : B 25 0 6 = nI ap) (hap1 : ap ≤ 100) (h40 : nt ≤ 40) (hX : PX nt B w p) (hLX : PLX B) (hF : TFa nt B L) (hXP : PXP B w p) (hTR : PTR nt B) (hy : whyS B L w p ap p 0 = -9) (hm1 : 1 ≤ m) (hm2 : m ≤ 10000) (hXh : PX nt Bh w p) (hLr : ∀ t, t < nt → ∃ len, len ≤ 1000000 ∧ Bh 46 0 t = nI len) (hex : ∃ q t len, 0 ≤ q ∧ q < p ∧ rO Bh w x q = some t ∧ Bh 46 0 t = nI len ∧ len ≤ 1000000 ∧ 1000000 < len + m) : Cs yX6_go cX6_go 5 (some FieldType.int) 5 [.ref (ad 25 0), .int (nI w), .int (nI m), .int x] ad nw nt (Bh) (L) (fun v B1 L1 => v = some (.int (-6)) ∧ B1 = uB Bh 30 0 6 (Bh 30 0 6 + 1) ∧ wrel L L1) := by
  have hC : ∀ Q, je_Ok (sCm yX6_go cX6_go 5 (some FieldType.int) 5 ad nw nt Q) RX6 cX6_go 5 5 := fun _ => je_Cm_ok
  refine Cs_of [some (.ref (ad 25 0)), some (.int (nI w)), some (.int (nI m)), some (.int x), none] (by decide) rfl (Nat.le_of_ble_eq_true rfl) ?_
  refine Es_iload_n (hC _) dX6_go_0 rfl ?_
  first | refine Es_aload_n (hC _) dX6_go_1 rfl ?_ | refine Es_aload_nN (hC _) dX6_go_1 rfl ?_
  refine Sg_X6_4 (hC _) fl_X6_86 dX6_go_2 ?_
  rw [hb 25 (by decide), hnw]
  refine Es_fS (hC _) ms_X6_89 dX6_go_5 (r_isIn_in hw (by omega)) rfl rfl (by decide) (Nat.le_of_ble_eq_true rfl) ?_
  refine Es_if_ne (hC _) 17 dX6_go_8 (by decide) (fun hb8 => ?_) (fun hb8 => False.elim ((by first | exact absurd hb8 (by decide) | exact absurd hb8 (by assumption) | exact hb8 (by assumption) | exact hb8 rfl | (simp_all [bI]; done))))
  first | refine Es_aload_n (hC _) dX6_go_17 rfl ?_ | refine Es_aload_nN (hC _) dX6_go_17 rfl ?_
  refine Es_iload_n (hC _) dX6_go_18 rfl ?_
  refine Es_callV (hC _) mv_X6_166 dX6_go_19 (r_whyOfH hb h40 (by omega) hX hLX hF hXP hTR hap hap1 wrel.rf) rfl rfl ⟨_, rfl, rfl⟩ rfl rfl (by decide) (Nat.le_of_ble_eq_true rfl) (fun v' B1 L2 q => ?_)
  obtain ⟨rfl, e, q⟩ := q
  subst B1
  refine Es_bipush (v := -9) (hC _) dX6_go_22 (by decide) ?_
  refine Es_icmp_eq (hC _) 34 dX6_go_24 (by decide) (fun hb24 => ?_) (fun hb24 => False.elim (hb24 hy))
  refine Es_iload_n (hC _) dX6_go_34 rfl ?_
  refine Es_iconst (v := 1) (hC _) dX6_go_35 (by decide) ?_
  refine Es_icmp_ge (hC _) 46 dX6_go_36 (by decide) (fun hb36 => ?_) (fun hb36 => False.elim (hb36 (nI_le (a := 1) (b := m) hm1 (by omega))))
  refine Es_iload_n (hC _) dX6_go_46 rfl ?_
  refine Es_sipush (v := 10000) (hC _) dX6_go_47 (by decide) ?_
  refine Es_icmp_le (hC _) 60 dX6_go_50 (by decide) (fun hb50 => ?_) (fun hb50 => False.elim (hb50 (nI_le (a := m) (b := 10000) hm2 (by decide))))
  refine Es_iconst (v := 0) (hC _) dX6_go_60 (by decide) ?_
  refine Es_istore (lv' := [_, _, _, _, _]) (hC _) dX6_go_61 (by decide) rfl rfl ?_
  exact l_go1r h40 (by omega) hXh hm2 q hLr p 0 (by omega) (by omega) hex

set_option maxRecDepth 100000 in
set_option maxHeartbeats 4000000 in
theorem r_go_ok {ad : sA} {nw nt : Nat} {B : sB} {L : sL} {Bh : sB} (hb : ∀ k, 25 ≤ k → Bh k = B k) (hnw : B 25 0 4 = nI nw) (h5 : nw ≤ 5) {w : Nat} (hw : w < nw) {p ap : Nat} {m : Nat} {x : Int32} (hap : B 25 0 6 = nI ap) (hap1 : ap ≤ 100) (h40 : nt ≤ 40) (hX : PX nt B w p) (hLX : PLX B) (hF : TFa nt B L) (hXP : PXP B w p) (hTR : PTR nt B) (hy : whyS B L w p ap p 0 = -9) (hm1 : 1 ≤ m) (hm2 : m ≤ 10000) (hXh : PX nt Bh w p) (hLr : ∀ q t, q < p → rO Bh w x q = some t → ∃ len, Bh 46 0 t = nI len ∧ len + m ≤ 1000000) (hI : rInj Bh w x p) (hLE : PLX (rlR Bh w x (nI m) p)) (hFE : TFa nt (rlR Bh w x (nI m) p) L) : Cs yX6_go cX6_go 5 (some FieldType.int) 5 [.ref (ad 25 0), .int (nI w), .int (nI m), .int x] ad nw nt (Bh) (L) (fun v B1 L1 => v = some (.int (nI (farS (rlR Bh w x (nI m) p) L w p))) ∧ B1 = rlR Bh w x (nI m) p ∧ wrel L L1) := by
  have hC : ∀ Q, je_Ok (sCm yX6_go cX6_go 5 (some FieldType.int) 5 ad nw nt Q) RX6 cX6_go 5 5 := fun _ => je_Cm_ok
  refine Cs_of [some (.ref (ad 25 0)), some (.int (nI w)), some (.int (nI m)), some (.int x), none] (by decide) rfl (Nat.le_of_ble_eq_true rfl) ?_
  refine Es_iload_n (hC _) dX6_go_0 rfl ?_
  first | refine Es_aload_n (hC _) dX6_go_1 rfl ?_ | refine Es_aload_nN (hC _) dX6_go_1 rfl ?_
  refine Sg_X6_4 (hC _) fl_X6_86 dX6_go_2 ?_
  rw [hb 25 (by decide), hnw]
  refine Es_fS (hC _) ms_X6_89 dX6_go_5 (r_isIn_in hw (by omega)) rfl rfl (by decide) (Nat.le_of_ble_eq_true rfl) ?_
  refine Es_if_ne (hC _) 17 dX6_go_8 (by decide) (fun hb8 => ?_) (fun hb8 => False.elim ((by first | exact absurd hb8 (by decide) | exact absurd hb8 (by assumption) | exact hb8 (by assumption) | exact hb8 rfl | (simp_all [bI]; done))))
  first | refine Es_aload_n (hC _) dX6_go_17 rfl ?_ | refine Es_aload_nN (hC _) dX6_go_17 rfl ?_
  refine Es_iload_n (hC _) dX6_go_18 rfl ?_
  refine Es_callV (hC _) mv_X6_166 dX6_go_19 (r_whyOfH hb h40 (by omega) hX hLX hF hXP hTR hap hap1 wrel.rf) rfl rfl ⟨_, rfl, rfl⟩ rfl rfl (by decide) (Nat.le_of_ble_eq_true rfl) (fun v' B1 L2 q => ?_)
  obtain ⟨rfl, e, q⟩ := q
  subst B1
  refine Es_bipush (v := -9) (hC _) dX6_go_22 (by decide) ?_
  refine Es_icmp_eq (hC _) 34 dX6_go_24 (by decide) (fun hb24 => ?_) (fun hb24 => False.elim (hb24 hy))
  refine Es_iload_n (hC _) dX6_go_34 rfl ?_
  refine Es_iconst (v := 1) (hC _) dX6_go_35 (by decide) ?_
  refine Es_icmp_ge (hC _) 46 dX6_go_36 (by decide) (fun hb36 => ?_) (fun hb36 => False.elim (hb36 (nI_le (a := 1) (b := m) hm1 (by omega))))
  refine Es_iload_n (hC _) dX6_go_46 rfl ?_
  refine Es_sipush (v := 10000) (hC _) dX6_go_47 (by decide) ?_
  refine Es_icmp_le (hC _) 60 dX6_go_50 (by decide) (fun hb50 => ?_) (fun hb50 => False.elim (hb50 (nI_le (a := m) (b := 10000) hm2 (by decide))))
  refine Es_iconst (v := 0) (hC _) dX6_go_60 (by decide) ?_
  refine Es_istore (lv' := [_, _, _, _, _]) (hC _) dX6_go_61 (by decide) rfl rfl ?_
  refine l_go1 h40 (by omega) hXh hm2 hLr ?_ p 0 (by omega) (by omega)
  refine Es_iconst (v := 0) (hC _) dX6_go_124 (by decide) ?_
  refine Es_istore (lv' := [_, _, _, _, _]) (hC _) dX6_go_125 (by decide) rfl rfl ?_
  have hh := l_go2 (ad := ad) (bc := 0) (bs := 0) (nw := nw) (nt := nt) (B := Bh) (L := L2) (m := m) (Q := (fun v B1 L1 => v = some (.int (nI (farS (rlR Bh w x (nI m) p) L w p))) ∧ B1 = rlR Bh w x (nI m) p ∧ wrel L L1)) h40 (by omega) hXh hI ?_ p 0 (by omega) (by omega)
  · rw [rlR_0] at hh
    exact hh
  · skip
    first | refine Es_aload_n (hC _) dX6_go_178 rfl ?_ | refine Es_aload_nN (hC _) dX6_go_178 rfl ?_
    refine Es_iload_n (hC _) dX6_go_179 rfl ?_
    refine Es_callV (hC _) mv_X6_173 dX6_go_180 (r_farOf h40 (by omega) (PX_r hXh) hLE hFE q) rfl rfl ⟨_, rfl, rfl⟩ rfl rfl (by decide) (Nat.le_of_ble_eq_true rfl) (fun v' B1 L3 q => ?_)
    obtain ⟨rfl, rfl, q⟩ := q
    exact Es_iret dX6_go_183 rfl ⟨rfl, rfl, q⟩

theorem tEn_congr {B B' : sB} {L : sL} {t l : Nat} (h : ∀ k, k < 25 → B' k = B k) : tEn B' L t l = tEn B L t l := by
  unfold tEn tR
  rw [h 21 (by decide), h 22 (by decide), h 23 (by decide)]
theorem farS_congr {B B' : sB} {L : sL} {w : Nat} (h : ∀ k, k < 25 → B' k = B k) : ∀ p, farS B' L w p = farS B L w p
  | 0 => rfl
  | p + 1 => by
    simp only [farS, plE]
    rw [farS_congr h p, tEn_congr h, h 20 (by decide), h 19 (by decide), h 3 (by decide)]
theorem TFc_congr {nt : Nat} {B B' : sB} {L : sL} (h : ∀ k, k < 25 → B' k = B k) (hF : TFc nt B' L) : TFc nt B L := by
  unfold TFc at hF ⊢
  rw [h 21 (by decide), h 22 (by decide), h 23 (by decide)] at hF
  exact hF
theorem rInj_of {nw nt : Nat} {B : sB} {L : sL} {w p : Nat} {x : Int32} (hR : Rel nw nt B L) (hw : w < nw) (hX : PX nt B w p) : rInj B w x p := by
  intro q q' t hq hq' h h'
  have h40 := hR.1.2.2.2.2.2.1
  have h5 := hR.1.2.2.1
  obtain ⟨p', h7, w1, w2, w3, w4, w5⟩ := hR.2.2.1.1 w hw
  have : p' = p := (nI_eq (by omega) (by have := hX.1.1; omega)).mp (w3.symm.trans hX.2.1)
  subst this
  have key : ∀ q, q < p' → rO B w x q = some t → B 47 0 t = nI (10 * w + q) := by
    intro q hq h
    rcases rO_cs (x := x) hX.1 hq h40 with ⟨e, -⟩ | ⟨t', ht', e, hon, -⟩
    · rw [e] at h
      cases h
    · rw [e] at h
      cases h
      rcases (w4 q hq).2.2.2.1 with z | ⟨t2, z1, z2, z3⟩
      · rw [hon] at z
        exact (nI_m1 (by omega) z).elim
      · have : t2 = t := (nI_eq (by omega) (by omega)).mp (z2.symm.trans hon)
        subst this
        exact z3
  exact (pl_inj ((key q hq h).symm.trans (key q' hq' h')) (by omega) (by omega) (by omega) (by omega)).2
theorem Rel_go {nw nt : Nat} {B : sB} {L : sL} {w p m : Nat} {x : Int32} (hR : Rel nw nt B L) (hX : PX nt B w p) (hw : w < nw) (hm : m ≤ 10000) (hok : ∀ t, t < nt → ro B w x t p = true → (B 21 t 9).toNatClampNeg + m ≤ 1000000) : Rel nw nt (rlR (rlC B w x (nI m) p) w x (nI m) p) L := by
  unfold Rel at hR ⊢
  obtain ⟨q1, q2, q3, q4, q5, q6⟩ := hR
  have hk : ∀ k, k ≠ 21 → k ≠ 46 → rlR (rlC B w x (nI m) p) w x (nI m) p k = B k := fun k h1 h2 => by rw [rlR_k h2, rlC_k h1]
  simp only [hk, ne_eq, Nat.reduceEqDiff, not_false_eq_true]
  refine ⟨q1, q2, q3, ⟨fun t ht => ?_, q4.2⟩, q5, q6⟩
  have h1 := q4.1 t ht
  unfold RelT1 at h1 ⊢
  rw [rlR_k (k := 21) (by decide)]
  simp only [rlC_i, ne_eq, Nat.reduceEqDiff, not_false_eq_true]
  obtain ⟨b1, b2, b3, b4, b5, b6, b7, b8, b9, ⟨len, b10, b10'⟩, b11, b12, b13, b14, r, b15, b16, b17, b18⟩ := h1
  cases hro : ro B w x t p with
  | false =>
    have e1 : rlC B w x (nI m) p 21 t 9 = B 21 t 9 := by
      unfold rlC
      rw [if_neg (fun z => by rw [hro] at z; cases z.2.2)]
    have e2 : rlR (rlC B w x (nI m) p) w x (nI m) p 46 0 t = B 46 0 t := by
      unfold rlR
      rw [if_neg (fun z => by rw [ro_c, hro] at z; cases z.2.2), rlC_k (by decide)]
    rw [e1, e2]
    exact ⟨b1, b2, b3, b4, b5, b6, b7, b8, b9, ⟨len, b10, b10'⟩, b11, b12, b13, b14, r, b15, b16, b17, b18⟩
  | true =>
    have e1 : rlC B w x (nI m) p 21 t 9 = B 21 t 9 + nI m := by
      unfold rlC
      rw [if_pos ⟨rfl, rfl, hro⟩]
    have e2 : rlR (rlC B w x (nI m) p) w x (nI m) p 46 0 t = B 46 0 t + nI m := by
      unfold rlR
      rw [if_pos ⟨rfl, rfl, by rw [ro_c, hro]⟩, rlC_k (by decide)]
    have h6 := hok t ht hro
    rw [b9, b10', nI_clamp (by omega)] at h6
    rw [e1, e2, b9, b10', nI_add]
    refine ⟨b1, b2, b3, b4, b5, b6, b7, b8, rfl, ⟨len + m, h6, rfl⟩, b11, b12, b13, b14, r, b15, b16, b17, fun i hi => ?_⟩
    obtain ⟨c1, ⟨k, n, c2, c3, c4, c5⟩, c6, c7⟩ := b18 i hi
    have : n = len := (nI_eq (by omega) (by omega)).mp (c3.symm.trans b10')
    subst this
    exact ⟨c1, ⟨k, n + m, c2, rfl, by omega, h6⟩, c6, c7⟩
theorem s_go {ad : sA} {nw nt : Nat} {B : sB} {L : sL} (hR : Rel nw nt B L) (y z x : Int32) : StG yX5_go cX5_go 5 5 yX6_go cX6_go 5 5 (some .int) [.int y, .int z, .int x] ad nw nt B L := by
  obtain ⟨s1, s2, s3, s4, s5, s6, s7, s8, s9, ⟨ap, s10, s10'⟩⟩ := hR.1
  rcases in_out y (n := nw) (by omega) with ⟨w, hw, rfl⟩ | how
  · obtain ⟨p, hX⟩ := px_of hR hw
    have hLX := plx_of hR
    have hF := tfa_of hR
    have hXP := pxp_of hR hw hX
    have hTR := ptr_of hR
    have hb5 : ∀ j, ∀ v : Int32, ∀ k, 25 ≤ k → uB B 5 0 j v k = B k := fun j v k hk => uB_k (by omega)
    by_cases hy : whyS B L w p ap p 0 = -9
    · by_cases hl : z < 1
      · refine StG_of (c_go_lo s2 s3 hw (s9.trans s10') s10 s6 hX.1 hLX.1 hF hy hl) (r_go_lo (hb5 _ _) s1 s3 hw s10' s10 s6 hX hLX hF hXP hTR hy hl) (fun v'' B2 L2 q => ?_)
        obtain ⟨rfl, rfl, q⟩ := q
        exact ⟨rfl, Rel_wrel q (Rel_refuse hR)⟩
      · by_cases hh : 10000 < z
        · refine StG_of (c_go_hi s2 s3 hw (s9.trans s10') s10 s6 hX.1 hLX.1 hF hy hl hh) (r_go_hi (hb5 _ _) s1 s3 hw s10' s10 s6 hX hLX hF hXP hTR hy hl hh) (fun v'' B2 L2 q => ?_)
          obtain ⟨rfl, rfl, q⟩ := q
          exact ⟨rfl, Rel_wrel q (Rel_refuse hR)⟩
        · obtain ⟨m, hm1, hm2, rfl⟩ : ∃ m, 1 ≤ m ∧ m ≤ 10000 ∧ z = nI m := by
            rcases in_out z (n := 10001) (by omega) with ⟨m, hm, rfl⟩ | hz
            · refine ⟨m, ?_, by omega, rfl⟩
              rcases Nat.eq_zero_or_pos m with h0 | h0
              · subst h0
                exact (hl (by decide)).elim
              · exact h0
            · rcases hz with hz | hz
              · exact (hl (Int32.lt_trans hz (by decide))).elim
              · exact (hh (Int32.lt_of_lt_of_le (show (10000 : Int32) < nI 10001 by decide) hz)).elim
          have hB : LB nt B := fun t ht => by
            obtain ⟨b1, b2, b3, b4, b5, b6, b7, b8, b9, ⟨len, b10, b10'⟩, b11⟩ := hR.2.2.2.1.1 t ht
            exact ⟨len, b10, b9.trans b10'⟩
          have h46 : ∀ t, t < nt → B 46 0 t = B 21 t 9 := fun t ht => ((hR.2.2.2.1.1 t ht).2.2.2.2.2.2.2.2.1).symm
          have hlt : ∀ q t, q < p → rO B w x q = some t → t < nt := by
            intro q t hq h
            rcases rO_cs (x := x) hX.1 hq s6 with ⟨e, -⟩ | ⟨t', ht', e, -⟩
            · rw [e] at h
              cases h
            · rw [e] at h
              cases h
              exact ht'
          by_cases hr : mlS B w x p + m ≤ 1000000
          · have hI := rInj_of (x := x) hR hw hX
            have hall := (mlS_iff (x := x) hX.1 s6 (1000000 - m) p (Nat.le_refl _)).mp (by omega)
            have hR2 := Rel_go (m := m) (x := x) hR hX hw hm2 (fun t ht hro => by
              obtain ⟨q, hq, h⟩ := (ro_iff p).mp hro
              have := hall q t hq h
              omega)
            have hc : ∀ k, k < 25 → rlR (rlC B w x (nI m) p) w x (nI m) p k = rlC B w x (nI m) p k := fun k hk => rlR_k (by omega)
            have hPL : PL (rlC B w x (nI m) p) := by
              unfold PL
              rw [rlC_k (by decide)]
              exact hLX.1
            refine StG_of (c_go_ok s2 s3 hw (s9.trans s10') s10 s6 hX.1 hLX.1 hF hy hm1 hm2 hB hr hI hPL (TFc_congr hc (tfa_of hR2).c)) (r_go_ok (B := B) (fun k hk => rlC_k (by omega)) s1 s3 hw s10' s10 s6 hX hLX hF hXP hTR hy hm1 hm2 (PX_c hX) ?_ ?_ (plx_of hR2) (tfa_of hR2)) (fun v'' B2 L2 q => ?_)
            · intro q t hq h
              rw [rO_c] at h
              have ht := hlt q t hq h
              obtain ⟨len, h1, h2⟩ := hB t ht
              have h3 := hall q t hq h
              rw [h2, nI_clamp (by omega)] at h3
              exact ⟨len, by rw [rlC_k (by decide), h46 t ht, h2], by omega⟩
            · intro q q' t hq hq' h h'
              rw [rO_c] at h h'
              exact hI q q' t hq hq' h h'
            · obtain ⟨rfl, rfl, q⟩ := q
              rw [farS_congr hc]
              exact ⟨rfl, Rel_wrel q hR2⟩
          · refine StG_of (c_go_room s2 s3 hw (s9.trans s10') s10 s6 hX.1 hLX.1 hF hy hm1 hm2 hB (by omega)) (r_go_room (hb5 _ _) s1 s3 hw s10' s10 s6 hX hLX hF hXP hTR hy hm1 hm2 (by exact hX) ?_ ?_) (fun v'' B2 L2 q => ?_)
            · intro t ht
              obtain ⟨len, h1, h2⟩ := hB t ht
              exact ⟨len, h1, (h46 t ht).trans h2⟩
            · have hno : ¬ ∀ q t, q < p → rO B w x q = some t → (B 21 t 9).toNatClampNeg ≤ 1000000 - m := fun zz => by
                have := (mlS_iff (x := x) hX.1 s6 (1000000 - m) p (Nat.le_refl _)).mpr zz
                omega
              apply Classical.byContradiction
              intro hne
              apply hno
              intro q t hq h
              have ht := hlt q t hq h
              obtain ⟨len, h1, h2⟩ := hB t ht
              rw [h2, nI_clamp (by omega)]
              apply Classical.byContradiction
              intro hgt
              exact hne ⟨q, t, len, by omega, hq, h, (h46 t ht).trans h2, h1, by omega⟩
            · obtain ⟨rfl, rfl, q⟩ := q
              exact ⟨rfl, Rel_wrel q (Rel_refuse hR)⟩
    · refine StG_of (c_go_2 s2 s3 hw (s9.trans s10') s10 s6 hX.1 hLX.1 hF hy) (r_go_2 (hb5 _ _) s1 s3 hw s10' s10 s6 hX hLX hF hXP hTR hy) (fun v'' B2 L2 q => ?_)
      obtain ⟨rfl, rfl, q⟩ := q
      exact ⟨rfl, Rel_wrel q (Rel_refuse hR)⟩
  · exact Stq.gen ⟨_, _, _, _, _, c_go_1 s2 s3 how, r_go_1 (by exact s1) s3 how, Rel_refuse hR⟩
