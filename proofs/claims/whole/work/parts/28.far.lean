theorem StG_of {yC : MethodName} {cC : ByteArray} {nC dC : Nat} {yR : MethodName} {cR : ByteArray} {nR dR : Nat} {ret : Option FieldType} {As : List Value} {ad : sA} {nw nt : Nat} {B B1 : sB} {L L1 : sL} {v : Int32} {Q : Option Value → sB → sL → Prop} (h1 : Cf yC cC nC ret dC (.ref (ad 0 0) :: As) ad nw nt B L (some (.int v)) B1 L1) (h2 : Cs yR cR nR ret dR (.ref (ad 25 0) :: As) ad nw nt B1 L1 Q) (h3 : ∀ v'' B2 L2, Q v'' B2 L2 → v'' = some (.int v) ∧ Rel nw nt B2 L2) : StG yC cC nC dC yR cR nR dR ret As ad nw nt B L := by
  refine ⟨v, h1.mono (fun v' B' L' q => ?_)⟩
  obtain ⟨rfl, rfl, rfl⟩ := q
  exact ⟨rfl, h2.mono h3⟩
/-- the same, with the reference's cells -/
def PX (nt : Nat) (B : sB) (w p : Nat) : Prop := PW nt B w p ∧ B 38 0 w = nI p ∧ ∀ q, q < p → B 39 0 (7 * w + q) = B 19 w q ∧ B 40 0 (7 * w + q) = B 20 w q
def PLX (B : sB) : Prop := PL B ∧ ∀ k, k < 5 → B 31 0 k = B 3 0 k
theorem px_of {nw nt : Nat} {B : sB} {L : sL} {w : Nat} (hR : Rel nw nt B L) (hw : w < nw) : ∃ p, PX nt B w p := by
  obtain ⟨p, h7, w1, w2, w3, w4, w5⟩ := hR.2.2.1.1 w hw
  refine ⟨p, ⟨h7, w2, fun q hq => ?_⟩, w3, fun q hq => ?_⟩
  · obtain ⟨q1, ⟨k, q2, q2'⟩, q3, q4, q5⟩ := w4 q hq
    refine ⟨⟨k, by omega, q2'⟩, ?_⟩
    rcases q4 with h | ⟨t, h1, h2, -⟩
    · exact Or.inl h
    · exact Or.inr ⟨t, h1, h2⟩
  · obtain ⟨q1, q2, q3, q4, q5⟩ := w4 q hq
    exact ⟨q1.symm, q3.symm⟩
theorem plx_of {nw nt : Nat} {B : sB} {L : sL} (hR : Rel nw nt B L) : PLX B := by
  refine ⟨fun k hk => ?_, fun k hk => ((hR.2.1.1 k hk).1).symm⟩
  obtain ⟨h1, l, h2, h3⟩ := hR.2.1.1 k hk
  exact ⟨l, h2, h1.trans h3⟩
theorem tfa_of {nw nt : Nat} {B : sB} {L : sL} (hR : Rel nw nt B L) : TFa nt B L := fun _ ht => tf_of hR ht
theorem plE_0 {B : sB} {L : sL} {w p : Nat} (h : B 20 w p < 0 ∨ B 19 w p = 4) : plE B L w p = 1000000 := by
  unfold plE
  rw [if_pos h]
theorem plE_1 {B : sB} {L : sL} {w p t k l : Nat} (ht : B 20 w p = nI t) (ht2 : t < 2 ^ 31) (hk : B 19 w p = nI k) (hk2 : k < 2 ^ 31) (hk4 : k ≠ 4) (hl : B 3 0 k = nI l) (hl2 : l < 2 ^ 31) : plE B L w p = tEn B L t l := by
  unfold plE
  rw [if_neg, ht, hk, nI_clamp ht2, nI_clamp hk2, hl, nI_clamp hl2]
  rw [ht, hk]
  intro z
  rcases z with z | z
  · exact nI_pos ht2 z
  · exact hk4 ((nI_eq hk2 (by decide)).mp z)
set_option maxRecDepth 100000 in
set_option maxHeartbeats 4000000 in
theorem l_reach {ad : sA} {nw nt : Nat} {B : sB} {L : sL} {bc bs : Nat} {w p : Nat} (h40 : nt ≤ 40) (hw : w < nw) (hW : PW nt B w p) (hL : PL B) (hF : TFc nt B L) : ∀ (n i : Nat), i ≤ p → p - i = n → Es (sCm yX3_reach cX3_reach 5 (some .int) 3 ad nw nt (fun v B1 L1 => v = some (.int (nI (farS B L w p))) ∧ B1 = B ∧ L1 = L)) 5 5 [some (.ref (ad 18 w)), some (.ref (ad 3 0)), some (.int (nI (farS B L w i))), some (.int (nI i)), none] [] ad nw nt B L bc bs := by
  have hC : ∀ Q, je_Ok (sCm yX3_reach cX3_reach 5 (some .int) 3 ad nw nt Q) RX3 cX3_reach 5 3 := fun _ => je_Cm_ok
  obtain ⟨h7, hp, hq⟩ := hW
  intro n
  induction n with
  | zero =>
    intro i hi hn
    have hik : i = p := by omega
    subst hik
    refine Es_iload_n (hC _) dX3_reach_5 rfl ?_
    first | refine Es_aload_n (hC _) dX3_reach_6 rfl ?_ | refine Es_aload_nN (hC _) dX3_reach_6 rfl ?_
    refine Sg_X3_3 (hC _) fl_X3_25 dX3_reach_7 hw ?_
    rw [hp]
    refine Es_icmp_ge (hC _) 59 dX3_reach_10 (by decide) (fun hb10 => ?_) (fun hb10 => False.elim (hb10 (nI_le (Nat.le_refl _) (by omega))))
    refine Es_iload_n (hC _) dX3_reach_59 rfl ?_
    exact Es_iret dX3_reach_60 rfl ⟨rfl, rfl, rfl⟩
  | succ n ih =>
    intro i hi hn
    obtain ⟨⟨k, hk5, hk⟩, hon⟩ := hq i (by omega)
    obtain ⟨l, hl, hl1⟩ := hL k hk5
    have hfl := farS_le B L w i
    rcases hon with hon | ⟨t, ht, hon⟩
    · have e := plE_0 (B := B) (L := L) (w := w) (p := i) (Or.inl (by rw [hon]; decide))
      refine Es_iload_n (hC _) dX3_reach_5 rfl ?_
      first | refine Es_aload_n (hC _) dX3_reach_6 rfl ?_ | refine Es_aload_nN (hC _) dX3_reach_6 rfl ?_
      refine Sg_X3_3 (hC _) fl_X3_25 dX3_reach_7 hw ?_
      rw [hp]
      refine Es_icmp_ge (hC _) 59 dX3_reach_10 (by decide) (fun hb10 => False.elim (nI_ge (b := p) (a := i) (by omega) (by omega) hb10)) (fun hb10 => ?_)
      first | refine Es_aload_n (hC _) dX3_reach_13 rfl ?_ | refine Es_aload_nN (hC _) dX3_reach_13 rfl ?_
      refine Es_iload_n (hC _) dX3_reach_14 rfl ?_
      refine Es_fV (hC _) mv_X3_48 dX3_reach_15 (c_tyreOn_in hw hp h7 (by omega)) (ok18 hw) rfl ⟨_, rfl, rfl⟩ rfl rfl (by decide) (Nat.le_of_ble_eq_true rfl) ?_
      rw [show rT ad (B 20 w i) = none by rw [hon]; rfl]
      first | refine Es_astore (lv' := [_, _, _, _, _]) (hC _) dX3_reach_18 (by decide) rfl rfl ?_ | refine Es_astoreN (lv' := [_, _, _, _, _]) (hC _) dX3_reach_18 (by decide) rfl rfl ?_
      first | refine Es_aload (hC _) dX3_reach_20 rfl ?_ | refine Es_aloadN (hC _) dX3_reach_20 rfl ?_
      refine Es_ifnullN (hC _) 53 dX3_reach_22 (by decide) ?_
      refine Es_iinc (lv' := [_, _, _, _, _]) (hC _) dX3_reach_53 (by decide) rfl (show _ + Int32.ofInt (1) = _ + (1) from rfl) rfl rfl ?_
      refine Es_goto (hC _) 5 dX3_reach_56 (by decide) ?_
      refine Es.kill 4 (lv' := [_, _, _, _, _]) rfl ?_
      simp only [nI_1]
      refine Es.eqV ?_ (ih (i + 1) (by omega) (by omega))
      simp only [farS]
      rw [e, Nat.min_eq_left hfl]
    · by_cases h4 : k = 4
      · have e := plE_0 (B := B) (L := L) (w := w) (p := i) (Or.inr (by rw [hk, h4]; rfl))
        refine Es_iload_n (hC _) dX3_reach_5 rfl ?_
        first | refine Es_aload_n (hC _) dX3_reach_6 rfl ?_ | refine Es_aload_nN (hC _) dX3_reach_6 rfl ?_
        refine Sg_X3_3 (hC _) fl_X3_25 dX3_reach_7 hw ?_
        rw [hp]
        refine Es_icmp_ge (hC _) 59 dX3_reach_10 (by decide) (fun hb10 => False.elim (nI_ge (b := p) (a := i) (by omega) (by omega) hb10)) (fun hb10 => ?_)
        first | refine Es_aload_n (hC _) dX3_reach_13 rfl ?_ | refine Es_aload_nN (hC _) dX3_reach_13 rfl ?_
        refine Es_iload_n (hC _) dX3_reach_14 rfl ?_
        refine Es_fV (hC _) mv_X3_48 dX3_reach_15 (c_tyreOn_in hw hp h7 (by omega)) (ok18 hw) rfl ⟨_, rfl, rfl⟩ rfl rfl (by decide) (Nat.le_of_ble_eq_true rfl) ?_
        rw [show rT ad (B 20 w i) = some (ad 21 t) by rw [hon, rT, if_neg (nI_pos (by omega)), nI_clamp (by omega)]]
        first | refine Es_astore (lv' := [_, _, _, _, _]) (hC _) dX3_reach_18 (by decide) rfl rfl ?_ | refine Es_astoreN (lv' := [_, _, _, _, _]) (hC _) dX3_reach_18 (by decide) rfl rfl ?_
        first | refine Es_aload (hC _) dX3_reach_20 rfl ?_ | refine Es_aloadN (hC _) dX3_reach_20 rfl ?_
        refine Es_ifnull (hC _) dX3_reach_22 ?_
        first | refine Es_aload_n (hC _) dX3_reach_25 rfl ?_ | refine Es_aload_nN (hC _) dX3_reach_25 rfl ?_
        refine Es_iload_n (hC _) dX3_reach_26 rfl ?_
        refine Es_fV (hC _) mv_X3_40 dX3_reach_27 (c_kindOf_in hw hp h7 (by omega)) (ok18 hw) rfl ⟨_, rfl, rfl⟩ rfl rfl (by decide) (Nat.le_of_ble_eq_true rfl) ?_
        refine Es_iconst (v := 4) (hC _) dX3_reach_30 (by decide) ?_
        refine Es_icmp_eq (hC _) 53 dX3_reach_31 (by decide) (fun hb31 => ?_) (fun hb31 => False.elim (hb31 (by rw [hk, h4]; rfl)))
        refine Es_iinc (lv' := [_, _, _, _, _]) (hC _) dX3_reach_53 (by decide) rfl (show _ + Int32.ofInt (1) = _ + (1) from rfl) rfl rfl ?_
        refine Es_goto (hC _) 5 dX3_reach_56 (by decide) ?_
        refine Es.kill 4 (lv' := [_, _, _, _, _]) rfl ?_
        simp only [nI_1]
        refine Es.eqV ?_ (ih (i + 1) (by omega) (by omega))
        simp only [farS]
        rw [e, Nat.min_eq_left hfl]
      · have e := plE_1 (L := L) hon (by omega) hk (by omega) h4 hl1 (by omega)
        have hen := tEn_le B L t l
        refine Es_iload_n (hC _) dX3_reach_5 rfl ?_
        first | refine Es_aload_n (hC _) dX3_reach_6 rfl ?_ | refine Es_aload_nN (hC _) dX3_reach_6 rfl ?_
        refine Sg_X3_3 (hC _) fl_X3_25 dX3_reach_7 hw ?_
        rw [hp]
        refine Es_icmp_ge (hC _) 59 dX3_reach_10 (by decide) (fun hb10 => False.elim (nI_ge (b := p) (a := i) (by omega) (by omega) hb10)) (fun hb10 => ?_)
        first | refine Es_aload_n (hC _) dX3_reach_13 rfl ?_ | refine Es_aload_nN (hC _) dX3_reach_13 rfl ?_
        refine Es_iload_n (hC _) dX3_reach_14 rfl ?_
        refine Es_fV (hC _) mv_X3_48 dX3_reach_15 (c_tyreOn_in hw hp h7 (by omega)) (ok18 hw) rfl ⟨_, rfl, rfl⟩ rfl rfl (by decide) (Nat.le_of_ble_eq_true rfl) ?_
        rw [show rT ad (B 20 w i) = some (ad 21 t) by rw [hon, rT, if_neg (nI_pos (by omega)), nI_clamp (by omega)]]
        first | refine Es_astore (lv' := [_, _, _, _, _]) (hC _) dX3_reach_18 (by decide) rfl rfl ?_ | refine Es_astoreN (lv' := [_, _, _, _, _]) (hC _) dX3_reach_18 (by decide) rfl rfl ?_
        first | refine Es_aload (hC _) dX3_reach_20 rfl ?_ | refine Es_aloadN (hC _) dX3_reach_20 rfl ?_
        refine Es_ifnull (hC _) dX3_reach_22 ?_
        first | refine Es_aload_n (hC _) dX3_reach_25 rfl ?_ | refine Es_aload_nN (hC _) dX3_reach_25 rfl ?_
        refine Es_iload_n (hC _) dX3_reach_26 rfl ?_
        refine Es_fV (hC _) mv_X3_40 dX3_reach_27 (c_kindOf_in hw hp h7 (by omega)) (ok18 hw) rfl ⟨_, rfl, rfl⟩ rfl rfl (by decide) (Nat.le_of_ble_eq_true rfl) ?_
        refine Es_iconst (v := 4) (hC _) dX3_reach_30 (by decide) ?_
        refine Es_icmp_eq (hC _) 53 dX3_reach_31 (by decide) (fun hb31 => False.elim (h4 ((nI_eq (a := k) (b := 4) (by omega) (by decide)).mp (hk.symm.trans hb31)))) (fun hb31 => ?_)
        refine Es_iload_n (hC _) dX3_reach_34 rfl ?_
        first | refine Es_aload (hC _) dX3_reach_35 rfl ?_ | refine Es_aloadN (hC _) dX3_reach_35 rfl ?_
        first | refine Es_aload_n (hC _) dX3_reach_37 rfl ?_ | refine Es_aload_nN (hC _) dX3_reach_37 rfl ?_
        first | refine Es_aload_n (hC _) dX3_reach_38 rfl ?_ | refine Es_aload_nN (hC _) dX3_reach_38 rfl ?_
        refine Es_iload_n (hC _) dX3_reach_39 rfl ?_
        refine Es_fV (hC _) mv_X3_40 dX3_reach_40 (c_kindOf_in hw hp h7 (by omega)) (ok18 hw) rfl ⟨_, rfl, rfl⟩ rfl rfl (by decide) (Nat.le_of_ble_eq_true rfl) ?_
        rw [hk]
        refine Es_fSN (hC _) ms_X3_36 dX3_reach_43 (c_at (kd := 3) (n := 5) (k := k) rfl rfl rfl (by omega) (by decide)) rfl rfl (by decide) (Nat.le_of_ble_eq_true rfl) ?_
        refine Es_fV (hC _) mv_X3_67 dX3_reach_46 (cT_endc hF ht hl1 (by omega)) (ok21 ht) rfl ⟨_, rfl, rfl⟩ rfl rfl (by decide) (Nat.le_of_ble_eq_true rfl) ?_
        refine Es_fS (hC _) ms_X3_70 dX3_reach_49 j_mini rfl rfl (by decide) (Nat.le_of_ble_eq_true rfl) ?_
        rw [mnI_N (by omega) (by omega)]
        refine Es_istore_n (lv' := [_, _, _, _, _]) (hC _) dX3_reach_52 (by decide) rfl rfl ?_
        refine Es_iinc (lv' := [_, _, _, _, _]) (hC _) dX3_reach_53 (by decide) rfl (show _ + Int32.ofInt (1) = _ + (1) from rfl) rfl rfl ?_
        refine Es_goto (hC _) 5 dX3_reach_56 (by decide) ?_
        refine Es.kill 4 (lv' := [_, _, _, _, _]) rfl ?_
        simp only [nI_1]
        refine Es.eqV ?_ (ih (i + 1) (by omega) (by omega))
        simp only [farS]
        rw [e]
set_option maxRecDepth 100000 in
set_option maxHeartbeats 4000000 in
theorem c_reach {ad : sA} {nw nt : Nat} {B : sB} {L : sL} {w p : Nat} (h40 : nt ≤ 40) (hw : w < nw) (hW : PW nt B w p) (hL : PL B) (hF : TFc nt B L) : Cf yX3_reach cX3_reach 5 (some FieldType.int) 3 [.ref (ad 18 w), .ref (ad 3 0)] ad nw nt B L (some (.int (nI (farS B L w p)))) (B) (L) := by
  have hC : ∀ Q, je_Ok (sCm yX3_reach cX3_reach 5 (some FieldType.int) 3 ad nw nt Q) RX3 cX3_reach 5 3 := fun _ => je_Cm_ok
  refine Cs_of [some (.ref (ad 18 w)), some (.ref (ad 3 0)), none, none, none] (by decide) rfl (Nat.le_of_ble_eq_true rfl) ?_
  refine Es_ldc (hC _) ct_X3_66 dX3_reach_0 ?_
  refine Es_istore_n (lv' := [_, _, _, _, _]) (hC _) dX3_reach_2 (by decide) rfl rfl ?_
  refine Es_iconst (v := 0) (hC _) dX3_reach_3 (by decide) ?_
  refine Es_istore_n (lv' := [_, _, _, _, _]) (hC _) dX3_reach_4 (by decide) rfl rfl ?_
  exact l_reach h40 hw hW hL hF p 0 (by omega) (by omega)

set_option maxRecDepth 100000 in
set_option maxHeartbeats 4000000 in
theorem l_farOf {ad : sA} {nw nt : Nat} {B : sB} {L : sL} {bc bs : Nat} {Bh : sB} (hb : ∀ k, 25 ≤ k → Bh k = B k) {w p : Nat} (h40 : nt ≤ 40) (hw5 : w < 5) (hX : PX nt B w p) (hLX0 : PLX B) (hF : TFa nt B L) : ∀ (n i : Nat) (L1 : sL), i ≤ p → p - i = n → wrel L L1 → Es (sCm yX6_farOf cX6_farOf 5 (some .int) 4 ad nw nt (fun v B1 L2 => v = some (.int (nI (farS B L w p))) ∧ B1 = Bh ∧ wrel L L2)) 5 5 [some (.ref (ad 25 0)), some (.int (nI w)), some (.int (nI (farS B L w i))), some (.int (nI i)), none] [] ad nw nt Bh L1 bc bs := by
  have hC : ∀ Q, je_Ok (sCm yX6_farOf cX6_farOf 5 (some .int) 4 ad nw nt Q) RX6 cX6_farOf 5 4 := fun _ => je_Cm_ok
  obtain ⟨⟨h7, -, hq⟩, hp, hrr⟩ := hX
  obtain ⟨hL, hLX⟩ := hLX0
  have hp : Bh 38 0 w = nI p := by rw [hb 38 (by decide)]; exact hp
  have hrr : ∀ q, q < p → Bh 39 0 (7 * w + q) = B 19 w q ∧ Bh 40 0 (7 * w + q) = B 20 w q := fun q hq => by rw [hb 39 (by decide), hb 40 (by decide)]; exact hrr q hq
  have hLX : ∀ k, k < 5 → Bh 31 0 k = B 3 0 k := fun k hk => by rw [hb 31 (by decide)]; exact hLX k hk
  intro n
  induction n with
  | zero =>
    intro i L1 hi hn hwr
    have hik : i = p := by omega
    subst hik
    refine Es_iload_n (hC _) dX6_farOf_5 rfl ?_
    first | refine Es_aload_n (hC _) dX6_farOf_6 rfl ?_ | refine Es_aload_nN (hC _) dX6_farOf_6 rfl ?_
    refine Sg_X6_8 (hC _) fl_X6_23 dX6_farOf_7 ?_
    refine Es_iload_n (hC _) dX6_farOf_10 rfl ?_
    refine Es_ialdN (hC _) dX6_farOf_11 rfl rfl rfl (by omega) (by decide) ?_
    rw [hp]
    refine Es_icmp_ge (hC _) 77 dX6_farOf_12 (by decide) (fun hb12 => ?_) (fun hb12 => False.elim (hb12 (nI_le (Nat.le_refl _) (by omega))))
    refine Es_iload_n (hC _) dX6_farOf_77 rfl ?_
    exact Es_iret dX6_farOf_78 rfl ⟨rfl, rfl, hwr⟩
  | succ n ih =>
    intro i L1 hi hn hwr
    obtain ⟨⟨k, hk5, hk⟩, hon⟩ := hq i (by omega)
    obtain ⟨hr9, hr10⟩ := hrr i (by omega)
    obtain ⟨l, hl, hl1⟩ := hL k hk5
    have hfl := farS_le B L w i
    by_cases h4 : k = 4
    · have e := plE_0 (B := B) (L := L) (w := w) (p := i) (Or.inr (by rw [hk, h4]; rfl))
      refine Es_iload_n (hC _) dX6_farOf_5 rfl ?_
      first | refine Es_aload_n (hC _) dX6_farOf_6 rfl ?_ | refine Es_aload_nN (hC _) dX6_farOf_6 rfl ?_
      refine Sg_X6_8 (hC _) fl_X6_23 dX6_farOf_7 ?_
      refine Es_iload_n (hC _) dX6_farOf_10 rfl ?_
      refine Es_ialdN (hC _) dX6_farOf_11 rfl rfl rfl (by omega) (by decide) ?_
      rw [hp]
      refine Es_icmp_ge (hC _) 77 dX6_farOf_12 (by decide) (fun hb12 => False.elim (nI_ge (b := p) (a := i) (by omega) (by omega) hb12)) (fun hb12 => ?_)
      refine Es_iload_n (hC _) dX6_farOf_15 rfl ?_
      refine Es_iload_n (hC _) dX6_farOf_16 rfl ?_
      refine Es_fS (hC _) ms_X6_97 dX6_farOf_17 r_spot rfl rfl (by decide) (Nat.le_of_ble_eq_true rfl) ?_
      refine Es_istore (lv' := [_, _, _, _, _]) (hC _) dX6_farOf_20 (by decide) rfl rfl ?_
      first | refine Es_aload_n (hC _) dX6_farOf_22 rfl ?_ | refine Es_aload_nN (hC _) dX6_farOf_22 rfl ?_
      refine Sg_X6_9 (hC _) fl_X6_26 dX6_farOf_23 ?_
      refine Es_iload (hC _) dX6_farOf_26 rfl ?_
      refine Es_ialdN (hC _) dX6_farOf_28 rfl rfl rfl (by omega) (by decide) ?_
      rw [hr9]
      refine Es_iconst (v := 4) (hC _) dX6_farOf_29 (by decide) ?_
      refine Es_icmp_eq (hC _) 71 dX6_farOf_30 (by decide) (fun hb30 => ?_) (fun hb30 => False.elim (hb30 (by rw [hk, h4]; rfl)))
      refine Es_iinc (lv' := [_, _, _, _, _]) (hC _) dX6_farOf_71 (by decide) rfl (show _ + Int32.ofInt (1) = _ + (1) from rfl) rfl rfl ?_
      refine Es_goto (hC _) 5 dX6_farOf_74 (by decide) ?_
      refine Es.kill 4 (lv' := [_, _, _, _, _]) rfl ?_
      simp only [nI_1]
      refine Es.eqV ?_ (ih (i + 1) L1 (by omega) (by omega) hwr)
      simp only [farS]
      rw [e, Nat.min_eq_left hfl]
    · rcases hon with hon | ⟨t, ht, hon⟩
      · have e := plE_0 (B := B) (L := L) (w := w) (p := i) (Or.inl (by rw [hon]; decide))
        refine Es_iload_n (hC _) dX6_farOf_5 rfl ?_
        first | refine Es_aload_n (hC _) dX6_farOf_6 rfl ?_ | refine Es_aload_nN (hC _) dX6_farOf_6 rfl ?_
        refine Sg_X6_8 (hC _) fl_X6_23 dX6_farOf_7 ?_
        refine Es_iload_n (hC _) dX6_farOf_10 rfl ?_
        refine Es_ialdN (hC _) dX6_farOf_11 rfl rfl rfl (by omega) (by decide) ?_
        rw [hp]
        refine Es_icmp_ge (hC _) 77 dX6_farOf_12 (by decide) (fun hb12 => False.elim (nI_ge (b := p) (a := i) (by omega) (by omega) hb12)) (fun hb12 => ?_)
        refine Es_iload_n (hC _) dX6_farOf_15 rfl ?_
        refine Es_iload_n (hC _) dX6_farOf_16 rfl ?_
        refine Es_fS (hC _) ms_X6_97 dX6_farOf_17 r_spot rfl rfl (by decide) (Nat.le_of_ble_eq_true rfl) ?_
        refine Es_istore (lv' := [_, _, _, _, _]) (hC _) dX6_farOf_20 (by decide) rfl rfl ?_
        first | refine Es_aload_n (hC _) dX6_farOf_22 rfl ?_ | refine Es_aload_nN (hC _) dX6_farOf_22 rfl ?_
        refine Sg_X6_9 (hC _) fl_X6_26 dX6_farOf_23 ?_
        refine Es_iload (hC _) dX6_farOf_26 rfl ?_
        refine Es_ialdN (hC _) dX6_farOf_28 rfl rfl rfl (by omega) (by decide) ?_
        rw [hr9]
        refine Es_iconst (v := 4) (hC _) dX6_farOf_29 (by decide) ?_
        refine Es_icmp_eq (hC _) 71 dX6_farOf_30 (by decide) (fun hb30 => False.elim (h4 ((nI_eq (a := k) (b := 4) (by omega) (by decide)).mp (hk.symm.trans hb30)))) (fun hb30 => ?_)
        first | refine Es_aload_n (hC _) dX6_farOf_33 rfl ?_ | refine Es_aload_nN (hC _) dX6_farOf_33 rfl ?_
        refine Sg_X6_10 (hC _) fl_X6_29 dX6_farOf_34 ?_
        refine Es_iload (hC _) dX6_farOf_37 rfl ?_
        refine Es_ialdN (hC _) dX6_farOf_39 rfl rfl rfl (by omega) (by decide) ?_
        rw [hr10]
        refine Es_if_lt (hC _) 71 dX6_farOf_40 (by decide) (fun hb40 => ?_) (fun hb40 => False.elim (hb40 (by rw [hon]; decide)))
        refine Es_iinc (lv' := [_, _, _, _, _]) (hC _) dX6_farOf_71 (by decide) rfl (show _ + Int32.ofInt (1) = _ + (1) from rfl) rfl rfl ?_
        refine Es_goto (hC _) 5 dX6_farOf_74 (by decide) ?_
        refine Es.kill 4 (lv' := [_, _, _, _, _]) rfl ?_
        simp only [nI_1]
        refine Es.eqV ?_ (ih (i + 1) L1 (by omega) (by omega) hwr)
        simp only [farS]
        rw [e, Nat.min_eq_left hfl]
      · have e := plE_1 (L := L) hon (by omega) hk (by omega) h4 hl1 (by omega)
        have hen := tEn_le B L t l
        refine Es_iload_n (hC _) dX6_farOf_5 rfl ?_
        first | refine Es_aload_n (hC _) dX6_farOf_6 rfl ?_ | refine Es_aload_nN (hC _) dX6_farOf_6 rfl ?_
        refine Sg_X6_8 (hC _) fl_X6_23 dX6_farOf_7 ?_
        refine Es_iload_n (hC _) dX6_farOf_10 rfl ?_
        refine Es_ialdN (hC _) dX6_farOf_11 rfl rfl rfl (by omega) (by decide) ?_
        rw [hp]
        refine Es_icmp_ge (hC _) 77 dX6_farOf_12 (by decide) (fun hb12 => False.elim (nI_ge (b := p) (a := i) (by omega) (by omega) hb12)) (fun hb12 => ?_)
        refine Es_iload_n (hC _) dX6_farOf_15 rfl ?_
        refine Es_iload_n (hC _) dX6_farOf_16 rfl ?_
        refine Es_fS (hC _) ms_X6_97 dX6_farOf_17 r_spot rfl rfl (by decide) (Nat.le_of_ble_eq_true rfl) ?_
        refine Es_istore (lv' := [_, _, _, _, _]) (hC _) dX6_farOf_20 (by decide) rfl rfl ?_
        first | refine Es_aload_n (hC _) dX6_farOf_22 rfl ?_ | refine Es_aload_nN (hC _) dX6_farOf_22 rfl ?_
        refine Sg_X6_9 (hC _) fl_X6_26 dX6_farOf_23 ?_
        refine Es_iload (hC _) dX6_farOf_26 rfl ?_
        refine Es_ialdN (hC _) dX6_farOf_28 rfl rfl rfl (by omega) (by decide) ?_
        rw [hr9]
        refine Es_iconst (v := 4) (hC _) dX6_farOf_29 (by decide) ?_
        refine Es_icmp_eq (hC _) 71 dX6_farOf_30 (by decide) (fun hb30 => False.elim (h4 ((nI_eq (a := k) (b := 4) (by omega) (by decide)).mp (hk.symm.trans hb30)))) (fun hb30 => ?_)
        first | refine Es_aload_n (hC _) dX6_farOf_33 rfl ?_ | refine Es_aload_nN (hC _) dX6_farOf_33 rfl ?_
        refine Sg_X6_10 (hC _) fl_X6_29 dX6_farOf_34 ?_
        refine Es_iload (hC _) dX6_farOf_37 rfl ?_
        refine Es_ialdN (hC _) dX6_farOf_39 rfl rfl rfl (by omega) (by decide) ?_
        rw [hr10]
        refine Es_if_lt (hC _) 71 dX6_farOf_40 (by decide) (fun hb40 => False.elim (nI_pos (by omega) (hon ▸ hb40))) (fun hb40 => ?_)
        refine Es_iload_n (hC _) dX6_farOf_43 rfl ?_
        first | refine Es_aload_n (hC _) dX6_farOf_44 rfl ?_ | refine Es_aload_nN (hC _) dX6_farOf_44 rfl ?_
        first | refine Es_aload_n (hC _) dX6_farOf_45 rfl ?_ | refine Es_aload_nN (hC _) dX6_farOf_45 rfl ?_
        refine Sg_X6_10 (hC _) fl_X6_29 dX6_farOf_46 ?_
        refine Es_iload (hC _) dX6_farOf_49 rfl ?_
        refine Es_ialdN (hC _) dX6_farOf_51 rfl rfl rfl (by omega) (by decide) ?_
        rw [hr10, hon]
        first | refine Es_aload_n (hC _) dX6_farOf_52 rfl ?_ | refine Es_aload_nN (hC _) dX6_farOf_52 rfl ?_
        refine Sg_X6_1 (hC _) fl_X6_13 dX6_farOf_53 ?_
        first | refine Es_aload_n (hC _) dX6_farOf_56 rfl ?_ | refine Es_aload_nN (hC _) dX6_farOf_56 rfl ?_
        refine Sg_X6_9 (hC _) fl_X6_26 dX6_farOf_57 ?_
        refine Es_iload (hC _) dX6_farOf_60 rfl ?_
        refine Es_ialdN (hC _) dX6_farOf_62 rfl rfl rfl (by omega) (by decide) ?_
        rw [hr9, hk]
        refine Es_ialdN (hC _) dX6_farOf_63 rfl rfl rfl (by omega) (by decide) ?_
        rw [hLX k hk5]
        refine Es_fV (hC _) mv_X6_161 dX6_farOf_64 (rT_endH hb (TFa_wrel hwr hF) ht h40 hl1 (by omega)) rfl rfl ⟨_, rfl, rfl⟩ rfl rfl (by decide) (Nat.le_of_ble_eq_true rfl) ?_
        refine Es_fS (hC _) ms_X6_164 dX6_farOf_67 j_mini rfl rfl (by decide) (Nat.le_of_ble_eq_true rfl) ?_
        rw [tEn_wrel hwr, mnI_N (by omega) (by omega)]
        refine Es_istore_n (lv' := [_, _, _, _, _]) (hC _) dX6_farOf_70 (by decide) rfl rfl ?_
        refine Es_iinc (lv' := [_, _, _, _, _]) (hC _) dX6_farOf_71 (by decide) rfl (show _ + Int32.ofInt (1) = _ + (1) from rfl) rfl rfl ?_
        refine Es_goto (hC _) 5 dX6_farOf_74 (by decide) ?_
        refine Es.kill 4 (lv' := [_, _, _, _, _]) rfl ?_
        simp only [nI_1]
        refine Es.eqV ?_ (ih (i + 1) (wR L1 (tW L1 t)) (by omega) (by omega) (hwr.w _))
        simp only [farS]
        rw [e]
set_option maxRecDepth 100000 in
set_option maxHeartbeats 4000000 in
theorem r_farOfH {ad : sA} {nw nt : Nat} {B Bh : sB} {L L1 : sL} (hb : ∀ k, 25 ≤ k → Bh k = B k) {w p : Nat} (h40 : nt ≤ 40) (hw5 : w < 5) (hX : PX nt B w p) (hLX : PLX B) (hF : TFa nt B L) (hwr : wrel L L1) : Cs yX6_farOf cX6_farOf 5 (some FieldType.int) 4 [.ref (ad 25 0), .int (nI w)] ad nw nt Bh L1 (fun v B1 L2 => v = some (.int (nI (farS B L w p))) ∧ B1 = Bh ∧ wrel L L2) := by
  have hC : ∀ Q, je_Ok (sCm yX6_farOf cX6_farOf 5 (some .int) 4 ad nw nt Q) RX6 cX6_farOf 5 4 := fun _ => je_Cm_ok
  refine Cs_of [some (.ref (ad 25 0)), some (.int (nI w)), none, none, none] (by decide) rfl (Nat.le_of_ble_eq_true rfl) ?_
  refine Es_ldc (hC _) ct_X6_152 dX6_farOf_0 ?_
  refine Es_istore_n (lv' := [_, _, _, _, _]) (hC _) dX6_farOf_2 (by decide) rfl rfl ?_
  refine Es_iconst (v := 0) (hC _) dX6_farOf_3 (by decide) ?_
  refine Es_istore_n (lv' := [_, _, _, _, _]) (hC _) dX6_farOf_4 (by decide) rfl rfl ?_
  exact l_farOf hb h40 hw5 hX hLX hF p 0 L1 (by omega) (by omega) hwr
theorem r_farOf {ad : sA} {nw nt : Nat} {B : sB} {L L1 : sL} {w p : Nat} (h40 : nt ≤ 40) (hw5 : w < 5) (hX : PX nt B w p) (hLX : PLX B) (hF : TFa nt B L) (hwr : wrel L L1) : Cs yX6_farOf cX6_farOf 5 (some FieldType.int) 4 [.ref (ad 25 0), .int (nI w)] ad nw nt B L1 (fun v B1 L2 => v = some (.int (nI (farS B L w p))) ∧ B1 = B ∧ wrel L L2) := r_farOfH (fun _ _ => rfl) h40 hw5 hX hLX hF hwr
set_option maxRecDepth 100000 in
set_option maxHeartbeats 4000000 in
theorem c_far_1 {ad : sA} {nw nt : Nat} {B : sB} {L : sL} (hnw : B 0 0 8 = nI nw) (h5 : nw ≤ 5) {y : Int32} (how : out y nw)  : Cf yX5_far cX5_far 3 (some FieldType.int) 5 [.ref (ad 0 0), .int y] ad nw nt B L (some (.int (-1))) (uB B 5 0 1 (B 5 0 1 + 1)) (L) := by
  have hC : ∀ Q, je_Ok (sCm yX5_far cX5_far 3 (some FieldType.int) 5 ad nw nt Q) RX5 cX5_far 3 5 := fun _ => je_Cm_ok
  refine Cs_of [some (.ref (ad 0 0)), some (.int y), none] (by decide) rfl (Nat.le_of_ble_eq_true rfl) ?_
  first | refine Es_aload_n (hC _) dX5_far_0 rfl ?_ | refine Es_aload_nN (hC _) dX5_far_0 rfl ?_
  refine Es_iload_n (hC _) dX5_far_1 rfl ?_
  refine Es_fV (hC _) mv_X5_77 dX5_far_2 (c_wagonAt_out hnw how) rfl rfl ⟨_, rfl, rfl⟩ rfl rfl (by decide) (Nat.le_of_ble_eq_true rfl) ?_
  first | refine Es_astore_n (lv' := [_, _, _]) (hC _) dX5_far_5 (by decide) rfl rfl ?_ | refine Es_astore_nN (lv' := [_, _, _]) (hC _) dX5_far_5 (by decide) rfl rfl ?_
  first | refine Es_aload_n (hC _) dX5_far_6 rfl ?_ | refine Es_aload_nN (hC _) dX5_far_6 rfl ?_
  refine Es_ifnonnullN (hC _) dX5_far_7 ?_
  first | refine Es_aload_n (hC _) dX5_far_10 rfl ?_ | refine Es_aload_nN (hC _) dX5_far_10 rfl ?_
  refine Es_iconst (v := -1) (hC _) dX5_far_11 (by decide) ?_
  refine Es_fV (hC _) mv_X5_70 dX5_far_12 (c_refuse (k := 1) (by decide) (by decide)) rfl rfl ⟨_, rfl, rfl⟩ rfl rfl (by decide) (Nat.le_of_ble_eq_true rfl) ?_
  refine Es_goto (hC _) 26 dX5_far_15 (by decide) ?_
  exact Es_iret dX5_far_26 rfl ⟨rfl, rfl, rfl⟩

set_option maxRecDepth 100000 in
set_option maxHeartbeats 4000000 in
theorem r_far_1 {ad : sA} {nw nt : Nat} {B : sB} {L : sL} (hnw : B 25 0 4 = nI nw) (h5 : nw ≤ 5) {y : Int32} (how : out y nw)  : Cf yX6_far cX6_far 2 (some FieldType.int) 5 [.ref (ad 25 0), .int y] ad nw nt B L (some (.int (-1))) (uB B 30 0 1 (B 30 0 1 + 1)) (L) := by
  have hC : ∀ Q, je_Ok (sCm yX6_far cX6_far 2 (some FieldType.int) 5 ad nw nt Q) RX6 cX6_far 2 5 := fun _ => je_Cm_ok
  refine Cs_of [some (.ref (ad 25 0)), some (.int y)] (by decide) rfl (Nat.le_of_ble_eq_true rfl) ?_
  refine Es_iload_n (hC _) dX6_far_0 rfl ?_
  first | refine Es_aload_n (hC _) dX6_far_1 rfl ?_ | refine Es_aload_nN (hC _) dX6_far_1 rfl ?_
  refine Sg_X6_4 (hC _) fl_X6_86 dX6_far_2 ?_
  rw [hnw]
  refine Es_fS (hC _) ms_X6_89 dX6_far_5 (r_isIn_out how) rfl rfl (by decide) (Nat.le_of_ble_eq_true rfl) ?_
  refine Es_if_eq (hC _) 19 dX6_far_8 (by decide) (fun hb8 => ?_) (fun hb8 => False.elim ((by first | exact absurd hb8 (by decide) | exact absurd hb8 (by assumption) | exact hb8 (by assumption) | exact hb8 rfl | (simp_all [bI]; done))))
  first | refine Es_aload_n (hC _) dX6_far_19 rfl ?_ | refine Es_aload_nN (hC _) dX6_far_19 rfl ?_
  refine Es_iconst (v := -1) (hC _) dX6_far_20 (by decide) ?_
  refine Es_fV (hC _) mv_X6_93 dX6_far_21 (r_refuse (k := 1) (by decide) (by decide)) rfl rfl ⟨_, rfl, rfl⟩ rfl rfl (by decide) (Nat.le_of_ble_eq_true rfl) ?_
  exact Es_iret dX6_far_24 rfl ⟨rfl, rfl, rfl⟩

set_option maxRecDepth 100000 in
set_option maxHeartbeats 4000000 in
theorem c_far_ok {ad : sA} {nw nt : Nat} {B : sB} {L : sL} (hnw : B 0 0 8 = nI nw) (h5 : nw ≤ 5) {w : Nat} (hw : w < nw) {p : Nat} (h40 : nt ≤ 40) (hW : PW nt B w p) (hL : PL B) (hF : TFa nt B L) : Cf yX5_far cX5_far 3 (some FieldType.int) 5 [.ref (ad 0 0), .int (nI w)] ad nw nt B L (some (.int (nI (farS B L w p)))) (B) (L) := by
  have hC : ∀ Q, je_Ok (sCm yX5_far cX5_far 3 (some FieldType.int) 5 ad nw nt Q) RX5 cX5_far 3 5 := fun _ => je_Cm_ok
  refine Cs_of [some (.ref (ad 0 0)), some (.int (nI w)), none] (by decide) rfl (Nat.le_of_ble_eq_true rfl) ?_
  first | refine Es_aload_n (hC _) dX5_far_0 rfl ?_ | refine Es_aload_nN (hC _) dX5_far_0 rfl ?_
  refine Es_iload_n (hC _) dX5_far_1 rfl ?_
  refine Es_fV (hC _) mv_X5_77 dX5_far_2 (c_wagonAt_in hnw h5 hw) rfl rfl ⟨_, rfl, rfl⟩ rfl rfl (by decide) (Nat.le_of_ble_eq_true rfl) ?_
  first | refine Es_astore_n (lv' := [_, _, _]) (hC _) dX5_far_5 (by decide) rfl rfl ?_ | refine Es_astore_nN (lv' := [_, _, _]) (hC _) dX5_far_5 (by decide) rfl rfl ?_
  first | refine Es_aload_n (hC _) dX5_far_6 rfl ?_ | refine Es_aload_nN (hC _) dX5_far_6 rfl ?_
  refine Es_ifnonnull (hC _) 18 dX5_far_7 (by decide) ?_
  first | refine Es_aload_n (hC _) dX5_far_18 rfl ?_ | refine Es_aload_nN (hC _) dX5_far_18 rfl ?_
  first | refine Es_aload_n (hC _) dX5_far_19 rfl ?_ | refine Es_aload_nN (hC _) dX5_far_19 rfl ?_
  refine Sg_X5_2 (hC _) fl_X5_30 dX5_far_20 ?_
  refine Es_fV (hC _) mv_X5_176 dX5_far_23 (c_reach h40 hw hW hL hF.c) (ok18 hw) rfl ⟨_, rfl, rfl⟩ rfl rfl (by decide) (Nat.le_of_ble_eq_true rfl) ?_
  exact Es_iret dX5_far_26 rfl ⟨rfl, rfl, rfl⟩

set_option maxRecDepth 100000 in
set_option maxHeartbeats 4000000 in
theorem r_far_ok {ad : sA} {nw nt : Nat} {B : sB} {L : sL} (hnw : B 25 0 4 = nI nw) (h5 : nw ≤ 5) {w : Nat} (hw : w < nw) {p : Nat} (h40 : nt ≤ 40) (hX : PX nt B w p) (hLX : PLX B) (hF : TFa nt B L) : Cs yX6_far cX6_far 2 (some FieldType.int) 5 [.ref (ad 25 0), .int (nI w)] ad nw nt B L (fun v B1 L2 => v = some (.int (nI (farS B L w p))) ∧ B1 = B ∧ wrel L L2) := by
  have hC : ∀ Q, je_Ok (sCm yX6_far cX6_far 2 (some .int) 5 ad nw nt Q) RX6 cX6_far 2 5 := fun _ => je_Cm_ok
  refine Cs_of [some (.ref (ad 25 0)), some (.int (nI w))] (by decide) rfl (Nat.le_of_ble_eq_true rfl) ?_
  refine Es_iload_n (hC _) dX6_far_0 rfl ?_
  first | refine Es_aload_n (hC _) dX6_far_1 rfl ?_ | refine Es_aload_nN (hC _) dX6_far_1 rfl ?_
  refine Sg_X6_4 (hC _) fl_X6_86 dX6_far_2 ?_
  rw [hnw]
  refine Es_fS (hC _) ms_X6_89 dX6_far_5 (r_isIn_in hw (by omega)) rfl rfl (by decide) (Nat.le_of_ble_eq_true rfl) ?_
  refine Es_if_eq (hC _) 19 dX6_far_8 (by decide) (fun hb8 => False.elim ((by first | exact absurd hb8 (by decide) | exact absurd hb8 (by assumption) | exact hb8 (by assumption) | exact hb8 rfl | (simp_all [bI]; done)))) (fun hb8 => ?_)
  first | refine Es_aload_n (hC _) dX6_far_11 rfl ?_ | refine Es_aload_nN (hC _) dX6_far_11 rfl ?_
  refine Es_iload_n (hC _) dX6_far_12 rfl ?_
  refine Es_callV (hC _) mv_X6_173 dX6_far_13 (r_farOf h40 (by omega) hX hLX hF wrel.rf) rfl rfl ⟨_, rfl, rfl⟩ rfl rfl (by decide) (Nat.le_of_ble_eq_true rfl) (fun v' B1 L2 q => ?_)
  obtain ⟨rfl, rfl, q⟩ := q
  refine Es_goto (hC _) 24 dX6_far_16 (by decide) ?_
  exact Es_iret dX6_far_24 rfl ⟨rfl, rfl, q⟩
theorem s_far {ad : sA} {nw nt : Nat} {B : sB} {L : sL} (hR : Rel nw nt B L) (y : Int32) : StG yX5_far cX5_far 3 5 yX6_far cX6_far 2 5 (some .int) [.int y] ad nw nt B L := by
  obtain ⟨s1, s2, s3, s4, s5, s6, s7, s8, s9, s10⟩ := hR.1
  rcases in_out y (n := nw) (by omega) with ⟨w, hw, rfl⟩ | how
  · obtain ⟨p, hX⟩ := px_of hR hw
    refine StG_of (c_far_ok s2 s3 hw s6 hX.1 (plx_of hR).1 (tfa_of hR)) (r_far_ok s1 s3 hw s6 hX (plx_of hR) (tfa_of hR)) (fun v'' B2 L2 q => ?_)
    obtain ⟨rfl, rfl, q⟩ := q
    exact ⟨rfl, Rel_wrel q hR⟩
  · exact Stq.gen ⟨_, _, _, _, _, c_far_1 s2 s3 how, r_far_1 (by exact s1) s3 how, Rel_refuse hR⟩
