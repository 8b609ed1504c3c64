theorem wh_ret {B : sB} {L : sL} {w p ap n i c : Nat} (h : flS B L w p ap i = c) (hc : c ≠ 0) : whyS B L w p ap (n + 1) i = nI (10 * i + c) := by
  simp only [whyS]
  rw [h, if_neg hc]
theorem wh_0 {B : sB} {L : sL} {w p ap n i : Nat} (h : flS B L w p ap i = 0) : whyS B L w p ap (n + 1) i = whyS B L w p ap n (i + 1) := by
  simp only [whyS]
  rw [if_pos h]
theorem tenp (i c : Nat) : (10 : Int32) * nI i + nI c = nI (10 * i + c) := by rw [show (10 : Int32) = nI 10 from rfl, pk_mul, nI_add]
/-- pairs and treads on the reference's side -/
def PXP (B : sB) (w p : Nat) : Prop := ∀ q, q < p → (∃ q2, prX (B 19 w) p q = some q2 ∧ B 41 0 (7 * w + q) = nI q2) ∨ (prX (B 19 w) p q = none ∧ B 41 0 (7 * w + q) = -1)
def PTR (nt : Nat) (B : sB) : Prop := ∀ t, t < nt → B 44 0 t = B 21 t 7
theorem pxp_of {nw nt : Nat} {B : sB} {L : sL} {w p : Nat} (hR : Rel nw nt B L) (hw : w < nw) (hX : PX nt B w p) : PXP B w p := by
  obtain ⟨p', h7, w1, w2, w3, w4, w5⟩ := hR.2.2.1.1 w hw
  have : p' = p := (nI_eq (by omega) (by have := hX.1.1; omega)).mp (w3.symm.trans hX.2.1)
  subst this
  exact fun q hq => twO_prX (w4 q hq).2.2.2.2
theorem ptr_of {nw nt : Nat} {B : sB} {L : sL} (hR : Rel nw nt B L) : PTR nt B := fun t ht => ((hR.2.2.2.1.1 t ht).2.2.2.2.1).symm
set_option maxRecDepth 100000 in
set_option maxHeartbeats 4000000 in
theorem l_whyOf {ad : sA} {nw nt : Nat} {B : sB} {L : sL} {bc bs : Nat} {Bh : sB} (hb : ∀ k, 25 ≤ k → Bh k = B k) {w p ap : Nat} {g : Int32} (h40 : nt ≤ 40) (hw5 : w < 5) (hX : PX nt B w p) (hLX0 : PLX B) (hF : TFa nt B L) (hXP : PXP B w p) (hTR : PTR nt B) (hap : B 25 0 6 = nI ap) (hap1 : ap ≤ 100) : ∀ (n i : Nat) (L1 : sL), i ≤ p → p - i = n → wrel L L1 → whyS B L w p ap n i = g → Es (sCm yX6_whyOf cX6_whyOf 6 (some .int) 4 ad nw nt (fun v B1 L2 => v = some (.int g) ∧ B1 = Bh ∧ wrel L L2)) 6 2 [some (.ref (ad 25 0)), some (.int (nI w)), some (.int (nI i)), none, none, none] [] ad nw nt Bh L1 bc bs := by
  have hC : ∀ Q, je_Ok (sCm yX6_whyOf cX6_whyOf 6 (some .int) 4 ad nw nt Q) RX6 cX6_whyOf 6 4 := fun _ => je_Cm_ok
  obtain ⟨⟨h7, hpc, hq⟩, hp, hrr⟩ := hX
  obtain ⟨hL, hLX⟩ := hLX0
  have hp : Bh 38 0 w = nI p := by rw [hb 38 (by decide)]; exact hp
  have hrr : ∀ q, q < p → Bh 39 0 (7 * w + q) = B 19 w q ∧ Bh 40 0 (7 * w + q) = B 20 w q := fun q hq => by rw [hb 39 (by decide), hb 40 (by decide)]; exact hrr q hq
  have hLX : ∀ k, k < 5 → Bh 31 0 k = B 3 0 k := fun k hk => by rw [hb 31 (by decide)]; exact hLX k hk
  have hTR : ∀ t, t < nt → Bh 44 0 t = B 21 t 7 := fun t ht => by rw [hb 44 (by decide)]; exact hTR t ht
  have hap : Bh 25 0 6 = nI ap := by rw [hb 25 (by decide)]; exact hap
  have hXP : ∀ q, q < p → (∃ q2, prX (B 19 w) p q = some q2 ∧ Bh 41 0 (7 * w + q) = nI q2) ∨ (prX (B 19 w) p q = none ∧ Bh 41 0 (7 * w + q) = -1) := by rw [hb 41 (by decide)]; exact hXP
  intro n
  induction n with
  | zero =>
    intro i L1 hi hn hwr hg
    have hik : i = p := by omega
    subst hik
    refine Es_iload_n (hC _) dX6_whyOf_2 rfl ?_
    first | refine Es_aload_n (hC _) dX6_whyOf_3 rfl ?_ | refine Es_aload_nN (hC _) dX6_whyOf_3 rfl ?_
    refine Sg_X6_8 (hC _) fl_X6_23 dX6_whyOf_4 ?_
    refine Es_iload_n (hC _) dX6_whyOf_7 rfl ?_
    refine Es_ialdN (hC _) dX6_whyOf_8 rfl rfl rfl (by omega) (by decide) ?_
    rw [hp]
    refine Es_icmp_ge (hC _) 203 dX6_whyOf_9 (by decide) (fun hb9 => ?_) (fun hb9 => False.elim (hb9 (nI_le (Nat.le_refl _) (by omega))))
    refine Es_bipush (v := -9) (hC _) dX6_whyOf_203 (by decide) ?_
    exact Es_iret dX6_whyOf_205 rfl ⟨by rw [← hg]; rfl, rfl, hwr⟩
  | succ n ih =>
    intro i L1 hi hn hwr hg
    obtain ⟨⟨k, hk5, hk⟩, hon⟩ := hq i (by omega)
    obtain ⟨hr9, hr10⟩ := hrr i (by omega)
    obtain ⟨l, hl1, hl⟩ := hL k hk5
    rcases hon with hon | ⟨t, ht, hon⟩
    · by_cases h4 : B 19 w i = 4
      · skip
        refine Es_iload_n (hC _) dX6_whyOf_2 rfl ?_
        first | refine Es_aload_n (hC _) dX6_whyOf_3 rfl ?_ | refine Es_aload_nN (hC _) dX6_whyOf_3 rfl ?_
        refine Sg_X6_8 (hC _) fl_X6_23 dX6_whyOf_4 ?_
        refine Es_iload_n (hC _) dX6_whyOf_7 rfl ?_
        refine Es_ialdN (hC _) dX6_whyOf_8 rfl rfl rfl (by omega) (by decide) ?_
        rw [hp]
        refine Es_icmp_ge (hC _) 203 dX6_whyOf_9 (by decide) (fun hb9 => False.elim (nI_ge (b := p) (a := i) (by omega) (by omega) hb9)) (fun hb9 => ?_)
        refine Es_iload_n (hC _) dX6_whyOf_12 rfl ?_
        refine Es_iload_n (hC _) dX6_whyOf_13 rfl ?_
        refine Es_fS (hC _) ms_X6_97 dX6_whyOf_14 r_spot rfl rfl (by decide) (Nat.le_of_ble_eq_true rfl) ?_
        refine Es_istore_n (lv' := [_, _, _, _, _, _]) (hC _) dX6_whyOf_17 (by decide) rfl rfl ?_
        first | refine Es_aload_n (hC _) dX6_whyOf_18 rfl ?_ | refine Es_aload_nN (hC _) dX6_whyOf_18 rfl ?_
        refine Sg_X6_10 (hC _) fl_X6_29 dX6_whyOf_19 ?_
        refine Es_iload_n (hC _) dX6_whyOf_22 rfl ?_
        refine Es_ialdN (hC _) dX6_whyOf_23 rfl rfl rfl (by omega) (by decide) ?_
        rw [hr10, hon]
        refine Es_istore (lv' := [_, _, _, _, _, _]) (hC _) dX6_whyOf_24 (by decide) rfl rfl ?_
        refine Es_iconst (v := 0) (hC _) dX6_whyOf_26 (by decide) ?_
        refine Es_istore (lv' := [_, _, _, _, _, _]) (hC _) dX6_whyOf_27 (by decide) rfl rfl ?_
        refine Es_iload (hC _) dX6_whyOf_29 rfl ?_
        refine Es_if_ge (hC _) 54 dX6_whyOf_31 (by decide) (fun hb31 => False.elim (absurd hb31 (by decide))) (fun hb31 => ?_)
        first | refine Es_aload_n (hC _) dX6_whyOf_34 rfl ?_ | refine Es_aload_nN (hC _) dX6_whyOf_34 rfl ?_
        refine Sg_X6_9 (hC _) fl_X6_26 dX6_whyOf_35 ?_
        refine Es_iload_n (hC _) dX6_whyOf_38 rfl ?_
        refine Es_ialdN (hC _) dX6_whyOf_39 rfl rfl rfl (by omega) (by decide) ?_
        rw [hr9]
        refine Es_iconst (v := 4) (hC _) dX6_whyOf_40 (by decide) ?_
        refine Es_icmp_ne (hC _) 48 dX6_whyOf_41 (by decide) (fun hb41 => False.elim (hb41 h4)) (fun hb41 => ?_)
        refine Es_iconst (v := 0) (hC _) dX6_whyOf_44 (by decide) ?_
        refine Es_goto (hC _) 49 dX6_whyOf_45 (by decide) ?_
        refine Es_istore (lv' := [_, _, _, _, _, _]) (hC _) dX6_whyOf_49 (by decide) rfl rfl ?_
        refine Es_goto (hC _) 184 dX6_whyOf_51 (by decide) ?_
        refine Es_iload (hC _) dX6_whyOf_184 rfl ?_
        refine Es_if_le (hC _) 197 dX6_whyOf_186 (by decide) (fun hb186 => ?_) (fun hb186 => False.elim (hb186 (by decide)))
        refine Es_iinc (lv' := [_, _, _, _, _, _]) (hC _) dX6_whyOf_197 (by decide) rfl (show _ + Int32.ofInt (1) = _ + (1) from rfl) rfl rfl ?_
        refine Es_goto (hC _) 2 dX6_whyOf_200 (by decide) ?_
        refine Es.kill 3 (lv' := [_, _, _, _, _, _]) rfl ?_
        refine Es.kill 4 (lv' := [_, _, _, _, _, _]) rfl ?_
        refine Es.kill 5 (lv' := [_, _, _, _, _, _]) rfl ?_
        rw [nI_1]
        exact ih (i + 1) L1 (by omega) (by omega) hwr (by rw [← hg, wh_0 (fl_1 hon h4)])
      · skip
        refine Es_iload_n (hC _) dX6_whyOf_2 rfl ?_
        first | refine Es_aload_n (hC _) dX6_whyOf_3 rfl ?_ | refine Es_aload_nN (hC _) dX6_whyOf_3 rfl ?_
        refine Sg_X6_8 (hC _) fl_X6_23 dX6_whyOf_4 ?_
        refine Es_iload_n (hC _) dX6_whyOf_7 rfl ?_
        refine Es_ialdN (hC _) dX6_whyOf_8 rfl rfl rfl (by omega) (by decide) ?_
        rw [hp]
        refine Es_icmp_ge (hC _) 203 dX6_whyOf_9 (by decide) (fun hb9 => False.elim (nI_ge (b := p) (a := i) (by omega) (by omega) hb9)) (fun hb9 => ?_)
        refine Es_iload_n (hC _) dX6_whyOf_12 rfl ?_
        refine Es_iload_n (hC _) dX6_whyOf_13 rfl ?_
        refine Es_fS (hC _) ms_X6_97 dX6_whyOf_14 r_spot rfl rfl (by decide) (Nat.le_of_ble_eq_true rfl) ?_
        refine Es_istore_n (lv' := [_, _, _, _, _, _]) (hC _) dX6_whyOf_17 (by decide) rfl rfl ?_
        first | refine Es_aload_n (hC _) dX6_whyOf_18 rfl ?_ | refine Es_aload_nN (hC _) dX6_whyOf_18 rfl ?_
        refine Sg_X6_10 (hC _) fl_X6_29 dX6_whyOf_19 ?_
        refine Es_iload_n (hC _) dX6_whyOf_22 rfl ?_
        refine Es_ialdN (hC _) dX6_whyOf_23 rfl rfl rfl (by omega) (by decide) ?_
        rw [hr10, hon]
        refine Es_istore (lv' := [_, _, _, _, _, _]) (hC _) dX6_whyOf_24 (by decide) rfl rfl ?_
        refine Es_iconst (v := 0) (hC _) dX6_whyOf_26 (by decide) ?_
        refine Es_istore (lv' := [_, _, _, _, _, _]) (hC _) dX6_whyOf_27 (by decide) rfl rfl ?_
        refine Es_iload (hC _) dX6_whyOf_29 rfl ?_
        refine Es_if_ge (hC _) 54 dX6_whyOf_31 (by decide) (fun hb31 => False.elim (absurd hb31 (by decide))) (fun hb31 => ?_)
        first | refine Es_aload_n (hC _) dX6_whyOf_34 rfl ?_ | refine Es_aload_nN (hC _) dX6_whyOf_34 rfl ?_
        refine Sg_X6_9 (hC _) fl_X6_26 dX6_whyOf_35 ?_
        refine Es_iload_n (hC _) dX6_whyOf_38 rfl ?_
        refine Es_ialdN (hC _) dX6_whyOf_39 rfl rfl rfl (by omega) (by decide) ?_
        rw [hr9]
        refine Es_iconst (v := 4) (hC _) dX6_whyOf_40 (by decide) ?_
        refine Es_icmp_ne (hC _) 48 dX6_whyOf_41 (by decide) (fun hb41 => ?_) (fun hb41 => False.elim (h4 hb41))
        refine Es_iconst (v := 1) (hC _) dX6_whyOf_48 (by decide) ?_
        refine Es_istore (lv' := [_, _, _, _, _, _]) (hC _) dX6_whyOf_49 (by decide) rfl rfl ?_
        refine Es_goto (hC _) 184 dX6_whyOf_51 (by decide) ?_
        refine Es_iload (hC _) dX6_whyOf_184 rfl ?_
        refine Es_if_le (hC _) 197 dX6_whyOf_186 (by decide) (fun hb186 => False.elim (absurd hb186 (by decide))) (fun hb186 => ?_)
        refine Es_bipush (v := 10) (hC _) dX6_whyOf_189 (by decide) ?_
        refine Es_iload_n (hC _) dX6_whyOf_191 rfl ?_
        refine Es_imul (hC _) dX6_whyOf_192 ?_
        refine Es_iload (hC _) dX6_whyOf_193 rfl ?_
        refine Es_iadd (hC _) dX6_whyOf_195 ?_
        exact Es_iret dX6_whyOf_196 rfl ⟨by rw [← hg, wh_ret (fl_2 hon h4) (by decide)]; exact congrArg (fun q => some (Value.int q)) (tenp i 1), rfl, hwr⟩
    · have hdl := tDp_le (mo := 0) hF ht
      by_cases hs : B 19 w i = 0 ∧ 0 < B 21 t 7
      · obtain ⟨hs0, hs1⟩ := hs
        refine Es_iload_n (hC _) dX6_whyOf_2 rfl ?_
        first | refine Es_aload_n (hC _) dX6_whyOf_3 rfl ?_ | refine Es_aload_nN (hC _) dX6_whyOf_3 rfl ?_
        refine Sg_X6_8 (hC _) fl_X6_23 dX6_whyOf_4 ?_
        refine Es_iload_n (hC _) dX6_whyOf_7 rfl ?_
        refine Es_ialdN (hC _) dX6_whyOf_8 rfl rfl rfl (by omega) (by decide) ?_
        rw [hp]
        refine Es_icmp_ge (hC _) 203 dX6_whyOf_9 (by decide) (fun hb9 => False.elim (nI_ge (b := p) (a := i) (by omega) (by omega) hb9)) (fun hb9 => ?_)
        refine Es_iload_n (hC _) dX6_whyOf_12 rfl ?_
        refine Es_iload_n (hC _) dX6_whyOf_13 rfl ?_
        refine Es_fS (hC _) ms_X6_97 dX6_whyOf_14 r_spot rfl rfl (by decide) (Nat.le_of_ble_eq_true rfl) ?_
        refine Es_istore_n (lv' := [_, _, _, _, _, _]) (hC _) dX6_whyOf_17 (by decide) rfl rfl ?_
        first | refine Es_aload_n (hC _) dX6_whyOf_18 rfl ?_ | refine Es_aload_nN (hC _) dX6_whyOf_18 rfl ?_
        refine Sg_X6_10 (hC _) fl_X6_29 dX6_whyOf_19 ?_
        refine Es_iload_n (hC _) dX6_whyOf_22 rfl ?_
        refine Es_ialdN (hC _) dX6_whyOf_23 rfl rfl rfl (by omega) (by decide) ?_
        rw [hr10, hon]
        refine Es_istore (lv' := [_, _, _, _, _, _]) (hC _) dX6_whyOf_24 (by decide) rfl rfl ?_
        refine Es_iconst (v := 0) (hC _) dX6_whyOf_26 (by decide) ?_
        refine Es_istore (lv' := [_, _, _, _, _, _]) (hC _) dX6_whyOf_27 (by decide) rfl rfl ?_
        refine Es_iload (hC _) dX6_whyOf_29 rfl ?_
        refine Es_if_ge (hC _) 54 dX6_whyOf_31 (by decide) (fun hb31 => ?_) (fun hb31 => False.elim (hb31 (nI_pos' (by omega))))
        first | refine Es_aload_n (hC _) dX6_whyOf_54 rfl ?_ | refine Es_aload_nN (hC _) dX6_whyOf_54 rfl ?_
        refine Sg_X6_9 (hC _) fl_X6_26 dX6_whyOf_55 ?_
        refine Es_iload_n (hC _) dX6_whyOf_58 rfl ?_
        refine Es_ialdN (hC _) dX6_whyOf_59 rfl rfl rfl (by omega) (by decide) ?_
        rw [hr9]
        refine Es_if_ne (hC _) 79 dX6_whyOf_60 (by decide) (fun hb60 => False.elim (hb60 hs0)) (fun hb60 => ?_)
        first | refine Es_aload_n (hC _) dX6_whyOf_63 rfl ?_ | refine Es_aload_nN (hC _) dX6_whyOf_63 rfl ?_
        refine Sg_X6_14 (hC _) fl_X6_41 dX6_whyOf_64 ?_
        refine Es_iload (hC _) dX6_whyOf_67 rfl ?_
        refine Es_ialdN (hC _) dX6_whyOf_69 rfl rfl rfl (by omega) (by decide) ?_
        rw [hTR t ht]
        refine Es_if_le (hC _) 79 dX6_whyOf_70 (by decide) (fun hb70 => False.elim (Int32.not_lt.mpr hb70 hs1)) (fun hb70 => ?_)
        refine Es_iconst (v := 2) (hC _) dX6_whyOf_73 (by decide) ?_
        refine Es_istore (lv' := [_, _, _, _, _, _]) (hC _) dX6_whyOf_74 (by decide) rfl rfl ?_
        refine Es_goto (hC _) 184 dX6_whyOf_76 (by decide) ?_
        refine Es_iload (hC _) dX6_whyOf_184 rfl ?_
        refine Es_if_le (hC _) 197 dX6_whyOf_186 (by decide) (fun hb186 => False.elim (absurd hb186 (by decide))) (fun hb186 => ?_)
        refine Es_bipush (v := 10) (hC _) dX6_whyOf_189 (by decide) ?_
        refine Es_iload_n (hC _) dX6_whyOf_191 rfl ?_
        refine Es_imul (hC _) dX6_whyOf_192 ?_
        refine Es_iload (hC _) dX6_whyOf_193 rfl ?_
        refine Es_iadd (hC _) dX6_whyOf_195 ?_
        exact Es_iret dX6_whyOf_196 rfl ⟨by rw [← hg, wh_ret (fl_3 hon (by omega) hs0 hs1) (by decide)]; exact congrArg (fun q => some (Value.int q)) (tenp i 2), rfl, hwr⟩
      · by_cases hs0 : B 19 w i = 0
        · have hs2 : ¬ 0 < B 21 t 7 := fun z => hs ⟨hs0, z⟩
          by_cases h1 : tDp B L t 0 < l
          · skip
            refine Es_iload_n (hC _) dX6_whyOf_2 rfl ?_
            first | refine Es_aload_n (hC _) dX6_whyOf_3 rfl ?_ | refine Es_aload_nN (hC _) dX6_whyOf_3 rfl ?_
            refine Sg_X6_8 (hC _) fl_X6_23 dX6_whyOf_4 ?_
            refine Es_iload_n (hC _) dX6_whyOf_7 rfl ?_
            refine Es_ialdN (hC _) dX6_whyOf_8 rfl rfl rfl (by omega) (by decide) ?_
            rw [hp]
            refine Es_icmp_ge (hC _) 203 dX6_whyOf_9 (by decide) (fun hb9 => False.elim (nI_ge (b := p) (a := i) (by omega) (by omega) hb9)) (fun hb9 => ?_)
            refine Es_iload_n (hC _) dX6_whyOf_12 rfl ?_
            refine Es_iload_n (hC _) dX6_whyOf_13 rfl ?_
            refine Es_fS (hC _) ms_X6_97 dX6_whyOf_14 r_spot rfl rfl (by decide) (Nat.le_of_ble_eq_true rfl) ?_
            refine Es_istore_n (lv' := [_, _, _, _, _, _]) (hC _) dX6_whyOf_17 (by decide) rfl rfl ?_
            first | refine Es_aload_n (hC _) dX6_whyOf_18 rfl ?_ | refine Es_aload_nN (hC _) dX6_whyOf_18 rfl ?_
            refine Sg_X6_10 (hC _) fl_X6_29 dX6_whyOf_19 ?_
            refine Es_iload_n (hC _) dX6_whyOf_22 rfl ?_
            refine Es_ialdN (hC _) dX6_whyOf_23 rfl rfl rfl (by omega) (by decide) ?_
            rw [hr10, hon]
            refine Es_istore (lv' := [_, _, _, _, _, _]) (hC _) dX6_whyOf_24 (by decide) rfl rfl ?_
            refine Es_iconst (v := 0) (hC _) dX6_whyOf_26 (by decide) ?_
            refine Es_istore (lv' := [_, _, _, _, _, _]) (hC _) dX6_whyOf_27 (by decide) rfl rfl ?_
            refine Es_iload (hC _) dX6_whyOf_29 rfl ?_
            refine Es_if_ge (hC _) 54 dX6_whyOf_31 (by decide) (fun hb31 => ?_) (fun hb31 => False.elim (hb31 (nI_pos' (by omega))))
            first | refine Es_aload_n (hC _) dX6_whyOf_54 rfl ?_ | refine Es_aload_nN (hC _) dX6_whyOf_54 rfl ?_
            refine Sg_X6_9 (hC _) fl_X6_26 dX6_whyOf_55 ?_
            refine Es_iload_n (hC _) dX6_whyOf_58 rfl ?_
            refine Es_ialdN (hC _) dX6_whyOf_59 rfl rfl rfl (by omega) (by decide) ?_
            rw [hr9]
            refine Es_if_ne (hC _) 79 dX6_whyOf_60 (by decide) (fun hb60 => False.elim (hb60 hs0)) (fun hb60 => ?_)
            first | refine Es_aload_n (hC _) dX6_whyOf_63 rfl ?_ | refine Es_aload_nN (hC _) dX6_whyOf_63 rfl ?_
            refine Sg_X6_14 (hC _) fl_X6_41 dX6_whyOf_64 ?_
            refine Es_iload (hC _) dX6_whyOf_67 rfl ?_
            refine Es_ialdN (hC _) dX6_whyOf_69 rfl rfl rfl (by omega) (by decide) ?_
            rw [hTR t ht]
            refine Es_if_le (hC _) 79 dX6_whyOf_70 (by decide) (fun hb70 => ?_) (fun hb70 => False.elim (hb70 (Int32.not_lt.mp hs2)))
            first | refine Es_aload_n (hC _) dX6_whyOf_79 rfl ?_ | refine Es_aload_nN (hC _) dX6_whyOf_79 rfl ?_
            refine Es_iload (hC _) dX6_whyOf_80 rfl ?_
            refine Es_iconst (v := 0) (hC _) dX6_whyOf_82 (by decide) ?_
            refine Es_fV (hC _) mv_X6_149 dX6_whyOf_83 (rT_depthH (mo := 0) hb (TFa_wrel hwr hF) ht h40 (by decide)) rfl rfl ⟨_, rfl, rfl⟩ rfl rfl (by decide) (Nat.le_of_ble_eq_true rfl) ?_
            first | refine Es_aload_n (hC _) dX6_whyOf_86 rfl ?_ | refine Es_aload_nN (hC _) dX6_whyOf_86 rfl ?_
            refine Sg_X6_1 (hC _) fl_X6_13 dX6_whyOf_87 ?_
            first | refine Es_aload_n (hC _) dX6_whyOf_90 rfl ?_ | refine Es_aload_nN (hC _) dX6_whyOf_90 rfl ?_
            refine Sg_X6_9 (hC _) fl_X6_26 dX6_whyOf_91 ?_
            refine Es_iload_n (hC _) dX6_whyOf_94 rfl ?_
            refine Es_ialdN (hC _) dX6_whyOf_95 rfl rfl rfl (by omega) (by decide) ?_
            rw [hr9, hk]
            refine Es_ialdN (hC _) dX6_whyOf_96 rfl rfl rfl (by omega) (by decide) ?_
            rw [hLX k hk5, hl, tDp_wrel hwr]
            refine Es_icmp_ge (hC _) 106 dX6_whyOf_97 (by decide) (fun hb97 => False.elim (nI_ge (b := l) (a := tDp B L t 0) h1 (by omega) hb97)) (fun hb97 => ?_)
            refine Es_iconst (v := 3) (hC _) dX6_whyOf_100 (by decide) ?_
            refine Es_istore (lv' := [_, _, _, _, _, _]) (hC _) dX6_whyOf_101 (by decide) rfl rfl ?_
            refine Es_goto (hC _) 184 dX6_whyOf_103 (by decide) ?_
            refine Es_iload (hC _) dX6_whyOf_184 rfl ?_
            refine Es_if_le (hC _) 197 dX6_whyOf_186 (by decide) (fun hb186 => False.elim (absurd hb186 (by decide))) (fun hb186 => ?_)
            refine Es_bipush (v := 10) (hC _) dX6_whyOf_189 (by decide) ?_
            refine Es_iload_n (hC _) dX6_whyOf_191 rfl ?_
            refine Es_imul (hC _) dX6_whyOf_192 ?_
            refine Es_iload (hC _) dX6_whyOf_193 rfl ?_
            refine Es_iadd (hC _) dX6_whyOf_195 ?_
            exact Es_iret dX6_whyOf_196 rfl ⟨by rw [← hg, wh_ret (fl_4 hon (by omega) hk hk5 hl hl1 hs h1) (by decide)]; exact congrArg (fun q => some (Value.int q)) (tenp i 3), rfl, (hwr.w _)⟩
          · rcases hXP i (by omega) with ⟨q2, h2, hpr⟩ | ⟨h2, hpr⟩
            · have hq2 := (prX_s h2).2.1
              have hk2 := (prX_s h2).2.2.1
              obtain ⟨hr92, hr102⟩ := hrr q2 hq2
              rcases (hq q2 hq2).2 with hon2 | ⟨t2, ht2, hon2⟩
              · skip
                refine Es_iload_n (hC _) dX6_whyOf_2 rfl ?_
                first | refine Es_aload_n (hC _) dX6_whyOf_3 rfl ?_ | refine Es_aload_nN (hC _) dX6_whyOf_3 rfl ?_
                refine Sg_X6_8 (hC _) fl_X6_23 dX6_whyOf_4 ?_
                refine Es_iload_n (hC _) dX6_whyOf_7 rfl ?_
                refine Es_ialdN (hC _) dX6_whyOf_8 rfl rfl rfl (by omega) (by decide) ?_
                rw [hp]
                refine Es_icmp_ge (hC _) 203 dX6_whyOf_9 (by decide) (fun hb9 => False.elim (nI_ge (b := p) (a := i) (by omega) (by omega) hb9)) (fun hb9 => ?_)
                refine Es_iload_n (hC _) dX6_whyOf_12 rfl ?_
                refine Es_iload_n (hC _) dX6_whyOf_13 rfl ?_
                refine Es_fS (hC _) ms_X6_97 dX6_whyOf_14 r_spot rfl rfl (by decide) (Nat.le_of_ble_eq_true rfl) ?_
                refine Es_istore_n (lv' := [_, _, _, _, _, _]) (hC _) dX6_whyOf_17 (by decide) rfl rfl ?_
                first | refine Es_aload_n (hC _) dX6_whyOf_18 rfl ?_ | refine Es_aload_nN (hC _) dX6_whyOf_18 rfl ?_
                refine Sg_X6_10 (hC _) fl_X6_29 dX6_whyOf_19 ?_
                refine Es_iload_n (hC _) dX6_whyOf_22 rfl ?_
                refine Es_ialdN (hC _) dX6_whyOf_23 rfl rfl rfl (by omega) (by decide) ?_
                rw [hr10, hon]
                refine Es_istore (lv' := [_, _, _, _, _, _]) (hC _) dX6_whyOf_24 (by decide) rfl rfl ?_
                refine Es_iconst (v := 0) (hC _) dX6_whyOf_26 (by decide) ?_
                refine Es_istore (lv' := [_, _, _, _, _, _]) (hC _) dX6_whyOf_27 (by decide) rfl rfl ?_
                refine Es_iload (hC _) dX6_whyOf_29 rfl ?_
                refine Es_if_ge (hC _) 54 dX6_whyOf_31 (by decide) (fun hb31 => ?_) (fun hb31 => False.elim (hb31 (nI_pos' (by omega))))
                first | refine Es_aload_n (hC _) dX6_whyOf_54 rfl ?_ | refine Es_aload_nN (hC _) dX6_whyOf_54 rfl ?_
                refine Sg_X6_9 (hC _) fl_X6_26 dX6_whyOf_55 ?_
                refine Es_iload_n (hC _) dX6_whyOf_58 rfl ?_
                refine Es_ialdN (hC _) dX6_whyOf_59 rfl rfl rfl (by omega) (by decide) ?_
                rw [hr9]
                refine Es_if_ne (hC _) 79 dX6_whyOf_60 (by decide) (fun hb60 => False.elim (hb60 hs0)) (fun hb60 => ?_)
                first | refine Es_aload_n (hC _) dX6_whyOf_63 rfl ?_ | refine Es_aload_nN (hC _) dX6_whyOf_63 rfl ?_
                refine Sg_X6_14 (hC _) fl_X6_41 dX6_whyOf_64 ?_
                refine Es_iload (hC _) dX6_whyOf_67 rfl ?_
                refine Es_ialdN (hC _) dX6_whyOf_69 rfl rfl rfl (by omega) (by decide) ?_
                rw [hTR t ht]
                refine Es_if_le (hC _) 79 dX6_whyOf_70 (by decide) (fun hb70 => ?_) (fun hb70 => False.elim (hb70 (Int32.not_lt.mp hs2)))
                first | refine Es_aload_n (hC _) dX6_whyOf_79 rfl ?_ | refine Es_aload_nN (hC _) dX6_whyOf_79 rfl ?_
                refine Es_iload (hC _) dX6_whyOf_80 rfl ?_
                refine Es_iconst (v := 0) (hC _) dX6_whyOf_82 (by decide) ?_
                refine Es_fV (hC _) mv_X6_149 dX6_whyOf_83 (rT_depthH (mo := 0) hb (TFa_wrel hwr hF) ht h40 (by decide)) rfl rfl ⟨_, rfl, rfl⟩ rfl rfl (by decide) (Nat.le_of_ble_eq_true rfl) ?_
                first | refine Es_aload_n (hC _) dX6_whyOf_86 rfl ?_ | refine Es_aload_nN (hC _) dX6_whyOf_86 rfl ?_
                refine Sg_X6_1 (hC _) fl_X6_13 dX6_whyOf_87 ?_
                first | refine Es_aload_n (hC _) dX6_whyOf_90 rfl ?_ | refine Es_aload_nN (hC _) dX6_whyOf_90 rfl ?_
                refine Sg_X6_9 (hC _) fl_X6_26 dX6_whyOf_91 ?_
                refine Es_iload_n (hC _) dX6_whyOf_94 rfl ?_
                refine Es_ialdN (hC _) dX6_whyOf_95 rfl rfl rfl (by omega) (by decide) ?_
                rw [hr9, hk]
                refine Es_ialdN (hC _) dX6_whyOf_96 rfl rfl rfl (by omega) (by decide) ?_
                rw [hLX k hk5, hl, tDp_wrel hwr]
                refine Es_icmp_ge (hC _) 106 dX6_whyOf_97 (by decide) (fun hb97 => ?_) (fun hb97 => False.elim (hb97 (nI_le (a := l) (b := tDp B L t 0) (by omega) (by omega))))
                first | refine Es_aload_n (hC _) dX6_whyOf_106 rfl ?_ | refine Es_aload_nN (hC _) dX6_whyOf_106 rfl ?_
                refine Sg_X6_9 (hC _) fl_X6_26 dX6_whyOf_107 ?_
                refine Es_iload_n (hC _) dX6_whyOf_110 rfl ?_
                refine Es_ialdN (hC _) dX6_whyOf_111 rfl rfl rfl (by omega) (by decide) ?_
                rw [hr9]
                refine Es_iconst (v := 2) (hC _) dX6_whyOf_112 (by decide) ?_
                refine Es_icmp_ne (hC _) 184 dX6_whyOf_113 (by decide) (fun hb113 => False.elim (hb113 hk2)) (fun hb113 => ?_)
                first | refine Es_aload_n (hC _) dX6_whyOf_116 rfl ?_ | refine Es_aload_nN (hC _) dX6_whyOf_116 rfl ?_
                refine Sg_X6_11 (hC _) fl_X6_32 dX6_whyOf_117 ?_
                refine Es_iload_n (hC _) dX6_whyOf_120 rfl ?_
                refine Es_ialdN (hC _) dX6_whyOf_121 rfl rfl rfl (by omega) (by decide) ?_
                rw [hpr]
                refine Es_if_lt (hC _) 184 dX6_whyOf_122 (by decide) (fun hb122 => False.elim (nI_pos (by omega) hb122)) (fun hb122 => ?_)
                first | refine Es_aload_n (hC _) dX6_whyOf_125 rfl ?_ | refine Es_aload_nN (hC _) dX6_whyOf_125 rfl ?_
                refine Sg_X6_10 (hC _) fl_X6_29 dX6_whyOf_126 ?_
                refine Es_iload_n (hC _) dX6_whyOf_129 rfl ?_
                first | refine Es_aload_n (hC _) dX6_whyOf_130 rfl ?_ | refine Es_aload_nN (hC _) dX6_whyOf_130 rfl ?_
                refine Sg_X6_11 (hC _) fl_X6_32 dX6_whyOf_131 ?_
                refine Es_iload_n (hC _) dX6_whyOf_134 rfl ?_
                refine Es_ialdN (hC _) dX6_whyOf_135 rfl rfl rfl (by omega) (by decide) ?_
                rw [hpr]
                refine Es_fS (hC _) ms_X6_97 dX6_whyOf_136 r_spot rfl rfl (by decide) (Nat.le_of_ble_eq_true rfl) ?_
                refine Es_ialdN (hC _) dX6_whyOf_139 rfl rfl rfl (by omega) (by decide) ?_
                rw [hr102, hon2]
                refine Es_if_lt (hC _) 184 dX6_whyOf_140 (by decide) (fun hb140 => ?_) (fun hb140 => False.elim (hb140 (by decide)))
                refine Es_iload (hC _) dX6_whyOf_184 rfl ?_
                refine Es_if_le (hC _) 197 dX6_whyOf_186 (by decide) (fun hb186 => ?_) (fun hb186 => False.elim (hb186 (by decide)))
                refine Es_iinc (lv' := [_, _, _, _, _, _]) (hC _) dX6_whyOf_197 (by decide) rfl (show _ + Int32.ofInt (1) = _ + (1) from rfl) rfl rfl ?_
                refine Es_goto (hC _) 2 dX6_whyOf_200 (by decide) ?_
                refine Es.kill 3 (lv' := [_, _, _, _, _, _]) rfl ?_
                refine Es.kill 4 (lv' := [_, _, _, _, _, _]) rfl ?_
                refine Es.kill 5 (lv' := [_, _, _, _, _, _]) rfl ?_
                rw [nI_1]
                exact ih (i + 1) (wR L1 (tW L1 t)) (by omega) (by omega) (hwr.w _) (by rw [← hg, wh_0 (fl_6 hon (by omega) hk hk5 hl hl1 hs h1 h2 hon2)])
              · have hdl2 := tDp_le (mo := 0) hF ht2
                have e7 := fl_7 (ap := ap) hon (by omega) hk hk5 hl hl1 hs h1 h2 hon2 (by omega)
                by_cases h9 : ap < ((tDp B L t 0 - tDp B L t2 0) + (tDp B L t2 0 - tDp B L t 0))
                · rw [if_pos h9] at e7
                  refine Es_iload_n (hC _) dX6_whyOf_2 rfl ?_
                  first | refine Es_aload_n (hC _) dX6_whyOf_3 rfl ?_ | refine Es_aload_nN (hC _) dX6_whyOf_3 rfl ?_
                  refine Sg_X6_8 (hC _) fl_X6_23 dX6_whyOf_4 ?_
                  refine Es_iload_n (hC _) dX6_whyOf_7 rfl ?_
                  refine Es_ialdN (hC _) dX6_whyOf_8 rfl rfl rfl (by omega) (by decide) ?_
                  rw [hp]
                  refine Es_icmp_ge (hC _) 203 dX6_whyOf_9 (by decide) (fun hb9 => False.elim (nI_ge (b := p) (a := i) (by omega) (by omega) hb9)) (fun hb9 => ?_)
                  refine Es_iload_n (hC _) dX6_whyOf_12 rfl ?_
                  refine Es_iload_n (hC _) dX6_whyOf_13 rfl ?_
                  refine Es_fS (hC _) ms_X6_97 dX6_whyOf_14 r_spot rfl rfl (by decide) (Nat.le_of_ble_eq_true rfl) ?_
                  refine Es_istore_n (lv' := [_, _, _, _, _, _]) (hC _) dX6_whyOf_17 (by decide) rfl rfl ?_
                  first | refine Es_aload_n (hC _) dX6_whyOf_18 rfl ?_ | refine Es_aload_nN (hC _) dX6_whyOf_18 rfl ?_
                  refine Sg_X6_10 (hC _) fl_X6_29 dX6_whyOf_19 ?_
                  refine Es_iload_n (hC _) dX6_whyOf_22 rfl ?_
                  refine Es_ialdN (hC _) dX6_whyOf_23 rfl rfl rfl (by omega) (by decide) ?_
                  rw [hr10, hon]
                  refine Es_istore (lv' := [_, _, _, _, _, _]) (hC _) dX6_whyOf_24 (by decide) rfl rfl ?_
                  refine Es_iconst (v := 0) (hC _) dX6_whyOf_26 (by decide) ?_
                  refine Es_istore (lv' := [_, _, _, _, _, _]) (hC _) dX6_whyOf_27 (by decide) rfl rfl ?_
                  refine Es_iload (hC _) dX6_whyOf_29 rfl ?_
                  refine Es_if_ge (hC _) 54 dX6_whyOf_31 (by decide) (fun hb31 => ?_) (fun hb31 => False.elim (hb31 (nI_pos' (by omega))))
                  first | refine Es_aload_n (hC _) dX6_whyOf_54 rfl ?_ | refine Es_aload_nN (hC _) dX6_whyOf_54 rfl ?_
                  refine Sg_X6_9 (hC _) fl_X6_26 dX6_whyOf_55 ?_
                  refine Es_iload_n (hC _) dX6_whyOf_58 rfl ?_
                  refine Es_ialdN (hC _) dX6_whyOf_59 rfl rfl rfl (by omega) (by decide) ?_
                  rw [hr9]
                  refine Es_if_ne (hC _) 79 dX6_whyOf_60 (by decide) (fun hb60 => False.elim (hb60 hs0)) (fun hb60 => ?_)
                  first | refine Es_aload_n (hC _) dX6_whyOf_63 rfl ?_ | refine Es_aload_nN (hC _) dX6_whyOf_63 rfl ?_
                  refine Sg_X6_14 (hC _) fl_X6_41 dX6_whyOf_64 ?_
                  refine Es_iload (hC _) dX6_whyOf_67 rfl ?_
                  refine Es_ialdN (hC _) dX6_whyOf_69 rfl rfl rfl (by omega) (by decide) ?_
                  rw [hTR t ht]
                  refine Es_if_le (hC _) 79 dX6_whyOf_70 (by decide) (fun hb70 => ?_) (fun hb70 => False.elim (hb70 (Int32.not_lt.mp hs2)))
                  first | refine Es_aload_n (hC _) dX6_whyOf_79 rfl ?_ | refine Es_aload_nN (hC _) dX6_whyOf_79 rfl ?_
                  refine Es_iload (hC _) dX6_whyOf_80 rfl ?_
                  refine Es_iconst (v := 0) (hC _) dX6_whyOf_82 (by decide) ?_
                  refine Es_fV (hC _) mv_X6_149 dX6_whyOf_83 (rT_depthH (mo := 0) hb (TFa_wrel hwr hF) ht h40 (by decide)) rfl rfl ⟨_, rfl, rfl⟩ rfl rfl (by decide) (Nat.le_of_ble_eq_true rfl) ?_
                  first | refine Es_aload_n (hC _) dX6_whyOf_86 rfl ?_ | refine Es_aload_nN (hC _) dX6_whyOf_86 rfl ?_
                  refine Sg_X6_1 (hC _) fl_X6_13 dX6_whyOf_87 ?_
                  first | refine Es_aload_n (hC _) dX6_whyOf_90 rfl ?_ | refine Es_aload_nN (hC _) dX6_whyOf_90 rfl ?_
                  refine Sg_X6_9 (hC _) fl_X6_26 dX6_whyOf_91 ?_
                  refine Es_iload_n (hC _) dX6_whyOf_94 rfl ?_
                  refine Es_ialdN (hC _) dX6_whyOf_95 rfl rfl rfl (by omega) (by decide) ?_
                  rw [hr9, hk]
                  refine Es_ialdN (hC _) dX6_whyOf_96 rfl rfl rfl (by omega) (by decide) ?_
                  rw [hLX k hk5, hl, tDp_wrel hwr]
                  refine Es_icmp_ge (hC _) 106 dX6_whyOf_97 (by decide) (fun hb97 => ?_) (fun hb97 => False.elim (hb97 (nI_le (a := l) (b := tDp B L t 0) (by omega) (by omega))))
                  first | refine Es_aload_n (hC _) dX6_whyOf_106 rfl ?_ | refine Es_aload_nN (hC _) dX6_whyOf_106 rfl ?_
                  refine Sg_X6_9 (hC _) fl_X6_26 dX6_whyOf_107 ?_
                  refine Es_iload_n (hC _) dX6_whyOf_110 rfl ?_
                  refine Es_ialdN (hC _) dX6_whyOf_111 rfl rfl rfl (by omega) (by decide) ?_
                  rw [hr9]
                  refine Es_iconst (v := 2) (hC _) dX6_whyOf_112 (by decide) ?_
                  refine Es_icmp_ne (hC _) 184 dX6_whyOf_113 (by decide) (fun hb113 => False.elim (hb113 hk2)) (fun hb113 => ?_)
                  first | refine Es_aload_n (hC _) dX6_whyOf_116 rfl ?_ | refine Es_aload_nN (hC _) dX6_whyOf_116 rfl ?_
                  refine Sg_X6_11 (hC _) fl_X6_32 dX6_whyOf_117 ?_
                  refine Es_iload_n (hC _) dX6_whyOf_120 rfl ?_
                  refine Es_ialdN (hC _) dX6_whyOf_121 rfl rfl rfl (by omega) (by decide) ?_
                  rw [hpr]
                  refine Es_if_lt (hC _) 184 dX6_whyOf_122 (by decide) (fun hb122 => False.elim (nI_pos (by omega) hb122)) (fun hb122 => ?_)
                  first | refine Es_aload_n (hC _) dX6_whyOf_125 rfl ?_ | refine Es_aload_nN (hC _) dX6_whyOf_125 rfl ?_
                  refine Sg_X6_10 (hC _) fl_X6_29 dX6_whyOf_126 ?_
                  refine Es_iload_n (hC _) dX6_whyOf_129 rfl ?_
                  first | refine Es_aload_n (hC _) dX6_whyOf_130 rfl ?_ | refine Es_aload_nN (hC _) dX6_whyOf_130 rfl ?_
                  refine Sg_X6_11 (hC _) fl_X6_32 dX6_whyOf_131 ?_
                  refine Es_iload_n (hC _) dX6_whyOf_134 rfl ?_
                  refine Es_ialdN (hC _) dX6_whyOf_135 rfl rfl rfl (by omega) (by decide) ?_
                  rw [hpr]
                  refine Es_fS (hC _) ms_X6_97 dX6_whyOf_136 r_spot rfl rfl (by decide) (Nat.le_of_ble_eq_true rfl) ?_
                  refine Es_ialdN (hC _) dX6_whyOf_139 rfl rfl rfl (by omega) (by decide) ?_
                  rw [hr102, hon2]
                  refine Es_if_lt (hC _) 184 dX6_whyOf_140 (by decide) (fun hb140 => False.elim (nI_pos (by omega) hb140)) (fun hb140 => ?_)
                  first | refine Es_aload_n (hC _) dX6_whyOf_143 rfl ?_ | refine Es_aload_nN (hC _) dX6_whyOf_143 rfl ?_
                  refine Es_iload (hC _) dX6_whyOf_144 rfl ?_
                  refine Es_iconst (v := 0) (hC _) dX6_whyOf_146 (by decide) ?_
                  refine Es_fV (hC _) mv_X6_149 dX6_whyOf_147 (rT_depthH (mo := 0) hb (TFa_wrel (hwr.w _) hF) ht h40 (by decide)) rfl rfl ⟨_, rfl, rfl⟩ rfl rfl (by decide) (Nat.le_of_ble_eq_true rfl) ?_
                  rw [tDp_wrel (hwr.w _)]
                  first | refine Es_aload_n (hC _) dX6_whyOf_150 rfl ?_ | refine Es_aload_nN (hC _) dX6_whyOf_150 rfl ?_
                  first | refine Es_aload_n (hC _) dX6_whyOf_151 rfl ?_ | refine Es_aload_nN (hC _) dX6_whyOf_151 rfl ?_
                  refine Sg_X6_10 (hC _) fl_X6_29 dX6_whyOf_152 ?_
                  refine Es_iload_n (hC _) dX6_whyOf_155 rfl ?_
                  first | refine Es_aload_n (hC _) dX6_whyOf_156 rfl ?_ | refine Es_aload_nN (hC _) dX6_whyOf_156 rfl ?_
                  refine Sg_X6_11 (hC _) fl_X6_32 dX6_whyOf_157 ?_
                  refine Es_iload_n (hC _) dX6_whyOf_160 rfl ?_
                  refine Es_ialdN (hC _) dX6_whyOf_161 rfl rfl rfl (by omega) (by decide) ?_
                  rw [hpr]
                  refine Es_fS (hC _) ms_X6_97 dX6_whyOf_162 r_spot rfl rfl (by decide) (Nat.le_of_ble_eq_true rfl) ?_
                  refine Es_ialdN (hC _) dX6_whyOf_165 rfl rfl rfl (by omega) (by decide) ?_
                  rw [hr102, hon2]
                  refine Es_iconst (v := 0) (hC _) dX6_whyOf_166 (by decide) ?_
                  refine Es_fV (hC _) mv_X6_149 dX6_whyOf_167 (rT_depthH (mo := 0) hb (TFa_wrel ((hwr.w _).w _) hF) ht2 h40 (by decide)) rfl rfl ⟨_, rfl, rfl⟩ rfl rfl (by decide) (Nat.le_of_ble_eq_true rfl) ?_
                  rw [tDp_wrel ((hwr.w _).w _)]
                  refine Es_isub (hC _) dX6_whyOf_170 ?_
                  refine Es_fS (hC _) ms_X6_158 dX6_whyOf_171 j_abs rfl rfl (by decide) (Nat.le_of_ble_eq_true rfl) ?_
                  rw [abI_N (by omega) (by omega)]
                  first | refine Es_aload_n (hC _) dX6_whyOf_174 rfl ?_ | refine Es_aload_nN (hC _) dX6_whyOf_174 rfl ?_
                  refine Sg_X6_6 (hC _) fl_X6_19 dX6_whyOf_175 ?_
                  rw [hap]
                  refine Es_icmp_le (hC _) 184 dX6_whyOf_178 (by decide) (fun hb178 => False.elim (nI_ge (b := ((tDp B L t 0 - tDp B L t2 0) + (tDp B L t2 0 - tDp B L t 0))) (a := ap) h9 (by omega) hb178)) (fun hb178 => ?_)
                  refine Es_iconst (v := 4) (hC _) dX6_whyOf_181 (by decide) ?_
                  refine Es_istore (lv' := [_, _, _, _, _, _]) (hC _) dX6_whyOf_182 (by decide) rfl rfl ?_
                  refine Es_iload (hC _) dX6_whyOf_184 rfl ?_
                  refine Es_if_le (hC _) 197 dX6_whyOf_186 (by decide) (fun hb186 => False.elim (absurd hb186 (by decide))) (fun hb186 => ?_)
                  refine Es_bipush (v := 10) (hC _) dX6_whyOf_189 (by decide) ?_
                  refine Es_iload_n (hC _) dX6_whyOf_191 rfl ?_
                  refine Es_imul (hC _) dX6_whyOf_192 ?_
                  refine Es_iload (hC _) dX6_whyOf_193 rfl ?_
                  refine Es_iadd (hC _) dX6_whyOf_195 ?_
                  exact Es_iret dX6_whyOf_196 rfl ⟨by rw [← hg, wh_ret (e7) (by decide)]; exact congrArg (fun q => some (Value.int q)) (tenp i 4), rfl, (((hwr.w _).w _).w _)⟩
                · rw [if_neg h9] at e7
                  refine Es_iload_n (hC _) dX6_whyOf_2 rfl ?_
                  first | refine Es_aload_n (hC _) dX6_whyOf_3 rfl ?_ | refine Es_aload_nN (hC _) dX6_whyOf_3 rfl ?_
                  refine Sg_X6_8 (hC _) fl_X6_23 dX6_whyOf_4 ?_
                  refine Es_iload_n (hC _) dX6_whyOf_7 rfl ?_
                  refine Es_ialdN (hC _) dX6_whyOf_8 rfl rfl rfl (by omega) (by decide) ?_
                  rw [hp]
                  refine Es_icmp_ge (hC _) 203 dX6_whyOf_9 (by decide) (fun hb9 => False.elim (nI_ge (b := p) (a := i) (by omega) (by omega) hb9)) (fun hb9 => ?_)
                  refine Es_iload_n (hC _) dX6_whyOf_12 rfl ?_
                  refine Es_iload_n (hC _) dX6_whyOf_13 rfl ?_
                  refine Es_fS (hC _) ms_X6_97 dX6_whyOf_14 r_spot rfl rfl (by decide) (Nat.le_of_ble_eq_true rfl) ?_
                  refine Es_istore_n (lv' := [_, _, _, _, _, _]) (hC _) dX6_whyOf_17 (by decide) rfl rfl ?_
                  first | refine Es_aload_n (hC _) dX6_whyOf_18 rfl ?_ | refine Es_aload_nN (hC _) dX6_whyOf_18 rfl ?_
                  refine Sg_X6_10 (hC _) fl_X6_29 dX6_whyOf_19 ?_
                  refine Es_iload_n (hC _) dX6_whyOf_22 rfl ?_
                  refine Es_ialdN (hC _) dX6_whyOf_23 rfl rfl rfl (by omega) (by decide) ?_
                  rw [hr10, hon]
                  refine Es_istore (lv' := [_, _, _, _, _, _]) (hC _) dX6_whyOf_24 (by decide) rfl rfl ?_
                  refine Es_iconst (v := 0) (hC _) dX6_whyOf_26 (by decide) ?_
                  refine Es_istore (lv' := [_, _, _, _, _, _]) (hC _) dX6_whyOf_27 (by decide) rfl rfl ?_
                  refine Es_iload (hC _) dX6_whyOf_29 rfl ?_
                  refine Es_if_ge (hC _) 54 dX6_whyOf_31 (by decide) (fun hb31 => ?_) (fun hb31 => False.elim (hb31 (nI_pos' (by omega))))
                  first | refine Es_aload_n (hC _) dX6_whyOf_54 rfl ?_ | refine Es_aload_nN (hC _) dX6_whyOf_54 rfl ?_
                  refine Sg_X6_9 (hC _) fl_X6_26 dX6_whyOf_55 ?_
                  refine Es_iload_n (hC _) dX6_whyOf_58 rfl ?_
                  refine Es_ialdN (hC _) dX6_whyOf_59 rfl rfl rfl (by omega) (by decide) ?_
                  rw [hr9]
                  refine Es_if_ne (hC _) 79 dX6_whyOf_60 (by decide) (fun hb60 => False.elim (hb60 hs0)) (fun hb60 => ?_)
                  first | refine Es_aload_n (hC _) dX6_whyOf_63 rfl ?_ | refine Es_aload_nN (hC _) dX6_whyOf_63 rfl ?_
                  refine Sg_X6_14 (hC _) fl_X6_41 dX6_whyOf_64 ?_
                  refine Es_iload (hC _) dX6_whyOf_67 rfl ?_
                  refine Es_ialdN (hC _) dX6_whyOf_69 rfl rfl rfl (by omega) (by decide) ?_
                  rw [hTR t ht]
                  refine Es_if_le (hC _) 79 dX6_whyOf_70 (by decide) (fun hb70 => ?_) (fun hb70 => False.elim (hb70 (Int32.not_lt.mp hs2)))
                  first | refine Es_aload_n (hC _) dX6_whyOf_79 rfl ?_ | refine Es_aload_nN (hC _) dX6_whyOf_79 rfl ?_
                  refine Es_iload (hC _) dX6_whyOf_80 rfl ?_
                  refine Es_iconst (v := 0) (hC _) dX6_whyOf_82 (by decide) ?_
                  refine Es_fV (hC _) mv_X6_149 dX6_whyOf_83 (rT_depthH (mo := 0) hb (TFa_wrel hwr hF) ht h40 (by decide)) rfl rfl ⟨_, rfl, rfl⟩ rfl rfl (by decide) (Nat.le_of_ble_eq_true rfl) ?_
                  first | refine Es_aload_n (hC _) dX6_whyOf_86 rfl ?_ | refine Es_aload_nN (hC _) dX6_whyOf_86 rfl ?_
                  refine Sg_X6_1 (hC _) fl_X6_13 dX6_whyOf_87 ?_
                  first | refine Es_aload_n (hC _) dX6_whyOf_90 rfl ?_ | refine Es_aload_nN (hC _) dX6_whyOf_90 rfl ?_
                  refine Sg_X6_9 (hC _) fl_X6_26 dX6_whyOf_91 ?_
                  refine Es_iload_n (hC _) dX6_whyOf_94 rfl ?_
                  refine Es_ialdN (hC _) dX6_whyOf_95 rfl rfl rfl (by omega) (by decide) ?_
                  rw [hr9, hk]
                  refine Es_ialdN (hC _) dX6_whyOf_96 rfl rfl rfl (by omega) (by decide) ?_
                  rw [hLX k hk5, hl, tDp_wrel hwr]
                  refine Es_icmp_ge (hC _) 106 dX6_whyOf_97 (by decide) (fun hb97 => ?_) (fun hb97 => False.elim (hb97 (nI_le (a := l) (b := tDp B L t 0) (by omega) (by omega))))
                  first | refine Es_aload_n (hC _) dX6_whyOf_106 rfl ?_ | refine Es_aload_nN (hC _) dX6_whyOf_106 rfl ?_
                  refine Sg_X6_9 (hC _) fl_X6_26 dX6_whyOf_107 ?_
                  refine Es_iload_n (hC _) dX6_whyOf_110 rfl ?_
                  refine Es_ialdN (hC _) dX6_whyOf_111 rfl rfl rfl (by omega) (by decide) ?_
                  rw [hr9]
                  refine Es_iconst (v := 2) (hC _) dX6_whyOf_112 (by decide) ?_
                  refine Es_icmp_ne (hC _) 184 dX6_whyOf_113 (by decide) (fun hb113 => False.elim (hb113 hk2)) (fun hb113 => ?_)
                  first | refine Es_aload_n (hC _) dX6_whyOf_116 rfl ?_ | refine Es_aload_nN (hC _) dX6_whyOf_116 rfl ?_
                  refine Sg_X6_11 (hC _) fl_X6_32 dX6_whyOf_117 ?_
                  refine Es_iload_n (hC _) dX6_whyOf_120 rfl ?_
                  refine Es_ialdN (hC _) dX6_whyOf_121 rfl rfl rfl (by omega) (by decide) ?_
                  rw [hpr]
                  refine Es_if_lt (hC _) 184 dX6_whyOf_122 (by decide) (fun hb122 => False.elim (nI_pos (by omega) hb122)) (fun hb122 => ?_)
                  first | refine Es_aload_n (hC _) dX6_whyOf_125 rfl ?_ | refine Es_aload_nN (hC _) dX6_whyOf_125 rfl ?_
                  refine Sg_X6_10 (hC _) fl_X6_29 dX6_whyOf_126 ?_
                  refine Es_iload_n (hC _) dX6_whyOf_129 rfl ?_
                  first | refine Es_aload_n (hC _) dX6_whyOf_130 rfl ?_ | refine Es_aload_nN (hC _) dX6_whyOf_130 rfl ?_
                  refine Sg_X6_11 (hC _) fl_X6_32 dX6_whyOf_131 ?_
                  refine Es_iload_n (hC _) dX6_whyOf_134 rfl ?_
                  refine Es_ialdN (hC _) dX6_whyOf_135 rfl rfl rfl (by omega) (by decide) ?_
                  rw [hpr]
                  refine Es_fS (hC _) ms_X6_97 dX6_whyOf_136 r_spot rfl rfl (by decide) (Nat.le_of_ble_eq_true rfl) ?_
                  refine Es_ialdN (hC _) dX6_whyOf_139 rfl rfl rfl (by omega) (by decide) ?_
                  rw [hr102, hon2]
                  refine Es_if_lt (hC _) 184 dX6_whyOf_140 (by decide) (fun hb140 => False.elim (nI_pos (by omega) hb140)) (fun hb140 => ?_)
                  first | refine Es_aload_n (hC _) dX6_whyOf_143 rfl ?_ | refine Es_aload_nN (hC _) dX6_whyOf_143 rfl ?_
                  refine Es_iload (hC _) dX6_whyOf_144 rfl ?_
                  refine Es_iconst (v := 0) (hC _) dX6_whyOf_146 (by decide) ?_
                  refine Es_fV (hC _) mv_X6_149 dX6_whyOf_147 (rT_depthH (mo := 0) hb (TFa_wrel (hwr.w _) hF) ht h40 (by decide)) rfl rfl ⟨_, rfl, rfl⟩ rfl rfl (by decide) (Nat.le_of_ble_eq_true rfl) ?_
                  rw [tDp_wrel (hwr.w _)]
                  first | refine Es_aload_n (hC _) dX6_whyOf_150 rfl ?_ | refine Es_aload_nN (hC _) dX6_whyOf_150 rfl ?_
                  first | refine Es_aload_n (hC _) dX6_whyOf_151 rfl ?_ | refine Es_aload_nN (hC _) dX6_whyOf_151 rfl ?_
                  refine Sg_X6_10 (hC _) fl_X6_29 dX6_whyOf_152 ?_
                  refine Es_iload_n (hC _) dX6_whyOf_155 rfl ?_
                  first | refine Es_aload_n (hC _) dX6_whyOf_156 rfl ?_ | refine Es_aload_nN (hC _) dX6_whyOf_156 rfl ?_
                  refine Sg_X6_11 (hC _) fl_X6_32 dX6_whyOf_157 ?_
                  refine Es_iload_n (hC _) dX6_whyOf_160 rfl ?_
                  refine Es_ialdN (hC _) dX6_whyOf_161 rfl rfl rfl (by omega) (by decide) ?_
                  rw [hpr]
                  refine Es_fS (hC _) ms_X6_97 dX6_whyOf_162 r_spot rfl rfl (by decide) (Nat.le_of_ble_eq_true rfl) ?_
                  refine Es_ialdN (hC _) dX6_whyOf_165 rfl rfl rfl (by omega) (by decide) ?_
                  rw [hr102, hon2]
                  refine Es_iconst (v := 0) (hC _) dX6_whyOf_166 (by decide) ?_
                  refine Es_fV (hC _) mv_X6_149 dX6_whyOf_167 (rT_depthH (mo := 0) hb (TFa_wrel ((hwr.w _).w _) hF) ht2 h40 (by decide)) rfl rfl ⟨_, rfl, rfl⟩ rfl rfl (by decide) (Nat.le_of_ble_eq_true rfl) ?_
                  rw [tDp_wrel ((hwr.w _).w _)]
                  refine Es_isub (hC _) dX6_whyOf_170 ?_
                  refine Es_fS (hC _) ms_X6_158 dX6_whyOf_171 j_abs rfl rfl (by decide) (Nat.le_of_ble_eq_true rfl) ?_
                  rw [abI_N (by omega) (by omega)]
                  first | refine Es_aload_n (hC _) dX6_whyOf_174 rfl ?_ | refine Es_aload_nN (hC _) dX6_whyOf_174 rfl ?_
                  refine Sg_X6_6 (hC _) fl_X6_19 dX6_whyOf_175 ?_
                  rw [hap]
                  refine Es_icmp_le (hC _) 184 dX6_whyOf_178 (by decide) (fun hb178 => ?_) (fun hb178 => False.elim (hb178 (nI_le (a := ((tDp B L t 0 - tDp B L t2 0) + (tDp B L t2 0 - tDp B L t 0))) (b := ap) (by omega) (by omega))))
                  refine Es_iload (hC _) dX6_whyOf_184 rfl ?_
                  refine Es_if_le (hC _) 197 dX6_whyOf_186 (by decide) (fun hb186 => ?_) (fun hb186 => False.elim (hb186 (by decide)))
                  refine Es_iinc (lv' := [_, _, _, _, _, _]) (hC _) dX6_whyOf_197 (by decide) rfl (show _ + Int32.ofInt (1) = _ + (1) from rfl) rfl rfl ?_
                  refine Es_goto (hC _) 2 dX6_whyOf_200 (by decide) ?_
                  refine Es.kill 3 (lv' := [_, _, _, _, _, _]) rfl ?_
                  refine Es.kill 4 (lv' := [_, _, _, _, _, _]) rfl ?_
                  refine Es.kill 5 (lv' := [_, _, _, _, _, _]) rfl ?_
                  rw [nI_1]
                  exact ih (i + 1) (wR (wR (wR L1 (tW L1 t)) (tW (wR L1 (tW L1 t)) t)) (tW (wR (wR L1 (tW L1 t)) (tW (wR L1 (tW L1 t)) t)) t2)) (by omega) (by omega) (((hwr.w _).w _).w _) (by rw [← hg, wh_0 (e7)])
            · by_cases hk2 : B 19 w i = 2
              · skip
                refine Es_iload_n (hC _) dX6_whyOf_2 rfl ?_
                first | refine Es_aload_n (hC _) dX6_whyOf_3 rfl ?_ | refine Es_aload_nN (hC _) dX6_whyOf_3 rfl ?_
                refine Sg_X6_8 (hC _) fl_X6_23 dX6_whyOf_4 ?_
                refine Es_iload_n (hC _) dX6_whyOf_7 rfl ?_
                refine Es_ialdN (hC _) dX6_whyOf_8 rfl rfl rfl (by omega) (by decide) ?_
                rw [hp]
                refine Es_icmp_ge (hC _) 203 dX6_whyOf_9 (by decide) (fun hb9 => False.elim (nI_ge (b := p) (a := i) (by omega) (by omega) hb9)) (fun hb9 => ?_)
                refine Es_iload_n (hC _) dX6_whyOf_12 rfl ?_
                refine Es_iload_n (hC _) dX6_whyOf_13 rfl ?_
                refine Es_fS (hC _) ms_X6_97 dX6_whyOf_14 r_spot rfl rfl (by decide) (Nat.le_of_ble_eq_true rfl) ?_
                refine Es_istore_n (lv' := [_, _, _, _, _, _]) (hC _) dX6_whyOf_17 (by decide) rfl rfl ?_
                first | refine Es_aload_n (hC _) dX6_whyOf_18 rfl ?_ | refine Es_aload_nN (hC _) dX6_whyOf_18 rfl ?_
                refine Sg_X6_10 (hC _) fl_X6_29 dX6_whyOf_19 ?_
                refine Es_iload_n (hC _) dX6_whyOf_22 rfl ?_
                refine Es_ialdN (hC _) dX6_whyOf_23 rfl rfl rfl (by omega) (by decide) ?_
                rw [hr10, hon]
                refine Es_istore (lv' := [_, _, _, _, _, _]) (hC _) dX6_whyOf_24 (by decide) rfl rfl ?_
                refine Es_iconst (v := 0) (hC _) dX6_whyOf_26 (by decide) ?_
                refine Es_istore (lv' := [_, _, _, _, _, _]) (hC _) dX6_whyOf_27 (by decide) rfl rfl ?_
                refine Es_iload (hC _) dX6_whyOf_29 rfl ?_
                refine Es_if_ge (hC _) 54 dX6_whyOf_31 (by decide) (fun hb31 => ?_) (fun hb31 => False.elim (hb31 (nI_pos' (by omega))))
                first | refine Es_aload_n (hC _) dX6_whyOf_54 rfl ?_ | refine Es_aload_nN (hC _) dX6_whyOf_54 rfl ?_
                refine Sg_X6_9 (hC _) fl_X6_26 dX6_whyOf_55 ?_
                refine Es_iload_n (hC _) dX6_whyOf_58 rfl ?_
                refine Es_ialdN (hC _) dX6_whyOf_59 rfl rfl rfl (by omega) (by decide) ?_
                rw [hr9]
                refine Es_if_ne (hC _) 79 dX6_whyOf_60 (by decide) (fun hb60 => False.elim (hb60 hs0)) (fun hb60 => ?_)
                first | refine Es_aload_n (hC _) dX6_whyOf_63 rfl ?_ | refine Es_aload_nN (hC _) dX6_whyOf_63 rfl ?_
                refine Sg_X6_14 (hC _) fl_X6_41 dX6_whyOf_64 ?_
                refine Es_iload (hC _) dX6_whyOf_67 rfl ?_
                refine Es_ialdN (hC _) dX6_whyOf_69 rfl rfl rfl (by omega) (by decide) ?_
                rw [hTR t ht]
                refine Es_if_le (hC _) 79 dX6_whyOf_70 (by decide) (fun hb70 => ?_) (fun hb70 => False.elim (hb70 (Int32.not_lt.mp hs2)))
                first | refine Es_aload_n (hC _) dX6_whyOf_79 rfl ?_ | refine Es_aload_nN (hC _) dX6_whyOf_79 rfl ?_
                refine Es_iload (hC _) dX6_whyOf_80 rfl ?_
                refine Es_iconst (v := 0) (hC _) dX6_whyOf_82 (by decide) ?_
                refine Es_fV (hC _) mv_X6_149 dX6_whyOf_83 (rT_depthH (mo := 0) hb (TFa_wrel hwr hF) ht h40 (by decide)) rfl rfl ⟨_, rfl, rfl⟩ rfl rfl (by decide) (Nat.le_of_ble_eq_true rfl) ?_
                first | refine Es_aload_n (hC _) dX6_whyOf_86 rfl ?_ | refine Es_aload_nN (hC _) dX6_whyOf_86 rfl ?_
                refine Sg_X6_1 (hC _) fl_X6_13 dX6_whyOf_87 ?_
                first | refine Es_aload_n (hC _) dX6_whyOf_90 rfl ?_ | refine Es_aload_nN (hC _) dX6_whyOf_90 rfl ?_
                refine Sg_X6_9 (hC _) fl_X6_26 dX6_whyOf_91 ?_
                refine Es_iload_n (hC _) dX6_whyOf_94 rfl ?_
                refine Es_ialdN (hC _) dX6_whyOf_95 rfl rfl rfl (by omega) (by decide) ?_
                rw [hr9, hk]
                refine Es_ialdN (hC _) dX6_whyOf_96 rfl rfl rfl (by omega) (by decide) ?_
                rw [hLX k hk5, hl, tDp_wrel hwr]
                refine Es_icmp_ge (hC _) 106 dX6_whyOf_97 (by decide) (fun hb97 => ?_) (fun hb97 => False.elim (hb97 (nI_le (a := l) (b := tDp B L t 0) (by omega) (by omega))))
                first | refine Es_aload_n (hC _) dX6_whyOf_106 rfl ?_ | refine Es_aload_nN (hC _) dX6_whyOf_106 rfl ?_
                refine Sg_X6_9 (hC _) fl_X6_26 dX6_whyOf_107 ?_
                refine Es_iload_n (hC _) dX6_whyOf_110 rfl ?_
                refine Es_ialdN (hC _) dX6_whyOf_111 rfl rfl rfl (by omega) (by decide) ?_
                rw [hr9]
                refine Es_iconst (v := 2) (hC _) dX6_whyOf_112 (by decide) ?_
                refine Es_icmp_ne (hC _) 184 dX6_whyOf_113 (by decide) (fun hb113 => False.elim (hb113 hk2)) (fun hb113 => ?_)
                first | refine Es_aload_n (hC _) dX6_whyOf_116 rfl ?_ | refine Es_aload_nN (hC _) dX6_whyOf_116 rfl ?_
                refine Sg_X6_11 (hC _) fl_X6_32 dX6_whyOf_117 ?_
                refine Es_iload_n (hC _) dX6_whyOf_120 rfl ?_
                refine Es_ialdN (hC _) dX6_whyOf_121 rfl rfl rfl (by omega) (by decide) ?_
                rw [hpr]
                refine Es_if_lt (hC _) 184 dX6_whyOf_122 (by decide) (fun hb122 => ?_) (fun hb122 => False.elim (hb122 (by decide)))
                refine Es_iload (hC _) dX6_whyOf_184 rfl ?_
                refine Es_if_le (hC _) 197 dX6_whyOf_186 (by decide) (fun hb186 => ?_) (fun hb186 => False.elim (hb186 (by decide)))
                refine Es_iinc (lv' := [_, _, _, _, _, _]) (hC _) dX6_whyOf_197 (by decide) rfl (show _ + Int32.ofInt (1) = _ + (1) from rfl) rfl rfl ?_
                refine Es_goto (hC _) 2 dX6_whyOf_200 (by decide) ?_
                refine Es.kill 3 (lv' := [_, _, _, _, _, _]) rfl ?_
                refine Es.kill 4 (lv' := [_, _, _, _, _, _]) rfl ?_
                refine Es.kill 5 (lv' := [_, _, _, _, _, _]) rfl ?_
                rw [nI_1]
                exact ih (i + 1) (wR L1 (tW L1 t)) (by omega) (by omega) (hwr.w _) (by rw [← hg, wh_0 (fl_5 hon (by omega) hk hk5 hl hl1 hs h1 h2)])
              · skip
                refine Es_iload_n (hC _) dX6_whyOf_2 rfl ?_
                first | refine Es_aload_n (hC _) dX6_whyOf_3 rfl ?_ | refine Es_aload_nN (hC _) dX6_whyOf_3 rfl ?_
                refine Sg_X6_8 (hC _) fl_X6_23 dX6_whyOf_4 ?_
                refine Es_iload_n (hC _) dX6_whyOf_7 rfl ?_
                refine Es_ialdN (hC _) dX6_whyOf_8 rfl rfl rfl (by omega) (by decide) ?_
                rw [hp]
                refine Es_icmp_ge (hC _) 203 dX6_whyOf_9 (by decide) (fun hb9 => False.elim (nI_ge (b := p) (a := i) (by omega) (by omega) hb9)) (fun hb9 => ?_)
                refine Es_iload_n (hC _) dX6_whyOf_12 rfl ?_
                refine Es_iload_n (hC _) dX6_whyOf_13 rfl ?_
                refine Es_fS (hC _) ms_X6_97 dX6_whyOf_14 r_spot rfl rfl (by decide) (Nat.le_of_ble_eq_true rfl) ?_
                refine Es_istore_n (lv' := [_, _, _, _, _, _]) (hC _) dX6_whyOf_17 (by decide) rfl rfl ?_
                first | refine Es_aload_n (hC _) dX6_whyOf_18 rfl ?_ | refine Es_aload_nN (hC _) dX6_whyOf_18 rfl ?_
                refine Sg_X6_10 (hC _) fl_X6_29 dX6_whyOf_19 ?_
                refine Es_iload_n (hC _) dX6_whyOf_22 rfl ?_
                refine Es_ialdN (hC _) dX6_whyOf_23 rfl rfl rfl (by omega) (by decide) ?_
                rw [hr10, hon]
                refine Es_istore (lv' := [_, _, _, _, _, _]) (hC _) dX6_whyOf_24 (by decide) rfl rfl ?_
                refine Es_iconst (v := 0) (hC _) dX6_whyOf_26 (by decide) ?_
                refine Es_istore (lv' := [_, _, _, _, _, _]) (hC _) dX6_whyOf_27 (by decide) rfl rfl ?_
                refine Es_iload (hC _) dX6_whyOf_29 rfl ?_
                refine Es_if_ge (hC _) 54 dX6_whyOf_31 (by decide) (fun hb31 => ?_) (fun hb31 => False.elim (hb31 (nI_pos' (by omega))))
                first | refine Es_aload_n (hC _) dX6_whyOf_54 rfl ?_ | refine Es_aload_nN (hC _) dX6_whyOf_54 rfl ?_
                refine Sg_X6_9 (hC _) fl_X6_26 dX6_whyOf_55 ?_
                refine Es_iload_n (hC _) dX6_whyOf_58 rfl ?_
                refine Es_ialdN (hC _) dX6_whyOf_59 rfl rfl rfl (by omega) (by decide) ?_
                rw [hr9]
                refine Es_if_ne (hC _) 79 dX6_whyOf_60 (by decide) (fun hb60 => False.elim (hb60 hs0)) (fun hb60 => ?_)
                first | refine Es_aload_n (hC _) dX6_whyOf_63 rfl ?_ | refine Es_aload_nN (hC _) dX6_whyOf_63 rfl ?_
                refine Sg_X6_14 (hC _) fl_X6_41 dX6_whyOf_64 ?_
                refine Es_iload (hC _) dX6_whyOf_67 rfl ?_
                refine Es_ialdN (hC _) dX6_whyOf_69 rfl rfl rfl (by omega) (by decide) ?_
                rw [hTR t ht]
                refine Es_if_le (hC _) 79 dX6_whyOf_70 (by decide) (fun hb70 => ?_) (fun hb70 => False.elim (hb70 (Int32.not_lt.mp hs2)))
                first | refine Es_aload_n (hC _) dX6_whyOf_79 rfl ?_ | refine Es_aload_nN (hC _) dX6_whyOf_79 rfl ?_
                refine Es_iload (hC _) dX6_whyOf_80 rfl ?_
                refine Es_iconst (v := 0) (hC _) dX6_whyOf_82 (by decide) ?_
                refine Es_fV (hC _) mv_X6_149 dX6_whyOf_83 (rT_depthH (mo := 0) hb (TFa_wrel hwr hF) ht h40 (by decide)) rfl rfl ⟨_, rfl, rfl⟩ rfl rfl (by decide) (Nat.le_of_ble_eq_true rfl) ?_
                first | refine Es_aload_n (hC _) dX6_whyOf_86 rfl ?_ | refine Es_aload_nN (hC _) dX6_whyOf_86 rfl ?_
                refine Sg_X6_1 (hC _) fl_X6_13 dX6_whyOf_87 ?_
                first | refine Es_aload_n (hC _) dX6_whyOf_90 rfl ?_ | refine Es_aload_nN (hC _) dX6_whyOf_90 rfl ?_
                refine Sg_X6_9 (hC _) fl_X6_26 dX6_whyOf_91 ?_
                refine Es_iload_n (hC _) dX6_whyOf_94 rfl ?_
                refine Es_ialdN (hC _) dX6_whyOf_95 rfl rfl rfl (by omega) (by decide) ?_
                rw [hr9, hk]
                refine Es_ialdN (hC _) dX6_whyOf_96 rfl rfl rfl (by omega) (by decide) ?_
                rw [hLX k hk5, hl, tDp_wrel hwr]
                refine Es_icmp_ge (hC _) 106 dX6_whyOf_97 (by decide) (fun hb97 => ?_) (fun hb97 => False.elim (hb97 (nI_le (a := l) (b := tDp B L t 0) (by omega) (by omega))))
                first | refine Es_aload_n (hC _) dX6_whyOf_106 rfl ?_ | refine Es_aload_nN (hC _) dX6_whyOf_106 rfl ?_
                refine Sg_X6_9 (hC _) fl_X6_26 dX6_whyOf_107 ?_
                refine Es_iload_n (hC _) dX6_whyOf_110 rfl ?_
                refine Es_ialdN (hC _) dX6_whyOf_111 rfl rfl rfl (by omega) (by decide) ?_
                rw [hr9]
                refine Es_iconst (v := 2) (hC _) dX6_whyOf_112 (by decide) ?_
                refine Es_icmp_ne (hC _) 184 dX6_whyOf_113 (by decide) (fun hb113 => ?_) (fun hb113 => False.elim (hk2 hb113))
                refine Es_iload (hC _) dX6_whyOf_184 rfl ?_
                refine Es_if_le (hC _) 197 dX6_whyOf_186 (by decide) (fun hb186 => ?_) (fun hb186 => False.elim (hb186 (by decide)))
                refine Es_iinc (lv' := [_, _, _, _, _, _]) (hC _) dX6_whyOf_197 (by decide) rfl (show _ + Int32.ofInt (1) = _ + (1) from rfl) rfl rfl ?_
                refine Es_goto (hC _) 2 dX6_whyOf_200 (by decide) ?_
                refine Es.kill 3 (lv' := [_, _, _, _, _, _]) rfl ?_
                refine Es.kill 4 (lv' := [_, _, _, _, _, _]) rfl ?_
                refine Es.kill 5 (lv' := [_, _, _, _, _, _]) rfl ?_
                rw [nI_1]
                exact ih (i + 1) (wR L1 (tW L1 t)) (by omega) (by omega) (hwr.w _) (by rw [← hg, wh_0 (fl_5 hon (by omega) hk hk5 hl hl1 hs h1 h2)])
        · skip
          by_cases h1 : tDp B L t 0 < l
          · skip
            refine Es_iload_n (hC _) dX6_whyOf_2 rfl ?_
            first | refine Es_aload_n (hC _) dX6_whyOf_3 rfl ?_ | refine Es_aload_nN (hC _) dX6_whyOf_3 rfl ?_
            refine Sg_X6_8 (hC _) fl_X6_23 dX6_whyOf_4 ?_
            refine Es_iload_n (hC _) dX6_whyOf_7 rfl ?_
            refine Es_ialdN (hC _) dX6_whyOf_8 rfl rfl rfl (by omega) (by decide) ?_
            rw [hp]
            refine Es_icmp_ge (hC _) 203 dX6_whyOf_9 (by decide) (fun hb9 => False.elim (nI_ge (b := p) (a := i) (by omega) (by omega) hb9)) (fun hb9 => ?_)
            refine Es_iload_n (hC _) dX6_whyOf_12 rfl ?_
            refine Es_iload_n (hC _) dX6_whyOf_13 rfl ?_
            refine Es_fS (hC _) ms_X6_97 dX6_whyOf_14 r_spot rfl rfl (by decide) (Nat.le_of_ble_eq_true rfl) ?_
            refine Es_istore_n (lv' := [_, _, _, _, _, _]) (hC _) dX6_whyOf_17 (by decide) rfl rfl ?_
            first | refine Es_aload_n (hC _) dX6_whyOf_18 rfl ?_ | refine Es_aload_nN (hC _) dX6_whyOf_18 rfl ?_
            refine Sg_X6_10 (hC _) fl_X6_29 dX6_whyOf_19 ?_
            refine Es_iload_n (hC _) dX6_whyOf_22 rfl ?_
            refine Es_ialdN (hC _) dX6_whyOf_23 rfl rfl rfl (by omega) (by decide) ?_
            rw [hr10, hon]
            refine Es_istore (lv' := [_, _, _, _, _, _]) (hC _) dX6_whyOf_24 (by decide) rfl rfl ?_
            refine Es_iconst (v := 0) (hC _) dX6_whyOf_26 (by decide) ?_
            refine Es_istore (lv' := [_, _, _, _, _, _]) (hC _) dX6_whyOf_27 (by decide) rfl rfl ?_
            refine Es_iload (hC _) dX6_whyOf_29 rfl ?_
            refine Es_if_ge (hC _) 54 dX6_whyOf_31 (by decide) (fun hb31 => ?_) (fun hb31 => False.elim (hb31 (nI_pos' (by omega))))
            first | refine Es_aload_n (hC _) dX6_whyOf_54 rfl ?_ | refine Es_aload_nN (hC _) dX6_whyOf_54 rfl ?_
            refine Sg_X6_9 (hC _) fl_X6_26 dX6_whyOf_55 ?_
            refine Es_iload_n (hC _) dX6_whyOf_58 rfl ?_
            refine Es_ialdN (hC _) dX6_whyOf_59 rfl rfl rfl (by omega) (by decide) ?_
            rw [hr9]
            refine Es_if_ne (hC _) 79 dX6_whyOf_60 (by decide) (fun hb60 => ?_) (fun hb60 => False.elim (hs0 hb60))
            first | refine Es_aload_n (hC _) dX6_whyOf_79 rfl ?_ | refine Es_aload_nN (hC _) dX6_whyOf_79 rfl ?_
            refine Es_iload (hC _) dX6_whyOf_80 rfl ?_
            refine Es_iconst (v := 0) (hC _) dX6_whyOf_82 (by decide) ?_
            refine Es_fV (hC _) mv_X6_149 dX6_whyOf_83 (rT_depthH (mo := 0) hb (TFa_wrel hwr hF) ht h40 (by decide)) rfl rfl ⟨_, rfl, rfl⟩ rfl rfl (by decide) (Nat.le_of_ble_eq_true rfl) ?_
            first | refine Es_aload_n (hC _) dX6_whyOf_86 rfl ?_ | refine Es_aload_nN (hC _) dX6_whyOf_86 rfl ?_
            refine Sg_X6_1 (hC _) fl_X6_13 dX6_whyOf_87 ?_
            first | refine Es_aload_n (hC _) dX6_whyOf_90 rfl ?_ | refine Es_aload_nN (hC _) dX6_whyOf_90 rfl ?_
            refine Sg_X6_9 (hC _) fl_X6_26 dX6_whyOf_91 ?_
            refine Es_iload_n (hC _) dX6_whyOf_94 rfl ?_
            refine Es_ialdN (hC _) dX6_whyOf_95 rfl rfl rfl (by omega) (by decide) ?_
            rw [hr9, hk]
            refine Es_ialdN (hC _) dX6_whyOf_96 rfl rfl rfl (by omega) (by decide) ?_
            rw [hLX k hk5, hl, tDp_wrel hwr]
            refine Es_icmp_ge (hC _) 106 dX6_whyOf_97 (by decide) (fun hb97 => False.elim (nI_ge (b := l) (a := tDp B L t 0) h1 (by omega) hb97)) (fun hb97 => ?_)
            refine Es_iconst (v := 3) (hC _) dX6_whyOf_100 (by decide) ?_
            refine Es_istore (lv' := [_, _, _, _, _, _]) (hC _) dX6_whyOf_101 (by decide) rfl rfl ?_
            refine Es_goto (hC _) 184 dX6_whyOf_103 (by decide) ?_
            refine Es_iload (hC _) dX6_whyOf_184 rfl ?_
            refine Es_if_le (hC _) 197 dX6_whyOf_186 (by decide) (fun hb186 => False.elim (absurd hb186 (by decide))) (fun hb186 => ?_)
            refine Es_bipush (v := 10) (hC _) dX6_whyOf_189 (by decide) ?_
            refine Es_iload_n (hC _) dX6_whyOf_191 rfl ?_
            refine Es_imul (hC _) dX6_whyOf_192 ?_
            refine Es_iload (hC _) dX6_whyOf_193 rfl ?_
            refine Es_iadd (hC _) dX6_whyOf_195 ?_
            exact Es_iret dX6_whyOf_196 rfl ⟨by rw [← hg, wh_ret (fl_4 hon (by omega) hk hk5 hl hl1 hs h1) (by decide)]; exact congrArg (fun q => some (Value.int q)) (tenp i 3), rfl, (hwr.w _)⟩
          · rcases hXP i (by omega) with ⟨q2, h2, hpr⟩ | ⟨h2, hpr⟩
            · have hq2 := (prX_s h2).2.1
              have hk2 := (prX_s h2).2.2.1
              obtain ⟨hr92, hr102⟩ := hrr q2 hq2
              rcases (hq q2 hq2).2 with hon2 | ⟨t2, ht2, hon2⟩
              · skip
                refine Es_iload_n (hC _) dX6_whyOf_2 rfl ?_
                first | refine Es_aload_n (hC _) dX6_whyOf_3 rfl ?_ | refine Es_aload_nN (hC _) dX6_whyOf_3 rfl ?_
                refine Sg_X6_8 (hC _) fl_X6_23 dX6_whyOf_4 ?_
                refine Es_iload_n (hC _) dX6_whyOf_7 rfl ?_
                refine Es_ialdN (hC _) dX6_whyOf_8 rfl rfl rfl (by omega) (by decide) ?_
                rw [hp]
                refine Es_icmp_ge (hC _) 203 dX6_whyOf_9 (by decide) (fun hb9 => False.elim (nI_ge (b := p) (a := i) (by omega) (by omega) hb9)) (fun hb9 => ?_)
                refine Es_iload_n (hC _) dX6_whyOf_12 rfl ?_
                refine Es_iload_n (hC _) dX6_whyOf_13 rfl ?_
                refine Es_fS (hC _) ms_X6_97 dX6_whyOf_14 r_spot rfl rfl (by decide) (Nat.le_of_ble_eq_true rfl) ?_
                refine Es_istore_n (lv' := [_, _, _, _, _, _]) (hC _) dX6_whyOf_17 (by decide) rfl rfl ?_
                first | refine Es_aload_n (hC _) dX6_whyOf_18 rfl ?_ | refine Es_aload_nN (hC _) dX6_whyOf_18 rfl ?_
                refine Sg_X6_10 (hC _) fl_X6_29 dX6_whyOf_19 ?_
                refine Es_iload_n (hC _) dX6_whyOf_22 rfl ?_
                refine Es_ialdN (hC _) dX6_whyOf_23 rfl rfl rfl (by omega) (by decide) ?_
                rw [hr10, hon]
                refine Es_istore (lv' := [_, _, _, _, _, _]) (hC _) dX6_whyOf_24 (by decide) rfl rfl ?_
                refine Es_iconst (v := 0) (hC _) dX6_whyOf_26 (by decide) ?_
                refine Es_istore (lv' := [_, _, _, _, _, _]) (hC _) dX6_whyOf_27 (by decide) rfl rfl ?_
                refine Es_iload (hC _) dX6_whyOf_29 rfl ?_
                refine Es_if_ge (hC _) 54 dX6_whyOf_31 (by decide) (fun hb31 => ?_) (fun hb31 => False.elim (hb31 (nI_pos' (by omega))))
                first | refine Es_aload_n (hC _) dX6_whyOf_54 rfl ?_ | refine Es_aload_nN (hC _) dX6_whyOf_54 rfl ?_
                refine Sg_X6_9 (hC _) fl_X6_26 dX6_whyOf_55 ?_
                refine Es_iload_n (hC _) dX6_whyOf_58 rfl ?_
                refine Es_ialdN (hC _) dX6_whyOf_59 rfl rfl rfl (by omega) (by decide) ?_
                rw [hr9]
                refine Es_if_ne (hC _) 79 dX6_whyOf_60 (by decide) (fun hb60 => ?_) (fun hb60 => False.elim (hs0 hb60))
                first | refine Es_aload_n (hC _) dX6_whyOf_79 rfl ?_ | refine Es_aload_nN (hC _) dX6_whyOf_79 rfl ?_
                refine Es_iload (hC _) dX6_whyOf_80 rfl ?_
                refine Es_iconst (v := 0) (hC _) dX6_whyOf_82 (by decide) ?_
                refine Es_fV (hC _) mv_X6_149 dX6_whyOf_83 (rT_depthH (mo := 0) hb (TFa_wrel hwr hF) ht h40 (by decide)) rfl rfl ⟨_, rfl, rfl⟩ rfl rfl (by decide) (Nat.le_of_ble_eq_true rfl) ?_
                first | refine Es_aload_n (hC _) dX6_whyOf_86 rfl ?_ | refine Es_aload_nN (hC _) dX6_whyOf_86 rfl ?_
                refine Sg_X6_1 (hC _) fl_X6_13 dX6_whyOf_87 ?_
                first | refine Es_aload_n (hC _) dX6_whyOf_90 rfl ?_ | refine Es_aload_nN (hC _) dX6_whyOf_90 rfl ?_
                refine Sg_X6_9 (hC _) fl_X6_26 dX6_whyOf_91 ?_
                refine Es_iload_n (hC _) dX6_whyOf_94 rfl ?_
                refine Es_ialdN (hC _) dX6_whyOf_95 rfl rfl rfl (by omega) (by decide) ?_
                rw [hr9, hk]
                refine Es_ialdN (hC _) dX6_whyOf_96 rfl rfl rfl (by omega) (by decide) ?_
                rw [hLX k hk5, hl, tDp_wrel hwr]
                refine Es_icmp_ge (hC _) 106 dX6_whyOf_97 (by decide) (fun hb97 => ?_) (fun hb97 => False.elim (hb97 (nI_le (a := l) (b := tDp B L t 0) (by omega) (by omega))))
                first | refine Es_aload_n (hC _) dX6_whyOf_106 rfl ?_ | refine Es_aload_nN (hC _) dX6_whyOf_106 rfl ?_
                refine Sg_X6_9 (hC _) fl_X6_26 dX6_whyOf_107 ?_
                refine Es_iload_n (hC _) dX6_whyOf_110 rfl ?_
                refine Es_ialdN (hC _) dX6_whyOf_111 rfl rfl rfl (by omega) (by decide) ?_
                rw [hr9]
                refine Es_iconst (v := 2) (hC _) dX6_whyOf_112 (by decide) ?_
                refine Es_icmp_ne (hC _) 184 dX6_whyOf_113 (by decide) (fun hb113 => False.elim (hb113 hk2)) (fun hb113 => ?_)
                first | refine Es_aload_n (hC _) dX6_whyOf_116 rfl ?_ | refine Es_aload_nN (hC _) dX6_whyOf_116 rfl ?_
                refine Sg_X6_11 (hC _) fl_X6_32 dX6_whyOf_117 ?_
                refine Es_iload_n (hC _) dX6_whyOf_120 rfl ?_
                refine Es_ialdN (hC _) dX6_whyOf_121 rfl rfl rfl (by omega) (by decide) ?_
                rw [hpr]
                refine Es_if_lt (hC _) 184 dX6_whyOf_122 (by decide) (fun hb122 => False.elim (nI_pos (by omega) hb122)) (fun hb122 => ?_)
                first | refine Es_aload_n (hC _) dX6_whyOf_125 rfl ?_ | refine Es_aload_nN (hC _) dX6_whyOf_125 rfl ?_
                refine Sg_X6_10 (hC _) fl_X6_29 dX6_whyOf_126 ?_
                refine Es_iload_n (hC _) dX6_whyOf_129 rfl ?_
                first | refine Es_aload_n (hC _) dX6_whyOf_130 rfl ?_ | refine Es_aload_nN (hC _) dX6_whyOf_130 rfl ?_
                refine Sg_X6_11 (hC _) fl_X6_32 dX6_whyOf_131 ?_
                refine Es_iload_n (hC _) dX6_whyOf_134 rfl ?_
                refine Es_ialdN (hC _) dX6_whyOf_135 rfl rfl rfl (by omega) (by decide) ?_
                rw [hpr]
                refine Es_fS (hC _) ms_X6_97 dX6_whyOf_136 r_spot rfl rfl (by decide) (Nat.le_of_ble_eq_true rfl) ?_
                refine Es_ialdN (hC _) dX6_whyOf_139 rfl rfl rfl (by omega) (by decide) ?_
                rw [hr102, hon2]
                refine Es_if_lt (hC _) 184 dX6_whyOf_140 (by decide) (fun hb140 => ?_) (fun hb140 => False.elim (hb140 (by decide)))
                refine Es_iload (hC _) dX6_whyOf_184 rfl ?_
                refine Es_if_le (hC _) 197 dX6_whyOf_186 (by decide) (fun hb186 => ?_) (fun hb186 => False.elim (hb186 (by decide)))
                refine Es_iinc (lv' := [_, _, _, _, _, _]) (hC _) dX6_whyOf_197 (by decide) rfl (show _ + Int32.ofInt (1) = _ + (1) from rfl) rfl rfl ?_
                refine Es_goto (hC _) 2 dX6_whyOf_200 (by decide) ?_
                refine Es.kill 3 (lv' := [_, _, _, _, _, _]) rfl ?_
                refine Es.kill 4 (lv' := [_, _, _, _, _, _]) rfl ?_
                refine Es.kill 5 (lv' := [_, _, _, _, _, _]) rfl ?_
                rw [nI_1]
                exact ih (i + 1) (wR L1 (tW L1 t)) (by omega) (by omega) (hwr.w _) (by rw [← hg, wh_0 (fl_6 hon (by omega) hk hk5 hl hl1 hs h1 h2 hon2)])
              · have hdl2 := tDp_le (mo := 0) hF ht2
                have e7 := fl_7 (ap := ap) hon (by omega) hk hk5 hl hl1 hs h1 h2 hon2 (by omega)
                by_cases h9 : ap < ((tDp B L t 0 - tDp B L t2 0) + (tDp B L t2 0 - tDp B L t 0))
                · rw [if_pos h9] at e7
                  refine Es_iload_n (hC _) dX6_whyOf_2 rfl ?_
                  first | refine Es_aload_n (hC _) dX6_whyOf_3 rfl ?_ | refine Es_aload_nN (hC _) dX6_whyOf_3 rfl ?_
                  refine Sg_X6_8 (hC _) fl_X6_23 dX6_whyOf_4 ?_
                  refine Es_iload_n (hC _) dX6_whyOf_7 rfl ?_
                  refine Es_ialdN (hC _) dX6_whyOf_8 rfl rfl rfl (by omega) (by decide) ?_
                  rw [hp]
                  refine Es_icmp_ge (hC _) 203 dX6_whyOf_9 (by decide) (fun hb9 => False.elim (nI_ge (b := p) (a := i) (by omega) (by omega) hb9)) (fun hb9 => ?_)
                  refine Es_iload_n (hC _) dX6_whyOf_12 rfl ?_
                  refine Es_iload_n (hC _) dX6_whyOf_13 rfl ?_
                  refine Es_fS (hC _) ms_X6_97 dX6_whyOf_14 r_spot rfl rfl (by decide) (Nat.le_of_ble_eq_true rfl) ?_
                  refine Es_istore_n (lv' := [_, _, _, _, _, _]) (hC _) dX6_whyOf_17 (by decide) rfl rfl ?_
                  first | refine Es_aload_n (hC _) dX6_whyOf_18 rfl ?_ | refine Es_aload_nN (hC _) dX6_whyOf_18 rfl ?_
                  refine Sg_X6_10 (hC _) fl_X6_29 dX6_whyOf_19 ?_
                  refine Es_iload_n (hC _) dX6_whyOf_22 rfl ?_
                  refine Es_ialdN (hC _) dX6_whyOf_23 rfl rfl rfl (by omega) (by decide) ?_
                  rw [hr10, hon]
                  refine Es_istore (lv' := [_, _, _, _, _, _]) (hC _) dX6_whyOf_24 (by decide) rfl rfl ?_
                  refine Es_iconst (v := 0) (hC _) dX6_whyOf_26 (by decide) ?_
                  refine Es_istore (lv' := [_, _, _, _, _, _]) (hC _) dX6_whyOf_27 (by decide) rfl rfl ?_
                  refine Es_iload (hC _) dX6_whyOf_29 rfl ?_
                  refine Es_if_ge (hC _) 54 dX6_whyOf_31 (by decide) (fun hb31 => ?_) (fun hb31 => False.elim (hb31 (nI_pos' (by omega))))
                  first | refine Es_aload_n (hC _) dX6_whyOf_54 rfl ?_ | refine Es_aload_nN (hC _) dX6_whyOf_54 rfl ?_
                  refine Sg_X6_9 (hC _) fl_X6_26 dX6_whyOf_55 ?_
                  refine Es_iload_n (hC _) dX6_whyOf_58 rfl ?_
                  refine Es_ialdN (hC _) dX6_whyOf_59 rfl rfl rfl (by omega) (by decide) ?_
                  rw [hr9]
                  refine Es_if_ne (hC _) 79 dX6_whyOf_60 (by decide) (fun hb60 => ?_) (fun hb60 => False.elim (hs0 hb60))
                  first | refine Es_aload_n (hC _) dX6_whyOf_79 rfl ?_ | refine Es_aload_nN (hC _) dX6_whyOf_79 rfl ?_
                  refine Es_iload (hC _) dX6_whyOf_80 rfl ?_
                  refine Es_iconst (v := 0) (hC _) dX6_whyOf_82 (by decide) ?_
                  refine Es_fV (hC _) mv_X6_149 dX6_whyOf_83 (rT_depthH (mo := 0) hb (TFa_wrel hwr hF) ht h40 (by decide)) rfl rfl ⟨_, rfl, rfl⟩ rfl rfl (by decide) (Nat.le_of_ble_eq_true rfl) ?_
                  first | refine Es_aload_n (hC _) dX6_whyOf_86 rfl ?_ | refine Es_aload_nN (hC _) dX6_whyOf_86 rfl ?_
                  refine Sg_X6_1 (hC _) fl_X6_13 dX6_whyOf_87 ?_
                  first | refine Es_aload_n (hC _) dX6_whyOf_90 rfl ?_ | refine Es_aload_nN (hC _) dX6_whyOf_90 rfl ?_
                  refine Sg_X6_9 (hC _) fl_X6_26 dX6_whyOf_91 ?_
                  refine Es_iload_n (hC _) dX6_whyOf_94 rfl ?_
                  refine Es_ialdN (hC _) dX6_whyOf_95 rfl rfl rfl (by omega) (by decide) ?_
                  rw [hr9, hk]
                  refine Es_ialdN (hC _) dX6_whyOf_96 rfl rfl rfl (by omega) (by decide) ?_
                  rw [hLX k hk5, hl, tDp_wrel hwr]
                  refine Es_icmp_ge (hC _) 106 dX6_whyOf_97 (by decide) (fun hb97 => ?_) (fun hb97 => False.elim (hb97 (nI_le (a := l) (b := tDp B L t 0) (by omega) (by omega))))
                  first | refine Es_aload_n (hC _) dX6_whyOf_106 rfl ?_ | refine Es_aload_nN (hC _) dX6_whyOf_106 rfl ?_
                  refine Sg_X6_9 (hC _) fl_X6_26 dX6_whyOf_107 ?_
                  refine Es_iload_n (hC _) dX6_whyOf_110 rfl ?_
                  refine Es_ialdN (hC _) dX6_whyOf_111 rfl rfl rfl (by omega) (by decide) ?_
                  rw [hr9]
                  refine Es_iconst (v := 2) (hC _) dX6_whyOf_112 (by decide) ?_
                  refine Es_icmp_ne (hC _) 184 dX6_whyOf_113 (by decide) (fun hb113 => False.elim (hb113 hk2)) (fun hb113 => ?_)
                  first | refine Es_aload_n (hC _) dX6_whyOf_116 rfl ?_ | refine Es_aload_nN (hC _) dX6_whyOf_116 rfl ?_
                  refine Sg_X6_11 (hC _) fl_X6_32 dX6_whyOf_117 ?_
                  refine Es_iload_n (hC _) dX6_whyOf_120 rfl ?_
                  refine Es_ialdN (hC _) dX6_whyOf_121 rfl rfl rfl (by omega) (by decide) ?_
                  rw [hpr]
                  refine Es_if_lt (hC _) 184 dX6_whyOf_122 (by decide) (fun hb122 => False.elim (nI_pos (by omega) hb122)) (fun hb122 => ?_)
                  first | refine Es_aload_n (hC _) dX6_whyOf_125 rfl ?_ | refine Es_aload_nN (hC _) dX6_whyOf_125 rfl ?_
                  refine Sg_X6_10 (hC _) fl_X6_29 dX6_whyOf_126 ?_
                  refine Es_iload_n (hC _) dX6_whyOf_129 rfl ?_
                  first | refine Es_aload_n (hC _) dX6_whyOf_130 rfl ?_ | refine Es_aload_nN (hC _) dX6_whyOf_130 rfl ?_
                  refine Sg_X6_11 (hC _) fl_X6_32 dX6_whyOf_131 ?_
                  refine Es_iload_n (hC _) dX6_whyOf_134 rfl ?_
                  refine Es_ialdN (hC _) dX6_whyOf_135 rfl rfl rfl (by omega) (by decide) ?_
                  rw [hpr]
                  refine Es_fS (hC _) ms_X6_97 dX6_whyOf_136 r_spot rfl rfl (by decide) (Nat.le_of_ble_eq_true rfl) ?_
                  refine Es_ialdN (hC _) dX6_whyOf_139 rfl rfl rfl (by omega) (by decide) ?_
                  rw [hr102, hon2]
                  refine Es_if_lt (hC _) 184 dX6_whyOf_140 (by decide) (fun hb140 => False.elim (nI_pos (by omega) hb140)) (fun hb140 => ?_)
                  first | refine Es_aload_n (hC _) dX6_whyOf_143 rfl ?_ | refine Es_aload_nN (hC _) dX6_whyOf_143 rfl ?_
                  refine Es_iload (hC _) dX6_whyOf_144 rfl ?_
                  refine Es_iconst (v := 0) (hC _) dX6_whyOf_146 (by decide) ?_
                  refine Es_fV (hC _) mv_X6_149 dX6_whyOf_147 (rT_depthH (mo := 0) hb (TFa_wrel (hwr.w _) hF) ht h40 (by decide)) rfl rfl ⟨_, rfl, rfl⟩ rfl rfl (by decide) (Nat.le_of_ble_eq_true rfl) ?_
                  rw [tDp_wrel (hwr.w _)]
                  first | refine Es_aload_n (hC _) dX6_whyOf_150 rfl ?_ | refine Es_aload_nN (hC _) dX6_whyOf_150 rfl ?_
                  first | refine Es_aload_n (hC _) dX6_whyOf_151 rfl ?_ | refine Es_aload_nN (hC _) dX6_whyOf_151 rfl ?_
                  refine Sg_X6_10 (hC _) fl_X6_29 dX6_whyOf_152 ?_
                  refine Es_iload_n (hC _) dX6_whyOf_155 rfl ?_
                  first | refine Es_aload_n (hC _) dX6_whyOf_156 rfl ?_ | refine Es_aload_nN (hC _) dX6_whyOf_156 rfl ?_
                  refine Sg_X6_11 (hC _) fl_X6_32 dX6_whyOf_157 ?_
                  refine Es_iload_n (hC _) dX6_whyOf_160 rfl ?_
                  refine Es_ialdN (hC _) dX6_whyOf_161 rfl rfl rfl (by omega) (by decide) ?_
                  rw [hpr]
                  refine Es_fS (hC _) ms_X6_97 dX6_whyOf_162 r_spot rfl rfl (by decide) (Nat.le_of_ble_eq_true rfl) ?_
                  refine Es_ialdN (hC _) dX6_whyOf_165 rfl rfl rfl (by omega) (by decide) ?_
                  rw [hr102, hon2]
                  refine Es_iconst (v := 0) (hC _) dX6_whyOf_166 (by decide) ?_
                  refine Es_fV (hC _) mv_X6_149 dX6_whyOf_167 (rT_depthH (mo := 0) hb (TFa_wrel ((hwr.w _).w _) hF) ht2 h40 (by decide)) rfl rfl ⟨_, rfl, rfl⟩ rfl rfl (by decide) (Nat.le_of_ble_eq_true rfl) ?_
                  rw [tDp_wrel ((hwr.w _).w _)]
                  refine Es_isub (hC _) dX6_whyOf_170 ?_
                  refine Es_fS (hC _) ms_X6_158 dX6_whyOf_171 j_abs rfl rfl (by decide) (Nat.le_of_ble_eq_true rfl) ?_
                  rw [abI_N (by omega) (by omega)]
                  first | refine Es_aload_n (hC _) dX6_whyOf_174 rfl ?_ | refine Es_aload_nN (hC _) dX6_whyOf_174 rfl ?_
                  refine Sg_X6_6 (hC _) fl_X6_19 dX6_whyOf_175 ?_
                  rw [hap]
                  refine Es_icmp_le (hC _) 184 dX6_whyOf_178 (by decide) (fun hb178 => False.elim (nI_ge (b := ((tDp B L t 0 - tDp B L t2 0) + (tDp B L t2 0 - tDp B L t 0))) (a := ap) h9 (by omega) hb178)) (fun hb178 => ?_)
                  refine Es_iconst (v := 4) (hC _) dX6_whyOf_181 (by decide) ?_
                  refine Es_istore (lv' := [_, _, _, _, _, _]) (hC _) dX6_whyOf_182 (by decide) rfl rfl ?_
                  refine Es_iload (hC _) dX6_whyOf_184 rfl ?_
                  refine Es_if_le (hC _) 197 dX6_whyOf_186 (by decide) (fun hb186 => False.elim (absurd hb186 (by decide))) (fun hb186 => ?_)
                  refine Es_bipush (v := 10) (hC _) dX6_whyOf_189 (by decide) ?_
                  refine Es_iload_n (hC _) dX6_whyOf_191 rfl ?_
                  refine Es_imul (hC _) dX6_whyOf_192 ?_
                  refine Es_iload (hC _) dX6_whyOf_193 rfl ?_
                  refine Es_iadd (hC _) dX6_whyOf_195 ?_
                  exact Es_iret dX6_whyOf_196 rfl ⟨by rw [← hg, wh_ret (e7) (by decide)]; exact congrArg (fun q => some (Value.int q)) (tenp i 4), rfl, (((hwr.w _).w _).w _)⟩
                · rw [if_neg h9] at e7
                  refine Es_iload_n (hC _) dX6_whyOf_2 rfl ?_
                  first | refine Es_aload_n (hC _) dX6_whyOf_3 rfl ?_ | refine Es_aload_nN (hC _) dX6_whyOf_3 rfl ?_
                  refine Sg_X6_8 (hC _) fl_X6_23 dX6_whyOf_4 ?_
                  refine Es_iload_n (hC _) dX6_whyOf_7 rfl ?_
                  refine Es_ialdN (hC _) dX6_whyOf_8 rfl rfl rfl (by omega) (by decide) ?_
                  rw [hp]
                  refine Es_icmp_ge (hC _) 203 dX6_whyOf_9 (by decide) (fun hb9 => False.elim (nI_ge (b := p) (a := i) (by omega) (by omega) hb9)) (fun hb9 => ?_)
                  refine Es_iload_n (hC _) dX6_whyOf_12 rfl ?_
                  refine Es_iload_n (hC _) dX6_whyOf_13 rfl ?_
                  refine Es_fS (hC _) ms_X6_97 dX6_whyOf_14 r_spot rfl rfl (by decide) (Nat.le_of_ble_eq_true rfl) ?_
                  refine Es_istore_n (lv' := [_, _, _, _, _, _]) (hC _) dX6_whyOf_17 (by decide) rfl rfl ?_
                  first | refine Es_aload_n (hC _) dX6_whyOf_18 rfl ?_ | refine Es_aload_nN (hC _) dX6_whyOf_18 rfl ?_
                  refine Sg_X6_10 (hC _) fl_X6_29 dX6_whyOf_19 ?_
                  refine Es_iload_n (hC _) dX6_whyOf_22 rfl ?_
                  refine Es_ialdN (hC _) dX6_whyOf_23 rfl rfl rfl (by omega) (by decide) ?_
                  rw [hr10, hon]
                  refine Es_istore (lv' := [_, _, _, _, _, _]) (hC _) dX6_whyOf_24 (by decide) rfl rfl ?_
                  refine Es_iconst (v := 0) (hC _) dX6_whyOf_26 (by decide) ?_
                  refine Es_istore (lv' := [_, _, _, _, _, _]) (hC _) dX6_whyOf_27 (by decide) rfl rfl ?_
                  refine Es_iload (hC _) dX6_whyOf_29 rfl ?_
                  refine Es_if_ge (hC _) 54 dX6_whyOf_31 (by decide) (fun hb31 => ?_) (fun hb31 => False.elim (hb31 (nI_pos' (by omega))))
                  first | refine Es_aload_n (hC _) dX6_whyOf_54 rfl ?_ | refine Es_aload_nN (hC _) dX6_whyOf_54 rfl ?_
                  refine Sg_X6_9 (hC _) fl_X6_26 dX6_whyOf_55 ?_
                  refine Es_iload_n (hC _) dX6_whyOf_58 rfl ?_
                  refine Es_ialdN (hC _) dX6_whyOf_59 rfl rfl rfl (by omega) (by decide) ?_
                  rw [hr9]
                  refine Es_if_ne (hC _) 79 dX6_whyOf_60 (by decide) (fun hb60 => ?_) (fun hb60 => False.elim (hs0 hb60))
                  first | refine Es_aload_n (hC _) dX6_whyOf_79 rfl ?_ | refine Es_aload_nN (hC _) dX6_whyOf_79 rfl ?_
                  refine Es_iload (hC _) dX6_whyOf_80 rfl ?_
                  refine Es_iconst (v := 0) (hC _) dX6_whyOf_82 (by decide) ?_
                  refine Es_fV (hC _) mv_X6_149 dX6_whyOf_83 (rT_depthH (mo := 0) hb (TFa_wrel hwr hF) ht h40 (by decide)) rfl rfl ⟨_, rfl, rfl⟩ rfl rfl (by decide) (Nat.le_of_ble_eq_true rfl) ?_
                  first | refine Es_aload_n (hC _) dX6_whyOf_86 rfl ?_ | refine Es_aload_nN (hC _) dX6_whyOf_86 rfl ?_
                  refine Sg_X6_1 (hC _) fl_X6_13 dX6_whyOf_87 ?_
                  first | refine Es_aload_n (hC _) dX6_whyOf_90 rfl ?_ | refine Es_aload_nN (hC _) dX6_whyOf_90 rfl ?_
                  refine Sg_X6_9 (hC _) fl_X6_26 dX6_whyOf_91 ?_
                  refine Es_iload_n (hC _) dX6_whyOf_94 rfl ?_
                  refine Es_ialdN (hC _) dX6_whyOf_95 rfl rfl rfl (by omega) (by decide) ?_
                  rw [hr9, hk]
                  refine Es_ialdN (hC _) dX6_whyOf_96 rfl rfl rfl (by omega) (by decide) ?_
                  rw [hLX k hk5, hl, tDp_wrel hwr]
                  refine Es_icmp_ge (hC _) 106 dX6_whyOf_97 (by decide) (fun hb97 => ?_) (fun hb97 => False.elim (hb97 (nI_le (a := l) (b := tDp B L t 0) (by omega) (by omega))))
                  first | refine Es_aload_n (hC _) dX6_whyOf_106 rfl ?_ | refine Es_aload_nN (hC _) dX6_whyOf_106 rfl ?_
                  refine Sg_X6_9 (hC _) fl_X6_26 dX6_whyOf_107 ?_
                  refine Es_iload_n (hC _) dX6_whyOf_110 rfl ?_
                  refine Es_ialdN (hC _) dX6_whyOf_111 rfl rfl rfl (by omega) (by decide) ?_
                  rw [hr9]
                  refine Es_iconst (v := 2) (hC _) dX6_whyOf_112 (by decide) ?_
                  refine Es_icmp_ne (hC _) 184 dX6_whyOf_113 (by decide) (fun hb113 => False.elim (hb113 hk2)) (fun hb113 => ?_)
                  first | refine Es_aload_n (hC _) dX6_whyOf_116 rfl ?_ | refine Es_aload_nN (hC _) dX6_whyOf_116 rfl ?_
                  refine Sg_X6_11 (hC _) fl_X6_32 dX6_whyOf_117 ?_
                  refine Es_iload_n (hC _) dX6_whyOf_120 rfl ?_
                  refine Es_ialdN (hC _) dX6_whyOf_121 rfl rfl rfl (by omega) (by decide) ?_
                  rw [hpr]
                  refine Es_if_lt (hC _) 184 dX6_whyOf_122 (by decide) (fun hb122 => False.elim (nI_pos (by omega) hb122)) (fun hb122 => ?_)
                  first | refine Es_aload_n (hC _) dX6_whyOf_125 rfl ?_ | refine Es_aload_nN (hC _) dX6_whyOf_125 rfl ?_
                  refine Sg_X6_10 (hC _) fl_X6_29 dX6_whyOf_126 ?_
                  refine Es_iload_n (hC _) dX6_whyOf_129 rfl ?_
                  first | refine Es_aload_n (hC _) dX6_whyOf_130 rfl ?_ | refine Es_aload_nN (hC _) dX6_whyOf_130 rfl ?_
                  refine Sg_X6_11 (hC _) fl_X6_32 dX6_whyOf_131 ?_
                  refine Es_iload_n (hC _) dX6_whyOf_134 rfl ?_
                  refine Es_ialdN (hC _) dX6_whyOf_135 rfl rfl rfl (by omega) (by decide) ?_
                  rw [hpr]
                  refine Es_fS (hC _) ms_X6_97 dX6_whyOf_136 r_spot rfl rfl (by decide) (Nat.le_of_ble_eq_true rfl) ?_
                  refine Es_ialdN (hC _) dX6_whyOf_139 rfl rfl rfl (by omega) (by decide) ?_
                  rw [hr102, hon2]
                  refine Es_if_lt (hC _) 184 dX6_whyOf_140 (by decide) (fun hb140 => False.elim (nI_pos (by omega) hb140)) (fun hb140 => ?_)
                  first | refine Es_aload_n (hC _) dX6_whyOf_143 rfl ?_ | refine Es_aload_nN (hC _) dX6_whyOf_143 rfl ?_
                  refine Es_iload (hC _) dX6_whyOf_144 rfl ?_
                  refine Es_iconst (v := 0) (hC _) dX6_whyOf_146 (by decide) ?_
                  refine Es_fV (hC _) mv_X6_149 dX6_whyOf_147 (rT_depthH (mo := 0) hb (TFa_wrel (hwr.w _) hF) ht h40 (by decide)) rfl rfl ⟨_, rfl, rfl⟩ rfl rfl (by decide) (Nat.le_of_ble_eq_true rfl) ?_
                  rw [tDp_wrel (hwr.w _)]
                  first | refine Es_aload_n (hC _) dX6_whyOf_150 rfl ?_ | refine Es_aload_nN (hC _) dX6_whyOf_150 rfl ?_
                  first | refine Es_aload_n (hC _) dX6_whyOf_151 rfl ?_ | refine Es_aload_nN (hC _) dX6_whyOf_151 rfl ?_
                  refine Sg_X6_10 (hC _) fl_X6_29 dX6_whyOf_152 ?_
                  refine Es_iload_n (hC _) dX6_whyOf_155 rfl ?_
                  first | refine Es_aload_n (hC _) dX6_whyOf_156 rfl ?_ | refine Es_aload_nN (hC _) dX6_whyOf_156 rfl ?_
                  refine Sg_X6_11 (hC _) fl_X6_32 dX6_whyOf_157 ?_
                  refine Es_iload_n (hC _) dX6_whyOf_160 rfl ?_
                  refine Es_ialdN (hC _) dX6_whyOf_161 rfl rfl rfl (by omega) (by decide) ?_
                  rw [hpr]
                  refine Es_fS (hC _) ms_X6_97 dX6_whyOf_162 r_spot rfl rfl (by decide) (Nat.le_of_ble_eq_true rfl) ?_
                  refine Es_ialdN (hC _) dX6_whyOf_165 rfl rfl rfl (by omega) (by decide) ?_
                  rw [hr102, hon2]
                  refine Es_iconst (v := 0) (hC _) dX6_whyOf_166 (by decide) ?_
                  refine Es_fV (hC _) mv_X6_149 dX6_whyOf_167 (rT_depthH (mo := 0) hb (TFa_wrel ((hwr.w _).w _) hF) ht2 h40 (by decide)) rfl rfl ⟨_, rfl, rfl⟩ rfl rfl (by decide) (Nat.le_of_ble_eq_true rfl) ?_
                  rw [tDp_wrel ((hwr.w _).w _)]
                  refine Es_isub (hC _) dX6_whyOf_170 ?_
                  refine Es_fS (hC _) ms_X6_158 dX6_whyOf_171 j_abs rfl rfl (by decide) (Nat.le_of_ble_eq_true rfl) ?_
                  rw [abI_N (by omega) (by omega)]
                  first | refine Es_aload_n (hC _) dX6_whyOf_174 rfl ?_ | refine Es_aload_nN (hC _) dX6_whyOf_174 rfl ?_
                  refine Sg_X6_6 (hC _) fl_X6_19 dX6_whyOf_175 ?_
                  rw [hap]
                  refine Es_icmp_le (hC _) 184 dX6_whyOf_178 (by decide) (fun hb178 => ?_) (fun hb178 => False.elim (hb178 (nI_le (a := ((tDp B L t 0 - tDp B L t2 0) + (tDp B L t2 0 - tDp B L t 0))) (b := ap) (by omega) (by omega))))
                  refine Es_iload (hC _) dX6_whyOf_184 rfl ?_
                  refine Es_if_le (hC _) 197 dX6_whyOf_186 (by decide) (fun hb186 => ?_) (fun hb186 => False.elim (hb186 (by decide)))
                  refine Es_iinc (lv' := [_, _, _, _, _, _]) (hC _) dX6_whyOf_197 (by decide) rfl (show _ + Int32.ofInt (1) = _ + (1) from rfl) rfl rfl ?_
                  refine Es_goto (hC _) 2 dX6_whyOf_200 (by decide) ?_
                  refine Es.kill 3 (lv' := [_, _, _, _, _, _]) rfl ?_
                  refine Es.kill 4 (lv' := [_, _, _, _, _, _]) rfl ?_
                  refine Es.kill 5 (lv' := [_, _, _, _, _, _]) rfl ?_
                  rw [nI_1]
                  exact ih (i + 1) (wR (wR (wR L1 (tW L1 t)) (tW (wR L1 (tW L1 t)) t)) (tW (wR (wR L1 (tW L1 t)) (tW (wR L1 (tW L1 t)) t)) t2)) (by omega) (by omega) (((hwr.w _).w _).w _) (by rw [← hg, wh_0 (e7)])
            · by_cases hk2 : B 19 w i = 2
              · skip
                refine Es_iload_n (hC _) dX6_whyOf_2 rfl ?_
                first | refine Es_aload_n (hC _) dX6_whyOf_3 rfl ?_ | refine Es_aload_nN (hC _) dX6_whyOf_3 rfl ?_
                refine Sg_X6_8 (hC _) fl_X6_23 dX6_whyOf_4 ?_
                refine Es_iload_n (hC _) dX6_whyOf_7 rfl ?_
                refine Es_ialdN (hC _) dX6_whyOf_8 rfl rfl rfl (by omega) (by decide) ?_
                rw [hp]
                refine Es_icmp_ge (hC _) 203 dX6_whyOf_9 (by decide) (fun hb9 => False.elim (nI_ge (b := p) (a := i) (by omega) (by omega) hb9)) (fun hb9 => ?_)
                refine Es_iload_n (hC _) dX6_whyOf_12 rfl ?_
                refine Es_iload_n (hC _) dX6_whyOf_13 rfl ?_
                refine Es_fS (hC _) ms_X6_97 dX6_whyOf_14 r_spot rfl rfl (by decide) (Nat.le_of_ble_eq_true rfl) ?_
                refine Es_istore_n (lv' := [_, _, _, _, _, _]) (hC _) dX6_whyOf_17 (by decide) rfl rfl ?_
                first | refine Es_aload_n (hC _) dX6_whyOf_18 rfl ?_ | refine Es_aload_nN (hC _) dX6_whyOf_18 rfl ?_
                refine Sg_X6_10 (hC _) fl_X6_29 dX6_whyOf_19 ?_
                refine Es_iload_n (hC _) dX6_whyOf_22 rfl ?_
                refine Es_ialdN (hC _) dX6_whyOf_23 rfl rfl rfl (by omega) (by decide) ?_
                rw [hr10, hon]
                refine Es_istore (lv' := [_, _, _, _, _, _]) (hC _) dX6_whyOf_24 (by decide) rfl rfl ?_
                refine Es_iconst (v := 0) (hC _) dX6_whyOf_26 (by decide) ?_
                refine Es_istore (lv' := [_, _, _, _, _, _]) (hC _) dX6_whyOf_27 (by decide) rfl rfl ?_
                refine Es_iload (hC _) dX6_whyOf_29 rfl ?_
                refine Es_if_ge (hC _) 54 dX6_whyOf_31 (by decide) (fun hb31 => ?_) (fun hb31 => False.elim (hb31 (nI_pos' (by omega))))
                first | refine Es_aload_n (hC _) dX6_whyOf_54 rfl ?_ | refine Es_aload_nN (hC _) dX6_whyOf_54 rfl ?_
                refine Sg_X6_9 (hC _) fl_X6_26 dX6_whyOf_55 ?_
                refine Es_iload_n (hC _) dX6_whyOf_58 rfl ?_
                refine Es_ialdN (hC _) dX6_whyOf_59 rfl rfl rfl (by omega) (by decide) ?_
                rw [hr9]
                refine Es_if_ne (hC _) 79 dX6_whyOf_60 (by decide) (fun hb60 => ?_) (fun hb60 => False.elim (hs0 hb60))
                first | refine Es_aload_n (hC _) dX6_whyOf_79 rfl ?_ | refine Es_aload_nN (hC _) dX6_whyOf_79 rfl ?_
                refine Es_iload (hC _) dX6_whyOf_80 rfl ?_
                refine Es_iconst (v := 0) (hC _) dX6_whyOf_82 (by decide) ?_
                refine Es_fV (hC _) mv_X6_149 dX6_whyOf_83 (rT_depthH (mo := 0) hb (TFa_wrel hwr hF) ht h40 (by decide)) rfl rfl ⟨_, rfl, rfl⟩ rfl rfl (by decide) (Nat.le_of_ble_eq_true rfl) ?_
                first | refine Es_aload_n (hC _) dX6_whyOf_86 rfl ?_ | refine Es_aload_nN (hC _) dX6_whyOf_86 rfl ?_
                refine Sg_X6_1 (hC _) fl_X6_13 dX6_whyOf_87 ?_
                first | refine Es_aload_n (hC _) dX6_whyOf_90 rfl ?_ | refine Es_aload_nN (hC _) dX6_whyOf_90 rfl ?_
                refine Sg_X6_9 (hC _) fl_X6_26 dX6_whyOf_91 ?_
                refine Es_iload_n (hC _) dX6_whyOf_94 rfl ?_
                refine Es_ialdN (hC _) dX6_whyOf_95 rfl rfl rfl (by omega) (by decide) ?_
                rw [hr9, hk]
                refine Es_ialdN (hC _) dX6_whyOf_96 rfl rfl rfl (by omega) (by decide) ?_
                rw [hLX k hk5, hl, tDp_wrel hwr]
                refine Es_icmp_ge (hC _) 106 dX6_whyOf_97 (by decide) (fun hb97 => ?_) (fun hb97 => False.elim (hb97 (nI_le (a := l) (b := tDp B L t 0) (by omega) (by omega))))
                first | refine Es_aload_n (hC _) dX6_whyOf_106 rfl ?_ | refine Es_aload_nN (hC _) dX6_whyOf_106 rfl ?_
                refine Sg_X6_9 (hC _) fl_X6_26 dX6_whyOf_107 ?_
                refine Es_iload_n (hC _) dX6_whyOf_110 rfl ?_
                refine Es_ialdN (hC _) dX6_whyOf_111 rfl rfl rfl (by omega) (by decide) ?_
                rw [hr9]
                refine Es_iconst (v := 2) (hC _) dX6_whyOf_112 (by decide) ?_
                refine Es_icmp_ne (hC _) 184 dX6_whyOf_113 (by decide) (fun hb113 => False.elim (hb113 hk2)) (fun hb113 => ?_)
                first | refine Es_aload_n (hC _) dX6_whyOf_116 rfl ?_ | refine Es_aload_nN (hC _) dX6_whyOf_116 rfl ?_
                refine Sg_X6_11 (hC _) fl_X6_32 dX6_whyOf_117 ?_
                refine Es_iload_n (hC _) dX6_whyOf_120 rfl ?_
                refine Es_ialdN (hC _) dX6_whyOf_121 rfl rfl rfl (by omega) (by decide) ?_
                rw [hpr]
                refine Es_if_lt (hC _) 184 dX6_whyOf_122 (by decide) (fun hb122 => ?_) (fun hb122 => False.elim (hb122 (by decide)))
                refine Es_iload (hC _) dX6_whyOf_184 rfl ?_
                refine Es_if_le (hC _) 197 dX6_whyOf_186 (by decide) (fun hb186 => ?_) (fun hb186 => False.elim (hb186 (by decide)))
                refine Es_iinc (lv' := [_, _, _, _, _, _]) (hC _) dX6_whyOf_197 (by decide) rfl (show _ + Int32.ofInt (1) = _ + (1) from rfl) rfl rfl ?_
                refine Es_goto (hC _) 2 dX6_whyOf_200 (by decide) ?_
                refine Es.kill 3 (lv' := [_, _, _, _, _, _]) rfl ?_
                refine Es.kill 4 (lv' := [_, _, _, _, _, _]) rfl ?_
                refine Es.kill 5 (lv' := [_, _, _, _, _, _]) rfl ?_
                rw [nI_1]
                exact ih (i + 1) (wR L1 (tW L1 t)) (by omega) (by omega) (hwr.w _) (by rw [← hg, wh_0 (fl_5 hon (by omega) hk hk5 hl hl1 hs h1 h2)])
              · skip
                refine Es_iload_n (hC _) dX6_whyOf_2 rfl ?_
                first | refine Es_aload_n (hC _) dX6_whyOf_3 rfl ?_ | refine Es_aload_nN (hC _) dX6_whyOf_3 rfl ?_
                refine Sg_X6_8 (hC _) fl_X6_23 dX6_whyOf_4 ?_
                refine Es_iload_n (hC _) dX6_whyOf_7 rfl ?_
                refine Es_ialdN (hC _) dX6_whyOf_8 rfl rfl rfl (by omega) (by decide) ?_
                rw [hp]
                refine Es_icmp_ge (hC _) 203 dX6_whyOf_9 (by decide) (fun hb9 => False.elim (nI_ge (b := p) (a := i) (by omega) (by omega) hb9)) (fun hb9 => ?_)
                refine Es_iload_n (hC _) dX6_whyOf_12 rfl ?_
                refine Es_iload_n (hC _) dX6_whyOf_13 rfl ?_
                refine Es_fS (hC _) ms_X6_97 dX6_whyOf_14 r_spot rfl rfl (by decide) (Nat.le_of_ble_eq_true rfl) ?_
                refine Es_istore_n (lv' := [_, _, _, _, _, _]) (hC _) dX6_whyOf_17 (by decide) rfl rfl ?_
                first | refine Es_aload_n (hC _) dX6_whyOf_18 rfl ?_ | refine Es_aload_nN (hC _) dX6_whyOf_18 rfl ?_
                refine Sg_X6_10 (hC _) fl_X6_29 dX6_whyOf_19 ?_
                refine Es_iload_n (hC _) dX6_whyOf_22 rfl ?_
                refine Es_ialdN (hC _) dX6_whyOf_23 rfl rfl rfl (by omega) (by decide) ?_
                rw [hr10, hon]
                refine Es_istore (lv' := [_, _, _, _, _, _]) (hC _) dX6_whyOf_24 (by decide) rfl rfl ?_
                refine Es_iconst (v := 0) (hC _) dX6_whyOf_26 (by decide) ?_
                refine Es_istore (lv' := [_, _, _, _, _, _]) (hC _) dX6_whyOf_27 (by decide) rfl rfl ?_
                refine Es_iload (hC _) dX6_whyOf_29 rfl ?_
                refine Es_if_ge (hC _) 54 dX6_whyOf_31 (by decide) (fun hb31 => ?_) (fun hb31 => False.elim (hb31 (nI_pos' (by omega))))
                first | refine Es_aload_n (hC _) dX6_whyOf_54 rfl ?_ | refine Es_aload_nN (hC _) dX6_whyOf_54 rfl ?_
                refine Sg_X6_9 (hC _) fl_X6_26 dX6_whyOf_55 ?_
                refine Es_iload_n (hC _) dX6_whyOf_58 rfl ?_
                refine Es_ialdN (hC _) dX6_whyOf_59 rfl rfl rfl (by omega) (by decide) ?_
                rw [hr9]
                refine Es_if_ne (hC _) 79 dX6_whyOf_60 (by decide) (fun hb60 => ?_) (fun hb60 => False.elim (hs0 hb60))
                first | refine Es_aload_n (hC _) dX6_whyOf_79 rfl ?_ | refine Es_aload_nN (hC _) dX6_whyOf_79 rfl ?_
                refine Es_iload (hC _) dX6_whyOf_80 rfl ?_
                refine Es_iconst (v := 0) (hC _) dX6_whyOf_82 (by decide) ?_
                refine Es_fV (hC _) mv_X6_149 dX6_whyOf_83 (rT_depthH (mo := 0) hb (TFa_wrel hwr hF) ht h40 (by decide)) rfl rfl ⟨_, rfl, rfl⟩ rfl rfl (by decide) (Nat.le_of_ble_eq_true rfl) ?_
                first | refine Es_aload_n (hC _) dX6_whyOf_86 rfl ?_ | refine Es_aload_nN (hC _) dX6_whyOf_86 rfl ?_
                refine Sg_X6_1 (hC _) fl_X6_13 dX6_whyOf_87 ?_
                first | refine Es_aload_n (hC _) dX6_whyOf_90 rfl ?_ | refine Es_aload_nN (hC _) dX6_whyOf_90 rfl ?_
                refine Sg_X6_9 (hC _) fl_X6_26 dX6_whyOf_91 ?_
                refine Es_iload_n (hC _) dX6_whyOf_94 rfl ?_
                refine Es_ialdN (hC _) dX6_whyOf_95 rfl rfl rfl (by omega) (by decide) ?_
                rw [hr9, hk]
                refine Es_ialdN (hC _) dX6_whyOf_96 rfl rfl rfl (by omega) (by decide) ?_
                rw [hLX k hk5, hl, tDp_wrel hwr]
                refine Es_icmp_ge (hC _) 106 dX6_whyOf_97 (by decide) (fun hb97 => ?_) (fun hb97 => False.elim (hb97 (nI_le (a := l) (b := tDp B L t 0) (by omega) (by omega))))
                first | refine Es_aload_n (hC _) dX6_whyOf_106 rfl ?_ | refine Es_aload_nN (hC _) dX6_whyOf_106 rfl ?_
                refine Sg_X6_9 (hC _) fl_X6_26 dX6_whyOf_107 ?_
                refine Es_iload_n (hC _) dX6_whyOf_110 rfl ?_
                refine Es_ialdN (hC _) dX6_whyOf_111 rfl rfl rfl (by omega) (by decide) ?_
                rw [hr9]
                refine Es_iconst (v := 2) (hC _) dX6_whyOf_112 (by decide) ?_
                refine Es_icmp_ne (hC _) 184 dX6_whyOf_113 (by decide) (fun hb113 => ?_) (fun hb113 => False.elim (hk2 hb113))
                refine Es_iload (hC _) dX6_whyOf_184 rfl ?_
                refine Es_if_le (hC _) 197 dX6_whyOf_186 (by decide) (fun hb186 => ?_) (fun hb186 => False.elim (hb186 (by decide)))
                refine Es_iinc (lv' := [_, _, _, _, _, _]) (hC _) dX6_whyOf_197 (by decide) rfl (show _ + Int32.ofInt (1) = _ + (1) from rfl) rfl rfl ?_
                refine Es_goto (hC _) 2 dX6_whyOf_200 (by decide) ?_
                refine Es.kill 3 (lv' := [_, _, _, _, _, _]) rfl ?_
                refine Es.kill 4 (lv' := [_, _, _, _, _, _]) rfl ?_
                refine Es.kill 5 (lv' := [_, _, _, _, _, _]) rfl ?_
                rw [nI_1]
                exact ih (i + 1) (wR L1 (tW L1 t)) (by omega) (by omega) (hwr.w _) (by rw [← hg, wh_0 (fl_5 hon (by omega) hk hk5 hl hl1 hs h1 h2)])

set_option maxRecDepth 100000 in
set_option maxHeartbeats 4000000 in
theorem r_whyOfH {ad : sA} {nw nt : Nat} {B Bh : sB} {L L1 : sL} (hb : ∀ k, 25 ≤ k → Bh k = B k) {w p ap : Nat} (h40 : nt ≤ 40) (hw5 : w < 5) (hX : PX nt B w p) (hLX : PLX B) (hF : TFa nt B L) (hXP : PXP B w p) (hTR : PTR nt B) (hap : B 25 0 6 = nI ap) (hap1 : ap ≤ 100) (hwr : wrel L L1) : Cs yX6_whyOf cX6_whyOf 6 (some FieldType.int) 4 [.ref (ad 25 0), .int (nI w)] ad nw nt Bh L1 (fun v B1 L2 => v = some (.int (whyS B L w p ap p 0)) ∧ B1 = Bh ∧ wrel L L2) := by
  have hC : ∀ Q, je_Ok (sCm yX6_whyOf cX6_whyOf 6 (some .int) 4 ad nw nt Q) RX6 cX6_whyOf 6 4 := fun _ => je_Cm_ok
  refine Cs_of [some (.ref (ad 25 0)), some (.int (nI w)), none, none, none, none] (by decide) rfl (Nat.le_of_ble_eq_true rfl) ?_
  refine Es_iconst (v := 0) (hC _) dX6_whyOf_0 (by decide) ?_
  refine Es_istore_n (lv' := [_, _, _, _, _, _]) (hC _) dX6_whyOf_1 (by decide) rfl rfl ?_
  exact l_whyOf hb h40 hw5 hX hLX hF hXP hTR hap hap1 p 0 L1 (by omega) (by omega) hwr rfl
theorem r_whyOf {ad : sA} {nw nt : Nat} {B : sB} {L L1 : sL} {w p ap : Nat} (h40 : nt ≤ 40) (hw5 : w < 5) (hX : PX nt B w p) (hLX : PLX B) (hF : TFa nt B L) (hXP : PXP B w p) (hTR : PTR nt B) (hap : B 25 0 6 = nI ap) (hap1 : ap ≤ 100) (hwr : wrel L L1) : Cs yX6_whyOf cX6_whyOf 6 (some FieldType.int) 4 [.ref (ad 25 0), .int (nI w)] ad nw nt B L1 (fun v B1 L2 => v = some (.int (whyS B L w p ap p 0)) ∧ B1 = B ∧ wrel L L2) := r_whyOfH (fun _ _ => rfl) h40 hw5 hX hLX hF hXP hTR hap hap1 hwr
set_option maxRecDepth 100000 in
set_option maxHeartbeats 4000000 in
theorem c_why_1 {ad : sA} {nw nt : Nat} {B : sB} {L : sL} (hnw : B 0 0 8 = nI nw) (h5 : nw ≤ 5) {y : Int32} (how : out y nw)  : Cf yX5_why cX5_why 3 (some FieldType.int) 5 [.ref (ad 0 0), .int y] ad nw nt B L (some (.int (-1))) (uB B 5 0 1 (B 5 0 1 + 1)) (L) := by
  have hC : ∀ Q, je_Ok (sCm yX5_why cX5_why 3 (some FieldType.int) 5 ad nw nt Q) RX5 cX5_why 3 5 := fun _ => je_Cm_ok
  refine Cs_of [some (.ref (ad 0 0)), some (.int y), none] (by decide) rfl (Nat.le_of_ble_eq_true rfl) ?_
  first | refine Es_aload_n (hC _) dX5_why_0 rfl ?_ | refine Es_aload_nN (hC _) dX5_why_0 rfl ?_
  refine Es_iload_n (hC _) dX5_why_1 rfl ?_
  refine Es_fV (hC _) mv_X5_77 dX5_why_2 (c_wagonAt_out hnw how) rfl rfl ⟨_, rfl, rfl⟩ rfl rfl (by decide) (Nat.le_of_ble_eq_true rfl) ?_
  first | refine Es_astore_n (lv' := [_, _, _]) (hC _) dX5_why_5 (by decide) rfl rfl ?_ | refine Es_astore_nN (lv' := [_, _, _]) (hC _) dX5_why_5 (by decide) rfl rfl ?_
  first | refine Es_aload_n (hC _) dX5_why_6 rfl ?_ | refine Es_aload_nN (hC _) dX5_why_6 rfl ?_
  refine Es_ifnonnullN (hC _) dX5_why_7 ?_
  first | refine Es_aload_n (hC _) dX5_why_10 rfl ?_ | refine Es_aload_nN (hC _) dX5_why_10 rfl ?_
  refine Es_iconst (v := -1) (hC _) dX5_why_11 (by decide) ?_
  refine Es_fV (hC _) mv_X5_70 dX5_why_12 (c_refuse (k := 1) (by decide) (by decide)) rfl rfl ⟨_, rfl, rfl⟩ rfl rfl (by decide) (Nat.le_of_ble_eq_true rfl) ?_
  refine Es_goto (hC _) 30 dX5_why_15 (by decide) ?_
  exact Es_iret dX5_why_30 rfl ⟨rfl, rfl, rfl⟩

set_option maxRecDepth 100000 in
set_option maxHeartbeats 4000000 in
theorem r_why_1 {ad : sA} {nw nt : Nat} {B : sB} {L : sL} (hnw : B 25 0 4 = nI nw) (h5 : nw ≤ 5) {y : Int32} (how : out y nw)  : Cf yX6_why cX6_why 2 (some FieldType.int) 5 [.ref (ad 25 0), .int y] ad nw nt B L (some (.int (-1))) (uB B 30 0 1 (B 30 0 1 + 1)) (L) := by
  have hC : ∀ Q, je_Ok (sCm yX6_why cX6_why 2 (some FieldType.int) 5 ad nw nt Q) RX6 cX6_why 2 5 := fun _ => je_Cm_ok
  refine Cs_of [some (.ref (ad 25 0)), some (.int y)] (by decide) rfl (Nat.le_of_ble_eq_true rfl) ?_
  refine Es_iload_n (hC _) dX6_why_0 rfl ?_
  first | refine Es_aload_n (hC _) dX6_why_1 rfl ?_ | refine Es_aload_nN (hC _) dX6_why_1 rfl ?_
  refine Sg_X6_4 (hC _) fl_X6_86 dX6_why_2 ?_
  rw [hnw]
  refine Es_fS (hC _) ms_X6_89 dX6_why_5 (r_isIn_out how) rfl rfl (by decide) (Nat.le_of_ble_eq_true rfl) ?_
  refine Es_if_eq (hC _) 19 dX6_why_8 (by decide) (fun hb8 => ?_) (fun hb8 => False.elim ((by first | exact absurd hb8 (by decide) | exact absurd hb8 (by assumption) | exact hb8 (by assumption) | exact hb8 rfl | (simp_all [bI]; done))))
  first | refine Es_aload_n (hC _) dX6_why_19 rfl ?_ | refine Es_aload_nN (hC _) dX6_why_19 rfl ?_
  refine Es_iconst (v := -1) (hC _) dX6_why_20 (by decide) ?_
  refine Es_fV (hC _) mv_X6_93 dX6_why_21 (r_refuse (k := 1) (by decide) (by decide)) rfl rfl ⟨_, rfl, rfl⟩ rfl rfl (by decide) (Nat.le_of_ble_eq_true rfl) ?_
  exact Es_iret dX6_why_24 rfl ⟨rfl, rfl, rfl⟩

set_option maxRecDepth 100000 in
set_option maxHeartbeats 4000000 in
theorem c_why_ok {ad : sA} {nw nt : Nat} {B : sB} {L : sL} (hnw : B 0 0 8 = nI nw) (h5 : nw ≤ 5) {w : Nat} (hw : w < nw) {p ap : Nat} (hap : B 0 0 10 = nI ap) (hap1 : ap ≤ 100) (h40 : nt ≤ 40) (hW : PW nt B w p) (hL : PL B) (hF : TFa nt B L) : Cf yX5_why cX5_why 3 (some FieldType.int) 5 [.ref (ad 0 0), .int (nI w)] ad nw nt B L (some (.int (whyS B L w p ap p 0))) (B) (L) := by
  have hC : ∀ Q, je_Ok (sCm yX5_why cX5_why 3 (some FieldType.int) 5 ad nw nt Q) RX5 cX5_why 3 5 := fun _ => je_Cm_ok
  refine Cs_of [some (.ref (ad 0 0)), some (.int (nI w)), none] (by decide) rfl (Nat.le_of_ble_eq_true rfl) ?_
  first | refine Es_aload_n (hC _) dX5_why_0 rfl ?_ | refine Es_aload_nN (hC _) dX5_why_0 rfl ?_
  refine Es_iload_n (hC _) dX5_why_1 rfl ?_
  refine Es_fV (hC _) mv_X5_77 dX5_why_2 (c_wagonAt_in hnw h5 hw) rfl rfl ⟨_, rfl, rfl⟩ rfl rfl (by decide) (Nat.le_of_ble_eq_true rfl) ?_
  first | refine Es_astore_n (lv' := [_, _, _]) (hC _) dX5_why_5 (by decide) rfl rfl ?_ | refine Es_astore_nN (lv' := [_, _, _]) (hC _) dX5_why_5 (by decide) rfl rfl ?_
  first | refine Es_aload_n (hC _) dX5_why_6 rfl ?_ | refine Es_aload_nN (hC _) dX5_why_6 rfl ?_
  refine Es_ifnonnull (hC _) 18 dX5_why_7 (by decide) ?_
  first | refine Es_aload_n (hC _) dX5_why_18 rfl ?_ | refine Es_aload_nN (hC _) dX5_why_18 rfl ?_
  first | refine Es_aload_n (hC _) dX5_why_19 rfl ?_ | refine Es_aload_nN (hC _) dX5_why_19 rfl ?_
  refine Sg_X5_2 (hC _) fl_X5_30 dX5_why_20 ?_
  first | refine Es_aload_n (hC _) dX5_why_23 rfl ?_ | refine Es_aload_nN (hC _) dX5_why_23 rfl ?_
  refine Sg_X5_10 (hC _) fl_X5_63 dX5_why_24 ?_
  rw [hap]
  refine Es_fV (hC _) mv_X5_164 dX5_why_27 (c_whyUnfit hw hW.2.1 hW.1 hap1 h40 hF hL hW) (ok18 hw) rfl ⟨_, rfl, rfl⟩ rfl rfl (by decide) (Nat.le_of_ble_eq_true rfl) ?_
  exact Es_iret dX5_why_30 rfl ⟨rfl, rfl, rfl⟩

set_option maxRecDepth 100000 in
set_option maxHeartbeats 4000000 in
theorem r_why_ok {ad : sA} {nw nt : Nat} {B : sB} {L : sL} (hnw : B 25 0 4 = nI nw) (h5 : nw ≤ 5) {w : Nat} (hw : w < nw) {p ap : Nat} (hap : B 25 0 6 = nI ap) (hap1 : ap ≤ 100) (h40 : nt ≤ 40) (hX : PX nt B w p) (hLX : PLX B) (hF : TFa nt B L) (hXP : PXP B w p) (hTR : PTR nt B) : Cs yX6_why cX6_why 2 (some FieldType.int) 5 [.ref (ad 25 0), .int (nI w)] ad nw nt B L (fun v B1 L2 => v = some (.int (whyS B L w p ap p 0)) ∧ B1 = B ∧ wrel L L2) := by
  have hC : ∀ Q, je_Ok (sCm yX6_why cX6_why 2 (some .int) 5 ad nw nt Q) RX6 cX6_why 2 5 := fun _ => je_Cm_ok
  refine Cs_of [some (.ref (ad 25 0)), some (.int (nI w))] (by decide) rfl (Nat.le_of_ble_eq_true rfl) ?_
  refine Es_iload_n (hC _) dX6_why_0 rfl ?_
  first | refine Es_aload_n (hC _) dX6_why_1 rfl ?_ | refine Es_aload_nN (hC _) dX6_why_1 rfl ?_
  refine Sg_X6_4 (hC _) fl_X6_86 dX6_why_2 ?_
  rw [hnw]
  refine Es_fS (hC _) ms_X6_89 dX6_why_5 (r_isIn_in hw (by omega)) rfl rfl (by decide) (Nat.le_of_ble_eq_true rfl) ?_
  refine Es_if_eq (hC _) 19 dX6_why_8 (by decide) (fun hb8 => False.elim ((by first | exact absurd hb8 (by decide) | exact absurd hb8 (by assumption) | exact hb8 (by assumption) | exact hb8 rfl | (simp_all [bI]; done)))) (fun hb8 => ?_)
  first | refine Es_aload_n (hC _) dX6_why_11 rfl ?_ | refine Es_aload_nN (hC _) dX6_why_11 rfl ?_
  refine Es_iload_n (hC _) dX6_why_12 rfl ?_
  refine Es_callV (hC _) mv_X6_166 dX6_why_13 (r_whyOf h40 (by omega) hX hLX hF hXP hTR hap hap1 wrel.rf) rfl rfl ⟨_, rfl, rfl⟩ rfl rfl (by decide) (Nat.le_of_ble_eq_true rfl) (fun v' B1 L2 q => ?_)
  obtain ⟨rfl, rfl, q⟩ := q
  refine Es_goto (hC _) 24 dX6_why_16 (by decide) ?_
  exact Es_iret dX6_why_24 rfl ⟨rfl, rfl, q⟩
theorem s_why {ad : sA} {nw nt : Nat} {B : sB} {L : sL} (hR : Rel nw nt B L) (y : Int32) : StG yX5_why cX5_why 3 5 yX6_why cX6_why 2 5 (some .int) [.int y] ad nw nt B L := by
  obtain ⟨s1, s2, s3, s4, s5, s6, s7, s8, s9, ⟨ap, s10, s10'⟩⟩ := hR.1
  rcases in_out y (n := nw) (by omega) with ⟨w, hw, rfl⟩ | how
  · obtain ⟨p, hX⟩ := px_of hR hw
    refine StG_of (c_why_ok s2 s3 hw (s9.trans s10') s10 s6 hX.1 (plx_of hR).1 (tfa_of hR)) (r_why_ok s1 s3 hw s10' s10 s6 hX (plx_of hR) (tfa_of hR) (pxp_of hR hw hX) (ptr_of hR)) (fun v'' B2 L2 q => ?_)
    obtain ⟨rfl, rfl, q⟩ := q
    exact ⟨rfl, Rel_wrel q hR⟩
  · exact Stq.gen ⟨_, _, _, _, _, c_why_1 s2 s3 how, r_why_1 (by exact s1) s3 how, Rel_refuse hR⟩
