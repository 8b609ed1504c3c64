/-! ===== wagon ===== -/
set_option maxRecDepth 100000 in
set_option maxHeartbeats 4000000 in
theorem c_wagon_full {ad : sA} {nw nt : Nat} {B : sB} {L : sL} (h8 : B 0 0 8 = nI nw) (h5 : nw = 5) : Cf yX5_wagon cX5_wagon 2 (some FieldType.int) 2 [.ref (ad 0 0)] ad nw nt B L (some (.int (-6))) (uB B 5 0 6 (B 5 0 6 + 1)) (L) := by
  have hC : ∀ Q, je_Ok (sCm yX5_wagon cX5_wagon 2 (some FieldType.int) 2 ad nw nt Q) RX5 cX5_wagon 2 2 := fun _ => je_Cm_ok
  refine Cs_of [some (.ref (ad 0 0)), none] (by decide) rfl (Nat.le_of_ble_eq_true rfl) ?_
  first | refine Es_aload_n (hC _) dX5_wagon_0 rfl ?_ | refine Es_aload_nN (hC _) dX5_wagon_0 rfl ?_
  refine Sg_X5_8 (hC _) fl_X5_67 dX5_wagon_1 ?_
  rw [h8]
  refine Es_if_lt (hC _) 19 dX5_wagon_4 (by decide) (fun hb4 => False.elim (nI_pos (n := nw) (by omega) hb4)) (fun hb4 => ?_)
  first | refine Es_aload_n (hC _) dX5_wagon_7 rfl ?_ | refine Es_aload_nN (hC _) dX5_wagon_7 rfl ?_
  refine Sg_X5_8 (hC _) fl_X5_67 dX5_wagon_8 ?_
  rw [h8]
  first | refine Es_aload_n (hC _) dX5_wagon_11 rfl ?_ | refine Es_aload_nN (hC _) dX5_wagon_11 rfl ?_
  refine Sg_X5_0 (hC _) fl_X5_11 dX5_wagon_12 ?_
  refine Es_alen (hC _) dX5_wagon_15 rfl rfl (by decide) ?_
  refine Es_icmp_lt (hC _) 26 dX5_wagon_16 (by decide) (fun hb16 => False.elim ((by rw [h5] at hb16; exact absurd (show nI 5 < nI 5 from hb16) (by decide)))) (fun hb16 => ?_)
  first | refine Es_aload_n (hC _) dX5_wagon_19 rfl ?_ | refine Es_aload_nN (hC _) dX5_wagon_19 rfl ?_
  refine Es_bipush (v := -6) (hC _) dX5_wagon_20 (by decide) ?_
  refine Es_fV (hC _) mv_X5_70 dX5_wagon_22 (c_refuse (k := 6) (by decide) (by decide)) rfl rfl ⟨_, rfl, rfl⟩ rfl rfl (by decide) (Nat.le_of_ble_eq_true rfl) ?_
  exact Es_iret dX5_wagon_25 rfl ⟨rfl, rfl, rfl⟩

set_option maxRecDepth 100000 in
set_option maxHeartbeats 4000000 in
theorem r_wagon_full {ad : sA} {nw nt : Nat} {B : sB} {L : sL} (h4 : B 25 0 4 = nI 5) : Cf yX6_wagon cX6_wagon 1 (some FieldType.int) 1 [.ref (ad 25 0)] ad nw nt B L (some (.int (-6))) (uB B 30 0 6 (B 30 0 6 + 1)) (L) := by
  have hC : ∀ Q, je_Ok (sCm yX6_wagon cX6_wagon 1 (some FieldType.int) 1 ad nw nt Q) RX6 cX6_wagon 1 1 := fun _ => je_Cm_ok
  refine Cs_of [some (.ref (ad 25 0))] (by decide) rfl (Nat.le_of_ble_eq_true rfl) ?_
  first | refine Es_aload_n (hC _) dX6_wagon_0 rfl ?_ | refine Es_aload_nN (hC _) dX6_wagon_0 rfl ?_
  refine Sg_X6_4 (hC _) fl_X6_86 dX6_wagon_1 ?_
  rw [h4]
  refine Es_iconst (v := 5) (hC _) dX6_wagon_4 (by decide) ?_
  refine Es_icmp_ne (hC _) 15 dX6_wagon_5 (by decide) (fun hb5 => False.elim (hb5 (by decide))) (fun hb5 => ?_)
  first | refine Es_aload_n (hC _) dX6_wagon_8 rfl ?_ | refine Es_aload_nN (hC _) dX6_wagon_8 rfl ?_
  refine Es_bipush (v := -6) (hC _) dX6_wagon_9 (by decide) ?_
  refine Es_fV (hC _) mv_X6_93 dX6_wagon_11 (r_refuse (k := 6) (by decide) (by decide)) rfl rfl ⟨_, rfl, rfl⟩ rfl rfl (by decide) (Nat.le_of_ble_eq_true rfl) ?_
  exact Es_iret dX6_wagon_14 rfl ⟨rfl, rfl, rfl⟩

set_option maxRecDepth 100000 in
set_option maxHeartbeats 4000000 in
theorem r_wagon_yes {ad : sA} {nw nt : Nat} {B : sB} {L : sL} {n : Nat} (h4 : B 25 0 4 = nI n) (h5 : n < 5) : Cf yX6_wagon cX6_wagon 1 (some FieldType.int) 1 [.ref (ad 25 0)] ad nw nt B L (some (.int (nI n))) (uB B 25 0 4 (nI (n + 1))) (L) := by
  have hC : ∀ Q, je_Ok (sCm yX6_wagon cX6_wagon 1 (some FieldType.int) 1 ad nw nt Q) RX6 cX6_wagon 1 1 := fun _ => je_Cm_ok
  refine Cs_of [some (.ref (ad 25 0))] (by decide) rfl (Nat.le_of_ble_eq_true rfl) ?_
  first | refine Es_aload_n (hC _) dX6_wagon_0 rfl ?_ | refine Es_aload_nN (hC _) dX6_wagon_0 rfl ?_
  refine Sg_X6_4 (hC _) fl_X6_86 dX6_wagon_1 ?_
  rw [h4]
  refine Es_iconst (v := 5) (hC _) dX6_wagon_4 (by decide) ?_
  refine Es_icmp_ne (hC _) 15 dX6_wagon_5 (by decide) (fun hb5 => ?_) (fun hb5 => False.elim ((by have := (nI_eq (a := n) (b := 5) (by omega) (by omega)).mp hb5; omega)))
  first | refine Es_aload_n (hC _) dX6_wagon_15 rfl ?_ | refine Es_aload_nN (hC _) dX6_wagon_15 rfl ?_
  refine Es_dup (hC _) dX6_wagon_16 rfl ?_
  refine Sg_X6_4 (hC _) fl_X6_86 dX6_wagon_17 ?_
  rw [h4]
  refine Es_iconst (v := 1) (hC _) dX6_wagon_20 (by decide) ?_
  refine Es_iadd (hC _) dX6_wagon_21 ?_
  rw [nI_1]
  refine Sp_X6_4 (hC _) fl_X6_86 dX6_wagon_22 ?_
  first | refine Es_aload_n (hC _) dX6_wagon_25 rfl ?_ | refine Es_aload_nN (hC _) dX6_wagon_25 rfl ?_
  refine Sg_X6_4 (hC _) fl_X6_86 dX6_wagon_26 ?_
  rw [uB_s]
  refine Es_iconst (v := 1) (hC _) dX6_wagon_29 (by decide) ?_
  refine Es_isub (hC _) dX6_wagon_30 ?_
  exact Es_iret dX6_wagon_31 rfl ⟨by rw [show nI (n + 1) - 1 = nI n by rw [← nI_1]; exact Int32.add_sub_cancel _ _], rfl, rfl⟩

set_option maxRecDepth 100000 in
set_option maxHeartbeats 4000000 in
theorem c_wagon_yes {ad : sA} {nw nt : Nat} {B : sB} {L : sL} {h : je_H} (hs : sH ad nw nt B L h) (h8 : B 0 0 8 = nI nw) (h5 : nw < 5) : Ct yX5_wagon cX5_wagon 2 (some .int) 2 3 18 [.ref (ad 0 0)] h (fun v h1 => v = some (.int (nI nw)) ∧ ∃ ad1 : sA, ad1 0 0 = ad 0 0 ∧ ad1 25 0 = ad 25 0 ∧ sH ad1 (nw + 1) nt (uB (BW B nw) 0 0 8 (nI (nw + 1))) L h1) := by
  refine Ct_of [some (.ref (ad 0 0)), none] (by decide) rfl (Nat.le_of_ble_eq_true rfl) ?_
  have hC : ∀ Q, je_Ok (je_Cm yX5_wagon cX5_wagon 2 (some .int) 2 3 18 Q) RX5 cX5_wagon 2 2 := fun _ => je_Cm_ok
  refine (show Es (je_Cm yX5_wagon cX5_wagon 2 (some .int) 2 3 18 (fun v h1 => v = some (.int (nI nw)) ∧ ∃ ad1 : sA, ad1 0 0 = ad 0 0 ∧ ad1 25 0 = ad 25 0 ∧ sH ad1 (nw + 1) nt (uB (BW B nw) 0 0 8 (nI (nw + 1))) L h1)) 2 0 [some (.ref (ad 0 0)), none] [] ad nw nt B L 3 18 from ?_) h hs
  first | refine Es_aload_n (hC _) dX5_wagon_0 rfl ?_ | refine Es_aload_nN (hC _) dX5_wagon_0 rfl ?_
  refine Sg_X5_8 (hC _) fl_X5_67 dX5_wagon_1 ?_
  rw [h8]
  refine Es_if_lt (hC _) 19 dX5_wagon_4 (by decide) (fun hb4 => False.elim (nI_pos (n := nw) (by omega) hb4)) (fun hb4 => ?_)
  first | refine Es_aload_n (hC _) dX5_wagon_7 rfl ?_ | refine Es_aload_nN (hC _) dX5_wagon_7 rfl ?_
  refine Sg_X5_8 (hC _) fl_X5_67 dX5_wagon_8 ?_
  rw [h8]
  first | refine Es_aload_n (hC _) dX5_wagon_11 rfl ?_ | refine Es_aload_nN (hC _) dX5_wagon_11 rfl ?_
  refine Sg_X5_0 (hC _) fl_X5_11 dX5_wagon_12 ?_
  refine Es_alen (hC _) dX5_wagon_15 rfl rfl (by decide) ?_
  refine Es_icmp_lt (hC _) 26 dX5_wagon_16 (by decide) (fun hb16 => ?_) (fun hb16 => False.elim (hb16 (by rw [show Int32.ofNat 5 = nI 5 from rfl]; exact nI_lt (by omega) (by omega))))
  first | refine Es_aload_n (hC _) dX5_wagon_26 rfl ?_ | refine Es_aload_nN (hC _) dX5_wagon_26 rfl ?_
  refine Sg_X5_8 (hC _) fl_X5_67 dX5_wagon_27 ?_
  rw [h8]
  refine Es_istore_n (lv' := [_, _]) (hC _) dX5_wagon_30 (by decide) rfl rfl ?_
  first | refine Es_aload_n (hC _) dX5_wagon_31 rfl ?_ | refine Es_aload_nN (hC _) dX5_wagon_31 rfl ?_
  refine Sg_X5_0 (hC _) fl_X5_11 dX5_wagon_32 ?_
  refine Es_iload_n (hC _) dX5_wagon_35 rfl ?_

  intro h hs
  refine Eh_new (h0 := h) (l := []) (C := RX3) (T := TX3) (N := 4) (ci := 3) (fs := [.int 0, .null, .null, .int 0]) trivial (hC _) tyX3 tyX3_ok uw_X3 rfl cl_X5_9 in_X3 it_X3 dX5_wagon_36 (by intro j hj; exact (by decide : ∀ j, j < 4 → defaultValue (tyX3 j) = vp_V [.int 0, .null, .null, .int 0] j) j hj) (by decide) (by decide) (fun a hl => ?_)
  refine En_dup (hC _) dX5_wagon_39 rfl ?_
  refine En_iload_n (hC _) dX5_wagon_40 rfl ?_
  refine En_callI (hC _) mi_X5_74 dX5_wagon_41 (i_X3 (h0 := h) (n := nI nw) hl) rfl rfl (by decide) (Nat.le_of_ble_eq_true rfl) (by decide) (by decide) (fun v9 h9 q9 => ?_)
  obtain ⟨rfl, q1, q2, rfl, hl⟩ := q9
  refine En_aast (t := 2) (hC _) (Or.inr rfl) dX5_wagon_44 (hp_base hl (hs.1 1 0 rfl)) (hp_get hl (k := 2) rfl) (vp_in_nI h5 (by decide)) ?_
  refine (show Es (je_Cm yX5_wagon cX5_wagon 2 (some .int) 2 3 18 (fun v h1 => v = some (.int (nI nw)) ∧ ∃ ad1 : sA, ad1 0 0 = ad 0 0 ∧ ad1 25 0 = ad 25 0 ∧ sH ad1 (nw + 1) nt (uB (BW B nw) 0 0 8 (nI (nw + 1))) L h1)) 2 45 [some (.ref (adW ad nw a q1 q2 0 0)), some (.int (nI nw))] [] (adW ad nw a q1 q2) (nw + 1) nt (BW B nw) L _ _ from ?_) _ (sH_W hs h5 hl)
  first | refine Es_aload_n (hC _) dX5_wagon_45 rfl ?_ | refine Es_aload_nN (hC _) dX5_wagon_45 rfl ?_
  refine Es_iload_n (hC _) dX5_wagon_46 rfl ?_
  refine Es_iconst (v := 1) (hC _) dX5_wagon_47 (by decide) ?_
  refine Es_iadd (hC _) dX5_wagon_48 ?_
  rw [nI_1]
  refine Sp_X5_8 (hC _) fl_X5_67 dX5_wagon_49 ?_
  refine Es_iload_n (hC _) dX5_wagon_52 rfl ?_
  exact fun h2 hs2 => En_iret dX5_wagon_53 rfl ⟨rfl, adW ad nw a q1 q2, rfl, rfl, hs2⟩
/-- a wagon more, in both -/
theorem Rel_W {nw nt : Nat} {B : sB} {L : sL} (hR : Rel nw nt B L) (h5 : nw < 5) : Rel (nw + 1) nt (uB (uB (BW B nw) 0 0 8 (nI (nw + 1))) 25 0 4 (nI (nw + 1))) L := by
  obtain ⟨⟨s1, s2, s3, s4, s5, s6, s7, s8, s9, s10⟩, hP, hW, hT, hG, hL⟩ := hR
  unfold Rel
  simp only [uB_2, u2_a, uB_k, ne_eq, Nat.reduceEqDiff, not_false_eq_true]
  refine ⟨⟨upd_s _ _ _, upd_s _ _ _, by omega, ?_, ?_, s6, ?_, ?_, ?_, ?_⟩, hP, ?_, ?_, ?_, hL⟩
  · rw [upd_n (by decide)]; exact s4
  · rw [upd_n (by decide)]; exact s5
  · rw [upd_n (by decide), upd_n (by decide)]; exact s7
  · rw [upd_n (by decide)]; exact s8
  · rw [upd_n (by decide), upd_n (by decide)]; exact s9
  · rw [upd_n (by decide)]; exact s10
  · refine ⟨fun w' hw' => ?_, fun w' h1 h2 => hW.2 w' (by omega) h2⟩
    by_cases he : w' = nw
    · subst he
      refine ⟨0, by omega, ?_, ?_, hW.2 w' (Nat.le_refl _) h5, fun q hq => by omega, fun q _ _ => ?_⟩
      · show (if w' = w' then (fun i => if i = 0 then nI w' else 0) else B 18 w') 0 = nI w'
        rw [if_pos rfl]
        exact if_pos rfl
      · show (if w' = w' then (fun i => if i = 0 then nI w' else 0) else B 18 w') 3 = nI 0
        rw [if_pos rfl]
        exact if_neg (by decide)
      · show (if w' = w' then (fun _ => (-1 : Int32)) else B 20 w') q = -1
        rw [if_pos rfl]
    · obtain ⟨p', h1⟩ := hW.1 w' (by omega)
      refine ⟨p', ?_⟩
      show RelW1 nt w' p' (if w' = nw then (fun i => if i = 0 then nI nw else 0) else B 18 w') (if w' = nw then (fun _ => 0) else B 19 w') (if w' = nw then (fun _ => -1) else B 20 w') _ _ _ _ _
      rw [if_neg he, if_neg he, if_neg he]
      exact h1
  · rw [upd_n (by decide)]
    exact hT
  · unfold RelG at hG ⊢
    obtain ⟨k, g0, g1, g2, g3⟩ := hG
    exact ⟨k, g0, g1, by rw [upd_n (by decide)]; exact g2, g3⟩
