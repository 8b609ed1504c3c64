/-! ===== days: the class ===== -/
/-- the next tyre that is back: the least day, then the least number -/
def nb (B : sB) (u : Int32) : Nat → Option Nat
  | 0 => none
  | i + 1 => match nb B u i with
    | none => if B 21 i 10 = -2 ∧ B 21 i 11 ≤ u then some i else none
    | some s => if B 21 i 10 = -2 ∧ B 21 i 11 ≤ u ∧ B 21 i 11 < B 21 s 11 then some i else some s
theorem nb_lt {B : sB} {u : Int32} : ∀ i s, nb B u i = some s → s < i
  | 0, s, h => by simp [nb] at h
  | i + 1, s, h => by
    simp only [nb] at h
    cases hh : nb B u i with
    | none =>
      rw [hh] at h
      simp only at h
      split at h
      · cases h
        omega
      · cases h
    | some s' =>
      have := nb_lt i s' hh
      rw [hh] at h
      simp only at h
      split at h
      · cases h
        omega
      · cases h
        omega
theorem nb_n {B : sB} {u : Int32} {i : Nat} (h : ¬ (B 21 i 10 = -2 ∧ B 21 i 11 ≤ u)) : nb B u (i + 1) = nb B u i := by
  simp only [nb]
  cases hh : nb B u i with
  | none => simp only; rw [if_neg h]
  | some s => simp only; rw [if_neg (fun z => h ⟨z.1, z.2.1⟩)]
theorem nb_0 {B : sB} {u : Int32} {i : Nat} (h : B 21 i 10 = -2 ∧ B 21 i 11 ≤ u) (hh : nb B u i = none) : nb B u (i + 1) = some i := by
  simp only [nb]
  rw [hh]
  simp only
  rw [if_pos h]
theorem nb_1 {B : sB} {u : Int32} {i s : Nat} (h : B 21 i 10 = -2 ∧ B 21 i 11 ≤ u) (hh : nb B u i = some s) (hl : B 21 i 11 < B 21 s 11) : nb B u (i + 1) = some i := by
  simp only [nb]
  rw [hh]
  simp only
  rw [if_pos ⟨h.1, h.2, hl⟩]
theorem nb_2 {B : sB} {u : Int32} {i s : Nat} (hh : nb B u i = some s) (hl : ¬ B 21 i 11 < B 21 s 11) : nb B u (i + 1) = some s := by
  simp only [nb]
  rw [hh]
  simp only
  rw [if_neg (fun z => hl z.2.2)]
def vN (ad : sA) : Option Nat → Value
  | none => .null
  | some s => .ref (ad 21 s)
set_option maxRecDepth 100000 in
set_option maxHeartbeats 4000000 in
theorem l_nb {ad : sA} {nw nt : Nat} {B : sB} {L : sL} {bc bs : Nat} {u : Int32} (hnt : B 0 0 9 = nI nt) (h40 : nt ≤ 40) : ∀ (n i : Nat), i + n = 40 → Es (sCm yX5_nextBack cX5_nextBack 5 (some (.object "TyreBook$Tyre")) 2 ad nw nt (fun v B1 L1 => v = some (vN ad (nb B u nt)) ∧ B1 = B ∧ L1 = L)) 5 4 [some (.ref (ad 0 0)), some (.int u), some (vN ad (nb B u (min i nt))), some (.int (nI i)), none] [] ad nw nt B L bc bs := by
  have hC : ∀ Q, je_Ok (sCm yX5_nextBack cX5_nextBack 5 (some (.object "TyreBook$Tyre")) 2 ad nw nt Q) RX5 cX5_nextBack 5 2 := fun _ => je_Cm_ok
  intro n
  induction n with
  | zero =>
    intro i hn
    have hik : i = 40 := by omega
    subst hik
    rw [show min 40 nt = nt by omega]
    cases hh : nb B u nt with
    | none =>
      show Es _ _ _ [_, _, some .null, _, _] _ _ _ _ _ _ _ _
      refine Es_iload_n (hC _) dX5_nextBack_4 rfl ?_
      refine Es_bipush (v := 40) (hC _) dX5_nextBack_5 (by decide) ?_
      refine Es_icmp_ge (hC _) 66 dX5_nextBack_7 (by decide) (fun hb7 => ?_) (fun hb7 => False.elim (hb7 (by decide)))
      refine Es_aload_nN (hC _) dX5_nextBack_66 rfl ?_
      exact Es_aret dX5_nextBack_67 (Or.inl rfl) ⟨rfl, rfl, rfl⟩
    | some s =>
      show Es _ _ _ [_, _, some (.ref (ad 21 s)), _, _] _ _ _ _ _ _ _ _
      refine Es_iload_n (hC _) dX5_nextBack_4 rfl ?_
      refine Es_bipush (v := 40) (hC _) dX5_nextBack_5 (by decide) ?_
      refine Es_icmp_ge (hC _) 66 dX5_nextBack_7 (by decide) (fun hb7 => ?_) (fun hb7 => False.elim (hb7 (by decide)))
      refine Es_aload_n (hC _) dX5_nextBack_66 rfl ?_
      exact Es_aret dX5_nextBack_67 (Or.inr ⟨_, rfl⟩) ⟨rfl, rfl, rfl⟩
  | succ n ih =>
    intro i hn
    have hkk := ih (i + 1) (by omega)
    by_cases ht : i < nt
    · rw [show min i nt = i by omega]
      rw [show min (i + 1) nt = i + 1 by omega] at hkk
      by_cases hc : B 21 i 10 = -2 ∧ B 21 i 11 ≤ u
      · cases hh : nb B u i with
        | none =>
          rw [nb_0 hc hh] at hkk
          show Es _ _ _ [_, _, some .null, _, _] _ _ _ _ _ _ _ _
          refine Es_iload_n (hC _) dX5_nextBack_4 rfl ?_
          refine Es_bipush (v := 40) (hC _) dX5_nextBack_5 (by decide) ?_
          refine Es_icmp_ge (hC _) 66 dX5_nextBack_7 (by decide) (fun hb7 => False.elim (nI_ge (b := 40) (a := i) (by omega) (by decide) hb7)) (fun hb7 => ?_)
          first | refine Es_aload_n (hC _) dX5_nextBack_10 rfl ?_ | refine Es_aload_nN (hC _) dX5_nextBack_10 rfl ?_
          refine Es_iload_n (hC _) dX5_nextBack_11 rfl ?_
          refine Es_fV (hC _) mv_X5_132 dX5_nextBack_12 (c_tyreAt_in hnt h40 ht) rfl rfl ⟨_, rfl, rfl⟩ rfl rfl (by decide) (Nat.le_of_ble_eq_true rfl) ?_
          first | refine Es_astore (lv' := [_, _, _, _, _]) (hC _) dX5_nextBack_15 (by decide) rfl rfl ?_ | refine Es_astoreN (lv' := [_, _, _, _, _]) (hC _) dX5_nextBack_15 (by decide) rfl rfl ?_
          first | refine Es_aload (hC _) dX5_nextBack_17 rfl ?_ | refine Es_aloadN (hC _) dX5_nextBack_17 rfl ?_
          refine Es_ifnull (hC _) dX5_nextBack_19 ?_
          first | refine Es_aload (hC _) dX5_nextBack_22 rfl ?_ | refine Es_aloadN (hC _) dX5_nextBack_22 rfl ?_
          refine Sg_X2_10 (hC _) fl_X5_139 dX5_nextBack_24 ht ?_
          refine Es_bipush (v := -2) (hC _) dX5_nextBack_27 (by decide) ?_
          refine Es_icmp_ne (hC _) 60 dX5_nextBack_29 (by decide) (fun hb29 => False.elim (hb29 hc.1)) (fun hb29 => ?_)
          first | refine Es_aload (hC _) dX5_nextBack_32 rfl ?_ | refine Es_aloadN (hC _) dX5_nextBack_32 rfl ?_
          refine Sg_X2_11 (hC _) fl_X5_216 dX5_nextBack_34 ht ?_
          refine Es_iload_n (hC _) dX5_nextBack_37 rfl ?_
          refine Es_icmp_gt (hC _) 60 dX5_nextBack_38 (by decide) (fun hb38 => False.elim (Int32.not_lt.mpr hc.2 hb38)) (fun hb38 => ?_)
          first | refine Es_aload_n (hC _) dX5_nextBack_41 rfl ?_ | refine Es_aload_nN (hC _) dX5_nextBack_41 rfl ?_
          refine Es_ifnullN (hC _) 57 dX5_nextBack_42 (by decide) ?_
          first | refine Es_aload (hC _) dX5_nextBack_57 rfl ?_ | refine Es_aloadN (hC _) dX5_nextBack_57 rfl ?_
          first | refine Es_astore_n (lv' := [_, _, _, _, _]) (hC _) dX5_nextBack_59 (by decide) rfl rfl ?_ | refine Es_astore_nN (lv' := [_, _, _, _, _]) (hC _) dX5_nextBack_59 (by decide) rfl rfl ?_
          refine Es_iinc (lv' := [_, _, _, _, _]) (hC _) dX5_nextBack_60 (by decide) rfl (show _ + Int32.ofInt (1) = _ + (1) from rfl) rfl rfl ?_
          refine Es_goto (hC _) 4 dX5_nextBack_63 (by decide) ?_
          refine Es.kill 4 (lv' := [_, _, _, _, _]) rfl ?_
          rw [nI_1]
          exact hkk
        | some s =>
          have hs : s < nt := by
            have := nb_lt i s hh
            omega
          by_cases hl : B 21 i 11 < B 21 s 11
          · rw [nb_1 hc hh hl] at hkk
            show Es _ _ _ [_, _, some (.ref (ad 21 s)), _, _] _ _ _ _ _ _ _ _
            refine Es_iload_n (hC _) dX5_nextBack_4 rfl ?_
            refine Es_bipush (v := 40) (hC _) dX5_nextBack_5 (by decide) ?_
            refine Es_icmp_ge (hC _) 66 dX5_nextBack_7 (by decide) (fun hb7 => False.elim (nI_ge (b := 40) (a := i) (by omega) (by decide) hb7)) (fun hb7 => ?_)
            first | refine Es_aload_n (hC _) dX5_nextBack_10 rfl ?_ | refine Es_aload_nN (hC _) dX5_nextBack_10 rfl ?_
            refine Es_iload_n (hC _) dX5_nextBack_11 rfl ?_
            refine Es_fV (hC _) mv_X5_132 dX5_nextBack_12 (c_tyreAt_in hnt h40 ht) rfl rfl ⟨_, rfl, rfl⟩ rfl rfl (by decide) (Nat.le_of_ble_eq_true rfl) ?_
            first | refine Es_astore (lv' := [_, _, _, _, _]) (hC _) dX5_nextBack_15 (by decide) rfl rfl ?_ | refine Es_astoreN (lv' := [_, _, _, _, _]) (hC _) dX5_nextBack_15 (by decide) rfl rfl ?_
            first | refine Es_aload (hC _) dX5_nextBack_17 rfl ?_ | refine Es_aloadN (hC _) dX5_nextBack_17 rfl ?_
            refine Es_ifnull (hC _) dX5_nextBack_19 ?_
            first | refine Es_aload (hC _) dX5_nextBack_22 rfl ?_ | refine Es_aloadN (hC _) dX5_nextBack_22 rfl ?_
            refine Sg_X2_10 (hC _) fl_X5_139 dX5_nextBack_24 ht ?_
            refine Es_bipush (v := -2) (hC _) dX5_nextBack_27 (by decide) ?_
            refine Es_icmp_ne (hC _) 60 dX5_nextBack_29 (by decide) (fun hb29 => False.elim (hb29 hc.1)) (fun hb29 => ?_)
            first | refine Es_aload (hC _) dX5_nextBack_32 rfl ?_ | refine Es_aloadN (hC _) dX5_nextBack_32 rfl ?_
            refine Sg_X2_11 (hC _) fl_X5_216 dX5_nextBack_34 ht ?_
            refine Es_iload_n (hC _) dX5_nextBack_37 rfl ?_
            refine Es_icmp_gt (hC _) 60 dX5_nextBack_38 (by decide) (fun hb38 => False.elim (Int32.not_lt.mpr hc.2 hb38)) (fun hb38 => ?_)
            first | refine Es_aload_n (hC _) dX5_nextBack_41 rfl ?_ | refine Es_aload_nN (hC _) dX5_nextBack_41 rfl ?_
            refine Es_ifnull (hC _) dX5_nextBack_42 ?_
            first | refine Es_aload (hC _) dX5_nextBack_45 rfl ?_ | refine Es_aloadN (hC _) dX5_nextBack_45 rfl ?_
            refine Sg_X2_11 (hC _) fl_X5_216 dX5_nextBack_47 ht ?_
            first | refine Es_aload_n (hC _) dX5_nextBack_50 rfl ?_ | refine Es_aload_nN (hC _) dX5_nextBack_50 rfl ?_
            refine Sg_X2_11 (hC _) fl_X5_216 dX5_nextBack_51 hs ?_
            refine Es_icmp_ge (hC _) 60 dX5_nextBack_54 (by decide) (fun hb54 => False.elim (Int32.not_lt.mpr hb54 hl)) (fun hb54 => ?_)
            first | refine Es_aload (hC _) dX5_nextBack_57 rfl ?_ | refine Es_aloadN (hC _) dX5_nextBack_57 rfl ?_
            first | refine Es_astore_n (lv' := [_, _, _, _, _]) (hC _) dX5_nextBack_59 (by decide) rfl rfl ?_ | refine Es_astore_nN (lv' := [_, _, _, _, _]) (hC _) dX5_nextBack_59 (by decide) rfl rfl ?_
            refine Es_iinc (lv' := [_, _, _, _, _]) (hC _) dX5_nextBack_60 (by decide) rfl (show _ + Int32.ofInt (1) = _ + (1) from rfl) rfl rfl ?_
            refine Es_goto (hC _) 4 dX5_nextBack_63 (by decide) ?_
            refine Es.kill 4 (lv' := [_, _, _, _, _]) rfl ?_
            rw [nI_1]
            exact hkk
          · rw [nb_2 hh hl] at hkk
            show Es _ _ _ [_, _, some (.ref (ad 21 s)), _, _] _ _ _ _ _ _ _ _
            refine Es_iload_n (hC _) dX5_nextBack_4 rfl ?_
            refine Es_bipush (v := 40) (hC _) dX5_nextBack_5 (by decide) ?_
            refine Es_icmp_ge (hC _) 66 dX5_nextBack_7 (by decide) (fun hb7 => False.elim (nI_ge (b := 40) (a := i) (by omega) (by decide) hb7)) (fun hb7 => ?_)
            first | refine Es_aload_n (hC _) dX5_nextBack_10 rfl ?_ | refine Es_aload_nN (hC _) dX5_nextBack_10 rfl ?_
            refine Es_iload_n (hC _) dX5_nextBack_11 rfl ?_
            refine Es_fV (hC _) mv_X5_132 dX5_nextBack_12 (c_tyreAt_in hnt h40 ht) rfl rfl ⟨_, rfl, rfl⟩ rfl rfl (by decide) (Nat.le_of_ble_eq_true rfl) ?_
            first | refine Es_astore (lv' := [_, _, _, _, _]) (hC _) dX5_nextBack_15 (by decide) rfl rfl ?_ | refine Es_astoreN (lv' := [_, _, _, _, _]) (hC _) dX5_nextBack_15 (by decide) rfl rfl ?_
            first | refine Es_aload (hC _) dX5_nextBack_17 rfl ?_ | refine Es_aloadN (hC _) dX5_nextBack_17 rfl ?_
            refine Es_ifnull (hC _) dX5_nextBack_19 ?_
            first | refine Es_aload (hC _) dX5_nextBack_22 rfl ?_ | refine Es_aloadN (hC _) dX5_nextBack_22 rfl ?_
            refine Sg_X2_10 (hC _) fl_X5_139 dX5_nextBack_24 ht ?_
            refine Es_bipush (v := -2) (hC _) dX5_nextBack_27 (by decide) ?_
            refine Es_icmp_ne (hC _) 60 dX5_nextBack_29 (by decide) (fun hb29 => False.elim (hb29 hc.1)) (fun hb29 => ?_)
            first | refine Es_aload (hC _) dX5_nextBack_32 rfl ?_ | refine Es_aloadN (hC _) dX5_nextBack_32 rfl ?_
            refine Sg_X2_11 (hC _) fl_X5_216 dX5_nextBack_34 ht ?_
            refine Es_iload_n (hC _) dX5_nextBack_37 rfl ?_
            refine Es_icmp_gt (hC _) 60 dX5_nextBack_38 (by decide) (fun hb38 => False.elim (Int32.not_lt.mpr hc.2 hb38)) (fun hb38 => ?_)
            first | refine Es_aload_n (hC _) dX5_nextBack_41 rfl ?_ | refine Es_aload_nN (hC _) dX5_nextBack_41 rfl ?_
            refine Es_ifnull (hC _) dX5_nextBack_42 ?_
            first | refine Es_aload (hC _) dX5_nextBack_45 rfl ?_ | refine Es_aloadN (hC _) dX5_nextBack_45 rfl ?_
            refine Sg_X2_11 (hC _) fl_X5_216 dX5_nextBack_47 ht ?_
            first | refine Es_aload_n (hC _) dX5_nextBack_50 rfl ?_ | refine Es_aload_nN (hC _) dX5_nextBack_50 rfl ?_
            refine Sg_X2_11 (hC _) fl_X5_216 dX5_nextBack_51 hs ?_
            refine Es_icmp_ge (hC _) 60 dX5_nextBack_54 (by decide) (fun hb54 => ?_) (fun hb54 => False.elim (hb54 (Int32.not_lt.mp hl)))
            refine Es_iinc (lv' := [_, _, _, _, _]) (hC _) dX5_nextBack_60 (by decide) rfl (show _ + Int32.ofInt (1) = _ + (1) from rfl) rfl rfl ?_
            refine Es_goto (hC _) 4 dX5_nextBack_63 (by decide) ?_
            refine Es.kill 4 (lv' := [_, _, _, _, _]) rfl ?_
            rw [nI_1]
            exact hkk
      · rw [nb_n hc] at hkk
        cases hh : nb B u i with
        | none =>
          rw [hh] at hkk
          show Es _ _ _ [_, _, some .null, _, _] _ _ _ _ _ _ _ _
          by_cases h1 : B 21 i 10 = -2
          · skip
            refine Es_iload_n (hC _) dX5_nextBack_4 rfl ?_
            refine Es_bipush (v := 40) (hC _) dX5_nextBack_5 (by decide) ?_
            refine Es_icmp_ge (hC _) 66 dX5_nextBack_7 (by decide) (fun hb7 => False.elim (nI_ge (b := 40) (a := i) (by omega) (by decide) hb7)) (fun hb7 => ?_)
            first | refine Es_aload_n (hC _) dX5_nextBack_10 rfl ?_ | refine Es_aload_nN (hC _) dX5_nextBack_10 rfl ?_
            refine Es_iload_n (hC _) dX5_nextBack_11 rfl ?_
            refine Es_fV (hC _) mv_X5_132 dX5_nextBack_12 (c_tyreAt_in hnt h40 ht) rfl rfl ⟨_, rfl, rfl⟩ rfl rfl (by decide) (Nat.le_of_ble_eq_true rfl) ?_
            first | refine Es_astore (lv' := [_, _, _, _, _]) (hC _) dX5_nextBack_15 (by decide) rfl rfl ?_ | refine Es_astoreN (lv' := [_, _, _, _, _]) (hC _) dX5_nextBack_15 (by decide) rfl rfl ?_
            first | refine Es_aload (hC _) dX5_nextBack_17 rfl ?_ | refine Es_aloadN (hC _) dX5_nextBack_17 rfl ?_
            refine Es_ifnull (hC _) dX5_nextBack_19 ?_
            first | refine Es_aload (hC _) dX5_nextBack_22 rfl ?_ | refine Es_aloadN (hC _) dX5_nextBack_22 rfl ?_
            refine Sg_X2_10 (hC _) fl_X5_139 dX5_nextBack_24 ht ?_
            refine Es_bipush (v := -2) (hC _) dX5_nextBack_27 (by decide) ?_
            refine Es_icmp_ne (hC _) 60 dX5_nextBack_29 (by decide) (fun hb29 => False.elim (hb29 h1)) (fun hb29 => ?_)
            first | refine Es_aload (hC _) dX5_nextBack_32 rfl ?_ | refine Es_aloadN (hC _) dX5_nextBack_32 rfl ?_
            refine Sg_X2_11 (hC _) fl_X5_216 dX5_nextBack_34 ht ?_
            refine Es_iload_n (hC _) dX5_nextBack_37 rfl ?_
            refine Es_icmp_gt (hC _) 60 dX5_nextBack_38 (by decide) (fun hb38 => ?_) (fun hb38 => False.elim (hc ⟨h1, Int32.not_lt.mp hb38⟩))
            refine Es_iinc (lv' := [_, _, _, _, _]) (hC _) dX5_nextBack_60 (by decide) rfl (show _ + Int32.ofInt (1) = _ + (1) from rfl) rfl rfl ?_
            refine Es_goto (hC _) 4 dX5_nextBack_63 (by decide) ?_
            refine Es.kill 4 (lv' := [_, _, _, _, _]) rfl ?_
            rw [nI_1]
            exact hkk
          · skip
            refine Es_iload_n (hC _) dX5_nextBack_4 rfl ?_
            refine Es_bipush (v := 40) (hC _) dX5_nextBack_5 (by decide) ?_
            refine Es_icmp_ge (hC _) 66 dX5_nextBack_7 (by decide) (fun hb7 => False.elim (nI_ge (b := 40) (a := i) (by omega) (by decide) hb7)) (fun hb7 => ?_)
            first | refine Es_aload_n (hC _) dX5_nextBack_10 rfl ?_ | refine Es_aload_nN (hC _) dX5_nextBack_10 rfl ?_
            refine Es_iload_n (hC _) dX5_nextBack_11 rfl ?_
            refine Es_fV (hC _) mv_X5_132 dX5_nextBack_12 (c_tyreAt_in hnt h40 ht) rfl rfl ⟨_, rfl, rfl⟩ rfl rfl (by decide) (Nat.le_of_ble_eq_true rfl) ?_
            first | refine Es_astore (lv' := [_, _, _, _, _]) (hC _) dX5_nextBack_15 (by decide) rfl rfl ?_ | refine Es_astoreN (lv' := [_, _, _, _, _]) (hC _) dX5_nextBack_15 (by decide) rfl rfl ?_
            first | refine Es_aload (hC _) dX5_nextBack_17 rfl ?_ | refine Es_aloadN (hC _) dX5_nextBack_17 rfl ?_
            refine Es_ifnull (hC _) dX5_nextBack_19 ?_
            first | refine Es_aload (hC _) dX5_nextBack_22 rfl ?_ | refine Es_aloadN (hC _) dX5_nextBack_22 rfl ?_
            refine Sg_X2_10 (hC _) fl_X5_139 dX5_nextBack_24 ht ?_
            refine Es_bipush (v := -2) (hC _) dX5_nextBack_27 (by decide) ?_
            refine Es_icmp_ne (hC _) 60 dX5_nextBack_29 (by decide) (fun hb29 => ?_) (fun hb29 => False.elim (h1 hb29))
            refine Es_iinc (lv' := [_, _, _, _, _]) (hC _) dX5_nextBack_60 (by decide) rfl (show _ + Int32.ofInt (1) = _ + (1) from rfl) rfl rfl ?_
            refine Es_goto (hC _) 4 dX5_nextBack_63 (by decide) ?_
            refine Es.kill 4 (lv' := [_, _, _, _, _]) rfl ?_
            rw [nI_1]
            exact hkk
        | some s =>
          rw [hh] at hkk
          show Es _ _ _ [_, _, some (.ref (ad 21 s)), _, _] _ _ _ _ _ _ _ _
          by_cases h1 : B 21 i 10 = -2
          · skip
            refine Es_iload_n (hC _) dX5_nextBack_4 rfl ?_
            refine Es_bipush (v := 40) (hC _) dX5_nextBack_5 (by decide) ?_
            refine Es_icmp_ge (hC _) 66 dX5_nextBack_7 (by decide) (fun hb7 => False.elim (nI_ge (b := 40) (a := i) (by omega) (by decide) hb7)) (fun hb7 => ?_)
            first | refine Es_aload_n (hC _) dX5_nextBack_10 rfl ?_ | refine Es_aload_nN (hC _) dX5_nextBack_10 rfl ?_
            refine Es_iload_n (hC _) dX5_nextBack_11 rfl ?_
            refine Es_fV (hC _) mv_X5_132 dX5_nextBack_12 (c_tyreAt_in hnt h40 ht) rfl rfl ⟨_, rfl, rfl⟩ rfl rfl (by decide) (Nat.le_of_ble_eq_true rfl) ?_
            first | refine Es_astore (lv' := [_, _, _, _, _]) (hC _) dX5_nextBack_15 (by decide) rfl rfl ?_ | refine Es_astoreN (lv' := [_, _, _, _, _]) (hC _) dX5_nextBack_15 (by decide) rfl rfl ?_
            first | refine Es_aload (hC _) dX5_nextBack_17 rfl ?_ | refine Es_aloadN (hC _) dX5_nextBack_17 rfl ?_
            refine Es_ifnull (hC _) dX5_nextBack_19 ?_
            first | refine Es_aload (hC _) dX5_nextBack_22 rfl ?_ | refine Es_aloadN (hC _) dX5_nextBack_22 rfl ?_
            refine Sg_X2_10 (hC _) fl_X5_139 dX5_nextBack_24 ht ?_
            refine Es_bipush (v := -2) (hC _) dX5_nextBack_27 (by decide) ?_
            refine Es_icmp_ne (hC _) 60 dX5_nextBack_29 (by decide) (fun hb29 => False.elim (hb29 h1)) (fun hb29 => ?_)
            first | refine Es_aload (hC _) dX5_nextBack_32 rfl ?_ | refine Es_aloadN (hC _) dX5_nextBack_32 rfl ?_
            refine Sg_X2_11 (hC _) fl_X5_216 dX5_nextBack_34 ht ?_
            refine Es_iload_n (hC _) dX5_nextBack_37 rfl ?_
            refine Es_icmp_gt (hC _) 60 dX5_nextBack_38 (by decide) (fun hb38 => ?_) (fun hb38 => False.elim (hc ⟨h1, Int32.not_lt.mp hb38⟩))
            refine Es_iinc (lv' := [_, _, _, _, _]) (hC _) dX5_nextBack_60 (by decide) rfl (show _ + Int32.ofInt (1) = _ + (1) from rfl) rfl rfl ?_
            refine Es_goto (hC _) 4 dX5_nextBack_63 (by decide) ?_
            refine Es.kill 4 (lv' := [_, _, _, _, _]) rfl ?_
            rw [nI_1]
            exact hkk
          · skip
            refine Es_iload_n (hC _) dX5_nextBack_4 rfl ?_
            refine Es_bipush (v := 40) (hC _) dX5_nextBack_5 (by decide) ?_
            refine Es_icmp_ge (hC _) 66 dX5_nextBack_7 (by decide) (fun hb7 => False.elim (nI_ge (b := 40) (a := i) (by omega) (by decide) hb7)) (fun hb7 => ?_)
            first | refine Es_aload_n (hC _) dX5_nextBack_10 rfl ?_ | refine Es_aload_nN (hC _) dX5_nextBack_10 rfl ?_
            refine Es_iload_n (hC _) dX5_nextBack_11 rfl ?_
            refine Es_fV (hC _) mv_X5_132 dX5_nextBack_12 (c_tyreAt_in hnt h40 ht) rfl rfl ⟨_, rfl, rfl⟩ rfl rfl (by decide) (Nat.le_of_ble_eq_true rfl) ?_
            first | refine Es_astore (lv' := [_, _, _, _, _]) (hC _) dX5_nextBack_15 (by decide) rfl rfl ?_ | refine Es_astoreN (lv' := [_, _, _, _, _]) (hC _) dX5_nextBack_15 (by decide) rfl rfl ?_
            first | refine Es_aload (hC _) dX5_nextBack_17 rfl ?_ | refine Es_aloadN (hC _) dX5_nextBack_17 rfl ?_
            refine Es_ifnull (hC _) dX5_nextBack_19 ?_
            first | refine Es_aload (hC _) dX5_nextBack_22 rfl ?_ | refine Es_aloadN (hC _) dX5_nextBack_22 rfl ?_
            refine Sg_X2_10 (hC _) fl_X5_139 dX5_nextBack_24 ht ?_
            refine Es_bipush (v := -2) (hC _) dX5_nextBack_27 (by decide) ?_
            refine Es_icmp_ne (hC _) 60 dX5_nextBack_29 (by decide) (fun hb29 => ?_) (fun hb29 => False.elim (h1 hb29))
            refine Es_iinc (lv' := [_, _, _, _, _]) (hC _) dX5_nextBack_60 (by decide) rfl (show _ + Int32.ofInt (1) = _ + (1) from rfl) rfl rfl ?_
            refine Es_goto (hC _) 4 dX5_nextBack_63 (by decide) ?_
            refine Es.kill 4 (lv' := [_, _, _, _, _]) rfl ?_
            rw [nI_1]
            exact hkk
    · rw [show min (i + 1) nt = min i nt by omega] at hkk
      cases hh : nb B u (min i nt) with
      | none =>
        rw [hh] at hkk
        show Es _ _ _ [_, _, some .null, _, _] _ _ _ _ _ _ _ _
        refine Es_iload_n (hC _) dX5_nextBack_4 rfl ?_
        refine Es_bipush (v := 40) (hC _) dX5_nextBack_5 (by decide) ?_
        refine Es_icmp_ge (hC _) 66 dX5_nextBack_7 (by decide) (fun hb7 => False.elim (nI_ge (b := 40) (a := i) (by omega) (by decide) hb7)) (fun hb7 => ?_)
        first | refine Es_aload_n (hC _) dX5_nextBack_10 rfl ?_ | refine Es_aload_nN (hC _) dX5_nextBack_10 rfl ?_
        refine Es_iload_n (hC _) dX5_nextBack_11 rfl ?_
        refine Es_fV (hC _) mv_X5_132 dX5_nextBack_12 (c_tyreAt_out hnt (Or.inr (nI_le (by omega) (by omega)))) rfl rfl ⟨_, rfl, rfl⟩ rfl rfl (by decide) (Nat.le_of_ble_eq_true rfl) ?_
        first | refine Es_astore (lv' := [_, _, _, _, _]) (hC _) dX5_nextBack_15 (by decide) rfl rfl ?_ | refine Es_astoreN (lv' := [_, _, _, _, _]) (hC _) dX5_nextBack_15 (by decide) rfl rfl ?_
        first | refine Es_aload (hC _) dX5_nextBack_17 rfl ?_ | refine Es_aloadN (hC _) dX5_nextBack_17 rfl ?_
        refine Es_ifnullN (hC _) 60 dX5_nextBack_19 (by decide) ?_
        refine Es_iinc (lv' := [_, _, _, _, _]) (hC _) dX5_nextBack_60 (by decide) rfl (show _ + Int32.ofInt (1) = _ + (1) from rfl) rfl rfl ?_
        refine Es_goto (hC _) 4 dX5_nextBack_63 (by decide) ?_
        refine Es.kill 4 (lv' := [_, _, _, _, _]) rfl ?_
        rw [nI_1]
        exact hkk
      | some s =>
        rw [hh] at hkk
        show Es _ _ _ [_, _, some (.ref (ad 21 s)), _, _] _ _ _ _ _ _ _ _
        refine Es_iload_n (hC _) dX5_nextBack_4 rfl ?_
        refine Es_bipush (v := 40) (hC _) dX5_nextBack_5 (by decide) ?_
        refine Es_icmp_ge (hC _) 66 dX5_nextBack_7 (by decide) (fun hb7 => False.elim (nI_ge (b := 40) (a := i) (by omega) (by decide) hb7)) (fun hb7 => ?_)
        first | refine Es_aload_n (hC _) dX5_nextBack_10 rfl ?_ | refine Es_aload_nN (hC _) dX5_nextBack_10 rfl ?_
        refine Es_iload_n (hC _) dX5_nextBack_11 rfl ?_
        refine Es_fV (hC _) mv_X5_132 dX5_nextBack_12 (c_tyreAt_out hnt (Or.inr (nI_le (by omega) (by omega)))) rfl rfl ⟨_, rfl, rfl⟩ rfl rfl (by decide) (Nat.le_of_ble_eq_true rfl) ?_
        first | refine Es_astore (lv' := [_, _, _, _, _]) (hC _) dX5_nextBack_15 (by decide) rfl rfl ?_ | refine Es_astoreN (lv' := [_, _, _, _, _]) (hC _) dX5_nextBack_15 (by decide) rfl rfl ?_
        first | refine Es_aload (hC _) dX5_nextBack_17 rfl ?_ | refine Es_aloadN (hC _) dX5_nextBack_17 rfl ?_
        refine Es_ifnullN (hC _) 60 dX5_nextBack_19 (by decide) ?_
        refine Es_iinc (lv' := [_, _, _, _, _]) (hC _) dX5_nextBack_60 (by decide) rfl (show _ + Int32.ofInt (1) = _ + (1) from rfl) rfl rfl ?_
        refine Es_goto (hC _) 4 dX5_nextBack_63 (by decide) ?_
        refine Es.kill 4 (lv' := [_, _, _, _, _]) rfl ?_
        rw [nI_1]
        exact hkk
set_option maxRecDepth 100000 in
set_option maxHeartbeats 4000000 in
theorem c_nextBack {ad : sA} {nw nt : Nat} {B : sB} {L : sL} {u : Int32} (hnt : B 0 0 9 = nI nt) (h40 : nt ≤ 40) : Cf yX5_nextBack cX5_nextBack 5 (some (FieldType.object "TyreBook$Tyre")) 2 [.ref (ad 0 0), .int u] ad nw nt B L (some (vN ad (nb B u nt))) (B) (L) := by
  have hC : ∀ Q, je_Ok (sCm yX5_nextBack cX5_nextBack 5 (some (FieldType.object "TyreBook$Tyre")) 2 ad nw nt Q) RX5 cX5_nextBack 5 2 := fun _ => je_Cm_ok
  refine Cs_of [some (.ref (ad 0 0)), some (.int u), none, none, none] (by decide) rfl (Nat.le_of_ble_eq_true rfl) ?_
  refine Es_null (hC _) dX5_nextBack_0 ?_
  first | refine Es_astore_n (lv' := [_, _, _, _, _]) (hC _) dX5_nextBack_1 (by decide) rfl rfl ?_ | refine Es_astore_nN (lv' := [_, _, _, _, _]) (hC _) dX5_nextBack_1 (by decide) rfl rfl ?_
  refine Es_iconst (v := 0) (hC _) dX5_nextBack_2 (by decide) ?_
  refine Es_istore_n (lv' := [_, _, _, _, _]) (hC _) dX5_nextBack_3 (by decide) rfl rfl ?_
  have hh := l_nb (ad := ad) (nw := nw) (L := L) (bc := 0) (bs := 0) (u := u) hnt h40 40 0 rfl
  rw [show min 0 nt = 0 by omega] at hh
  exact hh

def cSt (B : sB) (t : Nat) : sB := cAdd (uB (uB B 21 t 9 0) 21 t 6 0) t 0 180
theorem cSt_w {B : sB} {t : Nat} {mean : Int32} : wUD (cSt B t 22 t) (cSt B t 23 t) 1 mean = wUD (fun _ => 0) (fun _ => 180) 1 mean := by
  refine wUD_congr (fun i hi => ?_) (fun i hi => ?_)
  · have : i = 0 := by omega
    subst this
    unfold cSt cAdd
    rw [uB_n (by omega), uB_n (by omega), uB_s, uB_n (by omega), uB_s]
  · have : i = 0 := by omega
    subst this
    unfold cSt cAdd
    rw [uB_n (by omega), uB_s]
set_option maxRecDepth 100000 in
set_option maxHeartbeats 4000000 in
theorem c_startTread {ad : sA} {nw nt : Nat} {B : sB} {L : sL} {t : Nat} {mean : Int32} (ht : t < nt) : Cf yX2_startTread cX2_startTread 2 none 4 [.ref (ad 21 t), .int mean] ad nw nt B L (none) (cSt B t) (wS L t (wUD (fun _ => 0) (fun _ => 180) 1 mean)) := by
  have hC : ∀ Q, je_Ok (sCm yX2_startTread cX2_startTread 2 none 4 ad nw nt Q) RX2 cX2_startTread 2 4 := fun _ => je_Cm_ok
  refine Cs_of [some (.ref (ad 21 t)), some (.int mean)] (by decide) rfl (Nat.le_of_ble_eq_true rfl) ?_
  have hok : okR (cSt B t 22 t) 1 1000000 := fun i hi => by
    have : i = 0 := by omega
    subst this
    rw [show cSt B t 22 t 0 = 0 by unfold cSt cAdd; rw [uB_n (by omega), uB_n (by omega), uB_s, uB_n (by omega), uB_s]]
    decide
  first | refine Es_aload_n (hC _) dX2_startTread_0 rfl ?_ | refine Es_aload_nN (hC _) dX2_startTread_0 rfl ?_
  refine Es_iconst (v := 0) (hC _) dX2_startTread_1 (by decide) ?_
  refine Sp_X2_9 (hC _) fl_X2_41 dX2_startTread_2 ht ?_
  first | refine Es_aload_n (hC _) dX2_startTread_5 rfl ?_ | refine Es_aload_nN (hC _) dX2_startTread_5 rfl ?_
  refine Es_iconst (v := 0) (hC _) dX2_startTread_6 (by decide) ?_
  refine Sp_X2_6 (hC _) fl_X2_44 dX2_startTread_7 ht ?_
  first | refine Es_aload_n (hC _) dX2_startTread_10 rfl ?_ | refine Es_aload_nN (hC _) dX2_startTread_10 rfl ?_
  refine Es_sipush (v := 180) (hC _) dX2_startTread_11 (by decide) ?_
  refine Es_fV (hC _) mv_X2_47 dX2_startTread_14 (c_addReading_n (r := 0) ht (uB_s _ _ _ _ _) (by decide)) (ok21 ht) rfl ⟨_, rfl, rfl⟩ rfl rfl (by decide) (Nat.le_of_ble_eq_true rfl) ?_
  first | refine Es_aload_n (hC _) dX2_startTread_17 rfl ?_ | refine Es_aload_nN (hC _) dX2_startTread_17 rfl ?_
  refine Es_iload_n (hC _) dX2_startTread_18 rfl ?_
  refine Es_fV (hC _) mv_X2_51 dX2_startTread_19 (c_fitWear (r := 1) ht (uB_s _ _ _ _ _) (by decide) hok) (ok21 ht) rfl ⟨_, rfl, rfl⟩ rfl rfl (by decide) (Nat.le_of_ble_eq_true rfl) ?_
  exact Es_vret dX2_startTread_22 ⟨rfl, rfl, by rw [← cSt_w (B := B) (t := t)]; rfl⟩

def cMv (B : sB) (t : Nat) : sB := if B 6 0 3 = nI 600 then uB B 21 t 10 (-1) else cLog (uB B 21 t 10 (-1)) (B 6 0 3).toNatClampNeg (B 0 0 11) (B 21 t 0) (-1)
theorem c_mv {ad : sA} {nw nt : Nat} {B : sB} {L : sL} {t k : Nat} (ht : t < nt) (hk : B 6 0 3 = nI k) (h6 : k ≤ 600) : Cf yX5_move cX5_move 3 none 2 [.ref (ad 0 0), .ref (ad 21 t), .int (-1)] ad nw nt B L none (cMv B t) L := by
  unfold cMv
  by_cases h : k = 600
  · subst h
    rw [if_pos hk]
    exact c_move_full ht hk
  · rw [if_neg (fun z => h ((nI_eq (by omega) (by decide)).mp (hk.symm.trans z))), hk, nI_clamp (by omega)]
    exact c_move ht hk (by omega)
def cBb (B : sB) (t : Nat) : sB := cMv (cSt (uB (uB B 21 t 7 (B 21 t 7 + 1)) 21 t 11 (-9)) t) t
theorem cSt_k {B : sB} {t k : Nat} (h : k ≠ 21) (h2 : k ≠ 22) (h3 : k ≠ 23) : cSt B t k = B k := by
  unfold cSt cAdd
  rw [uB_k h, uB_k h3, uB_k h2, uB_k h, uB_k h]
set_option maxRecDepth 100000 in
set_option maxHeartbeats 4000000 in
theorem c_bringBack {ad : sA} {nw nt : Nat} {B : sB} {L : sL} {t m k : Nat} (ht : t < nt) (hm : B 21 t 1 = nI m) (hm4 : m < 4) (hk : B 6 0 3 = nI k) (h6 : k ≤ 600) : Cf yX5_bringBack cX5_bringBack 2 none 5 [.ref (ad 0 0), .ref (ad 21 t)] ad nw nt B L (none) (cBb B t) (wS L t (wUD (fun _ => 0) (fun _ => 180) 1 (B 4 0 m))) := by
  have hC : ∀ Q, je_Ok (sCm yX5_bringBack cX5_bringBack 2 none 5 ad nw nt Q) RX5 cX5_bringBack 2 5 := fun _ => je_Cm_ok
  refine Cs_of [some (.ref (ad 0 0)), some (.ref (ad 21 t))] (by decide) rfl (Nat.le_of_ble_eq_true rfl) ?_
  first | refine Es_aload_n (hC _) dX5_bringBack_0 rfl ?_ | refine Es_aload_nN (hC _) dX5_bringBack_0 rfl ?_
  refine Es_dup (hC _) dX5_bringBack_1 rfl ?_
  refine Sg_X2_7 (hC _) fl_X5_210 dX5_bringBack_2 ht ?_
  refine Es_iconst (v := 1) (hC _) dX5_bringBack_5 (by decide) ?_
  refine Es_iadd (hC _) dX5_bringBack_6 ?_
  refine Sp_X2_7 (hC _) fl_X5_210 dX5_bringBack_7 ht ?_
  first | refine Es_aload_n (hC _) dX5_bringBack_10 rfl ?_ | refine Es_aload_nN (hC _) dX5_bringBack_10 rfl ?_
  refine Es_bipush (v := -9) (hC _) dX5_bringBack_11 (by decide) ?_
  refine Sp_X2_11 (hC _) fl_X5_216 dX5_bringBack_13 ht ?_
  first | refine Es_aload_n (hC _) dX5_bringBack_16 rfl ?_ | refine Es_aload_nN (hC _) dX5_bringBack_16 rfl ?_
  first | refine Es_aload_n (hC _) dX5_bringBack_17 rfl ?_ | refine Es_aload_nN (hC _) dX5_bringBack_17 rfl ?_
  refine Sg_X5_3 (hC _) fl_X5_36 dX5_bringBack_18 ?_
  first | refine Es_aload_n (hC _) dX5_bringBack_21 rfl ?_ | refine Es_aload_nN (hC _) dX5_bringBack_21 rfl ?_
  refine Sg_X2_1 (hC _) fl_X5_155 dX5_bringBack_22 ht ?_
  rw [uB_n (by omega), uB_n (by omega), hm]
  refine Es_fS (hC _) ms_X5_96 dX5_bringBack_25 (c_at (kd := 4) (n := 4) rfl rfl rfl hm4 (by decide)) rfl rfl (by decide) (Nat.le_of_ble_eq_true rfl) ?_
  refine Es_fV (hC _) mv_X5_122 dX5_bringBack_28 (c_startTread ht) (ok21 ht) rfl ⟨_, rfl, rfl⟩ rfl rfl (by decide) (Nat.le_of_ble_eq_true rfl) ?_
  first | refine Es_aload_n (hC _) dX5_bringBack_31 rfl ?_ | refine Es_aload_nN (hC _) dX5_bringBack_31 rfl ?_
  first | refine Es_aload_n (hC _) dX5_bringBack_32 rfl ?_ | refine Es_aload_nN (hC _) dX5_bringBack_32 rfl ?_
  refine Es_iconst (v := -1) (hC _) dX5_bringBack_33 (by decide) ?_
  refine Es_fV (hC _) mv_X5_128 dX5_bringBack_34 (c_mv ht (by rw [cSt_k (by decide) (by decide) (by decide), uB_k (by decide), uB_k (by decide)]; exact hk) h6) rfl rfl ⟨_, rfl, rfl⟩ rfl rfl (by decide) (Nat.le_of_ble_eq_true rfl) ?_
  exact Es_vret dX5_bringBack_37 ⟨rfl, rfl, rfl⟩

/-- the class brings a tyre back -/
def cBr (B : sB) (t : Nat) : sB := cBb (uB B 0 0 11 (B 21 t 11)) t
def cBrL (B : sB) (L : sL) (t : Nat) : sL := wS L t (wUD (fun _ => 0) (fun _ => 180) 1 (B 4 0 (B 21 t 1).toNatClampNeg))
def cIt (nt : Nat) (u : Int32) : Nat → sB → sL → sB × sL
  | 0, B, L => (B, L)
  | f + 1, B, L => match nb B u nt with
    | none => (B, L)
    | some t => cIt nt u f (cBr B t) (cBrL B L t)
theorem cIt_n {nt : Nat} {u : Int32} {f : Nat} {B : sB} {L : sL} (h : nb B u nt = none) : cIt nt u f B L = (B, L) := by
  cases f with
  | zero => rfl
  | succ f => simp only [cIt]; rw [h]
theorem cIt_s {nt : Nat} {u : Int32} {f : Nat} {B : sB} {L : sL} {t : Nat} (h : nb B u nt = some t) : cIt nt u (f + 1) B L = cIt nt u f (cBr B t) (cBrL B L t) := by
  simp only [cIt]
  rw [h]
/-- what the class's loop needs -/
def CI (nt : Nat) (B : sB) : Prop := B 0 0 9 = nI nt ∧ (∃ k, k ≤ 600 ∧ B 6 0 3 = nI k) ∧ ∀ t, t < nt → ∃ m, m < 4 ∧ B 21 t 1 = nI m
theorem cMv_k {B : sB} {t k : Nat} (h : k ≠ 6) (h2 : k ≠ 7) (h3 : k ≠ 8) (h4 : k ≠ 9) (h5 : k ≠ 21) : cMv B t k = B k := by
  unfold cMv
  split
  · exact uB_k h5
  · unfold cLog
    rw [uB_k h, uB_k h4, uB_k h3, uB_k h2, uB_k h5]
theorem cMv_21 (B : sB) (t : Nat) : cMv B t 21 = u2 (B 21) t 10 (-1) := by
  unfold cMv
  split
  · exact uB_2 _ _ _ _ _
  · unfold cLog
    rw [uB_k (by decide), uB_k (by decide), uB_k (by decide), uB_k (by decide), uB_2]
theorem cBr_21 (B : sB) (t t' i : Nat) (h : ¬ (t' = t ∧ (i = 6 ∨ i = 7 ∨ i = 9 ∨ i = 10 ∨ i = 11))) : cBr B t 21 t' i = B 21 t' i := by
  unfold cBr cBb
  rw [cMv_21, u2_n (by omega)]
  unfold cSt cAdd
  rw [uB_n (by omega), uB_n (by omega), uB_n (by omega), uB_n (by omega), uB_n (by omega), uB_n (by omega), uB_n (by omega), uB_n (by omega)]
theorem CI_br {nt : Nat} {B : sB} {t : Nat} (h : CI nt B) : CI nt (cBr B t) := by
  obtain ⟨h1, ⟨k, h2, h3⟩, h4⟩ := h
  refine ⟨?_, ?_, fun t' ht' => ?_⟩
  · unfold cBr cBb
    rw [cMv_k (by decide) (by decide) (by decide) (by decide) (by decide), cSt_k (by decide) (by decide) (by decide), uB_k (by decide), uB_k (by decide), uB_n (by decide)]
    exact h1
  · have e : cSt (uB (uB (uB B 0 0 11 (B 21 t 11)) 21 t 7 (uB B 0 0 11 (B 21 t 11) 21 t 7 + 1)) 21 t 11 (-9)) t 6 0 3 = nI k := by
      rw [cSt_k (by decide) (by decide) (by decide), uB_k (by decide), uB_k (by decide), uB_k (by decide)]
      exact h3
    unfold cBr cBb cMv
    rw [e]
    by_cases h6 : k = 600
    · subst h6
      rw [if_pos rfl, uB_k (by decide)]
      exact ⟨600, by decide, e⟩
    · rw [if_neg (fun z => h6 ((nI_eq (by omega) (by decide)).mp z))]
      refine ⟨k + 1, by omega, ?_⟩
      unfold cLog
      rw [uB_s, nI_clamp (by omega)]
  · obtain ⟨m, h5, h6⟩ := h4 t' ht'
    refine ⟨m, h5, ?_⟩
    rw [cBr_21 _ _ _ _ (by omega)]
    exact h6
set_option maxRecDepth 100000 in
set_option maxHeartbeats 4000000 in
theorem c_days_lo {ad : sA} {nw nt : Nat} {B : sB} {L : sL} {d : Nat} (hdy : B 0 0 11 = nI d) (hd : d ≤ 2000) {x : Int32} (hl : x < 1) : Cf yX5_days cX5_days 6 (some FieldType.int) 6 [.ref (ad 0 0), .int x] ad nw nt B L (some (.int (-4))) (uB B 5 0 4 (B 5 0 4 + 1)) (L) := by
  have hC : ∀ Q, je_Ok (sCm yX5_days cX5_days 6 (some FieldType.int) 6 ad nw nt Q) RX5 cX5_days 6 6 := fun _ => je_Cm_ok
  refine Cs_of [some (.ref (ad 0 0)), some (.int x), none, none, none, none] (by decide) rfl (Nat.le_of_ble_eq_true rfl) ?_
  refine Es_iload_n (hC _) dX5_days_0 rfl ?_
  refine Es_iconst (v := 1) (hC _) dX5_days_1 (by decide) ?_
  refine Es_sipush (v := 2000) (hC _) dX5_days_2 (by decide) ?_
  first | refine Es_aload_n (hC _) dX5_days_5 rfl ?_ | refine Es_aload_nN (hC _) dX5_days_5 rfl ?_
  refine Sg_X5_11 (hC _) fl_X5_116 dX5_days_6 ?_
  refine Es_isub (hC _) dX5_days_9 ?_
  rw [hdy, show (2000 : Int32) - nI d = nI (2000 - d) from pk_sub (a := 2000) hd]
  refine Es_fS (hC _) ms_X5_92 dX5_days_10 c_outside rfl rfl (by decide) (Nat.le_of_ble_eq_true rfl) ?_
  rw [show outs x 1 (nI (2000 - d)) = -4 from if_pos hl]
  refine Es_istore_n (lv' := [_, _, _, _, _, _]) (hC _) dX5_days_13 (by decide) rfl rfl ?_
  refine Es_iload_n (hC _) dX5_days_14 rfl ?_
  refine Es_if_eq (hC _) 24 dX5_days_15 (by decide) (fun hb15 => False.elim (absurd hb15 (by decide))) (fun hb15 => ?_)
  first | refine Es_aload_n (hC _) dX5_days_18 rfl ?_ | refine Es_aload_nN (hC _) dX5_days_18 rfl ?_
  refine Es_iload_n (hC _) dX5_days_19 rfl ?_
  refine Es_fV (hC _) mv_X5_70 dX5_days_20 (c_refuse (k := 4) (by decide) (by decide)) rfl rfl ⟨_, rfl, rfl⟩ rfl rfl (by decide) (Nat.le_of_ble_eq_true rfl) ?_
  exact Es_iret dX5_days_23 rfl ⟨rfl, rfl, rfl⟩

set_option maxRecDepth 100000 in
set_option maxHeartbeats 4000000 in
theorem c_days_hi {ad : sA} {nw nt : Nat} {B : sB} {L : sL} {d : Nat} (hdy : B 0 0 11 = nI d) (hd : d ≤ 2000) {x : Int32} (hl : ¬ x < 1) (hh : nI (2000 - d) < x) : Cf yX5_days cX5_days 6 (some FieldType.int) 6 [.ref (ad 0 0), .int x] ad nw nt B L (some (.int (-6))) (uB B 5 0 6 (B 5 0 6 + 1)) (L) := by
  have hC : ∀ Q, je_Ok (sCm yX5_days cX5_days 6 (some FieldType.int) 6 ad nw nt Q) RX5 cX5_days 6 6 := fun _ => je_Cm_ok
  refine Cs_of [some (.ref (ad 0 0)), some (.int x), none, none, none, none] (by decide) rfl (Nat.le_of_ble_eq_true rfl) ?_
  refine Es_iload_n (hC _) dX5_days_0 rfl ?_
  refine Es_iconst (v := 1) (hC _) dX5_days_1 (by decide) ?_
  refine Es_sipush (v := 2000) (hC _) dX5_days_2 (by decide) ?_
  first | refine Es_aload_n (hC _) dX5_days_5 rfl ?_ | refine Es_aload_nN (hC _) dX5_days_5 rfl ?_
  refine Sg_X5_11 (hC _) fl_X5_116 dX5_days_6 ?_
  refine Es_isub (hC _) dX5_days_9 ?_
  rw [hdy, show (2000 : Int32) - nI d = nI (2000 - d) from pk_sub (a := 2000) hd]
  refine Es_fS (hC _) ms_X5_92 dX5_days_10 c_outside rfl rfl (by decide) (Nat.le_of_ble_eq_true rfl) ?_
  rw [show outs x 1 (nI (2000 - d)) = -6 from (if_neg hl).trans (if_pos hh)]
  refine Es_istore_n (lv' := [_, _, _, _, _, _]) (hC _) dX5_days_13 (by decide) rfl rfl ?_
  refine Es_iload_n (hC _) dX5_days_14 rfl ?_
  refine Es_if_eq (hC _) 24 dX5_days_15 (by decide) (fun hb15 => False.elim (absurd hb15 (by decide))) (fun hb15 => ?_)
  first | refine Es_aload_n (hC _) dX5_days_18 rfl ?_ | refine Es_aload_nN (hC _) dX5_days_18 rfl ?_
  refine Es_iload_n (hC _) dX5_days_19 rfl ?_
  refine Es_fV (hC _) mv_X5_70 dX5_days_20 (c_refuse (k := 6) (by decide) (by decide)) rfl rfl ⟨_, rfl, rfl⟩ rfl rfl (by decide) (Nat.le_of_ble_eq_true rfl) ?_
  exact Es_iret dX5_days_23 rfl ⟨rfl, rfl, rfl⟩

set_option maxRecDepth 100000 in
set_option maxHeartbeats 4000000 in
theorem l_days {ad : sA} {nw nt : Nat} {bc bs : Nat} {y z u : Int32} (h40 : nt ≤ 40) : ∀ (f i : Nat) (B : sB) (L : sL), i + f = 40 → CI nt B → Es (sCm yX5_days cX5_days 6 (some .int) 6 ad nw nt (fun v B1 L1 => v = some (.int u) ∧ B1 = uB (cIt nt u f B L).1 0 0 11 u ∧ L1 = (cIt nt u f B L).2)) 6 34 [some (.ref (ad 0 0)), some (.int y), some (.int z), some (.int u), some (.int (nI i)), none] [] ad nw nt B L bc bs := by
  have hC : ∀ Q, je_Ok (sCm yX5_days cX5_days 6 (some .int) 6 ad nw nt Q) RX5 cX5_days 6 6 := fun _ => je_Cm_ok
  intro f
  induction f with
  | zero =>
    intro i B L hn hI
    have hik : i = 40 := by omega
    subst hik
    refine Es_iload (hC _) dX5_days_34 rfl ?_
    refine Es_bipush (v := 40) (hC _) dX5_days_36 (by decide) ?_
    refine Es_icmp_ge (hC _) 77 dX5_days_38 (by decide) (fun hb38 => ?_) (fun hb38 => False.elim (hb38 (by decide)))
    first | refine Es_aload_n (hC _) dX5_days_77 rfl ?_ | refine Es_aload_nN (hC _) dX5_days_77 rfl ?_
    refine Es_iload_n (hC _) dX5_days_78 rfl ?_
    refine Sp_X5_11 (hC _) fl_X5_116 dX5_days_79 ?_
    first | refine Es_aload_n (hC _) dX5_days_82 rfl ?_ | refine Es_aload_nN (hC _) dX5_days_82 rfl ?_
    refine Sg_X5_11 (hC _) fl_X5_116 dX5_days_83 ?_
    exact Es_iret dX5_days_86 rfl ⟨by rw [uB_s], rfl, rfl⟩
  | succ f ih =>
    intro i B L hn hI
    cases hh : nb B u nt with
    | none =>
      have e := cIt_n (f := f + 1) (L := L) hh
      refine Es_iload (hC _) dX5_days_34 rfl ?_
      refine Es_bipush (v := 40) (hC _) dX5_days_36 (by decide) ?_
      refine Es_icmp_ge (hC _) 77 dX5_days_38 (by decide) (fun hb38 => False.elim (nI_ge (b := 40) (a := i) (by omega) (by decide) hb38)) (fun hb38 => ?_)
      first | refine Es_aload_n (hC _) dX5_days_41 rfl ?_ | refine Es_aload_nN (hC _) dX5_days_41 rfl ?_
      refine Es_iload_n (hC _) dX5_days_42 rfl ?_
      refine Es_fV (hC _) mv_X5_219 dX5_days_43 (c_nextBack hI.1 h40) rfl rfl ⟨_, rfl, rfl⟩ rfl rfl (by decide) (Nat.le_of_ble_eq_true rfl) ?_
      rw [hh]
      show Es _ _ _ _ (.null :: _) _ _ _ _ _ _ _
      first | refine Es_astore (lv' := [_, _, _, _, _, _]) (hC _) dX5_days_46 (by decide) rfl rfl ?_ | refine Es_astoreN (lv' := [_, _, _, _, _, _]) (hC _) dX5_days_46 (by decide) rfl rfl ?_
      first | refine Es_aload (hC _) dX5_days_48 rfl ?_ | refine Es_aloadN (hC _) dX5_days_48 rfl ?_
      refine Es_ifnonnullN (hC _) dX5_days_50 ?_
      refine Es_goto (hC _) 77 dX5_days_53 (by decide) ?_
      first | refine Es_aload_n (hC _) dX5_days_77 rfl ?_ | refine Es_aload_nN (hC _) dX5_days_77 rfl ?_
      refine Es_iload_n (hC _) dX5_days_78 rfl ?_
      refine Sp_X5_11 (hC _) fl_X5_116 dX5_days_79 ?_
      first | refine Es_aload_n (hC _) dX5_days_82 rfl ?_ | refine Es_aload_nN (hC _) dX5_days_82 rfl ?_
      refine Sg_X5_11 (hC _) fl_X5_116 dX5_days_83 ?_
      exact Es_iret dX5_days_86 rfl ⟨by rw [uB_s], by rw [e], by rw [e]⟩
    | some t =>
      have ht : t < nt := nb_lt nt t hh
      have e := cIt_s (f := f) (L := L) hh
      obtain ⟨m, hm4, hm⟩ := hI.2.2 t ht
      obtain ⟨k, hk6, hk⟩ := hI.2.1
      have eL : cBrL B L t = wS L t (wUD (fun _ => 0) (fun _ => 180) 1 (uB B 0 0 11 (B 21 t 11) 4 0 m)) := by
        unfold cBrL
        rw [hm, nI_clamp (by omega), uB_k (by decide)]
      have hkk := ih (i + 1) (cBr B t) (cBrL B L t) (by omega) (CI_br hI)
      rw [← e, eL] at hkk
      refine Es_iload (hC _) dX5_days_34 rfl ?_
      refine Es_bipush (v := 40) (hC _) dX5_days_36 (by decide) ?_
      refine Es_icmp_ge (hC _) 77 dX5_days_38 (by decide) (fun hb38 => False.elim (nI_ge (b := 40) (a := i) (by omega) (by decide) hb38)) (fun hb38 => ?_)
      first | refine Es_aload_n (hC _) dX5_days_41 rfl ?_ | refine Es_aload_nN (hC _) dX5_days_41 rfl ?_
      refine Es_iload_n (hC _) dX5_days_42 rfl ?_
      refine Es_fV (hC _) mv_X5_219 dX5_days_43 (c_nextBack hI.1 h40) rfl rfl ⟨_, rfl, rfl⟩ rfl rfl (by decide) (Nat.le_of_ble_eq_true rfl) ?_
      rw [hh]
      show Es _ _ _ _ (.ref (ad 21 t) :: _) _ _ _ _ _ _ _
      first | refine Es_astore (lv' := [_, _, _, _, _, _]) (hC _) dX5_days_46 (by decide) rfl rfl ?_ | refine Es_astoreN (lv' := [_, _, _, _, _, _]) (hC _) dX5_days_46 (by decide) rfl rfl ?_
      first | refine Es_aload (hC _) dX5_days_48 rfl ?_ | refine Es_aloadN (hC _) dX5_days_48 rfl ?_
      refine Es_ifnonnull (hC _) 56 dX5_days_50 (by decide) ?_
      first | refine Es_aload_n (hC _) dX5_days_56 rfl ?_ | refine Es_aload_nN (hC _) dX5_days_56 rfl ?_
      first | refine Es_aload (hC _) dX5_days_57 rfl ?_ | refine Es_aloadN (hC _) dX5_days_57 rfl ?_
      refine Sg_X2_11 (hC _) fl_X5_216 dX5_days_59 ht ?_
      refine Sp_X5_11 (hC _) fl_X5_116 dX5_days_62 ?_
      first | refine Es_aload_n (hC _) dX5_days_65 rfl ?_ | refine Es_aload_nN (hC _) dX5_days_65 rfl ?_
      first | refine Es_aload (hC _) dX5_days_66 rfl ?_ | refine Es_aloadN (hC _) dX5_days_66 rfl ?_
      refine Es_fV (hC _) mv_X5_222 dX5_days_68 (c_bringBack ht (by rw [uB_k (by decide)]; exact hm) hm4 (by rw [uB_k (by decide)]; exact hk) hk6) rfl rfl ⟨_, rfl, rfl⟩ rfl rfl (by decide) (Nat.le_of_ble_eq_true rfl) ?_
      refine Es_iinc (lv' := [_, _, _, _, _, _]) (hC _) dX5_days_71 (by decide) rfl (show _ + Int32.ofInt (1) = _ + (1) from rfl) rfl rfl ?_
      refine Es_goto (hC _) 34 dX5_days_74 (by decide) ?_
      refine Es.kill 5 (lv' := [_, _, _, _, _, _]) rfl ?_
      rw [nI_1]
      exact hkk
set_option maxRecDepth 100000 in
set_option maxHeartbeats 4000000 in
theorem c_days_ok {ad : sA} {nw nt : Nat} {B : sB} {L : sL} {d : Nat} (hdy : B 0 0 11 = nI d) (hd : d ≤ 2000) {n : Nat} (hn1 : 1 ≤ n) (hn2 : d + n ≤ 2000) (h40 : nt ≤ 40) (hI : CI nt B) : Cf yX5_days cX5_days 6 (some FieldType.int) 6 [.ref (ad 0 0), .int (nI n)] ad nw nt B L (some (.int (nI (d + n)))) (uB (cIt nt (nI (d + n)) 40 B L).1 0 0 11 (nI (d + n))) ((cIt nt (nI (d + n)) 40 B L).2) := by
  have hC : ∀ Q, je_Ok (sCm yX5_days cX5_days 6 (some FieldType.int) 6 ad nw nt Q) RX5 cX5_days 6 6 := fun _ => je_Cm_ok
  refine Cs_of [some (.ref (ad 0 0)), some (.int (nI n)), none, none, none, none] (by decide) rfl (Nat.le_of_ble_eq_true rfl) ?_
  refine Es_iload_n (hC _) dX5_days_0 rfl ?_
  refine Es_iconst (v := 1) (hC _) dX5_days_1 (by decide) ?_
  refine Es_sipush (v := 2000) (hC _) dX5_days_2 (by decide) ?_
  first | refine Es_aload_n (hC _) dX5_days_5 rfl ?_ | refine Es_aload_nN (hC _) dX5_days_5 rfl ?_
  refine Sg_X5_11 (hC _) fl_X5_116 dX5_days_6 ?_
  refine Es_isub (hC _) dX5_days_9 ?_
  rw [hdy, show (2000 : Int32) - nI d = nI (2000 - d) from pk_sub (a := 2000) hd]
  refine Es_fS (hC _) ms_X5_92 dX5_days_10 c_outside rfl rfl (by decide) (Nat.le_of_ble_eq_true rfl) ?_
  rw [show outs (nI n) 1 (nI (2000 - d)) = 0 from (if_neg (nI_nlt (a := n) (b := 1) hn1 (by omega))).trans (if_neg (nI_nlt (a := 2000 - d) (b := n) (by omega) (by omega)))]
  refine Es_istore_n (lv' := [_, _, _, _, _, _]) (hC _) dX5_days_13 (by decide) rfl rfl ?_
  refine Es_iload_n (hC _) dX5_days_14 rfl ?_
  refine Es_if_eq (hC _) 24 dX5_days_15 (by decide) (fun hb15 => ?_) (fun hb15 => False.elim (hb15 rfl))
  first | refine Es_aload_n (hC _) dX5_days_24 rfl ?_ | refine Es_aload_nN (hC _) dX5_days_24 rfl ?_
  refine Sg_X5_11 (hC _) fl_X5_116 dX5_days_25 ?_
  rw [hdy]
  refine Es_iload_n (hC _) dX5_days_28 rfl ?_
  refine Es_iadd (hC _) dX5_days_29 ?_
  rw [nI_add]
  refine Es_istore_n (lv' := [_, _, _, _, _, _]) (hC _) dX5_days_30 (by decide) rfl rfl ?_
  refine Es_iconst (v := 0) (hC _) dX5_days_31 (by decide) ?_
  refine Es_istore (lv' := [_, _, _, _, _, _]) (hC _) dX5_days_32 (by decide) rfl rfl ?_
  exact l_days h40 40 0 B L rfl hI

