set_option maxRecDepth 100000 in
set_option maxHeartbeats 4000000 in
theorem l_pair {ad : sA} {nw nt : Nat} {B : sB} {L : sL} {bc bs : Nat} {w p : Nat} (hw : w < nw) (hp : B 18 w 3 = nI p) (h7 : p ≤ 7) {q : Nat} (hq : q < p) (hk2 : B 19 w q = 2) : ∀ (n i : Nat) (x : Int32), i ≤ p → p - i = n → prI (B 19 w) q i x → Es (sCm yX3_pairOf cX3_pairOf 4 (some .int) 2 ad nw nt (fun v B1 L1 => v = some (.int (prV (B 19 w) p q)) ∧ B1 = B ∧ L1 = L)) 4 17 [some (.ref (ad 18 w)), some (.int (nI q)), some (.int x), some (.int (nI i))] [] ad nw nt B L bc bs := by
  have hC : ∀ Q, je_Ok (sCm yX3_pairOf cX3_pairOf 4 (some .int) 2 ad nw nt Q) RX3 cX3_pairOf 4 2 := fun _ => je_Cm_ok
  intro n
  induction n with
  | zero =>
    intro i x hi hn hI
    have hik : i = p := by omega
    subst hik
    refine Es_iload_n (hC _) dX3_pairOf_17 rfl ?_
    first | refine Es_aload_n (hC _) dX3_pairOf_18 rfl ?_ | refine Es_aload_nN (hC _) dX3_pairOf_18 rfl ?_
    refine Sg_X3_3 (hC _) fl_X3_25 dX3_pairOf_19 hw ?_
    rw [hp]
    refine Es_icmp_ge (hC _) 71 dX3_pairOf_22 (by decide) (fun hb22 => ?_) (fun hb22 => False.elim (hb22 (nI_le (Nat.le_refl _) (by omega))))
    refine Es_bipush (v := -9) (hC _) dX3_pairOf_71 (by decide) ?_
    exact Es_iret dX3_pairOf_73 rfl ⟨by rw [prV_none hI.2], rfl, rfl⟩
  | succ n ih =>
    intro i x hi hn hI
    by_cases hki : B 19 w i = 2
    · rcases hI.1 with ⟨he, hx⟩ | ⟨he, o, ho1, hx, ho2, ho3⟩
      · subst hx
        refine Es_iload_n (hC _) dX3_pairOf_17 rfl ?_
        first | refine Es_aload_n (hC _) dX3_pairOf_18 rfl ?_ | refine Es_aload_nN (hC _) dX3_pairOf_18 rfl ?_
        refine Sg_X3_3 (hC _) fl_X3_25 dX3_pairOf_19 hw ?_
        rw [hp]
        refine Es_icmp_ge (hC _) 71 dX3_pairOf_22 (by decide) (fun hb22 => False.elim (nI_ge (b := p) (a := i) (by omega) (by omega) hb22)) (fun hb22 => ?_)
        first | refine Es_aload_n (hC _) dX3_pairOf_25 rfl ?_ | refine Es_aload_nN (hC _) dX3_pairOf_25 rfl ?_
        refine Es_iload_n (hC _) dX3_pairOf_26 rfl ?_
        refine Es_fV (hC _) mv_X3_40 dX3_pairOf_27 (c_kindOf_in hw hp h7 (by omega)) (ok18 hw) rfl ⟨_, rfl, rfl⟩ rfl rfl (by decide) (Nat.le_of_ble_eq_true rfl) ?_
        refine Es_iconst (v := 2) (hC _) dX3_pairOf_30 (by decide) ?_
        refine Es_icmp_eq (hC _) 37 dX3_pairOf_31 (by decide) (fun hb31 => ?_) (fun hb31 => False.elim (hb31 hki))
        refine Es_iload_n (hC _) dX3_pairOf_37 rfl ?_
        refine Es_bipush (v := -9) (hC _) dX3_pairOf_38 (by decide) ?_
        refine Es_icmp_ne (hC _) 48 dX3_pairOf_40 (by decide) (fun hb40 => False.elim (hb40 rfl)) (fun hb40 => ?_)
        refine Es_iload_n (hC _) dX3_pairOf_43 rfl ?_
        refine Es_istore_n (lv' := [_, _, _, _]) (hC _) dX3_pairOf_44 (by decide) rfl rfl ?_
        refine Es_goto (hC _) 65 dX3_pairOf_45 (by decide) ?_
        refine Es_iinc (lv' := [_, _, _, _]) (hC _) dX3_pairOf_65 (by decide) rfl (show _ + Int32.ofInt (1) = _ + (1) from rfl) rfl rfl ?_
        refine Es_goto (hC _) 17 dX3_pairOf_68 (by decide) ?_
        rw [nI_1]
        exact ih (i + 1) _ (by omega) (by omega) (prI_open hki he hI)
      · subst hx
        by_cases hoq : o = q
        · subst hoq
          refine Es_iload_n (hC _) dX3_pairOf_17 rfl ?_
          first | refine Es_aload_n (hC _) dX3_pairOf_18 rfl ?_ | refine Es_aload_nN (hC _) dX3_pairOf_18 rfl ?_
          refine Sg_X3_3 (hC _) fl_X3_25 dX3_pairOf_19 hw ?_
          rw [hp]
          refine Es_icmp_ge (hC _) 71 dX3_pairOf_22 (by decide) (fun hb22 => False.elim (nI_ge (b := p) (a := i) (by omega) (by omega) hb22)) (fun hb22 => ?_)
          first | refine Es_aload_n (hC _) dX3_pairOf_25 rfl ?_ | refine Es_aload_nN (hC _) dX3_pairOf_25 rfl ?_
          refine Es_iload_n (hC _) dX3_pairOf_26 rfl ?_
          refine Es_fV (hC _) mv_X3_40 dX3_pairOf_27 (c_kindOf_in hw hp h7 (by omega)) (ok18 hw) rfl ⟨_, rfl, rfl⟩ rfl rfl (by decide) (Nat.le_of_ble_eq_true rfl) ?_
          refine Es_iconst (v := 2) (hC _) dX3_pairOf_30 (by decide) ?_
          refine Es_icmp_eq (hC _) 37 dX3_pairOf_31 (by decide) (fun hb31 => ?_) (fun hb31 => False.elim (hb31 hki))
          refine Es_iload_n (hC _) dX3_pairOf_37 rfl ?_
          refine Es_bipush (v := -9) (hC _) dX3_pairOf_38 (by decide) ?_
          refine Es_icmp_ne (hC _) 48 dX3_pairOf_40 (by decide) (fun hb40 => ?_) (fun hb40 => False.elim (nI_pos (n := o) (by omega) (by rw [hb40]; decide)))
          refine Es_iload_n (hC _) dX3_pairOf_48 rfl ?_
          refine Es_iload_n (hC _) dX3_pairOf_49 rfl ?_
          refine Es_icmp_ne (hC _) 55 dX3_pairOf_50 (by decide) (fun hb50 => False.elim (hb50 rfl)) (fun hb50 => ?_)
          refine Es_iload_n (hC _) dX3_pairOf_53 rfl ?_
          exact Es_iret dX3_pairOf_54 rfl ⟨by rw [prV_some (p := i) ⟨hq, by omega, hk2, hki, Or.inl ⟨by omega, ho3.symm⟩⟩], rfl, rfl⟩
        · by_cases hiq : i = q
          · subst hiq
            refine Es_iload_n (hC _) dX3_pairOf_17 rfl ?_
            first | refine Es_aload_n (hC _) dX3_pairOf_18 rfl ?_ | refine Es_aload_nN (hC _) dX3_pairOf_18 rfl ?_
            refine Sg_X3_3 (hC _) fl_X3_25 dX3_pairOf_19 hw ?_
            rw [hp]
            refine Es_icmp_ge (hC _) 71 dX3_pairOf_22 (by decide) (fun hb22 => False.elim (nI_ge (b := p) (a := i) (by omega) (by omega) hb22)) (fun hb22 => ?_)
            first | refine Es_aload_n (hC _) dX3_pairOf_25 rfl ?_ | refine Es_aload_nN (hC _) dX3_pairOf_25 rfl ?_
            refine Es_iload_n (hC _) dX3_pairOf_26 rfl ?_
            refine Es_fV (hC _) mv_X3_40 dX3_pairOf_27 (c_kindOf_in hw hp h7 (by omega)) (ok18 hw) rfl ⟨_, rfl, rfl⟩ rfl rfl (by decide) (Nat.le_of_ble_eq_true rfl) ?_
            refine Es_iconst (v := 2) (hC _) dX3_pairOf_30 (by decide) ?_
            refine Es_icmp_eq (hC _) 37 dX3_pairOf_31 (by decide) (fun hb31 => ?_) (fun hb31 => False.elim (hb31 hki))
            refine Es_iload_n (hC _) dX3_pairOf_37 rfl ?_
            refine Es_bipush (v := -9) (hC _) dX3_pairOf_38 (by decide) ?_
            refine Es_icmp_ne (hC _) 48 dX3_pairOf_40 (by decide) (fun hb40 => ?_) (fun hb40 => False.elim (nI_pos (n := o) (by omega) (by rw [hb40]; decide)))
            refine Es_iload_n (hC _) dX3_pairOf_48 rfl ?_
            refine Es_iload_n (hC _) dX3_pairOf_49 rfl ?_
            refine Es_icmp_ne (hC _) 55 dX3_pairOf_50 (by decide) (fun hb50 => ?_) (fun hb50 => False.elim (hoq ((nI_eq (by omega) (by omega)).mp hb50)))
            refine Es_iload_n (hC _) dX3_pairOf_55 rfl ?_
            refine Es_iload_n (hC _) dX3_pairOf_56 rfl ?_
            refine Es_icmp_ne (hC _) 62 dX3_pairOf_57 (by decide) (fun hb57 => False.elim (hb57 rfl)) (fun hb57 => ?_)
            refine Es_iload_n (hC _) dX3_pairOf_60 rfl ?_
            exact Es_iret dX3_pairOf_61 rfl ⟨by rw [prV_some (p := o) ⟨hq, by omega, hk2, ho2, Or.inr ⟨by omega, ho3.symm⟩⟩], rfl, rfl⟩
          · skip
            refine Es_iload_n (hC _) dX3_pairOf_17 rfl ?_
            first | refine Es_aload_n (hC _) dX3_pairOf_18 rfl ?_ | refine Es_aload_nN (hC _) dX3_pairOf_18 rfl ?_
            refine Sg_X3_3 (hC _) fl_X3_25 dX3_pairOf_19 hw ?_
            rw [hp]
            refine Es_icmp_ge (hC _) 71 dX3_pairOf_22 (by decide) (fun hb22 => False.elim (nI_ge (b := p) (a := i) (by omega) (by omega) hb22)) (fun hb22 => ?_)
            first | refine Es_aload_n (hC _) dX3_pairOf_25 rfl ?_ | refine Es_aload_nN (hC _) dX3_pairOf_25 rfl ?_
            refine Es_iload_n (hC _) dX3_pairOf_26 rfl ?_
            refine Es_fV (hC _) mv_X3_40 dX3_pairOf_27 (c_kindOf_in hw hp h7 (by omega)) (ok18 hw) rfl ⟨_, rfl, rfl⟩ rfl rfl (by decide) (Nat.le_of_ble_eq_true rfl) ?_
            refine Es_iconst (v := 2) (hC _) dX3_pairOf_30 (by decide) ?_
            refine Es_icmp_eq (hC _) 37 dX3_pairOf_31 (by decide) (fun hb31 => ?_) (fun hb31 => False.elim (hb31 hki))
            refine Es_iload_n (hC _) dX3_pairOf_37 rfl ?_
            refine Es_bipush (v := -9) (hC _) dX3_pairOf_38 (by decide) ?_
            refine Es_icmp_ne (hC _) 48 dX3_pairOf_40 (by decide) (fun hb40 => ?_) (fun hb40 => False.elim (nI_pos (n := o) (by omega) (by rw [hb40]; decide)))
            refine Es_iload_n (hC _) dX3_pairOf_48 rfl ?_
            refine Es_iload_n (hC _) dX3_pairOf_49 rfl ?_
            refine Es_icmp_ne (hC _) 55 dX3_pairOf_50 (by decide) (fun hb50 => ?_) (fun hb50 => False.elim (hoq ((nI_eq (by omega) (by omega)).mp hb50)))
            refine Es_iload_n (hC _) dX3_pairOf_55 rfl ?_
            refine Es_iload_n (hC _) dX3_pairOf_56 rfl ?_
            refine Es_icmp_ne (hC _) 62 dX3_pairOf_57 (by decide) (fun hb57 => ?_) (fun hb57 => False.elim (hiq ((nI_eq (by omega) (by omega)).mp hb57)))
            refine Es_bipush (v := -9) (hC _) dX3_pairOf_62 (by decide) ?_
            refine Es_istore_n (lv' := [_, _, _, _]) (hC _) dX3_pairOf_64 (by decide) rfl rfl ?_
            refine Es_iinc (lv' := [_, _, _, _]) (hC _) dX3_pairOf_65 (by decide) rfl (show _ + Int32.ofInt (1) = _ + (1) from rfl) rfl rfl ?_
            refine Es_goto (hC _) 17 dX3_pairOf_68 (by decide) ?_
            rw [nI_1]
            exact ih (i + 1) _ (by omega) (by omega) (prI_close hki ho2 ho3 he hoq hiq hI)
    · skip
      refine Es_iload_n (hC _) dX3_pairOf_17 rfl ?_
      first | refine Es_aload_n (hC _) dX3_pairOf_18 rfl ?_ | refine Es_aload_nN (hC _) dX3_pairOf_18 rfl ?_
      refine Sg_X3_3 (hC _) fl_X3_25 dX3_pairOf_19 hw ?_
      rw [hp]
      refine Es_icmp_ge (hC _) 71 dX3_pairOf_22 (by decide) (fun hb22 => False.elim (nI_ge (b := p) (a := i) (by omega) (by omega) hb22)) (fun hb22 => ?_)
      first | refine Es_aload_n (hC _) dX3_pairOf_25 rfl ?_ | refine Es_aload_nN (hC _) dX3_pairOf_25 rfl ?_
      refine Es_iload_n (hC _) dX3_pairOf_26 rfl ?_
      refine Es_fV (hC _) mv_X3_40 dX3_pairOf_27 (c_kindOf_in hw hp h7 (by omega)) (ok18 hw) rfl ⟨_, rfl, rfl⟩ rfl rfl (by decide) (Nat.le_of_ble_eq_true rfl) ?_
      refine Es_iconst (v := 2) (hC _) dX3_pairOf_30 (by decide) ?_
      refine Es_icmp_eq (hC _) 37 dX3_pairOf_31 (by decide) (fun hb31 => False.elim (hki hb31)) (fun hb31 => ?_)
      refine Es_goto (hC _) 65 dX3_pairOf_34 (by decide) ?_
      refine Es_iinc (lv' := [_, _, _, _]) (hC _) dX3_pairOf_65 (by decide) rfl (show _ + Int32.ofInt (1) = _ + (1) from rfl) rfl rfl ?_
      refine Es_goto (hC _) 17 dX3_pairOf_68 (by decide) ?_
      rw [nI_1]
      exact ih (i + 1) _ (by omega) (by omega) (prI_skip hki hI)
set_option maxRecDepth 100000 in
set_option maxHeartbeats 4000000 in
theorem c_pairOf_tw {ad : sA} {nw nt : Nat} {B : sB} {L : sL} {w p : Nat} (hw : w < nw) (hp : B 18 w 3 = nI p) (h7 : p ≤ 7) {q : Nat} (hq : q < p) (hk2 : B 19 w q = 2) : Cf yX3_pairOf cX3_pairOf 4 (some FieldType.int) 2 [.ref (ad 18 w), .int (nI q)] ad nw nt B L (some (.int (prV (B 19 w) p q))) (B) (L) := by
  have hC : ∀ Q, je_Ok (sCm yX3_pairOf cX3_pairOf 4 (some FieldType.int) 2 ad nw nt Q) RX3 cX3_pairOf 4 2 := fun _ => je_Cm_ok
  refine Cs_of [some (.ref (ad 18 w)), some (.int (nI q)), none, none] (by decide) rfl (Nat.le_of_ble_eq_true rfl) ?_
  first | refine Es_aload_n (hC _) dX3_pairOf_0 rfl ?_ | refine Es_aload_nN (hC _) dX3_pairOf_0 rfl ?_
  refine Es_iload_n (hC _) dX3_pairOf_1 rfl ?_
  refine Es_fV (hC _) mv_X3_40 dX3_pairOf_2 (c_kindOf_in hw hp h7 (by omega)) (ok18 hw) rfl ⟨_, rfl, rfl⟩ rfl rfl (by decide) (Nat.le_of_ble_eq_true rfl) ?_
  refine Es_iconst (v := 2) (hC _) dX3_pairOf_5 (by decide) ?_
  refine Es_icmp_eq (hC _) 12 dX3_pairOf_6 (by decide) (fun hb6 => ?_) (fun hb6 => False.elim (hb6 hk2))
  refine Es_bipush (v := -9) (hC _) dX3_pairOf_12 (by decide) ?_
  refine Es_istore_n (lv' := [_, _, _, _]) (hC _) dX3_pairOf_14 (by decide) rfl rfl ?_
  refine Es_iconst (v := 0) (hC _) dX3_pairOf_15 (by decide) ?_
  refine Es_istore_n (lv' := [_, _, _, _]) (hC _) dX3_pairOf_16 (by decide) rfl rfl ?_
  exact l_pair hw hp h7 hq hk2 p 0 (-9) (by omega) (by omega) prI_0

set_option maxRecDepth 100000 in
set_option maxHeartbeats 4000000 in
theorem c_pairOf_no {ad : sA} {nw nt : Nat} {B : sB} {L : sL} {w p : Nat} (hw : w < nw) (hp : B 18 w 3 = nI p) (h7 : p ≤ 7) {q : Nat} (hq : q < p) (hk2 : ¬ B 19 w q = 2) : Cf yX3_pairOf cX3_pairOf 4 (some FieldType.int) 2 [.ref (ad 18 w), .int (nI q)] ad nw nt B L (some (.int (prV (B 19 w) p q))) (B) (L) := by
  have hC : ∀ Q, je_Ok (sCm yX3_pairOf cX3_pairOf 4 (some FieldType.int) 2 ad nw nt Q) RX3 cX3_pairOf 4 2 := fun _ => je_Cm_ok
  refine Cs_of [some (.ref (ad 18 w)), some (.int (nI q)), none, none] (by decide) rfl (Nat.le_of_ble_eq_true rfl) ?_
  first | refine Es_aload_n (hC _) dX3_pairOf_0 rfl ?_ | refine Es_aload_nN (hC _) dX3_pairOf_0 rfl ?_
  refine Es_iload_n (hC _) dX3_pairOf_1 rfl ?_
  refine Es_fV (hC _) mv_X3_40 dX3_pairOf_2 (c_kindOf_in hw hp h7 (by omega)) (ok18 hw) rfl ⟨_, rfl, rfl⟩ rfl rfl (by decide) (Nat.le_of_ble_eq_true rfl) ?_
  refine Es_iconst (v := 2) (hC _) dX3_pairOf_5 (by decide) ?_
  refine Es_icmp_eq (hC _) 12 dX3_pairOf_6 (by decide) (fun hb6 => False.elim (hk2 hb6)) (fun hb6 => ?_)
  refine Es_bipush (v := -9) (hC _) dX3_pairOf_9 (by decide) ?_
  exact Es_iret dX3_pairOf_11 rfl ⟨by rw [prV_no hk2], rfl, rfl⟩

theorem c_pairOf {ad : sA} {nw nt : Nat} {B : sB} {L : sL} {w p : Nat} (hw : w < nw) (hp : B 18 w 3 = nI p) (h7 : p ≤ 7) {q : Nat} (hq : q < p) : Cf yX3_pairOf cX3_pairOf 4 (some FieldType.int) 2 [.ref (ad 18 w), .int (nI q)] ad nw nt B L (some (.int (prV (B 19 w) p q))) B L := by
  by_cases hk2 : B 19 w q = 2
  · exact c_pairOf_tw hw hp h7 hq hk2
  · exact c_pairOf_no hw hp h7 hq hk2
set_option maxRecDepth 100000 in
set_option maxHeartbeats 4000000 in
theorem c_flawOn_1 {ad : sA} {nw nt : Nat} {B : sB} {L : sL} {w p : Nat} (hw : w < nw) (hp : B 18 w 3 = nI p) (h7 : p ≤ 7) {q ap : Nat} (hq : q < p) (hap : ap ≤ 100) (h40 : nt ≤ 40) (hF : TFa nt B L) (hon : B 20 w q = -1) (h4 : B 19 w q = 4) : Cf yX3_flawOn cX3_flawOn 8 (some FieldType.int) 3 [.ref (ad 18 w), .int (nI q), .ref (ad 3 0), .int (nI ap)] ad nw nt B L (some (.int (nI (flS B L w p ap q)))) (B) (L) := by
  have hC : ∀ Q, je_Ok (sCm yX3_flawOn cX3_flawOn 8 (some FieldType.int) 3 ad nw nt Q) RX3 cX3_flawOn 8 3 := fun _ => je_Cm_ok
  refine Cs_of [some (.ref (ad 18 w)), some (.int (nI q)), some (.ref (ad 3 0)), some (.int (nI ap)), none, none, none, none] (by decide) rfl (Nat.le_of_ble_eq_true rfl) ?_
  first | refine Es_aload_n (hC _) dX3_flawOn_0 rfl ?_ | refine Es_aload_nN (hC _) dX3_flawOn_0 rfl ?_
  refine Es_iload_n (hC _) dX3_flawOn_1 rfl ?_
  refine Es_fV (hC _) mv_X3_40 dX3_flawOn_2 (c_kindOf_in hw hp h7 (by omega)) (ok18 hw) rfl ⟨_, rfl, rfl⟩ rfl rfl (by decide) (Nat.le_of_ble_eq_true rfl) ?_
  refine Es_istore (lv' := [_, _, _, _, _, _, _, _]) (hC _) dX3_flawOn_5 (by decide) rfl rfl ?_
  first | refine Es_aload_n (hC _) dX3_flawOn_7 rfl ?_ | refine Es_aload_nN (hC _) dX3_flawOn_7 rfl ?_
  refine Es_iload_n (hC _) dX3_flawOn_8 rfl ?_
  refine Es_fV (hC _) mv_X3_48 dX3_flawOn_9 (c_tyreOn_in hw hp h7 (by omega)) (ok18 hw) rfl ⟨_, rfl, rfl⟩ rfl rfl (by decide) (Nat.le_of_ble_eq_true rfl) ?_
  rw [show rT ad (B 20 w q) = none by rw [hon]; rfl]
  first | refine Es_astore (lv' := [_, _, _, _, _, _, _, _]) (hC _) dX3_flawOn_12 (by decide) rfl rfl ?_ | refine Es_astoreN (lv' := [_, _, _, _, _, _, _, _]) (hC _) dX3_flawOn_12 (by decide) rfl rfl ?_
  first | refine Es_aload (hC _) dX3_flawOn_14 rfl ?_ | refine Es_aloadN (hC _) dX3_flawOn_14 rfl ?_
  refine Es_ifnonnullN (hC _) dX3_flawOn_16 ?_
  refine Es_iload (hC _) dX3_flawOn_19 rfl ?_
  refine Es_iconst (v := 4) (hC _) dX3_flawOn_21 (by decide) ?_
  refine Es_icmp_ne (hC _) 29 dX3_flawOn_22 (by decide) (fun hb22 => False.elim (hb22 h4)) (fun hb22 => ?_)
  refine Es_iconst (v := 0) (hC _) dX3_flawOn_25 (by decide) ?_
  refine Es_goto (hC _) 30 dX3_flawOn_26 (by decide) ?_
  exact Es_iret dX3_flawOn_30 rfl ⟨by rw [fl_1 hon h4]; rfl, rfl, rfl⟩

set_option maxRecDepth 100000 in
set_option maxHeartbeats 4000000 in
theorem c_flawOn_2 {ad : sA} {nw nt : Nat} {B : sB} {L : sL} {w p : Nat} (hw : w < nw) (hp : B 18 w 3 = nI p) (h7 : p ≤ 7) {q ap : Nat} (hq : q < p) (hap : ap ≤ 100) (h40 : nt ≤ 40) (hF : TFa nt B L) (hon : B 20 w q = -1) (h4 : ¬ B 19 w q = 4) : Cf yX3_flawOn cX3_flawOn 8 (some FieldType.int) 3 [.ref (ad 18 w), .int (nI q), .ref (ad 3 0), .int (nI ap)] ad nw nt B L (some (.int (nI (flS B L w p ap q)))) (B) (L) := by
  have hC : ∀ Q, je_Ok (sCm yX3_flawOn cX3_flawOn 8 (some FieldType.int) 3 ad nw nt Q) RX3 cX3_flawOn 8 3 := fun _ => je_Cm_ok
  refine Cs_of [some (.ref (ad 18 w)), some (.int (nI q)), some (.ref (ad 3 0)), some (.int (nI ap)), none, none, none, none] (by decide) rfl (Nat.le_of_ble_eq_true rfl) ?_
  first | refine Es_aload_n (hC _) dX3_flawOn_0 rfl ?_ | refine Es_aload_nN (hC _) dX3_flawOn_0 rfl ?_
  refine Es_iload_n (hC _) dX3_flawOn_1 rfl ?_
  refine Es_fV (hC _) mv_X3_40 dX3_flawOn_2 (c_kindOf_in hw hp h7 (by omega)) (ok18 hw) rfl ⟨_, rfl, rfl⟩ rfl rfl (by decide) (Nat.le_of_ble_eq_true rfl) ?_
  refine Es_istore (lv' := [_, _, _, _, _, _, _, _]) (hC _) dX3_flawOn_5 (by decide) rfl rfl ?_
  first | refine Es_aload_n (hC _) dX3_flawOn_7 rfl ?_ | refine Es_aload_nN (hC _) dX3_flawOn_7 rfl ?_
  refine Es_iload_n (hC _) dX3_flawOn_8 rfl ?_
  refine Es_fV (hC _) mv_X3_48 dX3_flawOn_9 (c_tyreOn_in hw hp h7 (by omega)) (ok18 hw) rfl ⟨_, rfl, rfl⟩ rfl rfl (by decide) (Nat.le_of_ble_eq_true rfl) ?_
  rw [show rT ad (B 20 w q) = none by rw [hon]; rfl]
  first | refine Es_astore (lv' := [_, _, _, _, _, _, _, _]) (hC _) dX3_flawOn_12 (by decide) rfl rfl ?_ | refine Es_astoreN (lv' := [_, _, _, _, _, _, _, _]) (hC _) dX3_flawOn_12 (by decide) rfl rfl ?_
  first | refine Es_aload (hC _) dX3_flawOn_14 rfl ?_ | refine Es_aloadN (hC _) dX3_flawOn_14 rfl ?_
  refine Es_ifnonnullN (hC _) dX3_flawOn_16 ?_
  refine Es_iload (hC _) dX3_flawOn_19 rfl ?_
  refine Es_iconst (v := 4) (hC _) dX3_flawOn_21 (by decide) ?_
  refine Es_icmp_ne (hC _) 29 dX3_flawOn_22 (by decide) (fun hb22 => ?_) (fun hb22 => False.elim (h4 hb22))
  refine Es_iconst (v := 1) (hC _) dX3_flawOn_29 (by decide) ?_
  exact Es_iret dX3_flawOn_30 rfl ⟨by rw [fl_2 hon h4]; rfl, rfl, rfl⟩

set_option maxRecDepth 100000 in
set_option maxHeartbeats 4000000 in
theorem c_flawOn_3 {ad : sA} {nw nt : Nat} {B : sB} {L : sL} {w p : Nat} (hw : w < nw) (hp : B 18 w 3 = nI p) (h7 : p ≤ 7) {q ap : Nat} (hq : q < p) (hap : ap ≤ 100) (h40 : nt ≤ 40) (hF : TFa nt B L) {t k l : Nat} (ht : t < nt) (hon : B 20 w q = nI t) (hk : B 19 w q = nI k) (hk5 : k < 5) (hl : B 3 0 k = nI l) (hl1 : l ≤ 100) (h0 : B 19 w q = 0) (h1 : 0 < B 21 t 7) : Cf yX3_flawOn cX3_flawOn 8 (some FieldType.int) 3 [.ref (ad 18 w), .int (nI q), .ref (ad 3 0), .int (nI ap)] ad nw nt B L (some (.int (nI (flS B L w p ap q)))) (B) (L) := by
  have hC : ∀ Q, je_Ok (sCm yX3_flawOn cX3_flawOn 8 (some FieldType.int) 3 ad nw nt Q) RX3 cX3_flawOn 8 3 := fun _ => je_Cm_ok
  refine Cs_of [some (.ref (ad 18 w)), some (.int (nI q)), some (.ref (ad 3 0)), some (.int (nI ap)), none, none, none, none] (by decide) rfl (Nat.le_of_ble_eq_true rfl) ?_
  first | refine Es_aload_n (hC _) dX3_flawOn_0 rfl ?_ | refine Es_aload_nN (hC _) dX3_flawOn_0 rfl ?_
  refine Es_iload_n (hC _) dX3_flawOn_1 rfl ?_
  refine Es_fV (hC _) mv_X3_40 dX3_flawOn_2 (c_kindOf_in hw hp h7 (by omega)) (ok18 hw) rfl ⟨_, rfl, rfl⟩ rfl rfl (by decide) (Nat.le_of_ble_eq_true rfl) ?_
  refine Es_istore (lv' := [_, _, _, _, _, _, _, _]) (hC _) dX3_flawOn_5 (by decide) rfl rfl ?_
  first | refine Es_aload_n (hC _) dX3_flawOn_7 rfl ?_ | refine Es_aload_nN (hC _) dX3_flawOn_7 rfl ?_
  refine Es_iload_n (hC _) dX3_flawOn_8 rfl ?_
  refine Es_fV (hC _) mv_X3_48 dX3_flawOn_9 (c_tyreOn_in hw hp h7 (by omega)) (ok18 hw) rfl ⟨_, rfl, rfl⟩ rfl rfl (by decide) (Nat.le_of_ble_eq_true rfl) ?_
  rw [show rT ad (B 20 w q) = some (ad 21 t) by rw [hon, rT, if_neg (nI_pos (by omega)), nI_clamp (by omega)]]
  first | refine Es_astore (lv' := [_, _, _, _, _, _, _, _]) (hC _) dX3_flawOn_12 (by decide) rfl rfl ?_ | refine Es_astoreN (lv' := [_, _, _, _, _, _, _, _]) (hC _) dX3_flawOn_12 (by decide) rfl rfl ?_
  first | refine Es_aload (hC _) dX3_flawOn_14 rfl ?_ | refine Es_aloadN (hC _) dX3_flawOn_14 rfl ?_
  refine Es_ifnonnull (hC _) 31 dX3_flawOn_16 (by decide) ?_
  refine Es_iload (hC _) dX3_flawOn_31 rfl ?_
  refine Es_if_ne (hC _) 46 dX3_flawOn_33 (by decide) (fun hb33 => False.elim (hb33 h0)) (fun hb33 => ?_)
  first | refine Es_aload (hC _) dX3_flawOn_36 rfl ?_ | refine Es_aloadN (hC _) dX3_flawOn_36 rfl ?_
  refine Sg_X2_7 (hC _) fl_X3_52 dX3_flawOn_38 (by assumption) ?_
  refine Es_if_le (hC _) 46 dX3_flawOn_41 (by decide) (fun hb41 => False.elim (Int32.not_lt.mpr hb41 h1)) (fun hb41 => ?_)
  refine Es_iconst (v := 2) (hC _) dX3_flawOn_44 (by decide) ?_
  exact Es_iret dX3_flawOn_45 rfl ⟨by rw [fl_3 hon (by omega) h0 h1]; rfl, rfl, rfl⟩

set_option maxRecDepth 100000 in
set_option maxHeartbeats 4000000 in
theorem c_flawOn_4a {ad : sA} {nw nt : Nat} {B : sB} {L : sL} {w p : Nat} (hw : w < nw) (hp : B 18 w 3 = nI p) (h7 : p ≤ 7) {q ap : Nat} (hq : q < p) (hap : ap ≤ 100) (h40 : nt ≤ 40) (hF : TFa nt B L) {t k l : Nat} (ht : t < nt) (hon : B 20 w q = nI t) (hk : B 19 w q = nI k) (hk5 : k < 5) (hl : B 3 0 k = nI l) (hl1 : l ≤ 100) (hs : ¬ B 19 w q = 0) (h1 : tDp B L t 0 < l) : Cf yX3_flawOn cX3_flawOn 8 (some FieldType.int) 3 [.ref (ad 18 w), .int (nI q), .ref (ad 3 0), .int (nI ap)] ad nw nt B L (some (.int (nI (flS B L w p ap q)))) (B) (L) := by
  have hC : ∀ Q, je_Ok (sCm yX3_flawOn cX3_flawOn 8 (some FieldType.int) 3 ad nw nt Q) RX3 cX3_flawOn 8 3 := fun _ => je_Cm_ok
  refine Cs_of [some (.ref (ad 18 w)), some (.int (nI q)), some (.ref (ad 3 0)), some (.int (nI ap)), none, none, none, none] (by decide) rfl (Nat.le_of_ble_eq_true rfl) ?_
  have hdl := tDp_le (mo := 0) hF ht
  first | refine Es_aload_n (hC _) dX3_flawOn_0 rfl ?_ | refine Es_aload_nN (hC _) dX3_flawOn_0 rfl ?_
  refine Es_iload_n (hC _) dX3_flawOn_1 rfl ?_
  refine Es_fV (hC _) mv_X3_40 dX3_flawOn_2 (c_kindOf_in hw hp h7 (by omega)) (ok18 hw) rfl ⟨_, rfl, rfl⟩ rfl rfl (by decide) (Nat.le_of_ble_eq_true rfl) ?_
  refine Es_istore (lv' := [_, _, _, _, _, _, _, _]) (hC _) dX3_flawOn_5 (by decide) rfl rfl ?_
  first | refine Es_aload_n (hC _) dX3_flawOn_7 rfl ?_ | refine Es_aload_nN (hC _) dX3_flawOn_7 rfl ?_
  refine Es_iload_n (hC _) dX3_flawOn_8 rfl ?_
  refine Es_fV (hC _) mv_X3_48 dX3_flawOn_9 (c_tyreOn_in hw hp h7 (by omega)) (ok18 hw) rfl ⟨_, rfl, rfl⟩ rfl rfl (by decide) (Nat.le_of_ble_eq_true rfl) ?_
  rw [show rT ad (B 20 w q) = some (ad 21 t) by rw [hon, rT, if_neg (nI_pos (by omega)), nI_clamp (by omega)]]
  first | refine Es_astore (lv' := [_, _, _, _, _, _, _, _]) (hC _) dX3_flawOn_12 (by decide) rfl rfl ?_ | refine Es_astoreN (lv' := [_, _, _, _, _, _, _, _]) (hC _) dX3_flawOn_12 (by decide) rfl rfl ?_
  first | refine Es_aload (hC _) dX3_flawOn_14 rfl ?_ | refine Es_aloadN (hC _) dX3_flawOn_14 rfl ?_
  refine Es_ifnonnull (hC _) 31 dX3_flawOn_16 (by decide) ?_
  refine Es_iload (hC _) dX3_flawOn_31 rfl ?_
  refine Es_if_ne (hC _) 46 dX3_flawOn_33 (by decide) (fun hb33 => ?_) (fun hb33 => False.elim (hs hb33))
  first | refine Es_aload (hC _) dX3_flawOn_46 rfl ?_ | refine Es_aloadN (hC _) dX3_flawOn_46 rfl ?_
  refine Es_iconst (v := 0) (hC _) dX3_flawOn_48 (by decide) ?_
  refine Es_fV (hC _) mv_X3_55 dX3_flawOn_49 (cT_depth (mo := 0) hF ht (by decide)) (ok21 ht) rfl ⟨_, rfl, rfl⟩ rfl rfl (by decide) (Nat.le_of_ble_eq_true rfl) ?_
  refine Es_istore (lv' := [_, _, _, _, _, _, _, _]) (hC _) dX3_flawOn_52 (by decide) rfl rfl ?_
  refine Es_iload (hC _) dX3_flawOn_54 rfl ?_
  first | refine Es_aload_n (hC _) dX3_flawOn_56 rfl ?_ | refine Es_aload_nN (hC _) dX3_flawOn_56 rfl ?_
  refine Es_iload (hC _) dX3_flawOn_57 rfl ?_
  rw [hk]
  refine Es_fSN (hC _) ms_X3_36 dX3_flawOn_59 (c_at (kd := 3) (n := 5) (k := k) rfl rfl rfl (by omega) (by decide)) rfl rfl (by decide) (Nat.le_of_ble_eq_true rfl) ?_
  rw [hl]
  refine Es_icmp_ge (hC _) 67 dX3_flawOn_62 (by decide) (fun hb62 => False.elim (nI_ge (b := l) (a := tDp B L t 0) h1 (by omega) hb62)) (fun hb62 => ?_)
  refine Es_iconst (v := 3) (hC _) dX3_flawOn_65 (by decide) ?_
  exact Es_iret dX3_flawOn_66 rfl ⟨by rw [fl_4 hon (by omega) hk hk5 hl hl1 (fun z => hs z.1) h1]; rfl, rfl, rfl⟩

set_option maxRecDepth 100000 in
set_option maxHeartbeats 4000000 in
theorem c_flawOn_5a {ad : sA} {nw nt : Nat} {B : sB} {L : sL} {w p : Nat} (hw : w < nw) (hp : B 18 w 3 = nI p) (h7 : p ≤ 7) {q ap : Nat} (hq : q < p) (hap : ap ≤ 100) (h40 : nt ≤ 40) (hF : TFa nt B L) {t k l : Nat} (ht : t < nt) (hon : B 20 w q = nI t) (hk : B 19 w q = nI k) (hk5 : k < 5) (hl : B 3 0 k = nI l) (hl1 : l ≤ 100) (hs : ¬ B 19 w q = 0) (h1 : ¬ tDp B L t 0 < l) (h2 : prX (B 19 w) p q = none) : Cf yX3_flawOn cX3_flawOn 8 (some FieldType.int) 3 [.ref (ad 18 w), .int (nI q), .ref (ad 3 0), .int (nI ap)] ad nw nt B L (some (.int (nI (flS B L w p ap q)))) (B) (L) := by
  have hC : ∀ Q, je_Ok (sCm yX3_flawOn cX3_flawOn 8 (some FieldType.int) 3 ad nw nt Q) RX3 cX3_flawOn 8 3 := fun _ => je_Cm_ok
  refine Cs_of [some (.ref (ad 18 w)), some (.int (nI q)), some (.ref (ad 3 0)), some (.int (nI ap)), none, none, none, none] (by decide) rfl (Nat.le_of_ble_eq_true rfl) ?_
  have hdl := tDp_le (mo := 0) hF ht
  first | refine Es_aload_n (hC _) dX3_flawOn_0 rfl ?_ | refine Es_aload_nN (hC _) dX3_flawOn_0 rfl ?_
  refine Es_iload_n (hC _) dX3_flawOn_1 rfl ?_
  refine Es_fV (hC _) mv_X3_40 dX3_flawOn_2 (c_kindOf_in hw hp h7 (by omega)) (ok18 hw) rfl ⟨_, rfl, rfl⟩ rfl rfl (by decide) (Nat.le_of_ble_eq_true rfl) ?_
  refine Es_istore (lv' := [_, _, _, _, _, _, _, _]) (hC _) dX3_flawOn_5 (by decide) rfl rfl ?_
  first | refine Es_aload_n (hC _) dX3_flawOn_7 rfl ?_ | refine Es_aload_nN (hC _) dX3_flawOn_7 rfl ?_
  refine Es_iload_n (hC _) dX3_flawOn_8 rfl ?_
  refine Es_fV (hC _) mv_X3_48 dX3_flawOn_9 (c_tyreOn_in hw hp h7 (by omega)) (ok18 hw) rfl ⟨_, rfl, rfl⟩ rfl rfl (by decide) (Nat.le_of_ble_eq_true rfl) ?_
  rw [show rT ad (B 20 w q) = some (ad 21 t) by rw [hon, rT, if_neg (nI_pos (by omega)), nI_clamp (by omega)]]
  first | refine Es_astore (lv' := [_, _, _, _, _, _, _, _]) (hC _) dX3_flawOn_12 (by decide) rfl rfl ?_ | refine Es_astoreN (lv' := [_, _, _, _, _, _, _, _]) (hC _) dX3_flawOn_12 (by decide) rfl rfl ?_
  first | refine Es_aload (hC _) dX3_flawOn_14 rfl ?_ | refine Es_aloadN (hC _) dX3_flawOn_14 rfl ?_
  refine Es_ifnonnull (hC _) 31 dX3_flawOn_16 (by decide) ?_
  refine Es_iload (hC _) dX3_flawOn_31 rfl ?_
  refine Es_if_ne (hC _) 46 dX3_flawOn_33 (by decide) (fun hb33 => ?_) (fun hb33 => False.elim (hs hb33))
  first | refine Es_aload (hC _) dX3_flawOn_46 rfl ?_ | refine Es_aloadN (hC _) dX3_flawOn_46 rfl ?_
  refine Es_iconst (v := 0) (hC _) dX3_flawOn_48 (by decide) ?_
  refine Es_fV (hC _) mv_X3_55 dX3_flawOn_49 (cT_depth (mo := 0) hF ht (by decide)) (ok21 ht) rfl ⟨_, rfl, rfl⟩ rfl rfl (by decide) (Nat.le_of_ble_eq_true rfl) ?_
  refine Es_istore (lv' := [_, _, _, _, _, _, _, _]) (hC _) dX3_flawOn_52 (by decide) rfl rfl ?_
  refine Es_iload (hC _) dX3_flawOn_54 rfl ?_
  first | refine Es_aload_n (hC _) dX3_flawOn_56 rfl ?_ | refine Es_aload_nN (hC _) dX3_flawOn_56 rfl ?_
  refine Es_iload (hC _) dX3_flawOn_57 rfl ?_
  rw [hk]
  refine Es_fSN (hC _) ms_X3_36 dX3_flawOn_59 (c_at (kd := 3) (n := 5) (k := k) rfl rfl rfl (by omega) (by decide)) rfl rfl (by decide) (Nat.le_of_ble_eq_true rfl) ?_
  rw [hl]
  refine Es_icmp_ge (hC _) 67 dX3_flawOn_62 (by decide) (fun hb62 => ?_) (fun hb62 => False.elim (hb62 (nI_le (a := l) (b := tDp B L t 0) (by omega) (by omega))))
  first | refine Es_aload_n (hC _) dX3_flawOn_67 rfl ?_ | refine Es_aload_nN (hC _) dX3_flawOn_67 rfl ?_
  first | refine Es_aload_n (hC _) dX3_flawOn_68 rfl ?_ | refine Es_aload_nN (hC _) dX3_flawOn_68 rfl ?_
  refine Es_iload_n (hC _) dX3_flawOn_69 rfl ?_
  refine Es_fV (hC _) mv_X3_58 dX3_flawOn_70 (c_pairOf hw hp h7 hq) (ok18 hw) rfl ⟨_, rfl, rfl⟩ rfl rfl (by decide) (Nat.le_of_ble_eq_true rfl) ?_
  rw [show prV (B 19 w) p q = -9 by unfold prV; rw [h2]]
  refine Es_fV (hC _) mv_X3_48 dX3_flawOn_73 (c_tyreOn_out hw hp h7 (Or.inl (by decide))) (ok18 hw) rfl ⟨_, rfl, rfl⟩ rfl rfl (by decide) (Nat.le_of_ble_eq_true rfl) ?_
  first | refine Es_astore (lv' := [_, _, _, _, _, _, _, _]) (hC _) dX3_flawOn_76 (by decide) rfl rfl ?_ | refine Es_astoreN (lv' := [_, _, _, _, _, _, _, _]) (hC _) dX3_flawOn_76 (by decide) rfl rfl ?_
  first | refine Es_aload (hC _) dX3_flawOn_78 rfl ?_ | refine Es_aloadN (hC _) dX3_flawOn_78 rfl ?_
  refine Es_ifnullN (hC _) 103 dX3_flawOn_80 (by decide) ?_
  refine Es_iconst (v := 0) (hC _) dX3_flawOn_103 (by decide) ?_
  exact Es_iret dX3_flawOn_104 rfl ⟨by rw [fl_5 hon (by omega) hk hk5 hl hl1 (fun z => hs z.1) h1 h2]; rfl, rfl, rfl⟩

set_option maxRecDepth 100000 in
set_option maxHeartbeats 4000000 in
theorem c_flawOn_6a {ad : sA} {nw nt : Nat} {B : sB} {L : sL} {w p : Nat} (hw : w < nw) (hp : B 18 w 3 = nI p) (h7 : p ≤ 7) {q ap : Nat} (hq : q < p) (hap : ap ≤ 100) (h40 : nt ≤ 40) (hF : TFa nt B L) {t k l : Nat} (ht : t < nt) (hon : B 20 w q = nI t) (hk : B 19 w q = nI k) (hk5 : k < 5) (hl : B 3 0 k = nI l) (hl1 : l ≤ 100) (hs : ¬ B 19 w q = 0) {q2 : Nat} (h1 : ¬ tDp B L t 0 < l) (h2 : prX (B 19 w) p q = some q2) (hq2 : q2 < p) (hon2 : B 20 w q2 = -1) : Cf yX3_flawOn cX3_flawOn 8 (some FieldType.int) 3 [.ref (ad 18 w), .int (nI q), .ref (ad 3 0), .int (nI ap)] ad nw nt B L (some (.int (nI (flS B L w p ap q)))) (B) (L) := by
  have hC : ∀ Q, je_Ok (sCm yX3_flawOn cX3_flawOn 8 (some FieldType.int) 3 ad nw nt Q) RX3 cX3_flawOn 8 3 := fun _ => je_Cm_ok
  refine Cs_of [some (.ref (ad 18 w)), some (.int (nI q)), some (.ref (ad 3 0)), some (.int (nI ap)), none, none, none, none] (by decide) rfl (Nat.le_of_ble_eq_true rfl) ?_
  have hdl := tDp_le (mo := 0) hF ht
  first | refine Es_aload_n (hC _) dX3_flawOn_0 rfl ?_ | refine Es_aload_nN (hC _) dX3_flawOn_0 rfl ?_
  refine Es_iload_n (hC _) dX3_flawOn_1 rfl ?_
  refine Es_fV (hC _) mv_X3_40 dX3_flawOn_2 (c_kindOf_in hw hp h7 (by omega)) (ok18 hw) rfl ⟨_, rfl, rfl⟩ rfl rfl (by decide) (Nat.le_of_ble_eq_true rfl) ?_
  refine Es_istore (lv' := [_, _, _, _, _, _, _, _]) (hC _) dX3_flawOn_5 (by decide) rfl rfl ?_
  first | refine Es_aload_n (hC _) dX3_flawOn_7 rfl ?_ | refine Es_aload_nN (hC _) dX3_flawOn_7 rfl ?_
  refine Es_iload_n (hC _) dX3_flawOn_8 rfl ?_
  refine Es_fV (hC _) mv_X3_48 dX3_flawOn_9 (c_tyreOn_in hw hp h7 (by omega)) (ok18 hw) rfl ⟨_, rfl, rfl⟩ rfl rfl (by decide) (Nat.le_of_ble_eq_true rfl) ?_
  rw [show rT ad (B 20 w q) = some (ad 21 t) by rw [hon, rT, if_neg (nI_pos (by omega)), nI_clamp (by omega)]]
  first | refine Es_astore (lv' := [_, _, _, _, _, _, _, _]) (hC _) dX3_flawOn_12 (by decide) rfl rfl ?_ | refine Es_astoreN (lv' := [_, _, _, _, _, _, _, _]) (hC _) dX3_flawOn_12 (by decide) rfl rfl ?_
  first | refine Es_aload (hC _) dX3_flawOn_14 rfl ?_ | refine Es_aloadN (hC _) dX3_flawOn_14 rfl ?_
  refine Es_ifnonnull (hC _) 31 dX3_flawOn_16 (by decide) ?_
  refine Es_iload (hC _) dX3_flawOn_31 rfl ?_
  refine Es_if_ne (hC _) 46 dX3_flawOn_33 (by decide) (fun hb33 => ?_) (fun hb33 => False.elim (hs hb33))
  first | refine Es_aload (hC _) dX3_flawOn_46 rfl ?_ | refine Es_aloadN (hC _) dX3_flawOn_46 rfl ?_
  refine Es_iconst (v := 0) (hC _) dX3_flawOn_48 (by decide) ?_
  refine Es_fV (hC _) mv_X3_55 dX3_flawOn_49 (cT_depth (mo := 0) hF ht (by decide)) (ok21 ht) rfl ⟨_, rfl, rfl⟩ rfl rfl (by decide) (Nat.le_of_ble_eq_true rfl) ?_
  refine Es_istore (lv' := [_, _, _, _, _, _, _, _]) (hC _) dX3_flawOn_52 (by decide) rfl rfl ?_
  refine Es_iload (hC _) dX3_flawOn_54 rfl ?_
  first | refine Es_aload_n (hC _) dX3_flawOn_56 rfl ?_ | refine Es_aload_nN (hC _) dX3_flawOn_56 rfl ?_
  refine Es_iload (hC _) dX3_flawOn_57 rfl ?_
  rw [hk]
  refine Es_fSN (hC _) ms_X3_36 dX3_flawOn_59 (c_at (kd := 3) (n := 5) (k := k) rfl rfl rfl (by omega) (by decide)) rfl rfl (by decide) (Nat.le_of_ble_eq_true rfl) ?_
  rw [hl]
  refine Es_icmp_ge (hC _) 67 dX3_flawOn_62 (by decide) (fun hb62 => ?_) (fun hb62 => False.elim (hb62 (nI_le (a := l) (b := tDp B L t 0) (by omega) (by omega))))
  first | refine Es_aload_n (hC _) dX3_flawOn_67 rfl ?_ | refine Es_aload_nN (hC _) dX3_flawOn_67 rfl ?_
  first | refine Es_aload_n (hC _) dX3_flawOn_68 rfl ?_ | refine Es_aload_nN (hC _) dX3_flawOn_68 rfl ?_
  refine Es_iload_n (hC _) dX3_flawOn_69 rfl ?_
  refine Es_fV (hC _) mv_X3_58 dX3_flawOn_70 (c_pairOf hw hp h7 hq) (ok18 hw) rfl ⟨_, rfl, rfl⟩ rfl rfl (by decide) (Nat.le_of_ble_eq_true rfl) ?_
  rw [show prV (B 19 w) p q = nI q2 by unfold prV; rw [h2]]
  refine Es_fV (hC _) mv_X3_48 dX3_flawOn_73 (c_tyreOn_in hw hp h7 (by omega)) (ok18 hw) rfl ⟨_, rfl, rfl⟩ rfl rfl (by decide) (Nat.le_of_ble_eq_true rfl) ?_
  rw [show rT ad (B 20 w q2) = none by rw [hon2]; rfl]
  first | refine Es_astore (lv' := [_, _, _, _, _, _, _, _]) (hC _) dX3_flawOn_76 (by decide) rfl rfl ?_ | refine Es_astoreN (lv' := [_, _, _, _, _, _, _, _]) (hC _) dX3_flawOn_76 (by decide) rfl rfl ?_
  first | refine Es_aload (hC _) dX3_flawOn_78 rfl ?_ | refine Es_aloadN (hC _) dX3_flawOn_78 rfl ?_
  refine Es_ifnullN (hC _) 103 dX3_flawOn_80 (by decide) ?_
  refine Es_iconst (v := 0) (hC _) dX3_flawOn_103 (by decide) ?_
  exact Es_iret dX3_flawOn_104 rfl ⟨by rw [fl_6 hon (by omega) hk hk5 hl hl1 (fun z => hs z.1) h1 h2 hon2]; rfl, rfl, rfl⟩

set_option maxRecDepth 100000 in
set_option maxHeartbeats 4000000 in
theorem c_flawOn_7ay {ad : sA} {nw nt : Nat} {B : sB} {L : sL} {w p : Nat} (hw : w < nw) (hp : B 18 w 3 = nI p) (h7 : p ≤ 7) {q ap : Nat} (hq : q < p) (hap : ap ≤ 100) (h40 : nt ≤ 40) (hF : TFa nt B L) {t k l : Nat} (ht : t < nt) (hon : B 20 w q = nI t) (hk : B 19 w q = nI k) (hk5 : k < 5) (hl : B 3 0 k = nI l) (hl1 : l ≤ 100) (hs : ¬ B 19 w q = 0) {q2 t2 : Nat} (h1 : ¬ tDp B L t 0 < l) (h2 : prX (B 19 w) p q = some q2) (hq2 : q2 < p) (ht2 : t2 < nt) (hon2 : B 20 w q2 = nI t2) (h9 : ap < ((tDp B L t 0 - tDp B L t2 0) + (tDp B L t2 0 - tDp B L t 0))) : Cf yX3_flawOn cX3_flawOn 8 (some FieldType.int) 3 [.ref (ad 18 w), .int (nI q), .ref (ad 3 0), .int (nI ap)] ad nw nt B L (some (.int (nI (flS B L w p ap q)))) (B) (L) := by
  have hC : ∀ Q, je_Ok (sCm yX3_flawOn cX3_flawOn 8 (some FieldType.int) 3 ad nw nt Q) RX3 cX3_flawOn 8 3 := fun _ => je_Cm_ok
  refine Cs_of [some (.ref (ad 18 w)), some (.int (nI q)), some (.ref (ad 3 0)), some (.int (nI ap)), none, none, none, none] (by decide) rfl (Nat.le_of_ble_eq_true rfl) ?_
  have hdl := tDp_le (mo := 0) hF ht
  have hdl2 := tDp_le (mo := 0) hF ht2
  first | refine Es_aload_n (hC _) dX3_flawOn_0 rfl ?_ | refine Es_aload_nN (hC _) dX3_flawOn_0 rfl ?_
  refine Es_iload_n (hC _) dX3_flawOn_1 rfl ?_
  refine Es_fV (hC _) mv_X3_40 dX3_flawOn_2 (c_kindOf_in hw hp h7 (by omega)) (ok18 hw) rfl ⟨_, rfl, rfl⟩ rfl rfl (by decide) (Nat.le_of_ble_eq_true rfl) ?_
  refine Es_istore (lv' := [_, _, _, _, _, _, _, _]) (hC _) dX3_flawOn_5 (by decide) rfl rfl ?_
  first | refine Es_aload_n (hC _) dX3_flawOn_7 rfl ?_ | refine Es_aload_nN (hC _) dX3_flawOn_7 rfl ?_
  refine Es_iload_n (hC _) dX3_flawOn_8 rfl ?_
  refine Es_fV (hC _) mv_X3_48 dX3_flawOn_9 (c_tyreOn_in hw hp h7 (by omega)) (ok18 hw) rfl ⟨_, rfl, rfl⟩ rfl rfl (by decide) (Nat.le_of_ble_eq_true rfl) ?_
  rw [show rT ad (B 20 w q) = some (ad 21 t) by rw [hon, rT, if_neg (nI_pos (by omega)), nI_clamp (by omega)]]
  first | refine Es_astore (lv' := [_, _, _, _, _, _, _, _]) (hC _) dX3_flawOn_12 (by decide) rfl rfl ?_ | refine Es_astoreN (lv' := [_, _, _, _, _, _, _, _]) (hC _) dX3_flawOn_12 (by decide) rfl rfl ?_
  first | refine Es_aload (hC _) dX3_flawOn_14 rfl ?_ | refine Es_aloadN (hC _) dX3_flawOn_14 rfl ?_
  refine Es_ifnonnull (hC _) 31 dX3_flawOn_16 (by decide) ?_
  refine Es_iload (hC _) dX3_flawOn_31 rfl ?_
  refine Es_if_ne (hC _) 46 dX3_flawOn_33 (by decide) (fun hb33 => ?_) (fun hb33 => False.elim (hs hb33))
  first | refine Es_aload (hC _) dX3_flawOn_46 rfl ?_ | refine Es_aloadN (hC _) dX3_flawOn_46 rfl ?_
  refine Es_iconst (v := 0) (hC _) dX3_flawOn_48 (by decide) ?_
  refine Es_fV (hC _) mv_X3_55 dX3_flawOn_49 (cT_depth (mo := 0) hF ht (by decide)) (ok21 ht) rfl ⟨_, rfl, rfl⟩ rfl rfl (by decide) (Nat.le_of_ble_eq_true rfl) ?_
  refine Es_istore (lv' := [_, _, _, _, _, _, _, _]) (hC _) dX3_flawOn_52 (by decide) rfl rfl ?_
  refine Es_iload (hC _) dX3_flawOn_54 rfl ?_
  first | refine Es_aload_n (hC _) dX3_flawOn_56 rfl ?_ | refine Es_aload_nN (hC _) dX3_flawOn_56 rfl ?_
  refine Es_iload (hC _) dX3_flawOn_57 rfl ?_
  rw [hk]
  refine Es_fSN (hC _) ms_X3_36 dX3_flawOn_59 (c_at (kd := 3) (n := 5) (k := k) rfl rfl rfl (by omega) (by decide)) rfl rfl (by decide) (Nat.le_of_ble_eq_true rfl) ?_
  rw [hl]
  refine Es_icmp_ge (hC _) 67 dX3_flawOn_62 (by decide) (fun hb62 => ?_) (fun hb62 => False.elim (hb62 (nI_le (a := l) (b := tDp B L t 0) (by omega) (by omega))))
  first | refine Es_aload_n (hC _) dX3_flawOn_67 rfl ?_ | refine Es_aload_nN (hC _) dX3_flawOn_67 rfl ?_
  first | refine Es_aload_n (hC _) dX3_flawOn_68 rfl ?_ | refine Es_aload_nN (hC _) dX3_flawOn_68 rfl ?_
  refine Es_iload_n (hC _) dX3_flawOn_69 rfl ?_
  refine Es_fV (hC _) mv_X3_58 dX3_flawOn_70 (c_pairOf hw hp h7 hq) (ok18 hw) rfl ⟨_, rfl, rfl⟩ rfl rfl (by decide) (Nat.le_of_ble_eq_true rfl) ?_
  rw [show prV (B 19 w) p q = nI q2 by unfold prV; rw [h2]]
  refine Es_fV (hC _) mv_X3_48 dX3_flawOn_73 (c_tyreOn_in hw hp h7 (by omega)) (ok18 hw) rfl ⟨_, rfl, rfl⟩ rfl rfl (by decide) (Nat.le_of_ble_eq_true rfl) ?_
  rw [show rT ad (B 20 w q2) = some (ad 21 t2) by rw [hon2, rT, if_neg (nI_pos (by omega)), nI_clamp (by omega)]]
  first | refine Es_astore (lv' := [_, _, _, _, _, _, _, _]) (hC _) dX3_flawOn_76 (by decide) rfl rfl ?_ | refine Es_astoreN (lv' := [_, _, _, _, _, _, _, _]) (hC _) dX3_flawOn_76 (by decide) rfl rfl ?_
  first | refine Es_aload (hC _) dX3_flawOn_78 rfl ?_ | refine Es_aloadN (hC _) dX3_flawOn_78 rfl ?_
  refine Es_ifnull (hC _) dX3_flawOn_80 ?_
  refine Es_iload (hC _) dX3_flawOn_83 rfl ?_
  first | refine Es_aload (hC _) dX3_flawOn_85 rfl ?_ | refine Es_aloadN (hC _) dX3_flawOn_85 rfl ?_
  refine Es_iconst (v := 0) (hC _) dX3_flawOn_87 (by decide) ?_
  refine Es_fV (hC _) mv_X3_55 dX3_flawOn_88 (cT_depth (mo := 0) hF ht2 (by decide)) (ok21 ht2) rfl ⟨_, rfl, rfl⟩ rfl rfl (by decide) (Nat.le_of_ble_eq_true rfl) ?_
  refine Es_isub (hC _) dX3_flawOn_91 ?_
  refine Es_fS (hC _) ms_X3_61 dX3_flawOn_92 j_abs rfl rfl (by decide) (Nat.le_of_ble_eq_true rfl) ?_
  rw [abI_N (by omega) (by omega)]
  refine Es_iload_n (hC _) dX3_flawOn_95 rfl ?_
  refine Es_icmp_le (hC _) 103 dX3_flawOn_96 (by decide) (fun hb96 => False.elim (nI_ge (b := ((tDp B L t 0 - tDp B L t2 0) + (tDp B L t2 0 - tDp B L t 0))) (a := ap) h9 (by omega) hb96)) (fun hb96 => ?_)
  refine Es_iconst (v := 4) (hC _) dX3_flawOn_99 (by decide) ?_
  refine Es_goto (hC _) 104 dX3_flawOn_100 (by decide) ?_
  exact Es_iret dX3_flawOn_104 rfl ⟨by rw [fl_7 hon (by omega) hk hk5 hl hl1 (fun z => hs z.1) h1 h2 hon2 (by omega), if_pos h9]; rfl, rfl, rfl⟩

set_option maxRecDepth 100000 in
set_option maxHeartbeats 4000000 in
theorem c_flawOn_7an {ad : sA} {nw nt : Nat} {B : sB} {L : sL} {w p : Nat} (hw : w < nw) (hp : B 18 w 3 = nI p) (h7 : p ≤ 7) {q ap : Nat} (hq : q < p) (hap : ap ≤ 100) (h40 : nt ≤ 40) (hF : TFa nt B L) {t k l : Nat} (ht : t < nt) (hon : B 20 w q = nI t) (hk : B 19 w q = nI k) (hk5 : k < 5) (hl : B 3 0 k = nI l) (hl1 : l ≤ 100) (hs : ¬ B 19 w q = 0) {q2 t2 : Nat} (h1 : ¬ tDp B L t 0 < l) (h2 : prX (B 19 w) p q = some q2) (hq2 : q2 < p) (ht2 : t2 < nt) (hon2 : B 20 w q2 = nI t2) (h9 : ¬ ap < ((tDp B L t 0 - tDp B L t2 0) + (tDp B L t2 0 - tDp B L t 0))) : Cf yX3_flawOn cX3_flawOn 8 (some FieldType.int) 3 [.ref (ad 18 w), .int (nI q), .ref (ad 3 0), .int (nI ap)] ad nw nt B L (some (.int (nI (flS B L w p ap q)))) (B) (L) := by
  have hC : ∀ Q, je_Ok (sCm yX3_flawOn cX3_flawOn 8 (some FieldType.int) 3 ad nw nt Q) RX3 cX3_flawOn 8 3 := fun _ => je_Cm_ok
  refine Cs_of [some (.ref (ad 18 w)), some (.int (nI q)), some (.ref (ad 3 0)), some (.int (nI ap)), none, none, none, none] (by decide) rfl (Nat.le_of_ble_eq_true rfl) ?_
  have hdl := tDp_le (mo := 0) hF ht
  have hdl2 := tDp_le (mo := 0) hF ht2
  first | refine Es_aload_n (hC _) dX3_flawOn_0 rfl ?_ | refine Es_aload_nN (hC _) dX3_flawOn_0 rfl ?_
  refine Es_iload_n (hC _) dX3_flawOn_1 rfl ?_
  refine Es_fV (hC _) mv_X3_40 dX3_flawOn_2 (c_kindOf_in hw hp h7 (by omega)) (ok18 hw) rfl ⟨_, rfl, rfl⟩ rfl rfl (by decide) (Nat.le_of_ble_eq_true rfl) ?_
  refine Es_istore (lv' := [_, _, _, _, _, _, _, _]) (hC _) dX3_flawOn_5 (by decide) rfl rfl ?_
  first | refine Es_aload_n (hC _) dX3_flawOn_7 rfl ?_ | refine Es_aload_nN (hC _) dX3_flawOn_7 rfl ?_
  refine Es_iload_n (hC _) dX3_flawOn_8 rfl ?_
  refine Es_fV (hC _) mv_X3_48 dX3_flawOn_9 (c_tyreOn_in hw hp h7 (by omega)) (ok18 hw) rfl ⟨_, rfl, rfl⟩ rfl rfl (by decide) (Nat.le_of_ble_eq_true rfl) ?_
  rw [show rT ad (B 20 w q) = some (ad 21 t) by rw [hon, rT, if_neg (nI_pos (by omega)), nI_clamp (by omega)]]
  first | refine Es_astore (lv' := [_, _, _, _, _, _, _, _]) (hC _) dX3_flawOn_12 (by decide) rfl rfl ?_ | refine Es_astoreN (lv' := [_, _, _, _, _, _, _, _]) (hC _) dX3_flawOn_12 (by decide) rfl rfl ?_
  first | refine Es_aload (hC _) dX3_flawOn_14 rfl ?_ | refine Es_aloadN (hC _) dX3_flawOn_14 rfl ?_
  refine Es_ifnonnull (hC _) 31 dX3_flawOn_16 (by decide) ?_
  refine Es_iload (hC _) dX3_flawOn_31 rfl ?_
  refine Es_if_ne (hC _) 46 dX3_flawOn_33 (by decide) (fun hb33 => ?_) (fun hb33 => False.elim (hs hb33))
  first | refine Es_aload (hC _) dX3_flawOn_46 rfl ?_ | refine Es_aloadN (hC _) dX3_flawOn_46 rfl ?_
  refine Es_iconst (v := 0) (hC _) dX3_flawOn_48 (by decide) ?_
  refine Es_fV (hC _) mv_X3_55 dX3_flawOn_49 (cT_depth (mo := 0) hF ht (by decide)) (ok21 ht) rfl ⟨_, rfl, rfl⟩ rfl rfl (by decide) (Nat.le_of_ble_eq_true rfl) ?_
  refine Es_istore (lv' := [_, _, _, _, _, _, _, _]) (hC _) dX3_flawOn_52 (by decide) rfl rfl ?_
  refine Es_iload (hC _) dX3_flawOn_54 rfl ?_
  first | refine Es_aload_n (hC _) dX3_flawOn_56 rfl ?_ | refine Es_aload_nN (hC _) dX3_flawOn_56 rfl ?_
  refine Es_iload (hC _) dX3_flawOn_57 rfl ?_
  rw [hk]
  refine Es_fSN (hC _) ms_X3_36 dX3_flawOn_59 (c_at (kd := 3) (n := 5) (k := k) rfl rfl rfl (by omega) (by decide)) rfl rfl (by decide) (Nat.le_of_ble_eq_true rfl) ?_
  rw [hl]
  refine Es_icmp_ge (hC _) 67 dX3_flawOn_62 (by decide) (fun hb62 => ?_) (fun hb62 => False.elim (hb62 (nI_le (a := l) (b := tDp B L t 0) (by omega) (by omega))))
  first | refine Es_aload_n (hC _) dX3_flawOn_67 rfl ?_ | refine Es_aload_nN (hC _) dX3_flawOn_67 rfl ?_
  first | refine Es_aload_n (hC _) dX3_flawOn_68 rfl ?_ | refine Es_aload_nN (hC _) dX3_flawOn_68 rfl ?_
  refine Es_iload_n (hC _) dX3_flawOn_69 rfl ?_
  refine Es_fV (hC _) mv_X3_58 dX3_flawOn_70 (c_pairOf hw hp h7 hq) (ok18 hw) rfl ⟨_, rfl, rfl⟩ rfl rfl (by decide) (Nat.le_of_ble_eq_true rfl) ?_
  rw [show prV (B 19 w) p q = nI q2 by unfold prV; rw [h2]]
  refine Es_fV (hC _) mv_X3_48 dX3_flawOn_73 (c_tyreOn_in hw hp h7 (by omega)) (ok18 hw) rfl ⟨_, rfl, rfl⟩ rfl rfl (by decide) (Nat.le_of_ble_eq_true rfl) ?_
  rw [show rT ad (B 20 w q2) = some (ad 21 t2) by rw [hon2, rT, if_neg (nI_pos (by omega)), nI_clamp (by omega)]]
  first | refine Es_astore (lv' := [_, _, _, _, _, _, _, _]) (hC _) dX3_flawOn_76 (by decide) rfl rfl ?_ | refine Es_astoreN (lv' := [_, _, _, _, _, _, _, _]) (hC _) dX3_flawOn_76 (by decide) rfl rfl ?_
  first | refine Es_aload (hC _) dX3_flawOn_78 rfl ?_ | refine Es_aloadN (hC _) dX3_flawOn_78 rfl ?_
  refine Es_ifnull (hC _) dX3_flawOn_80 ?_
  refine Es_iload (hC _) dX3_flawOn_83 rfl ?_
  first | refine Es_aload (hC _) dX3_flawOn_85 rfl ?_ | refine Es_aloadN (hC _) dX3_flawOn_85 rfl ?_
  refine Es_iconst (v := 0) (hC _) dX3_flawOn_87 (by decide) ?_
  refine Es_fV (hC _) mv_X3_55 dX3_flawOn_88 (cT_depth (mo := 0) hF ht2 (by decide)) (ok21 ht2) rfl ⟨_, rfl, rfl⟩ rfl rfl (by decide) (Nat.le_of_ble_eq_true rfl) ?_
  refine Es_isub (hC _) dX3_flawOn_91 ?_
  refine Es_fS (hC _) ms_X3_61 dX3_flawOn_92 j_abs rfl rfl (by decide) (Nat.le_of_ble_eq_true rfl) ?_
  rw [abI_N (by omega) (by omega)]
  refine Es_iload_n (hC _) dX3_flawOn_95 rfl ?_
  refine Es_icmp_le (hC _) 103 dX3_flawOn_96 (by decide) (fun hb96 => ?_) (fun hb96 => False.elim (hb96 (nI_le (a := ((tDp B L t 0 - tDp B L t2 0) + (tDp B L t2 0 - tDp B L t 0))) (b := ap) (by omega) (by omega))))
  refine Es_iconst (v := 0) (hC _) dX3_flawOn_103 (by decide) ?_
  exact Es_iret dX3_flawOn_104 rfl ⟨by rw [fl_7 hon (by omega) hk hk5 hl hl1 (fun z => hs z.1) h1 h2 hon2 (by omega), if_neg h9]; rfl, rfl, rfl⟩

set_option maxRecDepth 100000 in
set_option maxHeartbeats 4000000 in
theorem c_flawOn_4b {ad : sA} {nw nt : Nat} {B : sB} {L : sL} {w p : Nat} (hw : w < nw) (hp : B 18 w 3 = nI p) (h7 : p ≤ 7) {q ap : Nat} (hq : q < p) (hap : ap ≤ 100) (h40 : nt ≤ 40) (hF : TFa nt B L) {t k l : Nat} (ht : t < nt) (hon : B 20 w q = nI t) (hk : B 19 w q = nI k) (hk5 : k < 5) (hl : B 3 0 k = nI l) (hl1 : l ≤ 100) (hs : B 19 w q = 0) (hs2 : ¬ 0 < B 21 t 7) (h1 : tDp B L t 0 < l) : Cf yX3_flawOn cX3_flawOn 8 (some FieldType.int) 3 [.ref (ad 18 w), .int (nI q), .ref (ad 3 0), .int (nI ap)] ad nw nt B L (some (.int (nI (flS B L w p ap q)))) (B) (L) := by
  have hC : ∀ Q, je_Ok (sCm yX3_flawOn cX3_flawOn 8 (some FieldType.int) 3 ad nw nt Q) RX3 cX3_flawOn 8 3 := fun _ => je_Cm_ok
  refine Cs_of [some (.ref (ad 18 w)), some (.int (nI q)), some (.ref (ad 3 0)), some (.int (nI ap)), none, none, none, none] (by decide) rfl (Nat.le_of_ble_eq_true rfl) ?_
  have hdl := tDp_le (mo := 0) hF ht
  first | refine Es_aload_n (hC _) dX3_flawOn_0 rfl ?_ | refine Es_aload_nN (hC _) dX3_flawOn_0 rfl ?_
  refine Es_iload_n (hC _) dX3_flawOn_1 rfl ?_
  refine Es_fV (hC _) mv_X3_40 dX3_flawOn_2 (c_kindOf_in hw hp h7 (by omega)) (ok18 hw) rfl ⟨_, rfl, rfl⟩ rfl rfl (by decide) (Nat.le_of_ble_eq_true rfl) ?_
  refine Es_istore (lv' := [_, _, _, _, _, _, _, _]) (hC _) dX3_flawOn_5 (by decide) rfl rfl ?_
  first | refine Es_aload_n (hC _) dX3_flawOn_7 rfl ?_ | refine Es_aload_nN (hC _) dX3_flawOn_7 rfl ?_
  refine Es_iload_n (hC _) dX3_flawOn_8 rfl ?_
  refine Es_fV (hC _) mv_X3_48 dX3_flawOn_9 (c_tyreOn_in hw hp h7 (by omega)) (ok18 hw) rfl ⟨_, rfl, rfl⟩ rfl rfl (by decide) (Nat.le_of_ble_eq_true rfl) ?_
  rw [show rT ad (B 20 w q) = some (ad 21 t) by rw [hon, rT, if_neg (nI_pos (by omega)), nI_clamp (by omega)]]
  first | refine Es_astore (lv' := [_, _, _, _, _, _, _, _]) (hC _) dX3_flawOn_12 (by decide) rfl rfl ?_ | refine Es_astoreN (lv' := [_, _, _, _, _, _, _, _]) (hC _) dX3_flawOn_12 (by decide) rfl rfl ?_
  first | refine Es_aload (hC _) dX3_flawOn_14 rfl ?_ | refine Es_aloadN (hC _) dX3_flawOn_14 rfl ?_
  refine Es_ifnonnull (hC _) 31 dX3_flawOn_16 (by decide) ?_
  refine Es_iload (hC _) dX3_flawOn_31 rfl ?_
  refine Es_if_ne (hC _) 46 dX3_flawOn_33 (by decide) (fun hb33 => False.elim (hb33 hs)) (fun hb33 => ?_)
  first | refine Es_aload (hC _) dX3_flawOn_36 rfl ?_ | refine Es_aloadN (hC _) dX3_flawOn_36 rfl ?_
  refine Sg_X2_7 (hC _) fl_X3_52 dX3_flawOn_38 (by assumption) ?_
  refine Es_if_le (hC _) 46 dX3_flawOn_41 (by decide) (fun hb41 => ?_) (fun hb41 => False.elim (hb41 (Int32.not_lt.mp hs2)))
  first | refine Es_aload (hC _) dX3_flawOn_46 rfl ?_ | refine Es_aloadN (hC _) dX3_flawOn_46 rfl ?_
  refine Es_iconst (v := 0) (hC _) dX3_flawOn_48 (by decide) ?_
  refine Es_fV (hC _) mv_X3_55 dX3_flawOn_49 (cT_depth (mo := 0) hF ht (by decide)) (ok21 ht) rfl ⟨_, rfl, rfl⟩ rfl rfl (by decide) (Nat.le_of_ble_eq_true rfl) ?_
  refine Es_istore (lv' := [_, _, _, _, _, _, _, _]) (hC _) dX3_flawOn_52 (by decide) rfl rfl ?_
  refine Es_iload (hC _) dX3_flawOn_54 rfl ?_
  first | refine Es_aload_n (hC _) dX3_flawOn_56 rfl ?_ | refine Es_aload_nN (hC _) dX3_flawOn_56 rfl ?_
  refine Es_iload (hC _) dX3_flawOn_57 rfl ?_
  rw [hk]
  refine Es_fSN (hC _) ms_X3_36 dX3_flawOn_59 (c_at (kd := 3) (n := 5) (k := k) rfl rfl rfl (by omega) (by decide)) rfl rfl (by decide) (Nat.le_of_ble_eq_true rfl) ?_
  rw [hl]
  refine Es_icmp_ge (hC _) 67 dX3_flawOn_62 (by decide) (fun hb62 => False.elim (nI_ge (b := l) (a := tDp B L t 0) h1 (by omega) hb62)) (fun hb62 => ?_)
  refine Es_iconst (v := 3) (hC _) dX3_flawOn_65 (by decide) ?_
  exact Es_iret dX3_flawOn_66 rfl ⟨by rw [fl_4 hon (by omega) hk hk5 hl hl1 (fun z => hs2 z.2) h1]; rfl, rfl, rfl⟩

set_option maxRecDepth 100000 in
set_option maxHeartbeats 4000000 in
theorem c_flawOn_5b {ad : sA} {nw nt : Nat} {B : sB} {L : sL} {w p : Nat} (hw : w < nw) (hp : B 18 w 3 = nI p) (h7 : p ≤ 7) {q ap : Nat} (hq : q < p) (hap : ap ≤ 100) (h40 : nt ≤ 40) (hF : TFa nt B L) {t k l : Nat} (ht : t < nt) (hon : B 20 w q = nI t) (hk : B 19 w q = nI k) (hk5 : k < 5) (hl : B 3 0 k = nI l) (hl1 : l ≤ 100) (hs : B 19 w q = 0) (hs2 : ¬ 0 < B 21 t 7) (h1 : ¬ tDp B L t 0 < l) (h2 : prX (B 19 w) p q = none) : Cf yX3_flawOn cX3_flawOn 8 (some FieldType.int) 3 [.ref (ad 18 w), .int (nI q), .ref (ad 3 0), .int (nI ap)] ad nw nt B L (some (.int (nI (flS B L w p ap q)))) (B) (L) := by
  have hC : ∀ Q, je_Ok (sCm yX3_flawOn cX3_flawOn 8 (some FieldType.int) 3 ad nw nt Q) RX3 cX3_flawOn 8 3 := fun _ => je_Cm_ok
  refine Cs_of [some (.ref (ad 18 w)), some (.int (nI q)), some (.ref (ad 3 0)), some (.int (nI ap)), none, none, none, none] (by decide) rfl (Nat.le_of_ble_eq_true rfl) ?_
  have hdl := tDp_le (mo := 0) hF ht
  first | refine Es_aload_n (hC _) dX3_flawOn_0 rfl ?_ | refine Es_aload_nN (hC _) dX3_flawOn_0 rfl ?_
  refine Es_iload_n (hC _) dX3_flawOn_1 rfl ?_
  refine Es_fV (hC _) mv_X3_40 dX3_flawOn_2 (c_kindOf_in hw hp h7 (by omega)) (ok18 hw) rfl ⟨_, rfl, rfl⟩ rfl rfl (by decide) (Nat.le_of_ble_eq_true rfl) ?_
  refine Es_istore (lv' := [_, _, _, _, _, _, _, _]) (hC _) dX3_flawOn_5 (by decide) rfl rfl ?_
  first | refine Es_aload_n (hC _) dX3_flawOn_7 rfl ?_ | refine Es_aload_nN (hC _) dX3_flawOn_7 rfl ?_
  refine Es_iload_n (hC _) dX3_flawOn_8 rfl ?_
  refine Es_fV (hC _) mv_X3_48 dX3_flawOn_9 (c_tyreOn_in hw hp h7 (by omega)) (ok18 hw) rfl ⟨_, rfl, rfl⟩ rfl rfl (by decide) (Nat.le_of_ble_eq_true rfl) ?_
  rw [show rT ad (B 20 w q) = some (ad 21 t) by rw [hon, rT, if_neg (nI_pos (by omega)), nI_clamp (by omega)]]
  first | refine Es_astore (lv' := [_, _, _, _, _, _, _, _]) (hC _) dX3_flawOn_12 (by decide) rfl rfl ?_ | refine Es_astoreN (lv' := [_, _, _, _, _, _, _, _]) (hC _) dX3_flawOn_12 (by decide) rfl rfl ?_
  first | refine Es_aload (hC _) dX3_flawOn_14 rfl ?_ | refine Es_aloadN (hC _) dX3_flawOn_14 rfl ?_
  refine Es_ifnonnull (hC _) 31 dX3_flawOn_16 (by decide) ?_
  refine Es_iload (hC _) dX3_flawOn_31 rfl ?_
  refine Es_if_ne (hC _) 46 dX3_flawOn_33 (by decide) (fun hb33 => False.elim (hb33 hs)) (fun hb33 => ?_)
  first | refine Es_aload (hC _) dX3_flawOn_36 rfl ?_ | refine Es_aloadN (hC _) dX3_flawOn_36 rfl ?_
  refine Sg_X2_7 (hC _) fl_X3_52 dX3_flawOn_38 (by assumption) ?_
  refine Es_if_le (hC _) 46 dX3_flawOn_41 (by decide) (fun hb41 => ?_) (fun hb41 => False.elim (hb41 (Int32.not_lt.mp hs2)))
  first | refine Es_aload (hC _) dX3_flawOn_46 rfl ?_ | refine Es_aloadN (hC _) dX3_flawOn_46 rfl ?_
  refine Es_iconst (v := 0) (hC _) dX3_flawOn_48 (by decide) ?_
  refine Es_fV (hC _) mv_X3_55 dX3_flawOn_49 (cT_depth (mo := 0) hF ht (by decide)) (ok21 ht) rfl ⟨_, rfl, rfl⟩ rfl rfl (by decide) (Nat.le_of_ble_eq_true rfl) ?_
  refine Es_istore (lv' := [_, _, _, _, _, _, _, _]) (hC _) dX3_flawOn_52 (by decide) rfl rfl ?_
  refine Es_iload (hC _) dX3_flawOn_54 rfl ?_
  first | refine Es_aload_n (hC _) dX3_flawOn_56 rfl ?_ | refine Es_aload_nN (hC _) dX3_flawOn_56 rfl ?_
  refine Es_iload (hC _) dX3_flawOn_57 rfl ?_
  rw [hk]
  refine Es_fSN (hC _) ms_X3_36 dX3_flawOn_59 (c_at (kd := 3) (n := 5) (k := k) rfl rfl rfl (by omega) (by decide)) rfl rfl (by decide) (Nat.le_of_ble_eq_true rfl) ?_
  rw [hl]
  refine Es_icmp_ge (hC _) 67 dX3_flawOn_62 (by decide) (fun hb62 => ?_) (fun hb62 => False.elim (hb62 (nI_le (a := l) (b := tDp B L t 0) (by omega) (by omega))))
  first | refine Es_aload_n (hC _) dX3_flawOn_67 rfl ?_ | refine Es_aload_nN (hC _) dX3_flawOn_67 rfl ?_
  first | refine Es_aload_n (hC _) dX3_flawOn_68 rfl ?_ | refine Es_aload_nN (hC _) dX3_flawOn_68 rfl ?_
  refine Es_iload_n (hC _) dX3_flawOn_69 rfl ?_
  refine Es_fV (hC _) mv_X3_58 dX3_flawOn_70 (c_pairOf hw hp h7 hq) (ok18 hw) rfl ⟨_, rfl, rfl⟩ rfl rfl (by decide) (Nat.le_of_ble_eq_true rfl) ?_
  rw [show prV (B 19 w) p q = -9 by unfold prV; rw [h2]]
  refine Es_fV (hC _) mv_X3_48 dX3_flawOn_73 (c_tyreOn_out hw hp h7 (Or.inl (by decide))) (ok18 hw) rfl ⟨_, rfl, rfl⟩ rfl rfl (by decide) (Nat.le_of_ble_eq_true rfl) ?_
  first | refine Es_astore (lv' := [_, _, _, _, _, _, _, _]) (hC _) dX3_flawOn_76 (by decide) rfl rfl ?_ | refine Es_astoreN (lv' := [_, _, _, _, _, _, _, _]) (hC _) dX3_flawOn_76 (by decide) rfl rfl ?_
  first | refine Es_aload (hC _) dX3_flawOn_78 rfl ?_ | refine Es_aloadN (hC _) dX3_flawOn_78 rfl ?_
  refine Es_ifnullN (hC _) 103 dX3_flawOn_80 (by decide) ?_
  refine Es_iconst (v := 0) (hC _) dX3_flawOn_103 (by decide) ?_
  exact Es_iret dX3_flawOn_104 rfl ⟨by rw [fl_5 hon (by omega) hk hk5 hl hl1 (fun z => hs2 z.2) h1 h2]; rfl, rfl, rfl⟩

set_option maxRecDepth 100000 in
set_option maxHeartbeats 4000000 in
theorem c_flawOn_6b {ad : sA} {nw nt : Nat} {B : sB} {L : sL} {w p : Nat} (hw : w < nw) (hp : B 18 w 3 = nI p) (h7 : p ≤ 7) {q ap : Nat} (hq : q < p) (hap : ap ≤ 100) (h40 : nt ≤ 40) (hF : TFa nt B L) {t k l : Nat} (ht : t < nt) (hon : B 20 w q = nI t) (hk : B 19 w q = nI k) (hk5 : k < 5) (hl : B 3 0 k = nI l) (hl1 : l ≤ 100) (hs : B 19 w q = 0) (hs2 : ¬ 0 < B 21 t 7) {q2 : Nat} (h1 : ¬ tDp B L t 0 < l) (h2 : prX (B 19 w) p q = some q2) (hq2 : q2 < p) (hon2 : B 20 w q2 = -1) : Cf yX3_flawOn cX3_flawOn 8 (some FieldType.int) 3 [.ref (ad 18 w), .int (nI q), .ref (ad 3 0), .int (nI ap)] ad nw nt B L (some (.int (nI (flS B L w p ap q)))) (B) (L) := by
  have hC : ∀ Q, je_Ok (sCm yX3_flawOn cX3_flawOn 8 (some FieldType.int) 3 ad nw nt Q) RX3 cX3_flawOn 8 3 := fun _ => je_Cm_ok
  refine Cs_of [some (.ref (ad 18 w)), some (.int (nI q)), some (.ref (ad 3 0)), some (.int (nI ap)), none, none, none, none] (by decide) rfl (Nat.le_of_ble_eq_true rfl) ?_
  have hdl := tDp_le (mo := 0) hF ht
  first | refine Es_aload_n (hC _) dX3_flawOn_0 rfl ?_ | refine Es_aload_nN (hC _) dX3_flawOn_0 rfl ?_
  refine Es_iload_n (hC _) dX3_flawOn_1 rfl ?_
  refine Es_fV (hC _) mv_X3_40 dX3_flawOn_2 (c_kindOf_in hw hp h7 (by omega)) (ok18 hw) rfl ⟨_, rfl, rfl⟩ rfl rfl (by decide) (Nat.le_of_ble_eq_true rfl) ?_
  refine Es_istore (lv' := [_, _, _, _, _, _, _, _]) (hC _) dX3_flawOn_5 (by decide) rfl rfl ?_
  first | refine Es_aload_n (hC _) dX3_flawOn_7 rfl ?_ | refine Es_aload_nN (hC _) dX3_flawOn_7 rfl ?_
  refine Es_iload_n (hC _) dX3_flawOn_8 rfl ?_
  refine Es_fV (hC _) mv_X3_48 dX3_flawOn_9 (c_tyreOn_in hw hp h7 (by omega)) (ok18 hw) rfl ⟨_, rfl, rfl⟩ rfl rfl (by decide) (Nat.le_of_ble_eq_true rfl) ?_
  rw [show rT ad (B 20 w q) = some (ad 21 t) by rw [hon, rT, if_neg (nI_pos (by omega)), nI_clamp (by omega)]]
  first | refine Es_astore (lv' := [_, _, _, _, _, _, _, _]) (hC _) dX3_flawOn_12 (by decide) rfl rfl ?_ | refine Es_astoreN (lv' := [_, _, _, _, _, _, _, _]) (hC _) dX3_flawOn_12 (by decide) rfl rfl ?_
  first | refine Es_aload (hC _) dX3_flawOn_14 rfl ?_ | refine Es_aloadN (hC _) dX3_flawOn_14 rfl ?_
  refine Es_ifnonnull (hC _) 31 dX3_flawOn_16 (by decide) ?_
  refine Es_iload (hC _) dX3_flawOn_31 rfl ?_
  refine Es_if_ne (hC _) 46 dX3_flawOn_33 (by decide) (fun hb33 => False.elim (hb33 hs)) (fun hb33 => ?_)
  first | refine Es_aload (hC _) dX3_flawOn_36 rfl ?_ | refine Es_aloadN (hC _) dX3_flawOn_36 rfl ?_
  refine Sg_X2_7 (hC _) fl_X3_52 dX3_flawOn_38 (by assumption) ?_
  refine Es_if_le (hC _) 46 dX3_flawOn_41 (by decide) (fun hb41 => ?_) (fun hb41 => False.elim (hb41 (Int32.not_lt.mp hs2)))
  first | refine Es_aload (hC _) dX3_flawOn_46 rfl ?_ | refine Es_aloadN (hC _) dX3_flawOn_46 rfl ?_
  refine Es_iconst (v := 0) (hC _) dX3_flawOn_48 (by decide) ?_
  refine Es_fV (hC _) mv_X3_55 dX3_flawOn_49 (cT_depth (mo := 0) hF ht (by decide)) (ok21 ht) rfl ⟨_, rfl, rfl⟩ rfl rfl (by decide) (Nat.le_of_ble_eq_true rfl) ?_
  refine Es_istore (lv' := [_, _, _, _, _, _, _, _]) (hC _) dX3_flawOn_52 (by decide) rfl rfl ?_
  refine Es_iload (hC _) dX3_flawOn_54 rfl ?_
  first | refine Es_aload_n (hC _) dX3_flawOn_56 rfl ?_ | refine Es_aload_nN (hC _) dX3_flawOn_56 rfl ?_
  refine Es_iload (hC _) dX3_flawOn_57 rfl ?_
  rw [hk]
  refine Es_fSN (hC _) ms_X3_36 dX3_flawOn_59 (c_at (kd := 3) (n := 5) (k := k) rfl rfl rfl (by omega) (by decide)) rfl rfl (by decide) (Nat.le_of_ble_eq_true rfl) ?_
  rw [hl]
  refine Es_icmp_ge (hC _) 67 dX3_flawOn_62 (by decide) (fun hb62 => ?_) (fun hb62 => False.elim (hb62 (nI_le (a := l) (b := tDp B L t 0) (by omega) (by omega))))
  first | refine Es_aload_n (hC _) dX3_flawOn_67 rfl ?_ | refine Es_aload_nN (hC _) dX3_flawOn_67 rfl ?_
  first | refine Es_aload_n (hC _) dX3_flawOn_68 rfl ?_ | refine Es_aload_nN (hC _) dX3_flawOn_68 rfl ?_
  refine Es_iload_n (hC _) dX3_flawOn_69 rfl ?_
  refine Es_fV (hC _) mv_X3_58 dX3_flawOn_70 (c_pairOf hw hp h7 hq) (ok18 hw) rfl ⟨_, rfl, rfl⟩ rfl rfl (by decide) (Nat.le_of_ble_eq_true rfl) ?_
  rw [show prV (B 19 w) p q = nI q2 by unfold prV; rw [h2]]
  refine Es_fV (hC _) mv_X3_48 dX3_flawOn_73 (c_tyreOn_in hw hp h7 (by omega)) (ok18 hw) rfl ⟨_, rfl, rfl⟩ rfl rfl (by decide) (Nat.le_of_ble_eq_true rfl) ?_
  rw [show rT ad (B 20 w q2) = none by rw [hon2]; rfl]
  first | refine Es_astore (lv' := [_, _, _, _, _, _, _, _]) (hC _) dX3_flawOn_76 (by decide) rfl rfl ?_ | refine Es_astoreN (lv' := [_, _, _, _, _, _, _, _]) (hC _) dX3_flawOn_76 (by decide) rfl rfl ?_
  first | refine Es_aload (hC _) dX3_flawOn_78 rfl ?_ | refine Es_aloadN (hC _) dX3_flawOn_78 rfl ?_
  refine Es_ifnullN (hC _) 103 dX3_flawOn_80 (by decide) ?_
  refine Es_iconst (v := 0) (hC _) dX3_flawOn_103 (by decide) ?_
  exact Es_iret dX3_flawOn_104 rfl ⟨by rw [fl_6 hon (by omega) hk hk5 hl hl1 (fun z => hs2 z.2) h1 h2 hon2]; rfl, rfl, rfl⟩

set_option maxRecDepth 100000 in
set_option maxHeartbeats 4000000 in
theorem c_flawOn_7by {ad : sA} {nw nt : Nat} {B : sB} {L : sL} {w p : Nat} (hw : w < nw) (hp : B 18 w 3 = nI p) (h7 : p ≤ 7) {q ap : Nat} (hq : q < p) (hap : ap ≤ 100) (h40 : nt ≤ 40) (hF : TFa nt B L) {t k l : Nat} (ht : t < nt) (hon : B 20 w q = nI t) (hk : B 19 w q = nI k) (hk5 : k < 5) (hl : B 3 0 k = nI l) (hl1 : l ≤ 100) (hs : B 19 w q = 0) (hs2 : ¬ 0 < B 21 t 7) {q2 t2 : Nat} (h1 : ¬ tDp B L t 0 < l) (h2 : prX (B 19 w) p q = some q2) (hq2 : q2 < p) (ht2 : t2 < nt) (hon2 : B 20 w q2 = nI t2) (h9 : ap < ((tDp B L t 0 - tDp B L t2 0) + (tDp B L t2 0 - tDp B L t 0))) : Cf yX3_flawOn cX3_flawOn 8 (some FieldType.int) 3 [.ref (ad 18 w), .int (nI q), .ref (ad 3 0), .int (nI ap)] ad nw nt B L (some (.int (nI (flS B L w p ap q)))) (B) (L) := by
  have hC : ∀ Q, je_Ok (sCm yX3_flawOn cX3_flawOn 8 (some FieldType.int) 3 ad nw nt Q) RX3 cX3_flawOn 8 3 := fun _ => je_Cm_ok
  refine Cs_of [some (.ref (ad 18 w)), some (.int (nI q)), some (.ref (ad 3 0)), some (.int (nI ap)), none, none, none, none] (by decide) rfl (Nat.le_of_ble_eq_true rfl) ?_
  have hdl := tDp_le (mo := 0) hF ht
  have hdl2 := tDp_le (mo := 0) hF ht2
  first | refine Es_aload_n (hC _) dX3_flawOn_0 rfl ?_ | refine Es_aload_nN (hC _) dX3_flawOn_0 rfl ?_
  refine Es_iload_n (hC _) dX3_flawOn_1 rfl ?_
  refine Es_fV (hC _) mv_X3_40 dX3_flawOn_2 (c_kindOf_in hw hp h7 (by omega)) (ok18 hw) rfl ⟨_, rfl, rfl⟩ rfl rfl (by decide) (Nat.le_of_ble_eq_true rfl) ?_
  refine Es_istore (lv' := [_, _, _, _, _, _, _, _]) (hC _) dX3_flawOn_5 (by decide) rfl rfl ?_
  first | refine Es_aload_n (hC _) dX3_flawOn_7 rfl ?_ | refine Es_aload_nN (hC _) dX3_flawOn_7 rfl ?_
  refine Es_iload_n (hC _) dX3_flawOn_8 rfl ?_
  refine Es_fV (hC _) mv_X3_48 dX3_flawOn_9 (c_tyreOn_in hw hp h7 (by omega)) (ok18 hw) rfl ⟨_, rfl, rfl⟩ rfl rfl (by decide) (Nat.le_of_ble_eq_true rfl) ?_
  rw [show rT ad (B 20 w q) = some (ad 21 t) by rw [hon, rT, if_neg (nI_pos (by omega)), nI_clamp (by omega)]]
  first | refine Es_astore (lv' := [_, _, _, _, _, _, _, _]) (hC _) dX3_flawOn_12 (by decide) rfl rfl ?_ | refine Es_astoreN (lv' := [_, _, _, _, _, _, _, _]) (hC _) dX3_flawOn_12 (by decide) rfl rfl ?_
  first | refine Es_aload (hC _) dX3_flawOn_14 rfl ?_ | refine Es_aloadN (hC _) dX3_flawOn_14 rfl ?_
  refine Es_ifnonnull (hC _) 31 dX3_flawOn_16 (by decide) ?_
  refine Es_iload (hC _) dX3_flawOn_31 rfl ?_
  refine Es_if_ne (hC _) 46 dX3_flawOn_33 (by decide) (fun hb33 => False.elim (hb33 hs)) (fun hb33 => ?_)
  first | refine Es_aload (hC _) dX3_flawOn_36 rfl ?_ | refine Es_aloadN (hC _) dX3_flawOn_36 rfl ?_
  refine Sg_X2_7 (hC _) fl_X3_52 dX3_flawOn_38 (by assumption) ?_
  refine Es_if_le (hC _) 46 dX3_flawOn_41 (by decide) (fun hb41 => ?_) (fun hb41 => False.elim (hb41 (Int32.not_lt.mp hs2)))
  first | refine Es_aload (hC _) dX3_flawOn_46 rfl ?_ | refine Es_aloadN (hC _) dX3_flawOn_46 rfl ?_
  refine Es_iconst (v := 0) (hC _) dX3_flawOn_48 (by decide) ?_
  refine Es_fV (hC _) mv_X3_55 dX3_flawOn_49 (cT_depth (mo := 0) hF ht (by decide)) (ok21 ht) rfl ⟨_, rfl, rfl⟩ rfl rfl (by decide) (Nat.le_of_ble_eq_true rfl) ?_
  refine Es_istore (lv' := [_, _, _, _, _, _, _, _]) (hC _) dX3_flawOn_52 (by decide) rfl rfl ?_
  refine Es_iload (hC _) dX3_flawOn_54 rfl ?_
  first | refine Es_aload_n (hC _) dX3_flawOn_56 rfl ?_ | refine Es_aload_nN (hC _) dX3_flawOn_56 rfl ?_
  refine Es_iload (hC _) dX3_flawOn_57 rfl ?_
  rw [hk]
  refine Es_fSN (hC _) ms_X3_36 dX3_flawOn_59 (c_at (kd := 3) (n := 5) (k := k) rfl rfl rfl (by omega) (by decide)) rfl rfl (by decide) (Nat.le_of_ble_eq_true rfl) ?_
  rw [hl]
  refine Es_icmp_ge (hC _) 67 dX3_flawOn_62 (by decide) (fun hb62 => ?_) (fun hb62 => False.elim (hb62 (nI_le (a := l) (b := tDp B L t 0) (by omega) (by omega))))
  first | refine Es_aload_n (hC _) dX3_flawOn_67 rfl ?_ | refine Es_aload_nN (hC _) dX3_flawOn_67 rfl ?_
  first | refine Es_aload_n (hC _) dX3_flawOn_68 rfl ?_ | refine Es_aload_nN (hC _) dX3_flawOn_68 rfl ?_
  refine Es_iload_n (hC _) dX3_flawOn_69 rfl ?_
  refine Es_fV (hC _) mv_X3_58 dX3_flawOn_70 (c_pairOf hw hp h7 hq) (ok18 hw) rfl ⟨_, rfl, rfl⟩ rfl rfl (by decide) (Nat.le_of_ble_eq_true rfl) ?_
  rw [show prV (B 19 w) p q = nI q2 by unfold prV; rw [h2]]
  refine Es_fV (hC _) mv_X3_48 dX3_flawOn_73 (c_tyreOn_in hw hp h7 (by omega)) (ok18 hw) rfl ⟨_, rfl, rfl⟩ rfl rfl (by decide) (Nat.le_of_ble_eq_true rfl) ?_
  rw [show rT ad (B 20 w q2) = some (ad 21 t2) by rw [hon2, rT, if_neg (nI_pos (by omega)), nI_clamp (by omega)]]
  first | refine Es_astore (lv' := [_, _, _, _, _, _, _, _]) (hC _) dX3_flawOn_76 (by decide) rfl rfl ?_ | refine Es_astoreN (lv' := [_, _, _, _, _, _, _, _]) (hC _) dX3_flawOn_76 (by decide) rfl rfl ?_
  first | refine Es_aload (hC _) dX3_flawOn_78 rfl ?_ | refine Es_aloadN (hC _) dX3_flawOn_78 rfl ?_
  refine Es_ifnull (hC _) dX3_flawOn_80 ?_
  refine Es_iload (hC _) dX3_flawOn_83 rfl ?_
  first | refine Es_aload (hC _) dX3_flawOn_85 rfl ?_ | refine Es_aloadN (hC _) dX3_flawOn_85 rfl ?_
  refine Es_iconst (v := 0) (hC _) dX3_flawOn_87 (by decide) ?_
  refine Es_fV (hC _) mv_X3_55 dX3_flawOn_88 (cT_depth (mo := 0) hF ht2 (by decide)) (ok21 ht2) rfl ⟨_, rfl, rfl⟩ rfl rfl (by decide) (Nat.le_of_ble_eq_true rfl) ?_
  refine Es_isub (hC _) dX3_flawOn_91 ?_
  refine Es_fS (hC _) ms_X3_61 dX3_flawOn_92 j_abs rfl rfl (by decide) (Nat.le_of_ble_eq_true rfl) ?_
  rw [abI_N (by omega) (by omega)]
  refine Es_iload_n (hC _) dX3_flawOn_95 rfl ?_
  refine Es_icmp_le (hC _) 103 dX3_flawOn_96 (by decide) (fun hb96 => False.elim (nI_ge (b := ((tDp B L t 0 - tDp B L t2 0) + (tDp B L t2 0 - tDp B L t 0))) (a := ap) h9 (by omega) hb96)) (fun hb96 => ?_)
  refine Es_iconst (v := 4) (hC _) dX3_flawOn_99 (by decide) ?_
  refine Es_goto (hC _) 104 dX3_flawOn_100 (by decide) ?_
  exact Es_iret dX3_flawOn_104 rfl ⟨by rw [fl_7 hon (by omega) hk hk5 hl hl1 (fun z => hs2 z.2) h1 h2 hon2 (by omega), if_pos h9]; rfl, rfl, rfl⟩

set_option maxRecDepth 100000 in
set_option maxHeartbeats 4000000 in
theorem c_flawOn_7bn {ad : sA} {nw nt : Nat} {B : sB} {L : sL} {w p : Nat} (hw : w < nw) (hp : B 18 w 3 = nI p) (h7 : p ≤ 7) {q ap : Nat} (hq : q < p) (hap : ap ≤ 100) (h40 : nt ≤ 40) (hF : TFa nt B L) {t k l : Nat} (ht : t < nt) (hon : B 20 w q = nI t) (hk : B 19 w q = nI k) (hk5 : k < 5) (hl : B 3 0 k = nI l) (hl1 : l ≤ 100) (hs : B 19 w q = 0) (hs2 : ¬ 0 < B 21 t 7) {q2 t2 : Nat} (h1 : ¬ tDp B L t 0 < l) (h2 : prX (B 19 w) p q = some q2) (hq2 : q2 < p) (ht2 : t2 < nt) (hon2 : B 20 w q2 = nI t2) (h9 : ¬ ap < ((tDp B L t 0 - tDp B L t2 0) + (tDp B L t2 0 - tDp B L t 0))) : Cf yX3_flawOn cX3_flawOn 8 (some FieldType.int) 3 [.ref (ad 18 w), .int (nI q), .ref (ad 3 0), .int (nI ap)] ad nw nt B L (some (.int (nI (flS B L w p ap q)))) (B) (L) := by
  have hC : ∀ Q, je_Ok (sCm yX3_flawOn cX3_flawOn 8 (some FieldType.int) 3 ad nw nt Q) RX3 cX3_flawOn 8 3 := fun _ => je_Cm_ok
  refine Cs_of [some (.ref (ad 18 w)), some (.int (nI q)), some (.ref (ad 3 0)), some (.int (nI ap)), none, none, none, none] (by decide) rfl (Nat.le_of_ble_eq_true rfl) ?_
  have hdl := tDp_le (mo := 0) hF ht
  have hdl2 := tDp_le (mo := 0) hF ht2
  first | refine Es_aload_n (hC _) dX3_flawOn_0 rfl ?_ | refine Es_aload_nN (hC _) dX3_flawOn_0 rfl ?_
  refine Es_iload_n (hC _) dX3_flawOn_1 rfl ?_
  refine Es_fV (hC _) mv_X3_40 dX3_flawOn_2 (c_kindOf_in hw hp h7 (by omega)) (ok18 hw) rfl ⟨_, rfl, rfl⟩ rfl rfl (by decide) (Nat.le_of_ble_eq_true rfl) ?_
  refine Es_istore (lv' := [_, _, _, _, _, _, _, _]) (hC _) dX3_flawOn_5 (by decide) rfl rfl ?_
  first | refine Es_aload_n (hC _) dX3_flawOn_7 rfl ?_ | refine Es_aload_nN (hC _) dX3_flawOn_7 rfl ?_
  refine Es_iload_n (hC _) dX3_flawOn_8 rfl ?_
  refine Es_fV (hC _) mv_X3_48 dX3_flawOn_9 (c_tyreOn_in hw hp h7 (by omega)) (ok18 hw) rfl ⟨_, rfl, rfl⟩ rfl rfl (by decide) (Nat.le_of_ble_eq_true rfl) ?_
  rw [show rT ad (B 20 w q) = some (ad 21 t) by rw [hon, rT, if_neg (nI_pos (by omega)), nI_clamp (by omega)]]
  first | refine Es_astore (lv' := [_, _, _, _, _, _, _, _]) (hC _) dX3_flawOn_12 (by decide) rfl rfl ?_ | refine Es_astoreN (lv' := [_, _, _, _, _, _, _, _]) (hC _) dX3_flawOn_12 (by decide) rfl rfl ?_
  first | refine Es_aload (hC _) dX3_flawOn_14 rfl ?_ | refine Es_aloadN (hC _) dX3_flawOn_14 rfl ?_
  refine Es_ifnonnull (hC _) 31 dX3_flawOn_16 (by decide) ?_
  refine Es_iload (hC _) dX3_flawOn_31 rfl ?_
  refine Es_if_ne (hC _) 46 dX3_flawOn_33 (by decide) (fun hb33 => False.elim (hb33 hs)) (fun hb33 => ?_)
  first | refine Es_aload (hC _) dX3_flawOn_36 rfl ?_ | refine Es_aloadN (hC _) dX3_flawOn_36 rfl ?_
  refine Sg_X2_7 (hC _) fl_X3_52 dX3_flawOn_38 (by assumption) ?_
  refine Es_if_le (hC _) 46 dX3_flawOn_41 (by decide) (fun hb41 => ?_) (fun hb41 => False.elim (hb41 (Int32.not_lt.mp hs2)))
  first | refine Es_aload (hC _) dX3_flawOn_46 rfl ?_ | refine Es_aloadN (hC _) dX3_flawOn_46 rfl ?_
  refine Es_iconst (v := 0) (hC _) dX3_flawOn_48 (by decide) ?_
  refine Es_fV (hC _) mv_X3_55 dX3_flawOn_49 (cT_depth (mo := 0) hF ht (by decide)) (ok21 ht) rfl ⟨_, rfl, rfl⟩ rfl rfl (by decide) (Nat.le_of_ble_eq_true rfl) ?_
  refine Es_istore (lv' := [_, _, _, _, _, _, _, _]) (hC _) dX3_flawOn_52 (by decide) rfl rfl ?_
  refine Es_iload (hC _) dX3_flawOn_54 rfl ?_
  first | refine Es_aload_n (hC _) dX3_flawOn_56 rfl ?_ | refine Es_aload_nN (hC _) dX3_flawOn_56 rfl ?_
  refine Es_iload (hC _) dX3_flawOn_57 rfl ?_
  rw [hk]
  refine Es_fSN (hC _) ms_X3_36 dX3_flawOn_59 (c_at (kd := 3) (n := 5) (k := k) rfl rfl rfl (by omega) (by decide)) rfl rfl (by decide) (Nat.le_of_ble_eq_true rfl) ?_
  rw [hl]
  refine Es_icmp_ge (hC _) 67 dX3_flawOn_62 (by decide) (fun hb62 => ?_) (fun hb62 => False.elim (hb62 (nI_le (a := l) (b := tDp B L t 0) (by omega) (by omega))))
  first | refine Es_aload_n (hC _) dX3_flawOn_67 rfl ?_ | refine Es_aload_nN (hC _) dX3_flawOn_67 rfl ?_
  first | refine Es_aload_n (hC _) dX3_flawOn_68 rfl ?_ | refine Es_aload_nN (hC _) dX3_flawOn_68 rfl ?_
  refine Es_iload_n (hC _) dX3_flawOn_69 rfl ?_
  refine Es_fV (hC _) mv_X3_58 dX3_flawOn_70 (c_pairOf hw hp h7 hq) (ok18 hw) rfl ⟨_, rfl, rfl⟩ rfl rfl (by decide) (Nat.le_of_ble_eq_true rfl) ?_
  rw [show prV (B 19 w) p q = nI q2 by unfold prV; rw [h2]]
  refine Es_fV (hC _) mv_X3_48 dX3_flawOn_73 (c_tyreOn_in hw hp h7 (by omega)) (ok18 hw) rfl ⟨_, rfl, rfl⟩ rfl rfl (by decide) (Nat.le_of_ble_eq_true rfl) ?_
  rw [show rT ad (B 20 w q2) = some (ad 21 t2) by rw [hon2, rT, if_neg (nI_pos (by omega)), nI_clamp (by omega)]]
  first | refine Es_astore (lv' := [_, _, _, _, _, _, _, _]) (hC _) dX3_flawOn_76 (by decide) rfl rfl ?_ | refine Es_astoreN (lv' := [_, _, _, _, _, _, _, _]) (hC _) dX3_flawOn_76 (by decide) rfl rfl ?_
  first | refine Es_aload (hC _) dX3_flawOn_78 rfl ?_ | refine Es_aloadN (hC _) dX3_flawOn_78 rfl ?_
  refine Es_ifnull (hC _) dX3_flawOn_80 ?_
  refine Es_iload (hC _) dX3_flawOn_83 rfl ?_
  first | refine Es_aload (hC _) dX3_flawOn_85 rfl ?_ | refine Es_aloadN (hC _) dX3_flawOn_85 rfl ?_
  refine Es_iconst (v := 0) (hC _) dX3_flawOn_87 (by decide) ?_
  refine Es_fV (hC _) mv_X3_55 dX3_flawOn_88 (cT_depth (mo := 0) hF ht2 (by decide)) (ok21 ht2) rfl ⟨_, rfl, rfl⟩ rfl rfl (by decide) (Nat.le_of_ble_eq_true rfl) ?_
  refine Es_isub (hC _) dX3_flawOn_91 ?_
  refine Es_fS (hC _) ms_X3_61 dX3_flawOn_92 j_abs rfl rfl (by decide) (Nat.le_of_ble_eq_true rfl) ?_
  rw [abI_N (by omega) (by omega)]
  refine Es_iload_n (hC _) dX3_flawOn_95 rfl ?_
  refine Es_icmp_le (hC _) 103 dX3_flawOn_96 (by decide) (fun hb96 => ?_) (fun hb96 => False.elim (hb96 (nI_le (a := ((tDp B L t 0 - tDp B L t2 0) + (tDp B L t2 0 - tDp B L t 0))) (b := ap) (by omega) (by omega))))
  refine Es_iconst (v := 0) (hC _) dX3_flawOn_103 (by decide) ?_
  exact Es_iret dX3_flawOn_104 rfl ⟨by rw [fl_7 hon (by omega) hk hk5 hl hl1 (fun z => hs2 z.2) h1 h2 hon2 (by omega), if_neg h9]; rfl, rfl, rfl⟩

theorem c_flawOn {ad : sA} {nw nt : Nat} {B : sB} {L : sL} {w p : Nat} (hw : w < nw) (hp : B 18 w 3 = nI p) (h7 : p ≤ 7) {q ap : Nat} (hq : q < p) (hap : ap ≤ 100) (h40 : nt ≤ 40) (hF : TFa nt B L) (hL : PL B) (hW : PW nt B w p) : Cf yX3_flawOn cX3_flawOn 8 (some FieldType.int) 3 [.ref (ad 18 w), .int (nI q), .ref (ad 3 0), .int (nI ap)] ad nw nt B L (some (.int (nI (flS B L w p ap q)))) B L := by
  obtain ⟨⟨k, hk5, hk⟩, hon⟩ := hW.2.2 q hq
  obtain ⟨l, hl1, hl⟩ := hL k hk5
  rcases hon with hon | ⟨t, ht, hon⟩
  · by_cases h4 : B 19 w q = 4
    · exact c_flawOn_1 hw hp h7 hq hap h40 hF hon h4
    · exact c_flawOn_2 hw hp h7 hq hap h40 hF hon h4
  · by_cases h0 : B 19 w q = 0
    · by_cases htr : 0 < B 21 t 7
      · exact c_flawOn_3 hw hp h7 hq hap h40 hF ht hon hk hk5 hl hl1 h0 htr
      · by_cases h1 : tDp B L t 0 < l
        · exact c_flawOn_4b hw hp h7 hq hap h40 hF ht hon hk hk5 hl hl1 h0 htr h1
        · cases h2 : prX (B 19 w) p q with
          | none => exact c_flawOn_5b hw hp h7 hq hap h40 hF ht hon hk hk5 hl hl1 h0 htr h1 h2
          | some q2 =>
            have hq2 := (prX_s h2).2.1
            rcases (hW.2.2 q2 hq2).2 with hon2 | ⟨t2, ht2, hon2⟩
            · exact c_flawOn_6b hw hp h7 hq hap h40 hF ht hon hk hk5 hl hl1 h0 htr h1 h2 hq2 hon2
            · by_cases h9 : ap < (tDp B L t 0 - tDp B L t2 0) + (tDp B L t2 0 - tDp B L t 0)
              · exact c_flawOn_7by hw hp h7 hq hap h40 hF ht hon hk hk5 hl hl1 h0 htr h1 h2 hq2 ht2 hon2 h9
              · exact c_flawOn_7bn hw hp h7 hq hap h40 hF ht hon hk hk5 hl hl1 h0 htr h1 h2 hq2 ht2 hon2 h9
    · by_cases h1 : tDp B L t 0 < l
      · exact c_flawOn_4a hw hp h7 hq hap h40 hF ht hon hk hk5 hl hl1 h0 h1
      · cases h2 : prX (B 19 w) p q with
        | none => exact c_flawOn_5a hw hp h7 hq hap h40 hF ht hon hk hk5 hl hl1 h0 h1 h2
        | some q2 =>
          have hq2 := (prX_s h2).2.1
          rcases (hW.2.2 q2 hq2).2 with hon2 | ⟨t2, ht2, hon2⟩
          · exact c_flawOn_6a hw hp h7 hq hap h40 hF ht hon hk hk5 hl hl1 h0 h1 h2 hq2 hon2
          · by_cases h9 : ap < (tDp B L t 0 - tDp B L t2 0) + (tDp B L t2 0 - tDp B L t 0)
            · exact c_flawOn_7ay hw hp h7 hq hap h40 hF ht hon hk hk5 hl hl1 h0 h1 h2 hq2 ht2 hon2 h9
            · exact c_flawOn_7an hw hp h7 hq hap h40 hF ht hon hk hk5 hl hl1 h0 h1 h2 hq2 ht2 hon2 h9
theorem fl_le {nt : Nat} {B : sB} {L : sL} {w p ap q : Nat} : flS B L w p ap q ≤ 4 := by
  unfold flS
  repeat' split
  all_goals omega
set_option maxRecDepth 100000 in
set_option maxHeartbeats 4000000 in
theorem l_why {ad : sA} {nw nt : Nat} {B : sB} {L : sL} {bc bs : Nat} {w p : Nat} (hw : w < nw) (hp : B 18 w 3 = nI p) (h7 : p ≤ 7) {ap : Nat} {g : Int32} (hap : ap ≤ 100) (h40 : nt ≤ 40) (hF : TFa nt B L) (hL : PL B) (hW : PW nt B w p) : ∀ (n i : Nat), i ≤ p → p - i = n → whyS B L w p ap n i = g → Es (sCm yX3_whyUnfit cX3_whyUnfit 5 (some .int) 4 ad nw nt (fun v B1 L1 => v = some (.int g) ∧ B1 = B ∧ L1 = L)) 5 2 [some (.ref (ad 18 w)), some (.ref (ad 3 0)), some (.int (nI ap)), some (.int (nI i)), none] [] ad nw nt B L bc bs := by
  have hC : ∀ Q, je_Ok (sCm yX3_whyUnfit cX3_whyUnfit 5 (some .int) 4 ad nw nt Q) RX3 cX3_whyUnfit 5 4 := fun _ => je_Cm_ok
  intro n
  induction n with
  | zero =>
    intro i hi hn hg
    have hik : i = p := by omega
    subst hik
    refine Es_iload_n (hC _) dX3_whyUnfit_2 rfl ?_
    first | refine Es_aload_n (hC _) dX3_whyUnfit_3 rfl ?_ | refine Es_aload_nN (hC _) dX3_whyUnfit_3 rfl ?_
    refine Sg_X3_3 (hC _) fl_X3_25 dX3_whyUnfit_4 hw ?_
    rw [hp]
    refine Es_icmp_ge (hC _) 38 dX3_whyUnfit_7 (by decide) (fun hb7 => ?_) (fun hb7 => False.elim (hb7 (nI_le (Nat.le_refl _) (by omega))))
    refine Es_bipush (v := -9) (hC _) dX3_whyUnfit_38 (by decide) ?_
    exact Es_iret dX3_whyUnfit_40 rfl ⟨by rw [← hg]; rfl, rfl, rfl⟩
  | succ n ih =>
    intro i hi hn hg
    have hfl := fl_le (nt := nt) (B := B) (L := L) (w := w) (p := p) (ap := ap) (q := i)
    by_cases h0 : flS B L w p ap i = 0
    · skip
      refine Es_iload_n (hC _) dX3_whyUnfit_2 rfl ?_
      first | refine Es_aload_n (hC _) dX3_whyUnfit_3 rfl ?_ | refine Es_aload_nN (hC _) dX3_whyUnfit_3 rfl ?_
      refine Sg_X3_3 (hC _) fl_X3_25 dX3_whyUnfit_4 hw ?_
      rw [hp]
      refine Es_icmp_ge (hC _) 38 dX3_whyUnfit_7 (by decide) (fun hb7 => False.elim (nI_ge (b := p) (a := i) (by omega) (by omega) hb7)) (fun hb7 => ?_)
      first | refine Es_aload_n (hC _) dX3_whyUnfit_10 rfl ?_ | refine Es_aload_nN (hC _) dX3_whyUnfit_10 rfl ?_
      refine Es_iload_n (hC _) dX3_whyUnfit_11 rfl ?_
      first | refine Es_aload_n (hC _) dX3_whyUnfit_12 rfl ?_ | refine Es_aload_nN (hC _) dX3_whyUnfit_12 rfl ?_
      refine Es_iload_n (hC _) dX3_whyUnfit_13 rfl ?_
      refine Es_fV (hC _) mv_X3_44 dX3_whyUnfit_14 (c_flawOn hw hp h7 (by omega) hap h40 hF hL hW) (ok18 hw) rfl ⟨_, rfl, rfl⟩ rfl rfl (by decide) (Nat.le_of_ble_eq_true rfl) ?_
      refine Es_istore (lv' := [_, _, _, _, _]) (hC _) dX3_whyUnfit_17 (by decide) rfl rfl ?_
      refine Es_iload (hC _) dX3_whyUnfit_19 rfl ?_
      refine Es_if_eq (hC _) 32 dX3_whyUnfit_21 (by decide) (fun hb21 => ?_) (fun hb21 => False.elim (hb21 (by rw [h0]; rfl)))
      refine Es_iinc (lv' := [_, _, _, _, _]) (hC _) dX3_whyUnfit_32 (by decide) rfl (show _ + Int32.ofInt (1) = _ + (1) from rfl) rfl rfl ?_
      refine Es_goto (hC _) 2 dX3_whyUnfit_35 (by decide) ?_
      refine Es.kill 4 (lv' := [_, _, _, _, _]) rfl ?_
      rw [nI_1]
      exact ih (i + 1) (by omega) (by omega) (by rw [← hg]; simp only [whyS]; rw [if_pos h0])
    · skip
      refine Es_iload_n (hC _) dX3_whyUnfit_2 rfl ?_
      first | refine Es_aload_n (hC _) dX3_whyUnfit_3 rfl ?_ | refine Es_aload_nN (hC _) dX3_whyUnfit_3 rfl ?_
      refine Sg_X3_3 (hC _) fl_X3_25 dX3_whyUnfit_4 hw ?_
      rw [hp]
      refine Es_icmp_ge (hC _) 38 dX3_whyUnfit_7 (by decide) (fun hb7 => False.elim (nI_ge (b := p) (a := i) (by omega) (by omega) hb7)) (fun hb7 => ?_)
      first | refine Es_aload_n (hC _) dX3_whyUnfit_10 rfl ?_ | refine Es_aload_nN (hC _) dX3_whyUnfit_10 rfl ?_
      refine Es_iload_n (hC _) dX3_whyUnfit_11 rfl ?_
      first | refine Es_aload_n (hC _) dX3_whyUnfit_12 rfl ?_ | refine Es_aload_nN (hC _) dX3_whyUnfit_12 rfl ?_
      refine Es_iload_n (hC _) dX3_whyUnfit_13 rfl ?_
      refine Es_fV (hC _) mv_X3_44 dX3_whyUnfit_14 (c_flawOn hw hp h7 (by omega) hap h40 hF hL hW) (ok18 hw) rfl ⟨_, rfl, rfl⟩ rfl rfl (by decide) (Nat.le_of_ble_eq_true rfl) ?_
      refine Es_istore (lv' := [_, _, _, _, _]) (hC _) dX3_whyUnfit_17 (by decide) rfl rfl ?_
      refine Es_iload (hC _) dX3_whyUnfit_19 rfl ?_
      refine Es_if_eq (hC _) 32 dX3_whyUnfit_21 (by decide) (fun hb21 => False.elim (nI_ne0 (by omega) (by omega) hb21)) (fun hb21 => ?_)
      refine Es_bipush (v := 10) (hC _) dX3_whyUnfit_24 (by decide) ?_
      refine Es_iload_n (hC _) dX3_whyUnfit_26 rfl ?_
      refine Es_imul (hC _) dX3_whyUnfit_27 ?_
      refine Es_iload (hC _) dX3_whyUnfit_28 rfl ?_
      refine Es_iadd (hC _) dX3_whyUnfit_30 ?_
      exact Es_iret dX3_whyUnfit_31 rfl ⟨by rw [← hg]; simp only [whyS]; rw [if_neg h0, show (10 : Int32) = nI 10 from rfl, pk_mul, nI_add], rfl, rfl⟩
set_option maxRecDepth 100000 in
set_option maxHeartbeats 4000000 in
theorem c_whyUnfit {ad : sA} {nw nt : Nat} {B : sB} {L : sL} {w p : Nat} (hw : w < nw) (hp : B 18 w 3 = nI p) (h7 : p ≤ 7) {ap : Nat} (hap : ap ≤ 100) (h40 : nt ≤ 40) (hF : TFa nt B L) (hL : PL B) (hW : PW nt B w p) : Cf yX3_whyUnfit cX3_whyUnfit 5 (some FieldType.int) 4 [.ref (ad 18 w), .ref (ad 3 0), .int (nI ap)] ad nw nt B L (some (.int (whyS B L w p ap p 0))) (B) (L) := by
  have hC : ∀ Q, je_Ok (sCm yX3_whyUnfit cX3_whyUnfit 5 (some FieldType.int) 4 ad nw nt Q) RX3 cX3_whyUnfit 5 4 := fun _ => je_Cm_ok
  refine Cs_of [some (.ref (ad 18 w)), some (.ref (ad 3 0)), some (.int (nI ap)), none, none] (by decide) rfl (Nat.le_of_ble_eq_true rfl) ?_
  refine Es_iconst (v := 0) (hC _) dX3_whyUnfit_0 (by decide) ?_
  refine Es_istore_n (lv' := [_, _, _, _, _]) (hC _) dX3_whyUnfit_1 (by decide) rfl rfl ?_
  exact l_why hw hp h7 hap h40 hF hL hW p 0 (by omega) (by omega) rfl

