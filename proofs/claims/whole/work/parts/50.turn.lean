/-! ===== TURN ===== -/
set_option maxRecDepth 100000 in
set_option maxHeartbeats 4000000 in
theorem c_chosenFor_s {ad : sA} {nw nt : Nat} {B : sB} {L : sL} {a : Nat → Nat} {K q k : Nat} (h40 : nt ≤ 40) (hTL : TL nt B a K) (hq : q < 7) (hc : B 15 0 q = nI k) (hk : k < K) : Cf yX1_chosenFor cX1_chosenFor 2 (some (FieldType.object "TyreBook$Tyre")) 1 [.ref (ad 10 0), .int (nI q)] ad nw nt B L (some (.ref (ad 21 (a k)))) (B) (L) := by
  have hC : ∀ Q, je_Ok (sCm yX1_chosenFor cX1_chosenFor 2 (some (FieldType.object "TyreBook$Tyre")) 1 ad nw nt Q) RX1 cX1_chosenFor 2 1 := fun _ => je_Cm_ok
  refine Cs_of [some (.ref (ad 10 0)), some (.int (nI q))] (by decide) rfl (Nat.le_of_ble_eq_true rfl) ?_
  first | refine Es_aload_n (hC _) dX1_chosenFor_0 rfl ?_ | refine Es_aload_nN (hC _) dX1_chosenFor_0 rfl ?_
  first | refine Es_aload_n (hC _) dX1_chosenFor_1 rfl ?_ | refine Es_aload_nN (hC _) dX1_chosenFor_1 rfl ?_
  refine Sg_X1_4 (hC _) fl_X1_27 dX1_chosenFor_2 ?_
  refine Es_iload_n (hC _) dX1_chosenFor_5 rfl ?_
  refine Es_fSN (hC _) ms_X1_63 dX1_chosenFor_6 (c_at (kd := 15) (n := 7) rfl rfl rfl (by omega) (by decide)) rfl rfl (by decide) (Nat.le_of_ble_eq_true rfl) ?_
  rw [hc]
  refine Es_fV (hC _) mv_X1_80 dX1_chosenFor_9 (c_turnedAt h40 hTL hk) rfl rfl ⟨_, rfl, rfl⟩ rfl rfl (by decide) (Nat.le_of_ble_eq_true rfl) ?_
  exact Es_aret dX1_chosenFor_12 (by first | exact Or.inl rfl | exact Or.inr ⟨_, rfl⟩) ⟨rfl, rfl, rfl⟩

set_option maxRecDepth 100000 in
set_option maxHeartbeats 4000000 in
theorem c_chosenFor_n {ad : sA} {nw nt : Nat} {B : sB} {L : sL} {q : Nat} (hq : q < 7) (hc : B 15 0 q = -1) : Cf yX1_chosenFor cX1_chosenFor 2 (some (FieldType.object "TyreBook$Tyre")) 1 [.ref (ad 10 0), .int (nI q)] ad nw nt B L (some .null) (B) (L) := by
  have hC : ∀ Q, je_Ok (sCm yX1_chosenFor cX1_chosenFor 2 (some (FieldType.object "TyreBook$Tyre")) 1 ad nw nt Q) RX1 cX1_chosenFor 2 1 := fun _ => je_Cm_ok
  refine Cs_of [some (.ref (ad 10 0)), some (.int (nI q))] (by decide) rfl (Nat.le_of_ble_eq_true rfl) ?_
  first | refine Es_aload_n (hC _) dX1_chosenFor_0 rfl ?_ | refine Es_aload_nN (hC _) dX1_chosenFor_0 rfl ?_
  first | refine Es_aload_n (hC _) dX1_chosenFor_1 rfl ?_ | refine Es_aload_nN (hC _) dX1_chosenFor_1 rfl ?_
  refine Sg_X1_4 (hC _) fl_X1_27 dX1_chosenFor_2 ?_
  refine Es_iload_n (hC _) dX1_chosenFor_5 rfl ?_
  refine Es_fSN (hC _) ms_X1_63 dX1_chosenFor_6 (c_at (kd := 15) (n := 7) rfl rfl rfl (by omega) (by decide)) rfl rfl (by decide) (Nat.le_of_ble_eq_true rfl) ?_
  rw [hc]
  refine Es_fV (hC _) mv_X1_80 dX1_chosenFor_9 c_turnedAt_0 rfl rfl ⟨_, rfl, rfl⟩ rfl rfl (by decide) (Nat.le_of_ble_eq_true rfl) ?_
  exact Es_aret dX1_chosenFor_12 (by first | exact Or.inl rfl | exact Or.inr ⟨_, rfl⟩) ⟨rfl, rfl, rfl⟩

/-- the class's cells while it lays -/
def CJ (B C : sB) (D : TD) (l : List (Option Nat)) (w kE q : Nat) : Prop := (∀ j, q ≤ j → C 20 w j = B 20 w j) ∧ ∃ k, C 6 0 3 = nI k ∧ k + rem D l q = kE
def XX (a : Nat → Nat) (l : List (Option Nat)) (q : Nat) : Int32 := oJ a (l.getD q none)
/-- the way that is laid, on the class's side -/
def CW (nt : Nat) (B : sB) (D : TD) (a : Nat → Nat) (l : List (Option Nat)) (w p K : Nat) : Prop := nt ≤ 40 ∧ K ≤ 7 ∧ l.length = p ∧ p ≤ 7 ∧ (∀ i k, l.getD i none = some k → k < K) ∧ (∀ k, k < K → a k < nt) ∧ (∀ q k, q < p → k < K → D.cg q k = if B 20 w q = nI (a k) then 0 else 1) ∧ ∀ q, q < p → B 20 w q = -1 ∨ ∃ t, t < nt ∧ B 20 w q = nI t
theorem CW_rem {nt : Nat} {B : sB} {D : TD} {a : Nat → Nat} {l : List (Option Nat)} {w p K : Nat} (h : CW nt B D a l w p K) {q : Nat} (hq : q < p) : rem D l q = (if XX a l q = B 20 w q ∨ XX a l q < 0 then 0 else 1) + rem D l (q + 1) := by
  obtain ⟨h40, hK, hl, hp, hlk, hak, hcg, hB⟩ := h
  rw [rem_s (by omega)]
  unfold XX
  cases hx : l.getD q none with
  | none =>
    rw [if_pos (Or.inr (show oJ a none < 0 from (show (-1 : Int32) < 0 by decide)))]
  | some k =>
    have hk := hlk q k hx
    have := hak k hk
    show D.cg q k + _ = (if nI (a k) = B 20 w q ∨ nI (a k) < 0 then 0 else 1) + _
    rw [hcg q k hq hk]
    by_cases he : B 20 w q = nI (a k)
    · rw [if_pos he, if_pos (Or.inl he.symm)]
    · rw [if_neg he, if_neg (fun z => z.elim (fun z => he z.symm) (nI_pos (by omega)))]
theorem CJ_s {nt : Nat} {B C : sB} {D : TD} {a : Nat → Nat} {l : List (Option Nat)} {w p K kE q : Nat} (h : CW nt B D a l w p K) (hq : q < p) (hkE : kE ≤ 600) (hJ : CJ B C D l w kE q) : CJ B (cT1 (XX a l q) w q C) D l w kE (q + 1) := by
  have hr := CW_rem h hq
  obtain ⟨h1, k, h2, h3⟩ := hJ
  have hCq := h1 q (Nat.le_refl _)
  unfold cT1
  rw [hCq]
  by_cases he : XX a l q = B 20 w q
  · rw [if_pos he]
    rw [if_pos (Or.inl he)] at hr
    exact ⟨fun j hj => h1 j (by omega), k, h2, by omega⟩
  · rw [if_neg he]
    by_cases hn : XX a l q < 0
    · rw [if_pos hn]
      rw [if_pos (Or.inr hn)] at hr
      exact ⟨fun j hj => by rw [uB_n (by omega)]; exact h1 j (by omega), k, by rw [uB_k (by decide)]; exact h2, by omega⟩
    · rw [if_neg hn]
      rw [if_neg (fun z => z.elim he hn)] at hr
      refine ⟨fun j hj => ?_, k + 1, ?_, by omega⟩
      · unfold cLog
        rw [uB_k (by decide), uB_k (by decide), uB_k (by decide), uB_k (by decide), uB_k (by decide), uB_n (by omega)]
        exact h1 j (by omega)
      · unfold cLog
        rw [uB_s, h2, nI_clamp (by omega)]
set_option maxRecDepth 100000 in
set_option maxHeartbeats 4000000 in
theorem l_lac {ad : sA} {nw nt : Nat} {B : sB} {L : sL} {bc bs : Nat} {D : TD} {a : Nat → Nat} {l : List (Option Nat)} {w p K kE : Nat} (hw : w < nw) (hCW : CW nt B D a l w p K) (hkE : kE ≤ 600) (hTL : TL nt B a K) (h18 : B 18 w 3 = nI p) (h18n : B 18 w 0 = nI w) (hch : ∀ q, q < p → B 15 0 q = oI (l.getD q none)) : ∀ (n q : Nat), q + n = p → CJ B (cT (XX a l) w B q) D l w kE q → Es (sCm yX5_layAsChosen cX5_layAsChosen 4 none 3 ad nw nt (fun v B1 L1 => v = none ∧ B1 = cT (XX a l) w B p ∧ L1 = L)) 4 2 [some (.ref (ad 0 0)), some (.ref (ad 18 w)), some (.int (nI q)), none] [] ad nw nt (cT (XX a l) w B q) L bc bs := by
  have hC : ∀ Q, je_Ok (sCm yX5_layAsChosen cX5_layAsChosen 4 none 3 ad nw nt Q) RX5 cX5_layAsChosen 4 3 := fun _ => je_Cm_ok
  obtain ⟨h40, hK, hl, hp7, hlk, haK, hcg, hB⟩ := id hCW
  intro n
  induction n with
  | zero =>
    intro q hn hJ
    have hqp : q = p := by omega
    subst hqp
    have g18 : cT (XX a l) w B q 18 w 3 = nI q := by rw [cT_k (by decide) (by decide) (by decide) (by decide) (by decide) (by decide)]; exact h18
    refine Es_iload_n (hC _) dX5_layAsChosen_2 rfl ?_
    first | refine Es_aload_n (hC _) dX5_layAsChosen_3 rfl ?_ | refine Es_aload_nN (hC _) dX5_layAsChosen_3 rfl ?_
    refine Sg_X3_3 (hC _) fl_X5_232 dX5_layAsChosen_4 hw ?_
    rw [g18]
    refine Es_icmp_ge (hC _) 50 dX5_layAsChosen_7 (by decide) (fun hb7 => ?_) (fun hb7 => False.elim (hb7 (nI_le (Nat.le_refl _) (by omega))))
    exact Es_vret dX5_layAsChosen_50 ⟨rfl, rfl, rfl⟩
  | succ n ih =>
    intro q hn hJ
    have g18 : cT (XX a l) w B q 18 w 3 = nI p := by rw [cT_k (by decide) (by decide) (by decide) (by decide) (by decide) (by decide)]; exact h18
    have g18n : cT (XX a l) w B q 18 w 0 = nI w := by rw [cT_k (by decide) (by decide) (by decide) (by decide) (by decide) (by decide)]; exact h18n
    have g15 : cT (XX a l) w B q 15 0 q = oI (l.getD q none) := by rw [cT_k (by decide) (by decide) (by decide) (by decide) (by decide) (by decide)]; exact hch q (by omega)
    have gTL : TL nt (cT (XX a l) w B q) a K := TL_f hTL (cT_k (by decide) (by decide) (by decide) (by decide) (by decide) (by decide) q) (cT_k (by decide) (by decide) (by decide) (by decide) (by decide) (by decide) q)
    have hr := CW_rem hCW (show q < p by omega)
    obtain ⟨k6, hk6, hkr⟩ := id hJ.2
    cases hx : l.getD q none with
    | none =>
      have hxx : XX a l q = -1 := by
        unfold XX
        rw [hx]
        rfl
      rcases hB q (by omega) with hon | ⟨t, ht, hon⟩
      · skip
        refine Es_iload_n (hC _) dX5_layAsChosen_2 rfl ?_
        first | refine Es_aload_n (hC _) dX5_layAsChosen_3 rfl ?_ | refine Es_aload_nN (hC _) dX5_layAsChosen_3 rfl ?_
        refine Sg_X3_3 (hC _) fl_X5_232 dX5_layAsChosen_4 hw ?_
        rw [g18]
        refine Es_icmp_ge (hC _) 50 dX5_layAsChosen_7 (by decide) (fun hb7 => False.elim (nI_ge (b := p) (a := q) (by omega) (by omega) hb7)) (fun hb7 => ?_)
        first | refine Es_aload_n (hC _) dX5_layAsChosen_10 rfl ?_ | refine Es_aload_nN (hC _) dX5_layAsChosen_10 rfl ?_
        refine Sg_X5_6 (hC _) fl_X5_52 dX5_layAsChosen_11 ?_
        refine Es_iload_n (hC _) dX5_layAsChosen_14 rfl ?_
        refine Es_fV (hC _) mv_X5_277 dX5_layAsChosen_15 (c_chosenFor_n (by omega) (by rw [g15, hx]; rfl)) rfl rfl ⟨_, rfl, rfl⟩ rfl rfl (by decide) (Nat.le_of_ble_eq_true rfl) ?_
        first | refine Es_astore_n (lv' := [_, _, _, _]) (hC _) dX5_layAsChosen_18 (by decide) rfl rfl ?_ | refine Es_astore_nN (lv' := [_, _, _, _]) (hC _) dX5_layAsChosen_18 (by decide) rfl rfl ?_
        first | refine Es_aload_n (hC _) dX5_layAsChosen_19 rfl ?_ | refine Es_aload_nN (hC _) dX5_layAsChosen_19 rfl ?_
        first | refine Es_aload_n (hC _) dX5_layAsChosen_20 rfl ?_ | refine Es_aload_nN (hC _) dX5_layAsChosen_20 rfl ?_
        refine Es_iload_n (hC _) dX5_layAsChosen_21 rfl ?_
        refine Es_fV (hC _) mv_X5_142 dX5_layAsChosen_22 (c_tyreOn_in hw g18 hp7 (by omega)) (ok18 hw) rfl ⟨_, rfl, rfl⟩ rfl rfl (by decide) (Nat.le_of_ble_eq_true rfl) ?_
        rw [show rT ad (cT (XX a l) w B q 20 w q) = none by rw [hJ.1 q (Nat.le_refl _), hon]; rfl]
        refine Es_acmp_eq_nn (hC _) 44 dX5_layAsChosen_25 (by decide) ?_
        refine Es_iinc (lv' := [_, _, _, _]) (hC _) dX5_layAsChosen_44 (by decide) rfl (show _ + Int32.ofInt (1) = _ + (1) from rfl) rfl rfl ?_
        refine Es_goto (hC _) 2 dX5_layAsChosen_47 (by decide) ?_
        refine Es.kill 3 (lv' := [_, _, _, _]) rfl ?_
        rw [nI_1]
        refine Es.eqB ?_ (ih (q + 1) (by omega) (CJ_s hCW (by omega) hkE hJ))
        show _ = cT1 (XX a l q) w q (cT (XX a l) w B q)
        unfold cT1
        rw [if_pos (by rw [hJ.1 q (Nat.le_refl _), hxx, hon])]
      · skip
        refine Es_iload_n (hC _) dX5_layAsChosen_2 rfl ?_
        first | refine Es_aload_n (hC _) dX5_layAsChosen_3 rfl ?_ | refine Es_aload_nN (hC _) dX5_layAsChosen_3 rfl ?_
        refine Sg_X3_3 (hC _) fl_X5_232 dX5_layAsChosen_4 hw ?_
        rw [g18]
        refine Es_icmp_ge (hC _) 50 dX5_layAsChosen_7 (by decide) (fun hb7 => False.elim (nI_ge (b := p) (a := q) (by omega) (by omega) hb7)) (fun hb7 => ?_)
        first | refine Es_aload_n (hC _) dX5_layAsChosen_10 rfl ?_ | refine Es_aload_nN (hC _) dX5_layAsChosen_10 rfl ?_
        refine Sg_X5_6 (hC _) fl_X5_52 dX5_layAsChosen_11 ?_
        refine Es_iload_n (hC _) dX5_layAsChosen_14 rfl ?_
        refine Es_fV (hC _) mv_X5_277 dX5_layAsChosen_15 (c_chosenFor_n (by omega) (by rw [g15, hx]; rfl)) rfl rfl ⟨_, rfl, rfl⟩ rfl rfl (by decide) (Nat.le_of_ble_eq_true rfl) ?_
        first | refine Es_astore_n (lv' := [_, _, _, _]) (hC _) dX5_layAsChosen_18 (by decide) rfl rfl ?_ | refine Es_astore_nN (lv' := [_, _, _, _]) (hC _) dX5_layAsChosen_18 (by decide) rfl rfl ?_
        first | refine Es_aload_n (hC _) dX5_layAsChosen_19 rfl ?_ | refine Es_aload_nN (hC _) dX5_layAsChosen_19 rfl ?_
        first | refine Es_aload_n (hC _) dX5_layAsChosen_20 rfl ?_ | refine Es_aload_nN (hC _) dX5_layAsChosen_20 rfl ?_
        refine Es_iload_n (hC _) dX5_layAsChosen_21 rfl ?_
        refine Es_fV (hC _) mv_X5_142 dX5_layAsChosen_22 (c_tyreOn_in hw g18 hp7 (by omega)) (ok18 hw) rfl ⟨_, rfl, rfl⟩ rfl rfl (by decide) (Nat.le_of_ble_eq_true rfl) ?_
        rw [show rT ad (cT (XX a l) w B q 20 w q) = some (ad 21 t) by rw [hJ.1 q (Nat.le_refl _), hon, rT, if_neg (nI_pos (by omega)), nI_clamp (by omega)]]
        refine Es_acmp_eq_nr (hC _) 44 dX5_layAsChosen_25 (by decide) ?_
        first | refine Es_aload_n (hC _) dX5_layAsChosen_28 rfl ?_ | refine Es_aload_nN (hC _) dX5_layAsChosen_28 rfl ?_
        refine Es_iload_n (hC _) dX5_layAsChosen_29 rfl ?_
        first | refine Es_aload_n (hC _) dX5_layAsChosen_30 rfl ?_ | refine Es_aload_nN (hC _) dX5_layAsChosen_30 rfl ?_
        refine Es_fV (hC _) mv_X5_145 dX5_layAsChosen_31 (c_lay_null hw g18 hp7 (by omega)) (ok18 hw) rfl ⟨_, rfl, rfl⟩ rfl rfl (by decide) (Nat.le_of_ble_eq_true rfl) ?_
        first | refine Es_aload_n (hC _) dX5_layAsChosen_34 rfl ?_ | refine Es_aload_nN (hC _) dX5_layAsChosen_34 rfl ?_
        first | refine Es_aload_n (hC _) dX5_layAsChosen_35 rfl ?_ | refine Es_aload_nN (hC _) dX5_layAsChosen_35 rfl ?_
        first | refine Es_aload_n (hC _) dX5_layAsChosen_36 rfl ?_ | refine Es_aload_nN (hC _) dX5_layAsChosen_36 rfl ?_
        refine Es_iload_n (hC _) dX5_layAsChosen_37 rfl ?_
        refine Es_fV (hC _) mv_X5_149 dX5_layAsChosen_38 (c_spot hw (by rw [uB_k (by decide)]; exact g18n)) (ok18 hw) rfl ⟨_, rfl, rfl⟩ rfl rfl (by decide) (Nat.le_of_ble_eq_true rfl) ?_
        refine Es_fV (hC _) mv_X5_128 dX5_layAsChosen_41 c_move_null rfl rfl ⟨_, rfl, rfl⟩ rfl rfl (by decide) (Nat.le_of_ble_eq_true rfl) ?_
        refine Es_iinc (lv' := [_, _, _, _]) (hC _) dX5_layAsChosen_44 (by decide) rfl (show _ + Int32.ofInt (1) = _ + (1) from rfl) rfl rfl ?_
        refine Es_goto (hC _) 2 dX5_layAsChosen_47 (by decide) ?_
        refine Es.kill 3 (lv' := [_, _, _, _]) rfl ?_
        rw [nI_1]
        refine Es.eqB ?_ (ih (q + 1) (by omega) (CJ_s hCW (by omega) hkE hJ))
        show _ = cT1 (XX a l q) w q (cT (XX a l) w B q)
        unfold cT1
        rw [if_neg (by rw [hJ.1 q (Nat.le_refl _), hxx, hon]; exact fun z => nI_m1 (by omega) z.symm), if_pos (by rw [hxx]; decide)]
    | some k =>
      have hk := hlk q k hx
      have hak := haK k hk
      have hxx : XX a l q = nI (a k) := by
        unfold XX
        rw [hx]
        rfl
      rcases hB q (by omega) with hon | ⟨t, ht, hon⟩
      · have hne : ¬ XX a l q = B 20 w q := by
          rw [hxx, hon]
          exact nI_m1 (by omega)
        rw [if_neg (fun z => z.elim hne (by rw [hxx]; exact nI_pos (by omega)))] at hr
        refine Es_iload_n (hC _) dX5_layAsChosen_2 rfl ?_
        first | refine Es_aload_n (hC _) dX5_layAsChosen_3 rfl ?_ | refine Es_aload_nN (hC _) dX5_layAsChosen_3 rfl ?_
        refine Sg_X3_3 (hC _) fl_X5_232 dX5_layAsChosen_4 hw ?_
        rw [g18]
        refine Es_icmp_ge (hC _) 50 dX5_layAsChosen_7 (by decide) (fun hb7 => False.elim (nI_ge (b := p) (a := q) (by omega) (by omega) hb7)) (fun hb7 => ?_)
        first | refine Es_aload_n (hC _) dX5_layAsChosen_10 rfl ?_ | refine Es_aload_nN (hC _) dX5_layAsChosen_10 rfl ?_
        refine Sg_X5_6 (hC _) fl_X5_52 dX5_layAsChosen_11 ?_
        refine Es_iload_n (hC _) dX5_layAsChosen_14 rfl ?_
        refine Es_fV (hC _) mv_X5_277 dX5_layAsChosen_15 (c_chosenFor_s h40 gTL (by omega) (by rw [g15, hx]; rfl) hk) rfl rfl ⟨_, rfl, rfl⟩ rfl rfl (by decide) (Nat.le_of_ble_eq_true rfl) ?_
        first | refine Es_astore_n (lv' := [_, _, _, _]) (hC _) dX5_layAsChosen_18 (by decide) rfl rfl ?_ | refine Es_astore_nN (lv' := [_, _, _, _]) (hC _) dX5_layAsChosen_18 (by decide) rfl rfl ?_
        first | refine Es_aload_n (hC _) dX5_layAsChosen_19 rfl ?_ | refine Es_aload_nN (hC _) dX5_layAsChosen_19 rfl ?_
        first | refine Es_aload_n (hC _) dX5_layAsChosen_20 rfl ?_ | refine Es_aload_nN (hC _) dX5_layAsChosen_20 rfl ?_
        refine Es_iload_n (hC _) dX5_layAsChosen_21 rfl ?_
        refine Es_fV (hC _) mv_X5_142 dX5_layAsChosen_22 (c_tyreOn_in hw g18 hp7 (by omega)) (ok18 hw) rfl ⟨_, rfl, rfl⟩ rfl rfl (by decide) (Nat.le_of_ble_eq_true rfl) ?_
        rw [show rT ad (cT (XX a l) w B q 20 w q) = none by rw [hJ.1 q (Nat.le_refl _), hon]; rfl]
        refine Es_acmp_eq_rn (hC _) 44 dX5_layAsChosen_25 (by decide) ?_
        first | refine Es_aload_n (hC _) dX5_layAsChosen_28 rfl ?_ | refine Es_aload_nN (hC _) dX5_layAsChosen_28 rfl ?_
        refine Es_iload_n (hC _) dX5_layAsChosen_29 rfl ?_
        first | refine Es_aload_n (hC _) dX5_layAsChosen_30 rfl ?_ | refine Es_aload_nN (hC _) dX5_layAsChosen_30 rfl ?_
        refine Es_fV (hC _) mv_X5_145 dX5_layAsChosen_31 (c_lay hw g18 hp7 (by omega) hak (by omega)) (ok18 hw) rfl ⟨_, rfl, rfl⟩ rfl rfl (by decide) (Nat.le_of_ble_eq_true rfl) ?_
        first | refine Es_aload_n (hC _) dX5_layAsChosen_34 rfl ?_ | refine Es_aload_nN (hC _) dX5_layAsChosen_34 rfl ?_
        first | refine Es_aload_n (hC _) dX5_layAsChosen_35 rfl ?_ | refine Es_aload_nN (hC _) dX5_layAsChosen_35 rfl ?_
        first | refine Es_aload_n (hC _) dX5_layAsChosen_36 rfl ?_ | refine Es_aload_nN (hC _) dX5_layAsChosen_36 rfl ?_
        refine Es_iload_n (hC _) dX5_layAsChosen_37 rfl ?_
        refine Es_fV (hC _) mv_X5_149 dX5_layAsChosen_38 (c_spot hw (by rw [uB_k (by decide)]; exact g18n)) (ok18 hw) rfl ⟨_, rfl, rfl⟩ rfl rfl (by decide) (Nat.le_of_ble_eq_true rfl) ?_
        refine Es_fV (hC _) mv_X5_128 dX5_layAsChosen_41 (c_move (k := k6) hak (by rw [uB_k (by decide)]; exact hk6) (by omega)) rfl rfl ⟨_, rfl, rfl⟩ rfl rfl (by decide) (Nat.le_of_ble_eq_true rfl) ?_
        refine Es_iinc (lv' := [_, _, _, _]) (hC _) dX5_layAsChosen_44 (by decide) rfl (show _ + Int32.ofInt (1) = _ + (1) from rfl) rfl rfl ?_
        refine Es_goto (hC _) 2 dX5_layAsChosen_47 (by decide) ?_
        refine Es.kill 3 (lv' := [_, _, _, _]) rfl ?_
        rw [nI_1]
        refine Es.eqB ?_ (ih (q + 1) (by omega) (CJ_s hCW (by omega) hkE hJ))
        show _ = cT1 (XX a l q) w q (cT (XX a l) w B q)
        unfold cT1
        rw [if_neg (by rw [hJ.1 q (Nat.le_refl _)]; exact hne), if_neg (by rw [hxx]; exact nI_pos (by omega)), hxx, nI_clamp (by omega), hk6, nI_clamp (by omega)]
        rw [uB_k (by decide), uB_k (by decide)]
      · by_cases hat : a k = t
        · skip
          refine Es_iload_n (hC _) dX5_layAsChosen_2 rfl ?_
          first | refine Es_aload_n (hC _) dX5_layAsChosen_3 rfl ?_ | refine Es_aload_nN (hC _) dX5_layAsChosen_3 rfl ?_
          refine Sg_X3_3 (hC _) fl_X5_232 dX5_layAsChosen_4 hw ?_
          rw [g18]
          refine Es_icmp_ge (hC _) 50 dX5_layAsChosen_7 (by decide) (fun hb7 => False.elim (nI_ge (b := p) (a := q) (by omega) (by omega) hb7)) (fun hb7 => ?_)
          first | refine Es_aload_n (hC _) dX5_layAsChosen_10 rfl ?_ | refine Es_aload_nN (hC _) dX5_layAsChosen_10 rfl ?_
          refine Sg_X5_6 (hC _) fl_X5_52 dX5_layAsChosen_11 ?_
          refine Es_iload_n (hC _) dX5_layAsChosen_14 rfl ?_
          refine Es_fV (hC _) mv_X5_277 dX5_layAsChosen_15 (c_chosenFor_s h40 gTL (by omega) (by rw [g15, hx]; rfl) hk) rfl rfl ⟨_, rfl, rfl⟩ rfl rfl (by decide) (Nat.le_of_ble_eq_true rfl) ?_
          first | refine Es_astore_n (lv' := [_, _, _, _]) (hC _) dX5_layAsChosen_18 (by decide) rfl rfl ?_ | refine Es_astore_nN (lv' := [_, _, _, _]) (hC _) dX5_layAsChosen_18 (by decide) rfl rfl ?_
          first | refine Es_aload_n (hC _) dX5_layAsChosen_19 rfl ?_ | refine Es_aload_nN (hC _) dX5_layAsChosen_19 rfl ?_
          first | refine Es_aload_n (hC _) dX5_layAsChosen_20 rfl ?_ | refine Es_aload_nN (hC _) dX5_layAsChosen_20 rfl ?_
          refine Es_iload_n (hC _) dX5_layAsChosen_21 rfl ?_
          refine Es_fV (hC _) mv_X5_142 dX5_layAsChosen_22 (c_tyreOn_in hw g18 hp7 (by omega)) (ok18 hw) rfl ⟨_, rfl, rfl⟩ rfl rfl (by decide) (Nat.le_of_ble_eq_true rfl) ?_
          rw [show rT ad (cT (XX a l) w B q 20 w q) = some (ad 21 t) by rw [hJ.1 q (Nat.le_refl _), hon, rT, if_neg (nI_pos (by omega)), nI_clamp (by omega)]]
          refine Es_acmp_eq_rr (hC _) 44 dX5_layAsChosen_25 (by decide) hak ht (fun hb25 => ?_) (fun hb25 => False.elim (hb25 hat))
          refine Es_iinc (lv' := [_, _, _, _]) (hC _) dX5_layAsChosen_44 (by decide) rfl (show _ + Int32.ofInt (1) = _ + (1) from rfl) rfl rfl ?_
          refine Es_goto (hC _) 2 dX5_layAsChosen_47 (by decide) ?_
          refine Es.kill 3 (lv' := [_, _, _, _]) rfl ?_
          rw [nI_1]
          refine Es.eqB ?_ (ih (q + 1) (by omega) (CJ_s hCW (by omega) hkE hJ))
          show _ = cT1 (XX a l q) w q (cT (XX a l) w B q)
          unfold cT1
          rw [if_pos (by rw [hJ.1 q (Nat.le_refl _), hxx, hon, hat])]
        · have hne : ¬ XX a l q = B 20 w q := by
            rw [hxx, hon]
            exact fun z => hat ((nI_eq (by omega) (by omega)).mp z)
          rw [if_neg (fun z => z.elim hne (by rw [hxx]; exact nI_pos (by omega)))] at hr
          refine Es_iload_n (hC _) dX5_layAsChosen_2 rfl ?_
          first | refine Es_aload_n (hC _) dX5_layAsChosen_3 rfl ?_ | refine Es_aload_nN (hC _) dX5_layAsChosen_3 rfl ?_
          refine Sg_X3_3 (hC _) fl_X5_232 dX5_layAsChosen_4 hw ?_
          rw [g18]
          refine Es_icmp_ge (hC _) 50 dX5_layAsChosen_7 (by decide) (fun hb7 => False.elim (nI_ge (b := p) (a := q) (by omega) (by omega) hb7)) (fun hb7 => ?_)
          first | refine Es_aload_n (hC _) dX5_layAsChosen_10 rfl ?_ | refine Es_aload_nN (hC _) dX5_layAsChosen_10 rfl ?_
          refine Sg_X5_6 (hC _) fl_X5_52 dX5_layAsChosen_11 ?_
          refine Es_iload_n (hC _) dX5_layAsChosen_14 rfl ?_
          refine Es_fV (hC _) mv_X5_277 dX5_layAsChosen_15 (c_chosenFor_s h40 gTL (by omega) (by rw [g15, hx]; rfl) hk) rfl rfl ⟨_, rfl, rfl⟩ rfl rfl (by decide) (Nat.le_of_ble_eq_true rfl) ?_
          first | refine Es_astore_n (lv' := [_, _, _, _]) (hC _) dX5_layAsChosen_18 (by decide) rfl rfl ?_ | refine Es_astore_nN (lv' := [_, _, _, _]) (hC _) dX5_layAsChosen_18 (by decide) rfl rfl ?_
          first | refine Es_aload_n (hC _) dX5_layAsChosen_19 rfl ?_ | refine Es_aload_nN (hC _) dX5_layAsChosen_19 rfl ?_
          first | refine Es_aload_n (hC _) dX5_layAsChosen_20 rfl ?_ | refine Es_aload_nN (hC _) dX5_layAsChosen_20 rfl ?_
          refine Es_iload_n (hC _) dX5_layAsChosen_21 rfl ?_
          refine Es_fV (hC _) mv_X5_142 dX5_layAsChosen_22 (c_tyreOn_in hw g18 hp7 (by omega)) (ok18 hw) rfl ⟨_, rfl, rfl⟩ rfl rfl (by decide) (Nat.le_of_ble_eq_true rfl) ?_
          rw [show rT ad (cT (XX a l) w B q 20 w q) = some (ad 21 t) by rw [hJ.1 q (Nat.le_refl _), hon, rT, if_neg (nI_pos (by omega)), nI_clamp (by omega)]]
          refine Es_acmp_eq_rr (hC _) 44 dX5_layAsChosen_25 (by decide) hak ht (fun hb25 => False.elim (hat hb25)) (fun hb25 => ?_)
          first | refine Es_aload_n (hC _) dX5_layAsChosen_28 rfl ?_ | refine Es_aload_nN (hC _) dX5_layAsChosen_28 rfl ?_
          refine Es_iload_n (hC _) dX5_layAsChosen_29 rfl ?_
          first | refine Es_aload_n (hC _) dX5_layAsChosen_30 rfl ?_ | refine Es_aload_nN (hC _) dX5_layAsChosen_30 rfl ?_
          refine Es_fV (hC _) mv_X5_145 dX5_layAsChosen_31 (c_lay hw g18 hp7 (by omega) hak (by omega)) (ok18 hw) rfl ⟨_, rfl, rfl⟩ rfl rfl (by decide) (Nat.le_of_ble_eq_true rfl) ?_
          first | refine Es_aload_n (hC _) dX5_layAsChosen_34 rfl ?_ | refine Es_aload_nN (hC _) dX5_layAsChosen_34 rfl ?_
          first | refine Es_aload_n (hC _) dX5_layAsChosen_35 rfl ?_ | refine Es_aload_nN (hC _) dX5_layAsChosen_35 rfl ?_
          first | refine Es_aload_n (hC _) dX5_layAsChosen_36 rfl ?_ | refine Es_aload_nN (hC _) dX5_layAsChosen_36 rfl ?_
          refine Es_iload_n (hC _) dX5_layAsChosen_37 rfl ?_
          refine Es_fV (hC _) mv_X5_149 dX5_layAsChosen_38 (c_spot hw (by rw [uB_k (by decide)]; exact g18n)) (ok18 hw) rfl ⟨_, rfl, rfl⟩ rfl rfl (by decide) (Nat.le_of_ble_eq_true rfl) ?_
          refine Es_fV (hC _) mv_X5_128 dX5_layAsChosen_41 (c_move (k := k6) hak (by rw [uB_k (by decide)]; exact hk6) (by omega)) rfl rfl ⟨_, rfl, rfl⟩ rfl rfl (by decide) (Nat.le_of_ble_eq_true rfl) ?_
          refine Es_iinc (lv' := [_, _, _, _]) (hC _) dX5_layAsChosen_44 (by decide) rfl (show _ + Int32.ofInt (1) = _ + (1) from rfl) rfl rfl ?_
          refine Es_goto (hC _) 2 dX5_layAsChosen_47 (by decide) ?_
          refine Es.kill 3 (lv' := [_, _, _, _]) rfl ?_
          rw [nI_1]
          refine Es.eqB ?_ (ih (q + 1) (by omega) (CJ_s hCW (by omega) hkE hJ))
          show _ = cT1 (XX a l q) w q (cT (XX a l) w B q)
          unfold cT1
          rw [if_neg (by rw [hJ.1 q (Nat.le_refl _)]; exact hne), if_neg (by rw [hxx]; exact nI_pos (by omega)), hxx, nI_clamp (by omega), hk6, nI_clamp (by omega)]
          rw [uB_k (by decide), uB_k (by decide)]
set_option maxRecDepth 100000 in
set_option maxHeartbeats 4000000 in
theorem c_layAsChosen {ad : sA} {nw nt : Nat} {B : sB} {L : sL} {D : TD} {a : Nat → Nat} {l : List (Option Nat)} {w p K kE : Nat} (hw : w < nw) (hCW : CW nt B D a l w p K) (hkE : kE ≤ 600) (hTL : TL nt B a K) (h18 : B 18 w 3 = nI p) (h18n : B 18 w 0 = nI w) (hch : ∀ q, q < p → B 15 0 q = oI (l.getD q none)) (hJ : CJ B B D l w kE 0) : Cf yX5_layAsChosen cX5_layAsChosen 4 none 3 [.ref (ad 0 0), .ref (ad 18 w)] ad nw nt B L (none) (cT (XX a l) w B p) (L) := by
  have hC : ∀ Q, je_Ok (sCm yX5_layAsChosen cX5_layAsChosen 4 none 3 ad nw nt Q) RX5 cX5_layAsChosen 4 3 := fun _ => je_Cm_ok
  refine Cs_of [some (.ref (ad 0 0)), some (.ref (ad 18 w)), none, none] (by decide) rfl (Nat.le_of_ble_eq_true rfl) ?_
  refine Es_iconst (v := 0) (hC _) dX5_layAsChosen_0 (by decide) ?_
  refine Es_istore_n (lv' := [_, _, _, _]) (hC _) dX5_layAsChosen_1 (by decide) rfl rfl ?_
  exact l_lac hw hCW hkE hTL h18 h18n hch p 0 (by omega) hJ

set_option maxRecDepth 100000 in
set_option maxHeartbeats 4000000 in
theorem c_turn_1 {ad : sA} {nw nt : Nat} {B : sB} {L : sL} (hnw : B 0 0 8 = nI nw) (h5 : nw ≤ 5) {y : Int32} (how : out y nw)  : Cf yX5_turn cX5_turn 4 (some FieldType.int) 6 [.ref (ad 0 0), .int y] ad nw nt B L (some (.int (-1))) (uB B 5 0 1 (B 5 0 1 + 1)) (L) := by
  have hC : ∀ Q, je_Ok (sCm yX5_turn cX5_turn 4 (some FieldType.int) 6 ad nw nt Q) RX5 cX5_turn 4 6 := fun _ => je_Cm_ok
  refine Cs_of [some (.ref (ad 0 0)), some (.int y), none, none] (by decide) rfl (Nat.le_of_ble_eq_true rfl) ?_
  first | refine Es_aload_n (hC _) dX5_turn_0 rfl ?_ | refine Es_aload_nN (hC _) dX5_turn_0 rfl ?_
  refine Es_iload_n (hC _) dX5_turn_1 rfl ?_
  refine Es_fV (hC _) mv_X5_77 dX5_turn_2 (c_wagonAt_out hnw how) rfl rfl ⟨_, rfl, rfl⟩ rfl rfl (by decide) (Nat.le_of_ble_eq_true rfl) ?_
  first | refine Es_astore_n (lv' := [_, _, _, _]) (hC _) dX5_turn_5 (by decide) rfl rfl ?_ | refine Es_astore_nN (lv' := [_, _, _, _]) (hC _) dX5_turn_5 (by decide) rfl rfl ?_
  first | refine Es_aload_n (hC _) dX5_turn_6 rfl ?_ | refine Es_aload_nN (hC _) dX5_turn_6 rfl ?_
  refine Es_ifnonnullN (hC _) dX5_turn_7 ?_
  first | refine Es_aload_n (hC _) dX5_turn_10 rfl ?_ | refine Es_aload_nN (hC _) dX5_turn_10 rfl ?_
  refine Es_iconst (v := -1) (hC _) dX5_turn_11 (by decide) ?_
  refine Es_fV (hC _) mv_X5_70 dX5_turn_12 (c_refuse (k := 1) (by decide) (by decide)) rfl rfl ⟨_, rfl, rfl⟩ rfl rfl (by decide) (Nat.le_of_ble_eq_true rfl) ?_
  exact Es_iret dX5_turn_15 rfl ⟨rfl, rfl, rfl⟩

set_option maxRecDepth 100000 in
set_option maxHeartbeats 4000000 in
theorem r_turn_1 {ad : sA} {nw nt : Nat} {B : sB} {L : sL} (hnw : B 25 0 4 = nI nw) (h5 : nw ≤ 5) {y : Int32} (how : out y nw)  : Cf yX6_turn cX6_turn 4 (some FieldType.int) 11 [.ref (ad 25 0), .int y] ad nw nt B L (some (.int (-1))) (uB B 30 0 1 (B 30 0 1 + 1)) (L) := by
  have hC : ∀ Q, je_Ok (sCm yX6_turn cX6_turn 4 (some FieldType.int) 11 ad nw nt Q) RX6 cX6_turn 4 11 := fun _ => je_Cm_ok
  refine Cs_of [some (.ref (ad 25 0)), some (.int y), none, none] (by decide) rfl (Nat.le_of_ble_eq_true rfl) ?_
  refine Es_iload_n (hC _) dX6_turn_0 rfl ?_
  first | refine Es_aload_n (hC _) dX6_turn_1 rfl ?_ | refine Es_aload_nN (hC _) dX6_turn_1 rfl ?_
  refine Sg_X6_4 (hC _) fl_X6_86 dX6_turn_2 ?_
  rw [hnw]
  refine Es_fS (hC _) ms_X6_89 dX6_turn_5 (r_isIn_out how) rfl rfl (by decide) (Nat.le_of_ble_eq_true rfl) ?_
  refine Es_if_ne (hC _) 17 dX6_turn_8 (by decide) (fun hb8 => False.elim ((by first | exact absurd hb8 (by decide) | exact absurd hb8 (by assumption) | exact hb8 (by assumption) | exact hb8 rfl | (simp_all [bI]; done)))) (fun hb8 => ?_)
  first | refine Es_aload_n (hC _) dX6_turn_11 rfl ?_ | refine Es_aload_nN (hC _) dX6_turn_11 rfl ?_
  refine Es_iconst (v := -1) (hC _) dX6_turn_12 (by decide) ?_
  refine Es_fV (hC _) mv_X6_93 dX6_turn_13 (r_refuse (k := 1) (by decide) (by decide)) rfl rfl ⟨_, rfl, rfl⟩ rfl rfl (by decide) (Nat.le_of_ble_eq_true rfl) ?_
  exact Es_iret dX6_turn_16 rfl ⟨rfl, rfl, rfl⟩

set_option maxRecDepth 100000 in
set_option maxHeartbeats 4000000 in
theorem c_turn_no {ad : sA} {nw nt : Nat} {B : sB} {L : sL} (hnw : B 0 0 8 = nI nw) (h5 : nw ≤ 5) {w : Nat} (hw : w < nw) {p K : Nat} {a : Nat → Nat} (h40 : nt ≤ 40) (hW : PW nt B w p) (hL : PL B) (hF : TFc nt B L) (hnum : ∀ x, x < nt → B 21 x 0 = nI x) (hinj : oInj B w p) (hSM : SM a K) (ham : ∀ x, (∃ j, j < K ∧ a j = x) ↔ onS nt B w p x) (hz : K = 0 ∨ rch (tdo B L w a K) p 0 0 = 0) : Cs yX5_turn cX5_turn 4 (some FieldType.int) 6 [.ref (ad 0 0), .int (nI w)] ad nw nt (B) (L) (fun v B1 L1 => v = some (.int (-2)) ∧ L1 = L ∧ K ≤ 7 ∧ ∃ B0, fT B B0 ∧ B1 = uB B0 5 0 2 (B0 5 0 2 + 1)) := by
  have hC : ∀ Q, je_Ok (sCm yX5_turn cX5_turn 4 (some FieldType.int) 6 ad nw nt Q) RX5 cX5_turn 4 6 := fun _ => je_Cm_ok
  refine Cs_of [some (.ref (ad 0 0)), some (.int (nI w)), none, none] (by decide) rfl (Nat.le_of_ble_eq_true rfl) ?_
  first | refine Es_aload_n (hC _) dX5_turn_0 rfl ?_ | refine Es_aload_nN (hC _) dX5_turn_0 rfl ?_
  refine Es_iload_n (hC _) dX5_turn_1 rfl ?_
  refine Es_fV (hC _) mv_X5_77 dX5_turn_2 (c_wagonAt_in hnw h5 hw) rfl rfl ⟨_, rfl, rfl⟩ rfl rfl (by decide) (Nat.le_of_ble_eq_true rfl) ?_
  first | refine Es_astore_n (lv' := [_, _, _, _]) (hC _) dX5_turn_5 (by decide) rfl rfl ?_ | refine Es_astore_nN (lv' := [_, _, _, _]) (hC _) dX5_turn_5 (by decide) rfl rfl ?_
  first | refine Es_aload_n (hC _) dX5_turn_6 rfl ?_ | refine Es_aload_nN (hC _) dX5_turn_6 rfl ?_
  refine Es_ifnonnull (hC _) 16 dX5_turn_7 (by decide) ?_
  first | refine Es_aload_n (hC _) dX5_turn_16 rfl ?_ | refine Es_aload_nN (hC _) dX5_turn_16 rfl ?_
  refine Sg_X5_6 (hC _) fl_X5_52 dX5_turn_17 ?_
  first | refine Es_aload_n (hC _) dX5_turn_20 rfl ?_ | refine Es_aload_nN (hC _) dX5_turn_20 rfl ?_
  first | refine Es_aload_n (hC _) dX5_turn_21 rfl ?_ | refine Es_aload_nN (hC _) dX5_turn_21 rfl ?_
  refine Sg_X5_2 (hC _) fl_X5_30 dX5_turn_22 ?_
  refine Es_callV (hC _) mv_X5_180 dX5_turn_25 (c_findReach h40 hw hW hL hF hnum hinj hSM ham) rfl rfl ⟨_, rfl, rfl⟩ rfl rfl (by decide) (Nat.le_of_ble_eq_true rfl) (fun v' B1 L2 q => ?_)
  obtain ⟨hLe, f1, hTL, hc⟩ := q
  have hv : v' = some (.int 0) := by
    rcases hc with ⟨-, e⟩ | ⟨h1, -, -, e⟩
    · exact e
    · rw [e, if_pos (hz.resolve_left (by omega))]
  subst hv
  refine Es_if_ne (hC _) 38 dX5_turn_28 (by decide) (fun hb28 => False.elim (hb28 rfl)) (fun hb28 => ?_)
  first | refine Es_aload_n (hC _) dX5_turn_31 rfl ?_ | refine Es_aload_nN (hC _) dX5_turn_31 rfl ?_
  refine Es_bipush (v := -2) (hC _) dX5_turn_32 (by decide) ?_
  refine Es_fV (hC _) mv_X5_70 dX5_turn_34 (c_refuse (k := 2) (by decide) (by decide)) rfl rfl ⟨_, rfl, rfl⟩ rfl rfl (by decide) (Nat.le_of_ble_eq_true rfl) ?_
  exact Es_iret dX5_turn_37 rfl ⟨rfl, hLe, hTL.2.1, B1, f1, rfl⟩

set_option maxRecDepth 100000 in
set_option maxHeartbeats 4000000 in
theorem c_turn_full {ad : sA} {nw nt : Nat} {B : sB} {L : sL} (hnw : B 0 0 8 = nI nw) (h5 : nw ≤ 5) {w : Nat} (hw : w < nw) {p K : Nat} {a : Nat → Nat} (h40 : nt ≤ 40) (hW : PW nt B w p) (hL : PL B) (hF : TFc nt B L) (hnum : ∀ x, x < nt → B 21 x 0 = nI x) (hinj : oInj B w p) (hSM : SM a K) (ham : ∀ x, (∃ j, j < K ∧ a j = x) ↔ onS nt B w p x) (hK0 : 0 < K) (hz : ¬ rch (tdo B L w a K) p 0 0 = 0) {k : Nat} (hk : B 6 0 3 = nI k) (hk6 : k ≤ 600) (hfull : ¬ k + fwN (tdo B L w a K) (rch (tdo B L w a K) p 0 0) p 0 0 ≤ 600) : Cs yX5_turn cX5_turn 4 (some FieldType.int) 6 [.ref (ad 0 0), .int (nI w)] ad nw nt (B) (L) (fun v B1 L1 => v = some (.int (-6)) ∧ L1 = L ∧ K ≤ 7 ∧ ∃ B0, fT B B0 ∧ B1 = uB B0 5 0 6 (B0 5 0 6 + 1)) := by
  have hC : ∀ Q, je_Ok (sCm yX5_turn cX5_turn 4 (some FieldType.int) 6 ad nw nt Q) RX5 cX5_turn 4 6 := fun _ => je_Cm_ok
  refine Cs_of [some (.ref (ad 0 0)), some (.int (nI w)), none, none] (by decide) rfl (Nat.le_of_ble_eq_true rfl) ?_
  first | refine Es_aload_n (hC _) dX5_turn_0 rfl ?_ | refine Es_aload_nN (hC _) dX5_turn_0 rfl ?_
  refine Es_iload_n (hC _) dX5_turn_1 rfl ?_
  refine Es_fV (hC _) mv_X5_77 dX5_turn_2 (c_wagonAt_in hnw h5 hw) rfl rfl ⟨_, rfl, rfl⟩ rfl rfl (by decide) (Nat.le_of_ble_eq_true rfl) ?_
  first | refine Es_astore_n (lv' := [_, _, _, _]) (hC _) dX5_turn_5 (by decide) rfl rfl ?_ | refine Es_astore_nN (lv' := [_, _, _, _]) (hC _) dX5_turn_5 (by decide) rfl rfl ?_
  first | refine Es_aload_n (hC _) dX5_turn_6 rfl ?_ | refine Es_aload_nN (hC _) dX5_turn_6 rfl ?_
  refine Es_ifnonnull (hC _) 16 dX5_turn_7 (by decide) ?_
  first | refine Es_aload_n (hC _) dX5_turn_16 rfl ?_ | refine Es_aload_nN (hC _) dX5_turn_16 rfl ?_
  refine Sg_X5_6 (hC _) fl_X5_52 dX5_turn_17 ?_
  first | refine Es_aload_n (hC _) dX5_turn_20 rfl ?_ | refine Es_aload_nN (hC _) dX5_turn_20 rfl ?_
  first | refine Es_aload_n (hC _) dX5_turn_21 rfl ?_ | refine Es_aload_nN (hC _) dX5_turn_21 rfl ?_
  refine Sg_X5_2 (hC _) fl_X5_30 dX5_turn_22 ?_
  refine Es_callV (hC _) mv_X5_180 dX5_turn_25 (c_findReach h40 hw hW hL hF hnum hinj hSM ham) rfl rfl ⟨_, rfl, rfl⟩ rfl rfl (by decide) (Nat.le_of_ble_eq_true rfl) (fun v' B1 L2 q => ?_)
  obtain ⟨hLe, f1, hTL, hc⟩ := q
  obtain ⟨hTT, h8, hv⟩ : TT B1 (tdo B L w a K) p ∧ B1 10 0 8 = iE (rch (tdo B L w a K) p 0 0) ∧ v' = some (.int 1) := by
    rcases hc with ⟨h1, -⟩ | ⟨h1, h2, h3, e⟩
    · omega
    · exact ⟨h2, h3, by rw [e, if_neg hz]⟩
  subst hv
  have hlt : fwN (tdo B L w a K) (rch (tdo B L w a K) p 0 0) p 0 0 < 100 := by
    have := (chs_l (tdo_ok B L w a K) hTL.2.1 hW.1 hz).2.2.2
    have := hW.1
    omega
  have hr6 : rch (tdo B L w a K) p 0 0 ≤ 1000001 := rch_b (D := tdo B L w a K) (P := p) (fun q k _ _ => tdE_b B L w a q k) _ _ _ (by omega)
  refine Es_if_ne (hC _) 38 dX5_turn_28 (by decide) (fun hb28 => ?_) (fun hb28 => False.elim (absurd hb28 (by decide)))
  first | refine Es_aload_n (hC _) dX5_turn_38 rfl ?_ | refine Es_aload_nN (hC _) dX5_turn_38 rfl ?_
  refine Sg_X5_6 (hC _) fl_X5_52 dX5_turn_39 ?_
  refine Es_callV (hC _) mv_X5_186 dX5_turn_42 (by rw [hLe]; exact c_findWay (F := rch (tdo B L w a K) p 0 0) hTT h8 hr6 hlt) rfl rfl ⟨_, rfl, rfl⟩ rfl rfl (by decide) (Nat.le_of_ble_eq_true rfl) (fun v' B3 L3 q => ?_)
  obtain ⟨rfl, hLe2, g, c, rfl, hcc⟩ := q
  have hfT2 : fT B (sU (sT B1 g) c) := fun q hq => by rw [sU_k (by omega), sT_k (by omega)]; exact f1 q hq
  have hTL2 : TL nt (sU (sT B1 g) c) a K := TL_f hTL (by rw [sU_k (by decide), sT_k (by decide)]) (by rw [sU_k (by decide), sT_k (by decide)])
  have hc15 : ∀ q, q < p → sU (sT B1 g) c 15 0 q = oI ((chs (tdo B L w a K) (rch (tdo B L w a K) p 0 0) p 0 0).getD q none) := hcc
  generalize sU (sT B1 g) c = B2 at hfT2 hTL2 hc15 ⊢
  subst hLe2
  have hk2 : B2 6 0 3 = nI k := by rw [hfT2 6 (by omega)]; exact hk
  have hm6 : fwN (tdo B L3 w a K) (rch (tdo B L3 w a K) p 0 0) p 0 0 ≤ 600 := by omega
  refine Es_istore_n (lv' := [_, _, _, _]) (hC _) dX5_turn_45 (by decide) rfl rfl ?_
  first | refine Es_aload_n (hC _) dX5_turn_46 rfl ?_ | refine Es_aload_nN (hC _) dX5_turn_46 rfl ?_
  refine Sg_X5_5 (hC _) fl_X5_45 dX5_turn_47 ?_
  refine Es_iload_n (hC _) dX5_turn_50 rfl ?_
  refine Es_fV (hC _) mv_X5_113 dX5_turn_51 (c_hasRoomFor hk2 hk6 hm6) rfl rfl ⟨_, rfl, rfl⟩ rfl rfl (by decide) (Nat.le_of_ble_eq_true rfl) ?_
  refine Es_if_ne (hC _) 64 dX5_turn_54 (by decide) (fun hb54 => False.elim (hb54 (by rw [bI, if_neg hfull]))) (fun hb54 => ?_)
  first | refine Es_aload_n (hC _) dX5_turn_57 rfl ?_ | refine Es_aload_nN (hC _) dX5_turn_57 rfl ?_
  refine Es_bipush (v := -6) (hC _) dX5_turn_58 (by decide) ?_
  refine Es_fV (hC _) mv_X5_70 dX5_turn_60 (c_refuse (k := 6) (by decide) (by decide)) rfl rfl ⟨_, rfl, rfl⟩ rfl rfl (by decide) (Nat.le_of_ble_eq_true rfl) ?_
  exact Es_iret dX5_turn_63 rfl ⟨rfl, rfl, hTL.2.1, B2, hfT2, rfl⟩

set_option maxRecDepth 100000 in
set_option maxHeartbeats 4000000 in
theorem c_turn_yes {ad : sA} {nw nt : Nat} {B : sB} {L : sL} (hnw : B 0 0 8 = nI nw) (h5 : nw ≤ 5) {w : Nat} (hw : w < nw) {p K : Nat} {a : Nat → Nat} (h40 : nt ≤ 40) (hW : PW nt B w p) (hL : PL B) (hF : TFc nt B L) (hnum : ∀ x, x < nt → B 21 x 0 = nI x) (hinj : oInj B w p) (hSM : SM a K) (ham : ∀ x, (∃ j, j < K ∧ a j = x) ↔ onS nt B w p x) (hK0 : 0 < K) (hz : ¬ rch (tdo B L w a K) p 0 0 = 0) (h18n : B 18 w 0 = nI w) {k : Nat} (hk : B 6 0 3 = nI k) (hk6 : k ≤ 600) (hroom : k + fwN (tdo B L w a K) (rch (tdo B L w a K) p 0 0) p 0 0 ≤ 600) : Cs yX5_turn cX5_turn 4 (some FieldType.int) 6 [.ref (ad 0 0), .int (nI w)] ad nw nt (B) (L) (fun v B1 L1 => v = some (.int (nI (fwN (tdo B L w a K) (rch (tdo B L w a K) p 0 0) p 0 0))) ∧ L1 = L ∧ K ≤ 7 ∧ ∃ B0, fT B B0 ∧ B1 = cT (XX a (chs (tdo B L w a K) (rch (tdo B L w a K) p 0 0) p 0 0)) w B0 p) := by
  have hC : ∀ Q, je_Ok (sCm yX5_turn cX5_turn 4 (some FieldType.int) 6 ad nw nt Q) RX5 cX5_turn 4 6 := fun _ => je_Cm_ok
  refine Cs_of [some (.ref (ad 0 0)), some (.int (nI w)), none, none] (by decide) rfl (Nat.le_of_ble_eq_true rfl) ?_
  first | refine Es_aload_n (hC _) dX5_turn_0 rfl ?_ | refine Es_aload_nN (hC _) dX5_turn_0 rfl ?_
  refine Es_iload_n (hC _) dX5_turn_1 rfl ?_
  refine Es_fV (hC _) mv_X5_77 dX5_turn_2 (c_wagonAt_in hnw h5 hw) rfl rfl ⟨_, rfl, rfl⟩ rfl rfl (by decide) (Nat.le_of_ble_eq_true rfl) ?_
  first | refine Es_astore_n (lv' := [_, _, _, _]) (hC _) dX5_turn_5 (by decide) rfl rfl ?_ | refine Es_astore_nN (lv' := [_, _, _, _]) (hC _) dX5_turn_5 (by decide) rfl rfl ?_
  first | refine Es_aload_n (hC _) dX5_turn_6 rfl ?_ | refine Es_aload_nN (hC _) dX5_turn_6 rfl ?_
  refine Es_ifnonnull (hC _) 16 dX5_turn_7 (by decide) ?_
  first | refine Es_aload_n (hC _) dX5_turn_16 rfl ?_ | refine Es_aload_nN (hC _) dX5_turn_16 rfl ?_
  refine Sg_X5_6 (hC _) fl_X5_52 dX5_turn_17 ?_
  first | refine Es_aload_n (hC _) dX5_turn_20 rfl ?_ | refine Es_aload_nN (hC _) dX5_turn_20 rfl ?_
  first | refine Es_aload_n (hC _) dX5_turn_21 rfl ?_ | refine Es_aload_nN (hC _) dX5_turn_21 rfl ?_
  refine Sg_X5_2 (hC _) fl_X5_30 dX5_turn_22 ?_
  refine Es_callV (hC _) mv_X5_180 dX5_turn_25 (c_findReach h40 hw hW hL hF hnum hinj hSM ham) rfl rfl ⟨_, rfl, rfl⟩ rfl rfl (by decide) (Nat.le_of_ble_eq_true rfl) (fun v' B1 L2 q => ?_)
  obtain ⟨hLe, f1, hTL, hc⟩ := q
  obtain ⟨hTT, h8, hv⟩ : TT B1 (tdo B L w a K) p ∧ B1 10 0 8 = iE (rch (tdo B L w a K) p 0 0) ∧ v' = some (.int 1) := by
    rcases hc with ⟨h1, -⟩ | ⟨h1, h2, h3, e⟩
    · omega
    · exact ⟨h2, h3, by rw [e, if_neg hz]⟩
  subst hv
  have hlt : fwN (tdo B L w a K) (rch (tdo B L w a K) p 0 0) p 0 0 < 100 := by
    have := (chs_l (tdo_ok B L w a K) hTL.2.1 hW.1 hz).2.2.2
    have := hW.1
    omega
  have hr6 : rch (tdo B L w a K) p 0 0 ≤ 1000001 := rch_b (D := tdo B L w a K) (P := p) (fun q k _ _ => tdE_b B L w a q k) _ _ _ (by omega)
  refine Es_if_ne (hC _) 38 dX5_turn_28 (by decide) (fun hb28 => ?_) (fun hb28 => False.elim (absurd hb28 (by decide)))
  first | refine Es_aload_n (hC _) dX5_turn_38 rfl ?_ | refine Es_aload_nN (hC _) dX5_turn_38 rfl ?_
  refine Sg_X5_6 (hC _) fl_X5_52 dX5_turn_39 ?_
  refine Es_callV (hC _) mv_X5_186 dX5_turn_42 (by rw [hLe]; exact c_findWay (F := rch (tdo B L w a K) p 0 0) hTT h8 hr6 hlt) rfl rfl ⟨_, rfl, rfl⟩ rfl rfl (by decide) (Nat.le_of_ble_eq_true rfl) (fun v' B3 L3 q => ?_)
  obtain ⟨rfl, hLe2, g, c, rfl, hcc⟩ := q
  have hfT2 : fT B (sU (sT B1 g) c) := fun q hq => by rw [sU_k (by omega), sT_k (by omega)]; exact f1 q hq
  have hTL2 : TL nt (sU (sT B1 g) c) a K := TL_f hTL (by rw [sU_k (by decide), sT_k (by decide)]) (by rw [sU_k (by decide), sT_k (by decide)])
  have hc15 : ∀ q, q < p → sU (sT B1 g) c 15 0 q = oI ((chs (tdo B L w a K) (rch (tdo B L w a K) p 0 0) p 0 0).getD q none) := hcc
  generalize sU (sT B1 g) c = B2 at hfT2 hTL2 hc15 ⊢
  subst hLe2
  have hk2 : B2 6 0 3 = nI k := by rw [hfT2 6 (by omega)]; exact hk
  have hm6 : fwN (tdo B L3 w a K) (rch (tdo B L3 w a K) p 0 0) p 0 0 ≤ 600 := by omega
  refine Es_istore_n (lv' := [_, _, _, _]) (hC _) dX5_turn_45 (by decide) rfl rfl ?_
  first | refine Es_aload_n (hC _) dX5_turn_46 rfl ?_ | refine Es_aload_nN (hC _) dX5_turn_46 rfl ?_
  refine Sg_X5_5 (hC _) fl_X5_45 dX5_turn_47 ?_
  refine Es_iload_n (hC _) dX5_turn_50 rfl ?_
  refine Es_fV (hC _) mv_X5_113 dX5_turn_51 (c_hasRoomFor hk2 hk6 hm6) rfl rfl ⟨_, rfl, rfl⟩ rfl rfl (by decide) (Nat.le_of_ble_eq_true rfl) ?_
  refine Es_if_ne (hC _) 64 dX5_turn_54 (by decide) (fun hb54 => ?_) (fun hb54 => False.elim (absurd hb54 (by rw [bI, if_pos hroom]; decide)))
  have hcs := chs_l (tdo_ok B L3 w a K) hTL.2.1 hW.1 hz
  have hCW : CW nt B2 (tdo B L3 w a K) a (chs (tdo B L3 w a K) (rch (tdo B L3 w a K) p 0 0) p 0 0) w p K := ⟨h40, hTL.2.1, hcs.2.1, hW.1, fun i k e => (hcs.2.2.1.1 i k e).1, fun k hk => (hTL.2.2.2 k hk).2, fun q k hq hk => by rw [hfT2 20 (by omega)]; rfl, fun q hq => by rw [hfT2 20 (by omega)]; exact (hW.2.2 q hq).2⟩
  first | refine Es_aload_n (hC _) dX5_turn_64 rfl ?_ | refine Es_aload_nN (hC _) dX5_turn_64 rfl ?_
  first | refine Es_aload_n (hC _) dX5_turn_65 rfl ?_ | refine Es_aload_nN (hC _) dX5_turn_65 rfl ?_
  refine Es_fV (hC _) mv_X5_190 dX5_turn_66 (c_layAsChosen (D := tdo B L3 w a K) (kE := k + fwN (tdo B L3 w a K) (rch (tdo B L3 w a K) p 0 0) p 0 0) hw hCW hroom hTL2 (by rw [hfT2 18 (by omega)]; exact hW.2.1) (by rw [hfT2 18 (by omega)]; exact h18n) hc15 ⟨fun _ _ => rfl, k, hk2, by rw [hcs.1]; rfl⟩) rfl rfl ⟨_, rfl, rfl⟩ rfl rfl (by decide) (Nat.le_of_ble_eq_true rfl) ?_
  refine Es_iload_n (hC _) dX5_turn_69 rfl ?_
  exact Es_iret dX5_turn_70 rfl ⟨rfl, rfl, hTL.2.1, B2, hfT2, rfl⟩

set_option maxRecDepth 100000 in
set_option maxHeartbeats 4000000 in
theorem r_turn_no {ad : sA} {nw nt : Nat} {B : sB} {L : sL} {w p K : Nat} {a : Nat → Nat} {G : sB} (hg : ∀ k, 25 ≤ k → B k = G k) (hRX : RX nw nt G L w p) (hSM : SM a K) (hK : K ≤ 7) (ham : ∀ x, (∃ j, j < K ∧ a j = x) ↔ onS nt G w p x) (hz : K = 0 ∨ rch (tdo G L w a K) p 0 0 = 0) : Cs yX6_turn cX6_turn 4 (some FieldType.int) 11 [.ref (ad 25 0), .int (nI w)] ad nw nt (B) (L) (fun v B1 L1 => v = some (.int (-2)) ∧ wrel L L1 ∧ ∃ B0, fR B B0 ∧ B1 = uB B0 30 0 2 (B0 30 0 2 + 1)) := by
  have hC : ∀ Q, je_Ok (sCm yX6_turn cX6_turn 4 (some FieldType.int) 11 ad nw nt Q) RX6 cX6_turn 4 11 := fun _ => je_Cm_ok
  refine Cs_of [some (.ref (ad 25 0)), some (.int (nI w)), none, none] (by decide) rfl (Nat.le_of_ble_eq_true rfl) ?_
  obtain ⟨hnw, h5, hw, -⟩ := id hRX
  rw [← hg 25 (Nat.le_refl _)] at hnw
  refine Es_iload_n (hC _) dX6_turn_0 rfl ?_
  first | refine Es_aload_n (hC _) dX6_turn_1 rfl ?_ | refine Es_aload_nN (hC _) dX6_turn_1 rfl ?_
  refine Sg_X6_4 (hC _) fl_X6_86 dX6_turn_2 ?_
  rw [hnw]
  refine Es_fS (hC _) ms_X6_89 dX6_turn_5 (r_isIn_in hw (by omega)) rfl rfl (by decide) (Nat.le_of_ble_eq_true rfl) ?_
  refine Es_if_ne (hC _) 17 dX6_turn_8 (by decide) (fun hb8 => ?_) (fun hb8 => False.elim ((by first | exact absurd hb8 (by decide) | exact absurd hb8 (by assumption) | exact hb8 (by assumption) | exact hb8 rfl | (simp_all [bI]; done))))
  first | refine Es_aload_n (hC _) dX6_turn_17 rfl ?_ | refine Es_aload_nN (hC _) dX6_turn_17 rfl ?_
  refine Es_iload_n (hC _) dX6_turn_18 rfl ?_
  refine Es_callV (hC _) mv_X6_189 dX6_turn_19 (r_tries hg hRX hSM hK ham) rfl rfl ⟨_, rfl, rfl⟩ rfl rfl (by decide) (Nat.le_of_ble_eq_true rfl) (fun v' B1 L2 q => ?_)
  obtain ⟨hwr, f1, hc⟩ := q
  have hv : v' = some (.int 0) := by
    rcases hc with ⟨-, e⟩ | ⟨h1, e, -⟩
    · exact e
    · rw [e, if_pos (hz.resolve_left (by omega))]
  subst hv
  refine Es_if_ne (hC _) 32 dX6_turn_22 (by decide) (fun hb22 => False.elim (hb22 rfl)) (fun hb22 => ?_)
  first | refine Es_aload_n (hC _) dX6_turn_25 rfl ?_ | refine Es_aload_nN (hC _) dX6_turn_25 rfl ?_
  refine Es_bipush (v := -2) (hC _) dX6_turn_26 (by decide) ?_
  refine Es_fV (hC _) mv_X6_93 dX6_turn_28 (r_refuse (k := 2) (by decide) (by decide)) rfl rfl ⟨_, rfl, rfl⟩ rfl rfl (by decide) (Nat.le_of_ble_eq_true rfl) ?_
  exact Es_iret dX6_turn_31 rfl ⟨rfl, hwr, B1, f1, rfl⟩

set_option maxRecDepth 100000 in
set_option maxHeartbeats 4000000 in
theorem r_turn_full {ad : sA} {nw nt : Nat} {B : sB} {L : sL} {w p K : Nat} {a : Nat → Nat} {G : sB} (hg : ∀ k, 25 ≤ k → B k = G k) (hRX : RX nw nt G L w p) (hSM : SM a K) (hK : K ≤ 7) (ham : ∀ x, (∃ j, j < K ∧ a j = x) ↔ onS nt G w p x) (hK0 : 0 < K) (hz : ¬ rch (tdo G L w a K) p 0 0 = 0) {k : Nat} (hk : B 25 0 7 = nI k) (hk6 : k ≤ 600) (hfull : ¬ k + fwN (tdo G L w a K) (rch (tdo G L w a K) p 0 0) p 0 0 ≤ 600) : Cs yX6_turn cX6_turn 4 (some FieldType.int) 11 [.ref (ad 25 0), .int (nI w)] ad nw nt (B) (L) (fun v B1 L1 => v = some (.int (-6)) ∧ wrel L L1 ∧ ∃ B0, fR B B0 ∧ B1 = uB B0 30 0 6 (B0 30 0 6 + 1)) := by
  have hC : ∀ Q, je_Ok (sCm yX6_turn cX6_turn 4 (some FieldType.int) 11 ad nw nt Q) RX6 cX6_turn 4 11 := fun _ => je_Cm_ok
  refine Cs_of [some (.ref (ad 25 0)), some (.int (nI w)), none, none] (by decide) rfl (Nat.le_of_ble_eq_true rfl) ?_
  obtain ⟨hnw, h5, hw, -⟩ := id hRX
  rw [← hg 25 (Nat.le_refl _)] at hnw
  refine Es_iload_n (hC _) dX6_turn_0 rfl ?_
  first | refine Es_aload_n (hC _) dX6_turn_1 rfl ?_ | refine Es_aload_nN (hC _) dX6_turn_1 rfl ?_
  refine Sg_X6_4 (hC _) fl_X6_86 dX6_turn_2 ?_
  rw [hnw]
  refine Es_fS (hC _) ms_X6_89 dX6_turn_5 (r_isIn_in hw (by omega)) rfl rfl (by decide) (Nat.le_of_ble_eq_true rfl) ?_
  refine Es_if_ne (hC _) 17 dX6_turn_8 (by decide) (fun hb8 => ?_) (fun hb8 => False.elim ((by first | exact absurd hb8 (by decide) | exact absurd hb8 (by assumption) | exact hb8 (by assumption) | exact hb8 rfl | (simp_all [bI]; done))))
  first | refine Es_aload_n (hC _) dX6_turn_17 rfl ?_ | refine Es_aload_nN (hC _) dX6_turn_17 rfl ?_
  refine Es_iload_n (hC _) dX6_turn_18 rfl ?_
  refine Es_callV (hC _) mv_X6_189 dX6_turn_19 (r_tries hg hRX hSM hK ham) rfl rfl ⟨_, rfl, rfl⟩ rfl rfl (by decide) (Nat.le_of_ble_eq_true rfl) (fun v' B1 L2 q => ?_)
  obtain ⟨hwr, f1, hc⟩ := q
  obtain ⟨hv, hZ⟩ : v' = some (.int 1) ∧ TZ B1 (tdo G L w a K) a p := by
    rcases hc with ⟨h1, -⟩ | ⟨h1, e, hZ⟩
    · omega
    · exact ⟨by rw [e, if_neg hz], hZ⟩
  subst hv
  have hR7 : B1 25 0 7 = nI k := by rw [f1.2 7 (by omega)]; exact hk
  have hp7 := hRX.2.2.2.2.2.1.1.1
  have hcs := chs_l (tdo_ok G L w a K) hK hp7 hz
  have hm6 : fwN (tdo G L w a K) (rch (tdo G L w a K) p 0 0) p 0 0 ≤ 600 := by omega
  refine Es_if_ne (hC _) 32 dX6_turn_22 (by decide) (fun hb22 => ?_) (fun hb22 => False.elim (absurd hb22 (by decide)))
  first | refine Es_aload_n (hC _) dX6_turn_32 rfl ?_ | refine Es_aload_nN (hC _) dX6_turn_32 rfl ?_
  first | refine Es_aload_n (hC _) dX6_turn_33 rfl ?_ | refine Es_aload_nN (hC _) dX6_turn_33 rfl ?_
  refine Sg_X6_33 (hC _) fl_X6_186 dX6_turn_34 ?_
  rw [(hZ.2 hz).2.1]
  refine Es_fV (hC _) mv_X6_110 dX6_turn_37 (r_hasRoom hR7 hk6 hm6) rfl rfl ⟨_, rfl, rfl⟩ rfl rfl (by decide) (Nat.le_of_ble_eq_true rfl) ?_
  refine Es_if_ne (hC _) 50 dX6_turn_40 (by decide) (fun hb40 => False.elim (hb40 (by rw [bI, if_neg hfull]))) (fun hb40 => ?_)
  first | refine Es_aload_n (hC _) dX6_turn_43 rfl ?_ | refine Es_aload_nN (hC _) dX6_turn_43 rfl ?_
  refine Es_bipush (v := -6) (hC _) dX6_turn_44 (by decide) ?_
  refine Es_fV (hC _) mv_X6_93 dX6_turn_46 (r_refuse (k := 6) (by decide) (by decide)) rfl rfl ⟨_, rfl, rfl⟩ rfl rfl (by decide) (Nat.le_of_ble_eq_true rfl) ?_
  exact Es_iret dX6_turn_49 rfl ⟨rfl, hwr, B1, f1, rfl⟩

def RJ (G R : sB) (D : TD) (l : List (Option Nat)) (w p kE q : Nat) : Prop := (∀ j, q ≤ j → j < p → R 40 0 (7 * w + j) = G 20 w j) ∧ ∃ k, R 25 0 7 = nI k ∧ k + rem D l q = kE
theorem RJ_s {nt : Nat} {G R : sB} {D : TD} {a : Nat → Nat} {l : List (Option Nat)} {w p K kE q : Nat} (h : CW nt G D a l w p K) (hq : q < p) (hkE : kE ≤ 600) (hJ : RJ G R D l w p kE q) : RJ G (rT1 (XX a l q) w q R) D l w p kE (q + 1) := by
  have hr := CW_rem h hq
  obtain ⟨h1, k, h2, h3⟩ := hJ
  have hRq := h1 q (Nat.le_refl _) hq
  unfold rT1
  rw [hRq]
  by_cases hc : ¬ XX a l q < 0 ∧ ¬ XX a l q = G 20 w q
  · rw [if_pos hc]
    rw [if_neg (fun z => z.elim hc.2 hc.1)] at hr
    refine ⟨fun j hj hjp => ?_, k + 1, ?_, by omega⟩
    · unfold rLog
      rw [uB_k (by decide), uB_k (by decide), uB_k (by decide), uB_k (by decide), uB_k (by decide), uB_n (by omega)]
      exact h1 j (by omega) hjp
    · unfold rLog
      rw [uB_s, h2, nI_clamp (by omega)]
  · rw [if_neg hc]
    rw [if_pos (Classical.byContradiction (fun z => hc ⟨fun y => z (Or.inr y), fun y => z (Or.inl y)⟩))] at hr
    exact ⟨fun j hj hjp => by rw [uB_n (by omega)]; exact h1 j (by omega) hjp, k, by rw [uB_k (by decide)]; exact h2, by omega⟩
theorem rTn_k {x : Nat → Int32} {w : Nat} {R : sB} {k : Nat} (h : k = 38 ∨ k = 59) (q : Nat) : rTn x w R q k = R k := rT_k (by omega) (by omega) (by omega) (by omega) (by omega) (by omega) q
theorem rT1_25 (x : Int32) (w q : Nat) (R : sB) {i : Nat} (hi : i ≠ 7) : rT1 x w q R 25 0 i = R 25 0 i := by
  unfold rT1 rLog
  split
  · rw [uB_n (by omega), uB_k (by decide), uB_k (by decide), uB_k (by decide), uB_k (by decide), uB_k (by decide)]
  · rw [uB_k (by decide)]
theorem rT_25 (x : Nat → Int32) (w : Nat) (R : sB) {i : Nat} (hi : i ≠ 7) : ∀ q, rTn x w R q 25 0 i = R 25 0 i
  | 0 => rfl
  | q + 1 => (rT1_25 _ _ _ _ hi).trans (rT_25 x w R hi q)
set_option maxRecDepth 100000 in
set_option maxHeartbeats 4000000 in
theorem l_rtu {ad : sA} {nw nt : Nat} {B : sB} {L : sL} {bc bs : Nat} {Q : Option Value → sB → sL → Prop} {G : sB} {D : TD} {a : Nat → Nat} {l : List (Option Nat)} {w p K kE fw : Nat} (hw5 : w < 5) (hCW : CW nt G D a l w p K) (hkE : kE ≤ 600) (h38 : B 38 0 w = nI p) (h59 : ∀ q, q < p → B 59 0 q = oJ a (l.getD q none)) (h33 : B 25 0 33 = nI fw) (hQ : Q (some (.int (nI fw))) (rTn (XX a l) w B p) L) : ∀ (n q : Nat), q + n = p → RJ G (rTn (XX a l) w B q) D l w p kE q → Es (sCm yX6_turn cX6_turn 4 (some .int) 11 ad nw nt Q) 4 52 [some (.ref (ad 25 0)), some (.int (nI w)), some (.int (nI q)), none] [] ad nw nt (rTn (XX a l) w B q) L bc bs := by
  have hC : ∀ Q, je_Ok (sCm yX6_turn cX6_turn 4 (some .int) 11 ad nw nt Q) RX6 cX6_turn 4 11 := fun _ => je_Cm_ok
  obtain ⟨h40, hK, hl, hp7, hlk, haK, hcg, hB⟩ := id hCW
  intro n
  induction n with
  | zero =>
    intro q hn hJ
    have hqp : q = p := by omega
    subst hqp
    have g38 : rTn (XX a l) w B q 38 0 w = nI q := by rw [rTn_k (Or.inl rfl)]; exact h38
    have g33 : rTn (XX a l) w B q 25 0 33 = nI fw := by rw [rT_25 _ _ _ (by decide)]; exact h33
    refine Es_iload_n (hC _) dX6_turn_52 rfl ?_
    first | refine Es_aload_n (hC _) dX6_turn_53 rfl ?_ | refine Es_aload_nN (hC _) dX6_turn_53 rfl ?_
    refine Sg_X6_8 (hC _) fl_X6_23 dX6_turn_54 ?_
    refine Es_iload_n (hC _) dX6_turn_57 rfl ?_
    refine Es_ialdN (hC _) dX6_turn_58 rfl rfl rfl (by omega) (by decide) ?_
    rw [g38]
    refine Es_icmp_ge (hC _) 138 dX6_turn_59 (by decide) (fun hb59 => ?_) (fun hb59 => False.elim (hb59 (nI_le (Nat.le_refl _) (by omega))))
    first | refine Es_aload_n (hC _) dX6_turn_138 rfl ?_ | refine Es_aload_nN (hC _) dX6_turn_138 rfl ?_
    refine Sg_X6_33 (hC _) fl_X6_186 dX6_turn_139 ?_
    rw [g33]
    exact Es_iret dX6_turn_142 rfl hQ
  | succ n ih =>
    intro q hn hJ
    have g38 : rTn (XX a l) w B q 38 0 w = nI p := by rw [rTn_k (Or.inl rfl)]; exact h38
    have g59 : rTn (XX a l) w B q 59 0 q = XX a l q := by rw [rTn_k (Or.inr rfl)]; exact h59 q (by omega)
    have hr := CW_rem hCW (show q < p by omega)
    have hRq := hJ.1 q (Nat.le_refl _) (by omega)
    obtain ⟨k6, hk6, hkr⟩ := id hJ.2
    cases hx : l.getD q none with
    | none =>
      have hxx : XX a l q = -1 := by
        unfold XX
        rw [hx]
        rfl
      refine Es_iload_n (hC _) dX6_turn_52 rfl ?_
      first | refine Es_aload_n (hC _) dX6_turn_53 rfl ?_ | refine Es_aload_nN (hC _) dX6_turn_53 rfl ?_
      refine Sg_X6_8 (hC _) fl_X6_23 dX6_turn_54 ?_
      refine Es_iload_n (hC _) dX6_turn_57 rfl ?_
      refine Es_ialdN (hC _) dX6_turn_58 rfl rfl rfl (by omega) (by decide) ?_
      rw [g38]
      refine Es_icmp_ge (hC _) 138 dX6_turn_59 (by decide) (fun hb59 => False.elim (nI_ge (b := p) (a := q) (by omega) (by omega) hb59)) (fun hb59 => ?_)
      first | refine Es_aload_n (hC _) dX6_turn_62 rfl ?_ | refine Es_aload_nN (hC _) dX6_turn_62 rfl ?_
      refine Sg_X6_29 (hC _) fl_X6_80 dX6_turn_63 ?_
      refine Es_iload_n (hC _) dX6_turn_66 rfl ?_
      refine Es_ialdN (hC _) dX6_turn_67 rfl rfl rfl (by omega) (by decide) ?_
      rw [g59, hxx]
      refine Es_if_lt (hC _) 94 dX6_turn_68 (by decide) (fun hb68 => ?_) (fun hb68 => False.elim (hb68 (by decide)))
      refine Es_iconst (v := 0) (hC _) dX6_turn_94 (by decide) ?_
      refine Es_istore_n (lv' := [_, _, _, _]) (hC _) dX6_turn_95 (by decide) rfl rfl ?_
      first | refine Es_aload_n (hC _) dX6_turn_96 rfl ?_ | refine Es_aload_nN (hC _) dX6_turn_96 rfl ?_
      refine Sg_X6_10 (hC _) fl_X6_29 dX6_turn_97 ?_
      refine Es_iload_n (hC _) dX6_turn_100 rfl ?_
      refine Es_iload_n (hC _) dX6_turn_101 rfl ?_
      refine Es_fS (hC _) ms_X6_97 dX6_turn_102 r_spot rfl rfl (by decide) (Nat.le_of_ble_eq_true rfl) ?_
      first | refine Es_aload_n (hC _) dX6_turn_105 rfl ?_ | refine Es_aload_nN (hC _) dX6_turn_105 rfl ?_
      refine Sg_X6_29 (hC _) fl_X6_80 dX6_turn_106 ?_
      refine Es_iload_n (hC _) dX6_turn_109 rfl ?_
      refine Es_ialdN (hC _) dX6_turn_110 rfl rfl rfl (by omega) (by decide) ?_
      rw [g59, hxx]
      refine Es_iastN (hC _) dX6_turn_111 rfl (fun _ => rfl) rfl (by omega) (by decide) ?_
      refine Es_iload_n (hC _) dX6_turn_112 rfl ?_
      refine Es_if_eq (hC _) 132 dX6_turn_113 (by decide) (fun hb113 => ?_) (fun hb113 => False.elim (hb113 rfl))
      refine Es_iinc (lv' := [_, _, _, _]) (hC _) dX6_turn_132 (by decide) rfl (show _ + Int32.ofInt (1) = _ + (1) from rfl) rfl rfl ?_
      refine Es_goto (hC _) 52 dX6_turn_135 (by decide) ?_
      refine Es.kill 3 (lv' := [_, _, _, _]) rfl ?_
      rw [nI_1]
      refine Es.eqB ?_ (ih (q + 1) (by omega) (RJ_s hCW (by omega) hkE hJ))
      show _ = rT1 (XX a l q) w q (rTn (XX a l) w B q)
      unfold rT1
      rw [if_neg (fun z => z.1 (by rw [hxx]; decide)), hxx]
    | some k =>
      have hk := hlk q k hx
      have hak := haK k hk
      have hxx : XX a l q = nI (a k) := by
        unfold XX
        rw [hx]
        rfl
      by_cases hne : XX a l q = G 20 w q
      · skip
        refine Es_iload_n (hC _) dX6_turn_52 rfl ?_
        first | refine Es_aload_n (hC _) dX6_turn_53 rfl ?_ | refine Es_aload_nN (hC _) dX6_turn_53 rfl ?_
        refine Sg_X6_8 (hC _) fl_X6_23 dX6_turn_54 ?_
        refine Es_iload_n (hC _) dX6_turn_57 rfl ?_
        refine Es_ialdN (hC _) dX6_turn_58 rfl rfl rfl (by omega) (by decide) ?_
        rw [g38]
        refine Es_icmp_ge (hC _) 138 dX6_turn_59 (by decide) (fun hb59 => False.elim (nI_ge (b := p) (a := q) (by omega) (by omega) hb59)) (fun hb59 => ?_)
        first | refine Es_aload_n (hC _) dX6_turn_62 rfl ?_ | refine Es_aload_nN (hC _) dX6_turn_62 rfl ?_
        refine Sg_X6_29 (hC _) fl_X6_80 dX6_turn_63 ?_
        refine Es_iload_n (hC _) dX6_turn_66 rfl ?_
        refine Es_ialdN (hC _) dX6_turn_67 rfl rfl rfl (by omega) (by decide) ?_
        rw [g59, hxx]
        refine Es_if_lt (hC _) 94 dX6_turn_68 (by decide) (fun hb68 => False.elim (nI_pos (n := a k) (by omega) hb68)) (fun hb68 => ?_)
        first | refine Es_aload_n (hC _) dX6_turn_71 rfl ?_ | refine Es_aload_nN (hC _) dX6_turn_71 rfl ?_
        refine Sg_X6_29 (hC _) fl_X6_80 dX6_turn_72 ?_
        refine Es_iload_n (hC _) dX6_turn_75 rfl ?_
        refine Es_ialdN (hC _) dX6_turn_76 rfl rfl rfl (by omega) (by decide) ?_
        rw [g59, hxx]
        first | refine Es_aload_n (hC _) dX6_turn_77 rfl ?_ | refine Es_aload_nN (hC _) dX6_turn_77 rfl ?_
        refine Sg_X6_10 (hC _) fl_X6_29 dX6_turn_78 ?_
        refine Es_iload_n (hC _) dX6_turn_81 rfl ?_
        refine Es_iload_n (hC _) dX6_turn_82 rfl ?_
        refine Es_fS (hC _) ms_X6_97 dX6_turn_83 r_spot rfl rfl (by decide) (Nat.le_of_ble_eq_true rfl) ?_
        refine Es_ialdN (hC _) dX6_turn_86 rfl rfl rfl (by omega) (by decide) ?_
        rw [hRq]
        refine Es_icmp_eq (hC _) 94 dX6_turn_87 (by decide) (fun hb87 => ?_) (fun hb87 => False.elim (hb87 (by rw [← hne, hxx])))
        refine Es_iconst (v := 0) (hC _) dX6_turn_94 (by decide) ?_
        refine Es_istore_n (lv' := [_, _, _, _]) (hC _) dX6_turn_95 (by decide) rfl rfl ?_
        first | refine Es_aload_n (hC _) dX6_turn_96 rfl ?_ | refine Es_aload_nN (hC _) dX6_turn_96 rfl ?_
        refine Sg_X6_10 (hC _) fl_X6_29 dX6_turn_97 ?_
        refine Es_iload_n (hC _) dX6_turn_100 rfl ?_
        refine Es_iload_n (hC _) dX6_turn_101 rfl ?_
        refine Es_fS (hC _) ms_X6_97 dX6_turn_102 r_spot rfl rfl (by decide) (Nat.le_of_ble_eq_true rfl) ?_
        first | refine Es_aload_n (hC _) dX6_turn_105 rfl ?_ | refine Es_aload_nN (hC _) dX6_turn_105 rfl ?_
        refine Sg_X6_29 (hC _) fl_X6_80 dX6_turn_106 ?_
        refine Es_iload_n (hC _) dX6_turn_109 rfl ?_
        refine Es_ialdN (hC _) dX6_turn_110 rfl rfl rfl (by omega) (by decide) ?_
        rw [g59, hxx]
        refine Es_iastN (hC _) dX6_turn_111 rfl (fun _ => rfl) rfl (by omega) (by decide) ?_
        refine Es_iload_n (hC _) dX6_turn_112 rfl ?_
        refine Es_if_eq (hC _) 132 dX6_turn_113 (by decide) (fun hb113 => ?_) (fun hb113 => False.elim (hb113 rfl))
        refine Es_iinc (lv' := [_, _, _, _]) (hC _) dX6_turn_132 (by decide) rfl (show _ + Int32.ofInt (1) = _ + (1) from rfl) rfl rfl ?_
        refine Es_goto (hC _) 52 dX6_turn_135 (by decide) ?_
        refine Es.kill 3 (lv' := [_, _, _, _]) rfl ?_
        rw [nI_1]
        refine Es.eqB ?_ (ih (q + 1) (by omega) (RJ_s hCW (by omega) hkE hJ))
        show _ = rT1 (XX a l q) w q (rTn (XX a l) w B q)
        unfold rT1
        rw [if_neg (fun z => z.2 (by rw [hRq]; exact hne)), hxx]
      · rw [if_neg (fun z => z.elim hne (by rw [hxx]; exact nI_pos (by omega)))] at hr
        refine Es_iload_n (hC _) dX6_turn_52 rfl ?_
        first | refine Es_aload_n (hC _) dX6_turn_53 rfl ?_ | refine Es_aload_nN (hC _) dX6_turn_53 rfl ?_
        refine Sg_X6_8 (hC _) fl_X6_23 dX6_turn_54 ?_
        refine Es_iload_n (hC _) dX6_turn_57 rfl ?_
        refine Es_ialdN (hC _) dX6_turn_58 rfl rfl rfl (by omega) (by decide) ?_
        rw [g38]
        refine Es_icmp_ge (hC _) 138 dX6_turn_59 (by decide) (fun hb59 => False.elim (nI_ge (b := p) (a := q) (by omega) (by omega) hb59)) (fun hb59 => ?_)
        first | refine Es_aload_n (hC _) dX6_turn_62 rfl ?_ | refine Es_aload_nN (hC _) dX6_turn_62 rfl ?_
        refine Sg_X6_29 (hC _) fl_X6_80 dX6_turn_63 ?_
        refine Es_iload_n (hC _) dX6_turn_66 rfl ?_
        refine Es_ialdN (hC _) dX6_turn_67 rfl rfl rfl (by omega) (by decide) ?_
        rw [g59, hxx]
        refine Es_if_lt (hC _) 94 dX6_turn_68 (by decide) (fun hb68 => False.elim (nI_pos (n := a k) (by omega) hb68)) (fun hb68 => ?_)
        first | refine Es_aload_n (hC _) dX6_turn_71 rfl ?_ | refine Es_aload_nN (hC _) dX6_turn_71 rfl ?_
        refine Sg_X6_29 (hC _) fl_X6_80 dX6_turn_72 ?_
        refine Es_iload_n (hC _) dX6_turn_75 rfl ?_
        refine Es_ialdN (hC _) dX6_turn_76 rfl rfl rfl (by omega) (by decide) ?_
        rw [g59, hxx]
        first | refine Es_aload_n (hC _) dX6_turn_77 rfl ?_ | refine Es_aload_nN (hC _) dX6_turn_77 rfl ?_
        refine Sg_X6_10 (hC _) fl_X6_29 dX6_turn_78 ?_
        refine Es_iload_n (hC _) dX6_turn_81 rfl ?_
        refine Es_iload_n (hC _) dX6_turn_82 rfl ?_
        refine Es_fS (hC _) ms_X6_97 dX6_turn_83 r_spot rfl rfl (by decide) (Nat.le_of_ble_eq_true rfl) ?_
        refine Es_ialdN (hC _) dX6_turn_86 rfl rfl rfl (by omega) (by decide) ?_
        rw [hRq]
        refine Es_icmp_eq (hC _) 94 dX6_turn_87 (by decide) (fun hb87 => False.elim (hne (by rw [hxx]; exact hb87))) (fun hb87 => ?_)
        refine Es_iconst (v := 1) (hC _) dX6_turn_90 (by decide) ?_
        refine Es_goto (hC _) 95 dX6_turn_91 (by decide) ?_
        refine Es_istore_n (lv' := [_, _, _, _]) (hC _) dX6_turn_95 (by decide) rfl rfl ?_
        first | refine Es_aload_n (hC _) dX6_turn_96 rfl ?_ | refine Es_aload_nN (hC _) dX6_turn_96 rfl ?_
        refine Sg_X6_10 (hC _) fl_X6_29 dX6_turn_97 ?_
        refine Es_iload_n (hC _) dX6_turn_100 rfl ?_
        refine Es_iload_n (hC _) dX6_turn_101 rfl ?_
        refine Es_fS (hC _) ms_X6_97 dX6_turn_102 r_spot rfl rfl (by decide) (Nat.le_of_ble_eq_true rfl) ?_
        first | refine Es_aload_n (hC _) dX6_turn_105 rfl ?_ | refine Es_aload_nN (hC _) dX6_turn_105 rfl ?_
        refine Sg_X6_29 (hC _) fl_X6_80 dX6_turn_106 ?_
        refine Es_iload_n (hC _) dX6_turn_109 rfl ?_
        refine Es_ialdN (hC _) dX6_turn_110 rfl rfl rfl (by omega) (by decide) ?_
        rw [g59, hxx]
        refine Es_iastN (hC _) dX6_turn_111 rfl (fun _ => rfl) rfl (by omega) (by decide) ?_
        refine Es_iload_n (hC _) dX6_turn_112 rfl ?_
        refine Es_if_eq (hC _) 132 dX6_turn_113 (by decide) (fun hb113 => False.elim (absurd hb113 (by decide))) (fun hb113 => ?_)
        first | refine Es_aload_n (hC _) dX6_turn_116 rfl ?_ | refine Es_aload_nN (hC _) dX6_turn_116 rfl ?_
        first | refine Es_aload_n (hC _) dX6_turn_117 rfl ?_ | refine Es_aload_nN (hC _) dX6_turn_117 rfl ?_
        refine Sg_X6_29 (hC _) fl_X6_80 dX6_turn_118 ?_
        refine Es_iload_n (hC _) dX6_turn_121 rfl ?_
        refine Es_ialdN (hC _) dX6_turn_122 rfl rfl rfl (by omega) (by decide) ?_
        rw [uB_k (by decide), g59, hxx]
        refine Es_bipush (v := 10) (hC _) dX6_turn_123 (by decide) ?_
        refine Es_iload_n (hC _) dX6_turn_125 rfl ?_
        refine Es_imul (hC _) dX6_turn_126 ?_
        refine Es_iload_n (hC _) dX6_turn_127 rfl ?_
        refine Es_iadd (hC _) dX6_turn_128 ?_
        rw [tenp]
        refine Es_fV (hC _) mv_X6_124 dX6_turn_129 (r_lays (k := k6) (by omega) (by rw [uB_k (by decide)]; exact hk6) (by omega)) rfl rfl ⟨_, rfl, rfl⟩ rfl rfl (by decide) (Nat.le_of_ble_eq_true rfl) ?_
        refine Es_iinc (lv' := [_, _, _, _]) (hC _) dX6_turn_132 (by decide) rfl (show _ + Int32.ofInt (1) = _ + (1) from rfl) rfl rfl ?_
        refine Es_goto (hC _) 52 dX6_turn_135 (by decide) ?_
        refine Es.kill 3 (lv' := [_, _, _, _]) rfl ?_
        rw [nI_1]
        refine Es.eqB ?_ (ih (q + 1) (by omega) (RJ_s hCW (by omega) hkE hJ))
        show _ = rT1 (XX a l q) w q (rTn (XX a l) w B q)
        unfold rT1
        rw [if_pos ⟨by rw [hxx]; exact nI_pos (by omega), by rw [hRq]; exact hne⟩, hxx, nI_clamp (by omega), hk6, nI_clamp (by omega)]
set_option maxRecDepth 100000 in
set_option maxHeartbeats 4000000 in
theorem r_turn_yes {ad : sA} {nw nt : Nat} {B : sB} {L : sL} {w p K : Nat} {a : Nat → Nat} {G : sB} (hg : ∀ k, 25 ≤ k → B k = G k) (hRX : RX nw nt G L w p) (hSM : SM a K) (hK : K ≤ 7) (ham : ∀ x, (∃ j, j < K ∧ a j = x) ↔ onS nt G w p x) (hK0 : 0 < K) (hz : ¬ rch (tdo G L w a K) p 0 0 = 0) (hCW : CW nt G (tdo G L w a K) a (chs (tdo G L w a K) (rch (tdo G L w a K) p 0 0) p 0 0) w p K) {k : Nat} (hk : B 25 0 7 = nI k) (hk6 : k ≤ 600) (hroom : k + fwN (tdo G L w a K) (rch (tdo G L w a K) p 0 0) p 0 0 ≤ 600) : Cs yX6_turn cX6_turn 4 (some FieldType.int) 11 [.ref (ad 25 0), .int (nI w)] ad nw nt (B) (L) (fun v B1 L1 => v = some (.int (nI (fwN (tdo G L w a K) (rch (tdo G L w a K) p 0 0) p 0 0))) ∧ wrel L L1 ∧ ∃ B0, fR B B0 ∧ B1 = rTn (XX a (chs (tdo G L w a K) (rch (tdo G L w a K) p 0 0) p 0 0)) w B0 p) := by
  have hC : ∀ Q, je_Ok (sCm yX6_turn cX6_turn 4 (some FieldType.int) 11 ad nw nt Q) RX6 cX6_turn 4 11 := fun _ => je_Cm_ok
  refine Cs_of [some (.ref (ad 25 0)), some (.int (nI w)), none, none] (by decide) rfl (Nat.le_of_ble_eq_true rfl) ?_
  obtain ⟨hnw, h5, hw, -⟩ := id hRX
  rw [← hg 25 (Nat.le_refl _)] at hnw
  refine Es_iload_n (hC _) dX6_turn_0 rfl ?_
  first | refine Es_aload_n (hC _) dX6_turn_1 rfl ?_ | refine Es_aload_nN (hC _) dX6_turn_1 rfl ?_
  refine Sg_X6_4 (hC _) fl_X6_86 dX6_turn_2 ?_
  rw [hnw]
  refine Es_fS (hC _) ms_X6_89 dX6_turn_5 (r_isIn_in hw (by omega)) rfl rfl (by decide) (Nat.le_of_ble_eq_true rfl) ?_
  refine Es_if_ne (hC _) 17 dX6_turn_8 (by decide) (fun hb8 => ?_) (fun hb8 => False.elim ((by first | exact absurd hb8 (by decide) | exact absurd hb8 (by assumption) | exact hb8 (by assumption) | exact hb8 rfl | (simp_all [bI]; done))))
  first | refine Es_aload_n (hC _) dX6_turn_17 rfl ?_ | refine Es_aload_nN (hC _) dX6_turn_17 rfl ?_
  refine Es_iload_n (hC _) dX6_turn_18 rfl ?_
  refine Es_callV (hC _) mv_X6_189 dX6_turn_19 (r_tries hg hRX hSM hK ham) rfl rfl ⟨_, rfl, rfl⟩ rfl rfl (by decide) (Nat.le_of_ble_eq_true rfl) (fun v' B1 L2 q => ?_)
  obtain ⟨hwr, f1, hc⟩ := q
  obtain ⟨hv, hZ⟩ : v' = some (.int 1) ∧ TZ B1 (tdo G L w a K) a p := by
    rcases hc with ⟨h1, -⟩ | ⟨h1, e, hZ⟩
    · omega
    · exact ⟨by rw [e, if_neg hz], hZ⟩
  subst hv
  have hR7 : B1 25 0 7 = nI k := by rw [f1.2 7 (by omega)]; exact hk
  have hp7 := hRX.2.2.2.2.2.1.1.1
  have hcs := chs_l (tdo_ok G L w a K) hK hp7 hz
  have hm6 : fwN (tdo G L w a K) (rch (tdo G L w a K) p 0 0) p 0 0 ≤ 600 := by omega
  refine Es_if_ne (hC _) 32 dX6_turn_22 (by decide) (fun hb22 => ?_) (fun hb22 => False.elim (absurd hb22 (by decide)))
  first | refine Es_aload_n (hC _) dX6_turn_32 rfl ?_ | refine Es_aload_nN (hC _) dX6_turn_32 rfl ?_
  first | refine Es_aload_n (hC _) dX6_turn_33 rfl ?_ | refine Es_aload_nN (hC _) dX6_turn_33 rfl ?_
  refine Sg_X6_33 (hC _) fl_X6_186 dX6_turn_34 ?_
  rw [(hZ.2 hz).2.1]
  refine Es_fV (hC _) mv_X6_110 dX6_turn_37 (r_hasRoom hR7 hk6 hm6) rfl rfl ⟨_, rfl, rfl⟩ rfl rfl (by decide) (Nat.le_of_ble_eq_true rfl) ?_
  refine Es_if_ne (hC _) 50 dX6_turn_40 (by decide) (fun hb40 => ?_) (fun hb40 => False.elim (absurd hb40 (by rw [bI, if_pos hroom]; decide)))
  refine Es_iconst (v := 0) (hC _) dX6_turn_50 (by decide) ?_
  refine Es_istore_n (lv' := [_, _, _, _]) (hC _) dX6_turn_51 (by decide) rfl rfl ?_
  refine l_rtu (G := G) (K := K) (by omega) hCW hroom ?_ (hZ.2 hz).2.2 (hZ.2 hz).2.1 ⟨rfl, hwr, B1, f1, rfl⟩ p 0 (by omega) ⟨fun j _ hj => ?_, k, hR7, by rw [hcs.1]; rfl⟩
  · rw [f1.1 38 (by omega), hg 38 (by omega)]
    exact hRX.2.2.2.2.2.1.2.1
  · show B1 40 0 (7 * w + j) = G 20 w j
    rw [f1.1 40 (by omega), hg 40 (by omega)]
    exact (hRX.2.2.2.2.2.1.2.2 j hj).2

theorem cT_g {x : Nat → Int32} {w : Nat} {C : sB} {k : Nat} (h : 22 ≤ k) (q : Nat) : cT x w C q k = C k := cT_k (by omega) (by omega) (by omega) (by omega) (by omega) (by omega) q
theorem s_turn {ad : sA} {nw nt : Nat} {B : sB} {L : sL} (hR : Rel nw nt B L) (y : Int32) : StG yX5_turn cX5_turn 4 6 yX6_turn cX6_turn 4 11 (some .int) [.int y] ad nw nt B L := by
  obtain ⟨s1, s2, s3, s4, s5, s6, s7, s8, s9, s10⟩ := hR.1
  rcases in_out y (n := nw) (by omega) with ⟨w, hw, rfl⟩ | how
  · obtain ⟨p, hX⟩ := px_of hR hw
    obtain ⟨a, K, hSM, ham⟩ := ex_on nt B w p
    have hPL := (plx_of hR).1
    have hFc := (tfa_of hR).c
    have hnum := num_of hR
    have hinj := oinj_of hR hw hX
    have hRX := RX_of hR hw hX
    obtain ⟨k, hk6, g1, g2, g3⟩ := id hR.2.2.2.2.1
    by_cases hz : K = 0 ∨ rch (tdo B L w a K) p 0 0 = 0
    · refine ⟨(-2), (c_turn_no s2 s3 hw s6 hX.1 hPL hFc hnum hinj hSM ham hz).mono (fun v' B1 L1 q => ?_)⟩
      obtain ⟨rfl, rfl, hK, B0, f, rfl⟩ := q
      refine ⟨rfl, (r_turn_no (G := B) (fun k hk => by rw [uB_k (by omega), f k (by omega)]) hRX hSM hK ham hz).mono (fun v'' B2 L2 q => ?_)⟩
      obtain ⟨rfl, hwr, B3, f3, e⟩ := q
      exact ⟨rfl, Rel_ref2 (Rel_fT hR f) f3 hwr e⟩
    · have hK0 : 0 < K := by omega
      have hz2 : ¬ rch (tdo B L w a K) p 0 0 = 0 := fun z => hz (Or.inr z)
      by_cases hroom : k + fwN (tdo B L w a K) (rch (tdo B L w a K) p 0 0) p 0 0 ≤ 600
      · obtain ⟨p', w7, w1, w2, w3, w4, w5⟩ := hR.2.2.1.1 w hw
        refine ⟨(nI (fwN (tdo B L w a K) (rch (tdo B L w a K) p 0 0) p 0 0)), (c_turn_yes s2 s3 hw s6 hX.1 hPL hFc hnum hinj hSM ham hK0 hz2 w1 g1 hk6 hroom).mono (fun v' B1 L1 q => ?_)⟩
        obtain ⟨rfl, rfl, hK, B0, f, rfl⟩ := q
        have hcs := chs_l (tdo_ok B L1 w a K) hK hX.1.1 hz2
        have hCW : CW nt B (tdo B L1 w a K) a (chs (tdo B L1 w a K) (rch (tdo B L1 w a K) p 0 0) p 0 0) w p K := ⟨s6, hK, hcs.2.1, hX.1.1, fun i k e => (hcs.2.2.1.1 i k e).1, fun k hk => ((ham (a k)).mp ⟨k, hk, rfl⟩).1, fun q k hq hk => rfl, fun q hq => (hX.1.2.2 q hq).2⟩
        refine ⟨rfl, (r_turn_yes (G := B) (fun k hk => by rw [cT_g (by omega), f k (by omega)]) hRX hSM hK ham hK0 hz2 hCW (by rw [cT_g (by omega), f 25 (by omega)]; exact g2) hk6 hroom).mono (fun v'' B2 L2 q => ?_)⟩
        obtain ⟨rfl, hwr, B3, f3, rfl⟩ := q
        refine ⟨rfl, Rel_wrel hwr ?_⟩
        generalize hll : chs (tdo B L1 w a K) (rch (tdo B L1 w a K) p 0 0) p 0 0 = l at *
        have hTX : TX nt B (tdo B L1 w a K) l (XX a l) w p := by
          refine ⟨by omega, hX.1.1, s6, fun j hj => (hX.2.2 j hj).2, fun j hj => ?_, fun j j' t hj hj' ht e e' => ?_, fun j t hj ht e => ?_, fun q hq => CW_rem hCW hq⟩
          · unfold XX
            cases hx : l.getD j none with
            | none => exact Or.inl rfl
            | some k =>
              obtain ⟨o1, j', o2, o3⟩ := (ham (a k)).mp ⟨k, (hcs.2.2.1.1 j k hx).1, rfl⟩
              exact Or.inr ⟨a k, o1, rfl, j', o2, o3⟩
          · unfold XX at e e'
            cases hx : l.getD j none with
            | none =>
              rw [hx] at e
              exact (nI_m1 (by omega) (show nI t = -1 from e.symm)).elim
            | some k =>
              cases hx' : l.getD j' none with
              | none =>
                rw [hx'] at e'
                exact (nI_m1 (by omega) (show nI t = -1 from e'.symm)).elim
              | some k' =>
                rw [hx] at e
                rw [hx'] at e'
                have e : nI (a k) = nI t := e
                have e' : nI (a k') = nI t := e'
                have hk1 := (hcs.2.2.1.1 j k hx).1
                have hk2 := (hcs.2.2.1.1 j' k' hx').1
                have b1 := ((ham (a k)).mp ⟨k, hk1, rfl⟩).1
                have b2 := ((ham (a k')).mp ⟨k', hk2, rfl⟩).1
                have hkk : k = k' := SM_inj hSM hk1 hk2 ((nI_eq (by omega) (by omega)).mp (e.trans e'.symm))
                subst hkk
                exact hcs.2.2.1.2 j j' k hx hx'
          · have hpp : p' = p := (nI_eq (by omega) (by have := hX.1.1; omega)).mp (w2.symm.trans hX.1.2.1)
            subst hpp
            rcases (w4 j hj).2.2.2.1 with z | ⟨t', z1, z2, z3⟩
            · rw [z] at e
              exact (nI_m1 (by omega) e.symm).elim
            · have htt : t' = t := (nI_eq (by omega) (by omega)).mp (z2.symm.trans e)
              subst htt
              exact z3
        have hB3 : ∀ q, 25 < q → q < 57 → B3 q = B q := fun q q1 q2 => by rw [f3.1 q (by omega), cT_g (by omega), f q (by omega)]
        have hB25 : ∀ i, i < 31 → B3 25 0 i = B 25 0 i := fun i hi => by rw [f3.2 i hi, cT_g (by omega), f 25 (by omega)]
        have hN : RelN nw nt B0 B3 L1 := by
          unfold RelN
          unfold Rel at hR
          unfold RelS RelG at hR ⊢
          rw [f 0 (by omega), f 3 (by omega), f 4 (by omega), f 5 (by omega), f 6 (by omega), f 7 (by omega), f 8 (by omega), f 9 (by omega), f 21 (by omega), f 22 (by omega), f 23 (by omega), hB25 3 (by omega), hB25 4 (by omega), hB25 5 (by omega), hB25 6 (by omega), hB25 7 (by omega), hB3 30 (by omega) (by omega), hB3 31 (by omega) (by omega), hB3 32 (by omega) (by omega), hB3 42 (by omega) (by omega), hB3 43 (by omega) (by omega), hB3 44 (by omega) (by omega), hB3 45 (by omega) (by omega), hB3 46 (by omega) (by omega), hB3 47 (by omega) (by omega), hB3 48 (by omega) (by omega), hB3 49 (by omega) (by omega), hB3 50 (by omega) (by omega), hB3 51 (by omega) (by omega), hB3 52 (by omega) (by omega), hB3 53 (by omega) (by omega), hB3 54 (by omega) (by omega)]
          exact ⟨hR.1, hR.2.1, hR.2.2.2⟩
        have hJ0 : JT nw nt B L1 (tdo B L1 w a K) l (XX a l) w (k + fwN (tdo B L1 w a K) (rch (tdo B L1 w a K) p 0 0) p 0 0) 0 B0 B3 := by
          refine ⟨hN, ⟨k, by rw [f 6 (by omega)]; exact g1, by rw [hcs.1]; rfl⟩, fun w' _ => by rw [f 20 (by omega)], fun j hj => by omega, fun j _ => by rw [f 20 (by omega)], fun i _ => by rw [hB3 40 (by omega) (by omega)], fun j hj => by omega, fun t _ => by rw [hB3 47 (by omega) (by omega)], fun t j _ hj => by omega⟩
        have hJ := JT_all hTX hroom hJ0 p (Nat.le_refl _)
        refine Rel_turn hR hw hX hTX hJ ⟨?_, ?_⟩ ⟨?_, ?_, ?_⟩ (fun q hq => ?_) (fun q _ _ => rfl) (fun i _ => rfl)
        · rw [cT_k (by decide) (by decide) (by decide) (by decide) (by decide) (by decide), f 18 (by omega)]
        · rw [cT_k (by decide) (by decide) (by decide) (by decide) (by decide) (by decide), f 19 (by omega)]
        · rw [rT_k (by decide) (by decide) (by decide) (by decide) (by decide) (by decide), hB3 38 (by omega) (by omega)]
        · rw [rT_k (by decide) (by decide) (by decide) (by decide) (by decide) (by decide), hB3 39 (by omega) (by omega)]
        · rw [rT_k (by decide) (by decide) (by decide) (by decide) (by decide) (by decide), hB3 41 (by omega) (by omega)]
        · rw [rT_k (by omega) (by omega) (by omega) (by omega) (by omega) (by omega), f3.1 q (by omega)]
      · refine ⟨(-6), (c_turn_full s2 s3 hw s6 hX.1 hPL hFc hnum hinj hSM ham hK0 hz2 g1 hk6 hroom).mono (fun v' B1 L1 q => ?_)⟩
        obtain ⟨rfl, rfl, hK, B0, f, rfl⟩ := q
        refine ⟨rfl, (r_turn_full (G := B) (fun k hk => by rw [uB_k (by omega), f k (by omega)]) hRX hSM hK ham hK0 hz2 (by rw [uB_k (by decide), f 25 (by omega)]; exact g2) hk6 hroom).mono (fun v'' B2 L2 q => ?_)⟩
        obtain ⟨rfl, hwr, B3, f3, e⟩ := q
        exact ⟨rfl, Rel_ref2 (Rel_fT hR f) f3 hwr e⟩
  · exact Stq.gen ⟨_, _, _, _, _, c_turn_1 s2 s3 how, r_turn_1 (by exact s1) s3 how, Rel_refuse hR⟩
