/-! ===== TURNING ABOUT: the reference's tries ===== -/
theorem Rel_f {nw nt : Nat} {B B1 : sB} {L : sL} (h1 : ∀ q, (q < 10 ∨ (16 < q ∧ q < 25) ∨ (25 < q ∧ q < 57)) → B1 q = B q) (h2 : ∀ i, i < 31 → B1 25 0 i = B 25 0 i) (hR : Rel nw nt B L) : Rel nw nt B1 L := by
  unfold Rel RelS RelG at hR ⊢
  rw [h1 0 (by omega), h1 3 (by omega), h1 4 (by omega), h1 5 (by omega), h1 6 (by omega), h1 7 (by omega), h1 8 (by omega), h1 9 (by omega), h1 18 (by omega), h1 19 (by omega), h1 20 (by omega), h1 21 (by omega), h1 22 (by omega), h1 23 (by omega), h1 30 (by omega), h1 31 (by omega), h1 32 (by omega), h1 38 (by omega), h1 39 (by omega), h1 40 (by omega), h1 41 (by omega), h1 42 (by omega), h1 43 (by omega), h1 44 (by omega), h1 45 (by omega), h1 46 (by omega), h1 47 (by omega), h1 48 (by omega), h1 49 (by omega), h1 50 (by omega), h1 51 (by omega), h1 52 (by omega), h1 53 (by omega), h1 54 (by omega), h2 3 (by omega), h2 4 (by omega), h2 5 (by omega), h2 6 (by omega), h2 7 (by omega)]
  exact hR
/-- what tries may change -/
def fR (B B1 : sB) : Prop := (∀ q, (q < 25 ∨ (25 < q ∧ q < 57)) → B1 q = B q) ∧ ∀ i, i < 31 → B1 25 0 i = B 25 0 i
theorem fR.rf (B : sB) : fR B B := ⟨fun _ _ => rfl, fun _ _ => rfl⟩
theorem fR.Rel {nw nt : Nat} {B B1 : sB} {L : sL} (h : fR B B1) (hR : Rel nw nt B L) : Rel nw nt B1 L := Rel_f (fun q hq => h.1 q (by omega)) h.2 hR
theorem TFa_f {nt : Nat} {B B1 : sB} {L : sL} (h : fR B B1) (hF : TFa nt B L) : TFa nt B1 L := by
  intro t ht
  obtain ⟨r, d, ra, len, u, v, m, hq⟩ := hF t ht
  refine ⟨r, d, ra, len, u, v, m, ?_⟩
  have e1 : rA B1 t = rA B t := by
    funext i
    unfold rA
    rw [h.1 50 (by omega)]
  have e2 : rD B1 t = rD B t := by
    funext i
    unfold rD
    rw [h.1 51 (by omega)]
  unfold TF at hq ⊢
  rw [e1, e2, h.1 21 (by omega), h.1 22 (by omega), h.1 23 (by omega), h.1 32 (by omega), h.1 42 (by omega), h.1 46 (by omega), h.1 49 (by omega), h.1 50 (by omega), h.1 51 (by omega)]
  exact hq
theorem tEn_g {B H : sB} {L : sL} (h1 : H 21 = B 21) (h2 : H 22 = B 22) (h3 : H 23 = B 23) (t l : Nat) : tEn H L t l = tEn B L t l := by
  unfold tEn tR
  rw [h1, h2, h3]
set_option maxRecDepth 100000 in
set_option maxHeartbeats 4000000 in
theorem l_tin {ad : sA} {nw nt : Nat} {B : sB} {L : sL} {bc bs : Nat} {Q : Option Value → sB → sL → Prop} {w t p : Nat} (hw5 : w < 5) (hp7 : p ≤ 7) (h38 : B 38 0 w = nI p) (kk : ∀ s : Int32, ((s = 1 ∧ ∃ q, q < p ∧ B 40 0 (7 * w + q) = nI t) ∨ (s = 0 ∧ ∀ q, q < p → ¬ B 40 0 (7 * w + q) = nI t)) → Es (sCm yX6_tries cX6_tries 5 (some .boolean) 10 ad nw nt Q) 5 62 [some (.ref (ad 25 0)), some (.int (nI w)), some (.int (nI t)), some (.int s), none] [] ad nw nt B L bc bs) : ∀ (n i : Nat) (s : Int32), i + n = p → ((s = 1 ∧ ∃ q, q < i ∧ B 40 0 (7 * w + q) = nI t) ∨ (s = 0 ∧ ∀ q, q < i → ¬ B 40 0 (7 * w + q) = nI t)) → Es (sCm yX6_tries cX6_tries 5 (some .boolean) 10 ad nw nt Q) 5 20 [some (.ref (ad 25 0)), some (.int (nI w)), some (.int (nI t)), some (.int s), some (.int (nI i))] [] ad nw nt B L bc bs := by
  have hC : ∀ Q, je_Ok (sCm yX6_tries cX6_tries 5 (some .boolean) 10 ad nw nt Q) RX6 cX6_tries 5 10 := fun _ => je_Cm_ok
  intro n
  induction n with
  | zero =>
    intro i s hn hs
    have hip : i = p := by omega
    subst hip
    refine Es_iload (hC _) dX6_tries_20 rfl ?_
    first | refine Es_aload_n (hC _) dX6_tries_22 rfl ?_ | refine Es_aload_nN (hC _) dX6_tries_22 rfl ?_
    refine Sg_X6_8 (hC _) fl_X6_23 dX6_tries_23 ?_
    refine Es_iload_n (hC _) dX6_tries_26 rfl ?_
    refine Es_ialdN (hC _) dX6_tries_27 rfl rfl rfl (by omega) (by decide) ?_
    rw [h38]
    refine Es_icmp_ge (hC _) 62 dX6_tries_28 (by decide) (fun hb28 => ?_) (fun hb28 => False.elim (hb28 (nI_le (Nat.le_refl _) (by omega))))
    refine Es.kill 4 (lv' := [_, _, _, _, _]) rfl ?_
    exact kk s hs
  | succ n ih =>
    intro i s hn hs
    rcases hs with ⟨rfl, q, hq1, hq2⟩ | ⟨rfl, hq⟩
    · skip
      refine Es_iload (hC _) dX6_tries_20 rfl ?_
      first | refine Es_aload_n (hC _) dX6_tries_22 rfl ?_ | refine Es_aload_nN (hC _) dX6_tries_22 rfl ?_
      refine Sg_X6_8 (hC _) fl_X6_23 dX6_tries_23 ?_
      refine Es_iload_n (hC _) dX6_tries_26 rfl ?_
      refine Es_ialdN (hC _) dX6_tries_27 rfl rfl rfl (by omega) (by decide) ?_
      rw [h38]
      refine Es_icmp_ge (hC _) 62 dX6_tries_28 (by decide) (fun hb28 => False.elim (nI_ge (b := p) (a := i) (by omega) (by omega) hb28)) (fun hb28 => ?_)
      refine Es_iload_n (hC _) dX6_tries_31 rfl ?_
      refine Es_if_ne (hC _) 50 dX6_tries_32 (by decide) (fun hb32 => ?_) (fun hb32 => False.elim (absurd hb32 (by decide)))
      refine Es_iconst (v := 1) (hC _) dX6_tries_50 (by decide) ?_
      refine Es_goto (hC _) 55 dX6_tries_51 (by decide) ?_
      refine Es_istore_n (lv' := [_, _, _, _, _]) (hC _) dX6_tries_55 (by decide) rfl rfl ?_
      refine Es_iinc (lv' := [_, _, _, _, _]) (hC _) dX6_tries_56 (by decide) rfl (show _ + Int32.ofInt (1) = _ + (1) from rfl) rfl rfl ?_
      refine Es_goto (hC _) 20 dX6_tries_59 (by decide) ?_
      rw [nI_1]
      exact ih (i + 1) _ (by omega) (Or.inl ⟨rfl, q, by omega, hq2⟩)
    · by_cases he : B 40 0 (7 * w + i) = nI t
      · skip
        refine Es_iload (hC _) dX6_tries_20 rfl ?_
        first | refine Es_aload_n (hC _) dX6_tries_22 rfl ?_ | refine Es_aload_nN (hC _) dX6_tries_22 rfl ?_
        refine Sg_X6_8 (hC _) fl_X6_23 dX6_tries_23 ?_
        refine Es_iload_n (hC _) dX6_tries_26 rfl ?_
        refine Es_ialdN (hC _) dX6_tries_27 rfl rfl rfl (by omega) (by decide) ?_
        rw [h38]
        refine Es_icmp_ge (hC _) 62 dX6_tries_28 (by decide) (fun hb28 => False.elim (nI_ge (b := p) (a := i) (by omega) (by omega) hb28)) (fun hb28 => ?_)
        refine Es_iload_n (hC _) dX6_tries_31 rfl ?_
        refine Es_if_ne (hC _) 50 dX6_tries_32 (by decide) (fun hb32 => False.elim (hb32 rfl)) (fun hb32 => ?_)
        first | refine Es_aload_n (hC _) dX6_tries_35 rfl ?_ | refine Es_aload_nN (hC _) dX6_tries_35 rfl ?_
        refine Sg_X6_10 (hC _) fl_X6_29 dX6_tries_36 ?_
        refine Es_iload_n (hC _) dX6_tries_39 rfl ?_
        refine Es_iload (hC _) dX6_tries_40 rfl ?_
        refine Es_fS (hC _) ms_X6_97 dX6_tries_42 r_spot rfl rfl (by decide) (Nat.le_of_ble_eq_true rfl) ?_
        refine Es_ialdN (hC _) dX6_tries_45 rfl rfl rfl (by omega) (by decide) ?_
        refine Es_iload_n (hC _) dX6_tries_46 rfl ?_
        refine Es_icmp_ne (hC _) 54 dX6_tries_47 (by decide) (fun hb47 => False.elim (hb47 he)) (fun hb47 => ?_)
        refine Es_iconst (v := 1) (hC _) dX6_tries_50 (by decide) ?_
        refine Es_goto (hC _) 55 dX6_tries_51 (by decide) ?_
        refine Es_istore_n (lv' := [_, _, _, _, _]) (hC _) dX6_tries_55 (by decide) rfl rfl ?_
        refine Es_iinc (lv' := [_, _, _, _, _]) (hC _) dX6_tries_56 (by decide) rfl (show _ + Int32.ofInt (1) = _ + (1) from rfl) rfl rfl ?_
        refine Es_goto (hC _) 20 dX6_tries_59 (by decide) ?_
        rw [nI_1]
        exact ih (i + 1) _ (by omega) (Or.inl ⟨rfl, i, by omega, he⟩)
      · skip
        refine Es_iload (hC _) dX6_tries_20 rfl ?_
        first | refine Es_aload_n (hC _) dX6_tries_22 rfl ?_ | refine Es_aload_nN (hC _) dX6_tries_22 rfl ?_
        refine Sg_X6_8 (hC _) fl_X6_23 dX6_tries_23 ?_
        refine Es_iload_n (hC _) dX6_tries_26 rfl ?_
        refine Es_ialdN (hC _) dX6_tries_27 rfl rfl rfl (by omega) (by decide) ?_
        rw [h38]
        refine Es_icmp_ge (hC _) 62 dX6_tries_28 (by decide) (fun hb28 => False.elim (nI_ge (b := p) (a := i) (by omega) (by omega) hb28)) (fun hb28 => ?_)
        refine Es_iload_n (hC _) dX6_tries_31 rfl ?_
        refine Es_if_ne (hC _) 50 dX6_tries_32 (by decide) (fun hb32 => False.elim (hb32 rfl)) (fun hb32 => ?_)
        first | refine Es_aload_n (hC _) dX6_tries_35 rfl ?_ | refine Es_aload_nN (hC _) dX6_tries_35 rfl ?_
        refine Sg_X6_10 (hC _) fl_X6_29 dX6_tries_36 ?_
        refine Es_iload_n (hC _) dX6_tries_39 rfl ?_
        refine Es_iload (hC _) dX6_tries_40 rfl ?_
        refine Es_fS (hC _) ms_X6_97 dX6_tries_42 r_spot rfl rfl (by decide) (Nat.le_of_ble_eq_true rfl) ?_
        refine Es_ialdN (hC _) dX6_tries_45 rfl rfl rfl (by omega) (by decide) ?_
        refine Es_iload_n (hC _) dX6_tries_46 rfl ?_
        refine Es_icmp_ne (hC _) 54 dX6_tries_47 (by decide) (fun hb47 => ?_) (fun hb47 => False.elim (he hb47))
        refine Es_iconst (v := 0) (hC _) dX6_tries_54 (by decide) ?_
        refine Es_istore_n (lv' := [_, _, _, _, _]) (hC _) dX6_tries_55 (by decide) rfl rfl ?_
        refine Es_iinc (lv' := [_, _, _, _, _]) (hC _) dX6_tries_56 (by decide) rfl (show _ + Int32.ofInt (1) = _ + (1) from rfl) rfl rfl ?_
        refine Es_goto (hC _) 20 dX6_tries_59 (by decide) ?_
        rw [nI_1]
        exact ih (i + 1) _ (by omega) (Or.inr ⟨rfl, fun q hq2 => Classical.byCases (fun z : q = i => by rw [z]; exact he) (fun z => hq q (by omega))⟩)
def gh (G B : sB) : sB := fun k => if k < 25 then G k else B k
theorem gh_l {G B : sB} {k : Nat} (h : k < 25) : gh G B k = G k := if_pos h
theorem gh_r {G B : sB} {k : Nat} (h : 25 ≤ k) : gh G B k = B k := if_neg (by omega)
def TE (B B0 B1 : sB) (L : sL) (t M k : Nat) : Prop := (∀ q, q ≠ 60 → B1 q = B0 q) ∧ (∀ j, j < 5 * M → B1 60 0 j = B0 60 0 j) ∧ ∀ k', k' < k → B1 60 0 (5 * M + k') = nI (tEn B L t (B 3 0 k').toNatClampNeg)
set_option maxRecDepth 100000 in
set_option maxHeartbeats 4000000 in
theorem l_ten {ad : sA} {nw nt : Nat} {B : sB} {L : sL} {bc bs : Nat} {Q : Option Value → sB → sL → Prop} {w t M : Nat} {s : Int32} (h40 : nt ≤ 40) (ht : t < nt) (hM : M < 7) {G : sB} (hg : ∀ k, 25 ≤ k → B k = G k) (hL : PLX G) (hF : TFa nt G L) {B0 : sB} (hf : fR B B0) (h31 : B0 25 0 31 = nI M) (kk : ∀ B1 L1, wrel L L1 → TE G B0 B1 L t M 5 → Es (sCm yX6_tries cX6_tries 5 (some .boolean) 10 ad nw nt Q) 5 120 [some (.ref (ad 25 0)), some (.int (nI w)), some (.int (nI t)), some (.int s), none] [] ad nw nt B1 L1 bc bs) : ∀ (n k : Nat) (B1 : sB) (L1 : sL), k + n = 5 → wrel L L1 → TE G B0 B1 L t M k → Es (sCm yX6_tries cX6_tries 5 (some .boolean) 10 ad nw nt Q) 5 82 [some (.ref (ad 25 0)), some (.int (nI w)), some (.int (nI t)), some (.int s), some (.int (nI k))] [] ad nw nt B1 L1 bc bs := by
  have hC : ∀ Q, je_Ok (sCm yX6_tries cX6_tries 5 (some .boolean) 10 ad nw nt Q) RX6 cX6_tries 5 10 := fun _ => je_Cm_ok
  intro n
  induction n with
  | zero =>
    intro k B1 L1 hn hw hE
    have hk5 : k = 5 := by omega
    subst hk5
    refine Es_iload (hC _) dX6_tries_82 rfl ?_
    refine Es_iconst (v := 5) (hC _) dX6_tries_84 (by decide) ?_
    refine Es_icmp_ge (hC _) 120 dX6_tries_85 (by decide) (fun hb85 => ?_) (fun hb85 => False.elim (hb85 (nI_le (Nat.le_refl _) (by decide))))
    refine Es.kill 4 (lv' := [_, _, _, _, _]) rfl ?_
    exact kk B1 L1 hw hE
  | succ n ih =>
    intro k B1 L1 hn hw hE
    obtain ⟨l, hl1, hl⟩ := hL.1 k (by omega)
    have hfR1 : fR B B1 := ⟨fun q hq => (hE.1 q (by omega)).trans (hf.1 q hq), fun i hi => by rw [hE.1 25 (by decide)]; exact hf.2 i hi⟩
    have g31 : B1 25 0 31 = nI M := by rw [hE.1 25 (by decide)]; exact h31
    have gl : B1 31 0 k = nI l := by rw [hfR1.1 31 (by omega), hg 31 (by omega), hL.2 k (by omega)]; exact hl
    have hfG : fR G (gh G B1) := ⟨fun q hq => by
      rcases Nat.lt_or_ge q 25 with z | z
      · exact gh_l z
      · rw [gh_r z, hfR1.1 q hq, hg q z], fun i hi => by rw [gh_r (Nat.le_refl _), hfR1.2 i hi, hg 25 (Nat.le_refl _)]⟩
    have hF1 := TFa_wrel hw (TFa_f hfG hF)
    have e1 : tEn (gh G B1) L1 t l = tEn G L t (G 3 0 k).toNatClampNeg := by
      rw [hl, nI_clamp (by omega), tEn_wrel hw, tEn_g (hfG.1 21 (by omega)) (hfG.1 22 (by omega)) (hfG.1 23 (by omega))]
    refine Es_iload (hC _) dX6_tries_82 rfl ?_
    refine Es_iconst (v := 5) (hC _) dX6_tries_84 (by decide) ?_
    refine Es_icmp_ge (hC _) 120 dX6_tries_85 (by decide) (fun hb85 => False.elim (nI_ge (b := 5) (a := k) (by omega) (by decide) hb85)) (fun hb85 => ?_)
    first | refine Es_aload_n (hC _) dX6_tries_88 rfl ?_ | refine Es_aload_nN (hC _) dX6_tries_88 rfl ?_
    refine Sg_X6_30 (hC _) fl_X6_83 dX6_tries_89 ?_
    refine Es_iconst (v := 5) (hC _) dX6_tries_92 (by decide) ?_
    first | refine Es_aload_n (hC _) dX6_tries_93 rfl ?_ | refine Es_aload_nN (hC _) dX6_tries_93 rfl ?_
    refine Sg_X6_31 (hC _) fl_X6_176 dX6_tries_94 ?_
    rw [g31]
    refine Es_imul (hC _) dX6_tries_97 ?_
    refine Es_iload (hC _) dX6_tries_98 rfl ?_
    refine Es_iadd (hC _) dX6_tries_100 ?_
    rw [show (5 : Int32) * nI M + nI k = nI (5 * M + k) by rw [show (5 : Int32) = nI 5 from rfl, pk_mul, nI_add]]
    first | refine Es_aload_n (hC _) dX6_tries_101 rfl ?_ | refine Es_aload_nN (hC _) dX6_tries_101 rfl ?_
    refine Es_iload_n (hC _) dX6_tries_102 rfl ?_
    first | refine Es_aload_n (hC _) dX6_tries_103 rfl ?_ | refine Es_aload_nN (hC _) dX6_tries_103 rfl ?_
    refine Sg_X6_1 (hC _) fl_X6_13 dX6_tries_104 ?_
    refine Es_iload (hC _) dX6_tries_107 rfl ?_
    refine Es_ialdN (hC _) dX6_tries_109 rfl rfl rfl (by omega) (by decide) ?_
    rw [gl]
    refine Es_fV (hC _) mv_X6_161 dX6_tries_110 (rT_endH (B := gh G B1) (fun k hk => (gh_r hk).symm) hF1 ht h40 rfl (by omega)) rfl rfl ⟨_, rfl, rfl⟩ rfl rfl (by decide) (Nat.le_of_ble_eq_true rfl) ?_
    rw [e1]
    refine Es_iastN (hC _) dX6_tries_113 rfl (fun _ => rfl) rfl (by omega) (by decide) ?_
    refine Es_iinc (lv' := [_, _, _, _, _]) (hC _) dX6_tries_114 (by decide) rfl (show _ + Int32.ofInt (1) = _ + (1) from rfl) rfl rfl ?_
    refine Es_goto (hC _) 82 dX6_tries_117 (by decide) ?_
    rw [nI_1]
    refine ih (k + 1) _ _ (by omega) (hw.w _) ⟨fun q hq => (uB_k hq).trans (hE.1 q hq), fun j hj => by rw [uB_n (by omega)]; exact hE.2.1 j hj, fun k' hk' => ?_⟩
    by_cases he : k' = k
    · subst he
      rw [uB_s]
    · rw [uB_n (by omega)]
      exact hE.2.2 k' (by omega)
/-- the tyres below t are gathered: M of them -/
def TO (G B B1 : sB) (L : sL) (a : Nat → Nat) (K t M : Nat) : Prop := fR B B1 ∧ B1 25 0 31 = nI M ∧ M ≤ K ∧ (∀ i, i < M → B1 57 0 i = nI (a i) ∧ ∀ k, k < 5 → B1 60 0 (5 * i + k) = nI (tEn G L (a i) (G 3 0 k).toNatClampNeg)) ∧ (∀ i, i < M → a i < t) ∧ ∀ i, M ≤ i → i < K → t ≤ a i
theorem TO_n {G B B1 : sB} {L : sL} {a : Nat → Nat} {K t M : Nat} (h : TO G B B1 L a K t M) (hn : ∀ j, j < K → ¬ a j = t) : TO G B B1 L a K (t + 1) M := by
  obtain ⟨h1, h2, h3, h4, h5, h6⟩ := h
  refine ⟨h1, h2, h3, h4, fun i hi => by have := h5 i hi; omega, fun i a1 a2 => ?_⟩
  have := h6 i a1 a2
  have := hn i a2
  omega
theorem TO_j {G B B1 : sB} {L : sL} {a : Nat → Nat} {K t M j : Nat} (hSM : SM a K) (h : TO G B B1 L a K t M) (hj : j < K) (hj2 : a j = t) : M < K ∧ a M = t := by
  obtain ⟨h1, h2, h3, h4, h5, h6⟩ := h
  have hMj : M ≤ j := Classical.byContradiction (fun z => by have := h5 j (by omega); omega)
  refine ⟨by omega, ?_⟩
  by_cases he : j = M
  · rw [← he]
    exact hj2
  · have := h6 M (Nat.le_refl _) (by omega)
    have := hSM M j (by omega) hj
    omega
theorem TO_y {G B B1 B2 : sB} {L : sL} {a : Nat → Nat} {K t M : Nat} (hSM : SM a K) (h : TO G B B1 L a K t M) (hM : M < K) (hM2 : a M = t) (hE : TE G (uB B1 57 0 M (nI t)) B2 L t M 5) : TO G B (uB B2 25 0 31 (nI (M + 1))) L a K (t + 1) (M + 1) := by
  obtain ⟨h1, h2, h3, h4, h5, h6⟩ := h
  obtain ⟨e1, e2, e3⟩ := hE
  refine ⟨⟨fun q hq => ?_, fun i hi => ?_⟩, uB_s _ _ _ _ _, hM, fun i hi => ?_, fun i hi => ?_, fun i a1 a2 => ?_⟩
  · rw [uB_k (by omega), e1 q (by omega), uB_k (by omega)]
    exact h1.1 q hq
  · rw [uB_n (by omega), e1 25 (by decide), uB_k (by decide)]
    exact h1.2 i hi
  · rw [uB_k (by decide), e1 57 (by decide)]
    by_cases he : i = M
    · subst he
      refine ⟨by rw [uB_s, hM2], fun k hk => ?_⟩
      rw [uB_k (by decide), e3 k hk, hM2]
    · obtain ⟨c1, c2⟩ := h4 i (by omega)
      refine ⟨by rw [uB_n (by omega)]; exact c1, fun k hk => ?_⟩
      rw [uB_k (by decide), e2 _ (by omega), uB_k (by decide)]
      exact c2 k hk
  · by_cases he : i = M
    · rw [he, hM2]
      omega
    · have := h5 i (by omega)
      omega
  · have := hSM M i (by omega) a2
    omega
set_option maxRecDepth 100000 in
set_option maxHeartbeats 4000000 in
theorem l_tout {ad : sA} {nw nt : Nat} {B : sB} {L : sL} {bc bs : Nat} {Q : Option Value → sB → sL → Prop} {w p K : Nat} {a : Nat → Nat} (h40 : nt ≤ 40) (hw5 : w < 5) {G : sB} (hg : ∀ k, 25 ≤ k → B k = G k) (hnt : B 25 0 5 = nI nt) (hX : PX nt G w p) (hL : PLX G) (hF : TFa nt G L) (hSM : SM a K) (hK : K ≤ 7) (ham : ∀ x, (∃ j, j < K ∧ a j = x) ↔ onS nt G w p x) (kk : ∀ B1 L1, wrel L L1 → TO G B B1 L a K nt K → Es (sCm yX6_tries cX6_tries 5 (some .boolean) 10 ad nw nt Q) 5 136 [some (.ref (ad 25 0)), some (.int (nI w)), none, none, none] [] ad nw nt B1 L1 bc bs) : ∀ (n t M : Nat) (B1 : sB) (L1 : sL), t + n = nt → wrel L L1 → TO G B B1 L a K t M → Es (sCm yX6_tries cX6_tries 5 (some .boolean) 10 ad nw nt Q) 5 7 [some (.ref (ad 25 0)), some (.int (nI w)), some (.int (nI t)), none, none] [] ad nw nt B1 L1 bc bs := by
  have hC : ∀ Q, je_Ok (sCm yX6_tries cX6_tries 5 (some .boolean) 10 ad nw nt Q) RX6 cX6_tries 5 10 := fun _ => je_Cm_ok
  have hp7 := hX.1.1
  intro n
  induction n with
  | zero =>
    intro t M B1 L1 hn hw hO
    have htn : t = nt := by omega
    subst htn
    have g5 : B1 25 0 5 = nI t := by rw [hO.1.2 5 (by omega)]; exact hnt
    have hMK : M = K := Classical.byContradiction (fun z => by
      have h3 := hO.2.2.1
      have h6 := hO.2.2.2.2.2 M (Nat.le_refl _) (by omega)
      have := ((ham (a M)).mp ⟨M, by omega, rfl⟩).1
      omega)
    subst hMK
    refine Es_iload_n (hC _) dX6_tries_7 rfl ?_
    first | refine Es_aload_n (hC _) dX6_tries_8 rfl ?_ | refine Es_aload_nN (hC _) dX6_tries_8 rfl ?_
    refine Sg_X6_5 (hC _) fl_X6_107 dX6_tries_9 ?_
    rw [g5]
    refine Es_icmp_ge (hC _) 136 dX6_tries_12 (by decide) (fun hb12 => ?_) (fun hb12 => False.elim (hb12 (nI_le (Nat.le_refl _) (by omega))))
    refine Es.kill 2 (lv' := [_, _, _, _, _]) rfl ?_
    exact kk B1 L1 hw hO
  | succ n ih =>
    intro t M B1 L1 hn hw hO
    have ht : t < nt := by omega
    have g5 : B1 25 0 5 = nI nt := by rw [hO.1.2 5 (by omega)]; exact hnt
    have g38 : B1 38 0 w = nI p := by rw [hO.1.1 38 (by omega), hg 38 (by omega)]; exact hX.2.1
    have g40 : ∀ q, q < p → B1 40 0 (7 * w + q) = G 20 w q := fun q hq => by rw [hO.1.1 40 (by omega), hg 40 (by omega)]; exact (hX.2.2 q hq).2
    have hkk : ∀ s : Int32, ((s = 1 ∧ ∃ q, q < p ∧ B1 40 0 (7 * w + q) = nI t) ∨ (s = 0 ∧ ∀ q, q < p → ¬ B1 40 0 (7 * w + q) = nI t)) → Es (sCm yX6_tries cX6_tries 5 (some .boolean) 10 ad nw nt Q) 5 62 [some (.ref (ad 25 0)), some (.int (nI w)), some (.int (nI t)), some (.int s), none] [] ad nw nt B1 L1 bc bs := by
      intro s hs
      rcases hs with ⟨rfl, q, hq1, hq2⟩ | ⟨rfl, hq⟩
      · obtain ⟨j, hj1, hj2⟩ := (ham t).mpr ⟨ht, q, hq1, by rw [← g40 q hq1]; exact hq2⟩
        obtain ⟨hM1, hM2⟩ := TO_j hSM hO hj1 hj2
        have g31 := hO.2.1
        have hkk2 : ∀ B2 L2, wrel L L2 → TE G (uB B1 57 0 M (nI t)) B2 L t M 5 → Es (sCm yX6_tries cX6_tries 5 (some .boolean) 10 ad nw nt Q) 5 120 [some (.ref (ad 25 0)), some (.int (nI w)), some (.int (nI t)), some (.int 1), none] [] ad nw nt B2 L2 bc bs := by
          intro B2 L2 hw2 hE
          have f31 : B2 25 0 31 = nI M := by rw [hE.1 25 (by decide), uB_k (by decide)]; exact g31
          first | refine Es_aload_n (hC _) dX6_tries_120 rfl ?_ | refine Es_aload_nN (hC _) dX6_tries_120 rfl ?_
          refine Es_dup (hC _) dX6_tries_121 rfl ?_
          refine Sg_X6_31 (hC _) fl_X6_176 dX6_tries_122 ?_
          rw [f31]
          refine Es_iconst (v := 1) (hC _) dX6_tries_125 (by decide) ?_
          refine Es_iadd (hC _) dX6_tries_126 ?_
          rw [nI_1]
          refine Sp_X6_31 (hC _) fl_X6_176 dX6_tries_127 ?_
          refine Es_iinc (lv' := [_, _, _, _, _]) (hC _) dX6_tries_130 (by decide) rfl (show _ + Int32.ofInt (1) = _ + (1) from rfl) rfl rfl ?_
          refine Es_goto (hC _) 7 dX6_tries_133 (by decide) ?_
          refine Es.kill 3 (lv' := [_, _, _, _, _]) rfl ?_
          rw [nI_1]
          exact ih (t + 1) (M + 1) _ L2 (by omega) hw2 (TO_y hSM hO hM1 hM2 hE)
        refine Es_iload_n (hC _) dX6_tries_62 rfl ?_
        refine Es_if_ne (hC _) 69 dX6_tries_63 (by decide) (fun hb63 => ?_) (fun hb63 => False.elim (absurd hb63 (by decide)))
        first | refine Es_aload_n (hC _) dX6_tries_69 rfl ?_ | refine Es_aload_nN (hC _) dX6_tries_69 rfl ?_
        refine Sg_X6_27 (hC _) fl_X6_74 dX6_tries_70 ?_
        first | refine Es_aload_n (hC _) dX6_tries_73 rfl ?_ | refine Es_aload_nN (hC _) dX6_tries_73 rfl ?_
        refine Sg_X6_31 (hC _) fl_X6_176 dX6_tries_74 ?_
        rw [g31]
        refine Es_iload_n (hC _) dX6_tries_77 rfl ?_
        refine Es_iastN (hC _) dX6_tries_78 rfl (fun _ => rfl) rfl (by omega) (by decide) ?_
        refine Es_iconst (v := 0) (hC _) dX6_tries_79 (by decide) ?_
        refine Es_istore (lv' := [_, _, _, _, _]) (hC _) dX6_tries_80 (by decide) rfl rfl ?_
        refine l_ten (B0 := uB B1 57 0 M (nI t)) h40 ht (by omega) hg hL hF ⟨fun q hq => (by rw [uB_k (by omega)]; exact hO.1.1 q hq), fun i hi => (by rw [uB_k (by decide)]; exact hO.1.2 i hi)⟩ (by rw [uB_k (by decide)]; exact g31) hkk2 5 0 _ _ (by omega) hw ⟨fun _ _ => rfl, fun _ _ => rfl, fun k' hk' => (by omega)⟩
      · have hno : ∀ j, j < K → ¬ a j = t := fun j hj e => by
          obtain ⟨-, q, hq1, hq2⟩ := (ham t).mp ⟨j, hj, e⟩
          exact hq q hq1 (by rw [g40 q hq1]; exact hq2)
        refine Es_iload_n (hC _) dX6_tries_62 rfl ?_
        refine Es_if_ne (hC _) 69 dX6_tries_63 (by decide) (fun hb63 => False.elim (hb63 rfl)) (fun hb63 => ?_)
        refine Es_goto (hC _) 130 dX6_tries_66 (by decide) ?_
        refine Es_iinc (lv' := [_, _, _, _, _]) (hC _) dX6_tries_130 (by decide) rfl (show _ + Int32.ofInt (1) = _ + (1) from rfl) rfl rfl ?_
        refine Es_goto (hC _) 7 dX6_tries_133 (by decide) ?_
        refine Es.kill 3 (lv' := [_, _, _, _, _]) rfl ?_
        rw [nI_1]
        exact ih (t + 1) M B1 L1 (by omega) hw (TO_n hO hno)
    refine Es_iload_n (hC _) dX6_tries_7 rfl ?_
    first | refine Es_aload_n (hC _) dX6_tries_8 rfl ?_ | refine Es_aload_nN (hC _) dX6_tries_8 rfl ?_
    refine Sg_X6_5 (hC _) fl_X6_107 dX6_tries_9 ?_
    rw [g5]
    refine Es_icmp_ge (hC _) 136 dX6_tries_12 (by decide) (fun hb12 => False.elim (nI_ge (b := nt) (a := t) (by omega) (by omega) hb12)) (fun hb12 => ?_)
    refine Es_iconst (v := 0) (hC _) dX6_tries_15 (by decide) ?_
    refine Es_istore_n (lv' := [_, _, _, _, _]) (hC _) dX6_tries_16 (by decide) rfl rfl ?_
    refine Es_iconst (v := 0) (hC _) dX6_tries_17 (by decide) ?_
    refine Es_istore (lv' := [_, _, _, _, _]) (hC _) dX6_tries_18 (by decide) rfl rfl ?_
    exact l_tin hw5 hp7 g38 hkk p 0 0 (by omega) (Or.inr ⟨rfl, fun q hq => (by omega)⟩)
def RX (nw nt : Nat) (B : sB) (L : sL) (w p : Nat) : Prop := B 25 0 4 = nI nw ∧ nw ≤ 5 ∧ w < nw ∧ B 25 0 5 = nI nt ∧ nt ≤ 40 ∧ PX nt B w p ∧ PLX B ∧ TFa nt B L ∧ ∀ t, t < nt → B 44 0 t = B 21 t 7
theorem RX_of {nw nt : Nat} {B : sB} {L : sL} {w p : Nat} (hR : Rel nw nt B L) (hw : w < nw) (hX : PX nt B w p) : RX nw nt B L w p := ⟨hR.1.1, hR.1.2.2.1, hw, hR.1.2.2.2.1, hR.1.2.2.2.2.2.1, hX, plx_of hR, tfa_of hR, fun t ht => ((hR.2.2.2.1.1 t ht).2.2.2.2.1).symm⟩
theorem RX_5 {nw nt : Nat} {B : sB} {L : sL} {w p i : Nat} {x : Int32} (h : RX nw nt B L w p) : RX nw nt (uB B 5 0 i x) L w p := by
  unfold RX PX PW PLX PL TFa TF at h ⊢
  have e1 : ∀ t, rA (uB B 5 0 i x) t = rA B t := fun t => by
    funext i
    unfold rA
    rw [uB_k (by decide)]
  have e2 : ∀ t, rD (uB B 5 0 i x) t = rD B t := fun t => by
    funext i
    unfold rD
    rw [uB_k (by decide)]
  simp only [e1, e2, uB_k (B := B) (k := 5) (j := 0) (i := i) (x := x), ne_eq, Nat.reduceEqDiff, not_false_eq_true]
  exact h
theorem LT_of {nt : Nat} {G B B1 : sB} {L : sL} {a : Nat → Nat} {K w p : Nat} (hg : ∀ k, 25 ≤ k → B k = G k) (hR : ∀ t, t < nt → G 44 0 t = G 21 t 7) (h40 : nt ≤ 40) (hw5 : w < 5) (hK : K ≤ 7) (hX : PX nt G w p) (hL : PLX G) (ha : ∀ i, i < K → a i < nt) (hO : TO G B B1 L a K nt K) : LT B1 (tdo G L w a K) a w p := by
  obtain ⟨h1, h2, h3, h4, h5, h6⟩ := hO
  obtain ⟨⟨hp7, -, hq⟩, x38, xq⟩ := hX
  refine ⟨hK, hp7, hw5, h2, by rw [h1.1 38 (by omega), hg 38 (by omega)]; exact x38, fun k hk => ⟨(h4 k hk).1, by have := ha k hk; omega⟩, fun q hqp => ?_⟩
  obtain ⟨⟨kd, hk5, hkd⟩, -⟩ := hq q hqp
  obtain ⟨x39, x40⟩ := xq q hqp
  obtain ⟨l, hl1, hl⟩ := hL.1 kd hk5
  have h4' : (G 19 w q = 4) ↔ kd = 4 := by
    rw [hkd]
    exact nI_eq (b := 4) (by omega) (by decide)
  have h0' : (G 19 w q = 0) ↔ kd = 0 := by
    rw [hkd]
    exact nI_eq (b := 0) (by omega) (by decide)
  rw [h1.1 39 (by omega), h1.1 40 (by omega), h1.1 44 (by omega), hg 39 (by omega), hg 40 (by omega), hg 44 (by omega), x39, x40]
  refine ⟨kd, hk5, hkd, ?_, fun k hk => ?_⟩
  · show tdM G w q = true ↔ _
    unfold tdM
    rw [← h4']
    exact decide_eq_true_iff
  · have hk : k < K := hk
    have h44 : G 44 0 (a k) = G 21 (a k) 7 := hR (a k) (ha k hk)
    have hE : (tdo G L w a K).E q k = tdE G L w a q k := rfl
    rw [hE, h44]
    refine ⟨rfl, fun z => ?_, fun z1 z2 => ?_, fun z1 z2 => ⟨tEn G L (a k) (G 3 0 kd).toNatClampNeg, tEn_le _ _ _ _, (h4 k hk).2 kd hk5, ?_⟩⟩
    · unfold tdE
      rw [if_pos (h4'.mpr z)]
    · unfold tdE
      rw [if_neg (fun z => (by have := h4'.mp z; omega)), if_pos ⟨h0'.mpr z1, z2⟩]
    · unfold tdE
      rw [if_neg (fun z => z1 (h4'.mp z)), if_neg (fun z => z2 ⟨h0'.mp z.1, z.2⟩), hkd, nI_clamp (by omega)]
theorem fW_all {D : TD} (hD : D.ok) (n p u : Nat) : fW (wys D n p u) 1000001 0 [] none = (wys D n p u).foldl upW none := by
  unfold fW
  have e : (wys D n p u).map (exP 1000001 0 []) = wys D n p u := by
    conv => rhs; rw [← List.map_id (wys D n p u)]
    refine List.map_congr_left (fun x hx => ?_)
    have h := wys_ok hD n p u x hx
    show (min 1000001 x.1, 0 + x.2.1, [] ++ x.2.2) = x
    rw [Nat.min_eq_right (by omega), Nat.zero_add]
    rfl
  rw [e]
/-- what lay leaves -/
def TZ (B1 : sB) (D : TD) (a : Nat → Nat) (p : Nat) : Prop := (rch D p 0 0 = 0 → B1 25 0 32 = -1) ∧ (¬ rch D p 0 0 = 0 → B1 25 0 32 = iE (rch D p 0 0) ∧ B1 25 0 33 = nI (fwN D (rch D p 0 0) p 0 0) ∧ ∀ q, q < p → B1 59 0 q = oJ a ((chs D (rch D p 0 0) p 0 0).getD q none))
theorem TZ_of {B1 : sB} {D : TD} {a : Nat → Nat} {p : Nat} (hD : D.ok) (hp : p ≤ 7) (h : BS B1 p a (fW (wys D p 0 0) 1000001 0 [] none)) : TZ B1 D a p := by
  rw [fW_all hD] at h
  refine ⟨fun z => ?_, fun z => ?_⟩
  · rw [ways_none hD z] at h
    exact h
  · rw [(ways_best hD hp z).1] at h
    exact ⟨h.1, h.2.2.2.1, h.2.2.2.2.2⟩
set_option maxRecDepth 100000 in
set_option maxHeartbeats 4000000 in
theorem r_tries {ad : sA} {nw nt : Nat} {B : sB} {L : sL} {w p K : Nat} {a : Nat → Nat} {G : sB} (hg : ∀ k, 25 ≤ k → B k = G k) (hRX : RX nw nt G L w p) (hSM : SM a K) (hK : K ≤ 7) (ham : ∀ x, (∃ j, j < K ∧ a j = x) ↔ onS nt G w p x) : Cs yX6_tries cX6_tries 5 (some .boolean) 10 [.ref (ad 25 0), .int (nI w)] ad nw nt B L (fun v B1 L1 => wrel L L1 ∧ fR B B1 ∧ ((K = 0 ∧ v = some (.int 0)) ∨ (0 < K ∧ v = some (.int (if rch (tdo G L w a K) p 0 0 = 0 then 0 else 1)) ∧ TZ B1 (tdo G L w a K) a p))) := by
  have hC : ∀ Q, je_Ok (sCm yX6_tries cX6_tries 5 (some .boolean) 10 ad nw nt Q) RX6 cX6_tries 5 10 := fun _ => je_Cm_ok
  obtain ⟨s1, s3, hw, s4, s6, hX, hL, hF, h44⟩ := hRX
  have hp7 := hX.1.1
  have hw5 : w < 5 := by omega
  have ha : ∀ i, i < K → a i < nt := fun i hi => ((ham (a i)).mp ⟨i, hi, rfl⟩).1
  refine Cs_of [some (.ref (ad 25 0)), some (.int (nI w)), none, none, none] (by decide) rfl (Nat.le_of_ble_eq_true rfl) ?_
  have hkk : ∀ B1 L1, wrel L L1 → TO G B B1 L a K nt K → Es (sCm yX6_tries cX6_tries 5 (some .boolean) 10 ad nw nt (fun v B1 L1 => wrel L L1 ∧ fR B B1 ∧ ((K = 0 ∧ v = some (.int 0)) ∨ (0 < K ∧ v = some (.int (if rch (tdo G L w a K) p 0 0 = 0 then 0 else 1)) ∧ TZ B1 (tdo G L w a K) a p)))) 5 136 [some (.ref (ad 25 0)), some (.int (nI w)), none, none, none] [] ad nw nt B1 L1 0 0 := by
    intro B1 L1 hwr hO
    have hLT := LT_of hg h44 s6 hw5 hK hX hL ha hO
    have g31 : uB B1 25 0 32 (-1) 25 0 31 = nI K := by rw [uB_n (by decide)]; exact hO.2.1
    have hfR2 : fR B (uB B1 25 0 32 (-1)) := ⟨fun q hq => (by rw [uB_k (by omega)]; exact hO.1.1 q hq), fun i hi => (by rw [uB_n (by omega)]; exact hO.1.2 i hi)⟩
    have hz : uB B1 25 0 32 (-1) 25 0 32 = -1 := uB_s _ _ _ _ _
    have hLT2 : LT (uB B1 25 0 32 (-1)) (tdo G L w a K) a w p := LT.f (p := 0) ⟨fun q h1 h2 h3 => uB_k h1, fun i h1 h2 => uB_n (by omega), fun q hq => (by omega)⟩ hLT
    by_cases hK0 : K = 0
    · skip
      first | refine Es_aload_n (hC _) dX6_tries_136 rfl ?_ | refine Es_aload_nN (hC _) dX6_tries_136 rfl ?_
      refine Es_iconst (v := -1) (hC _) dX6_tries_137 (by decide) ?_
      refine Sp_X6_32 (hC _) fl_X6_179 dX6_tries_138 ?_
      first | refine Es_aload_n (hC _) dX6_tries_141 rfl ?_ | refine Es_aload_nN (hC _) dX6_tries_141 rfl ?_
      refine Sg_X6_31 (hC _) fl_X6_176 dX6_tries_142 ?_
      rw [g31]
      refine Es_if_le (hC _) 158 dX6_tries_145 (by decide) (fun hb145 => ?_) (fun hb145 => False.elim (hb145 (by rw [hK0]; decide)))
      first | refine Es_aload_n (hC _) dX6_tries_158 rfl ?_ | refine Es_aload_nN (hC _) dX6_tries_158 rfl ?_
      refine Sg_X6_32 (hC _) fl_X6_179 dX6_tries_159 ?_
      rw [hz]
      refine Es_if_lt (hC _) 169 dX6_tries_162 (by decide) (fun hb162 => ?_) (fun hb162 => False.elim (hb162 (by decide)))
      refine Es_iconst (v := 0) (hC _) dX6_tries_169 (by decide) ?_
      exact Es_iret dX6_tries_170 rfl ⟨hwr, hfR2, Or.inl ⟨hK0, rfl⟩⟩
    · have hLI : LI (uB B1 25 0 32 (-1)) (tdo G L w a K) a w p 0 0 1000001 0 [] none := ⟨hLT2, by omega, by have := (p2_b hLT2.1).1; omega, by decide, by decide, by omega, rfl, fun q hq => (by omega), hz⟩
      have hct := r_lay (ad := ad) (nw := nw) (nt := nt) p 0 (by omega) (uB B1 25 0 32 (-1)) L1 0 1000001 0 [] none hLI
      have hrb : rch (tdo G L w a K) p 0 0 ≤ 1000001 := rch_b (D := tdo G L w a K) (P := p) (fun q k _ _ => tdE_b G L w a q k) _ _ _ (by omega)
      first | refine Es_aload_n (hC _) dX6_tries_136 rfl ?_ | refine Es_aload_nN (hC _) dX6_tries_136 rfl ?_
      refine Es_iconst (v := -1) (hC _) dX6_tries_137 (by decide) ?_
      refine Sp_X6_32 (hC _) fl_X6_179 dX6_tries_138 ?_
      generalize uB B1 25 0 32 (-1) = B2 at g31 hfR2 hz hLT2 hLI hct ⊢
      first | refine Es_aload_n (hC _) dX6_tries_141 rfl ?_ | refine Es_aload_nN (hC _) dX6_tries_141 rfl ?_
      refine Sg_X6_31 (hC _) fl_X6_176 dX6_tries_142 ?_
      rw [g31]
      refine Es_if_le (hC _) 158 dX6_tries_145 (by decide) (fun hb145 => False.elim (nI_ge (b := K) (a := 0) (by omega) (by omega) hb145)) (fun hb145 => ?_)
      first | refine Es_aload_n (hC _) dX6_tries_148 rfl ?_ | refine Es_aload_nN (hC _) dX6_tries_148 rfl ?_
      refine Es_iload_n (hC _) dX6_tries_149 rfl ?_
      refine Es_iconst (v := 0) (hC _) dX6_tries_150 (by decide) ?_
      refine Es_iconst (v := 0) (hC _) dX6_tries_151 (by decide) ?_
      refine Es_ldc (hC _) ct_X6_152 dX6_tries_152 ?_
      refine Es_iconst (v := 0) (hC _) dX6_tries_154 (by decide) ?_
      refine Es_callV (hC _) mv_X6_182 dX6_tries_155 hct rfl rfl ⟨_, rfl, rfl⟩ rfl rfl (by omega) (Nat.le_of_ble_eq_true rfl) (fun v' B3 L3 q => ?_)
      obtain ⟨rfl, rfl, q1, q2⟩ := q
      have hZ := TZ_of (tdo_ok G L w a K) hp7 q2
      have hfR3 : fR B B3 := ⟨fun q hq => (by rw [q1.1 q (by omega) (by omega) (by omega)]; exact hfR2.1 q hq), fun i hi => (by rw [q1.2.1 i (by omega) (by omega)]; exact hfR2.2 i hi)⟩
      first | refine Es_aload_n (hC _) dX6_tries_158 rfl ?_ | refine Es_aload_nN (hC _) dX6_tries_158 rfl ?_
      refine Sg_X6_32 (hC _) fl_X6_179 dX6_tries_159 ?_
      by_cases hr0 : rch (tdo G L w a K) p 0 0 = 0
      · rw [hZ.1 hr0]
        refine Es_if_lt (hC _) 169 dX6_tries_162 (by decide) (fun hb162 => ?_) (fun hb162 => False.elim (hb162 (by decide)))
        refine Es_iconst (v := 0) (hC _) dX6_tries_169 (by decide) ?_
        exact Es_iret dX6_tries_170 rfl ⟨hwr, hfR3, Or.inr ⟨by omega, by rw [if_pos hr0], hZ⟩⟩
      · rw [(hZ.2 hr0).1]
        refine Es_if_lt (hC _) 169 dX6_tries_162 (by decide) (fun hb162 => False.elim (nI_pos (n := rch (tdo G L w a K) p 0 0 - 1) (by omega) (by rw [← iE_s, Nat.sub_add_cancel (by omega)]; exact hb162))) (fun hb162 => ?_)
        refine Es_iconst (v := 1) (hC _) dX6_tries_165 (by decide) ?_
        refine Es_goto (hC _) 170 dX6_tries_166 (by decide) ?_
        exact Es_iret dX6_tries_170 rfl ⟨hwr, hfR3, Or.inr ⟨by omega, by rw [if_neg hr0], hZ⟩⟩
  first | refine Es_aload_n (hC _) dX6_tries_0 rfl ?_ | refine Es_aload_nN (hC _) dX6_tries_0 rfl ?_
  refine Es_iconst (v := 0) (hC _) dX6_tries_1 (by decide) ?_
  refine Sp_X6_31 (hC _) fl_X6_176 dX6_tries_2 ?_
  refine Es_iconst (v := 0) (hC _) dX6_tries_5 (by decide) ?_
  refine Es_istore_n (lv' := [_, _, _, _, _]) (hC _) dX6_tries_6 (by decide) rfl rfl ?_
  exact l_tout s6 hw5 hg (by rw [hg 25 (Nat.le_refl _)]; exact s4) hX hL hF hSM hK ham hkk nt 0 0 _ L (by omega) wrel.rf ⟨⟨fun q hq => uB_k (by omega), fun i hi => uB_n (by omega)⟩, uB_s _ _ _ _ _, by omega, fun i hi => (by omega), fun i hi => (by omega), fun i _ _ => (by omega)⟩
