/-! ===== TURNING ABOUT: the reference's lay ===== -/
def oJ (a : Nat → Nat) : Option Nat → Int32
  | none => -1
  | some k => nI (a k)
def exP (F c : Nat) (pre : List (Option Nat)) (x : Wy) : Wy := (min F x.1, c + x.2.1, pre ++ x.2.2)
/-- the best way up to now, as the reference keeps it -/
def BS (B : sB) (P : Nat) (a : Nat → Nat) : Option Wy → Prop
  | none => B 25 0 32 = -1
  | some x => B 25 0 32 = iE x.1 ∧ 1 ≤ x.1 ∧ x.1 ≤ 1000001 ∧ B 25 0 33 = nI x.2.1 ∧ x.2.1 ≤ 7 ∧ ∀ q, q < P → B 59 0 q = oJ a (x.2.2.getD q none)
def fW (l : List Wy) (F c : Nat) (pre : List (Option Nat)) (s : Option Wy) : Option Wy := (l.map (exP F c pre)).foldl upW s
theorem fW_nil (F c : Nat) (pre : List (Option Nat)) (s : Option Wy) : fW [] F c pre s = s := rfl
theorem fW_app (l1 l2 : List Wy) (F c : Nat) (pre : List (Option Nat)) (s : Option Wy) : fW (l1 ++ l2) F c pre s = fW l2 F c pre (fW l1 F c pre s) := by
  unfold fW
  rw [List.map_append, List.foldl_append]
theorem fW_exK (D : TD) (p k : Nat) (l : List Wy) (F c : Nat) (pre : List (Option Nat)) (s : Option Wy) : fW (l.map (exK D p k)) F c pre s = fW l (min F (D.E p k)) (c + D.cg p k) (pre ++ [some k]) s := by
  unfold fW
  rw [List.map_map]
  have e : exP F c pre ∘ exK D p k = exP (min F (D.E p k)) (c + D.cg p k) (pre ++ [some k]) := by
    funext x
    show (min F (min x.1 (D.E p k)), c + (D.cg p k + x.2.1), pre ++ some k :: x.2.2) = (min (min F (D.E p k)) x.1, c + D.cg p k + x.2.1, pre ++ [some k] ++ x.2.2)
    rw [List.append_assoc, show min F (min x.1 (D.E p k)) = min (min F (D.E p k)) x.1 by omega, Nat.add_assoc]
    rfl
  rw [e]
theorem fW_ex0 (l : List Wy) (F c : Nat) (pre : List (Option Nat)) (s : Option Wy) : fW (l.map ex0) F c pre s = fW l F c (pre ++ [none]) s := by
  unfold fW
  rw [List.map_map]
  have e : exP F c pre ∘ ex0 = exP F c (pre ++ [none]) := by
    funext x
    show (min F x.1, c + x.2.1, pre ++ none :: x.2.2) = (min F x.1, c + x.2.1, pre ++ [none] ++ x.2.2)
    rw [List.append_assoc]
    rfl
  rw [e]
/-- what lay may change -/
def LF (B B1 : sB) (p : Nat) : Prop := (∀ q, q ≠ 25 → q ≠ 58 → q ≠ 59 → B1 q = B q) ∧ (∀ i, i ≠ 32 → i ≠ 33 → B1 25 0 i = B 25 0 i) ∧ ∀ q, q < p → B1 58 0 q = B 58 0 q
theorem LF.rf (B : sB) (p : Nat) : LF B B p := ⟨fun _ _ _ _ => rfl, fun _ _ _ => rfl, fun _ _ => rfl⟩
theorem LF.st {B B1 B3 : sB} {p : Nat} {x : Int32} (h1 : LF B B1 p) (h2 : LF (uB B1 58 0 p x) B3 (p + 1)) : LF B B3 p := by
  obtain ⟨a1, a2, a3⟩ := h1
  obtain ⟨b1, b2, b3⟩ := h2
  refine ⟨fun q c1 c2 c3 => ?_, fun i c1 c2 => ?_, fun q hq => ?_⟩
  · rw [b1 q c1 c2 c3, uB_k c2]
    exact a1 q c1 c2 c3
  · rw [b2 i c1 c2, uB_k (by decide)]
    exact a2 i c1 c2
  · rw [b3 q (by omega), uB_n (by omega)]
    exact a3 q hq
/-- what the reference has gathered and weighed -/
def LT (B : sB) (D : TD) (a : Nat → Nat) (w P : Nat) : Prop := D.K ≤ 7 ∧ P ≤ 7 ∧ w < 5 ∧ B 25 0 31 = nI D.K ∧ B 38 0 w = nI P ∧ (∀ k, k < D.K → B 57 0 k = nI (a k) ∧ a k < 40) ∧ ∀ p, p < P → ∃ kd, kd < 5 ∧ B 39 0 (7 * w + p) = nI kd ∧ (D.mu p = true ↔ ¬ B 40 0 (7 * w + p) < 0 ∧ ¬ kd = 4) ∧ ∀ k, k < D.K → D.cg p k = (if B 40 0 (7 * w + p) = nI (a k) then 0 else 1) ∧ (kd = 4 → D.E p k = 1000001) ∧ (kd = 0 → 0 < B 44 0 (a k) → D.E p k = 0) ∧ (¬ kd = 4 → ¬ (kd = 0 ∧ 0 < B 44 0 (a k)) → ∃ e, e ≤ 1000000 ∧ B 60 0 (5 * k + kd) = nI e ∧ D.E p k = e + 1)
theorem LT.f {B B1 : sB} {D : TD} {a : Nat → Nat} {w P p : Nat} (hf : LF B B1 p) (h : LT B D a w P) : LT B1 D a w P := by
  obtain ⟨f1, f2, f3⟩ := hf
  unfold LT
  rw [f2 31 (by decide) (by decide), f1 38 (by decide) (by decide) (by decide), f1 39 (by decide) (by decide) (by decide), f1 40 (by decide) (by decide) (by decide), f1 44 (by decide) (by decide) (by decide), f1 57 (by decide) (by decide) (by decide), f1 60 (by decide) (by decide) (by decide)]
  exact h
def LI (B : sB) (D : TD) (a : Nat → Nat) (w P p u F c : Nat) (pre : List (Option Nat)) (s : Option Wy) : Prop := LT B D a w P ∧ p ≤ P ∧ u < 2 ^ D.K ∧ 1 ≤ F ∧ F ≤ 1000001 ∧ c ≤ p ∧ pre.length = p ∧ (∀ q, q < p → B 58 0 q = oJ a (pre.getD q none)) ∧ BS B P a s
theorem BS.f {B B1 : sB} {P : Nat} {a : Nat → Nat} {s : Option Wy} (h1 : B1 25 = B 25) (h2 : B1 59 = B 59) (h : BS B P a s) : BS B1 P a s := by
  cases s with
  | none =>
    unfold BS at h ⊢
    rw [h1]
    exact h
  | some x =>
    unfold BS at h ⊢
    rw [h1, h2]
    exact h
theorem gD_l {l : List (Option Nat)} {x : Option Nat} {q : Nat} (h : q < l.length) : (l ++ [x]).getD q none = l.getD q none := by
  rw [List.getD_eq_getElem?_getD, List.getD_eq_getElem?_getD, List.getElem?_append_left h]
theorem gD_e {l : List (Option Nat)} {x : Option Nat} {q : Nat} (h : l.length = q) : (l ++ [x]).getD q none = x := by
  subst h
  rw [List.getD_eq_getElem?_getD, List.getElem?_append_right (Nat.le_refl _), Nat.sub_self]
  rfl
theorem LI.tr {B B1 : sB} {D : TD} {a : Nat → Nat} {w P p u F c : Nat} {pre : List (Option Nat)} {s s' : Option Wy} (h : LI B D a w P p u F c pre s) (hf : LF B B1 p) (hp : p < P) (hS : BS B1 P a s') {u' F' c' : Nat} {x : Option Nat} (hu : u' < 2 ^ D.K) (hF1 : 1 ≤ F') (hF2 : F' ≤ 1000001) (hc : c' ≤ c + 1) : LI (uB B1 58 0 p (oJ a x)) D a w P (p + 1) u' F' c' (pre ++ [x]) s' := by
  obtain ⟨h1, h2, h3, h4, h5, h6, h7, h8, h9⟩ := h
  have hf2 : LF B (uB B1 58 0 p (oJ a x)) p := ⟨fun q c1 c2 c3 => (uB_k c2).trans (hf.1 q c1 c2 c3), fun i c1 c2 => by rw [uB_k (by decide)]; exact hf.2.1 i c1 c2, fun q hq => by rw [uB_n (by omega)]; exact hf.2.2 q hq⟩
  refine ⟨LT.f hf2 h1, by omega, hu, hF1, hF2, by omega, by rw [List.length_append, h7]; rfl, fun q hq => ?_, BS.f (uB_k (by decide)) (uB_k (by decide)) hS⟩
  by_cases he : q = p
  · subst he
    rw [uB_s, gD_e h7]
  · rw [uB_n (by omega), hf.2.2 q (by omega), gD_l (by omega)]
    exact h8 q (by omega)
set_option maxRecDepth 100000 in
set_option maxHeartbeats 4000000 in
theorem l_cp {ad : sA} {nw nt : Nat} {B : sB} {L : sL} {bc bs : Nat} {Q : Option Value → sB → sL → Prop} {a : Nat → Nat} {w P u F c : Nat} {pre : List (Option Nat)} (hP : P ≤ 7) (hF1 : 1 ≤ F) (hF2 : F ≤ 1000001) (hc : c ≤ P) (htr : ∀ q, q < P → B 58 0 q = oJ a (pre.getD q none)) (hQ : ∀ B1, LF B B1 P → BS B1 P a (some (F, c, pre)) → Q none B1 L) : ∀ (n i : Nat) (B1 : sB), i + n = P → (∀ q, q ≠ 59 → B1 q = uB (uB B 25 0 32 (iE F)) 25 0 33 (nI c) q) → (∀ q, q < i → B1 59 0 q = B 58 0 q) → Es (sCm yX6_lay cX6_lay 8 none 2 ad nw nt Q) 8 65 [some (.ref (ad 25 0)), some (.int (nI w)), some (.int (nI P)), some (.int (nI u)), some (.int (iE F)), some (.int (nI c)), some (.int (nI i)), none] [] ad nw nt B1 L bc bs := by
  have hC : ∀ Q, je_Ok (sCm yX6_lay cX6_lay 8 none (2) ad nw nt Q) RX6 cX6_lay 8 (2) := fun _ => je_Cm_ok
  intro n
  induction n with
  | zero =>
    intro i B1 hn h1 h2
    have hiP : i = P := by omega
    subst hiP
    refine Es_iload (hC _) dX6_lay_65 rfl ?_
    refine Es_iload_n (hC _) dX6_lay_67 rfl ?_
    refine Es_icmp_ge (hC _) 91 dX6_lay_68 (by decide) (fun hb68 => ?_) (fun hb68 => False.elim (hb68 (nI_le (Nat.le_refl _) (by omega))))
    refine Es_vret dX6_lay_91 (hQ B1 ?_ ?_)
    · refine ⟨fun q c1 c2 c3 => ?_, fun k c1 c2 => ?_, fun q hq => ?_⟩
      · rw [h1 q c3, uB_k c1, uB_k c1]
      · rw [h1 25 (by decide), uB_n (by omega), uB_n (by omega)]
      · rw [h1 58 (by decide), uB_k (by decide), uB_k (by decide)]
    · refine ⟨?_, hF1, hF2, ?_, by show c ≤ 7; omega, fun q hq => ?_⟩
      · rw [h1 25 (by decide), uB_n (by decide), uB_s]
      · rw [h1 25 (by decide), uB_s]
      · rw [h2 q hq]
        exact htr q hq
  | succ n ih =>
    intro i B1 hn h1 h2
    refine Es_iload (hC _) dX6_lay_65 rfl ?_
    refine Es_iload_n (hC _) dX6_lay_67 rfl ?_
    refine Es_icmp_ge (hC _) 91 dX6_lay_68 (by decide) (fun hb68 => False.elim (nI_ge (b := P) (a := i) (by omega) (by omega) hb68)) (fun hb68 => ?_)
    first | refine Es_aload_n (hC _) dX6_lay_71 rfl ?_ | refine Es_aload_nN (hC _) dX6_lay_71 rfl ?_
    refine Sg_X6_29 (hC _) fl_X6_80 dX6_lay_72 ?_
    refine Es_iload (hC _) dX6_lay_75 rfl ?_
    first | refine Es_aload_n (hC _) dX6_lay_77 rfl ?_ | refine Es_aload_nN (hC _) dX6_lay_77 rfl ?_
    refine Sg_X6_28 (hC _) fl_X6_77 dX6_lay_78 ?_
    refine Es_iload (hC _) dX6_lay_81 rfl ?_
    refine Es_ialdN (hC _) dX6_lay_83 rfl rfl rfl (by omega) (by decide) ?_
    refine Es_iastN (hC _) dX6_lay_84 rfl (fun _ => rfl) rfl (by omega) (by decide) ?_
    refine Es_iinc (lv' := [_, _, _, _, _, _, _, _]) (hC _) dX6_lay_85 (by decide) rfl (show _ + Int32.ofInt (1) = _ + (1) from rfl) rfl rfl ?_
    refine Es_goto (hC _) 65 dX6_lay_88 (by decide) ?_
    rw [nI_1]
    refine ih (i + 1) _ (by omega) (fun q hq => (uB_k hq).trans (h1 q hq)) (fun q hq => ?_)
    by_cases he : q = i
    · subst he
      rw [uB_s, h1 58 (by decide), uB_k (by decide), uB_k (by decide)]
    · rw [uB_n (by omega)]
      exact h2 q (by omega)
set_option maxRecDepth 100000 in
set_option maxHeartbeats 4000000 in
theorem r_lay_0 {ad : sA} {nw nt : Nat} {B : sB} {L : sL} {D : TD} {a : Nat → Nat} {w P u F c : Nat} {pre : List (Option Nat)} {s : Option Wy} (h : LI B D a w P P u F c pre s) : Cs yX6_lay cX6_lay 8 none 2 [.ref (ad 25 0), .int (nI w), .int (nI P), .int (nI u), .int (iE F), .int (nI c)] ad nw nt B L (fun v B1 L1 => v = none ∧ L1 = L ∧ LF B B1 P ∧ BS B1 P a (fW (wys D 0 P u) F c pre s)) := by
  have hC : ∀ Q, je_Ok (sCm yX6_lay cX6_lay 8 none (2) ad nw nt Q) RX6 cX6_lay 8 (2) := fun _ => je_Cm_ok
  refine Cs_of [some (.ref (ad 25 0)), some (.int (nI w)), some (.int (nI P)), some (.int (nI u)), some (.int (iE F)), some (.int (nI c)), none, none] (by decide) rfl (Nat.le_of_ble_eq_true rfl) ?_
  obtain ⟨hT, hpP, hu, hF1, hF2, hc, hpl, htr, hS⟩ := h
  obtain ⟨hK, hP, hw5, t31, t38, t57, tp⟩ := hT
  have h2 := p2_b hK
  by_cases hall : u = 2 ^ D.K - 1
  · have hw0 : wys D 0 P u = [(1000001, 0, [])] := by
      simp only [wys]
      rw [if_pos hall]
    have hf0 : fW (wys D 0 P u) F c pre s = upW s (F, c, pre) := by
      rw [hw0]
      show upW s (min F 1000001, c + 0, pre ++ []) = _
      rw [Nat.min_eq_left hF2, List.append_nil]
      rfl
    cases s with
    | none =>
      have hf : fW (wys D 0 P u) F c pre none = some (F, c, pre) := hf0
      have hS' : B 25 0 32 = -1 := hS
      refine Es_iload_n (hC _) dX6_lay_0 rfl ?_
      first | refine Es_aload_n (hC _) dX6_lay_1 rfl ?_ | refine Es_aload_nN (hC _) dX6_lay_1 rfl ?_
      refine Sg_X6_8 (hC _) fl_X6_23 dX6_lay_2 ?_
      refine Es_iload_n (hC _) dX6_lay_5 rfl ?_
      refine Es_ialdN (hC _) dX6_lay_6 rfl rfl rfl (by omega) (by decide) ?_
      rw [t38]
      refine Es_icmp_ne (hC _) 92 dX6_lay_7 (by decide) (fun hb7 => False.elim (hb7 rfl)) (fun hb7 => ?_)
      refine Es_iload_n (hC _) dX6_lay_10 rfl ?_
      refine Es_iconst (v := 1) (hC _) dX6_lay_11 (by decide) ?_
      first | refine Es_aload_n (hC _) dX6_lay_12 rfl ?_ | refine Es_aload_nN (hC _) dX6_lay_12 rfl ?_
      refine Sg_X6_31 (hC _) fl_X6_176 dX6_lay_13 ?_
      rw [t31]
      refine Es_ishl (hC _) dX6_lay_16 ?_
      refine Es_iconst (v := 1) (hC _) dX6_lay_17 (by decide) ?_
      refine Es_isub (hC _) dX6_lay_18 ?_
      rw [al_N hK]
      refine Es_icmp_ne (hC _) 49 dX6_lay_19 (by decide) (fun hb19 => False.elim (hb19 (by rw [hall]))) (fun hb19 => ?_)
      refine Es_iload (hC _) dX6_lay_22 rfl ?_
      first | refine Es_aload_n (hC _) dX6_lay_24 rfl ?_ | refine Es_aload_nN (hC _) dX6_lay_24 rfl ?_
      refine Sg_X6_32 (hC _) fl_X6_179 dX6_lay_25 ?_
      rw [hS', ← iE_0]
      refine Es_icmp_lt (hC _) 49 dX6_lay_28 (by decide) (fun hb28 => False.elim (absurd ((iE_lt hF2 (by decide)).mp hb28) (Nat.not_lt_zero _))) (fun hb28 => ?_)
      refine Es_iload (hC _) dX6_lay_31 rfl ?_
      first | refine Es_aload_n (hC _) dX6_lay_33 rfl ?_ | refine Es_aload_nN (hC _) dX6_lay_33 rfl ?_
      refine Sg_X6_32 (hC _) fl_X6_179 dX6_lay_34 ?_
      rw [hS', ← iE_0]
      refine Es_icmp_ne (hC _) 50 dX6_lay_37 (by decide) (fun hb37 => ?_) (fun hb37 => False.elim (absurd ((iE_eq hF2 (by decide)).mp hb37) (by omega)))
      first | refine Es_aload_n (hC _) dX6_lay_50 rfl ?_ | refine Es_aload_nN (hC _) dX6_lay_50 rfl ?_
      refine Es_iload (hC _) dX6_lay_51 rfl ?_
      refine Sp_X6_32 (hC _) fl_X6_179 dX6_lay_53 ?_
      first | refine Es_aload_n (hC _) dX6_lay_56 rfl ?_ | refine Es_aload_nN (hC _) dX6_lay_56 rfl ?_
      refine Es_iload (hC _) dX6_lay_57 rfl ?_
      refine Sp_X6_33 (hC _) fl_X6_186 dX6_lay_59 ?_
      refine Es_iconst (v := 0) (hC _) dX6_lay_62 (by decide) ?_
      refine Es_istore (lv' := [_, _, _, _, _, _, _, _]) (hC _) dX6_lay_63 (by decide) rfl rfl ?_
      exact l_cp hP hF1 hF2 hc htr (fun B1 q1 q2 => ⟨rfl, rfl, q1, by rw [hf]; exact q2⟩) P 0 _ (by omega) (fun q _ => rfl) (fun q hq => (by omega))
    | some y =>
      obtain ⟨y1, y2, y3, y4, y5, y6⟩ := hS
      by_cases hlt : F < y.1
      · have hf : fW (wys D 0 P u) F c pre (some y) = some y := by
          rw [hf0]
          simp only [upW]
          rw [if_pos (Or.inl hlt)]
        refine Es_iload_n (hC _) dX6_lay_0 rfl ?_
        first | refine Es_aload_n (hC _) dX6_lay_1 rfl ?_ | refine Es_aload_nN (hC _) dX6_lay_1 rfl ?_
        refine Sg_X6_8 (hC _) fl_X6_23 dX6_lay_2 ?_
        refine Es_iload_n (hC _) dX6_lay_5 rfl ?_
        refine Es_ialdN (hC _) dX6_lay_6 rfl rfl rfl (by omega) (by decide) ?_
        rw [t38]
        refine Es_icmp_ne (hC _) 92 dX6_lay_7 (by decide) (fun hb7 => False.elim (hb7 rfl)) (fun hb7 => ?_)
        refine Es_iload_n (hC _) dX6_lay_10 rfl ?_
        refine Es_iconst (v := 1) (hC _) dX6_lay_11 (by decide) ?_
        first | refine Es_aload_n (hC _) dX6_lay_12 rfl ?_ | refine Es_aload_nN (hC _) dX6_lay_12 rfl ?_
        refine Sg_X6_31 (hC _) fl_X6_176 dX6_lay_13 ?_
        rw [t31]
        refine Es_ishl (hC _) dX6_lay_16 ?_
        refine Es_iconst (v := 1) (hC _) dX6_lay_17 (by decide) ?_
        refine Es_isub (hC _) dX6_lay_18 ?_
        rw [al_N hK]
        refine Es_icmp_ne (hC _) 49 dX6_lay_19 (by decide) (fun hb19 => False.elim (hb19 (by rw [hall]))) (fun hb19 => ?_)
        refine Es_iload (hC _) dX6_lay_22 rfl ?_
        first | refine Es_aload_n (hC _) dX6_lay_24 rfl ?_ | refine Es_aload_nN (hC _) dX6_lay_24 rfl ?_
        refine Sg_X6_32 (hC _) fl_X6_179 dX6_lay_25 ?_
        rw [y1]
        refine Es_icmp_lt (hC _) 49 dX6_lay_28 (by decide) (fun hb28 => ?_) (fun hb28 => False.elim (hb28 ((iE_lt hF2 y3).mpr hlt)))
        exact Es_vret dX6_lay_49 ⟨rfl, rfl, LF.rf _ _, by rw [hf]; exact ⟨y1, y2, y3, y4, y5, y6⟩⟩
      · by_cases heq : F = y.1
        · by_cases hcl : c < y.2.1
          · have hf : fW (wys D 0 P u) F c pre (some y) = some (F, c, pre) := by
              rw [hf0]
              simp only [upW]
              rw [if_neg (by omega)]
            refine Es_iload_n (hC _) dX6_lay_0 rfl ?_
            first | refine Es_aload_n (hC _) dX6_lay_1 rfl ?_ | refine Es_aload_nN (hC _) dX6_lay_1 rfl ?_
            refine Sg_X6_8 (hC _) fl_X6_23 dX6_lay_2 ?_
            refine Es_iload_n (hC _) dX6_lay_5 rfl ?_
            refine Es_ialdN (hC _) dX6_lay_6 rfl rfl rfl (by omega) (by decide) ?_
            rw [t38]
            refine Es_icmp_ne (hC _) 92 dX6_lay_7 (by decide) (fun hb7 => False.elim (hb7 rfl)) (fun hb7 => ?_)
            refine Es_iload_n (hC _) dX6_lay_10 rfl ?_
            refine Es_iconst (v := 1) (hC _) dX6_lay_11 (by decide) ?_
            first | refine Es_aload_n (hC _) dX6_lay_12 rfl ?_ | refine Es_aload_nN (hC _) dX6_lay_12 rfl ?_
            refine Sg_X6_31 (hC _) fl_X6_176 dX6_lay_13 ?_
            rw [t31]
            refine Es_ishl (hC _) dX6_lay_16 ?_
            refine Es_iconst (v := 1) (hC _) dX6_lay_17 (by decide) ?_
            refine Es_isub (hC _) dX6_lay_18 ?_
            rw [al_N hK]
            refine Es_icmp_ne (hC _) 49 dX6_lay_19 (by decide) (fun hb19 => False.elim (hb19 (by rw [hall]))) (fun hb19 => ?_)
            refine Es_iload (hC _) dX6_lay_22 rfl ?_
            first | refine Es_aload_n (hC _) dX6_lay_24 rfl ?_ | refine Es_aload_nN (hC _) dX6_lay_24 rfl ?_
            refine Sg_X6_32 (hC _) fl_X6_179 dX6_lay_25 ?_
            rw [y1]
            refine Es_icmp_lt (hC _) 49 dX6_lay_28 (by decide) (fun hb28 => False.elim (hlt ((iE_lt hF2 y3).mp hb28))) (fun hb28 => ?_)
            refine Es_iload (hC _) dX6_lay_31 rfl ?_
            first | refine Es_aload_n (hC _) dX6_lay_33 rfl ?_ | refine Es_aload_nN (hC _) dX6_lay_33 rfl ?_
            refine Sg_X6_32 (hC _) fl_X6_179 dX6_lay_34 ?_
            rw [y1]
            refine Es_icmp_ne (hC _) 50 dX6_lay_37 (by decide) (fun hb37 => False.elim (hb37 (by rw [heq]))) (fun hb37 => ?_)
            refine Es_iload (hC _) dX6_lay_40 rfl ?_
            first | refine Es_aload_n (hC _) dX6_lay_42 rfl ?_ | refine Es_aload_nN (hC _) dX6_lay_42 rfl ?_
            refine Sg_X6_33 (hC _) fl_X6_186 dX6_lay_43 ?_
            rw [y4]
            refine Es_icmp_lt (hC _) 50 dX6_lay_46 (by decide) (fun hb46 => ?_) (fun hb46 => False.elim (hb46 (nI_lt hcl (by omega))))
            first | refine Es_aload_n (hC _) dX6_lay_50 rfl ?_ | refine Es_aload_nN (hC _) dX6_lay_50 rfl ?_
            refine Es_iload (hC _) dX6_lay_51 rfl ?_
            refine Sp_X6_32 (hC _) fl_X6_179 dX6_lay_53 ?_
            first | refine Es_aload_n (hC _) dX6_lay_56 rfl ?_ | refine Es_aload_nN (hC _) dX6_lay_56 rfl ?_
            refine Es_iload (hC _) dX6_lay_57 rfl ?_
            refine Sp_X6_33 (hC _) fl_X6_186 dX6_lay_59 ?_
            refine Es_iconst (v := 0) (hC _) dX6_lay_62 (by decide) ?_
            refine Es_istore (lv' := [_, _, _, _, _, _, _, _]) (hC _) dX6_lay_63 (by decide) rfl rfl ?_
            exact l_cp hP hF1 hF2 hc htr (fun B1 q1 q2 => ⟨rfl, rfl, q1, by rw [hf]; exact q2⟩) P 0 _ (by omega) (fun q _ => rfl) (fun q hq => (by omega))
          · have hf : fW (wys D 0 P u) F c pre (some y) = some y := by
              rw [hf0]
              simp only [upW]
              rw [if_pos (by omega)]
            refine Es_iload_n (hC _) dX6_lay_0 rfl ?_
            first | refine Es_aload_n (hC _) dX6_lay_1 rfl ?_ | refine Es_aload_nN (hC _) dX6_lay_1 rfl ?_
            refine Sg_X6_8 (hC _) fl_X6_23 dX6_lay_2 ?_
            refine Es_iload_n (hC _) dX6_lay_5 rfl ?_
            refine Es_ialdN (hC _) dX6_lay_6 rfl rfl rfl (by omega) (by decide) ?_
            rw [t38]
            refine Es_icmp_ne (hC _) 92 dX6_lay_7 (by decide) (fun hb7 => False.elim (hb7 rfl)) (fun hb7 => ?_)
            refine Es_iload_n (hC _) dX6_lay_10 rfl ?_
            refine Es_iconst (v := 1) (hC _) dX6_lay_11 (by decide) ?_
            first | refine Es_aload_n (hC _) dX6_lay_12 rfl ?_ | refine Es_aload_nN (hC _) dX6_lay_12 rfl ?_
            refine Sg_X6_31 (hC _) fl_X6_176 dX6_lay_13 ?_
            rw [t31]
            refine Es_ishl (hC _) dX6_lay_16 ?_
            refine Es_iconst (v := 1) (hC _) dX6_lay_17 (by decide) ?_
            refine Es_isub (hC _) dX6_lay_18 ?_
            rw [al_N hK]
            refine Es_icmp_ne (hC _) 49 dX6_lay_19 (by decide) (fun hb19 => False.elim (hb19 (by rw [hall]))) (fun hb19 => ?_)
            refine Es_iload (hC _) dX6_lay_22 rfl ?_
            first | refine Es_aload_n (hC _) dX6_lay_24 rfl ?_ | refine Es_aload_nN (hC _) dX6_lay_24 rfl ?_
            refine Sg_X6_32 (hC _) fl_X6_179 dX6_lay_25 ?_
            rw [y1]
            refine Es_icmp_lt (hC _) 49 dX6_lay_28 (by decide) (fun hb28 => False.elim (hlt ((iE_lt hF2 y3).mp hb28))) (fun hb28 => ?_)
            refine Es_iload (hC _) dX6_lay_31 rfl ?_
            first | refine Es_aload_n (hC _) dX6_lay_33 rfl ?_ | refine Es_aload_nN (hC _) dX6_lay_33 rfl ?_
            refine Sg_X6_32 (hC _) fl_X6_179 dX6_lay_34 ?_
            rw [y1]
            refine Es_icmp_ne (hC _) 50 dX6_lay_37 (by decide) (fun hb37 => False.elim (hb37 (by rw [heq]))) (fun hb37 => ?_)
            refine Es_iload (hC _) dX6_lay_40 rfl ?_
            first | refine Es_aload_n (hC _) dX6_lay_42 rfl ?_ | refine Es_aload_nN (hC _) dX6_lay_42 rfl ?_
            refine Sg_X6_33 (hC _) fl_X6_186 dX6_lay_43 ?_
            rw [y4]
            refine Es_icmp_lt (hC _) 50 dX6_lay_46 (by decide) (fun hb46 => False.elim (hcl ((nI_ltI (by omega) (by omega)).mp hb46))) (fun hb46 => ?_)
            exact Es_vret dX6_lay_49 ⟨rfl, rfl, LF.rf _ _, by rw [hf]; exact ⟨y1, y2, y3, y4, y5, y6⟩⟩
        · have hf : fW (wys D 0 P u) F c pre (some y) = some (F, c, pre) := by
            rw [hf0]
            simp only [upW]
            rw [if_neg (by omega)]
          refine Es_iload_n (hC _) dX6_lay_0 rfl ?_
          first | refine Es_aload_n (hC _) dX6_lay_1 rfl ?_ | refine Es_aload_nN (hC _) dX6_lay_1 rfl ?_
          refine Sg_X6_8 (hC _) fl_X6_23 dX6_lay_2 ?_
          refine Es_iload_n (hC _) dX6_lay_5 rfl ?_
          refine Es_ialdN (hC _) dX6_lay_6 rfl rfl rfl (by omega) (by decide) ?_
          rw [t38]
          refine Es_icmp_ne (hC _) 92 dX6_lay_7 (by decide) (fun hb7 => False.elim (hb7 rfl)) (fun hb7 => ?_)
          refine Es_iload_n (hC _) dX6_lay_10 rfl ?_
          refine Es_iconst (v := 1) (hC _) dX6_lay_11 (by decide) ?_
          first | refine Es_aload_n (hC _) dX6_lay_12 rfl ?_ | refine Es_aload_nN (hC _) dX6_lay_12 rfl ?_
          refine Sg_X6_31 (hC _) fl_X6_176 dX6_lay_13 ?_
          rw [t31]
          refine Es_ishl (hC _) dX6_lay_16 ?_
          refine Es_iconst (v := 1) (hC _) dX6_lay_17 (by decide) ?_
          refine Es_isub (hC _) dX6_lay_18 ?_
          rw [al_N hK]
          refine Es_icmp_ne (hC _) 49 dX6_lay_19 (by decide) (fun hb19 => False.elim (hb19 (by rw [hall]))) (fun hb19 => ?_)
          refine Es_iload (hC _) dX6_lay_22 rfl ?_
          first | refine Es_aload_n (hC _) dX6_lay_24 rfl ?_ | refine Es_aload_nN (hC _) dX6_lay_24 rfl ?_
          refine Sg_X6_32 (hC _) fl_X6_179 dX6_lay_25 ?_
          rw [y1]
          refine Es_icmp_lt (hC _) 49 dX6_lay_28 (by decide) (fun hb28 => False.elim (hlt ((iE_lt hF2 y3).mp hb28))) (fun hb28 => ?_)
          refine Es_iload (hC _) dX6_lay_31 rfl ?_
          first | refine Es_aload_n (hC _) dX6_lay_33 rfl ?_ | refine Es_aload_nN (hC _) dX6_lay_33 rfl ?_
          refine Sg_X6_32 (hC _) fl_X6_179 dX6_lay_34 ?_
          rw [y1]
          refine Es_icmp_ne (hC _) 50 dX6_lay_37 (by decide) (fun hb37 => ?_) (fun hb37 => False.elim (heq ((iE_eq hF2 y3).mp hb37)))
          first | refine Es_aload_n (hC _) dX6_lay_50 rfl ?_ | refine Es_aload_nN (hC _) dX6_lay_50 rfl ?_
          refine Es_iload (hC _) dX6_lay_51 rfl ?_
          refine Sp_X6_32 (hC _) fl_X6_179 dX6_lay_53 ?_
          first | refine Es_aload_n (hC _) dX6_lay_56 rfl ?_ | refine Es_aload_nN (hC _) dX6_lay_56 rfl ?_
          refine Es_iload (hC _) dX6_lay_57 rfl ?_
          refine Sp_X6_33 (hC _) fl_X6_186 dX6_lay_59 ?_
          refine Es_iconst (v := 0) (hC _) dX6_lay_62 (by decide) ?_
          refine Es_istore (lv' := [_, _, _, _, _, _, _, _]) (hC _) dX6_lay_63 (by decide) rfl rfl ?_
          exact l_cp hP hF1 hF2 hc htr (fun B1 q1 q2 => ⟨rfl, rfl, q1, by rw [hf]; exact q2⟩) P 0 _ (by omega) (fun q _ => rfl) (fun q hq => (by omega))
  · have hw0 : wys D 0 P u = [] := by
      simp only [wys]
      rw [if_neg hall]
    refine Es_iload_n (hC _) dX6_lay_0 rfl ?_
    first | refine Es_aload_n (hC _) dX6_lay_1 rfl ?_ | refine Es_aload_nN (hC _) dX6_lay_1 rfl ?_
    refine Sg_X6_8 (hC _) fl_X6_23 dX6_lay_2 ?_
    refine Es_iload_n (hC _) dX6_lay_5 rfl ?_
    refine Es_ialdN (hC _) dX6_lay_6 rfl rfl rfl (by omega) (by decide) ?_
    rw [t38]
    refine Es_icmp_ne (hC _) 92 dX6_lay_7 (by decide) (fun hb7 => False.elim (hb7 rfl)) (fun hb7 => ?_)
    refine Es_iload_n (hC _) dX6_lay_10 rfl ?_
    refine Es_iconst (v := 1) (hC _) dX6_lay_11 (by decide) ?_
    first | refine Es_aload_n (hC _) dX6_lay_12 rfl ?_ | refine Es_aload_nN (hC _) dX6_lay_12 rfl ?_
    refine Sg_X6_31 (hC _) fl_X6_176 dX6_lay_13 ?_
    rw [t31]
    refine Es_ishl (hC _) dX6_lay_16 ?_
    refine Es_iconst (v := 1) (hC _) dX6_lay_17 (by decide) ?_
    refine Es_isub (hC _) dX6_lay_18 ?_
    rw [al_N hK]
    refine Es_icmp_ne (hC _) 49 dX6_lay_19 (by decide) (fun hb19 => ?_) (fun hb19 => False.elim (hall ((nI_eq (by omega) (by omega)).mp hb19)))
    exact Es_vret dX6_lay_49 ⟨rfl, rfl, LF.rf _ _, by rw [hw0, fW_nil]; exact hS⟩
set_option maxRecDepth 100000 in
set_option maxHeartbeats 4000000 in
theorem l_lay_k {ad : sA} {nw nt : Nat} {B : sB} {L : sL} {bc bs : Nat} {n : Nat} {D : TD} {a : Nat → Nat} {w P p u F c : Nat} {pre : List (Option Nat)} {s : Option Wy} (h : LI B D a w P p u F c pre s) (hp : p < P) (hIH : ∀ (B : sB) (L : sL) (u F c : Nat) (pre : List (Option Nat)) (s : Option Wy), LI B D a w P (p + 1) u F c pre s → Cs yX6_lay cX6_lay 8 none (n + 2) [.ref (ad 25 0), .int (nI w), .int (nI (p + 1)), .int (nI u), .int (iE F), .int (nI c)] ad nw nt B L (fun v B1 L1 => v = none ∧ L1 = L ∧ LF B B1 (p + 1) ∧ BS B1 P a (fW (wys D n (p + 1) u) F c pre s))) {k kd : Nat} (hk : k < D.K) (hbt : ¬ bt u k = true) (hkd : kd < 5) {B1 : sB} (hf : LF B B1 p) (hS1 : BS B1 P a (fW (wyK D (wys D n (p + 1)) p u k) F c pre s)) (g39 : B1 39 0 (7 * w + p) = nI kd) (g57 : B1 57 0 k = nI (a k)) (hcg : D.cg p k = (if B 40 0 (7 * w + p) = nI (a k) then 0 else 1)) (hE : (kd = 4 ∧ D.E p k = 1000001) ∨ (¬ kd = 4 ∧ ∃ e, e ≤ 1000000 ∧ B 60 0 (5 * k + kd) = nI e ∧ D.E p k = e + 1)) {Q : Option Value → sB → sL → Prop} (kk : ∀ B3, LF B B3 p → BS B3 P a (fW (wyK D (wys D n (p + 1)) p u (k + 1)) F c pre s) → Es (sCm yX6_lay cX6_lay 8 none (n + 3) ad nw nt Q) 8 239 [some (.ref (ad 25 0)), some (.int (nI w)), some (.int (nI p)), some (.int (nI u)), some (.int (iE F)), some (.int (nI c)), some (.int (nI (7 * w + p))), some (.int (nI k))] [] ad nw nt B3 L bc bs) : Es (sCm yX6_lay cX6_lay 8 none (n + 3) ad nw nt Q) 8 149 [some (.ref (ad 25 0)), some (.int (nI w)), some (.int (nI p)), some (.int (nI u)), some (.int (iE F)), some (.int (nI c)), some (.int (nI (7 * w + p))), some (.int (nI k))] [] ad nw nt B1 L bc bs := by
  have hC : ∀ Q, je_Ok (sCm yX6_lay cX6_lay 8 none (n + 3) ad nw nt Q) RX6 cX6_lay 8 (n + 3) := fun _ => je_Cm_ok
  obtain ⟨hT, hpP, hu, hF1, hF2, hc, hpl, htr, hS⟩ := id h
  have hT0 := hT
  obtain ⟨hK, hP, hw5, t31, t38, t57, tp⟩ := hT
  have h2 := p2_b hK
  have hcg1 : D.cg p k ≤ 1 := by
    rw [hcg]
    split <;> omega
  rcases hE with ⟨h4, hE⟩ | ⟨h4, e, he1, he2, hE⟩
  · by_cases hom : B 40 0 (7 * w + p) = nI (a k)
    · skip
      first | refine Es_aload_n (hC _) dX6_lay_149 rfl ?_ | refine Es_aload_nN (hC _) dX6_lay_149 rfl ?_
      refine Sg_X6_28 (hC _) fl_X6_77 dX6_lay_150 ?_
      refine Es_iload_n (hC _) dX6_lay_153 rfl ?_
      first | refine Es_aload_n (hC _) dX6_lay_154 rfl ?_ | refine Es_aload_nN (hC _) dX6_lay_154 rfl ?_
      refine Sg_X6_27 (hC _) fl_X6_74 dX6_lay_155 ?_
      refine Es_iload (hC _) dX6_lay_158 rfl ?_
      refine Es_ialdN (hC _) dX6_lay_160 rfl rfl rfl (by omega) (by decide) ?_
      rw [g57]
      refine Es_iastN (hC _) dX6_lay_161 rfl (fun _ => rfl) rfl (by omega) (by decide) ?_
      have hLI := LI.tr (x := some k) h hf hp hS1 (ad_N hK hu hk hbt) (F' := min F (D.E p k)) (c' := c + D.cg p k) (by omega) (by omega) (by omega)
      have hct := hIH _ L _ _ _ _ _ hLI
      have hst : ∀ B3, LF (uB B1 58 0 p (oJ a (some k))) B3 (p + 1) → LF B B3 p := fun B3 q => LF.st hf q
      have e39 : uB B1 58 0 p (oJ a (some k)) 39 0 (7 * w + p) = nI kd := by rw [uB_k (by decide)]; exact g39
      have e40 : uB B1 58 0 p (oJ a (some k)) 40 0 (7 * w + p) = B 40 0 (7 * w + p) := by rw [uB_k (by decide), hf.1 40 (by decide) (by decide) (by decide)]
      have e57 : uB B1 58 0 p (oJ a (some k)) 57 0 k = nI (a k) := by rw [uB_k (by decide)]; exact g57
      have e60 : uB B1 58 0 p (oJ a (some k)) 60 0 (5 * k + kd) = B 60 0 (5 * k + kd) := by rw [uB_k (by decide), hf.1 60 (by decide) (by decide) (by decide)]
      change Es _ _ _ _ _ _ _ _ (uB B1 58 0 p (oJ a (some k))) _ _ _
      generalize uB B1 58 0 p (oJ a (some k)) = B2 at hct hst e39 e40 e57 e60 ⊢
      first | refine Es_aload_n (hC _) dX6_lay_162 rfl ?_ | refine Es_aload_nN (hC _) dX6_lay_162 rfl ?_
      refine Es_iload_n (hC _) dX6_lay_163 rfl ?_
      refine Es_iload_n (hC _) dX6_lay_164 rfl ?_
      refine Es_iconst (v := 1) (hC _) dX6_lay_165 (by decide) ?_
      refine Es_iadd (hC _) dX6_lay_166 ?_
      rw [nI_1]
      refine Es_iload_n (hC _) dX6_lay_167 rfl ?_
      refine Es_iconst (v := 1) (hC _) dX6_lay_168 (by decide) ?_
      refine Es_iload (hC _) dX6_lay_169 rfl ?_
      refine Es_ishl (hC _) dX6_lay_171 ?_
      refine Es_ior (hC _) dX6_lay_172 ?_
      rw [or_N (by omega) (by omega) hbt]
      first | refine Es_aload_n (hC _) dX6_lay_173 rfl ?_ | refine Es_aload_nN (hC _) dX6_lay_173 rfl ?_
      refine Sg_X6_9 (hC _) fl_X6_26 dX6_lay_174 ?_
      refine Es_iload (hC _) dX6_lay_177 rfl ?_
      refine Es_ialdN (hC _) dX6_lay_179 rfl rfl rfl (by omega) (by decide) ?_
      rw [e39]
      refine Es_iconst (v := 4) (hC _) dX6_lay_180 (by decide) ?_
      refine Es_icmp_ne (hC _) 189 dX6_lay_181 (by decide) (fun hb181 => False.elim (hb181 (by rw [h4]; rfl))) (fun hb181 => ?_)
      refine Es_iload (hC _) dX6_lay_184 rfl ?_
      refine Es_goto (hC _) 211 dX6_lay_186 (by decide) ?_
      refine Es.eqS (congrArg (fun z => Value.int z :: _) (show iE F = iE (min F (D.E p k)) by rw [hE, Nat.min_eq_left hF2])) ?_
      refine Es_iload (hC _) dX6_lay_211 rfl ?_
      first | refine Es_aload_n (hC _) dX6_lay_213 rfl ?_ | refine Es_aload_nN (hC _) dX6_lay_213 rfl ?_
      refine Sg_X6_10 (hC _) fl_X6_29 dX6_lay_214 ?_
      refine Es_iload (hC _) dX6_lay_217 rfl ?_
      refine Es_ialdN (hC _) dX6_lay_219 rfl rfl rfl (by omega) (by decide) ?_
      rw [e40]
      first | refine Es_aload_n (hC _) dX6_lay_220 rfl ?_ | refine Es_aload_nN (hC _) dX6_lay_220 rfl ?_
      refine Sg_X6_27 (hC _) fl_X6_74 dX6_lay_221 ?_
      refine Es_iload (hC _) dX6_lay_224 rfl ?_
      refine Es_ialdN (hC _) dX6_lay_226 rfl rfl rfl (by omega) (by decide) ?_
      rw [e57]
      refine Es_icmp_ne (hC _) 234 dX6_lay_227 (by decide) (fun hb227 => False.elim (hb227 hom)) (fun hb227 => ?_)
      refine Es_iconst (v := 0) (hC _) dX6_lay_230 (by decide) ?_
      refine Es_goto (hC _) 235 dX6_lay_231 (by decide) ?_
      refine Es_iadd (hC _) dX6_lay_235 ?_
      rw [show nI c + 0 = nI (c + D.cg p k) by rw [hcg, if_pos hom]; exact Int32.add_zero _]
      refine Es_callV (hC _) mv_X6_182 dX6_lay_236 hct rfl rfl ⟨_, rfl, rfl⟩ rfl rfl (by omega) (Nat.le_of_ble_eq_true rfl) (fun v' B3 L3 q => ?_)
      obtain ⟨rfl, rfl, q1, q2⟩ := q
      refine kk B3 (hst B3 q1) ?_
      have hwk : wyK D (wys D n (p + 1)) p u (k + 1) = wyK D (wys D n (p + 1)) p u k ++ (wys D n (p + 1) (u + 2 ^ k)).map (exK D p k) := by
        simp only [wyK]
        rw [if_neg (fun z => z.elim hbt (by omega))]
      rw [hwk, fW_app, fW_exK]
      exact q2
    · skip
      first | refine Es_aload_n (hC _) dX6_lay_149 rfl ?_ | refine Es_aload_nN (hC _) dX6_lay_149 rfl ?_
      refine Sg_X6_28 (hC _) fl_X6_77 dX6_lay_150 ?_
      refine Es_iload_n (hC _) dX6_lay_153 rfl ?_
      first | refine Es_aload_n (hC _) dX6_lay_154 rfl ?_ | refine Es_aload_nN (hC _) dX6_lay_154 rfl ?_
      refine Sg_X6_27 (hC _) fl_X6_74 dX6_lay_155 ?_
      refine Es_iload (hC _) dX6_lay_158 rfl ?_
      refine Es_ialdN (hC _) dX6_lay_160 rfl rfl rfl (by omega) (by decide) ?_
      rw [g57]
      refine Es_iastN (hC _) dX6_lay_161 rfl (fun _ => rfl) rfl (by omega) (by decide) ?_
      have hLI := LI.tr (x := some k) h hf hp hS1 (ad_N hK hu hk hbt) (F' := min F (D.E p k)) (c' := c + D.cg p k) (by omega) (by omega) (by omega)
      have hct := hIH _ L _ _ _ _ _ hLI
      have hst : ∀ B3, LF (uB B1 58 0 p (oJ a (some k))) B3 (p + 1) → LF B B3 p := fun B3 q => LF.st hf q
      have e39 : uB B1 58 0 p (oJ a (some k)) 39 0 (7 * w + p) = nI kd := by rw [uB_k (by decide)]; exact g39
      have e40 : uB B1 58 0 p (oJ a (some k)) 40 0 (7 * w + p) = B 40 0 (7 * w + p) := by rw [uB_k (by decide), hf.1 40 (by decide) (by decide) (by decide)]
      have e57 : uB B1 58 0 p (oJ a (some k)) 57 0 k = nI (a k) := by rw [uB_k (by decide)]; exact g57
      have e60 : uB B1 58 0 p (oJ a (some k)) 60 0 (5 * k + kd) = B 60 0 (5 * k + kd) := by rw [uB_k (by decide), hf.1 60 (by decide) (by decide) (by decide)]
      change Es _ _ _ _ _ _ _ _ (uB B1 58 0 p (oJ a (some k))) _ _ _
      generalize uB B1 58 0 p (oJ a (some k)) = B2 at hct hst e39 e40 e57 e60 ⊢
      first | refine Es_aload_n (hC _) dX6_lay_162 rfl ?_ | refine Es_aload_nN (hC _) dX6_lay_162 rfl ?_
      refine Es_iload_n (hC _) dX6_lay_163 rfl ?_
      refine Es_iload_n (hC _) dX6_lay_164 rfl ?_
      refine Es_iconst (v := 1) (hC _) dX6_lay_165 (by decide) ?_
      refine Es_iadd (hC _) dX6_lay_166 ?_
      rw [nI_1]
      refine Es_iload_n (hC _) dX6_lay_167 rfl ?_
      refine Es_iconst (v := 1) (hC _) dX6_lay_168 (by decide) ?_
      refine Es_iload (hC _) dX6_lay_169 rfl ?_
      refine Es_ishl (hC _) dX6_lay_171 ?_
      refine Es_ior (hC _) dX6_lay_172 ?_
      rw [or_N (by omega) (by omega) hbt]
      first | refine Es_aload_n (hC _) dX6_lay_173 rfl ?_ | refine Es_aload_nN (hC _) dX6_lay_173 rfl ?_
      refine Sg_X6_9 (hC _) fl_X6_26 dX6_lay_174 ?_
      refine Es_iload (hC _) dX6_lay_177 rfl ?_
      refine Es_ialdN (hC _) dX6_lay_179 rfl rfl rfl (by omega) (by decide) ?_
      rw [e39]
      refine Es_iconst (v := 4) (hC _) dX6_lay_180 (by decide) ?_
      refine Es_icmp_ne (hC _) 189 dX6_lay_181 (by decide) (fun hb181 => False.elim (hb181 (by rw [h4]; rfl))) (fun hb181 => ?_)
      refine Es_iload (hC _) dX6_lay_184 rfl ?_
      refine Es_goto (hC _) 211 dX6_lay_186 (by decide) ?_
      refine Es.eqS (congrArg (fun z => Value.int z :: _) (show iE F = iE (min F (D.E p k)) by rw [hE, Nat.min_eq_left hF2])) ?_
      refine Es_iload (hC _) dX6_lay_211 rfl ?_
      first | refine Es_aload_n (hC _) dX6_lay_213 rfl ?_ | refine Es_aload_nN (hC _) dX6_lay_213 rfl ?_
      refine Sg_X6_10 (hC _) fl_X6_29 dX6_lay_214 ?_
      refine Es_iload (hC _) dX6_lay_217 rfl ?_
      refine Es_ialdN (hC _) dX6_lay_219 rfl rfl rfl (by omega) (by decide) ?_
      rw [e40]
      first | refine Es_aload_n (hC _) dX6_lay_220 rfl ?_ | refine Es_aload_nN (hC _) dX6_lay_220 rfl ?_
      refine Sg_X6_27 (hC _) fl_X6_74 dX6_lay_221 ?_
      refine Es_iload (hC _) dX6_lay_224 rfl ?_
      refine Es_ialdN (hC _) dX6_lay_226 rfl rfl rfl (by omega) (by decide) ?_
      rw [e57]
      refine Es_icmp_ne (hC _) 234 dX6_lay_227 (by decide) (fun hb227 => ?_) (fun hb227 => False.elim (hom hb227))
      refine Es_iconst (v := 1) (hC _) dX6_lay_234 (by decide) ?_
      refine Es_iadd (hC _) dX6_lay_235 ?_
      rw [show nI c + 1 = nI (c + D.cg p k) by rw [hcg, if_neg hom, nI_1]]
      refine Es_callV (hC _) mv_X6_182 dX6_lay_236 hct rfl rfl ⟨_, rfl, rfl⟩ rfl rfl (by omega) (Nat.le_of_ble_eq_true rfl) (fun v' B3 L3 q => ?_)
      obtain ⟨rfl, rfl, q1, q2⟩ := q
      refine kk B3 (hst B3 q1) ?_
      have hwk : wyK D (wys D n (p + 1)) p u (k + 1) = wyK D (wys D n (p + 1)) p u k ++ (wys D n (p + 1) (u + 2 ^ k)).map (exK D p k) := by
        simp only [wyK]
        rw [if_neg (fun z => z.elim hbt (by omega))]
      rw [hwk, fW_app, fW_exK]
      exact q2
  · by_cases hom : B 40 0 (7 * w + p) = nI (a k)
    · skip
      first | refine Es_aload_n (hC _) dX6_lay_149 rfl ?_ | refine Es_aload_nN (hC _) dX6_lay_149 rfl ?_
      refine Sg_X6_28 (hC _) fl_X6_77 dX6_lay_150 ?_
      refine Es_iload_n (hC _) dX6_lay_153 rfl ?_
      first | refine Es_aload_n (hC _) dX6_lay_154 rfl ?_ | refine Es_aload_nN (hC _) dX6_lay_154 rfl ?_
      refine Sg_X6_27 (hC _) fl_X6_74 dX6_lay_155 ?_
      refine Es_iload (hC _) dX6_lay_158 rfl ?_
      refine Es_ialdN (hC _) dX6_lay_160 rfl rfl rfl (by omega) (by decide) ?_
      rw [g57]
      refine Es_iastN (hC _) dX6_lay_161 rfl (fun _ => rfl) rfl (by omega) (by decide) ?_
      have hLI := LI.tr (x := some k) h hf hp hS1 (ad_N hK hu hk hbt) (F' := min F (D.E p k)) (c' := c + D.cg p k) (by omega) (by omega) (by omega)
      have hct := hIH _ L _ _ _ _ _ hLI
      have hst : ∀ B3, LF (uB B1 58 0 p (oJ a (some k))) B3 (p + 1) → LF B B3 p := fun B3 q => LF.st hf q
      have e39 : uB B1 58 0 p (oJ a (some k)) 39 0 (7 * w + p) = nI kd := by rw [uB_k (by decide)]; exact g39
      have e40 : uB B1 58 0 p (oJ a (some k)) 40 0 (7 * w + p) = B 40 0 (7 * w + p) := by rw [uB_k (by decide), hf.1 40 (by decide) (by decide) (by decide)]
      have e57 : uB B1 58 0 p (oJ a (some k)) 57 0 k = nI (a k) := by rw [uB_k (by decide)]; exact g57
      have e60 : uB B1 58 0 p (oJ a (some k)) 60 0 (5 * k + kd) = B 60 0 (5 * k + kd) := by rw [uB_k (by decide), hf.1 60 (by decide) (by decide) (by decide)]
      change Es _ _ _ _ _ _ _ _ (uB B1 58 0 p (oJ a (some k))) _ _ _
      generalize uB B1 58 0 p (oJ a (some k)) = B2 at hct hst e39 e40 e57 e60 ⊢
      first | refine Es_aload_n (hC _) dX6_lay_162 rfl ?_ | refine Es_aload_nN (hC _) dX6_lay_162 rfl ?_
      refine Es_iload_n (hC _) dX6_lay_163 rfl ?_
      refine Es_iload_n (hC _) dX6_lay_164 rfl ?_
      refine Es_iconst (v := 1) (hC _) dX6_lay_165 (by decide) ?_
      refine Es_iadd (hC _) dX6_lay_166 ?_
      rw [nI_1]
      refine Es_iload_n (hC _) dX6_lay_167 rfl ?_
      refine Es_iconst (v := 1) (hC _) dX6_lay_168 (by decide) ?_
      refine Es_iload (hC _) dX6_lay_169 rfl ?_
      refine Es_ishl (hC _) dX6_lay_171 ?_
      refine Es_ior (hC _) dX6_lay_172 ?_
      rw [or_N (by omega) (by omega) hbt]
      first | refine Es_aload_n (hC _) dX6_lay_173 rfl ?_ | refine Es_aload_nN (hC _) dX6_lay_173 rfl ?_
      refine Sg_X6_9 (hC _) fl_X6_26 dX6_lay_174 ?_
      refine Es_iload (hC _) dX6_lay_177 rfl ?_
      refine Es_ialdN (hC _) dX6_lay_179 rfl rfl rfl (by omega) (by decide) ?_
      rw [e39]
      refine Es_iconst (v := 4) (hC _) dX6_lay_180 (by decide) ?_
      refine Es_icmp_ne (hC _) 189 dX6_lay_181 (by decide) (fun hb181 => ?_) (fun hb181 => False.elim (h4 ((nI_eq (a := kd) (b := 4) (by omega) (by decide)).mp hb181)))
      refine Es_iload (hC _) dX6_lay_189 rfl ?_
      first | refine Es_aload_n (hC _) dX6_lay_191 rfl ?_ | refine Es_aload_nN (hC _) dX6_lay_191 rfl ?_
      refine Sg_X6_30 (hC _) fl_X6_83 dX6_lay_192 ?_
      refine Es_iconst (v := 5) (hC _) dX6_lay_195 (by decide) ?_
      refine Es_iload (hC _) dX6_lay_196 rfl ?_
      refine Es_imul (hC _) dX6_lay_198 ?_
      first | refine Es_aload_n (hC _) dX6_lay_199 rfl ?_ | refine Es_aload_nN (hC _) dX6_lay_199 rfl ?_
      refine Sg_X6_9 (hC _) fl_X6_26 dX6_lay_200 ?_
      refine Es_iload (hC _) dX6_lay_203 rfl ?_
      refine Es_ialdN (hC _) dX6_lay_205 rfl rfl rfl (by omega) (by decide) ?_
      rw [e39]
      refine Es_iadd (hC _) dX6_lay_206 ?_
      rw [show (5 : Int32) * nI k + nI kd = nI (5 * k + kd) by rw [show (5 : Int32) = nI 5 from rfl, pk_mul, nI_add]]
      refine Es_ialdN (hC _) dX6_lay_207 rfl rfl rfl (by omega) (by decide) ?_
      rw [e60, he2, ← iE_s e]
      refine Es_fS (hC _) ms_X6_164 dX6_lay_208 j_mini rfl rfl (by omega) (Nat.le_of_ble_eq_true rfl) ?_
      rw [mnI_E hF2 (by omega), ← hE]
      refine Es_iload (hC _) dX6_lay_211 rfl ?_
      first | refine Es_aload_n (hC _) dX6_lay_213 rfl ?_ | refine Es_aload_nN (hC _) dX6_lay_213 rfl ?_
      refine Sg_X6_10 (hC _) fl_X6_29 dX6_lay_214 ?_
      refine Es_iload (hC _) dX6_lay_217 rfl ?_
      refine Es_ialdN (hC _) dX6_lay_219 rfl rfl rfl (by omega) (by decide) ?_
      rw [e40]
      first | refine Es_aload_n (hC _) dX6_lay_220 rfl ?_ | refine Es_aload_nN (hC _) dX6_lay_220 rfl ?_
      refine Sg_X6_27 (hC _) fl_X6_74 dX6_lay_221 ?_
      refine Es_iload (hC _) dX6_lay_224 rfl ?_
      refine Es_ialdN (hC _) dX6_lay_226 rfl rfl rfl (by omega) (by decide) ?_
      rw [e57]
      refine Es_icmp_ne (hC _) 234 dX6_lay_227 (by decide) (fun hb227 => False.elim (hb227 hom)) (fun hb227 => ?_)
      refine Es_iconst (v := 0) (hC _) dX6_lay_230 (by decide) ?_
      refine Es_goto (hC _) 235 dX6_lay_231 (by decide) ?_
      refine Es_iadd (hC _) dX6_lay_235 ?_
      rw [show nI c + 0 = nI (c + D.cg p k) by rw [hcg, if_pos hom]; exact Int32.add_zero _]
      refine Es_callV (hC _) mv_X6_182 dX6_lay_236 hct rfl rfl ⟨_, rfl, rfl⟩ rfl rfl (by omega) (Nat.le_of_ble_eq_true rfl) (fun v' B3 L3 q => ?_)
      obtain ⟨rfl, rfl, q1, q2⟩ := q
      refine kk B3 (hst B3 q1) ?_
      have hwk : wyK D (wys D n (p + 1)) p u (k + 1) = wyK D (wys D n (p + 1)) p u k ++ (wys D n (p + 1) (u + 2 ^ k)).map (exK D p k) := by
        simp only [wyK]
        rw [if_neg (fun z => z.elim hbt (by omega))]
      rw [hwk, fW_app, fW_exK]
      exact q2
    · skip
      first | refine Es_aload_n (hC _) dX6_lay_149 rfl ?_ | refine Es_aload_nN (hC _) dX6_lay_149 rfl ?_
      refine Sg_X6_28 (hC _) fl_X6_77 dX6_lay_150 ?_
      refine Es_iload_n (hC _) dX6_lay_153 rfl ?_
      first | refine Es_aload_n (hC _) dX6_lay_154 rfl ?_ | refine Es_aload_nN (hC _) dX6_lay_154 rfl ?_
      refine Sg_X6_27 (hC _) fl_X6_74 dX6_lay_155 ?_
      refine Es_iload (hC _) dX6_lay_158 rfl ?_
      refine Es_ialdN (hC _) dX6_lay_160 rfl rfl rfl (by omega) (by decide) ?_
      rw [g57]
      refine Es_iastN (hC _) dX6_lay_161 rfl (fun _ => rfl) rfl (by omega) (by decide) ?_
      have hLI := LI.tr (x := some k) h hf hp hS1 (ad_N hK hu hk hbt) (F' := min F (D.E p k)) (c' := c + D.cg p k) (by omega) (by omega) (by omega)
      have hct := hIH _ L _ _ _ _ _ hLI
      have hst : ∀ B3, LF (uB B1 58 0 p (oJ a (some k))) B3 (p + 1) → LF B B3 p := fun B3 q => LF.st hf q
      have e39 : uB B1 58 0 p (oJ a (some k)) 39 0 (7 * w + p) = nI kd := by rw [uB_k (by decide)]; exact g39
      have e40 : uB B1 58 0 p (oJ a (some k)) 40 0 (7 * w + p) = B 40 0 (7 * w + p) := by rw [uB_k (by decide), hf.1 40 (by decide) (by decide) (by decide)]
      have e57 : uB B1 58 0 p (oJ a (some k)) 57 0 k = nI (a k) := by rw [uB_k (by decide)]; exact g57
      have e60 : uB B1 58 0 p (oJ a (some k)) 60 0 (5 * k + kd) = B 60 0 (5 * k + kd) := by rw [uB_k (by decide), hf.1 60 (by decide) (by decide) (by decide)]
      change Es _ _ _ _ _ _ _ _ (uB B1 58 0 p (oJ a (some k))) _ _ _
      generalize uB B1 58 0 p (oJ a (some k)) = B2 at hct hst e39 e40 e57 e60 ⊢
      first | refine Es_aload_n (hC _) dX6_lay_162 rfl ?_ | refine Es_aload_nN (hC _) dX6_lay_162 rfl ?_
      refine Es_iload_n (hC _) dX6_lay_163 rfl ?_
      refine Es_iload_n (hC _) dX6_lay_164 rfl ?_
      refine Es_iconst (v := 1) (hC _) dX6_lay_165 (by decide) ?_
      refine Es_iadd (hC _) dX6_lay_166 ?_
      rw [nI_1]
      refine Es_iload_n (hC _) dX6_lay_167 rfl ?_
      refine Es_iconst (v := 1) (hC _) dX6_lay_168 (by decide) ?_
      refine Es_iload (hC _) dX6_lay_169 rfl ?_
      refine Es_ishl (hC _) dX6_lay_171 ?_
      refine Es_ior (hC _) dX6_lay_172 ?_
      rw [or_N (by omega) (by omega) hbt]
      first | refine Es_aload_n (hC _) dX6_lay_173 rfl ?_ | refine Es_aload_nN (hC _) dX6_lay_173 rfl ?_
      refine Sg_X6_9 (hC _) fl_X6_26 dX6_lay_174 ?_
      refine Es_iload (hC _) dX6_lay_177 rfl ?_
      refine Es_ialdN (hC _) dX6_lay_179 rfl rfl rfl (by omega) (by decide) ?_
      rw [e39]
      refine Es_iconst (v := 4) (hC _) dX6_lay_180 (by decide) ?_
      refine Es_icmp_ne (hC _) 189 dX6_lay_181 (by decide) (fun hb181 => ?_) (fun hb181 => False.elim (h4 ((nI_eq (a := kd) (b := 4) (by omega) (by decide)).mp hb181)))
      refine Es_iload (hC _) dX6_lay_189 rfl ?_
      first | refine Es_aload_n (hC _) dX6_lay_191 rfl ?_ | refine Es_aload_nN (hC _) dX6_lay_191 rfl ?_
      refine Sg_X6_30 (hC _) fl_X6_83 dX6_lay_192 ?_
      refine Es_iconst (v := 5) (hC _) dX6_lay_195 (by decide) ?_
      refine Es_iload (hC _) dX6_lay_196 rfl ?_
      refine Es_imul (hC _) dX6_lay_198 ?_
      first | refine Es_aload_n (hC _) dX6_lay_199 rfl ?_ | refine Es_aload_nN (hC _) dX6_lay_199 rfl ?_
      refine Sg_X6_9 (hC _) fl_X6_26 dX6_lay_200 ?_
      refine Es_iload (hC _) dX6_lay_203 rfl ?_
      refine Es_ialdN (hC _) dX6_lay_205 rfl rfl rfl (by omega) (by decide) ?_
      rw [e39]
      refine Es_iadd (hC _) dX6_lay_206 ?_
      rw [show (5 : Int32) * nI k + nI kd = nI (5 * k + kd) by rw [show (5 : Int32) = nI 5 from rfl, pk_mul, nI_add]]
      refine Es_ialdN (hC _) dX6_lay_207 rfl rfl rfl (by omega) (by decide) ?_
      rw [e60, he2, ← iE_s e]
      refine Es_fS (hC _) ms_X6_164 dX6_lay_208 j_mini rfl rfl (by omega) (Nat.le_of_ble_eq_true rfl) ?_
      rw [mnI_E hF2 (by omega), ← hE]
      refine Es_iload (hC _) dX6_lay_211 rfl ?_
      first | refine Es_aload_n (hC _) dX6_lay_213 rfl ?_ | refine Es_aload_nN (hC _) dX6_lay_213 rfl ?_
      refine Sg_X6_10 (hC _) fl_X6_29 dX6_lay_214 ?_
      refine Es_iload (hC _) dX6_lay_217 rfl ?_
      refine Es_ialdN (hC _) dX6_lay_219 rfl rfl rfl (by omega) (by decide) ?_
      rw [e40]
      first | refine Es_aload_n (hC _) dX6_lay_220 rfl ?_ | refine Es_aload_nN (hC _) dX6_lay_220 rfl ?_
      refine Sg_X6_27 (hC _) fl_X6_74 dX6_lay_221 ?_
      refine Es_iload (hC _) dX6_lay_224 rfl ?_
      refine Es_ialdN (hC _) dX6_lay_226 rfl rfl rfl (by omega) (by decide) ?_
      rw [e57]
      refine Es_icmp_ne (hC _) 234 dX6_lay_227 (by decide) (fun hb227 => ?_) (fun hb227 => False.elim (hom hb227))
      refine Es_iconst (v := 1) (hC _) dX6_lay_234 (by decide) ?_
      refine Es_iadd (hC _) dX6_lay_235 ?_
      rw [show nI c + 1 = nI (c + D.cg p k) by rw [hcg, if_neg hom, nI_1]]
      refine Es_callV (hC _) mv_X6_182 dX6_lay_236 hct rfl rfl ⟨_, rfl, rfl⟩ rfl rfl (by omega) (Nat.le_of_ble_eq_true rfl) (fun v' B3 L3 q => ?_)
      obtain ⟨rfl, rfl, q1, q2⟩ := q
      refine kk B3 (hst B3 q1) ?_
      have hwk : wyK D (wys D n (p + 1)) p u (k + 1) = wyK D (wys D n (p + 1)) p u k ++ (wys D n (p + 1) (u + 2 ^ k)).map (exK D p k) := by
        simp only [wyK]
        rw [if_neg (fun z => z.elim hbt (by omega))]
      rw [hwk, fW_app, fW_exK]
      exact q2
set_option maxRecDepth 100000 in
set_option maxHeartbeats 4000000 in
theorem l_lay {ad : sA} {nw nt : Nat} {B : sB} {L : sL} {bc bs : Nat} {n : Nat} {D : TD} {a : Nat → Nat} {w P p u F c : Nat} {pre : List (Option Nat)} {s : Option Wy} (h : LI B D a w P p u F c pre s) (hp : p < P) (hIH : ∀ (B : sB) (L : sL) (u F c : Nat) (pre : List (Option Nat)) (s : Option Wy), LI B D a w P (p + 1) u F c pre s → Cs yX6_lay cX6_lay 8 none (n + 2) [.ref (ad 25 0), .int (nI w), .int (nI (p + 1)), .int (nI u), .int (iE F), .int (nI c)] ad nw nt B L (fun v B1 L1 => v = none ∧ L1 = L ∧ LF B B1 (p + 1) ∧ BS B1 P a (fW (wys D n (p + 1) u) F c pre s))) : ∀ (m k : Nat) (B1 : sB), k + m = D.K → LF B B1 p → BS B1 P a (fW (wyK D (wys D n (p + 1)) p u k) F c pre s) → Es (sCm yX6_lay cX6_lay 8 none (n + 3) ad nw nt (fun v B1 L1 => v = none ∧ L1 = L ∧ LF B B1 p ∧ BS B1 P a (fW (wys D (n + 1) p u) F c pre s))) 8 102 [some (.ref (ad 25 0)), some (.int (nI w)), some (.int (nI p)), some (.int (nI u)), some (.int (iE F)), some (.int (nI c)), some (.int (nI (7 * w + p))), some (.int (nI k))] [] ad nw nt B1 L bc bs := by
  have hC : ∀ Q, je_Ok (sCm yX6_lay cX6_lay 8 none (n + 3) ad nw nt Q) RX6 cX6_lay 8 (n + 3) := fun _ => je_Cm_ok
  obtain ⟨hT, hpP, hu, hF1, hF2, hc, hpl, htr, hS⟩ := id h
  have hT0 := hT
  obtain ⟨hK, hP, hw5, t31, t38, t57, tp⟩ := hT
  have h2 := p2_b hK
  obtain ⟨kd, hkd, t39, tmu, tk⟩ := tp p hp
  intro m
  induction m with
  | zero =>
    intro k B1 hn hf hS1
    have hkK : k = D.K := by omega
    subst hkK
    have hT1 := LT.f hf hT0
    have u31 := hT1.2.2.2.1
    have g39 : B1 39 0 (7 * w + p) = nI kd := by rw [hf.1 39 (by decide) (by decide) (by decide)]; exact t39
    have f40 : B1 40 0 (7 * w + p) = B 40 0 (7 * w + p) := by rw [hf.1 40 (by decide) (by decide) (by decide)]
    by_cases hm : D.mu p = true
    · have hmu := tmu.mp hm
      have hwm : fW (wys D (n + 1) p u) F c pre s = fW (wyK D (wys D n (p + 1)) p u D.K) F c pre s := by
        simp only [wys]
        rw [if_pos hm, List.append_nil]
      refine Es_iload (hC _) dX6_lay_102 rfl ?_
      first | refine Es_aload_n (hC _) dX6_lay_104 rfl ?_ | refine Es_aload_nN (hC _) dX6_lay_104 rfl ?_
      refine Sg_X6_31 (hC _) fl_X6_176 dX6_lay_105 ?_
      rw [u31]
      refine Es_icmp_ge (hC _) 245 dX6_lay_108 (by decide) (fun hb108 => ?_) (fun hb108 => False.elim (hb108 (nI_le (Nat.le_refl _) (by omega))))
      first | refine Es_aload_n (hC _) dX6_lay_245 rfl ?_ | refine Es_aload_nN (hC _) dX6_lay_245 rfl ?_
      refine Sg_X6_10 (hC _) fl_X6_29 dX6_lay_246 ?_
      refine Es_iload (hC _) dX6_lay_249 rfl ?_
      refine Es_ialdN (hC _) dX6_lay_251 rfl rfl rfl (by omega) (by decide) ?_
      rw [f40]
      refine Es_if_lt (hC _) 267 dX6_lay_252 (by decide) (fun hb252 => False.elim (hmu.1 hb252)) (fun hb252 => ?_)
      first | refine Es_aload_n (hC _) dX6_lay_255 rfl ?_ | refine Es_aload_nN (hC _) dX6_lay_255 rfl ?_
      refine Sg_X6_9 (hC _) fl_X6_26 dX6_lay_256 ?_
      refine Es_iload (hC _) dX6_lay_259 rfl ?_
      refine Es_ialdN (hC _) dX6_lay_261 rfl rfl rfl (by omega) (by decide) ?_
      rw [g39]
      refine Es_iconst (v := 4) (hC _) dX6_lay_262 (by decide) ?_
      refine Es_icmp_eq (hC _) 267 dX6_lay_263 (by decide) (fun hb263 => False.elim (hmu.2 ((nI_eq (a := kd) (b := 4) (by omega) (by decide)).mp hb263))) (fun hb263 => ?_)
      exact Es_vret dX6_lay_266 ⟨rfl, rfl, hf, by rw [hwm]; exact hS1⟩
    · have hwm : fW (wys D (n + 1) p u) F c pre s = fW (wys D n (p + 1) u) F c (pre ++ [none]) (fW (wyK D (wys D n (p + 1)) p u D.K) F c pre s) := by
        simp only [wys]
        rw [if_neg hm, fW_app, fW_ex0]
      by_cases hon : B 40 0 (7 * w + p) < 0
      · skip
        refine Es_iload (hC _) dX6_lay_102 rfl ?_
        first | refine Es_aload_n (hC _) dX6_lay_104 rfl ?_ | refine Es_aload_nN (hC _) dX6_lay_104 rfl ?_
        refine Sg_X6_31 (hC _) fl_X6_176 dX6_lay_105 ?_
        rw [u31]
        refine Es_icmp_ge (hC _) 245 dX6_lay_108 (by decide) (fun hb108 => ?_) (fun hb108 => False.elim (hb108 (nI_le (Nat.le_refl _) (by omega))))
        first | refine Es_aload_n (hC _) dX6_lay_245 rfl ?_ | refine Es_aload_nN (hC _) dX6_lay_245 rfl ?_
        refine Sg_X6_10 (hC _) fl_X6_29 dX6_lay_246 ?_
        refine Es_iload (hC _) dX6_lay_249 rfl ?_
        refine Es_ialdN (hC _) dX6_lay_251 rfl rfl rfl (by omega) (by decide) ?_
        rw [f40]
        refine Es_if_lt (hC _) 267 dX6_lay_252 (by decide) (fun hb252 => ?_) (fun hb252 => False.elim (hb252 hon))
        first | refine Es_aload_n (hC _) dX6_lay_267 rfl ?_ | refine Es_aload_nN (hC _) dX6_lay_267 rfl ?_
        refine Sg_X6_28 (hC _) fl_X6_77 dX6_lay_268 ?_
        refine Es_iload_n (hC _) dX6_lay_271 rfl ?_
        refine Es_iconst (v := -1) (hC _) dX6_lay_272 (by decide) ?_
        refine Es_iastN (hC _) dX6_lay_273 rfl (fun _ => rfl) rfl (by omega) (by decide) ?_
        have hct := hIH _ L _ _ _ _ _ (LI.tr (x := none) (c' := c) h hf hp hS1 hu hF1 hF2 (by omega))
        have hst : ∀ B3, LF (uB B1 58 0 p (oJ a none)) B3 (p + 1) → LF B B3 p := fun B3 q => LF.st hf q
        change Es _ _ _ _ _ _ _ _ (uB B1 58 0 p (oJ a none)) _ _ _
        generalize uB B1 58 0 p (oJ a none) = B2 at hct hst ⊢
        first | refine Es_aload_n (hC _) dX6_lay_274 rfl ?_ | refine Es_aload_nN (hC _) dX6_lay_274 rfl ?_
        refine Es_iload_n (hC _) dX6_lay_275 rfl ?_
        refine Es_iload_n (hC _) dX6_lay_276 rfl ?_
        refine Es_iconst (v := 1) (hC _) dX6_lay_277 (by decide) ?_
        refine Es_iadd (hC _) dX6_lay_278 ?_
        rw [nI_1]
        refine Es_iload_n (hC _) dX6_lay_279 rfl ?_
        refine Es_iload (hC _) dX6_lay_280 rfl ?_
        refine Es_iload (hC _) dX6_lay_282 rfl ?_
        refine Es_callV (hC _) mv_X6_182 dX6_lay_284 hct rfl rfl ⟨_, rfl, rfl⟩ rfl rfl (by omega) (Nat.le_of_ble_eq_true rfl) (fun v' B3 L3 q => ?_)
        obtain ⟨rfl, rfl, q1, q2⟩ := q
        exact Es_vret dX6_lay_287 ⟨rfl, rfl, hst B3 q1, by rw [hwm]; exact q2⟩
      · have h4 : kd = 4 := Classical.byContradiction (fun z => hm (tmu.mpr ⟨hon, z⟩))
        refine Es_iload (hC _) dX6_lay_102 rfl ?_
        first | refine Es_aload_n (hC _) dX6_lay_104 rfl ?_ | refine Es_aload_nN (hC _) dX6_lay_104 rfl ?_
        refine Sg_X6_31 (hC _) fl_X6_176 dX6_lay_105 ?_
        rw [u31]
        refine Es_icmp_ge (hC _) 245 dX6_lay_108 (by decide) (fun hb108 => ?_) (fun hb108 => False.elim (hb108 (nI_le (Nat.le_refl _) (by omega))))
        first | refine Es_aload_n (hC _) dX6_lay_245 rfl ?_ | refine Es_aload_nN (hC _) dX6_lay_245 rfl ?_
        refine Sg_X6_10 (hC _) fl_X6_29 dX6_lay_246 ?_
        refine Es_iload (hC _) dX6_lay_249 rfl ?_
        refine Es_ialdN (hC _) dX6_lay_251 rfl rfl rfl (by omega) (by decide) ?_
        rw [f40]
        refine Es_if_lt (hC _) 267 dX6_lay_252 (by decide) (fun hb252 => False.elim (hon hb252)) (fun hb252 => ?_)
        first | refine Es_aload_n (hC _) dX6_lay_255 rfl ?_ | refine Es_aload_nN (hC _) dX6_lay_255 rfl ?_
        refine Sg_X6_9 (hC _) fl_X6_26 dX6_lay_256 ?_
        refine Es_iload (hC _) dX6_lay_259 rfl ?_
        refine Es_ialdN (hC _) dX6_lay_261 rfl rfl rfl (by omega) (by decide) ?_
        rw [g39]
        refine Es_iconst (v := 4) (hC _) dX6_lay_262 (by decide) ?_
        refine Es_icmp_eq (hC _) 267 dX6_lay_263 (by decide) (fun hb263 => ?_) (fun hb263 => False.elim (hb263 (by rw [h4]; rfl)))
        first | refine Es_aload_n (hC _) dX6_lay_267 rfl ?_ | refine Es_aload_nN (hC _) dX6_lay_267 rfl ?_
        refine Sg_X6_28 (hC _) fl_X6_77 dX6_lay_268 ?_
        refine Es_iload_n (hC _) dX6_lay_271 rfl ?_
        refine Es_iconst (v := -1) (hC _) dX6_lay_272 (by decide) ?_
        refine Es_iastN (hC _) dX6_lay_273 rfl (fun _ => rfl) rfl (by omega) (by decide) ?_
        have hct := hIH _ L _ _ _ _ _ (LI.tr (x := none) (c' := c) h hf hp hS1 hu hF1 hF2 (by omega))
        have hst : ∀ B3, LF (uB B1 58 0 p (oJ a none)) B3 (p + 1) → LF B B3 p := fun B3 q => LF.st hf q
        change Es _ _ _ _ _ _ _ _ (uB B1 58 0 p (oJ a none)) _ _ _
        generalize uB B1 58 0 p (oJ a none) = B2 at hct hst ⊢
        first | refine Es_aload_n (hC _) dX6_lay_274 rfl ?_ | refine Es_aload_nN (hC _) dX6_lay_274 rfl ?_
        refine Es_iload_n (hC _) dX6_lay_275 rfl ?_
        refine Es_iload_n (hC _) dX6_lay_276 rfl ?_
        refine Es_iconst (v := 1) (hC _) dX6_lay_277 (by decide) ?_
        refine Es_iadd (hC _) dX6_lay_278 ?_
        rw [nI_1]
        refine Es_iload_n (hC _) dX6_lay_279 rfl ?_
        refine Es_iload (hC _) dX6_lay_280 rfl ?_
        refine Es_iload (hC _) dX6_lay_282 rfl ?_
        refine Es_callV (hC _) mv_X6_182 dX6_lay_284 hct rfl rfl ⟨_, rfl, rfl⟩ rfl rfl (by omega) (Nat.le_of_ble_eq_true rfl) (fun v' B3 L3 q => ?_)
        obtain ⟨rfl, rfl, q1, q2⟩ := q
        exact Es_vret dX6_lay_287 ⟨rfl, rfl, hst B3 q1, by rw [hwm]; exact q2⟩
  | succ m ih =>
    intro k B1 hn hf hS1
    have hT1 := LT.f hf hT0
    have u31 := hT1.2.2.2.1
    have g39 : B1 39 0 (7 * w + p) = nI kd := by rw [hf.1 39 (by decide) (by decide) (by decide)]; exact t39
    have g57 : B1 57 0 k = nI (a k) := by rw [hf.1 57 (by decide) (by decide) (by decide)]; exact (t57 k (by omega)).1
    have ha40 := (t57 k (by omega)).2
    have f44 : B1 44 0 (a k) = B 44 0 (a k) := by rw [hf.1 44 (by decide) (by decide) (by decide)]
    obtain ⟨hcg, hE4, hE0, hEe⟩ := tk k (by omega)
    by_cases hbt : bt u k = true
    · skip
      refine Es_iload (hC _) dX6_lay_102 rfl ?_
      first | refine Es_aload_n (hC _) dX6_lay_104 rfl ?_ | refine Es_aload_nN (hC _) dX6_lay_104 rfl ?_
      refine Sg_X6_31 (hC _) fl_X6_176 dX6_lay_105 ?_
      rw [u31]
      refine Es_icmp_ge (hC _) 245 dX6_lay_108 (by decide) (fun hb108 => False.elim (nI_ge (b := D.K) (a := k) (by omega) (by omega) hb108)) (fun hb108 => ?_)
      refine Es_iload_n (hC _) dX6_lay_111 rfl ?_
      refine Es_iload (hC _) dX6_lay_112 rfl ?_
      refine Es_ishr (hC _) dX6_lay_114 ?_
      refine Es_iconst (v := 1) (hC _) dX6_lay_115 (by decide) ?_
      refine Es_iand (hC _) dX6_lay_116 ?_
      refine Es_iconst (v := 1) (hC _) dX6_lay_117 (by decide) ?_
      rw [bt_N (by omega) (by omega), if_pos hbt]
      refine Es_icmp_eq (hC _) 239 dX6_lay_118 (by decide) (fun hb118 => ?_) (fun hb118 => False.elim (hb118 rfl))
      refine Es_iinc (lv' := [_, _, _, _, _, _, _, _]) (hC _) dX6_lay_239 (by decide) rfl (show _ + Int32.ofInt (1) = _ + (1) from rfl) rfl rfl ?_
      refine Es_goto (hC _) 102 dX6_lay_242 (by decide) ?_
      rw [nI_1]
      refine ih (k + 1) B1 (by omega) hf ?_
      simp only [wyK]
      rw [if_pos (Or.inl hbt), List.append_nil]
      exact hS1
    · have hkk : ∀ B3, LF B B3 p → BS B3 P a (fW (wyK D (wys D n (p + 1)) p u (k + 1)) F c pre s) → Es (sCm yX6_lay cX6_lay 8 none (n + 3) ad nw nt (fun v B1 L1 => v = none ∧ L1 = L ∧ LF B B1 p ∧ BS B1 P a (fW (wys D (n + 1) p u) F c pre s))) 8 239 [some (.ref (ad 25 0)), some (.int (nI w)), some (.int (nI p)), some (.int (nI u)), some (.int (iE F)), some (.int (nI c)), some (.int (nI (7 * w + p))), some (.int (nI k))] [] ad nw nt B3 L bc bs := fun B3 q1 q2 => by
        skip
        refine Es_iinc (lv' := [_, _, _, _, _, _, _, _]) (hC _) dX6_lay_239 (by decide) rfl (show _ + Int32.ofInt (1) = _ + (1) from rfl) rfl rfl ?_
        refine Es_goto (hC _) 102 dX6_lay_242 (by decide) ?_
        rw [nI_1]
        exact ih (k + 1) B3 (by omega) q1 q2
      by_cases h0 : kd = 0
      · by_cases htr2 : 0 < B 44 0 (a k)
        · have hEz := hE0 h0 htr2
          refine Es_iload (hC _) dX6_lay_102 rfl ?_
          first | refine Es_aload_n (hC _) dX6_lay_104 rfl ?_ | refine Es_aload_nN (hC _) dX6_lay_104 rfl ?_
          refine Sg_X6_31 (hC _) fl_X6_176 dX6_lay_105 ?_
          rw [u31]
          refine Es_icmp_ge (hC _) 245 dX6_lay_108 (by decide) (fun hb108 => False.elim (nI_ge (b := D.K) (a := k) (by omega) (by omega) hb108)) (fun hb108 => ?_)
          refine Es_iload_n (hC _) dX6_lay_111 rfl ?_
          refine Es_iload (hC _) dX6_lay_112 rfl ?_
          refine Es_ishr (hC _) dX6_lay_114 ?_
          refine Es_iconst (v := 1) (hC _) dX6_lay_115 (by decide) ?_
          refine Es_iand (hC _) dX6_lay_116 ?_
          rw [bt_N (by omega) (by omega), if_neg hbt]
          refine Es_iconst (v := 1) (hC _) dX6_lay_117 (by decide) ?_
          refine Es_icmp_eq (hC _) 239 dX6_lay_118 (by decide) (fun hb118 => False.elim (absurd hb118 (by decide))) (fun hb118 => ?_)
          first | refine Es_aload_n (hC _) dX6_lay_121 rfl ?_ | refine Es_aload_nN (hC _) dX6_lay_121 rfl ?_
          refine Sg_X6_9 (hC _) fl_X6_26 dX6_lay_122 ?_
          refine Es_iload (hC _) dX6_lay_125 rfl ?_
          refine Es_ialdN (hC _) dX6_lay_127 rfl rfl rfl (by omega) (by decide) ?_
          rw [g39]
          refine Es_if_ne (hC _) 149 dX6_lay_128 (by decide) (fun hb128 => False.elim (hb128 (by rw [h0]; rfl))) (fun hb128 => ?_)
          first | refine Es_aload_n (hC _) dX6_lay_131 rfl ?_ | refine Es_aload_nN (hC _) dX6_lay_131 rfl ?_
          refine Sg_X6_14 (hC _) fl_X6_41 dX6_lay_132 ?_
          first | refine Es_aload_n (hC _) dX6_lay_135 rfl ?_ | refine Es_aload_nN (hC _) dX6_lay_135 rfl ?_
          refine Sg_X6_27 (hC _) fl_X6_74 dX6_lay_136 ?_
          refine Es_iload (hC _) dX6_lay_139 rfl ?_
          refine Es_ialdN (hC _) dX6_lay_141 rfl rfl rfl (by omega) (by decide) ?_
          rw [g57]
          refine Es_ialdN (hC _) dX6_lay_142 rfl rfl rfl (by omega) (by decide) ?_
          rw [f44]
          refine Es_if_le (hC _) 149 dX6_lay_143 (by decide) (fun hb143 => False.elim (Int32.not_lt.mpr hb143 htr2)) (fun hb143 => ?_)
          refine Es_goto (hC _) 239 dX6_lay_146 (by decide) ?_
          refine Es_iinc (lv' := [_, _, _, _, _, _, _, _]) (hC _) dX6_lay_239 (by decide) rfl (show _ + Int32.ofInt (1) = _ + (1) from rfl) rfl rfl ?_
          refine Es_goto (hC _) 102 dX6_lay_242 (by decide) ?_
          rw [nI_1]
          refine ih (k + 1) B1 (by omega) hf ?_
          simp only [wyK]
          rw [if_pos (Or.inr hEz), List.append_nil]
          exact hS1
        · skip
          refine Es_iload (hC _) dX6_lay_102 rfl ?_
          first | refine Es_aload_n (hC _) dX6_lay_104 rfl ?_ | refine Es_aload_nN (hC _) dX6_lay_104 rfl ?_
          refine Sg_X6_31 (hC _) fl_X6_176 dX6_lay_105 ?_
          rw [u31]
          refine Es_icmp_ge (hC _) 245 dX6_lay_108 (by decide) (fun hb108 => False.elim (nI_ge (b := D.K) (a := k) (by omega) (by omega) hb108)) (fun hb108 => ?_)
          refine Es_iload_n (hC _) dX6_lay_111 rfl ?_
          refine Es_iload (hC _) dX6_lay_112 rfl ?_
          refine Es_ishr (hC _) dX6_lay_114 ?_
          refine Es_iconst (v := 1) (hC _) dX6_lay_115 (by decide) ?_
          refine Es_iand (hC _) dX6_lay_116 ?_
          rw [bt_N (by omega) (by omega), if_neg hbt]
          refine Es_iconst (v := 1) (hC _) dX6_lay_117 (by decide) ?_
          refine Es_icmp_eq (hC _) 239 dX6_lay_118 (by decide) (fun hb118 => False.elim (absurd hb118 (by decide))) (fun hb118 => ?_)
          first | refine Es_aload_n (hC _) dX6_lay_121 rfl ?_ | refine Es_aload_nN (hC _) dX6_lay_121 rfl ?_
          refine Sg_X6_9 (hC _) fl_X6_26 dX6_lay_122 ?_
          refine Es_iload (hC _) dX6_lay_125 rfl ?_
          refine Es_ialdN (hC _) dX6_lay_127 rfl rfl rfl (by omega) (by decide) ?_
          rw [g39]
          refine Es_if_ne (hC _) 149 dX6_lay_128 (by decide) (fun hb128 => False.elim (hb128 (by rw [h0]; rfl))) (fun hb128 => ?_)
          first | refine Es_aload_n (hC _) dX6_lay_131 rfl ?_ | refine Es_aload_nN (hC _) dX6_lay_131 rfl ?_
          refine Sg_X6_14 (hC _) fl_X6_41 dX6_lay_132 ?_
          first | refine Es_aload_n (hC _) dX6_lay_135 rfl ?_ | refine Es_aload_nN (hC _) dX6_lay_135 rfl ?_
          refine Sg_X6_27 (hC _) fl_X6_74 dX6_lay_136 ?_
          refine Es_iload (hC _) dX6_lay_139 rfl ?_
          refine Es_ialdN (hC _) dX6_lay_141 rfl rfl rfl (by omega) (by decide) ?_
          rw [g57]
          refine Es_ialdN (hC _) dX6_lay_142 rfl rfl rfl (by omega) (by decide) ?_
          rw [f44]
          refine Es_if_le (hC _) 149 dX6_lay_143 (by decide) (fun hb143 => ?_) (fun hb143 => False.elim (hb143 (Int32.not_lt.mp htr2)))
          exact l_lay_k h hp hIH (by omega) hbt hkd hf hS1 g39 g57 hcg (Or.inr ⟨by omega, hEe (by omega) (fun z => htr2 z.2)⟩) hkk
      · skip
        refine Es_iload (hC _) dX6_lay_102 rfl ?_
        first | refine Es_aload_n (hC _) dX6_lay_104 rfl ?_ | refine Es_aload_nN (hC _) dX6_lay_104 rfl ?_
        refine Sg_X6_31 (hC _) fl_X6_176 dX6_lay_105 ?_
        rw [u31]
        refine Es_icmp_ge (hC _) 245 dX6_lay_108 (by decide) (fun hb108 => False.elim (nI_ge (b := D.K) (a := k) (by omega) (by omega) hb108)) (fun hb108 => ?_)
        refine Es_iload_n (hC _) dX6_lay_111 rfl ?_
        refine Es_iload (hC _) dX6_lay_112 rfl ?_
        refine Es_ishr (hC _) dX6_lay_114 ?_
        refine Es_iconst (v := 1) (hC _) dX6_lay_115 (by decide) ?_
        refine Es_iand (hC _) dX6_lay_116 ?_
        rw [bt_N (by omega) (by omega), if_neg hbt]
        refine Es_iconst (v := 1) (hC _) dX6_lay_117 (by decide) ?_
        refine Es_icmp_eq (hC _) 239 dX6_lay_118 (by decide) (fun hb118 => False.elim (absurd hb118 (by decide))) (fun hb118 => ?_)
        first | refine Es_aload_n (hC _) dX6_lay_121 rfl ?_ | refine Es_aload_nN (hC _) dX6_lay_121 rfl ?_
        refine Sg_X6_9 (hC _) fl_X6_26 dX6_lay_122 ?_
        refine Es_iload (hC _) dX6_lay_125 rfl ?_
        refine Es_ialdN (hC _) dX6_lay_127 rfl rfl rfl (by omega) (by decide) ?_
        rw [g39]
        refine Es_if_ne (hC _) 149 dX6_lay_128 (by decide) (fun hb128 => ?_) (fun hb128 => False.elim (h0 ((nI_eq (a := kd) (b := 0) (by omega) (by decide)).mp hb128)))
        exact l_lay_k h hp hIH (by omega) hbt hkd hf hS1 g39 g57 hcg (Classical.byCases (fun h4 => Or.inl ⟨h4, hE4 h4⟩) (fun h4 => Or.inr ⟨h4, hEe h4 (fun z => h0 z.1)⟩)) hkk
set_option maxRecDepth 100000 in
set_option maxHeartbeats 4000000 in
theorem r_lay {ad : sA} {nw nt : Nat} {D : TD} {a : Nat → Nat} {w P : Nat} : ∀ (n p : Nat), p + n = P → ∀ (B : sB) (L : sL) (u F c : Nat) (pre : List (Option Nat)) (s : Option Wy), LI B D a w P p u F c pre s → Cs yX6_lay cX6_lay 8 none (n + 2) [.ref (ad 25 0), .int (nI w), .int (nI p), .int (nI u), .int (iE F), .int (nI c)] ad nw nt B L (fun v B1 L1 => v = none ∧ L1 = L ∧ LF B B1 p ∧ BS B1 P a (fW (wys D n p u) F c pre s)) := by
  intro n
  induction n with
  | zero =>
    intro p hp B L u F c pre s h
    have hpP : p = P := by omega
    subst hpP
    exact r_lay_0 h
  | succ n ih =>
    intro p hn B L u F c pre s h
    have hIH := ih (p + 1) (by omega)
    have hC : ∀ Q, je_Ok (sCm yX6_lay cX6_lay 8 none (n + 3) ad nw nt Q) RX6 cX6_lay 8 (n + 3) := fun _ => je_Cm_ok
    refine Cs_of [some (.ref (ad 25 0)), some (.int (nI w)), some (.int (nI p)), some (.int (nI u)), some (.int (iE F)), some (.int (nI c)), none, none] (by decide) rfl (Nat.le_of_ble_eq_true rfl) ?_
    have hp7 : P ≤ 7 := h.1.2.1
    have hw5 : w < 5 := h.1.2.2.1
    refine Es_iload_n (hC _) dX6_lay_0 rfl ?_
    first | refine Es_aload_n (hC _) dX6_lay_1 rfl ?_ | refine Es_aload_nN (hC _) dX6_lay_1 rfl ?_
    refine Sg_X6_8 (hC _) fl_X6_23 dX6_lay_2 ?_
    refine Es_iload_n (hC _) dX6_lay_5 rfl ?_
    refine Es_ialdN (hC _) dX6_lay_6 rfl rfl rfl (by omega) (by decide) ?_
    rw [h.1.2.2.2.2.1]
    refine Es_icmp_ne (hC _) 92 dX6_lay_7 (by decide) (fun hb7 => ?_) (fun hb7 => False.elim (absurd ((nI_eq (by omega) (by omega)).mp hb7) (by omega)))
    refine Es_iload_n (hC _) dX6_lay_92 rfl ?_
    refine Es_iload_n (hC _) dX6_lay_93 rfl ?_
    refine Es_fS (hC _) ms_X6_97 dX6_lay_94 r_spot rfl rfl (by omega) (Nat.le_of_ble_eq_true rfl) ?_
    refine Es_istore (lv' := [_, _, _, _, _, _, _, _]) (hC _) dX6_lay_97 (by decide) rfl rfl ?_
    refine Es_iconst (v := 0) (hC _) dX6_lay_99 (by decide) ?_
    refine Es_istore (lv' := [_, _, _, _, _, _, _, _]) (hC _) dX6_lay_100 (by decide) rfl rfl ?_
    exact l_lay h (by omega) hIH D.K 0 B (by omega) (LF.rf _ _) h.2.2.2.2.2.2.2.2
