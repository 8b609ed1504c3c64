/-! ===== TURNING ABOUT: gather, weigh, findReach ===== -/
section ACM
variable {Cx : je_C} {own : String} {cc : ByteArray} {nL d pc bc bs : Nat} {lv : je_V0} {st : List Value} {ad : sA} {nw nt : Nat} {B : sB} {L : sL}
theorem Es_acmp_ne_rr (hC : je_Ok Cx own cc nL d) {t t' : Nat} {off : Int} (tgt : Nat) (hd : decode cc pc = .ok (.if_acmp .ne off, 3)) (htg : (pc : Int) + off = (tgt : Int)) (ht : t < nt) (ht' : t' < nt) (k1 : ¬ t = t' → Es Cx nL tgt lv st ad nw nt B L bc bs) (k2 : t = t' → Es Cx nL (pc + 3) lv st ad nw nt B L bc bs) : Es Cx nL pc lv (.ref (ad 21 t') :: .ref (ad 21 t) :: st) ad nw nt B L bc bs := fun h hs => En_acmp_ne (rx := some (ad 21 t)) (ry := some (ad 21 t')) hC tgt hd htg (fun q => k1 (fun e => q (by rw [e])) h hs) (fun q => k2 ((hs.2 21 t 21 t' (ok21 ht) (ok21 ht') (Option.some.inj q)).2) h hs)
theorem Es_acmp_ne_rn (hC : je_Ok Cx own cc nL d) {t : Nat} {off : Int} (tgt : Nat) (hd : decode cc pc = .ok (.if_acmp .ne off, 3)) (htg : (pc : Int) + off = (tgt : Int)) (k1 : Es Cx nL tgt lv st ad nw nt B L bc bs) : Es Cx nL pc lv (.null :: .ref (ad 21 t) :: st) ad nw nt B L bc bs := fun h hs => En_acmp_ne (rx := some (ad 21 t)) (ry := none) hC tgt hd htg (fun _ => k1 h hs) (fun q => by cases q)
theorem Es_acmp_eq_rr (hC : je_Ok Cx own cc nL d) {t t' : Nat} {off : Int} (tgt : Nat) (hd : decode cc pc = .ok (.if_acmp .eq off, 3)) (htg : (pc : Int) + off = (tgt : Int)) (ht : t < nt) (ht' : t' < nt) (k1 : t = t' → Es Cx nL tgt lv st ad nw nt B L bc bs) (k2 : ¬ t = t' → Es Cx nL (pc + 3) lv st ad nw nt B L bc bs) : Es Cx nL pc lv (.ref (ad 21 t') :: .ref (ad 21 t) :: st) ad nw nt B L bc bs := fun h hs => En_acmp_eq (rx := some (ad 21 t)) (ry := some (ad 21 t')) hC tgt hd htg (fun q => k1 ((hs.2 21 t 21 t' (ok21 ht) (ok21 ht') (Option.some.inj q)).2) h hs) (fun q => k2 (fun e => q (by rw [e])) h hs)
theorem Es_acmp_eq_rn (hC : je_Ok Cx own cc nL d) {t : Nat} {off : Int} (tgt : Nat) (hd : decode cc pc = .ok (.if_acmp .eq off, 3)) (htg : (pc : Int) + off = (tgt : Int)) (k2 : Es Cx nL (pc + 3) lv st ad nw nt B L bc bs) : Es Cx nL pc lv (.null :: .ref (ad 21 t) :: st) ad nw nt B L bc bs := fun h hs => En_acmp_eq (rx := some (ad 21 t)) (ry := none) hC tgt hd htg (fun q => by cases q) (fun _ => k2 h hs)
theorem Es_acmp_eq_nr (hC : je_Ok Cx own cc nL d) {t : Nat} {off : Int} (tgt : Nat) (hd : decode cc pc = .ok (.if_acmp .eq off, 3)) (htg : (pc : Int) + off = (tgt : Int)) (k2 : Es Cx nL (pc + 3) lv st ad nw nt B L bc bs) : Es Cx nL pc lv (.ref (ad 21 t) :: .null :: st) ad nw nt B L bc bs := fun h hs => En_acmp_eq (rx := none) (ry := some (ad 21 t)) hC tgt hd htg (fun q => by cases q) (fun _ => k2 h hs)
theorem Es_acmp_eq_nn (hC : je_Ok Cx own cc nL d) {off : Int} (tgt : Nat) (hd : decode cc pc = .ok (.if_acmp .eq off, 3)) (htg : (pc : Int) + off = (tgt : Int)) (k1 : Es Cx nL tgt lv st ad nw nt B L bc bs) : Es Cx nL pc lv (.null :: .null :: st) ad nw nt B L bc bs := fun h hs => En_acmp_eq (rx := none) (ry := none) hC tgt hd htg (fun _ => k1 h hs) (fun q => (q rfl).elim)
end ACM
/-- strictly rising -/
def SM (a : Nat → Nat) (K : Nat) : Prop := ∀ i j, i < j → j < K → a i < a j
def inA (a : Nat → Nat) (k t : Nat) : Nat → Nat := fun i => if i < k then a i else if i = k then t else a (i - 1)
theorem SM_in {a : Nat → Nat} {K k t : Nat} (h : SM a K) (hk : k ≤ K) (h1 : ∀ i, i < k → a i < t) (h2 : ∀ i, k ≤ i → i < K → t < a i) : SM (inA a k t) (K + 1) := by
  intro i j hij hj
  unfold inA
  by_cases hi : i < k
  · rw [if_pos hi]
    by_cases hj1 : j < k
    · rw [if_pos hj1]
      exact h i j hij (by omega)
    · rw [if_neg hj1]
      by_cases hj2 : j = k
      · rw [if_pos hj2]
        exact h1 i hi
      · rw [if_neg hj2]
        exact h i (j - 1) (by omega) (by omega)
  · rw [if_neg hi, if_neg (show ¬ j < k by omega), if_neg (show ¬ j = k by omega)]
    by_cases hi2 : i = k
    · rw [if_pos hi2]
      exact h2 (j - 1) (by omega) (by omega)
    · rw [if_neg hi2]
      exact h (i - 1) (j - 1) (by omega) (by omega)
theorem SM_inj {a : Nat → Nat} {K i j : Nat} (h : SM a K) (hi : i < K) (hj : j < K) (e : a i = a j) : i = j := by
  rcases Nat.lt_trichotomy i j with q | q | q
  · have := h i j q hj
    omega
  · exact q
  · have := h j i q hi
    omega
theorem in_mem {a : Nat → Nat} {K k t x : Nat} (hk : k ≤ K) : (∃ i, i < K + 1 ∧ inA a k t i = x) ↔ (∃ i, i < K ∧ a i = x) ∨ x = t := by
  constructor
  · rintro ⟨i, h1, h2⟩
    unfold inA at h2
    by_cases hi : i < k
    · rw [if_pos hi] at h2
      exact Or.inl ⟨i, by omega, h2⟩
    · rw [if_neg hi] at h2
      by_cases hi2 : i = k
      · rw [if_pos hi2] at h2
        exact Or.inr h2.symm
      · rw [if_neg hi2] at h2
        exact Or.inl ⟨i - 1, by omega, h2⟩
  · rintro (⟨i, h1, h2⟩ | h)
    · by_cases hi : i < k
      · refine ⟨i, by omega, ?_⟩
        unfold inA
        rw [if_pos hi]
        exact h2
      · refine ⟨i + 1, by omega, ?_⟩
        unfold inA
        rw [if_neg (by omega), if_neg (by omega)]
        exact h2
    · refine ⟨k, by omega, ?_⟩
      unfold inA
      rw [if_neg (by omega), if_pos rfl]
      exact h.symm
/-- two risings of the same numbers are one -/
theorem SM_uniq {a b : Nat → Nat} {K M : Nat} (ha : SM a K) (hb : SM b M) (h : ∀ x, (∃ i, i < K ∧ a i = x) ↔ ∃ i, i < M ∧ b i = x) : ∀ n i, i < n → i < K → i < M ∧ b i = a i
  | 0, i, h0, _ => by omega
  | n + 1, i, hn, hi => by
    have ih := SM_uniq ha hb h n
    obtain ⟨j, hj, e⟩ := (h (a i)).mp ⟨i, hi, rfl⟩
    have hji : ¬ j < i := fun z => by
      have := (ih j (by omega) (by omega)).2
      have := ha j i z hi
      omega
    have hiM : i < M := by omega
    refine ⟨hiM, ?_⟩
    obtain ⟨l, hl, e2⟩ := (h (b i)).mpr ⟨i, hiM, rfl⟩
    have hli : ¬ l < i := fun z => by
      have h1 := (ih l (by omega) (by omega)).2
      have := hb l i z hiM
      omega
    have h1 : b i ≤ b j := by
      rcases Nat.lt_or_ge i j with q | q
      · exact Nat.le_of_lt (hb i j q hj)
      · have : i = j := by omega
        rw [this]
        exact Nat.le_refl _
    have h2 : a i ≤ a l := by
      rcases Nat.lt_or_ge i l with q | q
      · exact Nat.le_of_lt (ha i l q hl)
      · have : i = l := by omega
        rw [this]
        exact Nat.le_refl _
    omega
theorem SM_same {a b : Nat → Nat} {K M : Nat} (ha : SM a K) (hb : SM b M) (h : ∀ x, (∃ i, i < K ∧ a i = x) ↔ ∃ i, i < M ∧ b i = x) : K = M ∧ ∀ i, i < K → b i = a i := by
  have h1 := SM_uniq ha hb h
  have h2 := SM_uniq hb ha (fun x => (h x).symm)
  refine ⟨?_, fun i hi => (h1 (i + 1) i (by omega) hi).2⟩
  rcases Nat.lt_trichotomy K M with q | q | q
  · have := (h2 (K + 1) K (by omega) q).1
    omega
  · exact q
  · have := (h1 (M + 1) M (by omega) q).1
    omega
/-- the tyres that the class has gathered -/
def TL (nt : Nat) (B : sB) (a : Nat → Nat) (K : Nat) : Prop := B 10 0 6 = nI K ∧ K ≤ 7 ∧ SM a K ∧ ∀ i, i < K → B 11 0 i = nI (a i) ∧ a i < nt
set_option maxRecDepth 100000 in
set_option maxHeartbeats 4000000 in
theorem l_ins {ad : sA} {nw nt : Nat} {B : sB} {L : sL} {bc bs : Nat} {a : Nat → Nat} {K t : Nat} (h40 : nt ≤ 40) (hTL : TL nt B a K) (hK : K < 7) (ht : t < nt) (hnum : ∀ x, x < nt → B 21 x 0 = nI x) (hno : ∀ i, i < K → a i ≠ t) : ∀ (k : Nat) (B1 : sB), k ≤ K → (∀ q, q ≠ 11 → B1 q = B q) → (∀ i, i < k → B1 11 0 i = nI (a i)) → (∀ i, k ≤ i → i < K → B1 11 0 (i + 1) = nI (a i)) → (∀ i, k ≤ i → i < K → t < a i) → Es (sCm yX1_insert cX1_insert 4 none 0 ad nw nt (fun v B1 L1 => v = none ∧ L1 = L ∧ (∀ q, q ≠ 10 → q ≠ 11 → B1 q = B q) ∧ (∀ i, i ≠ 6 → B1 10 0 i = B 10 0 i) ∧ ∃ k, k ≤ K ∧ TL nt B1 (inA a k t) (K + 1))) 4 5 [some (.ref (ad 10 0)), some (.ref (ad 21 t)), some (.int (nI k)), none] [] ad nw nt B1 L bc bs := by
  have hC : ∀ Q, je_Ok (sCm yX1_insert cX1_insert 4 none 0 ad nw nt Q) RX1 cX1_insert 4 0 := fun _ => je_Cm_ok
  obtain ⟨t6, hK7, hSM, hall⟩ := hTL
  have hnt : ∀ i, i < K → a i < nt := fun i hi => (hall i hi).2
  intro k
  induction k with
  | zero =>
    intro B1 hk hfr hlo hhi hgt
    have hlt : ∀ i, i < 0 → a i < t := fun i hi => by omega
    have fin : (∀ q, q ≠ 10 → q ≠ 11 → uB (uB B1 11 0 0 (nI t)) 10 0 6 (nI (K + 1)) q = B q) ∧ (∀ i, i ≠ 6 → uB (uB B1 11 0 0 (nI t)) 10 0 6 (nI (K + 1)) 10 0 i = B 10 0 i) ∧ ∃ k0, k0 ≤ K ∧ TL nt (uB (uB B1 11 0 0 (nI t)) 10 0 6 (nI (K + 1))) (inA a k0 t) (K + 1) := by
      refine ⟨fun q h1 h2 => (by rw [uB_k h1, uB_k h2]; exact hfr q h2), fun i h1 => (by rw [uB_n (by omega), uB_k (by decide), hfr 10 (by decide)]), 0, by omega, uB_s _ _ _ _ _, by omega, SM_in hSM (by omega) hlt hgt, fun i hi => ?_⟩
      rw [uB_k (by decide)]
      unfold inA
      by_cases h1 : i < 0
      · rw [if_pos h1, uB_n (by omega)]
        exact ⟨hlo i h1, hnt i (by omega)⟩
      · rw [if_neg h1]
        by_cases h2 : i = 0
        · rw [if_pos h2, h2, uB_s]
          exact ⟨rfl, ht⟩
        · rw [if_neg h2, uB_n (by omega)]
          have := hhi (i - 1) (by omega) (by omega)
          rw [show i - 1 + 1 = i by omega] at this
          exact ⟨this, hnt (i - 1) (by omega)⟩
    refine Es_iload_n (hC _) dX1_insert_5 rfl ?_
    refine Es_if_le (hC _) 58 dX1_insert_6 (by decide) (fun hb6 => ?_) (fun hb6 => False.elim (hb6 (by decide)))
    refine Es_iload_n (hC _) dX1_insert_58 rfl ?_
    refine Es_if_lt (hC _) 88 dX1_insert_59 (by decide) (fun hb59 => False.elim (nI_pos (by omega) hb59)) (fun hb59 => ?_)
    refine Es_iload_n (hC _) dX1_insert_62 rfl ?_
    first | refine Es_aload_n (hC _) dX1_insert_63 rfl ?_ | refine Es_aload_nN (hC _) dX1_insert_63 rfl ?_
    refine Sg_X1_0 (hC _) fl_X1_11 dX1_insert_64 ?_
    refine Es_alen (hC _) dX1_insert_67 rfl rfl (by decide) ?_
    refine Es_icmp_ge (hC _) 88 dX1_insert_68 (by decide) (fun hb68 => False.elim (nI_ge (b := 7) (a := 0) (by omega) (by decide) hb68)) (fun hb68 => ?_)
    first | refine Es_aload_n (hC _) dX1_insert_71 rfl ?_ | refine Es_aload_nN (hC _) dX1_insert_71 rfl ?_
    refine Sg_X1_0 (hC _) fl_X1_11 dX1_insert_72 ?_
    refine Es_iload_n (hC _) dX1_insert_75 rfl ?_
    first | refine Es_aload_n (hC _) dX1_insert_76 rfl ?_ | refine Es_aload_nN (hC _) dX1_insert_76 rfl ?_
    refine Es_aastK (hC _) dX1_insert_77 rfl (fun _ => rfl) rfl (by omega) ht (by omega) ?_
    first | refine Es_aload_n (hC _) dX1_insert_78 rfl ?_ | refine Es_aload_nN (hC _) dX1_insert_78 rfl ?_
    refine Es_dup (hC _) dX1_insert_79 rfl ?_
    refine Sg_X1_6 (hC _) fl_X1_50 dX1_insert_80 ?_
    rw [uB_n (by omega), hfr 10 (by decide), t6]
    refine Es_iconst (v := 1) (hC _) dX1_insert_83 (by decide) ?_
    refine Es_iadd (hC _) dX1_insert_84 ?_
    rw [nI_1]
    refine Sp_X1_6 (hC _) fl_X1_50 dX1_insert_85 ?_
    exact Es_vret dX1_insert_88 ⟨rfl, rfl, fin⟩
  | succ k ih =>
    intro B1 hk hfr hlo hhi hgt
    have hak := hnt k (by omega)
    by_cases hc : a k < t
    · have hlt : ∀ i, i < k + 1 → a i < t := fun i hi => by
        by_cases he : i = k
        · rw [he]
          exact hc
        · have := hSM i k (by omega) (by omega)
          omega
      have fin : (∀ q, q ≠ 10 → q ≠ 11 → uB (uB B1 11 0 (k + 1) (nI t)) 10 0 6 (nI (K + 1)) q = B q) ∧ (∀ i, i ≠ 6 → uB (uB B1 11 0 (k + 1) (nI t)) 10 0 6 (nI (K + 1)) 10 0 i = B 10 0 i) ∧ ∃ k0, k0 ≤ K ∧ TL nt (uB (uB B1 11 0 (k + 1) (nI t)) 10 0 6 (nI (K + 1))) (inA a k0 t) (K + 1) := by
        refine ⟨fun q h1 h2 => (by rw [uB_k h1, uB_k h2]; exact hfr q h2), fun i h1 => (by rw [uB_n (by omega), uB_k (by decide), hfr 10 (by decide)]), (k + 1), by omega, uB_s _ _ _ _ _, by omega, SM_in hSM (by omega) hlt hgt, fun i hi => ?_⟩
        rw [uB_k (by decide)]
        unfold inA
        by_cases h1 : i < (k + 1)
        · rw [if_pos h1, uB_n (by omega)]
          exact ⟨hlo i h1, hnt i (by omega)⟩
        · rw [if_neg h1]
          by_cases h2 : i = (k + 1)
          · rw [if_pos h2, h2, uB_s]
            exact ⟨rfl, ht⟩
          · rw [if_neg h2, uB_n (by omega)]
            have := hhi (i - 1) (by omega) (by omega)
            rw [show i - 1 + 1 = i by omega] at this
            exact ⟨this, hnt (i - 1) (by omega)⟩
      refine Es_iload_n (hC _) dX1_insert_5 rfl ?_
      refine Es_if_le (hC _) 58 dX1_insert_6 (by decide) (fun hb6 => False.elim (nI_nle (by omega) (by omega) hb6)) (fun hb6 => ?_)
      refine Es_iload_n (hC _) dX1_insert_9 rfl ?_
      first | refine Es_aload_n (hC _) dX1_insert_10 rfl ?_ | refine Es_aload_nN (hC _) dX1_insert_10 rfl ?_
      refine Sg_X1_0 (hC _) fl_X1_11 dX1_insert_11 ?_
      refine Es_alen (hC _) dX1_insert_14 rfl rfl (by decide) ?_
      refine Es_icmp_ge (hC _) 58 dX1_insert_15 (by decide) (fun hb15 => False.elim (nI_ge (b := 7) (a := k + 1) (by omega) (by decide) hb15)) (fun hb15 => ?_)
      first | refine Es_aload_n (hC _) dX1_insert_18 rfl ?_ | refine Es_aload_nN (hC _) dX1_insert_18 rfl ?_
      refine Sg_X1_0 (hC _) fl_X1_11 dX1_insert_19 ?_
      refine Es_iload_n (hC _) dX1_insert_22 rfl ?_
      refine Es_iconst (v := 1) (hC _) dX1_insert_23 (by decide) ?_
      refine Es_isub (hC _) dX1_insert_24 ?_
      refine Es_aaldN (hC _) (Or.inl rfl) dX1_insert_25 rfl rfl (nI_pred _) (by omega) (by decide) (show va_rf (rT ad (B1 11 0 k)) = .ref (ad 21 (a k)) by rw [hlo k (by omega), rT, if_neg (nI_pos (by omega)), nI_clamp (by omega)]; rfl) ?_
      first | refine Es_astore_n (lv' := [_, _, _, _]) (hC _) dX1_insert_26 (by decide) rfl rfl ?_ | refine Es_astore_nN (lv' := [_, _, _, _]) (hC _) dX1_insert_26 (by decide) rfl rfl ?_
      first | refine Es_aload_n (hC _) dX1_insert_27 rfl ?_ | refine Es_aload_nN (hC _) dX1_insert_27 rfl ?_
      refine Es_ifnull (hC _) dX1_insert_28 ?_
      first | refine Es_aload_n (hC _) dX1_insert_31 rfl ?_ | refine Es_aload_nN (hC _) dX1_insert_31 rfl ?_
      refine Sg_X2_0 (hC _) fl_X1_91 dX1_insert_32 (hnt k (by omega)) ?_
      first | refine Es_aload_n (hC _) dX1_insert_35 rfl ?_ | refine Es_aload_nN (hC _) dX1_insert_35 rfl ?_
      refine Sg_X2_0 (hC _) fl_X1_91 dX1_insert_36 ht ?_
      rw [hfr 21 (by decide), hnum _ hak, hnum _ ht]
      refine Es_icmp_ge (hC _) 45 dX1_insert_39 (by decide) (fun hb39 => False.elim (nI_ge (b := t) (a := a k) hc (by omega) hb39)) (fun hb39 => ?_)
      refine Es_goto (hC _) 58 dX1_insert_42 (by decide) ?_
      refine Es.kill 3 (lv' := [_, _, _, _]) rfl ?_
      refine Es_iload_n (hC _) dX1_insert_58 rfl ?_
      refine Es_if_lt (hC _) 88 dX1_insert_59 (by decide) (fun hb59 => False.elim (nI_pos (by omega) hb59)) (fun hb59 => ?_)
      refine Es_iload_n (hC _) dX1_insert_62 rfl ?_
      first | refine Es_aload_n (hC _) dX1_insert_63 rfl ?_ | refine Es_aload_nN (hC _) dX1_insert_63 rfl ?_
      refine Sg_X1_0 (hC _) fl_X1_11 dX1_insert_64 ?_
      refine Es_alen (hC _) dX1_insert_67 rfl rfl (by decide) ?_
      refine Es_icmp_ge (hC _) 88 dX1_insert_68 (by decide) (fun hb68 => False.elim (nI_ge (b := 7) (a := k + 1) (by omega) (by decide) hb68)) (fun hb68 => ?_)
      first | refine Es_aload_n (hC _) dX1_insert_71 rfl ?_ | refine Es_aload_nN (hC _) dX1_insert_71 rfl ?_
      refine Sg_X1_0 (hC _) fl_X1_11 dX1_insert_72 ?_
      refine Es_iload_n (hC _) dX1_insert_75 rfl ?_
      first | refine Es_aload_n (hC _) dX1_insert_76 rfl ?_ | refine Es_aload_nN (hC _) dX1_insert_76 rfl ?_
      refine Es_aastK (hC _) dX1_insert_77 rfl (fun _ => rfl) rfl (by omega) ht (by omega) ?_
      first | refine Es_aload_n (hC _) dX1_insert_78 rfl ?_ | refine Es_aload_nN (hC _) dX1_insert_78 rfl ?_
      refine Es_dup (hC _) dX1_insert_79 rfl ?_
      refine Sg_X1_6 (hC _) fl_X1_50 dX1_insert_80 ?_
      rw [uB_n (by omega), hfr 10 (by decide), t6]
      refine Es_iconst (v := 1) (hC _) dX1_insert_83 (by decide) ?_
      refine Es_iadd (hC _) dX1_insert_84 ?_
      rw [nI_1]
      refine Sp_X1_6 (hC _) fl_X1_50 dX1_insert_85 ?_
      exact Es_vret dX1_insert_88 ⟨rfl, rfl, fin⟩
    · have hne := hno k (by omega)
      refine Es_iload_n (hC _) dX1_insert_5 rfl ?_
      refine Es_if_le (hC _) 58 dX1_insert_6 (by decide) (fun hb6 => False.elim (nI_nle (by omega) (by omega) hb6)) (fun hb6 => ?_)
      refine Es_iload_n (hC _) dX1_insert_9 rfl ?_
      first | refine Es_aload_n (hC _) dX1_insert_10 rfl ?_ | refine Es_aload_nN (hC _) dX1_insert_10 rfl ?_
      refine Sg_X1_0 (hC _) fl_X1_11 dX1_insert_11 ?_
      refine Es_alen (hC _) dX1_insert_14 rfl rfl (by decide) ?_
      refine Es_icmp_ge (hC _) 58 dX1_insert_15 (by decide) (fun hb15 => False.elim (nI_ge (b := 7) (a := k + 1) (by omega) (by decide) hb15)) (fun hb15 => ?_)
      first | refine Es_aload_n (hC _) dX1_insert_18 rfl ?_ | refine Es_aload_nN (hC _) dX1_insert_18 rfl ?_
      refine Sg_X1_0 (hC _) fl_X1_11 dX1_insert_19 ?_
      refine Es_iload_n (hC _) dX1_insert_22 rfl ?_
      refine Es_iconst (v := 1) (hC _) dX1_insert_23 (by decide) ?_
      refine Es_isub (hC _) dX1_insert_24 ?_
      refine Es_aaldN (hC _) (Or.inl rfl) dX1_insert_25 rfl rfl (nI_pred _) (by omega) (by decide) (show va_rf (rT ad (B1 11 0 k)) = .ref (ad 21 (a k)) by rw [hlo k (by omega), rT, if_neg (nI_pos (by omega)), nI_clamp (by omega)]; rfl) ?_
      first | refine Es_astore_n (lv' := [_, _, _, _]) (hC _) dX1_insert_26 (by decide) rfl rfl ?_ | refine Es_astore_nN (lv' := [_, _, _, _]) (hC _) dX1_insert_26 (by decide) rfl rfl ?_
      first | refine Es_aload_n (hC _) dX1_insert_27 rfl ?_ | refine Es_aload_nN (hC _) dX1_insert_27 rfl ?_
      refine Es_ifnull (hC _) dX1_insert_28 ?_
      first | refine Es_aload_n (hC _) dX1_insert_31 rfl ?_ | refine Es_aload_nN (hC _) dX1_insert_31 rfl ?_
      refine Sg_X2_0 (hC _) fl_X1_91 dX1_insert_32 (hnt k (by omega)) ?_
      first | refine Es_aload_n (hC _) dX1_insert_35 rfl ?_ | refine Es_aload_nN (hC _) dX1_insert_35 rfl ?_
      refine Sg_X2_0 (hC _) fl_X1_91 dX1_insert_36 ht ?_
      rw [hfr 21 (by decide), hnum _ hak, hnum _ ht]
      refine Es_icmp_ge (hC _) 45 dX1_insert_39 (by decide) (fun hb39 => ?_) (fun hb39 => False.elim (hb39 (nI_le (a := t) (b := a k) (by omega) (by omega))))
      first | refine Es_aload_n (hC _) dX1_insert_45 rfl ?_ | refine Es_aload_nN (hC _) dX1_insert_45 rfl ?_
      refine Sg_X1_0 (hC _) fl_X1_11 dX1_insert_46 ?_
      refine Es_iload_n (hC _) dX1_insert_49 rfl ?_
      first | refine Es_aload_n (hC _) dX1_insert_50 rfl ?_ | refine Es_aload_nN (hC _) dX1_insert_50 rfl ?_
      refine Es_aastK (hC _) dX1_insert_51 rfl (fun _ => rfl) rfl (by omega) hak (by omega) ?_
      refine Es_iinc (lv' := [_, _, _, _]) (hC _) dX1_insert_52 (by decide) rfl (show _ + Int32.ofInt (-1) = _ + (-1) from rfl) rfl rfl ?_
      refine Es_goto (hC _) 5 dX1_insert_55 (by decide) ?_
      refine Es.kill 3 (lv' := [_, _, _, _]) rfl ?_
      rw [show nI (k + 1) + (-1) = nI k from pk_m1 k]
      refine ih _ (by omega) (fun q h1 => (by rw [uB_k h1]; exact hfr q h1)) (fun i hi => (by rw [uB_n (by omega)]; exact hlo i (by omega))) (fun i h1 h2 => ?_) (fun i h1 h2 => ?_)
      · by_cases he : i = k
        · rw [he, uB_s]
        · rw [uB_n (by omega)]
          exact hhi i (by omega) h2
      · by_cases he : i = k
        · rw [he]
          omega
        · exact hgt i (by omega) h2
set_option maxRecDepth 100000 in
set_option maxHeartbeats 4000000 in
theorem c_insert {ad : sA} {nw nt : Nat} {B : sB} {L : sL} {a : Nat → Nat} {K t : Nat} (h40 : nt ≤ 40) (hTL : TL nt B a K) (hK : K < 7) (ht : t < nt) (hnum : ∀ x, x < nt → B 21 x 0 = nI x) (hno : ∀ i, i < K → a i ≠ t) : Cs yX1_insert cX1_insert 4 none 0 [.ref (ad 10 0), .ref (ad 21 t)] ad nw nt (B) (L) (fun v B1 L1 => v = none ∧ L1 = L ∧ (∀ q, q ≠ 10 → q ≠ 11 → B1 q = B q) ∧ (∀ i, i ≠ 6 → B1 10 0 i = B 10 0 i) ∧ ∃ k, k ≤ K ∧ TL nt B1 (inA a k t) (K + 1)) := by
  have hC : ∀ Q, je_Ok (sCm yX1_insert cX1_insert 4 none 0 ad nw nt Q) RX1 cX1_insert 4 0 := fun _ => je_Cm_ok
  refine Cs_of [some (.ref (ad 10 0)), some (.ref (ad 21 t)), none, none] (by decide) rfl (Nat.le_of_ble_eq_true rfl) ?_
  first | refine Es_aload_n (hC _) dX1_insert_0 rfl ?_ | refine Es_aload_nN (hC _) dX1_insert_0 rfl ?_
  refine Sg_X1_6 (hC _) fl_X1_50 dX1_insert_1 ?_
  rw [hTL.1]
  refine Es_istore_n (lv' := [_, _, _, _]) (hC _) dX1_insert_4 (by decide) rfl rfl ?_
  exact l_ins h40 hTL hK ht hnum hno K B (Nat.le_refl _) (fun _ _ => rfl) (fun i hi => (hTL.2.2.2 i hi).1) (fun i h1 h2 => by omega) (fun i h1 h2 => by omega)

/-- the places of a wagon hold different tyres -/
def oInj (B : sB) (w p : Nat) : Prop := ∀ q q' t, q < p → q' < p → t < 2 ^ 31 → B 20 w q = nI t → B 20 w q' = nI t → q = q'
/-- the tyres on the first i places -/
def onS (nt : Nat) (B : sB) (w i : Nat) (x : Nat) : Prop := x < nt ∧ ∃ q, q < i ∧ B 20 w q = nI x
def fT (B B1 : sB) : Prop := ∀ q, (q < 10 ∨ 16 < q) → B1 q = B q
set_option maxRecDepth 100000 in
set_option maxHeartbeats 4000000 in
theorem l_gat {ad : sA} {nw nt : Nat} {B : sB} {L : sL} {bc bs : Nat} {w p : Nat} (h40 : nt ≤ 40) (hw : w < nw) (hW : PW nt B w p) (hnum : ∀ x, x < nt → B 21 x 0 = nI x) (hinj : oInj B w p) : ∀ (n i : Nat) (B1 : sB) (a : Nat → Nat) (K : Nat), i + n = p → (∀ q, q ≠ 10 → q ≠ 11 → B1 q = B q) → B1 10 0 7 = nI p → TL nt B1 a K → K ≤ i → (∀ x, (∃ j, j < K ∧ a j = x) ↔ onS nt B w i x) → Es (sCm yX1_gather cX1_gather 4 none 2 ad nw nt (fun v B1 L1 => v = none ∧ L1 = L ∧ (∀ q, q ≠ 10 → q ≠ 11 → B1 q = B q) ∧ B1 10 0 7 = nI p ∧ ∃ a K, TL nt B1 a K ∧ ∀ x, (∃ j, j < K ∧ a j = x) ↔ onS nt B w p x)) 4 7 [some (.ref (ad 10 0)), some (.ref (ad 18 w)), some (.int (nI i)), none] [] ad nw nt B1 L bc bs := by
  have hC : ∀ Q, je_Ok (sCm yX1_gather cX1_gather 4 none 2 ad nw nt Q) RX1 cX1_gather 4 2 := fun _ => je_Cm_ok
  have hp7 := hW.1
  intro n
  induction n with
  | zero =>
    intro i B1 a K hn hfr h7 hTL hKi hm
    have hip : i = p := by omega
    subst hip
    refine Es_iload_n (hC _) dX1_gather_7 rfl ?_
    first | refine Es_aload_n (hC _) dX1_gather_8 rfl ?_ | refine Es_aload_nN (hC _) dX1_gather_8 rfl ?_
    refine Sg_X1_7 (hC _) fl_X1_45 dX1_gather_9 ?_
    rw [h7]
    refine Es_icmp_ge (hC _) 36 dX1_gather_12 (by decide) (fun hb12 => ?_) (fun hb12 => False.elim (hb12 (nI_le (Nat.le_refl _) (by omega))))
    exact Es_vret dX1_gather_36 ⟨rfl, rfl, hfr, h7, a, K, hTL, hm⟩
  | succ n ih =>
    intro i B1 a K hn hfr h7 hTL hKi hm
    rcases (hW.2.2 i (by omega)).2 with hon | ⟨t, ht, hon⟩
    · have hm2 : ∀ x, (∃ j, j < K ∧ a j = x) ↔ onS nt B w (i + 1) x := fun x => by
        rw [hm x]
        constructor
        · rintro ⟨h1, q, h2, h3⟩
          exact ⟨h1, q, by omega, h3⟩
        · rintro ⟨h1, q, h2, h3⟩
          refine ⟨h1, q, ?_, h3⟩
          have : q ≠ i := fun z => by
            rw [z, hon] at h3
            exact nI_m1 (by omega) h3.symm
          omega
      refine Es_iload_n (hC _) dX1_gather_7 rfl ?_
      first | refine Es_aload_n (hC _) dX1_gather_8 rfl ?_ | refine Es_aload_nN (hC _) dX1_gather_8 rfl ?_
      refine Sg_X1_7 (hC _) fl_X1_45 dX1_gather_9 ?_
      rw [h7]
      refine Es_icmp_ge (hC _) 36 dX1_gather_12 (by decide) (fun hb12 => False.elim (nI_ge (b := p) (a := i) (by omega) (by omega) hb12)) (fun hb12 => ?_)
      first | refine Es_aload_n (hC _) dX1_gather_15 rfl ?_ | refine Es_aload_nN (hC _) dX1_gather_15 rfl ?_
      refine Es_iload_n (hC _) dX1_gather_16 rfl ?_
      refine Es_fV (hC _) mv_X1_84 dX1_gather_17 (c_tyreOn_in hw (by rw [hfr 18 (by decide) (by decide)]; exact hW.2.1) hW.1 (by omega)) (ok18 hw) rfl ⟨_, rfl, rfl⟩ rfl rfl (by decide) (Nat.le_of_ble_eq_true rfl) ?_
      rw [show rT ad (B1 20 w i) = none by rw [hfr 20 (by decide) (by decide), hon]; rfl]
      first | refine Es_astore_n (lv' := [_, _, _, _]) (hC _) dX1_gather_20 (by decide) rfl rfl ?_ | refine Es_astore_nN (lv' := [_, _, _, _]) (hC _) dX1_gather_20 (by decide) rfl rfl ?_
      first | refine Es_aload_n (hC _) dX1_gather_21 rfl ?_ | refine Es_aload_nN (hC _) dX1_gather_21 rfl ?_
      refine Es_ifnullN (hC _) 30 dX1_gather_22 (by decide) ?_
      refine Es_iinc (lv' := [_, _, _, _]) (hC _) dX1_gather_30 (by decide) rfl (show _ + Int32.ofInt (1) = _ + (1) from rfl) rfl rfl ?_
      refine Es_goto (hC _) 7 dX1_gather_33 (by decide) ?_
      refine Es.kill 3 (lv' := [_, _, _, _]) rfl ?_
      rw [nI_1]
      exact ih (i + 1) B1 a K (by omega) hfr h7 hTL (by omega) hm2
    · have hno : ∀ j, j < K → a j ≠ t := fun j hj e => by
        obtain ⟨h1, q, h2, h3⟩ := (hm t).mp ⟨j, hj, e⟩
        have := hinj q i t (by omega) (by omega) (by omega) h3 hon
        omega
      refine Es_iload_n (hC _) dX1_gather_7 rfl ?_
      first | refine Es_aload_n (hC _) dX1_gather_8 rfl ?_ | refine Es_aload_nN (hC _) dX1_gather_8 rfl ?_
      refine Sg_X1_7 (hC _) fl_X1_45 dX1_gather_9 ?_
      rw [h7]
      refine Es_icmp_ge (hC _) 36 dX1_gather_12 (by decide) (fun hb12 => False.elim (nI_ge (b := p) (a := i) (by omega) (by omega) hb12)) (fun hb12 => ?_)
      first | refine Es_aload_n (hC _) dX1_gather_15 rfl ?_ | refine Es_aload_nN (hC _) dX1_gather_15 rfl ?_
      refine Es_iload_n (hC _) dX1_gather_16 rfl ?_
      refine Es_fV (hC _) mv_X1_84 dX1_gather_17 (c_tyreOn_in hw (by rw [hfr 18 (by decide) (by decide)]; exact hW.2.1) hW.1 (by omega)) (ok18 hw) rfl ⟨_, rfl, rfl⟩ rfl rfl (by decide) (Nat.le_of_ble_eq_true rfl) ?_
      rw [show rT ad (B1 20 w i) = some (ad 21 t) by rw [hfr 20 (by decide) (by decide), hon, rT, if_neg (nI_pos (by omega)), nI_clamp (by omega)]]
      first | refine Es_astore_n (lv' := [_, _, _, _]) (hC _) dX1_gather_20 (by decide) rfl rfl ?_ | refine Es_astore_nN (lv' := [_, _, _, _]) (hC _) dX1_gather_20 (by decide) rfl rfl ?_
      first | refine Es_aload_n (hC _) dX1_gather_21 rfl ?_ | refine Es_aload_nN (hC _) dX1_gather_21 rfl ?_
      refine Es_ifnull (hC _) dX1_gather_22 ?_
      first | refine Es_aload_n (hC _) dX1_gather_25 rfl ?_ | refine Es_aload_nN (hC _) dX1_gather_25 rfl ?_
      first | refine Es_aload_n (hC _) dX1_gather_26 rfl ?_ | refine Es_aload_nN (hC _) dX1_gather_26 rfl ?_
      refine Es_callV (hC _) mv_X1_87 dX1_gather_27 (c_insert h40 hTL (by omega) ht (fun x hx => (by rw [hfr 21 (by decide) (by decide)]; exact hnum x hx)) hno) rfl rfl ⟨_, rfl, rfl⟩ rfl rfl (by decide) (Nat.le_of_ble_eq_true rfl) (fun v' B2 L2 q => ?_)
      obtain ⟨rfl, rfl, f1, f2, k, hk, hTL2⟩ := q
      refine Es_iinc (lv' := [_, _, _, _]) (hC _) dX1_gather_30 (by decide) rfl (show _ + Int32.ofInt (1) = _ + (1) from rfl) rfl rfl ?_
      refine Es_goto (hC _) 7 dX1_gather_33 (by decide) ?_
      refine Es.kill 3 (lv' := [_, _, _, _]) rfl ?_
      rw [nI_1]
      refine ih (i + 1) B2 _ (K + 1) (by omega) (fun q h1 h2 => (f1 q h1 h2).trans (hfr q h1 h2)) (by rw [f2 7 (by decide)]; exact h7) hTL2 (by omega) (fun x => ?_)
      rw [in_mem hk, hm x]
      constructor
      · rintro (⟨h1, q, h2, h3⟩ | h)
        · exact ⟨h1, q, by omega, h3⟩
        · rw [h]
          exact ⟨ht, i, by omega, hon⟩
      · rintro ⟨h1, q, h2, h3⟩
        by_cases he : q = i
        · rw [he, hon] at h3
          exact Or.inr ((nI_eq (by omega) (by omega)).mp h3).symm
        · exact Or.inl ⟨h1, q, by omega, h3⟩
set_option maxRecDepth 100000 in
set_option maxHeartbeats 4000000 in
theorem c_gather {ad : sA} {nw nt : Nat} {B : sB} {L : sL} {w p : Nat} (h40 : nt ≤ 40) (hw : w < nw) (hW : PW nt B w p) (h7 : B 10 0 7 = nI p) (hnum : ∀ x, x < nt → B 21 x 0 = nI x) (hinj : oInj B w p) : Cs yX1_gather cX1_gather 4 none 2 [.ref (ad 10 0), .ref (ad 18 w)] ad nw nt (B) (L) (fun v B1 L1 => v = none ∧ L1 = L ∧ (∀ q, q ≠ 10 → q ≠ 11 → B1 q = B q) ∧ B1 10 0 7 = nI p ∧ ∃ a K, TL nt B1 a K ∧ ∀ x, (∃ j, j < K ∧ a j = x) ↔ onS nt B w p x) := by
  have hC : ∀ Q, je_Ok (sCm yX1_gather cX1_gather 4 none 2 ad nw nt Q) RX1 cX1_gather 4 2 := fun _ => je_Cm_ok
  refine Cs_of [some (.ref (ad 10 0)), some (.ref (ad 18 w)), none, none] (by decide) rfl (Nat.le_of_ble_eq_true rfl) ?_
  first | refine Es_aload_n (hC _) dX1_gather_0 rfl ?_ | refine Es_aload_nN (hC _) dX1_gather_0 rfl ?_
  refine Es_iconst (v := 0) (hC _) dX1_gather_1 (by decide) ?_
  refine Sp_X1_6 (hC _) fl_X1_50 dX1_gather_2 ?_
  refine Es_iconst (v := 0) (hC _) dX1_gather_5 (by decide) ?_
  refine Es_istore_n (lv' := [_, _, _, _]) (hC _) dX1_gather_6 (by decide) rfl rfl ?_
  exact l_gat h40 hw hW hnum hinj p 0 _ (fun _ => 0) 0 (by omega) (fun q h1 h2 => uB_k h1) (by rw [uB_n (by decide)]; exact h7) ⟨uB_s _ _ _ _ _, by decide, fun i j _ h => (by omega), fun i h => (by omega)⟩ (Nat.le_refl _) (fun x => ⟨fun ⟨j, h, _⟩ => (by omega), fun ⟨_, q, h, _⟩ => (by omega)⟩)

