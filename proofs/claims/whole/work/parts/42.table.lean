/-! ===== TURNING ABOUT: bits, rows, the class's table of reaches ===== -/
theorem bt_F : ∀ u : Fin 128, ∀ k : Fin 7, (nI u.val >>> (nI k.val &&& 31)) &&& 1 = if bt u.val k.val = true then 1 else 0 := by decide +kernel
theorem or_F : ∀ u : Fin 128, ∀ k : Fin 7, ¬ bt u.val k.val = true → nI u.val ||| ((1 : Int32) <<< (nI k.val &&& 31)) = nI (u.val + 2 ^ k.val) := by decide +kernel
theorem sl_F : ∀ p : Fin 8, ∀ u : Fin 128, (nI p.val <<< ((7 : Int32) &&& 31)) ||| nI u.val = nI (128 * p.val + u.val) := by decide +kernel
theorem al_F : ∀ k : Fin 8, ((1 : Int32) <<< (nI k.val &&& 31)) - 1 = nI (2 ^ k.val - 1) := by decide +kernel
theorem ad_F : ∀ n : Fin 8, ∀ u : Fin 128, ∀ k : Fin 7, u.val < 2 ^ n.val → k.val < n.val → ¬ bt u.val k.val = true → u.val + 2 ^ k.val < 2 ^ n.val := by decide +kernel
theorem p2_F : ∀ k : Fin 8, 1 ≤ 2 ^ k.val ∧ 2 ^ k.val ≤ 128 := by decide +kernel
theorem p2_b {k : Nat} (h : k ≤ 7) : 1 ≤ 2 ^ k ∧ 2 ^ k ≤ 128 := p2_F ⟨k, by omega⟩
theorem bt_N {u k : Nat} (hu : u < 128) (hk : k < 7) : (nI u >>> (nI k &&& 31)) &&& 1 = if bt u k = true then 1 else 0 := bt_F ⟨u, hu⟩ ⟨k, hk⟩
theorem or_N {u k : Nat} (hu : u < 128) (hk : k < 7) (h : ¬ bt u k = true) : nI u ||| ((1 : Int32) <<< (nI k &&& 31)) = nI (u + 2 ^ k) := or_F ⟨u, hu⟩ ⟨k, hk⟩ h
theorem sl_N {p u : Nat} (hp : p < 8) (hu : u < 128) : (nI p <<< ((7 : Int32) &&& 31)) ||| nI u = nI (128 * p + u) := sl_F ⟨p, hp⟩ ⟨u, hu⟩
theorem al_N {k : Nat} (hk : k ≤ 7) : ((1 : Int32) <<< (nI k &&& 31)) - 1 = nI (2 ^ k - 1) := al_F ⟨k, by omega⟩
theorem ad_N {n u k : Nat} (hn : n ≤ 7) (hu : u < 2 ^ n) (hk : k < n) (h : ¬ bt u k = true) : u + 2 ^ k < 2 ^ n := ad_F ⟨n, by omega⟩ ⟨u, by have := (p2_b hn).2; omega⟩ ⟨k, by omega⟩ hu hk h
/-- a number, or -1 for 0 -/
def iE (a : Nat) : Int32 := nI a - 1
theorem iE_s (a : Nat) : iE (a + 1) = nI a := nI_pred a
theorem iE_0 : iE 0 = -1 := by decide
theorem iE_T {a : Nat} (h : a ≤ 1000001) : (iE a).toInt = (a : Int) - 1 := pk_sub_toInt (a := a) (b := 1) (by omega) (by decide)
theorem iE_lt {a b : Nat} (ha : a ≤ 1000001) (hb : b ≤ 1000001) : iE a < iE b ↔ a < b := by
  rw [Int32.lt_iff_toInt_lt, iE_T ha, iE_T hb]
  omega
theorem iE_eq {a b : Nat} (ha : a ≤ 1000001) (hb : b ≤ 1000001) : iE a = iE b ↔ a = b := by
  rw [← Int32.toInt_inj, iE_T ha, iE_T hb]
  omega
theorem mnI_E {a b : Nat} (ha : a ≤ 1000001) (hb : b ≤ 1000001) : mnI (iE a) (iE b) = iE (min a b) := by
  unfold mnI
  by_cases h : b < a
  · rw [if_pos ((iE_lt hb ha).mpr h), Nat.min_eq_right (by omega)]
  · rw [if_neg (fun z => h ((iE_lt hb ha).mp z)), Nat.min_eq_left (by omega)]
theorem mxI_E {a b : Nat} (ha : a ≤ 1000001) (hb : b ≤ 1000001) : mxI (iE a) (iE b) = iE (max a b) := by
  unfold mxI
  by_cases h : a < b
  · rw [if_pos ((iE_lt ha hb).mpr h), Nat.max_eq_right (by omega)]
  · rw [if_neg (fun z => h ((iE_lt ha hb).mp z)), Nat.max_eq_left (by omega)]
/-- another table -/
def sT (B : sB) (g : Nat → Int32) : sB := fun k j i => if k = 16 ∧ j = 0 then g i else B k j i
theorem sT_r (B : sB) (g : Nat → Int32) (i : Nat) : sT B g 16 0 i = g i := rfl
theorem sT_k {B : sB} {g : Nat → Int32} {k : Nat} (h : k ≠ 16) : sT B g k = B k := by
  funext j i
  unfold sT
  rw [if_neg (fun z => h z.1)]
theorem sT_id (B : sB) : sT B (B 16 0) = B := by
  funext k j i
  unfold sT
  by_cases h : k = 16 ∧ j = 0
  · rw [if_pos h, h.1, h.2]
  · rw [if_neg h]
theorem sT_u (B : sB) (g : Nat → Int32) (i : Nat) (x : Int32) : uB (sT B g) 16 0 i x = sT B (upd g i x) := by
  funext k j i'
  by_cases h : k = 16 ∧ j = 0 ∧ i' = i
  · obtain ⟨rfl, rfl, rfl⟩ := h
    rw [uB_s, sT_r, upd_s]
  · rw [uB_n h]
    unfold sT
    by_cases h2 : k = 16 ∧ j = 0
    · rw [if_pos h2, if_pos h2, upd_n (fun z => h ⟨h2.1, h2.2, z⟩)]
    · rw [if_neg h2, if_neg h2]
/-- what the class has gathered and weighed -/
def TT (B : sB) (D : TD) (P : Nat) : Prop := D.K ≤ 7 ∧ P ≤ 7 ∧ B 10 0 6 = nI D.K ∧ B 10 0 7 = nI P ∧ (∀ p, p < P → B 14 0 p = if D.mu p = true then 1 else 0) ∧ (∀ p k, p < P → k < D.K → B 12 0 (7 * p + k) = iE (D.E p k) ∧ D.E p k ≤ 1000001) ∧ ∀ p k, p < P → k < D.K → D.cg p k = if B 13 0 p = nI k then 0 else 1
theorem TT_T {B : sB} {D : TD} {P : Nat} {g : Nat → Int32} (h : TT B D P) : TT (sT B g) D P := by
  unfold TT
  rw [sT_k (by decide), sT_k (by decide), sT_k (by decide), sT_k (by decide)]
  exact h
theorem rcK_le {D : TD} {f : Nat → Nat} {p u b M : Nat} (hb : b ≤ M) (hE : ∀ k, k < D.K → D.E p k ≤ M) : ∀ k, k ≤ D.K → rcK D f p u b k ≤ M
  | 0, _ => hb
  | k + 1, h => by
    have ih := rcK_le (f := f) (u := u) hb hE k (by omega)
    have := hE k (by omega)
    simp only [rcK]
    split <;> omega
theorem rch_b {D : TD} {P : Nat} (hE : ∀ p k, p < P → k < D.K → D.E p k ≤ 1000001) : ∀ n p u, p + n ≤ P → rch D n p u ≤ 1000001
  | 0, p, u, _ => by
    simp only [rch]
    split <;> omega
  | n + 1, p, u, h => by
    have a := rch_b hE n (p + 1) u (by omega)
    simp only [rch]
    refine rcK_le ?_ (fun k hk => hE p k (by omega) hk) D.K (Nat.le_refl _)
    split <;> omega
set_option maxRecDepth 100000 in
set_option maxHeartbeats 4000000 in
theorem c_slot {ad : sA} {nw nt : Nat} {B : sB} {L : sL} {p u : Nat} (hp : p < 8) (hu : u < 128) : Cf yX1_slot cX1_slot 2 (some FieldType.int) 0 [.int (nI p), .int (nI u)] ad nw nt B L (some (.int (nI (128 * p + u)))) (B) (L) := by
  have hC : ∀ Q, je_Ok (sCm yX1_slot cX1_slot 2 (some FieldType.int) 0 ad nw nt Q) RX1 cX1_slot 2 0 := fun _ => je_Cm_ok
  refine Cs_of [some (.int (nI p)), some (.int (nI u))] (by decide) rfl (Nat.le_of_ble_eq_true rfl) ?_
  refine Es_iload_n (hC _) dX1_slot_0 rfl ?_
  refine Es_bipush (v := 7) (hC _) dX1_slot_1 (by decide) ?_
  refine Es_ishl (hC _) dX1_slot_3 ?_
  refine Es_iload_n (hC _) dX1_slot_4 rfl ?_
  refine Es_ior (hC _) dX1_slot_5 ?_
  rw [sl_N hp hu]
  exact Es_iret dX1_slot_6 rfl ⟨rfl, rfl, rfl⟩

theorem c_slot0 {ad : sA} {nw nt : Nat} {B : sB} {L : sL} : Cf yX1_slot cX1_slot 2 (some FieldType.int) 0 [.int 0, .int 0] ad nw nt B L (some (.int (nI 0))) B L := c_slot (p := 0) (u := 0) (by decide) (by decide)
set_option maxRecDepth 100000 in
set_option maxHeartbeats 4000000 in
theorem c_isUsed_y {ad : sA} {nw nt : Nat} {B : sB} {L : sL} {u k : Nat} (hu : u < 128) (hk : k < 7) (h : bt u k = true) : Cf yX1_isUsed cX1_isUsed 2 (some FieldType.boolean) 0 [.int (nI u), .int (nI k)] ad nw nt B L (some (.int 1)) (B) (L) := by
  have hC : ∀ Q, je_Ok (sCm yX1_isUsed cX1_isUsed 2 (some FieldType.boolean) 0 ad nw nt Q) RX1 cX1_isUsed 2 0 := fun _ => je_Cm_ok
  refine Cs_of [some (.int (nI u)), some (.int (nI k))] (by decide) rfl (Nat.le_of_ble_eq_true rfl) ?_
  refine Es_iload_n (hC _) dX1_isUsed_0 rfl ?_
  refine Es_iload_n (hC _) dX1_isUsed_1 rfl ?_
  refine Es_ishr (hC _) dX1_isUsed_2 ?_
  refine Es_iconst (v := 1) (hC _) dX1_isUsed_3 (by decide) ?_
  refine Es_iand (hC _) dX1_isUsed_4 ?_
  rw [bt_N hu hk, if_pos h]
  refine Es_if_eq (hC _) 12 dX1_isUsed_5 (by decide) (fun hb5 => False.elim (absurd hb5 (by decide))) (fun hb5 => ?_)
  refine Es_iconst (v := 1) (hC _) dX1_isUsed_8 (by decide) ?_
  refine Es_goto (hC _) 13 dX1_isUsed_9 (by decide) ?_
  exact Es_iret dX1_isUsed_13 rfl ⟨rfl, rfl, rfl⟩

set_option maxRecDepth 100000 in
set_option maxHeartbeats 4000000 in
theorem c_isUsed_n {ad : sA} {nw nt : Nat} {B : sB} {L : sL} {u k : Nat} (hu : u < 128) (hk : k < 7) (h : ¬ bt u k = true) : Cf yX1_isUsed cX1_isUsed 2 (some FieldType.boolean) 0 [.int (nI u), .int (nI k)] ad nw nt B L (some (.int 0)) (B) (L) := by
  have hC : ∀ Q, je_Ok (sCm yX1_isUsed cX1_isUsed 2 (some FieldType.boolean) 0 ad nw nt Q) RX1 cX1_isUsed 2 0 := fun _ => je_Cm_ok
  refine Cs_of [some (.int (nI u)), some (.int (nI k))] (by decide) rfl (Nat.le_of_ble_eq_true rfl) ?_
  refine Es_iload_n (hC _) dX1_isUsed_0 rfl ?_
  refine Es_iload_n (hC _) dX1_isUsed_1 rfl ?_
  refine Es_ishr (hC _) dX1_isUsed_2 ?_
  refine Es_iconst (v := 1) (hC _) dX1_isUsed_3 (by decide) ?_
  refine Es_iand (hC _) dX1_isUsed_4 ?_
  rw [bt_N hu hk, if_neg h]
  refine Es_if_eq (hC _) 12 dX1_isUsed_5 (by decide) (fun hb5 => ?_) (fun hb5 => False.elim (hb5 rfl))
  refine Es_iconst (v := 0) (hC _) dX1_isUsed_12 (by decide) ?_
  exact Es_iret dX1_isUsed_13 rfl ⟨rfl, rfl, rfl⟩

set_option maxRecDepth 100000 in
set_option maxHeartbeats 4000000 in
theorem c_allUsed {ad : sA} {nw nt : Nat} {B : sB} {L : sL} {K : Nat} (hK : K ≤ 7) (h : B 10 0 6 = nI K) : Cf yX1_allUsed cX1_allUsed 1 (some FieldType.int) 0 [.ref (ad 10 0)] ad nw nt B L (some (.int (nI (2 ^ K - 1)))) (B) (L) := by
  have hC : ∀ Q, je_Ok (sCm yX1_allUsed cX1_allUsed 1 (some FieldType.int) 0 ad nw nt Q) RX1 cX1_allUsed 1 0 := fun _ => je_Cm_ok
  refine Cs_of [some (.ref (ad 10 0))] (by decide) rfl (Nat.le_of_ble_eq_true rfl) ?_
  refine Es_iconst (v := 1) (hC _) dX1_allUsed_0 (by decide) ?_
  first | refine Es_aload_n (hC _) dX1_allUsed_1 rfl ?_ | refine Es_aload_nN (hC _) dX1_allUsed_1 rfl ?_
  refine Sg_X1_6 (hC _) fl_X1_50 dX1_allUsed_2 ?_
  rw [h]
  refine Es_ishl (hC _) dX1_allUsed_5 ?_
  refine Es_iconst (v := 1) (hC _) dX1_allUsed_6 (by decide) ?_
  refine Es_isub (hC _) dX1_allUsed_7 ?_
  rw [al_N hK]
  exact Es_iret dX1_allUsed_8 rfl ⟨rfl, rfl, rfl⟩

set_option maxRecDepth 100000 in
set_option maxHeartbeats 4000000 in
theorem l_rf {ad : sA} {nw nt : Nat} {B : sB} {L : sL} {bc bs : Nat} {D : TD} {f : Nat → Nat} {P p u b : Nat} (hT : TT B D P) (hp : p < P) (hu : u < 2 ^ D.K) (hrow : ∀ u', u' < 2 ^ D.K → B 16 0 (128 * (p + 1) + u') = iE (f u') ∧ f u' ≤ 1000001) (hb : b ≤ 1000001) : ∀ (n i : Nat), i + n = D.K → Es (sCm yX1_reachFrom cX1_reachFrom 6 (some .int) 2 ad nw nt (fun v B1 L1 => v = some (.int (iE (rcK D f p u b D.K))) ∧ B1 = B ∧ L1 = L)) 6 34 [some (.ref (ad 10 0)), some (.int (nI p)), some (.int (nI u)), some (.int (iE (rcK D f p u b i))), some (.int (nI i)), none] [] ad nw nt B L bc bs := by
  have hC : ∀ Q, je_Ok (sCm yX1_reachFrom cX1_reachFrom 6 (some .int) 2 ad nw nt Q) RX1 cX1_reachFrom 6 2 := fun _ => je_Cm_ok
  obtain ⟨hK, hP, t6, t7, t14, t12, t13⟩ := hT
  have h2 := p2_b hK
  intro n
  induction n with
  | zero =>
    intro i hn
    have hik : i = D.K := by omega
    subst hik
    refine Es_iload (hC _) dX1_reachFrom_34 rfl ?_
    first | refine Es_aload_n (hC _) dX1_reachFrom_36 rfl ?_ | refine Es_aload_nN (hC _) dX1_reachFrom_36 rfl ?_
    refine Sg_X1_6 (hC _) fl_X1_50 dX1_reachFrom_37 ?_
    rw [t6]
    refine Es_icmp_ge (hC _) 103 dX1_reachFrom_40 (by decide) (fun hb40 => ?_) (fun hb40 => False.elim (hb40 (nI_le (Nat.le_refl _) (by omega))))
    refine Es_iload_n (hC _) dX1_reachFrom_103 rfl ?_
    exact Es_iret dX1_reachFrom_104 rfl ⟨rfl, rfl, rfl⟩
  | succ n ih =>
    intro i hn
    have hkk := ih (i + 1) (by omega)
    have hle := rcK_le (D := D) (f := f) (u := u) hb (fun k hk => (t12 p k hp hk).2) i (by omega)
    by_cases hbt : bt u i = true
    · simp only [rcK, if_pos hbt] at hkk
      refine Es_iload (hC _) dX1_reachFrom_34 rfl ?_
      first | refine Es_aload_n (hC _) dX1_reachFrom_36 rfl ?_ | refine Es_aload_nN (hC _) dX1_reachFrom_36 rfl ?_
      refine Sg_X1_6 (hC _) fl_X1_50 dX1_reachFrom_37 ?_
      rw [t6]
      refine Es_icmp_ge (hC _) 103 dX1_reachFrom_40 (by decide) (fun hb40 => False.elim (nI_ge (b := D.K) (a := i) (by omega) (by omega) hb40)) (fun hb40 => ?_)
      refine Es_iload_n (hC _) dX1_reachFrom_43 rfl ?_
      refine Es_iload (hC _) dX1_reachFrom_44 rfl ?_
      refine Es_fS (hC _) ms_X1_116 dX1_reachFrom_46 (c_isUsed_y (by omega) (by omega) hbt) rfl rfl (by decide) (Nat.le_of_ble_eq_true rfl) ?_
      refine Es_if_ne (hC _) 97 dX1_reachFrom_49 (by decide) (fun hb49 => ?_) (fun hb49 => False.elim (absurd hb49 (by decide)))
      refine Es_iinc (lv' := [_, _, _, _, _, _]) (hC _) dX1_reachFrom_97 (by decide) rfl (show _ + Int32.ofInt (1) = _ + (1) from rfl) rfl rfl ?_
      refine Es_goto (hC _) 34 dX1_reachFrom_100 (by decide) ?_
      refine Es.kill 5 (lv' := [_, _, _, _, _, _]) rfl ?_
      rw [nI_1]
      exact hkk
    · simp only [rcK, if_neg hbt] at hkk
      have hau := ad_N hK hu (show i < D.K by omega) hbt
      obtain ⟨r1, r2⟩ := hrow _ hau
      obtain ⟨e1, e2⟩ := t12 p i hp (by omega)
      refine Es_iload (hC _) dX1_reachFrom_34 rfl ?_
      first | refine Es_aload_n (hC _) dX1_reachFrom_36 rfl ?_ | refine Es_aload_nN (hC _) dX1_reachFrom_36 rfl ?_
      refine Sg_X1_6 (hC _) fl_X1_50 dX1_reachFrom_37 ?_
      rw [t6]
      refine Es_icmp_ge (hC _) 103 dX1_reachFrom_40 (by decide) (fun hb40 => False.elim (nI_ge (b := D.K) (a := i) (by omega) (by omega) hb40)) (fun hb40 => ?_)
      refine Es_iload_n (hC _) dX1_reachFrom_43 rfl ?_
      refine Es_iload (hC _) dX1_reachFrom_44 rfl ?_
      refine Es_fS (hC _) ms_X1_116 dX1_reachFrom_46 (c_isUsed_n (by omega) (by omega) hbt) rfl rfl (by decide) (Nat.le_of_ble_eq_true rfl) ?_
      refine Es_if_ne (hC _) 97 dX1_reachFrom_49 (by decide) (fun hb49 => False.elim (hb49 rfl)) (fun hb49 => ?_)
      first | refine Es_aload_n (hC _) dX1_reachFrom_52 rfl ?_ | refine Es_aload_nN (hC _) dX1_reachFrom_52 rfl ?_
      refine Sg_X1_5 (hC _) fl_X1_30 dX1_reachFrom_53 ?_
      refine Es_iload_n (hC _) dX1_reachFrom_56 rfl ?_
      refine Es_iconst (v := 1) (hC _) dX1_reachFrom_57 (by decide) ?_
      refine Es_iadd (hC _) dX1_reachFrom_58 ?_
      rw [nI_1]
      refine Es_iload_n (hC _) dX1_reachFrom_59 rfl ?_
      refine Es_iconst (v := 1) (hC _) dX1_reachFrom_60 (by decide) ?_
      refine Es_iload (hC _) dX1_reachFrom_61 rfl ?_
      refine Es_ishl (hC _) dX1_reachFrom_63 ?_
      refine Es_ior (hC _) dX1_reachFrom_64 ?_
      rw [or_N (by omega) (by omega) hbt]
      refine Es_fS (hC _) ms_X1_60 dX1_reachFrom_65 (c_slot (by omega) (by omega)) rfl rfl (by decide) (Nat.le_of_ble_eq_true rfl) ?_
      refine Es_fSN (hC _) ms_X1_63 dX1_reachFrom_68 (c_at (kd := 16) (n := 1024) rfl rfl rfl (by omega) (by decide)) rfl rfl (by decide) (Nat.le_of_ble_eq_true rfl) ?_
      rw [r1]
      refine Es_istore (lv' := [_, _, _, _, _, _]) (hC _) dX1_reachFrom_71 (by decide) rfl rfl ?_
      refine Es_iload_n (hC _) dX1_reachFrom_73 rfl ?_
      refine Es_iload (hC _) dX1_reachFrom_74 rfl ?_
      first | refine Es_aload_n (hC _) dX1_reachFrom_76 rfl ?_ | refine Es_aload_nN (hC _) dX1_reachFrom_76 rfl ?_
      refine Sg_X1_1 (hC _) fl_X1_17 dX1_reachFrom_77 ?_
      refine Es_iload_n (hC _) dX1_reachFrom_80 rfl ?_
      refine Es_bipush (v := 7) (hC _) dX1_reachFrom_81 (by decide) ?_
      refine Es_imul (hC _) dX1_reachFrom_83 ?_
      refine Es_iload (hC _) dX1_reachFrom_84 rfl ?_
      refine Es_iadd (hC _) dX1_reachFrom_86 ?_
      rw [show nI p * 7 + nI i = nI (7 * p + i) by rw [show (7 : Int32) = nI 7 from rfl, pk_mul, nI_add, Nat.mul_comm p 7]]
      refine Es_fSN (hC _) ms_X1_63 dX1_reachFrom_87 (c_at (kd := 12) (n := 49) rfl rfl rfl (by omega) (by decide)) rfl rfl (by decide) (Nat.le_of_ble_eq_true rfl) ?_
      rw [e1]
      refine Es_fS (hC _) ms_X1_39 dX1_reachFrom_90 j_mini rfl rfl (by decide) (Nat.le_of_ble_eq_true rfl) ?_
      rw [mnI_E r2 e2]
      refine Es_fS (hC _) ms_X1_120 dX1_reachFrom_93 j_maxi rfl rfl (by decide) (Nat.le_of_ble_eq_true rfl) ?_
      rw [mxI_E hle (by omega)]
      refine Es_istore_n (lv' := [_, _, _, _, _, _]) (hC _) dX1_reachFrom_96 (by decide) rfl rfl ?_
      refine Es_iinc (lv' := [_, _, _, _, _, _]) (hC _) dX1_reachFrom_97 (by decide) rfl (show _ + Int32.ofInt (1) = _ + (1) from rfl) rfl rfl ?_
      refine Es_goto (hC _) 34 dX1_reachFrom_100 (by decide) ?_
      refine Es.kill 5 (lv' := [_, _, _, _, _, _]) rfl ?_
      rw [nI_1]
      exact hkk
set_option maxRecDepth 100000 in
set_option maxHeartbeats 4000000 in
theorem c_reachFrom_y {ad : sA} {nw nt : Nat} {B : sB} {L : sL} {D : TD} {f : Nat → Nat} {P p u : Nat} (hT : TT B D P) (hp : p < P) (hu : u < 2 ^ D.K) (hrow : ∀ u', u' < 2 ^ D.K → B 16 0 (128 * (p + 1) + u') = iE (f u') ∧ f u' ≤ 1000001) (hm : D.mu p = true) : Cf yX1_reachFrom cX1_reachFrom 6 (some FieldType.int) 2 [.ref (ad 10 0), .int (nI p), .int (nI u)] ad nw nt B L (some (.int (iE (rcK D f p u 0 D.K)))) (B) (L) := by
  have hC : ∀ Q, je_Ok (sCm yX1_reachFrom cX1_reachFrom 6 (some FieldType.int) 2 ad nw nt Q) RX1 cX1_reachFrom 6 2 := fun _ => je_Cm_ok
  refine Cs_of [some (.ref (ad 10 0)), some (.int (nI p)), some (.int (nI u)), none, none, none] (by decide) rfl (Nat.le_of_ble_eq_true rfl) ?_
  have hT0 := hT
  obtain ⟨hK, hP, t6, t7, t14, t12, t13⟩ := hT
  have h2 := p2_b hK
  first | refine Es_aload_n (hC _) dX1_reachFrom_0 rfl ?_ | refine Es_aload_nN (hC _) dX1_reachFrom_0 rfl ?_
  refine Sg_X1_3 (hC _) fl_X1_24 dX1_reachFrom_1 ?_
  refine Es_iload_n (hC _) dX1_reachFrom_4 rfl ?_
  refine Es_fSN (hC _) ms_X1_63 dX1_reachFrom_5 (c_at (kd := 14) (n := 7) rfl rfl rfl (by omega) (by decide)) rfl rfl (by decide) (Nat.le_of_ble_eq_true rfl) ?_
  rw [t14 p hp, if_pos hm]
  refine Es_iconst (v := 1) (hC _) dX1_reachFrom_8 (by decide) ?_
  refine Es_icmp_ne (hC _) 16 dX1_reachFrom_9 (by decide) (fun hb9 => False.elim (hb9 rfl)) (fun hb9 => ?_)
  refine Es_iconst (v := -1) (hC _) dX1_reachFrom_12 (by decide) ?_
  refine Es_goto (hC _) 30 dX1_reachFrom_13 (by decide) ?_
  refine Es_istore_n (lv' := [_, _, _, _, _, _]) (hC _) dX1_reachFrom_30 (by decide) rfl rfl ?_
  refine Es_iconst (v := 0) (hC _) dX1_reachFrom_31 (by decide) ?_
  refine Es_istore (lv' := [_, _, _, _, _, _]) (hC _) dX1_reachFrom_32 (by decide) rfl rfl ?_
  exact l_rf hT0 hp hu hrow (by decide) D.K 0 (by omega)

set_option maxRecDepth 100000 in
set_option maxHeartbeats 4000000 in
theorem c_reachFrom_n {ad : sA} {nw nt : Nat} {B : sB} {L : sL} {D : TD} {f : Nat → Nat} {P p u : Nat} (hT : TT B D P) (hp : p < P) (hu : u < 2 ^ D.K) (hrow : ∀ u', u' < 2 ^ D.K → B 16 0 (128 * (p + 1) + u') = iE (f u') ∧ f u' ≤ 1000001) (hm : ¬ D.mu p = true) : Cf yX1_reachFrom cX1_reachFrom 6 (some FieldType.int) 2 [.ref (ad 10 0), .int (nI p), .int (nI u)] ad nw nt B L (some (.int (iE (rcK D f p u (f u) D.K)))) (B) (L) := by
  have hC : ∀ Q, je_Ok (sCm yX1_reachFrom cX1_reachFrom 6 (some FieldType.int) 2 ad nw nt Q) RX1 cX1_reachFrom 6 2 := fun _ => je_Cm_ok
  refine Cs_of [some (.ref (ad 10 0)), some (.int (nI p)), some (.int (nI u)), none, none, none] (by decide) rfl (Nat.le_of_ble_eq_true rfl) ?_
  have hT0 := hT
  obtain ⟨hK, hP, t6, t7, t14, t12, t13⟩ := hT
  have h2 := p2_b hK
  first | refine Es_aload_n (hC _) dX1_reachFrom_0 rfl ?_ | refine Es_aload_nN (hC _) dX1_reachFrom_0 rfl ?_
  refine Sg_X1_3 (hC _) fl_X1_24 dX1_reachFrom_1 ?_
  refine Es_iload_n (hC _) dX1_reachFrom_4 rfl ?_
  refine Es_fSN (hC _) ms_X1_63 dX1_reachFrom_5 (c_at (kd := 14) (n := 7) rfl rfl rfl (by omega) (by decide)) rfl rfl (by decide) (Nat.le_of_ble_eq_true rfl) ?_
  rw [t14 p hp, if_neg hm]
  refine Es_iconst (v := 1) (hC _) dX1_reachFrom_8 (by decide) ?_
  refine Es_icmp_ne (hC _) 16 dX1_reachFrom_9 (by decide) (fun hb9 => ?_) (fun hb9 => False.elim (absurd hb9 (by decide)))
  first | refine Es_aload_n (hC _) dX1_reachFrom_16 rfl ?_ | refine Es_aload_nN (hC _) dX1_reachFrom_16 rfl ?_
  refine Sg_X1_5 (hC _) fl_X1_30 dX1_reachFrom_17 ?_
  refine Es_iload_n (hC _) dX1_reachFrom_20 rfl ?_
  refine Es_iconst (v := 1) (hC _) dX1_reachFrom_21 (by decide) ?_
  refine Es_iadd (hC _) dX1_reachFrom_22 ?_
  rw [nI_1]
  refine Es_iload_n (hC _) dX1_reachFrom_23 rfl ?_
  refine Es_fS (hC _) ms_X1_60 dX1_reachFrom_24 (c_slot (by omega) (by omega)) rfl rfl (by decide) (Nat.le_of_ble_eq_true rfl) ?_
  refine Es_fSN (hC _) ms_X1_63 dX1_reachFrom_27 (c_at (kd := 16) (n := 1024) rfl rfl rfl (by omega) (by decide)) rfl rfl (by decide) (Nat.le_of_ble_eq_true rfl) ?_
  rw [(hrow u hu).1]
  refine Es_istore_n (lv' := [_, _, _, _, _, _]) (hC _) dX1_reachFrom_30 (by decide) rfl rfl ?_
  refine Es_iconst (v := 0) (hC _) dX1_reachFrom_31 (by decide) ?_
  refine Es_istore (lv' := [_, _, _, _, _, _]) (hC _) dX1_reachFrom_32 (by decide) rfl rfl ?_
  exact l_rf hT0 hp hu hrow (hrow u hu).2 D.K 0 (by omega)

theorem c_reachFrom {ad : sA} {nw nt : Nat} {B : sB} {L : sL} {D : TD} {P p u n : Nat} (hT : TT B D P) (hp : p < P) (hu : u < 2 ^ D.K) (hrow : ∀ u', u' < 2 ^ D.K → B 16 0 (128 * (p + 1) + u') = iE (rch D n (p + 1) u') ∧ rch D n (p + 1) u' ≤ 1000001) : Cf yX1_reachFrom cX1_reachFrom 6 (some FieldType.int) 2 [.ref (ad 10 0), .int (nI p), .int (nI u)] ad nw nt B L (some (.int (iE (rch D (n + 1) p u)))) B L := by
  simp only [rch]
  by_cases hm : D.mu p = true
  · rw [if_pos hm]
    exact c_reachFrom_y hT hp hu hrow hm
  · rw [if_neg hm]
    exact c_reachFrom_n hT hp hu hrow hm
set_option maxRecDepth 100000 in
set_option maxHeartbeats 4000000 in
theorem l_fr3 {ad : sA} {nw nt : Nat} {B : sB} {L : sL} {bc bs : Nat} {D : TD} {P : Nat} (hT : TT B D P) {p : Nat} (hp : p < P) (kk : ∀ g, (∀ q u, p ≤ q → q ≤ P → u < 2 ^ D.K → g (128 * q + u) = iE (rch D (P - q) q u)) → Es (sCm yX1_fillReaches cX1_fillReaches 4 none 3 ad nw nt (fun v B1 L1 => v = none ∧ L1 = L ∧ ∃ g, B1 = sT B g ∧ ∀ q u, q ≤ P → u < 2 ^ D.K → g (128 * q + u) = iE (rch D (P - q) q u))) 4 51 [some (.ref (ad 10 0)), some (.int (nI (2 ^ D.K - 1))), some (.int (nI p - 1)), none] [] ad nw nt (sT B g) L bc bs) : ∀ (n u : Nat) (g : Nat → Int32), u + n = 2 ^ D.K → (∀ q u, p < q → q ≤ P → u < 2 ^ D.K → g (128 * q + u) = iE (rch D (P - q) q u)) → (∀ u', u' < u → g (128 * p + u') = iE (rch D (P - p) p u')) → Es (sCm yX1_fillReaches cX1_fillReaches 4 none 3 ad nw nt (fun v B1 L1 => v = none ∧ L1 = L ∧ ∃ g, B1 = sT B g ∧ ∀ q u, q ≤ P → u < 2 ^ D.K → g (128 * q + u) = iE (rch D (P - q) q u))) 4 57 [some (.ref (ad 10 0)), some (.int (nI (2 ^ D.K - 1))), some (.int (nI p)), some (.int (nI u))] [] ad nw nt (sT B g) L bc bs := by
  have hC : ∀ Q, je_Ok (sCm yX1_fillReaches cX1_fillReaches 4 none 3 ad nw nt Q) RX1 cX1_fillReaches 4 3 := fun _ => je_Cm_ok
  have hT0 := hT
  obtain ⟨hK, hP, t6, t7, t14, t12, t13⟩ := hT
  have h2 := p2_b hK
  intro n
  induction n with
  | zero =>
    intro u g hn hg hr
    have hk0 := kk g (fun q u' h1 h3 h4 => if he : q = p then (by rw [he]; exact hr u' (by omega)) else hg q u' (by omega) h3 h4)
    refine Es_iload_n (hC _) dX1_fillReaches_57 rfl ?_
    refine Es_iload_n (hC _) dX1_fillReaches_58 rfl ?_
    refine Es_icmp_gt (hC _) 86 dX1_fillReaches_59 (by decide) (fun hb59 => ?_) (fun hb59 => False.elim (hb59 (nI_lt (a := 2 ^ D.K - 1) (b := u) (by omega) (by omega))))
    refine Es_iinc (lv' := [_, _, _, _]) (hC _) dX1_fillReaches_86 (by decide) rfl (show _ + Int32.ofInt (-1) = _ + (-1) from rfl) rfl rfl ?_
    refine Es_goto (hC _) 51 dX1_fillReaches_89 (by decide) ?_
    refine Es.kill 3 (lv' := [_, _, _, _]) rfl ?_
    rw [← Int32.sub_eq_add_neg]
    exact hk0
  | succ n ih =>
    intro u g hn hg hr
    have e : P - p = P - (p + 1) + 1 := by omega
    have hrow : ∀ u', u' < 2 ^ D.K → sT B g 16 0 (128 * (p + 1) + u') = iE (rch D (P - (p + 1)) (p + 1) u') ∧ rch D (P - (p + 1)) (p + 1) u' ≤ 1000001 := fun u' hu' => ⟨hg (p + 1) u' (by omega) (by omega) hu', rch_b (P := P) (fun a b c d => (t12 a b c d).2) _ _ _ (by omega)⟩
    refine Es_iload_n (hC _) dX1_fillReaches_57 rfl ?_
    refine Es_iload_n (hC _) dX1_fillReaches_58 rfl ?_
    refine Es_icmp_gt (hC _) 86 dX1_fillReaches_59 (by decide) (fun hb59 => False.elim (nI_nlt (a := 2 ^ D.K - 1) (b := u) (by omega) (by omega) hb59)) (fun hb59 => ?_)
    first | refine Es_aload_n (hC _) dX1_fillReaches_62 rfl ?_ | refine Es_aload_nN (hC _) dX1_fillReaches_62 rfl ?_
    refine Sg_X1_5 (hC _) fl_X1_30 dX1_fillReaches_63 ?_
    refine Es_iload_n (hC _) dX1_fillReaches_66 rfl ?_
    refine Es_iload_n (hC _) dX1_fillReaches_67 rfl ?_
    refine Es_fS (hC _) ms_X1_60 dX1_fillReaches_68 (c_slot (by omega) (by omega)) rfl rfl (by decide) (Nat.le_of_ble_eq_true rfl) ?_
    first | refine Es_aload_n (hC _) dX1_fillReaches_71 rfl ?_ | refine Es_aload_nN (hC _) dX1_fillReaches_71 rfl ?_
    refine Es_iload_n (hC _) dX1_fillReaches_72 rfl ?_
    refine Es_iload_n (hC _) dX1_fillReaches_73 rfl ?_
    refine Es_fV (hC _) mv_X1_113 dX1_fillReaches_74 (c_reachFrom (TT_T hT0) hp (by omega) hrow) rfl rfl ⟨_, rfl, rfl⟩ rfl rfl (by decide) (Nat.le_of_ble_eq_true rfl) ?_
    refine Es_fSN (hC _) ms_X1_76 dX1_fillReaches_77 (c_write (kd := 16) (n := 1024) rfl (fun _ => rfl) rfl (by omega) (by decide)) rfl rfl (by decide) (Nat.le_of_ble_eq_true rfl) ?_
    refine Es_iinc (lv' := [_, _, _, _]) (hC _) dX1_fillReaches_80 (by decide) rfl (show _ + Int32.ofInt (1) = _ + (1) from rfl) rfl rfl ?_
    refine Es_goto (hC _) 57 dX1_fillReaches_83 (by decide) ?_
    rw [nI_1, sT_u]
    refine ih (u + 1) _ (by omega) (fun q u' h1 h3 h4 => ?_) (fun u' h1 => ?_)
    · rw [upd_n (by omega)]
      exact hg q u' h1 h3 h4
    · by_cases he : u' = u
      · rw [he, upd_s, ← e]
      · rw [upd_n (by omega)]
        exact hr u' (by omega)
set_option maxRecDepth 100000 in
set_option maxHeartbeats 4000000 in
theorem l_fr2 {ad : sA} {nw nt : Nat} {B : sB} {L : sL} {bc bs : Nat} {D : TD} {P : Nat} (hT : TT B D P) : ∀ (p : Nat) (x : Int32) (g : Nat → Int32), p ≤ P → x = nI p - 1 → (∀ q u, p ≤ q → q ≤ P → u < 2 ^ D.K → g (128 * q + u) = iE (rch D (P - q) q u)) → Es (sCm yX1_fillReaches cX1_fillReaches 4 none 3 ad nw nt (fun v B1 L1 => v = none ∧ L1 = L ∧ ∃ g, B1 = sT B g ∧ ∀ q u, q ≤ P → u < 2 ^ D.K → g (128 * q + u) = iE (rch D (P - q) q u))) 4 51 [some (.ref (ad 10 0)), some (.int (nI (2 ^ D.K - 1))), some (.int x), none] [] ad nw nt (sT B g) L bc bs := by
  have hC : ∀ Q, je_Ok (sCm yX1_fillReaches cX1_fillReaches 4 none 3 ad nw nt Q) RX1 cX1_fillReaches 4 3 := fun _ => je_Cm_ok
  have hT0 := hT
  obtain ⟨hK, hP, t6, t7, t14, t12, t13⟩ := hT
  have h2 := p2_b hK
  intro p
  induction p with
  | zero =>
    intro x g hp hx hg
    have hx2 : x = -1 := hx
    subst hx2
    refine Es_iload_n (hC _) dX1_fillReaches_51 rfl ?_
    refine Es_if_lt (hC _) 92 dX1_fillReaches_52 (by decide) (fun hb52 => ?_) (fun hb52 => False.elim (hb52 (by decide)))
    exact Es_vret dX1_fillReaches_92 ⟨rfl, rfl, g, rfl, fun q u h1 h3 => hg q u (Nat.zero_le _) h1 h3⟩
  | succ p ih =>
    intro x g hp hx hg
    rw [nI_pred] at hx
    subst hx
    refine Es_iload_n (hC _) dX1_fillReaches_51 rfl ?_
    refine Es_if_lt (hC _) 92 dX1_fillReaches_52 (by decide) (fun hb52 => False.elim (nI_pos (by omega) hb52)) (fun hb52 => ?_)
    refine Es_iconst (v := 0) (hC _) dX1_fillReaches_55 (by decide) ?_
    refine Es_istore_n (lv' := [_, _, _, _]) (hC _) dX1_fillReaches_56 (by decide) rfl rfl ?_
    exact l_fr3 hT0 (by omega) (fun g hg => ih _ g (by omega) rfl hg) (2 ^ D.K) 0 g (by omega) (fun q u h1 h3 h4 => hg q u (by omega) h3 h4) (fun u' h => by omega)
set_option maxRecDepth 100000 in
set_option maxHeartbeats 4000000 in
theorem l_fr1 {ad : sA} {nw nt : Nat} {B : sB} {L : sL} {bc bs : Nat} {D : TD} {P : Nat} (hT : TT B D P) : ∀ (n u : Nat) (g : Nat → Int32), u + n = 2 ^ D.K → (∀ u', u' < u → g (128 * P + u') = iE (rch D 0 P u')) → Es (sCm yX1_fillReaches cX1_fillReaches 4 none 3 ad nw nt (fun v B1 L1 => v = none ∧ L1 = L ∧ ∃ g, B1 = sT B g ∧ ∀ q u, q ≤ P → u < 2 ^ D.K → g (128 * q + u) = iE (rch D (P - q) q u))) 4 7 [some (.ref (ad 10 0)), some (.int (nI (2 ^ D.K - 1))), some (.int (nI u)), none] [] ad nw nt (sT B g) L bc bs := by
  have hC : ∀ Q, je_Ok (sCm yX1_fillReaches cX1_fillReaches 4 none 3 ad nw nt Q) RX1 cX1_fillReaches 4 3 := fun _ => je_Cm_ok
  have hT0 := hT
  obtain ⟨hK, hP, t6, t7, t14, t12, t13⟩ := hT
  have h2 := p2_b hK
  intro n
  induction n with
  | zero =>
    intro u g hn hr
    refine Es_iload_n (hC _) dX1_fillReaches_7 rfl ?_
    refine Es_iload_n (hC _) dX1_fillReaches_8 rfl ?_
    refine Es_icmp_gt (hC _) 44 dX1_fillReaches_9 (by decide) (fun hb9 => ?_) (fun hb9 => False.elim (hb9 (nI_lt (a := 2 ^ D.K - 1) (b := u) (by omega) (by omega))))
    first | refine Es_aload_n (hC _) dX1_fillReaches_44 rfl ?_ | refine Es_aload_nN (hC _) dX1_fillReaches_44 rfl ?_
    refine Sg_X1_7 (hC _) fl_X1_45 dX1_fillReaches_45 ?_
    rw [sT_k (by decide), t7]
    refine Es_iconst (v := 1) (hC _) dX1_fillReaches_48 (by decide) ?_
    refine Es_isub (hC _) dX1_fillReaches_49 ?_
    refine Es_istore_n (lv' := [_, _, _, _]) (hC _) dX1_fillReaches_50 (by decide) rfl rfl ?_
    exact l_fr2 hT0 P _ g (Nat.le_refl _) rfl (fun q u' h1 h3 h4 => (by rw [show q = P by omega, Nat.sub_self]; exact hr u' (by omega)))
  | succ n ih =>
    intro u g hn hr
    by_cases hc : u = 2 ^ D.K - 1
    · have e : iE (rch D 0 P u) = 1000000 := by
        simp only [rch]
        rw [if_pos hc]
        rfl
      refine Es_iload_n (hC _) dX1_fillReaches_7 rfl ?_
      refine Es_iload_n (hC _) dX1_fillReaches_8 rfl ?_
      refine Es_icmp_gt (hC _) 44 dX1_fillReaches_9 (by decide) (fun hb9 => False.elim (nI_nlt (a := 2 ^ D.K - 1) (b := u) (by omega) (by omega) hb9)) (fun hb9 => ?_)
      first | refine Es_aload_n (hC _) dX1_fillReaches_12 rfl ?_ | refine Es_aload_nN (hC _) dX1_fillReaches_12 rfl ?_
      refine Sg_X1_5 (hC _) fl_X1_30 dX1_fillReaches_13 ?_
      first | refine Es_aload_n (hC _) dX1_fillReaches_16 rfl ?_ | refine Es_aload_nN (hC _) dX1_fillReaches_16 rfl ?_
      refine Sg_X1_7 (hC _) fl_X1_45 dX1_fillReaches_17 ?_
      rw [sT_k (by decide), t7]
      refine Es_iload_n (hC _) dX1_fillReaches_20 rfl ?_
      refine Es_fS (hC _) ms_X1_60 dX1_fillReaches_21 (c_slot (by omega) (by omega)) rfl rfl (by decide) (Nat.le_of_ble_eq_true rfl) ?_
      refine Es_iload_n (hC _) dX1_fillReaches_24 rfl ?_
      refine Es_iload_n (hC _) dX1_fillReaches_25 rfl ?_
      refine Es_icmp_ne (hC _) 34 dX1_fillReaches_26 (by decide) (fun hb26 => False.elim (hb26 (by rw [hc]))) (fun hb26 => ?_)
      refine Es_ldc (hC _) ct_X1_102 dX1_fillReaches_29 ?_
      refine Es_goto (hC _) 35 dX1_fillReaches_31 (by decide) ?_
      refine Es_fSN (hC _) ms_X1_76 dX1_fillReaches_35 (c_write (kd := 16) (n := 1024) rfl (fun _ => rfl) rfl (by omega) (by decide)) rfl rfl (by decide) (Nat.le_of_ble_eq_true rfl) ?_
      refine Es_iinc (lv' := [_, _, _, _]) (hC _) dX1_fillReaches_38 (by decide) rfl (show _ + Int32.ofInt (1) = _ + (1) from rfl) rfl rfl ?_
      refine Es_goto (hC _) 7 dX1_fillReaches_41 (by decide) ?_
      rw [nI_1, sT_u]
      refine ih (u + 1) _ (by omega) (fun u' h1 => ?_)
      by_cases he : u' = u
      · rw [he, upd_s, e]
      · rw [upd_n (by omega)]
        exact hr u' (by omega)
    · have e : iE (rch D 0 P u) = -1 := by
        simp only [rch]
        rw [if_neg hc]
        rfl
      refine Es_iload_n (hC _) dX1_fillReaches_7 rfl ?_
      refine Es_iload_n (hC _) dX1_fillReaches_8 rfl ?_
      refine Es_icmp_gt (hC _) 44 dX1_fillReaches_9 (by decide) (fun hb9 => False.elim (nI_nlt (a := 2 ^ D.K - 1) (b := u) (by omega) (by omega) hb9)) (fun hb9 => ?_)
      first | refine Es_aload_n (hC _) dX1_fillReaches_12 rfl ?_ | refine Es_aload_nN (hC _) dX1_fillReaches_12 rfl ?_
      refine Sg_X1_5 (hC _) fl_X1_30 dX1_fillReaches_13 ?_
      first | refine Es_aload_n (hC _) dX1_fillReaches_16 rfl ?_ | refine Es_aload_nN (hC _) dX1_fillReaches_16 rfl ?_
      refine Sg_X1_7 (hC _) fl_X1_45 dX1_fillReaches_17 ?_
      rw [sT_k (by decide), t7]
      refine Es_iload_n (hC _) dX1_fillReaches_20 rfl ?_
      refine Es_fS (hC _) ms_X1_60 dX1_fillReaches_21 (c_slot (by omega) (by omega)) rfl rfl (by decide) (Nat.le_of_ble_eq_true rfl) ?_
      refine Es_iload_n (hC _) dX1_fillReaches_24 rfl ?_
      refine Es_iload_n (hC _) dX1_fillReaches_25 rfl ?_
      refine Es_icmp_ne (hC _) 34 dX1_fillReaches_26 (by decide) (fun hb26 => ?_) (fun hb26 => False.elim (hc ((nI_eq (by omega) (by omega)).mp hb26)))
      refine Es_iconst (v := -1) (hC _) dX1_fillReaches_34 (by decide) ?_
      refine Es_fSN (hC _) ms_X1_76 dX1_fillReaches_35 (c_write (kd := 16) (n := 1024) rfl (fun _ => rfl) rfl (by omega) (by decide)) rfl rfl (by decide) (Nat.le_of_ble_eq_true rfl) ?_
      refine Es_iinc (lv' := [_, _, _, _]) (hC _) dX1_fillReaches_38 (by decide) rfl (show _ + Int32.ofInt (1) = _ + (1) from rfl) rfl rfl ?_
      refine Es_goto (hC _) 7 dX1_fillReaches_41 (by decide) ?_
      rw [nI_1, sT_u]
      refine ih (u + 1) _ (by omega) (fun u' h1 => ?_)
      by_cases he : u' = u
      · rw [he, upd_s, e]
      · rw [upd_n (by omega)]
        exact hr u' (by omega)
set_option maxRecDepth 100000 in
set_option maxHeartbeats 4000000 in
theorem c_fillReaches {ad : sA} {nw nt : Nat} {B : sB} {L : sL} {D : TD} {P : Nat} (hT : TT B D P) : Cs yX1_fillReaches cX1_fillReaches 4 none 3 [.ref (ad 10 0)] ad nw nt (B) (L) (fun v B1 L1 => v = none ∧ L1 = L ∧ ∃ g, B1 = sT B g ∧ ∀ q u, q ≤ P → u < 2 ^ D.K → g (128 * q + u) = iE (rch D (P - q) q u)) := by
  have hC : ∀ Q, je_Ok (sCm yX1_fillReaches cX1_fillReaches 4 none 3 ad nw nt Q) RX1 cX1_fillReaches 4 3 := fun _ => je_Cm_ok
  refine Cs_of [some (.ref (ad 10 0)), none, none, none] (by decide) rfl (Nat.le_of_ble_eq_true rfl) ?_
  first | refine Es_aload_n (hC _) dX1_fillReaches_0 rfl ?_ | refine Es_aload_nN (hC _) dX1_fillReaches_0 rfl ?_
  refine Es_fV (hC _) mv_X1_109 dX1_fillReaches_1 (c_allUsed hT.1 hT.2.2.1) rfl rfl ⟨_, rfl, rfl⟩ rfl rfl (by decide) (Nat.le_of_ble_eq_true rfl) ?_
  refine Es_istore_n (lv' := [_, _, _, _]) (hC _) dX1_fillReaches_4 (by decide) rfl rfl ?_
  refine Es_iconst (v := 0) (hC _) dX1_fillReaches_5 (by decide) ?_
  refine Es_istore_n (lv' := [_, _, _, _]) (hC _) dX1_fillReaches_6 (by decide) rfl rfl ?_
  have hh := l_fr1 (ad := ad) (nw := nw) (nt := nt) (L := L) (bc := 0) (bs := 0) hT (2 ^ D.K) 0 (B 16 0) (by omega) (fun u' h => by omega)
  rw [sT_id] at hh
  exact hh

