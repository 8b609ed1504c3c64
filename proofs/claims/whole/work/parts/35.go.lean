/-! ===== go ===== -/
/-- the tyre that rolls on a place -/
def rO (B : sB) (w : Nat) (x : Int32) (q : Nat) : Option Nat := if B 19 w q = 4 ∨ (B 19 w q = 3 ∧ x = 0) ∨ B 20 w q < 0 then none else some (B 20 w q).toNatClampNeg
def ro (B : sB) (w : Nat) (x : Int32) (t : Nat) : Nat → Bool
  | 0 => false
  | q + 1 => ro B w x t q || decide (rO B w x q = some t)
theorem ro_iff {B : sB} {w : Nat} {x : Int32} {t : Nat} : ∀ p, ro B w x t p = true ↔ ∃ q, q < p ∧ rO B w x q = some t
  | 0 => by
    simp only [ro]
    exact ⟨fun z => (by cases z), fun ⟨q, h, _⟩ => (by omega)⟩
  | p + 1 => by
    simp only [ro, Bool.or_eq_true, decide_eq_true_eq, ro_iff p]
    constructor
    · rintro (⟨q, h1, h2⟩ | h)
      · exact ⟨q, by omega, h2⟩
      · exact ⟨p, by omega, h⟩
    · rintro ⟨q, h1, h2⟩
      by_cases he : q = p
      · subst he
        exact Or.inr h2
      · exact Or.inl ⟨q, by omega, h2⟩
def mlS (B : sB) (w : Nat) (x : Int32) : Nat → Nat
  | 0 => 0
  | q + 1 => match rO B w x q with
    | none => mlS B w x q
    | some t => max (mlS B w x q) (B 21 t 9).toNatClampNeg
theorem mlS_n {B : sB} {w : Nat} {x : Int32} {q : Nat} (h : rO B w x q = none) : mlS B w x (q + 1) = mlS B w x q := by simp only [mlS]; rw [h]
theorem mlS_t {B : sB} {w : Nat} {x : Int32} {q t : Nat} (h : rO B w x q = some t) : mlS B w x (q + 1) = max (mlS B w x q) (B 21 t 9).toNatClampNeg := by simp only [mlS]; rw [h]
def rlC (B : sB) (w : Nat) (x n : Int32) (p : Nat) : sB := fun k j i => if k = 21 ∧ i = 9 ∧ ro B w x j p = true then B k j i + n else B k j i
def rlR (B : sB) (w : Nat) (x n : Int32) (p : Nat) : sB := fun k j i => if k = 46 ∧ j = 0 ∧ ro B w x i p = true then B k j i + n else B k j i
theorem rlC_k {B : sB} {w : Nat} {x n : Int32} {p k : Nat} (h : k ≠ 21) : rlC B w x n p k = B k := by
  funext j i
  unfold rlC
  rw [if_neg (fun z => h z.1)]
theorem rlR_k {B : sB} {w : Nat} {x n : Int32} {p k : Nat} (h : k ≠ 46) : rlR B w x n p k = B k := by
  funext j i
  unfold rlR
  rw [if_neg (fun z => h z.1)]
theorem rlC_i {B : sB} {w : Nat} {x n : Int32} {p k j i : Nat} (h : i ≠ 9) : rlC B w x n p k j i = B k j i := by
  unfold rlC
  rw [if_neg (fun z => h z.2.1)]
theorem rlC_0 (B : sB) (w : Nat) (x n : Int32) : rlC B w x n 0 = B := by
  funext k j i
  unfold rlC
  rw [if_neg (fun z => by have := z.2.2; simp [ro] at this)]
theorem rlR_0 (B : sB) (w : Nat) (x n : Int32) : rlR B w x n 0 = B := by
  funext k j i
  unfold rlR
  rw [if_neg (fun z => by have := z.2.2; simp [ro] at this)]
theorem ro_n {B : sB} {w : Nat} {x : Int32} {q t : Nat} (h : rO B w x q = none) : ro B w x t (q + 1) = ro B w x t q := by
  simp only [ro]
  rw [h]
  simp
theorem rlC_n {B : sB} {w : Nat} {x n : Int32} {q : Nat} (h : rO B w x q = none) : rlC B w x n (q + 1) = rlC B w x n q := by
  unfold rlC
  simp only [ro_n h]
theorem rlR_n {B : sB} {w : Nat} {x n : Int32} {q : Nat} (h : rO B w x q = none) : rlR B w x n (q + 1) = rlR B w x n q := by
  unfold rlR
  simp only [ro_n h]
theorem ro_o {B : sB} {w : Nat} {x : Int32} {q t t' : Nat} (h : rO B w x q = some t) (ht : t' ≠ t) : ro B w x t' (q + 1) = ro B w x t' q := by
  simp only [ro]
  rw [h]
  have : ¬ (some t = some t') := fun z => ht (Option.some.inj z).symm
  simp [this]
theorem ro_s {B : sB} {w : Nat} {x : Int32} {q t : Nat} (h : rO B w x q = some t) : ro B w x t (q + 1) = true := by
  simp only [ro]
  rw [h]
  simp
theorem rlC_t {B : sB} {w : Nat} {x n : Int32} {q t : Nat} (h : rO B w x q = some t) (hf : ro B w x t q = false) : uB (rlC B w x n q) 21 t 9 (rlC B w x n q 21 t 9 + n) = rlC B w x n (q + 1) := by
  funext k j i
  by_cases hc : k = 21 ∧ j = t ∧ i = 9
  · obtain ⟨rfl, rfl, rfl⟩ := hc
    rw [uB_s]
    unfold rlC
    rw [if_neg (fun z => by rw [hf] at z; cases z.2.2), if_pos ⟨rfl, rfl, ro_s h⟩]
  · rw [uB_n hc]
    unfold rlC
    by_cases h1 : k = 21 ∧ i = 9
    · rw [ro_o h (fun z => hc ⟨h1.1, z, h1.2⟩)]
    · rw [if_neg (fun z => h1 ⟨z.1, z.2.1⟩), if_neg (fun z => h1 ⟨z.1, z.2.1⟩)]
theorem rlR_t {B : sB} {w : Nat} {x n : Int32} {q t : Nat} (h : rO B w x q = some t) (hf : ro B w x t q = false) : uB (rlR B w x n q) 46 0 t (rlR B w x n q 46 0 t + n) = rlR B w x n (q + 1) := by
  funext k j i
  by_cases hc : k = 46 ∧ j = 0 ∧ i = t
  · obtain ⟨rfl, rfl, rfl⟩ := hc
    rw [uB_s]
    unfold rlR
    rw [if_neg (fun z => by rw [hf] at z; cases z.2.2), if_pos ⟨rfl, rfl, ro_s h⟩]
  · rw [uB_n hc]
    unfold rlR
    by_cases h1 : k = 46 ∧ j = 0
    · rw [ro_o h (fun z => hc ⟨h1.1, h1.2, z⟩)]
    · rw [if_neg (fun z => h1 ⟨z.1, z.2.1⟩), if_neg (fun z => h1 ⟨z.1, z.2.1⟩)]
theorem rO_c (B : sB) (w : Nat) (x n : Int32) (p q : Nat) (w' : Nat) (x' : Int32) : rO (rlC B w x n p) w' x' q = rO B w' x' q := by
  unfold rO
  rw [rlC_k (by decide), rlC_k (by decide)]
theorem ro_c (B : sB) (w : Nat) (x n : Int32) (p : Nat) (w' : Nat) (x' : Int32) (t : Nat) : ∀ q, ro (rlC B w x n p) w' x' t q = ro B w' x' t q
  | 0 => rfl
  | q + 1 => by
    simp only [ro]
    rw [ro_c B w x n p w' x' t q, rO_c]
/-- no tyre rolls on two places -/
def rInj (B : sB) (w : Nat) (x : Int32) (p : Nat) : Prop := ∀ q q' t, q < p → q' < p → rO B w x q = some t → rO B w x q' = some t → q = q'
theorem rInj.f {B : sB} {w : Nat} {x : Int32} {p q t : Nat} (hi : rInj B w x p) (hq : q < p) (h : rO B w x q = some t) : ro B w x t q = false := by
  cases hh : ro B w x t q with
  | false => rfl
  | true =>
    obtain ⟨q', h1, h2⟩ := (ro_iff q).mp hh
    have := hi q q' t hq (by omega) h h2
    omega
theorem rO_cs {nt : Nat} {B : sB} {w p : Nat} {x : Int32} {q : Nat} (hW : PW nt B w p) (hq : q < p) (h40 : nt ≤ 40) : (rO B w x q = none ∧ (B 19 w q = 4 ∨ (B 19 w q = 3 ∧ x = 0) ∨ B 20 w q = -1)) ∨ ∃ t, t < nt ∧ rO B w x q = some t ∧ B 20 w q = nI t ∧ ¬ B 19 w q = 4 ∧ ¬ (B 19 w q = 3 ∧ x = 0) := by
  unfold rO
  by_cases h4 : B 19 w q = 4
  · exact Or.inl ⟨if_pos (Or.inl h4), Or.inl h4⟩
  · by_cases h3 : B 19 w q = 3 ∧ x = 0
    · exact Or.inl ⟨if_pos (Or.inr (Or.inl h3)), Or.inr (Or.inl h3)⟩
    · rcases (hW.2.2 q hq).2 with hon | ⟨t, ht, hon⟩
      · exact Or.inl ⟨if_pos (Or.inr (Or.inr (by rw [hon]; decide))), Or.inr (Or.inr hon)⟩
      · refine Or.inr ⟨t, ht, ?_, hon, h4, h3⟩
        rw [if_neg, hon, nI_clamp (by omega)]
        rw [hon]
        rintro (z | z | z)
        · exact h4 z
        · exact h3 z
        · exact nI_pos (by omega) z
set_option maxRecDepth 100000 in
set_option maxHeartbeats 4000000 in
theorem c_rollingOn_a {ad : sA} {nw nt : Nat} {B : sB} {L : sL} {w p q : Nat} {x : Int32} (hw : w < nw) (hp : B 18 w 3 = nI p) (h7 : p ≤ 7) (hq : q < p) (h4 : B 19 w q = 4) : Cf yX3_rollingOn cX3_rollingOn 4 (some (FieldType.object "TyreBook$Tyre")) 2 [.ref (ad 18 w), .int (nI q), .int x] ad nw nt B L (some (.null)) (B) (L) := by
  have hC : ∀ Q, je_Ok (sCm yX3_rollingOn cX3_rollingOn 4 (some (FieldType.object "TyreBook$Tyre")) 2 ad nw nt Q) RX3 cX3_rollingOn 4 2 := fun _ => je_Cm_ok
  refine Cs_of [some (.ref (ad 18 w)), some (.int (nI q)), some (.int x), none] (by decide) rfl (Nat.le_of_ble_eq_true rfl) ?_
  first | refine Es_aload_n (hC _) dX3_rollingOn_0 rfl ?_ | refine Es_aload_nN (hC _) dX3_rollingOn_0 rfl ?_
  refine Es_iload_n (hC _) dX3_rollingOn_1 rfl ?_
  refine Es_fV (hC _) mv_X3_40 dX3_rollingOn_2 (c_kindOf_in hw hp h7 hq) (ok18 hw) rfl ⟨_, rfl, rfl⟩ rfl rfl (by decide) (Nat.le_of_ble_eq_true rfl) ?_
  refine Es_istore_n (lv' := [_, _, _, _]) (hC _) dX3_rollingOn_5 (by decide) rfl rfl ?_
  refine Es_iload_n (hC _) dX3_rollingOn_6 rfl ?_
  refine Es_iconst (v := 4) (hC _) dX3_rollingOn_7 (by decide) ?_
  refine Es_icmp_eq (hC _) 20 dX3_rollingOn_8 (by decide) (fun hb8 => ?_) (fun hb8 => False.elim (hb8 h4))
  refine Es_null (hC _) dX3_rollingOn_20 ?_
  refine Es_goto (hC _) 29 dX3_rollingOn_21 (by decide) ?_
  exact Es_aret dX3_rollingOn_29 (by first | exact Or.inl rfl | exact Or.inr ⟨_, rfl⟩) ⟨rfl, rfl, rfl⟩

set_option maxRecDepth 100000 in
set_option maxHeartbeats 4000000 in
theorem c_rollingOn_b {ad : sA} {nw nt : Nat} {B : sB} {L : sL} {w p q : Nat} {x : Int32} (hw : w < nw) (hp : B 18 w 3 = nI p) (h7 : p ≤ 7) (hq : q < p) (h3 : B 19 w q = 3) (hx : x = 0) : Cf yX3_rollingOn cX3_rollingOn 4 (some (FieldType.object "TyreBook$Tyre")) 2 [.ref (ad 18 w), .int (nI q), .int x] ad nw nt B L (some (.null)) (B) (L) := by
  have hC : ∀ Q, je_Ok (sCm yX3_rollingOn cX3_rollingOn 4 (some (FieldType.object "TyreBook$Tyre")) 2 ad nw nt Q) RX3 cX3_rollingOn 4 2 := fun _ => je_Cm_ok
  refine Cs_of [some (.ref (ad 18 w)), some (.int (nI q)), some (.int x), none] (by decide) rfl (Nat.le_of_ble_eq_true rfl) ?_
  first | refine Es_aload_n (hC _) dX3_rollingOn_0 rfl ?_ | refine Es_aload_nN (hC _) dX3_rollingOn_0 rfl ?_
  refine Es_iload_n (hC _) dX3_rollingOn_1 rfl ?_
  refine Es_fV (hC _) mv_X3_40 dX3_rollingOn_2 (c_kindOf_in hw hp h7 hq) (ok18 hw) rfl ⟨_, rfl, rfl⟩ rfl rfl (by decide) (Nat.le_of_ble_eq_true rfl) ?_
  refine Es_istore_n (lv' := [_, _, _, _]) (hC _) dX3_rollingOn_5 (by decide) rfl rfl ?_
  refine Es_iload_n (hC _) dX3_rollingOn_6 rfl ?_
  refine Es_iconst (v := 4) (hC _) dX3_rollingOn_7 (by decide) ?_
  refine Es_icmp_eq (hC _) 20 dX3_rollingOn_8 (by decide) (fun hb8 => False.elim (absurd (h3.symm.trans hb8) (by decide))) (fun hb8 => ?_)
  refine Es_iload_n (hC _) dX3_rollingOn_11 rfl ?_
  refine Es_iconst (v := 3) (hC _) dX3_rollingOn_12 (by decide) ?_
  refine Es_icmp_ne (hC _) 24 dX3_rollingOn_13 (by decide) (fun hb13 => False.elim (hb13 h3)) (fun hb13 => ?_)
  refine Es_iload_n (hC _) dX3_rollingOn_16 rfl ?_
  refine Es_if_ne (hC _) 24 dX3_rollingOn_17 (by decide) (fun hb17 => False.elim (hb17 hx)) (fun hb17 => ?_)
  refine Es_null (hC _) dX3_rollingOn_20 ?_
  refine Es_goto (hC _) 29 dX3_rollingOn_21 (by decide) ?_
  exact Es_aret dX3_rollingOn_29 (by first | exact Or.inl rfl | exact Or.inr ⟨_, rfl⟩) ⟨rfl, rfl, rfl⟩

set_option maxRecDepth 100000 in
set_option maxHeartbeats 4000000 in
theorem c_rollingOn_c1 {ad : sA} {nw nt : Nat} {B : sB} {L : sL} {w p q : Nat} {x : Int32} (hw : w < nw) (hp : B 18 w 3 = nI p) (h7 : p ≤ 7) (hq : q < p) (h4 : ¬ B 19 w q = 4) (h3 : ¬ B 19 w q = 3) (hon : B 20 w q = -1) : Cf yX3_rollingOn cX3_rollingOn 4 (some (FieldType.object "TyreBook$Tyre")) 2 [.ref (ad 18 w), .int (nI q), .int x] ad nw nt B L (some (.null)) (B) (L) := by
  have hC : ∀ Q, je_Ok (sCm yX3_rollingOn cX3_rollingOn 4 (some (FieldType.object "TyreBook$Tyre")) 2 ad nw nt Q) RX3 cX3_rollingOn 4 2 := fun _ => je_Cm_ok
  refine Cs_of [some (.ref (ad 18 w)), some (.int (nI q)), some (.int x), none] (by decide) rfl (Nat.le_of_ble_eq_true rfl) ?_
  first | refine Es_aload_n (hC _) dX3_rollingOn_0 rfl ?_ | refine Es_aload_nN (hC _) dX3_rollingOn_0 rfl ?_
  refine Es_iload_n (hC _) dX3_rollingOn_1 rfl ?_
  refine Es_fV (hC _) mv_X3_40 dX3_rollingOn_2 (c_kindOf_in hw hp h7 hq) (ok18 hw) rfl ⟨_, rfl, rfl⟩ rfl rfl (by decide) (Nat.le_of_ble_eq_true rfl) ?_
  refine Es_istore_n (lv' := [_, _, _, _]) (hC _) dX3_rollingOn_5 (by decide) rfl rfl ?_
  refine Es_iload_n (hC _) dX3_rollingOn_6 rfl ?_
  refine Es_iconst (v := 4) (hC _) dX3_rollingOn_7 (by decide) ?_
  refine Es_icmp_eq (hC _) 20 dX3_rollingOn_8 (by decide) (fun hb8 => False.elim (h4 hb8)) (fun hb8 => ?_)
  refine Es_iload_n (hC _) dX3_rollingOn_11 rfl ?_
  refine Es_iconst (v := 3) (hC _) dX3_rollingOn_12 (by decide) ?_
  refine Es_icmp_ne (hC _) 24 dX3_rollingOn_13 (by decide) (fun hb13 => ?_) (fun hb13 => False.elim (h3 hb13))
  first | refine Es_aload_n (hC _) dX3_rollingOn_24 rfl ?_ | refine Es_aload_nN (hC _) dX3_rollingOn_24 rfl ?_
  refine Es_iload_n (hC _) dX3_rollingOn_25 rfl ?_
  refine Es_fV (hC _) mv_X3_48 dX3_rollingOn_26 (c_tyreOn_in hw hp h7 hq) (ok18 hw) rfl ⟨_, rfl, rfl⟩ rfl rfl (by decide) (Nat.le_of_ble_eq_true rfl) ?_
  rw [show rT ad (B 20 w q) = none by rw [hon]; rfl]
  exact Es_aret dX3_rollingOn_29 (by first | exact Or.inl rfl | exact Or.inr ⟨_, rfl⟩) ⟨rfl, rfl, rfl⟩

set_option maxRecDepth 100000 in
set_option maxHeartbeats 4000000 in
theorem c_rollingOn_c2 {ad : sA} {nw nt : Nat} {B : sB} {L : sL} {w p q : Nat} {x : Int32} (hw : w < nw) (hp : B 18 w 3 = nI p) (h7 : p ≤ 7) (hq : q < p) (h3 : B 19 w q = 3) (hx : ¬ x = 0) (hon : B 20 w q = -1) : Cf yX3_rollingOn cX3_rollingOn 4 (some (FieldType.object "TyreBook$Tyre")) 2 [.ref (ad 18 w), .int (nI q), .int x] ad nw nt B L (some (.null)) (B) (L) := by
  have hC : ∀ Q, je_Ok (sCm yX3_rollingOn cX3_rollingOn 4 (some (FieldType.object "TyreBook$Tyre")) 2 ad nw nt Q) RX3 cX3_rollingOn 4 2 := fun _ => je_Cm_ok
  refine Cs_of [some (.ref (ad 18 w)), some (.int (nI q)), some (.int x), none] (by decide) rfl (Nat.le_of_ble_eq_true rfl) ?_
  first | refine Es_aload_n (hC _) dX3_rollingOn_0 rfl ?_ | refine Es_aload_nN (hC _) dX3_rollingOn_0 rfl ?_
  refine Es_iload_n (hC _) dX3_rollingOn_1 rfl ?_
  refine Es_fV (hC _) mv_X3_40 dX3_rollingOn_2 (c_kindOf_in hw hp h7 hq) (ok18 hw) rfl ⟨_, rfl, rfl⟩ rfl rfl (by decide) (Nat.le_of_ble_eq_true rfl) ?_
  refine Es_istore_n (lv' := [_, _, _, _]) (hC _) dX3_rollingOn_5 (by decide) rfl rfl ?_
  refine Es_iload_n (hC _) dX3_rollingOn_6 rfl ?_
  refine Es_iconst (v := 4) (hC _) dX3_rollingOn_7 (by decide) ?_
  refine Es_icmp_eq (hC _) 20 dX3_rollingOn_8 (by decide) (fun hb8 => False.elim (absurd (h3.symm.trans hb8) (by decide))) (fun hb8 => ?_)
  refine Es_iload_n (hC _) dX3_rollingOn_11 rfl ?_
  refine Es_iconst (v := 3) (hC _) dX3_rollingOn_12 (by decide) ?_
  refine Es_icmp_ne (hC _) 24 dX3_rollingOn_13 (by decide) (fun hb13 => False.elim (hb13 h3)) (fun hb13 => ?_)
  refine Es_iload_n (hC _) dX3_rollingOn_16 rfl ?_
  refine Es_if_ne (hC _) 24 dX3_rollingOn_17 (by decide) (fun hb17 => ?_) (fun hb17 => False.elim (hx hb17))
  first | refine Es_aload_n (hC _) dX3_rollingOn_24 rfl ?_ | refine Es_aload_nN (hC _) dX3_rollingOn_24 rfl ?_
  refine Es_iload_n (hC _) dX3_rollingOn_25 rfl ?_
  refine Es_fV (hC _) mv_X3_48 dX3_rollingOn_26 (c_tyreOn_in hw hp h7 hq) (ok18 hw) rfl ⟨_, rfl, rfl⟩ rfl rfl (by decide) (Nat.le_of_ble_eq_true rfl) ?_
  rw [show rT ad (B 20 w q) = none by rw [hon]; rfl]
  exact Es_aret dX3_rollingOn_29 (by first | exact Or.inl rfl | exact Or.inr ⟨_, rfl⟩) ⟨rfl, rfl, rfl⟩

set_option maxRecDepth 100000 in
set_option maxHeartbeats 4000000 in
theorem c_rollingOn_d1 {ad : sA} {nw nt : Nat} {B : sB} {L : sL} {w p q : Nat} {x : Int32} (hw : w < nw) (hp : B 18 w 3 = nI p) (h7 : p ≤ 7) (hq : q < p) {t : Nat} (ht : t < nt) (h40 : nt ≤ 40) (h4 : ¬ B 19 w q = 4) (h3 : ¬ B 19 w q = 3) (hon : B 20 w q = nI t) : Cf yX3_rollingOn cX3_rollingOn 4 (some (FieldType.object "TyreBook$Tyre")) 2 [.ref (ad 18 w), .int (nI q), .int x] ad nw nt B L (some (.ref (ad 21 t))) (B) (L) := by
  have hC : ∀ Q, je_Ok (sCm yX3_rollingOn cX3_rollingOn 4 (some (FieldType.object "TyreBook$Tyre")) 2 ad nw nt Q) RX3 cX3_rollingOn 4 2 := fun _ => je_Cm_ok
  refine Cs_of [some (.ref (ad 18 w)), some (.int (nI q)), some (.int x), none] (by decide) rfl (Nat.le_of_ble_eq_true rfl) ?_
  first | refine Es_aload_n (hC _) dX3_rollingOn_0 rfl ?_ | refine Es_aload_nN (hC _) dX3_rollingOn_0 rfl ?_
  refine Es_iload_n (hC _) dX3_rollingOn_1 rfl ?_
  refine Es_fV (hC _) mv_X3_40 dX3_rollingOn_2 (c_kindOf_in hw hp h7 hq) (ok18 hw) rfl ⟨_, rfl, rfl⟩ rfl rfl (by decide) (Nat.le_of_ble_eq_true rfl) ?_
  refine Es_istore_n (lv' := [_, _, _, _]) (hC _) dX3_rollingOn_5 (by decide) rfl rfl ?_
  refine Es_iload_n (hC _) dX3_rollingOn_6 rfl ?_
  refine Es_iconst (v := 4) (hC _) dX3_rollingOn_7 (by decide) ?_
  refine Es_icmp_eq (hC _) 20 dX3_rollingOn_8 (by decide) (fun hb8 => False.elim (h4 hb8)) (fun hb8 => ?_)
  refine Es_iload_n (hC _) dX3_rollingOn_11 rfl ?_
  refine Es_iconst (v := 3) (hC _) dX3_rollingOn_12 (by decide) ?_
  refine Es_icmp_ne (hC _) 24 dX3_rollingOn_13 (by decide) (fun hb13 => ?_) (fun hb13 => False.elim (h3 hb13))
  first | refine Es_aload_n (hC _) dX3_rollingOn_24 rfl ?_ | refine Es_aload_nN (hC _) dX3_rollingOn_24 rfl ?_
  refine Es_iload_n (hC _) dX3_rollingOn_25 rfl ?_
  refine Es_fV (hC _) mv_X3_48 dX3_rollingOn_26 (c_tyreOn_in hw hp h7 hq) (ok18 hw) rfl ⟨_, rfl, rfl⟩ rfl rfl (by decide) (Nat.le_of_ble_eq_true rfl) ?_
  rw [show rT ad (B 20 w q) = some (ad 21 t) by rw [hon, rT, if_neg (nI_pos (by omega)), nI_clamp (by omega)]]
  exact Es_aret dX3_rollingOn_29 (by first | exact Or.inl rfl | exact Or.inr ⟨_, rfl⟩) ⟨rfl, rfl, rfl⟩

set_option maxRecDepth 100000 in
set_option maxHeartbeats 4000000 in
theorem c_rollingOn_d2 {ad : sA} {nw nt : Nat} {B : sB} {L : sL} {w p q : Nat} {x : Int32} (hw : w < nw) (hp : B 18 w 3 = nI p) (h7 : p ≤ 7) (hq : q < p) {t : Nat} (ht : t < nt) (h40 : nt ≤ 40) (h3 : B 19 w q = 3) (hx : ¬ x = 0) (hon : B 20 w q = nI t) : Cf yX3_rollingOn cX3_rollingOn 4 (some (FieldType.object "TyreBook$Tyre")) 2 [.ref (ad 18 w), .int (nI q), .int x] ad nw nt B L (some (.ref (ad 21 t))) (B) (L) := by
  have hC : ∀ Q, je_Ok (sCm yX3_rollingOn cX3_rollingOn 4 (some (FieldType.object "TyreBook$Tyre")) 2 ad nw nt Q) RX3 cX3_rollingOn 4 2 := fun _ => je_Cm_ok
  refine Cs_of [some (.ref (ad 18 w)), some (.int (nI q)), some (.int x), none] (by decide) rfl (Nat.le_of_ble_eq_true rfl) ?_
  first | refine Es_aload_n (hC _) dX3_rollingOn_0 rfl ?_ | refine Es_aload_nN (hC _) dX3_rollingOn_0 rfl ?_
  refine Es_iload_n (hC _) dX3_rollingOn_1 rfl ?_
  refine Es_fV (hC _) mv_X3_40 dX3_rollingOn_2 (c_kindOf_in hw hp h7 hq) (ok18 hw) rfl ⟨_, rfl, rfl⟩ rfl rfl (by decide) (Nat.le_of_ble_eq_true rfl) ?_
  refine Es_istore_n (lv' := [_, _, _, _]) (hC _) dX3_rollingOn_5 (by decide) rfl rfl ?_
  refine Es_iload_n (hC _) dX3_rollingOn_6 rfl ?_
  refine Es_iconst (v := 4) (hC _) dX3_rollingOn_7 (by decide) ?_
  refine Es_icmp_eq (hC _) 20 dX3_rollingOn_8 (by decide) (fun hb8 => False.elim (absurd (h3.symm.trans hb8) (by decide))) (fun hb8 => ?_)
  refine Es_iload_n (hC _) dX3_rollingOn_11 rfl ?_
  refine Es_iconst (v := 3) (hC _) dX3_rollingOn_12 (by decide) ?_
  refine Es_icmp_ne (hC _) 24 dX3_rollingOn_13 (by decide) (fun hb13 => False.elim (hb13 h3)) (fun hb13 => ?_)
  refine Es_iload_n (hC _) dX3_rollingOn_16 rfl ?_
  refine Es_if_ne (hC _) 24 dX3_rollingOn_17 (by decide) (fun hb17 => ?_) (fun hb17 => False.elim (hx hb17))
  first | refine Es_aload_n (hC _) dX3_rollingOn_24 rfl ?_ | refine Es_aload_nN (hC _) dX3_rollingOn_24 rfl ?_
  refine Es_iload_n (hC _) dX3_rollingOn_25 rfl ?_
  refine Es_fV (hC _) mv_X3_48 dX3_rollingOn_26 (c_tyreOn_in hw hp h7 hq) (ok18 hw) rfl ⟨_, rfl, rfl⟩ rfl rfl (by decide) (Nat.le_of_ble_eq_true rfl) ?_
  rw [show rT ad (B 20 w q) = some (ad 21 t) by rw [hon, rT, if_neg (nI_pos (by omega)), nI_clamp (by omega)]]
  exact Es_aret dX3_rollingOn_29 (by first | exact Or.inl rfl | exact Or.inr ⟨_, rfl⟩) ⟨rfl, rfl, rfl⟩

theorem c_rollingOn_n {ad : sA} {nw nt : Nat} {B : sB} {L : sL} {w p q : Nat} {x : Int32} (hw : w < nw) (hW : PW nt B w p) (hq : q < p) (h : B 19 w q = 4 ∨ (B 19 w q = 3 ∧ x = 0) ∨ B 20 w q = -1) : Cf yX3_rollingOn cX3_rollingOn 4 (some (FieldType.object "TyreBook$Tyre")) 2 [.ref (ad 18 w), .int (nI q), .int x] ad nw nt B L (some .null) B L := by
  rcases h with h | ⟨h1, h2⟩ | h
  · exact c_rollingOn_a hw hW.2.1 hW.1 hq h
  · exact c_rollingOn_b hw hW.2.1 hW.1 hq h1 h2
  · by_cases h3 : B 19 w q = 3
    · by_cases hx : x = 0
      · exact c_rollingOn_b hw hW.2.1 hW.1 hq h3 hx
      · exact c_rollingOn_c2 hw hW.2.1 hW.1 hq h3 hx h
    · by_cases h4 : B 19 w q = 4
      · exact c_rollingOn_a hw hW.2.1 hW.1 hq h4
      · exact c_rollingOn_c1 hw hW.2.1 hW.1 hq h4 h3 h
theorem c_rollingOn_t {ad : sA} {nw nt : Nat} {B : sB} {L : sL} {w p q t : Nat} {x : Int32} (hw : w < nw) (hW : PW nt B w p) (hq : q < p) (ht : t < nt) (h40 : nt ≤ 40) (hon : B 20 w q = nI t) (h4 : ¬ B 19 w q = 4) (h3 : ¬ (B 19 w q = 3 ∧ x = 0)) : Cf yX3_rollingOn cX3_rollingOn 4 (some (FieldType.object "TyreBook$Tyre")) 2 [.ref (ad 18 w), .int (nI q), .int x] ad nw nt B L (some (.ref (ad 21 t))) B L := by
  by_cases h : B 19 w q = 3
  · exact c_rollingOn_d2 hw hW.2.1 hW.1 hq ht h40 h (fun z => h3 ⟨h, z⟩) hon
  · exact c_rollingOn_d1 hw hW.2.1 hW.1 hq ht h40 h4 h hon
def LB (nt : Nat) (B : sB) : Prop := ∀ t, t < nt → ∃ k, k ≤ 1000000 ∧ B 21 t 9 = nI k
theorem mlS_le {nt : Nat} {B : sB} {w p : Nat} {x : Int32} (hW : PW nt B w p) (h40 : nt ≤ 40) (hB : LB nt B) : ∀ i, i ≤ p → mlS B w x i ≤ 1000000
  | 0, _ => by simp [mlS]
  | i + 1, h => by
    have h1 := mlS_le hW h40 hB i (x := x) (by omega)
    rcases rO_cs (x := x) hW (show i < p by omega) h40 with ⟨e, -⟩ | ⟨t, ht, e, -⟩
    · rw [mlS_n e]
      exact h1
    · obtain ⟨k, hk, hk2⟩ := hB t ht
      rw [mlS_t e, hk2, nI_clamp (by omega)]
      omega
theorem mlS_iff {nt : Nat} {B : sB} {w p : Nat} {x : Int32} (hW : PW nt B w p) (h40 : nt ≤ 40) (N : Nat) : ∀ i, i ≤ p → (mlS B w x i ≤ N ↔ ∀ q t, q < i → rO B w x q = some t → (B 21 t 9).toNatClampNeg ≤ N)
  | 0, _ => ⟨fun _ q t h => by omega, fun _ => by simp [mlS]⟩
  | i + 1, h => by
    have h1 := mlS_iff hW h40 N i (x := x) (by omega)
    rcases rO_cs (x := x) hW (show i < p by omega) h40 with ⟨e, -⟩ | ⟨t, ht, e, -⟩
    · rw [mlS_n e, h1]
      constructor
      · intro z q t' hq hr
        by_cases hqi : q = i
        · subst hqi
          rw [e] at hr
          cases hr
        · exact z q t' (by omega) hr
      · exact fun z q t' hq hr => z q t' (by omega) hr
    · rw [mlS_t e]
      constructor
      · intro z q t' hq hr
        by_cases hqi : q = i
        · subst hqi
          rw [e] at hr
          cases hr
          omega
        · exact h1.mp (by omega) q t' (by omega) hr
      · intro z
        have a1 := h1.mpr (fun q t' hq hr => z q t' (by omega) hr)
        have a2 := z i t (by omega) e
        omega
set_option maxRecDepth 100000 in
set_option maxHeartbeats 4000000 in
theorem l_ml {ad : sA} {nw nt : Nat} {B : sB} {L : sL} {bc bs : Nat} {w p : Nat} {x : Int32} (h40 : nt ≤ 40) (hw : w < nw) (hW : PW nt B w p) (hB : LB nt B) : ∀ (n i : Nat), i ≤ p → p - i = n → Es (sCm yX3_mostLengths cX3_mostLengths 5 (some .int) 3 ad nw nt (fun v B1 L1 => v = some (.int (nI (mlS B w x p))) ∧ B1 = B ∧ L1 = L)) 5 4 [some (.ref (ad 18 w)), some (.int x), some (.int (nI (mlS B w x i))), some (.int (nI i)), none] [] ad nw nt B L bc bs := by
  have hC : ∀ Q, je_Ok (sCm yX3_mostLengths cX3_mostLengths 5 (some .int) 3 ad nw nt Q) RX3 cX3_mostLengths 5 3 := fun _ => je_Cm_ok
  intro n
  induction n with
  | zero =>
    intro i hi hn
    have hik : i = p := by omega
    subst hik
    refine Es_iload_n (hC _) dX3_mostLengths_4 rfl ?_
    first | refine Es_aload_n (hC _) dX3_mostLengths_5 rfl ?_ | refine Es_aload_nN (hC _) dX3_mostLengths_5 rfl ?_
    refine Sg_X3_3 (hC _) fl_X3_25 dX3_mostLengths_6 hw ?_
    rw [hW.2.1]
    refine Es_icmp_ge (hC _) 41 dX3_mostLengths_9 (by decide) (fun hb9 => ?_) (fun hb9 => False.elim (hb9 (nI_le (Nat.le_refl _) (by have := hW.1; omega))))
    refine Es_iload_n (hC _) dX3_mostLengths_41 rfl ?_
    exact Es_iret dX3_mostLengths_42 rfl ⟨rfl, rfl, rfl⟩
  | succ n ih =>
    intro i hi hn
    have hm := mlS_le (x := x) hW h40 hB i hi
    rcases rO_cs (x := x) hW (show i < p by omega) h40 with ⟨e, he⟩ | ⟨t, ht, e, hon, h4, h3⟩
    · skip
      refine Es_iload_n (hC _) dX3_mostLengths_4 rfl ?_
      first | refine Es_aload_n (hC _) dX3_mostLengths_5 rfl ?_ | refine Es_aload_nN (hC _) dX3_mostLengths_5 rfl ?_
      refine Sg_X3_3 (hC _) fl_X3_25 dX3_mostLengths_6 hw ?_
      rw [hW.2.1]
      refine Es_icmp_ge (hC _) 41 dX3_mostLengths_9 (by decide) (fun hb9 => False.elim (nI_ge (b := p) (a := i) (by omega) (by have := hW.1; omega) hb9)) (fun hb9 => ?_)
      first | refine Es_aload_n (hC _) dX3_mostLengths_12 rfl ?_ | refine Es_aload_nN (hC _) dX3_mostLengths_12 rfl ?_
      refine Es_iload_n (hC _) dX3_mostLengths_13 rfl ?_
      refine Es_iload_n (hC _) dX3_mostLengths_14 rfl ?_
      refine Es_fV (hC _) mv_X3_74 dX3_mostLengths_15 (c_rollingOn_n hw hW (by omega) he) (ok18 hw) rfl ⟨_, rfl, rfl⟩ rfl rfl (by decide) (Nat.le_of_ble_eq_true rfl) ?_
      first | refine Es_astore (lv' := [_, _, _, _, _]) (hC _) dX3_mostLengths_18 (by decide) rfl rfl ?_ | refine Es_astoreN (lv' := [_, _, _, _, _]) (hC _) dX3_mostLengths_18 (by decide) rfl rfl ?_
      first | refine Es_aload (hC _) dX3_mostLengths_20 rfl ?_ | refine Es_aloadN (hC _) dX3_mostLengths_20 rfl ?_
      refine Es_ifnullN (hC _) 35 dX3_mostLengths_22 (by decide) ?_
      refine Es_iinc (lv' := [_, _, _, _, _]) (hC _) dX3_mostLengths_35 (by decide) rfl (show _ + Int32.ofInt (1) = _ + (1) from rfl) rfl rfl ?_
      refine Es_goto (hC _) 4 dX3_mostLengths_38 (by decide) ?_
      refine Es.kill 4 (lv' := [_, _, _, _, _]) rfl ?_
      simp only [nI_1]
      refine Es.eqV ?_ (ih (i + 1) (by omega) (by omega))
      rw [mlS_n e]
    · obtain ⟨k, hk, hk2⟩ := hB t ht
      refine Es_iload_n (hC _) dX3_mostLengths_4 rfl ?_
      first | refine Es_aload_n (hC _) dX3_mostLengths_5 rfl ?_ | refine Es_aload_nN (hC _) dX3_mostLengths_5 rfl ?_
      refine Sg_X3_3 (hC _) fl_X3_25 dX3_mostLengths_6 hw ?_
      rw [hW.2.1]
      refine Es_icmp_ge (hC _) 41 dX3_mostLengths_9 (by decide) (fun hb9 => False.elim (nI_ge (b := p) (a := i) (by omega) (by have := hW.1; omega) hb9)) (fun hb9 => ?_)
      first | refine Es_aload_n (hC _) dX3_mostLengths_12 rfl ?_ | refine Es_aload_nN (hC _) dX3_mostLengths_12 rfl ?_
      refine Es_iload_n (hC _) dX3_mostLengths_13 rfl ?_
      refine Es_iload_n (hC _) dX3_mostLengths_14 rfl ?_
      refine Es_fV (hC _) mv_X3_74 dX3_mostLengths_15 (c_rollingOn_t hw hW (by omega) ht h40 hon h4 h3) (ok18 hw) rfl ⟨_, rfl, rfl⟩ rfl rfl (by decide) (Nat.le_of_ble_eq_true rfl) ?_
      first | refine Es_astore (lv' := [_, _, _, _, _]) (hC _) dX3_mostLengths_18 (by decide) rfl rfl ?_ | refine Es_astoreN (lv' := [_, _, _, _, _]) (hC _) dX3_mostLengths_18 (by decide) rfl rfl ?_
      first | refine Es_aload (hC _) dX3_mostLengths_20 rfl ?_ | refine Es_aloadN (hC _) dX3_mostLengths_20 rfl ?_
      refine Es_ifnull (hC _) dX3_mostLengths_22 ?_
      refine Es_iload_n (hC _) dX3_mostLengths_25 rfl ?_
      first | refine Es_aload (hC _) dX3_mostLengths_26 rfl ?_ | refine Es_aloadN (hC _) dX3_mostLengths_26 rfl ?_
      refine Sg_X2_9 (hC _) fl_X3_78 dX3_mostLengths_28 ht ?_
      rw [hk2]
      refine Es_fS (hC _) ms_X3_81 dX3_mostLengths_31 j_maxi rfl rfl (by decide) (Nat.le_of_ble_eq_true rfl) ?_
      rw [mxI_N (by omega) (by omega)]
      refine Es_istore_n (lv' := [_, _, _, _, _]) (hC _) dX3_mostLengths_34 (by decide) rfl rfl ?_
      refine Es_iinc (lv' := [_, _, _, _, _]) (hC _) dX3_mostLengths_35 (by decide) rfl (show _ + Int32.ofInt (1) = _ + (1) from rfl) rfl rfl ?_
      refine Es_goto (hC _) 4 dX3_mostLengths_38 (by decide) ?_
      refine Es.kill 4 (lv' := [_, _, _, _, _]) rfl ?_
      simp only [nI_1]
      refine Es.eqV ?_ (ih (i + 1) (by omega) (by omega))
      rw [mlS_t e, hk2, nI_clamp (by omega)]
set_option maxRecDepth 100000 in
set_option maxHeartbeats 4000000 in
theorem c_mostLengths {ad : sA} {nw nt : Nat} {B : sB} {L : sL} {w p : Nat} {x : Int32} (h40 : nt ≤ 40) (hw : w < nw) (hW : PW nt B w p) (hB : LB nt B) : Cf yX3_mostLengths cX3_mostLengths 5 (some FieldType.int) 3 [.ref (ad 18 w), .int x] ad nw nt B L (some (.int (nI (mlS B w x p)))) (B) (L) := by
  have hC : ∀ Q, je_Ok (sCm yX3_mostLengths cX3_mostLengths 5 (some FieldType.int) 3 ad nw nt Q) RX3 cX3_mostLengths 5 3 := fun _ => je_Cm_ok
  refine Cs_of [some (.ref (ad 18 w)), some (.int x), none, none, none] (by decide) rfl (Nat.le_of_ble_eq_true rfl) ?_
  refine Es_iconst (v := 0) (hC _) dX3_mostLengths_0 (by decide) ?_
  refine Es_istore_n (lv' := [_, _, _, _, _]) (hC _) dX3_mostLengths_1 (by decide) rfl rfl ?_
  refine Es_iconst (v := 0) (hC _) dX3_mostLengths_2 (by decide) ?_
  refine Es_istore_n (lv' := [_, _, _, _, _]) (hC _) dX3_mostLengths_3 (by decide) rfl rfl ?_
  exact l_ml h40 hw hW hB p 0 (by omega) (by omega)

theorem PW_c {nt : Nat} {B : sB} {w p : Nat} {w' : Nat} {x n : Int32} {q : Nat} (hW : PW nt B w p) : PW nt (rlC B w' x n q) w p := by
  unfold PW
  rw [rlC_k (by decide), rlC_k (by decide), rlC_k (by decide)]
  exact hW
set_option maxRecDepth 100000 in
set_option maxHeartbeats 4000000 in
theorem l_roll {ad : sA} {nw nt : Nat} {B : sB} {L : sL} {bc bs : Nat} {w p : Nat} {x z : Int32} (h40 : nt ≤ 40) (hw : w < nw) (hW : PW nt B w p) (hI : rInj B w x p) : ∀ (n i : Nat), i ≤ p → p - i = n → Es (sCm yX3_roll cX3_roll 5 none 3 ad nw nt (fun v B1 L1 => v = none ∧ B1 = rlC B w x z p ∧ L1 = L)) 5 2 [some (.ref (ad 18 w)), some (.int z), some (.int x), some (.int (nI i)), none] [] ad nw nt (rlC B w x z i) L bc bs := by
  have hC : ∀ Q, je_Ok (sCm yX3_roll cX3_roll 5 none 3 ad nw nt Q) RX3 cX3_roll 5 3 := fun _ => je_Cm_ok
  intro n
  induction n with
  | zero =>
    intro i hi hn
    have hik : i = p := by omega
    subst hik
    refine Es_iload_n (hC _) dX3_roll_2 rfl ?_
    first | refine Es_aload_n (hC _) dX3_roll_3 rfl ?_ | refine Es_aload_nN (hC _) dX3_roll_3 rfl ?_
    refine Sg_X3_3 (hC _) fl_X3_25 dX3_roll_4 hw ?_
    rw [(PW_c hW).2.1]
    refine Es_icmp_ge (hC _) 40 dX3_roll_7 (by decide) (fun hb7 => ?_) (fun hb7 => False.elim (hb7 (nI_le (Nat.le_refl _) (by have := hW.1; omega))))
    exact Es_vret dX3_roll_40 ⟨rfl, rfl, rfl⟩
  | succ n ih =>
    intro i hi hn
    rcases rO_cs (x := x) hW (show i < p by omega) h40 with ⟨e, he⟩ | ⟨t, ht, e, hon, h4, h3⟩
    · skip
      refine Es_iload_n (hC _) dX3_roll_2 rfl ?_
      first | refine Es_aload_n (hC _) dX3_roll_3 rfl ?_ | refine Es_aload_nN (hC _) dX3_roll_3 rfl ?_
      refine Sg_X3_3 (hC _) fl_X3_25 dX3_roll_4 hw ?_
      rw [(PW_c hW).2.1]
      refine Es_icmp_ge (hC _) 40 dX3_roll_7 (by decide) (fun hb7 => False.elim (nI_ge (b := p) (a := i) (by omega) (by have := hW.1; omega) hb7)) (fun hb7 => ?_)
      first | refine Es_aload_n (hC _) dX3_roll_10 rfl ?_ | refine Es_aload_nN (hC _) dX3_roll_10 rfl ?_
      refine Es_iload_n (hC _) dX3_roll_11 rfl ?_
      refine Es_iload_n (hC _) dX3_roll_12 rfl ?_
      refine Es_fV (hC _) mv_X3_74 dX3_roll_13 (c_rollingOn_n hw (PW_c hW) (by omega) (by rw [rlC_k (by decide), rlC_k (by decide)]; exact he)) (ok18 hw) rfl ⟨_, rfl, rfl⟩ rfl rfl (by decide) (Nat.le_of_ble_eq_true rfl) ?_
      first | refine Es_astore (lv' := [_, _, _, _, _]) (hC _) dX3_roll_16 (by decide) rfl rfl ?_ | refine Es_astoreN (lv' := [_, _, _, _, _]) (hC _) dX3_roll_16 (by decide) rfl rfl ?_
      first | refine Es_aload (hC _) dX3_roll_18 rfl ?_ | refine Es_aloadN (hC _) dX3_roll_18 rfl ?_
      refine Es_ifnullN (hC _) 34 dX3_roll_20 (by decide) ?_
      refine Es_iinc (lv' := [_, _, _, _, _]) (hC _) dX3_roll_34 (by decide) rfl (show _ + Int32.ofInt (1) = _ + (1) from rfl) rfl rfl ?_
      refine Es_goto (hC _) 2 dX3_roll_37 (by decide) ?_
      refine Es.kill 4 (lv' := [_, _, _, _, _]) rfl ?_
      simp only [nI_1]
      rw [← rlC_n e]
      exact ih (i + 1) (by omega) (by omega)
    · skip
      refine Es_iload_n (hC _) dX3_roll_2 rfl ?_
      first | refine Es_aload_n (hC _) dX3_roll_3 rfl ?_ | refine Es_aload_nN (hC _) dX3_roll_3 rfl ?_
      refine Sg_X3_3 (hC _) fl_X3_25 dX3_roll_4 hw ?_
      rw [(PW_c hW).2.1]
      refine Es_icmp_ge (hC _) 40 dX3_roll_7 (by decide) (fun hb7 => False.elim (nI_ge (b := p) (a := i) (by omega) (by have := hW.1; omega) hb7)) (fun hb7 => ?_)
      first | refine Es_aload_n (hC _) dX3_roll_10 rfl ?_ | refine Es_aload_nN (hC _) dX3_roll_10 rfl ?_
      refine Es_iload_n (hC _) dX3_roll_11 rfl ?_
      refine Es_iload_n (hC _) dX3_roll_12 rfl ?_
      refine Es_fV (hC _) mv_X3_74 dX3_roll_13 (c_rollingOn_t hw (PW_c hW) (by omega) ht h40 (by rw [rlC_k (by decide)]; exact hon) (by rw [rlC_k (by decide)]; exact h4) (by rw [rlC_k (by decide)]; exact h3)) (ok18 hw) rfl ⟨_, rfl, rfl⟩ rfl rfl (by decide) (Nat.le_of_ble_eq_true rfl) ?_
      first | refine Es_astore (lv' := [_, _, _, _, _]) (hC _) dX3_roll_16 (by decide) rfl rfl ?_ | refine Es_astoreN (lv' := [_, _, _, _, _]) (hC _) dX3_roll_16 (by decide) rfl rfl ?_
      first | refine Es_aload (hC _) dX3_roll_18 rfl ?_ | refine Es_aloadN (hC _) dX3_roll_18 rfl ?_
      refine Es_ifnull (hC _) dX3_roll_20 ?_
      first | refine Es_aload (hC _) dX3_roll_23 rfl ?_ | refine Es_aloadN (hC _) dX3_roll_23 rfl ?_
      refine Es_dup (hC _) dX3_roll_25 rfl ?_
      refine Sg_X2_9 (hC _) fl_X3_78 dX3_roll_26 ht ?_
      refine Es_iload_n (hC _) dX3_roll_29 rfl ?_
      refine Es_iadd (hC _) dX3_roll_30 ?_
      refine Sp_X2_9 (hC _) fl_X3_78 dX3_roll_31 ht ?_
      refine Es_iinc (lv' := [_, _, _, _, _]) (hC _) dX3_roll_34 (by decide) rfl (show _ + Int32.ofInt (1) = _ + (1) from rfl) rfl rfl ?_
      refine Es_goto (hC _) 2 dX3_roll_37 (by decide) ?_
      refine Es.kill 4 (lv' := [_, _, _, _, _]) rfl ?_
      simp only [nI_1]
      rw [rlC_t e (hI.f (by omega) e)]
      exact ih (i + 1) (by omega) (by omega)
set_option maxRecDepth 100000 in
set_option maxHeartbeats 4000000 in
theorem c_roll {ad : sA} {nw nt : Nat} {B : sB} {L : sL} {w p : Nat} {x z : Int32} (h40 : nt ≤ 40) (hw : w < nw) (hW : PW nt B w p) (hI : rInj B w x p) : Cf yX3_roll cX3_roll 5 none 3 [.ref (ad 18 w), .int z, .int x] ad nw nt B L (none) (rlC B w x z p) (L) := by
  have hC : ∀ Q, je_Ok (sCm yX3_roll cX3_roll 5 none 3 ad nw nt Q) RX3 cX3_roll 5 3 := fun _ => je_Cm_ok
  refine Cs_of [some (.ref (ad 18 w)), some (.int z), some (.int x), none, none] (by decide) rfl (Nat.le_of_ble_eq_true rfl) ?_
  refine Es_iconst (v := 0) (hC _) dX3_roll_0 (by decide) ?_
  refine Es_istore_n (lv' := [_, _, _, _, _]) (hC _) dX3_roll_1 (by decide) rfl rfl ?_
  have hh := l_roll (ad := ad) (L := L) (bc := 0) (bs := 0) (z := z) h40 hw hW hI p 0 (by omega) (by omega)
  rw [rlC_0] at hh
  exact hh

set_option maxRecDepth 100000 in
set_option maxHeartbeats 4000000 in
theorem c_go_1 {ad : sA} {nw nt : Nat} {B : sB} {L : sL} (hnw : B 0 0 8 = nI nw) (h5 : nw ≤ 5) {y : Int32} (how : out y nw) {z x : Int32} : Cf yX5_go cX5_go 5 (some FieldType.int) 5 [.ref (ad 0 0), .int y, .int z, .int x] ad nw nt B L (some (.int (-1))) (uB B 5 0 1 (B 5 0 1 + 1)) (L) := by
  have hC : ∀ Q, je_Ok (sCm yX5_go cX5_go 5 (some FieldType.int) 5 ad nw nt Q) RX5 cX5_go 5 5 := fun _ => je_Cm_ok
  refine Cs_of [some (.ref (ad 0 0)), some (.int y), some (.int z), some (.int x), none] (by decide) rfl (Nat.le_of_ble_eq_true rfl) ?_
  first | refine Es_aload_n (hC _) dX5_go_0 rfl ?_ | refine Es_aload_nN (hC _) dX5_go_0 rfl ?_
  refine Es_iload_n (hC _) dX5_go_1 rfl ?_
  refine Es_fV (hC _) mv_X5_77 dX5_go_2 (c_wagonAt_out hnw how) rfl rfl ⟨_, rfl, rfl⟩ rfl rfl (by decide) (Nat.le_of_ble_eq_true rfl) ?_
  first | refine Es_astore (lv' := [_, _, _, _, _]) (hC _) dX5_go_5 (by decide) rfl rfl ?_ | refine Es_astoreN (lv' := [_, _, _, _, _]) (hC _) dX5_go_5 (by decide) rfl rfl ?_
  first | refine Es_aload (hC _) dX5_go_7 rfl ?_ | refine Es_aloadN (hC _) dX5_go_7 rfl ?_
  refine Es_ifnonnullN (hC _) dX5_go_9 ?_
  first | refine Es_aload_n (hC _) dX5_go_12 rfl ?_ | refine Es_aload_nN (hC _) dX5_go_12 rfl ?_
  refine Es_iconst (v := -1) (hC _) dX5_go_13 (by decide) ?_
  refine Es_fV (hC _) mv_X5_70 dX5_go_14 (c_refuse (k := 1) (by decide) (by decide)) rfl rfl ⟨_, rfl, rfl⟩ rfl rfl (by decide) (Nat.le_of_ble_eq_true rfl) ?_
  exact Es_iret dX5_go_17 rfl ⟨rfl, rfl, rfl⟩

set_option maxRecDepth 100000 in
set_option maxHeartbeats 4000000 in
theorem c_go_2 {ad : sA} {nw nt : Nat} {B : sB} {L : sL} (hnw : B 0 0 8 = nI nw) (h5 : nw ≤ 5) {w : Nat} (hw : w < nw) {p ap : Nat} {z x : Int32} (hap : B 0 0 10 = nI ap) (hap1 : ap ≤ 100) (h40 : nt ≤ 40) (hW : PW nt B w p) (hL : PL B) (hF : TFa nt B L) (hy : ¬ whyS B L w p ap p 0 = -9) : Cf yX5_go cX5_go 5 (some FieldType.int) 5 [.ref (ad 0 0), .int (nI w), .int z, .int x] ad nw nt B L (some (.int (-2))) (uB B 5 0 2 (B 5 0 2 + 1)) (L) := by
  have hC : ∀ Q, je_Ok (sCm yX5_go cX5_go 5 (some FieldType.int) 5 ad nw nt Q) RX5 cX5_go 5 5 := fun _ => je_Cm_ok
  refine Cs_of [some (.ref (ad 0 0)), some (.int (nI w)), some (.int z), some (.int x), none] (by decide) rfl (Nat.le_of_ble_eq_true rfl) ?_
  first | refine Es_aload_n (hC _) dX5_go_0 rfl ?_ | refine Es_aload_nN (hC _) dX5_go_0 rfl ?_
  refine Es_iload_n (hC _) dX5_go_1 rfl ?_
  refine Es_fV (hC _) mv_X5_77 dX5_go_2 (c_wagonAt_in hnw h5 hw) rfl rfl ⟨_, rfl, rfl⟩ rfl rfl (by decide) (Nat.le_of_ble_eq_true rfl) ?_
  first | refine Es_astore (lv' := [_, _, _, _, _]) (hC _) dX5_go_5 (by decide) rfl rfl ?_ | refine Es_astoreN (lv' := [_, _, _, _, _]) (hC _) dX5_go_5 (by decide) rfl rfl ?_
  first | refine Es_aload (hC _) dX5_go_7 rfl ?_ | refine Es_aloadN (hC _) dX5_go_7 rfl ?_
  refine Es_ifnonnull (hC _) 18 dX5_go_9 (by decide) ?_
  first | refine Es_aload (hC _) dX5_go_18 rfl ?_ | refine Es_aloadN (hC _) dX5_go_18 rfl ?_
  first | refine Es_aload_n (hC _) dX5_go_20 rfl ?_ | refine Es_aload_nN (hC _) dX5_go_20 rfl ?_
  refine Sg_X5_2 (hC _) fl_X5_30 dX5_go_21 ?_
  first | refine Es_aload_n (hC _) dX5_go_24 rfl ?_ | refine Es_aload_nN (hC _) dX5_go_24 rfl ?_
  refine Sg_X5_10 (hC _) fl_X5_63 dX5_go_25 ?_
  rw [hap]
  refine Es_fV (hC _) mv_X5_164 dX5_go_28 (c_whyUnfit hw hW.2.1 hW.1 hap1 h40 hF hL hW) (ok18 hw) rfl ⟨_, rfl, rfl⟩ rfl rfl (by decide) (Nat.le_of_ble_eq_true rfl) ?_
  refine Es_bipush (v := -9) (hC _) dX5_go_31 (by decide) ?_
  refine Es_icmp_eq (hC _) 43 dX5_go_33 (by decide) (fun hb33 => False.elim (hy hb33)) (fun hb33 => ?_)
  first | refine Es_aload_n (hC _) dX5_go_36 rfl ?_ | refine Es_aload_nN (hC _) dX5_go_36 rfl ?_
  refine Es_bipush (v := -2) (hC _) dX5_go_37 (by decide) ?_
  refine Es_fV (hC _) mv_X5_70 dX5_go_39 (c_refuse (k := 2) (by decide) (by decide)) rfl rfl ⟨_, rfl, rfl⟩ rfl rfl (by decide) (Nat.le_of_ble_eq_true rfl) ?_
  exact Es_iret dX5_go_42 rfl ⟨rfl, rfl, rfl⟩

set_option maxRecDepth 100000 in
set_option maxHeartbeats 4000000 in
theorem c_go_lo {ad : sA} {nw nt : Nat} {B : sB} {L : sL} (hnw : B 0 0 8 = nI nw) (h5 : nw ≤ 5) {w : Nat} (hw : w < nw) {p ap : Nat} {z x : Int32} (hap : B 0 0 10 = nI ap) (hap1 : ap ≤ 100) (h40 : nt ≤ 40) (hW : PW nt B w p) (hL : PL B) (hF : TFa nt B L) (hy : whyS B L w p ap p 0 = -9) (hl : z < 1) : Cf yX5_go cX5_go 5 (some FieldType.int) 5 [.ref (ad 0 0), .int (nI w), .int z, .int x] ad nw nt B L (some (.int (-4))) (uB B 5 0 4 (B 5 0 4 + 1)) (L) := by
  have hC : ∀ Q, je_Ok (sCm yX5_go cX5_go 5 (some FieldType.int) 5 ad nw nt Q) RX5 cX5_go 5 5 := fun _ => je_Cm_ok
  refine Cs_of [some (.ref (ad 0 0)), some (.int (nI w)), some (.int z), some (.int x), none] (by decide) rfl (Nat.le_of_ble_eq_true rfl) ?_
  first | refine Es_aload_n (hC _) dX5_go_0 rfl ?_ | refine Es_aload_nN (hC _) dX5_go_0 rfl ?_
  refine Es_iload_n (hC _) dX5_go_1 rfl ?_
  refine Es_fV (hC _) mv_X5_77 dX5_go_2 (c_wagonAt_in hnw h5 hw) rfl rfl ⟨_, rfl, rfl⟩ rfl rfl (by decide) (Nat.le_of_ble_eq_true rfl) ?_
  first | refine Es_astore (lv' := [_, _, _, _, _]) (hC _) dX5_go_5 (by decide) rfl rfl ?_ | refine Es_astoreN (lv' := [_, _, _, _, _]) (hC _) dX5_go_5 (by decide) rfl rfl ?_
  first | refine Es_aload (hC _) dX5_go_7 rfl ?_ | refine Es_aloadN (hC _) dX5_go_7 rfl ?_
  refine Es_ifnonnull (hC _) 18 dX5_go_9 (by decide) ?_
  first | refine Es_aload (hC _) dX5_go_18 rfl ?_ | refine Es_aloadN (hC _) dX5_go_18 rfl ?_
  first | refine Es_aload_n (hC _) dX5_go_20 rfl ?_ | refine Es_aload_nN (hC _) dX5_go_20 rfl ?_
  refine Sg_X5_2 (hC _) fl_X5_30 dX5_go_21 ?_
  first | refine Es_aload_n (hC _) dX5_go_24 rfl ?_ | refine Es_aload_nN (hC _) dX5_go_24 rfl ?_
  refine Sg_X5_10 (hC _) fl_X5_63 dX5_go_25 ?_
  rw [hap]
  refine Es_fV (hC _) mv_X5_164 dX5_go_28 (c_whyUnfit hw hW.2.1 hW.1 hap1 h40 hF hL hW) (ok18 hw) rfl ⟨_, rfl, rfl⟩ rfl rfl (by decide) (Nat.le_of_ble_eq_true rfl) ?_
  refine Es_bipush (v := -9) (hC _) dX5_go_31 (by decide) ?_
  refine Es_icmp_eq (hC _) 43 dX5_go_33 (by decide) (fun hb33 => ?_) (fun hb33 => False.elim (hb33 hy))
  refine Es_iload_n (hC _) dX5_go_43 rfl ?_
  refine Es_iconst (v := 1) (hC _) dX5_go_44 (by decide) ?_
  refine Es_icmp_ge (hC _) 55 dX5_go_45 (by decide) (fun hb45 => False.elim (Int32.not_le.mpr hl hb45)) (fun hb45 => ?_)
  first | refine Es_aload_n (hC _) dX5_go_48 rfl ?_ | refine Es_aload_nN (hC _) dX5_go_48 rfl ?_
  refine Es_bipush (v := -4) (hC _) dX5_go_49 (by decide) ?_
  refine Es_fV (hC _) mv_X5_70 dX5_go_51 (c_refuse (k := 4) (by decide) (by decide)) rfl rfl ⟨_, rfl, rfl⟩ rfl rfl (by decide) (Nat.le_of_ble_eq_true rfl) ?_
  exact Es_iret dX5_go_54 rfl ⟨rfl, rfl, rfl⟩

set_option maxRecDepth 100000 in
set_option maxHeartbeats 4000000 in
theorem c_go_hi {ad : sA} {nw nt : Nat} {B : sB} {L : sL} (hnw : B 0 0 8 = nI nw) (h5 : nw ≤ 5) {w : Nat} (hw : w < nw) {p ap : Nat} {z x : Int32} (hap : B 0 0 10 = nI ap) (hap1 : ap ≤ 100) (h40 : nt ≤ 40) (hW : PW nt B w p) (hL : PL B) (hF : TFa nt B L) (hy : whyS B L w p ap p 0 = -9) (hl : ¬ z < 1) (hh : 10000 < z) : Cf yX5_go cX5_go 5 (some FieldType.int) 5 [.ref (ad 0 0), .int (nI w), .int z, .int x] ad nw nt B L (some (.int (-6))) (uB B 5 0 6 (B 5 0 6 + 1)) (L) := by
  have hC : ∀ Q, je_Ok (sCm yX5_go cX5_go 5 (some FieldType.int) 5 ad nw nt Q) RX5 cX5_go 5 5 := fun _ => je_Cm_ok
  refine Cs_of [some (.ref (ad 0 0)), some (.int (nI w)), some (.int z), some (.int x), none] (by decide) rfl (Nat.le_of_ble_eq_true rfl) ?_
  first | refine Es_aload_n (hC _) dX5_go_0 rfl ?_ | refine Es_aload_nN (hC _) dX5_go_0 rfl ?_
  refine Es_iload_n (hC _) dX5_go_1 rfl ?_
  refine Es_fV (hC _) mv_X5_77 dX5_go_2 (c_wagonAt_in hnw h5 hw) rfl rfl ⟨_, rfl, rfl⟩ rfl rfl (by decide) (Nat.le_of_ble_eq_true rfl) ?_
  first | refine Es_astore (lv' := [_, _, _, _, _]) (hC _) dX5_go_5 (by decide) rfl rfl ?_ | refine Es_astoreN (lv' := [_, _, _, _, _]) (hC _) dX5_go_5 (by decide) rfl rfl ?_
  first | refine Es_aload (hC _) dX5_go_7 rfl ?_ | refine Es_aloadN (hC _) dX5_go_7 rfl ?_
  refine Es_ifnonnull (hC _) 18 dX5_go_9 (by decide) ?_
  first | refine Es_aload (hC _) dX5_go_18 rfl ?_ | refine Es_aloadN (hC _) dX5_go_18 rfl ?_
  first | refine Es_aload_n (hC _) dX5_go_20 rfl ?_ | refine Es_aload_nN (hC _) dX5_go_20 rfl ?_
  refine Sg_X5_2 (hC _) fl_X5_30 dX5_go_21 ?_
  first | refine Es_aload_n (hC _) dX5_go_24 rfl ?_ | refine Es_aload_nN (hC _) dX5_go_24 rfl ?_
  refine Sg_X5_10 (hC _) fl_X5_63 dX5_go_25 ?_
  rw [hap]
  refine Es_fV (hC _) mv_X5_164 dX5_go_28 (c_whyUnfit hw hW.2.1 hW.1 hap1 h40 hF hL hW) (ok18 hw) rfl ⟨_, rfl, rfl⟩ rfl rfl (by decide) (Nat.le_of_ble_eq_true rfl) ?_
  refine Es_bipush (v := -9) (hC _) dX5_go_31 (by decide) ?_
  refine Es_icmp_eq (hC _) 43 dX5_go_33 (by decide) (fun hb33 => ?_) (fun hb33 => False.elim (hb33 hy))
  refine Es_iload_n (hC _) dX5_go_43 rfl ?_
  refine Es_iconst (v := 1) (hC _) dX5_go_44 (by decide) ?_
  refine Es_icmp_ge (hC _) 55 dX5_go_45 (by decide) (fun hb45 => ?_) (fun hb45 => False.elim (hb45 (Int32.not_lt.mp hl)))
  refine Es_iload_n (hC _) dX5_go_55 rfl ?_
  refine Es_sipush (v := 10000) (hC _) dX5_go_56 (by decide) ?_
  refine Es_icmp_gt (hC _) 75 dX5_go_59 (by decide) (fun hb59 => ?_) (fun hb59 => False.elim (hb59 hh))
  first | refine Es_aload_n (hC _) dX5_go_75 rfl ?_ | refine Es_aload_nN (hC _) dX5_go_75 rfl ?_
  refine Es_bipush (v := -6) (hC _) dX5_go_76 (by decide) ?_
  refine Es_fV (hC _) mv_X5_70 dX5_go_78 (c_refuse (k := 6) (by decide) (by decide)) rfl rfl ⟨_, rfl, rfl⟩ rfl rfl (by decide) (Nat.le_of_ble_eq_true rfl) ?_
  exact Es_iret dX5_go_81 rfl ⟨rfl, rfl, rfl⟩

set_option maxRecDepth 100000 in
set_option maxHeartbeats 4000000 in
theorem c_go_room {ad : sA} {nw nt : Nat} {B : sB} {L : sL} (hnw : B 0 0 8 = nI nw) (h5 : nw ≤ 5) {w : Nat} (hw : w < nw) {p ap : Nat} {m : Nat} {x : Int32} (hap : B 0 0 10 = nI ap) (hap1 : ap ≤ 100) (h40 : nt ≤ 40) (hW : PW nt B w p) (hL : PL B) (hF : TFa nt B L) (hy : whyS B L w p ap p 0 = -9) (hm1 : 1 ≤ m) (hm2 : m ≤ 10000) (hB : LB nt B) (hr : 1000000 < mlS B w x p + m) : Cf yX5_go cX5_go 5 (some FieldType.int) 5 [.ref (ad 0 0), .int (nI w), .int (nI m), .int x] ad nw nt B L (some (.int (-6))) (uB B 5 0 6 (B 5 0 6 + 1)) (L) := by
  have hC : ∀ Q, je_Ok (sCm yX5_go cX5_go 5 (some FieldType.int) 5 ad nw nt Q) RX5 cX5_go 5 5 := fun _ => je_Cm_ok
  refine Cs_of [some (.ref (ad 0 0)), some (.int (nI w)), some (.int (nI m)), some (.int x), none] (by decide) rfl (Nat.le_of_ble_eq_true rfl) ?_
  have hml := mlS_le (x := x) hW h40 hB p (Nat.le_refl _)
  first | refine Es_aload_n (hC _) dX5_go_0 rfl ?_ | refine Es_aload_nN (hC _) dX5_go_0 rfl ?_
  refine Es_iload_n (hC _) dX5_go_1 rfl ?_
  refine Es_fV (hC _) mv_X5_77 dX5_go_2 (c_wagonAt_in hnw h5 hw) rfl rfl ⟨_, rfl, rfl⟩ rfl rfl (by decide) (Nat.le_of_ble_eq_true rfl) ?_
  first | refine Es_astore (lv' := [_, _, _, _, _]) (hC _) dX5_go_5 (by decide) rfl rfl ?_ | refine Es_astoreN (lv' := [_, _, _, _, _]) (hC _) dX5_go_5 (by decide) rfl rfl ?_
  first | refine Es_aload (hC _) dX5_go_7 rfl ?_ | refine Es_aloadN (hC _) dX5_go_7 rfl ?_
  refine Es_ifnonnull (hC _) 18 dX5_go_9 (by decide) ?_
  first | refine Es_aload (hC _) dX5_go_18 rfl ?_ | refine Es_aloadN (hC _) dX5_go_18 rfl ?_
  first | refine Es_aload_n (hC _) dX5_go_20 rfl ?_ | refine Es_aload_nN (hC _) dX5_go_20 rfl ?_
  refine Sg_X5_2 (hC _) fl_X5_30 dX5_go_21 ?_
  first | refine Es_aload_n (hC _) dX5_go_24 rfl ?_ | refine Es_aload_nN (hC _) dX5_go_24 rfl ?_
  refine Sg_X5_10 (hC _) fl_X5_63 dX5_go_25 ?_
  rw [hap]
  refine Es_fV (hC _) mv_X5_164 dX5_go_28 (c_whyUnfit hw hW.2.1 hW.1 hap1 h40 hF hL hW) (ok18 hw) rfl ⟨_, rfl, rfl⟩ rfl rfl (by decide) (Nat.le_of_ble_eq_true rfl) ?_
  refine Es_bipush (v := -9) (hC _) dX5_go_31 (by decide) ?_
  refine Es_icmp_eq (hC _) 43 dX5_go_33 (by decide) (fun hb33 => ?_) (fun hb33 => False.elim (hb33 hy))
  refine Es_iload_n (hC _) dX5_go_43 rfl ?_
  refine Es_iconst (v := 1) (hC _) dX5_go_44 (by decide) ?_
  refine Es_icmp_ge (hC _) 55 dX5_go_45 (by decide) (fun hb45 => ?_) (fun hb45 => False.elim (hb45 (nI_le (a := 1) (b := m) hm1 (by omega))))
  refine Es_iload_n (hC _) dX5_go_55 rfl ?_
  refine Es_sipush (v := 10000) (hC _) dX5_go_56 (by decide) ?_
  refine Es_icmp_gt (hC _) 75 dX5_go_59 (by decide) (fun hb59 => False.elim (nI_nlt (a := 10000) (b := m) hm2 (by omega) hb59)) (fun hb59 => ?_)
  first | refine Es_aload (hC _) dX5_go_62 rfl ?_ | refine Es_aloadN (hC _) dX5_go_62 rfl ?_
  refine Es_iload_n (hC _) dX5_go_64 rfl ?_
  refine Es_fV (hC _) mv_X5_167 dX5_go_65 (c_mostLengths h40 hw hW hB) (ok18 hw) rfl ⟨_, rfl, rfl⟩ rfl rfl (by decide) (Nat.le_of_ble_eq_true rfl) ?_
  refine Es_ldc (hC _) ct_X5_171 dX5_go_68 ?_
  refine Es_iload_n (hC _) dX5_go_70 rfl ?_
  refine Es_isub (hC _) dX5_go_71 ?_
  rw [show (1000000 : Int32) - nI m = nI (1000000 - m) from pk_sub (a := 1000000) (by omega)]
  refine Es_icmp_le (hC _) 82 dX5_go_72 (by decide) (fun hb72 => False.elim (nI_ge (b := mlS B w x p) (a := 1000000 - m) (by omega) (by omega) hb72)) (fun hb72 => ?_)
  first | refine Es_aload_n (hC _) dX5_go_75 rfl ?_ | refine Es_aload_nN (hC _) dX5_go_75 rfl ?_
  refine Es_bipush (v := -6) (hC _) dX5_go_76 (by decide) ?_
  refine Es_fV (hC _) mv_X5_70 dX5_go_78 (c_refuse (k := 6) (by decide) (by decide)) rfl rfl ⟨_, rfl, rfl⟩ rfl rfl (by decide) (Nat.le_of_ble_eq_true rfl) ?_
  exact Es_iret dX5_go_81 rfl ⟨rfl, rfl, rfl⟩

set_option maxRecDepth 100000 in
set_option maxHeartbeats 4000000 in
theorem c_go_ok {ad : sA} {nw nt : Nat} {B : sB} {L : sL} (hnw : B 0 0 8 = nI nw) (h5 : nw ≤ 5) {w : Nat} (hw : w < nw) {p ap : Nat} {m : Nat} {x : Int32} (hap : B 0 0 10 = nI ap) (hap1 : ap ≤ 100) (h40 : nt ≤ 40) (hW : PW nt B w p) (hL : PL B) (hF : TFa nt B L) (hy : whyS B L w p ap p 0 = -9) (hm1 : 1 ≤ m) (hm2 : m ≤ 10000) (hB : LB nt B) (hr : mlS B w x p + m ≤ 1000000) (hI : rInj B w x p) (hL2 : PL (rlC B w x (nI m) p)) (hF2 : TFc nt (rlC B w x (nI m) p) L) : Cf yX5_go cX5_go 5 (some FieldType.int) 5 [.ref (ad 0 0), .int (nI w), .int (nI m), .int x] ad nw nt B L (some (.int (nI (farS (rlC B w x (nI m) p) L w p)))) (rlC B w x (nI m) p) (L) := by
  have hC : ∀ Q, je_Ok (sCm yX5_go cX5_go 5 (some FieldType.int) 5 ad nw nt Q) RX5 cX5_go 5 5 := fun _ => je_Cm_ok
  refine Cs_of [some (.ref (ad 0 0)), some (.int (nI w)), some (.int (nI m)), some (.int x), none] (by decide) rfl (Nat.le_of_ble_eq_true rfl) ?_
  have hml := mlS_le (x := x) hW h40 hB p (Nat.le_refl _)
  first | refine Es_aload_n (hC _) dX5_go_0 rfl ?_ | refine Es_aload_nN (hC _) dX5_go_0 rfl ?_
  refine Es_iload_n (hC _) dX5_go_1 rfl ?_
  refine Es_fV (hC _) mv_X5_77 dX5_go_2 (c_wagonAt_in hnw h5 hw) rfl rfl ⟨_, rfl, rfl⟩ rfl rfl (by decide) (Nat.le_of_ble_eq_true rfl) ?_
  first | refine Es_astore (lv' := [_, _, _, _, _]) (hC _) dX5_go_5 (by decide) rfl rfl ?_ | refine Es_astoreN (lv' := [_, _, _, _, _]) (hC _) dX5_go_5 (by decide) rfl rfl ?_
  first | refine Es_aload (hC _) dX5_go_7 rfl ?_ | refine Es_aloadN (hC _) dX5_go_7 rfl ?_
  refine Es_ifnonnull (hC _) 18 dX5_go_9 (by decide) ?_
  first | refine Es_aload (hC _) dX5_go_18 rfl ?_ | refine Es_aloadN (hC _) dX5_go_18 rfl ?_
  first | refine Es_aload_n (hC _) dX5_go_20 rfl ?_ | refine Es_aload_nN (hC _) dX5_go_20 rfl ?_
  refine Sg_X5_2 (hC _) fl_X5_30 dX5_go_21 ?_
  first | refine Es_aload_n (hC _) dX5_go_24 rfl ?_ | refine Es_aload_nN (hC _) dX5_go_24 rfl ?_
  refine Sg_X5_10 (hC _) fl_X5_63 dX5_go_25 ?_
  rw [hap]
  refine Es_fV (hC _) mv_X5_164 dX5_go_28 (c_whyUnfit hw hW.2.1 hW.1 hap1 h40 hF hL hW) (ok18 hw) rfl ⟨_, rfl, rfl⟩ rfl rfl (by decide) (Nat.le_of_ble_eq_true rfl) ?_
  refine Es_bipush (v := -9) (hC _) dX5_go_31 (by decide) ?_
  refine Es_icmp_eq (hC _) 43 dX5_go_33 (by decide) (fun hb33 => ?_) (fun hb33 => False.elim (hb33 hy))
  refine Es_iload_n (hC _) dX5_go_43 rfl ?_
  refine Es_iconst (v := 1) (hC _) dX5_go_44 (by decide) ?_
  refine Es_icmp_ge (hC _) 55 dX5_go_45 (by decide) (fun hb45 => ?_) (fun hb45 => False.elim (hb45 (nI_le (a := 1) (b := m) hm1 (by omega))))
  refine Es_iload_n (hC _) dX5_go_55 rfl ?_
  refine Es_sipush (v := 10000) (hC _) dX5_go_56 (by decide) ?_
  refine Es_icmp_gt (hC _) 75 dX5_go_59 (by decide) (fun hb59 => False.elim (nI_nlt (a := 10000) (b := m) hm2 (by omega) hb59)) (fun hb59 => ?_)
  first | refine Es_aload (hC _) dX5_go_62 rfl ?_ | refine Es_aloadN (hC _) dX5_go_62 rfl ?_
  refine Es_iload_n (hC _) dX5_go_64 rfl ?_
  refine Es_fV (hC _) mv_X5_167 dX5_go_65 (c_mostLengths h40 hw hW hB) (ok18 hw) rfl ⟨_, rfl, rfl⟩ rfl rfl (by decide) (Nat.le_of_ble_eq_true rfl) ?_
  refine Es_ldc (hC _) ct_X5_171 dX5_go_68 ?_
  refine Es_iload_n (hC _) dX5_go_70 rfl ?_
  refine Es_isub (hC _) dX5_go_71 ?_
  rw [show (1000000 : Int32) - nI m = nI (1000000 - m) from pk_sub (a := 1000000) (by omega)]
  refine Es_icmp_le (hC _) 82 dX5_go_72 (by decide) (fun hb72 => ?_) (fun hb72 => False.elim (hb72 (nI_le (a := mlS B w x p) (b := 1000000 - m) (by omega) (by omega))))
  first | refine Es_aload (hC _) dX5_go_82 rfl ?_ | refine Es_aloadN (hC _) dX5_go_82 rfl ?_
  refine Es_iload_n (hC _) dX5_go_84 rfl ?_
  refine Es_iload_n (hC _) dX5_go_85 rfl ?_
  refine Es_fV (hC _) mv_X5_172 dX5_go_86 (c_roll h40 hw hW hI) (ok18 hw) rfl ⟨_, rfl, rfl⟩ rfl rfl (by decide) (Nat.le_of_ble_eq_true rfl) ?_
  first | refine Es_aload (hC _) dX5_go_89 rfl ?_ | refine Es_aloadN (hC _) dX5_go_89 rfl ?_
  first | refine Es_aload_n (hC _) dX5_go_91 rfl ?_ | refine Es_aload_nN (hC _) dX5_go_91 rfl ?_
  refine Sg_X5_2 (hC _) fl_X5_30 dX5_go_92 ?_
  refine Es_fV (hC _) mv_X5_176 dX5_go_95 (c_reach h40 hw (PW_c hW) hL2 hF2) (ok18 hw) rfl ⟨_, rfl, rfl⟩ rfl rfl (by decide) (Nat.le_of_ble_eq_true rfl) ?_
  exact Es_iret dX5_go_98 rfl ⟨rfl, rfl, rfl⟩

