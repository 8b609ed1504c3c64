/-! ===== TURN: the chosen way, and what is laid ===== -/
theorem btx_F : ∀ u : Fin 128, ∀ k j : Fin 7, ¬ bt u.val k.val = true → bt (u.val + 2 ^ k.val) k.val = true ∧ (bt u.val j.val = true → bt (u.val + 2 ^ k.val) j.val = true) := by decide +kernel
def cgS (D : TD) : Nat → List (Option Nat) → Nat
  | _, [] => 0
  | p, none :: l => cgS D (p + 1) l
  | p, some k :: l => D.cg p k + cgS D (p + 1) l
def okL (D : TD) (u : Nat) (l : List (Option Nat)) : Prop := (∀ i k, l.getD i none = some k → k < D.K ∧ ¬ bt u k = true) ∧ ∀ i i' k, l.getD i none = some k → l.getD i' none = some k → i = i'
theorem wys_l {D : TD} (hK : D.K ≤ 7) : ∀ n p u x, u < 2 ^ D.K → x ∈ wys D n p u → x.2.1 = cgS D p x.2.2 ∧ x.2.2.length = n ∧ okL D u x.2.2
  | 0, p, u, x, hu, h => by
    simp only [wys] at h
    split at h
    · have hx := List.mem_singleton.mp h
      subst hx
      refine ⟨rfl, rfl, fun i k e => ?_, fun i i' k e => ?_⟩
      · have e : ([] : List (Option Nat)).getD i none = some k := e
        simp at e
      · have e : ([] : List (Option Nat)).getD i none = some k := e
        simp at e
    · cases h
  | n + 1, p, u, x, hu, h => by
    have h128 := (p2_b hK).2
    rcases mem_wys.mp h with ⟨i, hi, hb, hE, y, hy, rfl⟩ | ⟨hm, y, hy, rfl⟩
    · obtain ⟨a1, a2, a3, a4⟩ := wys_l hK n (p + 1) (u + 2 ^ i) y (ad_N hK hu hi hb) hy
      have hx : ∀ j, j < D.K → bt (u + 2 ^ i) i = true ∧ (bt u j = true → bt (u + 2 ^ i) j = true) := fun j hj => btx_F ⟨u, by omega⟩ ⟨i, by omega⟩ ⟨j, by omega⟩ hb
      refine ⟨?_, ?_, fun j k e => ?_, fun j j' k e e' => ?_⟩
      · show D.cg p i + y.2.1 = D.cg p i + cgS D (p + 1) y.2.2
        rw [a1]
      · show (some i :: y.2.2).length = n + 1
        rw [List.length_cons, a2]
      · match j, e with
        | 0, e =>
          have e : some i = some k := e
          cases e
          exact ⟨hi, hb⟩
        | j + 1, e =>
          have e : y.2.2.getD j none = some k := e
          obtain ⟨c1, c2⟩ := a3 j k e
          exact ⟨c1, fun z => c2 ((hx k c1).2 z)⟩
      · match j, j', e, e' with
        | 0, 0, _, _ => rfl
        | 0, j' + 1, e, e' =>
          have e : some i = some k := e
          cases e
          have e' : y.2.2.getD j' none = some i := e'
          exact ((a3 j' i e').2 (hx i hi).1).elim
        | j + 1, 0, e, e' =>
          have e' : some i = some k := e'
          cases e'
          have e : y.2.2.getD j none = some i := e
          exact ((a3 j i e).2 (hx i hi).1).elim
        | j + 1, j' + 1, e, e' =>
          have e : y.2.2.getD j none = some k := e
          have e' : y.2.2.getD j' none = some k := e'
          rw [a4 j j' k e e']
    · obtain ⟨a1, a2, a3, a4⟩ := wys_l hK n (p + 1) u y hu hy
      refine ⟨?_, ?_, fun j k e => ?_, fun j j' k e e' => ?_⟩
      · show y.2.1 = cgS D (p + 1) y.2.2
        exact a1
      · show (none :: y.2.2).length = n + 1
        rw [List.length_cons, a2]
      · match j, e with
        | 0, e =>
          have e : none = some k := e
          cases e
        | j + 1, e =>
          have e : y.2.2.getD j none = some k := e
          exact a3 j k e
      · match j, j', e, e' with
        | 0, _, e, _ =>
          have e : none = some k := e
          cases e
        | j + 1, 0, _, e' =>
          have e' : none = some k := e'
          cases e'
        | j + 1, j' + 1, e, e' =>
          have e : y.2.2.getD j none = some k := e
          have e' : y.2.2.getD j' none = some k := e'
          rw [a4 j j' k e e']
/-- the best way -/
theorem chs_l {D : TD} (hD : D.ok) (hK : D.K ≤ 7) {p : Nat} (hp : p ≤ 7) (h : ¬ rch D p 0 0 = 0) : fwN D (rch D p 0 0) p 0 0 = cgS D 0 (chs D (rch D p 0 0) p 0 0) ∧ (chs D (rch D p 0 0) p 0 0).length = p ∧ okL D 0 (chs D (rch D p 0 0) p 0 0) ∧ fwN D (rch D p 0 0) p 0 0 ≤ p := by
  obtain ⟨h1, h2⟩ := ways_best hD hp h
  have h3 := rch_b (D := D) (P := p) (fun q k _ _ => hD.2 q k) p 0 0 (by omega)
  obtain ⟨l1, r, l2, c1, c2, c3⟩ := chs_first (D := D) (F := rch D p 0 0) (by omega) h3 p 0 0 (by omega)
  have hm : (r, fwN D (rch D p 0 0) p 0 0, chs D (rch D p 0 0) p 0 0) ∈ wys D p 0 0 := by
    rw [c1]
    exact List.mem_append.mpr (Or.inr (List.mem_cons_self ..))
  obtain ⟨a1, a2, a3⟩ := wys_l hK p 0 0 _ (by have := (p2_b hK).1; omega) hm
  exact ⟨a1, a2, a3, h2⟩
/-- how many changes are left from place q on -/
def rem (D : TD) (l : List (Option Nat)) (q : Nat) : Nat := cgS D q (l.drop q)
theorem rem_s {D : TD} {l : List (Option Nat)} {q : Nat} (hq : q < l.length) : rem D l q = (match l.getD q none with | none => 0 | some k => D.cg q k) + rem D l (q + 1) := by
  unfold rem
  rw [List.drop_eq_getElem_cons hq, List.getD_eq_getElem?_getD, List.getElem?_eq_getElem hq]
  cases hl : l[q] with
  | none =>
    show cgS D (q + 1) (l.drop (q + 1)) = 0 + cgS D (q + 1) (l.drop (q + 1))
    omega
  | some k => rfl
/-- one place: the class, the reference -/
def cT1 (x : Int32) (w q : Nat) (C : sB) : sB := if x = C 20 w q then C else if x < 0 then uB C 20 w q (-1) else cLog (uB (uB C 20 w q x) 21 x.toNatClampNeg 10 (nI (10 * w + q))) (C 6 0 3).toNatClampNeg (C 0 0 11) (C 21 x.toNatClampNeg 0) (nI (10 * w + q))
def cT (x : Nat → Int32) (w : Nat) (C : sB) : Nat → sB
  | 0 => C
  | q + 1 => cT1 (x q) w q (cT x w C q)
def rT1 (x : Int32) (w q : Nat) (R : sB) : sB := if ¬ x < 0 ∧ ¬ x = R 40 0 (7 * w + q) then rLog (uB (uB R 40 0 (7 * w + q) x) 47 0 x.toNatClampNeg (nI (10 * w + q))) (R 25 0 7).toNatClampNeg x.toNatClampNeg else uB R 40 0 (7 * w + q) x
def rTn (x : Nat → Int32) (w : Nat) (R : sB) : Nat → sB
  | 0 => R
  | q + 1 => rT1 (x q) w q (rTn x w R q)
theorem cT1_k {x : Int32} {w q : Nat} {C : sB} {k : Nat} (h6 : k ≠ 6) (h7 : k ≠ 7) (h8 : k ≠ 8) (h9 : k ≠ 9) (h20 : k ≠ 20) (h21 : k ≠ 21) : cT1 x w q C k = C k := by
  unfold cT1 cLog
  split
  · rfl
  · split
    · rw [uB_k h20]
    · rw [uB_k h6, uB_k h9, uB_k h8, uB_k h7, uB_k h21, uB_k h20]
theorem cT_k {x : Nat → Int32} {w : Nat} {C : sB} {k : Nat} (h6 : k ≠ 6) (h7 : k ≠ 7) (h8 : k ≠ 8) (h9 : k ≠ 9) (h20 : k ≠ 20) (h21 : k ≠ 21) : ∀ q, cT x w C q k = C k
  | 0 => rfl
  | q + 1 => (cT1_k h6 h7 h8 h9 h20 h21).trans (cT_k h6 h7 h8 h9 h20 h21 q)
theorem rT1_k {x : Int32} {w q : Nat} {R : sB} {k : Nat} (h25 : k ≠ 25) (h40 : k ≠ 40) (h47 : k ≠ 47) (h52 : k ≠ 52) (h53 : k ≠ 53) (h54 : k ≠ 54) : rT1 x w q R k = R k := by
  unfold rT1 rLog
  split
  · rw [uB_k h25, uB_k h54, uB_k h53, uB_k h52, uB_k h47, uB_k h40]
  · rw [uB_k h40]
theorem rT_k {x : Nat → Int32} {w : Nat} {R : sB} {k : Nat} (h25 : k ≠ 25) (h40 : k ≠ 40) (h47 : k ≠ 47) (h52 : k ≠ 52) (h53 : k ≠ 53) (h54 : k ≠ 54) : ∀ q, rTn x w R q k = R k
  | 0 => rfl
  | q + 1 => (rT1_k h25 h40 h47 h52 h53 h54).trans (rT_k h25 h40 h47 h52 h53 h54 q)
theorem uB_id {B : sB} {k j i : Nat} {x : Int32} (h : B k j i = x) : uB B k j i x = B := by
  funext k' j' i'
  by_cases hq : k' = k ∧ j' = j ∧ i' = i
  · obtain ⟨rfl, rfl, rfl⟩ := hq
    rw [uB_s, h]
  · rw [uB_n hq]
/-- the relation but for the wagons, over two states -/
def RelN (nw nt : Nat) (C R : sB) (L : sL) : Prop := RelS nw nt (C 0 0) (R 25 0) ∧ RelP (C 3 0) (C 4 0) (C 5 0) (R 30 0) (R 31 0) (R 32 0) ∧ RelT nt (R 25 0 3) (C 21) (C 22) (C 23) (R 42 0) (R 43 0) (R 44 0) (R 45 0) (R 46 0) (R 47 0) (R 48 0) (R 49 0) (R 50 0) (R 51 0) ∧ RelG (C 6 0) (C 7 0) (C 8 0) (C 9 0) (R 25 0) (R 52 0) (R 53 0) (R 54 0) ∧ RelL nt (L 24) (C 22) (C 23) (R 32 0) (R 42 0) (R 49 0)
/-- what is to be laid -/
def TX (nt : Nat) (B : sB) (D : TD) (l : List (Option Nat)) (x : Nat → Int32) (w p : Nat) : Prop := w < 5 ∧ p ≤ 7 ∧ nt ≤ 40 ∧ (∀ j, j < p → B 40 0 (7 * w + j) = B 20 w j) ∧ (∀ j, j < p → x j = -1 ∨ ∃ t, t < nt ∧ x j = nI t ∧ ∃ j', j' < p ∧ B 20 w j' = nI t) ∧ (∀ j j' t, j < p → j' < p → t < nt → x j = nI t → x j' = nI t → j = j') ∧ (∀ j t, j < p → t < nt → B 20 w j = nI t → B 47 0 t = nI (10 * w + j)) ∧ ∀ q, q < p → rem D l q = (if x q = B 20 w q ∨ x q < 0 then 0 else 1) + rem D l (q + 1)
def JT (nw nt : Nat) (B : sB) (L : sL) (D : TD) (l : List (Option Nat)) (x : Nat → Int32) (w kE q : Nat) (C R : sB) : Prop := RelN nw nt C R L ∧ (∃ k, C 6 0 3 = nI k ∧ k + rem D l q = kE) ∧ (∀ w', w' ≠ w → C 20 w' = B 20 w') ∧ (∀ j, j < q → C 20 w j = x j) ∧ (∀ j, q ≤ j → C 20 w j = B 20 w j) ∧ (∀ i, (i < 7 * w ∨ 7 * w + q ≤ i) → R 40 0 i = B 40 0 i) ∧ (∀ j, j < q → R 40 0 (7 * w + j) = x j) ∧ (∀ t, (∀ j, j < q → ¬ x j = nI t) → R 47 0 t = B 47 0 t) ∧ ∀ t j, t < nt → j < q → x j = nI t → R 47 0 t = nI (10 * w + j)
theorem RelN_20 {nw nt : Nat} {C R : sB} {L : sL} {w q : Nat} {v v' : Int32} {i : Nat} (h : RelN nw nt C R L) : RelN nw nt (uB C 20 w q v) (uB R 40 0 i v') L := by
  unfold RelN at h ⊢
  simp only [uB_k, ne_eq, Nat.reduceEqDiff, not_false_eq_true]
  exact h
theorem JT_s {nw nt : Nat} {B : sB} {L : sL} {D : TD} {l : List (Option Nat)} {x : Nat → Int32} {w p kE q : Nat} {C R : sB} (hX : TX nt B D l x w p) (hq : q < p) (hkE : kE ≤ 600) (h : JT nw nt B L D l x w kE q C R) : JT nw nt B L D l x w kE (q + 1) (cT1 (x q) w q C) (rT1 (x q) w q R) := by
  obtain ⟨hw5, hp7, h40, hBB, hx, hxi, hon, hrem⟩ := hX
  obtain ⟨hN, ⟨k, hk, hkr⟩, ha, hb, hb2, hc, hc2, hd, he⟩ := h
  have hCq : C 20 w q = B 20 w q := hb2 q (Nat.le_refl _)
  have hRq : R 40 0 (7 * w + q) = B 20 w q := by rw [hc _ (by omega)]; exact hBB q hq
  have hrq := hrem q hq
  by_cases heq : x q = B 20 w q
  · have e1 : cT1 (x q) w q C = C := by
      unfold cT1
      rw [if_pos (by rw [hCq]; exact heq)]
    have e2 : rT1 (x q) w q R = R := by
      unfold rT1
      rw [if_neg (fun z => z.2 (by rw [hRq]; exact heq))]
      exact uB_id (by rw [hRq]; exact heq.symm)
    rw [e1, e2]
    rw [if_pos (Or.inl heq)] at hrq
    refine ⟨hN, ⟨k, hk, by omega⟩, ha, fun j hj => ?_, fun j hj => hb2 j (by omega), fun i hi => hc i (by omega), fun j hj => ?_, fun t ht => hd t (fun j hj => ht j (by omega)), fun t j ht hj e => ?_⟩
    · by_cases hjq : j = q
      · rw [hjq, hCq, heq]
      · exact hb j (by omega)
    · by_cases hjq : j = q
      · rw [hjq, hRq, heq]
      · exact hc2 j (by omega)
    · by_cases hjq : j = q
      · subst hjq
        rw [hd t (fun j' hj' e' => by have := hxi j j' t hq (by omega) ht e e'; omega)]
        exact hon j t hq ht (by rw [← heq]; exact e)
      · exact he t j ht (by omega) e
  · rcases hx q hq with hm1 | ⟨t, ht, hxt, j', hj', hjt⟩
    · have e1 : cT1 (x q) w q C = uB C 20 w q (-1) := by
        unfold cT1
        rw [if_neg (by rw [hCq]; exact heq), if_pos (by rw [hm1]; decide)]
      have e2 : rT1 (x q) w q R = uB R 40 0 (7 * w + q) (-1) := by
        unfold rT1
        rw [if_neg (fun z => z.1 (by rw [hm1]; decide)), hm1]
      rw [e1, e2]
      rw [if_pos (Or.inr (by rw [hm1]; decide))] at hrq
      refine ⟨RelN_20 hN, ⟨k, by rw [uB_k (by decide)]; exact hk, by omega⟩, fun w' hw' => ?_, fun j hj => ?_, fun j hj => ?_, fun i hi => ?_, fun j hj => ?_, fun t ht => ?_, fun t j ht hj e => ?_⟩
      · rw [uB_2, u2_r hw']
        exact ha w' hw'
      · by_cases hjq : j = q
        · rw [hjq, uB_s, hm1]
        · rw [uB_n (by omega)]
          exact hb j (by omega)
      · rw [uB_n (by omega)]
        exact hb2 j (by omega)
      · rw [uB_n (by omega)]
        exact hc i (by omega)
      · by_cases hjq : j = q
        · rw [hjq, uB_s, hm1]
        · rw [uB_n (by omega)]
          exact hc2 j (by omega)
      · rw [uB_k (by decide)]
        exact hd t (fun j hj => ht j (by omega))
      · rw [uB_k (by decide)]
        by_cases hjq : j = q
        · subst hjq
          rw [hm1] at e
          exact (nI_m1 (by omega) e.symm).elim
        · exact he t j ht (by omega) e
    · have hpos : ¬ x q < 0 := by rw [hxt]; exact nI_pos (by omega)
      have hcl : (x q).toNatClampNeg = t := by rw [hxt, nI_clamp (by omega)]
      rw [if_neg (fun z => z.elim heq hpos)] at hrq
      have hk600 : k < 600 := by omega
      obtain ⟨hS, hP, hT, hG, hL⟩ := hN
      have hR7 : R 25 0 7 = nI k := by
        obtain ⟨k', g0, g1, g2, g3⟩ := hG
        have : k' = k := (nI_eq (by omega) (by omega)).mp (g1.symm.trans hk)
        subst this
        exact g2
      have hT0 : C 21 t 0 = nI t := (hT.1 t ht).1
      have e1 : cT1 (x q) w q C = cLog (uB (uB C 20 w q (nI t)) 21 t 10 (nI (10 * w + q))) k (R 25 0 3) (nI t) (nI (10 * w + q)) := by
        unfold cT1
        rw [if_neg (by rw [hCq]; exact heq), if_neg hpos, hcl, hxt, hk, nI_clamp (by omega), hT0, hS.2.2.2.2.2.2.1]
      have e2 : rT1 (x q) w q R = rLog (uB (uB R 40 0 (7 * w + q) (nI t)) 47 0 t (nI (10 * w + q))) k t := by
        unfold rT1
        rw [if_pos ⟨hpos, by rw [hRq]; exact heq⟩, hcl, hxt, hR7, nI_clamp (by omega)]
      have hnew : ∀ j, j < q → ¬ x j = nI t := fun j hj e => by
        have := hxi j q t (by omega) hq ht e hxt
        omega
      have hR47 : R 47 0 t = nI (10 * w + j') := by
        rw [hd t hnew]
        exact hon j' t hj' ht hjt
      rw [e1, e2]
      refine ⟨?_, ⟨k + 1, ?_, by omega⟩, fun w' hw' => ?_, fun j hj => ?_, fun j hj => ?_, fun i hi => ?_, fun j hj => ?_, fun t' ht' => ?_, fun t' j ht' hj e => ?_⟩
      · unfold RelN
        simp only [cLog, rLog, uB_2, u2_a, uB_k, ne_eq, Nat.reduceEqDiff, not_false_eq_true, upd_s, upd_n (show (3 : Nat) ≠ 7 by decide)]
        refine ⟨RelS_log hS, hP, ?_, RelG_log hk hk600 hG, hL⟩
        exact RelT_where (Or.inr (Or.inr ⟨10 * w + q, by omega, rfl⟩)) (fun _ => by rw [hR47]; exact nI_m2 (by omega)) hT
      · unfold cLog
        rw [uB_s]
      · unfold cLog
        rw [uB_k (by decide), uB_k (by decide), uB_k (by decide), uB_k (by decide), uB_k (by decide), uB_2, u2_r hw']
        exact ha w' hw'
      · unfold cLog
        rw [uB_k (by decide), uB_k (by decide), uB_k (by decide), uB_k (by decide), uB_k (by decide)]
        by_cases hjq : j = q
        · rw [hjq, uB_s, hxt]
        · rw [uB_n (by omega)]
          exact hb j (by omega)
      · unfold cLog
        rw [uB_k (by decide), uB_k (by decide), uB_k (by decide), uB_k (by decide), uB_k (by decide), uB_n (by omega)]
        exact hb2 j (by omega)
      · unfold rLog
        rw [uB_k (by decide), uB_k (by decide), uB_k (by decide), uB_k (by decide), uB_k (by decide), uB_n (by omega)]
        exact hc i (by omega)
      · unfold rLog
        rw [uB_k (by decide), uB_k (by decide), uB_k (by decide), uB_k (by decide), uB_k (by decide)]
        by_cases hjq : j = q
        · rw [hjq, uB_s, hxt]
        · rw [uB_n (by omega)]
          exact hc2 j (by omega)
      · unfold rLog
        rw [uB_k (by decide), uB_k (by decide), uB_k (by decide), uB_k (by decide)]
        by_cases htt : t' = t
        · subst htt
          exact (ht' q (by omega) hxt).elim
        · rw [uB_n (by omega), uB_k (by decide)]
          exact hd t' (fun j hj => ht' j (by omega))
      · unfold rLog
        rw [uB_k (by decide), uB_k (by decide), uB_k (by decide), uB_k (by decide)]
        by_cases htt : t' = t
        · subst htt
          have hjq : j = q := Classical.byContradiction (fun z => hnew j (by omega) e)
          rw [hjq, uB_s]
        · rw [uB_n (by omega), uB_k (by decide)]
          by_cases hjq : j = q
          · rw [hjq, hxt] at e
            exact (htt ((nI_eq (by omega) (by omega)).mp e).symm).elim
          · exact he t' j ht' (by omega) e
theorem JT_all {nw nt : Nat} {B : sB} {L : sL} {D : TD} {l : List (Option Nat)} {x : Nat → Int32} {w p kE : Nat} {C R : sB} (hX : TX nt B D l x w p) (hkE : kE ≤ 600) (h : JT nw nt B L D l x w kE 0 C R) : ∀ q, q ≤ p → JT nw nt B L D l x w kE q (cT x w C q) (rTn x w R q)
  | 0, _ => h
  | q + 1, hq => JT_s hX (by omega) hkE (JT_all hX hkE h q (by omega))
/-- what holds behind the turn -/
theorem Rel_turn {nw nt : Nat} {B C R F : sB} {L : sL} {D : TD} {l : List (Option Nat)} {x : Nat → Int32} {w p kE : Nat} (hR : Rel nw nt B L) (hw : w < nw) (hXp : PX nt B w p) (hX : TX nt B D l x w p) (h : JT nw nt B L D l x w kE p C R) (hC : C 18 = B 18 ∧ C 19 = B 19) (hRr : R 38 = B 38 ∧ R 39 = B 39 ∧ R 41 = B 41) (f1 : ∀ q, (q < 10 ∨ (16 < q ∧ q < 25)) → F q = C q) (f2 : ∀ q, 25 < q → q < 57 → F q = R q) (f3 : ∀ i, i < 31 → F 25 0 i = R 25 0 i) : Rel nw nt F L := by
  obtain ⟨hw5, hp7, h40, hBB, hx, hxi, hon, hrem⟩ := hX
  obtain ⟨⟨hS, hP, hT, hG, hL⟩, -, ha, hb, hb2, hc, hc2, hd, he⟩ := h
  have hW : RelW nw nt (C 18) (C 19) (C 20) (R 38 0) (R 39 0) (R 40 0) (R 41 0) (R 47 0) := by
    rw [hC.1, hC.2, hRr.1, hRr.2.1, hRr.2.2]
    have h5 := hR.1.2.2.1
    refine ⟨fun w' hw' => ?_, hR.2.2.1.2⟩
    obtain ⟨p', a1, a2, a3, a4, a5, a6⟩ := hR.2.2.1.1 w' hw'
    refine ⟨p', a1, a2, a3, a4, fun q' hq' => ?_, fun q' h1 h2 => ?_⟩
    · obtain ⟨b1, b2, b3, b4, b5⟩ := a5 q' hq'
      by_cases hww : w' = w
      · subst hww
        have hpp : p' = p := (nI_eq (by omega) (by omega)).mp (a3.symm.trans hXp.1.2.1)
        subst hpp
        rw [hb q' hq', hc2 q' hq']
        refine ⟨b1, b2, rfl, ?_, b5⟩
        rcases hx q' hq' with z | ⟨t, z1, z2, z3⟩
        · exact Or.inl z
        · exact Or.inr ⟨t, z1, z2, he t q' z1 hq' z2⟩
      · rw [ha w' hww, hc _ (by omega)]
        refine ⟨b1, b2, b3, ?_, b5⟩
        rcases b4 with b4 | ⟨t, c1, c2, c3⟩
        · exact Or.inl b4
        · refine Or.inr ⟨t, c1, c2, ?_⟩
          rw [hd t (fun j hj e => ?_)]
          · exact c3
          · rcases hx j hj with z | ⟨t', z1, z2, j', z3, z4⟩
            · rw [z] at e
              exact nI_m1 (by omega) e.symm
            · have htt : t' = t := (nI_eq (by omega) (by omega)).mp (z2.symm.trans e)
              subst htt
              have := pl_inj ((hon j' t' z3 z1 z4).symm.trans c3) hw5 (by omega) (by omega) (by omega)
              exact hww this.1.symm
    · by_cases hww : w' = w
      · subst hww
        have hpp : p' = p := (nI_eq (by omega) (by omega)).mp (a3.symm.trans hXp.1.2.1)
        subst hpp
        rw [hb2 q' h1]
        exact a6 q' h1 h2
      · rw [ha w' hww]
        exact a6 q' h1 h2
  have hJ : Rel nw nt (gh C R) L := ⟨hS, hP, hW, hT, hG, hL⟩
  refine Rel_f (fun q hq => ?_) (fun i hi => ?_) hJ
  · rcases hq with z | z | z
    · rw [gh_l (by omega), f1 q (by omega)]
    · rw [gh_l (by omega), f1 q (by omega)]
    · rw [gh_r (by omega), f2 q z.1 z.2]
  · rw [gh_r (Nat.le_refl _), f3 i hi]
