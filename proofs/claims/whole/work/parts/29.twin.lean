/-! ===== TWINS: who is paired with whom ===== -/
theorem twN_le {k : Nat → Int32} {a b : Nat} (h : a ≤ b) : twN k a ≤ twN k b := by
  induction b with
  | zero =>
    have : a = 0 := by omega
    subst this
    exact Nat.le_refl _
  | succ b ih =>
    by_cases hab : a = b + 1
    · subst hab
      exact Nat.le_refl _
    · have := ih (by omega)
      simp only [twN]
      omega
theorem twN_lt {k : Nat → Int32} {a b : Nat} (h : a < b) (ha : k a = 2) : twN k a + 1 ≤ twN k b := by
  have h1 : twN k (a + 1) = twN k a + 1 := by simp only [twN]; rw [if_pos ha]
  have h2 := twN_le (k := k) (show a + 1 ≤ b by omega)
  omega
theorem twN_inj {k : Nat → Int32} {a b : Nat} (ha : k a = 2) (hb : k b = 2) (h : twN k a = twN k b) : a = b := by
  rcases Nat.lt_trichotomy a b with q | q | q
  · have := twN_lt q ha
    omega
  · exact q
  · have := twN_lt q hb
    omega
theorem twN_s2 {k : Nat → Int32} {p : Nat} (h : k p = 2) : twN k (p + 1) = twN k p + 1 := by simp only [twN]; rw [if_pos h]
theorem twN_s0 {k : Nat → Int32} {p : Nat} (h : ¬ k p = 2) : twN k (p + 1) = twN k p := by simp only [twN]; rw [if_neg h]; rfl
theorem twP_un {k : Nat → Int32} {n q p p' : Nat} (h : twP k n q p) (h' : twP k n q p') : p = p' := by
  obtain ⟨a1, a2, a3, a4, a5⟩ := h
  obtain ⟨b1, b2, b3, b4, b5⟩ := h'
  refine twN_inj a4 b4 ?_
  rcases a5 with ⟨x1, x2⟩ | ⟨x1, x2⟩ <;> rcases b5 with ⟨y1, y2⟩ | ⟨y1, y2⟩ <;> omega
noncomputable def prX (k : Nat → Int32) (n q : Nat) : Option Nat := @dite (Option Nat) (∃ p, twP k n q p) (Classical.propDecidable _) (fun h => some (Classical.choose h)) (fun _ => none)
theorem prX_some {k : Nat → Int32} {n q p : Nat} (h : twP k n q p) : prX k n q = some p := by
  unfold prX
  rw [dif_pos ⟨p, h⟩]
  congr 1
  exact twP_un (Classical.choose_spec (⟨p, h⟩ : ∃ p, twP k n q p)) h
theorem prX_none {k : Nat → Int32} {n q : Nat} (h : ∀ p, ¬ twP k n q p) : prX k n q = none := by
  unfold prX
  rw [dif_neg (fun ⟨p, z⟩ => h p z)]
theorem prX_s {k : Nat → Int32} {n q p : Nat} (h : prX k n q = some p) : twP k n q p := by
  by_cases he : ∃ p, twP k n q p
  · obtain ⟨p', h'⟩ := he
    rw [prX_some h'] at h
    cases h
    exact h'
  · rw [prX_none (fun p z => he ⟨p, z⟩)] at h
    cases h
theorem twO_prX {k : Nat → Int32} {n q : Nat} {x : Int32} (h : twO k n q x) : (∃ p, prX k n q = some p ∧ x = nI p) ∨ (prX k n q = none ∧ x = -1) := by
  rcases h with ⟨p, h1, h2⟩ | ⟨h1, h2⟩
  · exact Or.inl ⟨p, prX_some h1, h2⟩
  · exact Or.inr ⟨prX_none h2, h1⟩
/-- what the loop over the places knows -/
def prI (k : Nat → Int32) (q i : Nat) (x : Int32) : Prop := ((twN k i % 2 = 0 ∧ x = -9) ∨ (twN k i % 2 = 1 ∧ ∃ o, o < i ∧ x = nI o ∧ k o = 2 ∧ twN k o + 1 = twN k i)) ∧ ∀ p, ¬ twP k i q p
theorem prI_0 {k : Nat → Int32} {q : Nat} : prI k q 0 (-9) := ⟨Or.inl ⟨rfl, rfl⟩, fun p h => by have := h.1; omega⟩
theorem prI_skip {k : Nat → Int32} {q i : Nat} {x : Int32} (hk : ¬ k i = 2) (h : prI k q i x) : prI k q (i + 1) x := by
  refine ⟨?_, fun p hp => ?_⟩
  · rw [twN_s0 hk]
    rcases h.1 with h1 | ⟨h1, o, h2, h3⟩
    · exact Or.inl h1
    · exact Or.inr ⟨h1, o, by omega, h3⟩
  · obtain ⟨a1, a2, a3, a4, a5⟩ := hp
    have h1 : q ≠ i := fun z => hk (z ▸ a3)
    have h2 : p ≠ i := fun z => hk (z ▸ a4)
    exact h.2 p ⟨by omega, by omega, a3, a4, a5⟩
theorem prI_open {k : Nat → Int32} {q i : Nat} {x : Int32} (hk : k i = 2) (he : twN k i % 2 = 0) (h : prI k q i x) : prI k q (i + 1) (nI i) := by
  refine ⟨Or.inr ⟨by rw [twN_s2 hk]; omega, i, by omega, rfl, hk, (twN_s2 hk).symm⟩, fun p hp => ?_⟩
  obtain ⟨a1, a2, a3, a4, a5⟩ := hp
  by_cases h1 : q = i
  · subst h1
    by_cases h2 : p = q
    · subst h2
      omega
    · have := twN_lt (k := k) (show p < q by omega) a4
      omega
  · by_cases h2 : p = i
    · subst h2
      have := twN_lt (k := k) (show q < p by omega) a3
      omega
    · exact h.2 p ⟨by omega, by omega, a3, a4, a5⟩
theorem prI_close {k : Nat → Int32} {q i o : Nat} {x : Int32} (hk : k i = 2) (ho : k o = 2) (hoi : twN k o + 1 = twN k i) (he : twN k i % 2 = 1) (h1 : o ≠ q) (h2 : i ≠ q) (h : prI k q i x) : prI k q (i + 1) (-9) := by
  refine ⟨Or.inl ⟨by rw [twN_s2 hk]; omega, rfl⟩, fun p hp => ?_⟩
  obtain ⟨a1, a2, a3, a4, a5⟩ := hp
  by_cases h3 : p = i
  · subst h3
    rcases a5 with ⟨x1, x2⟩ | ⟨x1, x2⟩
    · exact h1 (twN_inj ho a3 (by omega))
    · omega
  · exact h.2 p ⟨by omega, by omega, a3, a4, a5⟩
noncomputable def prV (k : Nat → Int32) (n q : Nat) : Int32 := match prX k n q with
  | some p => nI p
  | none => -9
theorem prV_some {k : Nat → Int32} {n q p : Nat} (h : twP k n q p) : prV k n q = nI p := by
  unfold prV
  rw [prX_some h]
theorem prV_none {k : Nat → Int32} {n q : Nat} (h : ∀ p, ¬ twP k n q p) : prV k n q = -9 := by
  unfold prV
  rw [prX_none h]
theorem prV_no {k : Nat → Int32} {n q : Nat} (h : ¬ k q = 2) : prV k n q = -9 := prV_none (fun _ z => h z.2.2.1)
/-! why a place isn't fit -/
noncomputable def flS (B : sB) (L : sL) (w p ap q : Nat) : Nat :=
  if B 20 w q < 0 then (if B 19 w q = 4 then 0 else 1)
  else if B 19 w q = 0 ∧ 0 < B 21 (B 20 w q).toNatClampNeg 7 then 2
  else if tDp B L (B 20 w q).toNatClampNeg 0 < (B 3 0 (B 19 w q).toNatClampNeg).toNatClampNeg then 3
  else match prX (B 19 w) p q with
    | none => 0
    | some q2 => if B 20 w q2 < 0 then 0 else if ap < (tDp B L (B 20 w q).toNatClampNeg 0 - tDp B L (B 20 w q2).toNatClampNeg 0) + (tDp B L (B 20 w q2).toNatClampNeg 0 - tDp B L (B 20 w q).toNatClampNeg 0) then 4 else 0
theorem fl_1 {B : sB} {L : sL} {w p ap q : Nat} (h : B 20 w q = -1) (h4 : B 19 w q = 4) : flS B L w p ap q = 0 := by
  unfold flS
  rw [if_pos (by rw [h]; decide), if_pos h4]
theorem fl_2 {B : sB} {L : sL} {w p ap q : Nat} (h : B 20 w q = -1) (h4 : ¬ B 19 w q = 4) : flS B L w p ap q = 1 := by
  unfold flS
  rw [if_pos (by rw [h]; decide), if_neg h4]
theorem fl_3 {B : sB} {L : sL} {w p ap q t : Nat} (h : B 20 w q = nI t) (ht : t < 2 ^ 31) (h0 : B 19 w q = 0) (h1 : 0 < B 21 t 7) : flS B L w p ap q = 2 := by
  unfold flS
  rw [if_neg (by rw [h]; exact nI_pos ht), h, nI_clamp ht, if_pos ⟨h0, h1⟩]
theorem fl_4 {B : sB} {L : sL} {w p ap q t k l : Nat} (h : B 20 w q = nI t) (ht : t < 2 ^ 31) (hk : B 19 w q = nI k) (hk5 : k < 5) (hl : B 3 0 k = nI l) (hl1 : l ≤ 100) (h0 : ¬ (B 19 w q = 0 ∧ 0 < B 21 t 7)) (h1 : tDp B L t 0 < l) : flS B L w p ap q = 3 := by
  unfold flS
  rw [if_neg (by rw [h]; exact nI_pos ht), h, nI_clamp ht, if_neg h0, hk, nI_clamp (by omega), hl, nI_clamp (by omega), if_pos h1]
theorem fl_5 {B : sB} {L : sL} {w p ap q t k l : Nat} (h : B 20 w q = nI t) (ht : t < 2 ^ 31) (hk : B 19 w q = nI k) (hk5 : k < 5) (hl : B 3 0 k = nI l) (hl1 : l ≤ 100) (h0 : ¬ (B 19 w q = 0 ∧ 0 < B 21 t 7)) (h1 : ¬ tDp B L t 0 < l) (h2 : prX (B 19 w) p q = none) : flS B L w p ap q = 0 := by
  unfold flS
  rw [if_neg (by rw [h]; exact nI_pos ht), h, nI_clamp ht, if_neg h0, hk, nI_clamp (by omega), hl, nI_clamp (by omega), if_neg h1, h2]
theorem fl_6 {B : sB} {L : sL} {w p ap q t k l q2 : Nat} (h : B 20 w q = nI t) (ht : t < 2 ^ 31) (hk : B 19 w q = nI k) (hk5 : k < 5) (hl : B 3 0 k = nI l) (hl1 : l ≤ 100) (h0 : ¬ (B 19 w q = 0 ∧ 0 < B 21 t 7)) (h1 : ¬ tDp B L t 0 < l) (h2 : prX (B 19 w) p q = some q2) (h3 : B 20 w q2 = -1) : flS B L w p ap q = 0 := by
  unfold flS
  rw [if_neg (by rw [h]; exact nI_pos ht), h, nI_clamp ht, if_neg h0, hk, nI_clamp (by omega), hl, nI_clamp (by omega), if_neg h1, h2]
  show (if B 20 w q2 < 0 then 0 else _) = 0
  rw [if_pos (by rw [h3]; decide)]
theorem fl_7 {B : sB} {L : sL} {w p ap q t k l q2 t2 : Nat} (h : B 20 w q = nI t) (ht : t < 2 ^ 31) (hk : B 19 w q = nI k) (hk5 : k < 5) (hl : B 3 0 k = nI l) (hl1 : l ≤ 100) (h0 : ¬ (B 19 w q = 0 ∧ 0 < B 21 t 7)) (h1 : ¬ tDp B L t 0 < l) (h2 : prX (B 19 w) p q = some q2) (h3 : B 20 w q2 = nI t2) (ht2 : t2 < 2 ^ 31) : flS B L w p ap q = if ap < (tDp B L t 0 - tDp B L t2 0) + (tDp B L t2 0 - tDp B L t 0) then 4 else 0 := by
  unfold flS
  rw [if_neg (by rw [h]; exact nI_pos ht), h, nI_clamp ht, if_neg h0, hk, nI_clamp (by omega), hl, nI_clamp (by omega), if_neg h1, h2]
  show (if B 20 w q2 < 0 then 0 else _) = _
  rw [if_neg (by rw [h3]; exact nI_pos ht2), h3, nI_clamp ht2]
theorem abI_N {a b : Nat} (ha : a ≤ 300) (hb : b ≤ 300) : abI (nI a - nI b) = nI ((a - b) + (b - a)) := by
  unfold abI
  rcases Nat.lt_or_ge a b with h | h
  · have h1 := pk_sneg (a := a) (b := b) (by omega) h
    rw [if_neg (fun z => Int32.not_lt.mpr z h1)]
    apply Int32.toInt_inj.mp
    rw [Int32.toInt_neg, pk_sub_toInt (by omega) (by omega), nI_toInt (by omega), bm32 (by omega) (by omega)]
    omega
  · rw [pk_sub h, if_pos (nI_pos' (by omega))]
    congr 1
    omega
/-- WHY: the first place that isn't fit -/
noncomputable def whyS (B : sB) (L : sL) (w p ap : Nat) : Nat → Nat → Int32
  | 0, _ => -9
  | n + 1, i => if flS B L w p ap i = 0 then whyS B L w p ap n (i + 1) else nI (10 * i + flS B L w p ap i)
theorem fl_wrel {B : sB} {L L1 : sL} {w p ap q : Nat} (h : wrel L L1) : flS B L1 w p ap q = flS B L w p ap q := by
  unfold flS
  simp only [tDp_wrel h]
