/-! ===== TURNING ABOUT: the ways, in whole numbers ===== -/
def TD := Nat × (Nat → Nat → Nat) × (Nat → Bool) × (Nat → Nat → Nat)
def TD.K (D : TD) : Nat := D.1
def TD.E (D : TD) : Nat → Nat → Nat := D.2.1
def TD.mu (D : TD) : Nat → Bool := D.2.2.1
def TD.cg (D : TD) : Nat → Nat → Nat := D.2.2.2
def bt (u k : Nat) : Bool := decide (u / 2 ^ k % 2 = 1)
/-- how far: the class's table (0: not at all, else one more than the lengths) -/
def rcK (D : TD) (f : Nat → Nat) (p u b : Nat) : Nat → Nat
  | 0 => b
  | k + 1 => if bt u k = true then rcK D f p u b k else max (rcK D f p u b k) (min (f (u + 2 ^ k)) (D.E p k))
def rch (D : TD) : Nat → Nat → Nat → Nat
  | 0, _, u => if u = 2 ^ D.K - 1 then 1000001 else 0
  | n + 1, p, u => rcK D (rch D n (p + 1)) p u (if D.mu p = true then 0 else rch D n (p + 1) u) D.K
/-- how few changes -/
def cwN (D : TD) (F : Nat) (f : Nat → Nat) (p u k : Nat) : Nat := if bt u k = true ∨ D.E p k < F then 100 else D.cg p k + f (u + 2 ^ k)
def fwK (D : TD) (F : Nat) (f : Nat → Nat) (p u b : Nat) : Nat → Nat
  | 0 => b
  | k + 1 => min (fwK D F f p u b k) (cwN D F f p u k)
def fwN (D : TD) (F : Nat) : Nat → Nat → Nat → Nat
  | 0, _, u => if u = 2 ^ D.K - 1 then 0 else 100
  | n + 1, p, u => fwK D F (fwN D F n (p + 1)) p u (if D.mu p = true then 100 else fwN D F n (p + 1) u) D.K
def fsK (D : TD) (F : Nat) (f : Nat → Nat) (p u v : Nat) : Nat → Nat → Option Nat
  | 0, _ => none
  | n + 1, i => if cwN D F f p u i = v then some i else fsK D F f p u v n (i + 1)
def chs (D : TD) (F : Nat) : Nat → Nat → Nat → List (Option Nat)
  | 0, _, _ => []
  | n + 1, p, u => match fsK D F (fwN D F n (p + 1)) p u (fwN D F (n + 1) p u) D.K 0 with
    | some k => some k :: chs D F n (p + 1) (u + 2 ^ k)
    | none => none :: chs D F n (p + 1) u
abbrev Wy := Nat × Nat × List (Option Nat)
def exK (D : TD) (p k : Nat) (x : Wy) : Wy := (min x.1 (D.E p k), D.cg p k + x.2.1, some k :: x.2.2)
def ex0 (x : Wy) : Wy := (x.1, x.2.1, none :: x.2.2)
def wyK (D : TD) (g : Nat → List Wy) (p u : Nat) : Nat → List Wy
  | 0 => []
  | k + 1 => wyK D g p u k ++ (if bt u k = true ∨ D.E p k = 0 then [] else (g (u + 2 ^ k)).map (exK D p k))
def wys (D : TD) : Nat → Nat → Nat → List Wy
  | 0, _, u => if u = 2 ^ D.K - 1 then [(1000001, 0, [])] else []
  | n + 1, p, u => wyK D (wys D n (p + 1)) p u D.K ++ (if D.mu p = true then [] else (wys D n (p + 1) u).map ex0)
theorem mem_wyK {D : TD} {g : Nat → List Wy} {p u : Nat} {x : Wy} : ∀ k, x ∈ wyK D g p u k ↔ ∃ i, i < k ∧ ¬ bt u i = true ∧ ¬ D.E p i = 0 ∧ ∃ y, y ∈ g (u + 2 ^ i) ∧ exK D p i y = x
  | 0 => by
    simp only [wyK]
    exact ⟨fun h => (by cases h), fun ⟨i, h, _⟩ => (by omega)⟩
  | k + 1 => by
    simp only [wyK, List.mem_append, mem_wyK k]
    constructor
    · rintro (⟨i, h1, h2⟩ | h)
      · exact ⟨i, by omega, h2⟩
      · by_cases hc : bt u k = true ∨ D.E p k = 0
        · rw [if_pos hc] at h
          cases h
        · rw [if_neg hc] at h
          obtain ⟨y, hy1, hy2⟩ := List.mem_map.mp h
          exact ⟨k, by omega, fun z => hc (Or.inl z), fun z => hc (Or.inr z), y, hy1, hy2⟩
    · rintro ⟨i, h1, h2, h3, y, hy1, hy2⟩
      by_cases he : i = k
      · subst he
        right
        rw [if_neg (fun z => z.elim h2 h3)]
        exact List.mem_map.mpr ⟨y, hy1, hy2⟩
      · exact Or.inl ⟨i, by omega, h2, h3, y, hy1, hy2⟩
theorem mem_wys {D : TD} {n p u : Nat} {x : Wy} : x ∈ wys D (n + 1) p u ↔ (∃ i, i < D.K ∧ ¬ bt u i = true ∧ ¬ D.E p i = 0 ∧ ∃ y, y ∈ wys D n (p + 1) (u + 2 ^ i) ∧ exK D p i y = x) ∨ (¬ D.mu p = true ∧ ∃ y, y ∈ wys D n (p + 1) u ∧ ex0 y = x) := by
  simp only [wys, List.mem_append, mem_wyK]
  constructor
  · rintro (h | h)
    · exact Or.inl h
    · by_cases hc : D.mu p = true
      · rw [if_pos hc] at h
        cases h
      · rw [if_neg hc] at h
        exact Or.inr ⟨hc, List.mem_map.mp h⟩
  · rintro (h | ⟨h1, h2⟩)
    · exact Or.inl h
    · right
      rw [if_neg h1]
      exact List.mem_map.mpr h2
def TD.ok (D : TD) : Prop := (∀ p k, D.cg p k ≤ 1) ∧ ∀ p k, D.E p k ≤ 1000001
theorem wys_ok {D : TD} (hD : D.ok) : ∀ n p u x, x ∈ wys D n p u → 1 ≤ x.1 ∧ x.1 ≤ 1000001 ∧ x.2.1 ≤ n ∧ x.2.2.length = n
  | 0, p, u, x, h => by
    simp only [wys] at h
    split at h
    · rw [List.mem_singleton] at h
      subst h
      exact ⟨by decide, by decide, by decide, rfl⟩
    · cases h
  | n + 1, p, u, x, h => by
    rcases mem_wys.mp h with ⟨i, h1, h2, h3, y, hy, rfl⟩ | ⟨h1, y, hy, rfl⟩
    · obtain ⟨a1, a2, a3, a4⟩ := wys_ok hD n _ _ y hy
      have := hD.1 p i
      refine ⟨?_, ?_, ?_, ?_⟩
      · show 1 ≤ min y.1 (D.E p i)
        omega
      · show min y.1 (D.E p i) ≤ 1000001
        omega
      · show D.cg p i + y.2.1 ≤ n + 1
        omega
      · show (some i :: y.2.2).length = n + 1
        rw [List.length_cons, a4]
    · obtain ⟨a1, a2, a3, a4⟩ := wys_ok hD n _ _ y hy
      refine ⟨a1, a2, ?_, ?_⟩
      · show y.2.1 ≤ n + 1
        omega
      · show (none :: y.2.2).length = n + 1
        rw [List.length_cons, a4]
theorem rcK_b {D : TD} {f : Nat → Nat} {p u b : Nat} : ∀ k, b ≤ rcK D f p u b k
  | 0 => Nat.le_refl _
  | k + 1 => by
    have := rcK_b (D := D) (f := f) (p := p) (u := u) (b := b) k
    simp only [rcK]
    split <;> omega
theorem rcK_i {D : TD} {f : Nat → Nat} {p u b i : Nat} (h : ¬ bt u i = true) : ∀ k, i < k → min (f (u + 2 ^ i)) (D.E p i) ≤ rcK D f p u b k
  | 0, hk => by omega
  | k + 1, hk => by
    by_cases he : i = k
    · subst he
      simp only [rcK]
      rw [if_neg h]
      omega
    · have := rcK_i (D := D) (f := f) (p := p) (b := b) h k (by omega)
      simp only [rcK]
      split <;> omega
theorem rcK_c {D : TD} {f : Nat → Nat} {p u b : Nat} : ∀ k, rcK D f p u b k = b ∨ ∃ i, i < k ∧ ¬ bt u i = true ∧ rcK D f p u b k = min (f (u + 2 ^ i)) (D.E p i)
  | 0 => Or.inl rfl
  | k + 1 => by
    have ih := rcK_c (D := D) (f := f) (p := p) (u := u) (b := b) k
    simp only [rcK]
    by_cases hb : bt u k = true
    · rw [if_pos hb]
      rcases ih with h | ⟨i, h1, h2, h3⟩
      · exact Or.inl h
      · exact Or.inr ⟨i, by omega, h2, h3⟩
    · rw [if_neg hb]
      rcases Nat.le_total (rcK D f p u b k) (min (f (u + 2 ^ k)) (D.E p k)) with h | h
      · right
        exact ⟨k, by omega, hb, Nat.max_eq_right h⟩
      · rw [Nat.max_eq_left h]
        rcases ih with h' | ⟨i, h1, h2, h3⟩
        · exact Or.inl h'
        · exact Or.inr ⟨i, by omega, h2, h3⟩
theorem rch_le {D : TD} : ∀ n p u x, x ∈ wys D n p u → x.1 ≤ rch D n p u
  | 0, p, u, x, h => by
    simp only [wys] at h
    simp only [rch]
    split at h
    · rename_i hc
      rw [List.mem_singleton] at h
      subst h
      rw [if_pos hc]
      exact Nat.le_refl _
    · cases h
  | n + 1, p, u, x, h => by
    simp only [rch]
    rcases mem_wys.mp h with ⟨i, h1, h2, h3, y, hy, rfl⟩ | ⟨h1, y, hy, rfl⟩
    · have a := rch_le n _ _ y hy
      have b := rcK_i (D := D) (f := rch D n (p + 1)) (p := p) (b := if D.mu p = true then 0 else rch D n (p + 1) u) h2 D.K h1
      show min y.1 (D.E p i) ≤ _
      omega
    · have a := rch_le n _ _ y hy
      have b := rcK_b (D := D) (f := rch D n (p + 1)) (p := p) (u := u) (b := if D.mu p = true then 0 else rch D n (p + 1) u) D.K
      rw [if_neg h1] at b ⊢
      show y.1 ≤ _
      omega
theorem rch_ex {D : TD} : ∀ n p u, ¬ rch D n p u = 0 → ∃ x, x ∈ wys D n p u ∧ x.1 = rch D n p u
  | 0, p, u, h => by
    simp only [rch] at h ⊢
    simp only [wys]
    split at h
    · rename_i hc
      rw [if_pos hc, if_pos hc]
      exact ⟨_, List.mem_singleton.mpr rfl, rfl⟩
    · exact (h rfl).elim
  | n + 1, p, u, h => by
    simp only [rch] at h ⊢
    rcases rcK_c (D := D) (f := rch D n (p + 1)) (p := p) (u := u) (b := if D.mu p = true then 0 else rch D n (p + 1) u) D.K with e | ⟨i, h1, h2, e⟩
    · rw [e] at h ⊢
      by_cases hm : D.mu p = true
      · rw [if_pos hm] at h
        exact (h rfl).elim
      · rw [if_neg hm] at h ⊢
        obtain ⟨y, hy, hy2⟩ := rch_ex n _ _ h
        exact ⟨ex0 y, mem_wys.mpr (Or.inr ⟨hm, y, hy, rfl⟩), hy2⟩
    · rw [e] at h ⊢
      obtain ⟨y, hy, hy2⟩ := rch_ex n (p + 1) (u + 2 ^ i) (fun z => h (by rw [z, Nat.zero_min]))
      refine ⟨exK D p i y, mem_wys.mpr (Or.inl ⟨i, h1, h2, fun z => h (by rw [z, Nat.min_zero]), y, hy, rfl⟩), ?_⟩
      show min y.1 (D.E p i) = _
      rw [hy2]
theorem fwK_b {D : TD} {F : Nat} {f : Nat → Nat} {p u b : Nat} : ∀ k, fwK D F f p u b k ≤ b
  | 0 => Nat.le_refl _
  | k + 1 => by
    have := fwK_b (D := D) (F := F) (f := f) (p := p) (u := u) (b := b) k
    simp only [fwK]
    omega
theorem fwK_i {D : TD} {F : Nat} {f : Nat → Nat} {p u b i : Nat} : ∀ k, i < k → fwK D F f p u b k ≤ cwN D F f p u i
  | 0, hk => by omega
  | k + 1, hk => by
    simp only [fwK]
    by_cases he : i = k
    · subst he
      omega
    · have := fwK_i (D := D) (F := F) (f := f) (p := p) (u := u) (b := b) (i := i) k (by omega)
      omega
theorem fwK_c {D : TD} {F : Nat} {f : Nat → Nat} {p u b : Nat} : ∀ k, fwK D F f p u b k = b ∨ ∃ i, i < k ∧ fwK D F f p u b k = cwN D F f p u i
  | 0 => Or.inl rfl
  | k + 1 => by
    have ih := fwK_c (D := D) (F := F) (f := f) (p := p) (u := u) (b := b) k
    simp only [fwK]
    rcases Nat.le_total (fwK D F f p u b k) (cwN D F f p u k) with h | h
    · rw [Nat.min_eq_left h]
      rcases ih with h' | ⟨i, h1, h2⟩
      · exact Or.inl h'
      · exact Or.inr ⟨i, by omega, h2⟩
    · exact Or.inr ⟨k, by omega, Nat.min_eq_right h⟩
theorem cwN_y {D : TD} {F : Nat} {f : Nat → Nat} {p u k : Nat} (h1 : ¬ bt u k = true) (h2 : F ≤ D.E p k) : cwN D F f p u k = D.cg p k + f (u + 2 ^ k) := if_neg (fun z => z.elim h1 (fun q => by omega))
theorem cwN_l {D : TD} {F : Nat} {f : Nat → Nat} {p u k : Nat} (h : cwN D F f p u k < 100) : ¬ bt u k = true ∧ F ≤ D.E p k ∧ cwN D F f p u k = D.cg p k + f (u + 2 ^ k) := by
  by_cases hc : bt u k = true ∨ D.E p k < F
  · unfold cwN at h
    rw [if_pos hc] at h
    omega
  · have h1 : ¬ bt u k = true := fun z => hc (Or.inl z)
    have h2 : F ≤ D.E p k := by
      rcases Nat.lt_or_ge (D.E p k) F with q | q
      · exact (hc (Or.inr q)).elim
      · exact q
    exact ⟨h1, h2, cwN_y h1 h2⟩
theorem fw_le {D : TD} {F : Nat} : ∀ n p u x, x ∈ wys D n p u → F ≤ x.1 → fwN D F n p u ≤ x.2.1
  | 0, p, u, x, h, hF => by
    simp only [wys] at h
    simp only [fwN]
    split at h
    · rename_i hc
      rw [if_pos hc]
      omega
    · cases h
  | n + 1, p, u, x, h, hF => by
    simp only [fwN]
    rcases mem_wys.mp h with ⟨i, h1, h2, h3, y, hy, rfl⟩ | ⟨h1, y, hy, rfl⟩
    · have hF' : F ≤ min y.1 (D.E p i) := hF
      have a := fw_le (F := F) n _ _ y hy (by omega)
      have b := fwK_i (D := D) (F := F) (f := fwN D F n (p + 1)) (p := p) (u := u) (b := if D.mu p = true then 100 else fwN D F n (p + 1) u) (i := i) D.K h1
      rw [cwN_y h2 (by omega)] at b
      show _ ≤ D.cg p i + y.2.1
      omega
    · have a := fw_le n _ _ y hy hF
      have b := fwK_b (D := D) (F := F) (f := fwN D F n (p + 1)) (p := p) (u := u) (b := if D.mu p = true then 100 else fwN D F n (p + 1) u) D.K
      rw [if_neg h1] at b ⊢
      show _ ≤ y.2.1
      omega
theorem fw_bd {D : TD} (hD : D.ok) {F : Nat} : ∀ n p u, fwN D F n p u ≤ 100 + n
  | 0, p, u => by
    simp only [fwN]
    split <;> omega
  | n + 1, p, u => by
    simp only [fwN]
    have b := fwK_b (D := D) (F := F) (f := fwN D F n (p + 1)) (p := p) (u := u) (b := if D.mu p = true then 100 else fwN D F n (p + 1) u) D.K
    have a := fw_bd hD (F := F) n (p + 1) u
    by_cases hm : D.mu p = true
    · rw [if_pos hm] at b ⊢
      omega
    · rw [if_neg hm] at b ⊢
      omega
/-- the first k whose changes are v -/
theorem fsK_s {D : TD} {F : Nat} {f : Nat → Nat} {p u v : Nat} : ∀ n i k, fsK D F f p u v n i = some k → i ≤ k ∧ k < i + n ∧ cwN D F f p u k = v ∧ ∀ j, i ≤ j → j < k → ¬ cwN D F f p u j = v
  | 0, i, k, h => by cases h
  | n + 1, i, k, h => by
    simp only [fsK] at h
    split at h
    · rename_i hc
      cases h
      exact ⟨Nat.le_refl _, by omega, hc, fun j a b => by omega⟩
    · rename_i hc
      obtain ⟨a1, a2, a3, a4⟩ := fsK_s n (i + 1) k h
      refine ⟨by omega, by omega, a3, fun j b1 b2 => ?_⟩
      by_cases he : j = i
      · subst he
        exact hc
      · exact a4 j (by omega) b2
theorem fsK_n {D : TD} {F : Nat} {f : Nat → Nat} {p u v : Nat} : ∀ n i, fsK D F f p u v n i = none → ∀ j, i ≤ j → j < i + n → ¬ cwN D F f p u j = v
  | 0, i, _, j, a, b => by omega
  | n + 1, i, h, j, a, b => by
    simp only [fsK] at h
    split at h
    · cases h
    · rename_i hc
      by_cases he : j = i
      · subst he
        exact hc
      · exact fsK_n n (i + 1) h j (by omega) (by omega)
theorem wyK_split {D : TD} {g : Nat → List Wy} {p u i : Nat} (hb : ¬ bt u i = true) (hE : ¬ D.E p i = 0) : ∀ k, i < k → ∃ l2, wyK D g p u k = wyK D g p u i ++ (g (u + 2 ^ i)).map (exK D p i) ++ l2
  | 0, h => by omega
  | k + 1, h => by
    by_cases he : i = k
    · subst he
      refine ⟨[], ?_⟩
      simp only [wyK]
      rw [if_neg (fun z => z.elim hb hE), List.append_nil]
    · obtain ⟨l2, h2⟩ := wyK_split (D := D) (g := g) (p := p) hb hE k (by omega)
      refine ⟨l2 ++ (if bt u k = true ∨ D.E p k = 0 then [] else (g (u + 2 ^ k)).map (exK D p k)), ?_⟩
      simp only [wyK]
      rw [h2, List.append_assoc]
/-- the class's choice is the first of the best ways -/
theorem chs_first {D : TD} {F : Nat} (hF : 1 ≤ F) (hF2 : F ≤ 1000001) : ∀ n p u, fwN D F n p u < 100 → ∃ l1 r l2, wys D n p u = l1 ++ (r, fwN D F n p u, chs D F n p u) :: l2 ∧ F ≤ r ∧ ∀ y, y ∈ l1 → ¬ (F ≤ y.1 ∧ y.2.1 = fwN D F n p u)
  | 0, p, u, h => by
    simp only [fwN] at h ⊢
    simp only [wys, chs]
    by_cases hc : u = 2 ^ D.K - 1
    · rw [if_pos hc, if_pos hc]
      exact ⟨[], 1000001, [], rfl, hF2, fun y hy => (by cases hy)⟩
    · rw [if_neg hc] at h
      omega
  | n + 1, p, u, h => by
    have hfw : fwN D F (n + 1) p u = fwK D F (fwN D F n (p + 1)) p u (if D.mu p = true then 100 else fwN D F n (p + 1) u) D.K := rfl
    cases hs : fsK D F (fwN D F n (p + 1)) p u (fwN D F (n + 1) p u) D.K 0 with
    | some k =>
      obtain ⟨a1, a2, a3, a4⟩ := fsK_s D.K 0 k hs
      obtain ⟨b1, b2, b3⟩ := cwN_l (D := D) (F := F) (f := fwN D F n (p + 1)) (p := p) (u := u) (k := k) (by omega)
      have hch : chs D F (n + 1) p u = some k :: chs D F n (p + 1) (u + 2 ^ k) := by
        simp only [chs]
        rw [hs]
      obtain ⟨l1, r, l2, c1, c2, c3⟩ := chs_first (D := D) hF hF2 n (p + 1) (u + 2 ^ k) (by omega)
      obtain ⟨l3, hl3⟩ := wyK_split (D := D) (g := wys D n (p + 1)) (p := p) b1 (show ¬ D.E p k = 0 by omega) D.K (by omega)
      refine ⟨wyK D (wys D n (p + 1)) p u k ++ l1.map (exK D p k), min r (D.E p k), l2.map (exK D p k) ++ (l3 ++ (if D.mu p = true then [] else (wys D n (p + 1) u).map ex0)), ?_, by omega, fun y hy => ?_⟩
      · simp only [wys]
        rw [hl3, c1, hch, List.map_append, List.map_cons]
        have e : exK D p k (r, fwN D F n (p + 1) (u + 2 ^ k), chs D F n (p + 1) (u + 2 ^ k)) = (min r (D.E p k), fwN D F (n + 1) p u, some k :: chs D F n (p + 1) (u + 2 ^ k)) := by
          unfold exK
          rw [← a3, b3]
        rw [e]
        simp only [List.append_assoc, List.cons_append]
      · rcases List.mem_append.mp hy with hy | hy
        · obtain ⟨i, d1, d2, d3, z, d4, rfl⟩ := (mem_wyK k).mp hy
          rintro ⟨e1, e2⟩
          have e1' : F ≤ min z.1 (D.E p i) := e1
          have e2' : D.cg p i + z.2.1 = fwN D F (n + 1) p u := e2
          have f1 := fw_le n _ _ z d4 (show F ≤ z.1 by omega)
          have f2 := fwK_i (D := D) (F := F) (f := fwN D F n (p + 1)) (p := p) (u := u) (b := if D.mu p = true then 100 else fwN D F n (p + 1) u) (i := i) D.K (by omega)
          rw [← hfw] at f2
          have f3 := cwN_y (D := D) (F := F) (f := fwN D F n (p + 1)) (p := p) d2 (show F ≤ D.E p i by omega)
          exact a4 i (by omega) d1 (by omega)
        · obtain ⟨z, d4, rfl⟩ := List.mem_map.mp hy
          rintro ⟨e1, e2⟩
          have e1' : F ≤ min z.1 (D.E p k) := e1
          have e2' : D.cg p k + z.2.1 = fwN D F (n + 1) p u := e2
          exact c3 z d4 ⟨by omega, by omega⟩
    | none =>
      have hn := fsK_n D.K 0 hs
      have hch : chs D F (n + 1) p u = none :: chs D F n (p + 1) u := by
        simp only [chs]
        rw [hs]
      rcases fwK_c (D := D) (F := F) (f := fwN D F n (p + 1)) (p := p) (u := u) (b := if D.mu p = true then 100 else fwN D F n (p + 1) u) D.K with e | ⟨i, h1, e⟩
      · rw [← hfw] at e
        by_cases hm : D.mu p = true
        · rw [if_pos hm] at e
          omega
        · rw [if_neg hm] at e
          obtain ⟨l1, r, l2, c1, c2, c3⟩ := chs_first (D := D) hF hF2 n (p + 1) u (by omega)
          refine ⟨wyK D (wys D n (p + 1)) p u D.K ++ l1.map ex0, r, l2.map ex0, ?_, c2, fun y hy => ?_⟩
          · simp only [wys]
            rw [if_neg hm, c1, hch, List.map_append, List.map_cons]
            have e' : ex0 (r, fwN D F n (p + 1) u, chs D F n (p + 1) u) = (r, fwN D F (n + 1) p u, none :: chs D F n (p + 1) u) := by
              unfold ex0
              rw [e]
            rw [e']
            simp only [List.append_assoc]
          · rcases List.mem_append.mp hy with hy | hy
            · obtain ⟨i, d1, d2, d3, z, d4, rfl⟩ := (mem_wyK D.K).mp hy
              rintro ⟨e1, e2⟩
              have e1' : F ≤ min z.1 (D.E p i) := e1
              have e2' : D.cg p i + z.2.1 = fwN D F (n + 1) p u := e2
              have f1 := fw_le n _ _ z d4 (show F ≤ z.1 by omega)
              have f2 := fwK_i (D := D) (F := F) (f := fwN D F n (p + 1)) (p := p) (u := u) (b := if D.mu p = true then 100 else fwN D F n (p + 1) u) (i := i) D.K d1
              rw [← hfw] at f2
              have f3 := cwN_y (D := D) (F := F) (f := fwN D F n (p + 1)) (p := p) d2 (show F ≤ D.E p i by omega)
              exact hn i (by omega) (by omega) (by omega)
            · obtain ⟨z, d4, rfl⟩ := List.mem_map.mp hy
              rintro ⟨e1, e2⟩
              have e1' : F ≤ z.1 := e1
              have e2' : z.2.1 = fwN D F (n + 1) p u := e2
              exact c3 z d4 ⟨e1', by omega⟩
      · rw [← hfw] at e
        exact (hn i (by omega) (by omega) e.symm).elim
/-- the reference's rule: what is better takes the place -/
def upW (s : Option Wy) (x : Wy) : Option Wy := match s with
  | none => some x
  | some y => if x.1 < y.1 ∨ (x.1 = y.1 ∧ y.2.1 ≤ x.2.1) then some y else some x
theorem fold_after {x : Wy} : ∀ l : List Wy, (∀ y, y ∈ l → y.1 < x.1 ∨ (y.1 = x.1 ∧ x.2.1 ≤ y.2.1)) → l.foldl upW (some x) = some x
  | [], _ => rfl
  | y :: l, h => by
    have h1 := h y (List.mem_cons_self ..)
    simp only [List.foldl_cons, upW]
    rw [if_pos h1]
    exact fold_after l (fun z hz => h z (List.mem_cons_of_mem _ hz))
theorem fold_worse {x : Wy} : ∀ (l : List Wy) (s : Option Wy), (∀ y, s = some y → y.1 < x.1 ∨ (y.1 = x.1 ∧ x.2.1 < y.2.1)) → (∀ y, y ∈ l → y.1 < x.1 ∨ (y.1 = x.1 ∧ x.2.1 < y.2.1)) → ∀ y, l.foldl upW s = some y → y.1 < x.1 ∨ (y.1 = x.1 ∧ x.2.1 < y.2.1)
  | [], s, hs, _, y, h => hs y h
  | z :: l, s, hs, hl, y, h => by
    have h1 := hl z (List.mem_cons_self ..)
    refine fold_worse l (upW s z) ?_ (fun q hq => hl q (List.mem_cons_of_mem _ hq)) y h
    intro q hq
    cases s with
    | none =>
      cases hq
      exact h1
    | some s' =>
      simp only [upW] at hq
      split at hq
      · cases hq
        exact hs _ rfl
      · cases hq
        exact h1
theorem fold_best {x : Wy} {l1 l2 : List Wy} (h1 : ∀ y, y ∈ l1 → y.1 < x.1 ∨ (y.1 = x.1 ∧ x.2.1 < y.2.1)) (h2 : ∀ y, y ∈ l2 → y.1 < x.1 ∨ (y.1 = x.1 ∧ x.2.1 ≤ y.2.1)) : (l1 ++ x :: l2).foldl upW none = some x := by
  rw [List.foldl_append, List.foldl_cons]
  have h3 := fold_worse (x := x) l1 none (fun y h => by cases h) h1
  have e : upW (l1.foldl upW none) x = some x := by
    cases hh : l1.foldl upW none with
    | none => rfl
    | some y =>
      have := h3 y hh
      simp only [upW]
      rw [if_neg (by omega)]
  rw [e]
  exact fold_after l2 h2
/-- both agree: none at all -/
theorem ways_none {D : TD} (hD : D.ok) {n p u : Nat} (h : rch D n p u = 0) : wys D n p u = [] := by
  cases hw : wys D n p u with
  | nil => rfl
  | cons x l =>
    have hx : x ∈ wys D n p u := by rw [hw]; exact List.mem_cons_self ..
    have := rch_le n p u x hx
    have := (wys_ok hD n p u x hx).1
    omega
/-- both agree: the best way -/
theorem ways_best {D : TD} (hD : D.ok) {n p u : Nat} (hn : n ≤ 7) (h : ¬ rch D n p u = 0) : (wys D n p u).foldl upW none = some (rch D n p u, fwN D (rch D n p u) n p u, chs D (rch D n p u) n p u) ∧ fwN D (rch D n p u) n p u ≤ n := by
  obtain ⟨x0, hx0, hx1⟩ := rch_ex n p u h
  have hle := fw_le (F := rch D n p u) n p u x0 hx0 (by omega)
  have hok := wys_ok hD n p u x0 hx0
  obtain ⟨l1, r, l2, c1, c2, c3⟩ := chs_first (D := D) (F := rch D n p u) (by omega) (by omega) n p u (by omega)
  have hr : r = rch D n p u := by
    have : (r, fwN D (rch D n p u) n p u, chs D (rch D n p u) n p u) ∈ wys D n p u := by
      rw [c1]
      exact List.mem_append.mpr (Or.inr (List.mem_cons_self ..))
    have := rch_le n p u _ this
    have h2 : r ≤ rch D n p u := this
    omega
  subst hr
  refine ⟨?_, by omega⟩
  have key : ∀ y, y ∈ wys D n p u → y.1 ≤ rch D n p u ∧ (y.1 = rch D n p u → fwN D (rch D n p u) n p u ≤ y.2.1) := fun y hy => ⟨rch_le n p u y hy, fun e => fw_le n p u y hy (by omega)⟩
  have hm1 : ∀ y, y ∈ l1 → y ∈ wys D n p u := fun y hy => by rw [c1]; exact List.mem_append.mpr (Or.inl hy)
  have hm2 : ∀ y, y ∈ l2 → y ∈ wys D n p u := fun y hy => by rw [c1]; exact List.mem_append.mpr (Or.inr (List.mem_cons_of_mem _ hy))
  conv => lhs; rw [c1]
  refine fold_best (fun y hy => ?_) (fun y hy => ?_)
  · have h1 := key y (hm1 y hy)
    have h2 := c3 y hy
    show y.1 < rch D n p u ∨ (y.1 = rch D n p u ∧ fwN D (rch D n p u) n p u < y.2.1)
    rcases Nat.lt_or_ge y.1 (rch D n p u) with q | q
    · exact Or.inl q
    · right
      have e : y.1 = rch D n p u := by omega
      refine ⟨e, ?_⟩
      have := h1.2 e
      have : ¬ y.2.1 = fwN D (rch D n p u) n p u := fun z => h2 ⟨by omega, z⟩
      omega
  · have h1 := key y (hm2 y hy)
    show y.1 < rch D n p u ∨ (y.1 = rch D n p u ∧ fwN D (rch D n p u) n p u ≤ y.2.1)
    rcases Nat.lt_or_ge y.1 (rch D n p u) with q | q
    · exact Or.inl q
    · have e : y.1 = rch D n p u := by omega
      exact Or.inr ⟨e, h1.2 e⟩
