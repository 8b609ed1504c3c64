/-! ===== the rows of tyres told anew, where nothing in the heap changes ===== -/
theorem En.tr {Cx : je_C} {nL pc : Nat} {lv : je_V0} {st : List Value} {h : je_H} {bc bs a t n : Nat} {f f' : Nat → Option Nat} (ha : h a = some (ar t n f)) (hff : ∀ i, i < n → f i = f' i) (k : En Cx nL pc lv st (je_up h a (ar t n f')) bc bs) : En Cx nL pc lv st h bc bs := by
  intro p l e R s m args below meth c D cs A Q hx w H locs cells slots ls hR hP hD hS hl hc hs
  obtain ⟨q0, hq0⟩ := hR.2 a _ ha
  have hlen := (List.getElem?_eq_some_iff.mp hq0).1
  have hw : ∀ (i : Nat) (q : Nat × va_E), (je_ws cs (w.set q0 (a, ar t n f')))[i]? = some q → (i = q0 ∧ q = je_e cs (a, ar t n f')) ∨ (je_ws cs w)[i]? = some q := by
    intro i q hi
    rw [← je_set] at hi
    by_cases hiq : i = q0
    · subst hiq
      rw [List.getElem?_set_self (by rw [je_ws, List.length_map]; exact hlen)] at hi
      exact Or.inl ⟨rfl, (Option.some.inj hi).symm⟩
    · rw [List.getElem?_set_ne (Ne.symm hiq)] at hi
      exact Or.inr hi
  have hcell : vp_cell (cs t) (n, .inr (.inr (.inr (.inr f)))) = vp_cell (cs t) (n, .inr (.inr (.inr (.inr f')))) := by
    show arrV (cs t) n (fun j => va_rf (f j)) = arrV (cs t) n (fun j => va_rf (f' j))
    unfold arrV
    congr 2
    funext j
    show va_rf (f j.val) = va_rf (f' j.val)
    rw [hff j.val j.isLt]
  have adr : ∀ (i : Nat) (q : Nat × va_E), (je_ws cs (w.set q0 (a, ar t n f')))[i]? = some q → ∃ q', (je_ws cs w)[i]? = some q' ∧ q'.1 = q.1 := by
    intro i q hi
    rcases hw i q hi with ⟨rfl, rfl⟩ | h2
    · exact ⟨_, je_get hq0, rfl⟩
    · exact ⟨q, h2, rfl⟩
  refine k _ _ _ _ _ _ _ _ _ _ _ _ _ _ hx (w.set q0 (a, ar t n f')) _ _ _ _ _ (je_R_set _ hR hq0 hD) (fun i q hi => ?_) ⟨fun i j p q hi hj e => ?_, fun i q hi => ?_⟩ hS hl hc hs
  · rcases hw i q hi with ⟨rfl, rfl⟩ | h2
    · have h3 := hP i _ (je_get hq0)
      show H[a]? = some (vp_cell (cs t) (n, .inr (.inr (.inr (.inr f')))))
      rw [← hcell]
      exact h3
    · exact hP i q h2
  · obtain ⟨p', h1, h2⟩ := adr i p hi
    obtain ⟨q', h3, h4⟩ := adr j q hj
    exact hD.1 i j p' q' h1 h3 (by rw [h2, h4]; exact e)
  · obtain ⟨q', h1, h2⟩ := adr i q hi
    rw [← h2]
    exact hD.2 i q' h1
def adN (ad : sA) (nt : Nat) (B : sB) : sA := fun k j => match k with
  | 21 => if nt < j then (rT ad (B 11 0 (j - nt - 1))).getD 0 else ad 21 j
  | k => ad k j
def BN (B : sB) (nt : Nat) : sB := fun k j => match k with
  | 11 => fun i => if i < 7 then (if B 11 0 i < 0 then -1 else nI (nt + 1 + i)) else -1
  | 20 => fun i => if i < 7 then B 20 j i else -1
  | k => B k j
theorem rT_neg {ad : sA} {x : Int32} (h : x < 0) : rT ad x = none := by
  unfold rT
  rw [if_pos h]
theorem rT_nI {ad : sA} {t : Nat} (h : t < 2 ^ 31) : rT ad (nI t) = some (ad 21 t) := by
  unfold rT
  rw [if_neg (nI_pos h), nI_clamp h]
theorem rT_N11 {ad : sA} {nt : Nat} {B : sB} (h40 : nt ≤ 40) {i : Nat} (hi : i < 7) : rT ad (B 11 0 i) = rT (adN ad nt B) (BN B nt 11 0 i) := by
  show _ = rT (adN ad nt B) (if i < 7 then (if B 11 0 i < 0 then -1 else nI (nt + 1 + i)) else -1)
  rw [if_pos hi]
  by_cases hx : B 11 0 i < 0
  · rw [if_pos hx, rT_neg hx, rT_neg (by decide)]
  · rw [if_neg hx, rT_nI (by omega)]
    show _ = some (if nt < nt + 1 + i then (rT ad (B 11 0 (nt + 1 + i - nt - 1))).getD 0 else ad 21 (nt + 1 + i))
    rw [if_pos (by omega), show nt + 1 + i - nt - 1 = i by omega]
    unfold rT
    rw [if_neg hx]
    rfl
theorem rT_N20 {ad : sA} {nt : Nat} {B : sB} (h40 : nt ≤ 40) {j i : Nat} (hi : i < 7) (hB : B 20 j i = -1 ∨ ∃ t, t < nt ∧ B 20 j i = nI t) : rT ad (B 20 j i) = rT (adN ad nt B) (BN B nt 20 j i) := by
  show _ = rT (adN ad nt B) (if i < 7 then B 20 j i else -1)
  rw [if_pos hi]
  rcases hB with h | ⟨t, ht, h⟩
  · rw [h, rT_neg (by decide), rT_neg (by decide)]
  · rw [h, rT_nI (by omega), rT_nI (by omega)]
    show _ = some (if nt < t then _ else ad 21 t)
    rw [if_neg (by omega)]
def upN (ad : sA) (nt : Nat) (B : sB) (h : je_H) : Nat → je_H
  | 0 => je_up h (ad 11 0) (ar 1 7 (fun i => rT (adN ad nt B) (BN B nt 11 0 i)))
  | j + 1 => je_up (upN ad nt B h j) (ad 20 j) (ar 1 7 (fun i => rT (adN ad nt B) (BN B nt 20 j i)))
theorem upN_g {ad : sA} {nw nt : Nat} {B : sB} {L : sL} {h : je_H} (hs : sH ad nw nt B L h) : ∀ (n : Nat), n ≤ nw → ∀ kd j, sOk nw nt kd j = true → upN ad nt B h n (ad kd j) = if kd = 11 ∨ (kd = 20 ∧ j < n) then some (sC (adN ad nt B) nw nt (BN B nt) L kd j) else h (ad kd j)
  | 0, hn, kd, j, hk => by
    by_cases h1 : kd = 11
    · subst h1
      have hj : j = 0 := Nat.eq_of_beq_eq_true hk
      subst hj
      rw [if_pos (Or.inl rfl)]
      exact je_up_s _ _ _
    · rw [if_neg (fun z => z.elim h1 (fun y => by omega))]
      exact je_up_n (fun z => h1 (hs.2 _ _ _ _ hk rfl z).1)
  | n + 1, hn, kd, j, hk => by
    by_cases h1 : kd = 20 ∧ j = n
    · obtain ⟨rfl, rfl⟩ := h1
      rw [if_pos (Or.inr ⟨rfl, by omega⟩)]
      exact je_up_s _ _ _
    · show je_up (upN ad nt B h n) (ad 20 n) _ (ad kd j) = _
      rw [je_up_n (fun z => h1 (hs.2 _ _ _ _ hk (ok20 (by omega)) z)), upN_g hs n (by omega) kd j hk]
      by_cases h2 : kd = 11 ∨ (kd = 20 ∧ j < n)
      · rw [if_pos h2, if_pos (h2.elim Or.inl (fun y => Or.inr ⟨y.1, by omega⟩))]
      · rw [if_neg h2, if_neg (fun z => z.elim (fun y => h2 (Or.inl y)) (fun y => h2 (Or.inr ⟨y.1, by omega⟩)))]
theorem adN_o {ad : sA} {nw nt : Nat} {B : sB} {kd j : Nat} (hk : sOk nw nt kd j = true) : adN ad nt B kd j = ad kd j := by
  by_cases h1 : kd = 21
  · subst h1
    have hj : j < nt := by
      have : Nat.blt j nt = true := hk
      rw [Nat.blt_eq] at this
      exact this
    show (if nt < j then _ else ad 21 j) = ad 21 j
    rw [if_neg (by omega)]
  · unfold adN
    split
    · exact absurd rfl h1
    · rfl
theorem sC_N {ad : sA} {nw nt : Nat} {B : sB} {L : sL} {kd j : Nat} (hk : sOk nw nt kd j = true) (h1 : kd ≠ 11) (h2 : kd ≠ 20) : sC ad nw nt B L kd j = sC (adN ad nt B) nw nt (BN B nt) L kd j := by
  by_cases h3 : kd = 2
  · subst h3
    show ar 1 40 (fun i => if i < nt then some (ad 21 i) else none) = ar 1 40 (fun i => if i < nt then some (if nt < i then _ else ad 21 i) else none)
    congr 1
    funext i
    by_cases hi : i < nt
    · rw [if_pos hi, if_pos hi, if_neg (by omega)]
    · rw [if_neg hi, if_neg hi]
  · unfold sC
    split <;> first | rfl | exact absurd rfl h1 | exact absurd rfl h2 | exact absurd rfl h3
theorem En_norm {Cx : je_C} {nL pc : Nat} {lv : je_V0} {st : List Value} {h : je_H} {bc bs : Nat} {ad : sA} {nw nt : Nat} {B : sB} {L : sL} (hs : sH ad nw nt B L h) (h40 : nt ≤ 40) (hB : ∀ j i, j < nw → i < 7 → B 20 j i = -1 ∨ ∃ t, t < nt ∧ B 20 j i = nI t) (k : ∀ h1, sH (adN ad nt B) nw nt (BN B nt) L h1 → En Cx nL pc lv st h1 bc bs) : En Cx nL pc lv st h bc bs := by
  have hd : ∀ n, n ≤ nw → En Cx nL pc lv st (upN ad nt B h n) bc bs → En Cx nL pc lv st h bc bs := by
    intro n
    induction n with
    | zero =>
      intro _ hk
      exact En.tr (hs.1 11 0 rfl) (fun i hi => rT_N11 h40 hi) hk
    | succ n ih =>
      intro hn hk
      refine ih (by omega) (En.tr (f := fun i => rT ad (B 20 n i)) ?_ (fun i hi => rT_N20 h40 hi (hB n i (by omega) hi)) hk)
      rw [upN_g hs n (by omega) 20 n (ok20 (by omega)), if_neg (fun z => z.elim (by decide) (fun y => by omega))]
      exact hs.1 20 n (ok20 (by omega))
  refine hd nw (Nat.le_refl _) (k _ ⟨fun kd j hk => ?_, fun kd j kd' j' hk hk' e => hs.2 kd j kd' j' hk hk' (by rw [adN_o hk, adN_o hk'] at e; exact e)⟩)
  rw [adN_o hk, upN_g hs nw (Nat.le_refl _) kd j hk]
  by_cases h1 : kd = 11 ∨ (kd = 20 ∧ j < nw)
  · rw [if_pos h1]
  · rw [if_neg h1, hs.1 kd j hk]
    refine congrArg some (sC_N hk (fun z => h1 (Or.inl z)) (fun z => h1 (Or.inr ⟨z, ?_⟩)))
    subst z
    have : Nat.blt j nw = true := hk
    rw [Nat.blt_eq] at this
    exact this
theorem Rel_N {nw nt : Nat} {B : sB} {L : sL} (hR : Rel nw nt B L) : Rel nw nt (BN B nt) L := by
  obtain ⟨hS, hP, hW, hT, hG, hL⟩ := hR
  refine ⟨hS, hP, ⟨fun w hw => ?_, hW.2⟩, hT, hG, hL⟩
  obtain ⟨p, a1, a2, a3, a4, a5, a6⟩ := hW.1 w hw
  refine ⟨p, a1, a2, a3, a4, fun q hq => ?_, fun q h1 h2 => ?_⟩
  · obtain ⟨b1, b2, b3, b4, b5⟩ := a5 q hq
    have e : BN B nt 20 w q = B 20 w q := if_pos (by omega)
    rw [e]
    exact ⟨b1, b2, b3, b4, b5⟩
  · have e : BN B nt 20 w q = B 20 w q := if_pos (by omega)
    rw [e]
    exact a6 q h1 h2
theorem Rel_20 {nw nt : Nat} {B : sB} {L : sL} (hR : Rel nw nt B L) : ∀ j i, j < nw → i < 7 → B 20 j i = -1 ∨ ∃ t, t < nt ∧ B 20 j i = nI t := by
  intro j i hj hi
  obtain ⟨p, a1, a2, a3, a4, a5, a6⟩ := hR.2.2.1.1 j hj
  by_cases hip : i < p
  · obtain ⟨b1, b2, b3, b4, b5⟩ := a5 i hip
    rcases b4 with b4 | ⟨t, c1, c2, c3⟩
    · exact Or.inl b4
    · exact Or.inr ⟨t, c1, c2⟩
  · exact Or.inl (a6 i (by omega) hi)
/-- what is so of rows told anew -/
def Nm (nw nt : Nat) (B : sB) : Prop := (∀ i, B 11 0 i < 0 ∨ ∃ m, nt < m ∧ m < 2 ^ 31 ∧ B 11 0 i = nI m) ∧ ∀ j i, j < nw → B 20 j i = -1 ∨ ∃ t, t < nt ∧ B 20 j i = nI t
theorem Nm_N {nw nt : Nat} {B : sB} (h40 : nt ≤ 40) (hB : ∀ j i, j < nw → i < 7 → B 20 j i = -1 ∨ ∃ t, t < nt ∧ B 20 j i = nI t) : Nm nw nt (BN B nt) := by
  refine ⟨fun i => ?_, fun j i hj => ?_⟩
  · show (if i < 7 then (if B 11 0 i < 0 then -1 else nI (nt + 1 + i)) else -1) < 0 ∨ ∃ m, nt < m ∧ m < 2 ^ 31 ∧ (if i < 7 then (if B 11 0 i < 0 then -1 else nI (nt + 1 + i)) else -1) = nI m
    by_cases hi : i < 7
    · rw [if_pos hi]
      by_cases hx : B 11 0 i < 0
      · rw [if_pos hx]
        exact Or.inl (by decide)
      · rw [if_neg hx]
        exact Or.inr ⟨nt + 1 + i, by omega, by omega, rfl⟩
    · rw [if_neg hi]
      exact Or.inl (by decide)
  · show (if i < 7 then B 20 j i else -1) = -1 ∨ ∃ t, t < nt ∧ (if i < 7 then B 20 j i else -1) = nI t
    by_cases hi : i < 7
    · rw [if_pos hi]
      exact hB j i hj hi
    · rw [if_neg hi]
      exact Or.inl rfl
/-! ===== a tyre more ===== -/
def adT (ad : sA) (nt a1 a2 a3 a4 : Nat) : sA := fun k j => match k with
  | 21 => if j = nt then a1 else ad 21 j
  | 22 => if j = nt then a2 else ad 22 j
  | 23 => if j = nt then a3 else ad 23 j
  | 24 => if j = nt then a4 else ad 24 j
  | k => ad k j
def tyN (n mk dy : Int32) : Nat → Int32
  | 0 => n
  | 1 => mk
  | 2 => dy
  | 10 => -1
  | 11 => -9
  | _ => 0
def BT (B : sB) (nt : Nat) (mk dy : Int32) : sB := fun k j => match k with
  | 21 => if j = nt then tyN (nI nt) mk dy else B 21 j
  | 22 => if j = nt then (fun _ => 0) else B 22 j
  | 23 => if j = nt then (fun _ => 0) else B 23 j
  | k => B k j
def Lty (L : sL) (nt : Nat) : sL := fun k j => match k with
  | 24 => if j = nt then (fun i => if i = 1 then 1 else 0) else L 24 j
  | k => L k j
def newT (nt kd j : Nat) : Prop := j = nt ∧ (kd = 21 ∨ kd = 22 ∨ kd = 23 ∨ kd = 24)
def posT : Nat → Nat
  | 21 => 3
  | 22 => 2
  | 23 => 1
  | _ => 0
theorem sOk_T {nw nt kd j : Nat} (h : sOk nw (nt + 1) kd j = true) : newT nt kd j ∨ (sOk nw nt kd j = true ∧ ¬ newT nt kd j) := by
  by_cases hn : newT nt kd j
  · exact Or.inl hn
  · refine Or.inr ⟨?_, hn⟩
    unfold newT at hn
    unfold sOk at h ⊢
    split at h <;> first | exact h | (simp only [Nat.blt_eq] at h ⊢; omega)
theorem adT_o {ad : sA} {nt a1 a2 a3 a4 kd j : Nat} (hn : ¬ newT nt kd j) : adT ad nt a1 a2 a3 a4 kd j = ad kd j := by
  have hj : (kd = 21 ∨ kd = 22 ∨ kd = 23 ∨ kd = 24) → ¬ j = nt := fun z y => hn ⟨y, z⟩
  unfold adT
  split <;> first | rfl | (simp [hj]; done)
theorem rT_T {ad : sA} {nt a1 a2 a3 a4 : Nat} {x : Int32} (h : x < 0 ∨ ∃ m, m ≠ nt ∧ m < 2 ^ 31 ∧ x = nI m) : rT (adT ad nt a1 a2 a3 a4) x = rT ad x := by
  rcases h with h | ⟨m, h1, h2, rfl⟩
  · rw [rT_neg h, rT_neg h]
  · rw [rT_nI h2, rT_nI h2]
    show some (if m = nt then a1 else ad 21 m) = _
    rw [if_neg h1]
theorem sC_T {ad : sA} {nw nt a1 a2 a3 a4 : Nat} {B : sB} {L : sL} {mk dy : Int32} {kd j : Nat} (h40 : nt ≤ 40) (hk : sOk nw nt kd j = true) (hN : Nm nw nt B) (hn : ¬ newT nt kd j) : sC_y (adT ad nt a1 a2 a3 a4) nw (nt + 1) (BT B nt mk dy) (Lty L nt) kd j = sC ad nw nt B L kd j := by
  have hj : (kd = 21 ∨ kd = 22 ∨ kd = 23 ∨ kd = 24) → ¬ j = nt := fun z y => hn ⟨y, z⟩
  by_cases h2 : kd = 2
  · subst h2
    show ar 1 40 (fun i => if i + 1 < nt + 1 then some (if i = nt then a1 else ad 21 i) else none) = ar 1 40 (fun i => if i < nt then some (ad 21 i) else none)
    congr 1
    funext i
    by_cases hi : i < nt
    · rw [if_pos hi, if_pos (by omega), if_neg (by omega)]
    · rw [if_neg hi, if_neg (by omega)]
  by_cases h11 : kd = 11
  · subst h11
    show ar 1 7 (fun i => rT (adT ad nt a1 a2 a3 a4) (B 11 0 i)) = ar 1 7 (fun i => rT ad (B 11 0 i))
    congr 1
    funext i
    exact rT_T ((hN.1 i).elim Or.inl (fun ⟨m, m1, m2, m3⟩ => Or.inr ⟨m, by omega, m2, m3⟩))
  by_cases h20 : kd = 20
  · subst h20
    have hjw : j < nw := by
      have : Nat.blt j nw = true := hk
      rw [Nat.blt_eq] at this
      exact this
    show ar 1 7 (fun i => rT (adT ad nt a1 a2 a3 a4) (B 20 j i)) = ar 1 7 (fun i => rT ad (B 20 j i))
    congr 1
    funext i
    exact rT_T ((hN.2 j i hjw).elim (fun z => Or.inl (by rw [z]; decide)) (fun ⟨m, m1, m3⟩ => Or.inr ⟨m, by omega, by omega, m3⟩))
  unfold sC_y sC
  split <;> first | rfl | exact absurd rfl h2 | exact absurd rfl h11 | exact absurd rfl h20 | (simp [adT, BT, Lty, hj]; done)
theorem sH_T {ad : sA} {nw nt a1 a2 a3 a4 : Nat} {B : sB} {L : sL} {h : je_H} {mk dy : Int32} (hs : sH ad nw nt B L h) (h40 : nt ≤ 40) (hN : Nm nw nt B) (hl : hf h [(a4, .inr (4, [.long 0, .long 1])), (a3, ai 12 (fun _ => 0)), (a2, ai 12 (fun _ => 0)), (a1, .inr (2, [.int (nI nt), .int mk, .int dy, .ref a2, .ref a3, .ref a4, .int 0, .int 0, .int 0, .int 0, .int (-1), .int (-9)]))]) : sH_y (adT ad nt a1 a2 a3 a4) nw (nt + 1) (BT B nt mk dy) (Lty L nt) (hp h [(a4, .inr (4, [.long 0, .long 1])), (a3, ai 12 (fun _ => 0)), (a2, ai 12 (fun _ => 0)), (a1, .inr (2, [.int (nI nt), .int mk, .int dy, .ref a2, .ref a3, .ref a4, .int 0, .int 0, .int 0, .int 0, .int (-1), .int (-9)]))]) := by
  refine hp_ext (ad := ad) (ok := fun kd j => sOk nw nt kd j = true) (ok' := fun kd j => sOk nw (nt + 1) kd j = true) (new := newT nt) (X := sC ad nw nt B L) (pos := posT) hl hs.1 hs.2 (fun kd j hn => ?_) (fun kd j kd' j' hn hn' e => ?_) (fun kd j hk => ?_)
  · obtain ⟨rfl, rfl | rfl | rfl | rfl⟩ := hn
    · simp [posT, adT, sC_y, BT, tyN]
    · simp [posT, adT, sC_y, BT]
    · simp [posT, adT, sC_y, BT]
    · simp [posT, adT, sC_y, Lty]
  · obtain ⟨rfl, h1⟩ := hn
    obtain ⟨rfl, h2⟩ := hn'
    refine ⟨?_, rfl⟩
    rcases h1 with rfl | rfl | rfl | rfl <;> rcases h2 with rfl | rfl | rfl | rfl <;> first | rfl | (exact absurd e (by decide))
  · rcases sOk_T hk with hn | ⟨h2, h3⟩
    · exact Or.inl hn
    · exact Or.inr ⟨h2, adT_o h3, sC_T h40 h2 hN h3⟩
theorem sC_yo {ad : sA} {nw nt : Nat} {B : sB} {L : sL} {kd j : Nat} (h2 : ¬ kd = 2) : sC_y ad nw nt B L kd j = sC ad nw nt B L kd j := by
  unfold sC_y sC
  split <;> first | rfl | exact absurd rfl h2 | (simp_all; done) | (split <;> first | rfl | simp_all)
/-- the last tyre comes into the row -/
theorem sH_of_y {ad : sA} {nw nt : Nat} {B : sB} {L : sL} {h : je_H} (hs : sH_y ad nw (nt + 1) B L h) : sH ad nw (nt + 1) B L (je_up h (ad 2 0) (ar 1 40 (va_up (fun i => if i + 1 < nt + 1 then some (ad 21 i) else none) nt (some (ad 21 nt))))) := by
  refine ⟨fun kd j hk => ?_, hs.2⟩
  by_cases h2 : kd = 2
  · subst h2
    have hj : j = 0 := Nat.eq_of_beq_eq_true hk
    subst hj
    rw [je_up_s]
    show some (ar 1 40 _) = some (ar 1 40 (fun i => if i < nt + 1 then some (ad 21 i) else none))
    congr 2
    funext i
    unfold va_up
    by_cases hi : i = nt
    · subst hi
      simp
    · by_cases hlt : i < nt
      · simp [hi, hlt, Nat.lt_succ_of_lt hlt]
      · simp [hi, hlt, show ¬ i < nt + 1 by omega]
  · rw [je_up_n (fun z => h2 (hs.2 _ _ _ _ hk rfl z).1), hs.1 kd j hk]
    refine congrArg some (sC_yo h2)
