/-! ===== a state with new cells ===== -/
theorem hp_ext {ad ad' : sA} {ok ok' new : Nat → Nat → Prop} {X C' : Nat → Nat → je_E} {h1 : je_H} {l : je_L} {pos : Nat → Nat} (hl : hf h1 l) (hb : ∀ kd j, ok kd j → h1 (ad kd j) = some (X kd j)) (hinj : ∀ kd j kd' j', ok kd j → ok kd' j' → ad kd j = ad kd' j' → kd = kd' ∧ j = j') (hnew : ∀ kd j, new kd j → l[pos kd]? = some (ad' kd j, C' kd j)) (hpos : ∀ kd j kd' j', new kd j → new kd' j' → pos kd = pos kd' → kd = kd' ∧ j = j') (hold : ∀ kd j, ok' kd j → new kd j ∨ (ok kd j ∧ ad' kd j = ad kd j ∧ C' kd j = X kd j)) : (∀ kd j, ok' kd j → hp h1 l (ad' kd j) = some (C' kd j)) ∧ ∀ kd j kd' j', ok' kd j → ok' kd' j' → ad' kd j = ad' kd' j' → kd = kd' ∧ j = j' := by
  refine ⟨fun kd j hk => ?_, fun kd j kd' j' hk hk' he => ?_⟩
  · rcases hold kd j hk with hn | ⟨h2, h3, h4⟩
    · exact hp_get hl (hnew kd j hn)
    · rw [h3, h4]
      exact hp_base hl (hb kd j h2)
  · rcases hold kd j hk with hn | ⟨h2, h3, h4⟩
    · rcases hold kd' j' hk' with hn' | ⟨h2', h3', h4'⟩
      · have h5 := hnew kd j hn
        rw [he] at h5
        exact hpos kd j kd' j' hn hn' (hf_inj hl h5 (hnew kd' j' hn'))
      · have h5 := hf_key hl (hnew kd j hn)
        rw [he, h3', hb kd' j' h2'] at h5
        cases h5
    · rcases hold kd' j' hk' with hn' | ⟨h2', h3', h4'⟩
      · have h5 := hf_key hl (hnew kd' j' hn')
        rw [← he, h3, hb kd j h2] at h5
        cases h5
      · exact hinj kd j kd' j' h2 h2' (by rw [← h3, ← h3']; exact he)
def adW (ad : sA) (nw a1 a2 a3 : Nat) : sA := fun k j => match k with
  | 18 => if j = nw then a1 else ad 18 j
  | 19 => if j = nw then a2 else ad 19 j
  | 20 => if j = nw then a3 else ad 20 j
  | k => ad k j
def BW (B : sB) (nw : Nat) : sB := fun k j => match k with
  | 18 => if j = nw then (fun i => if i = 0 then nI nw else 0) else B 18 j
  | 19 => if j = nw then (fun _ => 0) else B 19 j
  | 20 => if j = nw then (fun _ => -1) else B 20 j
  | k => B k j
def newW (nw kd j : Nat) : Prop := j = nw ∧ (kd = 18 ∨ kd = 19 ∨ kd = 20)
def posW : Nat → Nat
  | 18 => 2
  | 19 => 1
  | _ => 0
theorem sOk_W {nw nt kd j : Nat} (h : sOk (nw + 1) nt kd j = true) : newW nw kd j ∨ (sOk nw nt kd j = true ∧ ¬ newW nw kd j) := by
  by_cases hn : newW nw kd j
  · exact Or.inl hn
  · refine Or.inr ⟨?_, hn⟩
    unfold newW at hn
    unfold sOk at h ⊢
    split at h <;> first | exact h | (simp only [Nat.blt_eq] at h ⊢; omega)
theorem sC_W {ad : sA} {nw nt a1 a2 a3 : Nat} {B : sB} {L : sL} {kd j : Nat} (h1 : kd ≠ 1) (hn : ¬ newW nw kd j) : sC (adW ad nw a1 a2 a3) (nw + 1) nt (BW B nw) L kd j = sC ad nw nt B L kd j := by
  have hj : (kd = 18 ∨ kd = 19 ∨ kd = 20) → ¬ j = nw := fun z y => hn ⟨y, z⟩
  unfold sC
  split <;> first | rfl | (exact absurd rfl h1) | (simp [adW, BW, hj]; done) | (simp [adW, BW, hj]; rfl)
theorem adW_o {ad : sA} {nw a1 a2 a3 kd j : Nat} (hn : ¬ newW nw kd j) : adW ad nw a1 a2 a3 kd j = ad kd j := by
  have hj : (kd = 18 ∨ kd = 19 ∨ kd = 20) → ¬ j = nw := fun z y => hn ⟨y, z⟩
  unfold adW
  split <;> first | rfl | (simp [hj]; done)
theorem sH_W {ad : sA} {nw nt a1 a2 a3 : Nat} {B : sB} {L : sL} {h : je_H} (hs : sH ad nw nt B L h) (h5 : nw < 5) (hl : hf h [(a3, ar 1 7 (fun _ => none)), (a2, ai 7 (fun _ => 0)), (a1, .inr (3, [.int (nI nw), .ref a2, .ref a3, .int 0]))]) : sH (adW ad nw a1 a2 a3) (nw + 1) nt (BW B nw) L (je_up (hp h [(a3, ar 1 7 (fun _ => none)), (a2, ai 7 (fun _ => 0)), (a1, .inr (3, [.int (nI nw), .ref a2, .ref a3, .int 0]))]) (ad 1 0) (ar 2 5 (va_up (fun i => if i < nw then some (ad 18 i) else none) (nI nw).toNatClampNeg (some a1)))) := by
  have hb1 := hs.1 1 0 rfl
  rw [hp_upb hl hb1, nI_clamp (by omega)]
  refine hp_ext (ad := ad) (ok := fun kd j => sOk nw nt kd j = true) (ok' := fun kd j => sOk (nw + 1) nt kd j = true) (new := newW nw) (X := fun kd j => if kd = 1 then ar 2 5 (va_up (fun i => if i < nw then some (ad 18 i) else none) nw (some a1)) else sC ad nw nt B L kd j) (pos := posW) (hf_upb hl hb1) (fun kd j hk => ?_) hs.2 (fun kd j hn => ?_) (fun kd j kd' j' hn hn' e => ?_) (fun kd j hk => ?_)
  · by_cases hk1 : kd = 1
    · subst hk1
      have hj : j = 0 := by
        have : sOk nw nt 1 j = true := hk
        exact Nat.eq_of_beq_eq_true this
      subst hj
      rw [je_up_s, if_pos rfl]
    · rw [je_up_n (fun z => hk1 (hs.2 _ _ _ _ hk rfl z).1), if_neg hk1]
      exact hs.1 kd j hk
  · obtain ⟨rfl, rfl | rfl | rfl⟩ := hn
    · simp [posW, adW, sC, BW]
    · simp [posW, adW, sC, BW]
    · simp [posW, adW, sC, BW, rT]
  · obtain ⟨rfl, h1⟩ := hn
    obtain ⟨rfl, h2⟩ := hn'
    refine ⟨?_, rfl⟩
    rcases h1 with rfl | rfl | rfl <;> rcases h2 with rfl | rfl | rfl <;> first | rfl | (exact absurd e (by decide))
  · rcases sOk_W hk with hn | ⟨h2, h3⟩
    · exact Or.inl hn
    · refine Or.inr ⟨h2, adW_o h3, ?_⟩
      by_cases hk1 : kd = 1
      · subst hk1
        rw [if_pos rfl]
        show ar 2 5 _ = ar 2 5 _
        congr 1
        funext i
        show (if i < nw + 1 then some (if i = nw then a1 else ad 18 i) else none) = va_up _ _ _ i
        unfold va_up
        by_cases hi : i = nw
        · subst hi
          simp
        · by_cases hlt : i < nw
          · simp [hi, hlt, Nat.lt_succ_of_lt hlt]
          · simp [hi, hlt, show ¬ i < nw + 1 by omega]
      · rw [if_neg hk1]
        exact sC_W hk1 h3
