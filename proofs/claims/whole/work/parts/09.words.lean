/-! words on numbers: in a range, or out of it -/
def out (x : Int32) (n : Nat) : Prop := x < 0 ∨ nI n ≤ x
theorem in_out (x : Int32) {n : Nat} (hn : n < 2 ^ 31) : (∃ j, j < n ∧ x = nI j) ∨ out x n := by
  rcases pk_ix x hn with h | h | ⟨j, h1, h2⟩
  · exact Or.inr (Or.inl h)
  · exact Or.inr (Or.inr h)
  · exact Or.inl ⟨j, h1, h2⟩
theorem out_no {x : Int32} {n : Nat} (h : out x n) (h1 : ¬ x < 0) (h2 : ¬ nI n ≤ x) : False := h.elim h1 h2
def outs (x lo hi : Int32) : Int32 := if x < lo then -4 else if hi < x then -6 else 0
def bI (p : Prop) [Decidable p] : Int32 := if p then 1 else 0
section AST
variable {Cx : je_C} {own : String} {cc : ByteArray} {nL d pc bc bs : Nat} {lv : je_V0} {st : List Value} {ad : sA} {nw nt : Nat} {B : sB} {L : sL}
theorem Es_aastK {kd j t k : Nat} {i : Int32} (hC : je_Ok Cx own cc nL d) (hd : decode cc pc = .ok (.aastore, 1)) (hk : sOk nw nt kd j = true) (hcell : ∀ B' : sB, sC ad nw nt B' L kd j = ar 1 7 (fun i => rT ad (B' kd j i))) (hi : i = nI k) (hk7 : k < 7) (ht : t < nt) (ht2 : t < 2 ^ 31) (kk : Es Cx nL (pc + 1) lv st ad nw nt (uB B kd j k (nI t)) L bc bs) : Es Cx nL pc lv (.ref (ad 21 t) :: .int i :: .ref (ad kd j) :: st) ad nw nt B L bc bs := by
  subst hi
  refine Es_aast hC hd hk hcell (vp_in_nI hk7 (by decide)) ht ht2 ?_
  rw [nI_clamp (by omega)]
  exact kk
theorem Es_aastNK {kd j k : Nat} {i : Int32} (hC : je_Ok Cx own cc nL d) (hd : decode cc pc = .ok (.aastore, 1)) (hk : sOk nw nt kd j = true) (hcell : ∀ B' : sB, sC ad nw nt B' L kd j = ar 1 7 (fun i => rT ad (B' kd j i))) (hi : i = nI k) (hk7 : k < 7) (kk : Es Cx nL (pc + 1) lv st ad nw nt (uB B kd j k (-1)) L bc bs) : Es Cx nL pc lv (.null :: .int i :: .ref (ad kd j) :: st) ad nw nt B L bc bs := by
  subst hi
  refine Es_aastN hC hd hk hcell (vp_in_nI hk7 (by decide)) ?_
  rw [nI_clamp (by omega)]
  exact kk
end AST
