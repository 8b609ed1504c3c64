/-! ===== MAKING: new cells over a base heap ===== -/
def hp (h0 : je_H) : je_L → je_H
  | [] => h0
  | q :: l => je_up (hp h0 l) q.1 q.2
def hf (h0 : je_H) : je_L → Prop
  | [] => True
  | q :: l => hp h0 l q.1 = none ∧ hf h0 l
theorem je_up2 (h : je_H) (a : Nat) (e e' : je_E) : je_up (je_up h a e) a e' = je_up h a e' := by
  funext b
  by_cases hb : b = a
  · subst hb
    rw [je_up_s, je_up_s]
  · rw [je_up_n hb, je_up_n hb, je_up_n hb]
theorem je_upc {h : je_H} {a b : Nat} {e e' : je_E} (hn : a ≠ b) : je_up (je_up h a e) b e' = je_up (je_up h b e') a e := by
  funext c
  by_cases h1 : c = a
  · subst h1
    rw [je_up_n hn, je_up_s, je_up_s]
  · by_cases h2 : c = b
    · subst h2
      rw [je_up_s, je_up_n h1, je_up_s]
    · rw [je_up_n h2, je_up_n h1, je_up_n h1, je_up_n h2]
theorem hp_get {h0 : je_H} : ∀ {l : je_L} {k a : Nat} {e : je_E}, hf h0 l → l[k]? = some (a, e) → hp h0 l a = some e
  | [], k, a, e, _, h => by simp at h
  | q :: l, 0, a, e, _, h => by
    have hq : q = (a, e) := by simpa using h
    subst hq
    exact je_up_s _ _ _
  | q :: l, k + 1, a, e, hl, h => by
    have h1 : l[k]? = some (a, e) := by simpa using h
    have h2 := hp_get hl.2 h1
    have hn : a ≠ q.1 := fun z => by
      rw [z, hl.1] at h2
      cases h2
    show je_up (hp h0 l) q.1 q.2 a = some e
    rw [je_up_n hn]
    exact h2
theorem hp_set {h0 : je_H} : ∀ {l : je_L} {k a : Nat} {e e' : je_E}, hf h0 l → l[k]? = some (a, e) → je_up (hp h0 l) a e' = hp h0 (l.set k (a, e'))
  | [], k, a, e, e', _, h => by simp at h
  | q :: l, 0, a, e, e', _, h => by
    have hq : q = (a, e) := by simpa using h
    subst hq
    exact je_up2 _ _ _ _
  | q :: l, k + 1, a, e, e', hl, h => by
    have h1 : l[k]? = some (a, e) := by simpa using h
    have h2 := hp_get hl.2 h1
    have hn : q.1 ≠ a := fun z => by
      rw [← z, hl.1] at h2
      cases h2
    show je_up (je_up (hp h0 l) q.1 q.2) a e' = je_up (hp h0 (l.set k (a, e'))) q.1 q.2
    rw [je_upc hn, hp_set hl.2 h1]
theorem hf_set {h0 : je_H} : ∀ {l : je_L} {k a : Nat} {e e' : je_E}, hf h0 l → l[k]? = some (a, e) → hf h0 (l.set k (a, e'))
  | [], k, a, e, e', _, h => by simp at h
  | q :: l, 0, a, e, e', hl, h => by
    have hq : q = (a, e) := by simpa using h
    subst hq
    exact ⟨hl.1, hl.2⟩
  | q :: l, k + 1, a, e, e', hl, h => by
    have h1 : l[k]? = some (a, e) := by simpa using h
    have h2 := hp_get hl.2 h1
    have hn : q.1 ≠ a := fun z => by
      rw [← z, hl.1] at h2
      cases h2
    refine ⟨?_, hf_set hl.2 h1⟩
    show hp h0 (l.set k (a, e')) q.1 = none
    rw [← hp_set hl.2 h1, je_up_n hn]
    exact hl.1
theorem hp_base {h0 : je_H} : ∀ {l : je_L} {a : Nat} {e : je_E}, hf h0 l → h0 a = some e → hp h0 l a = some e
  | [], a, e, _, h => h
  | q :: l, a, e, hl, h => by
    have h2 := hp_base hl.2 h
    have hn : a ≠ q.1 := fun z => by
      rw [z, hl.1] at h2
      cases h2
    show je_up (hp h0 l) q.1 q.2 a = some e
    rw [je_up_n hn]
    exact h2
theorem hp_upb {h0 : je_H} : ∀ {l : je_L} {a : Nat} {e e' : je_E}, hf h0 l → h0 a = some e → je_up (hp h0 l) a e' = hp (je_up h0 a e') l
  | [], a, e, e', _, h => rfl
  | q :: l, a, e, e', hl, h => by
    have h2 := hp_base hl.2 h
    have hn : q.1 ≠ a := fun z => by
      rw [← z, hl.1] at h2
      cases h2
    show je_up (je_up (hp h0 l) q.1 q.2) a e' = je_up (hp (je_up h0 a e') l) q.1 q.2
    rw [je_upc hn, hp_upb hl.2 h]
theorem hf_upb {h0 : je_H} : ∀ {l : je_L} {a : Nat} {e e' : je_E}, hf h0 l → h0 a = some e → hf (je_up h0 a e') l
  | [], a, e, e', _, h => trivial
  | q :: l, a, e, e', hl, h => by
    have h2 := hp_base hl.2 h
    have hn : q.1 ≠ a := fun z => by
      rw [← z, hl.1] at h2
      cases h2
    refine ⟨?_, hf_upb hl.2 h⟩
    show hp (je_up h0 a e') l q.1 = none
    rw [← hp_upb hl.2 h, je_up_n hn]
    exact hl.1
theorem hp_app {h0 : je_H} {l0 : je_L} : ∀ l1 : je_L, hp (hp h0 l0) l1 = hp h0 (l1 ++ l0)
  | [] => rfl
  | q :: l => by
    show je_up (hp (hp h0 l0) l) q.1 q.2 = je_up (hp h0 (l ++ l0)) q.1 q.2
    rw [hp_app l]
theorem hf_app {h0 : je_H} {l0 : je_L} : ∀ {l1 : je_L}, hf (hp h0 l0) l1 → hf h0 l0 → hf h0 (l1 ++ l0)
  | [], _, h => h
  | q :: l, hl, h => by
    refine ⟨?_, hf_app hl.2 h⟩
    show hp h0 (l ++ l0) q.1 = none
    rw [← hp_app]
    exact hl.1
/-- the addresses of the list differ, and none is in the base heap -/
theorem hf_key {h0 : je_H} : ∀ {l : je_L}, hf h0 l → ∀ {i a : Nat} {e : je_E}, l[i]? = some (a, e) → h0 a = none
  | [], _, i, a, e, h => by simp at h
  | q :: l, hl, 0, a, e, h => by
    have hq : q = (a, e) := by simpa using h
    subst hq
    cases hh : h0 a with
    | none => rfl
    | some x =>
      have h3 := hp_base hl.2 hh
      rw [hl.1] at h3
      cases h3
  | q :: l, hl, i + 1, a, e, h => hf_key hl.2 (i := i) (by simpa using h)
theorem hf_inj {h0 : je_H} : ∀ {l : je_L}, hf h0 l → ∀ {i j a : Nat} {e e' : je_E}, l[i]? = some (a, e) → l[j]? = some (a, e') → i = j
  | [], _, i, j, a, e, e', h, _ => by simp at h
  | q :: l, hl, 0, 0, a, e, e', h, h' => rfl
  | q :: l, hl, 0, j + 1, a, e, e', h, h' => by
    have hq : q = (a, e) := by simpa using h
    subst hq
    have h2 : l[j]? = some (a, e') := by simpa using h'
    have h3 := hp_get hl.2 h2
    rw [hl.1] at h3
    cases h3
  | q :: l, hl, i + 1, 0, a, e, e', h, h' => by
    have hq : q = (a, e') := by simpa using h'
    subst hq
    have h2 : l[i]? = some (a, e) := by simpa using h
    have h3 := hp_get hl.2 h2
    rw [hl.1] at h3
    cases h3
  | q :: l, hl, i + 1, j + 1, a, e, e', h, h' => by
    have h1 : l[i]? = some (a, e) := by simpa using h
    have h2 : l[j]? = some (a, e') := by simpa using h'
    rw [hf_inj hl.2 h1 h2]
def je_In (Cx : je_C) : Prop := ∀ p l e R s m args below meth c D cs A Q, Cx p l e R s m args below meth c D cs A Q → meth.name = "<init>"
theorem je_In_Cm {y : MethodName} {cc : ByteArray} {nL : Nat} {ret : Option FieldType} {d kc ks : Nat} {Q : Option Value → je_H → Prop} (h : y.name = "<init>") : je_In (je_Cm y cc nL ret d kc ks Q) := fun p l e R s m args below meth c D cs A Qt hx => by
  rw [hx.2.2.2.2.2.2.2.2.2.1]
  exact h
theorem En.imp {Cx Cy : je_C} {nL pc : Nat} {lv : je_V0} {st : List Value} {h : je_H} {bc bs : Nat} (hi : ∀ p l e R s m args below meth c D cs A Q, Cy p l e R s m args below meth c D cs A Q → Cx p l e R s m args below meth c D cs A Q) (k : En Cx nL pc lv st h bc bs) : En Cy nL pc lv st h bc bs := fun p l e R s m args below meth c D cs A Q hx => k p l e R s m args below meth c D cs A Q (hi _ _ _ _ _ _ _ _ _ _ _ _ _ _ hx)
theorem En.eqH {Cx : je_C} {nL pc : Nat} {lv : je_V0} {st : List Value} {h h' : je_H} {bc bs : Nat} (e : h = h') (k : En Cx nL pc lv st h' bc bs) : En Cx nL pc lv st h bc bs := by subst e; exact k
section EH
variable {Cx : je_C} {own : String} {cc : ByteArray} {nL d pc bc bs idx : Nat} {lv : je_V0} {st : List Value} {h0 : je_H} {l : je_L}
theorem Eh_new {C : String} {T : u_T} {N ci : Nat} {fs : List Value} (hl : hf h0 l) (hC : je_Ok Cx own cc nL d) (ty0 : Nat → FieldType) (hty : ∀ k, k < N → parseFieldDescriptor (T k).2.2.1 = some (ty0 k)) (hin : ∀ w ∈ u_ws C T N, w ∈ je_T) (hcl : vwCl[ci]? = some (C, T, N)) (hcd : Cond.classLink own idx C ∈ je_T) (hins : Cond.instantiable C N ∈ je_T) (hini : Cond.initialized C ∈ je_T) (hd : decode cc pc = .ok (.new idx, 3)) (hfs : ∀ j, j < N → defaultValue (ty0 j) = vp_V fs j) (h1 : 1 ≤ bc) (h2 : N ≤ bs)
    (kk : ∀ q : Nat, hf h0 ((q, .inr (ci, fs)) :: l) → En Cx nL (pc + 3) lv (.ref q :: st) (hp h0 ((q, .inr (ci, fs)) :: l)) (bc - 1) (bs - N)) : En Cx nL pc lv st (hp h0 l) bc bs :=
  En_new hC ty0 hty hin hcl hcd hins hini hd hfs h1 h2 (fun q hq => kk q ⟨hq, hl⟩)
theorem Eh_newa {x : Int32} {N : Nat} (hl : hf h0 l) (hC : je_Ok Cx own cc nL d) (hd : decode cc pc = .ok (.newarray .int, 2)) (hx0 : ¬ x < 0) (hN : x.toNatClampNeg = N) (hb4 : N ≤ 100000) (h1 : 1 ≤ bc) (h2 : N ≤ bs)
    (kk : ∀ q : Nat, hf h0 ((q, ai N (fun _ => 0)) :: l) → En Cx nL (pc + 2) lv (.ref q :: st) (hp h0 ((q, ai N (fun _ => 0)) :: l)) (bc - 1) (bs - N)) : En Cx nL pc lv (.int x :: st) (hp h0 l) bc bs :=
  En_newa hC hd hx0 hN hb4 h1 h2 (fun q hq => kk q ⟨hq, hl⟩)
theorem Eh_newq {x : Int32} {N t : Nat} (hl : hf h0 l) (hC : je_Ok Cx own cc nL d) (ht3 : t = 1 ∨ t = 2) (hcd : Cond.classLink own idx (je_cn t) ∈ je_T) (hd : decode cc pc = .ok (.anewarray idx, 3)) (hx0 : ¬ x < 0) (hN : x.toNatClampNeg = N) (hb4 : N ≤ 100000) (h1 : 1 ≤ bc) (h2 : N ≤ bs)
    (kk : ∀ q : Nat, hf h0 ((q, ar t N (fun _ => none)) :: l) → En Cx nL (pc + 3) lv (.ref q :: st) (hp h0 ((q, ar t N (fun _ => none)) :: l)) (bc - 1) (bs - N)) : En Cx nL pc lv (.int x :: st) (hp h0 l) bc bs :=
  En_newq hC ht3 hcd hd hx0 hN hb4 h1 h2 (fun q hq => kk q ⟨hq, hl⟩)
theorem Eh_iast {kp n a : Nat} {f : Nat → Int32} {i x : Int32} {l' : je_L} (hl : hf h0 l) (hC : je_Ok Cx own cc nL d) (hd : decode cc pc = .ok (.iastore, 1)) (hk : l[kp]? = some (a, ai n f)) (hin : vp_in i n) (hl' : l.set kp (a, ai n (upd f i.toNatClampNeg x)) = l') (kk : hf h0 l' → En Cx nL (pc + 1) lv st (hp h0 l') bc bs) : En Cx nL pc lv (.int x :: .int i :: .ref a :: st) (hp h0 l) bc bs := by
  subst hl'
  refine En_iast hC hd (hp_get hl hk) hin (En.eqH (hp_set hl hk) (kk (hf_set hl hk)))
theorem Eh_put {C : String} {T : u_T} {N ci kp a : Nat} {fs : List Value} {v : Value} {ty : FieldType} {l' : je_L} (hl : hf h0 l) (hC : je_Ok Cx own cc nL d) (k : Nat) (ty0 : Nat → FieldType) (hty : ∀ k, k < N → parseFieldDescriptor (T k).2.2.1 = some (ty0 k)) (hnm : ∀ a, a < N → ∀ b, b < N → a ≠ b → (T a).2.1 ≠ (T b).2.1) (hin : ∀ w ∈ u_ws C T N, w ∈ je_T) (hcl : vwCl[ci]? = some (C, T, N)) (hlk : Cond.fieldLink own idx (T k).1 (T k).2.1 (T k).2.2.1 ∈ je_T) (hkN : k < N) (hfin : (T k).2.2.2 = false) (hd : decode cc pc = .ok (.putfield idx, 3)) (hk : l[kp]? = some (a, .inr (ci, fs))) (hde : parseFieldDescriptor (T k).2.2.1 = some ty) (hn : narrow ty v = v) (hfit : fits ty v = true) (hle : k < fs.length) (hl' : l.set kp (a, .inr (ci, fs.set k v)) = l')
    (kk : hf h0 l' → En Cx nL (pc + 3) lv st (hp h0 l') bc bs) : En Cx nL pc lv (v :: .ref a :: st) (hp h0 l) bc bs := by
  subst hl'
  exact En_put hC k ty0 hty hnm hin hcl hlk hkN hfin hd (hp_get hl hk) hde hn hfit hle (En.eqH (hp_set hl hk) (kk (hf_set hl hk)))
theorem Eh_putF {T : u_T} {N ci kp a : Nat} {fs : List Value} {v : Value} {ty : FieldType} {l' : je_L} (hl : hf h0 l) (hC : je_Ok Cx own cc nL d) (hI : je_In Cx) (k : Nat) (ty0 : Nat → FieldType) (hty : ∀ k, k < N → parseFieldDescriptor (T k).2.2.1 = some (ty0 k)) (hnm : ∀ a, a < N → ∀ b, b < N → a ≠ b → (T a).2.1 ≠ (T b).2.1) (hin : ∀ w ∈ u_ws own T N, w ∈ je_T) (hcl : vwCl[ci]? = some (own, T, N)) (hlk : Cond.fieldLink own idx (T k).1 (T k).2.1 (T k).2.2.1 ∈ je_T) (hkN : k < N) (hfin : (T k).2.2.2 = true) (hdecl : (T k).1 = own) (hd : decode cc pc = .ok (.putfield idx, 3)) (hk : l[kp]? = some (a, .inr (ci, fs))) (hde : parseFieldDescriptor (T k).2.2.1 = some ty) (hn : narrow ty v = v) (hfit : fits ty v = true) (hle : k < fs.length) (hl' : l.set kp (a, .inr (ci, fs.set k v)) = l')
    (kk : hf h0 l' → En Cx nL (pc + 3) lv st (hp h0 l') bc bs) : En Cx nL pc lv (v :: .ref a :: st) (hp h0 l) bc bs := by
  subst hl'
  intro p l9 e R s m args below meth c D cs A Q hx w H locs cells slots ls hR hP hD hS hlo hc hs
  obtain ⟨hx1, hb, hml, ho, ht, hK, hA, hfr, hlc⟩ := hC _ _ _ _ _ _ _ _ _ _ _ _ _ _ hx
  have hmn := hI _ _ _ _ _ _ _ _ _ _ _ _ _ _ hx
  have ha := hp_get hl hk
  obtain ⟨q0, hq0⟩ := hR.2 a _ ha
  refine va_putF hx1 hb ht hin ty0 hty hnm ho hK.1 hP hD hS q0 (je_get hq0) hcl k hkN (ht _ hlk) (fun _ z => z) hfin hmn hdecl hde hn hfit hle hd (fun H1 locs1 hP1 hD1 hS1 => ?_)
  have e0 := je_set (cs := cs) (w := w) (k := q0) (a, .inr (ci, fs.set k v))
  have hP1 : va_P D vwCl (je_ws cs (w.set q0 (a, .inr (ci, fs.set k v)))) H1 := by rw [← e0]; exact hP1
  have hD1 : va_D A (je_ws cs (w.set q0 (a, .inr (ci, fs.set k v)))) := by rw [← e0]; exact hD1
  exact (En.eqH (hp_set hl hk) (kk (hf_set hl hk))) _ _ _ _ _ _ _ _ _ _ _ _ _ _ hx _ _ _ _ _ _ (je_R_set _ hR hq0 hD) hP1 hD1 hS1 hlo hc hs
end EH
