/-! ===== THE LIGHT MACHINE: the heap is a function from addresses; a rule an instruction ===== -/
abbrev je_E : Type := (Nat × vp_A) ⊕ (Nat × List Value)
abbrev je_H : Type := Nat → Option je_E
abbrev je_L : Type := List (Nat × je_E)
def je_e (cs : Nat → ClassId) (q : Nat × je_E) : Nat × va_E := (q.1, match q.2 with
  | .inl x => .inl (cs x.1, x.2)
  | .inr x => .inr x)
def je_ws (cs : Nat → ClassId) (w : je_L) : va_W := w.map (je_e cs)
def je_R (w : je_L) (h : je_H) : Prop := (∀ (k : Nat) (q : Nat × je_E), w[k]? = some q → h q.1 = some q.2) ∧ ∀ (a : Nat) (e : je_E), h a = some e → ∃ k : Nat, w[k]? = some (a, e)
def je_up (h : je_H) (a : Nat) (e : je_E) : je_H := fun b => if b = a then some e else h b
theorem je_up_s (h : je_H) (a : Nat) (e : je_E) : je_up h a e a = some e := by simp [je_up]
theorem je_up_n {h : je_H} {a b : Nat} {e : je_E} (hn : b ≠ a) : je_up h a e b = h b := by simp [je_up, hn]
theorem je_get {cs : Nat → ClassId} {w : je_L} {k : Nat} {q : Nat × je_E} (h : w[k]? = some q) : (je_ws cs w)[k]? = some (je_e cs q) := by rw [je_ws, List.getElem?_map, h]; rfl
theorem je_set {cs : Nat → ClassId} {w : je_L} {k : Nat} (q : Nat × je_E) : (je_ws cs w).set k (je_e cs q) = je_ws cs (w.set k q) := by simp [je_ws, List.map_set]
theorem je_push {cs : Nat → ClassId} {w : je_L} (q : Nat × je_E) : je_ws cs w ++ [je_e cs q] = je_ws cs (w ++ [q]) := by simp [je_ws]
theorem je_R_set {cs : Nat → ClassId} {A : Nat → Prop} {w : je_L} {h : je_H} {k a : Nat} {e : je_E} (e' : je_E) (hR : je_R w h) (hk : w[k]? = some (a, e)) (hD : va_D A (je_ws cs w)) : je_R (w.set k (a, e')) (je_up h a e') := by
  have hl := (List.getElem?_eq_some_iff.mp hk).1
  refine ⟨fun k2 q hq => ?_, fun b e2 hb => ?_⟩
  · by_cases hkk : k2 = k
    · subst hkk
      rw [List.getElem?_set_self hl] at hq
      cases hq
      exact je_up_s _ _ _
    · rw [List.getElem?_set_ne (Ne.symm hkk)] at hq
      have hn : q.1 ≠ a := fun hqa => hkk (hD.1 k2 k _ _ (je_get hq) (je_get hk) hqa)
      rw [je_up_n hn]
      exact hR.1 k2 q hq
  · by_cases hba : b = a
    · subst hba
      rw [je_up_s] at hb
      cases hb
      exact ⟨k, List.getElem?_set_self hl⟩
    · rw [je_up_n hba] at hb
      obtain ⟨k2, h2⟩ := hR.2 b e2 hb
      refine ⟨k2, ?_⟩
      rw [List.getElem?_set_ne]
      · exact h2
      · intro hkk
        subst hkk
        rw [hk] at h2
        cases h2
        exact hba rfl
theorem je_R_push {cs : Nat → ClassId} {A : Nat → Prop} {w : je_L} {h : je_H} {a : Nat} {e : je_E} (hR : je_R w h) (hD : va_D A (je_ws cs (w ++ [(a, e)]))) : h a = none ∧ je_R (w ++ [(a, e)]) (je_up h a e) := by
  have hl : (w ++ [(a, e)])[w.length]? = some (a, e) := by simp
  have hfresh : ∀ (k : Nat) (e0 : je_E), w[k]? = some (a, e0) → False := by
    intro k e0 hk
    have hk2 : (w ++ [(a, e)])[k]? = some (a, e0) := by
      rw [List.getElem?_append_left (List.getElem?_eq_some_iff.mp hk).1]
      exact hk
    have := hD.1 k w.length _ _ (je_get hk2) (je_get hl) rfl
    have h3 := (List.getElem?_eq_some_iff.mp hk).1
    omega
  have hn : h a = none := by
    cases hh : h a with
    | none => rfl
    | some e0 =>
      obtain ⟨k, hk⟩ := hR.2 a e0 hh
      exact (hfresh k e0 hk).elim
  refine ⟨hn, fun k q hq => ?_, fun b e2 hb => ?_⟩
  · by_cases hk : k < w.length
    · rw [List.getElem?_append_left hk] at hq
      have hqa : q.1 ≠ a := fun z => hfresh k q.2 (by rw [← z]; exact hq)
      rw [je_up_n hqa]
      exact hR.1 k q hq
    · rw [List.getElem?_append_right (by omega)] at hq
      have hz : k - w.length < 1 := (List.getElem?_eq_some_iff.mp hq).1
      rw [show k - w.length = 0 by omega] at hq
      cases hq
      exact je_up_s _ _ _
  · by_cases hba : b = a
    · subst hba
      rw [je_up_s] at hb
      cases hb
      exact ⟨w.length, hl⟩
    · rw [je_up_n hba] at hb
      obtain ⟨k, hk⟩ := hR.2 b e2 hb
      exact ⟨k, by rw [List.getElem?_append_left (List.getElem?_eq_some_iff.mp hk).1]; exact hk⟩
def je_tys (cs : Nat → ClassId) : List (ClassId × FieldType) := [(cs 0, .int), (cs 1, .object RX2), (cs 2, .object RX3)]
def je_K (D : va_G) (cs : Nat → ClassId) (U : State) : Prop := va_K D vwCl (je_tys cs) U ∧ (∀ w ∈ je_N, va_Nw w U) ∧ va_AO RX2 U ∧ va_AO RX3 U
theorem je_N_kind : ∀ w ∈ je_N, (∃ a i x b, w = Cond.methodLinkNest a i x b) ∨ ∃ a b, w = Cond.castable a b := by
  intro w hw
  simp only [je_N, List.mem_cons, List.not_mem_nil, or_false] at hw
  rcases hw with rfl | rfl | rfl | rfl | rfl | rfl | rfl | rfl | rfl | rfl | rfl | rfl | rfl <;> first | exact Or.inl ⟨_, _, _, _, rfl⟩ | exact Or.inr ⟨_, _, rfl⟩
theorem je_K.warm {D : va_G} {cs : Nat → ClassId} {s U : State} (hW : s.WarmedH U.vm) (h : je_K D cs s) : je_K D cs U := by
  refine ⟨va_K.moved hW.alike h.1, fun w hw => ?_, va_AO.moved hW.alike h.2.2.1, va_AO.moved hW.alike h.2.2.2⟩
  have h1 := h.2.1 w hw
  rcases je_N_kind w hw with ⟨a, i, x, b, rfl⟩ | ⟨a, b, rfl⟩
  · exact va_Nw.warmM hW h1
  · exact va_Nw.warmC hW h1
theorem je_K.same {D : va_G} {cs : Nat → ClassId} {s U : State} (hv : s.vm = U.vm) (h : je_K D cs s) : je_K D cs U := by
  have ha : s.vm.Alike U.vm := by rw [hv]; exact Vm.Alike.refl _
  refine ⟨va_K.moved ha h.1, fun w hw => ?_, va_AO.moved ha h.2.2.1, va_AO.moved ha h.2.2.2⟩
  have h1 := h.2.1 w hw
  rcases je_N_kind w hw with ⟨a, i, x, b, rfl⟩ | ⟨a, b, rfl⟩
  · exact va_Nw.same rfl hv h1
  · exact va_Nw.same rfl hv h1
/-! locals: by the slot -/
abbrev je_V0 : Type := List (Option Value)
def je_lo (ls : Array Slot) (nL : Nat) (lv : je_V0) : Prop := ls.size = nL ∧ lv_wf ls ∧ ∀ (i : Nat) (v : Value), lv[i]? = some (some v) → ls[i]? = some (.val v)
def je_pf (lv : je_V0) (i : Nat) : Option (Nat × Value) := match lv[i]? with
  | some (some v) => some (i, v)
  | _ => none
def je_pl (lv : je_V0) : List (Nat × Value) := (List.range lv.length).filterMap (je_pf lv)
theorem je_pf_s {lv : je_V0} {i j : Nat} {v : Value} (h : je_pf lv i = some (j, v)) : i = j ∧ lv[i]? = some (some v) := by
  unfold je_pf at h
  split at h
  · rename_i v2 hv
    cases h
    exact ⟨rfl, hv⟩
  · cases h
theorem je_pl_in {lv : je_V0} {i : Nat} {v : Value} (h : lv[i]? = some (some v)) : (i, v) ∈ je_pl lv :=
  List.mem_filterMap.mpr ⟨i, List.mem_range.mpr (List.getElem?_eq_some_iff.mp h).1, by simp [je_pf, h]⟩
theorem je_lo.has {ls : Array Slot} {nL : Nat} {lv : je_V0} (h : je_lo ls nL lv) : lv_has ls nL (je_pl lv) := by
  refine ⟨h.1, h.2.1, fun q hq => ?_⟩
  obtain ⟨i, -, hi⟩ := List.mem_filterMap.mp hq
  obtain ⟨rfl, h2⟩ := je_pf_s (j := q.1) (v := q.2) hi
  exact h.2.2 _ _ h2
/-- the slot ahead holds no long -/
def je_nl (lv : je_V0) (i : Nat) : Bool := match i with
  | 0 => true
  | j + 1 => match lv[j]? with
    | some (some (.long _)) => false
    | some (some (.double _)) => false
    | some (some _) => true
    | _ => true
theorem je_nl_s {lv : je_V0} {i j : Nat} {v : Value} (h : je_nl lv i = true) (hj : j + 1 = i) (hv : lv[j]? = some (some v)) : ¬ v.category = 2 := by
  subst hj
  simp only [je_nl, hv] at h
  cases v <;> simp_all [Value.category]
theorem je_st1 {ls : Array Slot} {nL i : Nat} {lv : je_V0} {v : Value} (hn : je_nl lv i = true) (h : lv_has ls nL ((i, v) :: (je_pl lv).filter (fun q => !(q.1 == i) && !(q.1 + 1 == i && q.2.category == 2)))) : je_lo ls nL (lv.set i (some v)) := by
  refine ⟨h.1, h.2.1, fun j x hx => ?_⟩
  by_cases hj : j = i
  · subst hj
    rw [List.getElem?_set_self' ] at hx
    cases hb : lv[j]? with
    | none => rw [hb] at hx; cases hx
    | some y =>
      rw [hb] at hx
      cases hx
      exact h.2.2 (j, v) List.mem_cons_self
  · rw [List.getElem?_set_ne (Ne.symm hj)] at hx
    refine h.2.2 (j, x) (List.mem_cons_of_mem _ (List.mem_filter.mpr ⟨je_pl_in hx, ?_⟩))
    by_cases h2 : j + 1 = i
    · have := je_nl_s hn h2 hx
      simp [hj, h2, this]
    · simp [hj, h2]
theorem je_st2 {ls : Array Slot} {nL i : Nat} {lv : je_V0} {v : Value} (hn : je_nl lv i = true) (h : lv_has ls nL ((i, v) :: (je_pl lv).filter (fun q => !(q.1 == i) && (!(q.1 == i + 1) && !(q.1 + 1 == i && q.2.category == 2))))) : je_lo ls nL ((lv.set i (some v)).set (i + 1) none) := by
  refine ⟨h.1, h.2.1, fun j x hx => ?_⟩
  by_cases hj1 : j = i + 1
  · subst hj1
    rw [List.getElem?_set_self'] at hx
    cases hb : (lv.set i (some v))[i + 1]? with
    | none => rw [hb] at hx; cases hx
    | some y => rw [hb] at hx; cases hx
  · rw [List.getElem?_set_ne (Ne.symm hj1)] at hx
    by_cases hj : j = i
    · subst hj
      rw [List.getElem?_set_self'] at hx
      cases hb : lv[j]? with
      | none => rw [hb] at hx; cases hx
      | some y =>
        rw [hb] at hx
        cases hx
        exact h.2.2 (j, v) List.mem_cons_self
    · rw [List.getElem?_set_ne (Ne.symm hj)] at hx
      refine h.2.2 (j, x) (List.mem_cons_of_mem _ (List.mem_filter.mpr ⟨je_pl_in hx, ?_⟩))
      by_cases h2 : j + 1 = i
      · have := je_nl_s hn h2 hx
        simp [hj, hj1, h2, this]
      · simp [hj, hj1, h2]
/-- killing a slot's value -/
theorem je_lo.kill {ls : Array Slot} {nL : Nat} {lv : je_V0} (i : Nat) (h : je_lo ls nL lv) : je_lo ls nL (lv.set i none) := by
  refine ⟨h.1, h.2.1, fun j x hx => ?_⟩
  by_cases hj : j = i
  · subst hj
    rw [List.getElem?_set_self'] at hx
    cases hb : lv[j]? with
    | none => rw [hb] at hx; cases hx
    | some y => rw [hb] at hx; cases hx
  · rw [List.getElem?_set_ne (Ne.symm hj)] at hx
    exact h.2.2 j x hx
/-! the judgement -/
abbrev je_C : Type := Program → Launch → Env → Room → State → MethodId → Array Value → List Frame → Method → Code → va_G → (Nat → ClassId) → (Nat → Prop) → (State → Prop) → Prop
def je_Ok (Cx : je_C) (own : String) (cc : ByteArray) (nL d : Nat) : Prop := ∀ p l e R s m args below meth c D cs A Q, Cx p l e R s m args below meth c D cs A Q →
  p.tables.exec = Jvm.exec ∧ c.code = cc ∧ c.maxLocals = nL ∧ s.vm.findClass own = some m.cls ∧ (∀ w ∈ je_T, w.before args s = true) ∧ je_K D cs s ∧ (∀ q : Nat, s.heap.size ≤ q → A q) ∧ d ≤ R.frames ∧ 40 * d ≤ R.locals
def En (Cx : je_C) (nL pc : Nat) (lv : je_V0) (st : List Value) (h : je_H) (bc bs : Nat) : Prop :=
  ∀ p l e R s m args below meth c D cs A Q, Cx p l e R s m args below meth c D cs A Q →
  ∀ (w : je_L) (H : Heap) (locs : List Loc) (cells slots : Nat) (ls : Array Slot), je_R w h → va_P D vwCl (je_ws cs w) H → va_D A (je_ws cs w) → va_S A s.heap H locs → je_lo ls nL lv → cells + bc ≤ R.cells → slots + bs ≤ R.slots →
  W p l e R s m args below meth c H locs cells slots Q (F0 m pc ls st)
section EN
variable {Cx : je_C} {own : String} {cc : ByteArray} {nL d pc bc bs : Nat} {lv : je_V0} {st rest : List Value} {h : je_H}
theorem En.go1 {pc2 : Nat} {st2 : List Value} (hC : je_Ok Cx own cc nL d) (f : ∀ {p : Program} {l : Launch} {e : Env} {R : Room} {s : State} {m : MethodId} {args : Array Value} {below : List Frame} {meth : Method} {c : Code} {H : Heap} {locs : List Loc} {cells slots : Nat} {Q : State → Prop} {ls : Array Slot}, p.tables.exec = Jvm.exec → c.code = cc → je_lo ls nL lv → W p l e R s m args below meth c H locs cells slots Q (F0 m pc2 ls st2) → W p l e R s m args below meth c H locs cells slots Q (F0 m pc ls st))
    (k : En Cx nL pc2 lv st2 h bc bs) : En Cx nL pc lv st h bc bs := by
  intro p l e R s m args below meth c D cs A Q hx w H locs cells slots ls hR hP hD hS hl hc hs
  obtain ⟨hx1, hb, -⟩ := hC _ _ _ _ _ _ _ _ _ _ _ _ _ _ hx
  exact f hx1 hb hl (k _ _ _ _ _ _ _ _ _ _ _ _ _ _ hx _ _ _ _ _ _ hR hP hD hS hl hc hs)
theorem En.br {pc1 pc2 : Nat} {st2 : List Value} {P N : Prop} (hC : je_Ok Cx own cc nL d) (f : ∀ {p : Program} {l : Launch} {e : Env} {R : Room} {s : State} {m : MethodId} {args : Array Value} {below : List Frame} {meth : Method} {c : Code} {H : Heap} {locs : List Loc} {cells slots : Nat} {Q : State → Prop} {ls : Array Slot}, p.tables.exec = Jvm.exec → c.code = cc → (P → W p l e R s m args below meth c H locs cells slots Q (F0 m pc1 ls st2)) → (N → W p l e R s m args below meth c H locs cells slots Q (F0 m pc2 ls st2)) → W p l e R s m args below meth c H locs cells slots Q (F0 m pc ls st))
    (k1 : P → En Cx nL pc1 lv st2 h bc bs) (k2 : N → En Cx nL pc2 lv st2 h bc bs) : En Cx nL pc lv st h bc bs := by
  intro p l e R s m args below meth c D cs A Q hx w H locs cells slots ls hR hP hD hS hl hc hs
  obtain ⟨hx1, hb, -⟩ := hC _ _ _ _ _ _ _ _ _ _ _ _ _ _ hx
  exact f hx1 hb (fun q => k1 q _ _ _ _ _ _ _ _ _ _ _ _ _ _ hx _ _ _ _ _ _ hR hP hD hS hl hc hs) (fun q => k2 q _ _ _ _ _ _ _ _ _ _ _ _ _ _ hx _ _ _ _ _ _ hR hP hD hS hl hc hs)
theorem En.st1 {lv' : je_V0} {pc2 i : Nat} {v : Value} (hC : je_Ok Cx own cc nL d) (hn : je_nl lv i = true) (hlv : lv.set i (some v) = lv')
    (f : ∀ {p : Program} {l : Launch} {e : Env} {R : Room} {s : State} {m : MethodId} {args : Array Value} {below : List Frame} {meth : Method} {c : Code} {H : Heap} {locs : List Loc} {cells slots : Nat} {Q : State → Prop} {ls : Array Slot}, p.tables.exec = Jvm.exec → c.code = cc → lv_has ls nL (je_pl lv) → (∀ ls' : Array Slot, lv_has ls' nL ((i, v) :: (je_pl lv).filter (fun q => !(q.1 == i) && !(q.1 + 1 == i && q.2.category == 2))) → W p l e R s m args below meth c H locs cells slots Q (F0 m pc2 ls' rest)) → W p l e R s m args below meth c H locs cells slots Q (F0 m pc ls st))
    (k : En Cx nL pc2 lv' rest h bc bs) : En Cx nL pc lv st h bc bs := by
  intro p l e R s m args below meth c D cs A Q hx w H locs cells slots ls hR hP hD hS hl hc hs
  obtain ⟨hx1, hb, -⟩ := hC _ _ _ _ _ _ _ _ _ _ _ _ _ _ hx
  subst hlv
  exact f hx1 hb hl.has (fun ls' hl' => k _ _ _ _ _ _ _ _ _ _ _ _ _ _ hx _ _ _ _ _ _ hR hP hD hS (je_st1 hn hl') hc hs)
theorem En.st2 {lv' : je_V0} {pc2 i : Nat} {v : Value} (hC : je_Ok Cx own cc nL d) (hn : je_nl lv i = true) (hlv : (lv.set i (some v)).set (i + 1) none = lv')
    (f : ∀ {p : Program} {l : Launch} {e : Env} {R : Room} {s : State} {m : MethodId} {args : Array Value} {below : List Frame} {meth : Method} {c : Code} {H : Heap} {locs : List Loc} {cells slots : Nat} {Q : State → Prop} {ls : Array Slot}, p.tables.exec = Jvm.exec → c.code = cc → lv_has ls nL (je_pl lv) → (∀ ls' : Array Slot, lv_has ls' nL ((i, v) :: (je_pl lv).filter (fun q => !(q.1 == i) && (!(q.1 == i + 1) && !(q.1 + 1 == i && q.2.category == 2)))) → W p l e R s m args below meth c H locs cells slots Q (F0 m pc2 ls' rest)) → W p l e R s m args below meth c H locs cells slots Q (F0 m pc ls st))
    (k : En Cx nL pc2 lv' rest h bc bs) : En Cx nL pc lv st h bc bs := by
  intro p l e R s m args below meth c D cs A Q hx w H locs cells slots ls hR hP hD hS hl hc hs
  obtain ⟨hx1, hb, -⟩ := hC _ _ _ _ _ _ _ _ _ _ _ _ _ _ hx
  subst hlv
  exact f hx1 hb hl.has (fun ls' hl' => k _ _ _ _ _ _ _ _ _ _ _ _ _ _ hx _ _ _ _ _ _ hR hP hD hS (je_st2 hn hl') hc hs)
/-- a slot is forgotten (ahead of a store behind a dead long; at a join) -/
theorem En.kill {lv' : je_V0} (i : Nat) (hlv : lv.set i none = lv') (k : En Cx nL pc lv' st h bc bs) : En Cx nL pc lv st h bc bs := by
  intro p l e R s m args below meth c D cs A Q hx w H locs cells slots ls hR hP hD hS hl hc hs
  subst hlv
  exact k _ _ _ _ _ _ _ _ _ _ _ _ _ _ hx _ _ _ _ _ _ hR hP hD hS (hl.kill i) hc hs
/-- less room -/
theorem En.less {bc' bs' : Nat} (h1 : bc' ≤ bc) (h2 : bs' ≤ bs) (k : En Cx nL pc lv st h bc' bs') : En Cx nL pc lv st h bc bs := by
  intro p l e R s m args below meth c D cs A Q hx w H locs cells slots ls hR hP hD hS hl hc hs
  exact k _ _ _ _ _ _ _ _ _ _ _ _ _ _ hx _ _ _ _ _ _ hR hP hD hS hl (by omega) (by omega)
theorem En_iconst (hC : je_Ok Cx own cc nL d) {n : Int} {v : Int32} (hd : decode cc pc = .ok (.iconst n, 1)) (hv : Int32.ofInt n = v) (k : En Cx nL (pc + 1) lv (.int v :: st) h bc bs) : En Cx nL pc lv (st) h bc bs :=
  En.go1 hC (fun hx hb hl k => lv_iconst hx hb hd hv k) k
theorem En_bipush (hC : je_Ok Cx own cc nL d) {n : Int} {v : Int32} (hd : decode cc pc = .ok (.bipush n, 2)) (hv : (Int8.ofInt n).toInt32 = v) (k : En Cx nL (pc + 2) lv (.int v :: st) h bc bs) : En Cx nL pc lv (st) h bc bs :=
  En.go1 hC (fun hx hb hl k => lv_bipush hx hb hd hv k) k
theorem En_sipush (hC : je_Ok Cx own cc nL d) {n : Int} {v : Int32} (hd : decode cc pc = .ok (.sipush n, 3)) (hv : (Int16.ofInt n).toInt32 = v) (k : En Cx nL (pc + 3) lv (.int v :: st) h bc bs) : En Cx nL pc lv (st) h bc bs :=
  En.go1 hC (fun hx hb hl k => lv_sipush hx hb hd hv k) k
theorem En_lconst (hC : je_Ok Cx own cc nL d) {n : Fin 2} {v : Int64} (hd : decode cc pc = .ok (.lconst n, 1)) (hv : Int64.ofNat (n : Nat) = v) (k : En Cx nL (pc + 1) lv (.long v :: st) h bc bs) : En Cx nL pc lv (st) h bc bs :=
  En.go1 hC (fun hx hb hl k => lv_lconst hx hb hd hv k) k
theorem En_null (hC : je_Ok Cx own cc nL d) (hd : decode cc pc = .ok (.aconst_null, 1)) (k : En Cx nL (pc + 1) lv (.null :: st) h bc bs) : En Cx nL pc lv (st) h bc bs :=
  En.go1 hC (fun hx hb hl k => lv_null hx hb hd k) k
theorem En_iload_n (hC : je_Ok Cx own cc nL d) {n : Fin 4} {x : Int32} (hd : decode cc pc = .ok (.iload_n n, 1)) (hv : lv[(n : Nat)]? = some (some (.int x))) (k : En Cx nL (pc + 1) lv (.int x :: st) h bc bs) : En Cx nL pc lv (st) h bc bs :=
  En.go1 hC (fun hx hb hl k => lv_iload_n hx hb hd rfl (hl.2.2 _ _ hv) k) k
theorem En_iload (hC : je_Ok Cx own cc nL d) {i : Nat} {x : Int32} (hd : decode cc pc = .ok (.iload i, 2)) (hv : lv[i]? = some (some (.int x))) (k : En Cx nL (pc + 2) lv (.int x :: st) h bc bs) : En Cx nL pc lv (st) h bc bs :=
  En.go1 hC (fun hx hb hl k => lv_iload hx hb hd (hl.2.2 _ _ hv) k) k
theorem En_lload_n (hC : je_Ok Cx own cc nL d) {n : Fin 4} {x : Int64} (hd : decode cc pc = .ok (.lload_n n, 1)) (hv : lv[(n : Nat)]? = some (some (.long x))) (k : En Cx nL (pc + 1) lv (.long x :: st) h bc bs) : En Cx nL pc lv (st) h bc bs :=
  En.go1 hC (fun hx hb hl k => lv_lload_n hx hb hd rfl (hl.2.2 _ _ hv) k) k
theorem En_lload (hC : je_Ok Cx own cc nL d) {i : Nat} {x : Int64} (hd : decode cc pc = .ok (.lload i, 2)) (hv : lv[i]? = some (some (.long x))) (k : En Cx nL (pc + 2) lv (.long x :: st) h bc bs) : En Cx nL pc lv (st) h bc bs :=
  En.go1 hC (fun hx hb hl k => lv_lload hx hb hd (hl.2.2 _ _ hv) k) k
theorem En_aload_n (hC : je_Ok Cx own cc nL d) {n : Fin 4} {x : Nat} (hd : decode cc pc = .ok (.aload_n n, 1)) (hv : lv[(n : Nat)]? = some (some (.ref x))) (k : En Cx nL (pc + 1) lv (.ref x :: st) h bc bs) : En Cx nL pc lv (st) h bc bs :=
  En.go1 hC (fun hx hb hl k => lv_aload_n hx hb hd rfl (hl.2.2 _ _ hv) k) k
theorem En_aload (hC : je_Ok Cx own cc nL d) {i : Nat} {x : Nat} (hd : decode cc pc = .ok (.aload i, 2)) (hv : lv[i]? = some (some (.ref x))) (k : En Cx nL (pc + 2) lv (.ref x :: st) h bc bs) : En Cx nL pc lv (st) h bc bs :=
  En.go1 hC (fun hx hb hl k => lv_aload hx hb hd (hl.2.2 _ _ hv) k) k
theorem En_aload_nN (hC : je_Ok Cx own cc nL d) {n : Fin 4} (hd : decode cc pc = .ok (.aload_n n, 1)) (hv : lv[(n : Nat)]? = some (some .null)) (k : En Cx nL (pc + 1) lv (.null :: st) h bc bs) : En Cx nL pc lv (st) h bc bs :=
  En.go1 hC (fun hx hb hl k => lv_aload_nN hx hb hd rfl (hl.2.2 _ _ hv) k) k
theorem En_aloadN (hC : je_Ok Cx own cc nL d) {i : Nat} (hd : decode cc pc = .ok (.aload i, 2)) (hv : lv[i]? = some (some .null)) (k : En Cx nL (pc + 2) lv (.null :: st) h bc bs) : En Cx nL pc lv (st) h bc bs :=
  En.go1 hC (fun hx hb hl k => lv_aloadN hx hb hd (hl.2.2 _ _ hv) k) k
theorem En_iadd (hC : je_Ok Cx own cc nL d) {x y : Int32} (hd : decode cc pc = .ok (.iadd, 1)) (k : En Cx nL (pc + 1) lv (.int (x + y) :: st) h bc bs) : En Cx nL pc lv (.int y :: .int x :: st) h bc bs :=
  En.go1 hC (fun hx hb hl k => lv_iadd hx hb hd k) k
theorem En_isub (hC : je_Ok Cx own cc nL d) {x y : Int32} (hd : decode cc pc = .ok (.isub, 1)) (k : En Cx nL (pc + 1) lv (.int (x - y) :: st) h bc bs) : En Cx nL pc lv (.int y :: .int x :: st) h bc bs :=
  En.go1 hC (fun hx hb hl k => lv_isub hx hb hd k) k
theorem En_imul (hC : je_Ok Cx own cc nL d) {x y : Int32} (hd : decode cc pc = .ok (.imul, 1)) (k : En Cx nL (pc + 1) lv (.int (x * y) :: st) h bc bs) : En Cx nL pc lv (.int y :: .int x :: st) h bc bs :=
  En.go1 hC (fun hx hb hl k => lv_imul hx hb hd k) k
theorem En_iand (hC : je_Ok Cx own cc nL d) {x y : Int32} (hd : decode cc pc = .ok (.iand, 1)) (k : En Cx nL (pc + 1) lv (.int (x &&& y) :: st) h bc bs) : En Cx nL pc lv (.int y :: .int x :: st) h bc bs :=
  En.go1 hC (fun hx hb hl k => lv_iand hx hb hd k) k
theorem En_ior (hC : je_Ok Cx own cc nL d) {x y : Int32} (hd : decode cc pc = .ok (.ior, 1)) (k : En Cx nL (pc + 1) lv (.int (x ||| y) :: st) h bc bs) : En Cx nL pc lv (.int y :: .int x :: st) h bc bs :=
  En.go1 hC (fun hx hb hl k => lv_ior hx hb hd k) k
theorem En_ishl (hC : je_Ok Cx own cc nL d) {x y : Int32} (hd : decode cc pc = .ok (.ishl, 1)) (k : En Cx nL (pc + 1) lv (.int (x <<< (y &&& 31)) :: st) h bc bs) : En Cx nL pc lv (.int y :: .int x :: st) h bc bs :=
  En.go1 hC (fun hx hb hl k => lv_ishl hx hb hd k) k
theorem En_ishr (hC : je_Ok Cx own cc nL d) {x y : Int32} (hd : decode cc pc = .ok (.ishr, 1)) (k : En Cx nL (pc + 1) lv (.int (x >>> (y &&& 31)) :: st) h bc bs) : En Cx nL pc lv (.int y :: .int x :: st) h bc bs :=
  En.go1 hC (fun hx hb hl k => lv_ishr hx hb hd k) k
theorem En_idiv (hC : je_Ok Cx own cc nL d) {x y : Int32} (hd : decode cc pc = .ok (.idiv, 1)) (hne : ¬ y = 0) (k : En Cx nL (pc + 1) lv (.int (x / y) :: st) h bc bs) : En Cx nL pc lv (.int y :: .int x :: st) h bc bs :=
  En.go1 hC (fun hx hb hl k => lv_idiv hx hb hd hne k) k
theorem En_ineg (hC : je_Ok Cx own cc nL d) {x : Int32} (hd : decode cc pc = .ok (.ineg, 1)) (k : En Cx nL (pc + 1) lv (.int (-x) :: st) h bc bs) : En Cx nL pc lv (.int x :: st) h bc bs :=
  En.go1 hC (fun hx hb hl k => lv_ineg hx hb hd k) k
theorem En_ladd (hC : je_Ok Cx own cc nL d) {x y : Int64} (hd : decode cc pc = .ok (.ladd, 1)) (k : En Cx nL (pc + 1) lv (.long (x + y) :: st) h bc bs) : En Cx nL pc lv (.long y :: .long x :: st) h bc bs :=
  En.go1 hC (fun hx hb hl k => lv_ladd hx hb hd k) k
theorem En_lsub (hC : je_Ok Cx own cc nL d) {x y : Int64} (hd : decode cc pc = .ok (.lsub, 1)) (k : En Cx nL (pc + 1) lv (.long (x - y) :: st) h bc bs) : En Cx nL pc lv (.long y :: .long x :: st) h bc bs :=
  En.go1 hC (fun hx hb hl k => lv_lsub hx hb hd k) k
theorem En_lmul (hC : je_Ok Cx own cc nL d) {x y : Int64} (hd : decode cc pc = .ok (.lmul, 1)) (k : En Cx nL (pc + 1) lv (.long (x * y) :: st) h bc bs) : En Cx nL pc lv (.long y :: .long x :: st) h bc bs :=
  En.go1 hC (fun hx hb hl k => lv_lmul hx hb hd k) k
theorem En_lxor (hC : je_Ok Cx own cc nL d) {x y : Int64} (hd : decode cc pc = .ok (.lxor, 1)) (k : En Cx nL (pc + 1) lv (.long (x ^^^ y) :: st) h bc bs) : En Cx nL pc lv (.long y :: .long x :: st) h bc bs :=
  En.go1 hC (fun hx hb hl k => lv_lxor hx hb hd k) k
theorem En_ldiv (hC : je_Ok Cx own cc nL d) {x y : Int64} (hd : decode cc pc = .ok (.ldiv, 1)) (hne : ¬ y = 0) (k : En Cx nL (pc + 1) lv (.long (x / y) :: st) h bc bs) : En Cx nL pc lv (.long y :: .long x :: st) h bc bs :=
  En.go1 hC (fun hx hb hl k => lv_ldiv hx hb hd hne k) k
theorem En_lrem (hC : je_Ok Cx own cc nL d) {x y : Int64} (hd : decode cc pc = .ok (.lrem, 1)) (hne : ¬ y = 0) (k : En Cx nL (pc + 1) lv (.long (x - x / y * y) :: st) h bc bs) : En Cx nL pc lv (.long y :: .long x :: st) h bc bs :=
  En.go1 hC (fun hx hb hl k => lv_lrem hx hb hd hne k) k
theorem En_lcmp (hC : je_Ok Cx own cc nL d) {x y : Int64} (hd : decode cc pc = .ok (.lcmp, 1)) (k : En Cx nL (pc + 1) lv (.int (lg_cmp x y) :: st) h bc bs) : En Cx nL pc lv (.long y :: .long x :: st) h bc bs :=
  En.go1 hC (fun hx hb hl k => W.lcmp hx hb hd k) k
theorem En_i2l (hC : je_Ok Cx own cc nL d) {x : Int32} (hd : decode cc pc = .ok (.i2l, 1)) (k : En Cx nL (pc + 1) lv (.long x.toInt64 :: st) h bc bs) : En Cx nL pc lv (.int x :: st) h bc bs :=
  En.go1 hC (fun hx hb hl k => lv_i2l hx hb hd rfl k) k
theorem En_l2i (hC : je_Ok Cx own cc nL d) {x : Int64} (hd : decode cc pc = .ok (.l2i, 1)) (k : En Cx nL (pc + 1) lv (.int x.toInt32 :: st) h bc bs) : En Cx nL pc lv (.long x :: st) h bc bs :=
  En.go1 hC (fun hx hb hl k => lv_l2i hx hb hd rfl k) k
theorem En_dup (hC : je_Ok Cx own cc nL d) {v : Value} (hd : decode cc pc = .ok (.dup, 1)) (hv : v.category = 1) (k : En Cx nL (pc + 1) lv (v :: v :: st) h bc bs) : En Cx nL pc lv (v :: st) h bc bs :=
  En.go1 hC (fun hx hb hl k => lv_dup hx hb hd hv k) k
theorem En_dup2 (hC : je_Ok Cx own cc nL d) {v u : Value} (hd : decode cc pc = .ok (.dup2, 1)) (hv : v.category = 1) (hu : u.category = 1) (k : En Cx nL (pc + 1) lv (v :: u :: v :: u :: st) h bc bs) : En Cx nL pc lv (v :: u :: st) h bc bs :=
  En.go1 hC (fun hx hb hl k => lv_dup2_11 hx hb hd hv hu k) k
theorem En_istore_n {lv' : je_V0} (hC : je_Ok Cx own cc nL d) {n : Fin 4} {x : Int32} (hd : decode cc pc = .ok (.istore_n n, 1)) (hi : (n : Nat) < nL) (hn : je_nl lv (n : Nat) = true) (hlv : lv.set (n : Nat) (some (.int x)) = lv') (k : En Cx nL (pc + 1) lv' st h bc bs) : En Cx nL pc lv (.int x :: st) h bc bs :=
  En.st1 hC hn hlv (fun hx hb h k => lv_istore_n hx hb hd rfl h hi rfl k) k
theorem En_istore {lv' : je_V0} (hC : je_Ok Cx own cc nL d) {i : Nat} {x : Int32} (hd : decode cc pc = .ok (.istore i, 2)) (hi : i < nL) (hn : je_nl lv i = true) (hlv : lv.set i (some (.int x)) = lv') (k : En Cx nL (pc + 2) lv' st h bc bs) : En Cx nL pc lv (.int x :: st) h bc bs :=
  En.st1 hC hn hlv (fun hx hb h k => lv_istore hx hb hd h hi rfl k) k
theorem En_lstore_n {lv' : je_V0} (hC : je_Ok Cx own cc nL d) {n : Fin 4} {x : Int64} (hd : decode cc pc = .ok (.lstore_n n, 1)) (hi : (n : Nat) + 1 < nL) (hn : je_nl lv (n : Nat) = true) (hlv : (lv.set (n : Nat) (some (.long x))).set ((n : Nat) + 1) none = lv') (k : En Cx nL (pc + 1) lv' st h bc bs) : En Cx nL pc lv (.long x :: st) h bc bs :=
  En.st2 hC hn hlv (fun hx hb h k => lv_lstore_n hx hb hd rfl h hi rfl k) k
theorem En_lstore {lv' : je_V0} (hC : je_Ok Cx own cc nL d) {i : Nat} {x : Int64} (hd : decode cc pc = .ok (.lstore i, 2)) (hi : i + 1 < nL) (hn : je_nl lv i = true) (hlv : (lv.set i (some (.long x))).set (i + 1) none = lv') (k : En Cx nL (pc + 2) lv' st h bc bs) : En Cx nL pc lv (.long x :: st) h bc bs :=
  En.st2 hC hn hlv (fun hx hb h k => lv_lstore hx hb hd h hi rfl k) k
theorem En_astore_n {lv' : je_V0} (hC : je_Ok Cx own cc nL d) {n : Fin 4} {x : Nat} (hd : decode cc pc = .ok (.astore_n n, 1)) (hi : (n : Nat) < nL) (hn : je_nl lv (n : Nat) = true) (hlv : lv.set (n : Nat) (some (.ref x)) = lv') (k : En Cx nL (pc + 1) lv' st h bc bs) : En Cx nL pc lv (.ref x :: st) h bc bs :=
  En.st1 hC hn hlv (fun hx hb h k => lv_astore_n hx hb hd rfl h hi rfl k) k
theorem En_astore {lv' : je_V0} (hC : je_Ok Cx own cc nL d) {i : Nat} {x : Nat} (hd : decode cc pc = .ok (.astore i, 2)) (hi : i < nL) (hn : je_nl lv i = true) (hlv : lv.set i (some (.ref x)) = lv') (k : En Cx nL (pc + 2) lv' st h bc bs) : En Cx nL pc lv (.ref x :: st) h bc bs :=
  En.st1 hC hn hlv (fun hx hb h k => lv_astore hx hb hd h hi rfl k) k
theorem En_astore_nN {lv' : je_V0} (hC : je_Ok Cx own cc nL d) {n : Fin 4} (hd : decode cc pc = .ok (.astore_n n, 1)) (hi : (n : Nat) < nL) (hn : je_nl lv (n : Nat) = true) (hlv : lv.set (n : Nat) (some (.null)) = lv') (k : En Cx nL (pc + 1) lv' st h bc bs) : En Cx nL pc lv (.null :: st) h bc bs :=
  En.st1 hC hn hlv (fun hx hb h k => lv_astore_nN hx hb hd rfl h hi rfl k) k
theorem En_astoreN {lv' : je_V0} (hC : je_Ok Cx own cc nL d) {i : Nat} (hd : decode cc pc = .ok (.astore i, 2)) (hi : i < nL) (hn : je_nl lv i = true) (hlv : lv.set i (some (.null)) = lv') (k : En Cx nL (pc + 2) lv' st h bc bs) : En Cx nL pc lv (.null :: st) h bc bs :=
  En.st1 hC hn hlv (fun hx hb h k => lv_astoreN hx hb hd h hi rfl k) k
theorem En_iinc {lv' : je_V0} (hC : je_Ok Cx own cc nL d) {i : Nat} {n : Int} {x v : Int32} (hd : decode cc pc = .ok (.iinc i n, 3)) (hi : i < nL) (hv : lv[i]? = some (some (.int x))) (hx2 : x + Int32.ofInt n = v) (hn : je_nl lv i = true) (hlv : lv.set i (some (.int v)) = lv') (k : En Cx nL (pc + 3) lv' st h bc bs) : En Cx nL pc lv st h bc bs :=
  En.st1 hC hn hlv (fun hx hb h k => by
    obtain ⟨k0, hk0⟩ := List.getElem?_of_mem (je_pl_in hv)
    exact lv_iinc hx hb hd h hk0 hx2 hi rfl k) k
theorem En_if_eq (hC : je_Ok Cx own cc nL d) {x : Int32} {off : Int} (tgt : Nat) (hd : decode cc pc = .ok (.ifCond .eq off, 3)) (ht : (pc : Int) + off = (tgt : Int)) (k1 : x = 0 → En Cx nL tgt lv st h bc bs) (k2 : ¬ x = 0 → En Cx nL (pc + 3) lv st h bc bs) : En Cx nL pc lv (.int x :: st) h bc bs :=
  En.br hC (fun hx hb k1 k2 => lv_if_eq hx hb hd ht k1 k2) k1 k2
theorem En_icmp_eq (hC : je_Ok Cx own cc nL d) {x y : Int32} {off : Int} (tgt : Nat) (hd : decode cc pc = .ok (.if_icmp .eq off, 3)) (ht : (pc : Int) + off = (tgt : Int)) (k1 : x = y → En Cx nL tgt lv st h bc bs) (k2 : ¬ x = y → En Cx nL (pc + 3) lv st h bc bs) : En Cx nL pc lv (.int y :: .int x :: st) h bc bs :=
  En.br hC (fun hx hb k1 k2 => lv_icmp_eq hx hb hd ht k1 k2) k1 k2
theorem En_if_ne (hC : je_Ok Cx own cc nL d) {x : Int32} {off : Int} (tgt : Nat) (hd : decode cc pc = .ok (.ifCond .ne off, 3)) (ht : (pc : Int) + off = (tgt : Int)) (k1 : ¬ x = 0 → En Cx nL tgt lv st h bc bs) (k2 : x = 0 → En Cx nL (pc + 3) lv st h bc bs) : En Cx nL pc lv (.int x :: st) h bc bs :=
  En.br hC (fun hx hb k1 k2 => lv_if_ne hx hb hd ht k1 k2) k1 k2
theorem En_icmp_ne (hC : je_Ok Cx own cc nL d) {x y : Int32} {off : Int} (tgt : Nat) (hd : decode cc pc = .ok (.if_icmp .ne off, 3)) (ht : (pc : Int) + off = (tgt : Int)) (k1 : ¬ x = y → En Cx nL tgt lv st h bc bs) (k2 : x = y → En Cx nL (pc + 3) lv st h bc bs) : En Cx nL pc lv (.int y :: .int x :: st) h bc bs :=
  En.br hC (fun hx hb k1 k2 => lv_icmp_ne hx hb hd ht k1 k2) k1 k2
theorem En_if_lt (hC : je_Ok Cx own cc nL d) {x : Int32} {off : Int} (tgt : Nat) (hd : decode cc pc = .ok (.ifCond .lt off, 3)) (ht : (pc : Int) + off = (tgt : Int)) (k1 : x < 0 → En Cx nL tgt lv st h bc bs) (k2 : ¬ x < 0 → En Cx nL (pc + 3) lv st h bc bs) : En Cx nL pc lv (.int x :: st) h bc bs :=
  En.br hC (fun hx hb k1 k2 => lv_if_lt hx hb hd ht k1 k2) k1 k2
theorem En_icmp_lt (hC : je_Ok Cx own cc nL d) {x y : Int32} {off : Int} (tgt : Nat) (hd : decode cc pc = .ok (.if_icmp .lt off, 3)) (ht : (pc : Int) + off = (tgt : Int)) (k1 : x < y → En Cx nL tgt lv st h bc bs) (k2 : ¬ x < y → En Cx nL (pc + 3) lv st h bc bs) : En Cx nL pc lv (.int y :: .int x :: st) h bc bs :=
  En.br hC (fun hx hb k1 k2 => lv_icmp_lt hx hb hd ht k1 k2) k1 k2
theorem En_if_ge (hC : je_Ok Cx own cc nL d) {x : Int32} {off : Int} (tgt : Nat) (hd : decode cc pc = .ok (.ifCond .ge off, 3)) (ht : (pc : Int) + off = (tgt : Int)) (k1 : 0 ≤ x → En Cx nL tgt lv st h bc bs) (k2 : ¬ 0 ≤ x → En Cx nL (pc + 3) lv st h bc bs) : En Cx nL pc lv (.int x :: st) h bc bs :=
  En.br hC (fun hx hb k1 k2 => lv_if_ge hx hb hd ht k1 k2) k1 k2
theorem En_icmp_ge (hC : je_Ok Cx own cc nL d) {x y : Int32} {off : Int} (tgt : Nat) (hd : decode cc pc = .ok (.if_icmp .ge off, 3)) (ht : (pc : Int) + off = (tgt : Int)) (k1 : y ≤ x → En Cx nL tgt lv st h bc bs) (k2 : ¬ y ≤ x → En Cx nL (pc + 3) lv st h bc bs) : En Cx nL pc lv (.int y :: .int x :: st) h bc bs :=
  En.br hC (fun hx hb k1 k2 => lv_icmp_ge hx hb hd ht k1 k2) k1 k2
theorem En_if_gt (hC : je_Ok Cx own cc nL d) {x : Int32} {off : Int} (tgt : Nat) (hd : decode cc pc = .ok (.ifCond .gt off, 3)) (ht : (pc : Int) + off = (tgt : Int)) (k1 : 0 < x → En Cx nL tgt lv st h bc bs) (k2 : ¬ 0 < x → En Cx nL (pc + 3) lv st h bc bs) : En Cx nL pc lv (.int x :: st) h bc bs :=
  En.br hC (fun hx hb k1 k2 => lv_if_gt hx hb hd ht k1 k2) k1 k2
theorem En_icmp_gt (hC : je_Ok Cx own cc nL d) {x y : Int32} {off : Int} (tgt : Nat) (hd : decode cc pc = .ok (.if_icmp .gt off, 3)) (ht : (pc : Int) + off = (tgt : Int)) (k1 : y < x → En Cx nL tgt lv st h bc bs) (k2 : ¬ y < x → En Cx nL (pc + 3) lv st h bc bs) : En Cx nL pc lv (.int y :: .int x :: st) h bc bs :=
  En.br hC (fun hx hb k1 k2 => lv_icmp_gt hx hb hd ht k1 k2) k1 k2
theorem En_if_le (hC : je_Ok Cx own cc nL d) {x : Int32} {off : Int} (tgt : Nat) (hd : decode cc pc = .ok (.ifCond .le off, 3)) (ht : (pc : Int) + off = (tgt : Int)) (k1 : x ≤ 0 → En Cx nL tgt lv st h bc bs) (k2 : ¬ x ≤ 0 → En Cx nL (pc + 3) lv st h bc bs) : En Cx nL pc lv (.int x :: st) h bc bs :=
  En.br hC (fun hx hb k1 k2 => lv_if_le hx hb hd ht k1 k2) k1 k2
theorem En_icmp_le (hC : je_Ok Cx own cc nL d) {x y : Int32} {off : Int} (tgt : Nat) (hd : decode cc pc = .ok (.if_icmp .le off, 3)) (ht : (pc : Int) + off = (tgt : Int)) (k1 : x ≤ y → En Cx nL tgt lv st h bc bs) (k2 : ¬ x ≤ y → En Cx nL (pc + 3) lv st h bc bs) : En Cx nL pc lv (.int y :: .int x :: st) h bc bs :=
  En.br hC (fun hx hb k1 k2 => lv_icmp_le hx hb hd ht k1 k2) k1 k2
theorem En_acmp_eq (hC : je_Ok Cx own cc nL d) {rx ry : Option Nat} {off : Int} (tgt : Nat) (hd : decode cc pc = .ok (.if_acmp .eq off, 3)) (ht : (pc : Int) + off = (tgt : Int)) (k1 : rx = ry → En Cx nL tgt lv st h bc bs) (k2 : ¬ rx = ry → En Cx nL (pc + 3) lv st h bc bs) : En Cx nL pc lv (va_rf ry :: va_rf rx :: st) h bc bs :=
  En.br hC (fun hx hb k1 k2 => lv_acmp_eq hx hb hd ht k1 k2) k1 k2
theorem En_acmp_ne (hC : je_Ok Cx own cc nL d) {rx ry : Option Nat} {off : Int} (tgt : Nat) (hd : decode cc pc = .ok (.if_acmp .ne off, 3)) (ht : (pc : Int) + off = (tgt : Int)) (k1 : ¬ rx = ry → En Cx nL tgt lv st h bc bs) (k2 : rx = ry → En Cx nL (pc + 3) lv st h bc bs) : En Cx nL pc lv (va_rf ry :: va_rf rx :: st) h bc bs :=
  En.br hC (fun hx hb k1 k2 => lv_acmp_ne hx hb hd ht k1 k2) k1 k2
theorem En_ifnull (hC : je_Ok Cx own cc nL d) {x : Nat} {off : Int} (hd : decode cc pc = .ok (.ifnull off, 3)) (k : En Cx nL (pc + 3) lv st h bc bs) : En Cx nL pc lv (.ref x :: st) h bc bs :=
  En.go1 hC (fun hx hb hl k => lv_ifnull hx hb hd k) k
theorem En_ifnullN (hC : je_Ok Cx own cc nL d) {off : Int} (tgt : Nat) (hd : decode cc pc = .ok (.ifnull off, 3)) (ht : (pc : Int) + off = (tgt : Int)) (k : En Cx nL tgt lv st h bc bs) : En Cx nL pc lv (.null :: st) h bc bs :=
  En.go1 hC (fun hx hb hl k => lv_ifnullN hx hb hd ht k) k
theorem En_ifnonnull (hC : je_Ok Cx own cc nL d) {x : Nat} {off : Int} (tgt : Nat) (hd : decode cc pc = .ok (.ifnonnull off, 3)) (ht : (pc : Int) + off = (tgt : Int)) (k : En Cx nL tgt lv st h bc bs) : En Cx nL pc lv (.ref x :: st) h bc bs :=
  En.go1 hC (fun hx hb hl k => lv_ifnonnull hx hb hd ht k) k
theorem En_ifnonnullN (hC : je_Ok Cx own cc nL d) {off : Int} (hd : decode cc pc = .ok (.ifnonnull off, 3)) (k : En Cx nL (pc + 3) lv st h bc bs) : En Cx nL pc lv (.null :: st) h bc bs :=
  En.go1 hC (fun hx hb hl k => lv_ifnonnullN hx hb hd k) k
theorem En_goto (hC : je_Ok Cx own cc nL d) {off : Int} (tgt : Nat) (hd : decode cc pc = .ok (.goto off, 3)) (ht : (pc : Int) + off = (tgt : Int)) (k : En Cx nL tgt lv st h bc bs) : En Cx nL pc lv st h bc bs :=
  En.go1 hC (fun hx hb hl k => lv_goto hx hb hd ht k) k
theorem En_lookup (hC : je_Ok Cx own cc nL d) {dflt : Int} {ps : Array (Int × Int)} {len : Nat} {x : Int32} {off : Int} (tgt : Nat) (hd : decode cc pc = .ok (.lookupswitch dflt ps, len)) (hp : (ps.toList.zip (ps.toList.drop 1)).all (fun (a, next) => a.1 < next.1) = true) (ho : Op.lookupswitch.offset ps.toList dflt x.toInt = off) (ht : (pc : Int) + off = (tgt : Int)) (k : En Cx nL tgt lv st h bc bs) : En Cx nL pc lv (.int x :: st) h bc bs :=
  En.go1 hC (fun hx hb hl k => lv_lookup hx hb hd hp ho ht k) k
theorem En_tableOut (hC : je_Ok Cx own cc nL d) {dflt lo hi : Int} {offs : Array Int} {len : Nat} {x : Int32} (tgt : Nat) (hd : decode cc pc = .ok (.tableswitch dflt lo hi offs, len)) (hq : x.toInt < lo ∨ hi < x.toInt) (ht : (pc : Int) + dflt = (tgt : Int)) (k : En Cx nL tgt lv st h bc bs) : En Cx nL pc lv (.int x :: st) h bc bs :=
  En.go1 hC (fun hx hb hl k => lv_tableOut hx hb hd hq ht k) k
theorem En_tableIn (hC : je_Ok Cx own cc nL d) {dflt lo hi : Int} {offs : Array Int} {len : Nat} {x : Int32} {off : Int} (tgt : Nat) (hd : decode cc pc = .ok (.tableswitch dflt lo hi offs, len)) (h1 : ¬ x.toInt < lo) (h2 : ¬ hi < x.toInt) (ho : offs[(x.toInt - lo).toNat]? = some off) (ht : (pc : Int) + off = (tgt : Int)) (k : En Cx nL tgt lv st h bc bs) : En Cx nL pc lv (.int x :: st) h bc bs :=
  En.go1 hC (fun hx hb hl k => lv_tableIn hx hb hd h1 h2 ho ht k) k
theorem En_ldc (hC : je_Ok Cx own cc nL d) {idx : Nat} {v : Int32} (hc0 : Cond.constant own idx v ∈ je_T) (hd : decode cc pc = .ok (.ldc idx, 2)) (k : En Cx nL (pc + 2) lv (.int v :: st) h bc bs) : En Cx nL pc lv st h bc bs := by
  intro p l e R s m args below meth c D cs A Q hx w H locs cells slots ls hR hP hD hS hl hc hs
  obtain ⟨hx1, hb, -, ho, ht, -⟩ := hC _ _ _ _ _ _ _ _ _ _ _ _ _ _ hx
  exact lv_ldc hx1 hb ho (ht _ hc0) hd (k _ _ _ _ _ _ _ _ _ _ _ _ _ _ hx _ _ _ _ _ _ hR hP hD hS hl hc hs)
theorem En_ldc2 (hC : je_Ok Cx own cc nL d) {idx : Nat} {v : Int64} (hc0 : Cond.constantLong own idx v ∈ je_T) (hd : decode cc pc = .ok (.ldc2_w idx, 3)) (k : En Cx nL (pc + 3) lv (.long v :: st) h bc bs) : En Cx nL pc lv st h bc bs := by
  intro p l e R s m args below meth c D cs A Q hx w H locs cells slots ls hR hP hD hS hl hc hs
  obtain ⟨hx1, hb, -, ho, ht, -⟩ := hC _ _ _ _ _ _ _ _ _ _ _ _ _ _ hx
  exact lv_ldc2 hx1 hb ho (ht _ hc0) hd (k _ _ _ _ _ _ _ _ _ _ _ _ _ _ hx _ _ _ _ _ _ hR hP hD hS hl hc hs)
theorem En_get (hC : je_Ok Cx own cc nL d) {C : String} {T : u_T} {N ci idx a : Nat} {fs : List Value} {v : Value} (k : Nat) (hin : ∀ w ∈ u_ws C T N, w ∈ je_T) (hcl : vwCl[ci]? = some (C, T, N)) (hlk : Cond.fieldLink own idx (T k).1 (T k).2.1 (T k).2.2.1 ∈ je_T) (hkN : k < N) (hd : decode cc pc = .ok (.getfield idx, 3)) (ha : h a = some (.inr (ci, fs))) (hv : fs[k]? = some v)
    (kk : En Cx nL (pc + 3) lv (v :: st) h bc bs) : En Cx nL pc lv (.ref a :: st) h bc bs := by
  intro p l e R s m args below meth c D cs A Q hx w H locs cells slots ls hR hP hD hS hl hc hs
  obtain ⟨hx1, hb, -, ho, ht, hK, -⟩ := hC _ _ _ _ _ _ _ _ _ _ _ _ _ _ hx
  obtain ⟨q0, hq0⟩ := hR.2 a _ ha
  exact va_get hx1 hb ht hin ho hK.1 hP q0 (je_get hq0) hcl k hkN (ht _ hlk) (fun _ z => z) hv hd (kk _ _ _ _ _ _ _ _ _ _ _ _ _ _ hx _ _ _ _ _ _ hR hP hD hS hl hc hs)
theorem En_put (hC : je_Ok Cx own cc nL d) {C : String} {T : u_T} {N ci idx a : Nat} {fs : List Value} {v : Value} {ty : FieldType} (k : Nat) (ty0 : Nat → FieldType) (hty : ∀ k, k < N → parseFieldDescriptor (T k).2.2.1 = some (ty0 k)) (hnm : ∀ a, a < N → ∀ b, b < N → a ≠ b → (T a).2.1 ≠ (T b).2.1) (hin : ∀ w ∈ u_ws C T N, w ∈ je_T) (hcl : vwCl[ci]? = some (C, T, N)) (hlk : Cond.fieldLink own idx (T k).1 (T k).2.1 (T k).2.2.1 ∈ je_T) (hkN : k < N) (hfin : (T k).2.2.2 = false) (hd : decode cc pc = .ok (.putfield idx, 3)) (ha : h a = some (.inr (ci, fs))) (hde : parseFieldDescriptor (T k).2.2.1 = some ty) (hn : narrow ty v = v) (hfit : fits ty v = true) (hle : k < fs.length)
    (kk : En Cx nL (pc + 3) lv st (je_up h a (.inr (ci, fs.set k v))) bc bs) : En Cx nL pc lv (v :: .ref a :: st) h bc bs := by
  intro p l e R s m args below meth c D cs A Q hx w H locs cells slots ls hR hP hD hS hl hc hs
  obtain ⟨hx1, hb, -, ho, ht, hK, -⟩ := hC _ _ _ _ _ _ _ _ _ _ _ _ _ _ hx
  obtain ⟨q0, hq0⟩ := hR.2 a _ ha
  refine va_put hx1 hb ht hin ty0 hty hnm ho hK.1 hP hD hS q0 (je_get hq0) hcl k hkN (ht _ hlk) (fun _ z => z) hfin hde hn hfit hle hd (fun H1 locs1 hP1 hD1 hS1 => ?_)
  have e0 := je_set (cs := cs) (w := w) (k := q0) (a, .inr (ci, fs.set k v))
  have hP1 : va_P D vwCl (je_ws cs (w.set q0 (a, .inr (ci, fs.set k v)))) H1 := by rw [← e0]; exact hP1
  have hD1 : va_D A (je_ws cs (w.set q0 (a, .inr (ci, fs.set k v)))) := by rw [← e0]; exact hD1
  exact kk _ _ _ _ _ _ _ _ _ _ _ _ _ _ hx _ _ _ _ _ _ (je_R_set _ hR hq0 hD) hP1 hD1 hS1 hl hc hs
theorem En_iald (hC : je_Ok Cx own cc nL d) {a n : Nat} {f : Nat → Int32} {i : Int32} (hd : decode cc pc = .ok (.iaload, 1)) (ha : h a = some (.inl (0, n, .inl f))) (hin : vp_in i n) (kk : En Cx nL (pc + 1) lv (.int (f i.toNatClampNeg) :: st) h bc bs) : En Cx nL pc lv (.int i :: .ref a :: st) h bc bs := by
  intro p l e R s m args below meth c D cs A Q hx w H locs cells slots ls hR hP hD hS hl hc hs
  obtain ⟨hx1, hb, -, ho, ht, hK, -⟩ := hC _ _ _ _ _ _ _ _ _ _ _ _ _ _ hx
  obtain ⟨q0, hq0⟩ := hR.2 a _ ha
  exact va_iald hx1 hb hK.1 hP q0 0 (je_get hq0) rfl hin hd (kk _ _ _ _ _ _ _ _ _ _ _ _ _ _ hx _ _ _ _ _ _ hR hP hD hS hl hc hs)
theorem En_iast (hC : je_Ok Cx own cc nL d) {a n : Nat} {f : Nat → Int32} {i x : Int32} (hd : decode cc pc = .ok (.iastore, 1)) (ha : h a = some (.inl (0, n, .inl f))) (hin : vp_in i n) (kk : En Cx nL (pc + 1) lv st (je_up h a (.inl (0, n, .inl (upd f i.toNatClampNeg x)))) bc bs) : En Cx nL pc lv (.int x :: .int i :: .ref a :: st) h bc bs := by
  intro p l e R s m args below meth c D cs A Q hx w H locs cells slots ls hR hP hD hS hl hc hs
  obtain ⟨hx1, hb, -, ho, ht, hK, -⟩ := hC _ _ _ _ _ _ _ _ _ _ _ _ _ _ hx
  obtain ⟨q0, hq0⟩ := hR.2 a _ ha
  refine va_iast hx1 hb hK.1 hP hD hS q0 0 (je_get hq0) rfl hin hd (fun H1 locs1 hP1 hD1 hS1 => ?_)
  have e0 := je_set (cs := cs) (w := w) (k := q0) (a, .inl (0, n, .inl (upd f i.toNatClampNeg x)))
  have hP1 : va_P D vwCl (je_ws cs (w.set q0 (a, .inl (0, n, .inl (upd f i.toNatClampNeg x))))) H1 := by rw [← e0]; exact hP1
  have hD1 : va_D A (je_ws cs (w.set q0 (a, .inl (0, n, .inl (upd f i.toNatClampNeg x))))) := by rw [← e0]; exact hD1
  exact kk _ _ _ _ _ _ _ _ _ _ _ _ _ _ hx _ _ _ _ _ _ (je_R_set _ hR hq0 hD) hP1 hD1 hS1 hl hc hs
theorem En_alen (hC : je_Ok Cx own cc nL d) {a t : Nat} {x : vp_A} (hd : decode cc pc = .ok (.arraylength, 1)) (ha : h a = some (.inl (t, x))) (ht3 : t < 3) (kk : En Cx nL (pc + 1) lv (.int (Int32.ofNat x.1) :: st) h bc bs) : En Cx nL pc lv (.ref a :: st) h bc bs := by
  intro p l e R s m args below meth c D cs A Q hx w H locs cells slots ls hR hP hD hS hl hc hs
  obtain ⟨hx1, hb, -, ho, ht, hK, -⟩ := hC _ _ _ _ _ _ _ _ _ _ _ _ _ _ hx
  obtain ⟨q0, hq0⟩ := hR.2 a _ ha
  have hty : ∃ ty, (je_tys cs)[t]? = some (cs t, ty) := by
    rcases (show t = 0 ∨ t = 1 ∨ t = 2 by omega) with rfl | rfl | rfl <;> exact ⟨_, rfl⟩
  obtain ⟨ty, hty⟩ := hty
  exact va_alen hx1 hb hK.1 hP q0 t (je_get hq0) hty rfl hd (kk _ _ _ _ _ _ _ _ _ _ _ _ _ _ hx _ _ _ _ _ _ hR hP hD hS hl hc hs)
/-- which class an array of kind t is over -/
def je_cn : Nat → String
  | 1 => RX2
  | _ => RX3
def je_cx : Nat → Nat
  | 1 => 2
  | _ => 3
theorem je_tys_q {cs : Nat → ClassId} {t : Nat} (ht : t = 1 ∨ t = 2) : (je_tys cs)[t]? = some (cs t, .object (je_cn t)) := by
  rcases ht with rfl | rfl <;> rfl
theorem En_aald (hC : je_Ok Cx own cc nL d) {a n t : Nat} {f : Nat → Option Nat} {i : Int32} (ht3 : t = 1 ∨ t = 2) (hd : decode cc pc = .ok (.aaload, 1)) (ha : h a = some (.inl (t, n, .inr (.inr (.inr (.inr f)))))) (hin : vp_in i n) (kk : En Cx nL (pc + 1) lv (va_rf (f i.toNatClampNeg) :: st) h bc bs) : En Cx nL pc lv (.int i :: .ref a :: st) h bc bs := by
  intro p l e R s m args below meth c D cs A Q hx w H locs cells slots ls hR hP hD hS hl hc hs
  obtain ⟨hx1, hb, -, ho, ht, hK, -⟩ := hC _ _ _ _ _ _ _ _ _ _ _ _ _ _ hx
  obtain ⟨q0, hq0⟩ := hR.2 a _ ha
  exact va_aldq hx1 hb hK.1 hP q0 t (je_get hq0) (je_tys_q ht3) hin hd (kk _ _ _ _ _ _ _ _ _ _ _ _ _ _ hx _ _ _ _ _ _ hR hP hD hS hl hc hs)
theorem En_aast (hC : je_Ok Cx own cc nL d) {a n t b : Nat} {f : Nat → Option Nat} {i : Int32} {fs : List Value} (ht3 : t = 1 ∨ t = 2) (hd : decode cc pc = .ok (.aastore, 1)) (ha : h a = some (.inl (t, n, .inr (.inr (.inr (.inr f)))))) (hb0 : h b = some (.inr (je_cx t, fs))) (hin : vp_in i n) (kk : En Cx nL (pc + 1) lv st (je_up h a (.inl (t, n, .inr (.inr (.inr (.inr (va_up f i.toNatClampNeg (some b)))))))) bc bs) : En Cx nL pc lv (.ref b :: .int i :: .ref a :: st) h bc bs := by
  intro p l e R s m args below meth c D cs A Q hx w H locs cells slots ls hR hP hD hS hl hc hs
  obtain ⟨hx1, hb, -, ho, ht, hK, -⟩ := hC _ _ _ _ _ _ _ _ _ _ _ _ _ _ hx
  obtain ⟨q0, hq0⟩ := hR.2 a _ ha
  obtain ⟨qk, hqk⟩ := hR.2 b _ hb0
  have hcc : ∃ r : vw_C, vwCl[je_cx t]? = some r ∧ r.1 = je_cn t := by rcases ht3 with rfl | rfl <;> exact ⟨_, rfl, rfl⟩
  obtain ⟨r, hr1, hr2⟩ := hcc
  refine va_astq hx1 hb hK.1 hP hD hS q0 t qk (je_cx t) (r := r) (je_get hq0) (by rw [hr2]; exact je_tys_q ht3) (je_get hqk) hr1 hin hd (fun H1 locs1 hP1 hD1 hS1 => ?_)
  have e0 := je_set (cs := cs) (w := w) (k := q0) (a, .inl (t, n, .inr (.inr (.inr (.inr (va_up f i.toNatClampNeg (some b)))))))
  have hP1 : va_P D vwCl (je_ws cs (w.set q0 (a, .inl (t, n, .inr (.inr (.inr (.inr (va_up f i.toNatClampNeg (some b))))))))) H1 := by rw [← e0]; exact hP1
  have hD1 : va_D A (je_ws cs (w.set q0 (a, .inl (t, n, .inr (.inr (.inr (.inr (va_up f i.toNatClampNeg (some b))))))))) := by rw [← e0]; exact hD1
  exact kk _ _ _ _ _ _ _ _ _ _ _ _ _ _ hx _ _ _ _ _ _ (je_R_set _ hR hq0 hD) hP1 hD1 hS1 hl hc hs
theorem En_aastN (hC : je_Ok Cx own cc nL d) {a n t : Nat} {f : Nat → Option Nat} {i : Int32} (ht3 : t = 1 ∨ t = 2) (hd : decode cc pc = .ok (.aastore, 1)) (ha : h a = some (.inl (t, n, .inr (.inr (.inr (.inr f)))))) (hin : vp_in i n) (kk : En Cx nL (pc + 1) lv st (je_up h a (.inl (t, n, .inr (.inr (.inr (.inr (va_up f i.toNatClampNeg none))))))) bc bs) : En Cx nL pc lv (.null :: .int i :: .ref a :: st) h bc bs := by
  intro p l e R s m args below meth c D cs A Q hx w H locs cells slots ls hR hP hD hS hl hc hs
  obtain ⟨hx1, hb, -, ho, ht, hK, -⟩ := hC _ _ _ _ _ _ _ _ _ _ _ _ _ _ hx
  obtain ⟨q0, hq0⟩ := hR.2 a _ ha
  refine va_astqN hx1 hb hK.1 hP hD hS q0 t (je_get hq0) (je_tys_q ht3) hin hd (fun H1 locs1 hP1 hD1 hS1 => ?_)
  have e0 := je_set (cs := cs) (w := w) (k := q0) (a, .inl (t, n, .inr (.inr (.inr (.inr (va_up f i.toNatClampNeg none))))))
  have hP1 : va_P D vwCl (je_ws cs (w.set q0 (a, .inl (t, n, .inr (.inr (.inr (.inr (va_up f i.toNatClampNeg none)))))))) H1 := by rw [← e0]; exact hP1
  have hD1 : va_D A (je_ws cs (w.set q0 (a, .inl (t, n, .inr (.inr (.inr (.inr (va_up f i.toNatClampNeg none)))))))) := by rw [← e0]; exact hD1
  exact kk _ _ _ _ _ _ _ _ _ _ _ _ _ _ hx _ _ _ _ _ _ (je_R_set _ hR hq0 hD) hP1 hD1 hS1 hl hc hs
end EN
