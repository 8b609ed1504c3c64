section
/-! ===== THE STATEMENT IS FALSE AS IT IS WRITTEN: a start that all its premises allow, and from which the law does not return =====
The premises say of the static array FIRST_LEASTS that its class is an array class over int (arrayOf), not that it is the class called "[I" (exactly). In the start odd_s, which is the witness's own start but for one class more (number 15, an array class over int too, with a native clone of its own) and the class of that one array, clone() in TyreBook.<init> is selected in class 15: the machine halts at its 19th step. -/
def odd_c : Class := { start1.cArr "java/lang/Odd" 11 .int with methods := #[{ name := "clone", desc := "()Ljava/lang/Object;", sig := { parameters := [], returnType := some (.object "java/lang/Object") }, accessFlags := 0x101, code := none }] }
def odd_s : State := { start1.about with
  vm := { start1.about.vm with classes := start1.about.vm.classes.push odd_c }
  heap := start1.about.heap.set! 2 { cls := 15, slots := #[.int (30), .int (20), .int (20), .int (16), .int (16)], vm := .none } }
theorem odd_narrow : (Cond.and given_1 narrow_1).before start1.args0 odd_s = true := by decide +kernel
theorem odd_rest : rest_1_c.before start1.args0 odd_s = true := by decide +kernel
/-! a class more at the end of the table changes nothing that was found before it -/
theorem od_idx {α : Type} {xs : Array α} {a : α} {p : α → Bool} {i : Nat} (h : xs.findIdx? p = some i) : (xs.push a).findIdx? p = some i := by
  obtain ⟨hlt, hp, hn⟩ := Array.findIdx?_eq_some_iff_getElem.mp h
  refine Array.findIdx?_eq_some_iff_getElem.mpr ⟨by rw [Array.size_push]; exact Nat.lt_succ_of_lt hlt, ?_, ?_⟩
  · rw [Array.getElem_push_lt hlt]
    exact hp
  · intro j hj
    rw [Array.getElem_push_lt (Nat.lt_trans hj hlt)]
    exact hn j hj
theorem od_get {α : Type} {xs : Array α} {a k : α} {i : Nat} (h : xs[i]? = some k) : (xs.push a)[i]? = some k := by
  obtain ⟨hlt, -⟩ := Array.getElem?_eq_some_iff.mp h
  rw [Array.getElem?_push, if_neg (Nat.ne_of_lt hlt)]
  exact h
theorem od_find {v w : Vm} {a : Class} {n : String} {c : ClassId} (hv : w = { v with classes := v.classes.push a }) (h : v.findClass n = some c) : w.findClass n = some c := by
  subst hv
  exact od_idx h
theorem od_class {v w : Vm} {a k : Class} {n : String} (hv : w = { v with classes := v.classes.push a }) (h : (v.findClass n).bind (v.classes[·]?) = some k) : (w.findClass n).bind (w.classes[·]?) = some k := by
  obtain ⟨c, h1, h2⟩ := Option.bind_eq_some_iff.mp h
  refine Option.bind_eq_some_iff.mpr ⟨c, od_find hv h1, ?_⟩
  subst hv
  exact od_get h2
theorem od_named {s t : State} {a : Class} {x : MethodName} {m : Method} (hv : t.vm = { s.vm with classes := s.vm.classes.push a }) (h : (s.methodNamed? x).bind s.vm.method? = some m) : (t.methodNamed? x).bind t.vm.method? = some m := by
  obtain ⟨i, h1, h2⟩ := Option.bind_eq_some_iff.mp h
  refine Option.bind_eq_some_iff.mpr ⟨i, ?_, ?_⟩
  · unfold State.methodNamed? at h1 ⊢
    simp only [Option.bind_eq_bind, Option.bind_eq_some_iff, Option.pure_def, Option.some.injEq] at h1 ⊢
    obtain ⟨c, h3, k, h4, j, h5, h6⟩ := h1
    exact ⟨c, od_find hv h3, k, by rw [hv]; exact od_get h4, j, h5, h6⟩
  · unfold Vm.method? at h2 ⊢
    simp only [Option.bind_eq_bind, Option.bind_eq_some_iff] at h2 ⊢
    obtain ⟨k, h3, h4⟩ := h2
    exact ⟨k, by rw [hv]; exact od_get h3, h4⟩
theorem od_map {A : Type} {a b : Option A} {f : A → Bool} (e : ∀ k, a = some k → b = some k) (h : (a.map f == some true) = true) : (b.map f == some true) = true := by
  cases ha : a with
  | none =>
    rw [ha] at h
    simp at h
  | some k =>
    rw [e k ha]
    rw [ha] at h
    exact h
theorem od_bindmap {A B : Type} {a b : Option A} {g g' : A → Option B} {f : B → Bool} (e : ∀ k, a.bind g = some k → b.bind g' = some k) (h : ((a.bind fun c => (g c).map f) == some true) = true) : ((b.bind fun c => (g' c).map f) == some true) = true := by
  have e1 : ∀ (x : Option A) (y : A → Option B), (x.bind fun c => (y c).map f) = (x.bind y).map f := fun x y => by cases x <;> rfl
  rw [e1] at h ⊢
  exact od_map e h
theorem od_gets {s t : State} {a k : Class} {i : Nat} (hv : t.vm = { s.vm with classes := s.vm.classes.push a }) (h : s.vm.classes[i]? = some k) : t.vm.classes[i]? = some k := by
  rw [hv]
  exact od_get h
theorem od_method {s t : State} {a : Class} {m : MethodId} {x : Method} (hv : t.vm = { s.vm with classes := s.vm.classes.push a }) (h : s.vm.method? m = some x) : t.vm.method? m = some x := by
  unfold Vm.method? at h ⊢
  simp only [Option.bind_eq_bind, Option.bind_eq_some_iff] at h ⊢
  obtain ⟨k, h1, h2⟩ := h
  exact ⟨k, od_gets hv h1, h2⟩
theorem od_pool {s t : State} {a : Class} {cls : String} {cp : ConstantPool} (hv : t.vm = { s.vm with classes := s.vm.classes.push a }) (h : s.poolOf? cls = some cp) : t.poolOf? cls = some cp := by
  unfold State.poolOf? at h ⊢
  simp only [Option.bind_eq_bind, Option.bind_eq_some_iff, Option.pure_def, Option.some.injEq] at h ⊢
  obtain ⟨c, h1, k, h2, f, h3, h4⟩ := h
  exact ⟨c, od_find hv h1, k, od_gets hv h2, f, h3, h4⟩
theorem od_names {s t : State} {a : Class} {cls : String} {i : Nat} {n : Names} (hv : t.vm = { s.vm with classes := s.vm.classes.push a }) (h : s.names cls i n = true) : t.names cls i n = true := by
  unfold State.names at h ⊢
  have h1 := of_decide_eq_true h
  obtain ⟨cp, h2, h3⟩ := Option.bind_eq_some_iff.mp h1
  exact decide_eq_true (Option.bind_eq_some_iff.mpr ⟨cp, od_pool hv h2, h3⟩)
theorem od_openOr {s t : State} {a : Class} {cls : String} {i : Nat} {r : Resolved} (hv : t.vm = { s.vm with classes := s.vm.classes.push a }) (h : s.openOr cls i r = true) : t.openOr cls i r = true := by
  unfold State.openOr at h ⊢
  cases hk : (s.vm.findClass cls).bind (s.vm.classes[·]?) with
  | none =>
    rw [hk] at h
    simp at h
  | some k =>
    rw [od_class hv hk]
    rw [hk] at h
    exact h
theorem od_member {s t : State} {a : Class} {cls : String} {i : Nat} {p : Nat × Bool} (hv : t.vm = { s.vm with classes := s.vm.classes.push a }) (h : s.memberEntry? cls i = some p) : t.memberEntry? cls i = some p := by
  unfold State.memberEntry? at h ⊢
  cases hp : s.poolOf? cls with
  | none =>
    rw [hp] at h
    simp at h
  | some cp =>
    rw [od_pool hv hp]
    rw [hp] at h
    exact h
theorem od_sub {v w : Vm} {a : Class} (hv : w = { v with classes := v.classes.push a }) : ∀ (f g : Nat) (s t : ClassId), f ≤ g → v.isSubclassAux f s t = true → w.isSubclassAux g s t = true := by
  intro f
  induction f with
  | zero =>
    intro g s t _ h
    simp [Vm.isSubclassAux] at h
  | succ f ih =>
    intro g s t hg h
    cases g with
    | zero => exact absurd hg (Nat.not_succ_le_zero f)
    | succ g =>
      unfold Vm.isSubclassAux at h ⊢
      rw [Bool.or_eq_true] at h ⊢
      rcases h with h | h
      · exact Or.inl h
      · refine Or.inr ?_
        cases hk : v.classes[s]? with
        | none => simp [hk] at h
        | some k =>
          have hk' : w.classes[s]? = some k := by
            subst hv
            exact od_get hk
          cases hp : k.super with
          | none => simp [hk, hp] at h
          | some p =>
            simp only [hk, hp] at h
            simp only [hk', hp]
            exact ih g p t (Nat.le_of_succ_le_succ hg) h
theorem od_subclass {v w : Vm} {a : Class} {s t : ClassId} (hv : w = { v with classes := v.classes.push a }) (h : v.isSubclass s t = true) : w.isSubclass s t = true := by
  have hz : v.classes.size + 1 ≤ w.classes.size + 1 := by
    subst hv
    show v.classes.size + 1 ≤ (v.classes.push a).size + 1
    rw [Array.size_push]
    exact Nat.le_succ _
  exact od_sub hv _ _ s t hz h
theorem od_plain {v w : Vm} {a : Class} {fl : Nat} {c t d : ClassId} {ck dk : Class} (hv : w = { v with classes := v.classes.push a }) (h : plainAccess v fl c ck t d dk = true) : plainAccess w fl c ck t d dk = true := by
  unfold plainAccess at h ⊢
  simp only [Bool.or_eq_true, Bool.and_eq_true] at h ⊢
  rcases h with h | h
  · exact Or.inl h
  · refine Or.inr ⟨⟨h.1.1, od_subclass hv h.1.2⟩, ?_⟩
    rcases h.2 with (h2 | h2) | h2
    · exact Or.inl (Or.inl h2)
    · exact Or.inl (Or.inr (od_subclass hv h2))
    · exact Or.inr (od_subclass hv h2)
theorem od_below {v w : Vm} {a : Class} (hv : w = { v with classes := v.classes.push a }) : ∀ (f g : Nat) (o : Option ClassId), f ≤ g → v.belowMagic f o = true → w.belowMagic g o = true := by
  intro f
  induction f with
  | zero =>
    intro g o _ h
    simp [Vm.belowMagic] at h
  | succ f ih =>
    intro g o hg h
    cases g with
    | zero => exact absurd hg (Nat.not_succ_le_zero f)
    | succ g =>
      cases o with
      | none => simp [Vm.belowMagic] at h
      | some c =>
        simp only [Vm.belowMagic] at h ⊢
        cases hk : v.classes[c]? with
        | none => simp [hk] at h
        | some k =>
          have hk' : w.classes[c]? = some k := by
            subst hv
            exact od_get hk
          simp only [hk, Option.any_some, Bool.or_eq_true] at h
          simp only [hk', Option.any_some, Bool.or_eq_true]
          rcases h with h | h
          · exact Or.inl h
          · exact Or.inr (ih g _ (Nat.le_of_succ_le_succ hg) h)
theorem od_acc {v w : Vm} {a c d : Class} (hv : w = { v with classes := v.classes.push a }) (h : v.classAccessible {} c d = true) : w.classAccessible {} c d = true := by
  have hz : v.classes.size + 1 ≤ w.classes.size + 1 := by
    subst hv
    show v.classes.size + 1 ≤ (v.classes.push a).size + 1
    rw [Array.size_push]
    exact Nat.le_succ _
  have hm : w.moduleBar c d = v.moduleBar c d := by
    subst hv
    rfl
  unfold Vm.classAccessible at h ⊢
  rw [hm]
  simp only [Bool.or_eq_true, Bool.and_eq_true] at h ⊢
  rcases h with h | h
  · exact Or.inl h
  · refine Or.inr ⟨h.1, ?_⟩
    have h2 := h.2
    unfold Vm.magic at h2 ⊢
    rw [Bool.or_eq_true] at h2 ⊢
    rcases h2 with h2 | h2
    · exact Or.inl h2
    · exact Or.inr (od_below hv _ _ _ hz h2)
theorem od_links {s t : State} {a : Class} {cls n : String} {i : Nat} (hv : t.vm = { s.vm with classes := s.vm.classes.push a }) (h : s.classLinks cls i n = some true) : t.classLinks cls i n = some true := by
  unfold State.classLinks at h ⊢
  cases h1 : s.vm.findClass cls with
  | none => simp [h1] at h
  | some d =>
    cases h2 : s.vm.findClass n with
    | none => simp [h1, h2] at h
    | some c =>
      rw [od_find hv h1, od_find hv h2]
      simp only [h1, h2, Option.bind_eq_bind, Option.bind_eq_some_iff, Option.pure_def, Option.some.injEq, Bool.and_eq_true] at h ⊢
      obtain ⟨dk, h3, ck, h4, ⟨h5, h6⟩, h7⟩ := h
      exact ⟨dk, od_gets hv h3, ck, od_gets hv h4, ⟨od_names hv h5, od_openOr hv h6⟩, od_acc hv h7⟩
theorem od_ml {s t : State} {a : Class} {cls : String} {i : Nat} {x : MethodName} {args : Array Value} (hv : t.vm = { s.vm with classes := s.vm.classes.push a }) (e : t.methodFound? x.cls x.name x.desc = s.methodFound? x.cls x.name x.desc) (hc : (Cond.methodLink cls i x).before args s = true) : (Cond.methodLink cls i x).before args t = true := by
  simp only [Cond.before, Cond.holds, Cond.value, beq_iff_eq] at hc ⊢
  cases h1 : s.memberEntry? cls i with
  | none => simp [h1] at hc
  | some p =>
  obtain ⟨ci, via⟩ := p
  cases h2 : s.vm.findClass cls with
  | none => simp [h1, h2] at hc
  | some d =>
  cases h3 : s.vm.findClass x.cls with
  | none => simp [h1, h2, h3] at hc
  | some c =>
  cases h4 : s.methodFound? x.cls x.name x.desc with
  | none => simp [h1, h2, h3, h4] at hc
  | some m =>
  rw [od_member hv h1, od_find hv h2, od_find hv h3, e, h4]
  simp only [h1, h2, h3, h4, Option.bind_eq_bind, Option.bind_eq_some_iff, Option.pure_def, Option.some.injEq] at hc ⊢
  obtain ⟨lk, h5, dk, h6, ck, h7, mk, h8, meth, h9, hb⟩ := hc
  simp only [Bool.and_eq_true, Bool.or_eq_true] at hb
  obtain ⟨⟨⟨⟨⟨⟨⟨b1, b2⟩, b3⟩, b4⟩, b5⟩, b6⟩, b7⟩, b8⟩ := hb
  subst b1
  refine ⟨true, od_links hv h5, dk, od_gets hv h6, ck, od_gets hv h7, mk, od_gets hv h8, meth, od_method hv h9, ?_⟩
  simp only [Bool.and_eq_true, Bool.or_eq_true]
  refine ⟨⟨⟨⟨⟨⟨⟨trivial, od_names hv b2⟩, od_openOr hv b3⟩, b4⟩, b5⟩, b6⟩, b7⟩, ?_⟩
  rcases b8 with b8 | b8
  · exact Or.inl (od_plain hv b8)
  · exact Or.inr b8
def od_lf (s : State) (ref name desc : String) : Option (ClassId × Nat) := (parseFieldDescriptor desc).bind fun ty => (s.vm.findClass ref).bind fun c => lookupField s.vm name ty (s.vm.classes.size + 1) c
theorem od_ff {s t : State} {a : Class} {ref name desc : String} {r : ClassId × Class × Nat × Field} (hv : t.vm = { s.vm with classes := s.vm.classes.push a }) (e : od_lf t ref name desc = od_lf s ref name desc) (h : s.fieldFound? ref name desc = some r) : t.fieldFound? ref name desc = some r := by
  unfold State.fieldFound? at h ⊢
  simp only [Option.bind_eq_bind, Option.bind_eq_some_iff, Option.pure_def, Option.some.injEq] at h ⊢
  obtain ⟨ty, h1, c0, h2, p, h3, h4⟩ := h
  obtain ⟨c, i⟩ := p
  simp only [od_lf, h1, h2, od_find hv h2, Option.bind_some] at e
  obtain ⟨k, h5, f, h6, h7⟩ := h4
  exact ⟨ty, h1, c0, od_find hv h2, (c, i), e.trans h3, k, od_gets hv h5, f, h6, h7⟩
theorem od_fl {s t : State} {a : Class} {cls ref name desc : String} {i : Nat} {args : Array Value} (hv : t.vm = { s.vm with classes := s.vm.classes.push a }) (e : od_lf t ref name desc = od_lf s ref name desc) (hc : (Cond.fieldLink cls i ref name desc).before args s = true) : (Cond.fieldLink cls i ref name desc).before args t = true := by
  simp only [Cond.before, Cond.holds, Cond.value, beq_iff_eq] at hc ⊢
  cases h1 : s.memberEntry? cls i with
  | none => simp [h1] at hc
  | some p =>
  obtain ⟨ci, via⟩ := p
  cases h2 : s.vm.findClass cls with
  | none => simp [h1, h2] at hc
  | some d =>
  cases h3 : s.fieldFound? ref name desc with
  | none => simp [h1, h2, h3] at hc
  | some q =>
  obtain ⟨c, k, j, f⟩ := q
  cases h4 : s.vm.findClass ref with
  | none => simp [h1, h2, h3, h4] at hc
  | some u =>
  rw [od_member hv h1, od_find hv h2, od_ff hv e h3, od_find hv h4]
  simp only [h1, h2, h3, h4, Option.bind_eq_bind, Option.bind_eq_some_iff, Option.pure_def, Option.some.injEq] at hc ⊢
  obtain ⟨lk, h5, dk, h6, hb⟩ := hc
  simp only [Bool.and_eq_true] at hb
  obtain ⟨⟨⟨⟨b1, b2⟩, b3⟩, b4⟩, b5⟩ := hb
  subst b1
  refine ⟨true, od_links hv h5, dk, od_gets hv h6, ?_⟩
  simp only [Bool.and_eq_true]
  exact ⟨⟨⟨⟨trivial, od_names hv b2⟩, od_openOr hv b3⟩, b4⟩, od_plain hv b5⟩
def odd_chk (c : Cond) : Bool := match c with
  | .methodLink _ _ x => decide (odd_s.methodFound? x.cls x.name x.desc = start1.about.methodFound? x.cls x.name x.desc)
  | .fieldLink _ _ ref name desc => decide (od_lf odd_s ref name desc = od_lf start1.about ref name desc)
  | .classLink _ _ _ => true
  | .constant _ _ _ => true
  | .constantLong _ _ _ => true
  | .code _ _ _ _ => true
  | .instanceMethod _ => true
  | .privateMethod _ => true
  | .static _ => true
  | .native _ => true
  | .soleField _ _ => true
  | .initialized _ => true
  | .instantiable _ _ => true
  | c => c.before start1.args0 odd_s
theorem odd_word {c : Cond} (h : odd_chk c = true) (hc : c.before start1.args0 start1.about = true) : c.before start1.args0 odd_s = true := by
  have hv : odd_s.vm = { start1.about.vm with classes := start1.about.vm.classes.push odd_c } := rfl
  cases c with
  | code x b n r =>
    simp only [Cond.before, Cond.holds, Cond.value] at hc ⊢
    exact od_map (fun _ => od_named hv) hc
  | instanceMethod x =>
    simp only [Cond.before, Cond.holds, Cond.value] at hc ⊢
    exact od_map (fun _ => od_named hv) hc
  | privateMethod x =>
    simp only [Cond.before, Cond.holds, Cond.value] at hc ⊢
    exact od_map (fun _ => od_named hv) hc
  | static x =>
    simp only [Cond.before, Cond.holds, Cond.value] at hc ⊢
    exact od_map (fun _ => od_named hv) hc
  | native x =>
    simp only [Cond.before, Cond.holds, Cond.value] at hc ⊢
    exact od_map (fun _ => od_named hv) hc
  | soleField n f =>
    simp only [Cond.before, Cond.holds, Cond.value] at hc ⊢
    exact od_bindmap (fun _ => od_class hv) hc
  | initialized n =>
    simp only [Cond.before, Cond.holds, Cond.value] at hc ⊢
    exact od_map (fun _ => od_class hv) hc
  | instantiable n k =>
    simp only [Cond.before, Cond.holds, Cond.value] at hc ⊢
    exact od_map (fun _ => od_class hv) hc
  | methodLink n i x => exact od_ml hv (of_decide_eq_true h) hc
  | fieldLink n i r f d => exact od_fl hv (of_decide_eq_true h) hc
  | classLink n i m =>
    simp only [Cond.before, Cond.holds, Cond.value, beq_iff_eq] at hc ⊢
    exact od_links hv hc
  | constant n i v =>
    simp only [Cond.before, Cond.holds, Cond.value, beq_iff_eq, Option.map_eq_some_iff] at hc ⊢
    obtain ⟨c, h1, h2⟩ := hc
    exact ⟨c, od_find hv h1, od_names hv h2⟩
  | constantLong n i v =>
    simp only [Cond.before, Cond.holds, Cond.value, beq_iff_eq, Option.map_eq_some_iff] at hc ⊢
    obtain ⟨c, h1, h2⟩ := hc
    exact ⟨c, od_find hv h1, od_names hv h2⟩
  | _ => exact h
theorem odd_split {α : Type} (p : α → Bool) (n : Nat) (l : List α) (h1 : (l.take n).all p = true) (h2 : (l.drop n).all p = true) : l.all p = true := by
  rw [← List.take_append_drop n l, List.all_append, h1, h2]
  rfl
end
section
set_option maxRecDepth 16384 in
theorem odd_w1_0 : tables_1_1.all odd_chk = true := by decide +kernel
theorem odd_w1 : tables_1_1.all odd_chk = true := odd_w1_0
end
section
set_option maxRecDepth 16384 in
theorem odd_w2_0 : tables_1_2.all odd_chk = true := by decide +kernel
theorem odd_w2 : tables_1_2.all odd_chk = true := odd_w2_0
end
section
set_option maxRecDepth 16384 in
theorem odd_w3_0 : tables_1_3.all odd_chk = true := by decide +kernel
theorem odd_w3 : tables_1_3.all odd_chk = true := odd_w3_0
end
section
set_option maxRecDepth 16384 in
theorem odd_w4_0 : tables_1_4.all odd_chk = true := by decide +kernel
theorem odd_w4 : tables_1_4.all odd_chk = true := odd_w4_0
end
section
theorem odd_w0 : odd_chk (Cond.code x code maxLocals ret) = true := by decide +kernel
theorem odd_words : ∀ c ∈ (Cond.code x code maxLocals ret :: tables_1), c.before start1.args0 odd_s = true := by
  intro c hc
  refine odd_word ?_ (start1.words c hc)
  rcases List.mem_cons.mp hc with h | h
  · rw [h]; exact odd_w0
  · have h1 : c ∈ tables_1_1 ++ (tables_1_2 ++ (tables_1_3 ++ tables_1_4)) := h
    rcases List.mem_append.mp h1 with h2 | h1
    · exact List.all_eq_true.mp odd_w1 c h2
    rcases List.mem_append.mp h1 with h2 | h1
    · exact List.all_eq_true.mp odd_w2 c h2
    rcases List.mem_append.mp h1 with h2 | h1
    · exact List.all_eq_true.mp odd_w3 c h2
    exact List.all_eq_true.mp odd_w4 c h1
set_option maxRecDepth 16384 in
/-- all that the statement asks of a start holds of odd_s -/
theorem odd_start : AtStart classFile x code maxLocals ret World_1 tables_1 room_1 Calls_1 rest_1 Pre_1 launch0 start1.p0 start1.e0 odd_s ⟨0, 0⟩ start1.args0 Lib.HandBits.below0 :=
  ⟨start1.atStart.1, trivial, launch0.admits_env _ _ _, launch0.least_env, fairChoices_fair.cas, fairChoices_fair.clock, rfl, by decide +kernel, by decide +kernel,
    (Spec.applies_iff rfl).mpr ⟨rfl, rfl, rfl, by decide +kernel, by decide +kernel, by decide +kernel, launch0.hasRoom_least _ room_1 (by decide +kernel) (by decide +kernel) (by decide +kernel) (by decide +kernel) (by decide +kernel) (by decide +kernel), atoms_intro odd_words⟩,
    trivial, odd_rest, odd_narrow⟩
end
section
def odd_t (k : Nat) : State := stepsAlone start1.p0.tables start1.e0 k odd_s
theorem odd_halts : decide ((odd_t 19).status = .running) = false := by decide +kernel
theorem odd_within : (List.range 19).all (fun k => (odd_t k).frames.length != 1) = true := by decide +kernel
theorem odd_no : ¬ Claimed_1_1 := by
  intro h
  obtain ⟨hL, hW, ha, -, hca, hck, hf, hfit, hheap, happ, hp⟩ := odd_start
  obtain ⟨n, o, -, h2, h3, h4, -⟩ := h launch0 rfl hL hW start1.p0 start1.e0 ha hca hck odd_s ⟨0, 0⟩ start1.args0 Lib.HandBits.below0 hf hfit hheap happ hp
  have hst : ¬ (odd_t 19).status = .running := of_decide_eq_false odd_halts
  rcases Nat.lt_or_ge n 19 with hlt | hge
  · have hlen : ((odd_t n).frames.length != 1) = true := List.all_eq_true.mp odd_within n (List.mem_range.mpr hlt)
    cases o with
    | returned v =>
      have h5 : (odd_t n).frames = [.native { method := ⟨0, 0⟩, args := #[], awaiting := false, answer := some (.returned v) }] := h3
      rw [h5] at hlen
      exact absurd (show false = true from hlen) (by decide)
    | threw a =>
      have h5 : limb_1_1.after start1.args0 odd_s (.threw a) (odd_t n) = true := h4
      simp [limb_1_1, Cond.after, Cond.holds, Cond.value] at h5
  · obtain ⟨j, rfl⟩ := Nat.exists_eq_add_of_le hge
    have e : stepsAlone start1.p0.tables start1.e0 (19 + j) odd_s = odd_t 19 := by
      rw [stepsAlone_add]
      exact stepsAlone_of_not_goesOn _ _ (fun hg => hst hg.1) _
    rw [e] at h2
    exact hst h2
theorem odd_vc : ¬ (Claimed_1_1 ∧ Claimed_1_2) := fun h => odd_no h.1
end
