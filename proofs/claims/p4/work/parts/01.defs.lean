/-! ===== THE STATEMENT IS FALSE AS IT IS WRITTEN: a start that all its premises allow, and from which the law does not return =====
The premises say of the static array FIRST_LEASTS that its class is an array class over int (arrayOf), not that it is the class called "[I" (exactly). In the start odd_s, which is the witness's own start but for one class more (number 15, an array class over int too, with a native clone of its own) and the class of that one array, clone() in TyreBook.<init> is selected in class 15: the machine halts at its 19th step. -/
def odd_c : Class := { start1.cArr "java/lang/Odd" 11 .int with methods := #[{ name := "clone", desc := "()Ljava/lang/Object;", sig := { parameters := [], returnType := some (.object "java/lang/Object") }, accessFlags := 0x101, code := none }] }
def odd_s : State := { start1.about with
  vm := { start1.about.vm with classes := start1.about.vm.classes.push odd_c }
  heap := start1.about.heap.set! 2 { cls := 15, slots := #[.int (30), .int (20), .int (20), .int (16), .int (16)], vm := .none } }
theorem odd_narrow : (Cond.and given_1 narrow_1).before start1.args0 odd_s = true := by decide +kernel
theorem odd_rest : rest_1_c.before start1.args0 odd_s = true := by decide +kernel
/-! a class more at the end of the table changes nothing that was found before it -/
theorem od_idx {α : Type} {xs : Array α} {a : α} {p : α → Bool} {i : Nat} (h : xs.findIdx? p = some i) : (xs.push a).findIdx? p = some i := by
  obtain ⟨hlt, hp, hn⟩ := Array.findIdx?_eq_some_iff_getElem.mp h
  refine Array.findIdx?_eq_some_iff_getElem.mpr ⟨by rw [Array.size_push]; exact Nat.lt_succ_of_lt hlt, ?_, ?_⟩
  · rw [Array.getElem_push_lt hlt]
    exact hp
  · intro j hj
    rw [Array.getElem_push_lt (Nat.lt_trans hj hlt)]
    exact hn j hj
theorem od_get {α : Type} {xs : Array α} {a k : α} {i : Nat} (h : xs[i]? = some k) : (xs.push a)[i]? = some k := by
  obtain ⟨hlt, -⟩ := Array.getElem?_eq_some_iff.mp h
  rw [Array.getElem?_push, if_neg (Nat.ne_of_lt hlt)]
  exact h
theorem od_find {v w : Vm} {a : Class} {n : String} {c : ClassId} (hv : w = { v with classes := v.classes.push a }) (h : v.findClass n = some c) : w.findClass n = some c := by
  subst hv
  exact od_idx h
theorem od_class {v w : Vm} {a k : Class} {n : String} (hv : w = { v with classes := v.classes.push a }) (h : (v.findClass n).bind (v.classes[·]?) = some k) : (w.findClass n).bind (w.classes[·]?) = some k := by
  obtain ⟨c, h1, h2⟩ := Option.bind_eq_some_iff.mp h
  refine Option.bind_eq_some_iff.mpr ⟨c, od_find hv h1, ?_⟩
  subst hv
  exact od_get h2
theorem od_named {s t : State} {a : Class} {x : MethodName} {m : Method} (hv : t.vm = { s.vm with classes := s.vm.classes.push a }) (h : (s.methodNamed? x).bind s.vm.method? = some m) : (t.methodNamed? x).bind t.vm.method? = some m := by
  obtain ⟨i, h1, h2⟩ := Option.bind_eq_some_iff.mp h
  refine Option.bind_eq_some_iff.mpr ⟨i, ?_, ?_⟩
  · unfold State.methodNamed? at h1 ⊢
    simp only [Option.bind_eq_bind, Option.bind_eq_some_iff, Option.pure_def, Option.some.injEq] at h1 ⊢
    obtain ⟨c, h3, k, h4, j, h5, h6⟩ := h1
    exact ⟨c, od_find hv h3, k, by rw [hv]; exact od_get h4, j, h5, h6⟩
  · unfold Vm.method? at h2 ⊢
    simp only [Option.bind_eq_bind, Option.bind_eq_some_iff] at h2 ⊢
    obtain ⟨k, h3, h4⟩ := h2
    exact ⟨k, by rw [hv]; exact od_get h3, h4⟩
theorem od_map {A : Type} {a b : Option A} {f : A → Bool} (e : ∀ k, a = some k → b = some k) (h : (a.map f == some true) = true) : (b.map f == some true) = true := by
  cases ha : a with
  | none =>
    rw [ha] at h
    simp at h
  | some k =>
    rw [e k ha]
    rw [ha] at h
    exact h
theorem od_bindmap {A B : Type} {a b : Option A} {g g' : A → Option B} {f : B → Bool} (e : ∀ k, a.bind g = some k → b.bind g' = some k) (h : ((a.bind fun c => (g c).map f) == some true) = true) : ((b.bind fun c => (g' c).map f) == some true) = true := by
  have e1 : ∀ (x : Option A) (y : A → Option B), (x.bind fun c => (y c).map f) = (x.bind y).map f := fun x y => by cases x <;> rfl
  rw [e1] at h ⊢
  exact od_map e h
def odd_chk (c : Cond) : Bool := match c with
  | .code _ _ _ _ => true
  | .instanceMethod _ => true
  | .privateMethod _ => true
  | .static _ => true
  | .native _ => true
  | .soleField _ _ => true
  | .initialized _ => true
  | .instantiable _ _ => true
  | c => c.before start1.args0 odd_s
theorem odd_word {c : Cond} (h : odd_chk c = true) (hc : c.before start1.args0 start1.about = true) : c.before start1.args0 odd_s = true := by
  have hv : odd_s.vm = { start1.about.vm with classes := start1.about.vm.classes.push odd_c } := rfl
  cases c with
  | code x b n r =>
    simp only [Cond.before, Cond.holds, Cond.value] at hc ⊢
    exact od_map (fun _ => od_named hv) hc
  | instanceMethod x =>
    simp only [Cond.before, Cond.holds, Cond.value] at hc ⊢
    exact od_map (fun _ => od_named hv) hc
  | privateMethod x =>
    simp only [Cond.before, Cond.holds, Cond.value] at hc ⊢
    exact od_map (fun _ => od_named hv) hc
  | static x =>
    simp only [Cond.before, Cond.holds, Cond.value] at hc ⊢
    exact od_map (fun _ => od_named hv) hc
  | native x =>
    simp only [Cond.before, Cond.holds, Cond.value] at hc ⊢
    exact od_map (fun _ => od_named hv) hc
  | soleField n f =>
    simp only [Cond.before, Cond.holds, Cond.value] at hc ⊢
    exact od_bindmap (fun _ => od_class hv) hc
  | initialized n =>
    simp only [Cond.before, Cond.holds, Cond.value] at hc ⊢
    exact od_map (fun _ => od_class hv) hc
  | instantiable n k =>
    simp only [Cond.before, Cond.holds, Cond.value] at hc ⊢
    exact od_map (fun _ => od_class hv) hc
  | _ => exact h
theorem odd_split {α : Type} (p : α → Bool) (n : Nat) (l : List α) (h1 : (l.take n).all p = true) (h2 : (l.drop n).all p = true) : l.all p = true := by
  rw [← List.take_append_drop n l, List.all_append, h1, h2]
  rfl
