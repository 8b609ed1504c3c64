/-! ===== THE STATEMENT IS FALSE AS IT IS WRITTEN: a start that all its premises allow, and from which the law does not return =====
The premises say of the static array FIRST_LEASTS that its class is an array class over int (arrayOf), not that it is the class called "[I" (exactly). In the start odd_s, which is the witness's own start but for one class more (number 15, an array class over int too, with a native clone of its own) and the class of that one array, clone() in TyreBook.<init> is selected in class 15: the machine halts at its 19th step. -/
def odd_c : Class := { start1.cArr "java/lang/Odd" 11 .int with methods := #[{ name := "clone", desc := "()Ljava/lang/Object;", sig := { parameters := [], returnType := some (.object "java/lang/Object") }, accessFlags := 0x101, code := none }] }
def odd_s : State := { start1.about with
  vm := { start1.about.vm with classes := start1.about.vm.classes.push odd_c }
  heap := start1.about.heap.set! 2 { cls := 15, slots := #[.int (30), .int (20), .int (20), .int (16), .int (16)], vm := .none } }
theorem odd_narrow : (Cond.and given_1 narrow_1).before start1.args0 odd_s = true := by decide +kernel
theorem odd_rest : rest_1_c.before start1.args0 odd_s = true := by decide +kernel
def odd_chk (c : Cond) : Bool := match c with
  | .code x _ _ _ => decide (odd_s.methodNamed? x = start1.about.methodNamed? x) && (start1.about.methodNamed? x).any (fun m => decide (m.cls < 15))
  | c => c.before start1.args0 odd_s
theorem odd_meth {m : MethodId} (h : m.cls < 15) : odd_s.vm.method? m = start1.about.vm.method? m := by
  have hz : start1.about.vm.classes.size = 15 := rfl
  have e : odd_s.vm.classes[m.cls]? = start1.about.vm.classes[m.cls]? := by
    show (start1.about.vm.classes.push odd_c)[m.cls]? = _
    rw [Array.getElem?_push, if_neg (by rw [hz]; exact Nat.ne_of_lt h)]
  unfold Vm.method?
  rw [e]
theorem odd_code {x : MethodName} {b : ByteArray} {n : Nat} {r : Option FieldType} (h : odd_chk (.code x b n r) = true) (hc : (Cond.code x b n r).before start1.args0 start1.about = true) : (Cond.code x b n r).before start1.args0 odd_s = true := by
  simp only [odd_chk, Bool.and_eq_true, decide_eq_true_eq] at h
  obtain ⟨h1, h2⟩ := h
  simp only [Cond.before, Cond.holds, Cond.value] at hc ⊢
  rw [h1]
  cases hm : start1.about.methodNamed? x with
  | none =>
    rw [hm] at h2
    cases h2
  | some m =>
    rw [hm] at h2 hc
    have h3 : m.cls < 15 := by simpa using h2
    simp only [Option.bind_some] at hc ⊢
    rw [odd_meth h3]
    exact hc
theorem odd_word {c : Cond} (h : odd_chk c = true) (hc : c.before start1.args0 start1.about = true) : c.before start1.args0 odd_s = true := by
  cases c <;> first | exact odd_code h hc | exact h
theorem odd_split {α : Type} (p : α → Bool) (n : Nat) (l : List α) (h1 : (l.take n).all p = true) (h2 : (l.drop n).all p = true) : l.all p = true := by
  rw [← List.take_append_drop n l, List.all_append, h1, h2]
  rfl
