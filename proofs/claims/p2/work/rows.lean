section
/-! ===== THE STATEMENT IS FALSE AS IT IS WRITTEN: a start that all its premises allow, and from which the law does not return =====
The premises say of the static array FIRST_LEASTS that its class is an array class over int (arrayOf), not that it is the class called "[I" (exactly). In the start odd_s, which is the witness's own start but for one class more (number 15, an array class over int too, with a native clone of its own) and the class of that one array, clone() in TyreBook.<init> is selected in class 15: the machine halts at its 19th step. -/
def odd_c : Class := { start1.cArr "java/lang/Odd" 11 .int with methods := #[{ name := "clone", desc := "()Ljava/lang/Object;", sig := { parameters := [], returnType := some (.object "java/lang/Object") }, accessFlags := 0x101, code := none }] }
def odd_s : State := { start1.about with
  vm := { start1.about.vm with classes := start1.about.vm.classes.push odd_c }
  heap := start1.about.heap.set! 2 { cls := 15, slots := #[.int (30), .int (20), .int (20), .int (16), .int (16)], vm := .none } }
theorem odd_narrow : (Cond.and given_1 narrow_1).before start1.args0 odd_s = true := by decide +kernel
theorem odd_rest : rest_1_c.before start1.args0 odd_s = true := by decide +kernel
def odd_chk (c : Cond) : Bool := match c with
  | .code x _ _ _ => decide (odd_s.methodNamed? x = start1.about.methodNamed? x) && (start1.about.methodNamed? x).any (fun m => decide (m.cls < 15))
  | c => c.before start1.args0 odd_s
theorem odd_meth {m : MethodId} (h : m.cls < 15) : odd_s.vm.method? m = start1.about.vm.method? m := by
  have hz : start1.about.vm.classes.size = 15 := rfl
  have e : odd_s.vm.classes[m.cls]? = start1.about.vm.classes[m.cls]? := by
    show (start1.about.vm.classes.push odd_c)[m.cls]? = _
    rw [Array.getElem?_push, if_neg (by rw [hz]; exact Nat.ne_of_lt h)]
  unfold Vm.method?
  rw [e]
theorem odd_code {x : MethodName} {b : ByteArray} {n : Nat} {r : Option FieldType} (h : odd_chk (.code x b n r) = true) (hc : (Cond.code x b n r).before start1.args0 start1.about = true) : (Cond.code x b n r).before start1.args0 odd_s = true := by
  simp only [odd_chk, Bool.and_eq_true, decide_eq_true_eq] at h
  obtain ⟨h1, h2⟩ := h
  simp only [Cond.before, Cond.holds, Cond.value] at hc ⊢
  rw [h1]
  cases hm : start1.about.methodNamed? x with
  | none =>
    rw [hm] at h2
    cases h2
  | some m =>
    rw [hm] at h2 hc
    have h3 : m.cls < 15 := by simpa using h2
    simp only [Option.bind_some] at hc ⊢
    rw [odd_meth h3]
    exact hc
theorem odd_word {c : Cond} (h : odd_chk c = true) (hc : c.before start1.args0 start1.about = true) : c.before start1.args0 odd_s = true := by
  cases c <;> first | exact odd_code h hc | exact h
theorem odd_split {α : Type} (p : α → Bool) (n : Nat) (l : List α) (h1 : (l.take n).all p = true) (h2 : (l.drop n).all p = true) : l.all p = true := by
  rw [← List.take_append_drop n l, List.all_append, h1, h2]
  rfl
end
section
set_option maxRecDepth 16384 in
theorem odd_w1_0 : (tables_1_1.take 40).all odd_chk = true := by decide +kernel
set_option maxRecDepth 16384 in
theorem odd_w1_1 : ((tables_1_1.drop 40).take 40).all odd_chk = true := by decide +kernel
set_option maxRecDepth 16384 in
theorem odd_w1_2 : (((tables_1_1.drop 40).drop 40).take 40).all odd_chk = true := by decide +kernel
set_option maxRecDepth 16384 in
theorem odd_w1_3 : ((((tables_1_1.drop 40).drop 40).drop 40).take 40).all odd_chk = true := by decide +kernel
set_option maxRecDepth 16384 in
theorem odd_w1_4 : (((((tables_1_1.drop 40).drop 40).drop 40).drop 40).take 40).all odd_chk = true := by decide +kernel
set_option maxRecDepth 16384 in
theorem odd_w1_5 : (((((tables_1_1.drop 40).drop 40).drop 40).drop 40).drop 40).all odd_chk = true := by decide +kernel
theorem odd_w1 : tables_1_1.all odd_chk = true := odd_split odd_chk 40 (tables_1_1) odd_w1_0 (odd_split odd_chk 40 (tables_1_1.drop 40) odd_w1_1 (odd_split odd_chk 40 ((tables_1_1.drop 40).drop 40) odd_w1_2 (odd_split odd_chk 40 (((tables_1_1.drop 40).drop 40).drop 40) odd_w1_3 (odd_split odd_chk 40 ((((tables_1_1.drop 40).drop 40).drop 40).drop 40) odd_w1_4 (odd_w1_5)))))
end
section
set_option maxRecDepth 16384 in
theorem odd_w2_0 : (tables_1_2.take 40).all odd_chk = true := by decide +kernel
set_option maxRecDepth 16384 in
theorem odd_w2_1 : ((tables_1_2.drop 40).take 40).all odd_chk = true := by decide +kernel
set_option maxRecDepth 16384 in
theorem odd_w2_2 : (((tables_1_2.drop 40).drop 40).take 40).all odd_chk = true := by decide +kernel
set_option maxRecDepth 16384 in
theorem odd_w2_3 : ((((tables_1_2.drop 40).drop 40).drop 40).take 40).all odd_chk = true := by decide +kernel
set_option maxRecDepth 16384 in
theorem odd_w2_4 : (((((tables_1_2.drop 40).drop 40).drop 40).drop 40).take 40).all odd_chk = true := by decide +kernel
set_option maxRecDepth 16384 in
theorem odd_w2_5 : (((((tables_1_2.drop 40).drop 40).drop 40).drop 40).drop 40).all odd_chk = true := by decide +kernel
theorem odd_w2 : tables_1_2.all odd_chk = true := odd_split odd_chk 40 (tables_1_2) odd_w2_0 (odd_split odd_chk 40 (tables_1_2.drop 40) odd_w2_1 (odd_split odd_chk 40 ((tables_1_2.drop 40).drop 40) odd_w2_2 (odd_split odd_chk 40 (((tables_1_2.drop 40).drop 40).drop 40) odd_w2_3 (odd_split odd_chk 40 ((((tables_1_2.drop 40).drop 40).drop 40).drop 40) odd_w2_4 (odd_w2_5)))))
end
section
set_option maxRecDepth 16384 in
theorem odd_w3_0 : (tables_1_3.take 40).all odd_chk = true := by decide +kernel
set_option maxRecDepth 16384 in
theorem odd_w3_1 : ((tables_1_3.drop 40).take 40).all odd_chk = true := by decide +kernel
set_option maxRecDepth 16384 in
theorem odd_w3_2 : (((tables_1_3.drop 40).drop 40).take 40).all odd_chk = true := by decide +kernel
set_option maxRecDepth 16384 in
theorem odd_w3_3 : ((((tables_1_3.drop 40).drop 40).drop 40).take 40).all odd_chk = true := by decide +kernel
set_option maxRecDepth 16384 in
theorem odd_w3_4 : (((((tables_1_3.drop 40).drop 40).drop 40).drop 40).take 40).all odd_chk = true := by decide +kernel
set_option maxRecDepth 16384 in
theorem odd_w3_5 : (((((tables_1_3.drop 40).drop 40).drop 40).drop 40).drop 40).all odd_chk = true := by decide +kernel
theorem odd_w3 : tables_1_3.all odd_chk = true := odd_split odd_chk 40 (tables_1_3) odd_w3_0 (odd_split odd_chk 40 (tables_1_3.drop 40) odd_w3_1 (odd_split odd_chk 40 ((tables_1_3.drop 40).drop 40) odd_w3_2 (odd_split odd_chk 40 (((tables_1_3.drop 40).drop 40).drop 40) odd_w3_3 (odd_split odd_chk 40 ((((tables_1_3.drop 40).drop 40).drop 40).drop 40) odd_w3_4 (odd_w3_5)))))
end
section
set_option maxRecDepth 16384 in
theorem odd_w4_0 : (tables_1_4.take 40).all odd_chk = true := by decide +kernel
set_option maxRecDepth 16384 in
theorem odd_w4_1 : ((tables_1_4.drop 40).take 40).all odd_chk = true := by decide +kernel
set_option maxRecDepth 16384 in
theorem odd_w4_2 : (((tables_1_4.drop 40).drop 40).take 40).all odd_chk = true := by decide +kernel
set_option maxRecDepth 16384 in
theorem odd_w4_3 : ((((tables_1_4.drop 40).drop 40).drop 40).take 40).all odd_chk = true := by decide +kernel
set_option maxRecDepth 16384 in
theorem odd_w4_4 : (((((tables_1_4.drop 40).drop 40).drop 40).drop 40).take 40).all odd_chk = true := by decide +kernel
set_option maxRecDepth 16384 in
theorem odd_w4_5 : (((((tables_1_4.drop 40).drop 40).drop 40).drop 40).drop 40).all odd_chk = true := by decide +kernel
theorem odd_w4 : tables_1_4.all odd_chk = true := odd_split odd_chk 40 (tables_1_4) odd_w4_0 (odd_split odd_chk 40 (tables_1_4.drop 40) odd_w4_1 (odd_split odd_chk 40 ((tables_1_4.drop 40).drop 40) odd_w4_2 (odd_split odd_chk 40 (((tables_1_4.drop 40).drop 40).drop 40) odd_w4_3 (odd_split odd_chk 40 ((((tables_1_4.drop 40).drop 40).drop 40).drop 40) odd_w4_4 (odd_w4_5)))))
end
section
theorem odd_w0 : odd_chk (Cond.code x code maxLocals ret) = true := by decide +kernel
theorem odd_words : ∀ c ∈ (Cond.code x code maxLocals ret :: tables_1), c.before start1.args0 odd_s = true := by
  intro c hc
  refine odd_word ?_ (start1.words c hc)
  rcases List.mem_cons.mp hc with h | h
  · rw [h]; exact odd_w0
  · have h1 : c ∈ tables_1_1 ++ (tables_1_2 ++ (tables_1_3 ++ tables_1_4)) := h
    rcases List.mem_append.mp h1 with h2 | h1
    · exact List.all_eq_true.mp odd_w1 c h2
    rcases List.mem_append.mp h1 with h2 | h1
    · exact List.all_eq_true.mp odd_w2 c h2
    rcases List.mem_append.mp h1 with h2 | h1
    · exact List.all_eq_true.mp odd_w3 c h2
    exact List.all_eq_true.mp odd_w4 c h1
set_option maxRecDepth 16384 in
/-- all that the statement asks of a start holds of odd_s -/
theorem odd_start : AtStart classFile x code maxLocals ret World_1 tables_1 room_1 Calls_1 rest_1 Pre_1 launch0 start1.p0 start1.e0 odd_s ⟨0, 0⟩ start1.args0 Lib.HandBits.below0 :=
  ⟨start1.atStart.1, trivial, launch0.admits_env _ _ _, launch0.least_env, fairChoices_fair.cas, fairChoices_fair.clock, rfl, by decide +kernel, by decide +kernel,
    (Spec.applies_iff rfl).mpr ⟨rfl, rfl, rfl, by decide +kernel, by decide +kernel, by decide +kernel, launch0.hasRoom_least _ room_1 (by decide +kernel) (by decide +kernel) (by decide +kernel) (by decide +kernel) (by decide +kernel) (by decide +kernel), atoms_intro odd_words⟩,
    trivial, odd_rest, odd_narrow⟩
end
section
def odd_t (k : Nat) : State := stepsAlone start1.p0.tables start1.e0 k odd_s
theorem odd_halts : decide ((odd_t 19).status = .running) = false := by decide +kernel
end
section
theorem odd_within : (List.range 19).all (fun k => (odd_t k).frames.length != 1) = true := by decide +kernel
end
section
theorem odd_no : ¬ Claimed_1_1 := by
  intro h
  obtain ⟨hL, hW, ha, -, hca, hck, hf, hfit, hheap, happ, hp⟩ := odd_start
  obtain ⟨n, o, -, h2, h3, h4, -⟩ := h launch0 rfl hL hW start1.p0 start1.e0 ha hca hck odd_s ⟨0, 0⟩ start1.args0 Lib.HandBits.below0 hf hfit hheap happ hp
  have hst : ¬ (odd_t 19).status = .running := of_decide_eq_false odd_halts
  rcases Nat.lt_or_ge n 19 with hlt | hge
  · have hlen : ((odd_t n).frames.length != 1) = true := List.all_eq_true.mp odd_within n (List.mem_range.mpr hlt)
    cases o with
    | returned v =>
      have h5 : (odd_t n).frames = [.native { method := ⟨0, 0⟩, args := #[], awaiting := false, answer := some (.returned v) }] := h3
      rw [h5] at hlen
      exact absurd (show false = true from hlen) (by decide)
    | threw a =>
      have h5 : limb_1_1.after start1.args0 odd_s (.threw a) (odd_t n) = true := h4
      simp [limb_1_1, Cond.after, Cond.holds, Cond.value] at h5
  · obtain ⟨j, rfl⟩ := Nat.exists_eq_add_of_le hge
    have e : stepsAlone start1.p0.tables start1.e0 (19 + j) odd_s = odd_t 19 := by
      rw [stepsAlone_add]
      exact stepsAlone_of_not_goesOn _ _ (fun hg => hst hg.1) _
    rw [e] at h2
    exact hst h2
theorem odd_vc : ¬ (Claimed_1_1 ∧ Claimed_1_2) := fun h => odd_no h.1
end
