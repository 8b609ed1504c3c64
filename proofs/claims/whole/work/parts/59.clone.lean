/-! ===== static arrays of ints that are cloned. NOT given by the statement: that their class is the one called "[I" (sz_T has it): rows from here on that take sz_S stand under that premise ===== -/
def sz_T (n : String) (N : Nat) (f : Nat → Int32) (A : Nat → Prop) (U : State) (H : Heap) : Prop := ∃ (t : Nat) (cell : Cell), va_Z RX5 n "[I" (.ref t) A U H ∧ H[t]? = some cell ∧ cell.vm ≠ .unknown ∧ (∀ k, cell.vm ≠ .statics k) ∧ U.vm.findClass "[I" = some cell.cls ∧ cell.slots.size = N ∧ (∀ j, j < N → cell.slots[j]? = some (.int (f j))) ∧ ¬ A t
theorem sz_T.moved {n : String} {N : Nat} {f : Nat → Int32} {A : Nat → Prop} {u U : State} {H : Heap} (hvm : u.vm.Alike U.vm) (h : sz_T n N f A u H) : sz_T n N f A U H := by
  obtain ⟨t, cell, h1, h2, h3, h4, h5, h6⟩ := h
  exact ⟨t, cell, va_Z.moved hvm h1, h2, h3, h4, by rw [hvm.findClass]; exact h5, h6⟩
theorem sz_T.kept {n : String} {N : Nat} {f : Nat → Int32} {A : Nat → Prop} {U : State} {H H1 : Heap} (h : sz_T n N f A U H) (hq : ∀ a : Nat, a < H.size → ¬ A a → H1[a]? = H[a]?) : sz_T n N f A U H1 := by
  obtain ⟨t, cell, h1, h2, h3, h4, h5, h6, h7, h8⟩ := h
  exact ⟨t, cell, h1.kept hq, by rw [hq t (Array.getElem?_eq_some_iff.mp h2).1 h8]; exact h2, h3, h4, h5, h6, h7, h8⟩
theorem sz_T.narrow {n : String} {N : Nat} {f : Nat → Int32} {A A1 : Nat → Prop} {U : State} {H : Heap} (h : sz_T n N f A U H) (hA : ∀ q, A1 q → A q) : sz_T n N f A1 U H := by
  obtain ⟨t, cell, h1, h2, h3, h4, h5, h6, h7, h8⟩ := h
  exact ⟨t, cell, h1.narrow hA, h2, h3, h4, h5, h6, h7, fun z => h8 (hA t z)⟩
def f5 : Nat → Int32
  | 0 => 30
  | 1 => 20
  | 2 => 20
  | 3 => 16
  | 4 => 16
  | _ => 0
def f4 : Nat → Int32 := fun _ => 100
def sz_S (A : Nat → Prop) (U : State) (H : Heap) : Prop := sz_T "FIRST_LEASTS" 5 f5 A U H ∧ sz_T "FIRST_MEANS" 4 f4 A U H
/-- a contract whose start holds the static arrays too -/
def CtZ (y : MethodName) (cc : ByteArray) (nL : Nat) (ret : Option FieldType) (d kc ks : Nat) (av : List Value) (h : je_H) (Q : Option Value → je_H → Prop) : Prop :=
  ∀ (l : Launch) (D : va_G) (cs : Nat → ClassId) (w : je_L) (sz : Nat), je_R w h →
    Met l y (Cond.code y cc nL ret :: je_T) (je_rm d kc ks) (va_Pc av (fun U => U.heap.size = sz ∧ va_P D vwCl (je_ws cs w) U.heap ∧ je_K D cs U ∧ va_D (fun _ => True) (je_ws cs w) ∧ sz_S (va_A (je_ws cs w) sz) U U.heap)) (je_Q D cs Q (va_A (je_ws cs w) sz)) kc ks (va_A (je_ws cs w) sz)
def je_CmZ (y : MethodName) (cc : ByteArray) (nL : Nat) (ret : Option FieldType) (d kc ks : Nat) (Q : Option Value → je_H → Prop) : je_C := fun p l e R s m args below meth c D cs A Qt => je_Cm y cc nL ret d kc ks Q p l e R s m args below meth c D cs A Qt ∧ sz_S A s s.heap
theorem je_CmZ_ok {y : MethodName} {cc : ByteArray} {nL : Nat} {ret : Option FieldType} {d kc ks : Nat} {Q : Option Value → je_H → Prop} : je_Ok (je_CmZ y cc nL ret d kc ks Q) y.cls cc nL d := fun p l e R s m args below meth c D cs A Qt hx => je_Cm_ok p l e R s m args below meth c D cs A Qt hx.1
theorem CtZ_of {y : MethodName} {cc : ByteArray} {nL : Nat} {ret : Option FieldType} {d kc ks : Nat} {av : List Value} {h : je_H} {Q : Option Value → je_H → Prop} (lv : je_V0) (hpl : plainName y.cls = true) (hlv : je_en av nL = lv) (hsz : (lg_sl av).length ≤ nL)
    (body : En (je_CmZ y cc nL ret d kc ks Q) nL 0 lv [] h kc ks) : CtZ y cc nL ret d kc ks av h Q := by
  intro l D cs w sz hR
  refine Met.ofW (cc := cc) (maxL := nL) (ret := ret) hpl rfl ?_
  intro p e s m args below meth c s₁ B hml hv
  obtain ⟨rfl, hsz2, hP, hK, hD0, hZ⟩ := hv
  subst hsz2
  subst hlv
  have hts := atoms_spec (ws := Cond.code y cc nL ret :: je_T) B.pre
  have hl0 := lv_entry av (n := nL) hsz
  rw [lg_entry_eq]
  exact body p l e _ s m _ below meth c D cs (va_A (je_ws cs w) s.heap.size) _ ⟨⟨B.exec, B.bytes, hml, findClass_of_methodNamed B.named, fun w hw => hts w (List.mem_cons_of_mem _ hw), hK, fun q hq => Or.inr hq, B.returns, B.notSynchronized, (name_of_methodNamed B.named B.method).1, rfl, rfl⟩, hZ⟩ w s.heap [] 0 0 _ hR hP hD0.self va_S.rf ⟨hl0.1, hl0.2.1, fun i v hi => hl0.2.2 (i, v) (je_en_in hi)⟩ (by show 0 + kc ≤ kc; omega) (by show 0 + ks ≤ ks; omega)
section CZ
variable {Cx : je_C} {own : String} {cc bytes : ByteArray} {nL d d' pc bc bs kc ks maxL n idx : Nat} {lv : je_V0} {st rest As : List Value} {h : je_H} {y : MethodName} {Q' : Option Value → je_H → Prop}
theorem En_callIZ {b : Nat} (hC : je_Ok Cx own cc nL d) (hZ : ∀ p l e R s m args below meth c D cs A Q, Cx p l e R s m args below meth c D cs A Q → sz_S A s s.heap) (hv : je_I own idx y bytes maxL n) (hd : decode cc pc = .ok (.invokespecial idx, 3)) (hct : CtZ y bytes maxL none d' kc ks (.ref b :: As) h Q') (hst : st = As.reverse ++ .ref b :: rest) (hn : As.length = n) (hdd : d' + 1 ≤ d) (hrest : (rest.map fun v => v.category).sum ≤ 8) (hkc : kc ≤ bc) (hks : ks ≤ bs)
    (kk : ∀ v h', Q' v h' → En Cx nL (pc + 3) lv (v.toList ++ rest) h' (bc - kc) (bs - ks)) : En Cx nL pc lv st h bc bs := by
  intro p l e R s m args below meth c D cs A Q hx w H locs cells slots ls hR hP hD hS hl hc hs
  obtain ⟨hx1, hb, hml, ho, ht, hK, hA, hf, hlo⟩ := hC _ _ _ _ _ _ _ _ _ _ _ _ _ _ hx
  obtain ⟨z1, z2⟩ := hZ _ _ _ _ _ _ _ _ _ _ _ _ _ _ hx
  obtain ⟨l1, l2, l3, l4, l5, l6, l7⟩ := hv
  subst hst
  have hA1 := je_A1 hD hS hA
  refine je_after (D := D) (cs := cs) (Q' := Q') (va_runI (As := As) (rest := rest) ⟨hx1, hb, hml, ho, ht⟩ (hct l D cs w H.size hR) (cwI n ht (je_goodc l5) rfl rfl rfl (ht _ l4) (ht _ l1) (ht _ l2) l3 l6 ⟨by show d' + 1 ≤ _; omega, by show 8 + (maxL + 11) + 40 * d' ≤ _; omega⟩) ⟨fun a U g mk q => ?_, fun U hU hW => ?_⟩ rfl hn hl.1 rfl (lv_room hrest) hd ⟨by omega, by omega⟩) hS hA1 (fun v h' w' H1 locs1 hq hR' hP' hD' hS' => ?_)
  · obtain ⟨q0, q1, qP, qK, qD, qz1, qz2⟩ := q
    exact ⟨q0, q1, qP, je_K.same (s := U) (U := U.calling g mk a) rfl qK, qD, sz_T.moved (u := U) (U := U.calling g mk a) (Vm.Alike.refl U.vm) qz1, sz_T.moved (u := U) (U := U.calling g mk a) (Vm.Alike.refl U.vm) qz2⟩
  · refine ⟨rfl, by rw [hU], by rw [hU]; exact hP, hK.warm hW, hD.weaken (fun _ _ _ _ => trivial), ?_, ?_⟩
    · rw [hU]
      exact ((z1.kept hS.2.1).narrow hA1).moved hW.alike
    · rw [hU]
      exact ((z2.kept hS.2.1).narrow hA1).moved hW.alike
  · exact kk v h' hq _ _ _ _ _ _ _ _ _ _ _ _ _ _ hx _ _ _ _ _ _ hR' hP' hD' hS' hl (by omega) (by omega)
theorem En_castI {a : Nat} {x : vp_A} (hC : je_Ok Cx own cc nL d) (hcl : Cond.classLink own idx "[I" ∈ je_T) (hd : decode cc pc = .ok (.checkcast idx, 3)) (ha : h a = some (.inl (0, x))) (kk : En Cx nL (pc + 3) lv (.ref a :: st) h bc bs) : En Cx nL pc lv (.ref a :: st) h bc bs := by
  intro p l e R s m args below meth c D cs A Q hx w H locs cells slots ls hR hP hD hS hl hc hs
  obtain ⟨hx1, hb, hml, ho, ht, hK, hA, hf, hlo⟩ := hC _ _ _ _ _ _ _ _ _ _ _ _ _ _ hx
  obtain ⟨q0, hq0⟩ := hR.2 a _ ha
  exact va_castA hx1 hb ho (ht _ hcl) hP q0 (je_get hq0) (va_nm_int (hK.1.2 0 (cs 0, .int) rfl).2) hd (kk _ _ _ _ _ _ _ _ _ _ _ _ _ _ hx _ _ _ _ _ _ hR hP hD hS hl hc hs)
end CZ
theorem cn_link : Cond.methodLink RX5 25 ⟨"[I", "clone", "()Ljava/lang/Object;"⟩ ∈ je_T := je_in 63 (by decide +kernel) (by decide +kernel)
theorem cn_same : Cond.sameMethod "[I" "java/lang/Object" "clone" "()Ljava/lang/Object;" ∈ je_T := je_in 64 (by decide +kernel) (by decide +kernel)
theorem cn_nat : Cond.native ⟨"java/lang/Object", "clone", "()Ljava/lang/Object;"⟩ ∈ je_T := je_in 65 (by decide +kernel) (by decide +kernel)
theorem cn_inst : Cond.instanceMethod ⟨"java/lang/Object", "clone", "()Ljava/lang/Object;"⟩ ∈ je_T := je_in 66 (by decide +kernel) (by decide +kernel)
theorem cn_sel : Cond.selects "[I" ⟨"[I", "clone", "()Ljava/lang/Object;"⟩ ⟨"java/lang/Object", "clone", "()Ljava/lang/Object;"⟩ ∈ je_T := je_in 67 (by decide +kernel) (by decide +kernel)
theorem cn_cast : Cond.castable "[I" "java/lang/Cloneable" ∈ je_N := by simp [je_N]
theorem En_sclone {Cx : je_C} {cc : ByteArray} {nL d pc bc bs idx1 : Nat} {lv : je_V0} {st : List Value} {h : je_H} {n : String} {N : Nat} {f : Nat → Int32} (hC : je_Ok Cx RX5 cc nL d) (hZ : ∀ p l e R s m args below meth c D cs A Q, Cx p l e R s m args below meth c D cs A Q → sz_T n N f A s s.heap) (hfl : Cond.fieldLink RX5 idx1 RX5 n "[I" ∈ je_T) (hd1 : decode cc pc = .ok (.getstatic idx1, 3)) (hd2 : decode cc (pc + 3) = .ok (.invokevirtual 25, 3)) (h1d : 1 ≤ d) (hst : (st.map fun v => v.category).sum + 14 ≤ 40) (h1 : 1 ≤ bc) (h2 : N ≤ bs)
    (kk : ∀ q : Nat, h q = none → En Cx nL (pc + 6) lv (.ref q :: st) (je_up h q (ai N f)) (bc - 1) (bs - N)) : En Cx nL pc lv st h bc bs := by
  intro p l e R s m args below meth c D cs A Q hx w H locs cells slots ls hR hP hD hS hl hc hs
  obtain ⟨hx1, hb, hml, ho, ht, hK, hA, hf, hlo⟩ := hC _ _ _ _ _ _ _ _ _ _ _ _ _ _ hx
  obtain ⟨t, cell, z1, t1, t2, t3, t4, t5, t6, t7⟩ := hZ _ _ _ _ _ _ _ _ _ _ _ _ _ _ hx
  refine va_gets hx1 hb z1 hS ho (ht _ hfl) (fun _ z => z) hd1 ?_
  have hnm : s.vm.findClass "[I" = some (cs 0) := va_nm_int (hK.1.2 0 (cs 0, .int) rfl).2
  have hcls : cell.cls = cs 0 := Option.some.inj (t4.symm.trans hnm)
  obtain ⟨c0, t0', f1, f2, f3⟩ := Cond.castable_spec (va_Nw.use (A := args) rfl (hK.2.1 _ cn_cast))
  have hc0 : c0 = cell.cls := Option.some.inj (f1.symm.trans t4)
  subst hc0
  have hslots : cell.slots = Array.ofFn (n := N) fun j => Value.int (f j.val) := by
    refine Array.ext (by rw [t5, Array.size_ofFn]) (fun i h1 h2 => ?_)
    have h3 := t6 i (by omega)
    rw [Array.getElem?_eq_getElem h1] at h3
    rw [Option.some.inj h3, Array.getElem_ofFn]
  have hcellE : ({ cls := cell.cls, slots := cell.slots } : Cell) = vp_cell (cs 0) (N, .inl f) := by
    rw [vp_cell_i, hslots, hcls]
    rfl
  intro T hT X
  have hcellT : T.heap[t]? = some cell := by rw [hT, hS.2.1 t (Array.getElem?_eq_some_iff.mp t1).1 t7]; exact t1
  obtain ⟨-, kA, hkA, comp, hkind⟩ := State.isArrayOf_alike X.warmed.alike ((hK.1.2 0 (cs 0, .int) rfl).1 0 (fun _ => .null))
  obtain ⟨-, kS, hkS, compS, hkindS⟩ := (hK.1.2 0 (cs 0, .int) rfl).1 0 (fun _ => .null)
  obtain ⟨vm', X', stp⟩ := X.cloneArray hx1 ho (ht _ cn_link) (ht _ cn_same) (ht _ cn_nat) (ht _ cn_inst) (ht _ cn_sel) (a := t) (cell := cell) hcellT t3 t2 t4 f2 f3
    (fun i v hv => by
      have hk' : T.vm.classes[cell.cls]? = some kA := by rw [hcls]; exact hkA
      have hfit : fits .int v = true := by
        have hi : i < N := by rw [← t5]; exact (Array.getElem?_eq_some_iff.mp hv).1
        rw [t6 i hi] at hv
        cases hv
        rfl
      simpa [State.fitsSlot, State.slotType?, hk', hkind] using hfit)
    (g := F0 m (pc + 3) ls (.ref t :: st)) rfl (by rw [hml]; exact hl.1) rfl (by rw [hb]; exact hd2) (by omega) (by show 2 * 0 + _ + 14 ≤ _; omega) (by omega) (by rw [t5]; omega) (hloader := by rw [hcls]; exact Vm.clonesLoader_of_array hkS hkindS)
  rw [hcellE, t5] at X'
  have e0 := je_push (cs := cs) (w := w) (H.size, ai N f)
  generalize hH1 : H.push (vp_cell (cs 0) (N, .inl f)) = H1
  have z1 : H1.size = H.size + 1 := by rw [← hH1, Array.size_push]
  have e1 : H1[H.size]? = some (vp_cell (cs 0) (N, .inl f)) := by rw [← hH1, Array.getElem?_push_size]
  have o1 : ∀ q : Nat, q < H.size → H1[q]? = H[q]? := fun q hq => by rw [← hH1, Array.getElem?_push, if_neg (Nat.ne_of_lt hq)]
  have hk : ∀ (k : Nat) (y : Nat × va_E), (je_ws cs w)[k]? = some y → H1[y.1]? = H[y.1]? := fun k y hy => o1 y.1 ((hP k y hy).lt)
  have hP1 : va_P D vwCl (je_ws cs (w ++ [(H.size, ai N f)])) H1 := by
    rw [← e0]
    refine (hP.kept hk).app (fun k y hy => ?_)
    have hz : k < 1 := (List.getElem?_eq_some_iff.mp hy).1
    rw [show k = 0 by omega] at hy
    cases hy
    exact e1
  have hD1 : va_D A (je_ws cs (w ++ [(H.size, ai N f)])) := by
    rw [← e0]
    exact hD.push hP rfl (hA _ hS.1)
  obtain ⟨hn, hR1⟩ := je_R_push hR hD1
  obtain ⟨t9, b1, b2⟩ := kk H.size hn _ _ _ _ _ _ _ _ _ _ _ _ _ _ hx _ H1 locs (cells + 1) (slots + N) ls hR1 hP1 hD1 ⟨Nat.le_trans hS.1 (by omega), fun y h1 h2 => (o1 y (Nat.lt_of_lt_of_le h1 hS.1)).trans (hS.2.1 y h1 h2), hS.2.2⟩ hl (by omega) (by omega) ((T.setVm vm').pushCell (vp_cell (cs 0) (N, .inl f))) (by rw [← hH1, ← hT]; rfl) X'
  refine ⟨t9, stp t9 ?_, b2⟩
  rw [hcellE, hT]
  exact b1
