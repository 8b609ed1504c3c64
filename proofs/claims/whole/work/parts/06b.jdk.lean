/-! methods of the JDK that no native row replaces: the same contract -/
theorem MetofWF {l : Launch} {y : MethodName} {ws ws' : List Cond} {rm : Room} {Pc : Array Value → State → Prop} {Qc : Array Value → State → Outcome → State → Prop} {mc ms : Nat} {free : Addr → Prop} {cc : ByteArray} {maxL : Nat} {ret : Option FieldType}
    (hy : plainFor y = true) (hw : ws = Cond.code y cc maxL ret :: ws')
    (body : ∀ p e s m args below meth c s₁, BodyLoose p l y (headSpec ws rm) cc maxL ret e s m args below meth c s₁ → c.maxLocals = maxL → Pc args s →
      W p l e (headSpec ws rm).room s m args below meth c s.heap [] 0 0 (MQ below Qc args s mc ms free) (entryFrame m args maxL)) : Met l y ws rm Pc Qc mc ms free := by
  refine MetFree.of_bodySF (code := cc) (maxLocals := maxL) (ret := ret) hy ?_ ?_
  · intro args s m h hn
    obtain ⟨meth, c, h1, h2, h3, h4, h5, h6, -, -⟩ := Cond.code_spec hn (atoms_spec (ws := ws) h _ (by rw [hw]; exact List.mem_cons_self))
    exact ⟨meth, c, h1, h2, h3, h4, h5, h6⟩
  · intro p e s m args below meth c s₁ B hml hP _
    have hh0 : s₁.heap = s.heap := by rw [B.state]; rfl
    obtain ⟨t, a1, o, b1, b2, b3⟩ := body p e s m args below meth c s₁ B hml hP s₁ hh0 (Stand.of_body B)
    exact ⟨t, o, a1, b1, b2, ⟨b3.1, b3.2⟩⟩
theorem Ct_ofF {y : MethodName} {cc : ByteArray} {nL : Nat} {ret : Option FieldType} {d kc ks : Nat} {av : List Value} {h : je_H} {Q : Option Value → je_H → Prop} (lv : je_V0) (hpl : plainFor y = true) (hlv : je_en av nL = lv) (hsz : (lg_sl av).length ≤ nL)
    (body : En (je_Cm y cc nL ret d kc ks Q) nL 0 lv [] h kc ks) : Ct y cc nL ret d kc ks av h Q := by
  intro l D cs w sz hR
  refine MetofWF (cc := cc) (maxL := nL) (ret := ret) hpl rfl ?_
  intro p e s m args below meth c s₁ B hml hv
  obtain ⟨rfl, hsz2, hP, hK, hD0⟩ := hv
  subst hsz2
  subst hlv
  have hts := atoms_spec (ws := Cond.code y cc nL ret :: je_T) B.pre
  have hl0 := lv_entry av (n := nL) hsz
  rw [lg_entry_eq]
  exact body p l e _ s m _ below meth c D cs (va_A (je_ws cs w) s.heap.size) _ ⟨B.exec, B.bytes, hml, findClass_of_methodNamed B.named, fun w hw => hts w (List.mem_cons_of_mem _ hw), hK, fun q hq => Or.inr hq, B.returns, B.notSynchronized, (name_of_methodNamed B.named B.method).1, rfl, rfl⟩ w s.heap [] 0 0 _ hR hP hD0.self va_S.rf ⟨hl0.1, hl0.2.1, fun i v hi => hl0.2.2 (i, v) (je_en_in hi)⟩ (by show 0 + kc ≤ kc; omega) (by show 0 + ks ≤ ks; omega)
