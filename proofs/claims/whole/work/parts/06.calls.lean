/-! ===== THE LIGHT MACHINE: making, calling, returning; contracts ===== -/
def je_rm (d kc ks : Nat) : Room := { frames := d, cells := kc, slots := ks, locals := 40 * d }
/-- a method's end: an answer, a heap, what Q says of both; nothing else has changed -/
def je_Q (D : va_G) (cs : Nat → ClassId) (Q : Option Value → je_H → Prop) (A : Nat → Prop) : Array Value → State → Outcome → State → Prop := fun _ st oc t =>
  (∃ (v : Option Value) (h : je_H) (w : je_L), oc = .returned v ∧ Q v h ∧ je_R w h ∧ va_P D vwCl (je_ws cs w) t.heap ∧ va_D A (je_ws cs w)) ∧ va_F A st t
/-- THE CONTRACT: called with av over the heap h, y ends with an answer and a heap of which Q holds; d calls deep at most, kc cells of ks slots at most -/
def Ct (y : MethodName) (cc : ByteArray) (nL : Nat) (ret : Option FieldType) (d kc ks : Nat) (av : List Value) (h : je_H) (Q : Option Value → je_H → Prop) : Prop :=
  ∀ (l : Launch) (D : va_G) (cs : Nat → ClassId) (w : je_L) (sz : Nat), je_R w h →
    Met l y (Cond.code y cc nL ret :: je_T) (je_rm d kc ks) (va_Pc av (fun U => U.heap.size = sz ∧ va_P D vwCl (je_ws cs w) U.heap ∧ je_K D cs U ∧ va_D (fun _ => True) (je_ws cs w))) (je_Q D cs Q (va_A (je_ws cs w) sz)) kc ks (va_A (je_ws cs w) sz)
/-- the context of a method's body -/
def je_Cm (y : MethodName) (cc : ByteArray) (nL : Nat) (ret : Option FieldType) (d kc ks : Nat) (Q : Option Value → je_H → Prop) : je_C := fun p _ _ R s m args below meth c D cs A Qt =>
  p.tables.exec = Jvm.exec ∧ c.code = cc ∧ c.maxLocals = nL ∧ s.vm.findClass y.cls = some m.cls ∧ (∀ w ∈ je_T, w.before args s = true) ∧ je_K D cs s ∧ (∀ q : Nat, s.heap.size ≤ q → A q) ∧ meth.sig.returnType = ret ∧ meth.locks = false ∧ meth.name = y.name ∧ R = je_rm d kc ks ∧ Qt = MQ below (je_Q D cs Q A) args s kc ks A
theorem je_Cm_ok {y : MethodName} {cc : ByteArray} {nL : Nat} {ret : Option FieldType} {d kc ks : Nat} {Q : Option Value → je_H → Prop} : je_Ok (je_Cm y cc nL ret d kc ks Q) y.cls cc nL d := by
  intro p l e R s m args below meth c D cs A Qt hx
  obtain ⟨h1, h2, h3, h4, h5, h6, h7, -, -, -, rfl, -⟩ := hx
  exact ⟨h1, h2, h3, h4, h5, h6, h7, Nat.le_refl _, Nat.le_refl _⟩
def je_ar : List Value → je_V0
  | [] => []
  | v :: vs => if v.category = 2 then some v :: none :: je_ar vs else some v :: je_ar vs
def je_en (av : List Value) (nL : Nat) : je_V0 := je_ar av ++ List.replicate (nL - (je_ar av).length) none
theorem je_ar_in : ∀ (vs : List Value) (j i : Nat) (v : Value), (je_ar vs)[i]? = some (some v) → (j + i, v) ∈ lv_args j vs
  | [], _, _, _, h => by simp [je_ar] at h
  | x :: vs, j, i, v, h => by
    unfold je_ar at h
    unfold lv_args
    by_cases hc : x.category = 2
    · rw [if_pos hc] at h
      rw [if_pos hc]
      match i, h with
      | 0, h => simp at h; subst h; exact List.mem_cons_self
      | 1, h => simp at h
      | i + 2, h =>
        have h2 : (je_ar vs)[i]? = some (some v) := by simpa using h
        have := je_ar_in vs (j + 2) i v h2
        rw [show j + (i + 2) = j + 2 + i by omega]
        exact List.mem_cons_of_mem _ this
    · rw [if_neg hc] at h
      rw [if_neg hc]
      match i, h with
      | 0, h => simp at h; subst h; exact List.mem_cons_self
      | i + 1, h =>
        have h2 : (je_ar vs)[i]? = some (some v) := by simpa using h
        have := je_ar_in vs (j + 1) i v h2
        rw [show j + (i + 1) = j + 1 + i by omega]
        exact List.mem_cons_of_mem _ this
theorem je_en_in {av : List Value} {nL i : Nat} {v : Value} (h : (je_en av nL)[i]? = some (some v)) : (i, v) ∈ lv_args 0 av := by
  have h2 : (je_ar av)[i]? = some (some v) := by
    unfold je_en at h
    by_cases hi : i < (je_ar av).length
    · rw [List.getElem?_append_left hi] at h
      exact h
    · rw [List.getElem?_append_right (by omega), List.getElem?_replicate] at h
      split at h <;> cases h
  have := je_ar_in av 0 i v h2
  rwa [Nat.zero_add] at this
/-- a contract out of the walk of its body -/
theorem Ct_of {y : MethodName} {cc : ByteArray} {nL : Nat} {ret : Option FieldType} {d kc ks : Nat} {av : List Value} {h : je_H} {Q : Option Value → je_H → Prop} (lv : je_V0) (hpl : plainName y.cls = true) (hlv : je_en av nL = lv) (hsz : (lg_sl av).length ≤ nL)
    (body : En (je_Cm y cc nL ret d kc ks Q) nL 0 lv [] h kc ks) : Ct y cc nL ret d kc ks av h Q := by
  intro l D cs w sz hR
  refine Met.ofW (cc := cc) (maxL := nL) (ret := ret) hpl rfl ?_
  intro p e s m args below meth c s₁ B hml hv
  obtain ⟨rfl, hsz2, hP, hK, hD0⟩ := hv
  subst hsz2
  subst hlv
  have hts := atoms_spec (ws := Cond.code y cc nL ret :: je_T) B.pre
  have hl0 := lv_entry av (n := nL) hsz
  rw [lg_entry_eq]
  exact body p l e _ s m _ below meth c D cs (va_A (je_ws cs w) s.heap.size) _ ⟨B.exec, B.bytes, hml, findClass_of_methodNamed B.named, fun w hw => hts w (List.mem_cons_of_mem _ hw), hK, fun q hq => Or.inr hq, B.returns, B.notSynchronized, (name_of_methodNamed B.named B.method).1, rfl, rfl⟩ w s.heap [] 0 0 _ hR hP hD0.self va_S.rf ⟨hl0.1, hl0.2.1, fun i v hi => hl0.2.2 (i, v) (je_en_in hi)⟩ (by show 0 + kc ≤ kc; omega) (by show 0 + ks ≤ ks; omega)
/-- a weaker end -/
theorem Ct.mono {y : MethodName} {cc : ByteArray} {nL : Nat} {ret : Option FieldType} {d kc ks : Nat} {av : List Value} {h : je_H} {Q Q' : Option Value → je_H → Prop} (hc : Ct y cc nL ret d kc ks av h Q) (hq : ∀ v h', Q v h' → Q' v h') : Ct y cc nL ret d kc ks av h Q' := by
  intro l D cs w sz hR
  have hM := hc l D cs w sz hR
  intro p e ha hc hk s m args below hf happ hP hX
  obtain ⟨k, o, h1, h2, h3, ⟨⟨v, h', w', a1, a2, a3⟩, a4⟩, h5⟩ := hM p e ha hc hk s m args below hf happ hP hX
  exact ⟨k, o, h1, h2, h3, ⟨⟨v, h', w', a1, hq _ _ a2, a3⟩, a4⟩, h5⟩
section RT
variable {y : MethodName} {cc : ByteArray} {nL d kc ks pc bc bs : Nat} {Q : Option Value → je_H → Prop} {lv : je_V0} {h : je_H}
theorem En_iret {ty : FieldType} {v : Int32} (hd : decode cc pc = .ok (.ireturn, 1)) (hn : narrow ty (.int v) = .int v) (hq : Q (some (.int v)) h) : En (je_Cm y cc nL (some ty) d kc ks Q) nL pc lv [.int v] h bc bs := by
  intro p l e R s m args below meth c D cs A Qt hx w H locs cells slots ls hR hP hD hS hl hc hs
  obtain ⟨h1, h2, h3, h4, h5, h6, h7, hr, hlocks, -, rfl, rfl⟩ := hx
  have hc : cells + bc ≤ kc := hc
  have hs : slots + bs ≤ ks := hs
  refine W.widen (k := kc) (n := ks) (by omega) (by omega) ?_
  exact W.zret h1 h2 hr hn (fun t ht hW => ⟨⟨_, h, w, rfl, hq, hR, by rw [ht]; exact hP, hD⟩, hS.F ht⟩) hS.2.2 hd hlocks
theorem En_lret {v : Int64} (hd : decode cc pc = .ok (.lreturn, 1)) (hq : Q (some (.long v)) h) : En (je_Cm y cc nL (some .long) d kc ks Q) nL pc lv [.long v] h bc bs := by
  intro p l e R s m args below meth c D cs A Qt hx w H locs cells slots ls hR hP hD hS hl hc hs
  obtain ⟨h1, h2, h3, h4, h5, h6, h7, hr, hlocks, -, rfl, rfl⟩ := hx
  have hc : cells + bc ≤ kc := hc
  have hs : slots + bs ≤ ks := hs
  refine W.widen (k := kc) (n := ks) (by omega) (by omega) ?_
  exact W.lret h1 h2 hr (fun t ht hW => ⟨⟨_, h, w, rfl, hq, hR, by rw [ht]; exact hP, hD⟩, hS.F ht⟩) hS.2.2 hd hlocks
theorem En_aret {C : String} {v : Value} (hd : decode cc pc = .ok (.areturn, 1)) (hv : v = .null ∨ ∃ a, v = .ref a) (hq : Q (some v) h) : En (je_Cm y cc nL (some (.object C)) d kc ks Q) nL pc lv [v] h bc bs := by
  intro p l e R s m args below meth c D cs A Qt hx w H locs cells slots ls hR hP hD hS hl hc hs
  obtain ⟨h1, h2, h3, h4, h5, h6, h7, hr, hlocks, -, rfl, rfl⟩ := hx
  have hc : cells + bc ≤ kc := hc
  have hs : slots + bs ≤ ks := hs
  refine W.widen (k := kc) (n := ks) (by omega) (by omega) ?_
  exact W.aret h1 h2 hr (Or.inl ⟨_, rfl⟩) hv (fun t ht hW => ⟨⟨_, h, w, rfl, hq, hR, by rw [ht]; exact hP, hD⟩, hS.F ht⟩) hS.2.2 hd hlocks
theorem En_vret (hd : decode cc pc = .ok (.return_, 1)) (hq : Q none h) : En (je_Cm y cc nL none d kc ks Q) nL pc lv [] h bc bs := by
  intro p l e R s m args below meth c D cs A Qt hx w H locs cells slots ls hR hP hD hS hl hc hs
  obtain ⟨h1, h2, h3, h4, h5, h6, h7, hr, hlocks, -, rfl, rfl⟩ := hx
  have hc : cells + bc ≤ kc := hc
  have hs : slots + bs ≤ ks := hs
  refine W.widen (k := kc) (n := ks) (by omega) (by omega) ?_
  exact W.vret h1 h2 hr (fun t ht hW => ⟨⟨_, h, w, rfl, hq, hR, by rw [ht]; exact hP, hD⟩, hS.F ht⟩) hS.2.2 hd hlocks
end RT
/-! calls -/
theorem je_good {ws : List Cond} (hw : ∀ w ∈ ws, w ∈ je_T) : GoodIn je_T ws := fun w h => ⟨hw w h, good_of_word (List.mem_filter.mp (hw w h)).2⟩
theorem je_goodc {y : MethodName} {cc : ByteArray} {nL : Nat} {ret : Option FieldType} (h : Cond.code y cc nL ret ∈ je_T) : GoodIn je_T (Cond.code y cc nL ret :: je_T) := je_good (fun w hw => (List.mem_cons.mp hw).elim (fun e => by rw [e]; exact h) id)
section CALL
variable {p : Program} {l : Launch} {e : Env} {R : Room} {s : State} {m : MethodId} {args : Array Value} {below : List Frame} {meth : Method} {c : Code} {H : Heap} {locs : List Loc} {cells slots : Nat} {Q : State → Prop}
theorem je_after {D : va_G} {cs : Nat → ClassId} {A A1 : Nat → Prop} {Q' : Option Value → je_H → Prop} {pc : Nat} {ls : Array Slot} {st0 rest : List Value} {a : Array Value} {mc ms : Nat}
    (hr : va_Run p l e R s m args below meth c H locs cells slots mc ms (F0 m pc ls st0) rest (je_Q D cs Q' A1 a) A1) (hS : va_S A s.heap H locs) (hA : ∀ q, A1 q → A q)
    (kk : ∀ (v : Option Value) (h' : je_H) (w' : je_L) (H1 : Heap) (locs1 : List Loc), Q' v h' → je_R w' h' → va_P D vwCl (je_ws cs w') H1 → va_D A (je_ws cs w') → va_S A s.heap H1 locs1 → W p l e R s m args below meth c H1 locs1 (cells + mc) (slots + ms) Q (F0 m (pc + 3) ls (v.toList ++ rest))) : W p l e R s m args below meth c H locs cells slots Q (F0 m pc ls st0) := by
  intro T hT X
  obtain ⟨v, st₀, t, T', L, h0, X', hL, e1, e2, ⟨⟨v', h', w', hv, hq, hR', hP', hD'⟩, hz, hk⟩, st⟩ := hr T hT X
  cases hv
  rw [h0] at hz hk
  obtain ⟨t2, a1, b1⟩ := kk v h' w' T'.heap (locs ++ L) hq hR' (by rw [e1]; exact hP') (hD'.weaken (fun _ _ _ h => hA _ h))
    ⟨Nat.le_trans hS.1 (by rw [e1]; exact hz), fun q h1 h2 => by rw [e1, hk q (Nat.lt_of_lt_of_le h1 hS.1) (fun z => h2 (hA q z))]; exact hS.2.1 q h1 h2, fun q hq => by
      rcases List.mem_append.mp hq with h | h
      · exact hS.2.2 q h
      · exact hA _ (hL q h)⟩ T' rfl X'
  exact ⟨t2, st t2 a1, b1⟩
theorem je_blind {D : va_G} {cs : Nat → ClassId} {w : je_L} {sz : Nat} {av : List Value} : FrameBlind (va_Pc av (fun U => U.heap.size = sz ∧ va_P D vwCl (je_ws cs w) U.heap ∧ je_K D cs U ∧ va_D (fun _ => True) (je_ws cs w))) := fun a U g mk q => by
  obtain ⟨q0, q1, qP, qK, qD⟩ := q
  exact ⟨q0, q1, qP, je_K.same (s := U) (U := U.calling g mk a) rfl qK, qD⟩
theorem je_pre {D : va_G} {cs : Nat → ClassId} {A : Nat → Prop} {w : je_L} {av : List Value} (hK : je_K D cs s) (hP : va_P D vwCl (je_ws cs w) H) (hD : va_D A (je_ws cs w)) (U : State) (hU : U.heap = H) (hW : s.WarmedH U.vm) : (va_Pc av (fun U => U.heap.size = H.size ∧ va_P D vwCl (je_ws cs w) U.heap ∧ je_K D cs U ∧ va_D (fun _ => True) (je_ws cs w))) av.toArray U :=
  ⟨rfl, by rw [hU], by rw [hU]; exact hP, hK.warm hW, hD.weaken (fun _ _ _ _ => trivial)⟩
theorem je_A1 {cs : Nat → ClassId} {A : Nat → Prop} {w : je_L} (hD : va_D A (je_ws cs w)) (hS : va_S A s.heap H locs) (hA : ∀ q : Nat, s.heap.size ≤ q → A q) : ∀ q, va_A (je_ws cs w) H.size q → A q := fun q hq => hq.elim (fun ⟨k, e, hk⟩ => hD.2 k _ hk) (fun hq => hA q (Nat.le_trans hS.1 hq))
end CALL
section ENC
variable {Cx : je_C} {own : String} {cc bytes : ByteArray} {nL d d' pc bc bs kc ks maxL n idx : Nat} {lv : je_V0} {st rest As : List Value} {h : je_H} {y : MethodName} {ret : Option FieldType} {Q' : Option Value → je_H → Prop}
theorem En_callV {b ci : Nat} {fs : List Value} (hC : je_Ok Cx own cc nL d) (hv : je_V own idx y bytes maxL ret n) (hd : decode cc pc = .ok (.invokevirtual idx, 3)) (hct : Ct y bytes maxL ret d' kc ks (.ref b :: As) h Q') (hb0 : h b = some (.inr (ci, fs))) (hcl : ∃ q, vwCl[ci]? = some q ∧ q.1 = y.cls) (hst : st = As.reverse ++ .ref b :: rest) (hn : As.length = n) (hdd : d' + 1 ≤ d) (hrest : (rest.map fun v => v.category).sum ≤ 8) (hkc : kc ≤ bc) (hks : ks ≤ bs)
    (kk : ∀ v h', Q' v h' → En Cx nL (pc + 3) lv (v.toList ++ rest) h' (bc - kc) (bs - ks)) : En Cx nL pc lv st h bc bs := by
  intro p l e R s m args below meth c D cs A Q hx w H locs cells slots ls hR hP hD hS hl hc hs
  obtain ⟨hx1, hb, hml, ho, ht, hK, hA, hf, hlo⟩ := hC _ _ _ _ _ _ _ _ _ _ _ _ _ _ hx
  obtain ⟨l1, l2, l3, l4, l5, l6, l7⟩ := hv
  obtain ⟨q0, hq0⟩ := hR.2 b _ hb0
  obtain ⟨qc, hqc, hqy⟩ := hcl
  have hrecv := va_recv hK.1 hP hqc (je_get hq0)
  rw [hqy] at hrecv
  subst hst
  have hG : GoodIn je_T (wsV own idx y.cls y (Cond.code y bytes maxL ret :: je_T)) := je_good (fun w hw => by
    simp only [wsV, List.cons_append, List.nil_append, List.mem_cons] at hw
    rcases hw with rfl | rfl | rfl | rfl | rfl | hw
    · exact l1
    · exact l2
    · exact l3
    · exact l4
    · exact l5
    · exact hw)
  refine je_after (D := D) (cs := cs) (Q' := Q') (va_runV (As := As) (rest := rest) ⟨hx1, hb, hml, ho, ht⟩ (hct l D cs w H.size hR) (cwV n ht hG rfl rfl rfl ⟨rfl, l6⟩ ⟨by show d' + 1 ≤ _; omega, by show 8 + (maxL + 11) + 40 * d' ≤ _; omega⟩) ⟨je_blind, hrecv, je_pre hK hP hD⟩ rfl hn hl.1 rfl (lv_room hrest) hd ⟨by omega, by omega⟩) hS (je_A1 hD hS hA) (fun v h' w' H1 locs1 hq hR' hP' hD' hS' => ?_)
  exact kk v h' hq _ _ _ _ _ _ _ _ _ _ _ _ _ _ hx _ _ _ _ _ _ hR' hP' hD' hS' hl (by omega) (by omega)
theorem En_callS (hC : je_Ok Cx own cc nL d) (hv : je_S own idx y bytes maxL ret n) (hd : decode cc pc = .ok (.invokestatic idx, 3)) (hct : Ct y bytes maxL ret d' kc ks As h Q') (hst : st = As.reverse ++ rest) (hn : As.length = n) (hdd : d' + 1 ≤ d) (hrest : (rest.map fun v => v.category).sum ≤ 8) (hkc : kc ≤ bc) (hks : ks ≤ bs)
    (kk : ∀ v h', Q' v h' → En Cx nL (pc + 3) lv (v.toList ++ rest) h' (bc - kc) (bs - ks)) : En Cx nL pc lv st h bc bs := by
  intro p l e R s m args below meth c D cs A Q hx w H locs cells slots ls hR hP hD hS hl hc hs
  obtain ⟨hx1, hb, hml, ho, ht, hK, hA, hf, hlo⟩ := hC _ _ _ _ _ _ _ _ _ _ _ _ _ _ hx
  obtain ⟨l1, l2, l4, l5, l6, l7⟩ := hv
  subst hst
  have hG : GoodIn je_T (va_wsS own idx y (Cond.code y bytes maxL ret :: je_T)) := je_good (fun w hw => by
    simp only [va_wsS, List.cons_append, List.nil_append, List.mem_cons] at hw
    rcases hw with rfl | rfl | rfl | rfl | hw
    · exact l1
    · exact l2
    · exact l4
    · exact l5
    · exact hw)
  refine je_after (D := D) (cs := cs) (Q' := Q') (va_runS (As := As) (rest := rest) ⟨hx1, hb, hml, ho, ht⟩ (hct l D cs w H.size hR) (va_cwS n ht hG rfl rfl rfl l6 ⟨by show d' + 1 ≤ _; omega, by show 8 + (maxL + 11) + 40 * d' ≤ _; omega⟩) ⟨je_blind, je_pre hK hP hD⟩ rfl hn hl.1 rfl (lv_room hrest) hd ⟨by omega, by omega⟩) hS (je_A1 hD hS hA) (fun v h' w' H1 locs1 hq hR' hP' hD' hS' => ?_)
  exact kk v h' hq _ _ _ _ _ _ _ _ _ _ _ _ _ _ hx _ _ _ _ _ _ hR' hP' hD' hS' hl (by omega) (by omega)
theorem En_callSN {host : String} (hC : je_Ok Cx own cc nL d) (hv : je_SN own idx y host bytes maxL ret n) (hd : decode cc pc = .ok (.invokestatic idx, 3)) (hct : Ct y bytes maxL ret d' kc ks As h Q') (hst : st = As.reverse ++ rest) (hn : As.length = n) (hdd : d' + 1 ≤ d) (hrest : (rest.map fun v => v.category).sum ≤ 8) (hkc : kc ≤ bc) (hks : ks ≤ bs)
    (kk : ∀ v h', Q' v h' → En Cx nL (pc + 3) lv (v.toList ++ rest) h' (bc - kc) (bs - ks)) : En Cx nL pc lv st h bc bs := by
  intro p l e R s m args below meth c D cs A Q hx w H locs cells slots ls hR hP hD hS hl hc hs
  obtain ⟨hx1, hb, hml, ho, ht, hK, hA, hf, hlo⟩ := hC _ _ _ _ _ _ _ _ _ _ _ _ _ _ hx
  obtain ⟨l1, l2, l4, l5, l6, l7⟩ := hv
  subst hst
  refine je_after (D := D) (cs := cs) (Q' := Q') (va_runSN (As := As) (rest := rest) ⟨hx1, hb, hml, ho, ht⟩ (hct l D cs w H.size hR) ⟨va_cnB n ht (je_goodc l5) rfl rfl rfl (hK.2.1 _ l1) (ht _ l4) l6 ⟨by show d' + 1 ≤ _; omega, by show 8 + (maxL + 11) + 40 * d' ≤ _; omega⟩, ht _ l2, trivial⟩ ⟨je_blind, je_pre hK hP hD⟩ rfl hn hl.1 rfl (lv_room hrest) hd ⟨by omega, by omega⟩) hS (je_A1 hD hS hA) (fun v h' w' H1 locs1 hq hR' hP' hD' hS' => ?_)
  exact kk v h' hq _ _ _ _ _ _ _ _ _ _ _ _ _ _ hx _ _ _ _ _ _ hR' hP' hD' hS' hl (by omega) (by omega)
theorem En_callI {b : Nat} (hC : je_Ok Cx own cc nL d) (hv : je_I own idx y bytes maxL n) (hd : decode cc pc = .ok (.invokespecial idx, 3)) (hct : Ct y bytes maxL none d' kc ks (.ref b :: As) h Q') (hst : st = As.reverse ++ .ref b :: rest) (hn : As.length = n) (hdd : d' + 1 ≤ d) (hrest : (rest.map fun v => v.category).sum ≤ 8) (hkc : kc ≤ bc) (hks : ks ≤ bs)
    (kk : ∀ v h', Q' v h' → En Cx nL (pc + 3) lv (v.toList ++ rest) h' (bc - kc) (bs - ks)) : En Cx nL pc lv st h bc bs := by
  intro p l e R s m args below meth c D cs A Q hx w H locs cells slots ls hR hP hD hS hl hc hs
  obtain ⟨hx1, hb, hml, ho, ht, hK, hA, hf, hlo⟩ := hC _ _ _ _ _ _ _ _ _ _ _ _ _ _ hx
  obtain ⟨l1, l2, l3, l4, l5, l6, l7⟩ := hv
  subst hst
  refine je_after (D := D) (cs := cs) (Q' := Q') (va_runI (As := As) (rest := rest) ⟨hx1, hb, hml, ho, ht⟩ (hct l D cs w H.size hR) (cwI n ht (je_goodc l5) rfl rfl rfl (ht _ l4) (ht _ l1) (ht _ l2) l3 l6 ⟨by show d' + 1 ≤ _; omega, by show 8 + (maxL + 11) + 40 * d' ≤ _; omega⟩) ⟨je_blind, je_pre hK hP hD⟩ rfl hn hl.1 rfl (lv_room hrest) hd ⟨by omega, by omega⟩) hS (je_A1 hD hS hA) (fun v h' w' H1 locs1 hq hR' hP' hD' hS' => ?_)
  exact kk v h' hq _ _ _ _ _ _ _ _ _ _ _ _ _ _ hx _ _ _ _ _ _ hR' hP' hD' hS' hl (by omega) (by omega)
theorem En_callIN {b : Nat} {host : String} (hC : je_Ok Cx own cc nL d) (hv : je_IN own idx y host bytes maxL n) (hd : decode cc pc = .ok (.invokespecial idx, 3)) (hct : Ct y bytes maxL none d' kc ks (.ref b :: As) h Q') (hst : st = As.reverse ++ .ref b :: rest) (hn : As.length = n) (hdd : d' + 1 ≤ d) (hrest : (rest.map fun v => v.category).sum ≤ 8) (hkc : kc ≤ bc) (hks : ks ≤ bs)
    (kk : ∀ v h', Q' v h' → En Cx nL (pc + 3) lv (v.toList ++ rest) h' (bc - kc) (bs - ks)) : En Cx nL pc lv st h bc bs := by
  intro p l e R s m args below meth c D cs A Q hx w H locs cells slots ls hR hP hD hS hl hc hs
  obtain ⟨hx1, hb, hml, ho, ht, hK, hA, hf, hlo⟩ := hC _ _ _ _ _ _ _ _ _ _ _ _ _ _ hx
  obtain ⟨l1, l2, l3, l4, l5, l6, l7⟩ := hv
  subst hst
  refine je_after (D := D) (cs := cs) (Q' := Q') (va_runIN (As := As) (rest := rest) ⟨hx1, hb, hml, ho, ht⟩ (hct l D cs w H.size hR) ⟨va_cnB n ht (je_goodc l5) rfl rfl rfl (hK.2.1 _ l1) (ht _ l4) l6 ⟨by show d' + 1 ≤ _; omega, by show 8 + (maxL + 11) + 40 * d' ≤ _; omega⟩, l3, ht _ l2⟩ ⟨je_blind, je_pre hK hP hD⟩ rfl hn hl.1 rfl (lv_room hrest) hd ⟨by omega, by omega⟩) hS (je_A1 hD hS hA) (fun v h' w' H1 locs1 hq hR' hP' hD' hS' => ?_)
  exact kk v h' hq _ _ _ _ _ _ _ _ _ _ _ _ _ _ hx _ _ _ _ _ _ hR' hP' hD' hS' hl (by omega) (by omega)
theorem En_objInit {a : Nat} (hC : je_Ok Cx own cc nL d) (hli : Cond.methodLink own idx objectInit ∈ je_T) (hd : decode cc pc = .ok (.invokespecial idx, 3)) (h1d : 1 ≤ d) (hrest : (rest.map fun v => v.category).sum ≤ 8) (kk : En Cx nL (pc + 3) lv rest h bc bs) : En Cx nL pc lv (.ref a :: rest) h bc bs := by
  intro p l e R s m args below meth c D cs A Q hx w H locs cells slots ls hR hP hD hS hl hc hs
  obtain ⟨hx1, hb, hml, ho, ht, hK, hA, hf, hlo⟩ := hC _ _ _ _ _ _ _ _ _ _ _ _ _ _ hx
  refine W.objInit hx1 hb ho (ht _ hli) (ht _ oi_im) (ht _ oi_cd) rfl (by rw [hml]; exact hl.1) rfl hd (by omega) ?_ ?_
  · have := lv_room (m := m) (pc := pc) (ls := ls) (rest := .ref a :: rest) hrest
    omega
  · exact kk _ _ _ _ _ _ _ _ _ _ _ _ _ _ hx _ _ _ _ _ _ hR hP hD hS hl hc hs
/-! making -/
theorem En_new {C : String} {T : u_T} {N ci : Nat} {fs : List Value} (hC : je_Ok Cx own cc nL d) (ty0 : Nat → FieldType) (hty : ∀ k, k < N → parseFieldDescriptor (T k).2.2.1 = some (ty0 k)) (hin : ∀ w ∈ u_ws C T N, w ∈ je_T) (hcl : vwCl[ci]? = some (C, T, N)) (hcd : Cond.classLink own idx C ∈ je_T) (hins : Cond.instantiable C N ∈ je_T) (hini : Cond.initialized C ∈ je_T) (hd : decode cc pc = .ok (.new idx, 3)) (hfs : ∀ j, j < N → defaultValue (ty0 j) = vp_V fs j) (h1 : 1 ≤ bc) (h2 : N ≤ bs)
    (kk : ∀ q : Nat, h q = none → En Cx nL (pc + 3) lv (.ref q :: st) (je_up h q (.inr (ci, fs))) (bc - 1) (bs - N)) : En Cx nL pc lv st h bc bs := by
  intro p l e R s m args below meth c D cs A Q hx w H locs cells slots ls hR hP hD hS hl hc hs
  obtain ⟨hx1, hb, hml, ho, ht, hK, hA, hf, hlo⟩ := hC _ _ _ _ _ _ _ _ _ _ _ _ _ _ hx
  refine va_new hx1 hb ht hin ty0 hty ho (ht _ hcd) (ht _ hins) (ht _ hini) hK.1 hP hD hS hA hcl hfs (by omega) (by omega) hd (fun q H1 hP1 hD1 hS1 => ?_)
  have e0 := je_push (cs := cs) (w := w) (q, .inr (ci, fs))
  have hP1 : va_P D vwCl (je_ws cs (w ++ [(q, .inr (ci, fs))])) H1 := by rw [← e0]; exact hP1
  have hD1 : va_D A (je_ws cs (w ++ [(q, .inr (ci, fs))])) := by rw [← e0]; exact hD1
  obtain ⟨hn, hR1⟩ := je_R_push hR hD1
  exact kk q hn _ _ _ _ _ _ _ _ _ _ _ _ _ _ hx _ _ _ _ _ _ hR1 hP1 hD1 hS1 hl (by omega) (by omega)
theorem je_cI {D : va_G} {cs : Nat → ClassId} {U : State} {cA : ClassId} (h : va_K D vwCl (je_tys cs ++ [(cA, .int)]) U) : cA = cs 0 := by
  have h1 : va_RA U (cs 0) .int := (h.2 0 (cs 0, .int) rfl).2
  have h2 : va_RA U cA .int := (h.2 3 (cA, .int) rfl).2
  exact Option.some.inj (Eq.trans (Eq.symm h2) h1)
theorem je_cQ {D : va_G} {cs : Nat → ClassId} {U : State} {cA : ClassId} {t : Nat} (ht : t = 1 ∨ t = 2) (h : va_K D vwCl (je_tys cs ++ [(cA, .object (je_cn t))]) U) : cA = cs t := by
  have h1 : va_RA U (cs t) (.object (je_cn t)) := by
    rcases ht with rfl | rfl
    · exact (h.2 1 (cs 1, .object RX2) rfl).2
    · exact (h.2 2 (cs 2, .object RX3) rfl).2
  have h2 : va_RA U cA (.object (je_cn t)) := (h.2 3 (cA, .object (je_cn t)) rfl).2
  obtain ⟨_, _, _, _, _, g1⟩ := h1
  obtain ⟨_, _, _, _, _, g2⟩ := h2
  exact Option.some.inj (Eq.trans (Eq.symm g2) g1)
theorem En_newa {x : Int32} {N : Nat} (hC : je_Ok Cx own cc nL d) (hd : decode cc pc = .ok (.newarray .int, 2)) (hx0 : ¬ x < 0) (hN : x.toNatClampNeg = N) (hb4 : N ≤ 100000) (h1 : 1 ≤ bc) (h2 : N ≤ bs)
    (kk : ∀ q : Nat, h q = none → En Cx nL (pc + 2) lv (.ref q :: st) (je_up h q (.inl (0, N, .inl (fun _ => 0)))) (bc - 1) (bs - N)) : En Cx nL pc lv (.int x :: st) h bc bs := by
  intro p l e R s m args below meth c D cs A Q hx w H locs cells slots ls hR hP hD hS hl hc hs
  obtain ⟨hx1, hb, hml, ho, ht, hK, hA, hf, hlo⟩ := hC _ _ _ _ _ _ _ _ _ _ _ _ _ _ hx
  refine va_newa (atype := .int) hx1 hb (ty := .int) (N' := N) (a0 := (N, .inl (fun _ => 0))) (ht _ ac_int) rfl hK.1 hP hD hS hA (fun _ => rfl) hx0 hN (by show N * 4 ≤ _; omega) (by omega) (by omega) hd (fun q cA H1 hK1 hP1 hD1 hS1 => ?_)
  have hcA := je_cI hK1
  subst hcA
  have e0 := je_push (cs := cs) (w := w) (q, .inl (0, N, .inl (fun _ => 0)))
  have hP1 : va_P D vwCl (je_ws cs (w ++ [(q, .inl (0, N, .inl (fun _ => 0)))])) H1 := by rw [← e0]; exact hP1
  have hD1 : va_D A (je_ws cs (w ++ [(q, .inl (0, N, .inl (fun _ => 0)))])) := by rw [← e0]; exact hD1
  obtain ⟨hn, hR1⟩ := je_R_push hR hD1
  exact kk q hn _ _ _ _ _ _ _ _ _ _ _ _ _ _ hx _ _ _ _ _ _ hR1 hP1 hD1 hS1 hl (by omega) (by omega)
theorem En_newq {x : Int32} {N t : Nat} (hC : je_Ok Cx own cc nL d) (ht3 : t = 1 ∨ t = 2) (hcd : Cond.classLink own idx (je_cn t) ∈ je_T) (hd : decode cc pc = .ok (.anewarray idx, 3)) (hx0 : ¬ x < 0) (hN : x.toNatClampNeg = N) (hb4 : N ≤ 100000) (h1 : 1 ≤ bc) (h2 : N ≤ bs)
    (kk : ∀ q : Nat, h q = none → En Cx nL (pc + 3) lv (.ref q :: st) (je_up h q (.inl (t, N, .inr (.inr (.inr (.inr (fun _ => none))))))) (bc - 1) (bs - N)) : En Cx nL pc lv (.int x :: st) h bc bs := by
  intro p l e R s m args below meth c D cs A Q hx w H locs cells slots ls hR hP hD hS hl hc hs
  obtain ⟨hx1, hb, hml, ho, ht, hK, hA, hf, hlo⟩ := hC _ _ _ _ _ _ _ _ _ _ _ _ _ _ hx
  have hAO : va_AO (je_cn t) s := by
    rcases ht3 with rfl | rfl
    · exact hK.2.2.1
    · exact hK.2.2.2
  refine va_newq hx1 hb ho (ht _ hcd) hAO hK.1 hP hD hS hA hx0 hN (by omega) (by omega) (by omega) hd (fun q cA H1 hK1 hP1 hD1 hS1 => ?_)
  have hcA := je_cQ ht3 hK1
  subst hcA
  have e0 := je_push (cs := cs) (w := w) (q, .inl (t, N, .inr (.inr (.inr (.inr (fun _ => none))))))
  have hP1 : va_P D vwCl (je_ws cs (w ++ [(q, .inl (t, N, .inr (.inr (.inr (.inr (fun _ => none))))))])) H1 := by rw [← e0]; exact hP1
  have hD1 : va_D A (je_ws cs (w ++ [(q, .inl (t, N, .inr (.inr (.inr (.inr (fun _ => none))))))])) := by rw [← e0]; exact hD1
  obtain ⟨hn, hR1⟩ := je_R_push hR hD1
  exact kk q hn _ _ _ _ _ _ _ _ _ _ _ _ _ _ hx _ _ _ _ _ _ hR1 hP1 hD1 hS1 hl (by omega) (by omega)
theorem En_putF {y0 : MethodName} {kc0 ks0 : Nat} {Q0 : Option Value → je_H → Prop} {ret0 : Option FieldType} {T : u_T} {N ci a : Nat} {fs : List Value} {v : Value} {ty : FieldType} (k : Nat) (hini : y0.name = "<init>") (ty0 : Nat → FieldType) (hty : ∀ k, k < N → parseFieldDescriptor (T k).2.2.1 = some (ty0 k)) (hnm : ∀ a, a < N → ∀ b, b < N → a ≠ b → (T a).2.1 ≠ (T b).2.1) (hin : ∀ w ∈ u_ws y0.cls T N, w ∈ je_T) (hcl : vwCl[ci]? = some (y0.cls, T, N)) (hlk : Cond.fieldLink y0.cls idx (T k).1 (T k).2.1 (T k).2.2.1 ∈ je_T) (hkN : k < N) (hfin : (T k).2.2.2 = true) (hdecl : (T k).1 = y0.cls) (hd : decode cc pc = .ok (.putfield idx, 3)) (ha : h a = some (.inr (ci, fs))) (hde : parseFieldDescriptor (T k).2.2.1 = some ty) (hn : narrow ty v = v) (hfit : fits ty v = true) (hle : k < fs.length)
    (kk : En (je_Cm y0 cc nL ret0 d kc0 ks0 Q0) nL (pc + 3) lv st (je_up h a (.inr (ci, fs.set k v))) bc bs) : En (je_Cm y0 cc nL ret0 d kc0 ks0 Q0) nL pc lv (v :: .ref a :: st) h bc bs := by
  intro p l e R s m args below meth c D cs A Q hx w H locs cells slots ls hR hP hD hS hl hc hs
  obtain ⟨hx1, hb, hml, ho, ht, hK, hA, hf, hlo⟩ := je_Cm_ok _ _ _ _ _ _ _ _ _ _ _ _ _ _ hx
  have hmn : meth.name = "<init>" := by rw [hx.2.2.2.2.2.2.2.2.2.1]; exact hini
  obtain ⟨q0, hq0⟩ := hR.2 a _ ha
  refine va_putF hx1 hb ht hin ty0 hty hnm ho hK.1 hP hD hS q0 (je_get hq0) hcl k hkN (ht _ hlk) (fun _ z => z) hfin hmn hdecl hde hn hfit hle hd (fun H1 locs1 hP1 hD1 hS1 => ?_)
  have e0 := je_set (cs := cs) (w := w) (k := q0) (a, .inr (ci, fs.set k v))
  have hP1 : va_P D vwCl (je_ws cs (w.set q0 (a, .inr (ci, fs.set k v)))) H1 := by rw [← e0]; exact hP1
  have hD1 : va_D A (je_ws cs (w.set q0 (a, .inr (ci, fs.set k v)))) := by rw [← e0]; exact hD1
  exact kk _ _ _ _ _ _ _ _ _ _ _ _ _ _ hx _ _ _ _ _ _ (je_R_set _ hR hq0 hD) hP1 hD1 hS1 hl hc hs
end ENC
