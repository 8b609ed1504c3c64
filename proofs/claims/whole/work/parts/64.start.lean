/-! ===== NOT THE CLAIM: what holds from every start of the statement in which, beyond its premises, the two static arrays are of the class called "[I" (sz_X) ===== -/
def sz_X (args : Array Value) (s : State) : Prop := (Cond.exactly (.static "TyreBook" "FIRST_LEASTS" "[I") "[I").before args s = true ∧ (Cond.exactly (.static "TyreBook" "FIRST_MEANS" "[I") "[I").before args s = true
theorem len_exact {args : Array Value} {s : State} {t : Term} {n : Nat} (hn : n < 2 ^ 31) (h : (Term.length t).eval args s none [] s = some (.int (Int32.ofNat n))) : ∃ a cell, t.eval args s none [] s = some (.ref a) ∧ s.arrayAt? a = some cell ∧ cell.slots.size = n := by
  simp only [Term.eval, Option.bind_eq_bind] at h
  cases ht : t.eval args s none [] s with
  | none => simp [ht] at h
  | some x =>
    cases x <;> simp [ht] at h
    case ref a =>
      obtain ⟨cell, hcell, h⟩ := Option.bind_eq_some_iff.mp h
      by_cases hs : cell.slots.size < 2147483648
      · rw [if_pos hs] at h
        have h2 : cell.slots.size.toInt32 = Int32.ofNat n := Value.int.inj (Option.some.inj h)
        exact ⟨a, cell, rfl, hcell, (nI_eq (by omega) (by omega)).mp (show nI cell.slots.size = nI n from h2)⟩
      · rw [if_neg hs] at h
        cases h
theorem sz_T_of {args : Array Value} {s : State} {nm : String} {N : Nat} {f : Nat → Int32} (hN : N < 2 ^ 31) (hl : (Cond.laysStatic RX5 nm "[I").before args s = true) (hini : (Cond.initialized RX5).before args s = true) (harr : (Cond.arrayOf (.static RX5 nm "[I") .int).before args s = true) (hlen : (Cond.eq (.length (.static RX5 nm "[I")) (.int (Int32.ofNat N))).before args s = true) (hel : ∀ j, j < N → (Cond.eq (.elem (.static RX5 nm "[I") (.int (Int32.ofNat j))) (.int (f j))).before args s = true) (hex : (Cond.exactly (.static RX5 nm "[I") "[I").before args s = true) : sz_T nm N f (fun q => s.heap.size ≤ q) s s.heap := by
  obtain ⟨a, c, cell, k, e1, e2, e3, e4, e5, e6, -⟩ := Cond.exactly_spec hex
  obtain ⟨a', cell', l1, l2, l3⟩ := len_exact hN (va_eqt hlen)
  cases e1.symm.trans l1
  obtain ⟨hc2, hkn, -, -⟩ := State.arrayAt?_spec l2
  cases e3.symm.trans hc2
  obtain ⟨hof, hun⟩ := Cond.arrayOf_spec harr e1 e3
  have hA : ∀ q : Nat, q < s.heap.size → ¬ (fun q => s.heap.size ≤ q) q := fun q h => Nat.not_le.mpr h
  obtain ⟨t, g1, cell2, g2, g3, g4, g5, g6, g7, g8⟩ := va_Tof (f := fun j => .int (f j)) hN harr (va_eqt hlen) (fun j hj => va_eqt (hel j hj)) hA
  cases e1.symm.trans g1
  cases e3.symm.trans g2
  exact ⟨a, cell, va_Zof hl hini e1 hA, e3, hun, hof.1, by rw [e6]; exact e2, l3, g7, g8⟩
set_option maxRecDepth 100000 in
theorem sz_S_of {args : Array Value} {s : State} (hts : ∀ w ∈ lw_tbl, w.before args s = true) (hg : (Jvm.Cond.and given_1 narrow_1).before args s = true) (hx : sz_X args s) : sz_S (fun q => s.heap.size ≤ q) s s.heap := by
  have hs := flat_of_before _ hg
  have hini := hts _ (List.mem_filter.mp it_X5).1
  refine ⟨sz_T_of (by decide) (hts _ ls_FIRST_LEASTS) hini (hs _ (by decide +kernel)) (hs _ (by decide +kernel)) (fun j hj => ?_) hx.1, sz_T_of (by decide) (hts _ ls_FIRST_MEANS) hini (hs _ (by decide +kernel)) (hs _ (by decide +kernel)) (fun j hj => ?_) hx.2⟩
  · rcases (show j = 0 ∨ j = 1 ∨ j = 2 ∨ j = 3 ∨ j = 4 by omega) with rfl | rfl | rfl | rfl | rfl <;> exact hs _ (by decide +kernel)
  · rcases (show j = 0 ∨ j = 1 ∨ j = 2 ∨ j = 3 by omega) with rfl | rfl | rfl | rfl <;> exact hs _ (by decide +kernel)
/-- the classes of both systems, and their array classes, at the start -/
theorem je_K_of {args : Array Value} {s : State} (hts : ∀ w ∈ lw_tbl, w.before args s = true) : ∃ D cs, je_K D cs s := by
  have ht : ∀ w ∈ je_T, w.before args s = true := fun w hw => hts w (List.mem_filter.mp hw).1
  obtain ⟨c0, i0, h0⟩ := u_known (n := 4) ht uw_X0 (ht _ in_X0)
  obtain ⟨c1, i1, h1⟩ := u_known (n := 9) ht uw_X1 (ht _ in_X1)
  obtain ⟨c2, i2, h2⟩ := u_known (n := 12) ht uw_X2 (ht _ in_X2)
  obtain ⟨c3, i3, h3⟩ := u_known (n := 4) ht uw_X3 (ht _ in_X3)
  obtain ⟨c4, i4, h4⟩ := u_known (n := 2) ht uw_X4 (ht _ in_X4)
  obtain ⟨c5, i5, h5⟩ := u_known (n := 12) ht uw_X5 (ht _ in_X5)
  obtain ⟨c6, i6, h6⟩ := u_known (n := 34) ht uw_X6 (ht _ in_X6)
  obtain ⟨cI, kI, pI, a1, a2, a3⟩ := Cond.arrayClass_spec (ht _ ac_int)
  have hO2 := hts _ je_AO2_in
  have hO3 := hts _ je_AO3_in
  obtain ⟨p2, cT, kT, b1, -, b3, b4, b5⟩ := Cond.arrayOver_spec hO2
  obtain ⟨p3, cW, kW, d1, -, d3, d4, d5⟩ := Cond.arrayOver_spec hO3
  refine ⟨(fun k => match k with | 0 => c0 | 1 => c1 | 2 => c2 | 3 => c3 | 4 => c4 | 5 => c5 | _ => c6, fun k => match k with | 0 => i0 | 1 => i1 | 2 => i2 | 3 => i3 | 4 => i4 | 5 => i5 | _ => i6), fun t => match t with | 0 => cI | 1 => cT | _ => cW, ⟨fun c q hq => ?_, fun k q hq => ?_⟩, fun w hw => ?_, va_AO.of hO2, va_AO.of hO3⟩
  · match c, hq with
    | 0, hq => cases hq; exact h0
    | 1, hq => cases hq; exact h1
    | 2, hq => cases hq; exact h2
    | 3, hq => cases hq; exact h3
    | 4, hq => cases hq; exact h4
    | 5, hq => cases hq; exact h5
    | 6, hq => cases hq; exact h6
    | c + 7, hq => simp [vwCl] at hq
  · match k, hq with
    | 0, hq => cases hq; exact ⟨fun n z => ⟨fun k h => (by cases h), kI, a2, pI, a3⟩, a1⟩
    | 1, hq => cases hq; exact ⟨fun n z => ⟨fun k h => (by cases h), kT, b3, p2, b4⟩, kT, p2, b3, b4, b1, b5⟩
    | 2, hq => cases hq; exact ⟨fun n z => ⟨fun k h => (by cases h), kW, d3, p3, d4⟩, kW, p3, d3, d4, d1, d5⟩
    | k + 3, hq => simp [je_tys] at hq
  · have h9 := hts w (je_N_in w hw)
    rcases je_N_kind w hw with ⟨a, i, x, b, rfl⟩ | ⟨a, b, rfl⟩ <;> exact va_Nw.of rfl h9
set_option maxHeartbeats 4000000 in
set_option maxRecDepth 100000 in
theorem whole_start_if {p : Program} {e : Env} {s : State} {m : MethodId} {below : List Frame} {meth : Method} {c : Code} (l : Launch) {b L : Nat} {xs : Nat → Int32} (hL : L ≤ 2560) (C0 : lw_At p s m meth c b L xs) (hX : sz_X #[Value.ref b] s) : W p l e room_1 s m #[Value.ref b] below meth c s.heap [] 0 0 (lw_Z below #[Value.ref b] s) (entryFrame m ([Value.ref b] : List Value).toArray 4) := by
  obtain ⟨hx, hb, hr, hml, hown, hts, hX0, hbl, hlocks, hgv⟩ := id C0
  obtain ⟨D, cs, hK⟩ := je_K_of hts
  have hz := sz_S_of hts hgv hX
  have hl0 := lv_entry ([.ref b]) (n := 4) (Nat.le_of_ble_eq_true rfl)
  rw [lg_entry_eq]
  exact law_start (b := b) (L := L) (xs := xs) hL p l e room_1 s m #[Value.ref b] below meth c D cs (fun q => s.heap.size ≤ q) _ ⟨C0, hK, rfl, rfl, rfl, rfl, hz⟩ [] s.heap [] 0 0 _ ⟨fun k q h => by simp at h, fun a e h => by cases h⟩ (fun k q h => by simp [je_ws] at h) ⟨fun i j p q h => by simp [je_ws] at h, fun k q h => by simp [je_ws] at h⟩ va_S.rf ⟨hl0.1, hl0.2.1, fun i v hi => hl0.2.2 (i, v) (je_en_in (av := [.ref b]) (nL := 4) hi)⟩ (by decide) (by decide)
set_option maxHeartbeats 4000000 in
theorem lw_walk_if (l : Launch) (b : Addr) (xs : List Int32) : MetFree l x (headSpec (Jvm.Cond.code x code maxLocals ret :: tables_1) room_1) (fun a s => lw_P b xs a s ∧ sz_X a s) (fun _ _ _ _ _ => True) lw_Q := by
  refine MetFree.of_bodyS (code := code) (maxLocals := maxLocals) (ret := ret) (by decide) ?_ ?_
  · intro args s m h hn
    obtain ⟨meth, c, h1, h2, h3, h4, h5, h6, -, -⟩ := Cond.code_spec hn (atoms_spec (ws := Jvm.Cond.code x code maxLocals ret :: tables_1) h _ List.mem_cons_self)
    exact ⟨meth, c, h1, h2, h3, h4, h5, h6⟩
  · intro p e s m args below meth c s₁ B hml0 hP _
    obtain ⟨⟨rfl, hx, hbd, hgv⟩, hsx⟩ := hP
    obtain ⟨scr, harrAt, hlist, hof, hsmall⟩ := hx
    obtain ⟨hcb, hkn, -, -⟩ := State.arrayAt?_spec harrAt
    have hown : s.vm.findClass R_law = some m.cls := findClass_of_methodNamed B.named
    have hts0 : ∀ c ∈ (Jvm.Cond.code x code maxLocals ret :: tables_1), c.before #[Value.ref b] s = true := atoms_spec (ws := Jvm.Cond.code x code maxLocals ret :: tables_1) B.pre
    have hts : ∀ w ∈ lw_tbl, w.before #[Value.ref b] s = true := k2_hts_sels lw_privs (fun w hw => hts0 w (List.mem_cons_of_mem _ hw)) lw_privs_ok
    have hml : c.maxLocals = 4 := B.maxLocals_eq (hts0 _ List.mem_cons_self)
    have X₀ : Stand p l e room_1 s m #[Value.ref b] below meth c s₁ [] 0 0 := Stand.of_body B
    have hh0 : s₁.heap = s.heap := by rw [B.state]; rfl
    have hsz : scr.slots.size = xs.length := by rw [← Array.length_toList, hlist, List.length_map]
    have hval : ∀ j : Nat, j < xs.length → scr.slots[j]? = some (.int (xs.getD j 0)) := fun j hj => by
      rw [← Array.getElem?_toList, hlist]
      simp [hj]
    have hbl : b < s.heap.size := (Array.getElem?_eq_some_iff.mp hcb).1
    have hX : va_X b xs.length (fun j => xs.getD j 0) s s.heap := ⟨scr, hcb, hof, hkn, hsz, hval⟩
    have K : W p l e room_1 s m #[Value.ref b] below meth c s₁.heap [] 0 0 (lw_Z below #[Value.ref b] s) (entryFrame m ([Value.ref b] : List Value).toArray 4) := by
      rw [hh0]
      exact whole_start_if l hbd ⟨B.exec, B.bytes, B.returns, hml, hown, hts, hX, hbl, B.notSynchronized, hgv⟩ hsx
    obtain ⟨t, a1, o, b1, b2, b3⟩ := K s₁ rfl X₀
    exact ⟨t, o, a1, b1, b2, b3⟩
theorem lw_pre_spec {args : Array Value} {s : State} (h : (Jvm.Cond.and given_1 narrow_1).before args s = true) (hr : rest_1_c.before args s = true) : ∃ (b : Addr) (xs : List Int32), lw_P b xs args s := by
  have hs := flat_of_before _ h
  have hq := flat_of_before _ hr
  have hc : (Cond.count 1).before args s = true := hs _ (by decide +kernel)
  have harr : (Cond.arrayOf (.arg 0) .int).before args s = true := hs _ (by decide +kernel)
  have hle : (Cond.le (.length (.arg 0)) (.int 2560)).before args s = true := hs _ (by decide +kernel)
  have hlen : (Cond.isInt (.length (.arg 0))).before args s = true := hq _ (by decide +kernel)
  have hall : (Cond.all (.arg 0) (.isInt (.elem (.arg 0) (.index 0)))).before args s = true := hq _ (by decide +kernel)
  obtain ⟨b, xs, hb, hx⟩ := State.ints_of_pre rfl harr hlen hall
  have hsm : xs.length < 2 ^ 31 := hx.choose_spec.2.2.2
  have hev : (Term.length (.arg 0)).eval args s none [] s = some (.int xs.length.toInt32) := hx.length_eval hb
  have hv := Cond.le_ints hev (show (Term.int 2560).eval args s none [] s = some (.int 2560) from rfl)
  have hd : xs.length.toInt32 ≤ 2560 := by
    simpa [Cond.before, Cond.holds, hv] using hle
  have hN : xs.length ≤ 2560 := (Int32.ofNat_le_ofNat hsm (by decide)).mp (show Int32.ofNat xs.length ≤ Int32.ofNat 2560 from hd)
  exact ⟨b, xs, Cond.one_arg hc (show args[0]? = some (.ref b) from hb), hx, hN, h⟩
theorem lw_comes_if (l : Launch) : Comes l x (Jvm.Cond.code x code maxLocals ret :: tables_1) room_1 (fun tb e args s => Calls_1 tb e args s ∧ rest_1 tb e args s ∧ Pre_1 tb e args s ∧ sz_X args s)
    (fun _ _ args s o t => lw_Q args s o t) := by
  intro p e ha hc hk s m args below hf hfit hheap happ hpre
  obtain ⟨b, xs, hP⟩ := lw_pre_spec hpre.2.2.1 hpre.2.1
  obtain ⟨k, o, h1, h2, h3, hQ⟩ := lw_walk_if l b xs p e ha hc hk s m args below hf ((Spec.applies_iff_loose hf).mp happ).1 ⟨hP, hpre.2.2.2⟩ trivial
  exact ⟨k, o, h1, h2, h3, hQ⟩
theorem lw_frame {s t : State} {o : Outcome} {args : Array Value} (h : Framed s o t [] 600000 7302250) :
    Framed s o t (fieldLocs frame_1_writes args s ++ arrayLocs frame_1_arrays args s ++ staticLocs frame_1_statics s) 600000 7302250 := h
theorem lw_limb_if (L : Cond) (hL : ∀ (args : Array Value) (s t : State), L.after args s (.returned (some (.int 1))) t = true) :
    ArmFor flags0 classFile x code maxLocals ret World_1 tables_1 room_1 Calls_1 rest_1 (fun tb e a s => Pre_1 tb e a s ∧ sz_X a s)
      (fun tb e a s o t => postC L tb e a s o t ∧ Framed s o t (fieldLocs frame_1_writes a s ++ arrayLocs frame_1_arrays a s ++ staticLocs frame_1_statics s) 600000 7302250) := by
  intro l _ _ _ p e ha hc hk s m args below hf hfit hheap happ hpre
  obtain ⟨k, o, h1, h2, h3, rfl, hF⟩ := lw_comes_if l p e ha hc hk s m args below hf hfit hheap happ hpre
  exact ⟨k, _, h1, h2, h3, hL args s _, lw_frame hF⟩
/-- NOT THE CLAIM (Claimed_1_1 ∧ Claimed_1_2 is false: 60.odd): both halves, from every start of the statement in which the two static arrays are of the class called "[I" -/
theorem whole_if : ArmFor flags0 classFile x code maxLocals ret World_1 tables_1 room_1 Calls_1 rest_1 (fun tb e a s => Pre_1 tb e a s ∧ sz_X a s) Post_1_1 ∧ ArmFor flags0 classFile x code maxLocals ret World_1 tables_1 room_1 Calls_1 rest_1 (fun tb e a s => Pre_1 tb e a s ∧ sz_X a s) Post_1_2 := ⟨lw_limb_if limb_1_1 (fun args s t => by simp [limb_1_1, Cond.after, Cond.holds, Cond.value]), lw_limb_if limb_1_2 (fun args s t => Cond.after_iff.mpr (by
  first | (rw [show limb_1_2 = Cond.eq .result (.int 1) from rfl, Cond.eq_ints (x := 1) (y := 1) rfl rfl]; simp; done) | (simp [limb_1_2, Cond.value, Term.eval]; done)))⟩
