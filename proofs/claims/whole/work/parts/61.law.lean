/-! THE CLAIM OUT OF ONE WALK OF THE LAW'S BODY. Your part is whole_start (and what it stands on); all else here is the same for every law, but numbers. -/
def R_law : String := "TyreBookLaw"
def lw_P (b : Addr) (xs : List Int32) (args : Array Value) (s : State) : Prop := args = #[.ref b] ∧ s.IntsAt b xs ∧ xs.length ≤ 2560 ∧ (Jvm.Cond.and given_1 narrow_1).before args s = true
def lw_Q (_ : Array Value) (s : State) (o : Outcome) (t : State) : Prop := o = .returned (some (.int 1)) ∧ Framed s o t [] 600000 7302250
def lw_Z (below : List Frame) (a : Array Value) (s : State) : State → Prop := fun t => ∃ o, t.status = .running ∧ Ended t below o ∧ lw_Q a s o t
/-- the law's own end, with 1 on the stack, nothing written that was there before, its room as the claim has it -/
theorem lw_ret {p : Program} {l : Launch} {e : Env} {s : State} {m : MethodId} {below : List Frame} {meth : Method} {c : Code} {b : Nat} (hx : p.tables.exec = Jvm.exec) (hb : c.code = code) (hr : meth.sig.returnType = ret) (hlocks : meth.locks = false) {pc : Nat} {H : Heap} {ls : Array Slot} (hdg : decode code pc = .ok (.ireturn, 1)) : W p l e room_1 s m #[Value.ref b] below meth c H [] 600000 7302250 (lw_Z below #[Value.ref b] s) (F0 m pc ls [.int 1]) := by
  intro T hT X
  obtain ⟨fs, hret, hrun, hended, hW, hframe⟩ := X.leave (v := some (.int 1)) (hlocks := hlocks) (fun h => by rw [hr] at h; cases h)
  have hmeth' : T.vm.method? m = some meth := X.method'
  refine ⟨T.setFrames fs, ?_, .returned (some (.int 1)), hrun, hended, rfl, ⟨_, rfl⟩, hW, hframe⟩
  jvm_step X.here [X.here.top, hx, hb, hdg, hmeth', hr, ret, narrow_b1]
  (try refine ⟨rfl, ?_⟩); (try refine ⟨rfl, ?_⟩)
  first | (intro acts; rw [hret _ acts rfl rfl rfl]) | rw [hret _ _ rfl rfl rfl]
  exact Steps.refl _
/-- what holds at the law's entry: the machine, the code, the tables' words (any of lw_tbl by 'hts w (by decide +kernel)'), the script of L ints xs at the cell b, what the Statement gives of the start (any of its parts by flat_of_before) -/
def lw_At (p : Program) (s : State) (m : MethodId) (meth : Method) (c : Code) (b L : Nat) (xs : Nat → Int32) : Prop :=
  p.tables.exec = Jvm.exec ∧ c.code = code ∧ meth.sig.returnType = ret ∧ c.maxLocals = 4 ∧ s.vm.findClass R_law = some m.cls ∧ (∀ w ∈ lw_tbl, w.before #[Value.ref b] s = true) ∧ va_X b L xs s s.heap ∧ b < s.heap.size ∧ meth.locks = false ∧ (Jvm.Cond.and given_1 narrow_1).before #[Value.ref b] s = true

/-! ===== the law's context ===== -/
def LC (b L : Nat) (xs : Nat → Int32) : je_C := fun p _ _ R s m args below meth c D cs A Q => lw_At p s m meth c b L xs ∧ je_K D cs s ∧ A = (fun q => s.heap.size ≤ q) ∧ R = room_1 ∧ args = #[Value.ref b] ∧ Q = lw_Z below #[Value.ref b] s ∧ sz_S A s s.heap
theorem LC_ok {b L : Nat} {xs : Nat → Int32} : je_Ok (LC b L xs) RL cL_law 4 2000 := by
  intro p l e R s m args below meth c D cs A Q hx
  obtain ⟨C0, hK, rfl, rfl, rfl, rfl, hz⟩ := hx
  obtain ⟨hx1, hb, hr, hml, hown, hts, hX, hbl, hlocks, hgv⟩ := C0
  exact ⟨hx1, hb, hml, hown, fun w hw => hts w (List.mem_filter.mp hw).1, hK, fun q hq => hq, by decide, by decide⟩
theorem LC_Z {b L : Nat} {xs : Nat → Int32} : ∀ p l e R s m args below meth c D cs A Q, LC b L xs p l e R s m args below meth c D cs A Q → sz_S A s s.heap := fun _ _ _ _ _ _ _ _ _ _ _ _ _ _ hx => hx.2.2.2.2.2.2
section LAW
variable {b L : Nat} {xs : Nat → Int32} {pc bc bs : Nat} {lv : je_V0} {st : List Value} {h : je_H}
theorem EL_sld {idx : Int32} {j : Nat} (hd : decode cL_law pc = .ok (.iaload, 1)) (he : idx = nI j) (hj : j < L) (hL : L ≤ 2560) (kk : En (LC b L xs) 4 (pc + 1) lv (.int (xs j) :: st) h bc bs) : En (LC b L xs) 4 pc lv (.int idx :: .ref b :: st) h bc bs := by
  intro p l e R s m args below meth c D cs A Q hx w H locs cells slots ls hR hP hD hS hl hc hs
  obtain ⟨C0, hK, rfl, rfl, rfl, rfl, hz⟩ := id hx
  obtain ⟨hx1, hb, hr, hml, hown, hts, hX, hbl, hlocks, hgv⟩ := C0
  subst he
  refine va_sld hx1 hb hX hbl (Nat.not_le.mpr hbl) hS (vp_in_nI hj (by omega)) hd ?_
  rw [nI_clamp (by omega)]
  exact kk _ _ _ _ _ _ _ _ _ _ _ _ _ _ hx _ _ _ _ _ _ hR hP hD hS hl hc hs
theorem EL_slen (hd : decode cL_law pc = .ok (.arraylength, 1)) (kk : En (LC b L xs) 4 (pc + 1) lv (.int (Int32.ofNat L) :: st) h bc bs) : En (LC b L xs) 4 pc lv (.ref b :: st) h bc bs := by
  intro p l e R s m args below meth c D cs A Q hx w H locs cells slots ls hR hP hD hS hl hc hs
  obtain ⟨C0, hK, rfl, rfl, rfl, rfl, hz⟩ := id hx
  obtain ⟨hx1, hb, hr, hml, hown, hts, hX, hbl, hlocks, hgv⟩ := C0
  exact va_slen hx1 hb hX hbl (Nat.not_le.mpr hbl) hS hd (kk _ _ _ _ _ _ _ _ _ _ _ _ _ _ hx _ _ _ _ _ _ hR hP hD hS hl hc hs)
theorem EL_ret (hd : decode cL_law pc = .ok (.ireturn, 1)) : En (LC b L xs) 4 pc lv [.int 1] h bc bs := by
  intro p l e R s m args below meth c D cs A Q hx w H locs cells slots ls hR hP hD hS hl hc hs
  obtain ⟨C0, hK, rfl, rfl, rfl, rfl, hz⟩ := id hx
  obtain ⟨hx1, hb, hr, hml, hown, hts, hX, hbl, hlocks, hgv⟩ := C0
  refine va_forget (fun q hq => hS.2.2 q hq) ?_
  have hc : cells + bc ≤ 600000 := hc
  have hs : slots + bs ≤ 7302250 := hs
  refine W.widen (k := 600000) (n := 7302250) (by omega) (by omega) ?_
  exact lw_ret hx1 hb hr hlocks hd
variable {ad : sA} {nw nt : Nat} {B : sB} {Ls : sL}
theorem Es_sld {idx : Int32} {j : Nat} (hd : decode cL_law pc = .ok (.iaload, 1)) (he : idx = nI j) (hj : j < L) (hL : L ≤ 2560) (kk : Es (LC b L xs) 4 (pc + 1) lv (.int (xs j) :: st) ad nw nt B Ls bc bs) : Es (LC b L xs) 4 pc lv (.int idx :: .ref b :: st) ad nw nt B Ls bc bs := fun h hs => EL_sld hd he hj hL (kk h hs)
theorem Es_slen (hd : decode cL_law pc = .ok (.arraylength, 1)) (kk : Es (LC b L xs) 4 (pc + 1) lv (.int (Int32.ofNat L) :: st) ad nw nt B Ls bc bs) : Es (LC b L xs) 4 pc lv (.ref b :: st) ad nw nt B Ls bc bs := fun h hs => EL_slen hd (kk h hs)
end LAW
theorem lw_cmp {L i : Nat} (hL : L ≤ 2560) (hi : i ≤ 2570) : Int32.ofNat L - 5 < nI i ↔ L < i + 5 := by
  by_cases h5 : L < 5
  · refine ⟨fun _ => by omega, fun _ => ?_⟩
    have h0 : ¬ nI i < 0 := nI_pos (by omega)
    have hneg : Int32.ofNat L - 5 < 0 := by
      rcases (show L = 0 ∨ L = 1 ∨ L = 2 ∨ L = 3 ∨ L = 4 by omega) with rfl | rfl | rfl | rfl | rfl <;> decide
    rw [Int32.lt_iff_toInt_lt] at h0 hneg ⊢
    omega
  · obtain ⟨j, rfl⟩ : ∃ j, L = j + 5 := ⟨L - 5, by omega⟩
    have e : Int32.ofNat (j + 5) - 5 = nI j := by
      rw [show Int32.ofNat (j + 5) = nI j + 5 from (nI_add j 5).symm]
      exact Int32.add_sub_cancel _ _
    rw [e, nI_ltI (by omega) (by omega)]
    omega
theorem and31 (x : Int32) : ∃ c, c < 32 ∧ x &&& 31 = nI c := by
  refine ⟨x.toBitVec.toNat &&& 31, ?_, ?_⟩
  · have := Nat.and_le_right (n := x.toBitVec.toNat) (m := 31)
    omega
  · apply Int32.toBitVec_inj.mp
    apply BitVec.eq_of_toNat_eq
    have h1 := Nat.and_le_right (n := x.toBitVec.toNat) (m := 31)
    show (x.toBitVec &&& (31 : Int32).toBitVec).toNat = (BitVec.ofNat 32 (x.toBitVec.toNat &&& 31)).toNat
    rw [BitVec.toNat_and, BitVec.toNat_ofNat, Nat.mod_eq_of_lt (by omega)]
    rfl
