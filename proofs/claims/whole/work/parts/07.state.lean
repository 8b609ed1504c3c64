/-! ===== THE STATE OF BOTH SYSTEMS: cells by kind and number; B the ints, L the longs ===== -/
abbrev sA : Type := Nat → Nat → Nat
abbrev sB : Type := Nat → Nat → Nat → Int32
abbrev sL : Type := Nat → Nat → Nat → Int64
def rT (ad : sA) (x : Int32) : Option Nat := if x < 0 then none else some (ad 21 x.toNatClampNeg)
def ai (n : Nat) (f : Nat → Int32) : je_E := .inl (0, n, .inl f)
def ar (t n : Nat) (f : Nat → Option Nat) : je_E := .inl (t, n, .inr (.inr (.inr (.inr f))))
def sC (ad : sA) (nw nt : Nat) (B : sB) (L : sL) (kd j : Nat) : je_E := match kd with
  | 0 => .inr (5, [.ref (ad 1 0), .ref (ad 2 0), .ref (ad 3 0), .ref (ad 4 0), .ref (ad 5 0), .ref (ad 6 0), .ref (ad 10 0), .ref (ad 17 0), .int (B 0 0 8), .int (B 0 0 9), .int (B 0 0 10), .int (B 0 0 11)])
  | 1 => ar 2 5 (fun i => if i < nw then some (ad 18 i) else none)
  | 2 => ar 1 40 (fun i => if i < nt then some (ad 21 i) else none)
  | 3 => ai 5 (B 3 0)
  | 4 => ai 4 (B 4 0)
  | 5 => ai 7 (B 5 0)
  | 6 => .inr (0, [.ref (ad 7 0), .ref (ad 8 0), .ref (ad 9 0), .int (B 6 0 3)])
  | 7 => ai 600 (B 7 0)
  | 8 => ai 600 (B 8 0)
  | 9 => ai 600 (B 9 0)
  | 10 => .inr (1, [.ref (ad 11 0), .ref (ad 12 0), .ref (ad 13 0), .ref (ad 14 0), .ref (ad 15 0), .ref (ad 16 0), .int (B 10 0 6), .int (B 10 0 7), .int (B 10 0 8)])
  | 11 => ar 1 7 (fun i => rT ad (B 11 0 i))
  | 12 => ai 49 (B 12 0)
  | 13 => ai 7 (B 13 0)
  | 14 => ai 7 (B 14 0)
  | 15 => ai 7 (B 15 0)
  | 16 => ai 1024 (B 16 0)
  | 17 => .inr (4, [.long (L 17 0 0), .long (L 17 0 1)])
  | 18 => .inr (3, [.int (B 18 j 0), .ref (ad 19 j), .ref (ad 20 j), .int (B 18 j 3)])
  | 19 => ai 7 (B 19 j)
  | 20 => ar 1 7 (fun i => rT ad (B 20 j i))
  | 21 => .inr (2, [.int (B 21 j 0), .int (B 21 j 1), .int (B 21 j 2), .ref (ad 22 j), .ref (ad 23 j), .ref (ad 24 j), .int (B 21 j 6), .int (B 21 j 7), .int (B 21 j 8), .int (B 21 j 9), .int (B 21 j 10), .int (B 21 j 11)])
  | 22 => ai 12 (B 22 j)
  | 23 => ai 12 (B 23 j)
  | 24 => .inr (4, [.long (L 24 j 0), .long (L 24 j 1)])
  | 25 => .inr (6, [.ref (ad 30 0), .ref (ad 31 0), .ref (ad 32 0), .int (B 25 0 3), .int (B 25 0 4), .int (B 25 0 5), .int (B 25 0 6), .int (B 25 0 7), .ref (ad 38 0), .ref (ad 39 0), .ref (ad 40 0), .ref (ad 41 0), .ref (ad 42 0), .ref (ad 43 0), .ref (ad 44 0), .ref (ad 45 0), .ref (ad 46 0), .ref (ad 47 0), .ref (ad 48 0), .ref (ad 49 0), .ref (ad 50 0), .ref (ad 51 0), .ref (ad 52 0), .ref (ad 53 0), .ref (ad 54 0), .long (L 25 0 25), .long (L 25 0 26), .ref (ad 57 0), .ref (ad 58 0), .ref (ad 59 0), .ref (ad 60 0), .int (B 25 0 31), .int (B 25 0 32), .int (B 25 0 33)])
  | 30 => ai 7 (B 30 0)
  | 31 => ai 5 (B 31 0)
  | 32 => ai 4 (B 32 0)
  | 38 => ai 5 (B 38 0)
  | 39 => ai 35 (B 39 0)
  | 40 => ai 35 (B 40 0)
  | 41 => ai 35 (B 41 0)
  | 42 => ai 40 (B 42 0)
  | 43 => ai 40 (B 43 0)
  | 44 => ai 40 (B 44 0)
  | 45 => ai 40 (B 45 0)
  | 46 => ai 40 (B 46 0)
  | 47 => ai 40 (B 47 0)
  | 48 => ai 40 (B 48 0)
  | 49 => ai 40 (B 49 0)
  | 50 => ai 520 (B 50 0)
  | 51 => ai 520 (B 51 0)
  | 52 => ai 600 (B 52 0)
  | 53 => ai 600 (B 53 0)
  | 54 => ai 600 (B 54 0)
  | 57 => ai 7 (B 57 0)
  | 58 => ai 7 (B 58 0)
  | 59 => ai 7 (B 59 0)
  | 60 => ai 35 (B 60 0)
  | _ => ai 0 (fun _ => 0)
def sOk (nw nt kd j : Nat) : Bool := match kd with
  | 0 => Nat.beq j 0
  | 1 => Nat.beq j 0
  | 2 => Nat.beq j 0
  | 3 => Nat.beq j 0
  | 4 => Nat.beq j 0
  | 5 => Nat.beq j 0
  | 6 => Nat.beq j 0
  | 7 => Nat.beq j 0
  | 8 => Nat.beq j 0
  | 9 => Nat.beq j 0
  | 10 => Nat.beq j 0
  | 11 => Nat.beq j 0
  | 12 => Nat.beq j 0
  | 13 => Nat.beq j 0
  | 14 => Nat.beq j 0
  | 15 => Nat.beq j 0
  | 16 => Nat.beq j 0
  | 17 => Nat.beq j 0
  | 18 => Nat.blt j nw
  | 19 => Nat.blt j nw
  | 20 => Nat.blt j nw
  | 21 => Nat.blt j nt
  | 22 => Nat.blt j nt
  | 23 => Nat.blt j nt
  | 24 => Nat.blt j nt
  | 25 => Nat.beq j 0
  | 30 => Nat.beq j 0
  | 31 => Nat.beq j 0
  | 32 => Nat.beq j 0
  | 38 => Nat.beq j 0
  | 39 => Nat.beq j 0
  | 40 => Nat.beq j 0
  | 41 => Nat.beq j 0
  | 42 => Nat.beq j 0
  | 43 => Nat.beq j 0
  | 44 => Nat.beq j 0
  | 45 => Nat.beq j 0
  | 46 => Nat.beq j 0
  | 47 => Nat.beq j 0
  | 48 => Nat.beq j 0
  | 49 => Nat.beq j 0
  | 50 => Nat.beq j 0
  | 51 => Nat.beq j 0
  | 52 => Nat.beq j 0
  | 53 => Nat.beq j 0
  | 54 => Nat.beq j 0
  | 57 => Nat.beq j 0
  | 58 => Nat.beq j 0
  | 59 => Nat.beq j 0
  | 60 => Nat.beq j 0
  | _ => false
def sH (ad : sA) (nw nt : Nat) (B : sB) (L : sL) (h : je_H) : Prop := (∀ kd j, sOk nw nt kd j = true → h (ad kd j) = some (sC ad nw nt B L kd j)) ∧ ∀ kd j kd' j', sOk nw nt kd j = true → sOk nw nt kd' j' = true → ad kd j = ad kd' j' → kd = kd' ∧ j = j'
def uB (B : sB) (k j i : Nat) (x : Int32) : sB := fun k' j' i' => if k' = k ∧ j' = j ∧ i' = i then x else B k' j' i'
def uL (L : sL) (k j i : Nat) (x : Int64) : sL := fun k' j' i' => if k' = k ∧ j' = j ∧ i' = i then x else L k' j' i'
theorem uB_s (B : sB) (k j i : Nat) (x : Int32) : uB B k j i x k j i = x := by simp [uB]
theorem uB_n {B : sB} {k j i k' j' i' : Nat} {x : Int32} (hn : ¬ (k' = k ∧ j' = j ∧ i' = i)) : uB B k j i x k' j' i' = B k' j' i' := by simp only [uB, if_neg hn]
theorem uB_r {B : sB} {k j k' j' : Nat} {i : Nat} {x : Int32} (hn : ¬ (k' = k ∧ j' = j)) : uB B k j i x k' j' = B k' j' := by
  funext i'
  exact uB_n (fun q => hn ⟨q.1, q.2.1⟩)
theorem uB_a (B : sB) (k j i : Nat) (x : Int32) : uB B k j i x k j = upd (B k j) i x := by
  funext i'
  simp [uB, upd]
theorem uL_s (L : sL) (k j i : Nat) (x : Int64) : uL L k j i x k j i = x := by simp [uL]
theorem uL_r {L : sL} {k j k' j' : Nat} {i : Nat} {x : Int64} (hn : ¬ (k' = k ∧ j' = j)) : uL L k j i x k' j' = L k' j' := by
  funext i'
  simp only [uL]
  rw [if_neg (fun q => hn ⟨q.1, q.2.1⟩)]
theorem sC_congr {ad : sA} {nw nt : Nat} {B B' : sB} {L L' : sL} {kd j : Nat} (hB : B kd j = B' kd j) (hL : L kd j = L' kd j) (hj : sOk nw nt kd j = true) : sC ad nw nt B L kd j = sC ad nw nt B' L' kd j := by
  unfold sC
  unfold sOk at hj
  split <;> first | rfl | (simp only [hB]; done) | (simp only [hL]; done) | (have hj0 : j = 0 := Nat.eq_of_beq_eq_true (by simpa using hj); subst hj0; simp only [hB, hL])
theorem sH_upd {ad : sA} {nw nt : Nat} {B B' : sB} {L L' : sL} {h : je_H} {kd j : Nat} {e : je_E} (hs : sH ad nw nt B L h) (hk : sOk nw nt kd j = true) (he : e = sC ad nw nt B' L' kd j) (hB : ∀ kd' j', ¬ (kd' = kd ∧ j' = j) → B' kd' j' = B kd' j') (hL : ∀ kd' j', ¬ (kd' = kd ∧ j' = j) → L' kd' j' = L kd' j') : sH ad nw nt B' L' (je_up h (ad kd j) e) := by
  refine ⟨fun kd' j' hk' => ?_, hs.2⟩
  by_cases hq : kd' = kd ∧ j' = j
  · obtain ⟨rfl, rfl⟩ := hq
    rw [je_up_s, he]
  · have hne : ad kd' j' ≠ ad kd j := fun z => hq (hs.2 _ _ _ _ hk' hk z)
    rw [je_up_n hne, hs.1 kd' j' hk', sC_congr (hB kd' j' hq) (hL kd' j' hq) hk']
def Es (Cx : je_C) (nL pc : Nat) (lv : je_V0) (st : List Value) (ad : sA) (nw nt : Nat) (B : sB) (L : sL) (bc bs : Nat) : Prop := ∀ h, sH ad nw nt B L h → En Cx nL pc lv st h bc bs
def sQ (ad : sA) (nw nt : Nat) (Q : Option Value → sB → sL → Prop) : Option Value → je_H → Prop := fun v h => ∃ B L, sH ad nw nt B L h ∧ Q v B L
/-- a contract over the state -/
def Cs (y : MethodName) (cc : ByteArray) (nL : Nat) (ret : Option FieldType) (d : Nat) (av : List Value) (ad : sA) (nw nt : Nat) (B : sB) (L : sL) (Q : Option Value → sB → sL → Prop) : Prop := ∀ h, sH ad nw nt B L h → Ct y cc nL ret d 0 0 av h (sQ ad nw nt Q)
/-- the same, where answer and state are known -/
abbrev Cf (y : MethodName) (cc : ByteArray) (nL : Nat) (ret : Option FieldType) (d : Nat) (av : List Value) (ad : sA) (nw nt : Nat) (B : sB) (L : sL) (v0 : Option Value) (B' : sB) (L' : sL) : Prop := Cs y cc nL ret d av ad nw nt B L (fun v B1 L1 => v = v0 ∧ B1 = B' ∧ L1 = L')
abbrev sCm (y : MethodName) (cc : ByteArray) (nL : Nat) (ret : Option FieldType) (d : Nat) (ad : sA) (nw nt : Nat) (Q : Option Value → sB → sL → Prop) : je_C := je_Cm y cc nL ret d 0 0 (sQ ad nw nt Q)
theorem Cs_of {y : MethodName} {cc : ByteArray} {nL : Nat} {ret : Option FieldType} {d : Nat} {av : List Value} {ad : sA} {nw nt : Nat} {B : sB} {L : sL} {Q : Option Value → sB → sL → Prop} (lv : je_V0) (hpl : plainName y.cls = true) (hlv : je_en av nL = lv) (hsz : (lg_sl av).length ≤ nL)
    (body : Es (sCm y cc nL ret d ad nw nt Q) nL 0 lv [] ad nw nt B L 0 0) : Cs y cc nL ret d av ad nw nt B L Q := fun h hs => Ct_of lv hpl hlv hsz (body h hs)
theorem Cs.mono {y : MethodName} {cc : ByteArray} {nL : Nat} {ret : Option FieldType} {d : Nat} {av : List Value} {ad : sA} {nw nt : Nat} {B : sB} {L : sL} {Q Q' : Option Value → sB → sL → Prop} (hc : Cs y cc nL ret d av ad nw nt B L Q) (hq : ∀ v B' L', Q v B' L' → Q' v B' L') : Cs y cc nL ret d av ad nw nt B L Q' := fun h hs => (hc h hs).mono (fun v h' ⟨B', L', h1, h2⟩ => ⟨B', L', h1, hq _ _ _ h2⟩)
section ES
variable {Cx : je_C} {own : String} {cc : ByteArray} {nL d pc bc bs : Nat} {lv : je_V0} {st rest : List Value} {ad : sA} {nw nt : Nat} {B : sB} {L : sL}
theorem Es.kill {lv' : je_V0} (i : Nat) (hlv : lv.set i none = lv') (k : Es Cx nL pc lv' st ad nw nt B L bc bs) : Es Cx nL pc lv st ad nw nt B L bc bs := fun h hs => En.kill i hlv (k h hs)
theorem Es.less {bc' bs' : Nat} (h1 : bc' ≤ bc) (h2 : bs' ≤ bs) (k : Es Cx nL pc lv st ad nw nt B L bc' bs') : Es Cx nL pc lv st ad nw nt B L bc bs := fun h hs => En.less h1 h2 (k h hs)
theorem Es.eqB {B' : sB} (hB : B = B') (k : Es Cx nL pc lv st ad nw nt B' L bc bs) : Es Cx nL pc lv st ad nw nt B L bc bs := by subst hB; exact k
theorem Es.eqL {L' : sL} (hL : L = L') (k : Es Cx nL pc lv st ad nw nt B L' bc bs) : Es Cx nL pc lv st ad nw nt B L bc bs := by subst hL; exact k
theorem Es.eqS {st' : List Value} (hst : st = st') (k : Es Cx nL pc lv st' ad nw nt B L bc bs) : Es Cx nL pc lv st ad nw nt B L bc bs := by subst hst; exact k
theorem Es.eqV {lv' : je_V0} (hst : lv = lv') (k : Es Cx nL pc lv' st ad nw nt B L bc bs) : Es Cx nL pc lv st ad nw nt B L bc bs := by subst hst; exact k
theorem Es_iconst (hC : je_Ok Cx own cc nL d) {n : Int} {v : Int32} (hd : decode cc pc = .ok (.iconst n, 1)) (hv : Int32.ofInt n = v) (k : Es Cx nL (pc + 1) lv (.int v :: st) ad nw nt B L bc bs) : Es Cx nL pc lv (st) ad nw nt B L bc bs := fun h hs => En_iconst hC hd hv (k h hs)
theorem Es_bipush (hC : je_Ok Cx own cc nL d) {n : Int} {v : Int32} (hd : decode cc pc = .ok (.bipush n, 2)) (hv : (Int8.ofInt n).toInt32 = v) (k : Es Cx nL (pc + 2) lv (.int v :: st) ad nw nt B L bc bs) : Es Cx nL pc lv (st) ad nw nt B L bc bs := fun h hs => En_bipush hC hd hv (k h hs)
theorem Es_sipush (hC : je_Ok Cx own cc nL d) {n : Int} {v : Int32} (hd : decode cc pc = .ok (.sipush n, 3)) (hv : (Int16.ofInt n).toInt32 = v) (k : Es Cx nL (pc + 3) lv (.int v :: st) ad nw nt B L bc bs) : Es Cx nL pc lv (st) ad nw nt B L bc bs := fun h hs => En_sipush hC hd hv (k h hs)
theorem Es_lconst (hC : je_Ok Cx own cc nL d) {n : Fin 2} {v : Int64} (hd : decode cc pc = .ok (.lconst n, 1)) (hv : Int64.ofNat (n : Nat) = v) (k : Es Cx nL (pc + 1) lv (.long v :: st) ad nw nt B L bc bs) : Es Cx nL pc lv (st) ad nw nt B L bc bs := fun h hs => En_lconst hC hd hv (k h hs)
theorem Es_null (hC : je_Ok Cx own cc nL d) (hd : decode cc pc = .ok (.aconst_null, 1)) (k : Es Cx nL (pc + 1) lv (.null :: st) ad nw nt B L bc bs) : Es Cx nL pc lv (st) ad nw nt B L bc bs := fun h hs => En_null hC hd (k h hs)
theorem Es_iload_n (hC : je_Ok Cx own cc nL d) {n : Fin 4} {x : Int32} (hd : decode cc pc = .ok (.iload_n n, 1)) (hv : lv[(n : Nat)]? = some (some (.int x))) (k : Es Cx nL (pc + 1) lv (.int x :: st) ad nw nt B L bc bs) : Es Cx nL pc lv (st) ad nw nt B L bc bs := fun h hs => En_iload_n hC hd hv (k h hs)
theorem Es_iload (hC : je_Ok Cx own cc nL d) {i : Nat} {x : Int32} (hd : decode cc pc = .ok (.iload i, 2)) (hv : lv[i]? = some (some (.int x))) (k : Es Cx nL (pc + 2) lv (.int x :: st) ad nw nt B L bc bs) : Es Cx nL pc lv (st) ad nw nt B L bc bs := fun h hs => En_iload hC hd hv (k h hs)
theorem Es_lload_n (hC : je_Ok Cx own cc nL d) {n : Fin 4} {x : Int64} (hd : decode cc pc = .ok (.lload_n n, 1)) (hv : lv[(n : Nat)]? = some (some (.long x))) (k : Es Cx nL (pc + 1) lv (.long x :: st) ad nw nt B L bc bs) : Es Cx nL pc lv (st) ad nw nt B L bc bs := fun h hs => En_lload_n hC hd hv (k h hs)
theorem Es_lload (hC : je_Ok Cx own cc nL d) {i : Nat} {x : Int64} (hd : decode cc pc = .ok (.lload i, 2)) (hv : lv[i]? = some (some (.long x))) (k : Es Cx nL (pc + 2) lv (.long x :: st) ad nw nt B L bc bs) : Es Cx nL pc lv (st) ad nw nt B L bc bs := fun h hs => En_lload hC hd hv (k h hs)
theorem Es_aload_n (hC : je_Ok Cx own cc nL d) {n : Fin 4} {x : Nat} (hd : decode cc pc = .ok (.aload_n n, 1)) (hv : lv[(n : Nat)]? = some (some (.ref x))) (k : Es Cx nL (pc + 1) lv (.ref x :: st) ad nw nt B L bc bs) : Es Cx nL pc lv (st) ad nw nt B L bc bs := fun h hs => En_aload_n hC hd hv (k h hs)
theorem Es_aload (hC : je_Ok Cx own cc nL d) {i : Nat} {x : Nat} (hd : decode cc pc = .ok (.aload i, 2)) (hv : lv[i]? = some (some (.ref x))) (k : Es Cx nL (pc + 2) lv (.ref x :: st) ad nw nt B L bc bs) : Es Cx nL pc lv (st) ad nw nt B L bc bs := fun h hs => En_aload hC hd hv (k h hs)
theorem Es_aload_nN (hC : je_Ok Cx own cc nL d) {n : Fin 4} (hd : decode cc pc = .ok (.aload_n n, 1)) (hv : lv[(n : Nat)]? = some (some .null)) (k : Es Cx nL (pc + 1) lv (.null :: st) ad nw nt B L bc bs) : Es Cx nL pc lv (st) ad nw nt B L bc bs := fun h hs => En_aload_nN hC hd hv (k h hs)
theorem Es_aloadN (hC : je_Ok Cx own cc nL d) {i : Nat} (hd : decode cc pc = .ok (.aload i, 2)) (hv : lv[i]? = some (some .null)) (k : Es Cx nL (pc + 2) lv (.null :: st) ad nw nt B L bc bs) : Es Cx nL pc lv (st) ad nw nt B L bc bs := fun h hs => En_aloadN hC hd hv (k h hs)
theorem Es_iadd (hC : je_Ok Cx own cc nL d) {x y : Int32} (hd : decode cc pc = .ok (.iadd, 1)) (k : Es Cx nL (pc + 1) lv (.int (x + y) :: st) ad nw nt B L bc bs) : Es Cx nL pc lv (.int y :: .int x :: st) ad nw nt B L bc bs := fun h hs => En_iadd hC hd (k h hs)
theorem Es_isub (hC : je_Ok Cx own cc nL d) {x y : Int32} (hd : decode cc pc = .ok (.isub, 1)) (k : Es Cx nL (pc + 1) lv (.int (x - y) :: st) ad nw nt B L bc bs) : Es Cx nL pc lv (.int y :: .int x :: st) ad nw nt B L bc bs := fun h hs => En_isub hC hd (k h hs)
theorem Es_imul (hC : je_Ok Cx own cc nL d) {x y : Int32} (hd : decode cc pc = .ok (.imul, 1)) (k : Es Cx nL (pc + 1) lv (.int (x * y) :: st) ad nw nt B L bc bs) : Es Cx nL pc lv (.int y :: .int x :: st) ad nw nt B L bc bs := fun h hs => En_imul hC hd (k h hs)
theorem Es_iand (hC : je_Ok Cx own cc nL d) {x y : Int32} (hd : decode cc pc = .ok (.iand, 1)) (k : Es Cx nL (pc + 1) lv (.int (x &&& y) :: st) ad nw nt B L bc bs) : Es Cx nL pc lv (.int y :: .int x :: st) ad nw nt B L bc bs := fun h hs => En_iand hC hd (k h hs)
theorem Es_ior (hC : je_Ok Cx own cc nL d) {x y : Int32} (hd : decode cc pc = .ok (.ior, 1)) (k : Es Cx nL (pc + 1) lv (.int (x ||| y) :: st) ad nw nt B L bc bs) : Es Cx nL pc lv (.int y :: .int x :: st) ad nw nt B L bc bs := fun h hs => En_ior hC hd (k h hs)
theorem Es_ishl (hC : je_Ok Cx own cc nL d) {x y : Int32} (hd : decode cc pc = .ok (.ishl, 1)) (k : Es Cx nL (pc + 1) lv (.int (x <<< (y &&& 31)) :: st) ad nw nt B L bc bs) : Es Cx nL pc lv (.int y :: .int x :: st) ad nw nt B L bc bs := fun h hs => En_ishl hC hd (k h hs)
theorem Es_ishr (hC : je_Ok Cx own cc nL d) {x y : Int32} (hd : decode cc pc = .ok (.ishr, 1)) (k : Es Cx nL (pc + 1) lv (.int (x >>> (y &&& 31)) :: st) ad nw nt B L bc bs) : Es Cx nL pc lv (.int y :: .int x :: st) ad nw nt B L bc bs := fun h hs => En_ishr hC hd (k h hs)
theorem Es_idiv (hC : je_Ok Cx own cc nL d) {x y : Int32} (hd : decode cc pc = .ok (.idiv, 1)) (hne : ¬ y = 0) (k : Es Cx nL (pc + 1) lv (.int (x / y) :: st) ad nw nt B L bc bs) : Es Cx nL pc lv (.int y :: .int x :: st) ad nw nt B L bc bs := fun h hs => En_idiv hC hd hne (k h hs)
theorem Es_ineg (hC : je_Ok Cx own cc nL d) {x : Int32} (hd : decode cc pc = .ok (.ineg, 1)) (k : Es Cx nL (pc + 1) lv (.int (-x) :: st) ad nw nt B L bc bs) : Es Cx nL pc lv (.int x :: st) ad nw nt B L bc bs := fun h hs => En_ineg hC hd (k h hs)
theorem Es_ladd (hC : je_Ok Cx own cc nL d) {x y : Int64} (hd : decode cc pc = .ok (.ladd, 1)) (k : Es Cx nL (pc + 1) lv (.long (x + y) :: st) ad nw nt B L bc bs) : Es Cx nL pc lv (.long y :: .long x :: st) ad nw nt B L bc bs := fun h hs => En_ladd hC hd (k h hs)
theorem Es_lsub (hC : je_Ok Cx own cc nL d) {x y : Int64} (hd : decode cc pc = .ok (.lsub, 1)) (k : Es Cx nL (pc + 1) lv (.long (x - y) :: st) ad nw nt B L bc bs) : Es Cx nL pc lv (.long y :: .long x :: st) ad nw nt B L bc bs := fun h hs => En_lsub hC hd (k h hs)
theorem Es_lmul (hC : je_Ok Cx own cc nL d) {x y : Int64} (hd : decode cc pc = .ok (.lmul, 1)) (k : Es Cx nL (pc + 1) lv (.long (x * y) :: st) ad nw nt B L bc bs) : Es Cx nL pc lv (.long y :: .long x :: st) ad nw nt B L bc bs := fun h hs => En_lmul hC hd (k h hs)
theorem Es_lxor (hC : je_Ok Cx own cc nL d) {x y : Int64} (hd : decode cc pc = .ok (.lxor, 1)) (k : Es Cx nL (pc + 1) lv (.long (x ^^^ y) :: st) ad nw nt B L bc bs) : Es Cx nL pc lv (.long y :: .long x :: st) ad nw nt B L bc bs := fun h hs => En_lxor hC hd (k h hs)
theorem Es_ldiv (hC : je_Ok Cx own cc nL d) {x y : Int64} (hd : decode cc pc = .ok (.ldiv, 1)) (hne : ¬ y = 0) (k : Es Cx nL (pc + 1) lv (.long (x / y) :: st) ad nw nt B L bc bs) : Es Cx nL pc lv (.long y :: .long x :: st) ad nw nt B L bc bs := fun h hs => En_ldiv hC hd hne (k h hs)
theorem Es_lrem (hC : je_Ok Cx own cc nL d) {x y : Int64} (hd : decode cc pc = .ok (.lrem, 1)) (hne : ¬ y = 0) (k : Es Cx nL (pc + 1) lv (.long (x - x / y * y) :: st) ad nw nt B L bc bs) : Es Cx nL pc lv (.long y :: .long x :: st) ad nw nt B L bc bs := fun h hs => En_lrem hC hd hne (k h hs)
theorem Es_lcmp (hC : je_Ok Cx own cc nL d) {x y : Int64} (hd : decode cc pc = .ok (.lcmp, 1)) (k : Es Cx nL (pc + 1) lv (.int (lg_cmp x y) :: st) ad nw nt B L bc bs) : Es Cx nL pc lv (.long y :: .long x :: st) ad nw nt B L bc bs := fun h hs => En_lcmp hC hd (k h hs)
theorem Es_i2l (hC : je_Ok Cx own cc nL d) {x : Int32} (hd : decode cc pc = .ok (.i2l, 1)) (k : Es Cx nL (pc + 1) lv (.long x.toInt64 :: st) ad nw nt B L bc bs) : Es Cx nL pc lv (.int x :: st) ad nw nt B L bc bs := fun h hs => En_i2l hC hd (k h hs)
theorem Es_l2i (hC : je_Ok Cx own cc nL d) {x : Int64} (hd : decode cc pc = .ok (.l2i, 1)) (k : Es Cx nL (pc + 1) lv (.int x.toInt32 :: st) ad nw nt B L bc bs) : Es Cx nL pc lv (.long x :: st) ad nw nt B L bc bs := fun h hs => En_l2i hC hd (k h hs)
theorem Es_dup (hC : je_Ok Cx own cc nL d) {v : Value} (hd : decode cc pc = .ok (.dup, 1)) (hv : v.category = 1) (k : Es Cx nL (pc + 1) lv (v :: v :: st) ad nw nt B L bc bs) : Es Cx nL pc lv (v :: st) ad nw nt B L bc bs := fun h hs => En_dup hC hd hv (k h hs)
theorem Es_dup2 (hC : je_Ok Cx own cc nL d) {v u : Value} (hd : decode cc pc = .ok (.dup2, 1)) (hv : v.category = 1) (hu : u.category = 1) (k : Es Cx nL (pc + 1) lv (v :: u :: v :: u :: st) ad nw nt B L bc bs) : Es Cx nL pc lv (v :: u :: st) ad nw nt B L bc bs := fun h hs => En_dup2 hC hd hv hu (k h hs)
theorem Es_istore_n {lv' : je_V0} (hC : je_Ok Cx own cc nL d) {n : Fin 4} {x : Int32} (hd : decode cc pc = .ok (.istore_n n, 1)) (hi : (n : Nat) < nL) (hn : je_nl lv (n : Nat) = true) (hlv : lv.set (n : Nat) (some (.int x)) = lv') (k : Es Cx nL (pc + 1) lv' st ad nw nt B L bc bs) : Es Cx nL pc lv (.int x :: st) ad nw nt B L bc bs := fun h hs => En_istore_n hC hd hi hn hlv (k h hs)
theorem Es_istore {lv' : je_V0} (hC : je_Ok Cx own cc nL d) {i : Nat} {x : Int32} (hd : decode cc pc = .ok (.istore i, 2)) (hi : i < nL) (hn : je_nl lv i = true) (hlv : lv.set i (some (.int x)) = lv') (k : Es Cx nL (pc + 2) lv' st ad nw nt B L bc bs) : Es Cx nL pc lv (.int x :: st) ad nw nt B L bc bs := fun h hs => En_istore hC hd hi hn hlv (k h hs)
theorem Es_lstore_n {lv' : je_V0} (hC : je_Ok Cx own cc nL d) {n : Fin 4} {x : Int64} (hd : decode cc pc = .ok (.lstore_n n, 1)) (hi : (n : Nat) + 1 < nL) (hn : je_nl lv (n : Nat) = true) (hlv : (lv.set (n : Nat) (some (.long x))).set ((n : Nat) + 1) none = lv') (k : Es Cx nL (pc + 1) lv' st ad nw nt B L bc bs) : Es Cx nL pc lv (.long x :: st) ad nw nt B L bc bs := fun h hs => En_lstore_n hC hd hi hn hlv (k h hs)
theorem Es_lstore {lv' : je_V0} (hC : je_Ok Cx own cc nL d) {i : Nat} {x : Int64} (hd : decode cc pc = .ok (.lstore i, 2)) (hi : i + 1 < nL) (hn : je_nl lv i = true) (hlv : (lv.set i (some (.long x))).set (i + 1) none = lv') (k : Es Cx nL (pc + 2) lv' st ad nw nt B L bc bs) : Es Cx nL pc lv (.long x :: st) ad nw nt B L bc bs := fun h hs => En_lstore hC hd hi hn hlv (k h hs)
theorem Es_astore_n {lv' : je_V0} (hC : je_Ok Cx own cc nL d) {n : Fin 4} {x : Nat} (hd : decode cc pc = .ok (.astore_n n, 1)) (hi : (n : Nat) < nL) (hn : je_nl lv (n : Nat) = true) (hlv : lv.set (n : Nat) (some (.ref x)) = lv') (k : Es Cx nL (pc + 1) lv' st ad nw nt B L bc bs) : Es Cx nL pc lv (.ref x :: st) ad nw nt B L bc bs := fun h hs => En_astore_n hC hd hi hn hlv (k h hs)
theorem Es_astore {lv' : je_V0} (hC : je_Ok Cx own cc nL d) {i : Nat} {x : Nat} (hd : decode cc pc = .ok (.astore i, 2)) (hi : i < nL) (hn : je_nl lv i = true) (hlv : lv.set i (some (.ref x)) = lv') (k : Es Cx nL (pc + 2) lv' st ad nw nt B L bc bs) : Es Cx nL pc lv (.ref x :: st) ad nw nt B L bc bs := fun h hs => En_astore hC hd hi hn hlv (k h hs)
theorem Es_astore_nN {lv' : je_V0} (hC : je_Ok Cx own cc nL d) {n : Fin 4} (hd : decode cc pc = .ok (.astore_n n, 1)) (hi : (n : Nat) < nL) (hn : je_nl lv (n : Nat) = true) (hlv : lv.set (n : Nat) (some (.null)) = lv') (k : Es Cx nL (pc + 1) lv' st ad nw nt B L bc bs) : Es Cx nL pc lv (.null :: st) ad nw nt B L bc bs := fun h hs => En_astore_nN hC hd hi hn hlv (k h hs)
theorem Es_astoreN {lv' : je_V0} (hC : je_Ok Cx own cc nL d) {i : Nat} (hd : decode cc pc = .ok (.astore i, 2)) (hi : i < nL) (hn : je_nl lv i = true) (hlv : lv.set i (some (.null)) = lv') (k : Es Cx nL (pc + 2) lv' st ad nw nt B L bc bs) : Es Cx nL pc lv (.null :: st) ad nw nt B L bc bs := fun h hs => En_astoreN hC hd hi hn hlv (k h hs)
theorem Es_iinc {lv' : je_V0} (hC : je_Ok Cx own cc nL d) {i : Nat} {n : Int} {x v : Int32} (hd : decode cc pc = .ok (.iinc i n, 3)) (hi : i < nL) (hv : lv[i]? = some (some (.int x))) (hx2 : x + Int32.ofInt n = v) (hn : je_nl lv i = true) (hlv : lv.set i (some (.int v)) = lv') (k : Es Cx nL (pc + 3) lv' st ad nw nt B L bc bs) : Es Cx nL pc lv st ad nw nt B L bc bs := fun h hs => En_iinc hC hd hi hv hx2 hn hlv (k h hs)
theorem Es_if_eq (hC : je_Ok Cx own cc nL d) {x : Int32} {off : Int} (tgt : Nat) (hd : decode cc pc = .ok (.ifCond .eq off, 3)) (ht : (pc : Int) + off = (tgt : Int)) (k1 : x = 0 → Es Cx nL tgt lv st ad nw nt B L bc bs) (k2 : ¬ x = 0 → Es Cx nL (pc + 3) lv st ad nw nt B L bc bs) : Es Cx nL pc lv (.int x :: st) ad nw nt B L bc bs := fun h hs => En_if_eq hC tgt hd ht (fun q => k1 q h hs) (fun q => k2 q h hs)
theorem Es_icmp_eq (hC : je_Ok Cx own cc nL d) {x y : Int32} {off : Int} (tgt : Nat) (hd : decode cc pc = .ok (.if_icmp .eq off, 3)) (ht : (pc : Int) + off = (tgt : Int)) (k1 : x = y → Es Cx nL tgt lv st ad nw nt B L bc bs) (k2 : ¬ x = y → Es Cx nL (pc + 3) lv st ad nw nt B L bc bs) : Es Cx nL pc lv (.int y :: .int x :: st) ad nw nt B L bc bs := fun h hs => En_icmp_eq hC tgt hd ht (fun q => k1 q h hs) (fun q => k2 q h hs)
theorem Es_if_ne (hC : je_Ok Cx own cc nL d) {x : Int32} {off : Int} (tgt : Nat) (hd : decode cc pc = .ok (.ifCond .ne off, 3)) (ht : (pc : Int) + off = (tgt : Int)) (k1 : ¬ x = 0 → Es Cx nL tgt lv st ad nw nt B L bc bs) (k2 : x = 0 → Es Cx nL (pc + 3) lv st ad nw nt B L bc bs) : Es Cx nL pc lv (.int x :: st) ad nw nt B L bc bs := fun h hs => En_if_ne hC tgt hd ht (fun q => k1 q h hs) (fun q => k2 q h hs)
theorem Es_icmp_ne (hC : je_Ok Cx own cc nL d) {x y : Int32} {off : Int} (tgt : Nat) (hd : decode cc pc = .ok (.if_icmp .ne off, 3)) (ht : (pc : Int) + off = (tgt : Int)) (k1 : ¬ x = y → Es Cx nL tgt lv st ad nw nt B L bc bs) (k2 : x = y → Es Cx nL (pc + 3) lv st ad nw nt B L bc bs) : Es Cx nL pc lv (.int y :: .int x :: st) ad nw nt B L bc bs := fun h hs => En_icmp_ne hC tgt hd ht (fun q => k1 q h hs) (fun q => k2 q h hs)
theorem Es_if_lt (hC : je_Ok Cx own cc nL d) {x : Int32} {off : Int} (tgt : Nat) (hd : decode cc pc = .ok (.ifCond .lt off, 3)) (ht : (pc : Int) + off = (tgt : Int)) (k1 : x < 0 → Es Cx nL tgt lv st ad nw nt B L bc bs) (k2 : ¬ x < 0 → Es Cx nL (pc + 3) lv st ad nw nt B L bc bs) : Es Cx nL pc lv (.int x :: st) ad nw nt B L bc bs := fun h hs => En_if_lt hC tgt hd ht (fun q => k1 q h hs) (fun q => k2 q h hs)
theorem Es_icmp_lt (hC : je_Ok Cx own cc nL d) {x y : Int32} {off : Int} (tgt : Nat) (hd : decode cc pc = .ok (.if_icmp .lt off, 3)) (ht : (pc : Int) + off = (tgt : Int)) (k1 : x < y → Es Cx nL tgt lv st ad nw nt B L bc bs) (k2 : ¬ x < y → Es Cx nL (pc + 3) lv st ad nw nt B L bc bs) : Es Cx nL pc lv (.int y :: .int x :: st) ad nw nt B L bc bs := fun h hs => En_icmp_lt hC tgt hd ht (fun q => k1 q h hs) (fun q => k2 q h hs)
theorem Es_if_ge (hC : je_Ok Cx own cc nL d) {x : Int32} {off : Int} (tgt : Nat) (hd : decode cc pc = .ok (.ifCond .ge off, 3)) (ht : (pc : Int) + off = (tgt : Int)) (k1 : 0 ≤ x → Es Cx nL tgt lv st ad nw nt B L bc bs) (k2 : ¬ 0 ≤ x → Es Cx nL (pc + 3) lv st ad nw nt B L bc bs) : Es Cx nL pc lv (.int x :: st) ad nw nt B L bc bs := fun h hs => En_if_ge hC tgt hd ht (fun q => k1 q h hs) (fun q => k2 q h hs)
theorem Es_icmp_ge (hC : je_Ok Cx own cc nL d) {x y : Int32} {off : Int} (tgt : Nat) (hd : decode cc pc = .ok (.if_icmp .ge off, 3)) (ht : (pc : Int) + off = (tgt : Int)) (k1 : y ≤ x → Es Cx nL tgt lv st ad nw nt B L bc bs) (k2 : ¬ y ≤ x → Es Cx nL (pc + 3) lv st ad nw nt B L bc bs) : Es Cx nL pc lv (.int y :: .int x :: st) ad nw nt B L bc bs := fun h hs => En_icmp_ge hC tgt hd ht (fun q => k1 q h hs) (fun q => k2 q h hs)
theorem Es_if_gt (hC : je_Ok Cx own cc nL d) {x : Int32} {off : Int} (tgt : Nat) (hd : decode cc pc = .ok (.ifCond .gt off, 3)) (ht : (pc : Int) + off = (tgt : Int)) (k1 : 0 < x → Es Cx nL tgt lv st ad nw nt B L bc bs) (k2 : ¬ 0 < x → Es Cx nL (pc + 3) lv st ad nw nt B L bc bs) : Es Cx nL pc lv (.int x :: st) ad nw nt B L bc bs := fun h hs => En_if_gt hC tgt hd ht (fun q => k1 q h hs) (fun q => k2 q h hs)
theorem Es_icmp_gt (hC : je_Ok Cx own cc nL d) {x y : Int32} {off : Int} (tgt : Nat) (hd : decode cc pc = .ok (.if_icmp .gt off, 3)) (ht : (pc : Int) + off = (tgt : Int)) (k1 : y < x → Es Cx nL tgt lv st ad nw nt B L bc bs) (k2 : ¬ y < x → Es Cx nL (pc + 3) lv st ad nw nt B L bc bs) : Es Cx nL pc lv (.int y :: .int x :: st) ad nw nt B L bc bs := fun h hs => En_icmp_gt hC tgt hd ht (fun q => k1 q h hs) (fun q => k2 q h hs)
theorem Es_if_le (hC : je_Ok Cx own cc nL d) {x : Int32} {off : Int} (tgt : Nat) (hd : decode cc pc = .ok (.ifCond .le off, 3)) (ht : (pc : Int) + off = (tgt : Int)) (k1 : x ≤ 0 → Es Cx nL tgt lv st ad nw nt B L bc bs) (k2 : ¬ x ≤ 0 → Es Cx nL (pc + 3) lv st ad nw nt B L bc bs) : Es Cx nL pc lv (.int x :: st) ad nw nt B L bc bs := fun h hs => En_if_le hC tgt hd ht (fun q => k1 q h hs) (fun q => k2 q h hs)
theorem Es_icmp_le (hC : je_Ok Cx own cc nL d) {x y : Int32} {off : Int} (tgt : Nat) (hd : decode cc pc = .ok (.if_icmp .le off, 3)) (ht : (pc : Int) + off = (tgt : Int)) (k1 : x ≤ y → Es Cx nL tgt lv st ad nw nt B L bc bs) (k2 : ¬ x ≤ y → Es Cx nL (pc + 3) lv st ad nw nt B L bc bs) : Es Cx nL pc lv (.int y :: .int x :: st) ad nw nt B L bc bs := fun h hs => En_icmp_le hC tgt hd ht (fun q => k1 q h hs) (fun q => k2 q h hs)
theorem Es_acmp_eq (hC : je_Ok Cx own cc nL d) {rx ry : Option Nat} {off : Int} (tgt : Nat) (hd : decode cc pc = .ok (.if_acmp .eq off, 3)) (ht : (pc : Int) + off = (tgt : Int)) (k1 : rx = ry → Es Cx nL tgt lv st ad nw nt B L bc bs) (k2 : ¬ rx = ry → Es Cx nL (pc + 3) lv st ad nw nt B L bc bs) : Es Cx nL pc lv (va_rf ry :: va_rf rx :: st) ad nw nt B L bc bs := fun h hs => En_acmp_eq hC tgt hd ht (fun q => k1 q h hs) (fun q => k2 q h hs)
theorem Es_acmp_ne (hC : je_Ok Cx own cc nL d) {rx ry : Option Nat} {off : Int} (tgt : Nat) (hd : decode cc pc = .ok (.if_acmp .ne off, 3)) (ht : (pc : Int) + off = (tgt : Int)) (k1 : ¬ rx = ry → Es Cx nL tgt lv st ad nw nt B L bc bs) (k2 : rx = ry → Es Cx nL (pc + 3) lv st ad nw nt B L bc bs) : Es Cx nL pc lv (va_rf ry :: va_rf rx :: st) ad nw nt B L bc bs := fun h hs => En_acmp_ne hC tgt hd ht (fun q => k1 q h hs) (fun q => k2 q h hs)
theorem Es_ifnull (hC : je_Ok Cx own cc nL d) {x : Nat} {off : Int} (hd : decode cc pc = .ok (.ifnull off, 3)) (k : Es Cx nL (pc + 3) lv st ad nw nt B L bc bs) : Es Cx nL pc lv (.ref x :: st) ad nw nt B L bc bs := fun h hs => En_ifnull hC hd (k h hs)
theorem Es_ifnullN (hC : je_Ok Cx own cc nL d) {off : Int} (tgt : Nat) (hd : decode cc pc = .ok (.ifnull off, 3)) (ht : (pc : Int) + off = (tgt : Int)) (k : Es Cx nL tgt lv st ad nw nt B L bc bs) : Es Cx nL pc lv (.null :: st) ad nw nt B L bc bs := fun h hs => En_ifnullN hC tgt hd ht (k h hs)
theorem Es_ifnonnull (hC : je_Ok Cx own cc nL d) {x : Nat} {off : Int} (tgt : Nat) (hd : decode cc pc = .ok (.ifnonnull off, 3)) (ht : (pc : Int) + off = (tgt : Int)) (k : Es Cx nL tgt lv st ad nw nt B L bc bs) : Es Cx nL pc lv (.ref x :: st) ad nw nt B L bc bs := fun h hs => En_ifnonnull hC tgt hd ht (k h hs)
theorem Es_ifnonnullN (hC : je_Ok Cx own cc nL d) {off : Int} (hd : decode cc pc = .ok (.ifnonnull off, 3)) (k : Es Cx nL (pc + 3) lv st ad nw nt B L bc bs) : Es Cx nL pc lv (.null :: st) ad nw nt B L bc bs := fun h hs => En_ifnonnullN hC hd (k h hs)
theorem Es_goto (hC : je_Ok Cx own cc nL d) {off : Int} (tgt : Nat) (hd : decode cc pc = .ok (.goto off, 3)) (ht : (pc : Int) + off = (tgt : Int)) (k : Es Cx nL tgt lv st ad nw nt B L bc bs) : Es Cx nL pc lv st ad nw nt B L bc bs := fun h hs => En_goto hC tgt hd ht (k h hs)
theorem Es_lookup (hC : je_Ok Cx own cc nL d) {dflt : Int} {ps : Array (Int × Int)} {len : Nat} {x : Int32} {off : Int} (tgt : Nat) (hd : decode cc pc = .ok (.lookupswitch dflt ps, len)) (hp : (ps.toList.zip (ps.toList.drop 1)).all (fun (a, next) => a.1 < next.1) = true) (ho : Op.lookupswitch.offset ps.toList dflt x.toInt = off) (ht : (pc : Int) + off = (tgt : Int)) (k : Es Cx nL tgt lv st ad nw nt B L bc bs) : Es Cx nL pc lv (.int x :: st) ad nw nt B L bc bs := fun h hs => En_lookup hC tgt hd hp ho ht (k h hs)
theorem Es_tableOut (hC : je_Ok Cx own cc nL d) {dflt lo hi : Int} {offs : Array Int} {len : Nat} {x : Int32} (tgt : Nat) (hd : decode cc pc = .ok (.tableswitch dflt lo hi offs, len)) (hq : x.toInt < lo ∨ hi < x.toInt) (ht : (pc : Int) + dflt = (tgt : Int)) (k : Es Cx nL tgt lv st ad nw nt B L bc bs) : Es Cx nL pc lv (.int x :: st) ad nw nt B L bc bs := fun h hs => En_tableOut hC tgt hd hq ht (k h hs)
theorem Es_tableIn (hC : je_Ok Cx own cc nL d) {dflt lo hi : Int} {offs : Array Int} {len : Nat} {x : Int32} {off : Int} (tgt : Nat) (hd : decode cc pc = .ok (.tableswitch dflt lo hi offs, len)) (h1 : ¬ x.toInt < lo) (h2 : ¬ hi < x.toInt) (ho : offs[(x.toInt - lo).toNat]? = some off) (ht : (pc : Int) + off = (tgt : Int)) (k : Es Cx nL tgt lv st ad nw nt B L bc bs) : Es Cx nL pc lv (.int x :: st) ad nw nt B L bc bs := fun h hs => En_tableIn hC tgt hd h1 h2 ho ht (k h hs)
theorem Es_ldc (hC : je_Ok Cx own cc nL d) {idx : Nat} {v : Int32} (hc0 : Cond.constant own idx v ∈ je_T) (hd : decode cc pc = .ok (.ldc idx, 2)) (k : Es Cx nL (pc + 2) lv (.int v :: st) ad nw nt B L bc bs) : Es Cx nL pc lv st ad nw nt B L bc bs := fun h hs => En_ldc hC hc0 hd (k h hs)
theorem Es_ldc2 (hC : je_Ok Cx own cc nL d) {idx : Nat} {v : Int64} (hc0 : Cond.constantLong own idx v ∈ je_T) (hd : decode cc pc = .ok (.ldc2_w idx, 3)) (k : Es Cx nL (pc + 3) lv (.long v :: st) ad nw nt B L bc bs) : Es Cx nL pc lv st ad nw nt B L bc bs := fun h hs => En_ldc2 hC hc0 hd (k h hs)
theorem Es_get (hC : je_Ok Cx own cc nL d) {C : String} {T : u_T} {N ci idx kd j : Nat} {fs : List Value} {v : Value} (k : Nat) (hin : ∀ w ∈ u_ws C T N, w ∈ je_T) (hcl : vwCl[ci]? = some (C, T, N)) (hlk : Cond.fieldLink own idx (T k).1 (T k).2.1 (T k).2.2.1 ∈ je_T) (hkN : k < N) (hd : decode cc pc = .ok (.getfield idx, 3)) (hk : sOk nw nt kd j = true) (hcell : sC ad nw nt B L kd j = .inr (ci, fs)) (hv : fs[k]? = some v)
    (kk : Es Cx nL (pc + 3) lv (v :: st) ad nw nt B L bc bs) : Es Cx nL pc lv (.ref (ad kd j) :: st) ad nw nt B L bc bs := fun h hs => En_get hC k hin hcl hlk hkN hd (by rw [hs.1 kd j hk, hcell]) hv (kk h hs)
theorem Es_put (hC : je_Ok Cx own cc nL d) {C : String} {T : u_T} {N ci idx kd j : Nat} {fs : List Value} {x : Int32} (k : Nat) (ty0 : Nat → FieldType) (hty : ∀ k, k < N → parseFieldDescriptor (T k).2.2.1 = some (ty0 k)) (hnm : ∀ a, a < N → ∀ b, b < N → a ≠ b → (T a).2.1 ≠ (T b).2.1) (hin : ∀ w ∈ u_ws C T N, w ∈ je_T) (hcl : vwCl[ci]? = some (C, T, N)) (hlk : Cond.fieldLink own idx (T k).1 (T k).2.1 (T k).2.2.1 ∈ je_T) (hkN : k < N) (hfin : (T k).2.2.2 = false) (hde : parseFieldDescriptor (T k).2.2.1 = some .int) (hd : decode cc pc = .ok (.putfield idx, 3)) (hk : sOk nw nt kd j = true) (hcell : sC ad nw nt B L kd j = .inr (ci, fs)) (hle : k < fs.length) (hnew : (Sum.inr (ci, fs.set k (.int x)) : je_E) = sC ad nw nt (uB B kd j k x) L kd j)
    (kk : Es Cx nL (pc + 3) lv st ad nw nt (uB B kd j k x) L bc bs) : Es Cx nL pc lv (.int x :: .ref (ad kd j) :: st) ad nw nt B L bc bs := fun h hs => En_put hC k ty0 hty hnm hin hcl hlk hkN hfin hd (by rw [hs.1 kd j hk, hcell]) hde rfl rfl hle (kk _ (sH_upd hs hk hnew (fun _ _ q => uB_r q) (fun _ _ _ => rfl)))
theorem Es_putL (hC : je_Ok Cx own cc nL d) {C : String} {T : u_T} {N ci idx kd j : Nat} {fs : List Value} {x : Int64} (k : Nat) (ty0 : Nat → FieldType) (hty : ∀ k, k < N → parseFieldDescriptor (T k).2.2.1 = some (ty0 k)) (hnm : ∀ a, a < N → ∀ b, b < N → a ≠ b → (T a).2.1 ≠ (T b).2.1) (hin : ∀ w ∈ u_ws C T N, w ∈ je_T) (hcl : vwCl[ci]? = some (C, T, N)) (hlk : Cond.fieldLink own idx (T k).1 (T k).2.1 (T k).2.2.1 ∈ je_T) (hkN : k < N) (hfin : (T k).2.2.2 = false) (hde : parseFieldDescriptor (T k).2.2.1 = some .long) (hd : decode cc pc = .ok (.putfield idx, 3)) (hk : sOk nw nt kd j = true) (hcell : sC ad nw nt B L kd j = .inr (ci, fs)) (hle : k < fs.length) (hnew : (Sum.inr (ci, fs.set k (.long x)) : je_E) = sC ad nw nt B (uL L kd j k x) kd j)
    (kk : Es Cx nL (pc + 3) lv st ad nw nt B (uL L kd j k x) bc bs) : Es Cx nL pc lv (.long x :: .ref (ad kd j) :: st) ad nw nt B L bc bs := fun h hs => En_put hC k ty0 hty hnm hin hcl hlk hkN hfin hd (by rw [hs.1 kd j hk, hcell]) hde rfl rfl hle (kk _ (sH_upd hs hk hnew (fun _ _ _ => rfl) (fun _ _ q => uL_r q)))
theorem Es_iald (hC : je_Ok Cx own cc nL d) {kd j n : Nat} {i : Int32} (hd : decode cc pc = .ok (.iaload, 1)) (hk : sOk nw nt kd j = true) (hcell : sC ad nw nt B L kd j = ai n (B kd j)) (hin : vp_in i n) (kk : Es Cx nL (pc + 1) lv (.int (B kd j i.toNatClampNeg) :: st) ad nw nt B L bc bs) : Es Cx nL pc lv (.int i :: .ref (ad kd j) :: st) ad nw nt B L bc bs := fun h hs => En_iald hC hd (by rw [hs.1 kd j hk, hcell]; rfl) hin (kk h hs)
theorem Es_iast (hC : je_Ok Cx own cc nL d) {kd j n : Nat} {i x : Int32} (hd : decode cc pc = .ok (.iastore, 1)) (hk : sOk nw nt kd j = true) (hcell : ∀ B' : sB, sC ad nw nt B' L kd j = ai n (B' kd j)) (hin : vp_in i n) (kk : Es Cx nL (pc + 1) lv st ad nw nt (uB B kd j i.toNatClampNeg x) L bc bs) : Es Cx nL pc lv (.int x :: .int i :: .ref (ad kd j) :: st) ad nw nt B L bc bs := fun h hs => En_iast hC hd (by rw [hs.1 kd j hk, hcell]; rfl) hin (kk _ (sH_upd hs hk (by rw [hcell, uB_a]; rfl) (fun _ _ q => uB_r q) (fun _ _ _ => rfl)))
theorem Es_alen (hC : je_Ok Cx own cc nL d) {kd j t : Nat} {x : vp_A} (hd : decode cc pc = .ok (.arraylength, 1)) (hk : sOk nw nt kd j = true) (hcell : sC ad nw nt B L kd j = .inl (t, x)) (ht3 : t < 3) (kk : Es Cx nL (pc + 1) lv (.int (Int32.ofNat x.1) :: st) ad nw nt B L bc bs) : Es Cx nL pc lv (.ref (ad kd j) :: st) ad nw nt B L bc bs := fun h hs => En_alen hC hd (by rw [hs.1 kd j hk, hcell]) ht3 (kk h hs)
theorem Es_aald (hC : je_Ok Cx own cc nL d) {kd j n t : Nat} {f : Nat → Option Nat} {i : Int32} (ht3 : t = 1 ∨ t = 2) (hd : decode cc pc = .ok (.aaload, 1)) (hk : sOk nw nt kd j = true) (hcell : sC ad nw nt B L kd j = ar t n f) (hin : vp_in i n) (kk : Es Cx nL (pc + 1) lv (va_rf (f i.toNatClampNeg) :: st) ad nw nt B L bc bs) : Es Cx nL pc lv (.int i :: .ref (ad kd j) :: st) ad nw nt B L bc bs := fun h hs => En_aald hC ht3 hd (by rw [hs.1 kd j hk, hcell]; rfl) hin (kk h hs)
/-- a tyre is laid into an array of tyres (kinds 11, 20) -/
theorem Es_aast (hC : je_Ok Cx own cc nL d) {kd j t : Nat} {i : Int32} (hd : decode cc pc = .ok (.aastore, 1)) (hk : sOk nw nt kd j = true) (hcell : ∀ B' : sB, sC ad nw nt B' L kd j = ar 1 7 (fun i => rT ad (B' kd j i))) (hin : vp_in i 7) (ht : t < nt) (ht2 : t < 2 ^ 31) (kk : Es Cx nL (pc + 1) lv st ad nw nt (uB B kd j i.toNatClampNeg (nI t)) L bc bs) : Es Cx nL pc lv (.ref (ad 21 t) :: .int i :: .ref (ad kd j) :: st) ad nw nt B L bc bs := fun h hs => by
  have hk2 : sOk nw nt 21 t = true := by simp [sOk, Nat.blt_eq, ht]
  refine En_aast (t := 1) hC (Or.inl rfl) hd (by rw [hs.1 kd j hk, hcell]; rfl) (hs.1 21 t hk2) hin (kk _ (sH_upd hs hk ?_ (fun _ _ q => uB_r q) (fun _ _ _ => rfl)))
  rw [hcell, uB_a]
  show ar 1 7 _ = ar 1 7 _
  congr 1
  funext q
  by_cases hq : q = i.toNatClampNeg
  · subst hq
    simp [va_up, upd, rT, nI_pos ht2, nI_clamp ht2]
  · simp [va_up, upd, hq]
theorem Es_aastN (hC : je_Ok Cx own cc nL d) {kd j : Nat} {i : Int32} (hd : decode cc pc = .ok (.aastore, 1)) (hk : sOk nw nt kd j = true) (hcell : ∀ B' : sB, sC ad nw nt B' L kd j = ar 1 7 (fun i => rT ad (B' kd j i))) (hin : vp_in i 7) (kk : Es Cx nL (pc + 1) lv st ad nw nt (uB B kd j i.toNatClampNeg (-1)) L bc bs) : Es Cx nL pc lv (.null :: .int i :: .ref (ad kd j) :: st) ad nw nt B L bc bs := fun h hs => by
  refine En_aastN (t := 1) hC (Or.inl rfl) hd (by rw [hs.1 kd j hk, hcell]; rfl) hin (kk _ (sH_upd hs hk ?_ (fun _ _ q => uB_r q) (fun _ _ _ => rfl)))
  rw [hcell, uB_a]
  show ar 1 7 _ = ar 1 7 _
  congr 1
  funext q
  by_cases hq : q = i.toNatClampNeg
  · subst hq
    simp only [va_up, upd, rT, if_true]
    rfl
  · simp [va_up, upd, hq]
section CALLS
variable {bytes : ByteArray} {d' maxL n idx : Nat} {As : List Value} {y : MethodName} {ret : Option FieldType} {Q' : Option Value → sB → sL → Prop}
theorem Es_callV {kd j ci : Nat} {fs : List Value} (hC : je_Ok Cx own cc nL d) (hv : je_V own idx y bytes maxL ret n) (hd : decode cc pc = .ok (.invokevirtual idx, 3)) (hct : Cs y bytes maxL ret d' (.ref (ad kd j) :: As) ad nw nt B L Q') (hk : sOk nw nt kd j = true) (hcell : sC ad nw nt B L kd j = .inr (ci, fs)) (hcl : ∃ q, vwCl[ci]? = some q ∧ q.1 = y.cls) (hst : st = As.reverse ++ .ref (ad kd j) :: rest) (hn : As.length = n) (hdd : d' + 1 ≤ d) (hrest : (rest.map fun v => v.category).sum ≤ 8)
    (kk : ∀ v B' L', Q' v B' L' → Es Cx nL (pc + 3) lv (v.toList ++ rest) ad nw nt B' L' bc bs) : Es Cx nL pc lv st ad nw nt B L bc bs := fun h hs => En_callV hC hv hd (hct h hs) (by rw [hs.1 kd j hk, hcell]) hcl hst hn hdd hrest (Nat.zero_le _) (Nat.zero_le _) (fun v h' ⟨B', L', h1, h2⟩ => kk v B' L' h2 h' h1)
theorem Es_callS (hC : je_Ok Cx own cc nL d) (hv : je_S own idx y bytes maxL ret n) (hd : decode cc pc = .ok (.invokestatic idx, 3)) (hct : Cs y bytes maxL ret d' As ad nw nt B L Q') (hst : st = As.reverse ++ rest) (hn : As.length = n) (hdd : d' + 1 ≤ d) (hrest : (rest.map fun v => v.category).sum ≤ 8)
    (kk : ∀ v B' L', Q' v B' L' → Es Cx nL (pc + 3) lv (v.toList ++ rest) ad nw nt B' L' bc bs) : Es Cx nL pc lv st ad nw nt B L bc bs := fun h hs => En_callS hC hv hd (hct h hs) hst hn hdd hrest (Nat.zero_le _) (Nat.zero_le _) (fun v h' ⟨B', L', h1, h2⟩ => kk v B' L' h2 h' h1)
theorem Es_callSN {host : String} (hC : je_Ok Cx own cc nL d) (hv : je_SN own idx y host bytes maxL ret n) (hd : decode cc pc = .ok (.invokestatic idx, 3)) (hct : Cs y bytes maxL ret d' As ad nw nt B L Q') (hst : st = As.reverse ++ rest) (hn : As.length = n) (hdd : d' + 1 ≤ d) (hrest : (rest.map fun v => v.category).sum ≤ 8)
    (kk : ∀ v B' L', Q' v B' L' → Es Cx nL (pc + 3) lv (v.toList ++ rest) ad nw nt B' L' bc bs) : Es Cx nL pc lv st ad nw nt B L bc bs := fun h hs => En_callSN hC hv hd (hct h hs) hst hn hdd hrest (Nat.zero_le _) (Nat.zero_le _) (fun v h' ⟨B', L', h1, h2⟩ => kk v B' L' h2 h' h1)
/-- the functional forms -/
theorem Es_fV {kd j ci : Nat} {fs : List Value} {v0 : Option Value} {B0 : sB} {L0 : sL} (hC : je_Ok Cx own cc nL d) (hv : je_V own idx y bytes maxL ret n) (hd : decode cc pc = .ok (.invokevirtual idx, 3)) (hct : Cf y bytes maxL ret d' (.ref (ad kd j) :: As) ad nw nt B L v0 B0 L0) (hk : sOk nw nt kd j = true) (hcell : sC ad nw nt B L kd j = .inr (ci, fs)) (hcl : ∃ q, vwCl[ci]? = some q ∧ q.1 = y.cls) (hst : st = As.reverse ++ .ref (ad kd j) :: rest) (hn : As.length = n) (hdd : d' + 1 ≤ d) (hrest : (rest.map fun v => v.category).sum ≤ 8)
    (kk : Es Cx nL (pc + 3) lv (v0.toList ++ rest) ad nw nt B0 L0 bc bs) : Es Cx nL pc lv st ad nw nt B L bc bs := Es_callV hC hv hd hct hk hcell hcl hst hn hdd hrest (fun v B' L' ⟨h1, h2, h3⟩ => by subst h1; subst h2; subst h3; exact kk)
theorem Es_fS {v0 : Option Value} {B0 : sB} {L0 : sL} (hC : je_Ok Cx own cc nL d) (hv : je_S own idx y bytes maxL ret n) (hd : decode cc pc = .ok (.invokestatic idx, 3)) (hct : Cf y bytes maxL ret d' As ad nw nt B L v0 B0 L0) (hst : st = As.reverse ++ rest) (hn : As.length = n) (hdd : d' + 1 ≤ d) (hrest : (rest.map fun v => v.category).sum ≤ 8)
    (kk : Es Cx nL (pc + 3) lv (v0.toList ++ rest) ad nw nt B0 L0 bc bs) : Es Cx nL pc lv st ad nw nt B L bc bs := Es_callS hC hv hd hct hst hn hdd hrest (fun v B' L' ⟨h1, h2, h3⟩ => by subst h1; subst h2; subst h3; exact kk)
theorem Es_fSN {host : String} {v0 : Option Value} {B0 : sB} {L0 : sL} (hC : je_Ok Cx own cc nL d) (hv : je_SN own idx y host bytes maxL ret n) (hd : decode cc pc = .ok (.invokestatic idx, 3)) (hct : Cf y bytes maxL ret d' As ad nw nt B L v0 B0 L0) (hst : st = As.reverse ++ rest) (hn : As.length = n) (hdd : d' + 1 ≤ d) (hrest : (rest.map fun v => v.category).sum ≤ 8)
    (kk : Es Cx nL (pc + 3) lv (v0.toList ++ rest) ad nw nt B0 L0 bc bs) : Es Cx nL pc lv st ad nw nt B L bc bs := Es_callSN hC hv hd hct hst hn hdd hrest (fun v B' L' ⟨h1, h2, h3⟩ => by subst h1; subst h2; subst h3; exact kk)
end CALLS
section RETS
variable {y : MethodName} {Q : Option Value → sB → sL → Prop}
theorem Es_iret {ty : FieldType} {v : Int32} (hd : decode cc pc = .ok (.ireturn, 1)) (hn : narrow ty (.int v) = .int v) (hq : Q (some (.int v)) B L) : Es (sCm y cc nL (some ty) d ad nw nt Q) nL pc lv [.int v] ad nw nt B L bc bs := fun _ hs => En_iret hd hn ⟨B, L, hs, hq⟩
theorem Es_lret {v : Int64} (hd : decode cc pc = .ok (.lreturn, 1)) (hq : Q (some (.long v)) B L) : Es (sCm y cc nL (some .long) d ad nw nt Q) nL pc lv [.long v] ad nw nt B L bc bs := fun _ hs => En_lret hd ⟨B, L, hs, hq⟩
theorem Es_aret {C : String} {v : Value} (hd : decode cc pc = .ok (.areturn, 1)) (hv : v = .null ∨ ∃ a, v = .ref a) (hq : Q (some v) B L) : Es (sCm y cc nL (some (.object C)) d ad nw nt Q) nL pc lv [v] ad nw nt B L bc bs := fun _ hs => En_aret hd hv ⟨B, L, hs, hq⟩
theorem Es_vret (hd : decode cc pc = .ok (.return_, 1)) (hq : Q none B L) : Es (sCm y cc nL none d ad nw nt Q) nL pc lv [] ad nw nt B L bc bs := fun _ hs => En_vret hd ⟨B, L, hs, hq⟩
end RETS
end ES
