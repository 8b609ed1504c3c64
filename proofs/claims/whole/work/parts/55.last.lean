/-! ===== the state in which the last tyre is made, but not in the row of tyres yet: rules and contracts as before ===== -/
def sC_y (ad : sA) (nw nt : Nat) (B : sB) (L : sL) (kd j : Nat) : je_E := match kd with
  | 0 => .inr (5, [.ref (ad 1 0), .ref (ad 2 0), .ref (ad 3 0), .ref (ad 4 0), .ref (ad 5 0), .ref (ad 6 0), .ref (ad 10 0), .ref (ad 17 0), .int (B 0 0 8), .int (B 0 0 9), .int (B 0 0 10), .int (B 0 0 11)])
  | 1 => ar 2 5 (fun i => if i < nw then some (ad 18 i) else none)
  | 2 => ar 1 40 (fun i => if i + 1 < nt then some (ad 21 i) else none)
  | 3 => ai 5 (B 3 0)
  | 4 => ai 4 (B 4 0)
  | 5 => ai 7 (B 5 0)
  | 6 => .inr (0, [.ref (ad 7 0), .ref (ad 8 0), .ref (ad 9 0), .int (B 6 0 3)])
  | 7 => ai 600 (B 7 0)
  | 8 => ai 600 (B 8 0)
  | 9 => ai 600 (B 9 0)
  | 10 => .inr (1, [.ref (ad 11 0), .ref (ad 12 0), .ref (ad 13 0), .ref (ad 14 0), .ref (ad 15 0), .ref (ad 16 0), .int (B 10 0 6), .int (B 10 0 7), .int (B 10 0 8)])
  | 11 => ar 1 7 (fun i => rT ad (B 11 0 i))
  | 12 => ai 49 (B 12 0)
  | 13 => ai 7 (B 13 0)
  | 14 => ai 7 (B 14 0)
  | 15 => ai 7 (B 15 0)
  | 16 => ai 1024 (B 16 0)
  | 17 => .inr (4, [.long (L 17 0 0), .long (L 17 0 1)])
  | 18 => .inr (3, [.int (B 18 j 0), .ref (ad 19 j), .ref (ad 20 j), .int (B 18 j 3)])
  | 19 => ai 7 (B 19 j)
  | 20 => ar 1 7 (fun i => rT ad (B 20 j i))
  | 21 => .inr (2, [.int (B 21 j 0), .int (B 21 j 1), .int (B 21 j 2), .ref (ad 22 j), .ref (ad 23 j), .ref (ad 24 j), .int (B 21 j 6), .int (B 21 j 7), .int (B 21 j 8), .int (B 21 j 9), .int (B 21 j 10), .int (B 21 j 11)])
  | 22 => ai 12 (B 22 j)
  | 23 => ai 12 (B 23 j)
  | 24 => .inr (4, [.long (L 24 j 0), .long (L 24 j 1)])
  | 25 => .inr (6, [.ref (ad 30 0), .ref (ad 31 0), .ref (ad 32 0), .int (B 25 0 3), .int (B 25 0 4), .int (B 25 0 5), .int (B 25 0 6), .int (B 25 0 7), .ref (ad 38 0), .ref (ad 39 0), .ref (ad 40 0), .ref (ad 41 0), .ref (ad 42 0), .ref (ad 43 0), .ref (ad 44 0), .ref (ad 45 0), .ref (ad 46 0), .ref (ad 47 0), .ref (ad 48 0), .ref (ad 49 0), .ref (ad 50 0), .ref (ad 51 0), .ref (ad 52 0), .ref (ad 53 0), .ref (ad 54 0), .long (L 25 0 25), .long (L 25 0 26), .ref (ad 57 0), .ref (ad 58 0), .ref (ad 59 0), .ref (ad 60 0), .int (B 25 0 31), .int (B 25 0 32), .int (B 25 0 33)])
  | 30 => ai 7 (B 30 0)
  | 31 => ai 5 (B 31 0)
  | 32 => ai 4 (B 32 0)
  | 38 => ai 5 (B 38 0)
  | 39 => ai 35 (B 39 0)
  | 40 => ai 35 (B 40 0)
  | 41 => ai 35 (B 41 0)
  | 42 => ai 40 (B 42 0)
  | 43 => ai 40 (B 43 0)
  | 44 => ai 40 (B 44 0)
  | 45 => ai 40 (B 45 0)
  | 46 => ai 40 (B 46 0)
  | 47 => ai 40 (B 47 0)
  | 48 => ai 40 (B 48 0)
  | 49 => ai 40 (B 49 0)
  | 50 => ai 520 (B 50 0)
  | 51 => ai 520 (B 51 0)
  | 52 => ai 600 (B 52 0)
  | 53 => ai 600 (B 53 0)
  | 54 => ai 600 (B 54 0)
  | 57 => ai 7 (B 57 0)
  | 58 => ai 7 (B 58 0)
  | 59 => ai 7 (B 59 0)
  | 60 => ai 35 (B 60 0)
  | _ => ai 0 (fun _ => 0)
def sH_y (ad : sA) (nw nt : Nat) (B : sB) (L : sL) (h : je_H) : Prop := (∀ kd j, sOk nw nt kd j = true → h (ad kd j) = some (sC_y ad nw nt B L kd j)) ∧ ∀ kd j kd' j', sOk nw nt kd j = true → sOk nw nt kd' j' = true → ad kd j = ad kd' j' → kd = kd' ∧ j = j'
theorem sC_congr_y {ad : sA} {nw nt : Nat} {B B' : sB} {L L' : sL} {kd j : Nat} (hB : B kd j = B' kd j) (hL : L kd j = L' kd j) (hj : sOk nw nt kd j = true) : sC_y ad nw nt B L kd j = sC_y ad nw nt B' L' kd j := by
  unfold sC_y
  unfold sOk at hj
  split <;> first | rfl | (simp only [hB]; done) | (simp only [hL]; done) | (have hj0 : j = 0 := Nat.eq_of_beq_eq_true (by simpa using hj); subst hj0; simp only [hB, hL])
theorem sH_upd_y {ad : sA} {nw nt : Nat} {B B' : sB} {L L' : sL} {h : je_H} {kd j : Nat} {e : je_E} (hs : sH_y ad nw nt B L h) (hk : sOk nw nt kd j = true) (he : e = sC_y ad nw nt B' L' kd j) (hB : ∀ kd' j', ¬ (kd' = kd ∧ j' = j) → B' kd' j' = B kd' j') (hL : ∀ kd' j', ¬ (kd' = kd ∧ j' = j) → L' kd' j' = L kd' j') : sH_y ad nw nt B' L' (je_up h (ad kd j) e) := by
  refine ⟨fun kd' j' hk' => ?_, hs.2⟩
  by_cases hq : kd' = kd ∧ j' = j
  · obtain ⟨rfl, rfl⟩ := hq
    rw [je_up_s, he]
  · have hne : ad kd' j' ≠ ad kd j := fun z => hq (hs.2 _ _ _ _ hk' hk z)
    rw [je_up_n hne, hs.1 kd' j' hk', sC_congr_y (hB kd' j' hq) (hL kd' j' hq) hk']
def Es_y (Cx : je_C) (nL pc : Nat) (lv : je_V0) (st : List Value) (ad : sA) (nw nt : Nat) (B : sB) (L : sL) (bc bs : Nat) : Prop := ∀ h, sH_y ad nw nt B L h → En Cx nL pc lv st h bc bs
def sQ_y (ad : sA) (nw nt : Nat) (Q : Option Value → sB → sL → Prop) : Option Value → je_H → Prop := fun v h => ∃ B L, sH_y ad nw nt B L h ∧ Q v B L
/-- a contract over the state -/
def Cs_y (y : MethodName) (cc : ByteArray) (nL : Nat) (ret : Option FieldType) (d : Nat) (av : List Value) (ad : sA) (nw nt : Nat) (B : sB) (L : sL) (Q : Option Value → sB → sL → Prop) : Prop := ∀ h, sH_y ad nw nt B L h → Ct y cc nL ret d 0 0 av h (sQ_y ad nw nt Q)
/-- the same, where answer and state are known -/
abbrev Cf_y (y : MethodName) (cc : ByteArray) (nL : Nat) (ret : Option FieldType) (d : Nat) (av : List Value) (ad : sA) (nw nt : Nat) (B : sB) (L : sL) (v0 : Option Value) (B' : sB) (L' : sL) : Prop := Cs_y y cc nL ret d av ad nw nt B L (fun v B1 L1 => v = v0 ∧ B1 = B' ∧ L1 = L')
abbrev sCm_y (y : MethodName) (cc : ByteArray) (nL : Nat) (ret : Option FieldType) (d : Nat) (ad : sA) (nw nt : Nat) (Q : Option Value → sB → sL → Prop) : je_C := je_Cm y cc nL ret d 0 0 (sQ_y ad nw nt Q)
theorem Cs_of_y {y : MethodName} {cc : ByteArray} {nL : Nat} {ret : Option FieldType} {d : Nat} {av : List Value} {ad : sA} {nw nt : Nat} {B : sB} {L : sL} {Q : Option Value → sB → sL → Prop} (lv : je_V0) (hpl : plainName y.cls = true) (hlv : je_en av nL = lv) (hsz : (lg_sl av).length ≤ nL)
    (body : Es_y (sCm_y y cc nL ret d ad nw nt Q) nL 0 lv [] ad nw nt B L 0 0) : Cs_y y cc nL ret d av ad nw nt B L Q := fun h hs => Ct_of lv hpl hlv hsz (body h hs)
section ES
variable {Cx : je_C} {own : String} {cc : ByteArray} {nL d pc bc bs : Nat} {lv : je_V0} {st rest : List Value} {ad : sA} {nw nt : Nat} {B : sB} {L : sL}
theorem Es_y.kill {lv' : je_V0} (i : Nat) (hlv : lv.set i none = lv') (k : Es_y Cx nL pc lv' st ad nw nt B L bc bs) : Es_y Cx nL pc lv st ad nw nt B L bc bs := fun h hs => En.kill i hlv (k h hs)
theorem Es_iconst_y (hC : je_Ok Cx own cc nL d) {n : Int} {v : Int32} (hd : decode cc pc = .ok (.iconst n, 1)) (hv : Int32.ofInt n = v) (k : Es_y Cx nL (pc + 1) lv (.int v :: st) ad nw nt B L bc bs) : Es_y Cx nL pc lv (st) ad nw nt B L bc bs := fun h hs => En_iconst hC hd hv (k h hs)
theorem Es_bipush_y (hC : je_Ok Cx own cc nL d) {n : Int} {v : Int32} (hd : decode cc pc = .ok (.bipush n, 2)) (hv : (Int8.ofInt n).toInt32 = v) (k : Es_y Cx nL (pc + 2) lv (.int v :: st) ad nw nt B L bc bs) : Es_y Cx nL pc lv (st) ad nw nt B L bc bs := fun h hs => En_bipush hC hd hv (k h hs)
theorem Es_sipush_y (hC : je_Ok Cx own cc nL d) {n : Int} {v : Int32} (hd : decode cc pc = .ok (.sipush n, 3)) (hv : (Int16.ofInt n).toInt32 = v) (k : Es_y Cx nL (pc + 3) lv (.int v :: st) ad nw nt B L bc bs) : Es_y Cx nL pc lv (st) ad nw nt B L bc bs := fun h hs => En_sipush hC hd hv (k h hs)
theorem Es_lconst_y (hC : je_Ok Cx own cc nL d) {n : Fin 2} {v : Int64} (hd : decode cc pc = .ok (.lconst n, 1)) (hv : Int64.ofNat (n : Nat) = v) (k : Es_y Cx nL (pc + 1) lv (.long v :: st) ad nw nt B L bc bs) : Es_y Cx nL pc lv (st) ad nw nt B L bc bs := fun h hs => En_lconst hC hd hv (k h hs)
theorem Es_iload_n_y (hC : je_Ok Cx own cc nL d) {n : Fin 4} {x : Int32} (hd : decode cc pc = .ok (.iload_n n, 1)) (hv : lv[(n : Nat)]? = some (some (.int x))) (k : Es_y Cx nL (pc + 1) lv (.int x :: st) ad nw nt B L bc bs) : Es_y Cx nL pc lv (st) ad nw nt B L bc bs := fun h hs => En_iload_n hC hd hv (k h hs)
theorem Es_iload_y (hC : je_Ok Cx own cc nL d) {i : Nat} {x : Int32} (hd : decode cc pc = .ok (.iload i, 2)) (hv : lv[i]? = some (some (.int x))) (k : Es_y Cx nL (pc + 2) lv (.int x :: st) ad nw nt B L bc bs) : Es_y Cx nL pc lv (st) ad nw nt B L bc bs := fun h hs => En_iload hC hd hv (k h hs)
theorem Es_lload_n_y (hC : je_Ok Cx own cc nL d) {n : Fin 4} {x : Int64} (hd : decode cc pc = .ok (.lload_n n, 1)) (hv : lv[(n : Nat)]? = some (some (.long x))) (k : Es_y Cx nL (pc + 1) lv (.long x :: st) ad nw nt B L bc bs) : Es_y Cx nL pc lv (st) ad nw nt B L bc bs := fun h hs => En_lload_n hC hd hv (k h hs)
theorem Es_lload_y (hC : je_Ok Cx own cc nL d) {i : Nat} {x : Int64} (hd : decode cc pc = .ok (.lload i, 2)) (hv : lv[i]? = some (some (.long x))) (k : Es_y Cx nL (pc + 2) lv (.long x :: st) ad nw nt B L bc bs) : Es_y Cx nL pc lv (st) ad nw nt B L bc bs := fun h hs => En_lload hC hd hv (k h hs)
theorem Es_aload_n_y (hC : je_Ok Cx own cc nL d) {n : Fin 4} {x : Nat} (hd : decode cc pc = .ok (.aload_n n, 1)) (hv : lv[(n : Nat)]? = some (some (.ref x))) (k : Es_y Cx nL (pc + 1) lv (.ref x :: st) ad nw nt B L bc bs) : Es_y Cx nL pc lv (st) ad nw nt B L bc bs := fun h hs => En_aload_n hC hd hv (k h hs)
theorem Es_aload_nN_y (hC : je_Ok Cx own cc nL d) {n : Fin 4} (hd : decode cc pc = .ok (.aload_n n, 1)) (hv : lv[(n : Nat)]? = some (some .null)) (k : Es_y Cx nL (pc + 1) lv (.null :: st) ad nw nt B L bc bs) : Es_y Cx nL pc lv (st) ad nw nt B L bc bs := fun h hs => En_aload_nN hC hd hv (k h hs)
theorem Es_iadd_y (hC : je_Ok Cx own cc nL d) {x y : Int32} (hd : decode cc pc = .ok (.iadd, 1)) (k : Es_y Cx nL (pc + 1) lv (.int (x + y) :: st) ad nw nt B L bc bs) : Es_y Cx nL pc lv (.int y :: .int x :: st) ad nw nt B L bc bs := fun h hs => En_iadd hC hd (k h hs)
theorem Es_ladd_y (hC : je_Ok Cx own cc nL d) {x y : Int64} (hd : decode cc pc = .ok (.ladd, 1)) (k : Es_y Cx nL (pc + 1) lv (.long (x + y) :: st) ad nw nt B L bc bs) : Es_y Cx nL pc lv (.long y :: .long x :: st) ad nw nt B L bc bs := fun h hs => En_ladd hC hd (k h hs)
theorem Es_lsub_y (hC : je_Ok Cx own cc nL d) {x y : Int64} (hd : decode cc pc = .ok (.lsub, 1)) (k : Es_y Cx nL (pc + 1) lv (.long (x - y) :: st) ad nw nt B L bc bs) : Es_y Cx nL pc lv (.long y :: .long x :: st) ad nw nt B L bc bs := fun h hs => En_lsub hC hd (k h hs)
theorem Es_lmul_y (hC : je_Ok Cx own cc nL d) {x y : Int64} (hd : decode cc pc = .ok (.lmul, 1)) (k : Es_y Cx nL (pc + 1) lv (.long (x * y) :: st) ad nw nt B L bc bs) : Es_y Cx nL pc lv (.long y :: .long x :: st) ad nw nt B L bc bs := fun h hs => En_lmul hC hd (k h hs)
theorem Es_ldiv_y (hC : je_Ok Cx own cc nL d) {x y : Int64} (hd : decode cc pc = .ok (.ldiv, 1)) (hne : ¬ y = 0) (k : Es_y Cx nL (pc + 1) lv (.long (x / y) :: st) ad nw nt B L bc bs) : Es_y Cx nL pc lv (.long y :: .long x :: st) ad nw nt B L bc bs := fun h hs => En_ldiv hC hd hne (k h hs)
theorem Es_lrem_y (hC : je_Ok Cx own cc nL d) {x y : Int64} (hd : decode cc pc = .ok (.lrem, 1)) (hne : ¬ y = 0) (k : Es_y Cx nL (pc + 1) lv (.long (x - x / y * y) :: st) ad nw nt B L bc bs) : Es_y Cx nL pc lv (.long y :: .long x :: st) ad nw nt B L bc bs := fun h hs => En_lrem hC hd hne (k h hs)
theorem Es_lcmp_y (hC : je_Ok Cx own cc nL d) {x y : Int64} (hd : decode cc pc = .ok (.lcmp, 1)) (k : Es_y Cx nL (pc + 1) lv (.int (lg_cmp x y) :: st) ad nw nt B L bc bs) : Es_y Cx nL pc lv (.long y :: .long x :: st) ad nw nt B L bc bs := fun h hs => En_lcmp hC hd (k h hs)
theorem Es_i2l_y (hC : je_Ok Cx own cc nL d) {x : Int32} (hd : decode cc pc = .ok (.i2l, 1)) (k : Es_y Cx nL (pc + 1) lv (.long x.toInt64 :: st) ad nw nt B L bc bs) : Es_y Cx nL pc lv (.int x :: st) ad nw nt B L bc bs := fun h hs => En_i2l hC hd (k h hs)
theorem Es_dup_y (hC : je_Ok Cx own cc nL d) {v : Value} (hd : decode cc pc = .ok (.dup, 1)) (hv : v.category = 1) (k : Es_y Cx nL (pc + 1) lv (v :: v :: st) ad nw nt B L bc bs) : Es_y Cx nL pc lv (v :: st) ad nw nt B L bc bs := fun h hs => En_dup hC hd hv (k h hs)
theorem Es_istore_y {lv' : je_V0} (hC : je_Ok Cx own cc nL d) {i : Nat} {x : Int32} (hd : decode cc pc = .ok (.istore i, 2)) (hi : i < nL) (hn : je_nl lv i = true) (hlv : lv.set i (some (.int x)) = lv') (k : Es_y Cx nL (pc + 2) lv' st ad nw nt B L bc bs) : Es_y Cx nL pc lv (.int x :: st) ad nw nt B L bc bs := fun h hs => En_istore hC hd hi hn hlv (k h hs)
theorem Es_lstore_n_y {lv' : je_V0} (hC : je_Ok Cx own cc nL d) {n : Fin 4} {x : Int64} (hd : decode cc pc = .ok (.lstore_n n, 1)) (hi : (n : Nat) + 1 < nL) (hn : je_nl lv (n : Nat) = true) (hlv : (lv.set (n : Nat) (some (.long x))).set ((n : Nat) + 1) none = lv') (k : Es_y Cx nL (pc + 1) lv' st ad nw nt B L bc bs) : Es_y Cx nL pc lv (.long x :: st) ad nw nt B L bc bs := fun h hs => En_lstore_n hC hd hi hn hlv (k h hs)
theorem Es_lstore_y {lv' : je_V0} (hC : je_Ok Cx own cc nL d) {i : Nat} {x : Int64} (hd : decode cc pc = .ok (.lstore i, 2)) (hi : i + 1 < nL) (hn : je_nl lv i = true) (hlv : (lv.set i (some (.long x))).set (i + 1) none = lv') (k : Es_y Cx nL (pc + 2) lv' st ad nw nt B L bc bs) : Es_y Cx nL pc lv (.long x :: st) ad nw nt B L bc bs := fun h hs => En_lstore hC hd hi hn hlv (k h hs)
theorem Es_astore_n_y {lv' : je_V0} (hC : je_Ok Cx own cc nL d) {n : Fin 4} {x : Nat} (hd : decode cc pc = .ok (.astore_n n, 1)) (hi : (n : Nat) < nL) (hn : je_nl lv (n : Nat) = true) (hlv : lv.set (n : Nat) (some (.ref x)) = lv') (k : Es_y Cx nL (pc + 1) lv' st ad nw nt B L bc bs) : Es_y Cx nL pc lv (.ref x :: st) ad nw nt B L bc bs := fun h hs => En_astore_n hC hd hi hn hlv (k h hs)
theorem Es_iinc_y {lv' : je_V0} (hC : je_Ok Cx own cc nL d) {i : Nat} {n : Int} {x v : Int32} (hd : decode cc pc = .ok (.iinc i n, 3)) (hi : i < nL) (hv : lv[i]? = some (some (.int x))) (hx2 : x + Int32.ofInt n = v) (hn : je_nl lv i = true) (hlv : lv.set i (some (.int v)) = lv') (k : Es_y Cx nL (pc + 3) lv' st ad nw nt B L bc bs) : Es_y Cx nL pc lv st ad nw nt B L bc bs := fun h hs => En_iinc hC hd hi hv hx2 hn hlv (k h hs)
theorem Es_if_eq_y (hC : je_Ok Cx own cc nL d) {x : Int32} {off : Int} (tgt : Nat) (hd : decode cc pc = .ok (.ifCond .eq off, 3)) (ht : (pc : Int) + off = (tgt : Int)) (k1 : x = 0 → Es_y Cx nL tgt lv st ad nw nt B L bc bs) (k2 : ¬ x = 0 → Es_y Cx nL (pc + 3) lv st ad nw nt B L bc bs) : Es_y Cx nL pc lv (.int x :: st) ad nw nt B L bc bs := fun h hs => En_if_eq hC tgt hd ht (fun q => k1 q h hs) (fun q => k2 q h hs)
theorem Es_if_lt_y (hC : je_Ok Cx own cc nL d) {x : Int32} {off : Int} (tgt : Nat) (hd : decode cc pc = .ok (.ifCond .lt off, 3)) (ht : (pc : Int) + off = (tgt : Int)) (k1 : x < 0 → Es_y Cx nL tgt lv st ad nw nt B L bc bs) (k2 : ¬ x < 0 → Es_y Cx nL (pc + 3) lv st ad nw nt B L bc bs) : Es_y Cx nL pc lv (.int x :: st) ad nw nt B L bc bs := fun h hs => En_if_lt hC tgt hd ht (fun q => k1 q h hs) (fun q => k2 q h hs)
theorem Es_icmp_lt_y (hC : je_Ok Cx own cc nL d) {x y : Int32} {off : Int} (tgt : Nat) (hd : decode cc pc = .ok (.if_icmp .lt off, 3)) (ht : (pc : Int) + off = (tgt : Int)) (k1 : x < y → Es_y Cx nL tgt lv st ad nw nt B L bc bs) (k2 : ¬ x < y → Es_y Cx nL (pc + 3) lv st ad nw nt B L bc bs) : Es_y Cx nL pc lv (.int y :: .int x :: st) ad nw nt B L bc bs := fun h hs => En_icmp_lt hC tgt hd ht (fun q => k1 q h hs) (fun q => k2 q h hs)
theorem Es_icmp_ge_y (hC : je_Ok Cx own cc nL d) {x y : Int32} {off : Int} (tgt : Nat) (hd : decode cc pc = .ok (.if_icmp .ge off, 3)) (ht : (pc : Int) + off = (tgt : Int)) (k1 : y ≤ x → Es_y Cx nL tgt lv st ad nw nt B L bc bs) (k2 : ¬ y ≤ x → Es_y Cx nL (pc + 3) lv st ad nw nt B L bc bs) : Es_y Cx nL pc lv (.int y :: .int x :: st) ad nw nt B L bc bs := fun h hs => En_icmp_ge hC tgt hd ht (fun q => k1 q h hs) (fun q => k2 q h hs)
theorem Es_if_gt_y (hC : je_Ok Cx own cc nL d) {x : Int32} {off : Int} (tgt : Nat) (hd : decode cc pc = .ok (.ifCond .gt off, 3)) (ht : (pc : Int) + off = (tgt : Int)) (k1 : 0 < x → Es_y Cx nL tgt lv st ad nw nt B L bc bs) (k2 : ¬ 0 < x → Es_y Cx nL (pc + 3) lv st ad nw nt B L bc bs) : Es_y Cx nL pc lv (.int x :: st) ad nw nt B L bc bs := fun h hs => En_if_gt hC tgt hd ht (fun q => k1 q h hs) (fun q => k2 q h hs)
theorem Es_if_le_y (hC : je_Ok Cx own cc nL d) {x : Int32} {off : Int} (tgt : Nat) (hd : decode cc pc = .ok (.ifCond .le off, 3)) (ht : (pc : Int) + off = (tgt : Int)) (k1 : x ≤ 0 → Es_y Cx nL tgt lv st ad nw nt B L bc bs) (k2 : ¬ x ≤ 0 → Es_y Cx nL (pc + 3) lv st ad nw nt B L bc bs) : Es_y Cx nL pc lv (.int x :: st) ad nw nt B L bc bs := fun h hs => En_if_le hC tgt hd ht (fun q => k1 q h hs) (fun q => k2 q h hs)
theorem Es_goto_y (hC : je_Ok Cx own cc nL d) {off : Int} (tgt : Nat) (hd : decode cc pc = .ok (.goto off, 3)) (ht : (pc : Int) + off = (tgt : Int)) (k : Es_y Cx nL tgt lv st ad nw nt B L bc bs) : Es_y Cx nL pc lv st ad nw nt B L bc bs := fun h hs => En_goto hC tgt hd ht (k h hs)
theorem Es_ldc2_y (hC : je_Ok Cx own cc nL d) {idx : Nat} {v : Int64} (hc0 : Cond.constantLong own idx v ∈ je_T) (hd : decode cc pc = .ok (.ldc2_w idx, 3)) (k : Es_y Cx nL (pc + 3) lv (.long v :: st) ad nw nt B L bc bs) : Es_y Cx nL pc lv st ad nw nt B L bc bs := fun h hs => En_ldc2 hC hc0 hd (k h hs)
theorem Es_get_y (hC : je_Ok Cx own cc nL d) {C : String} {T : u_T} {N ci idx kd j : Nat} {fs : List Value} {v : Value} (k : Nat) (hin : ∀ w ∈ u_ws C T N, w ∈ je_T) (hcl : vwCl[ci]? = some (C, T, N)) (hlk : Cond.fieldLink own idx (T k).1 (T k).2.1 (T k).2.2.1 ∈ je_T) (hkN : k < N) (hd : decode cc pc = .ok (.getfield idx, 3)) (hk : sOk nw nt kd j = true) (hcell : sC_y ad nw nt B L kd j = .inr (ci, fs)) (hv : fs[k]? = some v)
    (kk : Es_y Cx nL (pc + 3) lv (v :: st) ad nw nt B L bc bs) : Es_y Cx nL pc lv (.ref (ad kd j) :: st) ad nw nt B L bc bs := fun h hs => En_get hC k hin hcl hlk hkN hd (by rw [hs.1 kd j hk, hcell]) hv (kk h hs)
theorem Es_put_y (hC : je_Ok Cx own cc nL d) {C : String} {T : u_T} {N ci idx kd j : Nat} {fs : List Value} {x : Int32} (k : Nat) (ty0 : Nat → FieldType) (hty : ∀ k, k < N → parseFieldDescriptor (T k).2.2.1 = some (ty0 k)) (hnm : ∀ a, a < N → ∀ b, b < N → a ≠ b → (T a).2.1 ≠ (T b).2.1) (hin : ∀ w ∈ u_ws C T N, w ∈ je_T) (hcl : vwCl[ci]? = some (C, T, N)) (hlk : Cond.fieldLink own idx (T k).1 (T k).2.1 (T k).2.2.1 ∈ je_T) (hkN : k < N) (hfin : (T k).2.2.2 = false) (hde : parseFieldDescriptor (T k).2.2.1 = some .int) (hd : decode cc pc = .ok (.putfield idx, 3)) (hk : sOk nw nt kd j = true) (hcell : sC_y ad nw nt B L kd j = .inr (ci, fs)) (hle : k < fs.length) (hnew : (Sum.inr (ci, fs.set k (.int x)) : je_E) = sC_y ad nw nt (uB B kd j k x) L kd j)
    (kk : Es_y Cx nL (pc + 3) lv st ad nw nt (uB B kd j k x) L bc bs) : Es_y Cx nL pc lv (.int x :: .ref (ad kd j) :: st) ad nw nt B L bc bs := fun h hs => En_put hC k ty0 hty hnm hin hcl hlk hkN hfin hd (by rw [hs.1 kd j hk, hcell]) hde rfl rfl hle (kk _ (sH_upd_y hs hk hnew (fun _ _ q => uB_r q) (fun _ _ _ => rfl)))
theorem Es_putL_y (hC : je_Ok Cx own cc nL d) {C : String} {T : u_T} {N ci idx kd j : Nat} {fs : List Value} {x : Int64} (k : Nat) (ty0 : Nat → FieldType) (hty : ∀ k, k < N → parseFieldDescriptor (T k).2.2.1 = some (ty0 k)) (hnm : ∀ a, a < N → ∀ b, b < N → a ≠ b → (T a).2.1 ≠ (T b).2.1) (hin : ∀ w ∈ u_ws C T N, w ∈ je_T) (hcl : vwCl[ci]? = some (C, T, N)) (hlk : Cond.fieldLink own idx (T k).1 (T k).2.1 (T k).2.2.1 ∈ je_T) (hkN : k < N) (hfin : (T k).2.2.2 = false) (hde : parseFieldDescriptor (T k).2.2.1 = some .long) (hd : decode cc pc = .ok (.putfield idx, 3)) (hk : sOk nw nt kd j = true) (hcell : sC_y ad nw nt B L kd j = .inr (ci, fs)) (hle : k < fs.length) (hnew : (Sum.inr (ci, fs.set k (.long x)) : je_E) = sC_y ad nw nt B (uL L kd j k x) kd j)
    (kk : Es_y Cx nL (pc + 3) lv st ad nw nt B (uL L kd j k x) bc bs) : Es_y Cx nL pc lv (.long x :: .ref (ad kd j) :: st) ad nw nt B L bc bs := fun h hs => En_put hC k ty0 hty hnm hin hcl hlk hkN hfin hd (by rw [hs.1 kd j hk, hcell]) hde rfl rfl hle (kk _ (sH_upd_y hs hk hnew (fun _ _ _ => rfl) (fun _ _ q => uL_r q)))
theorem Es_iald_y (hC : je_Ok Cx own cc nL d) {kd j n : Nat} {i : Int32} (hd : decode cc pc = .ok (.iaload, 1)) (hk : sOk nw nt kd j = true) (hcell : sC_y ad nw nt B L kd j = ai n (B kd j)) (hin : vp_in i n) (kk : Es_y Cx nL (pc + 1) lv (.int (B kd j i.toNatClampNeg) :: st) ad nw nt B L bc bs) : Es_y Cx nL pc lv (.int i :: .ref (ad kd j) :: st) ad nw nt B L bc bs := fun h hs => En_iald hC hd (by rw [hs.1 kd j hk, hcell]; rfl) hin (kk h hs)
theorem Es_iast_y (hC : je_Ok Cx own cc nL d) {kd j n : Nat} {i x : Int32} (hd : decode cc pc = .ok (.iastore, 1)) (hk : sOk nw nt kd j = true) (hcell : ∀ B' : sB, sC_y ad nw nt B' L kd j = ai n (B' kd j)) (hin : vp_in i n) (kk : Es_y Cx nL (pc + 1) lv st ad nw nt (uB B kd j i.toNatClampNeg x) L bc bs) : Es_y Cx nL pc lv (.int x :: .int i :: .ref (ad kd j) :: st) ad nw nt B L bc bs := fun h hs => En_iast hC hd (by rw [hs.1 kd j hk, hcell]; rfl) hin (kk _ (sH_upd_y hs hk (by rw [hcell, uB_a]; rfl) (fun _ _ q => uB_r q) (fun _ _ _ => rfl)))
theorem Es_alen_y (hC : je_Ok Cx own cc nL d) {kd j t : Nat} {x : vp_A} (hd : decode cc pc = .ok (.arraylength, 1)) (hk : sOk nw nt kd j = true) (hcell : sC_y ad nw nt B L kd j = .inl (t, x)) (ht3 : t < 3) (kk : Es_y Cx nL (pc + 1) lv (.int (Int32.ofNat x.1) :: st) ad nw nt B L bc bs) : Es_y Cx nL pc lv (.ref (ad kd j) :: st) ad nw nt B L bc bs := fun h hs => En_alen hC hd (by rw [hs.1 kd j hk, hcell]) ht3 (kk h hs)
section CALLS
variable {bytes : ByteArray} {d' maxL n idx : Nat} {As : List Value} {y : MethodName} {ret : Option FieldType} {Q' : Option Value → sB → sL → Prop}
theorem Es_callV_y {kd j ci : Nat} {fs : List Value} (hC : je_Ok Cx own cc nL d) (hv : je_V own idx y bytes maxL ret n) (hd : decode cc pc = .ok (.invokevirtual idx, 3)) (hct : Cs_y y bytes maxL ret d' (.ref (ad kd j) :: As) ad nw nt B L Q') (hk : sOk nw nt kd j = true) (hcell : sC_y ad nw nt B L kd j = .inr (ci, fs)) (hcl : ∃ q, vwCl[ci]? = some q ∧ q.1 = y.cls) (hst : st = As.reverse ++ .ref (ad kd j) :: rest) (hn : As.length = n) (hdd : d' + 1 ≤ d) (hrest : (rest.map fun v => v.category).sum ≤ 8)
    (kk : ∀ v B' L', Q' v B' L' → Es_y Cx nL (pc + 3) lv (v.toList ++ rest) ad nw nt B' L' bc bs) : Es_y Cx nL pc lv st ad nw nt B L bc bs := fun h hs => En_callV hC hv hd (hct h hs) (by rw [hs.1 kd j hk, hcell]) hcl hst hn hdd hrest (Nat.zero_le _) (Nat.zero_le _) (fun v h' ⟨B', L', h1, h2⟩ => kk v B' L' h2 h' h1)
theorem Es_callS_y (hC : je_Ok Cx own cc nL d) (hv : je_S own idx y bytes maxL ret n) (hd : decode cc pc = .ok (.invokestatic idx, 3)) (hct : Cs_y y bytes maxL ret d' As ad nw nt B L Q') (hst : st = As.reverse ++ rest) (hn : As.length = n) (hdd : d' + 1 ≤ d) (hrest : (rest.map fun v => v.category).sum ≤ 8)
    (kk : ∀ v B' L', Q' v B' L' → Es_y Cx nL (pc + 3) lv (v.toList ++ rest) ad nw nt B' L' bc bs) : Es_y Cx nL pc lv st ad nw nt B L bc bs := fun h hs => En_callS hC hv hd (hct h hs) hst hn hdd hrest (Nat.zero_le _) (Nat.zero_le _) (fun v h' ⟨B', L', h1, h2⟩ => kk v B' L' h2 h' h1)
theorem Es_callSN_y {host : String} (hC : je_Ok Cx own cc nL d) (hv : je_SN own idx y host bytes maxL ret n) (hd : decode cc pc = .ok (.invokestatic idx, 3)) (hct : Cs_y y bytes maxL ret d' As ad nw nt B L Q') (hst : st = As.reverse ++ rest) (hn : As.length = n) (hdd : d' + 1 ≤ d) (hrest : (rest.map fun v => v.category).sum ≤ 8)
    (kk : ∀ v B' L', Q' v B' L' → Es_y Cx nL (pc + 3) lv (v.toList ++ rest) ad nw nt B' L' bc bs) : Es_y Cx nL pc lv st ad nw nt B L bc bs := fun h hs => En_callSN hC hv hd (hct h hs) hst hn hdd hrest (Nat.zero_le _) (Nat.zero_le _) (fun v h' ⟨B', L', h1, h2⟩ => kk v B' L' h2 h' h1)
/-- the functional forms -/
theorem Es_fV_y {kd j ci : Nat} {fs : List Value} {v0 : Option Value} {B0 : sB} {L0 : sL} (hC : je_Ok Cx own cc nL d) (hv : je_V own idx y bytes maxL ret n) (hd : decode cc pc = .ok (.invokevirtual idx, 3)) (hct : Cf_y y bytes maxL ret d' (.ref (ad kd j) :: As) ad nw nt B L v0 B0 L0) (hk : sOk nw nt kd j = true) (hcell : sC_y ad nw nt B L kd j = .inr (ci, fs)) (hcl : ∃ q, vwCl[ci]? = some q ∧ q.1 = y.cls) (hst : st = As.reverse ++ .ref (ad kd j) :: rest) (hn : As.length = n) (hdd : d' + 1 ≤ d) (hrest : (rest.map fun v => v.category).sum ≤ 8)
    (kk : Es_y Cx nL (pc + 3) lv (v0.toList ++ rest) ad nw nt B0 L0 bc bs) : Es_y Cx nL pc lv st ad nw nt B L bc bs := Es_callV_y hC hv hd hct hk hcell hcl hst hn hdd hrest (fun v B' L' ⟨h1, h2, h3⟩ => by subst h1; subst h2; subst h3; exact kk)
theorem Es_fS_y {v0 : Option Value} {B0 : sB} {L0 : sL} (hC : je_Ok Cx own cc nL d) (hv : je_S own idx y bytes maxL ret n) (hd : decode cc pc = .ok (.invokestatic idx, 3)) (hct : Cf_y y bytes maxL ret d' As ad nw nt B L v0 B0 L0) (hst : st = As.reverse ++ rest) (hn : As.length = n) (hdd : d' + 1 ≤ d) (hrest : (rest.map fun v => v.category).sum ≤ 8)
    (kk : Es_y Cx nL (pc + 3) lv (v0.toList ++ rest) ad nw nt B0 L0 bc bs) : Es_y Cx nL pc lv st ad nw nt B L bc bs := Es_callS_y hC hv hd hct hst hn hdd hrest (fun v B' L' ⟨h1, h2, h3⟩ => by subst h1; subst h2; subst h3; exact kk)
theorem Es_fSN_y {host : String} {v0 : Option Value} {B0 : sB} {L0 : sL} (hC : je_Ok Cx own cc nL d) (hv : je_SN own idx y host bytes maxL ret n) (hd : decode cc pc = .ok (.invokestatic idx, 3)) (hct : Cf_y y bytes maxL ret d' As ad nw nt B L v0 B0 L0) (hst : st = As.reverse ++ rest) (hn : As.length = n) (hdd : d' + 1 ≤ d) (hrest : (rest.map fun v => v.category).sum ≤ 8)
    (kk : Es_y Cx nL (pc + 3) lv (v0.toList ++ rest) ad nw nt B0 L0 bc bs) : Es_y Cx nL pc lv st ad nw nt B L bc bs := Es_callSN_y hC hv hd hct hst hn hdd hrest (fun v B' L' ⟨h1, h2, h3⟩ => by subst h1; subst h2; subst h3; exact kk)
end CALLS
section RETS
variable {y : MethodName} {Q : Option Value → sB → sL → Prop}
theorem Es_iret_y {ty : FieldType} {v : Int32} (hd : decode cc pc = .ok (.ireturn, 1)) (hn : narrow ty (.int v) = .int v) (hq : Q (some (.int v)) B L) : Es_y (sCm_y y cc nL (some ty) d ad nw nt Q) nL pc lv [.int v] ad nw nt B L bc bs := fun _ hs => En_iret hd hn ⟨B, L, hs, hq⟩
theorem Es_lret_y {v : Int64} (hd : decode cc pc = .ok (.lreturn, 1)) (hq : Q (some (.long v)) B L) : Es_y (sCm_y y cc nL (some .long) d ad nw nt Q) nL pc lv [.long v] ad nw nt B L bc bs := fun _ hs => En_lret hd ⟨B, L, hs, hq⟩
theorem Es_vret_y (hd : decode cc pc = .ok (.return_, 1)) (hq : Q none B L) : Es_y (sCm_y y cc nL none d ad nw nt Q) nL pc lv [] ad nw nt B L bc bs := fun _ hs => En_vret hd ⟨B, L, hs, hq⟩
end RETS
end ES
section ACC
variable {Cx : je_C} {own : String} {cc : ByteArray} {nL d pc bc bs idx : Nat} {lv : je_V0} {st : List Value} {ad : sA} {nw nt : Nat} {B : sB} {L : sL}
theorem Sg_X2_0_y {j : Nat} (hC : je_Ok Cx own cc nL d) (hlk : Cond.fieldLink own idx (TX2 0).1 (TX2 0).2.1 (TX2 0).2.2.1 ∈ je_T) (hd : decode cc pc = .ok (.getfield idx, 3)) (hj : j < nt) (kk : Es_y Cx nL (pc + 3) lv (.int (B 21 j 0) :: st) ad nw nt B L bc bs) : Es_y Cx nL pc lv (.ref (ad 21 j) :: st) ad nw nt B L bc bs := Es_get_y hC 0 uw_X2 rfl hlk (by decide) hd (ok21 hj) rfl rfl kk
theorem Sg_X2_3_y {j : Nat} (hC : je_Ok Cx own cc nL d) (hlk : Cond.fieldLink own idx (TX2 3).1 (TX2 3).2.1 (TX2 3).2.2.1 ∈ je_T) (hd : decode cc pc = .ok (.getfield idx, 3)) (hj : j < nt) (kk : Es_y Cx nL (pc + 3) lv (.ref (ad 22 j) :: st) ad nw nt B L bc bs) : Es_y Cx nL pc lv (.ref (ad 21 j) :: st) ad nw nt B L bc bs := Es_get_y hC 3 uw_X2 rfl hlk (by decide) hd (ok21 hj) rfl rfl kk
theorem Sg_X2_4_y {j : Nat} (hC : je_Ok Cx own cc nL d) (hlk : Cond.fieldLink own idx (TX2 4).1 (TX2 4).2.1 (TX2 4).2.2.1 ∈ je_T) (hd : decode cc pc = .ok (.getfield idx, 3)) (hj : j < nt) (kk : Es_y Cx nL (pc + 3) lv (.ref (ad 23 j) :: st) ad nw nt B L bc bs) : Es_y Cx nL pc lv (.ref (ad 21 j) :: st) ad nw nt B L bc bs := Es_get_y hC 4 uw_X2 rfl hlk (by decide) hd (ok21 hj) rfl rfl kk
theorem Sg_X2_5_y {j : Nat} (hC : je_Ok Cx own cc nL d) (hlk : Cond.fieldLink own idx (TX2 5).1 (TX2 5).2.1 (TX2 5).2.2.1 ∈ je_T) (hd : decode cc pc = .ok (.getfield idx, 3)) (hj : j < nt) (kk : Es_y Cx nL (pc + 3) lv (.ref (ad 24 j) :: st) ad nw nt B L bc bs) : Es_y Cx nL pc lv (.ref (ad 21 j) :: st) ad nw nt B L bc bs := Es_get_y hC 5 uw_X2 rfl hlk (by decide) hd (ok21 hj) rfl rfl kk
theorem Sg_X2_6_y {j : Nat} (hC : je_Ok Cx own cc nL d) (hlk : Cond.fieldLink own idx (TX2 6).1 (TX2 6).2.1 (TX2 6).2.2.1 ∈ je_T) (hd : decode cc pc = .ok (.getfield idx, 3)) (hj : j < nt) (kk : Es_y Cx nL (pc + 3) lv (.int (B 21 j 6) :: st) ad nw nt B L bc bs) : Es_y Cx nL pc lv (.ref (ad 21 j) :: st) ad nw nt B L bc bs := Es_get_y hC 6 uw_X2 rfl hlk (by decide) hd (ok21 hj) rfl rfl kk
theorem Sp_X2_6_y {j : Nat} {x : Int32} (hC : je_Ok Cx own cc nL d) (hlk : Cond.fieldLink own idx (TX2 6).1 (TX2 6).2.1 (TX2 6).2.2.1 ∈ je_T) (hd : decode cc pc = .ok (.putfield idx, 3)) (hj : j < nt) (kk : Es_y Cx nL (pc + 3) lv st ad nw nt (uB B 21 j 6 x) L bc bs) : Es_y Cx nL pc lv (.int x :: .ref (ad 21 j) :: st) ad nw nt B L bc bs := Es_put_y hC 6 tyX2 tyX2_ok nmX2 uw_X2 rfl hlk (by decide) (by decide) (by decide +kernel) hd (ok21 hj) rfl (Nat.le_of_ble_eq_true rfl) (by simp [sC_y, uB, uL]) kk
theorem Sg_X2_9_y {j : Nat} (hC : je_Ok Cx own cc nL d) (hlk : Cond.fieldLink own idx (TX2 9).1 (TX2 9).2.1 (TX2 9).2.2.1 ∈ je_T) (hd : decode cc pc = .ok (.getfield idx, 3)) (hj : j < nt) (kk : Es_y Cx nL (pc + 3) lv (.int (B 21 j 9) :: st) ad nw nt B L bc bs) : Es_y Cx nL pc lv (.ref (ad 21 j) :: st) ad nw nt B L bc bs := Es_get_y hC 9 uw_X2 rfl hlk (by decide) hd (ok21 hj) rfl rfl kk
theorem Sp_X2_9_y {j : Nat} {x : Int32} (hC : je_Ok Cx own cc nL d) (hlk : Cond.fieldLink own idx (TX2 9).1 (TX2 9).2.1 (TX2 9).2.2.1 ∈ je_T) (hd : decode cc pc = .ok (.putfield idx, 3)) (hj : j < nt) (kk : Es_y Cx nL (pc + 3) lv st ad nw nt (uB B 21 j 9 x) L bc bs) : Es_y Cx nL pc lv (.int x :: .ref (ad 21 j) :: st) ad nw nt B L bc bs := Es_put_y hC 9 tyX2 tyX2_ok nmX2 uw_X2 rfl hlk (by decide) (by decide) (by decide +kernel) hd (ok21 hj) rfl (Nat.le_of_ble_eq_true rfl) (by simp [sC_y, uB, uL]) kk
theorem Sp_X4_0_y {j : Nat} {x : Int64} (hC : je_Ok Cx own cc nL d) (hlk : Cond.fieldLink own idx (TX4 0).1 (TX4 0).2.1 (TX4 0).2.2.1 ∈ je_T) (hd : decode cc pc = .ok (.putfield idx, 3)) (hj : j < nt) (kk : Es_y Cx nL (pc + 3) lv st ad nw nt B (uL L 24 j 0 x) bc bs) : Es_y Cx nL pc lv (.long x :: .ref (ad 24 j) :: st) ad nw nt B L bc bs := Es_putL_y hC 0 tyX4 tyX4_ok nmX4 uw_X4 rfl hlk (by decide) (by decide) (by decide +kernel) hd (ok24 hj) rfl (Nat.le_of_ble_eq_true rfl) (by simp [sC_y, uB, uL]) kk
theorem Sp_X4_1_y {j : Nat} {x : Int64} (hC : je_Ok Cx own cc nL d) (hlk : Cond.fieldLink own idx (TX4 1).1 (TX4 1).2.1 (TX4 1).2.2.1 ∈ je_T) (hd : decode cc pc = .ok (.putfield idx, 3)) (hj : j < nt) (kk : Es_y Cx nL (pc + 3) lv st ad nw nt B (uL L 24 j 1 x) bc bs) : Es_y Cx nL pc lv (.long x :: .ref (ad 24 j) :: st) ad nw nt B L bc bs := Es_putL_y hC 1 tyX4 tyX4_ok nmX4 uw_X4 rfl hlk (by decide) (by decide) (by decide +kernel) hd (ok24 hj) rfl (Nat.le_of_ble_eq_true rfl) (by simp [sC_y, uB, uL]) kk
theorem Sg_X5_1_y (hC : je_Ok Cx own cc nL d) (hlk : Cond.fieldLink own idx (TX5 1).1 (TX5 1).2.1 (TX5 1).2.2.1 ∈ je_T) (hd : decode cc pc = .ok (.getfield idx, 3)) (kk : Es_y Cx nL (pc + 3) lv (.ref (ad 2 0) :: st) ad nw nt B L bc bs) : Es_y Cx nL pc lv (.ref (ad 0 0) :: st) ad nw nt B L bc bs := Es_get_y hC 1 uw_X5 rfl hlk (by decide) hd rfl rfl rfl kk
theorem Sg_X5_3_y (hC : je_Ok Cx own cc nL d) (hlk : Cond.fieldLink own idx (TX5 3).1 (TX5 3).2.1 (TX5 3).2.2.1 ∈ je_T) (hd : decode cc pc = .ok (.getfield idx, 3)) (kk : Es_y Cx nL (pc + 3) lv (.ref (ad 4 0) :: st) ad nw nt B L bc bs) : Es_y Cx nL pc lv (.ref (ad 0 0) :: st) ad nw nt B L bc bs := Es_get_y hC 3 uw_X5 rfl hlk (by decide) hd rfl rfl rfl kk
theorem Es_ialdN_y {kd j n k : Nat} {i : Int32} (hC : je_Ok Cx own cc nL d) (hd : decode cc pc = .ok (.iaload, 1)) (hk : sOk nw nt kd j = true) (hcell : sC_y ad nw nt B L kd j = ai n (B kd j)) (hi : i = nI k) (hn : k < n) (h31 : n < 2 ^ 31) (kk : Es_y Cx nL (pc + 1) lv (.int (B kd j k) :: st) ad nw nt B L bc bs) : Es_y Cx nL pc lv (.int i :: .ref (ad kd j) :: st) ad nw nt B L bc bs := by
  subst hi
  refine Es_iald_y hC hd hk hcell (vp_in_nI hn h31) ?_
  rw [nI_clamp (by omega)]
  exact kk
theorem Es_iastN_y {kd j n k : Nat} {i x : Int32} (hC : je_Ok Cx own cc nL d) (hd : decode cc pc = .ok (.iastore, 1)) (hk : sOk nw nt kd j = true) (hcell : ∀ B' : sB, sC_y ad nw nt B' L kd j = ai n (B' kd j)) (hi : i = nI k) (hn : k < n) (h31 : n < 2 ^ 31) (kk : Es_y Cx nL (pc + 1) lv st ad nw nt (uB B kd j k x) L bc bs) : Es_y Cx nL pc lv (.int x :: .int i :: .ref (ad kd j) :: st) ad nw nt B L bc bs := by
  subst hi
  refine Es_iast_y hC hd hk hcell (vp_in_nI hn h31) ?_
  rw [nI_clamp (by omega)]
  exact kk
end ACC
set_option maxRecDepth 100000 in
set_option maxHeartbeats 4000000 in
theorem c_at_y {ad : sA} {nw nt : Nat} {B : sB} {L : sL} {kd j n k : Nat} {i : Int32} (hk : sOk nw nt kd j = true) (hcell : sC_y ad nw nt B L kd j = ai n (B kd j)) (hi : i = nI k) (hn : k < n) (h31 : n < 2 ^ 31) : Cf_y yX5_at cX5_at 2 (some FieldType.int) 0 [.ref (ad kd j), .int i] ad nw nt B L (some (.int (B kd j k))) (B) (L) := by
  have hC : ∀ Q, je_Ok (sCm_y yX5_at cX5_at 2 (some FieldType.int) 0 ad nw nt Q) RX5 cX5_at 2 0 := fun _ => je_Cm_ok
  refine Cs_of_y [some (.ref (ad kd j)), some (.int i)] (by decide) rfl (Nat.le_of_ble_eq_true rfl) ?_
  subst hi
  refine Es_iload_n_y (hC _) dX5_at_0 rfl ?_
  refine Es_if_lt_y (hC _) 16 dX5_at_1 (by decide) (fun hb1 => False.elim (nI_pos (by omega) hb1)) (fun hb1 => ?_)
  refine Es_iload_n_y (hC _) dX5_at_4 rfl ?_
  first | refine Es_aload_n_y (hC _) dX5_at_5 rfl ?_ | refine Es_aload_nN_y (hC _) dX5_at_5 rfl ?_
  refine Es_alen_y (t := 0) (x := (n, .inl (B kd j))) (hC _) dX5_at_6 hk hcell (by decide) ?_
  refine Es_icmp_ge_y (hC _) 16 dX5_at_7 (by decide) (fun hb7 => False.elim (nI_ge hn h31 hb7)) (fun hb7 => ?_)
  first | refine Es_aload_n_y (hC _) dX5_at_10 rfl ?_ | refine Es_aload_nN_y (hC _) dX5_at_10 rfl ?_
  refine Es_iload_n_y (hC _) dX5_at_11 rfl ?_
  refine Es_ialdN_y (hC _) dX5_at_12 hk hcell rfl hn h31 ?_
  refine Es_goto_y (hC _) 17 dX5_at_13 (by decide) ?_
  exact Es_iret_y dX5_at_17 rfl ⟨rfl, rfl, rfl⟩
set_option maxRecDepth 100000 in
set_option maxHeartbeats 4000000 in
theorem c_write_y {ad : sA} {nw nt : Nat} {B : sB} {L : sL} {kd j n k : Nat} {i x : Int32} (hk : sOk nw nt kd j = true) (hcell : ∀ B : sB, sC_y ad nw nt B L kd j = ai n (B kd j)) (hi : i = nI k) (hn : k < n) (h31 : n < 2 ^ 31) : Cf_y yX5_write cX5_write 3 none 0 [.ref (ad kd j), .int i, .int x] ad nw nt B L (none) (uB B kd j k x) (L) := by
  have hC : ∀ Q, je_Ok (sCm_y yX5_write cX5_write 3 none 0 ad nw nt Q) RX5 cX5_write 3 0 := fun _ => je_Cm_ok
  refine Cs_of_y [some (.ref (ad kd j)), some (.int i), some (.int x)] (by decide) rfl (Nat.le_of_ble_eq_true rfl) ?_
  subst hi
  refine Es_iload_n_y (hC _) dX5_write_0 rfl ?_
  refine Es_if_lt_y (hC _) 14 dX5_write_1 (by decide) (fun hb1 => False.elim (nI_pos (by omega) hb1)) (fun hb1 => ?_)
  refine Es_iload_n_y (hC _) dX5_write_4 rfl ?_
  first | refine Es_aload_n_y (hC _) dX5_write_5 rfl ?_ | refine Es_aload_nN_y (hC _) dX5_write_5 rfl ?_
  refine Es_alen_y (t := 0) (x := (n, .inl (B kd j))) (hC _) dX5_write_6 hk (hcell B) (by decide) ?_
  refine Es_icmp_ge_y (hC _) 14 dX5_write_7 (by decide) (fun hb7 => False.elim (nI_ge hn h31 hb7)) (fun hb7 => ?_)
  first | refine Es_aload_n_y (hC _) dX5_write_10 rfl ?_ | refine Es_aload_nN_y (hC _) dX5_write_10 rfl ?_
  refine Es_iload_n_y (hC _) dX5_write_11 rfl ?_
  refine Es_iload_n_y (hC _) dX5_write_12 rfl ?_
  refine Es_iastN_y (hC _) dX5_write_13 hk hcell rfl hn h31 ?_
  exact Es_vret_y dX5_write_14 ⟨rfl, rfl, rfl⟩
set_option maxRecDepth 100000 in
set_option maxHeartbeats 4000000 in
theorem l_cf_y {ad : sA} {nw nt : Nat} {B : sB} {L : sL} {bc bs : Nat} {a0 b0 g : Int64} : ∀ (n s : Nat) (x y : Int64), s + n = 100 → gcS n x y = g → Es_y (sCm_y yX4_commonFactor cX4_commonFactor 11 (some .long) 0 ad nw nt (fun v B1 L1 => v = some (.long g) ∧ B1 = B ∧ L1 = L)) 11 9 [some (.long a0), none, some (.long b0), none, some (.long x), none, some (.long y), none, some (.int (nI s)), none, none] [] ad nw nt B L bc bs := by
  have hC : ∀ Q, je_Ok (sCm_y yX4_commonFactor cX4_commonFactor 11 (some .long) 0 ad nw nt Q) RX4 cX4_commonFactor 11 0 := fun _ => je_Cm_ok
  intro n
  induction n with
  | zero =>
    intro s x y hs hg
    refine Es_iload_y (hC _) dX4_commonFactor_9 rfl ?_
    refine Es_bipush_y (v := 100) (hC _) dX4_commonFactor_11 (by decide) ?_
    refine Es_icmp_ge_y (hC _) 44 dX4_commonFactor_13 (by decide) (fun hb13 => ?_) (fun hb13 => False.elim (hb13 (nI_le (a := 100) (b := s) (by omega) (by omega))))
    refine Es_lload_y (hC _) dX4_commonFactor_44 rfl ?_
    exact Es_lret_y dX4_commonFactor_46 ⟨by rw [← hg]; rfl, rfl, rfl⟩
  | succ n ih =>
    intro s x y hs hg
    refine Es_iload_y (hC _) dX4_commonFactor_9 rfl ?_
    refine Es_bipush_y (v := 100) (hC _) dX4_commonFactor_11 (by decide) ?_
    refine Es_icmp_ge_y (hC _) 44 dX4_commonFactor_13 (by decide) (fun hb13 => False.elim (nI_ge (b := 100) (a := s) (by omega) (by decide) hb13)) (fun hb13 => ?_)
    refine Es_lload_y (hC _) dX4_commonFactor_16 rfl ?_
    refine Es_lconst_y (v := 0) (hC _) dX4_commonFactor_18 (by decide) ?_
    refine Es_lcmp_y (hC _) dX4_commonFactor_19 ?_
    refine Es_if_eq_y (hC _) 44 dX4_commonFactor_20 (by decide) (fun hb20 => ?_) (fun hb20 => ?_)
    · refine Es_lload_y (hC _) dX4_commonFactor_44 rfl ?_
      exact Es_lret_y dX4_commonFactor_46 ⟨by rw [← hg]; simp only [gcS]; rw [if_pos ((lgz _ _).mp hb20)], rfl, rfl⟩
    · refine Es_lload_y (hC _) dX4_commonFactor_23 rfl ?_
      refine Es_lload_y (hC _) dX4_commonFactor_25 rfl ?_
      refine Es_lrem_y (hC _) dX4_commonFactor_27 (fun z => hb20 ((lgz _ _).mpr z)) ?_
      refine Es_lstore_y (lv' := [_, _, _, _, _, _, _, _, _, _, _]) (hC _) dX4_commonFactor_28 (by decide) rfl rfl ?_
      refine Es_lload_y (hC _) dX4_commonFactor_30 rfl ?_
      refine Es_lstore_y (lv' := [_, _, _, _, _, _, _, _, _, _, _]) (hC _) dX4_commonFactor_32 (by decide) rfl rfl ?_
      refine Es_lload_y (hC _) dX4_commonFactor_34 rfl ?_
      refine Es_lstore_y (lv' := [_, _, _, _, _, _, _, _, _, _, _]) (hC _) dX4_commonFactor_36 (by decide) rfl rfl ?_
      refine Es_iinc_y (lv' := [_, _, _, _, _, _, _, _, _, _, _]) (hC _) dX4_commonFactor_38 (by decide) rfl (show _ + Int32.ofInt (1) = _ + (1) from rfl) rfl rfl ?_
      refine Es_goto_y (hC _) 9 dX4_commonFactor_41 (by decide) ?_
      refine Es_y.kill 9 (lv' := [_, _, _, _, _, _, _, _, _, _, _]) rfl ?_
      rw [nI_1]
      exact ih (s + 1) y (x - x / y * y) (by omega) (by rw [← hg]; simp only [gcS]; rw [if_neg (fun z => hb20 ((lgz _ _).mpr z))])
set_option maxRecDepth 100000 in
set_option maxHeartbeats 4000000 in
theorem c_commonFactor_y {ad : sA} {nw nt : Nat} {B : sB} {L : sL} {a0 b0 : Int64} : Cf_y yX4_commonFactor cX4_commonFactor 11 (some FieldType.long) 0 [.long a0, .long b0] ad nw nt B L (some (.long (gcS 100 a0 b0))) (B) (L) := by
  have hC : ∀ Q, je_Ok (sCm_y yX4_commonFactor cX4_commonFactor 11 (some FieldType.long) 0 ad nw nt Q) RX4 cX4_commonFactor 11 0 := fun _ => je_Cm_ok
  refine Cs_of_y [some (.long a0), none, some (.long b0), none, none, none, none, none, none, none, none] (by decide) rfl (Nat.le_of_ble_eq_true rfl) ?_
  refine Es_lload_n_y (hC _) dX4_commonFactor_0 rfl ?_
  refine Es_lstore_y (lv' := [_, _, _, _, _, _, _, _, _, _, _]) (hC _) dX4_commonFactor_1 (by decide) rfl rfl ?_
  refine Es_lload_n_y (hC _) dX4_commonFactor_3 rfl ?_
  refine Es_lstore_y (lv' := [_, _, _, _, _, _, _, _, _, _, _]) (hC _) dX4_commonFactor_4 (by decide) rfl rfl ?_
  refine Es_iconst_y (v := 0) (hC _) dX4_commonFactor_6 (by decide) ?_
  refine Es_istore_y (lv' := [_, _, _, _, _, _, _, _, _, _, _]) (hC _) dX4_commonFactor_7 (by decide) rfl rfl ?_
  exact l_cf_y 100 0 a0 b0 rfl rfl
set_option maxRecDepth 100000 in
set_option maxHeartbeats 4000000 in
theorem c_become_0_y {ad : sA} {nw nt : Nat} {B : sB} {L : sL} {t : Nat} (ht : t < nt) {u v : Int64} (hu : u ≤ 0) : Cf_y yX4_become cX4_become 7 none 1 [.ref (ad 24 t), .long u, .long v] ad nw nt B L (none) (B) (uL (uL L 24 t 0 0) 24 t 1 1) := by
  have hC : ∀ Q, je_Ok (sCm_y yX4_become cX4_become 7 none 1 ad nw nt Q) RX4 cX4_become 7 1 := fun _ => je_Cm_ok
  refine Cs_of_y [some (.ref (ad 24 t)), some (.long u), none, some (.long v), none, none, none] (by decide) rfl (Nat.le_of_ble_eq_true rfl) ?_
  refine Es_lload_n_y (hC _) dX4_become_0 rfl ?_
  refine Es_lload_n_y (hC _) dX4_become_1 rfl ?_
  refine Es_fS_y (hC _) ms_X4_18 dX4_become_2 c_commonFactor_y rfl rfl (by decide) (Nat.le_of_ble_eq_true rfl) ?_
  refine Es_lstore_y (lv' := [_, _, _, _, _, _, _]) (hC _) dX4_become_5 (by decide) rfl rfl ?_
  refine Es_lload_n_y (hC _) dX4_become_7 rfl ?_
  refine Es_lconst_y (v := 0) (hC _) dX4_become_8 (by decide) ?_
  refine Es_lcmp_y (hC _) dX4_become_9 ?_
  refine Es_if_le_y (hC _) 26 dX4_become_10 (by decide) (fun hb10 => ?_) (fun hb10 => False.elim (hb10 ((lgle _ _).mpr hu)))
  first | refine Es_aload_n_y (hC _) dX4_become_26 rfl ?_ | refine Es_aload_nN_y (hC _) dX4_become_26 rfl ?_
  refine Es_lconst_y (v := 0) (hC _) dX4_become_27 (by decide) ?_
  refine Sp_X4_0_y (hC _) fl_X4_9 dX4_become_28 ht ?_
  first | refine Es_aload_n_y (hC _) dX4_become_31 rfl ?_ | refine Es_aload_nN_y (hC _) dX4_become_31 rfl ?_
  refine Es_lconst_y (v := 1) (hC _) dX4_become_32 (by decide) ?_
  refine Sp_X4_1_y (hC _) fl_X4_15 dX4_become_33 ht ?_
  exact Es_vret_y dX4_become_36 ⟨rfl, rfl, rfl⟩
set_option maxRecDepth 100000 in
set_option maxHeartbeats 4000000 in
theorem c_become_1_y {ad : sA} {nw nt : Nat} {B : sB} {L : sL} {t : Nat} (ht : t < nt) {u v : Int64} (hu : ¬ u ≤ 0) (hv : ¬ v ≤ 0) (hg : 0 < gcS 100 u v) : Cf_y yX4_become cX4_become 7 none 1 [.ref (ad 24 t), .long u, .long v] ad nw nt B L (none) (B) (uL (uL L 24 t 0 (u / gcS 100 u v)) 24 t 1 (v / gcS 100 u v)) := by
  have hC : ∀ Q, je_Ok (sCm_y yX4_become cX4_become 7 none 1 ad nw nt Q) RX4 cX4_become 7 1 := fun _ => je_Cm_ok
  refine Cs_of_y [some (.ref (ad 24 t)), some (.long u), none, some (.long v), none, none, none] (by decide) rfl (Nat.le_of_ble_eq_true rfl) ?_
  refine Es_lload_n_y (hC _) dX4_become_0 rfl ?_
  refine Es_lload_n_y (hC _) dX4_become_1 rfl ?_
  refine Es_fS_y (hC _) ms_X4_18 dX4_become_2 c_commonFactor_y rfl rfl (by decide) (Nat.le_of_ble_eq_true rfl) ?_
  refine Es_lstore_y (lv' := [_, _, _, _, _, _, _]) (hC _) dX4_become_5 (by decide) rfl rfl ?_
  refine Es_lload_n_y (hC _) dX4_become_7 rfl ?_
  refine Es_lconst_y (v := 0) (hC _) dX4_become_8 (by decide) ?_
  refine Es_lcmp_y (hC _) dX4_become_9 ?_
  refine Es_if_le_y (hC _) 26 dX4_become_10 (by decide) (fun hb10 => False.elim (hu ((lgle _ _).mp hb10))) (fun hb10 => ?_)
  refine Es_lload_n_y (hC _) dX4_become_13 rfl ?_
  refine Es_lconst_y (v := 0) (hC _) dX4_become_14 (by decide) ?_
  refine Es_lcmp_y (hC _) dX4_become_15 ?_
  refine Es_if_le_y (hC _) 26 dX4_become_16 (by decide) (fun hb16 => False.elim (hv ((lgle _ _).mp hb16))) (fun hb16 => ?_)
  refine Es_lload_y (hC _) dX4_become_19 rfl ?_
  refine Es_lconst_y (v := 0) (hC _) dX4_become_21 (by decide) ?_
  refine Es_lcmp_y (hC _) dX4_become_22 ?_
  refine Es_if_gt_y (hC _) 37 dX4_become_23 (by decide) (fun hb23 => ?_) (fun hb23 => False.elim (hb23 ((lggt _ _).mpr hg)))
  first | refine Es_aload_n_y (hC _) dX4_become_37 rfl ?_ | refine Es_aload_nN_y (hC _) dX4_become_37 rfl ?_
  refine Es_lload_n_y (hC _) dX4_become_38 rfl ?_
  refine Es_lload_y (hC _) dX4_become_39 rfl ?_
  refine Es_ldiv_y (hC _) dX4_become_41 (fun z => by rw [z] at hg; exact absurd hg (by decide)) ?_
  refine Sp_X4_0_y (hC _) fl_X4_9 dX4_become_42 ht ?_
  first | refine Es_aload_n_y (hC _) dX4_become_45 rfl ?_ | refine Es_aload_nN_y (hC _) dX4_become_45 rfl ?_
  refine Es_lload_n_y (hC _) dX4_become_46 rfl ?_
  refine Es_lload_y (hC _) dX4_become_47 rfl ?_
  refine Es_ldiv_y (hC _) dX4_become_49 (fun z => by rw [z] at hg; exact absurd hg (by decide)) ?_
  refine Sp_X4_1_y (hC _) fl_X4_15 dX4_become_50 ht ?_
  exact Es_vret_y dX4_become_53 ⟨rfl, rfl, rfl⟩
set_option maxRecDepth 100000 in
set_option maxHeartbeats 4000000 in
theorem l_fw_y {Cx : je_C} {d : Nat} {ad : sA} {nw nt : Nat} {B : sB} {L : sL} {bc bs : Nat} {t r : Nat} {mean : Int32} (hC : je_Ok Cx RX2 cX2_fitWear 15 d) (hd : 1 ≤ d) (ht : t < nt) (hr : B 21 t 6 = nI r) (h12 : r ≤ 12) (kk : Es_y Cx 15 85 [some (.ref (ad 21 t)), some (.int mean), some (.long (sX (B 22 t) r)), none, some (.long (sX (B 23 t) r)), none, some (.long (sXX (B 22 t) r)), none, some (.long (sXY (B 22 t) (B 23 t) r)), none, some (.int (nI r)), none, none, none, none] [] ad nw nt B L bc bs) : ∀ (n i : Nat), i ≤ r → r - i = n → Es_y Cx 15 14 [some (.ref (ad 21 t)), some (.int mean), some (.long (sX (B 22 t) i)), none, some (.long (sX (B 23 t) i)), none, some (.long (sXX (B 22 t) i)), none, some (.long (sXY (B 22 t) (B 23 t) i)), none, some (.int (nI i)), none, none, none, none] [] ad nw nt B L bc bs := by
  intro n
  induction n with
  | zero =>
    intro i hi hn
    have hir : i = r := by omega
    subst hir
    refine Es_iload_y hC dX2_fitWear_14 rfl ?_
    first | refine Es_aload_n_y hC dX2_fitWear_16 rfl ?_ | refine Es_aload_nN_y hC dX2_fitWear_16 rfl ?_
    refine Sg_X2_6_y hC fl_X2_44 dX2_fitWear_17 ht ?_
    rw [hr]
    refine Es_icmp_ge_y hC 85 dX2_fitWear_20 (by decide) (fun hb20 => ?_) (fun hb20 => False.elim (hb20 (nI_le (by omega) (by omega))))
    exact kk
  | succ n ih =>
    intro i hi hn
    refine Es_iload_y hC dX2_fitWear_14 rfl ?_
    first | refine Es_aload_n_y hC dX2_fitWear_16 rfl ?_ | refine Es_aload_nN_y hC dX2_fitWear_16 rfl ?_
    refine Sg_X2_6_y hC fl_X2_44 dX2_fitWear_17 ht ?_
    rw [hr]
    refine Es_icmp_ge_y hC 85 dX2_fitWear_20 (by decide) (fun hb20 => False.elim (nI_ge (b := r) (a := i) (by omega) (by omega) hb20)) (fun hb20 => ?_)
    first | refine Es_aload_n_y hC dX2_fitWear_23 rfl ?_ | refine Es_aload_nN_y hC dX2_fitWear_23 rfl ?_
    refine Sg_X2_3_y hC fl_X2_9 dX2_fitWear_24 ht ?_
    refine Es_iload_y hC dX2_fitWear_27 rfl ?_
    refine Es_fSN_y hC ms_X2_61 dX2_fitWear_29 (c_at_y (kd := 22) (n := 12) (ok22 ht) rfl rfl (by omega) (by decide)) rfl rfl (by omega) (Nat.le_of_ble_eq_true rfl) ?_
    refine Es_i2l_y hC dX2_fitWear_32 ?_
    refine Es_lstore_y (lv' := [_, _, _, _, _, _, _, _, _, _, _, _, _, _, _]) hC dX2_fitWear_33 (by decide) rfl rfl ?_
    first | refine Es_aload_n_y hC dX2_fitWear_35 rfl ?_ | refine Es_aload_nN_y hC dX2_fitWear_35 rfl ?_
    refine Sg_X2_4_y hC fl_X2_15 dX2_fitWear_36 ht ?_
    refine Es_iload_y hC dX2_fitWear_39 rfl ?_
    refine Es_fSN_y hC ms_X2_61 dX2_fitWear_41 (c_at_y (kd := 23) (n := 12) (ok23 ht) rfl rfl (by omega) (by decide)) rfl rfl (by omega) (Nat.le_of_ble_eq_true rfl) ?_
    refine Es_i2l_y hC dX2_fitWear_44 ?_
    refine Es_lstore_y (lv' := [_, _, _, _, _, _, _, _, _, _, _, _, _, _, _]) hC dX2_fitWear_45 (by decide) rfl rfl ?_
    refine Es_lload_n_y hC dX2_fitWear_47 rfl ?_
    refine Es_lload_y hC dX2_fitWear_48 rfl ?_
    refine Es_ladd_y hC dX2_fitWear_50 ?_
    refine Es_lstore_n_y (lv' := [_, _, _, _, _, _, _, _, _, _, _, _, _, _, _]) hC dX2_fitWear_51 (by decide) rfl rfl ?_
    refine Es_lload_y hC dX2_fitWear_52 rfl ?_
    refine Es_lload_y hC dX2_fitWear_54 rfl ?_
    refine Es_ladd_y hC dX2_fitWear_56 ?_
    refine Es_lstore_y (lv' := [_, _, _, _, _, _, _, _, _, _, _, _, _, _, _]) hC dX2_fitWear_57 (by decide) rfl rfl ?_
    refine Es_lload_y hC dX2_fitWear_59 rfl ?_
    refine Es_lload_y hC dX2_fitWear_61 rfl ?_
    refine Es_lload_y hC dX2_fitWear_63 rfl ?_
    refine Es_lmul_y hC dX2_fitWear_65 ?_
    refine Es_ladd_y hC dX2_fitWear_66 ?_
    refine Es_lstore_y (lv' := [_, _, _, _, _, _, _, _, _, _, _, _, _, _, _]) hC dX2_fitWear_67 (by decide) rfl rfl ?_
    refine Es_lload_y hC dX2_fitWear_69 rfl ?_
    refine Es_lload_y hC dX2_fitWear_71 rfl ?_
    refine Es_lload_y hC dX2_fitWear_73 rfl ?_
    refine Es_lmul_y hC dX2_fitWear_75 ?_
    refine Es_ladd_y hC dX2_fitWear_76 ?_
    refine Es_lstore_y (lv' := [_, _, _, _, _, _, _, _, _, _, _, _, _, _, _]) hC dX2_fitWear_77 (by decide) rfl rfl ?_
    refine Es_iinc_y (lv' := [_, _, _, _, _, _, _, _, _, _, _, _, _, _, _]) hC dX2_fitWear_79 (by decide) rfl (show _ + Int32.ofInt (1) = _ + (1) from rfl) rfl rfl ?_
    refine Es_goto_y hC 14 dX2_fitWear_82 (by decide) ?_
    refine Es_y.kill 11 (lv' := [_, _, _, _, _, _, _, _, _, _, _, _, _, _, _]) rfl ?_
    refine Es_y.kill 13 (lv' := [_, _, _, _, _, _, _, _, _, _, _, _, _, _, _]) rfl ?_
    rw [nI_1]
    exact ih (i + 1) (by omega) (by omega)
set_option maxRecDepth 100000 in
set_option maxHeartbeats 4000000 in
theorem c_fitWear_a_y {ad : sA} {nw nt : Nat} {B : sB} {L : sL} {t r : Nat} {mean : Int32} (ht : t < nt) (hr : B 21 t 6 = nI r) (h12 : r ≤ 12) (hz : wD0 (B 22 t) r ≤ 0) (hu : mean.toInt64 ≤ 0) : Cf_y yX2_fitWear cX2_fitWear 15 none 3 [.ref (ad 21 t), .int mean] ad nw nt B L (none) (B) (uL (uL L 24 t 0 0) 24 t 1 1) := by
  have hC : ∀ Q, je_Ok (sCm_y yX2_fitWear cX2_fitWear 15 none 3 ad nw nt Q) RX2 cX2_fitWear 15 3 := fun _ => je_Cm_ok
  refine Cs_of_y [some (.ref (ad 21 t)), some (.int mean), none, none, none, none, none, none, none, none, none, none, none, none, none] (by decide) rfl (Nat.le_of_ble_eq_true rfl) ?_
  refine Es_lconst_y (v := 0) (hC _) dX2_fitWear_0 (by decide) ?_
  refine Es_lstore_n_y (lv' := [_, _, _, _, _, _, _, _, _, _, _, _, _, _, _]) (hC _) dX2_fitWear_1 (by decide) rfl rfl ?_
  refine Es_lconst_y (v := 0) (hC _) dX2_fitWear_2 (by decide) ?_
  refine Es_lstore_y (lv' := [_, _, _, _, _, _, _, _, _, _, _, _, _, _, _]) (hC _) dX2_fitWear_3 (by decide) rfl rfl ?_
  refine Es_lconst_y (v := 0) (hC _) dX2_fitWear_5 (by decide) ?_
  refine Es_lstore_y (lv' := [_, _, _, _, _, _, _, _, _, _, _, _, _, _, _]) (hC _) dX2_fitWear_6 (by decide) rfl rfl ?_
  refine Es_lconst_y (v := 0) (hC _) dX2_fitWear_8 (by decide) ?_
  refine Es_lstore_y (lv' := [_, _, _, _, _, _, _, _, _, _, _, _, _, _, _]) (hC _) dX2_fitWear_9 (by decide) rfl rfl ?_
  refine Es_iconst_y (v := 0) (hC _) dX2_fitWear_11 (by decide) ?_
  refine Es_istore_y (lv' := [_, _, _, _, _, _, _, _, _, _, _, _, _, _, _]) (hC _) dX2_fitWear_12 (by decide) rfl rfl ?_
  refine l_fw_y (r := r) (hC _) (by decide) ht hr h12 ?_ r 0 (by omega) (by omega)
  first | refine Es_aload_n_y (hC _) dX2_fitWear_85 rfl ?_ | refine Es_aload_nN_y (hC _) dX2_fitWear_85 rfl ?_
  refine Sg_X2_6_y (hC _) fl_X2_44 dX2_fitWear_86 ht ?_
  rw [hr]
  refine Es_i2l_y (hC _) dX2_fitWear_89 ?_
  refine Es_lload_y (hC _) dX2_fitWear_90 rfl ?_
  refine Es_lmul_y (hC _) dX2_fitWear_92 ?_
  refine Es_lload_n_y (hC _) dX2_fitWear_93 rfl ?_
  refine Es_lload_n_y (hC _) dX2_fitWear_94 rfl ?_
  refine Es_lmul_y (hC _) dX2_fitWear_95 ?_
  refine Es_lsub_y (hC _) dX2_fitWear_96 ?_
  refine Es_lstore_y (lv' := [_, _, _, _, _, _, _, _, _, _, _, _, _, _, _]) (hC _) dX2_fitWear_97 (by decide) rfl rfl ?_
  refine Es_lload_y (hC _) dX2_fitWear_99 rfl ?_
  refine Es_lconst_y (v := 0) (hC _) dX2_fitWear_101 (by decide) ?_
  refine Es_lcmp_y (hC _) dX2_fitWear_102 ?_
  refine Es_if_le_y (hC _) 131 dX2_fitWear_103 (by decide) (fun hb103 => ?_) (fun hb103 => False.elim (hb103 ((lgle _ _).mpr hz)))
  first | refine Es_aload_n_y (hC _) dX2_fitWear_131 rfl ?_ | refine Es_aload_nN_y (hC _) dX2_fitWear_131 rfl ?_
  refine Sg_X2_5_y (hC _) fl_X2_21 dX2_fitWear_132 ht ?_
  refine Es_iload_n_y (hC _) dX2_fitWear_135 rfl ?_
  refine Es_i2l_y (hC _) dX2_fitWear_136 ?_
  refine Es_ldc2_y (hC _) cq_X2_69 dX2_fitWear_137 ?_
  refine Es_fV_y (hC _) mv_X2_65 dX2_fitWear_140 (c_become_0_y ht hu) (ok24 ht) rfl ⟨_, rfl, rfl⟩ rfl rfl (by decide) (Nat.le_of_ble_eq_true rfl) ?_
  exact Es_vret_y dX2_fitWear_143 ⟨rfl, rfl, rfl⟩
set_option maxRecDepth 100000 in
set_option maxHeartbeats 4000000 in
theorem c_fitWear_b_y {ad : sA} {nw nt : Nat} {B : sB} {L : sL} {t r : Nat} {mean : Int32} (ht : t < nt) (hr : B 21 t 6 = nI r) (h12 : r ≤ 12) (hz : wD0 (B 22 t) r ≤ 0) (hu : ¬ mean.toInt64 ≤ 0) (hg : 0 < gcS 100 mean.toInt64 100000) : Cf_y yX2_fitWear cX2_fitWear 15 none 3 [.ref (ad 21 t), .int mean] ad nw nt B L (none) (B) (uL (uL L 24 t 0 (mean.toInt64 / gcS 100 mean.toInt64 100000)) 24 t 1 (100000 / gcS 100 mean.toInt64 100000)) := by
  have hC : ∀ Q, je_Ok (sCm_y yX2_fitWear cX2_fitWear 15 none 3 ad nw nt Q) RX2 cX2_fitWear 15 3 := fun _ => je_Cm_ok
  refine Cs_of_y [some (.ref (ad 21 t)), some (.int mean), none, none, none, none, none, none, none, none, none, none, none, none, none] (by decide) rfl (Nat.le_of_ble_eq_true rfl) ?_
  refine Es_lconst_y (v := 0) (hC _) dX2_fitWear_0 (by decide) ?_
  refine Es_lstore_n_y (lv' := [_, _, _, _, _, _, _, _, _, _, _, _, _, _, _]) (hC _) dX2_fitWear_1 (by decide) rfl rfl ?_
  refine Es_lconst_y (v := 0) (hC _) dX2_fitWear_2 (by decide) ?_
  refine Es_lstore_y (lv' := [_, _, _, _, _, _, _, _, _, _, _, _, _, _, _]) (hC _) dX2_fitWear_3 (by decide) rfl rfl ?_
  refine Es_lconst_y (v := 0) (hC _) dX2_fitWear_5 (by decide) ?_
  refine Es_lstore_y (lv' := [_, _, _, _, _, _, _, _, _, _, _, _, _, _, _]) (hC _) dX2_fitWear_6 (by decide) rfl rfl ?_
  refine Es_lconst_y (v := 0) (hC _) dX2_fitWear_8 (by decide) ?_
  refine Es_lstore_y (lv' := [_, _, _, _, _, _, _, _, _, _, _, _, _, _, _]) (hC _) dX2_fitWear_9 (by decide) rfl rfl ?_
  refine Es_iconst_y (v := 0) (hC _) dX2_fitWear_11 (by decide) ?_
  refine Es_istore_y (lv' := [_, _, _, _, _, _, _, _, _, _, _, _, _, _, _]) (hC _) dX2_fitWear_12 (by decide) rfl rfl ?_
  refine l_fw_y (r := r) (hC _) (by decide) ht hr h12 ?_ r 0 (by omega) (by omega)
  first | refine Es_aload_n_y (hC _) dX2_fitWear_85 rfl ?_ | refine Es_aload_nN_y (hC _) dX2_fitWear_85 rfl ?_
  refine Sg_X2_6_y (hC _) fl_X2_44 dX2_fitWear_86 ht ?_
  rw [hr]
  refine Es_i2l_y (hC _) dX2_fitWear_89 ?_
  refine Es_lload_y (hC _) dX2_fitWear_90 rfl ?_
  refine Es_lmul_y (hC _) dX2_fitWear_92 ?_
  refine Es_lload_n_y (hC _) dX2_fitWear_93 rfl ?_
  refine Es_lload_n_y (hC _) dX2_fitWear_94 rfl ?_
  refine Es_lmul_y (hC _) dX2_fitWear_95 ?_
  refine Es_lsub_y (hC _) dX2_fitWear_96 ?_
  refine Es_lstore_y (lv' := [_, _, _, _, _, _, _, _, _, _, _, _, _, _, _]) (hC _) dX2_fitWear_97 (by decide) rfl rfl ?_
  refine Es_lload_y (hC _) dX2_fitWear_99 rfl ?_
  refine Es_lconst_y (v := 0) (hC _) dX2_fitWear_101 (by decide) ?_
  refine Es_lcmp_y (hC _) dX2_fitWear_102 ?_
  refine Es_if_le_y (hC _) 131 dX2_fitWear_103 (by decide) (fun hb103 => ?_) (fun hb103 => False.elim (hb103 ((lgle _ _).mpr hz)))
  first | refine Es_aload_n_y (hC _) dX2_fitWear_131 rfl ?_ | refine Es_aload_nN_y (hC _) dX2_fitWear_131 rfl ?_
  refine Sg_X2_5_y (hC _) fl_X2_21 dX2_fitWear_132 ht ?_
  refine Es_iload_n_y (hC _) dX2_fitWear_135 rfl ?_
  refine Es_i2l_y (hC _) dX2_fitWear_136 ?_
  refine Es_ldc2_y (hC _) cq_X2_69 dX2_fitWear_137 ?_
  refine Es_fV_y (hC _) mv_X2_65 dX2_fitWear_140 (c_become_1_y ht hu (by decide) hg) (ok24 ht) rfl ⟨_, rfl, rfl⟩ rfl rfl (by decide) (Nat.le_of_ble_eq_true rfl) ?_
  exact Es_vret_y dX2_fitWear_143 ⟨rfl, rfl, rfl⟩
set_option maxRecDepth 100000 in
set_option maxHeartbeats 4000000 in
theorem c_fitWear_c_y {ad : sA} {nw nt : Nat} {B : sB} {L : sL} {t r : Nat} {mean : Int32} (ht : t < nt) (hr : B 21 t 6 = nI r) (h12 : r ≤ 12) (hz : ¬ wD0 (B 22 t) r ≤ 0) (hu : wU0 (B 22 t) (B 23 t) r ≤ 0) : Cf_y yX2_fitWear cX2_fitWear 15 none 3 [.ref (ad 21 t), .int mean] ad nw nt B L (none) (B) (uL (uL L 24 t 0 0) 24 t 1 1) := by
  have hC : ∀ Q, je_Ok (sCm_y yX2_fitWear cX2_fitWear 15 none 3 ad nw nt Q) RX2 cX2_fitWear 15 3 := fun _ => je_Cm_ok
  refine Cs_of_y [some (.ref (ad 21 t)), some (.int mean), none, none, none, none, none, none, none, none, none, none, none, none, none] (by decide) rfl (Nat.le_of_ble_eq_true rfl) ?_
  refine Es_lconst_y (v := 0) (hC _) dX2_fitWear_0 (by decide) ?_
  refine Es_lstore_n_y (lv' := [_, _, _, _, _, _, _, _, _, _, _, _, _, _, _]) (hC _) dX2_fitWear_1 (by decide) rfl rfl ?_
  refine Es_lconst_y (v := 0) (hC _) dX2_fitWear_2 (by decide) ?_
  refine Es_lstore_y (lv' := [_, _, _, _, _, _, _, _, _, _, _, _, _, _, _]) (hC _) dX2_fitWear_3 (by decide) rfl rfl ?_
  refine Es_lconst_y (v := 0) (hC _) dX2_fitWear_5 (by decide) ?_
  refine Es_lstore_y (lv' := [_, _, _, _, _, _, _, _, _, _, _, _, _, _, _]) (hC _) dX2_fitWear_6 (by decide) rfl rfl ?_
  refine Es_lconst_y (v := 0) (hC _) dX2_fitWear_8 (by decide) ?_
  refine Es_lstore_y (lv' := [_, _, _, _, _, _, _, _, _, _, _, _, _, _, _]) (hC _) dX2_fitWear_9 (by decide) rfl rfl ?_
  refine Es_iconst_y (v := 0) (hC _) dX2_fitWear_11 (by decide) ?_
  refine Es_istore_y (lv' := [_, _, _, _, _, _, _, _, _, _, _, _, _, _, _]) (hC _) dX2_fitWear_12 (by decide) rfl rfl ?_
  refine l_fw_y (r := r) (hC _) (by decide) ht hr h12 ?_ r 0 (by omega) (by omega)
  first | refine Es_aload_n_y (hC _) dX2_fitWear_85 rfl ?_ | refine Es_aload_nN_y (hC _) dX2_fitWear_85 rfl ?_
  refine Sg_X2_6_y (hC _) fl_X2_44 dX2_fitWear_86 ht ?_
  rw [hr]
  refine Es_i2l_y (hC _) dX2_fitWear_89 ?_
  refine Es_lload_y (hC _) dX2_fitWear_90 rfl ?_
  refine Es_lmul_y (hC _) dX2_fitWear_92 ?_
  refine Es_lload_n_y (hC _) dX2_fitWear_93 rfl ?_
  refine Es_lload_n_y (hC _) dX2_fitWear_94 rfl ?_
  refine Es_lmul_y (hC _) dX2_fitWear_95 ?_
  refine Es_lsub_y (hC _) dX2_fitWear_96 ?_
  refine Es_lstore_y (lv' := [_, _, _, _, _, _, _, _, _, _, _, _, _, _, _]) (hC _) dX2_fitWear_97 (by decide) rfl rfl ?_
  refine Es_lload_y (hC _) dX2_fitWear_99 rfl ?_
  refine Es_lconst_y (v := 0) (hC _) dX2_fitWear_101 (by decide) ?_
  refine Es_lcmp_y (hC _) dX2_fitWear_102 ?_
  refine Es_if_le_y (hC _) 131 dX2_fitWear_103 (by decide) (fun hb103 => False.elim (hz ((lgle _ _).mp hb103))) (fun hb103 => ?_)
  first | refine Es_aload_n_y (hC _) dX2_fitWear_106 rfl ?_ | refine Es_aload_nN_y (hC _) dX2_fitWear_106 rfl ?_
  refine Sg_X2_5_y (hC _) fl_X2_21 dX2_fitWear_107 ht ?_
  refine Es_lload_n_y (hC _) dX2_fitWear_110 rfl ?_
  refine Es_lload_y (hC _) dX2_fitWear_111 rfl ?_
  refine Es_lmul_y (hC _) dX2_fitWear_113 ?_
  first | refine Es_aload_n_y (hC _) dX2_fitWear_114 rfl ?_ | refine Es_aload_nN_y (hC _) dX2_fitWear_114 rfl ?_
  refine Sg_X2_6_y (hC _) fl_X2_44 dX2_fitWear_115 ht ?_
  rw [hr]
  refine Es_i2l_y (hC _) dX2_fitWear_118 ?_
  refine Es_lload_y (hC _) dX2_fitWear_119 rfl ?_
  refine Es_lmul_y (hC _) dX2_fitWear_121 ?_
  refine Es_lsub_y (hC _) dX2_fitWear_122 ?_
  refine Es_lload_y (hC _) dX2_fitWear_123 rfl ?_
  refine Es_fV_y (hC _) mv_X2_65 dX2_fitWear_125 (c_become_0_y ht hu) (ok24 ht) rfl ⟨_, rfl, rfl⟩ rfl rfl (by decide) (Nat.le_of_ble_eq_true rfl) ?_
  refine Es_goto_y (hC _) 143 dX2_fitWear_128 (by decide) ?_
  exact Es_vret_y dX2_fitWear_143 ⟨rfl, rfl, rfl⟩
set_option maxRecDepth 100000 in
set_option maxHeartbeats 4000000 in
theorem c_fitWear_d_y {ad : sA} {nw nt : Nat} {B : sB} {L : sL} {t r : Nat} {mean : Int32} (ht : t < nt) (hr : B 21 t 6 = nI r) (h12 : r ≤ 12) (hz : ¬ wD0 (B 22 t) r ≤ 0) (hu : ¬ wU0 (B 22 t) (B 23 t) r ≤ 0) (hg : 0 < gcS 100 (wU0 (B 22 t) (B 23 t) r) (wD0 (B 22 t) r)) : Cf_y yX2_fitWear cX2_fitWear 15 none 3 [.ref (ad 21 t), .int mean] ad nw nt B L (none) (B) (uL (uL L 24 t 0 (wU0 (B 22 t) (B 23 t) r / gcS 100 (wU0 (B 22 t) (B 23 t) r) (wD0 (B 22 t) r))) 24 t 1 (wD0 (B 22 t) r / gcS 100 (wU0 (B 22 t) (B 23 t) r) (wD0 (B 22 t) r))) := by
  have hC : ∀ Q, je_Ok (sCm_y yX2_fitWear cX2_fitWear 15 none 3 ad nw nt Q) RX2 cX2_fitWear 15 3 := fun _ => je_Cm_ok
  refine Cs_of_y [some (.ref (ad 21 t)), some (.int mean), none, none, none, none, none, none, none, none, none, none, none, none, none] (by decide) rfl (Nat.le_of_ble_eq_true rfl) ?_
  refine Es_lconst_y (v := 0) (hC _) dX2_fitWear_0 (by decide) ?_
  refine Es_lstore_n_y (lv' := [_, _, _, _, _, _, _, _, _, _, _, _, _, _, _]) (hC _) dX2_fitWear_1 (by decide) rfl rfl ?_
  refine Es_lconst_y (v := 0) (hC _) dX2_fitWear_2 (by decide) ?_
  refine Es_lstore_y (lv' := [_, _, _, _, _, _, _, _, _, _, _, _, _, _, _]) (hC _) dX2_fitWear_3 (by decide) rfl rfl ?_
  refine Es_lconst_y (v := 0) (hC _) dX2_fitWear_5 (by decide) ?_
  refine Es_lstore_y (lv' := [_, _, _, _, _, _, _, _, _, _, _, _, _, _, _]) (hC _) dX2_fitWear_6 (by decide) rfl rfl ?_
  refine Es_lconst_y (v := 0) (hC _) dX2_fitWear_8 (by decide) ?_
  refine Es_lstore_y (lv' := [_, _, _, _, _, _, _, _, _, _, _, _, _, _, _]) (hC _) dX2_fitWear_9 (by decide) rfl rfl ?_
  refine Es_iconst_y (v := 0) (hC _) dX2_fitWear_11 (by decide) ?_
  refine Es_istore_y (lv' := [_, _, _, _, _, _, _, _, _, _, _, _, _, _, _]) (hC _) dX2_fitWear_12 (by decide) rfl rfl ?_
  refine l_fw_y (r := r) (hC _) (by decide) ht hr h12 ?_ r 0 (by omega) (by omega)
  first | refine Es_aload_n_y (hC _) dX2_fitWear_85 rfl ?_ | refine Es_aload_nN_y (hC _) dX2_fitWear_85 rfl ?_
  refine Sg_X2_6_y (hC _) fl_X2_44 dX2_fitWear_86 ht ?_
  rw [hr]
  refine Es_i2l_y (hC _) dX2_fitWear_89 ?_
  refine Es_lload_y (hC _) dX2_fitWear_90 rfl ?_
  refine Es_lmul_y (hC _) dX2_fitWear_92 ?_
  refine Es_lload_n_y (hC _) dX2_fitWear_93 rfl ?_
  refine Es_lload_n_y (hC _) dX2_fitWear_94 rfl ?_
  refine Es_lmul_y (hC _) dX2_fitWear_95 ?_
  refine Es_lsub_y (hC _) dX2_fitWear_96 ?_
  refine Es_lstore_y (lv' := [_, _, _, _, _, _, _, _, _, _, _, _, _, _, _]) (hC _) dX2_fitWear_97 (by decide) rfl rfl ?_
  refine Es_lload_y (hC _) dX2_fitWear_99 rfl ?_
  refine Es_lconst_y (v := 0) (hC _) dX2_fitWear_101 (by decide) ?_
  refine Es_lcmp_y (hC _) dX2_fitWear_102 ?_
  refine Es_if_le_y (hC _) 131 dX2_fitWear_103 (by decide) (fun hb103 => False.elim (hz ((lgle _ _).mp hb103))) (fun hb103 => ?_)
  first | refine Es_aload_n_y (hC _) dX2_fitWear_106 rfl ?_ | refine Es_aload_nN_y (hC _) dX2_fitWear_106 rfl ?_
  refine Sg_X2_5_y (hC _) fl_X2_21 dX2_fitWear_107 ht ?_
  refine Es_lload_n_y (hC _) dX2_fitWear_110 rfl ?_
  refine Es_lload_y (hC _) dX2_fitWear_111 rfl ?_
  refine Es_lmul_y (hC _) dX2_fitWear_113 ?_
  first | refine Es_aload_n_y (hC _) dX2_fitWear_114 rfl ?_ | refine Es_aload_nN_y (hC _) dX2_fitWear_114 rfl ?_
  refine Sg_X2_6_y (hC _) fl_X2_44 dX2_fitWear_115 ht ?_
  rw [hr]
  refine Es_i2l_y (hC _) dX2_fitWear_118 ?_
  refine Es_lload_y (hC _) dX2_fitWear_119 rfl ?_
  refine Es_lmul_y (hC _) dX2_fitWear_121 ?_
  refine Es_lsub_y (hC _) dX2_fitWear_122 ?_
  refine Es_lload_y (hC _) dX2_fitWear_123 rfl ?_
  refine Es_fV_y (hC _) mv_X2_65 dX2_fitWear_125 (c_become_1_y ht hu hz hg) (ok24 ht) rfl ⟨_, rfl, rfl⟩ rfl rfl (by decide) (Nat.le_of_ble_eq_true rfl) ?_
  refine Es_goto_y (hC _) 143 dX2_fitWear_128 (by decide) ?_
  exact Es_vret_y dX2_fitWear_143 ⟨rfl, rfl, rfl⟩
theorem c_fitWear_y {ad : sA} {nw nt : Nat} {B : sB} {L : sL} {t r : Nat} {mean : Int32} (ht : t < nt) (hr : B 21 t 6 = nI r) (h12 : r ≤ 12) (ho : okR (B 22 t) r 1000000) : Cf_y yX2_fitWear cX2_fitWear 15 none 3 [.ref (ad 21 t), .int mean] ad nw nt B L none B (wS L t (wUD (B 22 t) (B 23 t) r mean)) := by
  obtain ⟨-, d1, d2⟩ := wD0_i h12 ho
  unfold wS wUD
  by_cases hz : wD0 (B 22 t) r = 0
  · simp only [if_pos hz]
    have hz2 : wD0 (B 22 t) r ≤ 0 := by rw [hz]; decide
    by_cases hu : mean.toInt64 ≤ 0
    · simp only [if_pos hu]
      exact c_fitWear_a_y ht hr h12 hz2 hu
    · simp only [if_neg hu]
      exact c_fitWear_b_y ht hr h12 hz2 hu (gc_pos (l_nle hu) (by decide))
  · simp only [if_neg hz]
    have hz2 : ¬ wD0 (B 22 t) r ≤ 0 := fun z => by
      have h1 := Int64.le_iff_toInt_le.mp z
      have h2 : (0 : Int64).toInt = 0 := rfl
      exact hz (Int64.toInt_inj.mp (by omega))
    by_cases hu : wU0 (B 22 t) (B 23 t) r ≤ 0
    · simp only [if_pos hu]
      exact c_fitWear_c_y ht hr h12 hz2 hu
    · simp only [if_neg hu]
      exact c_fitWear_d_y ht hr h12 hz2 hu (gc_pos (l_nle hu) (l_nle hz2))
set_option maxRecDepth 100000 in
set_option maxHeartbeats 4000000 in
theorem c_addReading_n_y {ad : sA} {nw nt : Nat} {B : sB} {L : sL} {t r : Nat} {x : Int32} (ht : t < nt) (hr : B 21 t 6 = nI r) (h12 : r < 12) : Cf_y yX2_addReading cX2_addReading 2 none 2 [.ref (ad 21 t), .int x] ad nw nt B L (none) (cAdd B t r x) (L) := by
  have hC : ∀ Q, je_Ok (sCm_y yX2_addReading cX2_addReading 2 none 2 ad nw nt Q) RX2 cX2_addReading 2 2 := fun _ => je_Cm_ok
  refine Cs_of_y [some (.ref (ad 21 t)), some (.int x)] (by decide) rfl (Nat.le_of_ble_eq_true rfl) ?_
  first | refine Es_aload_n_y (hC _) dX2_addReading_0 rfl ?_ | refine Es_aload_nN_y (hC _) dX2_addReading_0 rfl ?_
  refine Sg_X2_6_y (hC _) fl_X2_44 dX2_addReading_1 ht ?_
  rw [hr]
  refine Es_bipush_y (v := 12) (hC _) dX2_addReading_4 (by decide) ?_
  refine Es_icmp_lt_y (hC _) 13 dX2_addReading_6 (by decide) (fun hb6 => ?_) (fun hb6 => False.elim (hb6 (nI_lt (b := 12) (a := r) h12 (by decide))))
  first | refine Es_aload_n_y (hC _) dX2_addReading_13 rfl ?_ | refine Es_aload_nN_y (hC _) dX2_addReading_13 rfl ?_
  refine Sg_X2_3_y (hC _) fl_X2_9 dX2_addReading_14 ht ?_
  first | refine Es_aload_n_y (hC _) dX2_addReading_17 rfl ?_ | refine Es_aload_nN_y (hC _) dX2_addReading_17 rfl ?_
  refine Sg_X2_6_y (hC _) fl_X2_44 dX2_addReading_18 ht ?_
  rw [hr]
  first | refine Es_aload_n_y (hC _) dX2_addReading_21 rfl ?_ | refine Es_aload_nN_y (hC _) dX2_addReading_21 rfl ?_
  refine Sg_X2_9_y (hC _) fl_X2_41 dX2_addReading_22 ht ?_
  refine Es_fSN_y (hC _) ms_X2_57 dX2_addReading_25 (c_write_y (kd := 22) (n := 12) (ok22 ht) (fun _ => rfl) rfl (by omega) (by decide)) rfl rfl (by decide) (Nat.le_of_ble_eq_true rfl) ?_
  first | refine Es_aload_n_y (hC _) dX2_addReading_28 rfl ?_ | refine Es_aload_nN_y (hC _) dX2_addReading_28 rfl ?_
  refine Sg_X2_4_y (hC _) fl_X2_15 dX2_addReading_29 ht ?_
  first | refine Es_aload_n_y (hC _) dX2_addReading_32 rfl ?_ | refine Es_aload_nN_y (hC _) dX2_addReading_32 rfl ?_
  refine Sg_X2_6_y (hC _) fl_X2_44 dX2_addReading_33 ht ?_
  rw [uB_n (by omega), hr]
  refine Es_iload_n_y (hC _) dX2_addReading_36 rfl ?_
  refine Es_fSN_y (hC _) ms_X2_57 dX2_addReading_37 (c_write_y (kd := 23) (n := 12) (ok23 ht) (fun _ => rfl) rfl (by omega) (by decide)) rfl rfl (by decide) (Nat.le_of_ble_eq_true rfl) ?_
  first | refine Es_aload_n_y (hC _) dX2_addReading_40 rfl ?_ | refine Es_aload_nN_y (hC _) dX2_addReading_40 rfl ?_
  refine Es_dup_y (hC _) dX2_addReading_41 rfl ?_
  refine Sg_X2_6_y (hC _) fl_X2_44 dX2_addReading_42 ht ?_
  rw [uB_n (by omega), uB_n (by omega), hr]
  refine Es_iconst_y (v := 1) (hC _) dX2_addReading_45 (by decide) ?_
  refine Es_iadd_y (hC _) dX2_addReading_46 ?_
  rw [nI_1]
  refine Sp_X2_6_y (hC _) fl_X2_44 dX2_addReading_47 ht ?_
  exact Es_vret_y dX2_addReading_50 ⟨rfl, rfl, rfl⟩
set_option maxRecDepth 100000 in
set_option maxHeartbeats 4000000 in
theorem c_startTread_y {ad : sA} {nw nt : Nat} {B : sB} {L : sL} {t : Nat} {mean : Int32} (ht : t < nt) : Cf_y yX2_startTread cX2_startTread 2 none 4 [.ref (ad 21 t), .int mean] ad nw nt B L (none) (cSt B t) (wS L t (wUD (fun _ => 0) (fun _ => 180) 1 mean)) := by
  have hC : ∀ Q, je_Ok (sCm_y yX2_startTread cX2_startTread 2 none 4 ad nw nt Q) RX2 cX2_startTread 2 4 := fun _ => je_Cm_ok
  refine Cs_of_y [some (.ref (ad 21 t)), some (.int mean)] (by decide) rfl (Nat.le_of_ble_eq_true rfl) ?_
  have hok : okR (cSt B t 22 t) 1 1000000 := fun i hi => by
    have : i = 0 := by omega
    subst this
    rw [show cSt B t 22 t 0 = 0 by unfold cSt cAdd; rw [uB_n (by omega), uB_n (by omega), uB_s, uB_n (by omega), uB_s]]
    decide
  first | refine Es_aload_n_y (hC _) dX2_startTread_0 rfl ?_ | refine Es_aload_nN_y (hC _) dX2_startTread_0 rfl ?_
  refine Es_iconst_y (v := 0) (hC _) dX2_startTread_1 (by decide) ?_
  refine Sp_X2_9_y (hC _) fl_X2_41 dX2_startTread_2 ht ?_
  first | refine Es_aload_n_y (hC _) dX2_startTread_5 rfl ?_ | refine Es_aload_nN_y (hC _) dX2_startTread_5 rfl ?_
  refine Es_iconst_y (v := 0) (hC _) dX2_startTread_6 (by decide) ?_
  refine Sp_X2_6_y (hC _) fl_X2_44 dX2_startTread_7 ht ?_
  first | refine Es_aload_n_y (hC _) dX2_startTread_10 rfl ?_ | refine Es_aload_nN_y (hC _) dX2_startTread_10 rfl ?_
  refine Es_sipush_y (v := 180) (hC _) dX2_startTread_11 (by decide) ?_
  refine Es_fV_y (hC _) mv_X2_47 dX2_startTread_14 (c_addReading_n_y (r := 0) ht (uB_s _ _ _ _ _) (by decide)) (ok21 ht) rfl ⟨_, rfl, rfl⟩ rfl rfl (by decide) (Nat.le_of_ble_eq_true rfl) ?_
  first | refine Es_aload_n_y (hC _) dX2_startTread_17 rfl ?_ | refine Es_aload_nN_y (hC _) dX2_startTread_17 rfl ?_
  refine Es_iload_n_y (hC _) dX2_startTread_18 rfl ?_
  refine Es_fV_y (hC _) mv_X2_51 dX2_startTread_19 (c_fitWear_y (r := 1) ht (uB_s _ _ _ _ _) (by decide) hok) (ok21 ht) rfl ⟨_, rfl, rfl⟩ rfl rfl (by decide) (Nat.le_of_ble_eq_true rfl) ?_
  exact Es_vret_y dX2_startTread_22 ⟨rfl, rfl, by rw [← cSt_w (B := B) (t := t)]; rfl⟩
