theorem Cs_ofF {y : MethodName} {cc : ByteArray} {nL : Nat} {ret : Option FieldType} {d : Nat} {av : List Value} {ad : sA} {nw nt : Nat} {B : sB} {L : sL} {Q : Option Value → sB → sL → Prop} (lv : je_V0) (hpl : plainFor y = true) (hlv : je_en av nL = lv) (hsz : (lg_sl av).length ≤ nL)
    (body : Es (sCm y cc nL ret d ad nw nt Q) nL 0 lv [] ad nw nt B L 0 0) : Cs y cc nL ret d av ad nw nt B L Q := fun h hs => Ct_ofF lv hpl hlv hsz (body h hs)
theorem lgz (x y : Int64) : lg_cmp x y = 0 ↔ x = y := by
  unfold lg_cmp
  by_cases h : x > y
  · rw [if_pos h]
    exact ⟨fun z => absurd z (by decide), fun z => by subst z; exact absurd h (by simp)⟩
  · rw [if_neg h]
    by_cases h2 : x = y
    · rw [if_pos h2]
      exact ⟨fun _ => h2, fun _ => rfl⟩
    · rw [if_neg h2]
      exact ⟨fun z => absurd z (by decide), fun z => (h2 z).elim⟩
theorem lgle (x y : Int64) : lg_cmp x y ≤ 0 ↔ x ≤ y := lg_cmp_le x y
theorem lgge (x y : Int64) : 0 ≤ lg_cmp x y ↔ y ≤ x := lg_cmp_ge x y
theorem lggt (x y : Int64) : 0 < lg_cmp x y ↔ y < x := by
  rw [← Int32.not_le, lgle, Int64.not_le]
theorem lglt (x y : Int64) : lg_cmp x y < 0 ↔ x < y := by
  rw [← Int32.not_le, lgge, Int64.not_le]
def mxL (x y : Int64) : Int64 := if x < y then y else x
def mnL (x y : Int64) : Int64 := if y < x then y else x
def mxI (x y : Int32) : Int32 := if x < y then y else x
def mnI (x y : Int32) : Int32 := if y < x then y else x
def abI (x : Int32) : Int32 := if 0 ≤ x then x else -x
set_option maxRecDepth 100000 in
set_option maxHeartbeats 4000000 in
theorem j_maxl {ad : sA} {nw nt : Nat} {B : sB} {L : sL} {x y : Int64} : Cf yJ9_max_f86c9 cJ9_max_f86c9 4 (some FieldType.long) 0 [.long x, .long y] ad nw nt B L (some (.long (mxL x y))) (B) (L) := by
  have hC : ∀ Q, je_Ok (sCm yJ9_max_f86c9 cJ9_max_f86c9 4 (some FieldType.long) 0 ad nw nt Q) RJ9 cJ9_max_f86c9 4 0 := fun _ => je_Cm_ok
  refine Cs_ofF [some (.long x), none, some (.long y), none] (by decide +kernel) rfl (Nat.le_of_ble_eq_true rfl) ?_
  refine Es_lload_n (hC _) dJ9_max_f86c9_0 rfl ?_
  refine Es_lload_n (hC _) dJ9_max_f86c9_1 rfl ?_
  refine Es_lcmp (hC _) dJ9_max_f86c9_2 ?_
  refine Es_if_lt (hC _) 10 dJ9_max_f86c9_3 (by decide) (fun hb3 => ?_) (fun hb3 => ?_)
  · refine Es_lload_n (hC _) dJ9_max_f86c9_10 rfl ?_
    exact Es_lret dJ9_max_f86c9_11 ⟨by simp only [mxL]; first | rw [if_pos ((lglt x y).mp hb3)] | rw [if_neg (fun z => hb3 ((lglt x y).mpr z))], rfl, rfl⟩
  · refine Es_lload_n (hC _) dJ9_max_f86c9_6 rfl ?_
    refine Es_goto (hC _) 11 dJ9_max_f86c9_7 (by decide) ?_
    exact Es_lret dJ9_max_f86c9_11 ⟨by simp only [mxL]; first | rw [if_pos ((lglt x y).mp hb3)] | rw [if_neg (fun z => hb3 ((lglt x y).mpr z))], rfl, rfl⟩

set_option maxRecDepth 100000 in
set_option maxHeartbeats 4000000 in
theorem j_minl {ad : sA} {nw nt : Nat} {B : sB} {L : sL} {x y : Int64} : Cf yJ9_min_f86c9 cJ9_min_f86c9 4 (some FieldType.long) 0 [.long x, .long y] ad nw nt B L (some (.long (mnL x y))) (B) (L) := by
  have hC : ∀ Q, je_Ok (sCm yJ9_min_f86c9 cJ9_min_f86c9 4 (some FieldType.long) 0 ad nw nt Q) RJ9 cJ9_min_f86c9 4 0 := fun _ => je_Cm_ok
  refine Cs_ofF [some (.long x), none, some (.long y), none] (by decide +kernel) rfl (Nat.le_of_ble_eq_true rfl) ?_
  refine Es_lload_n (hC _) dJ9_min_f86c9_0 rfl ?_
  refine Es_lload_n (hC _) dJ9_min_f86c9_1 rfl ?_
  refine Es_lcmp (hC _) dJ9_min_f86c9_2 ?_
  refine Es_if_gt (hC _) 10 dJ9_min_f86c9_3 (by decide) (fun hb3 => ?_) (fun hb3 => ?_)
  · refine Es_lload_n (hC _) dJ9_min_f86c9_10 rfl ?_
    exact Es_lret dJ9_min_f86c9_11 ⟨by simp only [mnL]; first | rw [if_pos ((lggt x y).mp hb3)] | rw [if_neg (fun z => hb3 ((lggt x y).mpr z))], rfl, rfl⟩
  · refine Es_lload_n (hC _) dJ9_min_f86c9_6 rfl ?_
    refine Es_goto (hC _) 11 dJ9_min_f86c9_7 (by decide) ?_
    exact Es_lret dJ9_min_f86c9_11 ⟨by simp only [mnL]; first | rw [if_pos ((lggt x y).mp hb3)] | rw [if_neg (fun z => hb3 ((lggt x y).mpr z))], rfl, rfl⟩

set_option maxRecDepth 100000 in
set_option maxHeartbeats 4000000 in
theorem j_maxi {ad : sA} {nw nt : Nat} {B : sB} {L : sL} {x y : Int32} : Cf yJ9_max_7cf53 cJ9_max_7cf53 2 (some FieldType.int) 0 [.int x, .int y] ad nw nt B L (some (.int (mxI x y))) (B) (L) := by
  have hC : ∀ Q, je_Ok (sCm yJ9_max_7cf53 cJ9_max_7cf53 2 (some FieldType.int) 0 ad nw nt Q) RJ9 cJ9_max_7cf53 2 0 := fun _ => je_Cm_ok
  refine Cs_ofF [some (.int x), some (.int y)] (by decide +kernel) rfl (Nat.le_of_ble_eq_true rfl) ?_
  refine Es_iload_n (hC _) dJ9_max_7cf53_0 rfl ?_
  refine Es_iload_n (hC _) dJ9_max_7cf53_1 rfl ?_
  refine Es_icmp_lt (hC _) 9 dJ9_max_7cf53_2 (by decide) (fun hb2 => ?_) (fun hb2 => ?_)
  · refine Es_iload_n (hC _) dJ9_max_7cf53_9 rfl ?_
    exact Es_iret dJ9_max_7cf53_10 rfl ⟨by simp only [mxI]; first | rw [if_pos hb2] | rw [if_neg hb2], rfl, rfl⟩
  · refine Es_iload_n (hC _) dJ9_max_7cf53_5 rfl ?_
    refine Es_goto (hC _) 10 dJ9_max_7cf53_6 (by decide) ?_
    exact Es_iret dJ9_max_7cf53_10 rfl ⟨by simp only [mxI]; first | rw [if_pos hb2] | rw [if_neg hb2], rfl, rfl⟩

set_option maxRecDepth 100000 in
set_option maxHeartbeats 4000000 in
theorem j_mini {ad : sA} {nw nt : Nat} {B : sB} {L : sL} {x y : Int32} : Cf yJ9_min_7cf53 cJ9_min_7cf53 2 (some FieldType.int) 0 [.int x, .int y] ad nw nt B L (some (.int (mnI x y))) (B) (L) := by
  have hC : ∀ Q, je_Ok (sCm yJ9_min_7cf53 cJ9_min_7cf53 2 (some FieldType.int) 0 ad nw nt Q) RJ9 cJ9_min_7cf53 2 0 := fun _ => je_Cm_ok
  refine Cs_ofF [some (.int x), some (.int y)] (by decide +kernel) rfl (Nat.le_of_ble_eq_true rfl) ?_
  refine Es_iload_n (hC _) dJ9_min_7cf53_0 rfl ?_
  refine Es_iload_n (hC _) dJ9_min_7cf53_1 rfl ?_
  refine Es_icmp_gt (hC _) 9 dJ9_min_7cf53_2 (by decide) (fun hb2 => ?_) (fun hb2 => ?_)
  · refine Es_iload_n (hC _) dJ9_min_7cf53_9 rfl ?_
    exact Es_iret dJ9_min_7cf53_10 rfl ⟨by simp only [mnI]; first | rw [if_pos hb2] | rw [if_neg hb2], rfl, rfl⟩
  · refine Es_iload_n (hC _) dJ9_min_7cf53_5 rfl ?_
    refine Es_goto (hC _) 10 dJ9_min_7cf53_6 (by decide) ?_
    exact Es_iret dJ9_min_7cf53_10 rfl ⟨by simp only [mnI]; first | rw [if_pos hb2] | rw [if_neg hb2], rfl, rfl⟩

set_option maxRecDepth 100000 in
set_option maxHeartbeats 4000000 in
theorem j_abs {ad : sA} {nw nt : Nat} {B : sB} {L : sL} {x : Int32} : Cf yJ9_abs_0f7a4 cJ9_abs_0f7a4 1 (some FieldType.int) 0 [.int x] ad nw nt B L (some (.int (abI x))) (B) (L) := by
  have hC : ∀ Q, je_Ok (sCm yJ9_abs_0f7a4 cJ9_abs_0f7a4 1 (some FieldType.int) 0 ad nw nt Q) RJ9 cJ9_abs_0f7a4 1 0 := fun _ => je_Cm_ok
  refine Cs_ofF [some (.int x)] (by decide +kernel) rfl (Nat.le_of_ble_eq_true rfl) ?_
  refine Es_iload_n (hC _) dJ9_abs_0f7a4_0 rfl ?_
  refine Es_if_ge (hC _) 9 dJ9_abs_0f7a4_1 (by decide) (fun hb1 => ?_) (fun hb1 => ?_)
  · refine Es_iload_n (hC _) dJ9_abs_0f7a4_9 rfl ?_
    exact Es_iret dJ9_abs_0f7a4_10 rfl ⟨by simp only [abI]; first | rw [if_pos hb1] | rw [if_neg hb1], rfl, rfl⟩
  · refine Es_iload_n (hC _) dJ9_abs_0f7a4_4 rfl ?_
    refine Es_ineg (hC _) dJ9_abs_0f7a4_5 ?_
    refine Es_goto (hC _) 10 dJ9_abs_0f7a4_6 (by decide) ?_
    exact Es_iret dJ9_abs_0f7a4_10 rfl ⟨by simp only [abI]; first | rw [if_pos hb1] | rw [if_neg hb1], rfl, rfl⟩

def flD (x y : Int64) : Int64 := if (x ^^^ y) < 0 ∧ ¬ x / y * y = x then x / y - 1 else x / y
set_option maxRecDepth 100000 in
set_option maxHeartbeats 4000000 in
theorem j_floorDiv {ad : sA} {nw nt : Nat} {B : sB} {L : sL} {x y : Int64} (hy : ¬ y = 0) : Cf yJ9_floorDiv_f86c9 cJ9_floorDiv_f86c9 6 (some FieldType.long) 0 [.long x, .long y] ad nw nt B L (some (.long (flD x y))) (B) (L) := by
  have hC : ∀ Q, je_Ok (sCm yJ9_floorDiv_f86c9 cJ9_floorDiv_f86c9 6 (some FieldType.long) 0 ad nw nt Q) RJ9 cJ9_floorDiv_f86c9 6 0 := fun _ => je_Cm_ok
  refine Cs_ofF [some (.long x), none, some (.long y), none, none, none] (by decide +kernel) rfl (Nat.le_of_ble_eq_true rfl) ?_
  refine Es_lload_n (hC _) dJ9_floorDiv_f86c9_0 rfl ?_
  refine Es_lload_n (hC _) dJ9_floorDiv_f86c9_1 rfl ?_
  refine Es_ldiv (hC _) dJ9_floorDiv_f86c9_2 hy ?_
  refine Es_lstore (lv' := [_, _, _, _, _, _]) (hC _) dJ9_floorDiv_f86c9_3 (by decide) rfl rfl ?_
  refine Es_lload_n (hC _) dJ9_floorDiv_f86c9_5 rfl ?_
  refine Es_lload_n (hC _) dJ9_floorDiv_f86c9_6 rfl ?_
  refine Es_lxor (hC _) dJ9_floorDiv_f86c9_7 ?_
  refine Es_lconst (v := 0) (hC _) dJ9_floorDiv_f86c9_8 (by decide) ?_
  refine Es_lcmp (hC _) dJ9_floorDiv_f86c9_9 ?_
  refine Es_if_ge (hC _) 27 dJ9_floorDiv_f86c9_10 (by decide) (fun hb10 => ?_) (fun hb10 => ?_)
  · refine Es_lload (hC _) dJ9_floorDiv_f86c9_27 rfl ?_
    exact Es_lret dJ9_floorDiv_f86c9_29 ⟨by simp only [flD]; first | rw [if_neg (fun z => Int64.not_le.mpr z.1 ((lgge _ _).mp hb10))] | rw [if_neg (fun z => z.2 ((lgz _ _).mp hb19))] | rw [if_pos ⟨Int64.not_le.mp (fun z => hb10 ((lgge _ _).mpr z)), fun z => hb19 ((lgz _ _).mpr z)⟩], rfl, rfl⟩
  · refine Es_lload (hC _) dJ9_floorDiv_f86c9_13 rfl ?_
    refine Es_lload_n (hC _) dJ9_floorDiv_f86c9_15 rfl ?_
    refine Es_lmul (hC _) dJ9_floorDiv_f86c9_16 ?_
    refine Es_lload_n (hC _) dJ9_floorDiv_f86c9_17 rfl ?_
    refine Es_lcmp (hC _) dJ9_floorDiv_f86c9_18 ?_
    refine Es_if_eq (hC _) 27 dJ9_floorDiv_f86c9_19 (by decide) (fun hb19 => ?_) (fun hb19 => ?_)
    · refine Es_lload (hC _) dJ9_floorDiv_f86c9_27 rfl ?_
      exact Es_lret dJ9_floorDiv_f86c9_29 ⟨by simp only [flD]; first | rw [if_neg (fun z => Int64.not_le.mpr z.1 ((lgge _ _).mp hb10))] | rw [if_neg (fun z => z.2 ((lgz _ _).mp hb19))] | rw [if_pos ⟨Int64.not_le.mp (fun z => hb10 ((lgge _ _).mpr z)), fun z => hb19 ((lgz _ _).mpr z)⟩], rfl, rfl⟩
    · refine Es_lload (hC _) dJ9_floorDiv_f86c9_22 rfl ?_
      refine Es_lconst (v := 1) (hC _) dJ9_floorDiv_f86c9_24 (by decide) ?_
      refine Es_lsub (hC _) dJ9_floorDiv_f86c9_25 ?_
      exact Es_lret dJ9_floorDiv_f86c9_26 ⟨by simp only [flD]; rw [if_pos ⟨Int64.not_le.mp (fun z => hb10 ((lgge _ _).mpr z)), fun z => hb19 ((lgz _ _).mpr z)⟩], rfl, rfl⟩

