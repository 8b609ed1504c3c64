/-! ===== the law's loop, its start ===== -/
set_option maxRecDepth 100000 in
set_option maxHeartbeats 4000000 in
theorem law_loop {b L : Nat} {xs : Nat → Int32} (hL : L ≤ 2560) : ∀ (n i : Nat), L ≤ i + 5 * n → i ≤ L + 4 → ∀ (ad : sA) (nw nt : Nat) (B : sB) (Ls : sL) (bc bs : Nat), Rel nw nt B Ls → 4 * n ≤ bc → 38 * n ≤ bs → Es (LC b L xs) 4 18 [some (.ref b), some (.ref (ad 0 0)), some (.ref (ad 25 0)), some (.int (nI i))] [] ad nw nt B Ls bc bs := by
  have hC : je_Ok (LC b L xs) RL cL_law 4 2000 := LC_ok
  intro n
  induction n with
  | zero =>
    intro i h1 h2 ad nw nt B Ls bc bs hR hc hs
    have hx : L < i + 5 := by omega
    refine Es_iload_n hC dL_law_18 rfl ?_
    first | refine Es_aload_n hC dL_law_19 rfl ?_ | refine Es_aload_nN hC dL_law_19 rfl ?_
    refine Es_slen dL_law_20 ?_
    refine Es_iconst (v := 5) hC dL_law_21 (by decide) ?_
    refine Es_isub hC dL_law_22 ?_
    refine Es_icmp_gt hC 1047 dL_law_23 (by decide) (fun hb23 => ?_) (fun hb23 => False.elim (hb23 ((lw_cmp hL (by omega)).mpr hx)))
    refine Es_iconst (v := 1) hC dL_law_1047 (by decide) ?_
    exact fun h9 hs9 => EL_ret dL_law_1048
  | succ n ih =>
    intro i h1 h2 ad nw nt B Ls bc bs hR hc hs
    by_cases hx : L < i + 5
    · skip
      refine Es_iload_n hC dL_law_18 rfl ?_
      first | refine Es_aload_n hC dL_law_19 rfl ?_ | refine Es_aload_nN hC dL_law_19 rfl ?_
      refine Es_slen dL_law_20 ?_
      refine Es_iconst (v := 5) hC dL_law_21 (by decide) ?_
      refine Es_isub hC dL_law_22 ?_
      refine Es_icmp_gt hC 1047 dL_law_23 (by decide) (fun hb23 => ?_) (fun hb23 => False.elim (hb23 ((lw_cmp hL (by omega)).mpr hx)))
      refine Es_iconst (v := 1) hC dL_law_1047 (by decide) ?_
      exact fun h9 hs9 => EL_ret dL_law_1048
    · skip
      refine Es_iload_n hC dL_law_18 rfl ?_
      first | refine Es_aload_n hC dL_law_19 rfl ?_ | refine Es_aload_nN hC dL_law_19 rfl ?_
      refine Es_slen dL_law_20 ?_
      refine Es_iconst (v := 5) hC dL_law_21 (by decide) ?_
      refine Es_isub hC dL_law_22 ?_
      refine Es_icmp_gt hC 1047 dL_law_23 (by decide) (fun hb23 => False.elim (hx ((lw_cmp hL (by omega)).mp hb23))) (fun hb23 => ?_)
      first | refine Es_aload_n hC dL_law_26 rfl ?_ | refine Es_aload_nN hC dL_law_26 rfl ?_
      refine Es_iload_n hC dL_law_27 rfl ?_
      refine Es_sld dL_law_28 rfl (by omega) hL ?_
      refine Es_bipush (v := 31) hC dL_law_29 (by decide) ?_
      refine Es_iand hC dL_law_31 ?_
      have K : ∀ (ad1 : sA) (nw1 nt1 : Nat) (B1 : sB) (L1 : sL) (bc1 bs1 : Nat), bc - 4 ≤ bc1 → bs - 38 ≤ bs1 → Rel nw1 nt1 B1 L1 → Es (LC b L xs) 4 1041 [some (.ref b), some (.ref (ad1 0 0)), some (.ref (ad1 25 0)), some (.int (nI i))] [] ad1 nw1 nt1 B1 L1 bc1 bs1 := by
        intro ad1 nw1 nt1 B1 L1 bc1 bs1 k1 k2 hR1
        refine Es_iinc (lv' := [_, _, _, _]) hC dL_law_1041 (by decide) rfl (show _ + Int32.ofInt (5) = _ + (5) from rfl) rfl rfl ?_
        refine Es_goto hC 18 dL_law_1044 (by decide) ?_
        rw [show nI i + 5 = nI (i + 5) from nI_add i 5]
        exact ih (i + 5) (by omega) (by omega) ad1 nw1 nt1 B1 L1 bc1 bs1 hR1 (by omega) (by omega)
      obtain ⟨c, hc32, e⟩ := and31 (xs i)
      rw [e]
      rcases (show c = 0 ∨ c = 1 ∨ c = 2 ∨ c = 3 ∨ c = 4 ∨ c = 5 ∨ c = 6 ∨ c = 7 ∨ c = 8 ∨ c = 9 ∨ c = 10 ∨ c = 11 ∨ c = 12 ∨ c = 13 ∨ c = 14 ∨ c = 15 ∨ c = 16 ∨ c = 17 ∨ c = 18 ∨ c = 19 ∨ c = 20 ∨ c = 21 ∨ c = 22 ∨ c = 23 ∨ c = 24 ∨ c = 25 ∨ c = 26 ∨ c = 27 ∨ c = 28 ∨ c = 29 ∨ c = 30 ∨ c = 31 by omega) with rfl | rfl | rfl | rfl | rfl | rfl | rfl | rfl | rfl | rfl | rfl | rfl | rfl | rfl | rfl | rfl | rfl | rfl | rfl | rfl | rfl | rfl | rfl | rfl | rfl | rfl | rfl | rfl | rfl | rfl | rfl | rfl
      · exact Es_tableIn hC 160 dL_law_32 (by decide) (by decide) (off := 128) (by decide) (by decide) (law_wagon hL (by omega) (by omega) (by omega) hR K)
      · exact Es_tableIn hC 173 dL_law_32 (by decide) (by decide) (off := 141) (by decide) (by decide) (law_place hL (by omega) (by omega) (by omega) hR K)
      · exact Es_tableIn hC 206 dL_law_32 (by decide) (by decide) (off := 174) (by decide) (by decide) (law_least hL (by omega) (by omega) (by omega) hR K)
      · exact Es_tableIn hC 239 dL_law_32 (by decide) (by decide) (off := 207) (by decide) (by decide) (law_apart hL (by omega) (by omega) (by omega) hR K)
      · exact Es_tableIn hC 262 dL_law_32 (by decide) (by decide) (off := 230) (by decide) (by decide) (law_maker hL (by omega) (by omega) (by omega) hR K)
      · exact Es_tableIn hC 295 dL_law_32 (by decide) (by decide) (off := 263) (by decide) (by decide) (law_buy hL (by omega) (by omega) (by omega) hR K)
      · exact Es_tableIn hC 318 dL_law_32 (by decide) (by decide) (off := 286) (by decide) (by decide) (law_put hL (by omega) (by omega) (by omega) hR K)
      · exact Es_tableIn hC 361 dL_law_32 (by decide) (by decide) (off := 329) (by decide) (by decide) (law_take hL (by omega) (by omega) (by omega) hR K)
      · exact Es_tableIn hC 394 dL_law_32 (by decide) (by decide) (off := 362) (by decide) (by decide) (law_swap hL (by omega) (by omega) (by omega) hR K)
      · exact Es_tableIn hC 447 dL_law_32 (by decide) (by decide) (off := 415) (by decide) (by decide) (law_read hL (by omega) (by omega) (by omega) hR K)
      · exact Es_tableIn hC 480 dL_law_32 (by decide) (by decide) (off := 448) (by decide) (by decide) (law_go hL (by omega) (by omega) (by omega) hR K)
      · exact Es_tableIn hC 539 dL_law_32 (by decide) (by decide) (off := 507) (by decide) (by decide) (law_why hL (by omega) (by omega) (by omega) hR K)
      · exact Es_tableIn hC 562 dL_law_32 (by decide) (by decide) (off := 530) (by decide) (by decide) (law_far hL (by omega) (by omega) (by omega) hR K)
      · exact Es_tableIn hC 585 dL_law_32 (by decide) (by decide) (off := 553) (by decide) (by decide) (law_best hL (by omega) (by omega) (by omega) hR K)
      · exact Es_tableIn hC 608 dL_law_32 (by decide) (by decide) (off := 576) (by decide) (by decide) (law_turn hL (by omega) (by omega) (by omega) hR K)
      · exact Es_tableIn hC 631 dL_law_32 (by decide) (by decide) (off := 599) (by decide) (by decide) (law_wear hL (by omega) (by omega) (by omega) hR K)
      · exact Es_tableIn hC 665 dL_law_32 (by decide) (by decide) (off := 633) (by decide) (by decide) (law_depth hL (by omega) (by omega) (by omega) hR K)
      · exact Es_tableIn hC 698 dL_law_32 (by decide) (by decide) (off := 666) (by decide) (by decide) (law_end hL (by omega) (by omega) (by omega) hR K)
      · exact Es_tableIn hC 731 dL_law_32 (by decide) (by decide) (off := 699) (by decide) (by decide) (law_send hL (by omega) (by omega) (by omega) hR K)
      · exact Es_tableIn hC 754 dL_law_32 (by decide) (by decide) (off := 722) (by decide) (by decide) (law_mend hL (by omega) (by omega) (by omega) hR K)
      · exact Es_tableIn hC 777 dL_law_32 (by decide) (by decide) (off := 745) (by decide) (by decide) (law_cast hL (by omega) (by omega) (by omega) hR K)
      · exact Es_tableIn hC 800 dL_law_32 (by decide) (by decide) (off := 768) (by decide) (by decide) (law_days hL (by omega) (by omega) (by omega) hR K)
      · exact Es_tableIn hC 823 dL_law_32 (by decide) (by decide) (off := 791) (by decide) (by decide) (law_few hL (by omega) (by omega) (by omega) hR K)
      · exact Es_tableIn hC 866 dL_law_32 (by decide) (by decide) (off := 834) (by decide) (by decide) (law_asOf hL (by omega) (by omega) (by omega) hR K)
      · exact Es_tableIn hC 899 dL_law_32 (by decide) (by decide) (off := 867) (by decide) (by decide) (law_tyreOf hL (by omega) (by omega) (by omega) hR K)
      · exact Es_tableIn hC 932 dL_law_32 (by decide) (by decide) (off := 900) (by decide) (by decide) (law_reading hL (by omega) (by omega) (by omega) hR K)
      · exact Es_tableIn hC 975 dL_law_32 (by decide) (by decide) (off := 943) (by decide) (by decide) (law_placeOf hL (by omega) (by omega) (by omega) hR K)
      · exact Es_tableIn hC 1018 dL_law_32 (by decide) (by decide) (off := 986) (by decide) (by decide) (law_count hL (by omega) (by omega) (by omega) hR K)
      · exact Es_tableOut hC 1041 dL_law_32 (by decide) (by decide) (K _ _ _ _ _ _ _ (by omega) (by omega) hR)
      · exact Es_tableOut hC 1041 dL_law_32 (by decide) (by decide) (K _ _ _ _ _ _ _ (by omega) (by omega) hR)
      · exact Es_tableOut hC 1041 dL_law_32 (by decide) (by decide) (K _ _ _ _ _ _ _ (by omega) (by omega) hR)
      · exact Es_tableOut hC 1041 dL_law_32 (by decide) (by decide) (K _ _ _ _ _ _ _ (by omega) (by omega) hR)

def ad0 (a w1 w2 w3 w4 w5 w6 w7 w8 w9 w10 w11 w12 w13 w14 w15 w16 w17 a6 q1 q2 q3 q4 q5 q6 q7 q8 q9 q10 q11 q12 q13 q14 q15 q16 q17 q18 q19 q20 q21 q22 q23 q24 : Nat) : sA := fun k _ => match k with
  | 0 => a
  | 1 => w1
  | 2 => w2
  | 3 => w3
  | 4 => w4
  | 5 => w5
  | 6 => w6
  | 7 => w7
  | 8 => w8
  | 9 => w9
  | 10 => w10
  | 11 => w11
  | 12 => w12
  | 13 => w13
  | 14 => w14
  | 15 => w15
  | 16 => w16
  | 17 => w17
  | 25 => a6
  | 30 => q1
  | 31 => q2
  | 32 => q3
  | 38 => q4
  | 39 => q5
  | 40 => q6
  | 41 => q7
  | 42 => q8
  | 43 => q9
  | 44 => q10
  | 45 => q11
  | 46 => q12
  | 47 => q13
  | 48 => q14
  | 49 => q15
  | 50 => q16
  | 51 => q17
  | 52 => q18
  | 53 => q19
  | 54 => q20
  | 57 => q21
  | 58 => q22
  | 59 => q23
  | 60 => q24
  | _ => 0
def B0 : sB := fun k _ => match k with
  | 0 => fun i => match i with
    | 10 => 20
    | _ => 0
  | 3 => f5
  | 4 => f4
  | 11 => fun _ => -1
  | 25 => fun i => match i with
    | 6 => 20
    | _ => 0
  | 31 => (upd (upd (upd (upd (upd (fun _ => 0) 0 30) 1 20) 2 20) 3 16) 4 16)
  | 32 => (upd (upd (upd (upd (fun _ => 0) 0 100) 1 100) 2 100) 3 100)
  | _ => fun _ => 0
def L0 : sL := fun k _ => match k with
  | 17 => fun i => match i with
    | 1 => 1
    | _ => 0
  | _ => fun _ => 0
def pos0 : Nat → Nat
  | 0 => 42
  | 1 => 41
  | 2 => 40
  | 3 => 39
  | 4 => 38
  | 5 => 37
  | 6 => 36
  | 7 => 35
  | 8 => 34
  | 9 => 33
  | 10 => 32
  | 11 => 31
  | 12 => 30
  | 13 => 29
  | 14 => 28
  | 15 => 27
  | 16 => 26
  | 17 => 25
  | 25 => 24
  | 30 => 23
  | 31 => 22
  | 32 => 21
  | 38 => 20
  | 39 => 19
  | 40 => 18
  | 41 => 17
  | 42 => 16
  | 43 => 15
  | 44 => 14
  | 45 => 13
  | 46 => 12
  | 47 => 11
  | 48 => 10
  | 49 => 9
  | 50 => 8
  | 51 => 7
  | 52 => 6
  | 53 => 5
  | 54 => 4
  | 57 => 3
  | 58 => 2
  | 59 => 1
  | 60 => 0
  | _ => 0
def inv0 : Nat → Nat
  | 0 => 60
  | 1 => 59
  | 2 => 58
  | 3 => 57
  | 4 => 54
  | 5 => 53
  | 6 => 52
  | 7 => 51
  | 8 => 50
  | 9 => 49
  | 10 => 48
  | 11 => 47
  | 12 => 46
  | 13 => 45
  | 14 => 44
  | 15 => 43
  | 16 => 42
  | 17 => 41
  | 18 => 40
  | 19 => 39
  | 20 => 38
  | 21 => 32
  | 22 => 31
  | 23 => 30
  | 24 => 25
  | 25 => 17
  | 26 => 16
  | 27 => 15
  | 28 => 14
  | 29 => 13
  | 30 => 12
  | 31 => 11
  | 32 => 10
  | 33 => 9
  | 34 => 8
  | 35 => 7
  | 36 => 6
  | 37 => 5
  | 38 => 4
  | 39 => 3
  | 40 => 2
  | 41 => 1
  | 42 => 0
  | _ => 0
def new0 (kd j : Nat) : Prop := j = 0 ∧ kd ∈ [0, 1, 2, 3, 4, 5, 6, 7, 8, 9, 10, 11, 12, 13, 14, 15, 16, 17, 25, 30, 31, 32, 38, 39, 40, 41, 42, 43, 44, 45, 46, 47, 48, 49, 50, 51, 52, 53, 54, 57, 58, 59, 60]
theorem inv_pos0 : ∀ kd ∈ [0, 1, 2, 3, 4, 5, 6, 7, 8, 9, 10, 11, 12, 13, 14, 15, 16, 17, 25, 30, 31, 32, 38, 39, 40, 41, 42, 43, 44, 45, 46, 47, 48, 49, 50, 51, 52, 53, 54, 57, 58, 59, 60], inv0 (pos0 kd) = kd := by decide
theorem sOk_0 {kd j : Nat} (h : sOk 0 0 kd j = true) : new0 kd j := by
  unfold sOk at h
  unfold new0
  split at h <;> first | exact ⟨Nat.eq_of_beq_eq_true h, by decide⟩ | exact absurd (show false = true from h) (by decide)
set_option maxRecDepth 100000 in
set_option maxHeartbeats 4000000 in
theorem sH_0 {a w1 w2 w3 w4 w5 w6 w7 w8 w9 w10 w11 w12 w13 w14 w15 w16 w17 a6 q1 q2 q3 q4 q5 q6 q7 q8 q9 q10 q11 q12 q13 q14 q15 q16 q17 q18 q19 q20 q21 q22 q23 q24 : Nat} (hl : hf (fun _ => none) [(q24, ai 35 (fun _ => 0)), (q23, ai 7 (fun _ => 0)), (q22, ai 7 (fun _ => 0)), (q21, ai 7 (fun _ => 0)), (q20, ai 600 (fun _ => 0)), (q19, ai 600 (fun _ => 0)), (q18, ai 600 (fun _ => 0)), (q17, ai 520 (fun _ => 0)), (q16, ai 520 (fun _ => 0)), (q15, ai 40 (fun _ => 0)), (q14, ai 40 (fun _ => 0)), (q13, ai 40 (fun _ => 0)), (q12, ai 40 (fun _ => 0)), (q11, ai 40 (fun _ => 0)), (q10, ai 40 (fun _ => 0)), (q9, ai 40 (fun _ => 0)), (q8, ai 40 (fun _ => 0)), (q7, ai 35 (fun _ => 0)), (q6, ai 35 (fun _ => 0)), (q5, ai 35 (fun _ => 0)), (q4, ai 5 (fun _ => 0)), (q3, ai 4 (upd (upd (upd (upd (fun _ => 0) 0 100) 1 100) 2 100) 3 100)), (q2, ai 5 (upd (upd (upd (upd (upd (fun _ => 0) 0 30) 1 20) 2 20) 3 16) 4 16)), (q1, ai 7 (fun _ => 0)), (a6, .inr (6, [.ref q1, .ref q2, .ref q3, .int 0, .int 0, .int 0, .int 20, .int 0, .ref q4, .ref q5, .ref q6, .ref q7, .ref q8, .ref q9, .ref q10, .ref q11, .ref q12, .ref q13, .ref q14, .ref q15, .ref q16, .ref q17, .ref q18, .ref q19, .ref q20, .long 0, .long 0, .ref q21, .ref q22, .ref q23, .ref q24, .int 0, .int 0, .int 0])), (w17, .inr (4, [.long 0, .long 1])), (w16, ai 1024 (fun _ => 0)), (w15, ai 7 (fun _ => 0)), (w14, ai 7 (fun _ => 0)), (w13, ai 7 (fun _ => 0)), (w12, ai 49 (fun _ => 0)), (w11, ar 1 7 (fun _ => none)), (w10, .inr (1, [.ref w11, .ref w12, .ref w13, .ref w14, .ref w15, .ref w16, .int 0, .int 0, .int 0])), (w9, ai 600 (fun _ => 0)), (w8, ai 600 (fun _ => 0)), (w7, ai 600 (fun _ => 0)), (w6, .inr (0, [.ref w7, .ref w8, .ref w9, .int 0])), (w5, ai 7 (fun _ => 0)), (w4, ai 4 f4), (w3, ai 5 f5), (w2, ar 1 40 (fun _ => none)), (w1, ar 2 5 (fun _ => none)), (a, .inr (5, [.ref w1, .ref w2, .ref w3, .ref w4, .ref w5, .ref w6, .ref w10, .ref w17, .int 0, .int 0, .int 20, .int 0]))]) : sH (ad0 a w1 w2 w3 w4 w5 w6 w7 w8 w9 w10 w11 w12 w13 w14 w15 w16 w17 a6 q1 q2 q3 q4 q5 q6 q7 q8 q9 q10 q11 q12 q13 q14 q15 q16 q17 q18 q19 q20 q21 q22 q23 q24) 0 0 B0 L0 (hp (fun _ => none) [(q24, ai 35 (fun _ => 0)), (q23, ai 7 (fun _ => 0)), (q22, ai 7 (fun _ => 0)), (q21, ai 7 (fun _ => 0)), (q20, ai 600 (fun _ => 0)), (q19, ai 600 (fun _ => 0)), (q18, ai 600 (fun _ => 0)), (q17, ai 520 (fun _ => 0)), (q16, ai 520 (fun _ => 0)), (q15, ai 40 (fun _ => 0)), (q14, ai 40 (fun _ => 0)), (q13, ai 40 (fun _ => 0)), (q12, ai 40 (fun _ => 0)), (q11, ai 40 (fun _ => 0)), (q10, ai 40 (fun _ => 0)), (q9, ai 40 (fun _ => 0)), (q8, ai 40 (fun _ => 0)), (q7, ai 35 (fun _ => 0)), (q6, ai 35 (fun _ => 0)), (q5, ai 35 (fun _ => 0)), (q4, ai 5 (fun _ => 0)), (q3, ai 4 (upd (upd (upd (upd (fun _ => 0) 0 100) 1 100) 2 100) 3 100)), (q2, ai 5 (upd (upd (upd (upd (upd (fun _ => 0) 0 30) 1 20) 2 20) 3 16) 4 16)), (q1, ai 7 (fun _ => 0)), (a6, .inr (6, [.ref q1, .ref q2, .ref q3, .int 0, .int 0, .int 0, .int 20, .int 0, .ref q4, .ref q5, .ref q6, .ref q7, .ref q8, .ref q9, .ref q10, .ref q11, .ref q12, .ref q13, .ref q14, .ref q15, .ref q16, .ref q17, .ref q18, .ref q19, .ref q20, .long 0, .long 0, .ref q21, .ref q22, .ref q23, .ref q24, .int 0, .int 0, .int 0])), (w17, .inr (4, [.long 0, .long 1])), (w16, ai 1024 (fun _ => 0)), (w15, ai 7 (fun _ => 0)), (w14, ai 7 (fun _ => 0)), (w13, ai 7 (fun _ => 0)), (w12, ai 49 (fun _ => 0)), (w11, ar 1 7 (fun _ => none)), (w10, .inr (1, [.ref w11, .ref w12, .ref w13, .ref w14, .ref w15, .ref w16, .int 0, .int 0, .int 0])), (w9, ai 600 (fun _ => 0)), (w8, ai 600 (fun _ => 0)), (w7, ai 600 (fun _ => 0)), (w6, .inr (0, [.ref w7, .ref w8, .ref w9, .int 0])), (w5, ai 7 (fun _ => 0)), (w4, ai 4 f4), (w3, ai 5 f5), (w2, ar 1 40 (fun _ => none)), (w1, ar 2 5 (fun _ => none)), (a, .inr (5, [.ref w1, .ref w2, .ref w3, .ref w4, .ref w5, .ref w6, .ref w10, .ref w17, .int 0, .int 0, .int 20, .int 0]))]) := by
  refine hp_ext (ad := ad0 a w1 w2 w3 w4 w5 w6 w7 w8 w9 w10 w11 w12 w13 w14 w15 w16 w17 a6 q1 q2 q3 q4 q5 q6 q7 q8 q9 q10 q11 q12 q13 q14 q15 q16 q17 q18 q19 q20 q21 q22 q23 q24) (ok := fun _ _ => False) (ok' := fun kd j => sOk 0 0 kd j = true) (new := new0) (X := sC (ad0 a w1 w2 w3 w4 w5 w6 w7 w8 w9 w10 w11 w12 w13 w14 w15 w16 w17 a6 q1 q2 q3 q4 q5 q6 q7 q8 q9 q10 q11 q12 q13 q14 q15 q16 q17 q18 q19 q20 q21 q22 q23 q24) 0 0 B0 L0) (pos := pos0) hl (fun _ _ h => h.elim) (fun _ _ _ _ h => h.elim) (fun kd j hn => ?_) (fun kd j kd' j' hn hn' e => ?_) (fun kd j hk => Or.inl (sOk_0 hk))
  · obtain ⟨rfl, hm⟩ := hn
    simp only [List.mem_cons, List.not_mem_nil, or_false] at hm
    rcases hm with rfl | rfl | rfl | rfl | rfl | rfl | rfl | rfl | rfl | rfl | rfl | rfl | rfl | rfl | rfl | rfl | rfl | rfl | rfl | rfl | rfl | rfl | rfl | rfl | rfl | rfl | rfl | rfl | rfl | rfl | rfl | rfl | rfl | rfl | rfl | rfl | rfl | rfl | rfl | rfl | rfl | rfl | rfl
    · rfl
    · exact congrArg some (congrArg (Prod.mk _) (congrArg (ar 2 5) (funext fun i => (if_neg (Nat.not_lt_zero i)).symm)))
    · exact congrArg some (congrArg (Prod.mk _) (congrArg (ar 1 40) (funext fun i => (if_neg (Nat.not_lt_zero i)).symm)))
    · rfl
    · rfl
    · rfl
    · rfl
    · rfl
    · rfl
    · rfl
    · rfl
    · exact congrArg some (congrArg (Prod.mk _) (congrArg (ar 1 7) (funext fun i => (rT_neg (show (-1 : Int32) < 0 by decide)).symm)))
    · rfl
    · rfl
    · rfl
    · rfl
    · rfl
    · rfl
    · rfl
    · rfl
    · rfl
    · rfl
    · rfl
    · rfl
    · rfl
    · rfl
    · rfl
    · rfl
    · rfl
    · rfl
    · rfl
    · rfl
    · rfl
    · rfl
    · rfl
    · rfl
    · rfl
    · rfl
    · rfl
    · rfl
    · rfl
    · rfl
    · rfl
  · obtain ⟨rfl, hm⟩ := hn
    obtain ⟨rfl, hm'⟩ := hn'
    exact ⟨by rw [← inv_pos0 kd hm, ← inv_pos0 kd' hm', e], rfl⟩
theorem Rel_0 : Rel 0 0 B0 L0 := by
  refine ⟨⟨rfl, rfl, by omega, rfl, rfl, by omega, rfl, ⟨0, by omega, rfl⟩, rfl, ⟨20, by omega, rfl⟩⟩, ⟨fun k hk => ?_, fun m hm => ?_, fun i _ => rfl⟩, ⟨fun w hw => by omega, fun w _ _ => rfl⟩, ⟨fun t ht => by omega, fun t _ _ => ⟨rfl, rfl⟩⟩, ⟨0, by omega, rfl, rfl, fun t dy => rfl⟩, fun t ht => by omega⟩
  · rcases (show k = 0 ∨ k = 1 ∨ k = 2 ∨ k = 3 ∨ k = 4 by omega) with rfl | rfl | rfl | rfl | rfl
    · exact ⟨rfl, 30, by omega, rfl⟩
    · exact ⟨rfl, 20, by omega, rfl⟩
    · exact ⟨rfl, 20, by omega, rfl⟩
    · exact ⟨rfl, 16, by omega, rfl⟩
    · exact ⟨rfl, 16, by omega, rfl⟩
  · rcases (show m = 0 ∨ m = 1 ∨ m = 2 ∨ m = 3 by omega) with rfl | rfl | rfl | rfl <;> exact ⟨rfl, 100, by omega, rfl⟩
set_option maxRecDepth 100000 in
set_option maxHeartbeats 4000000 in
theorem law_start {b L : Nat} {xs : Nat → Int32} (hL : L ≤ 2560) : En (LC b L xs) 4 0 [some (.ref b), none, none, none] [] (fun _ => none) 600000 7302250 := by
  have hC : je_Ok (LC b L xs) RL cL_law 4 2000 := LC_ok
  refine Eh_new (h0 := fun _ => none) (l := []) (C := RX5) (T := TX5) (N := 12) (ci := 5) (fs := [.null, .null, .null, .null, .null, .null, .null, .null, .int 0, .int 0, .int 0, .int 0]) trivial hC tyX5 tyX5_ok uw_X5 rfl cl_L_7 in_X5 it_X5 dL_law_0 (by intro j hj; exact (by decide : ∀ j, j < 12 → defaultValue (tyX5 j) = vp_V [.null, .null, .null, .null, .null, .null, .null, .null, .int 0, .int 0, .int 0, .int 0] j) j hj) (by decide) (by decide) (fun a hl => ?_)
  refine En_dup hC dL_law_3 rfl ?_
  refine En_callIZ (As := []) (rest := [.ref a]) hC LC_Z mi_L_9 dL_law_4 (i_X5 (h0 := fun _ => none) hl) rfl rfl (by decide) (Nat.le_of_ble_eq_true rfl) (by decide) (by decide) (fun v9 h9 q9 => ?_)
  obtain ⟨rfl, w1, w2, w3, w4, w5, w6, w7, w8, w9, w10, w11, w12, w13, w14, w15, w16, w17, rfl, hl⟩ := q9
  refine En_astore_n (lv' := [_, _, _, _]) hC dL_law_7 (by decide) rfl rfl ?_
  refine Eh_new (h0 := fun _ => none) (C := RX6) (T := TX6) (N := 34) (ci := 6) (fs := [.null, .null, .null, .int 0, .int 0, .int 0, .int 0, .int 0, .null, .null, .null, .null, .null, .null, .null, .null, .null, .null, .null, .null, .null, .null, .null, .null, .null, .long 0, .long 0, .null, .null, .null, .null, .int 0, .int 0, .int 0]) hl hC tyX6 tyX6_ok uw_X6 rfl cl_L_10 in_X6 it_X6 dL_law_8 (by intro j hj; exact (by decide : ∀ j, j < 34 → defaultValue (tyX6 j) = vp_V [.null, .null, .null, .int 0, .int 0, .int 0, .int 0, .int 0, .null, .null, .null, .null, .null, .null, .null, .null, .null, .null, .null, .null, .null, .null, .null, .null, .null, .long 0, .long 0, .null, .null, .null, .null, .int 0, .int 0, .int 0] j) j hj) (by decide) (by decide) (fun a6 hl => ?_)
  refine En_dup hC dL_law_11 rfl ?_
  refine En_callI (As := []) (rest := [.ref a6]) hC mi_L_12 dL_law_12 (i_X6 (h0 := hp (fun _ => none) [(w17, .inr (4, [.long 0, .long 1])), (w16, ai 1024 (fun _ => 0)), (w15, ai 7 (fun _ => 0)), (w14, ai 7 (fun _ => 0)), (w13, ai 7 (fun _ => 0)), (w12, ai 49 (fun _ => 0)), (w11, ar 1 7 (fun _ => none)), (w10, .inr (1, [.ref w11, .ref w12, .ref w13, .ref w14, .ref w15, .ref w16, .int 0, .int 0, .int 0])), (w9, ai 600 (fun _ => 0)), (w8, ai 600 (fun _ => 0)), (w7, ai 600 (fun _ => 0)), (w6, .inr (0, [.ref w7, .ref w8, .ref w9, .int 0])), (w5, ai 7 (fun _ => 0)), (w4, ai 4 f4), (w3, ai 5 f5), (w2, ar 1 40 (fun _ => none)), (w1, ar 2 5 (fun _ => none)), (a, .inr (5, [.ref w1, .ref w2, .ref w3, .ref w4, .ref w5, .ref w6, .ref w10, .ref w17, .int 0, .int 0, .int 20, .int 0]))]) ⟨hl.1, trivial⟩) rfl rfl (by decide) (Nat.le_of_ble_eq_true rfl) (by decide) (by decide) (fun v9 h9 q9 => ?_)
  obtain ⟨rfl, q1, q2, q3, q4, q5, q6, q7, q8, q9, q10, q11, q12, q13, q14, q15, q16, q17, q18, q19, q20, q21, q22, q23, q24, rfl, hl1⟩ := q9
  have hl : hf (fun _ => none) [(q24, ai 35 (fun _ => 0)), (q23, ai 7 (fun _ => 0)), (q22, ai 7 (fun _ => 0)), (q21, ai 7 (fun _ => 0)), (q20, ai 600 (fun _ => 0)), (q19, ai 600 (fun _ => 0)), (q18, ai 600 (fun _ => 0)), (q17, ai 520 (fun _ => 0)), (q16, ai 520 (fun _ => 0)), (q15, ai 40 (fun _ => 0)), (q14, ai 40 (fun _ => 0)), (q13, ai 40 (fun _ => 0)), (q12, ai 40 (fun _ => 0)), (q11, ai 40 (fun _ => 0)), (q10, ai 40 (fun _ => 0)), (q9, ai 40 (fun _ => 0)), (q8, ai 40 (fun _ => 0)), (q7, ai 35 (fun _ => 0)), (q6, ai 35 (fun _ => 0)), (q5, ai 35 (fun _ => 0)), (q4, ai 5 (fun _ => 0)), (q3, ai 4 (upd (upd (upd (upd (fun _ => 0) 0 100) 1 100) 2 100) 3 100)), (q2, ai 5 (upd (upd (upd (upd (upd (fun _ => 0) 0 30) 1 20) 2 20) 3 16) 4 16)), (q1, ai 7 (fun _ => 0)), (a6, .inr (6, [.ref q1, .ref q2, .ref q3, .int 0, .int 0, .int 0, .int 20, .int 0, .ref q4, .ref q5, .ref q6, .ref q7, .ref q8, .ref q9, .ref q10, .ref q11, .ref q12, .ref q13, .ref q14, .ref q15, .ref q16, .ref q17, .ref q18, .ref q19, .ref q20, .long 0, .long 0, .ref q21, .ref q22, .ref q23, .ref q24, .int 0, .int 0, .int 0])), (w17, .inr (4, [.long 0, .long 1])), (w16, ai 1024 (fun _ => 0)), (w15, ai 7 (fun _ => 0)), (w14, ai 7 (fun _ => 0)), (w13, ai 7 (fun _ => 0)), (w12, ai 49 (fun _ => 0)), (w11, ar 1 7 (fun _ => none)), (w10, .inr (1, [.ref w11, .ref w12, .ref w13, .ref w14, .ref w15, .ref w16, .int 0, .int 0, .int 0])), (w9, ai 600 (fun _ => 0)), (w8, ai 600 (fun _ => 0)), (w7, ai 600 (fun _ => 0)), (w6, .inr (0, [.ref w7, .ref w8, .ref w9, .int 0])), (w5, ai 7 (fun _ => 0)), (w4, ai 4 f4), (w3, ai 5 f5), (w2, ar 1 40 (fun _ => none)), (w1, ar 2 5 (fun _ => none)), (a, .inr (5, [.ref w1, .ref w2, .ref w3, .ref w4, .ref w5, .ref w6, .ref w10, .ref w17, .int 0, .int 0, .int 20, .int 0]))] := hf_app (l0 := [(w17, .inr (4, [.long 0, .long 1])), (w16, ai 1024 (fun _ => 0)), (w15, ai 7 (fun _ => 0)), (w14, ai 7 (fun _ => 0)), (w13, ai 7 (fun _ => 0)), (w12, ai 49 (fun _ => 0)), (w11, ar 1 7 (fun _ => none)), (w10, .inr (1, [.ref w11, .ref w12, .ref w13, .ref w14, .ref w15, .ref w16, .int 0, .int 0, .int 0])), (w9, ai 600 (fun _ => 0)), (w8, ai 600 (fun _ => 0)), (w7, ai 600 (fun _ => 0)), (w6, .inr (0, [.ref w7, .ref w8, .ref w9, .int 0])), (w5, ai 7 (fun _ => 0)), (w4, ai 4 f4), (w3, ai 5 f5), (w2, ar 1 40 (fun _ => none)), (w1, ar 2 5 (fun _ => none)), (a, .inr (5, [.ref w1, .ref w2, .ref w3, .ref w4, .ref w5, .ref w6, .ref w10, .ref w17, .int 0, .int 0, .int 20, .int 0]))]) hl1 hl.2
  refine En.eqH (show _ = hp (fun _ => none) [(q24, ai 35 (fun _ => 0)), (q23, ai 7 (fun _ => 0)), (q22, ai 7 (fun _ => 0)), (q21, ai 7 (fun _ => 0)), (q20, ai 600 (fun _ => 0)), (q19, ai 600 (fun _ => 0)), (q18, ai 600 (fun _ => 0)), (q17, ai 520 (fun _ => 0)), (q16, ai 520 (fun _ => 0)), (q15, ai 40 (fun _ => 0)), (q14, ai 40 (fun _ => 0)), (q13, ai 40 (fun _ => 0)), (q12, ai 40 (fun _ => 0)), (q11, ai 40 (fun _ => 0)), (q10, ai 40 (fun _ => 0)), (q9, ai 40 (fun _ => 0)), (q8, ai 40 (fun _ => 0)), (q7, ai 35 (fun _ => 0)), (q6, ai 35 (fun _ => 0)), (q5, ai 35 (fun _ => 0)), (q4, ai 5 (fun _ => 0)), (q3, ai 4 (upd (upd (upd (upd (fun _ => 0) 0 100) 1 100) 2 100) 3 100)), (q2, ai 5 (upd (upd (upd (upd (upd (fun _ => 0) 0 30) 1 20) 2 20) 3 16) 4 16)), (q1, ai 7 (fun _ => 0)), (a6, .inr (6, [.ref q1, .ref q2, .ref q3, .int 0, .int 0, .int 0, .int 20, .int 0, .ref q4, .ref q5, .ref q6, .ref q7, .ref q8, .ref q9, .ref q10, .ref q11, .ref q12, .ref q13, .ref q14, .ref q15, .ref q16, .ref q17, .ref q18, .ref q19, .ref q20, .long 0, .long 0, .ref q21, .ref q22, .ref q23, .ref q24, .int 0, .int 0, .int 0])), (w17, .inr (4, [.long 0, .long 1])), (w16, ai 1024 (fun _ => 0)), (w15, ai 7 (fun _ => 0)), (w14, ai 7 (fun _ => 0)), (w13, ai 7 (fun _ => 0)), (w12, ai 49 (fun _ => 0)), (w11, ar 1 7 (fun _ => none)), (w10, .inr (1, [.ref w11, .ref w12, .ref w13, .ref w14, .ref w15, .ref w16, .int 0, .int 0, .int 0])), (w9, ai 600 (fun _ => 0)), (w8, ai 600 (fun _ => 0)), (w7, ai 600 (fun _ => 0)), (w6, .inr (0, [.ref w7, .ref w8, .ref w9, .int 0])), (w5, ai 7 (fun _ => 0)), (w4, ai 4 f4), (w3, ai 5 f5), (w2, ar 1 40 (fun _ => none)), (w1, ar 2 5 (fun _ => none)), (a, .inr (5, [.ref w1, .ref w2, .ref w3, .ref w4, .ref w5, .ref w6, .ref w10, .ref w17, .int 0, .int 0, .int 20, .int 0]))] from hp_app (l0 := [(w17, .inr (4, [.long 0, .long 1])), (w16, ai 1024 (fun _ => 0)), (w15, ai 7 (fun _ => 0)), (w14, ai 7 (fun _ => 0)), (w13, ai 7 (fun _ => 0)), (w12, ai 49 (fun _ => 0)), (w11, ar 1 7 (fun _ => none)), (w10, .inr (1, [.ref w11, .ref w12, .ref w13, .ref w14, .ref w15, .ref w16, .int 0, .int 0, .int 0])), (w9, ai 600 (fun _ => 0)), (w8, ai 600 (fun _ => 0)), (w7, ai 600 (fun _ => 0)), (w6, .inr (0, [.ref w7, .ref w8, .ref w9, .int 0])), (w5, ai 7 (fun _ => 0)), (w4, ai 4 f4), (w3, ai 5 f5), (w2, ar 1 40 (fun _ => none)), (w1, ar 2 5 (fun _ => none)), (a, .inr (5, [.ref w1, .ref w2, .ref w3, .ref w4, .ref w5, .ref w6, .ref w10, .ref w17, .int 0, .int 0, .int 20, .int 0]))]) _) ?_
  refine En_astore_n (lv' := [_, _, _, _]) hC dL_law_15 (by decide) rfl rfl ?_
  refine En_iconst (v := 0) hC dL_law_16 (by decide) ?_
  refine En_istore_n (lv' := [_, _, _, _]) hC dL_law_17 (by decide) rfl rfl ?_
  exact law_loop hL (L + 1) 0 (by omega) (by omega) (ad0 a w1 w2 w3 w4 w5 w6 w7 w8 w9 w10 w11 w12 w13 w14 w15 w16 w17 a6 q1 q2 q3 q4 q5 q6 q7 q8 q9 q10 q11 q12 q13 q14 q15 q16 q17 q18 q19 q20 q21 q22 q23 q24) 0 0 B0 L0 _ _ Rel_0 (by omega) (by omega) _ (sH_0 hl)
