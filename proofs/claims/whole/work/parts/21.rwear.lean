def rA (B : sB) (t : Nat) : Nat → Int32 := fun i => B 50 0 (13 * t + i)
def rD (B : sB) (t : Nat) : Nat → Int32 := fun i => B 51 0 (13 * t + i)
set_option maxRecDepth 100000 in
set_option maxHeartbeats 4000000 in
theorem l_rw {Cx : je_C} {d : Nat} {ad : sA} {nw nt : Nat} {B : sB} {L : sL} {bc bs : Nat} {t r : Nat} (hC : je_Ok Cx RX6 cX6_wearOf 17 d) (ht : t < 40) (h12 : r ≤ 12) (kk : Es Cx 17 95 [some (.ref (ad 25 0)), some (.int (nI t)), some (.int (nI r)), some (.long (sX (rA B t) r)), none, some (.long (sX (rD B t) r)), none, some (.long (sXX (rA B t) r)), none, some (.long (sXY (rA B t) (rD B t) r)), none, some (.int (nI r)), none, none, none, none, none] [] ad nw nt B L bc bs) : ∀ (n i : Nat), i ≤ r → r - i = n → Es Cx 17 21 [some (.ref (ad 25 0)), some (.int (nI t)), some (.int (nI r)), some (.long (sX (rA B t) i)), none, some (.long (sX (rD B t) i)), none, some (.long (sXX (rA B t) i)), none, some (.long (sXY (rA B t) (rD B t) i)), none, some (.int (nI i)), none, none, none, none, none] [] ad nw nt B L bc bs := by
  intro n
  induction n with
  | zero =>
    intro i hi hn
    have hir : i = r := by omega
    subst hir
    refine Es_iload hC dX6_wearOf_21 rfl ?_
    refine Es_iload_n hC dX6_wearOf_23 rfl ?_
    refine Es_icmp_ge hC 95 dX6_wearOf_24 (by decide) (fun hb24 => ?_) (fun hb24 => False.elim (hb24 (nI_le (by omega) (by omega))))
    exact kk
  | succ n ih =>
    intro i hi hn
    refine Es_iload hC dX6_wearOf_21 rfl ?_
    refine Es_iload_n hC dX6_wearOf_23 rfl ?_
    refine Es_icmp_ge hC 95 dX6_wearOf_24 (by decide) (fun hb24 => False.elim (nI_ge (b := r) (a := i) (by omega) (by omega) hb24)) (fun hb24 => ?_)
    first | refine Es_aload_n hC dX6_wearOf_27 rfl ?_ | refine Es_aload_nN hC dX6_wearOf_27 rfl ?_
    refine Sg_X6_20 hC fl_X6_59 dX6_wearOf_28 ?_
    refine Es_bipush (v := 13) hC dX6_wearOf_31 (by decide) ?_
    refine Es_iload_n hC dX6_wearOf_33 rfl ?_
    refine Es_imul hC dX6_wearOf_34 ?_
    refine Es_iload hC dX6_wearOf_35 rfl ?_
    refine Es_iadd hC dX6_wearOf_37 ?_
    refine Es_ialdN hC dX6_wearOf_38 rfl rfl (by rw [show (13 : Int32) = nI 13 from rfl, pk_mul, nI_add]) (by omega) (by decide) ?_
    refine Es_i2l hC dX6_wearOf_39 ?_
    refine Es_lstore (lv' := [_, _, _, _, _, _, _, _, _, _, _, _, _, _, _, _, _]) hC dX6_wearOf_40 (by decide) rfl rfl ?_
    first | refine Es_aload_n hC dX6_wearOf_42 rfl ?_ | refine Es_aload_nN hC dX6_wearOf_42 rfl ?_
    refine Sg_X6_21 hC fl_X6_62 dX6_wearOf_43 ?_
    refine Es_bipush (v := 13) hC dX6_wearOf_46 (by decide) ?_
    refine Es_iload_n hC dX6_wearOf_48 rfl ?_
    refine Es_imul hC dX6_wearOf_49 ?_
    refine Es_iload hC dX6_wearOf_50 rfl ?_
    refine Es_iadd hC dX6_wearOf_52 ?_
    refine Es_ialdN hC dX6_wearOf_53 rfl rfl (by rw [show (13 : Int32) = nI 13 from rfl, pk_mul, nI_add]) (by omega) (by decide) ?_
    refine Es_i2l hC dX6_wearOf_54 ?_
    refine Es_lstore (lv' := [_, _, _, _, _, _, _, _, _, _, _, _, _, _, _, _, _]) hC dX6_wearOf_55 (by decide) rfl rfl ?_
    refine Es_lload_n hC dX6_wearOf_57 rfl ?_
    refine Es_lload hC dX6_wearOf_58 rfl ?_
    refine Es_ladd hC dX6_wearOf_60 ?_
    refine Es_lstore_n (lv' := [_, _, _, _, _, _, _, _, _, _, _, _, _, _, _, _, _]) hC dX6_wearOf_61 (by decide) rfl rfl ?_
    refine Es_lload hC dX6_wearOf_62 rfl ?_
    refine Es_lload hC dX6_wearOf_64 rfl ?_
    refine Es_ladd hC dX6_wearOf_66 ?_
    refine Es_lstore (lv' := [_, _, _, _, _, _, _, _, _, _, _, _, _, _, _, _, _]) hC dX6_wearOf_67 (by decide) rfl rfl ?_
    refine Es_lload hC dX6_wearOf_69 rfl ?_
    refine Es_lload hC dX6_wearOf_71 rfl ?_
    refine Es_lload hC dX6_wearOf_73 rfl ?_
    refine Es_lmul hC dX6_wearOf_75 ?_
    refine Es_ladd hC dX6_wearOf_76 ?_
    refine Es_lstore (lv' := [_, _, _, _, _, _, _, _, _, _, _, _, _, _, _, _, _]) hC dX6_wearOf_77 (by decide) rfl rfl ?_
    refine Es_lload hC dX6_wearOf_79 rfl ?_
    refine Es_lload hC dX6_wearOf_81 rfl ?_
    refine Es_lload hC dX6_wearOf_83 rfl ?_
    refine Es_lmul hC dX6_wearOf_85 ?_
    refine Es_ladd hC dX6_wearOf_86 ?_
    refine Es_lstore (lv' := [_, _, _, _, _, _, _, _, _, _, _, _, _, _, _, _, _]) hC dX6_wearOf_87 (by decide) rfl rfl ?_
    refine Es_iinc (lv' := [_, _, _, _, _, _, _, _, _, _, _, _, _, _, _, _, _]) hC dX6_wearOf_89 (by decide) rfl (show _ + Int32.ofInt (1) = _ + (1) from rfl) rfl rfl ?_
    refine Es_goto hC 21 dX6_wearOf_92 (by decide) ?_
    refine Es.kill 12 (lv' := [_, _, _, _, _, _, _, _, _, _, _, _, _, _, _, _, _]) rfl ?_
    refine Es.kill 14 (lv' := [_, _, _, _, _, _, _, _, _, _, _, _, _, _, _, _, _]) rfl ?_
    rw [nI_1]
    exact ih (i + 1) (by omega) (by omega)
set_option maxRecDepth 100000 in
set_option maxHeartbeats 4000000 in
theorem l_rg {Cx : je_C} {d : Nat} {ad : sA} {nw nt : Nat} {B : sB} {L : sL} {bc bs g : Nat} {v1 v2 v3 v5 v7 v9 : Option Value} (hC : je_Ok Cx RX6 cX6_wearOf 17 d) (kk : Es Cx 17 211 [some (.ref (ad 25 0)), v1, v2, v3, none, v5, none, v7, none, v9, none, some (.long (lN g)), none, some (.long (lN 0)), none, none, none] [] ad nw nt B L bc bs) : ∀ (n x y : Nat), x < 2 ^ 63 → y < 2 ^ 63 → gE n x y → gN n x y = g → Es Cx 17 186 [some (.ref (ad 25 0)), v1, v2, v3, none, v5, none, v7, none, v9, none, some (.long (lN x)), none, some (.long (lN y)), none, none, none] [] ad nw nt B L bc bs := by
  intro n
  induction n with
  | zero =>
    intro x y hx hy he hg
    have hy0 : y = 0 := he
    subst hy0
    have hxg : x = g := hg
    subst hxg
    refine Es_lload hC dX6_wearOf_186 rfl ?_
    refine Es_lconst (v := 0) hC dX6_wearOf_188 (by decide) ?_
    refine Es_lcmp hC dX6_wearOf_189 ?_
    refine Es_if_eq hC 211 dX6_wearOf_190 (by decide) (fun hb190 => ?_) (fun hb190 => False.elim (hb190 rfl))
    exact kk
  | succ n ih =>
    intro x y hx hy he hg
    by_cases h0 : y = 0
    · subst h0
      have hxg : x = g := by rw [← hg]; simp [gN]
      subst hxg
      refine Es_lload hC dX6_wearOf_186 rfl ?_
      refine Es_lconst (v := 0) hC dX6_wearOf_188 (by decide) ?_
      refine Es_lcmp hC dX6_wearOf_189 ?_
      refine Es_if_eq hC 211 dX6_wearOf_190 (by decide) (fun hb190 => ?_) (fun hb190 => False.elim (hb190 rfl))
      exact kk
    · skip
      refine Es_lload hC dX6_wearOf_186 rfl ?_
      refine Es_lconst (v := 0) hC dX6_wearOf_188 (by decide) ?_
      refine Es_lcmp hC dX6_wearOf_189 ?_
      refine Es_if_eq hC 211 dX6_wearOf_190 (by decide) (fun hb190 => False.elim (h0 ((lN_0 hy).mp ((lgz _ _).mp hb190)))) (fun hb190 => ?_)
      refine Es_lload hC dX6_wearOf_193 rfl ?_
      refine Es_lload hC dX6_wearOf_195 rfl ?_
      refine Es_lrem hC dX6_wearOf_197 (fun z => h0 ((lN_0 hy).mp z)) ?_
      refine Es_lstore (lv' := [_, _, _, _, _, _, _, _, _, _, _, _, _, _, _, _, _]) hC dX6_wearOf_198 (by decide) rfl rfl ?_
      refine Es_lload hC dX6_wearOf_200 rfl ?_
      refine Es_lstore (lv' := [_, _, _, _, _, _, _, _, _, _, _, _, _, _, _, _, _]) hC dX6_wearOf_202 (by decide) rfl rfl ?_
      refine Es_lload hC dX6_wearOf_204 rfl ?_
      refine Es_lstore (lv' := [_, _, _, _, _, _, _, _, _, _, _, _, _, _, _, _, _]) hC dX6_wearOf_206 (by decide) rfl rfl ?_
      refine Es_goto hC 186 dX6_wearOf_208 (by decide) ?_
      refine Es.kill 15 (lv' := [_, _, _, _, _, _, _, _, _, _, _, _, _, _, _, _, _]) rfl ?_
      rw [pk_lRem hx (by omega) hy]
      exact ih y (x % y) hy (by have := Nat.mod_lt x (show 0 < y by omega); omega) (he.resolve_left h0) (by rw [← hg]; simp only [gN]; rw [if_neg h0])
set_option maxRecDepth 100000 in
set_option maxHeartbeats 4000000 in
theorem r_wearOf_a {ad : sA} {nw nt : Nat} {B : sB} {L : sL} {t r m : Nat} (ht : t < 40) (hr : B 49 0 t = nI r) (h12 : r ≤ 12) (hmk : B 42 0 t = nI m) (hm4 : m < 4) (hz : (wD0 (rA B t) r) = 0) (hu : (B 32 0 m).toInt64 ≤ 0) : Cf yX6_wearOf cX6_wearOf 17 none 0 [.ref (ad 25 0), .int (nI t)] ad nw nt B L (none) (B) (wR L (0, 1)) := by
  have hC : ∀ Q, je_Ok (sCm yX6_wearOf cX6_wearOf 17 none 0 ad nw nt Q) RX6 cX6_wearOf 17 0 := fun _ => je_Cm_ok
  refine Cs_of [some (.ref (ad 25 0)), some (.int (nI t)), none, none, none, none, none, none, none, none, none, none, none, none, none, none, none] (by decide) rfl (Nat.le_of_ble_eq_true rfl) ?_
  first | refine Es_aload_n (hC _) dX6_wearOf_0 rfl ?_ | refine Es_aload_nN (hC _) dX6_wearOf_0 rfl ?_
  refine Sg_X6_19 (hC _) fl_X6_56 dX6_wearOf_1 ?_
  refine Es_iload_n (hC _) dX6_wearOf_4 rfl ?_
  refine Es_ialdN (hC _) dX6_wearOf_5 rfl rfl rfl ht (by decide) ?_
  rw [hr]
  refine Es_istore_n (lv' := [_, _, _, _, _, _, _, _, _, _, _, _, _, _, _, _, _]) (hC _) dX6_wearOf_6 (by decide) rfl rfl ?_
  refine Es_lconst (v := 0) (hC _) dX6_wearOf_7 (by decide) ?_
  refine Es_lstore_n (lv' := [_, _, _, _, _, _, _, _, _, _, _, _, _, _, _, _, _]) (hC _) dX6_wearOf_8 (by decide) rfl rfl ?_
  refine Es_lconst (v := 0) (hC _) dX6_wearOf_9 (by decide) ?_
  refine Es_lstore (lv' := [_, _, _, _, _, _, _, _, _, _, _, _, _, _, _, _, _]) (hC _) dX6_wearOf_10 (by decide) rfl rfl ?_
  refine Es_lconst (v := 0) (hC _) dX6_wearOf_12 (by decide) ?_
  refine Es_lstore (lv' := [_, _, _, _, _, _, _, _, _, _, _, _, _, _, _, _, _]) (hC _) dX6_wearOf_13 (by decide) rfl rfl ?_
  refine Es_lconst (v := 0) (hC _) dX6_wearOf_15 (by decide) ?_
  refine Es_lstore (lv' := [_, _, _, _, _, _, _, _, _, _, _, _, _, _, _, _, _]) (hC _) dX6_wearOf_16 (by decide) rfl rfl ?_
  refine Es_iconst (v := 0) (hC _) dX6_wearOf_18 (by decide) ?_
  refine Es_istore (lv' := [_, _, _, _, _, _, _, _, _, _, _, _, _, _, _, _, _]) (hC _) dX6_wearOf_19 (by decide) rfl rfl ?_
  refine l_rw (r := r) (hC _) ht h12 ?_ r 0 (by omega) (by omega)
  first | refine Es_aload_n (hC _) dX6_wearOf_95 rfl ?_ | refine Es_aload_nN (hC _) dX6_wearOf_95 rfl ?_
  refine Es_lload_n (hC _) dX6_wearOf_96 rfl ?_
  refine Es_lload (hC _) dX6_wearOf_97 rfl ?_
  refine Es_lmul (hC _) dX6_wearOf_99 ?_
  refine Es_iload_n (hC _) dX6_wearOf_100 rfl ?_
  refine Es_i2l (hC _) dX6_wearOf_101 ?_
  refine Es_lload (hC _) dX6_wearOf_102 rfl ?_
  refine Es_lmul (hC _) dX6_wearOf_104 ?_
  refine Es_lsub (hC _) dX6_wearOf_105 ?_
  refine Sp_X6_25 (hC _) fl_X6_128 dX6_wearOf_106 ?_
  first | refine Es_aload_n (hC _) dX6_wearOf_109 rfl ?_ | refine Es_aload_nN (hC _) dX6_wearOf_109 rfl ?_
  refine Es_iload_n (hC _) dX6_wearOf_110 rfl ?_
  refine Es_i2l (hC _) dX6_wearOf_111 ?_
  refine Es_lload (hC _) dX6_wearOf_112 rfl ?_
  refine Es_lmul (hC _) dX6_wearOf_114 ?_
  refine Es_lload_n (hC _) dX6_wearOf_115 rfl ?_
  refine Es_lload_n (hC _) dX6_wearOf_116 rfl ?_
  refine Es_lmul (hC _) dX6_wearOf_117 ?_
  refine Es_lsub (hC _) dX6_wearOf_118 ?_
  refine Sp_X6_26 (hC _) fl_X6_132 dX6_wearOf_119 ?_
  first | refine Es_aload_n (hC _) dX6_wearOf_122 rfl ?_ | refine Es_aload_nN (hC _) dX6_wearOf_122 rfl ?_
  refine Sg_X6_26 (hC _) fl_X6_132 dX6_wearOf_123 ?_
  rw [uL_s]
  refine Es_lconst (v := 0) (hC _) dX6_wearOf_126 (by decide) ?_
  refine Es_lcmp (hC _) dX6_wearOf_127 ?_
  refine Es_if_ne (hC _) 154 dX6_wearOf_128 (by decide) (fun hb128 => False.elim (hb128 ((lgz _ _).mpr hz))) (fun hb128 => ?_)
  first | refine Es_aload_n (hC _) dX6_wearOf_131 rfl ?_ | refine Es_aload_nN (hC _) dX6_wearOf_131 rfl ?_
  first | refine Es_aload_n (hC _) dX6_wearOf_132 rfl ?_ | refine Es_aload_nN (hC _) dX6_wearOf_132 rfl ?_
  refine Sg_X6_2 (hC _) fl_X6_16 dX6_wearOf_133 ?_
  first | refine Es_aload_n (hC _) dX6_wearOf_136 rfl ?_ | refine Es_aload_nN (hC _) dX6_wearOf_136 rfl ?_
  refine Sg_X6_12 (hC _) fl_X6_35 dX6_wearOf_137 ?_
  refine Es_iload_n (hC _) dX6_wearOf_140 rfl ?_
  refine Es_ialdN (hC _) dX6_wearOf_141 rfl rfl rfl ht (by decide) ?_
  rw [hmk]
  refine Es_ialdN (hC _) dX6_wearOf_142 rfl rfl rfl hm4 (by decide) ?_
  refine Es_i2l (hC _) dX6_wearOf_143 ?_
  refine Sp_X6_25 (hC _) fl_X6_128 dX6_wearOf_144 ?_
  first | refine Es_aload_n (hC _) dX6_wearOf_147 rfl ?_ | refine Es_aload_nN (hC _) dX6_wearOf_147 rfl ?_
  refine Es_ldc2 (hC _) cq_X6_135 dX6_wearOf_148 ?_
  refine Sp_X6_26 (hC _) fl_X6_132 dX6_wearOf_151 ?_
  first | refine Es_aload_n (hC _) dX6_wearOf_154 rfl ?_ | refine Es_aload_nN (hC _) dX6_wearOf_154 rfl ?_
  refine Sg_X6_25 (hC _) fl_X6_128 dX6_wearOf_155 ?_
  rw [uL_n (by decide), uL_s]
  refine Es_lconst (v := 0) (hC _) dX6_wearOf_158 (by decide) ?_
  refine Es_lcmp (hC _) dX6_wearOf_159 ?_
  refine Es_if_gt (hC _) 174 dX6_wearOf_160 (by decide) (fun hb160 => False.elim (Int64.not_le.mpr ((lggt _ _).mp hb160) hu)) (fun hb160 => ?_)
  first | refine Es_aload_n (hC _) dX6_wearOf_163 rfl ?_ | refine Es_aload_nN (hC _) dX6_wearOf_163 rfl ?_
  refine Es_lconst (v := 0) (hC _) dX6_wearOf_164 (by decide) ?_
  refine Sp_X6_25 (hC _) fl_X6_128 dX6_wearOf_165 ?_
  first | refine Es_aload_n (hC _) dX6_wearOf_168 rfl ?_ | refine Es_aload_nN (hC _) dX6_wearOf_168 rfl ?_
  refine Es_lconst (v := 1) (hC _) dX6_wearOf_169 (by decide) ?_
  refine Sp_X6_26 (hC _) fl_X6_132 dX6_wearOf_170 ?_
  exact Es_vret dX6_wearOf_173 ⟨rfl, rfl, by rw [wR_2]; exact wR_3 L (_, _) (0, 1)⟩

set_option maxRecDepth 100000 in
set_option maxHeartbeats 4000000 in
theorem r_wearOf_c {ad : sA} {nw nt : Nat} {B : sB} {L : sL} {t r m : Nat} (ht : t < 40) (hr : B 49 0 t = nI r) (h12 : r ≤ 12) (hmk : B 42 0 t = nI m) (hm4 : m < 4) (hz : ¬ (wD0 (rA B t) r) = 0) (hu : (wU0 (rA B t) (rD B t) r) ≤ 0) : Cf yX6_wearOf cX6_wearOf 17 none 0 [.ref (ad 25 0), .int (nI t)] ad nw nt B L (none) (B) (wR L (0, 1)) := by
  have hC : ∀ Q, je_Ok (sCm yX6_wearOf cX6_wearOf 17 none 0 ad nw nt Q) RX6 cX6_wearOf 17 0 := fun _ => je_Cm_ok
  refine Cs_of [some (.ref (ad 25 0)), some (.int (nI t)), none, none, none, none, none, none, none, none, none, none, none, none, none, none, none] (by decide) rfl (Nat.le_of_ble_eq_true rfl) ?_
  first | refine Es_aload_n (hC _) dX6_wearOf_0 rfl ?_ | refine Es_aload_nN (hC _) dX6_wearOf_0 rfl ?_
  refine Sg_X6_19 (hC _) fl_X6_56 dX6_wearOf_1 ?_
  refine Es_iload_n (hC _) dX6_wearOf_4 rfl ?_
  refine Es_ialdN (hC _) dX6_wearOf_5 rfl rfl rfl ht (by decide) ?_
  rw [hr]
  refine Es_istore_n (lv' := [_, _, _, _, _, _, _, _, _, _, _, _, _, _, _, _, _]) (hC _) dX6_wearOf_6 (by decide) rfl rfl ?_
  refine Es_lconst (v := 0) (hC _) dX6_wearOf_7 (by decide) ?_
  refine Es_lstore_n (lv' := [_, _, _, _, _, _, _, _, _, _, _, _, _, _, _, _, _]) (hC _) dX6_wearOf_8 (by decide) rfl rfl ?_
  refine Es_lconst (v := 0) (hC _) dX6_wearOf_9 (by decide) ?_
  refine Es_lstore (lv' := [_, _, _, _, _, _, _, _, _, _, _, _, _, _, _, _, _]) (hC _) dX6_wearOf_10 (by decide) rfl rfl ?_
  refine Es_lconst (v := 0) (hC _) dX6_wearOf_12 (by decide) ?_
  refine Es_lstore (lv' := [_, _, _, _, _, _, _, _, _, _, _, _, _, _, _, _, _]) (hC _) dX6_wearOf_13 (by decide) rfl rfl ?_
  refine Es_lconst (v := 0) (hC _) dX6_wearOf_15 (by decide) ?_
  refine Es_lstore (lv' := [_, _, _, _, _, _, _, _, _, _, _, _, _, _, _, _, _]) (hC _) dX6_wearOf_16 (by decide) rfl rfl ?_
  refine Es_iconst (v := 0) (hC _) dX6_wearOf_18 (by decide) ?_
  refine Es_istore (lv' := [_, _, _, _, _, _, _, _, _, _, _, _, _, _, _, _, _]) (hC _) dX6_wearOf_19 (by decide) rfl rfl ?_
  refine l_rw (r := r) (hC _) ht h12 ?_ r 0 (by omega) (by omega)
  first | refine Es_aload_n (hC _) dX6_wearOf_95 rfl ?_ | refine Es_aload_nN (hC _) dX6_wearOf_95 rfl ?_
  refine Es_lload_n (hC _) dX6_wearOf_96 rfl ?_
  refine Es_lload (hC _) dX6_wearOf_97 rfl ?_
  refine Es_lmul (hC _) dX6_wearOf_99 ?_
  refine Es_iload_n (hC _) dX6_wearOf_100 rfl ?_
  refine Es_i2l (hC _) dX6_wearOf_101 ?_
  refine Es_lload (hC _) dX6_wearOf_102 rfl ?_
  refine Es_lmul (hC _) dX6_wearOf_104 ?_
  refine Es_lsub (hC _) dX6_wearOf_105 ?_
  refine Sp_X6_25 (hC _) fl_X6_128 dX6_wearOf_106 ?_
  first | refine Es_aload_n (hC _) dX6_wearOf_109 rfl ?_ | refine Es_aload_nN (hC _) dX6_wearOf_109 rfl ?_
  refine Es_iload_n (hC _) dX6_wearOf_110 rfl ?_
  refine Es_i2l (hC _) dX6_wearOf_111 ?_
  refine Es_lload (hC _) dX6_wearOf_112 rfl ?_
  refine Es_lmul (hC _) dX6_wearOf_114 ?_
  refine Es_lload_n (hC _) dX6_wearOf_115 rfl ?_
  refine Es_lload_n (hC _) dX6_wearOf_116 rfl ?_
  refine Es_lmul (hC _) dX6_wearOf_117 ?_
  refine Es_lsub (hC _) dX6_wearOf_118 ?_
  refine Sp_X6_26 (hC _) fl_X6_132 dX6_wearOf_119 ?_
  first | refine Es_aload_n (hC _) dX6_wearOf_122 rfl ?_ | refine Es_aload_nN (hC _) dX6_wearOf_122 rfl ?_
  refine Sg_X6_26 (hC _) fl_X6_132 dX6_wearOf_123 ?_
  rw [uL_s]
  refine Es_lconst (v := 0) (hC _) dX6_wearOf_126 (by decide) ?_
  refine Es_lcmp (hC _) dX6_wearOf_127 ?_
  refine Es_if_ne (hC _) 154 dX6_wearOf_128 (by decide) (fun hb128 => ?_) (fun hb128 => False.elim (hz ((lgz _ _).mp hb128)))
  first | refine Es_aload_n (hC _) dX6_wearOf_154 rfl ?_ | refine Es_aload_nN (hC _) dX6_wearOf_154 rfl ?_
  refine Sg_X6_25 (hC _) fl_X6_128 dX6_wearOf_155 ?_
  rw [uL_n (by decide), uL_s]
  refine Es_lconst (v := 0) (hC _) dX6_wearOf_158 (by decide) ?_
  refine Es_lcmp (hC _) dX6_wearOf_159 ?_
  refine Es_if_gt (hC _) 174 dX6_wearOf_160 (by decide) (fun hb160 => False.elim (Int64.not_le.mpr ((lggt _ _).mp hb160) hu)) (fun hb160 => ?_)
  first | refine Es_aload_n (hC _) dX6_wearOf_163 rfl ?_ | refine Es_aload_nN (hC _) dX6_wearOf_163 rfl ?_
  refine Es_lconst (v := 0) (hC _) dX6_wearOf_164 (by decide) ?_
  refine Sp_X6_25 (hC _) fl_X6_128 dX6_wearOf_165 ?_
  first | refine Es_aload_n (hC _) dX6_wearOf_168 rfl ?_ | refine Es_aload_nN (hC _) dX6_wearOf_168 rfl ?_
  refine Es_lconst (v := 1) (hC _) dX6_wearOf_169 (by decide) ?_
  refine Sp_X6_26 (hC _) fl_X6_132 dX6_wearOf_170 ?_
  exact Es_vret dX6_wearOf_173 ⟨rfl, rfl, wR_2 _ _ _ _ _⟩

set_option maxRecDepth 100000 in
set_option maxHeartbeats 4000000 in
theorem r_wearOf_b {ad : sA} {nw nt : Nat} {B : sB} {L : sL} {t r m : Nat} (ht : t < 40) (hr : B 49 0 t = nI r) (h12 : r ≤ 12) (hmk : B 42 0 t = nI m) (hm4 : m < 4) (hz : (wD0 (rA B t) r) = 0) {x y g : Nat} (hu : ¬ (B 32 0 m).toInt64 ≤ 0) (hux : (B 32 0 m).toInt64 = lN x) (hvy : (100000 : Int64) = lN y) (hx63 : x < 2 ^ 63) (hy63 : y < 2 ^ 63) (hy50 : y < 2 ^ 50) (hg : gN 100 x y = g) (hg0 : 0 < g) (hg63 : g < 2 ^ 63) : Cf yX6_wearOf cX6_wearOf 17 none 0 [.ref (ad 25 0), .int (nI t)] ad nw nt B L (none) (B) (wR L (lN x / lN g, lN y / lN g)) := by
  have hC : ∀ Q, je_Ok (sCm yX6_wearOf cX6_wearOf 17 none 0 ad nw nt Q) RX6 cX6_wearOf 17 0 := fun _ => je_Cm_ok
  refine Cs_of [some (.ref (ad 25 0)), some (.int (nI t)), none, none, none, none, none, none, none, none, none, none, none, none, none, none, none] (by decide) rfl (Nat.le_of_ble_eq_true rfl) ?_
  first | refine Es_aload_n (hC _) dX6_wearOf_0 rfl ?_ | refine Es_aload_nN (hC _) dX6_wearOf_0 rfl ?_
  refine Sg_X6_19 (hC _) fl_X6_56 dX6_wearOf_1 ?_
  refine Es_iload_n (hC _) dX6_wearOf_4 rfl ?_
  refine Es_ialdN (hC _) dX6_wearOf_5 rfl rfl rfl ht (by decide) ?_
  rw [hr]
  refine Es_istore_n (lv' := [_, _, _, _, _, _, _, _, _, _, _, _, _, _, _, _, _]) (hC _) dX6_wearOf_6 (by decide) rfl rfl ?_
  refine Es_lconst (v := 0) (hC _) dX6_wearOf_7 (by decide) ?_
  refine Es_lstore_n (lv' := [_, _, _, _, _, _, _, _, _, _, _, _, _, _, _, _, _]) (hC _) dX6_wearOf_8 (by decide) rfl rfl ?_
  refine Es_lconst (v := 0) (hC _) dX6_wearOf_9 (by decide) ?_
  refine Es_lstore (lv' := [_, _, _, _, _, _, _, _, _, _, _, _, _, _, _, _, _]) (hC _) dX6_wearOf_10 (by decide) rfl rfl ?_
  refine Es_lconst (v := 0) (hC _) dX6_wearOf_12 (by decide) ?_
  refine Es_lstore (lv' := [_, _, _, _, _, _, _, _, _, _, _, _, _, _, _, _, _]) (hC _) dX6_wearOf_13 (by decide) rfl rfl ?_
  refine Es_lconst (v := 0) (hC _) dX6_wearOf_15 (by decide) ?_
  refine Es_lstore (lv' := [_, _, _, _, _, _, _, _, _, _, _, _, _, _, _, _, _]) (hC _) dX6_wearOf_16 (by decide) rfl rfl ?_
  refine Es_iconst (v := 0) (hC _) dX6_wearOf_18 (by decide) ?_
  refine Es_istore (lv' := [_, _, _, _, _, _, _, _, _, _, _, _, _, _, _, _, _]) (hC _) dX6_wearOf_19 (by decide) rfl rfl ?_
  refine l_rw (r := r) (hC _) ht h12 ?_ r 0 (by omega) (by omega)
  first | refine Es_aload_n (hC _) dX6_wearOf_95 rfl ?_ | refine Es_aload_nN (hC _) dX6_wearOf_95 rfl ?_
  refine Es_lload_n (hC _) dX6_wearOf_96 rfl ?_
  refine Es_lload (hC _) dX6_wearOf_97 rfl ?_
  refine Es_lmul (hC _) dX6_wearOf_99 ?_
  refine Es_iload_n (hC _) dX6_wearOf_100 rfl ?_
  refine Es_i2l (hC _) dX6_wearOf_101 ?_
  refine Es_lload (hC _) dX6_wearOf_102 rfl ?_
  refine Es_lmul (hC _) dX6_wearOf_104 ?_
  refine Es_lsub (hC _) dX6_wearOf_105 ?_
  refine Sp_X6_25 (hC _) fl_X6_128 dX6_wearOf_106 ?_
  first | refine Es_aload_n (hC _) dX6_wearOf_109 rfl ?_ | refine Es_aload_nN (hC _) dX6_wearOf_109 rfl ?_
  refine Es_iload_n (hC _) dX6_wearOf_110 rfl ?_
  refine Es_i2l (hC _) dX6_wearOf_111 ?_
  refine Es_lload (hC _) dX6_wearOf_112 rfl ?_
  refine Es_lmul (hC _) dX6_wearOf_114 ?_
  refine Es_lload_n (hC _) dX6_wearOf_115 rfl ?_
  refine Es_lload_n (hC _) dX6_wearOf_116 rfl ?_
  refine Es_lmul (hC _) dX6_wearOf_117 ?_
  refine Es_lsub (hC _) dX6_wearOf_118 ?_
  refine Sp_X6_26 (hC _) fl_X6_132 dX6_wearOf_119 ?_
  first | refine Es_aload_n (hC _) dX6_wearOf_122 rfl ?_ | refine Es_aload_nN (hC _) dX6_wearOf_122 rfl ?_
  refine Sg_X6_26 (hC _) fl_X6_132 dX6_wearOf_123 ?_
  rw [uL_s]
  refine Es_lconst (v := 0) (hC _) dX6_wearOf_126 (by decide) ?_
  refine Es_lcmp (hC _) dX6_wearOf_127 ?_
  refine Es_if_ne (hC _) 154 dX6_wearOf_128 (by decide) (fun hb128 => False.elim (hb128 ((lgz _ _).mpr hz))) (fun hb128 => ?_)
  first | refine Es_aload_n (hC _) dX6_wearOf_131 rfl ?_ | refine Es_aload_nN (hC _) dX6_wearOf_131 rfl ?_
  first | refine Es_aload_n (hC _) dX6_wearOf_132 rfl ?_ | refine Es_aload_nN (hC _) dX6_wearOf_132 rfl ?_
  refine Sg_X6_2 (hC _) fl_X6_16 dX6_wearOf_133 ?_
  first | refine Es_aload_n (hC _) dX6_wearOf_136 rfl ?_ | refine Es_aload_nN (hC _) dX6_wearOf_136 rfl ?_
  refine Sg_X6_12 (hC _) fl_X6_35 dX6_wearOf_137 ?_
  refine Es_iload_n (hC _) dX6_wearOf_140 rfl ?_
  refine Es_ialdN (hC _) dX6_wearOf_141 rfl rfl rfl ht (by decide) ?_
  rw [hmk]
  refine Es_ialdN (hC _) dX6_wearOf_142 rfl rfl rfl hm4 (by decide) ?_
  refine Es_i2l (hC _) dX6_wearOf_143 ?_
  refine Sp_X6_25 (hC _) fl_X6_128 dX6_wearOf_144 ?_
  first | refine Es_aload_n (hC _) dX6_wearOf_147 rfl ?_ | refine Es_aload_nN (hC _) dX6_wearOf_147 rfl ?_
  refine Es_ldc2 (hC _) cq_X6_135 dX6_wearOf_148 ?_
  refine Sp_X6_26 (hC _) fl_X6_132 dX6_wearOf_151 ?_
  first | refine Es_aload_n (hC _) dX6_wearOf_154 rfl ?_ | refine Es_aload_nN (hC _) dX6_wearOf_154 rfl ?_
  refine Sg_X6_25 (hC _) fl_X6_128 dX6_wearOf_155 ?_
  rw [uL_n (by decide), uL_s]
  refine Es_lconst (v := 0) (hC _) dX6_wearOf_158 (by decide) ?_
  refine Es_lcmp (hC _) dX6_wearOf_159 ?_
  refine Es_if_gt (hC _) 174 dX6_wearOf_160 (by decide) (fun hb160 => ?_) (fun hb160 => False.elim (hb160 ((lggt _ _).mpr (Int64.not_le.mp hu))))
  first | refine Es_aload_n (hC _) dX6_wearOf_174 rfl ?_ | refine Es_aload_nN (hC _) dX6_wearOf_174 rfl ?_
  refine Sg_X6_25 (hC _) fl_X6_128 dX6_wearOf_175 ?_
  rw [uL_n (by decide), uL_s]
  refine Es_lstore (lv' := [_, _, _, _, _, _, _, _, _, _, _, _, _, _, _, _, _]) (hC _) dX6_wearOf_178 (by decide) rfl rfl ?_
  first | refine Es_aload_n (hC _) dX6_wearOf_180 rfl ?_ | refine Es_aload_nN (hC _) dX6_wearOf_180 rfl ?_
  refine Sg_X6_26 (hC _) fl_X6_132 dX6_wearOf_181 ?_
  rw [uL_s]
  refine Es_lstore (lv' := [_, _, _, _, _, _, _, _, _, _, _, _, _, _, _, _, _]) (hC _) dX6_wearOf_184 (by decide) rfl rfl ?_
  rw [hux, hvy]
  refine l_rg (g := g) (hC _) ?_ 100 x y hx63 hy63 (gE_100 hy50) hg
  first | refine Es_aload_n (hC _) dX6_wearOf_211 rfl ?_ | refine Es_aload_nN (hC _) dX6_wearOf_211 rfl ?_
  refine Es_dup (hC _) dX6_wearOf_212 rfl ?_
  refine Sg_X6_25 (hC _) fl_X6_128 dX6_wearOf_213 ?_
  rw [uL_n (by decide), uL_s]
  refine Es_lload (hC _) dX6_wearOf_216 rfl ?_
  refine Es_ldiv (hC _) dX6_wearOf_218 (fun z => by have := (lN_0 hg63).mp z; omega) ?_
  refine Sp_X6_25 (hC _) fl_X6_128 dX6_wearOf_219 ?_
  first | refine Es_aload_n (hC _) dX6_wearOf_222 rfl ?_ | refine Es_aload_nN (hC _) dX6_wearOf_222 rfl ?_
  refine Es_dup (hC _) dX6_wearOf_223 rfl ?_
  refine Sg_X6_26 (hC _) fl_X6_132 dX6_wearOf_224 ?_
  rw [uL_n (by decide), uL_s]
  refine Es_lload (hC _) dX6_wearOf_227 rfl ?_
  refine Es_ldiv (hC _) dX6_wearOf_229 (fun z => by have := (lN_0 hg63).mp z; omega) ?_
  refine Sp_X6_26 (hC _) fl_X6_132 dX6_wearOf_230 ?_
  exact Es_vret dX6_wearOf_233 ⟨rfl, rfl, (wR_2 _ _ _ _ _).trans (wR_3 L (_, _) _)⟩

set_option maxRecDepth 100000 in
set_option maxHeartbeats 4000000 in
theorem r_wearOf_d {ad : sA} {nw nt : Nat} {B : sB} {L : sL} {t r m : Nat} (ht : t < 40) (hr : B 49 0 t = nI r) (h12 : r ≤ 12) (hmk : B 42 0 t = nI m) (hm4 : m < 4) (hz : ¬ (wD0 (rA B t) r) = 0) {x y g : Nat} (hu : ¬ (wU0 (rA B t) (rD B t) r) ≤ 0) (hux : (wU0 (rA B t) (rD B t) r) = lN x) (hvy : (wD0 (rA B t) r) = lN y) (hx63 : x < 2 ^ 63) (hy63 : y < 2 ^ 63) (hy50 : y < 2 ^ 50) (hg : gN 100 x y = g) (hg0 : 0 < g) (hg63 : g < 2 ^ 63) : Cf yX6_wearOf cX6_wearOf 17 none 0 [.ref (ad 25 0), .int (nI t)] ad nw nt B L (none) (B) (wR L (lN x / lN g, lN y / lN g)) := by
  have hC : ∀ Q, je_Ok (sCm yX6_wearOf cX6_wearOf 17 none 0 ad nw nt Q) RX6 cX6_wearOf 17 0 := fun _ => je_Cm_ok
  refine Cs_of [some (.ref (ad 25 0)), some (.int (nI t)), none, none, none, none, none, none, none, none, none, none, none, none, none, none, none] (by decide) rfl (Nat.le_of_ble_eq_true rfl) ?_
  first | refine Es_aload_n (hC _) dX6_wearOf_0 rfl ?_ | refine Es_aload_nN (hC _) dX6_wearOf_0 rfl ?_
  refine Sg_X6_19 (hC _) fl_X6_56 dX6_wearOf_1 ?_
  refine Es_iload_n (hC _) dX6_wearOf_4 rfl ?_
  refine Es_ialdN (hC _) dX6_wearOf_5 rfl rfl rfl ht (by decide) ?_
  rw [hr]
  refine Es_istore_n (lv' := [_, _, _, _, _, _, _, _, _, _, _, _, _, _, _, _, _]) (hC _) dX6_wearOf_6 (by decide) rfl rfl ?_
  refine Es_lconst (v := 0) (hC _) dX6_wearOf_7 (by decide) ?_
  refine Es_lstore_n (lv' := [_, _, _, _, _, _, _, _, _, _, _, _, _, _, _, _, _]) (hC _) dX6_wearOf_8 (by decide) rfl rfl ?_
  refine Es_lconst (v := 0) (hC _) dX6_wearOf_9 (by decide) ?_
  refine Es_lstore (lv' := [_, _, _, _, _, _, _, _, _, _, _, _, _, _, _, _, _]) (hC _) dX6_wearOf_10 (by decide) rfl rfl ?_
  refine Es_lconst (v := 0) (hC _) dX6_wearOf_12 (by decide) ?_
  refine Es_lstore (lv' := [_, _, _, _, _, _, _, _, _, _, _, _, _, _, _, _, _]) (hC _) dX6_wearOf_13 (by decide) rfl rfl ?_
  refine Es_lconst (v := 0) (hC _) dX6_wearOf_15 (by decide) ?_
  refine Es_lstore (lv' := [_, _, _, _, _, _, _, _, _, _, _, _, _, _, _, _, _]) (hC _) dX6_wearOf_16 (by decide) rfl rfl ?_
  refine Es_iconst (v := 0) (hC _) dX6_wearOf_18 (by decide) ?_
  refine Es_istore (lv' := [_, _, _, _, _, _, _, _, _, _, _, _, _, _, _, _, _]) (hC _) dX6_wearOf_19 (by decide) rfl rfl ?_
  refine l_rw (r := r) (hC _) ht h12 ?_ r 0 (by omega) (by omega)
  first | refine Es_aload_n (hC _) dX6_wearOf_95 rfl ?_ | refine Es_aload_nN (hC _) dX6_wearOf_95 rfl ?_
  refine Es_lload_n (hC _) dX6_wearOf_96 rfl ?_
  refine Es_lload (hC _) dX6_wearOf_97 rfl ?_
  refine Es_lmul (hC _) dX6_wearOf_99 ?_
  refine Es_iload_n (hC _) dX6_wearOf_100 rfl ?_
  refine Es_i2l (hC _) dX6_wearOf_101 ?_
  refine Es_lload (hC _) dX6_wearOf_102 rfl ?_
  refine Es_lmul (hC _) dX6_wearOf_104 ?_
  refine Es_lsub (hC _) dX6_wearOf_105 ?_
  refine Sp_X6_25 (hC _) fl_X6_128 dX6_wearOf_106 ?_
  first | refine Es_aload_n (hC _) dX6_wearOf_109 rfl ?_ | refine Es_aload_nN (hC _) dX6_wearOf_109 rfl ?_
  refine Es_iload_n (hC _) dX6_wearOf_110 rfl ?_
  refine Es_i2l (hC _) dX6_wearOf_111 ?_
  refine Es_lload (hC _) dX6_wearOf_112 rfl ?_
  refine Es_lmul (hC _) dX6_wearOf_114 ?_
  refine Es_lload_n (hC _) dX6_wearOf_115 rfl ?_
  refine Es_lload_n (hC _) dX6_wearOf_116 rfl ?_
  refine Es_lmul (hC _) dX6_wearOf_117 ?_
  refine Es_lsub (hC _) dX6_wearOf_118 ?_
  refine Sp_X6_26 (hC _) fl_X6_132 dX6_wearOf_119 ?_
  first | refine Es_aload_n (hC _) dX6_wearOf_122 rfl ?_ | refine Es_aload_nN (hC _) dX6_wearOf_122 rfl ?_
  refine Sg_X6_26 (hC _) fl_X6_132 dX6_wearOf_123 ?_
  rw [uL_s]
  refine Es_lconst (v := 0) (hC _) dX6_wearOf_126 (by decide) ?_
  refine Es_lcmp (hC _) dX6_wearOf_127 ?_
  refine Es_if_ne (hC _) 154 dX6_wearOf_128 (by decide) (fun hb128 => ?_) (fun hb128 => False.elim (hz ((lgz _ _).mp hb128)))
  first | refine Es_aload_n (hC _) dX6_wearOf_154 rfl ?_ | refine Es_aload_nN (hC _) dX6_wearOf_154 rfl ?_
  refine Sg_X6_25 (hC _) fl_X6_128 dX6_wearOf_155 ?_
  rw [uL_n (by decide), uL_s]
  refine Es_lconst (v := 0) (hC _) dX6_wearOf_158 (by decide) ?_
  refine Es_lcmp (hC _) dX6_wearOf_159 ?_
  refine Es_if_gt (hC _) 174 dX6_wearOf_160 (by decide) (fun hb160 => ?_) (fun hb160 => False.elim (hb160 ((lggt _ _).mpr (Int64.not_le.mp hu))))
  first | refine Es_aload_n (hC _) dX6_wearOf_174 rfl ?_ | refine Es_aload_nN (hC _) dX6_wearOf_174 rfl ?_
  refine Sg_X6_25 (hC _) fl_X6_128 dX6_wearOf_175 ?_
  rw [uL_n (by decide), uL_s]
  refine Es_lstore (lv' := [_, _, _, _, _, _, _, _, _, _, _, _, _, _, _, _, _]) (hC _) dX6_wearOf_178 (by decide) rfl rfl ?_
  first | refine Es_aload_n (hC _) dX6_wearOf_180 rfl ?_ | refine Es_aload_nN (hC _) dX6_wearOf_180 rfl ?_
  refine Sg_X6_26 (hC _) fl_X6_132 dX6_wearOf_181 ?_
  rw [uL_s]
  refine Es_lstore (lv' := [_, _, _, _, _, _, _, _, _, _, _, _, _, _, _, _, _]) (hC _) dX6_wearOf_184 (by decide) rfl rfl ?_
  rw [show sX (rA B t) r * sX (rD B t) r - (nI r).toInt64 * sXY (rA B t) (rD B t) r = lN x from hux, show (nI r).toInt64 * sXX (rA B t) r - sX (rA B t) r * sX (rA B t) r = lN y from hvy]
  refine l_rg (g := g) (hC _) ?_ 100 x y hx63 hy63 (gE_100 hy50) hg
  first | refine Es_aload_n (hC _) dX6_wearOf_211 rfl ?_ | refine Es_aload_nN (hC _) dX6_wearOf_211 rfl ?_
  refine Es_dup (hC _) dX6_wearOf_212 rfl ?_
  refine Sg_X6_25 (hC _) fl_X6_128 dX6_wearOf_213 ?_
  rw [uL_n (by decide), uL_s]
  refine Es_lload (hC _) dX6_wearOf_216 rfl ?_
  refine Es_ldiv (hC _) dX6_wearOf_218 (fun z => by have := (lN_0 hg63).mp z; omega) ?_
  refine Sp_X6_25 (hC _) fl_X6_128 dX6_wearOf_219 ?_
  first | refine Es_aload_n (hC _) dX6_wearOf_222 rfl ?_ | refine Es_aload_nN (hC _) dX6_wearOf_222 rfl ?_
  refine Es_dup (hC _) dX6_wearOf_223 rfl ?_
  refine Sg_X6_26 (hC _) fl_X6_132 dX6_wearOf_224 ?_
  rw [uL_n (by decide), uL_s]
  refine Es_lload (hC _) dX6_wearOf_227 rfl ?_
  refine Es_ldiv (hC _) dX6_wearOf_229 (fun z => by have := (lN_0 hg63).mp z; omega) ?_
  refine Sp_X6_26 (hC _) fl_X6_132 dX6_wearOf_230 ?_
  exact Es_vret dX6_wearOf_233 ⟨rfl, rfl, wR_2 _ _ _ _ _⟩

