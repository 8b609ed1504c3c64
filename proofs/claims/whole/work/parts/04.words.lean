/-- the words that every method may lean on -/
def je_T : List Cond := lw_tbl.filter goodWord
theorem je_in {w : Cond} (i : Nat) (h : lw_tbl[i]? = some w) (hg : goodWord w = true) : w ∈ je_T := List.mem_filter.mpr ⟨List.mem_of_getElem? h, hg⟩
theorem je_ins {ws : List Cond} (ps : List Nat) (hp : ws = ps.filterMap (fun i => lw_tbl[i]?)) (hg : ws.all goodWord = true) : ∀ w ∈ ws, w ∈ je_T := fun w hw => by
  have h1 := List.all_eq_true.mp hg w hw
  rw [hp] at hw
  obtain ⟨i, -, hi⟩ := List.mem_filterMap.mp hw
  exact List.mem_filter.mpr ⟨List.mem_of_getElem? hi, h1⟩
/-- what a virtual call needs: the link, the method, its choice, its class, its code -/
def je_V (own : String) (idx : Nat) (y : MethodName) (cc : ByteArray) (nL : Nat) (ret : Option FieldType) (n : Nat) : Prop :=
  Cond.methodLink own idx y ∈ je_T ∧ Cond.instanceMethod y ∈ je_T ∧ Cond.selects y.cls y y ∈ je_T ∧ Cond.initialized y.cls ∈ je_T ∧ Cond.code y cc nL ret ∈ je_T ∧ (y.cls ≠ "java/lang/invoke/MethodHandle" ∧ y.cls ≠ "java/lang/invoke/VarHandle" ∧ (parseMethodDescriptor y.desc).map (fun d => d.parameters.length) = some n) ∧ nL ≤ 20
def je_S (own : String) (idx : Nat) (y : MethodName) (cc : ByteArray) (nL : Nat) (ret : Option FieldType) (n : Nat) : Prop :=
  Cond.methodLink own idx y ∈ je_T ∧ Cond.static y ∈ je_T ∧ Cond.initialized y.cls ∈ je_T ∧ Cond.code y cc nL ret ∈ je_T ∧ (y.cls ≠ "java/lang/invoke/MethodHandle" ∧ y.cls ≠ "java/lang/invoke/VarHandle" ∧ (parseMethodDescriptor y.desc).map (fun d => d.parameters.length) = some n) ∧ nL ≤ 20
def je_I (own : String) (idx : Nat) (y : MethodName) (cc : ByteArray) (nL : Nat) (n : Nat) : Prop :=
  Cond.methodLink own idx y ∈ je_T ∧ Cond.instanceMethod y ∈ je_T ∧ y.name = "<init>" ∧ Cond.initialized y.cls ∈ je_T ∧ Cond.code y cc nL none ∈ je_T ∧ (y.cls ≠ "java/lang/invoke/MethodHandle" ∧ y.cls ≠ "java/lang/invoke/VarHandle" ∧ (parseMethodDescriptor y.desc).map (fun d => d.parameters.length) = some n) ∧ nL ≤ 20
/-- the links among nest mates -/
def je_N : List Cond := [Cond.methodLinkNest RX5 44 yX0_init RX5, Cond.methodLinkNest RX5 51 yX1_init RX5, Cond.methodLinkNest RX5 58 yX4_init RX5, Cond.methodLinkNest RX3 28 yX5_write RX5, Cond.methodLinkNest RX2 61 yX5_at RX5, Cond.methodLinkNest RX2 20 yX4_init RX5, Cond.methodLinkNest RX2 57 yX5_write RX5, Cond.methodLinkNest RX0 25 yX5_write RX5, Cond.methodLinkNest RX3 36 yX5_at RX5, Cond.methodLinkNest RX1 76 yX5_write RX5, Cond.methodLinkNest RX1 63 yX5_at RX5, Cond.methodLinkNest RX0 29 yX5_at RX5, Cond.castable "[I" "java/lang/Cloneable"]
theorem je_N_in : ∀ w ∈ je_N, w ∈ lw_tbl := fun w hw => by
  have hp : je_N = [74, 95, 131, 235, 266, 289, 353, 363, 414, 506, 515, 630, 68].filterMap (fun i => lw_tbl[i]?) := by decide +kernel
  rw [hp] at hw
  obtain ⟨i, -, hi⟩ := List.mem_filterMap.mp hw
  exact List.mem_of_getElem? hi
theorem je_AO2_in : Cond.arrayOver (.object RX2) ∈ lw_tbl := List.mem_of_getElem? (i := 60) (by decide +kernel)
theorem je_AO3_in : Cond.arrayOver (.object RX3) ∈ lw_tbl := List.mem_of_getElem? (i := 58) (by decide +kernel)
def je_SN (own : String) (idx : Nat) (y : MethodName) (host : String) (cc : ByteArray) (nL : Nat) (ret : Option FieldType) (n : Nat) : Prop :=
  Cond.methodLinkNest own idx y host ∈ je_N ∧ Cond.static y ∈ je_T ∧ Cond.initialized y.cls ∈ je_T ∧ Cond.code y cc nL ret ∈ je_T ∧ (y.cls ≠ "java/lang/invoke/MethodHandle" ∧ y.cls ≠ "java/lang/invoke/VarHandle" ∧ (parseMethodDescriptor y.desc).map (fun d => d.parameters.length) = some n) ∧ nL ≤ 20
def je_IN (own : String) (idx : Nat) (y : MethodName) (host : String) (cc : ByteArray) (nL : Nat) (n : Nat) : Prop :=
  Cond.methodLinkNest own idx y host ∈ je_N ∧ Cond.instanceMethod y ∈ je_T ∧ y.name = "<init>" ∧ Cond.initialized y.cls ∈ je_T ∧ Cond.code y cc nL none ∈ je_T ∧ (y.cls ≠ "java/lang/invoke/MethodHandle" ∧ y.cls ≠ "java/lang/invoke/VarHandle" ∧ (parseMethodDescriptor y.desc).map (fun d => d.parameters.length) = some n) ∧ nL ≤ 20
theorem it_X0 : Cond.initialized RX0 ∈ je_T := je_in 42 (by decide +kernel) (by decide +kernel)
theorem it_X1 : Cond.initialized RX1 ∈ je_T := je_in 43 (by decide +kernel) (by decide +kernel)
theorem it_X2 : Cond.initialized RX2 ∈ je_T := je_in 47 (by decide +kernel) (by decide +kernel)
theorem it_X3 : Cond.initialized RX3 ∈ je_T := je_in 46 (by decide +kernel) (by decide +kernel)
theorem it_X4 : Cond.initialized RX4 ∈ je_T := je_in 44 (by decide +kernel) (by decide +kernel)
theorem it_X5 : Cond.initialized RX5 ∈ je_T := je_in 41 (by decide +kernel) (by decide +kernel)
theorem it_X6 : Cond.initialized RX6 ∈ je_T := je_in 45 (by decide +kernel) (by decide +kernel)
theorem it_J9 : Cond.initialized RJ9 ∈ je_T := je_in 48 (by decide +kernel) (by decide +kernel)
theorem it_L : Cond.initialized RL ∈ je_T := je_in 40 (by decide +kernel) (by decide +kernel)
theorem cl_L_7 : Cond.classLink RL 7 RX5 ∈ je_T := je_in 49 (by decide +kernel) (by decide +kernel)
theorem in_X5 : Cond.instantiable RX5 12 ∈ je_T := je_in 50 (by decide +kernel) (by decide +kernel)
theorem cl_X5_9 : Cond.classLink RX5 9 RX3 ∈ je_T := je_in 57 (by decide +kernel) (by decide +kernel)
theorem cl_X5_15 : Cond.classLink RX5 15 RX2 ∈ je_T := je_in 59 (by decide +kernel) (by decide +kernel)
theorem ls_FIRST_LEASTS : Cond.laysStatic RX5 "FIRST_LEASTS" "[I" ∈ lw_tbl := List.mem_of_getElem? (i := 62) (by decide +kernel)
theorem cl_X5_26 : Cond.classLink RX5 26 "[I" ∈ je_T := je_in 69 (by decide +kernel) (by decide +kernel)
theorem ls_FIRST_MEANS : Cond.laysStatic RX5 "FIRST_MEANS" "[I" ∈ lw_tbl := List.mem_of_getElem? (i := 71) (by decide +kernel)
theorem cl_X5_42 : Cond.classLink RX5 42 RX0 ∈ je_T := je_in 72 (by decide +kernel) (by decide +kernel)
theorem in_X0 : Cond.instantiable RX0 4 ∈ je_T := je_in 73 (by decide +kernel) (by decide +kernel)
theorem ac_int : Cond.arrayClass .int ∈ je_T := je_in 92 (by decide +kernel) (by decide +kernel)
theorem cl_X5_49 : Cond.classLink RX5 49 RX1 ∈ je_T := je_in 93 (by decide +kernel) (by decide +kernel)
theorem in_X1 : Cond.instantiable RX1 9 ∈ je_T := je_in 94 (by decide +kernel) (by decide +kernel)
theorem cl_X1_9 : Cond.classLink RX1 9 RX2 ∈ je_T := je_in 99 (by decide +kernel) (by decide +kernel)
theorem cl_X5_56 : Cond.classLink RX5 56 RX4 ∈ je_T := je_in 129 (by decide +kernel) (by decide +kernel)
theorem in_X4 : Cond.instantiable RX4 2 ∈ je_T := je_in 130 (by decide +kernel) (by decide +kernel)
theorem in_X3 : Cond.instantiable RX3 4 ∈ je_T := je_in 195 (by decide +kernel) (by decide +kernel)
theorem cl_X3_15 : Cond.classLink RX3 15 RX2 ∈ je_T := je_in 200 (by decide +kernel) (by decide +kernel)
theorem cq_X2_69 : Cond.constantLong RX2 69 100000 ∈ je_T := je_in 274 (by decide +kernel) (by decide +kernel)
theorem in_X2 : Cond.instantiable RX2 12 ∈ je_T := je_in 283 (by decide +kernel) (by decide +kernel)
theorem cl_X2_18 : Cond.classLink RX2 18 RX4 ∈ je_T := je_in 288 (by decide +kernel) (by decide +kernel)
theorem ct_X5_171 : Cond.constant RX5 171 1000000 ∈ je_T := je_in 446 (by decide +kernel) (by decide +kernel)
theorem ct_X3_66 : Cond.constant RX3 66 1000000 ∈ je_T := je_in 455 (by decide +kernel) (by decide +kernel)
theorem ct_X4_22 : Cond.constant RX4 22 1000000 ∈ je_T := je_in 464 (by decide +kernel) (by decide +kernel)
theorem cq_X4_23 : Cond.constantLong RX4 23 1000000 ∈ je_T := je_in 465 (by decide +kernel) (by decide +kernel)
theorem ct_X1_102 : Cond.constant RX1 102 1000000 ∈ je_T := je_in 514 (by decide +kernel) (by decide +kernel)
theorem cq_X5_226 : Cond.constantLong RX5 226 100000 ∈ je_T := je_in 610 (by decide +kernel) (by decide +kernel)
theorem cl_L_10 : Cond.classLink RL 10 RX6 ∈ je_T := je_in 659 (by decide +kernel) (by decide +kernel)
theorem in_X6 : Cond.instantiable RX6 34 ∈ je_T := je_in 660 (by decide +kernel) (by decide +kernel)
theorem cq_X6_135 : Cond.constantLong RX6 135 100000 ∈ je_T := je_in 854 (by decide +kernel) (by decide +kernel)
theorem ct_X6_152 : Cond.constant RX6 152 1000000 ∈ je_T := je_in 867 (by decide +kernel) (by decide +kernel)
theorem cq_X6_153 : Cond.constantLong RX6 153 1000000 ∈ je_T := je_in 876 (by decide +kernel) (by decide +kernel)
theorem ct_X6_192 : Cond.constant RX6 192 100000 ∈ je_T := je_in 935 (by decide +kernel) (by decide +kernel)
theorem uw_X0 : ∀ w ∈ u_ws RX0 TX0 4, w ∈ je_T := je_ins [83, 85, 87, 89] (by decide +kernel) (by decide +kernel)
theorem uw_X1 : ∀ w ∈ u_ws RX1 TX1 9, w ∈ je_T := je_ins [110, 112, 114, 116, 118, 120, 122, 124, 126] (by decide +kernel) (by decide +kernel)
theorem uw_X2 : ∀ w ∈ u_ws RX2 TX2 12, w ∈ je_T := je_ins [316, 318, 320, 322, 324, 326, 328, 330, 332, 334, 336, 338] (by decide +kernel) (by decide +kernel)
theorem uw_X3 : ∀ w ∈ u_ws RX3 TX3 4, w ∈ je_T := je_ins [207, 209, 211, 213] (by decide +kernel) (by decide +kernel)
theorem uw_X4 : ∀ w ∈ u_ws RX4 TX4 2, w ∈ je_T := je_ins [139, 141] (by decide +kernel) (by decide +kernel)
theorem uw_X5 : ∀ w ∈ u_ws RX5 TX5 12, w ∈ je_T := je_ins [156, 158, 160, 162, 164, 166, 168, 170, 172, 174, 176, 178] (by decide +kernel) (by decide +kernel)
theorem uw_X6 : ∀ w ∈ u_ws RX6 TX6 34, w ∈ je_T := je_ins [699, 701, 703, 705, 707, 709, 711, 713, 715, 717, 719, 721, 723, 725, 727, 729, 731, 733, 735, 737, 739, 741, 743, 745, 747, 749, 751, 753, 755, 757, 759, 761, 763, 765] (by decide +kernel) (by decide +kernel)
theorem fl_X5_21 : Cond.fieldLink RX5 21 RX5 "FIRST_LEASTS" "[I" ∈ je_T := je_in 61 (by decide +kernel) (by decide +kernel)
theorem fl_X5_33 : Cond.fieldLink RX5 33 RX5 "FIRST_MEANS" "[I" ∈ je_T := je_in 70 (by decide +kernel) (by decide +kernel)
theorem fl_X0_9 : Cond.fieldLink RX0 9 (TX0 0).1 (TX0 0).2.1 (TX0 0).2.2.1 ∈ je_T := je_in 78 (by decide +kernel) (by decide +kernel)
theorem fl_X0_15 : Cond.fieldLink RX0 15 (TX0 1).1 (TX0 1).2.1 (TX0 1).2.2.1 ∈ je_T := je_in 79 (by decide +kernel) (by decide +kernel)
theorem fl_X0_18 : Cond.fieldLink RX0 18 (TX0 2).1 (TX0 2).2.1 (TX0 2).2.2.1 ∈ je_T := je_in 80 (by decide +kernel) (by decide +kernel)
theorem fl_X0_21 : Cond.fieldLink RX0 21 (TX0 3).1 (TX0 3).2.1 (TX0 3).2.2.1 ∈ je_T := je_in 81 (by decide +kernel) (by decide +kernel)
theorem fl_X5_271 : Cond.fieldLink RX5 271 (TX0 3).1 (TX0 3).2.1 (TX0 3).2.2.1 ∈ je_T := je_in 82 (by decide +kernel) (by decide +kernel)
theorem fl_X1_11 : Cond.fieldLink RX1 11 (TX1 0).1 (TX1 0).2.1 (TX1 0).2.2.1 ∈ je_T := je_in 100 (by decide +kernel) (by decide +kernel)
theorem fl_X1_17 : Cond.fieldLink RX1 17 (TX1 1).1 (TX1 1).2.1 (TX1 1).2.2.1 ∈ je_T := je_in 101 (by decide +kernel) (by decide +kernel)
theorem fl_X1_21 : Cond.fieldLink RX1 21 (TX1 2).1 (TX1 2).2.1 (TX1 2).2.2.1 ∈ je_T := je_in 102 (by decide +kernel) (by decide +kernel)
theorem fl_X1_24 : Cond.fieldLink RX1 24 (TX1 3).1 (TX1 3).2.1 (TX1 3).2.2.1 ∈ je_T := je_in 103 (by decide +kernel) (by decide +kernel)
theorem fl_X1_27 : Cond.fieldLink RX1 27 (TX1 4).1 (TX1 4).2.1 (TX1 4).2.2.1 ∈ je_T := je_in 104 (by decide +kernel) (by decide +kernel)
theorem fl_X1_30 : Cond.fieldLink RX1 30 (TX1 5).1 (TX1 5).2.1 (TX1 5).2.2.1 ∈ je_T := je_in 105 (by decide +kernel) (by decide +kernel)
theorem fl_X1_50 : Cond.fieldLink RX1 50 (TX1 6).1 (TX1 6).2.1 (TX1 6).2.2.1 ∈ je_T := je_in 106 (by decide +kernel) (by decide +kernel)
theorem fl_X1_45 : Cond.fieldLink RX1 45 (TX1 7).1 (TX1 7).2.1 (TX1 7).2.2.1 ∈ je_T := je_in 107 (by decide +kernel) (by decide +kernel)
theorem fl_X1_67 : Cond.fieldLink RX1 67 (TX1 8).1 (TX1 8).2.1 (TX1 8).2.2.1 ∈ je_T := je_in 108 (by decide +kernel) (by decide +kernel)
theorem fl_X5_184 : Cond.fieldLink RX5 184 (TX1 8).1 (TX1 8).2.1 (TX1 8).2.2.1 ∈ je_T := je_in 109 (by decide +kernel) (by decide +kernel)
theorem fl_X4_9 : Cond.fieldLink RX4 9 (TX4 0).1 (TX4 0).2.1 (TX4 0).2.2.1 ∈ je_T := je_in 135 (by decide +kernel) (by decide +kernel)
theorem fl_X5_197 : Cond.fieldLink RX5 197 (TX4 0).1 (TX4 0).2.1 (TX4 0).2.2.1 ∈ je_T := je_in 136 (by decide +kernel) (by decide +kernel)
theorem fl_X4_15 : Cond.fieldLink RX4 15 (TX4 1).1 (TX4 1).2.1 (TX4 1).2.2.1 ∈ je_T := je_in 137 (by decide +kernel) (by decide +kernel)
theorem fl_X5_201 : Cond.fieldLink RX5 201 (TX4 1).1 (TX4 1).2.1 (TX4 1).2.2.1 ∈ je_T := je_in 138 (by decide +kernel) (by decide +kernel)
theorem fl_X5_11 : Cond.fieldLink RX5 11 (TX5 0).1 (TX5 0).2.1 (TX5 0).2.2.1 ∈ je_T := je_in 144 (by decide +kernel) (by decide +kernel)
theorem fl_X5_17 : Cond.fieldLink RX5 17 (TX5 1).1 (TX5 1).2.1 (TX5 1).2.2.1 ∈ je_T := je_in 145 (by decide +kernel) (by decide +kernel)
theorem fl_X5_30 : Cond.fieldLink RX5 30 (TX5 2).1 (TX5 2).2.1 (TX5 2).2.2.1 ∈ je_T := je_in 146 (by decide +kernel) (by decide +kernel)
theorem fl_X5_36 : Cond.fieldLink RX5 36 (TX5 3).1 (TX5 3).2.1 (TX5 3).2.2.1 ∈ je_T := je_in 147 (by decide +kernel) (by decide +kernel)
theorem fl_X5_39 : Cond.fieldLink RX5 39 (TX5 4).1 (TX5 4).2.1 (TX5 4).2.2.1 ∈ je_T := je_in 148 (by decide +kernel) (by decide +kernel)
theorem fl_X5_45 : Cond.fieldLink RX5 45 (TX5 5).1 (TX5 5).2.1 (TX5 5).2.2.1 ∈ je_T := je_in 149 (by decide +kernel) (by decide +kernel)
theorem fl_X5_52 : Cond.fieldLink RX5 52 (TX5 6).1 (TX5 6).2.1 (TX5 6).2.2.1 ∈ je_T := je_in 150 (by decide +kernel) (by decide +kernel)
theorem fl_X5_59 : Cond.fieldLink RX5 59 (TX5 7).1 (TX5 7).2.1 (TX5 7).2.2.1 ∈ je_T := je_in 151 (by decide +kernel) (by decide +kernel)
theorem fl_X5_67 : Cond.fieldLink RX5 67 (TX5 8).1 (TX5 8).2.1 (TX5 8).2.2.1 ∈ je_T := je_in 152 (by decide +kernel) (by decide +kernel)
theorem fl_X5_110 : Cond.fieldLink RX5 110 (TX5 9).1 (TX5 9).2.1 (TX5 9).2.2.1 ∈ je_T := je_in 153 (by decide +kernel) (by decide +kernel)
theorem fl_X5_63 : Cond.fieldLink RX5 63 (TX5 10).1 (TX5 10).2.1 (TX5 10).2.2.1 ∈ je_T := je_in 154 (by decide +kernel) (by decide +kernel)
theorem fl_X5_116 : Cond.fieldLink RX5 116 (TX5 11).1 (TX5 11).2.1 (TX5 11).2.2.1 ∈ je_T := je_in 155 (by decide +kernel) (by decide +kernel)
theorem fl_X3_21 : Cond.fieldLink RX3 21 (TX3 0).1 (TX3 0).2.1 (TX3 0).2.2.1 ∈ je_T := je_in 201 (by decide +kernel) (by decide +kernel)
theorem fl_X3_9 : Cond.fieldLink RX3 9 (TX3 1).1 (TX3 1).2.1 (TX3 1).2.2.1 ∈ je_T := je_in 202 (by decide +kernel) (by decide +kernel)
theorem fl_X3_17 : Cond.fieldLink RX3 17 (TX3 2).1 (TX3 2).2.1 (TX3 2).2.2.1 ∈ je_T := je_in 203 (by decide +kernel) (by decide +kernel)
theorem fl_X1_33 : Cond.fieldLink RX1 33 (TX3 3).1 (TX3 3).2.1 (TX3 3).2.2.1 ∈ je_T := je_in 204 (by decide +kernel) (by decide +kernel)
theorem fl_X3_25 : Cond.fieldLink RX3 25 (TX3 3).1 (TX3 3).2.1 (TX3 3).2.2.1 ∈ je_T := je_in 205 (by decide +kernel) (by decide +kernel)
theorem fl_X5_232 : Cond.fieldLink RX5 232 (TX3 3).1 (TX3 3).2.1 (TX3 3).2.2.1 ∈ je_T := je_in 206 (by decide +kernel) (by decide +kernel)
theorem fl_X2_32 : Cond.fieldLink RX2 32 (TX2 0).1 (TX2 0).2.1 (TX2 0).2.2.1 ∈ je_T := je_in 290 (by decide +kernel) (by decide +kernel)
theorem fl_X1_91 : Cond.fieldLink RX1 91 (TX2 0).1 (TX2 0).2.1 (TX2 0).2.2.1 ∈ je_T := je_in 291 (by decide +kernel) (by decide +kernel)
theorem fl_X5_125 : Cond.fieldLink RX5 125 (TX2 0).1 (TX2 0).2.1 (TX2 0).2.2.1 ∈ je_T := je_in 292 (by decide +kernel) (by decide +kernel)
theorem fl_X2_35 : Cond.fieldLink RX2 35 (TX2 1).1 (TX2 1).2.1 (TX2 1).2.2.1 ∈ je_T := je_in 293 (by decide +kernel) (by decide +kernel)
theorem fl_X5_155 : Cond.fieldLink RX5 155 (TX2 1).1 (TX2 1).2.1 (TX2 1).2.2.1 ∈ je_T := je_in 294 (by decide +kernel) (by decide +kernel)
theorem fl_X2_38 : Cond.fieldLink RX2 38 (TX2 2).1 (TX2 2).2.1 (TX2 2).2.2.1 ∈ je_T := je_in 295 (by decide +kernel) (by decide +kernel)
theorem fl_X5_243 : Cond.fieldLink RX5 243 (TX2 2).1 (TX2 2).2.1 (TX2 2).2.2.1 ∈ je_T := je_in 296 (by decide +kernel) (by decide +kernel)
theorem fl_X2_9 : Cond.fieldLink RX2 9 (TX2 3).1 (TX2 3).2.1 (TX2 3).2.2.1 ∈ je_T := je_in 297 (by decide +kernel) (by decide +kernel)
theorem fl_X5_252 : Cond.fieldLink RX5 252 (TX2 3).1 (TX2 3).2.1 (TX2 3).2.2.1 ∈ je_T := je_in 298 (by decide +kernel) (by decide +kernel)
theorem fl_X2_15 : Cond.fieldLink RX2 15 (TX2 4).1 (TX2 4).2.1 (TX2 4).2.2.1 ∈ je_T := je_in 299 (by decide +kernel) (by decide +kernel)
theorem fl_X5_255 : Cond.fieldLink RX5 255 (TX2 4).1 (TX2 4).2.1 (TX2 4).2.2.1 ∈ je_T := je_in 300 (by decide +kernel) (by decide +kernel)
theorem fl_X2_21 : Cond.fieldLink RX2 21 (TX2 5).1 (TX2 5).2.1 (TX2 5).2.2.1 ∈ je_T := je_in 301 (by decide +kernel) (by decide +kernel)
theorem fl_X5_194 : Cond.fieldLink RX5 194 (TX2 5).1 (TX2 5).2.1 (TX2 5).2.2.1 ∈ je_T := je_in 302 (by decide +kernel) (by decide +kernel)
theorem fl_X2_44 : Cond.fieldLink RX2 44 (TX2 6).1 (TX2 6).2.1 (TX2 6).2.2.1 ∈ je_T := je_in 303 (by decide +kernel) (by decide +kernel)
theorem fl_X5_161 : Cond.fieldLink RX5 161 (TX2 6).1 (TX2 6).2.1 (TX2 6).2.2.1 ∈ je_T := je_in 304 (by decide +kernel) (by decide +kernel)
theorem fl_X1_103 : Cond.fieldLink RX1 103 (TX2 7).1 (TX2 7).2.1 (TX2 7).2.2.1 ∈ je_T := je_in 305 (by decide +kernel) (by decide +kernel)
theorem fl_X3_52 : Cond.fieldLink RX3 52 (TX2 7).1 (TX2 7).2.1 (TX2 7).2.2.1 ∈ je_T := je_in 306 (by decide +kernel) (by decide +kernel)
theorem fl_X5_210 : Cond.fieldLink RX5 210 (TX2 7).1 (TX2 7).2.1 (TX2 7).2.2.1 ∈ je_T := je_in 307 (by decide +kernel) (by decide +kernel)
theorem fl_X5_213 : Cond.fieldLink RX5 213 (TX2 8).1 (TX2 8).2.1 (TX2 8).2.2.1 ∈ je_T := je_in 308 (by decide +kernel) (by decide +kernel)
theorem fl_X2_41 : Cond.fieldLink RX2 41 (TX2 9).1 (TX2 9).2.1 (TX2 9).2.2.1 ∈ je_T := je_in 309 (by decide +kernel) (by decide +kernel)
theorem fl_X3_78 : Cond.fieldLink RX3 78 (TX2 9).1 (TX2 9).2.1 (TX2 9).2.2.1 ∈ je_T := je_in 310 (by decide +kernel) (by decide +kernel)
theorem fl_X5_246 : Cond.fieldLink RX5 246 (TX2 9).1 (TX2 9).2.1 (TX2 9).2.2.1 ∈ je_T := je_in 311 (by decide +kernel) (by decide +kernel)
theorem fl_X2_25 : Cond.fieldLink RX2 25 (TX2 10).1 (TX2 10).2.1 (TX2 10).2.2.1 ∈ je_T := je_in 312 (by decide +kernel) (by decide +kernel)
theorem fl_X5_139 : Cond.fieldLink RX5 139 (TX2 10).1 (TX2 10).2.1 (TX2 10).2.2.1 ∈ je_T := je_in 313 (by decide +kernel) (by decide +kernel)
theorem fl_X2_29 : Cond.fieldLink RX2 29 (TX2 11).1 (TX2 11).2.1 (TX2 11).2.2.1 ∈ je_T := je_in 314 (by decide +kernel) (by decide +kernel)
theorem fl_X5_216 : Cond.fieldLink RX5 216 (TX2 11).1 (TX2 11).2.1 (TX2 11).2.2.1 ∈ je_T := je_in 315 (by decide +kernel) (by decide +kernel)
theorem fl_X6_7 : Cond.fieldLink RX6 7 (TX6 0).1 (TX6 0).2.1 (TX6 0).2.2.1 ∈ je_T := je_in 665 (by decide +kernel) (by decide +kernel)
theorem fl_X6_13 : Cond.fieldLink RX6 13 (TX6 1).1 (TX6 1).2.1 (TX6 1).2.2.1 ∈ je_T := je_in 666 (by decide +kernel) (by decide +kernel)
theorem fl_X6_16 : Cond.fieldLink RX6 16 (TX6 2).1 (TX6 2).2.1 (TX6 2).2.2.1 ∈ je_T := je_in 667 (by decide +kernel) (by decide +kernel)
theorem fl_X6_104 : Cond.fieldLink RX6 104 (TX6 3).1 (TX6 3).2.1 (TX6 3).2.2.1 ∈ je_T := je_in 668 (by decide +kernel) (by decide +kernel)
theorem fl_X6_86 : Cond.fieldLink RX6 86 (TX6 4).1 (TX6 4).2.1 (TX6 4).2.2.1 ∈ je_T := je_in 669 (by decide +kernel) (by decide +kernel)
theorem fl_X6_107 : Cond.fieldLink RX6 107 (TX6 5).1 (TX6 5).2.1 (TX6 5).2.2.1 ∈ je_T := je_in 670 (by decide +kernel) (by decide +kernel)
theorem fl_X6_19 : Cond.fieldLink RX6 19 (TX6 6).1 (TX6 6).2.1 (TX6 6).2.2.1 ∈ je_T := je_in 671 (by decide +kernel) (by decide +kernel)
theorem fl_X6_101 : Cond.fieldLink RX6 101 (TX6 7).1 (TX6 7).2.1 (TX6 7).2.2.1 ∈ je_T := je_in 672 (by decide +kernel) (by decide +kernel)
theorem fl_X6_23 : Cond.fieldLink RX6 23 (TX6 8).1 (TX6 8).2.1 (TX6 8).2.2.1 ∈ je_T := je_in 673 (by decide +kernel) (by decide +kernel)
theorem fl_X6_26 : Cond.fieldLink RX6 26 (TX6 9).1 (TX6 9).2.1 (TX6 9).2.2.1 ∈ je_T := je_in 674 (by decide +kernel) (by decide +kernel)
theorem fl_X6_29 : Cond.fieldLink RX6 29 (TX6 10).1 (TX6 10).2.1 (TX6 10).2.2.1 ∈ je_T := je_in 675 (by decide +kernel) (by decide +kernel)
theorem fl_X6_32 : Cond.fieldLink RX6 32 (TX6 11).1 (TX6 11).2.1 (TX6 11).2.2.1 ∈ je_T := je_in 676 (by decide +kernel) (by decide +kernel)
theorem fl_X6_35 : Cond.fieldLink RX6 35 (TX6 12).1 (TX6 12).2.1 (TX6 12).2.2.1 ∈ je_T := je_in 677 (by decide +kernel) (by decide +kernel)
theorem fl_X6_38 : Cond.fieldLink RX6 38 (TX6 13).1 (TX6 13).2.1 (TX6 13).2.2.1 ∈ je_T := je_in 678 (by decide +kernel) (by decide +kernel)
theorem fl_X6_41 : Cond.fieldLink RX6 41 (TX6 14).1 (TX6 14).2.1 (TX6 14).2.2.1 ∈ je_T := je_in 679 (by decide +kernel) (by decide +kernel)
theorem fl_X6_44 : Cond.fieldLink RX6 44 (TX6 15).1 (TX6 15).2.1 (TX6 15).2.2.1 ∈ je_T := je_in 680 (by decide +kernel) (by decide +kernel)
theorem fl_X6_47 : Cond.fieldLink RX6 47 (TX6 16).1 (TX6 16).2.1 (TX6 16).2.2.1 ∈ je_T := je_in 681 (by decide +kernel) (by decide +kernel)
theorem fl_X6_50 : Cond.fieldLink RX6 50 (TX6 17).1 (TX6 17).2.1 (TX6 17).2.2.1 ∈ je_T := je_in 682 (by decide +kernel) (by decide +kernel)
theorem fl_X6_53 : Cond.fieldLink RX6 53 (TX6 18).1 (TX6 18).2.1 (TX6 18).2.2.1 ∈ je_T := je_in 683 (by decide +kernel) (by decide +kernel)
theorem fl_X6_56 : Cond.fieldLink RX6 56 (TX6 19).1 (TX6 19).2.1 (TX6 19).2.2.1 ∈ je_T := je_in 684 (by decide +kernel) (by decide +kernel)
theorem fl_X6_59 : Cond.fieldLink RX6 59 (TX6 20).1 (TX6 20).2.1 (TX6 20).2.2.1 ∈ je_T := je_in 685 (by decide +kernel) (by decide +kernel)
theorem fl_X6_62 : Cond.fieldLink RX6 62 (TX6 21).1 (TX6 21).2.1 (TX6 21).2.2.1 ∈ je_T := je_in 686 (by decide +kernel) (by decide +kernel)
theorem fl_X6_65 : Cond.fieldLink RX6 65 (TX6 22).1 (TX6 22).2.1 (TX6 22).2.2.1 ∈ je_T := je_in 687 (by decide +kernel) (by decide +kernel)
theorem fl_X6_68 : Cond.fieldLink RX6 68 (TX6 23).1 (TX6 23).2.1 (TX6 23).2.2.1 ∈ je_T := je_in 688 (by decide +kernel) (by decide +kernel)
theorem fl_X6_71 : Cond.fieldLink RX6 71 (TX6 24).1 (TX6 24).2.1 (TX6 24).2.2.1 ∈ je_T := je_in 689 (by decide +kernel) (by decide +kernel)
theorem fl_X6_128 : Cond.fieldLink RX6 128 (TX6 25).1 (TX6 25).2.1 (TX6 25).2.2.1 ∈ je_T := je_in 690 (by decide +kernel) (by decide +kernel)
theorem fl_X6_132 : Cond.fieldLink RX6 132 (TX6 26).1 (TX6 26).2.1 (TX6 26).2.2.1 ∈ je_T := je_in 691 (by decide +kernel) (by decide +kernel)
theorem fl_X6_74 : Cond.fieldLink RX6 74 (TX6 27).1 (TX6 27).2.1 (TX6 27).2.2.1 ∈ je_T := je_in 692 (by decide +kernel) (by decide +kernel)
theorem fl_X6_77 : Cond.fieldLink RX6 77 (TX6 28).1 (TX6 28).2.1 (TX6 28).2.2.1 ∈ je_T := je_in 693 (by decide +kernel) (by decide +kernel)
theorem fl_X6_80 : Cond.fieldLink RX6 80 (TX6 29).1 (TX6 29).2.1 (TX6 29).2.2.1 ∈ je_T := je_in 694 (by decide +kernel) (by decide +kernel)
theorem fl_X6_83 : Cond.fieldLink RX6 83 (TX6 30).1 (TX6 30).2.1 (TX6 30).2.2.1 ∈ je_T := je_in 695 (by decide +kernel) (by decide +kernel)
theorem fl_X6_176 : Cond.fieldLink RX6 176 (TX6 31).1 (TX6 31).2.1 (TX6 31).2.2.1 ∈ je_T := je_in 696 (by decide +kernel) (by decide +kernel)
theorem fl_X6_179 : Cond.fieldLink RX6 179 (TX6 32).1 (TX6 32).2.1 (TX6 32).2.2.1 ∈ je_T := je_in 697 (by decide +kernel) (by decide +kernel)
theorem fl_X6_186 : Cond.fieldLink RX6 186 (TX6 33).1 (TX6 33).2.1 (TX6 33).2.2.1 ∈ je_T := je_in 698 (by decide +kernel) (by decide +kernel)
set_option maxRecDepth 100000 in
theorem cd_X5_init : Cond.code yX5_init cX5_init 1 none ∈ je_T := je_in 53 rfl (by decide +kernel)
set_option maxRecDepth 100000 in
theorem cd_X0_init : Cond.code yX0_init cX0_init 1 none ∈ je_T := je_in 76 rfl (by decide +kernel)
set_option maxRecDepth 100000 in
theorem cd_X1_init : Cond.code yX1_init cX1_init 1 none ∈ je_T := je_in 97 rfl (by decide +kernel)
set_option maxRecDepth 100000 in
theorem cd_X4_init : Cond.code yX4_init cX4_init 1 none ∈ je_T := je_in 133 rfl (by decide +kernel)
set_option maxRecDepth 100000 in
theorem cd_X5_wagon : Cond.code yX5_wagon cX5_wagon 2 (some FieldType.int) ∈ je_T := je_in 184 rfl (by decide +kernel)
set_option maxRecDepth 100000 in
theorem cd_X5_refuse : Cond.code yX5_refuse cX5_refuse 2 (some FieldType.int) ∈ je_T := je_in 188 rfl (by decide +kernel)
set_option maxRecDepth 100000 in
theorem cd_X5_at : Cond.code yX5_at cX5_at 2 (some FieldType.int) ∈ je_T := je_in 191 rfl (by decide +kernel)
set_option maxRecDepth 100000 in
theorem cd_X5_write : Cond.code yX5_write cX5_write 3 none ∈ je_T := je_in 194 rfl (by decide +kernel)
set_option maxRecDepth 100000 in
theorem cd_X3_init : Cond.code yX3_init cX3_init 2 none ∈ je_T := je_in 198 rfl (by decide +kernel)
set_option maxRecDepth 100000 in
theorem cd_X5_place : Cond.code yX5_place cX5_place 4 (some FieldType.int) ∈ je_T := je_in 219 rfl (by decide +kernel)
set_option maxRecDepth 100000 in
theorem cd_X5_wagonAt : Cond.code yX5_wagonAt cX5_wagonAt 2 (some (FieldType.object "TyreBook$Wagon")) ∈ je_T := je_in 223 rfl (by decide +kernel)
set_option maxRecDepth 100000 in
theorem cd_X5_isKind : Cond.code yX5_isKind cX5_isKind 1 (some FieldType.boolean) ∈ je_T := je_in 226 rfl (by decide +kernel)
set_option maxRecDepth 100000 in
theorem cd_X3_isFull : Cond.code yX3_isFull cX3_isFull 1 (some FieldType.boolean) ∈ je_T := je_in 230 rfl (by decide +kernel)
set_option maxRecDepth 100000 in
theorem cd_X3_addPlace : Cond.code yX3_addPlace cX3_addPlace 3 (some FieldType.int) ∈ je_T := je_in 234 rfl (by decide +kernel)
set_option maxRecDepth 100000 in
theorem cd_X5_least : Cond.code yX5_least cX5_least 5 (some FieldType.int) ∈ je_T := je_in 239 rfl (by decide +kernel)
set_option maxRecDepth 100000 in
theorem cd_X5_outside : Cond.code yX5_outside cX5_outside 3 (some FieldType.int) ∈ je_T := je_in 242 rfl (by decide +kernel)
set_option maxRecDepth 100000 in
theorem cd_X5_apart : Cond.code yX5_apart cX5_apart 4 (some FieldType.int) ∈ je_T := je_in 246 rfl (by decide +kernel)
set_option maxRecDepth 100000 in
theorem cd_X5_maker : Cond.code yX5_maker cX5_maker 5 (some FieldType.int) ∈ je_T := je_in 250 rfl (by decide +kernel)
set_option maxRecDepth 100000 in
theorem cd_X5_isMaker : Cond.code yX5_isMaker cX5_isMaker 1 (some FieldType.boolean) ∈ je_T := je_in 253 rfl (by decide +kernel)
set_option maxRecDepth 100000 in
theorem cd_X5_refitTyresOf : Cond.code yX5_refitTyresOf cX5_refitTyresOf 4 none ∈ je_T := je_in 257 rfl (by decide +kernel)
set_option maxRecDepth 100000 in
theorem cd_X5_tyreAt : Cond.code yX5_tyreAt cX5_tyreAt 2 (some (FieldType.object "TyreBook$Tyre")) ∈ je_T := je_in 261 rfl (by decide +kernel)
set_option maxRecDepth 100000 in
theorem cd_X2_fitWear : Cond.code yX2_fitWear cX2_fitWear 15 none ∈ je_T := je_in 265 rfl (by decide +kernel)
set_option maxRecDepth 100000 in
theorem cd_X4_become : Cond.code yX4_become cX4_become 7 none ∈ je_T := je_in 270 rfl (by decide +kernel)
set_option maxRecDepth 100000 in
theorem cd_X4_commonFactor : Cond.code yX4_commonFactor cX4_commonFactor 11 (some FieldType.long) ∈ je_T := je_in 273 rfl (by decide +kernel)
set_option maxRecDepth 100000 in
theorem cd_X5_buy : Cond.code yX5_buy cX5_buy 3 (some FieldType.int) ∈ je_T := je_in 278 rfl (by decide +kernel)
set_option maxRecDepth 100000 in
theorem cd_X0_hasRoomFor : Cond.code yX0_hasRoomFor cX0_hasRoomFor 2 (some FieldType.boolean) ∈ je_T := je_in 282 rfl (by decide +kernel)
set_option maxRecDepth 100000 in
theorem cd_X2_init : Cond.code yX2_init cX2_init 4 none ∈ je_T := je_in 286 rfl (by decide +kernel)
set_option maxRecDepth 100000 in
theorem cd_X2_startTread : Cond.code yX2_startTread cX2_startTread 2 none ∈ je_T := je_in 344 rfl (by decide +kernel)
set_option maxRecDepth 100000 in
theorem cd_X2_addReading : Cond.code yX2_addReading cX2_addReading 2 none ∈ je_T := je_in 348 rfl (by decide +kernel)
set_option maxRecDepth 100000 in
theorem cd_X2_dropSecondReading : Cond.code yX2_dropSecondReading cX2_dropSecondReading 2 none ∈ je_T := je_in 352 rfl (by decide +kernel)
set_option maxRecDepth 100000 in
theorem cd_X5_move : Cond.code yX5_move cX5_move 3 none ∈ je_T := je_in 358 rfl (by decide +kernel)
set_option maxRecDepth 100000 in
theorem cd_X0_note : Cond.code yX0_note cX0_note 4 none ∈ je_T := je_in 362 rfl (by decide +kernel)
set_option maxRecDepth 100000 in
theorem cd_X5_put : Cond.code yX5_put cX5_put 6 (some FieldType.int) ∈ je_T := je_in 367 rfl (by decide +kernel)
set_option maxRecDepth 100000 in
theorem cd_X3_hasPlace : Cond.code yX3_hasPlace cX3_hasPlace 2 (some FieldType.boolean) ∈ je_T := je_in 371 rfl (by decide +kernel)
set_option maxRecDepth 100000 in
theorem cd_X3_tyreOn : Cond.code yX3_tyreOn cX3_tyreOn 2 (some (FieldType.object "TyreBook$Tyre")) ∈ je_T := je_in 375 rfl (by decide +kernel)
set_option maxRecDepth 100000 in
theorem cd_X3_lay : Cond.code yX3_lay cX3_lay 3 none ∈ je_T := je_in 380 rfl (by decide +kernel)
set_option maxRecDepth 100000 in
theorem cd_X3_spot : Cond.code yX3_spot cX3_spot 2 (some FieldType.int) ∈ je_T := je_in 384 rfl (by decide +kernel)
set_option maxRecDepth 100000 in
theorem cd_X5_take : Cond.code yX5_take cX5_take 5 (some FieldType.int) ∈ je_T := je_in 388 rfl (by decide +kernel)
set_option maxRecDepth 100000 in
theorem cd_X5_swap : Cond.code yX5_swap cX5_swap 9 (some FieldType.int) ∈ je_T := je_in 392 rfl (by decide +kernel)
set_option maxRecDepth 100000 in
theorem cd_X5_read : Cond.code yX5_read cX5_read 5 (some FieldType.int) ∈ je_T := je_in 396 rfl (by decide +kernel)
set_option maxRecDepth 100000 in
theorem cd_X5_go : Cond.code yX5_go cX5_go 5 (some FieldType.int) ∈ je_T := je_in 401 rfl (by decide +kernel)
set_option maxRecDepth 100000 in
theorem cd_X3_whyUnfit : Cond.code yX3_whyUnfit cX3_whyUnfit 5 (some FieldType.int) ∈ je_T := je_in 405 rfl (by decide +kernel)
set_option maxRecDepth 100000 in
theorem cd_X3_flawOn : Cond.code yX3_flawOn cX3_flawOn 8 (some FieldType.int) ∈ je_T := je_in 409 rfl (by decide +kernel)
set_option maxRecDepth 100000 in
theorem cd_X3_kindOf : Cond.code yX3_kindOf cX3_kindOf 2 (some FieldType.int) ∈ je_T := je_in 413 rfl (by decide +kernel)
set_option maxRecDepth 100000 in
theorem cd_X2_depthAfter : Cond.code yX2_depthAfter cX2_depthAfter 2 (some FieldType.int) ∈ je_T := je_in 419 rfl (by decide +kernel)
set_option maxRecDepth 100000 in
theorem cd_X2_sinceRead : Cond.code yX2_sinceRead cX2_sinceRead 1 (some FieldType.int) ∈ je_T := je_in 423 rfl (by decide +kernel)
set_option maxRecDepth 100000 in
theorem cd_X4_depthFrom : Cond.code yX4_depthFrom cX4_depthFrom 5 (some FieldType.int) ∈ je_T := je_in 427 rfl (by decide +kernel)
set_option maxRecDepth 100000 in
theorem cd_X3_pairOf : Cond.code yX3_pairOf cX3_pairOf 4 (some FieldType.int) ∈ je_T := je_in 431 rfl (by decide +kernel)
set_option maxRecDepth 100000 in
theorem cd_J9_abs_0f7a4 : Cond.code yJ9_abs_0f7a4 cJ9_abs_0f7a4 1 (some FieldType.int) ∈ je_T := je_in 434 rfl (by decide +kernel)
set_option maxRecDepth 100000 in
theorem cd_X3_mostLengths : Cond.code yX3_mostLengths cX3_mostLengths 5 (some FieldType.int) ∈ je_T := je_in 438 rfl (by decide +kernel)
set_option maxRecDepth 100000 in
theorem cd_X3_rollingOn : Cond.code yX3_rollingOn cX3_rollingOn 4 (some (FieldType.object "TyreBook$Tyre")) ∈ je_T := je_in 442 rfl (by decide +kernel)
set_option maxRecDepth 100000 in
theorem cd_J9_max_7cf53 : Cond.code yJ9_max_7cf53 cJ9_max_7cf53 2 (some FieldType.int) ∈ je_T := je_in 445 rfl (by decide +kernel)
set_option maxRecDepth 100000 in
theorem cd_X3_roll : Cond.code yX3_roll cX3_roll 5 none ∈ je_T := je_in 450 rfl (by decide +kernel)
set_option maxRecDepth 100000 in
theorem cd_X3_reach : Cond.code yX3_reach cX3_reach 5 (some FieldType.int) ∈ je_T := je_in 454 rfl (by decide +kernel)
set_option maxRecDepth 100000 in
theorem cd_X2_endFor : Cond.code yX2_endFor cX2_endFor 2 (some FieldType.int) ∈ je_T := je_in 459 rfl (by decide +kernel)
set_option maxRecDepth 100000 in
theorem cd_X4_endFrom : Cond.code yX4_endFrom cX4_endFrom 6 (some FieldType.int) ∈ je_T := je_in 463 rfl (by decide +kernel)
set_option maxRecDepth 100000 in
theorem cd_J9_min_f86c9 : Cond.code yJ9_min_f86c9 cJ9_min_f86c9 4 (some FieldType.long) ∈ je_T := je_in 468 rfl (by decide +kernel)
set_option maxRecDepth 100000 in
theorem cd_J9_max_f86c9 : Cond.code yJ9_max_f86c9 cJ9_max_f86c9 4 (some FieldType.long) ∈ je_T := je_in 471 rfl (by decide +kernel)
set_option maxRecDepth 100000 in
theorem cd_J9_min_7cf53 : Cond.code yJ9_min_7cf53 cJ9_min_7cf53 2 (some FieldType.int) ∈ je_T := je_in 474 rfl (by decide +kernel)
set_option maxRecDepth 100000 in
theorem cd_X5_why : Cond.code yX5_why cX5_why 3 (some FieldType.int) ∈ je_T := je_in 478 rfl (by decide +kernel)
set_option maxRecDepth 100000 in
theorem cd_X5_far : Cond.code yX5_far cX5_far 3 (some FieldType.int) ∈ je_T := je_in 482 rfl (by decide +kernel)
set_option maxRecDepth 100000 in
theorem cd_X5_best : Cond.code yX5_best cX5_best 3 (some FieldType.int) ∈ je_T := je_in 486 rfl (by decide +kernel)
set_option maxRecDepth 100000 in
theorem cd_X1_findReach : Cond.code yX1_findReach cX1_findReach 4 (some FieldType.boolean) ∈ je_T := je_in 490 rfl (by decide +kernel)
set_option maxRecDepth 100000 in
theorem cd_X1_gather : Cond.code yX1_gather cX1_gather 4 none ∈ je_T := je_in 495 rfl (by decide +kernel)
set_option maxRecDepth 100000 in
theorem cd_X1_insert : Cond.code yX1_insert cX1_insert 4 none ∈ je_T := je_in 500 rfl (by decide +kernel)
set_option maxRecDepth 100000 in
theorem cd_X1_weigh : Cond.code yX1_weigh cX1_weigh 8 none ∈ je_T := je_in 504 rfl (by decide +kernel)
set_option maxRecDepth 100000 in
theorem cd_X1_turnedAt : Cond.code yX1_turnedAt cX1_turnedAt 2 (some (FieldType.object "TyreBook$Tyre")) ∈ je_T := je_in 510 rfl (by decide +kernel)
set_option maxRecDepth 100000 in
theorem cd_X1_reachOf : Cond.code yX1_reachOf cX1_reachOf 3 (some FieldType.int) ∈ je_T := je_in 513 rfl (by decide +kernel)
set_option maxRecDepth 100000 in
theorem cd_X1_fillReaches : Cond.code yX1_fillReaches cX1_fillReaches 4 none ∈ je_T := je_in 520 rfl (by decide +kernel)
set_option maxRecDepth 100000 in
theorem cd_X1_allUsed : Cond.code yX1_allUsed cX1_allUsed 1 (some FieldType.int) ∈ je_T := je_in 524 rfl (by decide +kernel)
set_option maxRecDepth 100000 in
theorem cd_X1_slot : Cond.code yX1_slot cX1_slot 2 (some FieldType.int) ∈ je_T := je_in 527 rfl (by decide +kernel)
set_option maxRecDepth 100000 in
theorem cd_X1_reachFrom : Cond.code yX1_reachFrom cX1_reachFrom 6 (some FieldType.int) ∈ je_T := je_in 531 rfl (by decide +kernel)
set_option maxRecDepth 100000 in
theorem cd_X1_isUsed : Cond.code yX1_isUsed cX1_isUsed 2 (some FieldType.boolean) ∈ je_T := je_in 534 rfl (by decide +kernel)
set_option maxRecDepth 100000 in
theorem cd_X5_turn : Cond.code yX5_turn cX5_turn 4 (some FieldType.int) ∈ je_T := je_in 539 rfl (by decide +kernel)
set_option maxRecDepth 100000 in
theorem cd_X1_findWay : Cond.code yX1_findWay cX1_findWay 4 (some FieldType.int) ∈ je_T := je_in 543 rfl (by decide +kernel)
set_option maxRecDepth 100000 in
theorem cd_X1_fillChanges : Cond.code yX1_fillChanges cX1_fillChanges 4 none ∈ je_T := je_in 547 rfl (by decide +kernel)
set_option maxRecDepth 100000 in
theorem cd_X1_fewestFrom : Cond.code yX1_fewestFrom cX1_fewestFrom 5 (some FieldType.int) ∈ je_T := je_in 551 rfl (by decide +kernel)
set_option maxRecDepth 100000 in
theorem cd_X1_changesWith : Cond.code yX1_changesWith cX1_changesWith 5 (some FieldType.int) ∈ je_T := je_in 555 rfl (by decide +kernel)
set_option maxRecDepth 100000 in
theorem cd_X1_choose : Cond.code yX1_choose cX1_choose 5 (some FieldType.int) ∈ je_T := je_in 559 rfl (by decide +kernel)
set_option maxRecDepth 100000 in
theorem cd_X5_layAsChosen : Cond.code yX5_layAsChosen cX5_layAsChosen 4 none ∈ je_T := je_in 563 rfl (by decide +kernel)
set_option maxRecDepth 100000 in
theorem cd_X1_chosenFor : Cond.code yX1_chosenFor cX1_chosenFor 2 (some (FieldType.object "TyreBook$Tyre")) ∈ je_T := je_in 567 rfl (by decide +kernel)
set_option maxRecDepth 100000 in
theorem cd_X5_wear : Cond.code yX5_wear cX5_wear 4 (some FieldType.long) ∈ je_T := je_in 571 rfl (by decide +kernel)
set_option maxRecDepth 100000 in
theorem cd_X5_depth : Cond.code yX5_depth cX5_depth 5 (some FieldType.int) ∈ je_T := je_in 575 rfl (by decide +kernel)
set_option maxRecDepth 100000 in
theorem cd_X5_end : Cond.code yX5_end cX5_end 5 (some FieldType.int) ∈ je_T := je_in 580 rfl (by decide +kernel)
set_option maxRecDepth 100000 in
theorem cd_X5_send : Cond.code yX5_send cX5_send 3 (some FieldType.int) ∈ je_T := je_in 585 rfl (by decide +kernel)
set_option maxRecDepth 100000 in
theorem cd_X5_mend : Cond.code yX5_mend cX5_mend 3 (some FieldType.int) ∈ je_T := je_in 589 rfl (by decide +kernel)
set_option maxRecDepth 100000 in
theorem cd_X5_cast : Cond.code yX5_cast cX5_cast 3 (some FieldType.int) ∈ je_T := je_in 593 rfl (by decide +kernel)
set_option maxRecDepth 100000 in
theorem cd_X5_days : Cond.code yX5_days cX5_days 6 (some FieldType.int) ∈ je_T := je_in 597 rfl (by decide +kernel)
set_option maxRecDepth 100000 in
theorem cd_X5_nextBack : Cond.code yX5_nextBack cX5_nextBack 5 (some (FieldType.object "TyreBook$Tyre")) ∈ je_T := je_in 601 rfl (by decide +kernel)
set_option maxRecDepth 100000 in
theorem cd_X5_bringBack : Cond.code yX5_bringBack cX5_bringBack 2 none ∈ je_T := je_in 605 rfl (by decide +kernel)
set_option maxRecDepth 100000 in
theorem cd_X5_few : Cond.code yX5_few cX5_few 8 (some FieldType.int) ∈ je_T := je_in 609 rfl (by decide +kernel)
set_option maxRecDepth 100000 in
theorem cd_X5_neededOn : Cond.code yX5_neededOn cX5_neededOn 8 (some FieldType.int) ∈ je_T := je_in 615 rfl (by decide +kernel)
set_option maxRecDepth 100000 in
theorem cd_X5_tyresFor : Cond.code yX5_tyresFor cX5_tyresFor 2 (some FieldType.int) ∈ je_T := je_in 620 rfl (by decide +kernel)
set_option maxRecDepth 100000 in
theorem cd_X5_asOf : Cond.code yX5_asOf cX5_asOf 5 (some FieldType.int) ∈ je_T := je_in 625 rfl (by decide +kernel)
set_option maxRecDepth 100000 in
theorem cd_X0_whereWas : Cond.code yX0_whereWas cX0_whereWas 4 (some FieldType.int) ∈ je_T := je_in 629 rfl (by decide +kernel)
set_option maxRecDepth 100000 in
theorem cd_X5_tyreOf : Cond.code yX5_tyreOf cX5_tyreOf 4 (some FieldType.int) ∈ je_T := je_in 634 rfl (by decide +kernel)
set_option maxRecDepth 100000 in
theorem cd_X5_reading : Cond.code yX5_reading cX5_reading 5 (some FieldType.int) ∈ je_T := je_in 638 rfl (by decide +kernel)
set_option maxRecDepth 100000 in
theorem cd_X2_hasReading : Cond.code yX2_hasReading cX2_hasReading 2 (some FieldType.boolean) ∈ je_T := je_in 642 rfl (by decide +kernel)
set_option maxRecDepth 100000 in
theorem cd_X5_placeOf : Cond.code yX5_placeOf cX5_placeOf 5 (some FieldType.int) ∈ je_T := je_in 646 rfl (by decide +kernel)
set_option maxRecDepth 100000 in
theorem cd_X5_numberOf : Cond.code yX5_numberOf cX5_numberOf 1 (some FieldType.int) ∈ je_T := je_in 649 rfl (by decide +kernel)
set_option maxRecDepth 100000 in
theorem cd_X5_count : Cond.code yX5_count cX5_count 2 (some FieldType.int) ∈ je_T := je_in 654 rfl (by decide +kernel)
set_option maxRecDepth 100000 in
theorem cd_X5_tyresAt : Cond.code yX5_tyresAt cX5_tyresAt 5 (some FieldType.int) ∈ je_T := je_in 658 rfl (by decide +kernel)
set_option maxRecDepth 100000 in
theorem cd_X6_init : Cond.code yX6_init cX6_init 1 none ∈ je_T := je_in 663 rfl (by decide +kernel)
set_option maxRecDepth 100000 in
theorem cd_X6_wagon : Cond.code yX6_wagon cX6_wagon 1 (some FieldType.int) ∈ je_T := je_in 771 rfl (by decide +kernel)
set_option maxRecDepth 100000 in
theorem cd_X6_refuse : Cond.code yX6_refuse cX6_refuse 2 (some FieldType.int) ∈ je_T := je_in 775 rfl (by decide +kernel)
set_option maxRecDepth 100000 in
theorem cd_X6_place : Cond.code yX6_place cX6_place 6 (some FieldType.int) ∈ je_T := je_in 779 rfl (by decide +kernel)
set_option maxRecDepth 100000 in
theorem cd_X6_isIn : Cond.code yX6_isIn cX6_isIn 2 (some FieldType.boolean) ∈ je_T := je_in 782 rfl (by decide +kernel)
set_option maxRecDepth 100000 in
theorem cd_X6_spot : Cond.code yX6_spot cX6_spot 2 (some FieldType.int) ∈ je_T := je_in 785 rfl (by decide +kernel)
set_option maxRecDepth 100000 in
theorem cd_X6_least : Cond.code yX6_least cX6_least 4 (some FieldType.int) ∈ je_T := je_in 789 rfl (by decide +kernel)
set_option maxRecDepth 100000 in
theorem cd_X6_apart : Cond.code yX6_apart cX6_apart 3 (some FieldType.int) ∈ je_T := je_in 793 rfl (by decide +kernel)
set_option maxRecDepth 100000 in
theorem cd_X6_maker : Cond.code yX6_maker cX6_maker 4 (some FieldType.int) ∈ je_T := je_in 797 rfl (by decide +kernel)
set_option maxRecDepth 100000 in
theorem cd_X6_buy : Cond.code yX6_buy cX6_buy 3 (some FieldType.int) ∈ je_T := je_in 801 rfl (by decide +kernel)
set_option maxRecDepth 100000 in
theorem cd_X6_hasRoom : Cond.code yX6_hasRoom cX6_hasRoom 2 (some FieldType.boolean) ∈ je_T := je_in 805 rfl (by decide +kernel)
set_option maxRecDepth 100000 in
theorem cd_X6_fresh : Cond.code yX6_fresh cX6_fresh 2 none ∈ je_T := je_in 809 rfl (by decide +kernel)
set_option maxRecDepth 100000 in
theorem cd_X6_log : Cond.code yX6_log cX6_log 2 none ∈ je_T := je_in 813 rfl (by decide +kernel)
set_option maxRecDepth 100000 in
theorem cd_X6_put : Cond.code yX6_put cX6_put 4 (some FieldType.int) ∈ je_T := je_in 817 rfl (by decide +kernel)
set_option maxRecDepth 100000 in
theorem cd_X6_isPlace : Cond.code yX6_isPlace cX6_isPlace 3 (some FieldType.boolean) ∈ je_T := je_in 821 rfl (by decide +kernel)
set_option maxRecDepth 100000 in
theorem cd_X6_lays : Cond.code yX6_lays cX6_lays 3 none ∈ je_T := je_in 825 rfl (by decide +kernel)
set_option maxRecDepth 100000 in
theorem cd_X6_take : Cond.code yX6_take cX6_take 4 (some FieldType.int) ∈ je_T := je_in 829 rfl (by decide +kernel)
set_option maxRecDepth 100000 in
theorem cd_X6_swap : Cond.code yX6_swap cX6_swap 7 (some FieldType.int) ∈ je_T := je_in 833 rfl (by decide +kernel)
set_option maxRecDepth 100000 in
theorem cd_X6_read : Cond.code yX6_read cX6_read 5 (some FieldType.int) ∈ je_T := je_in 837 rfl (by decide +kernel)
set_option maxRecDepth 100000 in
theorem cd_X6_go : Cond.code yX6_go cX6_go 5 (some FieldType.int) ∈ je_T := je_in 841 rfl (by decide +kernel)
set_option maxRecDepth 100000 in
theorem cd_X6_whyOf : Cond.code yX6_whyOf cX6_whyOf 6 (some FieldType.int) ∈ je_T := je_in 845 rfl (by decide +kernel)
set_option maxRecDepth 100000 in
theorem cd_X6_depthOf : Cond.code yX6_depthOf cX6_depthOf 7 (some FieldType.int) ∈ je_T := je_in 849 rfl (by decide +kernel)
set_option maxRecDepth 100000 in
theorem cd_X6_wearOf : Cond.code yX6_wearOf cX6_wearOf 17 none ∈ je_T := je_in 853 rfl (by decide +kernel)
set_option maxRecDepth 100000 in
theorem cd_X6_lastOf : Cond.code yX6_lastOf cX6_lastOf 2 (some FieldType.int) ∈ je_T := je_in 858 rfl (by decide +kernel)
set_option maxRecDepth 100000 in
theorem cd_J9_floorDiv_f86c9 : Cond.code yJ9_floorDiv_f86c9 cJ9_floorDiv_f86c9 6 (some FieldType.long) ∈ je_T := je_in 861 rfl (by decide +kernel)
set_option maxRecDepth 100000 in
theorem cd_X6_goes : Cond.code yX6_goes cX6_goes 3 (some FieldType.boolean) ∈ je_T := je_in 866 rfl (by decide +kernel)
set_option maxRecDepth 100000 in
theorem cd_X6_farOf : Cond.code yX6_farOf cX6_farOf 5 (some FieldType.int) ∈ je_T := je_in 871 rfl (by decide +kernel)
set_option maxRecDepth 100000 in
theorem cd_X6_endOf : Cond.code yX6_endOf cX6_endOf 5 (some FieldType.int) ∈ je_T := je_in 875 rfl (by decide +kernel)
set_option maxRecDepth 100000 in
theorem cd_X6_why : Cond.code yX6_why cX6_why 2 (some FieldType.int) ∈ je_T := je_in 882 rfl (by decide +kernel)
set_option maxRecDepth 100000 in
theorem cd_X6_far : Cond.code yX6_far cX6_far 2 (some FieldType.int) ∈ je_T := je_in 886 rfl (by decide +kernel)
set_option maxRecDepth 100000 in
theorem cd_X6_best : Cond.code yX6_best cX6_best 2 (some FieldType.int) ∈ je_T := je_in 890 rfl (by decide +kernel)
set_option maxRecDepth 100000 in
theorem cd_X6_tries : Cond.code yX6_tries cX6_tries 5 (some FieldType.boolean) ∈ je_T := je_in 894 rfl (by decide +kernel)
set_option maxRecDepth 100000 in
theorem cd_X6_lay : Cond.code yX6_lay cX6_lay 8 none ∈ je_T := je_in 898 rfl (by decide +kernel)
set_option maxRecDepth 100000 in
theorem cd_X6_turn : Cond.code yX6_turn cX6_turn 4 (some FieldType.int) ∈ je_T := je_in 902 rfl (by decide +kernel)
set_option maxRecDepth 100000 in
theorem cd_X6_wear : Cond.code yX6_wear cX6_wear 3 (some FieldType.long) ∈ je_T := je_in 906 rfl (by decide +kernel)
set_option maxRecDepth 100000 in
theorem cd_X6_depth : Cond.code yX6_depth cX6_depth 3 (some FieldType.int) ∈ je_T := je_in 910 rfl (by decide +kernel)
set_option maxRecDepth 100000 in
theorem cd_X6_end : Cond.code yX6_end cX6_end 3 (some FieldType.int) ∈ je_T := je_in 914 rfl (by decide +kernel)
set_option maxRecDepth 100000 in
theorem cd_X6_send : Cond.code yX6_send cX6_send 2 (some FieldType.int) ∈ je_T := je_in 918 rfl (by decide +kernel)
set_option maxRecDepth 100000 in
theorem cd_X6_mend : Cond.code yX6_mend cX6_mend 2 (some FieldType.int) ∈ je_T := je_in 922 rfl (by decide +kernel)
set_option maxRecDepth 100000 in
theorem cd_X6_cast : Cond.code yX6_cast cX6_cast 2 (some FieldType.int) ∈ je_T := je_in 926 rfl (by decide +kernel)
set_option maxRecDepth 100000 in
theorem cd_X6_days : Cond.code yX6_days cX6_days 4 (some FieldType.int) ∈ je_T := je_in 930 rfl (by decide +kernel)
set_option maxRecDepth 100000 in
theorem cd_X6_few : Cond.code yX6_few cX6_few 11 (some FieldType.int) ∈ je_T := je_in 934 rfl (by decide +kernel)
set_option maxRecDepth 100000 in
theorem cd_X6_asOf : Cond.code yX6_asOf cX6_asOf 6 (some FieldType.int) ∈ je_T := je_in 940 rfl (by decide +kernel)
set_option maxRecDepth 100000 in
theorem cd_X6_tyreOf : Cond.code yX6_tyreOf cX6_tyreOf 3 (some FieldType.int) ∈ je_T := je_in 944 rfl (by decide +kernel)
set_option maxRecDepth 100000 in
theorem cd_X6_reading : Cond.code yX6_reading cX6_reading 4 (some FieldType.int) ∈ je_T := je_in 948 rfl (by decide +kernel)
set_option maxRecDepth 100000 in
theorem cd_X6_placeOf : Cond.code yX6_placeOf cX6_placeOf 5 (some FieldType.int) ∈ je_T := je_in 952 rfl (by decide +kernel)
set_option maxRecDepth 100000 in
theorem cd_X6_count : Cond.code yX6_count cX6_count 4 (some FieldType.int) ∈ je_T := je_in 956 rfl (by decide +kernel)
theorem mi_L_9 : je_I RL 9 yX5_init cX5_init 1 0 := ⟨je_in 51 (by decide +kernel) (by decide +kernel), je_in 52 (by decide +kernel) (by decide +kernel), rfl, it_X5, cd_X5_init, ⟨by decide +kernel, by decide +kernel, by decide +kernel⟩, by decide⟩
theorem oi_X5_1 : Cond.methodLink RX5 1 objectInit ∈ je_T := je_in 54 (by decide +kernel) (by decide +kernel)
theorem mi_X5_44 : je_IN RX5 44 yX0_init RX5 cX0_init 1 0 := ⟨by simp [je_N], je_in 75 (by decide +kernel) (by decide +kernel), rfl, it_X0, cd_X0_init, ⟨by decide +kernel, by decide +kernel, by decide +kernel⟩, by decide⟩
theorem oi_X0_3 : Cond.methodLink RX0 3 objectInit ∈ je_T := je_in 77 (by decide +kernel) (by decide +kernel)
theorem mi_X5_51 : je_IN RX5 51 yX1_init RX5 cX1_init 1 0 := ⟨by simp [je_N], je_in 96 (by decide +kernel) (by decide +kernel), rfl, it_X1, cd_X1_init, ⟨by decide +kernel, by decide +kernel, by decide +kernel⟩, by decide⟩
theorem oi_X1_3 : Cond.methodLink RX1 3 objectInit ∈ je_T := je_in 98 (by decide +kernel) (by decide +kernel)
theorem mi_X5_58 : je_IN RX5 58 yX4_init RX5 cX4_init 1 0 := ⟨by simp [je_N], je_in 132 (by decide +kernel) (by decide +kernel), rfl, it_X4, cd_X4_init, ⟨by decide +kernel, by decide +kernel, by decide +kernel⟩, by decide⟩
theorem oi_X4_3 : Cond.methodLink RX4 3 objectInit ∈ je_T := je_in 134 (by decide +kernel) (by decide +kernel)
theorem mv_L_13 : je_V RL 13 yX5_wagon cX5_wagon 2 (some FieldType.int) 0 := ⟨je_in 181 (by decide +kernel) (by decide +kernel), je_in 182 (by decide +kernel) (by decide +kernel), je_in 183 (by decide +kernel) (by decide +kernel), it_X5, cd_X5_wagon, ⟨by decide +kernel, by decide +kernel, by decide +kernel⟩, by decide⟩
theorem mv_X5_70 : je_V RX5 70 yX5_refuse cX5_refuse 2 (some FieldType.int) 1 := ⟨je_in 185 (by decide +kernel) (by decide +kernel), je_in 187 (by decide +kernel) (by decide +kernel), je_in 0 (by decide +kernel) (by decide +kernel), it_X5, cd_X5_refuse, ⟨by decide +kernel, by decide +kernel, by decide +kernel⟩, by decide⟩
theorem ms_X5_96 : je_S RX5 96 yX5_at cX5_at 2 (some FieldType.int) 2 := ⟨je_in 189 (by decide +kernel) (by decide +kernel), je_in 190 (by decide +kernel) (by decide +kernel), it_X5, cd_X5_at, ⟨by decide +kernel, by decide +kernel, by decide +kernel⟩, by decide⟩
theorem ms_X5_100 : je_S RX5 100 yX5_write cX5_write 3 none 3 := ⟨je_in 192 (by decide +kernel) (by decide +kernel), je_in 193 (by decide +kernel) (by decide +kernel), it_X5, cd_X5_write, ⟨by decide +kernel, by decide +kernel, by decide +kernel⟩, by decide⟩
theorem mi_X5_74 : je_I RX5 74 yX3_init cX3_init 2 1 := ⟨je_in 196 (by decide +kernel) (by decide +kernel), je_in 197 (by decide +kernel) (by decide +kernel), rfl, it_X3, cd_X3_init, ⟨by decide +kernel, by decide +kernel, by decide +kernel⟩, by decide⟩
theorem oi_X3_3 : Cond.methodLink RX3 3 objectInit ∈ je_T := je_in 199 (by decide +kernel) (by decide +kernel)
theorem mv_L_18 : je_V RL 18 yX5_place cX5_place 4 (some FieldType.int) 2 := ⟨je_in 216 (by decide +kernel) (by decide +kernel), je_in 217 (by decide +kernel) (by decide +kernel), je_in 218 (by decide +kernel) (by decide +kernel), it_X5, cd_X5_place, ⟨by decide +kernel, by decide +kernel, by decide +kernel⟩, by decide⟩
theorem mv_X5_77 : je_V RX5 77 yX5_wagonAt cX5_wagonAt 2 (some (FieldType.object "TyreBook$Wagon")) 1 := ⟨je_in 220 (by decide +kernel) (by decide +kernel), je_in 222 (by decide +kernel) (by decide +kernel), je_in 1 (by decide +kernel) (by decide +kernel), it_X5, cd_X5_wagonAt, ⟨by decide +kernel, by decide +kernel, by decide +kernel⟩, by decide⟩
theorem ms_X5_81 : je_S RX5 81 yX5_isKind cX5_isKind 1 (some FieldType.boolean) 1 := ⟨je_in 224 (by decide +kernel) (by decide +kernel), je_in 225 (by decide +kernel) (by decide +kernel), it_X5, cd_X5_isKind, ⟨by decide +kernel, by decide +kernel, by decide +kernel⟩, by decide⟩
theorem mv_X5_85 : je_V RX5 85 yX3_isFull cX3_isFull 1 (some FieldType.boolean) 0 := ⟨je_in 227 (by decide +kernel) (by decide +kernel), je_in 228 (by decide +kernel) (by decide +kernel), je_in 229 (by decide +kernel) (by decide +kernel), it_X3, cd_X3_isFull, ⟨by decide +kernel, by decide +kernel, by decide +kernel⟩, by decide⟩
theorem mv_X5_89 : je_V RX5 89 yX3_addPlace cX3_addPlace 3 (some FieldType.int) 1 := ⟨je_in 231 (by decide +kernel) (by decide +kernel), je_in 232 (by decide +kernel) (by decide +kernel), je_in 233 (by decide +kernel) (by decide +kernel), it_X3, cd_X3_addPlace, ⟨by decide +kernel, by decide +kernel, by decide +kernel⟩, by decide⟩
theorem ms_X3_28 : je_SN RX3 28 yX5_write RX5 cX5_write 3 none 3 := ⟨by simp [je_N], je_in 193 (by decide +kernel) (by decide +kernel), it_X5, cd_X5_write, ⟨by decide +kernel, by decide +kernel, by decide +kernel⟩, by decide⟩
theorem mv_L_23 : je_V RL 23 yX5_least cX5_least 5 (some FieldType.int) 2 := ⟨je_in 236 (by decide +kernel) (by decide +kernel), je_in 237 (by decide +kernel) (by decide +kernel), je_in 238 (by decide +kernel) (by decide +kernel), it_X5, cd_X5_least, ⟨by decide +kernel, by decide +kernel, by decide +kernel⟩, by decide⟩
theorem ms_X5_92 : je_S RX5 92 yX5_outside cX5_outside 3 (some FieldType.int) 3 := ⟨je_in 240 (by decide +kernel) (by decide +kernel), je_in 241 (by decide +kernel) (by decide +kernel), it_X5, cd_X5_outside, ⟨by decide +kernel, by decide +kernel, by decide +kernel⟩, by decide⟩
theorem mv_L_27 : je_V RL 27 yX5_apart cX5_apart 4 (some FieldType.int) 1 := ⟨je_in 243 (by decide +kernel) (by decide +kernel), je_in 244 (by decide +kernel) (by decide +kernel), je_in 245 (by decide +kernel) (by decide +kernel), it_X5, cd_X5_apart, ⟨by decide +kernel, by decide +kernel, by decide +kernel⟩, by decide⟩
theorem mv_L_32 : je_V RL 32 yX5_maker cX5_maker 5 (some FieldType.int) 2 := ⟨je_in 247 (by decide +kernel) (by decide +kernel), je_in 248 (by decide +kernel) (by decide +kernel), je_in 249 (by decide +kernel) (by decide +kernel), it_X5, cd_X5_maker, ⟨by decide +kernel, by decide +kernel, by decide +kernel⟩, by decide⟩
theorem ms_X5_104 : je_S RX5 104 yX5_isMaker cX5_isMaker 1 (some FieldType.boolean) 1 := ⟨je_in 251 (by decide +kernel) (by decide +kernel), je_in 252 (by decide +kernel) (by decide +kernel), it_X5, cd_X5_isMaker, ⟨by decide +kernel, by decide +kernel, by decide +kernel⟩, by decide⟩
theorem mv_X5_107 : je_V RX5 107 yX5_refitTyresOf cX5_refitTyresOf 4 none 1 := ⟨je_in 254 (by decide +kernel) (by decide +kernel), je_in 256 (by decide +kernel) (by decide +kernel), je_in 2 (by decide +kernel) (by decide +kernel), it_X5, cd_X5_refitTyresOf, ⟨by decide +kernel, by decide +kernel, by decide +kernel⟩, by decide⟩
theorem mv_X5_132 : je_V RX5 132 yX5_tyreAt cX5_tyreAt 2 (some (FieldType.object "TyreBook$Tyre")) 1 := ⟨je_in 258 (by decide +kernel) (by decide +kernel), je_in 260 (by decide +kernel) (by decide +kernel), je_in 3 (by decide +kernel) (by decide +kernel), it_X5, cd_X5_tyreAt, ⟨by decide +kernel, by decide +kernel, by decide +kernel⟩, by decide⟩
theorem mv_X5_158 : je_V RX5 158 yX2_fitWear cX2_fitWear 15 none 1 := ⟨je_in 262 (by decide +kernel) (by decide +kernel), je_in 263 (by decide +kernel) (by decide +kernel), je_in 264 (by decide +kernel) (by decide +kernel), it_X2, cd_X2_fitWear, ⟨by decide +kernel, by decide +kernel, by decide +kernel⟩, by decide⟩
theorem ms_X2_61 : je_SN RX2 61 yX5_at RX5 cX5_at 2 (some FieldType.int) 2 := ⟨by simp [je_N], je_in 190 (by decide +kernel) (by decide +kernel), it_X5, cd_X5_at, ⟨by decide +kernel, by decide +kernel, by decide +kernel⟩, by decide⟩
theorem mv_X2_65 : je_V RX2 65 yX4_become cX4_become 7 none 2 := ⟨je_in 267 (by decide +kernel) (by decide +kernel), je_in 268 (by decide +kernel) (by decide +kernel), je_in 269 (by decide +kernel) (by decide +kernel), it_X4, cd_X4_become, ⟨by decide +kernel, by decide +kernel, by decide +kernel⟩, by decide⟩
theorem ms_X4_18 : je_S RX4 18 yX4_commonFactor cX4_commonFactor 11 (some FieldType.long) 2 := ⟨je_in 271 (by decide +kernel) (by decide +kernel), je_in 272 (by decide +kernel) (by decide +kernel), it_X4, cd_X4_commonFactor, ⟨by decide +kernel, by decide +kernel, by decide +kernel⟩, by decide⟩
theorem mv_L_36 : je_V RL 36 yX5_buy cX5_buy 3 (some FieldType.int) 1 := ⟨je_in 275 (by decide +kernel) (by decide +kernel), je_in 276 (by decide +kernel) (by decide +kernel), je_in 277 (by decide +kernel) (by decide +kernel), it_X5, cd_X5_buy, ⟨by decide +kernel, by decide +kernel, by decide +kernel⟩, by decide⟩
theorem mv_X5_113 : je_V RX5 113 yX0_hasRoomFor cX0_hasRoomFor 2 (some FieldType.boolean) 1 := ⟨je_in 279 (by decide +kernel) (by decide +kernel), je_in 280 (by decide +kernel) (by decide +kernel), je_in 281 (by decide +kernel) (by decide +kernel), it_X0, cd_X0_hasRoomFor, ⟨by decide +kernel, by decide +kernel, by decide +kernel⟩, by decide⟩
theorem mi_X5_119 : je_I RX5 119 yX2_init cX2_init 4 3 := ⟨je_in 284 (by decide +kernel) (by decide +kernel), je_in 285 (by decide +kernel) (by decide +kernel), rfl, it_X2, cd_X2_init, ⟨by decide +kernel, by decide +kernel, by decide +kernel⟩, by decide⟩
theorem oi_X2_3 : Cond.methodLink RX2 3 objectInit ∈ je_T := je_in 287 (by decide +kernel) (by decide +kernel)
theorem mi_X2_20 : je_IN RX2 20 yX4_init RX5 cX4_init 1 0 := ⟨by simp [je_N], je_in 132 (by decide +kernel) (by decide +kernel), rfl, it_X4, cd_X4_init, ⟨by decide +kernel, by decide +kernel, by decide +kernel⟩, by decide⟩
theorem mv_X5_122 : je_V RX5 122 yX2_startTread cX2_startTread 2 none 1 := ⟨je_in 341 (by decide +kernel) (by decide +kernel), je_in 342 (by decide +kernel) (by decide +kernel), je_in 343 (by decide +kernel) (by decide +kernel), it_X2, cd_X2_startTread, ⟨by decide +kernel, by decide +kernel, by decide +kernel⟩, by decide⟩
theorem mv_X2_47 : je_V RX2 47 yX2_addReading cX2_addReading 2 none 1 := ⟨je_in 345 (by decide +kernel) (by decide +kernel), je_in 346 (by decide +kernel) (by decide +kernel), je_in 347 (by decide +kernel) (by decide +kernel), it_X2, cd_X2_addReading, ⟨by decide +kernel, by decide +kernel, by decide +kernel⟩, by decide⟩
theorem mv_X2_54 : je_V RX2 54 yX2_dropSecondReading cX2_dropSecondReading 2 none 0 := ⟨je_in 349 (by decide +kernel) (by decide +kernel), je_in 351 (by decide +kernel) (by decide +kernel), je_in 4 (by decide +kernel) (by decide +kernel), it_X2, cd_X2_dropSecondReading, ⟨by decide +kernel, by decide +kernel, by decide +kernel⟩, by decide⟩
theorem ms_X2_57 : je_SN RX2 57 yX5_write RX5 cX5_write 3 none 3 := ⟨by simp [je_N], je_in 193 (by decide +kernel) (by decide +kernel), it_X5, cd_X5_write, ⟨by decide +kernel, by decide +kernel, by decide +kernel⟩, by decide⟩
theorem mv_X2_51 : je_V RX2 51 yX2_fitWear cX2_fitWear 15 none 1 := ⟨je_in 354 (by decide +kernel) (by decide +kernel), je_in 263 (by decide +kernel) (by decide +kernel), je_in 264 (by decide +kernel) (by decide +kernel), it_X2, cd_X2_fitWear, ⟨by decide +kernel, by decide +kernel, by decide +kernel⟩, by decide⟩
theorem mv_X5_128 : je_V RX5 128 yX5_move cX5_move 3 none 2 := ⟨je_in 355 (by decide +kernel) (by decide +kernel), je_in 357 (by decide +kernel) (by decide +kernel), je_in 5 (by decide +kernel) (by decide +kernel), it_X5, cd_X5_move, ⟨by decide +kernel, by decide +kernel, by decide +kernel⟩, by decide⟩
theorem mv_X5_274 : je_V RX5 274 yX0_note cX0_note 4 none 3 := ⟨je_in 359 (by decide +kernel) (by decide +kernel), je_in 360 (by decide +kernel) (by decide +kernel), je_in 361 (by decide +kernel) (by decide +kernel), it_X0, cd_X0_note, ⟨by decide +kernel, by decide +kernel, by decide +kernel⟩, by decide⟩
theorem ms_X0_25 : je_SN RX0 25 yX5_write RX5 cX5_write 3 none 3 := ⟨by simp [je_N], je_in 193 (by decide +kernel) (by decide +kernel), it_X5, cd_X5_write, ⟨by decide +kernel, by decide +kernel, by decide +kernel⟩, by decide⟩
theorem mv_L_40 : je_V RL 40 yX5_put cX5_put 6 (some FieldType.int) 3 := ⟨je_in 364 (by decide +kernel) (by decide +kernel), je_in 365 (by decide +kernel) (by decide +kernel), je_in 366 (by decide +kernel) (by decide +kernel), it_X5, cd_X5_put, ⟨by decide +kernel, by decide +kernel, by decide +kernel⟩, by decide⟩
theorem mv_X5_136 : je_V RX5 136 yX3_hasPlace cX3_hasPlace 2 (some FieldType.boolean) 1 := ⟨je_in 368 (by decide +kernel) (by decide +kernel), je_in 369 (by decide +kernel) (by decide +kernel), je_in 370 (by decide +kernel) (by decide +kernel), it_X3, cd_X3_hasPlace, ⟨by decide +kernel, by decide +kernel, by decide +kernel⟩, by decide⟩
theorem mv_X5_142 : je_V RX5 142 yX3_tyreOn cX3_tyreOn 2 (some (FieldType.object "TyreBook$Tyre")) 1 := ⟨je_in 372 (by decide +kernel) (by decide +kernel), je_in 373 (by decide +kernel) (by decide +kernel), je_in 374 (by decide +kernel) (by decide +kernel), it_X3, cd_X3_tyreOn, ⟨by decide +kernel, by decide +kernel, by decide +kernel⟩, by decide⟩
theorem mv_X3_32 : je_V RX3 32 yX3_hasPlace cX3_hasPlace 2 (some FieldType.boolean) 1 := ⟨je_in 376 (by decide +kernel) (by decide +kernel), je_in 369 (by decide +kernel) (by decide +kernel), je_in 370 (by decide +kernel) (by decide +kernel), it_X3, cd_X3_hasPlace, ⟨by decide +kernel, by decide +kernel, by decide +kernel⟩, by decide⟩
theorem mv_X5_145 : je_V RX5 145 yX3_lay cX3_lay 3 none 2 := ⟨je_in 377 (by decide +kernel) (by decide +kernel), je_in 378 (by decide +kernel) (by decide +kernel), je_in 379 (by decide +kernel) (by decide +kernel), it_X3, cd_X3_lay, ⟨by decide +kernel, by decide +kernel, by decide +kernel⟩, by decide⟩
theorem mv_X5_149 : je_V RX5 149 yX3_spot cX3_spot 2 (some FieldType.int) 1 := ⟨je_in 381 (by decide +kernel) (by decide +kernel), je_in 382 (by decide +kernel) (by decide +kernel), je_in 383 (by decide +kernel) (by decide +kernel), it_X3, cd_X3_spot, ⟨by decide +kernel, by decide +kernel, by decide +kernel⟩, by decide⟩
theorem mv_L_45 : je_V RL 45 yX5_take cX5_take 5 (some FieldType.int) 2 := ⟨je_in 385 (by decide +kernel) (by decide +kernel), je_in 386 (by decide +kernel) (by decide +kernel), je_in 387 (by decide +kernel) (by decide +kernel), it_X5, cd_X5_take, ⟨by decide +kernel, by decide +kernel, by decide +kernel⟩, by decide⟩
theorem mv_L_49 : je_V RL 49 yX5_swap cX5_swap 9 (some FieldType.int) 4 := ⟨je_in 389 (by decide +kernel) (by decide +kernel), je_in 390 (by decide +kernel) (by decide +kernel), je_in 391 (by decide +kernel) (by decide +kernel), it_X5, cd_X5_swap, ⟨by decide +kernel, by decide +kernel, by decide +kernel⟩, by decide⟩
theorem mv_L_54 : je_V RL 54 yX5_read cX5_read 5 (some FieldType.int) 2 := ⟨je_in 393 (by decide +kernel) (by decide +kernel), je_in 394 (by decide +kernel) (by decide +kernel), je_in 395 (by decide +kernel) (by decide +kernel), it_X5, cd_X5_read, ⟨by decide +kernel, by decide +kernel, by decide +kernel⟩, by decide⟩
theorem mv_X5_152 : je_V RX5 152 yX2_addReading cX2_addReading 2 none 1 := ⟨je_in 397 (by decide +kernel) (by decide +kernel), je_in 346 (by decide +kernel) (by decide +kernel), je_in 347 (by decide +kernel) (by decide +kernel), it_X2, cd_X2_addReading, ⟨by decide +kernel, by decide +kernel, by decide +kernel⟩, by decide⟩
theorem mv_L_58 : je_V RL 58 yX5_go cX5_go 5 (some FieldType.int) 3 := ⟨je_in 398 (by decide +kernel) (by decide +kernel), je_in 399 (by decide +kernel) (by decide +kernel), je_in 400 (by decide +kernel) (by decide +kernel), it_X5, cd_X5_go, ⟨by decide +kernel, by decide +kernel, by decide +kernel⟩, by decide⟩
theorem mv_X5_164 : je_V RX5 164 yX3_whyUnfit cX3_whyUnfit 5 (some FieldType.int) 2 := ⟨je_in 402 (by decide +kernel) (by decide +kernel), je_in 403 (by decide +kernel) (by decide +kernel), je_in 404 (by decide +kernel) (by decide +kernel), it_X3, cd_X3_whyUnfit, ⟨by decide +kernel, by decide +kernel, by decide +kernel⟩, by decide⟩
theorem mv_X3_44 : je_V RX3 44 yX3_flawOn cX3_flawOn 8 (some FieldType.int) 3 := ⟨je_in 406 (by decide +kernel) (by decide +kernel), je_in 408 (by decide +kernel) (by decide +kernel), je_in 6 (by decide +kernel) (by decide +kernel), it_X3, cd_X3_flawOn, ⟨by decide +kernel, by decide +kernel, by decide +kernel⟩, by decide⟩
theorem mv_X3_40 : je_V RX3 40 yX3_kindOf cX3_kindOf 2 (some FieldType.int) 1 := ⟨je_in 410 (by decide +kernel) (by decide +kernel), je_in 411 (by decide +kernel) (by decide +kernel), je_in 412 (by decide +kernel) (by decide +kernel), it_X3, cd_X3_kindOf, ⟨by decide +kernel, by decide +kernel, by decide +kernel⟩, by decide⟩
theorem ms_X3_36 : je_SN RX3 36 yX5_at RX5 cX5_at 2 (some FieldType.int) 2 := ⟨by simp [je_N], je_in 190 (by decide +kernel) (by decide +kernel), it_X5, cd_X5_at, ⟨by decide +kernel, by decide +kernel, by decide +kernel⟩, by decide⟩
theorem mv_X3_48 : je_V RX3 48 yX3_tyreOn cX3_tyreOn 2 (some (FieldType.object "TyreBook$Tyre")) 1 := ⟨je_in 415 (by decide +kernel) (by decide +kernel), je_in 373 (by decide +kernel) (by decide +kernel), je_in 374 (by decide +kernel) (by decide +kernel), it_X3, cd_X3_tyreOn, ⟨by decide +kernel, by decide +kernel, by decide +kernel⟩, by decide⟩
theorem mv_X3_55 : je_V RX3 55 yX2_depthAfter cX2_depthAfter 2 (some FieldType.int) 1 := ⟨je_in 416 (by decide +kernel) (by decide +kernel), je_in 417 (by decide +kernel) (by decide +kernel), je_in 418 (by decide +kernel) (by decide +kernel), it_X2, cd_X2_depthAfter, ⟨by decide +kernel, by decide +kernel, by decide +kernel⟩, by decide⟩
theorem mv_X2_71 : je_V RX2 71 yX2_sinceRead cX2_sinceRead 1 (some FieldType.int) 0 := ⟨je_in 420 (by decide +kernel) (by decide +kernel), je_in 422 (by decide +kernel) (by decide +kernel), je_in 7 (by decide +kernel) (by decide +kernel), it_X2, cd_X2_sinceRead, ⟨by decide +kernel, by decide +kernel, by decide +kernel⟩, by decide⟩
theorem mv_X2_75 : je_V RX2 75 yX4_depthFrom cX4_depthFrom 5 (some FieldType.int) 2 := ⟨je_in 424 (by decide +kernel) (by decide +kernel), je_in 425 (by decide +kernel) (by decide +kernel), je_in 426 (by decide +kernel) (by decide +kernel), it_X4, cd_X4_depthFrom, ⟨by decide +kernel, by decide +kernel, by decide +kernel⟩, by decide⟩
theorem mv_X3_58 : je_V RX3 58 yX3_pairOf cX3_pairOf 4 (some FieldType.int) 1 := ⟨je_in 428 (by decide +kernel) (by decide +kernel), je_in 429 (by decide +kernel) (by decide +kernel), je_in 430 (by decide +kernel) (by decide +kernel), it_X3, cd_X3_pairOf, ⟨by decide +kernel, by decide +kernel, by decide +kernel⟩, by decide⟩
theorem ms_X3_61 : je_S RX3 61 yJ9_abs_0f7a4 cJ9_abs_0f7a4 1 (some FieldType.int) 1 := ⟨je_in 432 (by decide +kernel) (by decide +kernel), je_in 433 (by decide +kernel) (by decide +kernel), it_J9, cd_J9_abs_0f7a4, ⟨by decide +kernel, by decide +kernel, by decide +kernel⟩, by decide⟩
theorem mv_X5_167 : je_V RX5 167 yX3_mostLengths cX3_mostLengths 5 (some FieldType.int) 1 := ⟨je_in 435 (by decide +kernel) (by decide +kernel), je_in 436 (by decide +kernel) (by decide +kernel), je_in 437 (by decide +kernel) (by decide +kernel), it_X3, cd_X3_mostLengths, ⟨by decide +kernel, by decide +kernel, by decide +kernel⟩, by decide⟩
theorem mv_X3_74 : je_V RX3 74 yX3_rollingOn cX3_rollingOn 4 (some (FieldType.object "TyreBook$Tyre")) 2 := ⟨je_in 439 (by decide +kernel) (by decide +kernel), je_in 441 (by decide +kernel) (by decide +kernel), je_in 8 (by decide +kernel) (by decide +kernel), it_X3, cd_X3_rollingOn, ⟨by decide +kernel, by decide +kernel, by decide +kernel⟩, by decide⟩
theorem ms_X3_81 : je_S RX3 81 yJ9_max_7cf53 cJ9_max_7cf53 2 (some FieldType.int) 2 := ⟨je_in 443 (by decide +kernel) (by decide +kernel), je_in 444 (by decide +kernel) (by decide +kernel), it_J9, cd_J9_max_7cf53, ⟨by decide +kernel, by decide +kernel, by decide +kernel⟩, by decide⟩
theorem mv_X5_172 : je_V RX5 172 yX3_roll cX3_roll 5 none 2 := ⟨je_in 447 (by decide +kernel) (by decide +kernel), je_in 448 (by decide +kernel) (by decide +kernel), je_in 449 (by decide +kernel) (by decide +kernel), it_X3, cd_X3_roll, ⟨by decide +kernel, by decide +kernel, by decide +kernel⟩, by decide⟩
theorem mv_X5_176 : je_V RX5 176 yX3_reach cX3_reach 5 (some FieldType.int) 1 := ⟨je_in 451 (by decide +kernel) (by decide +kernel), je_in 452 (by decide +kernel) (by decide +kernel), je_in 453 (by decide +kernel) (by decide +kernel), it_X3, cd_X3_reach, ⟨by decide +kernel, by decide +kernel, by decide +kernel⟩, by decide⟩
theorem mv_X3_67 : je_V RX3 67 yX2_endFor cX2_endFor 2 (some FieldType.int) 1 := ⟨je_in 456 (by decide +kernel) (by decide +kernel), je_in 457 (by decide +kernel) (by decide +kernel), je_in 458 (by decide +kernel) (by decide +kernel), it_X2, cd_X2_endFor, ⟨by decide +kernel, by decide +kernel, by decide +kernel⟩, by decide⟩
theorem mv_X2_79 : je_V RX2 79 yX4_endFrom cX4_endFrom 6 (some FieldType.int) 3 := ⟨je_in 460 (by decide +kernel) (by decide +kernel), je_in 461 (by decide +kernel) (by decide +kernel), je_in 462 (by decide +kernel) (by decide +kernel), it_X4, cd_X4_endFrom, ⟨by decide +kernel, by decide +kernel, by decide +kernel⟩, by decide⟩
theorem ms_X4_25 : je_S RX4 25 yJ9_min_f86c9 cJ9_min_f86c9 4 (some FieldType.long) 2 := ⟨je_in 466 (by decide +kernel) (by decide +kernel), je_in 467 (by decide +kernel) (by decide +kernel), it_J9, cd_J9_min_f86c9, ⟨by decide +kernel, by decide +kernel, by decide +kernel⟩, by decide⟩
theorem ms_X4_30 : je_S RX4 30 yJ9_max_f86c9 cJ9_max_f86c9 4 (some FieldType.long) 2 := ⟨je_in 469 (by decide +kernel) (by decide +kernel), je_in 470 (by decide +kernel) (by decide +kernel), it_J9, cd_J9_max_f86c9, ⟨by decide +kernel, by decide +kernel, by decide +kernel⟩, by decide⟩
theorem ms_X3_70 : je_S RX3 70 yJ9_min_7cf53 cJ9_min_7cf53 2 (some FieldType.int) 2 := ⟨je_in 472 (by decide +kernel) (by decide +kernel), je_in 473 (by decide +kernel) (by decide +kernel), it_J9, cd_J9_min_7cf53, ⟨by decide +kernel, by decide +kernel, by decide +kernel⟩, by decide⟩
theorem mv_L_63 : je_V RL 63 yX5_why cX5_why 3 (some FieldType.int) 1 := ⟨je_in 475 (by decide +kernel) (by decide +kernel), je_in 476 (by decide +kernel) (by decide +kernel), je_in 477 (by decide +kernel) (by decide +kernel), it_X5, cd_X5_why, ⟨by decide +kernel, by decide +kernel, by decide +kernel⟩, by decide⟩
theorem mv_L_67 : je_V RL 67 yX5_far cX5_far 3 (some FieldType.int) 1 := ⟨je_in 479 (by decide +kernel) (by decide +kernel), je_in 480 (by decide +kernel) (by decide +kernel), je_in 481 (by decide +kernel) (by decide +kernel), it_X5, cd_X5_far, ⟨by decide +kernel, by decide +kernel, by decide +kernel⟩, by decide⟩
theorem mv_L_71 : je_V RL 71 yX5_best cX5_best 3 (some FieldType.int) 1 := ⟨je_in 483 (by decide +kernel) (by decide +kernel), je_in 484 (by decide +kernel) (by decide +kernel), je_in 485 (by decide +kernel) (by decide +kernel), it_X5, cd_X5_best, ⟨by decide +kernel, by decide +kernel, by decide +kernel⟩, by decide⟩
theorem mv_X5_180 : je_V RX5 180 yX1_findReach cX1_findReach 4 (some FieldType.boolean) 2 := ⟨je_in 487 (by decide +kernel) (by decide +kernel), je_in 488 (by decide +kernel) (by decide +kernel), je_in 489 (by decide +kernel) (by decide +kernel), it_X1, cd_X1_findReach, ⟨by decide +kernel, by decide +kernel, by decide +kernel⟩, by decide⟩
theorem ms_X1_39 : je_S RX1 39 yJ9_min_7cf53 cJ9_min_7cf53 2 (some FieldType.int) 2 := ⟨je_in 491 (by decide +kernel) (by decide +kernel), je_in 473 (by decide +kernel) (by decide +kernel), it_J9, cd_J9_min_7cf53, ⟨by decide +kernel, by decide +kernel, by decide +kernel⟩, by decide⟩
theorem mv_X1_46 : je_V RX1 46 yX1_gather cX1_gather 4 none 1 := ⟨je_in 492 (by decide +kernel) (by decide +kernel), je_in 494 (by decide +kernel) (by decide +kernel), je_in 9 (by decide +kernel) (by decide +kernel), it_X1, cd_X1_gather, ⟨by decide +kernel, by decide +kernel, by decide +kernel⟩, by decide⟩
theorem mv_X1_84 : je_V RX1 84 yX3_tyreOn cX3_tyreOn 2 (some (FieldType.object "TyreBook$Tyre")) 1 := ⟨je_in 496 (by decide +kernel) (by decide +kernel), je_in 373 (by decide +kernel) (by decide +kernel), je_in 374 (by decide +kernel) (by decide +kernel), it_X3, cd_X3_tyreOn, ⟨by decide +kernel, by decide +kernel, by decide +kernel⟩, by decide⟩
theorem mv_X1_87 : je_V RX1 87 yX1_insert cX1_insert 4 none 1 := ⟨je_in 497 (by decide +kernel) (by decide +kernel), je_in 499 (by decide +kernel) (by decide +kernel), je_in 10 (by decide +kernel) (by decide +kernel), it_X1, cd_X1_insert, ⟨by decide +kernel, by decide +kernel, by decide +kernel⟩, by decide⟩
theorem mv_X1_53 : je_V RX1 53 yX1_weigh cX1_weigh 8 none 3 := ⟨je_in 501 (by decide +kernel) (by decide +kernel), je_in 503 (by decide +kernel) (by decide +kernel), je_in 11 (by decide +kernel) (by decide +kernel), it_X1, cd_X1_weigh, ⟨by decide +kernel, by decide +kernel, by decide +kernel⟩, by decide⟩
theorem mv_X1_94 : je_V RX1 94 yX3_kindOf cX3_kindOf 2 (some FieldType.int) 1 := ⟨je_in 505 (by decide +kernel) (by decide +kernel), je_in 411 (by decide +kernel) (by decide +kernel), je_in 412 (by decide +kernel) (by decide +kernel), it_X3, cd_X3_kindOf, ⟨by decide +kernel, by decide +kernel, by decide +kernel⟩, by decide⟩
theorem ms_X1_76 : je_SN RX1 76 yX5_write RX5 cX5_write 3 none 3 := ⟨by simp [je_N], je_in 193 (by decide +kernel) (by decide +kernel), it_X5, cd_X5_write, ⟨by decide +kernel, by decide +kernel, by decide +kernel⟩, by decide⟩
theorem mv_X1_80 : je_V RX1 80 yX1_turnedAt cX1_turnedAt 2 (some (FieldType.object "TyreBook$Tyre")) 1 := ⟨je_in 507 (by decide +kernel) (by decide +kernel), je_in 509 (by decide +kernel) (by decide +kernel), je_in 12 (by decide +kernel) (by decide +kernel), it_X1, cd_X1_turnedAt, ⟨by decide +kernel, by decide +kernel, by decide +kernel⟩, by decide⟩
theorem ms_X1_98 : je_S RX1 98 yX1_reachOf cX1_reachOf 3 (some FieldType.int) 3 := ⟨je_in 511 (by decide +kernel) (by decide +kernel), je_in 512 (by decide +kernel) (by decide +kernel), it_X1, cd_X1_reachOf, ⟨by decide +kernel, by decide +kernel, by decide +kernel⟩, by decide⟩
theorem ms_X1_63 : je_SN RX1 63 yX5_at RX5 cX5_at 2 (some FieldType.int) 2 := ⟨by simp [je_N], je_in 190 (by decide +kernel) (by decide +kernel), it_X5, cd_X5_at, ⟨by decide +kernel, by decide +kernel, by decide +kernel⟩, by decide⟩
theorem mv_X1_106 : je_V RX1 106 yX2_endFor cX2_endFor 2 (some FieldType.int) 1 := ⟨je_in 516 (by decide +kernel) (by decide +kernel), je_in 457 (by decide +kernel) (by decide +kernel), je_in 458 (by decide +kernel) (by decide +kernel), it_X2, cd_X2_endFor, ⟨by decide +kernel, by decide +kernel, by decide +kernel⟩, by decide⟩
theorem mv_X1_57 : je_V RX1 57 yX1_fillReaches cX1_fillReaches 4 none 0 := ⟨je_in 517 (by decide +kernel) (by decide +kernel), je_in 519 (by decide +kernel) (by decide +kernel), je_in 13 (by decide +kernel) (by decide +kernel), it_X1, cd_X1_fillReaches, ⟨by decide +kernel, by decide +kernel, by decide +kernel⟩, by decide⟩
theorem mv_X1_109 : je_V RX1 109 yX1_allUsed cX1_allUsed 1 (some FieldType.int) 0 := ⟨je_in 521 (by decide +kernel) (by decide +kernel), je_in 523 (by decide +kernel) (by decide +kernel), je_in 14 (by decide +kernel) (by decide +kernel), it_X1, cd_X1_allUsed, ⟨by decide +kernel, by decide +kernel, by decide +kernel⟩, by decide⟩
theorem ms_X1_60 : je_S RX1 60 yX1_slot cX1_slot 2 (some FieldType.int) 2 := ⟨je_in 525 (by decide +kernel) (by decide +kernel), je_in 526 (by decide +kernel) (by decide +kernel), it_X1, cd_X1_slot, ⟨by decide +kernel, by decide +kernel, by decide +kernel⟩, by decide⟩
theorem mv_X1_113 : je_V RX1 113 yX1_reachFrom cX1_reachFrom 6 (some FieldType.int) 2 := ⟨je_in 528 (by decide +kernel) (by decide +kernel), je_in 530 (by decide +kernel) (by decide +kernel), je_in 15 (by decide +kernel) (by decide +kernel), it_X1, cd_X1_reachFrom, ⟨by decide +kernel, by decide +kernel, by decide +kernel⟩, by decide⟩
theorem ms_X1_116 : je_S RX1 116 yX1_isUsed cX1_isUsed 2 (some FieldType.boolean) 2 := ⟨je_in 532 (by decide +kernel) (by decide +kernel), je_in 533 (by decide +kernel) (by decide +kernel), it_X1, cd_X1_isUsed, ⟨by decide +kernel, by decide +kernel, by decide +kernel⟩, by decide⟩
theorem ms_X1_120 : je_S RX1 120 yJ9_max_7cf53 cJ9_max_7cf53 2 (some FieldType.int) 2 := ⟨je_in 535 (by decide +kernel) (by decide +kernel), je_in 444 (by decide +kernel) (by decide +kernel), it_J9, cd_J9_max_7cf53, ⟨by decide +kernel, by decide +kernel, by decide +kernel⟩, by decide⟩
theorem mv_L_75 : je_V RL 75 yX5_turn cX5_turn 4 (some FieldType.int) 1 := ⟨je_in 536 (by decide +kernel) (by decide +kernel), je_in 537 (by decide +kernel) (by decide +kernel), je_in 538 (by decide +kernel) (by decide +kernel), it_X5, cd_X5_turn, ⟨by decide +kernel, by decide +kernel, by decide +kernel⟩, by decide⟩
theorem mv_X5_186 : je_V RX5 186 yX1_findWay cX1_findWay 4 (some FieldType.int) 0 := ⟨je_in 540 (by decide +kernel) (by decide +kernel), je_in 541 (by decide +kernel) (by decide +kernel), je_in 542 (by decide +kernel) (by decide +kernel), it_X1, cd_X1_findWay, ⟨by decide +kernel, by decide +kernel, by decide +kernel⟩, by decide⟩
theorem mv_X1_70 : je_V RX1 70 yX1_fillChanges cX1_fillChanges 4 none 0 := ⟨je_in 544 (by decide +kernel) (by decide +kernel), je_in 546 (by decide +kernel) (by decide +kernel), je_in 16 (by decide +kernel) (by decide +kernel), it_X1, cd_X1_fillChanges, ⟨by decide +kernel, by decide +kernel, by decide +kernel⟩, by decide⟩
theorem mv_X1_123 : je_V RX1 123 yX1_fewestFrom cX1_fewestFrom 5 (some FieldType.int) 2 := ⟨je_in 548 (by decide +kernel) (by decide +kernel), je_in 550 (by decide +kernel) (by decide +kernel), je_in 17 (by decide +kernel) (by decide +kernel), it_X1, cd_X1_fewestFrom, ⟨by decide +kernel, by decide +kernel, by decide +kernel⟩, by decide⟩
theorem mv_X1_126 : je_V RX1 126 yX1_changesWith cX1_changesWith 5 (some FieldType.int) 3 := ⟨je_in 552 (by decide +kernel) (by decide +kernel), je_in 554 (by decide +kernel) (by decide +kernel), je_in 18 (by decide +kernel) (by decide +kernel), it_X1, cd_X1_changesWith, ⟨by decide +kernel, by decide +kernel, by decide +kernel⟩, by decide⟩
theorem mv_X1_73 : je_V RX1 73 yX1_choose cX1_choose 5 (some FieldType.int) 2 := ⟨je_in 556 (by decide +kernel) (by decide +kernel), je_in 558 (by decide +kernel) (by decide +kernel), je_in 19 (by decide +kernel) (by decide +kernel), it_X1, cd_X1_choose, ⟨by decide +kernel, by decide +kernel, by decide +kernel⟩, by decide⟩
theorem mv_X5_190 : je_V RX5 190 yX5_layAsChosen cX5_layAsChosen 4 none 1 := ⟨je_in 560 (by decide +kernel) (by decide +kernel), je_in 562 (by decide +kernel) (by decide +kernel), je_in 20 (by decide +kernel) (by decide +kernel), it_X5, cd_X5_layAsChosen, ⟨by decide +kernel, by decide +kernel, by decide +kernel⟩, by decide⟩
theorem mv_X5_277 : je_V RX5 277 yX1_chosenFor cX1_chosenFor 2 (some (FieldType.object "TyreBook$Tyre")) 1 := ⟨je_in 564 (by decide +kernel) (by decide +kernel), je_in 565 (by decide +kernel) (by decide +kernel), je_in 566 (by decide +kernel) (by decide +kernel), it_X1, cd_X1_chosenFor, ⟨by decide +kernel, by decide +kernel, by decide +kernel⟩, by decide⟩
theorem mv_L_79 : je_V RL 79 yX5_wear cX5_wear 4 (some FieldType.long) 2 := ⟨je_in 568 (by decide +kernel) (by decide +kernel), je_in 569 (by decide +kernel) (by decide +kernel), je_in 570 (by decide +kernel) (by decide +kernel), it_X5, cd_X5_wear, ⟨by decide +kernel, by decide +kernel, by decide +kernel⟩, by decide⟩
theorem mv_L_84 : je_V RL 84 yX5_depth cX5_depth 5 (some FieldType.int) 2 := ⟨je_in 572 (by decide +kernel) (by decide +kernel), je_in 573 (by decide +kernel) (by decide +kernel), je_in 574 (by decide +kernel) (by decide +kernel), it_X5, cd_X5_depth, ⟨by decide +kernel, by decide +kernel, by decide +kernel⟩, by decide⟩
theorem mv_X5_204 : je_V RX5 204 yX2_depthAfter cX2_depthAfter 2 (some FieldType.int) 1 := ⟨je_in 576 (by decide +kernel) (by decide +kernel), je_in 417 (by decide +kernel) (by decide +kernel), je_in 418 (by decide +kernel) (by decide +kernel), it_X2, cd_X2_depthAfter, ⟨by decide +kernel, by decide +kernel, by decide +kernel⟩, by decide⟩
theorem mv_L_88 : je_V RL 88 yX5_end cX5_end 5 (some FieldType.int) 2 := ⟨je_in 577 (by decide +kernel) (by decide +kernel), je_in 578 (by decide +kernel) (by decide +kernel), je_in 579 (by decide +kernel) (by decide +kernel), it_X5, cd_X5_end, ⟨by decide +kernel, by decide +kernel, by decide +kernel⟩, by decide⟩
theorem mv_X5_207 : je_V RX5 207 yX2_endFor cX2_endFor 2 (some FieldType.int) 1 := ⟨je_in 581 (by decide +kernel) (by decide +kernel), je_in 457 (by decide +kernel) (by decide +kernel), je_in 458 (by decide +kernel) (by decide +kernel), it_X2, cd_X2_endFor, ⟨by decide +kernel, by decide +kernel, by decide +kernel⟩, by decide⟩
theorem mv_L_92 : je_V RL 92 yX5_send cX5_send 3 (some FieldType.int) 1 := ⟨je_in 582 (by decide +kernel) (by decide +kernel), je_in 583 (by decide +kernel) (by decide +kernel), je_in 584 (by decide +kernel) (by decide +kernel), it_X5, cd_X5_send, ⟨by decide +kernel, by decide +kernel, by decide +kernel⟩, by decide⟩
theorem mv_L_96 : je_V RL 96 yX5_mend cX5_mend 3 (some FieldType.int) 1 := ⟨je_in 586 (by decide +kernel) (by decide +kernel), je_in 587 (by decide +kernel) (by decide +kernel), je_in 588 (by decide +kernel) (by decide +kernel), it_X5, cd_X5_mend, ⟨by decide +kernel, by decide +kernel, by decide +kernel⟩, by decide⟩
theorem mv_L_100 : je_V RL 100 yX5_cast cX5_cast 3 (some FieldType.int) 1 := ⟨je_in 590 (by decide +kernel) (by decide +kernel), je_in 591 (by decide +kernel) (by decide +kernel), je_in 592 (by decide +kernel) (by decide +kernel), it_X5, cd_X5_cast, ⟨by decide +kernel, by decide +kernel, by decide +kernel⟩, by decide⟩
theorem mv_L_104 : je_V RL 104 yX5_days cX5_days 6 (some FieldType.int) 1 := ⟨je_in 594 (by decide +kernel) (by decide +kernel), je_in 595 (by decide +kernel) (by decide +kernel), je_in 596 (by decide +kernel) (by decide +kernel), it_X5, cd_X5_days, ⟨by decide +kernel, by decide +kernel, by decide +kernel⟩, by decide⟩
theorem mv_X5_219 : je_V RX5 219 yX5_nextBack cX5_nextBack 5 (some (FieldType.object "TyreBook$Tyre")) 1 := ⟨je_in 598 (by decide +kernel) (by decide +kernel), je_in 600 (by decide +kernel) (by decide +kernel), je_in 21 (by decide +kernel) (by decide +kernel), it_X5, cd_X5_nextBack, ⟨by decide +kernel, by decide +kernel, by decide +kernel⟩, by decide⟩
theorem mv_X5_222 : je_V RX5 222 yX5_bringBack cX5_bringBack 2 none 1 := ⟨je_in 602 (by decide +kernel) (by decide +kernel), je_in 604 (by decide +kernel) (by decide +kernel), je_in 22 (by decide +kernel) (by decide +kernel), it_X5, cd_X5_bringBack, ⟨by decide +kernel, by decide +kernel, by decide +kernel⟩, by decide⟩
theorem mv_L_108 : je_V RL 108 yX5_few cX5_few 8 (some FieldType.int) 3 := ⟨je_in 606 (by decide +kernel) (by decide +kernel), je_in 607 (by decide +kernel) (by decide +kernel), je_in 608 (by decide +kernel) (by decide +kernel), it_X5, cd_X5_few, ⟨by decide +kernel, by decide +kernel, by decide +kernel⟩, by decide⟩
theorem mv_X5_228 : je_V RX5 228 yX4_become cX4_become 7 none 2 := ⟨je_in 611 (by decide +kernel) (by decide +kernel), je_in 268 (by decide +kernel) (by decide +kernel), je_in 269 (by decide +kernel) (by decide +kernel), it_X4, cd_X4_become, ⟨by decide +kernel, by decide +kernel, by decide +kernel⟩, by decide⟩
theorem mv_X5_235 : je_V RX5 235 yX5_neededOn cX5_neededOn 8 (some FieldType.int) 3 := ⟨je_in 612 (by decide +kernel) (by decide +kernel), je_in 614 (by decide +kernel) (by decide +kernel), je_in 23 (by decide +kernel) (by decide +kernel), it_X5, cd_X5_neededOn, ⟨by decide +kernel, by decide +kernel, by decide +kernel⟩, by decide⟩
theorem mv_X5_258 : je_V RX5 258 yX3_kindOf cX3_kindOf 2 (some FieldType.int) 1 := ⟨je_in 616 (by decide +kernel) (by decide +kernel), je_in 411 (by decide +kernel) (by decide +kernel), je_in 412 (by decide +kernel) (by decide +kernel), it_X3, cd_X3_kindOf, ⟨by decide +kernel, by decide +kernel, by decide +kernel⟩, by decide⟩
theorem mv_X5_280 : je_V RX5 280 yX4_endFrom cX4_endFrom 6 (some FieldType.int) 3 := ⟨je_in 617 (by decide +kernel) (by decide +kernel), je_in 461 (by decide +kernel) (by decide +kernel), je_in 462 (by decide +kernel) (by decide +kernel), it_X4, cd_X4_endFrom, ⟨by decide +kernel, by decide +kernel, by decide +kernel⟩, by decide⟩
theorem ms_X5_283 : je_S RX5 283 yX5_tyresFor cX5_tyresFor 2 (some FieldType.int) 2 := ⟨je_in 618 (by decide +kernel) (by decide +kernel), je_in 619 (by decide +kernel) (by decide +kernel), it_X5, cd_X5_tyresFor, ⟨by decide +kernel, by decide +kernel, by decide +kernel⟩, by decide⟩
theorem ms_X5_286 : je_S RX5 286 yJ9_max_7cf53 cJ9_max_7cf53 2 (some FieldType.int) 2 := ⟨je_in 621 (by decide +kernel) (by decide +kernel), je_in 444 (by decide +kernel) (by decide +kernel), it_J9, cd_J9_max_7cf53, ⟨by decide +kernel, by decide +kernel, by decide +kernel⟩, by decide⟩
theorem mv_L_112 : je_V RL 112 yX5_asOf cX5_asOf 5 (some FieldType.int) 2 := ⟨je_in 622 (by decide +kernel) (by decide +kernel), je_in 623 (by decide +kernel) (by decide +kernel), je_in 624 (by decide +kernel) (by decide +kernel), it_X5, cd_X5_asOf, ⟨by decide +kernel, by decide +kernel, by decide +kernel⟩, by decide⟩
theorem mv_X5_239 : je_V RX5 239 yX0_whereWas cX0_whereWas 4 (some FieldType.int) 2 := ⟨je_in 626 (by decide +kernel) (by decide +kernel), je_in 627 (by decide +kernel) (by decide +kernel), je_in 628 (by decide +kernel) (by decide +kernel), it_X0, cd_X0_whereWas, ⟨by decide +kernel, by decide +kernel, by decide +kernel⟩, by decide⟩
theorem ms_X0_29 : je_SN RX0 29 yX5_at RX5 cX5_at 2 (some FieldType.int) 2 := ⟨by simp [je_N], je_in 190 (by decide +kernel) (by decide +kernel), it_X5, cd_X5_at, ⟨by decide +kernel, by decide +kernel, by decide +kernel⟩, by decide⟩
theorem mv_L_116 : je_V RL 116 yX5_tyreOf cX5_tyreOf 4 (some FieldType.int) 2 := ⟨je_in 631 (by decide +kernel) (by decide +kernel), je_in 632 (by decide +kernel) (by decide +kernel), je_in 633 (by decide +kernel) (by decide +kernel), it_X5, cd_X5_tyreOf, ⟨by decide +kernel, by decide +kernel, by decide +kernel⟩, by decide⟩
theorem mv_L_120 : je_V RL 120 yX5_reading cX5_reading 5 (some FieldType.int) 3 := ⟨je_in 635 (by decide +kernel) (by decide +kernel), je_in 636 (by decide +kernel) (by decide +kernel), je_in 637 (by decide +kernel) (by decide +kernel), it_X5, cd_X5_reading, ⟨by decide +kernel, by decide +kernel, by decide +kernel⟩, by decide⟩
theorem mv_X5_249 : je_V RX5 249 yX2_hasReading cX2_hasReading 2 (some FieldType.boolean) 1 := ⟨je_in 639 (by decide +kernel) (by decide +kernel), je_in 640 (by decide +kernel) (by decide +kernel), je_in 641 (by decide +kernel) (by decide +kernel), it_X2, cd_X2_hasReading, ⟨by decide +kernel, by decide +kernel, by decide +kernel⟩, by decide⟩
theorem mv_L_124 : je_V RL 124 yX5_placeOf cX5_placeOf 5 (some FieldType.int) 3 := ⟨je_in 643 (by decide +kernel) (by decide +kernel), je_in 644 (by decide +kernel) (by decide +kernel), je_in 645 (by decide +kernel) (by decide +kernel), it_X5, cd_X5_placeOf, ⟨by decide +kernel, by decide +kernel, by decide +kernel⟩, by decide⟩
theorem ms_X5_261 : je_S RX5 261 yX5_numberOf cX5_numberOf 1 (some FieldType.int) 1 := ⟨je_in 647 (by decide +kernel) (by decide +kernel), je_in 648 (by decide +kernel) (by decide +kernel), it_X5, cd_X5_numberOf, ⟨by decide +kernel, by decide +kernel, by decide +kernel⟩, by decide⟩
theorem mv_X5_265 : je_V RX5 265 yX3_pairOf cX3_pairOf 4 (some FieldType.int) 1 := ⟨je_in 650 (by decide +kernel) (by decide +kernel), je_in 429 (by decide +kernel) (by decide +kernel), je_in 430 (by decide +kernel) (by decide +kernel), it_X3, cd_X3_pairOf, ⟨by decide +kernel, by decide +kernel, by decide +kernel⟩, by decide⟩
theorem mv_L_128 : je_V RL 128 yX5_count cX5_count 2 (some FieldType.int) 1 := ⟨je_in 651 (by decide +kernel) (by decide +kernel), je_in 652 (by decide +kernel) (by decide +kernel), je_in 653 (by decide +kernel) (by decide +kernel), it_X5, cd_X5_count, ⟨by decide +kernel, by decide +kernel, by decide +kernel⟩, by decide⟩
theorem mv_X5_268 : je_V RX5 268 yX5_tyresAt cX5_tyresAt 5 (some FieldType.int) 1 := ⟨je_in 655 (by decide +kernel) (by decide +kernel), je_in 657 (by decide +kernel) (by decide +kernel), je_in 24 (by decide +kernel) (by decide +kernel), it_X5, cd_X5_tyresAt, ⟨by decide +kernel, by decide +kernel, by decide +kernel⟩, by decide⟩
theorem mi_L_12 : je_I RL 12 yX6_init cX6_init 1 0 := ⟨je_in 661 (by decide +kernel) (by decide +kernel), je_in 662 (by decide +kernel) (by decide +kernel), rfl, it_X6, cd_X6_init, ⟨by decide +kernel, by decide +kernel, by decide +kernel⟩, by decide⟩
theorem oi_X6_1 : Cond.methodLink RX6 1 objectInit ∈ je_T := je_in 664 (by decide +kernel) (by decide +kernel)
theorem mv_L_17 : je_V RL 17 yX6_wagon cX6_wagon 1 (some FieldType.int) 0 := ⟨je_in 768 (by decide +kernel) (by decide +kernel), je_in 769 (by decide +kernel) (by decide +kernel), je_in 770 (by decide +kernel) (by decide +kernel), it_X6, cd_X6_wagon, ⟨by decide +kernel, by decide +kernel, by decide +kernel⟩, by decide⟩
theorem mv_X6_93 : je_V RX6 93 yX6_refuse cX6_refuse 2 (some FieldType.int) 1 := ⟨je_in 772 (by decide +kernel) (by decide +kernel), je_in 774 (by decide +kernel) (by decide +kernel), je_in 25 (by decide +kernel) (by decide +kernel), it_X6, cd_X6_refuse, ⟨by decide +kernel, by decide +kernel, by decide +kernel⟩, by decide⟩
theorem mv_L_22 : je_V RL 22 yX6_place cX6_place 6 (some FieldType.int) 2 := ⟨je_in 776 (by decide +kernel) (by decide +kernel), je_in 777 (by decide +kernel) (by decide +kernel), je_in 778 (by decide +kernel) (by decide +kernel), it_X6, cd_X6_place, ⟨by decide +kernel, by decide +kernel, by decide +kernel⟩, by decide⟩
theorem ms_X6_89 : je_S RX6 89 yX6_isIn cX6_isIn 2 (some FieldType.boolean) 2 := ⟨je_in 780 (by decide +kernel) (by decide +kernel), je_in 781 (by decide +kernel) (by decide +kernel), it_X6, cd_X6_isIn, ⟨by decide +kernel, by decide +kernel, by decide +kernel⟩, by decide⟩
theorem ms_X6_97 : je_S RX6 97 yX6_spot cX6_spot 2 (some FieldType.int) 2 := ⟨je_in 783 (by decide +kernel) (by decide +kernel), je_in 784 (by decide +kernel) (by decide +kernel), it_X6, cd_X6_spot, ⟨by decide +kernel, by decide +kernel, by decide +kernel⟩, by decide⟩
theorem mv_L_26 : je_V RL 26 yX6_least cX6_least 4 (some FieldType.int) 2 := ⟨je_in 786 (by decide +kernel) (by decide +kernel), je_in 787 (by decide +kernel) (by decide +kernel), je_in 788 (by decide +kernel) (by decide +kernel), it_X6, cd_X6_least, ⟨by decide +kernel, by decide +kernel, by decide +kernel⟩, by decide⟩
theorem mv_L_31 : je_V RL 31 yX6_apart cX6_apart 3 (some FieldType.int) 1 := ⟨je_in 790 (by decide +kernel) (by decide +kernel), je_in 791 (by decide +kernel) (by decide +kernel), je_in 792 (by decide +kernel) (by decide +kernel), it_X6, cd_X6_apart, ⟨by decide +kernel, by decide +kernel, by decide +kernel⟩, by decide⟩
theorem mv_L_35 : je_V RL 35 yX6_maker cX6_maker 4 (some FieldType.int) 2 := ⟨je_in 794 (by decide +kernel) (by decide +kernel), je_in 795 (by decide +kernel) (by decide +kernel), je_in 796 (by decide +kernel) (by decide +kernel), it_X6, cd_X6_maker, ⟨by decide +kernel, by decide +kernel, by decide +kernel⟩, by decide⟩
theorem mv_L_39 : je_V RL 39 yX6_buy cX6_buy 3 (some FieldType.int) 1 := ⟨je_in 798 (by decide +kernel) (by decide +kernel), je_in 799 (by decide +kernel) (by decide +kernel), je_in 800 (by decide +kernel) (by decide +kernel), it_X6, cd_X6_buy, ⟨by decide +kernel, by decide +kernel, by decide +kernel⟩, by decide⟩
theorem mv_X6_110 : je_V RX6 110 yX6_hasRoom cX6_hasRoom 2 (some FieldType.boolean) 1 := ⟨je_in 802 (by decide +kernel) (by decide +kernel), je_in 804 (by decide +kernel) (by decide +kernel), je_in 26 (by decide +kernel) (by decide +kernel), it_X6, cd_X6_hasRoom, ⟨by decide +kernel, by decide +kernel, by decide +kernel⟩, by decide⟩
theorem mv_X6_114 : je_V RX6 114 yX6_fresh cX6_fresh 2 none 1 := ⟨je_in 806 (by decide +kernel) (by decide +kernel), je_in 808 (by decide +kernel) (by decide +kernel), je_in 27 (by decide +kernel) (by decide +kernel), it_X6, cd_X6_fresh, ⟨by decide +kernel, by decide +kernel, by decide +kernel⟩, by decide⟩
theorem mv_X6_118 : je_V RX6 118 yX6_log cX6_log 2 none 1 := ⟨je_in 810 (by decide +kernel) (by decide +kernel), je_in 812 (by decide +kernel) (by decide +kernel), je_in 28 (by decide +kernel) (by decide +kernel), it_X6, cd_X6_log, ⟨by decide +kernel, by decide +kernel, by decide +kernel⟩, by decide⟩
theorem mv_L_44 : je_V RL 44 yX6_put cX6_put 4 (some FieldType.int) 3 := ⟨je_in 814 (by decide +kernel) (by decide +kernel), je_in 815 (by decide +kernel) (by decide +kernel), je_in 816 (by decide +kernel) (by decide +kernel), it_X6, cd_X6_put, ⟨by decide +kernel, by decide +kernel, by decide +kernel⟩, by decide⟩
theorem mv_X6_121 : je_V RX6 121 yX6_isPlace cX6_isPlace 3 (some FieldType.boolean) 2 := ⟨je_in 818 (by decide +kernel) (by decide +kernel), je_in 820 (by decide +kernel) (by decide +kernel), je_in 29 (by decide +kernel) (by decide +kernel), it_X6, cd_X6_isPlace, ⟨by decide +kernel, by decide +kernel, by decide +kernel⟩, by decide⟩
theorem mv_X6_124 : je_V RX6 124 yX6_lays cX6_lays 3 none 2 := ⟨je_in 822 (by decide +kernel) (by decide +kernel), je_in 824 (by decide +kernel) (by decide +kernel), je_in 30 (by decide +kernel) (by decide +kernel), it_X6, cd_X6_lays, ⟨by decide +kernel, by decide +kernel, by decide +kernel⟩, by decide⟩
theorem mv_L_48 : je_V RL 48 yX6_take cX6_take 4 (some FieldType.int) 2 := ⟨je_in 826 (by decide +kernel) (by decide +kernel), je_in 827 (by decide +kernel) (by decide +kernel), je_in 828 (by decide +kernel) (by decide +kernel), it_X6, cd_X6_take, ⟨by decide +kernel, by decide +kernel, by decide +kernel⟩, by decide⟩
theorem mv_L_53 : je_V RL 53 yX6_swap cX6_swap 7 (some FieldType.int) 4 := ⟨je_in 830 (by decide +kernel) (by decide +kernel), je_in 831 (by decide +kernel) (by decide +kernel), je_in 832 (by decide +kernel) (by decide +kernel), it_X6, cd_X6_swap, ⟨by decide +kernel, by decide +kernel, by decide +kernel⟩, by decide⟩
theorem mv_L_57 : je_V RL 57 yX6_read cX6_read 5 (some FieldType.int) 2 := ⟨je_in 834 (by decide +kernel) (by decide +kernel), je_in 835 (by decide +kernel) (by decide +kernel), je_in 836 (by decide +kernel) (by decide +kernel), it_X6, cd_X6_read, ⟨by decide +kernel, by decide +kernel, by decide +kernel⟩, by decide⟩
theorem mv_L_62 : je_V RL 62 yX6_go cX6_go 5 (some FieldType.int) 3 := ⟨je_in 838 (by decide +kernel) (by decide +kernel), je_in 839 (by decide +kernel) (by decide +kernel), je_in 840 (by decide +kernel) (by decide +kernel), it_X6, cd_X6_go, ⟨by decide +kernel, by decide +kernel, by decide +kernel⟩, by decide⟩
theorem mv_X6_166 : je_V RX6 166 yX6_whyOf cX6_whyOf 6 (some FieldType.int) 1 := ⟨je_in 842 (by decide +kernel) (by decide +kernel), je_in 844 (by decide +kernel) (by decide +kernel), je_in 31 (by decide +kernel) (by decide +kernel), it_X6, cd_X6_whyOf, ⟨by decide +kernel, by decide +kernel, by decide +kernel⟩, by decide⟩
theorem mv_X6_149 : je_V RX6 149 yX6_depthOf cX6_depthOf 7 (some FieldType.int) 2 := ⟨je_in 846 (by decide +kernel) (by decide +kernel), je_in 848 (by decide +kernel) (by decide +kernel), je_in 32 (by decide +kernel) (by decide +kernel), it_X6, cd_X6_depthOf, ⟨by decide +kernel, by decide +kernel, by decide +kernel⟩, by decide⟩
theorem mv_X6_137 : je_V RX6 137 yX6_wearOf cX6_wearOf 17 none 1 := ⟨je_in 850 (by decide +kernel) (by decide +kernel), je_in 852 (by decide +kernel) (by decide +kernel), je_in 33 (by decide +kernel) (by decide +kernel), it_X6, cd_X6_wearOf, ⟨by decide +kernel, by decide +kernel, by decide +kernel⟩, by decide⟩
theorem mv_X6_140 : je_V RX6 140 yX6_lastOf cX6_lastOf 2 (some FieldType.int) 1 := ⟨je_in 855 (by decide +kernel) (by decide +kernel), je_in 857 (by decide +kernel) (by decide +kernel), je_in 34 (by decide +kernel) (by decide +kernel), it_X6, cd_X6_lastOf, ⟨by decide +kernel, by decide +kernel, by decide +kernel⟩, by decide⟩
theorem ms_X6_143 : je_S RX6 143 yJ9_floorDiv_f86c9 cJ9_floorDiv_f86c9 6 (some FieldType.long) 2 := ⟨je_in 859 (by decide +kernel) (by decide +kernel), je_in 860 (by decide +kernel) (by decide +kernel), it_J9, cd_J9_floorDiv_f86c9, ⟨by decide +kernel, by decide +kernel, by decide +kernel⟩, by decide⟩
theorem ms_X6_158 : je_S RX6 158 yJ9_abs_0f7a4 cJ9_abs_0f7a4 1 (some FieldType.int) 1 := ⟨je_in 862 (by decide +kernel) (by decide +kernel), je_in 433 (by decide +kernel) (by decide +kernel), it_J9, cd_J9_abs_0f7a4, ⟨by decide +kernel, by decide +kernel, by decide +kernel⟩, by decide⟩
theorem mv_X6_169 : je_V RX6 169 yX6_goes cX6_goes 3 (some FieldType.boolean) 2 := ⟨je_in 863 (by decide +kernel) (by decide +kernel), je_in 865 (by decide +kernel) (by decide +kernel), je_in 35 (by decide +kernel) (by decide +kernel), it_X6, cd_X6_goes, ⟨by decide +kernel, by decide +kernel, by decide +kernel⟩, by decide⟩
theorem mv_X6_173 : je_V RX6 173 yX6_farOf cX6_farOf 5 (some FieldType.int) 1 := ⟨je_in 868 (by decide +kernel) (by decide +kernel), je_in 870 (by decide +kernel) (by decide +kernel), je_in 36 (by decide +kernel) (by decide +kernel), it_X6, cd_X6_farOf, ⟨by decide +kernel, by decide +kernel, by decide +kernel⟩, by decide⟩
theorem mv_X6_161 : je_V RX6 161 yX6_endOf cX6_endOf 5 (some FieldType.int) 2 := ⟨je_in 872 (by decide +kernel) (by decide +kernel), je_in 874 (by decide +kernel) (by decide +kernel), je_in 37 (by decide +kernel) (by decide +kernel), it_X6, cd_X6_endOf, ⟨by decide +kernel, by decide +kernel, by decide +kernel⟩, by decide⟩
theorem ms_X6_155 : je_S RX6 155 yJ9_min_f86c9 cJ9_min_f86c9 4 (some FieldType.long) 2 := ⟨je_in 877 (by decide +kernel) (by decide +kernel), je_in 467 (by decide +kernel) (by decide +kernel), it_J9, cd_J9_min_f86c9, ⟨by decide +kernel, by decide +kernel, by decide +kernel⟩, by decide⟩
theorem ms_X6_164 : je_S RX6 164 yJ9_min_7cf53 cJ9_min_7cf53 2 (some FieldType.int) 2 := ⟨je_in 878 (by decide +kernel) (by decide +kernel), je_in 473 (by decide +kernel) (by decide +kernel), it_J9, cd_J9_min_7cf53, ⟨by decide +kernel, by decide +kernel, by decide +kernel⟩, by decide⟩
theorem mv_L_66 : je_V RL 66 yX6_why cX6_why 2 (some FieldType.int) 1 := ⟨je_in 879 (by decide +kernel) (by decide +kernel), je_in 880 (by decide +kernel) (by decide +kernel), je_in 881 (by decide +kernel) (by decide +kernel), it_X6, cd_X6_why, ⟨by decide +kernel, by decide +kernel, by decide +kernel⟩, by decide⟩
theorem mv_L_70 : je_V RL 70 yX6_far cX6_far 2 (some FieldType.int) 1 := ⟨je_in 883 (by decide +kernel) (by decide +kernel), je_in 884 (by decide +kernel) (by decide +kernel), je_in 885 (by decide +kernel) (by decide +kernel), it_X6, cd_X6_far, ⟨by decide +kernel, by decide +kernel, by decide +kernel⟩, by decide⟩
theorem mv_L_74 : je_V RL 74 yX6_best cX6_best 2 (some FieldType.int) 1 := ⟨je_in 887 (by decide +kernel) (by decide +kernel), je_in 888 (by decide +kernel) (by decide +kernel), je_in 889 (by decide +kernel) (by decide +kernel), it_X6, cd_X6_best, ⟨by decide +kernel, by decide +kernel, by decide +kernel⟩, by decide⟩
theorem mv_X6_189 : je_V RX6 189 yX6_tries cX6_tries 5 (some FieldType.boolean) 1 := ⟨je_in 891 (by decide +kernel) (by decide +kernel), je_in 893 (by decide +kernel) (by decide +kernel), je_in 38 (by decide +kernel) (by decide +kernel), it_X6, cd_X6_tries, ⟨by decide +kernel, by decide +kernel, by decide +kernel⟩, by decide⟩
theorem mv_X6_182 : je_V RX6 182 yX6_lay cX6_lay 8 none 5 := ⟨je_in 895 (by decide +kernel) (by decide +kernel), je_in 897 (by decide +kernel) (by decide +kernel), je_in 39 (by decide +kernel) (by decide +kernel), it_X6, cd_X6_lay, ⟨by decide +kernel, by decide +kernel, by decide +kernel⟩, by decide⟩
theorem mv_L_78 : je_V RL 78 yX6_turn cX6_turn 4 (some FieldType.int) 1 := ⟨je_in 899 (by decide +kernel) (by decide +kernel), je_in 900 (by decide +kernel) (by decide +kernel), je_in 901 (by decide +kernel) (by decide +kernel), it_X6, cd_X6_turn, ⟨by decide +kernel, by decide +kernel, by decide +kernel⟩, by decide⟩
theorem mv_L_83 : je_V RL 83 yX6_wear cX6_wear 3 (some FieldType.long) 2 := ⟨je_in 903 (by decide +kernel) (by decide +kernel), je_in 904 (by decide +kernel) (by decide +kernel), je_in 905 (by decide +kernel) (by decide +kernel), it_X6, cd_X6_wear, ⟨by decide +kernel, by decide +kernel, by decide +kernel⟩, by decide⟩
theorem mv_L_87 : je_V RL 87 yX6_depth cX6_depth 3 (some FieldType.int) 2 := ⟨je_in 907 (by decide +kernel) (by decide +kernel), je_in 908 (by decide +kernel) (by decide +kernel), je_in 909 (by decide +kernel) (by decide +kernel), it_X6, cd_X6_depth, ⟨by decide +kernel, by decide +kernel, by decide +kernel⟩, by decide⟩
theorem mv_L_91 : je_V RL 91 yX6_end cX6_end 3 (some FieldType.int) 2 := ⟨je_in 911 (by decide +kernel) (by decide +kernel), je_in 912 (by decide +kernel) (by decide +kernel), je_in 913 (by decide +kernel) (by decide +kernel), it_X6, cd_X6_end, ⟨by decide +kernel, by decide +kernel, by decide +kernel⟩, by decide⟩
theorem mv_L_95 : je_V RL 95 yX6_send cX6_send 2 (some FieldType.int) 1 := ⟨je_in 915 (by decide +kernel) (by decide +kernel), je_in 916 (by decide +kernel) (by decide +kernel), je_in 917 (by decide +kernel) (by decide +kernel), it_X6, cd_X6_send, ⟨by decide +kernel, by decide +kernel, by decide +kernel⟩, by decide⟩
theorem mv_L_99 : je_V RL 99 yX6_mend cX6_mend 2 (some FieldType.int) 1 := ⟨je_in 919 (by decide +kernel) (by decide +kernel), je_in 920 (by decide +kernel) (by decide +kernel), je_in 921 (by decide +kernel) (by decide +kernel), it_X6, cd_X6_mend, ⟨by decide +kernel, by decide +kernel, by decide +kernel⟩, by decide⟩
theorem mv_L_103 : je_V RL 103 yX6_cast cX6_cast 2 (some FieldType.int) 1 := ⟨je_in 923 (by decide +kernel) (by decide +kernel), je_in 924 (by decide +kernel) (by decide +kernel), je_in 925 (by decide +kernel) (by decide +kernel), it_X6, cd_X6_cast, ⟨by decide +kernel, by decide +kernel, by decide +kernel⟩, by decide⟩
theorem mv_L_107 : je_V RL 107 yX6_days cX6_days 4 (some FieldType.int) 1 := ⟨je_in 927 (by decide +kernel) (by decide +kernel), je_in 928 (by decide +kernel) (by decide +kernel), je_in 929 (by decide +kernel) (by decide +kernel), it_X6, cd_X6_days, ⟨by decide +kernel, by decide +kernel, by decide +kernel⟩, by decide⟩
theorem mv_L_111 : je_V RL 111 yX6_few cX6_few 11 (some FieldType.int) 3 := ⟨je_in 931 (by decide +kernel) (by decide +kernel), je_in 932 (by decide +kernel) (by decide +kernel), je_in 933 (by decide +kernel) (by decide +kernel), it_X6, cd_X6_few, ⟨by decide +kernel, by decide +kernel, by decide +kernel⟩, by decide⟩
theorem ms_X6_193 : je_S RX6 193 yJ9_max_7cf53 cJ9_max_7cf53 2 (some FieldType.int) 2 := ⟨je_in 936 (by decide +kernel) (by decide +kernel), je_in 444 (by decide +kernel) (by decide +kernel), it_J9, cd_J9_max_7cf53, ⟨by decide +kernel, by decide +kernel, by decide +kernel⟩, by decide⟩
theorem mv_L_115 : je_V RL 115 yX6_asOf cX6_asOf 6 (some FieldType.int) 2 := ⟨je_in 937 (by decide +kernel) (by decide +kernel), je_in 938 (by decide +kernel) (by decide +kernel), je_in 939 (by decide +kernel) (by decide +kernel), it_X6, cd_X6_asOf, ⟨by decide +kernel, by decide +kernel, by decide +kernel⟩, by decide⟩
theorem mv_L_119 : je_V RL 119 yX6_tyreOf cX6_tyreOf 3 (some FieldType.int) 2 := ⟨je_in 941 (by decide +kernel) (by decide +kernel), je_in 942 (by decide +kernel) (by decide +kernel), je_in 943 (by decide +kernel) (by decide +kernel), it_X6, cd_X6_tyreOf, ⟨by decide +kernel, by decide +kernel, by decide +kernel⟩, by decide⟩
theorem mv_L_123 : je_V RL 123 yX6_reading cX6_reading 4 (some FieldType.int) 3 := ⟨je_in 945 (by decide +kernel) (by decide +kernel), je_in 946 (by decide +kernel) (by decide +kernel), je_in 947 (by decide +kernel) (by decide +kernel), it_X6, cd_X6_reading, ⟨by decide +kernel, by decide +kernel, by decide +kernel⟩, by decide⟩
theorem mv_L_127 : je_V RL 127 yX6_placeOf cX6_placeOf 5 (some FieldType.int) 3 := ⟨je_in 949 (by decide +kernel) (by decide +kernel), je_in 950 (by decide +kernel) (by decide +kernel), je_in 951 (by decide +kernel) (by decide +kernel), it_X6, cd_X6_placeOf, ⟨by decide +kernel, by decide +kernel, by decide +kernel⟩, by decide⟩
theorem mv_L_131 : je_V RL 131 yX6_count cX6_count 4 (some FieldType.int) 1 := ⟨je_in 953 (by decide +kernel) (by decide +kernel), je_in 954 (by decide +kernel) (by decide +kernel), je_in 955 (by decide +kernel) (by decide +kernel), it_X6, cd_X6_count, ⟨by decide +kernel, by decide +kernel, by decide +kernel⟩, by decide⟩
theorem oi_im : Cond.instanceMethod objectInit ∈ je_T := je_in 55 (by decide +kernel) (by decide +kernel)
set_option maxRecDepth 100000 in
theorem oi_cd : Cond.code objectInit ⟨#[0xb1]⟩ 1 none ∈ je_T := je_in 56 rfl (by decide +kernel)
