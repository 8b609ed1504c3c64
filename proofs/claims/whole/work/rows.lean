section
-- ===== PART A: goes FIRST, ahead of the names: the tables' words, and 'selects' of the private methods out of them =====
/-- a private method of a class that the tables say can be made, by its rows of tables_1 -/
def lw_okq (q : MethodName × Nat) : Prop := (q.1.cls ≠ "java/lang/invoke/MethodHandle" ∧ q.1.cls ≠ "java/lang/invoke/VarHandle") ∧ Cond.instantiable q.1.cls q.2 ∈ tables_1 ∧ Cond.privateMethod q.1 ∈ tables_1 ∧ Cond.instanceMethod q.1 ∈ tables_1
theorem lw_p0 : lw_okq (⟨"TyreBook", "refuse", "(I)I"⟩, 12) := ⟨⟨by decide +kernel, by decide +kernel⟩, List.mem_of_getElem? (i := 10) (by decide +kernel), List.mem_of_getElem? (i := 146) (by decide +kernel), List.mem_of_getElem? (i := 147) (by decide +kernel)⟩
theorem lw_p1 : lw_okq (⟨"TyreBook", "wagonAt", "(I)LTyreBook$Wagon;"⟩, 12) := ⟨⟨by decide +kernel, by decide +kernel⟩, List.mem_of_getElem? (i := 10) (by decide +kernel), List.mem_of_getElem? (i := 181) (by decide +kernel), List.mem_of_getElem? (i := 182) (by decide +kernel)⟩
theorem lw_p2 : lw_okq (⟨"TyreBook", "refitTyresOf", "(I)V"⟩, 12) := ⟨⟨by decide +kernel, by decide +kernel⟩, List.mem_of_getElem? (i := 10) (by decide +kernel), List.mem_of_getElem? (i := 215) (by decide +kernel), List.mem_of_getElem? (i := 216) (by decide +kernel)⟩
theorem lw_p3 : lw_okq (⟨"TyreBook", "tyreAt", "(I)LTyreBook$Tyre;"⟩, 12) := ⟨⟨by decide +kernel, by decide +kernel⟩, List.mem_of_getElem? (i := 10) (by decide +kernel), List.mem_of_getElem? (i := 219) (by decide +kernel), List.mem_of_getElem? (i := 220) (by decide +kernel)⟩
theorem lw_p4 : lw_okq (⟨"TyreBook$Tyre", "dropSecondReading", "()V"⟩, 12) := ⟨⟨by decide +kernel, by decide +kernel⟩, List.mem_of_getElem? (i := 243) (by decide +kernel), List.mem_of_getElem? (i := 310) (by decide +kernel), List.mem_of_getElem? (i := 311) (by decide +kernel)⟩
theorem lw_p5 : lw_okq (⟨"TyreBook", "move", "(LTyreBook$Tyre;I)V"⟩, 12) := ⟨⟨by decide +kernel, by decide +kernel⟩, List.mem_of_getElem? (i := 10) (by decide +kernel), List.mem_of_getElem? (i := 316) (by decide +kernel), List.mem_of_getElem? (i := 317) (by decide +kernel)⟩
theorem lw_p6 : lw_okq (⟨"TyreBook$Wagon", "flawOn", "(I[II)I"⟩, 4) := ⟨⟨by decide +kernel, by decide +kernel⟩, List.mem_of_getElem? (i := 155) (by decide +kernel), List.mem_of_getElem? (i := 367) (by decide +kernel), List.mem_of_getElem? (i := 368) (by decide +kernel)⟩
theorem lw_p7 : lw_okq (⟨"TyreBook$Tyre", "sinceRead", "()I"⟩, 12) := ⟨⟨by decide +kernel, by decide +kernel⟩, List.mem_of_getElem? (i := 243) (by decide +kernel), List.mem_of_getElem? (i := 381) (by decide +kernel), List.mem_of_getElem? (i := 382) (by decide +kernel)⟩
theorem lw_p8 : lw_okq (⟨"TyreBook$Wagon", "rollingOn", "(IZ)LTyreBook$Tyre;"⟩, 4) := ⟨⟨by decide +kernel, by decide +kernel⟩, List.mem_of_getElem? (i := 155) (by decide +kernel), List.mem_of_getElem? (i := 400) (by decide +kernel), List.mem_of_getElem? (i := 401) (by decide +kernel)⟩
theorem lw_p9 : lw_okq (⟨"TyreBook$Turning", "gather", "(LTyreBook$Wagon;)V"⟩, 9) := ⟨⟨by decide +kernel, by decide +kernel⟩, List.mem_of_getElem? (i := 54) (by decide +kernel), List.mem_of_getElem? (i := 453) (by decide +kernel), List.mem_of_getElem? (i := 454) (by decide +kernel)⟩
theorem lw_p10 : lw_okq (⟨"TyreBook$Turning", "insert", "(LTyreBook$Tyre;)V"⟩, 9) := ⟨⟨by decide +kernel, by decide +kernel⟩, List.mem_of_getElem? (i := 54) (by decide +kernel), List.mem_of_getElem? (i := 458) (by decide +kernel), List.mem_of_getElem? (i := 459) (by decide +kernel)⟩
theorem lw_p11 : lw_okq (⟨"TyreBook$Turning", "weigh", "(LTyreBook$Wagon;I[I)V"⟩, 9) := ⟨⟨by decide +kernel, by decide +kernel⟩, List.mem_of_getElem? (i := 54) (by decide +kernel), List.mem_of_getElem? (i := 462) (by decide +kernel), List.mem_of_getElem? (i := 463) (by decide +kernel)⟩
theorem lw_p12 : lw_okq (⟨"TyreBook$Turning", "turnedAt", "(I)LTyreBook$Tyre;"⟩, 9) := ⟨⟨by decide +kernel, by decide +kernel⟩, List.mem_of_getElem? (i := 54) (by decide +kernel), List.mem_of_getElem? (i := 468) (by decide +kernel), List.mem_of_getElem? (i := 469) (by decide +kernel)⟩
theorem lw_p13 : lw_okq (⟨"TyreBook$Turning", "fillReaches", "()V"⟩, 9) := ⟨⟨by decide +kernel, by decide +kernel⟩, List.mem_of_getElem? (i := 54) (by decide +kernel), List.mem_of_getElem? (i := 478) (by decide +kernel), List.mem_of_getElem? (i := 479) (by decide +kernel)⟩
theorem lw_p14 : lw_okq (⟨"TyreBook$Turning", "allUsed", "()I"⟩, 9) := ⟨⟨by decide +kernel, by decide +kernel⟩, List.mem_of_getElem? (i := 54) (by decide +kernel), List.mem_of_getElem? (i := 482) (by decide +kernel), List.mem_of_getElem? (i := 483) (by decide +kernel)⟩
theorem lw_p15 : lw_okq (⟨"TyreBook$Turning", "reachFrom", "(II)I"⟩, 9) := ⟨⟨by decide +kernel, by decide +kernel⟩, List.mem_of_getElem? (i := 54) (by decide +kernel), List.mem_of_getElem? (i := 489) (by decide +kernel), List.mem_of_getElem? (i := 490) (by decide +kernel)⟩
def lw_privs_1 : List (MethodName × Nat) := [(⟨"TyreBook", "refuse", "(I)I"⟩, 12), (⟨"TyreBook", "wagonAt", "(I)LTyreBook$Wagon;"⟩, 12), (⟨"TyreBook", "refitTyresOf", "(I)V"⟩, 12), (⟨"TyreBook", "tyreAt", "(I)LTyreBook$Tyre;"⟩, 12), (⟨"TyreBook$Tyre", "dropSecondReading", "()V"⟩, 12), (⟨"TyreBook", "move", "(LTyreBook$Tyre;I)V"⟩, 12), (⟨"TyreBook$Wagon", "flawOn", "(I[II)I"⟩, 4), (⟨"TyreBook$Tyre", "sinceRead", "()I"⟩, 12), (⟨"TyreBook$Wagon", "rollingOn", "(IZ)LTyreBook$Tyre;"⟩, 4), (⟨"TyreBook$Turning", "gather", "(LTyreBook$Wagon;)V"⟩, 9), (⟨"TyreBook$Turning", "insert", "(LTyreBook$Tyre;)V"⟩, 9), (⟨"TyreBook$Turning", "weigh", "(LTyreBook$Wagon;I[I)V"⟩, 9), (⟨"TyreBook$Turning", "turnedAt", "(I)LTyreBook$Tyre;"⟩, 9), (⟨"TyreBook$Turning", "fillReaches", "()V"⟩, 9), (⟨"TyreBook$Turning", "allUsed", "()I"⟩, 9), (⟨"TyreBook$Turning", "reachFrom", "(II)I"⟩, 9)]
theorem lw_r1 : ∀ q ∈ lw_privs_1, lw_okq q := List.forall_mem_cons.mpr ⟨lw_p0, List.forall_mem_cons.mpr ⟨lw_p1, List.forall_mem_cons.mpr ⟨lw_p2, List.forall_mem_cons.mpr ⟨lw_p3, List.forall_mem_cons.mpr ⟨lw_p4, List.forall_mem_cons.mpr ⟨lw_p5, List.forall_mem_cons.mpr ⟨lw_p6, List.forall_mem_cons.mpr ⟨lw_p7, List.forall_mem_cons.mpr ⟨lw_p8, List.forall_mem_cons.mpr ⟨lw_p9, List.forall_mem_cons.mpr ⟨lw_p10, List.forall_mem_cons.mpr ⟨lw_p11, List.forall_mem_cons.mpr ⟨lw_p12, List.forall_mem_cons.mpr ⟨lw_p13, List.forall_mem_cons.mpr ⟨lw_p14, List.forall_mem_cons.mpr ⟨lw_p15, fun _ h => absurd h List.not_mem_nil⟩⟩⟩⟩⟩⟩⟩⟩⟩⟩⟩⟩⟩⟩⟩⟩
theorem lw_p16 : lw_okq (⟨"TyreBook$Turning", "fillChanges", "()V"⟩, 9) := ⟨⟨by decide +kernel, by decide +kernel⟩, List.mem_of_getElem? (i := 54) (by decide +kernel), List.mem_of_getElem? (i := 505) (by decide +kernel), List.mem_of_getElem? (i := 506) (by decide +kernel)⟩
theorem lw_p17 : lw_okq (⟨"TyreBook$Turning", "fewestFrom", "(II)I"⟩, 9) := ⟨⟨by decide +kernel, by decide +kernel⟩, List.mem_of_getElem? (i := 54) (by decide +kernel), List.mem_of_getElem? (i := 509) (by decide +kernel), List.mem_of_getElem? (i := 510) (by decide +kernel)⟩
theorem lw_p18 : lw_okq (⟨"TyreBook$Turning", "changesWith", "(III)I"⟩, 9) := ⟨⟨by decide +kernel, by decide +kernel⟩, List.mem_of_getElem? (i := 54) (by decide +kernel), List.mem_of_getElem? (i := 513) (by decide +kernel), List.mem_of_getElem? (i := 514) (by decide +kernel)⟩
theorem lw_p19 : lw_okq (⟨"TyreBook$Turning", "choose", "(II)I"⟩, 9) := ⟨⟨by decide +kernel, by decide +kernel⟩, List.mem_of_getElem? (i := 54) (by decide +kernel), List.mem_of_getElem? (i := 517) (by decide +kernel), List.mem_of_getElem? (i := 518) (by decide +kernel)⟩
theorem lw_p20 : lw_okq (⟨"TyreBook", "layAsChosen", "(LTyreBook$Wagon;)V"⟩, 12) := ⟨⟨by decide +kernel, by decide +kernel⟩, List.mem_of_getElem? (i := 10) (by decide +kernel), List.mem_of_getElem? (i := 521) (by decide +kernel), List.mem_of_getElem? (i := 522) (by decide +kernel)⟩
theorem lw_p21 : lw_okq (⟨"TyreBook", "nextBack", "(I)LTyreBook$Tyre;"⟩, 12) := ⟨⟨by decide +kernel, by decide +kernel⟩, List.mem_of_getElem? (i := 10) (by decide +kernel), List.mem_of_getElem? (i := 559) (by decide +kernel), List.mem_of_getElem? (i := 560) (by decide +kernel)⟩
theorem lw_p22 : lw_okq (⟨"TyreBook", "bringBack", "(LTyreBook$Tyre;)V"⟩, 12) := ⟨⟨by decide +kernel, by decide +kernel⟩, List.mem_of_getElem? (i := 10) (by decide +kernel), List.mem_of_getElem? (i := 563) (by decide +kernel), List.mem_of_getElem? (i := 564) (by decide +kernel)⟩
theorem lw_p23 : lw_okq (⟨"TyreBook", "neededOn", "(LTyreBook$Wagon;II)I"⟩, 12) := ⟨⟨by decide +kernel, by decide +kernel⟩, List.mem_of_getElem? (i := 10) (by decide +kernel), List.mem_of_getElem? (i := 573) (by decide +kernel), List.mem_of_getElem? (i := 574) (by decide +kernel)⟩
theorem lw_p24 : lw_okq (⟨"TyreBook", "tyresAt", "(I)I"⟩, 12) := ⟨⟨by decide +kernel, by decide +kernel⟩, List.mem_of_getElem? (i := 10) (by decide +kernel), List.mem_of_getElem? (i := 616) (by decide +kernel), List.mem_of_getElem? (i := 617) (by decide +kernel)⟩
theorem lw_p25 : lw_okq (⟨"TyreBookModel", "refuse", "(I)I"⟩, 34) := ⟨⟨by decide +kernel, by decide +kernel⟩, List.mem_of_getElem? (i := 620) (by decide +kernel), List.mem_of_getElem? (i := 733) (by decide +kernel), List.mem_of_getElem? (i := 734) (by decide +kernel)⟩
theorem lw_p26 : lw_okq (⟨"TyreBookModel", "hasRoom", "(I)Z"⟩, 34) := ⟨⟨by decide +kernel, by decide +kernel⟩, List.mem_of_getElem? (i := 620) (by decide +kernel), List.mem_of_getElem? (i := 763) (by decide +kernel), List.mem_of_getElem? (i := 764) (by decide +kernel)⟩
theorem lw_p27 : lw_okq (⟨"TyreBookModel", "fresh", "(I)V"⟩, 34) := ⟨⟨by decide +kernel, by decide +kernel⟩, List.mem_of_getElem? (i := 620) (by decide +kernel), List.mem_of_getElem? (i := 767) (by decide +kernel), List.mem_of_getElem? (i := 768) (by decide +kernel)⟩
theorem lw_p28 : lw_okq (⟨"TyreBookModel", "log", "(I)V"⟩, 34) := ⟨⟨by decide +kernel, by decide +kernel⟩, List.mem_of_getElem? (i := 620) (by decide +kernel), List.mem_of_getElem? (i := 771) (by decide +kernel), List.mem_of_getElem? (i := 772) (by decide +kernel)⟩
theorem lw_p29 : lw_okq (⟨"TyreBookModel", "isPlace", "(II)Z"⟩, 34) := ⟨⟨by decide +kernel, by decide +kernel⟩, List.mem_of_getElem? (i := 620) (by decide +kernel), List.mem_of_getElem? (i := 779) (by decide +kernel), List.mem_of_getElem? (i := 780) (by decide +kernel)⟩
theorem lw_p30 : lw_okq (⟨"TyreBookModel", "lays", "(II)V"⟩, 34) := ⟨⟨by decide +kernel, by decide +kernel⟩, List.mem_of_getElem? (i := 620) (by decide +kernel), List.mem_of_getElem? (i := 783) (by decide +kernel), List.mem_of_getElem? (i := 784) (by decide +kernel)⟩
theorem lw_p31 : lw_okq (⟨"TyreBookModel", "whyOf", "(I)I"⟩, 34) := ⟨⟨by decide +kernel, by decide +kernel⟩, List.mem_of_getElem? (i := 620) (by decide +kernel), List.mem_of_getElem? (i := 803) (by decide +kernel), List.mem_of_getElem? (i := 804) (by decide +kernel)⟩
def lw_privs_2 : List (MethodName × Nat) := [(⟨"TyreBook$Turning", "fillChanges", "()V"⟩, 9), (⟨"TyreBook$Turning", "fewestFrom", "(II)I"⟩, 9), (⟨"TyreBook$Turning", "changesWith", "(III)I"⟩, 9), (⟨"TyreBook$Turning", "choose", "(II)I"⟩, 9), (⟨"TyreBook", "layAsChosen", "(LTyreBook$Wagon;)V"⟩, 12), (⟨"TyreBook", "nextBack", "(I)LTyreBook$Tyre;"⟩, 12), (⟨"TyreBook", "bringBack", "(LTyreBook$Tyre;)V"⟩, 12), (⟨"TyreBook", "neededOn", "(LTyreBook$Wagon;II)I"⟩, 12), (⟨"TyreBook", "tyresAt", "(I)I"⟩, 12), (⟨"TyreBookModel", "refuse", "(I)I"⟩, 34), (⟨"TyreBookModel", "hasRoom", "(I)Z"⟩, 34), (⟨"TyreBookModel", "fresh", "(I)V"⟩, 34), (⟨"TyreBookModel", "log", "(I)V"⟩, 34), (⟨"TyreBookModel", "isPlace", "(II)Z"⟩, 34), (⟨"TyreBookModel", "lays", "(II)V"⟩, 34), (⟨"TyreBookModel", "whyOf", "(I)I"⟩, 34)]
theorem lw_r2 : ∀ q ∈ lw_privs_2, lw_okq q := List.forall_mem_cons.mpr ⟨lw_p16, List.forall_mem_cons.mpr ⟨lw_p17, List.forall_mem_cons.mpr ⟨lw_p18, List.forall_mem_cons.mpr ⟨lw_p19, List.forall_mem_cons.mpr ⟨lw_p20, List.forall_mem_cons.mpr ⟨lw_p21, List.forall_mem_cons.mpr ⟨lw_p22, List.forall_mem_cons.mpr ⟨lw_p23, List.forall_mem_cons.mpr ⟨lw_p24, List.forall_mem_cons.mpr ⟨lw_p25, List.forall_mem_cons.mpr ⟨lw_p26, List.forall_mem_cons.mpr ⟨lw_p27, List.forall_mem_cons.mpr ⟨lw_p28, List.forall_mem_cons.mpr ⟨lw_p29, List.forall_mem_cons.mpr ⟨lw_p30, List.forall_mem_cons.mpr ⟨lw_p31, fun _ h => absurd h List.not_mem_nil⟩⟩⟩⟩⟩⟩⟩⟩⟩⟩⟩⟩⟩⟩⟩⟩
theorem lw_p32 : lw_okq (⟨"TyreBookModel", "depthOf", "(II)I"⟩, 34) := ⟨⟨by decide +kernel, by decide +kernel⟩, List.mem_of_getElem? (i := 620) (by decide +kernel), List.mem_of_getElem? (i := 807) (by decide +kernel), List.mem_of_getElem? (i := 808) (by decide +kernel)⟩
theorem lw_p33 : lw_okq (⟨"TyreBookModel", "wearOf", "(I)V"⟩, 34) := ⟨⟨by decide +kernel, by decide +kernel⟩, List.mem_of_getElem? (i := 620) (by decide +kernel), List.mem_of_getElem? (i := 811) (by decide +kernel), List.mem_of_getElem? (i := 812) (by decide +kernel)⟩
theorem lw_p34 : lw_okq (⟨"TyreBookModel", "lastOf", "(I)I"⟩, 34) := ⟨⟨by decide +kernel, by decide +kernel⟩, List.mem_of_getElem? (i := 620) (by decide +kernel), List.mem_of_getElem? (i := 816) (by decide +kernel), List.mem_of_getElem? (i := 817) (by decide +kernel)⟩
theorem lw_p35 : lw_okq (⟨"TyreBookModel", "goes", "(IZ)Z"⟩, 34) := ⟨⟨by decide +kernel, by decide +kernel⟩, List.mem_of_getElem? (i := 620) (by decide +kernel), List.mem_of_getElem? (i := 824) (by decide +kernel), List.mem_of_getElem? (i := 825) (by decide +kernel)⟩
theorem lw_p36 : lw_okq (⟨"TyreBookModel", "farOf", "(I)I"⟩, 34) := ⟨⟨by decide +kernel, by decide +kernel⟩, List.mem_of_getElem? (i := 620) (by decide +kernel), List.mem_of_getElem? (i := 829) (by decide +kernel), List.mem_of_getElem? (i := 830) (by decide +kernel)⟩
theorem lw_p37 : lw_okq (⟨"TyreBookModel", "endOf", "(II)I"⟩, 34) := ⟨⟨by decide +kernel, by decide +kernel⟩, List.mem_of_getElem? (i := 620) (by decide +kernel), List.mem_of_getElem? (i := 833) (by decide +kernel), List.mem_of_getElem? (i := 834) (by decide +kernel)⟩
theorem lw_p38 : lw_okq (⟨"TyreBookModel", "tries", "(I)Z"⟩, 34) := ⟨⟨by decide +kernel, by decide +kernel⟩, List.mem_of_getElem? (i := 620) (by decide +kernel), List.mem_of_getElem? (i := 852) (by decide +kernel), List.mem_of_getElem? (i := 853) (by decide +kernel)⟩
theorem lw_p39 : lw_okq (⟨"TyreBookModel", "lay", "(IIIII)V"⟩, 34) := ⟨⟨by decide +kernel, by decide +kernel⟩, List.mem_of_getElem? (i := 620) (by decide +kernel), List.mem_of_getElem? (i := 856) (by decide +kernel), List.mem_of_getElem? (i := 857) (by decide +kernel)⟩
def lw_privs_3 : List (MethodName × Nat) := [(⟨"TyreBookModel", "depthOf", "(II)I"⟩, 34), (⟨"TyreBookModel", "wearOf", "(I)V"⟩, 34), (⟨"TyreBookModel", "lastOf", "(I)I"⟩, 34), (⟨"TyreBookModel", "goes", "(IZ)Z"⟩, 34), (⟨"TyreBookModel", "farOf", "(I)I"⟩, 34), (⟨"TyreBookModel", "endOf", "(II)I"⟩, 34), (⟨"TyreBookModel", "tries", "(I)Z"⟩, 34), (⟨"TyreBookModel", "lay", "(IIIII)V"⟩, 34)]
theorem lw_r3 : ∀ q ∈ lw_privs_3, lw_okq q := List.forall_mem_cons.mpr ⟨lw_p32, List.forall_mem_cons.mpr ⟨lw_p33, List.forall_mem_cons.mpr ⟨lw_p34, List.forall_mem_cons.mpr ⟨lw_p35, List.forall_mem_cons.mpr ⟨lw_p36, List.forall_mem_cons.mpr ⟨lw_p37, List.forall_mem_cons.mpr ⟨lw_p38, List.forall_mem_cons.mpr ⟨lw_p39, fun _ h => absurd h List.not_mem_nil⟩⟩⟩⟩⟩⟩⟩⟩
def lw_privs : List (MethodName × Nat) := lw_privs_1 ++ (lw_privs_2 ++ (lw_privs_3))
def lw_tbl : List Cond := k2_sels lw_privs ++ tables_1
theorem lw_privs_ok : ∀ q ∈ lw_privs, lw_okq q := by
  show ∀ q ∈ lw_privs_1 ++ (lw_privs_2 ++ (lw_privs_3)), lw_okq q
  exact List.forall_mem_append.mpr ⟨lw_r1, List.forall_mem_append.mpr ⟨lw_r2, lw_r3⟩⟩
end
section
def RX0 : String := "TyreBook$Log"
def TX0 : u_T := fun k => match k with
  | 0 => ("TyreBook$Log", "days", "[I", true)
  | 1 => ("TyreBook$Log", "numbers", "[I", true)
  | 2 => ("TyreBook$Log", "spots", "[I", true)
  | _ => ("TyreBook$Log", "kept", "I", false)
def tyX0 : Nat → FieldType := fun k => match k with
  | 0 => .array .int
  | 1 => .array .int
  | 2 => .array .int
  | _ => .int
theorem nmX0 : ∀ a, a < 4 → ∀ b, b < 4 → a ≠ b → (TX0 a).2.1 ≠ (TX0 b).2.1 := by decide +kernel
theorem tyX0_ok : ∀ k, k < 4 → parseFieldDescriptor (TX0 k).2.2.1 = some (tyX0 k) := by decide +kernel
abbrev cX0_init : ByteArray := prog_2_method_1_code
def yX0_init : MethodName := ⟨RX0, "<init>", "()V"⟩
abbrev cX0_hasRoomFor : ByteArray := prog_2_method_2_code
def yX0_hasRoomFor : MethodName := ⟨RX0, "hasRoomFor", "(I)Z"⟩
abbrev cX0_note : ByteArray := prog_2_method_3_code
def yX0_note : MethodName := ⟨RX0, "note", "(III)V"⟩
abbrev cX0_whereWas : ByteArray := prog_2_method_4_code
def yX0_whereWas : MethodName := ⟨RX0, "whereWas", "(II)I"⟩
def RX1 : String := "TyreBook$Turning"
def TX1 : u_T := fun k => match k with
  | 0 => ("TyreBook$Turning", "turned", "[LTyreBook$Tyre;", true)
  | 1 => ("TyreBook$Turning", "ends", "[I", true)
  | 2 => ("TyreBook$Turning", "homes", "[I", true)
  | 3 => ("TyreBook$Turning", "mustHave", "[I", true)
  | 4 => ("TyreBook$Turning", "chosen", "[I", true)
  | 5 => ("TyreBook$Turning", "table", "[I", true)
  | 6 => ("TyreBook$Turning", "tyres", "I", false)
  | 7 => ("TyreBook$Turning", "places", "I", false)
  | _ => ("TyreBook$Turning", "reach", "I", false)
def tyX1 : Nat → FieldType := fun k => match k with
  | 0 => .array (.object "TyreBook$Tyre")
  | 1 => .array .int
  | 2 => .array .int
  | 3 => .array .int
  | 4 => .array .int
  | 5 => .array .int
  | 6 => .int
  | 7 => .int
  | _ => .int
theorem nmX1 : ∀ a, a < 9 → ∀ b, b < 9 → a ≠ b → (TX1 a).2.1 ≠ (TX1 b).2.1 := by decide +kernel
theorem tyX1_ok : ∀ k, k < 9 → parseFieldDescriptor (TX1 k).2.2.1 = some (tyX1 k) := by decide +kernel
abbrev cX1_init : ByteArray := prog_3_method_1_code
def yX1_init : MethodName := ⟨RX1, "<init>", "()V"⟩
abbrev cX1_findReach : ByteArray := prog_3_method_2_code
def yX1_findReach : MethodName := ⟨RX1, "findReach", "(LTyreBook$Wagon;[I)Z"⟩
abbrev cX1_findWay : ByteArray := prog_3_method_3_code
def yX1_findWay : MethodName := ⟨RX1, "findWay", "()I"⟩
abbrev cX1_chosenFor : ByteArray := prog_3_method_4_code
def yX1_chosenFor : MethodName := ⟨RX1, "chosenFor", "(I)LTyreBook$Tyre;"⟩
abbrev cX1_turnedAt : ByteArray := prog_3_method_5_code
def yX1_turnedAt : MethodName := ⟨RX1, "turnedAt", "(I)LTyreBook$Tyre;"⟩
abbrev cX1_gather : ByteArray := prog_3_method_6_code
def yX1_gather : MethodName := ⟨RX1, "gather", "(LTyreBook$Wagon;)V"⟩
abbrev cX1_insert : ByteArray := prog_3_method_7_code
def yX1_insert : MethodName := ⟨RX1, "insert", "(LTyreBook$Tyre;)V"⟩
abbrev cX1_weigh : ByteArray := prog_3_method_8_code
def yX1_weigh : MethodName := ⟨RX1, "weigh", "(LTyreBook$Wagon;I[I)V"⟩
abbrev cX1_reachOf : ByteArray := prog_3_method_9_code
def yX1_reachOf : MethodName := ⟨RX1, "reachOf", "(LTyreBook$Tyre;I[I)I"⟩
abbrev cX1_slot : ByteArray := prog_3_method_10_code
def yX1_slot : MethodName := ⟨RX1, "slot", "(II)I"⟩
abbrev cX1_allUsed : ByteArray := prog_3_method_11_code
def yX1_allUsed : MethodName := ⟨RX1, "allUsed", "()I"⟩
abbrev cX1_isUsed : ByteArray := prog_3_method_12_code
def yX1_isUsed : MethodName := ⟨RX1, "isUsed", "(II)Z"⟩
abbrev cX1_fillReaches : ByteArray := prog_3_method_13_code
def yX1_fillReaches : MethodName := ⟨RX1, "fillReaches", "()V"⟩
abbrev cX1_reachFrom : ByteArray := prog_3_method_14_code
def yX1_reachFrom : MethodName := ⟨RX1, "reachFrom", "(II)I"⟩
abbrev cX1_fillChanges : ByteArray := prog_3_method_15_code
def yX1_fillChanges : MethodName := ⟨RX1, "fillChanges", "()V"⟩
abbrev cX1_fewestFrom : ByteArray := prog_3_method_16_code
def yX1_fewestFrom : MethodName := ⟨RX1, "fewestFrom", "(II)I"⟩
abbrev cX1_changesWith : ByteArray := prog_3_method_17_code
def yX1_changesWith : MethodName := ⟨RX1, "changesWith", "(III)I"⟩
abbrev cX1_choose : ByteArray := prog_3_method_18_code
def yX1_choose : MethodName := ⟨RX1, "choose", "(II)I"⟩
def RX2 : String := "TyreBook$Tyre"
def TX2 : u_T := fun k => match k with
  | 0 => ("TyreBook$Tyre", "number", "I", true)
  | 1 => ("TyreBook$Tyre", "maker", "I", true)
  | 2 => ("TyreBook$Tyre", "bought", "I", true)
  | 3 => ("TyreBook$Tyre", "readLengths", "[I", true)
  | 4 => ("TyreBook$Tyre", "readDepths", "[I", true)
  | 5 => ("TyreBook$Tyre", "loss", "LTyreBook$Wear;", true)
  | 6 => ("TyreBook$Tyre", "readings", "I", false)
  | 7 => ("TyreBook$Tyre", "treads", "I", false)
  | 8 => ("TyreBook$Tyre", "mends", "I", false)
  | 9 => ("TyreBook$Tyre", "lengths", "I", false)
  | 10 => ("TyreBook$Tyre", "where", "I", false)
  | _ => ("TyreBook$Tyre", "back", "I", false)
def tyX2 : Nat → FieldType := fun k => match k with
  | 0 => .int
  | 1 => .int
  | 2 => .int
  | 3 => .array .int
  | 4 => .array .int
  | 5 => .object "TyreBook$Wear"
  | 6 => .int
  | 7 => .int
  | 8 => .int
  | 9 => .int
  | 10 => .int
  | _ => .int
theorem nmX2 : ∀ a, a < 12 → ∀ b, b < 12 → a ≠ b → (TX2 a).2.1 ≠ (TX2 b).2.1 := by decide +kernel
theorem tyX2_ok : ∀ k, k < 12 → parseFieldDescriptor (TX2 k).2.2.1 = some (tyX2 k) := by decide +kernel
abbrev cX2_init : ByteArray := prog_4_method_1_code
def yX2_init : MethodName := ⟨RX2, "<init>", "(III)V"⟩
abbrev cX2_startTread : ByteArray := prog_4_method_2_code
def yX2_startTread : MethodName := ⟨RX2, "startTread", "(I)V"⟩
abbrev cX2_hasReading : ByteArray := prog_4_method_3_code
def yX2_hasReading : MethodName := ⟨RX2, "hasReading", "(I)Z"⟩
abbrev cX2_addReading : ByteArray := prog_4_method_4_code
def yX2_addReading : MethodName := ⟨RX2, "addReading", "(I)V"⟩
abbrev cX2_dropSecondReading : ByteArray := prog_4_method_5_code
def yX2_dropSecondReading : MethodName := ⟨RX2, "dropSecondReading", "()V"⟩
abbrev cX2_fitWear : ByteArray := prog_4_method_6_code
def yX2_fitWear : MethodName := ⟨RX2, "fitWear", "(I)V"⟩
abbrev cX2_depthAfter : ByteArray := prog_4_method_7_code
def yX2_depthAfter : MethodName := ⟨RX2, "depthAfter", "(I)I"⟩
abbrev cX2_endFor : ByteArray := prog_4_method_8_code
def yX2_endFor : MethodName := ⟨RX2, "endFor", "(I)I"⟩
abbrev cX2_sinceRead : ByteArray := prog_4_method_9_code
def yX2_sinceRead : MethodName := ⟨RX2, "sinceRead", "()I"⟩
def RX3 : String := "TyreBook$Wagon"
def TX3 : u_T := fun k => match k with
  | 0 => ("TyreBook$Wagon", "number", "I", true)
  | 1 => ("TyreBook$Wagon", "kinds", "[I", true)
  | 2 => ("TyreBook$Wagon", "laid", "[LTyreBook$Tyre;", true)
  | _ => ("TyreBook$Wagon", "places", "I", false)
def tyX3 : Nat → FieldType := fun k => match k with
  | 0 => .int
  | 1 => .array .int
  | 2 => .array (.object "TyreBook$Tyre")
  | _ => .int
theorem nmX3 : ∀ a, a < 4 → ∀ b, b < 4 → a ≠ b → (TX3 a).2.1 ≠ (TX3 b).2.1 := by decide +kernel
theorem tyX3_ok : ∀ k, k < 4 → parseFieldDescriptor (TX3 k).2.2.1 = some (tyX3 k) := by decide +kernel
abbrev cX3_init : ByteArray := prog_5_method_1_code
def yX3_init : MethodName := ⟨RX3, "<init>", "(I)V"⟩
abbrev cX3_hasPlace : ByteArray := prog_5_method_2_code
def yX3_hasPlace : MethodName := ⟨RX3, "hasPlace", "(I)Z"⟩
abbrev cX3_isFull : ByteArray := prog_5_method_3_code
def yX3_isFull : MethodName := ⟨RX3, "isFull", "()Z"⟩
abbrev cX3_addPlace : ByteArray := prog_5_method_4_code
def yX3_addPlace : MethodName := ⟨RX3, "addPlace", "(I)I"⟩
abbrev cX3_kindOf : ByteArray := prog_5_method_5_code
def yX3_kindOf : MethodName := ⟨RX3, "kindOf", "(I)I"⟩
abbrev cX3_tyreOn : ByteArray := prog_5_method_6_code
def yX3_tyreOn : MethodName := ⟨RX3, "tyreOn", "(I)LTyreBook$Tyre;"⟩
abbrev cX3_lay : ByteArray := prog_5_method_7_code
def yX3_lay : MethodName := ⟨RX3, "lay", "(ILTyreBook$Tyre;)V"⟩
abbrev cX3_spot : ByteArray := prog_5_method_8_code
def yX3_spot : MethodName := ⟨RX3, "spot", "(I)I"⟩
abbrev cX3_pairOf : ByteArray := prog_5_method_9_code
def yX3_pairOf : MethodName := ⟨RX3, "pairOf", "(I)I"⟩
abbrev cX3_whyUnfit : ByteArray := prog_5_method_10_code
def yX3_whyUnfit : MethodName := ⟨RX3, "whyUnfit", "([II)I"⟩
abbrev cX3_flawOn : ByteArray := prog_5_method_11_code
def yX3_flawOn : MethodName := ⟨RX3, "flawOn", "(I[II)I"⟩
abbrev cX3_reach : ByteArray := prog_5_method_12_code
def yX3_reach : MethodName := ⟨RX3, "reach", "([I)I"⟩
abbrev cX3_rollingOn : ByteArray := prog_5_method_13_code
def yX3_rollingOn : MethodName := ⟨RX3, "rollingOn", "(IZ)LTyreBook$Tyre;"⟩
abbrev cX3_mostLengths : ByteArray := prog_5_method_14_code
def yX3_mostLengths : MethodName := ⟨RX3, "mostLengths", "(Z)I"⟩
abbrev cX3_roll : ByteArray := prog_5_method_15_code
def yX3_roll : MethodName := ⟨RX3, "roll", "(IZ)V"⟩
def RX4 : String := "TyreBook$Wear"
def TX4 : u_T := fun k => match k with
  | 0 => ("TyreBook$Wear", "upper", "J", false)
  | _ => ("TyreBook$Wear", "lower", "J", false)
def tyX4 : Nat → FieldType := fun k => match k with
  | 0 => .long
  | _ => .long
theorem nmX4 : ∀ a, a < 2 → ∀ b, b < 2 → a ≠ b → (TX4 a).2.1 ≠ (TX4 b).2.1 := by decide +kernel
theorem tyX4_ok : ∀ k, k < 2 → parseFieldDescriptor (TX4 k).2.2.1 = some (tyX4 k) := by decide +kernel
abbrev cX4_init : ByteArray := prog_6_method_1_code
def yX4_init : MethodName := ⟨RX4, "<init>", "()V"⟩
abbrev cX4_become : ByteArray := prog_6_method_2_code
def yX4_become : MethodName := ⟨RX4, "become", "(JJ)V"⟩
abbrev cX4_commonFactor : ByteArray := prog_6_method_3_code
def yX4_commonFactor : MethodName := ⟨RX4, "commonFactor", "(JJ)J"⟩
abbrev cX4_depthFrom : ByteArray := prog_6_method_4_code
def yX4_depthFrom : MethodName := ⟨RX4, "depthFrom", "(II)I"⟩
abbrev cX4_endFrom : ByteArray := prog_6_method_5_code
def yX4_endFrom : MethodName := ⟨RX4, "endFrom", "(III)I"⟩
def RX5 : String := "TyreBook"
def TX5 : u_T := fun k => match k with
  | 0 => ("TyreBook", "wagons", "[LTyreBook$Wagon;", true)
  | 1 => ("TyreBook", "tyres", "[LTyreBook$Tyre;", true)
  | 2 => ("TyreBook", "leasts", "[I", true)
  | 3 => ("TyreBook", "means", "[I", true)
  | 4 => ("TyreBook", "refusals", "[I", true)
  | 5 => ("TyreBook", "log", "LTyreBook$Log;", true)
  | 6 => ("TyreBook", "turning", "LTyreBook$Turning;", true)
  | 7 => ("TyreBook", "newWear", "LTyreBook$Wear;", true)
  | 8 => ("TyreBook", "wagonCount", "I", false)
  | 9 => ("TyreBook", "tyreCount", "I", false)
  | 10 => ("TyreBook", "mostApart", "I", false)
  | _ => ("TyreBook", "today", "I", false)
def tyX5 : Nat → FieldType := fun k => match k with
  | 0 => .array (.object "TyreBook$Wagon")
  | 1 => .array (.object "TyreBook$Tyre")
  | 2 => .array .int
  | 3 => .array .int
  | 4 => .array .int
  | 5 => .object "TyreBook$Log"
  | 6 => .object "TyreBook$Turning"
  | 7 => .object "TyreBook$Wear"
  | 8 => .int
  | 9 => .int
  | 10 => .int
  | _ => .int
theorem nmX5 : ∀ a, a < 12 → ∀ b, b < 12 → a ≠ b → (TX5 a).2.1 ≠ (TX5 b).2.1 := by decide +kernel
theorem tyX5_ok : ∀ k, k < 12 → parseFieldDescriptor (TX5 k).2.2.1 = some (tyX5 k) := by decide +kernel
abbrev cX5_init : ByteArray := prog_1_method_1_code
def yX5_init : MethodName := ⟨RX5, "<init>", "()V"⟩
abbrev cX5_wagon : ByteArray := prog_1_method_2_code
def yX5_wagon : MethodName := ⟨RX5, "wagon", "()I"⟩
abbrev cX5_place : ByteArray := prog_1_method_3_code
def yX5_place : MethodName := ⟨RX5, "place", "(II)I"⟩
abbrev cX5_least : ByteArray := prog_1_method_4_code
def yX5_least : MethodName := ⟨RX5, "least", "(II)I"⟩
abbrev cX5_apart : ByteArray := prog_1_method_5_code
def yX5_apart : MethodName := ⟨RX5, "apart", "(I)I"⟩
abbrev cX5_maker : ByteArray := prog_1_method_6_code
def yX5_maker : MethodName := ⟨RX5, "maker", "(II)I"⟩
abbrev cX5_buy : ByteArray := prog_1_method_7_code
def yX5_buy : MethodName := ⟨RX5, "buy", "(I)I"⟩
abbrev cX5_put : ByteArray := prog_1_method_8_code
def yX5_put : MethodName := ⟨RX5, "put", "(III)I"⟩
abbrev cX5_take : ByteArray := prog_1_method_9_code
def yX5_take : MethodName := ⟨RX5, "take", "(II)I"⟩
abbrev cX5_swap : ByteArray := prog_1_method_10_code
def yX5_swap : MethodName := ⟨RX5, "swap", "(IIII)I"⟩
abbrev cX5_read : ByteArray := prog_1_method_11_code
def yX5_read : MethodName := ⟨RX5, "read", "(II)I"⟩
abbrev cX5_go : ByteArray := prog_1_method_12_code
def yX5_go : MethodName := ⟨RX5, "go", "(IIZ)I"⟩
abbrev cX5_why : ByteArray := prog_1_method_13_code
def yX5_why : MethodName := ⟨RX5, "why", "(I)I"⟩
abbrev cX5_far : ByteArray := prog_1_method_14_code
def yX5_far : MethodName := ⟨RX5, "far", "(I)I"⟩
abbrev cX5_best : ByteArray := prog_1_method_15_code
def yX5_best : MethodName := ⟨RX5, "best", "(I)I"⟩
abbrev cX5_turn : ByteArray := prog_1_method_16_code
def yX5_turn : MethodName := ⟨RX5, "turn", "(I)I"⟩
abbrev cX5_wear : ByteArray := prog_1_method_17_code
def yX5_wear : MethodName := ⟨RX5, "wear", "(II)J"⟩
abbrev cX5_depth : ByteArray := prog_1_method_18_code
def yX5_depth : MethodName := ⟨RX5, "depth", "(II)I"⟩
abbrev cX5_end : ByteArray := prog_1_method_19_code
def yX5_end : MethodName := ⟨RX5, "end", "(II)I"⟩
abbrev cX5_send : ByteArray := prog_1_method_20_code
def yX5_send : MethodName := ⟨RX5, "send", "(I)I"⟩
abbrev cX5_mend : ByteArray := prog_1_method_21_code
def yX5_mend : MethodName := ⟨RX5, "mend", "(I)I"⟩
abbrev cX5_cast : ByteArray := prog_1_method_22_code
def yX5_cast : MethodName := ⟨RX5, "cast", "(I)I"⟩
abbrev cX5_days : ByteArray := prog_1_method_23_code
def yX5_days : MethodName := ⟨RX5, "days", "(I)I"⟩
abbrev cX5_few : ByteArray := prog_1_method_24_code
def yX5_few : MethodName := ⟨RX5, "few", "(III)I"⟩
abbrev cX5_asOf : ByteArray := prog_1_method_25_code
def yX5_asOf : MethodName := ⟨RX5, "asOf", "(II)I"⟩
abbrev cX5_tyreOf : ByteArray := prog_1_method_26_code
def yX5_tyreOf : MethodName := ⟨RX5, "tyreOf", "(II)I"⟩
abbrev cX5_reading : ByteArray := prog_1_method_27_code
def yX5_reading : MethodName := ⟨RX5, "reading", "(III)I"⟩
abbrev cX5_placeOf : ByteArray := prog_1_method_28_code
def yX5_placeOf : MethodName := ⟨RX5, "placeOf", "(III)I"⟩
abbrev cX5_count : ByteArray := prog_1_method_29_code
def yX5_count : MethodName := ⟨RX5, "count", "(I)I"⟩
abbrev cX5_refuse : ByteArray := prog_1_method_30_code
def yX5_refuse : MethodName := ⟨RX5, "refuse", "(I)I"⟩
abbrev cX5_outside : ByteArray := prog_1_method_31_code
def yX5_outside : MethodName := ⟨RX5, "outside", "(III)I"⟩
abbrev cX5_wagonAt : ByteArray := prog_1_method_32_code
def yX5_wagonAt : MethodName := ⟨RX5, "wagonAt", "(I)LTyreBook$Wagon;"⟩
abbrev cX5_tyreAt : ByteArray := prog_1_method_33_code
def yX5_tyreAt : MethodName := ⟨RX5, "tyreAt", "(I)LTyreBook$Tyre;"⟩
abbrev cX5_isKind : ByteArray := prog_1_method_34_code
def yX5_isKind : MethodName := ⟨RX5, "isKind", "(I)Z"⟩
abbrev cX5_isMaker : ByteArray := prog_1_method_35_code
def yX5_isMaker : MethodName := ⟨RX5, "isMaker", "(I)Z"⟩
abbrev cX5_numberOf : ByteArray := prog_1_method_36_code
def yX5_numberOf : MethodName := ⟨RX5, "numberOf", "(LTyreBook$Tyre;)I"⟩
abbrev cX5_at : ByteArray := prog_1_method_37_code
def yX5_at : MethodName := ⟨RX5, "at", "([II)I"⟩
abbrev cX5_write : ByteArray := prog_1_method_38_code
def yX5_write : MethodName := ⟨RX5, "write", "([III)V"⟩
abbrev cX5_move : ByteArray := prog_1_method_39_code
def yX5_move : MethodName := ⟨RX5, "move", "(LTyreBook$Tyre;I)V"⟩
abbrev cX5_layAsChosen : ByteArray := prog_1_method_40_code
def yX5_layAsChosen : MethodName := ⟨RX5, "layAsChosen", "(LTyreBook$Wagon;)V"⟩
abbrev cX5_refitTyresOf : ByteArray := prog_1_method_41_code
def yX5_refitTyresOf : MethodName := ⟨RX5, "refitTyresOf", "(I)V"⟩
abbrev cX5_nextBack : ByteArray := prog_1_method_42_code
def yX5_nextBack : MethodName := ⟨RX5, "nextBack", "(I)LTyreBook$Tyre;"⟩
abbrev cX5_bringBack : ByteArray := prog_1_method_43_code
def yX5_bringBack : MethodName := ⟨RX5, "bringBack", "(LTyreBook$Tyre;)V"⟩
abbrev cX5_neededOn : ByteArray := prog_1_method_44_code
def yX5_neededOn : MethodName := ⟨RX5, "neededOn", "(LTyreBook$Wagon;II)I"⟩
abbrev cX5_tyresFor : ByteArray := prog_1_method_45_code
def yX5_tyresFor : MethodName := ⟨RX5, "tyresFor", "(II)I"⟩
abbrev cX5_tyresAt : ByteArray := prog_1_method_46_code
def yX5_tyresAt : MethodName := ⟨RX5, "tyresAt", "(I)I"⟩
def RX6 : String := "TyreBookModel"
def TX6 : u_T := fun k => match k with
  | 0 => ("TyreBookModel", "refusals", "[I", true)
  | 1 => ("TyreBookModel", "leasts", "[I", true)
  | 2 => ("TyreBookModel", "means", "[I", true)
  | 3 => ("TyreBookModel", "day", "I", false)
  | 4 => ("TyreBookModel", "wagons", "I", false)
  | 5 => ("TyreBookModel", "tyres", "I", false)
  | 6 => ("TyreBookModel", "apart", "I", false)
  | 7 => ("TyreBookModel", "logged", "I", false)
  | 8 => ("TyreBookModel", "places", "[I", true)
  | 9 => ("TyreBookModel", "kind", "[I", true)
  | 10 => ("TyreBookModel", "on", "[I", true)
  | 11 => ("TyreBookModel", "pair", "[I", true)
  | 12 => ("TyreBookModel", "maker", "[I", true)
  | 13 => ("TyreBookModel", "bought", "[I", true)
  | 14 => ("TyreBookModel", "treads", "[I", true)
  | 15 => ("TyreBookModel", "mends", "[I", true)
  | 16 => ("TyreBookModel", "lengths", "[I", true)
  | 17 => ("TyreBookModel", "where", "[I", true)
  | 18 => ("TyreBookModel", "back", "[I", true)
  | 19 => ("TyreBookModel", "readings", "[I", true)
  | 20 => ("TyreBookModel", "readAt", "[I", true)
  | 21 => ("TyreBookModel", "readDepth", "[I", true)
  | 22 => ("TyreBookModel", "logTyre", "[I", true)
  | 23 => ("TyreBookModel", "logDay", "[I", true)
  | 24 => ("TyreBookModel", "logWhere", "[I", true)
  | 25 => ("TyreBookModel", "up", "J", false)
  | 26 => ("TyreBookModel", "down", "J", false)
  | 27 => ("TyreBookModel", "own", "[I", true)
  | 28 => ("TyreBookModel", "trial", "[I", true)
  | 29 => ("TyreBookModel", "best", "[I", true)
  | 30 => ("TyreBookModel", "ends", "[I", true)
  | 31 => ("TyreBookModel", "owns", "I", false)
  | 32 => ("TyreBookModel", "bestFar", "I", false)
  | _ => ("TyreBookModel", "bestChanges", "I", false)
def tyX6 : Nat → FieldType := fun k => match k with
  | 0 => .array .int
  | 1 => .array .int
  | 2 => .array .int
  | 3 => .int
  | 4 => .int
  | 5 => .int
  | 6 => .int
  | 7 => .int
  | 8 => .array .int
  | 9 => .array .int
  | 10 => .array .int
  | 11 => .array .int
  | 12 => .array .int
  | 13 => .array .int
  | 14 => .array .int
  | 15 => .array .int
  | 16 => .array .int
  | 17 => .array .int
  | 18 => .array .int
  | 19 => .array .int
  | 20 => .array .int
  | 21 => .array .int
  | 22 => .array .int
  | 23 => .array .int
  | 24 => .array .int
  | 25 => .long
  | 26 => .long
  | 27 => .array .int
  | 28 => .array .int
  | 29 => .array .int
  | 30 => .array .int
  | 31 => .int
  | 32 => .int
  | _ => .int
theorem nmX6 : ∀ a, a < 34 → ∀ b, b < 34 → a ≠ b → (TX6 a).2.1 ≠ (TX6 b).2.1 := by decide +kernel
theorem tyX6_ok : ∀ k, k < 34 → parseFieldDescriptor (TX6 k).2.2.1 = some (tyX6 k) := by decide +kernel
abbrev cX6_init : ByteArray := prog_8_method_1_code
def yX6_init : MethodName := ⟨RX6, "<init>", "()V"⟩
abbrev cX6_refuse : ByteArray := prog_8_method_2_code
def yX6_refuse : MethodName := ⟨RX6, "refuse", "(I)I"⟩
abbrev cX6_isIn : ByteArray := prog_8_method_3_code
def yX6_isIn : MethodName := ⟨RX6, "isIn", "(II)Z"⟩
abbrev cX6_isPlace : ByteArray := prog_8_method_4_code
def yX6_isPlace : MethodName := ⟨RX6, "isPlace", "(II)Z"⟩
abbrev cX6_spot : ByteArray := prog_8_method_5_code
def yX6_spot : MethodName := ⟨RX6, "spot", "(II)I"⟩
abbrev cX6_wagon : ByteArray := prog_8_method_6_code
def yX6_wagon : MethodName := ⟨RX6, "wagon", "()I"⟩
abbrev cX6_place : ByteArray := prog_8_method_7_code
def yX6_place : MethodName := ⟨RX6, "place", "(II)I"⟩
abbrev cX6_least : ByteArray := prog_8_method_8_code
def yX6_least : MethodName := ⟨RX6, "least", "(II)I"⟩
abbrev cX6_apart : ByteArray := prog_8_method_9_code
def yX6_apart : MethodName := ⟨RX6, "apart", "(I)I"⟩
abbrev cX6_maker : ByteArray := prog_8_method_10_code
def yX6_maker : MethodName := ⟨RX6, "maker", "(II)I"⟩
abbrev cX6_log : ByteArray := prog_8_method_11_code
def yX6_log : MethodName := ⟨RX6, "log", "(I)V"⟩
abbrev cX6_hasRoom : ByteArray := prog_8_method_12_code
def yX6_hasRoom : MethodName := ⟨RX6, "hasRoom", "(I)Z"⟩
abbrev cX6_fresh : ByteArray := prog_8_method_13_code
def yX6_fresh : MethodName := ⟨RX6, "fresh", "(I)V"⟩
abbrev cX6_buy : ByteArray := prog_8_method_14_code
def yX6_buy : MethodName := ⟨RX6, "buy", "(I)I"⟩
abbrev cX6_lays : ByteArray := prog_8_method_15_code
def yX6_lays : MethodName := ⟨RX6, "lays", "(II)V"⟩
abbrev cX6_put : ByteArray := prog_8_method_16_code
def yX6_put : MethodName := ⟨RX6, "put", "(III)I"⟩
abbrev cX6_take : ByteArray := prog_8_method_17_code
def yX6_take : MethodName := ⟨RX6, "take", "(II)I"⟩
abbrev cX6_swap : ByteArray := prog_8_method_18_code
def yX6_swap : MethodName := ⟨RX6, "swap", "(IIII)I"⟩
abbrev cX6_read : ByteArray := prog_8_method_19_code
def yX6_read : MethodName := ⟨RX6, "read", "(II)I"⟩
abbrev cX6_wearOf : ByteArray := prog_8_method_20_code
def yX6_wearOf : MethodName := ⟨RX6, "wearOf", "(I)V"⟩
abbrev cX6_lastOf : ByteArray := prog_8_method_21_code
def yX6_lastOf : MethodName := ⟨RX6, "lastOf", "(I)I"⟩
abbrev cX6_depthOf : ByteArray := prog_8_method_22_code
def yX6_depthOf : MethodName := ⟨RX6, "depthOf", "(II)I"⟩
abbrev cX6_endOf : ByteArray := prog_8_method_23_code
def yX6_endOf : MethodName := ⟨RX6, "endOf", "(II)I"⟩
abbrev cX6_whyOf : ByteArray := prog_8_method_24_code
def yX6_whyOf : MethodName := ⟨RX6, "whyOf", "(I)I"⟩
abbrev cX6_farOf : ByteArray := prog_8_method_25_code
def yX6_farOf : MethodName := ⟨RX6, "farOf", "(I)I"⟩
abbrev cX6_goes : ByteArray := prog_8_method_26_code
def yX6_goes : MethodName := ⟨RX6, "goes", "(IZ)Z"⟩
abbrev cX6_go : ByteArray := prog_8_method_27_code
def yX6_go : MethodName := ⟨RX6, "go", "(IIZ)I"⟩
abbrev cX6_why : ByteArray := prog_8_method_28_code
def yX6_why : MethodName := ⟨RX6, "why", "(I)I"⟩
abbrev cX6_far : ByteArray := prog_8_method_29_code
def yX6_far : MethodName := ⟨RX6, "far", "(I)I"⟩
abbrev cX6_tries : ByteArray := prog_8_method_30_code
def yX6_tries : MethodName := ⟨RX6, "tries", "(I)Z"⟩
abbrev cX6_lay : ByteArray := prog_8_method_31_code
def yX6_lay : MethodName := ⟨RX6, "lay", "(IIIII)V"⟩
abbrev cX6_best : ByteArray := prog_8_method_32_code
def yX6_best : MethodName := ⟨RX6, "best", "(I)I"⟩
abbrev cX6_turn : ByteArray := prog_8_method_33_code
def yX6_turn : MethodName := ⟨RX6, "turn", "(I)I"⟩
abbrev cX6_wear : ByteArray := prog_8_method_34_code
def yX6_wear : MethodName := ⟨RX6, "wear", "(II)J"⟩
abbrev cX6_depth : ByteArray := prog_8_method_35_code
def yX6_depth : MethodName := ⟨RX6, "depth", "(II)I"⟩
abbrev cX6_end : ByteArray := prog_8_method_36_code
def yX6_end : MethodName := ⟨RX6, "end", "(II)I"⟩
abbrev cX6_send : ByteArray := prog_8_method_37_code
def yX6_send : MethodName := ⟨RX6, "send", "(I)I"⟩
abbrev cX6_mend : ByteArray := prog_8_method_38_code
def yX6_mend : MethodName := ⟨RX6, "mend", "(I)I"⟩
abbrev cX6_cast : ByteArray := prog_8_method_39_code
def yX6_cast : MethodName := ⟨RX6, "cast", "(I)I"⟩
abbrev cX6_days : ByteArray := prog_8_method_40_code
def yX6_days : MethodName := ⟨RX6, "days", "(I)I"⟩
abbrev cX6_few : ByteArray := prog_8_method_41_code
def yX6_few : MethodName := ⟨RX6, "few", "(III)I"⟩
abbrev cX6_asOf : ByteArray := prog_8_method_42_code
def yX6_asOf : MethodName := ⟨RX6, "asOf", "(II)I"⟩
abbrev cX6_tyreOf : ByteArray := prog_8_method_43_code
def yX6_tyreOf : MethodName := ⟨RX6, "tyreOf", "(II)I"⟩
abbrev cX6_reading : ByteArray := prog_8_method_44_code
def yX6_reading : MethodName := ⟨RX6, "reading", "(III)I"⟩
abbrev cX6_placeOf : ByteArray := prog_8_method_45_code
def yX6_placeOf : MethodName := ⟨RX6, "placeOf", "(III)I"⟩
abbrev cX6_count : ByteArray := prog_8_method_46_code
def yX6_count : MethodName := ⟨RX6, "count", "(I)I"⟩
def RJ9 : String := "java/lang/Math"
def TJ9 : u_T := fun k => match k with
  | _ => ("", "", "", false)
def tyJ9 : Nat → FieldType := fun k => match k with
  | _ => .int
theorem nmJ9 : ∀ a, a < 0 → ∀ b, b < 0 → a ≠ b → (TJ9 a).2.1 ≠ (TJ9 b).2.1 := by decide +kernel
theorem tyJ9_ok : ∀ k, k < 0 → parseFieldDescriptor (TJ9 k).2.2.1 = some (tyJ9 k) := by decide +kernel
abbrev cJ9_floorDiv_f86c9 : ByteArray := prog_10_method_49_code
def yJ9_floorDiv_f86c9 : MethodName := ⟨RJ9, "floorDiv", "(JJ)J"⟩
abbrev cJ9_abs_0f7a4 : ByteArray := prog_10_method_59_code
def yJ9_abs_0f7a4 : MethodName := ⟨RJ9, "abs", "(I)I"⟩
abbrev cJ9_max_7cf53 : ByteArray := prog_10_method_65_code
def yJ9_max_7cf53 : MethodName := ⟨RJ9, "max", "(II)I"⟩
abbrev cJ9_max_f86c9 : ByteArray := prog_10_method_66_code
def yJ9_max_f86c9 : MethodName := ⟨RJ9, "max", "(JJ)J"⟩
abbrev cJ9_min_7cf53 : ByteArray := prog_10_method_69_code
def yJ9_min_7cf53 : MethodName := ⟨RJ9, "min", "(II)I"⟩
abbrev cJ9_min_f86c9 : ByteArray := prog_10_method_70_code
def yJ9_min_f86c9 : MethodName := ⟨RJ9, "min", "(JJ)J"⟩
def RL : String := "TyreBookLaw"
abbrev cL_law : ByteArray := code
def yL_law : MethodName := ⟨RL, "law", "([I)Z"⟩
abbrev vwCl : List vw_C := [(RX0, TX0, 4), (RX1, TX1, 9), (RX2, TX2, 12), (RX3, TX3, 4), (RX4, TX4, 2), (RX5, TX5, 12), (RX6, TX6, 34)]
end
section
theorem dJ9_floorDiv_f86c9_0 : decode cJ9_floorDiv_f86c9 0 = .ok (.lload_n 0, 1) := by decide +kernel
theorem dJ9_floorDiv_f86c9_1 : decode cJ9_floorDiv_f86c9 1 = .ok (.lload_n 2, 1) := by decide +kernel
theorem dJ9_floorDiv_f86c9_2 : decode cJ9_floorDiv_f86c9 2 = .ok (.ldiv, 1) := by decide +kernel
theorem dJ9_floorDiv_f86c9_3 : decode cJ9_floorDiv_f86c9 3 = .ok (.lstore 4, 2) := by decide +kernel
theorem dJ9_floorDiv_f86c9_5 : decode cJ9_floorDiv_f86c9 5 = .ok (.lload_n 0, 1) := by decide +kernel
theorem dJ9_floorDiv_f86c9_6 : decode cJ9_floorDiv_f86c9 6 = .ok (.lload_n 2, 1) := by decide +kernel
theorem dJ9_floorDiv_f86c9_7 : decode cJ9_floorDiv_f86c9 7 = .ok (.lxor, 1) := by decide +kernel
theorem dJ9_floorDiv_f86c9_8 : decode cJ9_floorDiv_f86c9 8 = .ok (.lconst 0, 1) := by decide +kernel
theorem dJ9_floorDiv_f86c9_9 : decode cJ9_floorDiv_f86c9 9 = .ok (.lcmp, 1) := by decide +kernel
theorem dJ9_floorDiv_f86c9_10 : decode cJ9_floorDiv_f86c9 10 = .ok (.ifCond .ge 17, 3) := by decide +kernel
theorem dJ9_floorDiv_f86c9_13 : decode cJ9_floorDiv_f86c9 13 = .ok (.lload 4, 2) := by decide +kernel
theorem dJ9_floorDiv_f86c9_15 : decode cJ9_floorDiv_f86c9 15 = .ok (.lload_n 2, 1) := by decide +kernel
theorem dJ9_floorDiv_f86c9_16 : decode cJ9_floorDiv_f86c9 16 = .ok (.lmul, 1) := by decide +kernel
theorem dJ9_floorDiv_f86c9_17 : decode cJ9_floorDiv_f86c9 17 = .ok (.lload_n 0, 1) := by decide +kernel
theorem dJ9_floorDiv_f86c9_18 : decode cJ9_floorDiv_f86c9 18 = .ok (.lcmp, 1) := by decide +kernel
theorem dJ9_floorDiv_f86c9_19 : decode cJ9_floorDiv_f86c9 19 = .ok (.ifCond .eq 8, 3) := by decide +kernel
theorem dJ9_floorDiv_f86c9_22 : decode cJ9_floorDiv_f86c9 22 = .ok (.lload 4, 2) := by decide +kernel
theorem dJ9_floorDiv_f86c9_24 : decode cJ9_floorDiv_f86c9 24 = .ok (.lconst 1, 1) := by decide +kernel
theorem dJ9_floorDiv_f86c9_25 : decode cJ9_floorDiv_f86c9 25 = .ok (.lsub, 1) := by decide +kernel
theorem dJ9_floorDiv_f86c9_26 : decode cJ9_floorDiv_f86c9 26 = .ok (.lreturn, 1) := by decide +kernel
theorem dJ9_floorDiv_f86c9_27 : decode cJ9_floorDiv_f86c9 27 = .ok (.lload 4, 2) := by decide +kernel
theorem dJ9_floorDiv_f86c9_29 : decode cJ9_floorDiv_f86c9 29 = .ok (.lreturn, 1) := by decide +kernel
theorem dJ9_abs_0f7a4_0 : decode cJ9_abs_0f7a4 0 = .ok (.iload_n 0, 1) := by decide +kernel
theorem dJ9_abs_0f7a4_1 : decode cJ9_abs_0f7a4 1 = .ok (.ifCond .ge 8, 3) := by decide +kernel
theorem dJ9_abs_0f7a4_4 : decode cJ9_abs_0f7a4 4 = .ok (.iload_n 0, 1) := by decide +kernel
theorem dJ9_abs_0f7a4_5 : decode cJ9_abs_0f7a4 5 = .ok (.ineg, 1) := by decide +kernel
theorem dJ9_abs_0f7a4_6 : decode cJ9_abs_0f7a4 6 = .ok (.goto 4, 3) := by decide +kernel
theorem dJ9_abs_0f7a4_9 : decode cJ9_abs_0f7a4 9 = .ok (.iload_n 0, 1) := by decide +kernel
theorem dJ9_abs_0f7a4_10 : decode cJ9_abs_0f7a4 10 = .ok (.ireturn, 1) := by decide +kernel
theorem dJ9_max_7cf53_0 : decode cJ9_max_7cf53 0 = .ok (.iload_n 0, 1) := by decide +kernel
theorem dJ9_max_7cf53_1 : decode cJ9_max_7cf53 1 = .ok (.iload_n 1, 1) := by decide +kernel
theorem dJ9_max_7cf53_2 : decode cJ9_max_7cf53 2 = .ok (.if_icmp .lt 7, 3) := by decide +kernel
theorem dJ9_max_7cf53_5 : decode cJ9_max_7cf53 5 = .ok (.iload_n 0, 1) := by decide +kernel
theorem dJ9_max_7cf53_6 : decode cJ9_max_7cf53 6 = .ok (.goto 4, 3) := by decide +kernel
theorem dJ9_max_7cf53_9 : decode cJ9_max_7cf53 9 = .ok (.iload_n 1, 1) := by decide +kernel
theorem dJ9_max_7cf53_10 : decode cJ9_max_7cf53 10 = .ok (.ireturn, 1) := by decide +kernel
theorem dJ9_max_f86c9_0 : decode cJ9_max_f86c9 0 = .ok (.lload_n 0, 1) := by decide +kernel
theorem dJ9_max_f86c9_1 : decode cJ9_max_f86c9 1 = .ok (.lload_n 2, 1) := by decide +kernel
theorem dJ9_max_f86c9_2 : decode cJ9_max_f86c9 2 = .ok (.lcmp, 1) := by decide +kernel
theorem dJ9_max_f86c9_3 : decode cJ9_max_f86c9 3 = .ok (.ifCond .lt 7, 3) := by decide +kernel
theorem dJ9_max_f86c9_6 : decode cJ9_max_f86c9 6 = .ok (.lload_n 0, 1) := by decide +kernel
theorem dJ9_max_f86c9_7 : decode cJ9_max_f86c9 7 = .ok (.goto 4, 3) := by decide +kernel
theorem dJ9_max_f86c9_10 : decode cJ9_max_f86c9 10 = .ok (.lload_n 2, 1) := by decide +kernel
theorem dJ9_max_f86c9_11 : decode cJ9_max_f86c9 11 = .ok (.lreturn, 1) := by decide +kernel
theorem dJ9_min_7cf53_0 : decode cJ9_min_7cf53 0 = .ok (.iload_n 0, 1) := by decide +kernel
theorem dJ9_min_7cf53_1 : decode cJ9_min_7cf53 1 = .ok (.iload_n 1, 1) := by decide +kernel
theorem dJ9_min_7cf53_2 : decode cJ9_min_7cf53 2 = .ok (.if_icmp .gt 7, 3) := by decide +kernel
theorem dJ9_min_7cf53_5 : decode cJ9_min_7cf53 5 = .ok (.iload_n 0, 1) := by decide +kernel
theorem dJ9_min_7cf53_6 : decode cJ9_min_7cf53 6 = .ok (.goto 4, 3) := by decide +kernel
theorem dJ9_min_7cf53_9 : decode cJ9_min_7cf53 9 = .ok (.iload_n 1, 1) := by decide +kernel
theorem dJ9_min_7cf53_10 : decode cJ9_min_7cf53 10 = .ok (.ireturn, 1) := by decide +kernel
theorem dJ9_min_f86c9_0 : decode cJ9_min_f86c9 0 = .ok (.lload_n 0, 1) := by decide +kernel
theorem dJ9_min_f86c9_1 : decode cJ9_min_f86c9 1 = .ok (.lload_n 2, 1) := by decide +kernel
theorem dJ9_min_f86c9_2 : decode cJ9_min_f86c9 2 = .ok (.lcmp, 1) := by decide +kernel
theorem dJ9_min_f86c9_3 : decode cJ9_min_f86c9 3 = .ok (.ifCond .gt 7, 3) := by decide +kernel
theorem dJ9_min_f86c9_6 : decode cJ9_min_f86c9 6 = .ok (.lload_n 0, 1) := by decide +kernel
theorem dJ9_min_f86c9_7 : decode cJ9_min_f86c9 7 = .ok (.goto 4, 3) := by decide +kernel
theorem dJ9_min_f86c9_10 : decode cJ9_min_f86c9 10 = .ok (.lload_n 2, 1) := by decide +kernel
theorem dJ9_min_f86c9_11 : decode cJ9_min_f86c9 11 = .ok (.lreturn, 1) := by decide +kernel
end
section
theorem dL_law_0 : decode cL_law 0 = .ok (.new 7, 3) := by decide +kernel
theorem dL_law_3 : decode cL_law 3 = .ok (.dup, 1) := by decide +kernel
theorem dL_law_4 : decode cL_law 4 = .ok (.invokespecial 9, 3) := by decide +kernel
theorem dL_law_7 : decode cL_law 7 = .ok (.astore_n 1, 1) := by decide +kernel
theorem dL_law_8 : decode cL_law 8 = .ok (.new 10, 3) := by decide +kernel
theorem dL_law_11 : decode cL_law 11 = .ok (.dup, 1) := by decide +kernel
theorem dL_law_12 : decode cL_law 12 = .ok (.invokespecial 12, 3) := by decide +kernel
theorem dL_law_15 : decode cL_law 15 = .ok (.astore_n 2, 1) := by decide +kernel
theorem dL_law_16 : decode cL_law 16 = .ok (.iconst 0, 1) := by decide +kernel
theorem dL_law_17 : decode cL_law 17 = .ok (.istore_n 3, 1) := by decide +kernel
theorem dL_law_18 : decode cL_law 18 = .ok (.iload_n 3, 1) := by decide +kernel
theorem dL_law_19 : decode cL_law 19 = .ok (.aload_n 0, 1) := by decide +kernel
theorem dL_law_20 : decode cL_law 20 = .ok (.arraylength, 1) := by decide +kernel
theorem dL_law_21 : decode cL_law 21 = .ok (.iconst 5, 1) := by decide +kernel
theorem dL_law_22 : decode cL_law 22 = .ok (.isub, 1) := by decide +kernel
theorem dL_law_23 : decode cL_law 23 = .ok (.if_icmp .gt 1024, 3) := by decide +kernel
theorem dL_law_26 : decode cL_law 26 = .ok (.aload_n 0, 1) := by decide +kernel
theorem dL_law_27 : decode cL_law 27 = .ok (.iload_n 3, 1) := by decide +kernel
theorem dL_law_28 : decode cL_law 28 = .ok (.iaload, 1) := by decide +kernel
theorem dL_law_29 : decode cL_law 29 = .ok (.bipush 31, 2) := by decide +kernel
theorem dL_law_31 : decode cL_law 31 = .ok (.iand, 1) := by decide +kernel
theorem dL_law_32 : decode cL_law 32 = .ok (.tableswitch 1009 0 27 #[128, 141, 174, 207, 230, 263, 286, 329, 362, 415, 448, 507, 530, 553, 576, 599, 633, 666, 699, 722, 745, 768, 791, 834, 867, 900, 943, 986], 128) := by decide +kernel
theorem dL_law_160 : decode cL_law 160 = .ok (.aload_n 1, 1) := by decide +kernel
theorem dL_law_161 : decode cL_law 161 = .ok (.invokevirtual 13, 3) := by decide +kernel
theorem dL_law_164 : decode cL_law 164 = .ok (.aload_n 2, 1) := by decide +kernel
theorem dL_law_165 : decode cL_law 165 = .ok (.invokevirtual 17, 3) := by decide +kernel
theorem dL_law_168 : decode cL_law 168 = .ok (.if_icmp .eq 873, 3) := by decide +kernel
theorem dL_law_171 : decode cL_law 171 = .ok (.iconst 0, 1) := by decide +kernel
theorem dL_law_172 : decode cL_law 172 = .ok (.ireturn, 1) := by decide +kernel
theorem dL_law_173 : decode cL_law 173 = .ok (.aload_n 1, 1) := by decide +kernel
theorem dL_law_174 : decode cL_law 174 = .ok (.aload_n 0, 1) := by decide +kernel
theorem dL_law_175 : decode cL_law 175 = .ok (.iload_n 3, 1) := by decide +kernel
theorem dL_law_176 : decode cL_law 176 = .ok (.iconst 1, 1) := by decide +kernel
theorem dL_law_177 : decode cL_law 177 = .ok (.iadd, 1) := by decide +kernel
theorem dL_law_178 : decode cL_law 178 = .ok (.iaload, 1) := by decide +kernel
theorem dL_law_179 : decode cL_law 179 = .ok (.aload_n 0, 1) := by decide +kernel
theorem dL_law_180 : decode cL_law 180 = .ok (.iload_n 3, 1) := by decide +kernel
theorem dL_law_181 : decode cL_law 181 = .ok (.iconst 2, 1) := by decide +kernel
theorem dL_law_182 : decode cL_law 182 = .ok (.iadd, 1) := by decide +kernel
theorem dL_law_183 : decode cL_law 183 = .ok (.iaload, 1) := by decide +kernel
theorem dL_law_184 : decode cL_law 184 = .ok (.invokevirtual 18, 3) := by decide +kernel
theorem dL_law_187 : decode cL_law 187 = .ok (.aload_n 2, 1) := by decide +kernel
theorem dL_law_188 : decode cL_law 188 = .ok (.aload_n 0, 1) := by decide +kernel
theorem dL_law_189 : decode cL_law 189 = .ok (.iload_n 3, 1) := by decide +kernel
theorem dL_law_190 : decode cL_law 190 = .ok (.iconst 1, 1) := by decide +kernel
theorem dL_law_191 : decode cL_law 191 = .ok (.iadd, 1) := by decide +kernel
theorem dL_law_192 : decode cL_law 192 = .ok (.iaload, 1) := by decide +kernel
theorem dL_law_193 : decode cL_law 193 = .ok (.aload_n 0, 1) := by decide +kernel
theorem dL_law_194 : decode cL_law 194 = .ok (.iload_n 3, 1) := by decide +kernel
theorem dL_law_195 : decode cL_law 195 = .ok (.iconst 2, 1) := by decide +kernel
theorem dL_law_196 : decode cL_law 196 = .ok (.iadd, 1) := by decide +kernel
theorem dL_law_197 : decode cL_law 197 = .ok (.iaload, 1) := by decide +kernel
theorem dL_law_198 : decode cL_law 198 = .ok (.invokevirtual 22, 3) := by decide +kernel
theorem dL_law_201 : decode cL_law 201 = .ok (.if_icmp .eq 840, 3) := by decide +kernel
theorem dL_law_204 : decode cL_law 204 = .ok (.iconst 0, 1) := by decide +kernel
theorem dL_law_205 : decode cL_law 205 = .ok (.ireturn, 1) := by decide +kernel
theorem dL_law_206 : decode cL_law 206 = .ok (.aload_n 1, 1) := by decide +kernel
theorem dL_law_207 : decode cL_law 207 = .ok (.aload_n 0, 1) := by decide +kernel
theorem dL_law_208 : decode cL_law 208 = .ok (.iload_n 3, 1) := by decide +kernel
theorem dL_law_209 : decode cL_law 209 = .ok (.iconst 1, 1) := by decide +kernel
theorem dL_law_210 : decode cL_law 210 = .ok (.iadd, 1) := by decide +kernel
theorem dL_law_211 : decode cL_law 211 = .ok (.iaload, 1) := by decide +kernel
theorem dL_law_212 : decode cL_law 212 = .ok (.aload_n 0, 1) := by decide +kernel
theorem dL_law_213 : decode cL_law 213 = .ok (.iload_n 3, 1) := by decide +kernel
theorem dL_law_214 : decode cL_law 214 = .ok (.iconst 2, 1) := by decide +kernel
theorem dL_law_215 : decode cL_law 215 = .ok (.iadd, 1) := by decide +kernel
theorem dL_law_216 : decode cL_law 216 = .ok (.iaload, 1) := by decide +kernel
theorem dL_law_217 : decode cL_law 217 = .ok (.invokevirtual 23, 3) := by decide +kernel
theorem dL_law_220 : decode cL_law 220 = .ok (.aload_n 2, 1) := by decide +kernel
theorem dL_law_221 : decode cL_law 221 = .ok (.aload_n 0, 1) := by decide +kernel
theorem dL_law_222 : decode cL_law 222 = .ok (.iload_n 3, 1) := by decide +kernel
theorem dL_law_223 : decode cL_law 223 = .ok (.iconst 1, 1) := by decide +kernel
theorem dL_law_224 : decode cL_law 224 = .ok (.iadd, 1) := by decide +kernel
theorem dL_law_225 : decode cL_law 225 = .ok (.iaload, 1) := by decide +kernel
theorem dL_law_226 : decode cL_law 226 = .ok (.aload_n 0, 1) := by decide +kernel
theorem dL_law_227 : decode cL_law 227 = .ok (.iload_n 3, 1) := by decide +kernel
theorem dL_law_228 : decode cL_law 228 = .ok (.iconst 2, 1) := by decide +kernel
theorem dL_law_229 : decode cL_law 229 = .ok (.iadd, 1) := by decide +kernel
theorem dL_law_230 : decode cL_law 230 = .ok (.iaload, 1) := by decide +kernel
theorem dL_law_231 : decode cL_law 231 = .ok (.invokevirtual 26, 3) := by decide +kernel
theorem dL_law_234 : decode cL_law 234 = .ok (.if_icmp .eq 807, 3) := by decide +kernel
theorem dL_law_237 : decode cL_law 237 = .ok (.iconst 0, 1) := by decide +kernel
theorem dL_law_238 : decode cL_law 238 = .ok (.ireturn, 1) := by decide +kernel
theorem dL_law_239 : decode cL_law 239 = .ok (.aload_n 1, 1) := by decide +kernel
theorem dL_law_240 : decode cL_law 240 = .ok (.aload_n 0, 1) := by decide +kernel
theorem dL_law_241 : decode cL_law 241 = .ok (.iload_n 3, 1) := by decide +kernel
theorem dL_law_242 : decode cL_law 242 = .ok (.iconst 1, 1) := by decide +kernel
theorem dL_law_243 : decode cL_law 243 = .ok (.iadd, 1) := by decide +kernel
theorem dL_law_244 : decode cL_law 244 = .ok (.iaload, 1) := by decide +kernel
theorem dL_law_245 : decode cL_law 245 = .ok (.invokevirtual 27, 3) := by decide +kernel
theorem dL_law_248 : decode cL_law 248 = .ok (.aload_n 2, 1) := by decide +kernel
theorem dL_law_249 : decode cL_law 249 = .ok (.aload_n 0, 1) := by decide +kernel
theorem dL_law_250 : decode cL_law 250 = .ok (.iload_n 3, 1) := by decide +kernel
theorem dL_law_251 : decode cL_law 251 = .ok (.iconst 1, 1) := by decide +kernel
theorem dL_law_252 : decode cL_law 252 = .ok (.iadd, 1) := by decide +kernel
theorem dL_law_253 : decode cL_law 253 = .ok (.iaload, 1) := by decide +kernel
theorem dL_law_254 : decode cL_law 254 = .ok (.invokevirtual 31, 3) := by decide +kernel
theorem dL_law_257 : decode cL_law 257 = .ok (.if_icmp .eq 784, 3) := by decide +kernel
theorem dL_law_260 : decode cL_law 260 = .ok (.iconst 0, 1) := by decide +kernel
theorem dL_law_261 : decode cL_law 261 = .ok (.ireturn, 1) := by decide +kernel
theorem dL_law_262 : decode cL_law 262 = .ok (.aload_n 1, 1) := by decide +kernel
theorem dL_law_263 : decode cL_law 263 = .ok (.aload_n 0, 1) := by decide +kernel
theorem dL_law_264 : decode cL_law 264 = .ok (.iload_n 3, 1) := by decide +kernel
theorem dL_law_265 : decode cL_law 265 = .ok (.iconst 1, 1) := by decide +kernel
theorem dL_law_266 : decode cL_law 266 = .ok (.iadd, 1) := by decide +kernel
theorem dL_law_267 : decode cL_law 267 = .ok (.iaload, 1) := by decide +kernel
theorem dL_law_268 : decode cL_law 268 = .ok (.aload_n 0, 1) := by decide +kernel
theorem dL_law_269 : decode cL_law 269 = .ok (.iload_n 3, 1) := by decide +kernel
theorem dL_law_270 : decode cL_law 270 = .ok (.iconst 2, 1) := by decide +kernel
theorem dL_law_271 : decode cL_law 271 = .ok (.iadd, 1) := by decide +kernel
theorem dL_law_272 : decode cL_law 272 = .ok (.iaload, 1) := by decide +kernel
theorem dL_law_273 : decode cL_law 273 = .ok (.invokevirtual 32, 3) := by decide +kernel
theorem dL_law_276 : decode cL_law 276 = .ok (.aload_n 2, 1) := by decide +kernel
theorem dL_law_277 : decode cL_law 277 = .ok (.aload_n 0, 1) := by decide +kernel
theorem dL_law_278 : decode cL_law 278 = .ok (.iload_n 3, 1) := by decide +kernel
theorem dL_law_279 : decode cL_law 279 = .ok (.iconst 1, 1) := by decide +kernel
theorem dL_law_280 : decode cL_law 280 = .ok (.iadd, 1) := by decide +kernel
theorem dL_law_281 : decode cL_law 281 = .ok (.iaload, 1) := by decide +kernel
theorem dL_law_282 : decode cL_law 282 = .ok (.aload_n 0, 1) := by decide +kernel
theorem dL_law_283 : decode cL_law 283 = .ok (.iload_n 3, 1) := by decide +kernel
theorem dL_law_284 : decode cL_law 284 = .ok (.iconst 2, 1) := by decide +kernel
theorem dL_law_285 : decode cL_law 285 = .ok (.iadd, 1) := by decide +kernel
theorem dL_law_286 : decode cL_law 286 = .ok (.iaload, 1) := by decide +kernel
theorem dL_law_287 : decode cL_law 287 = .ok (.invokevirtual 35, 3) := by decide +kernel
theorem dL_law_290 : decode cL_law 290 = .ok (.if_icmp .eq 751, 3) := by decide +kernel
theorem dL_law_293 : decode cL_law 293 = .ok (.iconst 0, 1) := by decide +kernel
theorem dL_law_294 : decode cL_law 294 = .ok (.ireturn, 1) := by decide +kernel
theorem dL_law_295 : decode cL_law 295 = .ok (.aload_n 1, 1) := by decide +kernel
theorem dL_law_296 : decode cL_law 296 = .ok (.aload_n 0, 1) := by decide +kernel
theorem dL_law_297 : decode cL_law 297 = .ok (.iload_n 3, 1) := by decide +kernel
theorem dL_law_298 : decode cL_law 298 = .ok (.iconst 1, 1) := by decide +kernel
theorem dL_law_299 : decode cL_law 299 = .ok (.iadd, 1) := by decide +kernel
theorem dL_law_300 : decode cL_law 300 = .ok (.iaload, 1) := by decide +kernel
theorem dL_law_301 : decode cL_law 301 = .ok (.invokevirtual 36, 3) := by decide +kernel
theorem dL_law_304 : decode cL_law 304 = .ok (.aload_n 2, 1) := by decide +kernel
theorem dL_law_305 : decode cL_law 305 = .ok (.aload_n 0, 1) := by decide +kernel
theorem dL_law_306 : decode cL_law 306 = .ok (.iload_n 3, 1) := by decide +kernel
theorem dL_law_307 : decode cL_law 307 = .ok (.iconst 1, 1) := by decide +kernel
theorem dL_law_308 : decode cL_law 308 = .ok (.iadd, 1) := by decide +kernel
theorem dL_law_309 : decode cL_law 309 = .ok (.iaload, 1) := by decide +kernel
theorem dL_law_310 : decode cL_law 310 = .ok (.invokevirtual 39, 3) := by decide +kernel
theorem dL_law_313 : decode cL_law 313 = .ok (.if_icmp .eq 728, 3) := by decide +kernel
theorem dL_law_316 : decode cL_law 316 = .ok (.iconst 0, 1) := by decide +kernel
theorem dL_law_317 : decode cL_law 317 = .ok (.ireturn, 1) := by decide +kernel
theorem dL_law_318 : decode cL_law 318 = .ok (.aload_n 1, 1) := by decide +kernel
theorem dL_law_319 : decode cL_law 319 = .ok (.aload_n 0, 1) := by decide +kernel
theorem dL_law_320 : decode cL_law 320 = .ok (.iload_n 3, 1) := by decide +kernel
theorem dL_law_321 : decode cL_law 321 = .ok (.iconst 1, 1) := by decide +kernel
theorem dL_law_322 : decode cL_law 322 = .ok (.iadd, 1) := by decide +kernel
theorem dL_law_323 : decode cL_law 323 = .ok (.iaload, 1) := by decide +kernel
theorem dL_law_324 : decode cL_law 324 = .ok (.aload_n 0, 1) := by decide +kernel
theorem dL_law_325 : decode cL_law 325 = .ok (.iload_n 3, 1) := by decide +kernel
theorem dL_law_326 : decode cL_law 326 = .ok (.iconst 2, 1) := by decide +kernel
theorem dL_law_327 : decode cL_law 327 = .ok (.iadd, 1) := by decide +kernel
theorem dL_law_328 : decode cL_law 328 = .ok (.iaload, 1) := by decide +kernel
theorem dL_law_329 : decode cL_law 329 = .ok (.aload_n 0, 1) := by decide +kernel
theorem dL_law_330 : decode cL_law 330 = .ok (.iload_n 3, 1) := by decide +kernel
theorem dL_law_331 : decode cL_law 331 = .ok (.iconst 3, 1) := by decide +kernel
theorem dL_law_332 : decode cL_law 332 = .ok (.iadd, 1) := by decide +kernel
theorem dL_law_333 : decode cL_law 333 = .ok (.iaload, 1) := by decide +kernel
theorem dL_law_334 : decode cL_law 334 = .ok (.invokevirtual 40, 3) := by decide +kernel
theorem dL_law_337 : decode cL_law 337 = .ok (.aload_n 2, 1) := by decide +kernel
theorem dL_law_338 : decode cL_law 338 = .ok (.aload_n 0, 1) := by decide +kernel
theorem dL_law_339 : decode cL_law 339 = .ok (.iload_n 3, 1) := by decide +kernel
theorem dL_law_340 : decode cL_law 340 = .ok (.iconst 1, 1) := by decide +kernel
theorem dL_law_341 : decode cL_law 341 = .ok (.iadd, 1) := by decide +kernel
theorem dL_law_342 : decode cL_law 342 = .ok (.iaload, 1) := by decide +kernel
theorem dL_law_343 : decode cL_law 343 = .ok (.aload_n 0, 1) := by decide +kernel
theorem dL_law_344 : decode cL_law 344 = .ok (.iload_n 3, 1) := by decide +kernel
theorem dL_law_345 : decode cL_law 345 = .ok (.iconst 2, 1) := by decide +kernel
theorem dL_law_346 : decode cL_law 346 = .ok (.iadd, 1) := by decide +kernel
theorem dL_law_347 : decode cL_law 347 = .ok (.iaload, 1) := by decide +kernel
theorem dL_law_348 : decode cL_law 348 = .ok (.aload_n 0, 1) := by decide +kernel
theorem dL_law_349 : decode cL_law 349 = .ok (.iload_n 3, 1) := by decide +kernel
theorem dL_law_350 : decode cL_law 350 = .ok (.iconst 3, 1) := by decide +kernel
theorem dL_law_351 : decode cL_law 351 = .ok (.iadd, 1) := by decide +kernel
theorem dL_law_352 : decode cL_law 352 = .ok (.iaload, 1) := by decide +kernel
theorem dL_law_353 : decode cL_law 353 = .ok (.invokevirtual 44, 3) := by decide +kernel
theorem dL_law_356 : decode cL_law 356 = .ok (.if_icmp .eq 685, 3) := by decide +kernel
theorem dL_law_359 : decode cL_law 359 = .ok (.iconst 0, 1) := by decide +kernel
theorem dL_law_360 : decode cL_law 360 = .ok (.ireturn, 1) := by decide +kernel
theorem dL_law_361 : decode cL_law 361 = .ok (.aload_n 1, 1) := by decide +kernel
theorem dL_law_362 : decode cL_law 362 = .ok (.aload_n 0, 1) := by decide +kernel
theorem dL_law_363 : decode cL_law 363 = .ok (.iload_n 3, 1) := by decide +kernel
theorem dL_law_364 : decode cL_law 364 = .ok (.iconst 1, 1) := by decide +kernel
theorem dL_law_365 : decode cL_law 365 = .ok (.iadd, 1) := by decide +kernel
theorem dL_law_366 : decode cL_law 366 = .ok (.iaload, 1) := by decide +kernel
theorem dL_law_367 : decode cL_law 367 = .ok (.aload_n 0, 1) := by decide +kernel
theorem dL_law_368 : decode cL_law 368 = .ok (.iload_n 3, 1) := by decide +kernel
theorem dL_law_369 : decode cL_law 369 = .ok (.iconst 2, 1) := by decide +kernel
theorem dL_law_370 : decode cL_law 370 = .ok (.iadd, 1) := by decide +kernel
theorem dL_law_371 : decode cL_law 371 = .ok (.iaload, 1) := by decide +kernel
theorem dL_law_372 : decode cL_law 372 = .ok (.invokevirtual 45, 3) := by decide +kernel
theorem dL_law_375 : decode cL_law 375 = .ok (.aload_n 2, 1) := by decide +kernel
theorem dL_law_376 : decode cL_law 376 = .ok (.aload_n 0, 1) := by decide +kernel
theorem dL_law_377 : decode cL_law 377 = .ok (.iload_n 3, 1) := by decide +kernel
theorem dL_law_378 : decode cL_law 378 = .ok (.iconst 1, 1) := by decide +kernel
theorem dL_law_379 : decode cL_law 379 = .ok (.iadd, 1) := by decide +kernel
theorem dL_law_380 : decode cL_law 380 = .ok (.iaload, 1) := by decide +kernel
theorem dL_law_381 : decode cL_law 381 = .ok (.aload_n 0, 1) := by decide +kernel
theorem dL_law_382 : decode cL_law 382 = .ok (.iload_n 3, 1) := by decide +kernel
theorem dL_law_383 : decode cL_law 383 = .ok (.iconst 2, 1) := by decide +kernel
theorem dL_law_384 : decode cL_law 384 = .ok (.iadd, 1) := by decide +kernel
theorem dL_law_385 : decode cL_law 385 = .ok (.iaload, 1) := by decide +kernel
theorem dL_law_386 : decode cL_law 386 = .ok (.invokevirtual 48, 3) := by decide +kernel
theorem dL_law_389 : decode cL_law 389 = .ok (.if_icmp .eq 652, 3) := by decide +kernel
theorem dL_law_392 : decode cL_law 392 = .ok (.iconst 0, 1) := by decide +kernel
theorem dL_law_393 : decode cL_law 393 = .ok (.ireturn, 1) := by decide +kernel
theorem dL_law_394 : decode cL_law 394 = .ok (.aload_n 1, 1) := by decide +kernel
theorem dL_law_395 : decode cL_law 395 = .ok (.aload_n 0, 1) := by decide +kernel
theorem dL_law_396 : decode cL_law 396 = .ok (.iload_n 3, 1) := by decide +kernel
theorem dL_law_397 : decode cL_law 397 = .ok (.iconst 1, 1) := by decide +kernel
theorem dL_law_398 : decode cL_law 398 = .ok (.iadd, 1) := by decide +kernel
theorem dL_law_399 : decode cL_law 399 = .ok (.iaload, 1) := by decide +kernel
theorem dL_law_400 : decode cL_law 400 = .ok (.aload_n 0, 1) := by decide +kernel
theorem dL_law_401 : decode cL_law 401 = .ok (.iload_n 3, 1) := by decide +kernel
theorem dL_law_402 : decode cL_law 402 = .ok (.iconst 2, 1) := by decide +kernel
theorem dL_law_403 : decode cL_law 403 = .ok (.iadd, 1) := by decide +kernel
theorem dL_law_404 : decode cL_law 404 = .ok (.iaload, 1) := by decide +kernel
theorem dL_law_405 : decode cL_law 405 = .ok (.aload_n 0, 1) := by decide +kernel
theorem dL_law_406 : decode cL_law 406 = .ok (.iload_n 3, 1) := by decide +kernel
theorem dL_law_407 : decode cL_law 407 = .ok (.iconst 3, 1) := by decide +kernel
theorem dL_law_408 : decode cL_law 408 = .ok (.iadd, 1) := by decide +kernel
theorem dL_law_409 : decode cL_law 409 = .ok (.iaload, 1) := by decide +kernel
theorem dL_law_410 : decode cL_law 410 = .ok (.aload_n 0, 1) := by decide +kernel
theorem dL_law_411 : decode cL_law 411 = .ok (.iload_n 3, 1) := by decide +kernel
theorem dL_law_412 : decode cL_law 412 = .ok (.iconst 4, 1) := by decide +kernel
theorem dL_law_413 : decode cL_law 413 = .ok (.iadd, 1) := by decide +kernel
theorem dL_law_414 : decode cL_law 414 = .ok (.iaload, 1) := by decide +kernel
theorem dL_law_415 : decode cL_law 415 = .ok (.invokevirtual 49, 3) := by decide +kernel
theorem dL_law_418 : decode cL_law 418 = .ok (.aload_n 2, 1) := by decide +kernel
theorem dL_law_419 : decode cL_law 419 = .ok (.aload_n 0, 1) := by decide +kernel
theorem dL_law_420 : decode cL_law 420 = .ok (.iload_n 3, 1) := by decide +kernel
theorem dL_law_421 : decode cL_law 421 = .ok (.iconst 1, 1) := by decide +kernel
theorem dL_law_422 : decode cL_law 422 = .ok (.iadd, 1) := by decide +kernel
theorem dL_law_423 : decode cL_law 423 = .ok (.iaload, 1) := by decide +kernel
theorem dL_law_424 : decode cL_law 424 = .ok (.aload_n 0, 1) := by decide +kernel
theorem dL_law_425 : decode cL_law 425 = .ok (.iload_n 3, 1) := by decide +kernel
theorem dL_law_426 : decode cL_law 426 = .ok (.iconst 2, 1) := by decide +kernel
theorem dL_law_427 : decode cL_law 427 = .ok (.iadd, 1) := by decide +kernel
theorem dL_law_428 : decode cL_law 428 = .ok (.iaload, 1) := by decide +kernel
theorem dL_law_429 : decode cL_law 429 = .ok (.aload_n 0, 1) := by decide +kernel
theorem dL_law_430 : decode cL_law 430 = .ok (.iload_n 3, 1) := by decide +kernel
theorem dL_law_431 : decode cL_law 431 = .ok (.iconst 3, 1) := by decide +kernel
theorem dL_law_432 : decode cL_law 432 = .ok (.iadd, 1) := by decide +kernel
theorem dL_law_433 : decode cL_law 433 = .ok (.iaload, 1) := by decide +kernel
theorem dL_law_434 : decode cL_law 434 = .ok (.aload_n 0, 1) := by decide +kernel
theorem dL_law_435 : decode cL_law 435 = .ok (.iload_n 3, 1) := by decide +kernel
theorem dL_law_436 : decode cL_law 436 = .ok (.iconst 4, 1) := by decide +kernel
theorem dL_law_437 : decode cL_law 437 = .ok (.iadd, 1) := by decide +kernel
theorem dL_law_438 : decode cL_law 438 = .ok (.iaload, 1) := by decide +kernel
theorem dL_law_439 : decode cL_law 439 = .ok (.invokevirtual 53, 3) := by decide +kernel
theorem dL_law_442 : decode cL_law 442 = .ok (.if_icmp .eq 599, 3) := by decide +kernel
theorem dL_law_445 : decode cL_law 445 = .ok (.iconst 0, 1) := by decide +kernel
theorem dL_law_446 : decode cL_law 446 = .ok (.ireturn, 1) := by decide +kernel
theorem dL_law_447 : decode cL_law 447 = .ok (.aload_n 1, 1) := by decide +kernel
theorem dL_law_448 : decode cL_law 448 = .ok (.aload_n 0, 1) := by decide +kernel
theorem dL_law_449 : decode cL_law 449 = .ok (.iload_n 3, 1) := by decide +kernel
theorem dL_law_450 : decode cL_law 450 = .ok (.iconst 1, 1) := by decide +kernel
theorem dL_law_451 : decode cL_law 451 = .ok (.iadd, 1) := by decide +kernel
theorem dL_law_452 : decode cL_law 452 = .ok (.iaload, 1) := by decide +kernel
theorem dL_law_453 : decode cL_law 453 = .ok (.aload_n 0, 1) := by decide +kernel
theorem dL_law_454 : decode cL_law 454 = .ok (.iload_n 3, 1) := by decide +kernel
theorem dL_law_455 : decode cL_law 455 = .ok (.iconst 2, 1) := by decide +kernel
theorem dL_law_456 : decode cL_law 456 = .ok (.iadd, 1) := by decide +kernel
theorem dL_law_457 : decode cL_law 457 = .ok (.iaload, 1) := by decide +kernel
theorem dL_law_458 : decode cL_law 458 = .ok (.invokevirtual 54, 3) := by decide +kernel
theorem dL_law_461 : decode cL_law 461 = .ok (.aload_n 2, 1) := by decide +kernel
theorem dL_law_462 : decode cL_law 462 = .ok (.aload_n 0, 1) := by decide +kernel
theorem dL_law_463 : decode cL_law 463 = .ok (.iload_n 3, 1) := by decide +kernel
theorem dL_law_464 : decode cL_law 464 = .ok (.iconst 1, 1) := by decide +kernel
theorem dL_law_465 : decode cL_law 465 = .ok (.iadd, 1) := by decide +kernel
theorem dL_law_466 : decode cL_law 466 = .ok (.iaload, 1) := by decide +kernel
theorem dL_law_467 : decode cL_law 467 = .ok (.aload_n 0, 1) := by decide +kernel
theorem dL_law_468 : decode cL_law 468 = .ok (.iload_n 3, 1) := by decide +kernel
theorem dL_law_469 : decode cL_law 469 = .ok (.iconst 2, 1) := by decide +kernel
theorem dL_law_470 : decode cL_law 470 = .ok (.iadd, 1) := by decide +kernel
theorem dL_law_471 : decode cL_law 471 = .ok (.iaload, 1) := by decide +kernel
theorem dL_law_472 : decode cL_law 472 = .ok (.invokevirtual 57, 3) := by decide +kernel
theorem dL_law_475 : decode cL_law 475 = .ok (.if_icmp .eq 566, 3) := by decide +kernel
theorem dL_law_478 : decode cL_law 478 = .ok (.iconst 0, 1) := by decide +kernel
theorem dL_law_479 : decode cL_law 479 = .ok (.ireturn, 1) := by decide +kernel
theorem dL_law_480 : decode cL_law 480 = .ok (.aload_n 1, 1) := by decide +kernel
theorem dL_law_481 : decode cL_law 481 = .ok (.aload_n 0, 1) := by decide +kernel
theorem dL_law_482 : decode cL_law 482 = .ok (.iload_n 3, 1) := by decide +kernel
theorem dL_law_483 : decode cL_law 483 = .ok (.iconst 1, 1) := by decide +kernel
theorem dL_law_484 : decode cL_law 484 = .ok (.iadd, 1) := by decide +kernel
theorem dL_law_485 : decode cL_law 485 = .ok (.iaload, 1) := by decide +kernel
theorem dL_law_486 : decode cL_law 486 = .ok (.aload_n 0, 1) := by decide +kernel
theorem dL_law_487 : decode cL_law 487 = .ok (.iload_n 3, 1) := by decide +kernel
theorem dL_law_488 : decode cL_law 488 = .ok (.iconst 2, 1) := by decide +kernel
theorem dL_law_489 : decode cL_law 489 = .ok (.iadd, 1) := by decide +kernel
theorem dL_law_490 : decode cL_law 490 = .ok (.iaload, 1) := by decide +kernel
theorem dL_law_491 : decode cL_law 491 = .ok (.aload_n 0, 1) := by decide +kernel
theorem dL_law_492 : decode cL_law 492 = .ok (.iload_n 3, 1) := by decide +kernel
theorem dL_law_493 : decode cL_law 493 = .ok (.iconst 3, 1) := by decide +kernel
theorem dL_law_494 : decode cL_law 494 = .ok (.iadd, 1) := by decide +kernel
theorem dL_law_495 : decode cL_law 495 = .ok (.iaload, 1) := by decide +kernel
theorem dL_law_496 : decode cL_law 496 = .ok (.ifCond .eq 7, 3) := by decide +kernel
theorem dL_law_499 : decode cL_law 499 = .ok (.iconst 1, 1) := by decide +kernel
theorem dL_law_500 : decode cL_law 500 = .ok (.goto 4, 3) := by decide +kernel
theorem dL_law_503 : decode cL_law 503 = .ok (.iconst 0, 1) := by decide +kernel
theorem dL_law_504 : decode cL_law 504 = .ok (.invokevirtual 58, 3) := by decide +kernel
theorem dL_law_507 : decode cL_law 507 = .ok (.aload_n 2, 1) := by decide +kernel
theorem dL_law_508 : decode cL_law 508 = .ok (.aload_n 0, 1) := by decide +kernel
theorem dL_law_509 : decode cL_law 509 = .ok (.iload_n 3, 1) := by decide +kernel
theorem dL_law_510 : decode cL_law 510 = .ok (.iconst 1, 1) := by decide +kernel
theorem dL_law_511 : decode cL_law 511 = .ok (.iadd, 1) := by decide +kernel
theorem dL_law_512 : decode cL_law 512 = .ok (.iaload, 1) := by decide +kernel
theorem dL_law_513 : decode cL_law 513 = .ok (.aload_n 0, 1) := by decide +kernel
theorem dL_law_514 : decode cL_law 514 = .ok (.iload_n 3, 1) := by decide +kernel
theorem dL_law_515 : decode cL_law 515 = .ok (.iconst 2, 1) := by decide +kernel
theorem dL_law_516 : decode cL_law 516 = .ok (.iadd, 1) := by decide +kernel
theorem dL_law_517 : decode cL_law 517 = .ok (.iaload, 1) := by decide +kernel
theorem dL_law_518 : decode cL_law 518 = .ok (.aload_n 0, 1) := by decide +kernel
theorem dL_law_519 : decode cL_law 519 = .ok (.iload_n 3, 1) := by decide +kernel
theorem dL_law_520 : decode cL_law 520 = .ok (.iconst 3, 1) := by decide +kernel
theorem dL_law_521 : decode cL_law 521 = .ok (.iadd, 1) := by decide +kernel
theorem dL_law_522 : decode cL_law 522 = .ok (.iaload, 1) := by decide +kernel
theorem dL_law_523 : decode cL_law 523 = .ok (.ifCond .eq 7, 3) := by decide +kernel
theorem dL_law_526 : decode cL_law 526 = .ok (.iconst 1, 1) := by decide +kernel
theorem dL_law_527 : decode cL_law 527 = .ok (.goto 4, 3) := by decide +kernel
theorem dL_law_530 : decode cL_law 530 = .ok (.iconst 0, 1) := by decide +kernel
theorem dL_law_531 : decode cL_law 531 = .ok (.invokevirtual 62, 3) := by decide +kernel
theorem dL_law_534 : decode cL_law 534 = .ok (.if_icmp .eq 507, 3) := by decide +kernel
theorem dL_law_537 : decode cL_law 537 = .ok (.iconst 0, 1) := by decide +kernel
theorem dL_law_538 : decode cL_law 538 = .ok (.ireturn, 1) := by decide +kernel
theorem dL_law_539 : decode cL_law 539 = .ok (.aload_n 1, 1) := by decide +kernel
theorem dL_law_540 : decode cL_law 540 = .ok (.aload_n 0, 1) := by decide +kernel
theorem dL_law_541 : decode cL_law 541 = .ok (.iload_n 3, 1) := by decide +kernel
theorem dL_law_542 : decode cL_law 542 = .ok (.iconst 1, 1) := by decide +kernel
theorem dL_law_543 : decode cL_law 543 = .ok (.iadd, 1) := by decide +kernel
theorem dL_law_544 : decode cL_law 544 = .ok (.iaload, 1) := by decide +kernel
theorem dL_law_545 : decode cL_law 545 = .ok (.invokevirtual 63, 3) := by decide +kernel
theorem dL_law_548 : decode cL_law 548 = .ok (.aload_n 2, 1) := by decide +kernel
theorem dL_law_549 : decode cL_law 549 = .ok (.aload_n 0, 1) := by decide +kernel
theorem dL_law_550 : decode cL_law 550 = .ok (.iload_n 3, 1) := by decide +kernel
theorem dL_law_551 : decode cL_law 551 = .ok (.iconst 1, 1) := by decide +kernel
theorem dL_law_552 : decode cL_law 552 = .ok (.iadd, 1) := by decide +kernel
theorem dL_law_553 : decode cL_law 553 = .ok (.iaload, 1) := by decide +kernel
theorem dL_law_554 : decode cL_law 554 = .ok (.invokevirtual 66, 3) := by decide +kernel
theorem dL_law_557 : decode cL_law 557 = .ok (.if_icmp .eq 484, 3) := by decide +kernel
theorem dL_law_560 : decode cL_law 560 = .ok (.iconst 0, 1) := by decide +kernel
theorem dL_law_561 : decode cL_law 561 = .ok (.ireturn, 1) := by decide +kernel
theorem dL_law_562 : decode cL_law 562 = .ok (.aload_n 1, 1) := by decide +kernel
theorem dL_law_563 : decode cL_law 563 = .ok (.aload_n 0, 1) := by decide +kernel
theorem dL_law_564 : decode cL_law 564 = .ok (.iload_n 3, 1) := by decide +kernel
theorem dL_law_565 : decode cL_law 565 = .ok (.iconst 1, 1) := by decide +kernel
theorem dL_law_566 : decode cL_law 566 = .ok (.iadd, 1) := by decide +kernel
theorem dL_law_567 : decode cL_law 567 = .ok (.iaload, 1) := by decide +kernel
theorem dL_law_568 : decode cL_law 568 = .ok (.invokevirtual 67, 3) := by decide +kernel
theorem dL_law_571 : decode cL_law 571 = .ok (.aload_n 2, 1) := by decide +kernel
theorem dL_law_572 : decode cL_law 572 = .ok (.aload_n 0, 1) := by decide +kernel
theorem dL_law_573 : decode cL_law 573 = .ok (.iload_n 3, 1) := by decide +kernel
theorem dL_law_574 : decode cL_law 574 = .ok (.iconst 1, 1) := by decide +kernel
theorem dL_law_575 : decode cL_law 575 = .ok (.iadd, 1) := by decide +kernel
theorem dL_law_576 : decode cL_law 576 = .ok (.iaload, 1) := by decide +kernel
theorem dL_law_577 : decode cL_law 577 = .ok (.invokevirtual 70, 3) := by decide +kernel
theorem dL_law_580 : decode cL_law 580 = .ok (.if_icmp .eq 461, 3) := by decide +kernel
theorem dL_law_583 : decode cL_law 583 = .ok (.iconst 0, 1) := by decide +kernel
theorem dL_law_584 : decode cL_law 584 = .ok (.ireturn, 1) := by decide +kernel
theorem dL_law_585 : decode cL_law 585 = .ok (.aload_n 1, 1) := by decide +kernel
theorem dL_law_586 : decode cL_law 586 = .ok (.aload_n 0, 1) := by decide +kernel
theorem dL_law_587 : decode cL_law 587 = .ok (.iload_n 3, 1) := by decide +kernel
theorem dL_law_588 : decode cL_law 588 = .ok (.iconst 1, 1) := by decide +kernel
theorem dL_law_589 : decode cL_law 589 = .ok (.iadd, 1) := by decide +kernel
theorem dL_law_590 : decode cL_law 590 = .ok (.iaload, 1) := by decide +kernel
theorem dL_law_591 : decode cL_law 591 = .ok (.invokevirtual 71, 3) := by decide +kernel
theorem dL_law_594 : decode cL_law 594 = .ok (.aload_n 2, 1) := by decide +kernel
theorem dL_law_595 : decode cL_law 595 = .ok (.aload_n 0, 1) := by decide +kernel
theorem dL_law_596 : decode cL_law 596 = .ok (.iload_n 3, 1) := by decide +kernel
theorem dL_law_597 : decode cL_law 597 = .ok (.iconst 1, 1) := by decide +kernel
theorem dL_law_598 : decode cL_law 598 = .ok (.iadd, 1) := by decide +kernel
theorem dL_law_599 : decode cL_law 599 = .ok (.iaload, 1) := by decide +kernel
theorem dL_law_600 : decode cL_law 600 = .ok (.invokevirtual 74, 3) := by decide +kernel
theorem dL_law_603 : decode cL_law 603 = .ok (.if_icmp .eq 438, 3) := by decide +kernel
theorem dL_law_606 : decode cL_law 606 = .ok (.iconst 0, 1) := by decide +kernel
theorem dL_law_607 : decode cL_law 607 = .ok (.ireturn, 1) := by decide +kernel
theorem dL_law_608 : decode cL_law 608 = .ok (.aload_n 1, 1) := by decide +kernel
theorem dL_law_609 : decode cL_law 609 = .ok (.aload_n 0, 1) := by decide +kernel
theorem dL_law_610 : decode cL_law 610 = .ok (.iload_n 3, 1) := by decide +kernel
theorem dL_law_611 : decode cL_law 611 = .ok (.iconst 1, 1) := by decide +kernel
theorem dL_law_612 : decode cL_law 612 = .ok (.iadd, 1) := by decide +kernel
theorem dL_law_613 : decode cL_law 613 = .ok (.iaload, 1) := by decide +kernel
theorem dL_law_614 : decode cL_law 614 = .ok (.invokevirtual 75, 3) := by decide +kernel
theorem dL_law_617 : decode cL_law 617 = .ok (.aload_n 2, 1) := by decide +kernel
theorem dL_law_618 : decode cL_law 618 = .ok (.aload_n 0, 1) := by decide +kernel
theorem dL_law_619 : decode cL_law 619 = .ok (.iload_n 3, 1) := by decide +kernel
theorem dL_law_620 : decode cL_law 620 = .ok (.iconst 1, 1) := by decide +kernel
theorem dL_law_621 : decode cL_law 621 = .ok (.iadd, 1) := by decide +kernel
theorem dL_law_622 : decode cL_law 622 = .ok (.iaload, 1) := by decide +kernel
theorem dL_law_623 : decode cL_law 623 = .ok (.invokevirtual 78, 3) := by decide +kernel
theorem dL_law_626 : decode cL_law 626 = .ok (.if_icmp .eq 415, 3) := by decide +kernel
theorem dL_law_629 : decode cL_law 629 = .ok (.iconst 0, 1) := by decide +kernel
theorem dL_law_630 : decode cL_law 630 = .ok (.ireturn, 1) := by decide +kernel
theorem dL_law_631 : decode cL_law 631 = .ok (.aload_n 1, 1) := by decide +kernel
theorem dL_law_632 : decode cL_law 632 = .ok (.aload_n 0, 1) := by decide +kernel
theorem dL_law_633 : decode cL_law 633 = .ok (.iload_n 3, 1) := by decide +kernel
theorem dL_law_634 : decode cL_law 634 = .ok (.iconst 1, 1) := by decide +kernel
theorem dL_law_635 : decode cL_law 635 = .ok (.iadd, 1) := by decide +kernel
theorem dL_law_636 : decode cL_law 636 = .ok (.iaload, 1) := by decide +kernel
theorem dL_law_637 : decode cL_law 637 = .ok (.aload_n 0, 1) := by decide +kernel
theorem dL_law_638 : decode cL_law 638 = .ok (.iload_n 3, 1) := by decide +kernel
theorem dL_law_639 : decode cL_law 639 = .ok (.iconst 2, 1) := by decide +kernel
theorem dL_law_640 : decode cL_law 640 = .ok (.iadd, 1) := by decide +kernel
theorem dL_law_641 : decode cL_law 641 = .ok (.iaload, 1) := by decide +kernel
theorem dL_law_642 : decode cL_law 642 = .ok (.invokevirtual 79, 3) := by decide +kernel
theorem dL_law_645 : decode cL_law 645 = .ok (.aload_n 2, 1) := by decide +kernel
theorem dL_law_646 : decode cL_law 646 = .ok (.aload_n 0, 1) := by decide +kernel
theorem dL_law_647 : decode cL_law 647 = .ok (.iload_n 3, 1) := by decide +kernel
theorem dL_law_648 : decode cL_law 648 = .ok (.iconst 1, 1) := by decide +kernel
theorem dL_law_649 : decode cL_law 649 = .ok (.iadd, 1) := by decide +kernel
theorem dL_law_650 : decode cL_law 650 = .ok (.iaload, 1) := by decide +kernel
theorem dL_law_651 : decode cL_law 651 = .ok (.aload_n 0, 1) := by decide +kernel
theorem dL_law_652 : decode cL_law 652 = .ok (.iload_n 3, 1) := by decide +kernel
theorem dL_law_653 : decode cL_law 653 = .ok (.iconst 2, 1) := by decide +kernel
theorem dL_law_654 : decode cL_law 654 = .ok (.iadd, 1) := by decide +kernel
theorem dL_law_655 : decode cL_law 655 = .ok (.iaload, 1) := by decide +kernel
theorem dL_law_656 : decode cL_law 656 = .ok (.invokevirtual 83, 3) := by decide +kernel
theorem dL_law_659 : decode cL_law 659 = .ok (.lcmp, 1) := by decide +kernel
theorem dL_law_660 : decode cL_law 660 = .ok (.ifCond .eq 381, 3) := by decide +kernel
theorem dL_law_663 : decode cL_law 663 = .ok (.iconst 0, 1) := by decide +kernel
theorem dL_law_664 : decode cL_law 664 = .ok (.ireturn, 1) := by decide +kernel
theorem dL_law_665 : decode cL_law 665 = .ok (.aload_n 1, 1) := by decide +kernel
theorem dL_law_666 : decode cL_law 666 = .ok (.aload_n 0, 1) := by decide +kernel
theorem dL_law_667 : decode cL_law 667 = .ok (.iload_n 3, 1) := by decide +kernel
theorem dL_law_668 : decode cL_law 668 = .ok (.iconst 1, 1) := by decide +kernel
theorem dL_law_669 : decode cL_law 669 = .ok (.iadd, 1) := by decide +kernel
theorem dL_law_670 : decode cL_law 670 = .ok (.iaload, 1) := by decide +kernel
theorem dL_law_671 : decode cL_law 671 = .ok (.aload_n 0, 1) := by decide +kernel
theorem dL_law_672 : decode cL_law 672 = .ok (.iload_n 3, 1) := by decide +kernel
theorem dL_law_673 : decode cL_law 673 = .ok (.iconst 2, 1) := by decide +kernel
theorem dL_law_674 : decode cL_law 674 = .ok (.iadd, 1) := by decide +kernel
theorem dL_law_675 : decode cL_law 675 = .ok (.iaload, 1) := by decide +kernel
theorem dL_law_676 : decode cL_law 676 = .ok (.invokevirtual 84, 3) := by decide +kernel
theorem dL_law_679 : decode cL_law 679 = .ok (.aload_n 2, 1) := by decide +kernel
theorem dL_law_680 : decode cL_law 680 = .ok (.aload_n 0, 1) := by decide +kernel
theorem dL_law_681 : decode cL_law 681 = .ok (.iload_n 3, 1) := by decide +kernel
theorem dL_law_682 : decode cL_law 682 = .ok (.iconst 1, 1) := by decide +kernel
theorem dL_law_683 : decode cL_law 683 = .ok (.iadd, 1) := by decide +kernel
theorem dL_law_684 : decode cL_law 684 = .ok (.iaload, 1) := by decide +kernel
theorem dL_law_685 : decode cL_law 685 = .ok (.aload_n 0, 1) := by decide +kernel
theorem dL_law_686 : decode cL_law 686 = .ok (.iload_n 3, 1) := by decide +kernel
theorem dL_law_687 : decode cL_law 687 = .ok (.iconst 2, 1) := by decide +kernel
theorem dL_law_688 : decode cL_law 688 = .ok (.iadd, 1) := by decide +kernel
theorem dL_law_689 : decode cL_law 689 = .ok (.iaload, 1) := by decide +kernel
theorem dL_law_690 : decode cL_law 690 = .ok (.invokevirtual 87, 3) := by decide +kernel
theorem dL_law_693 : decode cL_law 693 = .ok (.if_icmp .eq 348, 3) := by decide +kernel
theorem dL_law_696 : decode cL_law 696 = .ok (.iconst 0, 1) := by decide +kernel
theorem dL_law_697 : decode cL_law 697 = .ok (.ireturn, 1) := by decide +kernel
theorem dL_law_698 : decode cL_law 698 = .ok (.aload_n 1, 1) := by decide +kernel
theorem dL_law_699 : decode cL_law 699 = .ok (.aload_n 0, 1) := by decide +kernel
theorem dL_law_700 : decode cL_law 700 = .ok (.iload_n 3, 1) := by decide +kernel
theorem dL_law_701 : decode cL_law 701 = .ok (.iconst 1, 1) := by decide +kernel
theorem dL_law_702 : decode cL_law 702 = .ok (.iadd, 1) := by decide +kernel
theorem dL_law_703 : decode cL_law 703 = .ok (.iaload, 1) := by decide +kernel
theorem dL_law_704 : decode cL_law 704 = .ok (.aload_n 0, 1) := by decide +kernel
theorem dL_law_705 : decode cL_law 705 = .ok (.iload_n 3, 1) := by decide +kernel
theorem dL_law_706 : decode cL_law 706 = .ok (.iconst 2, 1) := by decide +kernel
theorem dL_law_707 : decode cL_law 707 = .ok (.iadd, 1) := by decide +kernel
theorem dL_law_708 : decode cL_law 708 = .ok (.iaload, 1) := by decide +kernel
theorem dL_law_709 : decode cL_law 709 = .ok (.invokevirtual 88, 3) := by decide +kernel
theorem dL_law_712 : decode cL_law 712 = .ok (.aload_n 2, 1) := by decide +kernel
theorem dL_law_713 : decode cL_law 713 = .ok (.aload_n 0, 1) := by decide +kernel
theorem dL_law_714 : decode cL_law 714 = .ok (.iload_n 3, 1) := by decide +kernel
theorem dL_law_715 : decode cL_law 715 = .ok (.iconst 1, 1) := by decide +kernel
theorem dL_law_716 : decode cL_law 716 = .ok (.iadd, 1) := by decide +kernel
theorem dL_law_717 : decode cL_law 717 = .ok (.iaload, 1) := by decide +kernel
theorem dL_law_718 : decode cL_law 718 = .ok (.aload_n 0, 1) := by decide +kernel
theorem dL_law_719 : decode cL_law 719 = .ok (.iload_n 3, 1) := by decide +kernel
theorem dL_law_720 : decode cL_law 720 = .ok (.iconst 2, 1) := by decide +kernel
theorem dL_law_721 : decode cL_law 721 = .ok (.iadd, 1) := by decide +kernel
theorem dL_law_722 : decode cL_law 722 = .ok (.iaload, 1) := by decide +kernel
theorem dL_law_723 : decode cL_law 723 = .ok (.invokevirtual 91, 3) := by decide +kernel
theorem dL_law_726 : decode cL_law 726 = .ok (.if_icmp .eq 315, 3) := by decide +kernel
theorem dL_law_729 : decode cL_law 729 = .ok (.iconst 0, 1) := by decide +kernel
theorem dL_law_730 : decode cL_law 730 = .ok (.ireturn, 1) := by decide +kernel
theorem dL_law_731 : decode cL_law 731 = .ok (.aload_n 1, 1) := by decide +kernel
theorem dL_law_732 : decode cL_law 732 = .ok (.aload_n 0, 1) := by decide +kernel
theorem dL_law_733 : decode cL_law 733 = .ok (.iload_n 3, 1) := by decide +kernel
theorem dL_law_734 : decode cL_law 734 = .ok (.iconst 1, 1) := by decide +kernel
theorem dL_law_735 : decode cL_law 735 = .ok (.iadd, 1) := by decide +kernel
theorem dL_law_736 : decode cL_law 736 = .ok (.iaload, 1) := by decide +kernel
theorem dL_law_737 : decode cL_law 737 = .ok (.invokevirtual 92, 3) := by decide +kernel
theorem dL_law_740 : decode cL_law 740 = .ok (.aload_n 2, 1) := by decide +kernel
theorem dL_law_741 : decode cL_law 741 = .ok (.aload_n 0, 1) := by decide +kernel
theorem dL_law_742 : decode cL_law 742 = .ok (.iload_n 3, 1) := by decide +kernel
theorem dL_law_743 : decode cL_law 743 = .ok (.iconst 1, 1) := by decide +kernel
theorem dL_law_744 : decode cL_law 744 = .ok (.iadd, 1) := by decide +kernel
theorem dL_law_745 : decode cL_law 745 = .ok (.iaload, 1) := by decide +kernel
theorem dL_law_746 : decode cL_law 746 = .ok (.invokevirtual 95, 3) := by decide +kernel
theorem dL_law_749 : decode cL_law 749 = .ok (.if_icmp .eq 292, 3) := by decide +kernel
theorem dL_law_752 : decode cL_law 752 = .ok (.iconst 0, 1) := by decide +kernel
theorem dL_law_753 : decode cL_law 753 = .ok (.ireturn, 1) := by decide +kernel
theorem dL_law_754 : decode cL_law 754 = .ok (.aload_n 1, 1) := by decide +kernel
theorem dL_law_755 : decode cL_law 755 = .ok (.aload_n 0, 1) := by decide +kernel
theorem dL_law_756 : decode cL_law 756 = .ok (.iload_n 3, 1) := by decide +kernel
theorem dL_law_757 : decode cL_law 757 = .ok (.iconst 1, 1) := by decide +kernel
theorem dL_law_758 : decode cL_law 758 = .ok (.iadd, 1) := by decide +kernel
theorem dL_law_759 : decode cL_law 759 = .ok (.iaload, 1) := by decide +kernel
theorem dL_law_760 : decode cL_law 760 = .ok (.invokevirtual 96, 3) := by decide +kernel
theorem dL_law_763 : decode cL_law 763 = .ok (.aload_n 2, 1) := by decide +kernel
theorem dL_law_764 : decode cL_law 764 = .ok (.aload_n 0, 1) := by decide +kernel
theorem dL_law_765 : decode cL_law 765 = .ok (.iload_n 3, 1) := by decide +kernel
theorem dL_law_766 : decode cL_law 766 = .ok (.iconst 1, 1) := by decide +kernel
theorem dL_law_767 : decode cL_law 767 = .ok (.iadd, 1) := by decide +kernel
theorem dL_law_768 : decode cL_law 768 = .ok (.iaload, 1) := by decide +kernel
theorem dL_law_769 : decode cL_law 769 = .ok (.invokevirtual 99, 3) := by decide +kernel
theorem dL_law_772 : decode cL_law 772 = .ok (.if_icmp .eq 269, 3) := by decide +kernel
theorem dL_law_775 : decode cL_law 775 = .ok (.iconst 0, 1) := by decide +kernel
theorem dL_law_776 : decode cL_law 776 = .ok (.ireturn, 1) := by decide +kernel
theorem dL_law_777 : decode cL_law 777 = .ok (.aload_n 1, 1) := by decide +kernel
theorem dL_law_778 : decode cL_law 778 = .ok (.aload_n 0, 1) := by decide +kernel
theorem dL_law_779 : decode cL_law 779 = .ok (.iload_n 3, 1) := by decide +kernel
theorem dL_law_780 : decode cL_law 780 = .ok (.iconst 1, 1) := by decide +kernel
theorem dL_law_781 : decode cL_law 781 = .ok (.iadd, 1) := by decide +kernel
theorem dL_law_782 : decode cL_law 782 = .ok (.iaload, 1) := by decide +kernel
theorem dL_law_783 : decode cL_law 783 = .ok (.invokevirtual 100, 3) := by decide +kernel
theorem dL_law_786 : decode cL_law 786 = .ok (.aload_n 2, 1) := by decide +kernel
theorem dL_law_787 : decode cL_law 787 = .ok (.aload_n 0, 1) := by decide +kernel
theorem dL_law_788 : decode cL_law 788 = .ok (.iload_n 3, 1) := by decide +kernel
theorem dL_law_789 : decode cL_law 789 = .ok (.iconst 1, 1) := by decide +kernel
theorem dL_law_790 : decode cL_law 790 = .ok (.iadd, 1) := by decide +kernel
theorem dL_law_791 : decode cL_law 791 = .ok (.iaload, 1) := by decide +kernel
theorem dL_law_792 : decode cL_law 792 = .ok (.invokevirtual 103, 3) := by decide +kernel
theorem dL_law_795 : decode cL_law 795 = .ok (.if_icmp .eq 246, 3) := by decide +kernel
theorem dL_law_798 : decode cL_law 798 = .ok (.iconst 0, 1) := by decide +kernel
theorem dL_law_799 : decode cL_law 799 = .ok (.ireturn, 1) := by decide +kernel
theorem dL_law_800 : decode cL_law 800 = .ok (.aload_n 1, 1) := by decide +kernel
theorem dL_law_801 : decode cL_law 801 = .ok (.aload_n 0, 1) := by decide +kernel
theorem dL_law_802 : decode cL_law 802 = .ok (.iload_n 3, 1) := by decide +kernel
theorem dL_law_803 : decode cL_law 803 = .ok (.iconst 1, 1) := by decide +kernel
theorem dL_law_804 : decode cL_law 804 = .ok (.iadd, 1) := by decide +kernel
theorem dL_law_805 : decode cL_law 805 = .ok (.iaload, 1) := by decide +kernel
theorem dL_law_806 : decode cL_law 806 = .ok (.invokevirtual 104, 3) := by decide +kernel
theorem dL_law_809 : decode cL_law 809 = .ok (.aload_n 2, 1) := by decide +kernel
theorem dL_law_810 : decode cL_law 810 = .ok (.aload_n 0, 1) := by decide +kernel
theorem dL_law_811 : decode cL_law 811 = .ok (.iload_n 3, 1) := by decide +kernel
theorem dL_law_812 : decode cL_law 812 = .ok (.iconst 1, 1) := by decide +kernel
theorem dL_law_813 : decode cL_law 813 = .ok (.iadd, 1) := by decide +kernel
theorem dL_law_814 : decode cL_law 814 = .ok (.iaload, 1) := by decide +kernel
theorem dL_law_815 : decode cL_law 815 = .ok (.invokevirtual 107, 3) := by decide +kernel
theorem dL_law_818 : decode cL_law 818 = .ok (.if_icmp .eq 223, 3) := by decide +kernel
theorem dL_law_821 : decode cL_law 821 = .ok (.iconst 0, 1) := by decide +kernel
theorem dL_law_822 : decode cL_law 822 = .ok (.ireturn, 1) := by decide +kernel
theorem dL_law_823 : decode cL_law 823 = .ok (.aload_n 1, 1) := by decide +kernel
theorem dL_law_824 : decode cL_law 824 = .ok (.aload_n 0, 1) := by decide +kernel
theorem dL_law_825 : decode cL_law 825 = .ok (.iload_n 3, 1) := by decide +kernel
theorem dL_law_826 : decode cL_law 826 = .ok (.iconst 1, 1) := by decide +kernel
theorem dL_law_827 : decode cL_law 827 = .ok (.iadd, 1) := by decide +kernel
theorem dL_law_828 : decode cL_law 828 = .ok (.iaload, 1) := by decide +kernel
theorem dL_law_829 : decode cL_law 829 = .ok (.aload_n 0, 1) := by decide +kernel
theorem dL_law_830 : decode cL_law 830 = .ok (.iload_n 3, 1) := by decide +kernel
theorem dL_law_831 : decode cL_law 831 = .ok (.iconst 2, 1) := by decide +kernel
theorem dL_law_832 : decode cL_law 832 = .ok (.iadd, 1) := by decide +kernel
theorem dL_law_833 : decode cL_law 833 = .ok (.iaload, 1) := by decide +kernel
theorem dL_law_834 : decode cL_law 834 = .ok (.aload_n 0, 1) := by decide +kernel
theorem dL_law_835 : decode cL_law 835 = .ok (.iload_n 3, 1) := by decide +kernel
theorem dL_law_836 : decode cL_law 836 = .ok (.iconst 3, 1) := by decide +kernel
theorem dL_law_837 : decode cL_law 837 = .ok (.iadd, 1) := by decide +kernel
theorem dL_law_838 : decode cL_law 838 = .ok (.iaload, 1) := by decide +kernel
theorem dL_law_839 : decode cL_law 839 = .ok (.invokevirtual 108, 3) := by decide +kernel
theorem dL_law_842 : decode cL_law 842 = .ok (.aload_n 2, 1) := by decide +kernel
theorem dL_law_843 : decode cL_law 843 = .ok (.aload_n 0, 1) := by decide +kernel
theorem dL_law_844 : decode cL_law 844 = .ok (.iload_n 3, 1) := by decide +kernel
theorem dL_law_845 : decode cL_law 845 = .ok (.iconst 1, 1) := by decide +kernel
theorem dL_law_846 : decode cL_law 846 = .ok (.iadd, 1) := by decide +kernel
theorem dL_law_847 : decode cL_law 847 = .ok (.iaload, 1) := by decide +kernel
theorem dL_law_848 : decode cL_law 848 = .ok (.aload_n 0, 1) := by decide +kernel
theorem dL_law_849 : decode cL_law 849 = .ok (.iload_n 3, 1) := by decide +kernel
theorem dL_law_850 : decode cL_law 850 = .ok (.iconst 2, 1) := by decide +kernel
theorem dL_law_851 : decode cL_law 851 = .ok (.iadd, 1) := by decide +kernel
theorem dL_law_852 : decode cL_law 852 = .ok (.iaload, 1) := by decide +kernel
theorem dL_law_853 : decode cL_law 853 = .ok (.aload_n 0, 1) := by decide +kernel
theorem dL_law_854 : decode cL_law 854 = .ok (.iload_n 3, 1) := by decide +kernel
theorem dL_law_855 : decode cL_law 855 = .ok (.iconst 3, 1) := by decide +kernel
theorem dL_law_856 : decode cL_law 856 = .ok (.iadd, 1) := by decide +kernel
theorem dL_law_857 : decode cL_law 857 = .ok (.iaload, 1) := by decide +kernel
theorem dL_law_858 : decode cL_law 858 = .ok (.invokevirtual 111, 3) := by decide +kernel
theorem dL_law_861 : decode cL_law 861 = .ok (.if_icmp .eq 180, 3) := by decide +kernel
theorem dL_law_864 : decode cL_law 864 = .ok (.iconst 0, 1) := by decide +kernel
theorem dL_law_865 : decode cL_law 865 = .ok (.ireturn, 1) := by decide +kernel
theorem dL_law_866 : decode cL_law 866 = .ok (.aload_n 1, 1) := by decide +kernel
theorem dL_law_867 : decode cL_law 867 = .ok (.aload_n 0, 1) := by decide +kernel
theorem dL_law_868 : decode cL_law 868 = .ok (.iload_n 3, 1) := by decide +kernel
theorem dL_law_869 : decode cL_law 869 = .ok (.iconst 1, 1) := by decide +kernel
theorem dL_law_870 : decode cL_law 870 = .ok (.iadd, 1) := by decide +kernel
theorem dL_law_871 : decode cL_law 871 = .ok (.iaload, 1) := by decide +kernel
theorem dL_law_872 : decode cL_law 872 = .ok (.aload_n 0, 1) := by decide +kernel
theorem dL_law_873 : decode cL_law 873 = .ok (.iload_n 3, 1) := by decide +kernel
theorem dL_law_874 : decode cL_law 874 = .ok (.iconst 2, 1) := by decide +kernel
theorem dL_law_875 : decode cL_law 875 = .ok (.iadd, 1) := by decide +kernel
theorem dL_law_876 : decode cL_law 876 = .ok (.iaload, 1) := by decide +kernel
theorem dL_law_877 : decode cL_law 877 = .ok (.invokevirtual 112, 3) := by decide +kernel
theorem dL_law_880 : decode cL_law 880 = .ok (.aload_n 2, 1) := by decide +kernel
theorem dL_law_881 : decode cL_law 881 = .ok (.aload_n 0, 1) := by decide +kernel
theorem dL_law_882 : decode cL_law 882 = .ok (.iload_n 3, 1) := by decide +kernel
theorem dL_law_883 : decode cL_law 883 = .ok (.iconst 1, 1) := by decide +kernel
theorem dL_law_884 : decode cL_law 884 = .ok (.iadd, 1) := by decide +kernel
theorem dL_law_885 : decode cL_law 885 = .ok (.iaload, 1) := by decide +kernel
theorem dL_law_886 : decode cL_law 886 = .ok (.aload_n 0, 1) := by decide +kernel
theorem dL_law_887 : decode cL_law 887 = .ok (.iload_n 3, 1) := by decide +kernel
theorem dL_law_888 : decode cL_law 888 = .ok (.iconst 2, 1) := by decide +kernel
theorem dL_law_889 : decode cL_law 889 = .ok (.iadd, 1) := by decide +kernel
theorem dL_law_890 : decode cL_law 890 = .ok (.iaload, 1) := by decide +kernel
theorem dL_law_891 : decode cL_law 891 = .ok (.invokevirtual 115, 3) := by decide +kernel
theorem dL_law_894 : decode cL_law 894 = .ok (.if_icmp .eq 147, 3) := by decide +kernel
theorem dL_law_897 : decode cL_law 897 = .ok (.iconst 0, 1) := by decide +kernel
theorem dL_law_898 : decode cL_law 898 = .ok (.ireturn, 1) := by decide +kernel
theorem dL_law_899 : decode cL_law 899 = .ok (.aload_n 1, 1) := by decide +kernel
theorem dL_law_900 : decode cL_law 900 = .ok (.aload_n 0, 1) := by decide +kernel
theorem dL_law_901 : decode cL_law 901 = .ok (.iload_n 3, 1) := by decide +kernel
theorem dL_law_902 : decode cL_law 902 = .ok (.iconst 1, 1) := by decide +kernel
theorem dL_law_903 : decode cL_law 903 = .ok (.iadd, 1) := by decide +kernel
theorem dL_law_904 : decode cL_law 904 = .ok (.iaload, 1) := by decide +kernel
theorem dL_law_905 : decode cL_law 905 = .ok (.aload_n 0, 1) := by decide +kernel
theorem dL_law_906 : decode cL_law 906 = .ok (.iload_n 3, 1) := by decide +kernel
theorem dL_law_907 : decode cL_law 907 = .ok (.iconst 2, 1) := by decide +kernel
theorem dL_law_908 : decode cL_law 908 = .ok (.iadd, 1) := by decide +kernel
theorem dL_law_909 : decode cL_law 909 = .ok (.iaload, 1) := by decide +kernel
theorem dL_law_910 : decode cL_law 910 = .ok (.invokevirtual 116, 3) := by decide +kernel
theorem dL_law_913 : decode cL_law 913 = .ok (.aload_n 2, 1) := by decide +kernel
theorem dL_law_914 : decode cL_law 914 = .ok (.aload_n 0, 1) := by decide +kernel
theorem dL_law_915 : decode cL_law 915 = .ok (.iload_n 3, 1) := by decide +kernel
theorem dL_law_916 : decode cL_law 916 = .ok (.iconst 1, 1) := by decide +kernel
theorem dL_law_917 : decode cL_law 917 = .ok (.iadd, 1) := by decide +kernel
theorem dL_law_918 : decode cL_law 918 = .ok (.iaload, 1) := by decide +kernel
theorem dL_law_919 : decode cL_law 919 = .ok (.aload_n 0, 1) := by decide +kernel
theorem dL_law_920 : decode cL_law 920 = .ok (.iload_n 3, 1) := by decide +kernel
theorem dL_law_921 : decode cL_law 921 = .ok (.iconst 2, 1) := by decide +kernel
theorem dL_law_922 : decode cL_law 922 = .ok (.iadd, 1) := by decide +kernel
theorem dL_law_923 : decode cL_law 923 = .ok (.iaload, 1) := by decide +kernel
theorem dL_law_924 : decode cL_law 924 = .ok (.invokevirtual 119, 3) := by decide +kernel
theorem dL_law_927 : decode cL_law 927 = .ok (.if_icmp .eq 114, 3) := by decide +kernel
theorem dL_law_930 : decode cL_law 930 = .ok (.iconst 0, 1) := by decide +kernel
theorem dL_law_931 : decode cL_law 931 = .ok (.ireturn, 1) := by decide +kernel
theorem dL_law_932 : decode cL_law 932 = .ok (.aload_n 1, 1) := by decide +kernel
theorem dL_law_933 : decode cL_law 933 = .ok (.aload_n 0, 1) := by decide +kernel
theorem dL_law_934 : decode cL_law 934 = .ok (.iload_n 3, 1) := by decide +kernel
theorem dL_law_935 : decode cL_law 935 = .ok (.iconst 1, 1) := by decide +kernel
theorem dL_law_936 : decode cL_law 936 = .ok (.iadd, 1) := by decide +kernel
theorem dL_law_937 : decode cL_law 937 = .ok (.iaload, 1) := by decide +kernel
theorem dL_law_938 : decode cL_law 938 = .ok (.aload_n 0, 1) := by decide +kernel
theorem dL_law_939 : decode cL_law 939 = .ok (.iload_n 3, 1) := by decide +kernel
theorem dL_law_940 : decode cL_law 940 = .ok (.iconst 2, 1) := by decide +kernel
theorem dL_law_941 : decode cL_law 941 = .ok (.iadd, 1) := by decide +kernel
theorem dL_law_942 : decode cL_law 942 = .ok (.iaload, 1) := by decide +kernel
theorem dL_law_943 : decode cL_law 943 = .ok (.aload_n 0, 1) := by decide +kernel
theorem dL_law_944 : decode cL_law 944 = .ok (.iload_n 3, 1) := by decide +kernel
theorem dL_law_945 : decode cL_law 945 = .ok (.iconst 3, 1) := by decide +kernel
theorem dL_law_946 : decode cL_law 946 = .ok (.iadd, 1) := by decide +kernel
theorem dL_law_947 : decode cL_law 947 = .ok (.iaload, 1) := by decide +kernel
theorem dL_law_948 : decode cL_law 948 = .ok (.invokevirtual 120, 3) := by decide +kernel
theorem dL_law_951 : decode cL_law 951 = .ok (.aload_n 2, 1) := by decide +kernel
theorem dL_law_952 : decode cL_law 952 = .ok (.aload_n 0, 1) := by decide +kernel
theorem dL_law_953 : decode cL_law 953 = .ok (.iload_n 3, 1) := by decide +kernel
theorem dL_law_954 : decode cL_law 954 = .ok (.iconst 1, 1) := by decide +kernel
theorem dL_law_955 : decode cL_law 955 = .ok (.iadd, 1) := by decide +kernel
theorem dL_law_956 : decode cL_law 956 = .ok (.iaload, 1) := by decide +kernel
theorem dL_law_957 : decode cL_law 957 = .ok (.aload_n 0, 1) := by decide +kernel
theorem dL_law_958 : decode cL_law 958 = .ok (.iload_n 3, 1) := by decide +kernel
theorem dL_law_959 : decode cL_law 959 = .ok (.iconst 2, 1) := by decide +kernel
theorem dL_law_960 : decode cL_law 960 = .ok (.iadd, 1) := by decide +kernel
theorem dL_law_961 : decode cL_law 961 = .ok (.iaload, 1) := by decide +kernel
theorem dL_law_962 : decode cL_law 962 = .ok (.aload_n 0, 1) := by decide +kernel
theorem dL_law_963 : decode cL_law 963 = .ok (.iload_n 3, 1) := by decide +kernel
theorem dL_law_964 : decode cL_law 964 = .ok (.iconst 3, 1) := by decide +kernel
theorem dL_law_965 : decode cL_law 965 = .ok (.iadd, 1) := by decide +kernel
theorem dL_law_966 : decode cL_law 966 = .ok (.iaload, 1) := by decide +kernel
theorem dL_law_967 : decode cL_law 967 = .ok (.invokevirtual 123, 3) := by decide +kernel
theorem dL_law_970 : decode cL_law 970 = .ok (.if_icmp .eq 71, 3) := by decide +kernel
theorem dL_law_973 : decode cL_law 973 = .ok (.iconst 0, 1) := by decide +kernel
theorem dL_law_974 : decode cL_law 974 = .ok (.ireturn, 1) := by decide +kernel
theorem dL_law_975 : decode cL_law 975 = .ok (.aload_n 1, 1) := by decide +kernel
theorem dL_law_976 : decode cL_law 976 = .ok (.aload_n 0, 1) := by decide +kernel
theorem dL_law_977 : decode cL_law 977 = .ok (.iload_n 3, 1) := by decide +kernel
theorem dL_law_978 : decode cL_law 978 = .ok (.iconst 1, 1) := by decide +kernel
theorem dL_law_979 : decode cL_law 979 = .ok (.iadd, 1) := by decide +kernel
theorem dL_law_980 : decode cL_law 980 = .ok (.iaload, 1) := by decide +kernel
theorem dL_law_981 : decode cL_law 981 = .ok (.aload_n 0, 1) := by decide +kernel
theorem dL_law_982 : decode cL_law 982 = .ok (.iload_n 3, 1) := by decide +kernel
theorem dL_law_983 : decode cL_law 983 = .ok (.iconst 2, 1) := by decide +kernel
theorem dL_law_984 : decode cL_law 984 = .ok (.iadd, 1) := by decide +kernel
theorem dL_law_985 : decode cL_law 985 = .ok (.iaload, 1) := by decide +kernel
theorem dL_law_986 : decode cL_law 986 = .ok (.aload_n 0, 1) := by decide +kernel
theorem dL_law_987 : decode cL_law 987 = .ok (.iload_n 3, 1) := by decide +kernel
theorem dL_law_988 : decode cL_law 988 = .ok (.iconst 3, 1) := by decide +kernel
theorem dL_law_989 : decode cL_law 989 = .ok (.iadd, 1) := by decide +kernel
theorem dL_law_990 : decode cL_law 990 = .ok (.iaload, 1) := by decide +kernel
theorem dL_law_991 : decode cL_law 991 = .ok (.invokevirtual 124, 3) := by decide +kernel
theorem dL_law_994 : decode cL_law 994 = .ok (.aload_n 2, 1) := by decide +kernel
theorem dL_law_995 : decode cL_law 995 = .ok (.aload_n 0, 1) := by decide +kernel
theorem dL_law_996 : decode cL_law 996 = .ok (.iload_n 3, 1) := by decide +kernel
theorem dL_law_997 : decode cL_law 997 = .ok (.iconst 1, 1) := by decide +kernel
theorem dL_law_998 : decode cL_law 998 = .ok (.iadd, 1) := by decide +kernel
theorem dL_law_999 : decode cL_law 999 = .ok (.iaload, 1) := by decide +kernel
theorem dL_law_1000 : decode cL_law 1000 = .ok (.aload_n 0, 1) := by decide +kernel
theorem dL_law_1001 : decode cL_law 1001 = .ok (.iload_n 3, 1) := by decide +kernel
theorem dL_law_1002 : decode cL_law 1002 = .ok (.iconst 2, 1) := by decide +kernel
theorem dL_law_1003 : decode cL_law 1003 = .ok (.iadd, 1) := by decide +kernel
end
section
theorem dL_law_1004 : decode cL_law 1004 = .ok (.iaload, 1) := by decide +kernel
theorem dL_law_1005 : decode cL_law 1005 = .ok (.aload_n 0, 1) := by decide +kernel
theorem dL_law_1006 : decode cL_law 1006 = .ok (.iload_n 3, 1) := by decide +kernel
theorem dL_law_1007 : decode cL_law 1007 = .ok (.iconst 3, 1) := by decide +kernel
theorem dL_law_1008 : decode cL_law 1008 = .ok (.iadd, 1) := by decide +kernel
theorem dL_law_1009 : decode cL_law 1009 = .ok (.iaload, 1) := by decide +kernel
theorem dL_law_1010 : decode cL_law 1010 = .ok (.invokevirtual 127, 3) := by decide +kernel
theorem dL_law_1013 : decode cL_law 1013 = .ok (.if_icmp .eq 28, 3) := by decide +kernel
theorem dL_law_1016 : decode cL_law 1016 = .ok (.iconst 0, 1) := by decide +kernel
theorem dL_law_1017 : decode cL_law 1017 = .ok (.ireturn, 1) := by decide +kernel
theorem dL_law_1018 : decode cL_law 1018 = .ok (.aload_n 1, 1) := by decide +kernel
theorem dL_law_1019 : decode cL_law 1019 = .ok (.aload_n 0, 1) := by decide +kernel
theorem dL_law_1020 : decode cL_law 1020 = .ok (.iload_n 3, 1) := by decide +kernel
theorem dL_law_1021 : decode cL_law 1021 = .ok (.iconst 1, 1) := by decide +kernel
theorem dL_law_1022 : decode cL_law 1022 = .ok (.iadd, 1) := by decide +kernel
theorem dL_law_1023 : decode cL_law 1023 = .ok (.iaload, 1) := by decide +kernel
theorem dL_law_1024 : decode cL_law 1024 = .ok (.invokevirtual 128, 3) := by decide +kernel
theorem dL_law_1027 : decode cL_law 1027 = .ok (.aload_n 2, 1) := by decide +kernel
theorem dL_law_1028 : decode cL_law 1028 = .ok (.aload_n 0, 1) := by decide +kernel
theorem dL_law_1029 : decode cL_law 1029 = .ok (.iload_n 3, 1) := by decide +kernel
theorem dL_law_1030 : decode cL_law 1030 = .ok (.iconst 1, 1) := by decide +kernel
theorem dL_law_1031 : decode cL_law 1031 = .ok (.iadd, 1) := by decide +kernel
theorem dL_law_1032 : decode cL_law 1032 = .ok (.iaload, 1) := by decide +kernel
theorem dL_law_1033 : decode cL_law 1033 = .ok (.invokevirtual 131, 3) := by decide +kernel
theorem dL_law_1036 : decode cL_law 1036 = .ok (.if_icmp .eq 5, 3) := by decide +kernel
theorem dL_law_1039 : decode cL_law 1039 = .ok (.iconst 0, 1) := by decide +kernel
theorem dL_law_1040 : decode cL_law 1040 = .ok (.ireturn, 1) := by decide +kernel
theorem dL_law_1041 : decode cL_law 1041 = .ok (.iinc 3 5, 3) := by decide +kernel
theorem dL_law_1044 : decode cL_law 1044 = .ok (.goto (-1026), 3) := by decide +kernel
theorem dL_law_1047 : decode cL_law 1047 = .ok (.iconst 1, 1) := by decide +kernel
theorem dL_law_1048 : decode cL_law 1048 = .ok (.ireturn, 1) := by decide +kernel
end
section
theorem dX0_init_0 : decode cX0_init 0 = .ok (.aload_n 0, 1) := by decide +kernel
theorem dX0_init_1 : decode cX0_init 1 = .ok (.invokespecial 3, 3) := by decide +kernel
theorem dX0_init_4 : decode cX0_init 4 = .ok (.aload_n 0, 1) := by decide +kernel
theorem dX0_init_5 : decode cX0_init 5 = .ok (.sipush 600, 3) := by decide +kernel
theorem dX0_init_8 : decode cX0_init 8 = .ok (.newarray .int, 2) := by decide +kernel
theorem dX0_init_10 : decode cX0_init 10 = .ok (.putfield 9, 3) := by decide +kernel
theorem dX0_init_13 : decode cX0_init 13 = .ok (.aload_n 0, 1) := by decide +kernel
theorem dX0_init_14 : decode cX0_init 14 = .ok (.sipush 600, 3) := by decide +kernel
theorem dX0_init_17 : decode cX0_init 17 = .ok (.newarray .int, 2) := by decide +kernel
theorem dX0_init_19 : decode cX0_init 19 = .ok (.putfield 15, 3) := by decide +kernel
theorem dX0_init_22 : decode cX0_init 22 = .ok (.aload_n 0, 1) := by decide +kernel
theorem dX0_init_23 : decode cX0_init 23 = .ok (.sipush 600, 3) := by decide +kernel
theorem dX0_init_26 : decode cX0_init 26 = .ok (.newarray .int, 2) := by decide +kernel
theorem dX0_init_28 : decode cX0_init 28 = .ok (.putfield 18, 3) := by decide +kernel
theorem dX0_init_31 : decode cX0_init 31 = .ok (.return_, 1) := by decide +kernel
theorem dX0_hasRoomFor_0 : decode cX0_hasRoomFor 0 = .ok (.aload_n 0, 1) := by decide +kernel
theorem dX0_hasRoomFor_1 : decode cX0_hasRoomFor 1 = .ok (.getfield 21, 3) := by decide +kernel
theorem dX0_hasRoomFor_4 : decode cX0_hasRoomFor 4 = .ok (.iload_n 1, 1) := by decide +kernel
theorem dX0_hasRoomFor_5 : decode cX0_hasRoomFor 5 = .ok (.iadd, 1) := by decide +kernel
theorem dX0_hasRoomFor_6 : decode cX0_hasRoomFor 6 = .ok (.sipush 600, 3) := by decide +kernel
theorem dX0_hasRoomFor_9 : decode cX0_hasRoomFor 9 = .ok (.if_icmp .gt 7, 3) := by decide +kernel
theorem dX0_hasRoomFor_12 : decode cX0_hasRoomFor 12 = .ok (.iconst 1, 1) := by decide +kernel
theorem dX0_hasRoomFor_13 : decode cX0_hasRoomFor 13 = .ok (.goto 4, 3) := by decide +kernel
theorem dX0_hasRoomFor_16 : decode cX0_hasRoomFor 16 = .ok (.iconst 0, 1) := by decide +kernel
theorem dX0_hasRoomFor_17 : decode cX0_hasRoomFor 17 = .ok (.ireturn, 1) := by decide +kernel
theorem dX0_note_0 : decode cX0_note 0 = .ok (.aload_n 0, 1) := by decide +kernel
theorem dX0_note_1 : decode cX0_note 1 = .ok (.getfield 21, 3) := by decide +kernel
theorem dX0_note_4 : decode cX0_note 4 = .ok (.sipush 600, 3) := by decide +kernel
theorem dX0_note_7 : decode cX0_note 7 = .ok (.if_icmp .ge 49, 3) := by decide +kernel
theorem dX0_note_10 : decode cX0_note 10 = .ok (.aload_n 0, 1) := by decide +kernel
theorem dX0_note_11 : decode cX0_note 11 = .ok (.getfield 9, 3) := by decide +kernel
theorem dX0_note_14 : decode cX0_note 14 = .ok (.aload_n 0, 1) := by decide +kernel
theorem dX0_note_15 : decode cX0_note 15 = .ok (.getfield 21, 3) := by decide +kernel
theorem dX0_note_18 : decode cX0_note 18 = .ok (.iload_n 1, 1) := by decide +kernel
theorem dX0_note_19 : decode cX0_note 19 = .ok (.invokestatic 25, 3) := by decide +kernel
theorem dX0_note_22 : decode cX0_note 22 = .ok (.aload_n 0, 1) := by decide +kernel
theorem dX0_note_23 : decode cX0_note 23 = .ok (.getfield 15, 3) := by decide +kernel
theorem dX0_note_26 : decode cX0_note 26 = .ok (.aload_n 0, 1) := by decide +kernel
theorem dX0_note_27 : decode cX0_note 27 = .ok (.getfield 21, 3) := by decide +kernel
theorem dX0_note_30 : decode cX0_note 30 = .ok (.iload_n 2, 1) := by decide +kernel
theorem dX0_note_31 : decode cX0_note 31 = .ok (.invokestatic 25, 3) := by decide +kernel
theorem dX0_note_34 : decode cX0_note 34 = .ok (.aload_n 0, 1) := by decide +kernel
theorem dX0_note_35 : decode cX0_note 35 = .ok (.getfield 18, 3) := by decide +kernel
theorem dX0_note_38 : decode cX0_note 38 = .ok (.aload_n 0, 1) := by decide +kernel
theorem dX0_note_39 : decode cX0_note 39 = .ok (.getfield 21, 3) := by decide +kernel
theorem dX0_note_42 : decode cX0_note 42 = .ok (.iload_n 3, 1) := by decide +kernel
theorem dX0_note_43 : decode cX0_note 43 = .ok (.invokestatic 25, 3) := by decide +kernel
theorem dX0_note_46 : decode cX0_note 46 = .ok (.aload_n 0, 1) := by decide +kernel
theorem dX0_note_47 : decode cX0_note 47 = .ok (.dup, 1) := by decide +kernel
theorem dX0_note_48 : decode cX0_note 48 = .ok (.getfield 21, 3) := by decide +kernel
theorem dX0_note_51 : decode cX0_note 51 = .ok (.iconst 1, 1) := by decide +kernel
theorem dX0_note_52 : decode cX0_note 52 = .ok (.iadd, 1) := by decide +kernel
theorem dX0_note_53 : decode cX0_note 53 = .ok (.putfield 21, 3) := by decide +kernel
theorem dX0_note_56 : decode cX0_note 56 = .ok (.return_, 1) := by decide +kernel
theorem dX0_whereWas_0 : decode cX0_whereWas 0 = .ok (.aload_n 0, 1) := by decide +kernel
theorem dX0_whereWas_1 : decode cX0_whereWas 1 = .ok (.getfield 21, 3) := by decide +kernel
theorem dX0_whereWas_4 : decode cX0_whereWas 4 = .ok (.iconst 1, 1) := by decide +kernel
theorem dX0_whereWas_5 : decode cX0_whereWas 5 = .ok (.isub, 1) := by decide +kernel
theorem dX0_whereWas_6 : decode cX0_whereWas 6 = .ok (.istore_n 3, 1) := by decide +kernel
theorem dX0_whereWas_7 : decode cX0_whereWas 7 = .ok (.iload_n 3, 1) := by decide +kernel
theorem dX0_whereWas_8 : decode cX0_whereWas 8 = .ok (.ifCond .lt 42, 3) := by decide +kernel
theorem dX0_whereWas_11 : decode cX0_whereWas 11 = .ok (.aload_n 0, 1) := by decide +kernel
theorem dX0_whereWas_12 : decode cX0_whereWas 12 = .ok (.getfield 15, 3) := by decide +kernel
theorem dX0_whereWas_15 : decode cX0_whereWas 15 = .ok (.iload_n 3, 1) := by decide +kernel
theorem dX0_whereWas_16 : decode cX0_whereWas 16 = .ok (.invokestatic 29, 3) := by decide +kernel
theorem dX0_whereWas_19 : decode cX0_whereWas 19 = .ok (.iload_n 1, 1) := by decide +kernel
theorem dX0_whereWas_20 : decode cX0_whereWas 20 = .ok (.if_icmp .ne 24, 3) := by decide +kernel
theorem dX0_whereWas_23 : decode cX0_whereWas 23 = .ok (.aload_n 0, 1) := by decide +kernel
theorem dX0_whereWas_24 : decode cX0_whereWas 24 = .ok (.getfield 9, 3) := by decide +kernel
theorem dX0_whereWas_27 : decode cX0_whereWas 27 = .ok (.iload_n 3, 1) := by decide +kernel
theorem dX0_whereWas_28 : decode cX0_whereWas 28 = .ok (.invokestatic 29, 3) := by decide +kernel
theorem dX0_whereWas_31 : decode cX0_whereWas 31 = .ok (.iload_n 2, 1) := by decide +kernel
theorem dX0_whereWas_32 : decode cX0_whereWas 32 = .ok (.if_icmp .gt 12, 3) := by decide +kernel
theorem dX0_whereWas_35 : decode cX0_whereWas 35 = .ok (.aload_n 0, 1) := by decide +kernel
theorem dX0_whereWas_36 : decode cX0_whereWas 36 = .ok (.getfield 18, 3) := by decide +kernel
theorem dX0_whereWas_39 : decode cX0_whereWas 39 = .ok (.iload_n 3, 1) := by decide +kernel
theorem dX0_whereWas_40 : decode cX0_whereWas 40 = .ok (.invokestatic 29, 3) := by decide +kernel
theorem dX0_whereWas_43 : decode cX0_whereWas 43 = .ok (.ireturn, 1) := by decide +kernel
theorem dX0_whereWas_44 : decode cX0_whereWas 44 = .ok (.iinc 3 (-1), 3) := by decide +kernel
theorem dX0_whereWas_47 : decode cX0_whereWas 47 = .ok (.goto (-40), 3) := by decide +kernel
theorem dX0_whereWas_50 : decode cX0_whereWas 50 = .ok (.bipush (-9), 2) := by decide +kernel
theorem dX0_whereWas_52 : decode cX0_whereWas 52 = .ok (.ireturn, 1) := by decide +kernel
end
section
theorem dX1_init_0 : decode cX1_init 0 = .ok (.aload_n 0, 1) := by decide +kernel
theorem dX1_init_1 : decode cX1_init 1 = .ok (.invokespecial 3, 3) := by decide +kernel
theorem dX1_init_4 : decode cX1_init 4 = .ok (.aload_n 0, 1) := by decide +kernel
theorem dX1_init_5 : decode cX1_init 5 = .ok (.bipush 7, 2) := by decide +kernel
theorem dX1_init_7 : decode cX1_init 7 = .ok (.anewarray 9, 3) := by decide +kernel
theorem dX1_init_10 : decode cX1_init 10 = .ok (.putfield 11, 3) := by decide +kernel
theorem dX1_init_13 : decode cX1_init 13 = .ok (.aload_n 0, 1) := by decide +kernel
theorem dX1_init_14 : decode cX1_init 14 = .ok (.bipush 49, 2) := by decide +kernel
theorem dX1_init_16 : decode cX1_init 16 = .ok (.newarray .int, 2) := by decide +kernel
theorem dX1_init_18 : decode cX1_init 18 = .ok (.putfield 17, 3) := by decide +kernel
theorem dX1_init_21 : decode cX1_init 21 = .ok (.aload_n 0, 1) := by decide +kernel
theorem dX1_init_22 : decode cX1_init 22 = .ok (.bipush 7, 2) := by decide +kernel
theorem dX1_init_24 : decode cX1_init 24 = .ok (.newarray .int, 2) := by decide +kernel
theorem dX1_init_26 : decode cX1_init 26 = .ok (.putfield 21, 3) := by decide +kernel
theorem dX1_init_29 : decode cX1_init 29 = .ok (.aload_n 0, 1) := by decide +kernel
theorem dX1_init_30 : decode cX1_init 30 = .ok (.bipush 7, 2) := by decide +kernel
theorem dX1_init_32 : decode cX1_init 32 = .ok (.newarray .int, 2) := by decide +kernel
theorem dX1_init_34 : decode cX1_init 34 = .ok (.putfield 24, 3) := by decide +kernel
theorem dX1_init_37 : decode cX1_init 37 = .ok (.aload_n 0, 1) := by decide +kernel
theorem dX1_init_38 : decode cX1_init 38 = .ok (.bipush 7, 2) := by decide +kernel
theorem dX1_init_40 : decode cX1_init 40 = .ok (.newarray .int, 2) := by decide +kernel
theorem dX1_init_42 : decode cX1_init 42 = .ok (.putfield 27, 3) := by decide +kernel
theorem dX1_init_45 : decode cX1_init 45 = .ok (.aload_n 0, 1) := by decide +kernel
theorem dX1_init_46 : decode cX1_init 46 = .ok (.sipush 1024, 3) := by decide +kernel
theorem dX1_init_49 : decode cX1_init 49 = .ok (.newarray .int, 2) := by decide +kernel
theorem dX1_init_51 : decode cX1_init 51 = .ok (.putfield 30, 3) := by decide +kernel
theorem dX1_init_54 : decode cX1_init 54 = .ok (.return_, 1) := by decide +kernel
theorem dX1_findReach_0 : decode cX1_findReach 0 = .ok (.aload_n 0, 1) := by decide +kernel
theorem dX1_findReach_1 : decode cX1_findReach 1 = .ok (.aload_n 1, 1) := by decide +kernel
theorem dX1_findReach_2 : decode cX1_findReach 2 = .ok (.getfield 33, 3) := by decide +kernel
theorem dX1_findReach_5 : decode cX1_findReach 5 = .ok (.bipush 7, 2) := by decide +kernel
theorem dX1_findReach_7 : decode cX1_findReach 7 = .ok (.invokestatic 39, 3) := by decide +kernel
theorem dX1_findReach_10 : decode cX1_findReach 10 = .ok (.putfield 45, 3) := by decide +kernel
theorem dX1_findReach_13 : decode cX1_findReach 13 = .ok (.aload_n 0, 1) := by decide +kernel
theorem dX1_findReach_14 : decode cX1_findReach 14 = .ok (.aload_n 1, 1) := by decide +kernel
theorem dX1_findReach_15 : decode cX1_findReach 15 = .ok (.invokevirtual 46, 3) := by decide +kernel
theorem dX1_findReach_18 : decode cX1_findReach 18 = .ok (.aload_n 0, 1) := by decide +kernel
theorem dX1_findReach_19 : decode cX1_findReach 19 = .ok (.getfield 50, 3) := by decide +kernel
theorem dX1_findReach_22 : decode cX1_findReach 22 = .ok (.ifCond .ne 5, 3) := by decide +kernel
theorem dX1_findReach_25 : decode cX1_findReach 25 = .ok (.iconst 0, 1) := by decide +kernel
theorem dX1_findReach_26 : decode cX1_findReach 26 = .ok (.ireturn, 1) := by decide +kernel
theorem dX1_findReach_27 : decode cX1_findReach 27 = .ok (.iconst 0, 1) := by decide +kernel
theorem dX1_findReach_28 : decode cX1_findReach 28 = .ok (.istore_n 3, 1) := by decide +kernel
theorem dX1_findReach_29 : decode cX1_findReach 29 = .ok (.iload_n 3, 1) := by decide +kernel
theorem dX1_findReach_30 : decode cX1_findReach 30 = .ok (.aload_n 0, 1) := by decide +kernel
theorem dX1_findReach_31 : decode cX1_findReach 31 = .ok (.getfield 45, 3) := by decide +kernel
theorem dX1_findReach_34 : decode cX1_findReach 34 = .ok (.if_icmp .ge 16, 3) := by decide +kernel
theorem dX1_findReach_37 : decode cX1_findReach 37 = .ok (.aload_n 0, 1) := by decide +kernel
theorem dX1_findReach_38 : decode cX1_findReach 38 = .ok (.aload_n 1, 1) := by decide +kernel
theorem dX1_findReach_39 : decode cX1_findReach 39 = .ok (.iload_n 3, 1) := by decide +kernel
theorem dX1_findReach_40 : decode cX1_findReach 40 = .ok (.aload_n 2, 1) := by decide +kernel
theorem dX1_findReach_41 : decode cX1_findReach 41 = .ok (.invokevirtual 53, 3) := by decide +kernel
theorem dX1_findReach_44 : decode cX1_findReach 44 = .ok (.iinc 3 1, 3) := by decide +kernel
theorem dX1_findReach_47 : decode cX1_findReach 47 = .ok (.goto (-18), 3) := by decide +kernel
theorem dX1_findReach_50 : decode cX1_findReach 50 = .ok (.aload_n 0, 1) := by decide +kernel
theorem dX1_findReach_51 : decode cX1_findReach 51 = .ok (.invokevirtual 57, 3) := by decide +kernel
theorem dX1_findReach_54 : decode cX1_findReach 54 = .ok (.aload_n 0, 1) := by decide +kernel
theorem dX1_findReach_55 : decode cX1_findReach 55 = .ok (.aload_n 0, 1) := by decide +kernel
theorem dX1_findReach_56 : decode cX1_findReach 56 = .ok (.getfield 30, 3) := by decide +kernel
theorem dX1_findReach_59 : decode cX1_findReach 59 = .ok (.iconst 0, 1) := by decide +kernel
theorem dX1_findReach_60 : decode cX1_findReach 60 = .ok (.iconst 0, 1) := by decide +kernel
theorem dX1_findReach_61 : decode cX1_findReach 61 = .ok (.invokestatic 60, 3) := by decide +kernel
theorem dX1_findReach_64 : decode cX1_findReach 64 = .ok (.invokestatic 63, 3) := by decide +kernel
theorem dX1_findReach_67 : decode cX1_findReach 67 = .ok (.putfield 67, 3) := by decide +kernel
theorem dX1_findReach_70 : decode cX1_findReach 70 = .ok (.aload_n 0, 1) := by decide +kernel
theorem dX1_findReach_71 : decode cX1_findReach 71 = .ok (.getfield 67, 3) := by decide +kernel
theorem dX1_findReach_74 : decode cX1_findReach 74 = .ok (.iconst (-1), 1) := by decide +kernel
theorem dX1_findReach_75 : decode cX1_findReach 75 = .ok (.if_icmp .eq 7, 3) := by decide +kernel
theorem dX1_findReach_78 : decode cX1_findReach 78 = .ok (.iconst 1, 1) := by decide +kernel
theorem dX1_findReach_79 : decode cX1_findReach 79 = .ok (.goto 4, 3) := by decide +kernel
theorem dX1_findReach_82 : decode cX1_findReach 82 = .ok (.iconst 0, 1) := by decide +kernel
theorem dX1_findReach_83 : decode cX1_findReach 83 = .ok (.ireturn, 1) := by decide +kernel
theorem dX1_findWay_0 : decode cX1_findWay 0 = .ok (.aload_n 0, 1) := by decide +kernel
theorem dX1_findWay_1 : decode cX1_findWay 1 = .ok (.invokevirtual 70, 3) := by decide +kernel
theorem dX1_findWay_4 : decode cX1_findWay 4 = .ok (.iconst 0, 1) := by decide +kernel
theorem dX1_findWay_5 : decode cX1_findWay 5 = .ok (.istore_n 1, 1) := by decide +kernel
theorem dX1_findWay_6 : decode cX1_findWay 6 = .ok (.iconst 0, 1) := by decide +kernel
theorem dX1_findWay_7 : decode cX1_findWay 7 = .ok (.istore_n 2, 1) := by decide +kernel
theorem dX1_findWay_8 : decode cX1_findWay 8 = .ok (.iload_n 2, 1) := by decide +kernel
theorem dX1_findWay_9 : decode cX1_findWay 9 = .ok (.aload_n 0, 1) := by decide +kernel
theorem dX1_findWay_10 : decode cX1_findWay 10 = .ok (.getfield 45, 3) := by decide +kernel
theorem dX1_findWay_13 : decode cX1_findWay 13 = .ok (.if_icmp .ge 40, 3) := by decide +kernel
theorem dX1_findWay_16 : decode cX1_findWay 16 = .ok (.aload_n 0, 1) := by decide +kernel
theorem dX1_findWay_17 : decode cX1_findWay 17 = .ok (.iload_n 2, 1) := by decide +kernel
theorem dX1_findWay_18 : decode cX1_findWay 18 = .ok (.iload_n 1, 1) := by decide +kernel
theorem dX1_findWay_19 : decode cX1_findWay 19 = .ok (.invokevirtual 73, 3) := by decide +kernel
theorem dX1_findWay_22 : decode cX1_findWay 22 = .ok (.istore_n 3, 1) := by decide +kernel
theorem dX1_findWay_23 : decode cX1_findWay 23 = .ok (.aload_n 0, 1) := by decide +kernel
theorem dX1_findWay_24 : decode cX1_findWay 24 = .ok (.getfield 27, 3) := by decide +kernel
theorem dX1_findWay_27 : decode cX1_findWay 27 = .ok (.iload_n 2, 1) := by decide +kernel
theorem dX1_findWay_28 : decode cX1_findWay 28 = .ok (.iload_n 3, 1) := by decide +kernel
theorem dX1_findWay_29 : decode cX1_findWay 29 = .ok (.invokestatic 76, 3) := by decide +kernel
theorem dX1_findWay_32 : decode cX1_findWay 32 = .ok (.iload_n 3, 1) := by decide +kernel
theorem dX1_findWay_33 : decode cX1_findWay 33 = .ok (.iconst (-1), 1) := by decide +kernel
theorem dX1_findWay_34 : decode cX1_findWay 34 = .ok (.if_icmp .ne 7, 3) := by decide +kernel
theorem dX1_findWay_37 : decode cX1_findWay 37 = .ok (.iload_n 1, 1) := by decide +kernel
theorem dX1_findWay_38 : decode cX1_findWay 38 = .ok (.goto 8, 3) := by decide +kernel
theorem dX1_findWay_41 : decode cX1_findWay 41 = .ok (.iload_n 1, 1) := by decide +kernel
theorem dX1_findWay_42 : decode cX1_findWay 42 = .ok (.iconst 1, 1) := by decide +kernel
theorem dX1_findWay_43 : decode cX1_findWay 43 = .ok (.iload_n 3, 1) := by decide +kernel
theorem dX1_findWay_44 : decode cX1_findWay 44 = .ok (.ishl, 1) := by decide +kernel
theorem dX1_findWay_45 : decode cX1_findWay 45 = .ok (.ior, 1) := by decide +kernel
theorem dX1_findWay_46 : decode cX1_findWay 46 = .ok (.istore_n 1, 1) := by decide +kernel
theorem dX1_findWay_47 : decode cX1_findWay 47 = .ok (.iinc 2 1, 3) := by decide +kernel
theorem dX1_findWay_50 : decode cX1_findWay 50 = .ok (.goto (-42), 3) := by decide +kernel
theorem dX1_findWay_53 : decode cX1_findWay 53 = .ok (.aload_n 0, 1) := by decide +kernel
theorem dX1_findWay_54 : decode cX1_findWay 54 = .ok (.getfield 30, 3) := by decide +kernel
theorem dX1_findWay_57 : decode cX1_findWay 57 = .ok (.iconst 0, 1) := by decide +kernel
theorem dX1_findWay_58 : decode cX1_findWay 58 = .ok (.iconst 0, 1) := by decide +kernel
theorem dX1_findWay_59 : decode cX1_findWay 59 = .ok (.invokestatic 60, 3) := by decide +kernel
theorem dX1_findWay_62 : decode cX1_findWay 62 = .ok (.invokestatic 63, 3) := by decide +kernel
theorem dX1_findWay_65 : decode cX1_findWay 65 = .ok (.ireturn, 1) := by decide +kernel
theorem dX1_chosenFor_0 : decode cX1_chosenFor 0 = .ok (.aload_n 0, 1) := by decide +kernel
theorem dX1_chosenFor_1 : decode cX1_chosenFor 1 = .ok (.aload_n 0, 1) := by decide +kernel
theorem dX1_chosenFor_2 : decode cX1_chosenFor 2 = .ok (.getfield 27, 3) := by decide +kernel
theorem dX1_chosenFor_5 : decode cX1_chosenFor 5 = .ok (.iload_n 1, 1) := by decide +kernel
theorem dX1_chosenFor_6 : decode cX1_chosenFor 6 = .ok (.invokestatic 63, 3) := by decide +kernel
theorem dX1_chosenFor_9 : decode cX1_chosenFor 9 = .ok (.invokevirtual 80, 3) := by decide +kernel
theorem dX1_chosenFor_12 : decode cX1_chosenFor 12 = .ok (.areturn, 1) := by decide +kernel
theorem dX1_turnedAt_0 : decode cX1_turnedAt 0 = .ok (.iload_n 1, 1) := by decide +kernel
theorem dX1_turnedAt_1 : decode cX1_turnedAt 1 = .ok (.ifCond .lt 29, 3) := by decide +kernel
theorem dX1_turnedAt_4 : decode cX1_turnedAt 4 = .ok (.iload_n 1, 1) := by decide +kernel
theorem dX1_turnedAt_5 : decode cX1_turnedAt 5 = .ok (.aload_n 0, 1) := by decide +kernel
theorem dX1_turnedAt_6 : decode cX1_turnedAt 6 = .ok (.getfield 50, 3) := by decide +kernel
theorem dX1_turnedAt_9 : decode cX1_turnedAt 9 = .ok (.if_icmp .ge 21, 3) := by decide +kernel
theorem dX1_turnedAt_12 : decode cX1_turnedAt 12 = .ok (.iload_n 1, 1) := by decide +kernel
theorem dX1_turnedAt_13 : decode cX1_turnedAt 13 = .ok (.aload_n 0, 1) := by decide +kernel
theorem dX1_turnedAt_14 : decode cX1_turnedAt 14 = .ok (.getfield 11, 3) := by decide +kernel
theorem dX1_turnedAt_17 : decode cX1_turnedAt 17 = .ok (.arraylength, 1) := by decide +kernel
theorem dX1_turnedAt_18 : decode cX1_turnedAt 18 = .ok (.if_icmp .ge 12, 3) := by decide +kernel
theorem dX1_turnedAt_21 : decode cX1_turnedAt 21 = .ok (.aload_n 0, 1) := by decide +kernel
theorem dX1_turnedAt_22 : decode cX1_turnedAt 22 = .ok (.getfield 11, 3) := by decide +kernel
theorem dX1_turnedAt_25 : decode cX1_turnedAt 25 = .ok (.iload_n 1, 1) := by decide +kernel
theorem dX1_turnedAt_26 : decode cX1_turnedAt 26 = .ok (.aaload, 1) := by decide +kernel
theorem dX1_turnedAt_27 : decode cX1_turnedAt 27 = .ok (.goto 4, 3) := by decide +kernel
theorem dX1_turnedAt_30 : decode cX1_turnedAt 30 = .ok (.aconst_null, 1) := by decide +kernel
theorem dX1_turnedAt_31 : decode cX1_turnedAt 31 = .ok (.areturn, 1) := by decide +kernel
theorem dX1_gather_0 : decode cX1_gather 0 = .ok (.aload_n 0, 1) := by decide +kernel
theorem dX1_gather_1 : decode cX1_gather 1 = .ok (.iconst 0, 1) := by decide +kernel
theorem dX1_gather_2 : decode cX1_gather 2 = .ok (.putfield 50, 3) := by decide +kernel
theorem dX1_gather_5 : decode cX1_gather 5 = .ok (.iconst 0, 1) := by decide +kernel
theorem dX1_gather_6 : decode cX1_gather 6 = .ok (.istore_n 2, 1) := by decide +kernel
theorem dX1_gather_7 : decode cX1_gather 7 = .ok (.iload_n 2, 1) := by decide +kernel
theorem dX1_gather_8 : decode cX1_gather 8 = .ok (.aload_n 0, 1) := by decide +kernel
theorem dX1_gather_9 : decode cX1_gather 9 = .ok (.getfield 45, 3) := by decide +kernel
theorem dX1_gather_12 : decode cX1_gather 12 = .ok (.if_icmp .ge 24, 3) := by decide +kernel
theorem dX1_gather_15 : decode cX1_gather 15 = .ok (.aload_n 1, 1) := by decide +kernel
theorem dX1_gather_16 : decode cX1_gather 16 = .ok (.iload_n 2, 1) := by decide +kernel
theorem dX1_gather_17 : decode cX1_gather 17 = .ok (.invokevirtual 84, 3) := by decide +kernel
theorem dX1_gather_20 : decode cX1_gather 20 = .ok (.astore_n 3, 1) := by decide +kernel
theorem dX1_gather_21 : decode cX1_gather 21 = .ok (.aload_n 3, 1) := by decide +kernel
theorem dX1_gather_22 : decode cX1_gather 22 = .ok (.ifnull 8, 3) := by decide +kernel
theorem dX1_gather_25 : decode cX1_gather 25 = .ok (.aload_n 0, 1) := by decide +kernel
theorem dX1_gather_26 : decode cX1_gather 26 = .ok (.aload_n 3, 1) := by decide +kernel
theorem dX1_gather_27 : decode cX1_gather 27 = .ok (.invokevirtual 87, 3) := by decide +kernel
theorem dX1_gather_30 : decode cX1_gather 30 = .ok (.iinc 2 1, 3) := by decide +kernel
theorem dX1_gather_33 : decode cX1_gather 33 = .ok (.goto (-26), 3) := by decide +kernel
theorem dX1_gather_36 : decode cX1_gather 36 = .ok (.return_, 1) := by decide +kernel
theorem dX1_insert_0 : decode cX1_insert 0 = .ok (.aload_n 0, 1) := by decide +kernel
theorem dX1_insert_1 : decode cX1_insert 1 = .ok (.getfield 50, 3) := by decide +kernel
theorem dX1_insert_4 : decode cX1_insert 4 = .ok (.istore_n 2, 1) := by decide +kernel
theorem dX1_insert_5 : decode cX1_insert 5 = .ok (.iload_n 2, 1) := by decide +kernel
theorem dX1_insert_6 : decode cX1_insert 6 = .ok (.ifCond .le 52, 3) := by decide +kernel
theorem dX1_insert_9 : decode cX1_insert 9 = .ok (.iload_n 2, 1) := by decide +kernel
theorem dX1_insert_10 : decode cX1_insert 10 = .ok (.aload_n 0, 1) := by decide +kernel
theorem dX1_insert_11 : decode cX1_insert 11 = .ok (.getfield 11, 3) := by decide +kernel
theorem dX1_insert_14 : decode cX1_insert 14 = .ok (.arraylength, 1) := by decide +kernel
theorem dX1_insert_15 : decode cX1_insert 15 = .ok (.if_icmp .ge 43, 3) := by decide +kernel
theorem dX1_insert_18 : decode cX1_insert 18 = .ok (.aload_n 0, 1) := by decide +kernel
theorem dX1_insert_19 : decode cX1_insert 19 = .ok (.getfield 11, 3) := by decide +kernel
theorem dX1_insert_22 : decode cX1_insert 22 = .ok (.iload_n 2, 1) := by decide +kernel
theorem dX1_insert_23 : decode cX1_insert 23 = .ok (.iconst 1, 1) := by decide +kernel
theorem dX1_insert_24 : decode cX1_insert 24 = .ok (.isub, 1) := by decide +kernel
theorem dX1_insert_25 : decode cX1_insert 25 = .ok (.aaload, 1) := by decide +kernel
theorem dX1_insert_26 : decode cX1_insert 26 = .ok (.astore_n 3, 1) := by decide +kernel
theorem dX1_insert_27 : decode cX1_insert 27 = .ok (.aload_n 3, 1) := by decide +kernel
theorem dX1_insert_28 : decode cX1_insert 28 = .ok (.ifnull 30, 3) := by decide +kernel
theorem dX1_insert_31 : decode cX1_insert 31 = .ok (.aload_n 3, 1) := by decide +kernel
theorem dX1_insert_32 : decode cX1_insert 32 = .ok (.getfield 91, 3) := by decide +kernel
theorem dX1_insert_35 : decode cX1_insert 35 = .ok (.aload_n 1, 1) := by decide +kernel
theorem dX1_insert_36 : decode cX1_insert 36 = .ok (.getfield 91, 3) := by decide +kernel
theorem dX1_insert_39 : decode cX1_insert 39 = .ok (.if_icmp .ge 6, 3) := by decide +kernel
theorem dX1_insert_42 : decode cX1_insert 42 = .ok (.goto 16, 3) := by decide +kernel
theorem dX1_insert_45 : decode cX1_insert 45 = .ok (.aload_n 0, 1) := by decide +kernel
theorem dX1_insert_46 : decode cX1_insert 46 = .ok (.getfield 11, 3) := by decide +kernel
theorem dX1_insert_49 : decode cX1_insert 49 = .ok (.iload_n 2, 1) := by decide +kernel
theorem dX1_insert_50 : decode cX1_insert 50 = .ok (.aload_n 3, 1) := by decide +kernel
theorem dX1_insert_51 : decode cX1_insert 51 = .ok (.aastore, 1) := by decide +kernel
theorem dX1_insert_52 : decode cX1_insert 52 = .ok (.iinc 2 (-1), 3) := by decide +kernel
theorem dX1_insert_55 : decode cX1_insert 55 = .ok (.goto (-50), 3) := by decide +kernel
theorem dX1_insert_58 : decode cX1_insert 58 = .ok (.iload_n 2, 1) := by decide +kernel
theorem dX1_insert_59 : decode cX1_insert 59 = .ok (.ifCond .lt 29, 3) := by decide +kernel
theorem dX1_insert_62 : decode cX1_insert 62 = .ok (.iload_n 2, 1) := by decide +kernel
theorem dX1_insert_63 : decode cX1_insert 63 = .ok (.aload_n 0, 1) := by decide +kernel
theorem dX1_insert_64 : decode cX1_insert 64 = .ok (.getfield 11, 3) := by decide +kernel
theorem dX1_insert_67 : decode cX1_insert 67 = .ok (.arraylength, 1) := by decide +kernel
theorem dX1_insert_68 : decode cX1_insert 68 = .ok (.if_icmp .ge 20, 3) := by decide +kernel
theorem dX1_insert_71 : decode cX1_insert 71 = .ok (.aload_n 0, 1) := by decide +kernel
theorem dX1_insert_72 : decode cX1_insert 72 = .ok (.getfield 11, 3) := by decide +kernel
theorem dX1_insert_75 : decode cX1_insert 75 = .ok (.iload_n 2, 1) := by decide +kernel
theorem dX1_insert_76 : decode cX1_insert 76 = .ok (.aload_n 1, 1) := by decide +kernel
theorem dX1_insert_77 : decode cX1_insert 77 = .ok (.aastore, 1) := by decide +kernel
theorem dX1_insert_78 : decode cX1_insert 78 = .ok (.aload_n 0, 1) := by decide +kernel
theorem dX1_insert_79 : decode cX1_insert 79 = .ok (.dup, 1) := by decide +kernel
theorem dX1_insert_80 : decode cX1_insert 80 = .ok (.getfield 50, 3) := by decide +kernel
theorem dX1_insert_83 : decode cX1_insert 83 = .ok (.iconst 1, 1) := by decide +kernel
theorem dX1_insert_84 : decode cX1_insert 84 = .ok (.iadd, 1) := by decide +kernel
theorem dX1_insert_85 : decode cX1_insert 85 = .ok (.putfield 50, 3) := by decide +kernel
theorem dX1_insert_88 : decode cX1_insert 88 = .ok (.return_, 1) := by decide +kernel
theorem dX1_weigh_0 : decode cX1_weigh 0 = .ok (.aload_n 1, 1) := by decide +kernel
theorem dX1_weigh_1 : decode cX1_weigh 1 = .ok (.iload_n 2, 1) := by decide +kernel
theorem dX1_weigh_2 : decode cX1_weigh 2 = .ok (.invokevirtual 94, 3) := by decide +kernel
theorem dX1_weigh_5 : decode cX1_weigh 5 = .ok (.istore 4, 2) := by decide +kernel
theorem dX1_weigh_7 : decode cX1_weigh 7 = .ok (.aload_n 1, 1) := by decide +kernel
theorem dX1_weigh_8 : decode cX1_weigh 8 = .ok (.iload_n 2, 1) := by decide +kernel
theorem dX1_weigh_9 : decode cX1_weigh 9 = .ok (.invokevirtual 84, 3) := by decide +kernel
theorem dX1_weigh_12 : decode cX1_weigh 12 = .ok (.astore 5, 2) := by decide +kernel
theorem dX1_weigh_14 : decode cX1_weigh 14 = .ok (.aload_n 0, 1) := by decide +kernel
theorem dX1_weigh_15 : decode cX1_weigh 15 = .ok (.getfield 24, 3) := by decide +kernel
theorem dX1_weigh_18 : decode cX1_weigh 18 = .ok (.iload_n 2, 1) := by decide +kernel
theorem dX1_weigh_19 : decode cX1_weigh 19 = .ok (.aload 5, 2) := by decide +kernel
theorem dX1_weigh_21 : decode cX1_weigh 21 = .ok (.ifnull 13, 3) := by decide +kernel
theorem dX1_weigh_24 : decode cX1_weigh 24 = .ok (.iload 4, 2) := by decide +kernel
theorem dX1_weigh_26 : decode cX1_weigh 26 = .ok (.iconst 4, 1) := by decide +kernel
theorem dX1_weigh_27 : decode cX1_weigh 27 = .ok (.if_icmp .eq 7, 3) := by decide +kernel
theorem dX1_weigh_30 : decode cX1_weigh 30 = .ok (.iconst 1, 1) := by decide +kernel
theorem dX1_weigh_31 : decode cX1_weigh 31 = .ok (.goto 4, 3) := by decide +kernel
theorem dX1_weigh_34 : decode cX1_weigh 34 = .ok (.iconst 0, 1) := by decide +kernel
theorem dX1_weigh_35 : decode cX1_weigh 35 = .ok (.invokestatic 76, 3) := by decide +kernel
theorem dX1_weigh_38 : decode cX1_weigh 38 = .ok (.aload_n 0, 1) := by decide +kernel
theorem dX1_weigh_39 : decode cX1_weigh 39 = .ok (.getfield 21, 3) := by decide +kernel
theorem dX1_weigh_42 : decode cX1_weigh 42 = .ok (.iload_n 2, 1) := by decide +kernel
theorem dX1_weigh_43 : decode cX1_weigh 43 = .ok (.iconst (-1), 1) := by decide +kernel
theorem dX1_weigh_44 : decode cX1_weigh 44 = .ok (.invokestatic 76, 3) := by decide +kernel
theorem dX1_weigh_47 : decode cX1_weigh 47 = .ok (.iconst 0, 1) := by decide +kernel
theorem dX1_weigh_48 : decode cX1_weigh 48 = .ok (.istore 6, 2) := by decide +kernel
theorem dX1_weigh_50 : decode cX1_weigh 50 = .ok (.iload 6, 2) := by decide +kernel
theorem dX1_weigh_52 : decode cX1_weigh 52 = .ok (.aload_n 0, 1) := by decide +kernel
theorem dX1_weigh_53 : decode cX1_weigh 53 = .ok (.getfield 50, 3) := by decide +kernel
theorem dX1_weigh_56 : decode cX1_weigh 56 = .ok (.if_icmp .ge 64, 3) := by decide +kernel
theorem dX1_weigh_59 : decode cX1_weigh 59 = .ok (.aload_n 0, 1) := by decide +kernel
theorem dX1_weigh_60 : decode cX1_weigh 60 = .ok (.iload 6, 2) := by decide +kernel
theorem dX1_weigh_62 : decode cX1_weigh 62 = .ok (.invokevirtual 80, 3) := by decide +kernel
theorem dX1_weigh_65 : decode cX1_weigh 65 = .ok (.astore 7, 2) := by decide +kernel
theorem dX1_weigh_67 : decode cX1_weigh 67 = .ok (.aload 7, 2) := by decide +kernel
theorem dX1_weigh_69 : decode cX1_weigh 69 = .ok (.ifnonnull 6, 3) := by decide +kernel
theorem dX1_weigh_72 : decode cX1_weigh 72 = .ok (.goto 42, 3) := by decide +kernel
theorem dX1_weigh_75 : decode cX1_weigh 75 = .ok (.aload 7, 2) := by decide +kernel
theorem dX1_weigh_77 : decode cX1_weigh 77 = .ok (.aload 5, 2) := by decide +kernel
theorem dX1_weigh_79 : decode cX1_weigh 79 = .ok (.if_acmp .ne 13, 3) := by decide +kernel
theorem dX1_weigh_82 : decode cX1_weigh 82 = .ok (.aload_n 0, 1) := by decide +kernel
theorem dX1_weigh_83 : decode cX1_weigh 83 = .ok (.getfield 21, 3) := by decide +kernel
theorem dX1_weigh_86 : decode cX1_weigh 86 = .ok (.iload_n 2, 1) := by decide +kernel
theorem dX1_weigh_87 : decode cX1_weigh 87 = .ok (.iload 6, 2) := by decide +kernel
theorem dX1_weigh_89 : decode cX1_weigh 89 = .ok (.invokestatic 76, 3) := by decide +kernel
theorem dX1_weigh_92 : decode cX1_weigh 92 = .ok (.aload_n 0, 1) := by decide +kernel
theorem dX1_weigh_93 : decode cX1_weigh 93 = .ok (.getfield 17, 3) := by decide +kernel
theorem dX1_weigh_96 : decode cX1_weigh 96 = .ok (.iload_n 2, 1) := by decide +kernel
theorem dX1_weigh_97 : decode cX1_weigh 97 = .ok (.bipush 7, 2) := by decide +kernel
theorem dX1_weigh_99 : decode cX1_weigh 99 = .ok (.imul, 1) := by decide +kernel
theorem dX1_weigh_100 : decode cX1_weigh 100 = .ok (.iload 6, 2) := by decide +kernel
theorem dX1_weigh_102 : decode cX1_weigh 102 = .ok (.iadd, 1) := by decide +kernel
theorem dX1_weigh_103 : decode cX1_weigh 103 = .ok (.aload 7, 2) := by decide +kernel
theorem dX1_weigh_105 : decode cX1_weigh 105 = .ok (.iload 4, 2) := by decide +kernel
theorem dX1_weigh_107 : decode cX1_weigh 107 = .ok (.aload_n 3, 1) := by decide +kernel
theorem dX1_weigh_108 : decode cX1_weigh 108 = .ok (.invokestatic 98, 3) := by decide +kernel
theorem dX1_weigh_111 : decode cX1_weigh 111 = .ok (.invokestatic 76, 3) := by decide +kernel
theorem dX1_weigh_114 : decode cX1_weigh 114 = .ok (.iinc 6 1, 3) := by decide +kernel
theorem dX1_weigh_117 : decode cX1_weigh 117 = .ok (.goto (-67), 3) := by decide +kernel
theorem dX1_weigh_120 : decode cX1_weigh 120 = .ok (.return_, 1) := by decide +kernel
theorem dX1_reachOf_0 : decode cX1_reachOf 0 = .ok (.iload_n 1, 1) := by decide +kernel
theorem dX1_reachOf_1 : decode cX1_reachOf 1 = .ok (.iconst 4, 1) := by decide +kernel
theorem dX1_reachOf_2 : decode cX1_reachOf 2 = .ok (.if_icmp .ne 6, 3) := by decide +kernel
theorem dX1_reachOf_5 : decode cX1_reachOf 5 = .ok (.ldc 102, 2) := by decide +kernel
theorem dX1_reachOf_7 : decode cX1_reachOf 7 = .ok (.ireturn, 1) := by decide +kernel
theorem dX1_reachOf_8 : decode cX1_reachOf 8 = .ok (.iload_n 1, 1) := by decide +kernel
theorem dX1_reachOf_9 : decode cX1_reachOf 9 = .ok (.ifCond .ne 14, 3) := by decide +kernel
theorem dX1_reachOf_12 : decode cX1_reachOf 12 = .ok (.aload_n 0, 1) := by decide +kernel
theorem dX1_reachOf_13 : decode cX1_reachOf 13 = .ok (.getfield 103, 3) := by decide +kernel
theorem dX1_reachOf_16 : decode cX1_reachOf 16 = .ok (.ifCond .le 7, 3) := by decide +kernel
theorem dX1_reachOf_19 : decode cX1_reachOf 19 = .ok (.iconst (-1), 1) := by decide +kernel
theorem dX1_reachOf_20 : decode cX1_reachOf 20 = .ok (.goto 12, 3) := by decide +kernel
theorem dX1_reachOf_23 : decode cX1_reachOf 23 = .ok (.aload_n 0, 1) := by decide +kernel
theorem dX1_reachOf_24 : decode cX1_reachOf 24 = .ok (.aload_n 2, 1) := by decide +kernel
theorem dX1_reachOf_25 : decode cX1_reachOf 25 = .ok (.iload_n 1, 1) := by decide +kernel
theorem dX1_reachOf_26 : decode cX1_reachOf 26 = .ok (.invokestatic 63, 3) := by decide +kernel
theorem dX1_reachOf_29 : decode cX1_reachOf 29 = .ok (.invokevirtual 106, 3) := by decide +kernel
theorem dX1_reachOf_32 : decode cX1_reachOf 32 = .ok (.ireturn, 1) := by decide +kernel
theorem dX1_slot_0 : decode cX1_slot 0 = .ok (.iload_n 0, 1) := by decide +kernel
theorem dX1_slot_1 : decode cX1_slot 1 = .ok (.bipush 7, 2) := by decide +kernel
theorem dX1_slot_3 : decode cX1_slot 3 = .ok (.ishl, 1) := by decide +kernel
theorem dX1_slot_4 : decode cX1_slot 4 = .ok (.iload_n 1, 1) := by decide +kernel
theorem dX1_slot_5 : decode cX1_slot 5 = .ok (.ior, 1) := by decide +kernel
theorem dX1_slot_6 : decode cX1_slot 6 = .ok (.ireturn, 1) := by decide +kernel
theorem dX1_allUsed_0 : decode cX1_allUsed 0 = .ok (.iconst 1, 1) := by decide +kernel
theorem dX1_allUsed_1 : decode cX1_allUsed 1 = .ok (.aload_n 0, 1) := by decide +kernel
theorem dX1_allUsed_2 : decode cX1_allUsed 2 = .ok (.getfield 50, 3) := by decide +kernel
theorem dX1_allUsed_5 : decode cX1_allUsed 5 = .ok (.ishl, 1) := by decide +kernel
theorem dX1_allUsed_6 : decode cX1_allUsed 6 = .ok (.iconst 1, 1) := by decide +kernel
theorem dX1_allUsed_7 : decode cX1_allUsed 7 = .ok (.isub, 1) := by decide +kernel
theorem dX1_allUsed_8 : decode cX1_allUsed 8 = .ok (.ireturn, 1) := by decide +kernel
theorem dX1_isUsed_0 : decode cX1_isUsed 0 = .ok (.iload_n 0, 1) := by decide +kernel
theorem dX1_isUsed_1 : decode cX1_isUsed 1 = .ok (.iload_n 1, 1) := by decide +kernel
theorem dX1_isUsed_2 : decode cX1_isUsed 2 = .ok (.ishr, 1) := by decide +kernel
theorem dX1_isUsed_3 : decode cX1_isUsed 3 = .ok (.iconst 1, 1) := by decide +kernel
theorem dX1_isUsed_4 : decode cX1_isUsed 4 = .ok (.iand, 1) := by decide +kernel
theorem dX1_isUsed_5 : decode cX1_isUsed 5 = .ok (.ifCond .eq 7, 3) := by decide +kernel
theorem dX1_isUsed_8 : decode cX1_isUsed 8 = .ok (.iconst 1, 1) := by decide +kernel
theorem dX1_isUsed_9 : decode cX1_isUsed 9 = .ok (.goto 4, 3) := by decide +kernel
theorem dX1_isUsed_12 : decode cX1_isUsed 12 = .ok (.iconst 0, 1) := by decide +kernel
theorem dX1_isUsed_13 : decode cX1_isUsed 13 = .ok (.ireturn, 1) := by decide +kernel
theorem dX1_fillReaches_0 : decode cX1_fillReaches 0 = .ok (.aload_n 0, 1) := by decide +kernel
theorem dX1_fillReaches_1 : decode cX1_fillReaches 1 = .ok (.invokevirtual 109, 3) := by decide +kernel
theorem dX1_fillReaches_4 : decode cX1_fillReaches 4 = .ok (.istore_n 1, 1) := by decide +kernel
theorem dX1_fillReaches_5 : decode cX1_fillReaches 5 = .ok (.iconst 0, 1) := by decide +kernel
theorem dX1_fillReaches_6 : decode cX1_fillReaches 6 = .ok (.istore_n 2, 1) := by decide +kernel
theorem dX1_fillReaches_7 : decode cX1_fillReaches 7 = .ok (.iload_n 2, 1) := by decide +kernel
theorem dX1_fillReaches_8 : decode cX1_fillReaches 8 = .ok (.iload_n 1, 1) := by decide +kernel
theorem dX1_fillReaches_9 : decode cX1_fillReaches 9 = .ok (.if_icmp .gt 35, 3) := by decide +kernel
theorem dX1_fillReaches_12 : decode cX1_fillReaches 12 = .ok (.aload_n 0, 1) := by decide +kernel
theorem dX1_fillReaches_13 : decode cX1_fillReaches 13 = .ok (.getfield 30, 3) := by decide +kernel
theorem dX1_fillReaches_16 : decode cX1_fillReaches 16 = .ok (.aload_n 0, 1) := by decide +kernel
theorem dX1_fillReaches_17 : decode cX1_fillReaches 17 = .ok (.getfield 45, 3) := by decide +kernel
theorem dX1_fillReaches_20 : decode cX1_fillReaches 20 = .ok (.iload_n 2, 1) := by decide +kernel
theorem dX1_fillReaches_21 : decode cX1_fillReaches 21 = .ok (.invokestatic 60, 3) := by decide +kernel
theorem dX1_fillReaches_24 : decode cX1_fillReaches 24 = .ok (.iload_n 2, 1) := by decide +kernel
theorem dX1_fillReaches_25 : decode cX1_fillReaches 25 = .ok (.iload_n 1, 1) := by decide +kernel
theorem dX1_fillReaches_26 : decode cX1_fillReaches 26 = .ok (.if_icmp .ne 8, 3) := by decide +kernel
theorem dX1_fillReaches_29 : decode cX1_fillReaches 29 = .ok (.ldc 102, 2) := by decide +kernel
theorem dX1_fillReaches_31 : decode cX1_fillReaches 31 = .ok (.goto 4, 3) := by decide +kernel
theorem dX1_fillReaches_34 : decode cX1_fillReaches 34 = .ok (.iconst (-1), 1) := by decide +kernel
theorem dX1_fillReaches_35 : decode cX1_fillReaches 35 = .ok (.invokestatic 76, 3) := by decide +kernel
theorem dX1_fillReaches_38 : decode cX1_fillReaches 38 = .ok (.iinc 2 1, 3) := by decide +kernel
theorem dX1_fillReaches_41 : decode cX1_fillReaches 41 = .ok (.goto (-34), 3) := by decide +kernel
theorem dX1_fillReaches_44 : decode cX1_fillReaches 44 = .ok (.aload_n 0, 1) := by decide +kernel
theorem dX1_fillReaches_45 : decode cX1_fillReaches 45 = .ok (.getfield 45, 3) := by decide +kernel
theorem dX1_fillReaches_48 : decode cX1_fillReaches 48 = .ok (.iconst 1, 1) := by decide +kernel
theorem dX1_fillReaches_49 : decode cX1_fillReaches 49 = .ok (.isub, 1) := by decide +kernel
theorem dX1_fillReaches_50 : decode cX1_fillReaches 50 = .ok (.istore_n 2, 1) := by decide +kernel
theorem dX1_fillReaches_51 : decode cX1_fillReaches 51 = .ok (.iload_n 2, 1) := by decide +kernel
theorem dX1_fillReaches_52 : decode cX1_fillReaches 52 = .ok (.ifCond .lt 40, 3) := by decide +kernel
theorem dX1_fillReaches_55 : decode cX1_fillReaches 55 = .ok (.iconst 0, 1) := by decide +kernel
theorem dX1_fillReaches_56 : decode cX1_fillReaches 56 = .ok (.istore_n 3, 1) := by decide +kernel
theorem dX1_fillReaches_57 : decode cX1_fillReaches 57 = .ok (.iload_n 3, 1) := by decide +kernel
theorem dX1_fillReaches_58 : decode cX1_fillReaches 58 = .ok (.iload_n 1, 1) := by decide +kernel
theorem dX1_fillReaches_59 : decode cX1_fillReaches 59 = .ok (.if_icmp .gt 27, 3) := by decide +kernel
theorem dX1_fillReaches_62 : decode cX1_fillReaches 62 = .ok (.aload_n 0, 1) := by decide +kernel
theorem dX1_fillReaches_63 : decode cX1_fillReaches 63 = .ok (.getfield 30, 3) := by decide +kernel
theorem dX1_fillReaches_66 : decode cX1_fillReaches 66 = .ok (.iload_n 2, 1) := by decide +kernel
theorem dX1_fillReaches_67 : decode cX1_fillReaches 67 = .ok (.iload_n 3, 1) := by decide +kernel
theorem dX1_fillReaches_68 : decode cX1_fillReaches 68 = .ok (.invokestatic 60, 3) := by decide +kernel
theorem dX1_fillReaches_71 : decode cX1_fillReaches 71 = .ok (.aload_n 0, 1) := by decide +kernel
theorem dX1_fillReaches_72 : decode cX1_fillReaches 72 = .ok (.iload_n 2, 1) := by decide +kernel
theorem dX1_fillReaches_73 : decode cX1_fillReaches 73 = .ok (.iload_n 3, 1) := by decide +kernel
theorem dX1_fillReaches_74 : decode cX1_fillReaches 74 = .ok (.invokevirtual 113, 3) := by decide +kernel
theorem dX1_fillReaches_77 : decode cX1_fillReaches 77 = .ok (.invokestatic 76, 3) := by decide +kernel
theorem dX1_fillReaches_80 : decode cX1_fillReaches 80 = .ok (.iinc 3 1, 3) := by decide +kernel
theorem dX1_fillReaches_83 : decode cX1_fillReaches 83 = .ok (.goto (-26), 3) := by decide +kernel
theorem dX1_fillReaches_86 : decode cX1_fillReaches 86 = .ok (.iinc 2 (-1), 3) := by decide +kernel
theorem dX1_fillReaches_89 : decode cX1_fillReaches 89 = .ok (.goto (-38), 3) := by decide +kernel
theorem dX1_fillReaches_92 : decode cX1_fillReaches 92 = .ok (.return_, 1) := by decide +kernel
theorem dX1_reachFrom_0 : decode cX1_reachFrom 0 = .ok (.aload_n 0, 1) := by decide +kernel
theorem dX1_reachFrom_1 : decode cX1_reachFrom 1 = .ok (.getfield 24, 3) := by decide +kernel
theorem dX1_reachFrom_4 : decode cX1_reachFrom 4 = .ok (.iload_n 1, 1) := by decide +kernel
theorem dX1_reachFrom_5 : decode cX1_reachFrom 5 = .ok (.invokestatic 63, 3) := by decide +kernel
theorem dX1_reachFrom_8 : decode cX1_reachFrom 8 = .ok (.iconst 1, 1) := by decide +kernel
theorem dX1_reachFrom_9 : decode cX1_reachFrom 9 = .ok (.if_icmp .ne 7, 3) := by decide +kernel
theorem dX1_reachFrom_12 : decode cX1_reachFrom 12 = .ok (.iconst (-1), 1) := by decide +kernel
theorem dX1_reachFrom_13 : decode cX1_reachFrom 13 = .ok (.goto 17, 3) := by decide +kernel
theorem dX1_reachFrom_16 : decode cX1_reachFrom 16 = .ok (.aload_n 0, 1) := by decide +kernel
theorem dX1_reachFrom_17 : decode cX1_reachFrom 17 = .ok (.getfield 30, 3) := by decide +kernel
theorem dX1_reachFrom_20 : decode cX1_reachFrom 20 = .ok (.iload_n 1, 1) := by decide +kernel
theorem dX1_reachFrom_21 : decode cX1_reachFrom 21 = .ok (.iconst 1, 1) := by decide +kernel
theorem dX1_reachFrom_22 : decode cX1_reachFrom 22 = .ok (.iadd, 1) := by decide +kernel
theorem dX1_reachFrom_23 : decode cX1_reachFrom 23 = .ok (.iload_n 2, 1) := by decide +kernel
theorem dX1_reachFrom_24 : decode cX1_reachFrom 24 = .ok (.invokestatic 60, 3) := by decide +kernel
theorem dX1_reachFrom_27 : decode cX1_reachFrom 27 = .ok (.invokestatic 63, 3) := by decide +kernel
theorem dX1_reachFrom_30 : decode cX1_reachFrom 30 = .ok (.istore_n 3, 1) := by decide +kernel
theorem dX1_reachFrom_31 : decode cX1_reachFrom 31 = .ok (.iconst 0, 1) := by decide +kernel
theorem dX1_reachFrom_32 : decode cX1_reachFrom 32 = .ok (.istore 4, 2) := by decide +kernel
theorem dX1_reachFrom_34 : decode cX1_reachFrom 34 = .ok (.iload 4, 2) := by decide +kernel
theorem dX1_reachFrom_36 : decode cX1_reachFrom 36 = .ok (.aload_n 0, 1) := by decide +kernel
theorem dX1_reachFrom_37 : decode cX1_reachFrom 37 = .ok (.getfield 50, 3) := by decide +kernel
theorem dX1_reachFrom_40 : decode cX1_reachFrom 40 = .ok (.if_icmp .ge 63, 3) := by decide +kernel
theorem dX1_reachFrom_43 : decode cX1_reachFrom 43 = .ok (.iload_n 2, 1) := by decide +kernel
theorem dX1_reachFrom_44 : decode cX1_reachFrom 44 = .ok (.iload 4, 2) := by decide +kernel
theorem dX1_reachFrom_46 : decode cX1_reachFrom 46 = .ok (.invokestatic 116, 3) := by decide +kernel
theorem dX1_reachFrom_49 : decode cX1_reachFrom 49 = .ok (.ifCond .ne 48, 3) := by decide +kernel
theorem dX1_reachFrom_52 : decode cX1_reachFrom 52 = .ok (.aload_n 0, 1) := by decide +kernel
theorem dX1_reachFrom_53 : decode cX1_reachFrom 53 = .ok (.getfield 30, 3) := by decide +kernel
theorem dX1_reachFrom_56 : decode cX1_reachFrom 56 = .ok (.iload_n 1, 1) := by decide +kernel
theorem dX1_reachFrom_57 : decode cX1_reachFrom 57 = .ok (.iconst 1, 1) := by decide +kernel
theorem dX1_reachFrom_58 : decode cX1_reachFrom 58 = .ok (.iadd, 1) := by decide +kernel
theorem dX1_reachFrom_59 : decode cX1_reachFrom 59 = .ok (.iload_n 2, 1) := by decide +kernel
theorem dX1_reachFrom_60 : decode cX1_reachFrom 60 = .ok (.iconst 1, 1) := by decide +kernel
theorem dX1_reachFrom_61 : decode cX1_reachFrom 61 = .ok (.iload 4, 2) := by decide +kernel
theorem dX1_reachFrom_63 : decode cX1_reachFrom 63 = .ok (.ishl, 1) := by decide +kernel
theorem dX1_reachFrom_64 : decode cX1_reachFrom 64 = .ok (.ior, 1) := by decide +kernel
theorem dX1_reachFrom_65 : decode cX1_reachFrom 65 = .ok (.invokestatic 60, 3) := by decide +kernel
theorem dX1_reachFrom_68 : decode cX1_reachFrom 68 = .ok (.invokestatic 63, 3) := by decide +kernel
theorem dX1_reachFrom_71 : decode cX1_reachFrom 71 = .ok (.istore 5, 2) := by decide +kernel
theorem dX1_reachFrom_73 : decode cX1_reachFrom 73 = .ok (.iload_n 3, 1) := by decide +kernel
theorem dX1_reachFrom_74 : decode cX1_reachFrom 74 = .ok (.iload 5, 2) := by decide +kernel
theorem dX1_reachFrom_76 : decode cX1_reachFrom 76 = .ok (.aload_n 0, 1) := by decide +kernel
theorem dX1_reachFrom_77 : decode cX1_reachFrom 77 = .ok (.getfield 17, 3) := by decide +kernel
theorem dX1_reachFrom_80 : decode cX1_reachFrom 80 = .ok (.iload_n 1, 1) := by decide +kernel
theorem dX1_reachFrom_81 : decode cX1_reachFrom 81 = .ok (.bipush 7, 2) := by decide +kernel
theorem dX1_reachFrom_83 : decode cX1_reachFrom 83 = .ok (.imul, 1) := by decide +kernel
theorem dX1_reachFrom_84 : decode cX1_reachFrom 84 = .ok (.iload 4, 2) := by decide +kernel
theorem dX1_reachFrom_86 : decode cX1_reachFrom 86 = .ok (.iadd, 1) := by decide +kernel
theorem dX1_reachFrom_87 : decode cX1_reachFrom 87 = .ok (.invokestatic 63, 3) := by decide +kernel
theorem dX1_reachFrom_90 : decode cX1_reachFrom 90 = .ok (.invokestatic 39, 3) := by decide +kernel
theorem dX1_reachFrom_93 : decode cX1_reachFrom 93 = .ok (.invokestatic 120, 3) := by decide +kernel
theorem dX1_reachFrom_96 : decode cX1_reachFrom 96 = .ok (.istore_n 3, 1) := by decide +kernel
theorem dX1_reachFrom_97 : decode cX1_reachFrom 97 = .ok (.iinc 4 1, 3) := by decide +kernel
theorem dX1_reachFrom_100 : decode cX1_reachFrom 100 = .ok (.goto (-66), 3) := by decide +kernel
theorem dX1_reachFrom_103 : decode cX1_reachFrom 103 = .ok (.iload_n 3, 1) := by decide +kernel
theorem dX1_reachFrom_104 : decode cX1_reachFrom 104 = .ok (.ireturn, 1) := by decide +kernel
theorem dX1_fillChanges_0 : decode cX1_fillChanges 0 = .ok (.aload_n 0, 1) := by decide +kernel
theorem dX1_fillChanges_1 : decode cX1_fillChanges 1 = .ok (.invokevirtual 109, 3) := by decide +kernel
theorem dX1_fillChanges_4 : decode cX1_fillChanges 4 = .ok (.istore_n 1, 1) := by decide +kernel
theorem dX1_fillChanges_5 : decode cX1_fillChanges 5 = .ok (.iconst 0, 1) := by decide +kernel
theorem dX1_fillChanges_6 : decode cX1_fillChanges 6 = .ok (.istore_n 2, 1) := by decide +kernel
theorem dX1_fillChanges_7 : decode cX1_fillChanges 7 = .ok (.iload_n 2, 1) := by decide +kernel
theorem dX1_fillChanges_8 : decode cX1_fillChanges 8 = .ok (.iload_n 1, 1) := by decide +kernel
theorem dX1_fillChanges_9 : decode cX1_fillChanges 9 = .ok (.if_icmp .gt 35, 3) := by decide +kernel
theorem dX1_fillChanges_12 : decode cX1_fillChanges 12 = .ok (.aload_n 0, 1) := by decide +kernel
theorem dX1_fillChanges_13 : decode cX1_fillChanges 13 = .ok (.getfield 30, 3) := by decide +kernel
theorem dX1_fillChanges_16 : decode cX1_fillChanges 16 = .ok (.aload_n 0, 1) := by decide +kernel
theorem dX1_fillChanges_17 : decode cX1_fillChanges 17 = .ok (.getfield 45, 3) := by decide +kernel
theorem dX1_fillChanges_20 : decode cX1_fillChanges 20 = .ok (.iload_n 2, 1) := by decide +kernel
theorem dX1_fillChanges_21 : decode cX1_fillChanges 21 = .ok (.invokestatic 60, 3) := by decide +kernel
theorem dX1_fillChanges_24 : decode cX1_fillChanges 24 = .ok (.iload_n 2, 1) := by decide +kernel
theorem dX1_fillChanges_25 : decode cX1_fillChanges 25 = .ok (.iload_n 1, 1) := by decide +kernel
theorem dX1_fillChanges_26 : decode cX1_fillChanges 26 = .ok (.if_icmp .ne 7, 3) := by decide +kernel
theorem dX1_fillChanges_29 : decode cX1_fillChanges 29 = .ok (.iconst 0, 1) := by decide +kernel
theorem dX1_fillChanges_30 : decode cX1_fillChanges 30 = .ok (.goto 5, 3) := by decide +kernel
theorem dX1_fillChanges_33 : decode cX1_fillChanges 33 = .ok (.bipush 100, 2) := by decide +kernel
theorem dX1_fillChanges_35 : decode cX1_fillChanges 35 = .ok (.invokestatic 76, 3) := by decide +kernel
theorem dX1_fillChanges_38 : decode cX1_fillChanges 38 = .ok (.iinc 2 1, 3) := by decide +kernel
theorem dX1_fillChanges_41 : decode cX1_fillChanges 41 = .ok (.goto (-34), 3) := by decide +kernel
theorem dX1_fillChanges_44 : decode cX1_fillChanges 44 = .ok (.aload_n 0, 1) := by decide +kernel
theorem dX1_fillChanges_45 : decode cX1_fillChanges 45 = .ok (.getfield 45, 3) := by decide +kernel
theorem dX1_fillChanges_48 : decode cX1_fillChanges 48 = .ok (.iconst 1, 1) := by decide +kernel
theorem dX1_fillChanges_49 : decode cX1_fillChanges 49 = .ok (.isub, 1) := by decide +kernel
theorem dX1_fillChanges_50 : decode cX1_fillChanges 50 = .ok (.istore_n 2, 1) := by decide +kernel
theorem dX1_fillChanges_51 : decode cX1_fillChanges 51 = .ok (.iload_n 2, 1) := by decide +kernel
theorem dX1_fillChanges_52 : decode cX1_fillChanges 52 = .ok (.ifCond .lt 40, 3) := by decide +kernel
theorem dX1_fillChanges_55 : decode cX1_fillChanges 55 = .ok (.iconst 0, 1) := by decide +kernel
theorem dX1_fillChanges_56 : decode cX1_fillChanges 56 = .ok (.istore_n 3, 1) := by decide +kernel
theorem dX1_fillChanges_57 : decode cX1_fillChanges 57 = .ok (.iload_n 3, 1) := by decide +kernel
theorem dX1_fillChanges_58 : decode cX1_fillChanges 58 = .ok (.iload_n 1, 1) := by decide +kernel
theorem dX1_fillChanges_59 : decode cX1_fillChanges 59 = .ok (.if_icmp .gt 27, 3) := by decide +kernel
theorem dX1_fillChanges_62 : decode cX1_fillChanges 62 = .ok (.aload_n 0, 1) := by decide +kernel
theorem dX1_fillChanges_63 : decode cX1_fillChanges 63 = .ok (.getfield 30, 3) := by decide +kernel
theorem dX1_fillChanges_66 : decode cX1_fillChanges 66 = .ok (.iload_n 2, 1) := by decide +kernel
theorem dX1_fillChanges_67 : decode cX1_fillChanges 67 = .ok (.iload_n 3, 1) := by decide +kernel
theorem dX1_fillChanges_68 : decode cX1_fillChanges 68 = .ok (.invokestatic 60, 3) := by decide +kernel
theorem dX1_fillChanges_71 : decode cX1_fillChanges 71 = .ok (.aload_n 0, 1) := by decide +kernel
theorem dX1_fillChanges_72 : decode cX1_fillChanges 72 = .ok (.iload_n 2, 1) := by decide +kernel
theorem dX1_fillChanges_73 : decode cX1_fillChanges 73 = .ok (.iload_n 3, 1) := by decide +kernel
theorem dX1_fillChanges_74 : decode cX1_fillChanges 74 = .ok (.invokevirtual 123, 3) := by decide +kernel
theorem dX1_fillChanges_77 : decode cX1_fillChanges 77 = .ok (.invokestatic 76, 3) := by decide +kernel
theorem dX1_fillChanges_80 : decode cX1_fillChanges 80 = .ok (.iinc 3 1, 3) := by decide +kernel
theorem dX1_fillChanges_83 : decode cX1_fillChanges 83 = .ok (.goto (-26), 3) := by decide +kernel
theorem dX1_fillChanges_86 : decode cX1_fillChanges 86 = .ok (.iinc 2 (-1), 3) := by decide +kernel
theorem dX1_fillChanges_89 : decode cX1_fillChanges 89 = .ok (.goto (-38), 3) := by decide +kernel
theorem dX1_fillChanges_92 : decode cX1_fillChanges 92 = .ok (.return_, 1) := by decide +kernel
theorem dX1_fewestFrom_0 : decode cX1_fewestFrom 0 = .ok (.aload_n 0, 1) := by decide +kernel
theorem dX1_fewestFrom_1 : decode cX1_fewestFrom 1 = .ok (.getfield 24, 3) := by decide +kernel
theorem dX1_fewestFrom_4 : decode cX1_fewestFrom 4 = .ok (.iload_n 1, 1) := by decide +kernel
theorem dX1_fewestFrom_5 : decode cX1_fewestFrom 5 = .ok (.invokestatic 63, 3) := by decide +kernel
theorem dX1_fewestFrom_8 : decode cX1_fewestFrom 8 = .ok (.iconst 1, 1) := by decide +kernel
theorem dX1_fewestFrom_9 : decode cX1_fewestFrom 9 = .ok (.if_icmp .ne 8, 3) := by decide +kernel
theorem dX1_fewestFrom_12 : decode cX1_fewestFrom 12 = .ok (.bipush 100, 2) := by decide +kernel
theorem dX1_fewestFrom_14 : decode cX1_fewestFrom 14 = .ok (.goto 17, 3) := by decide +kernel
theorem dX1_fewestFrom_17 : decode cX1_fewestFrom 17 = .ok (.aload_n 0, 1) := by decide +kernel
theorem dX1_fewestFrom_18 : decode cX1_fewestFrom 18 = .ok (.getfield 30, 3) := by decide +kernel
theorem dX1_fewestFrom_21 : decode cX1_fewestFrom 21 = .ok (.iload_n 1, 1) := by decide +kernel
theorem dX1_fewestFrom_22 : decode cX1_fewestFrom 22 = .ok (.iconst 1, 1) := by decide +kernel
theorem dX1_fewestFrom_23 : decode cX1_fewestFrom 23 = .ok (.iadd, 1) := by decide +kernel
theorem dX1_fewestFrom_24 : decode cX1_fewestFrom 24 = .ok (.iload_n 2, 1) := by decide +kernel
theorem dX1_fewestFrom_25 : decode cX1_fewestFrom 25 = .ok (.invokestatic 60, 3) := by decide +kernel
theorem dX1_fewestFrom_28 : decode cX1_fewestFrom 28 = .ok (.invokestatic 63, 3) := by decide +kernel
theorem dX1_fewestFrom_31 : decode cX1_fewestFrom 31 = .ok (.istore_n 3, 1) := by decide +kernel
theorem dX1_fewestFrom_32 : decode cX1_fewestFrom 32 = .ok (.iconst 0, 1) := by decide +kernel
theorem dX1_fewestFrom_33 : decode cX1_fewestFrom 33 = .ok (.istore 4, 2) := by decide +kernel
theorem dX1_fewestFrom_35 : decode cX1_fewestFrom 35 = .ok (.iload 4, 2) := by decide +kernel
theorem dX1_fewestFrom_37 : decode cX1_fewestFrom 37 = .ok (.aload_n 0, 1) := by decide +kernel
theorem dX1_fewestFrom_38 : decode cX1_fewestFrom 38 = .ok (.getfield 50, 3) := by decide +kernel
theorem dX1_fewestFrom_41 : decode cX1_fewestFrom 41 = .ok (.if_icmp .ge 22, 3) := by decide +kernel
theorem dX1_fewestFrom_44 : decode cX1_fewestFrom 44 = .ok (.iload_n 3, 1) := by decide +kernel
theorem dX1_fewestFrom_45 : decode cX1_fewestFrom 45 = .ok (.aload_n 0, 1) := by decide +kernel
theorem dX1_fewestFrom_46 : decode cX1_fewestFrom 46 = .ok (.iload_n 1, 1) := by decide +kernel
theorem dX1_fewestFrom_47 : decode cX1_fewestFrom 47 = .ok (.iload_n 2, 1) := by decide +kernel
theorem dX1_fewestFrom_48 : decode cX1_fewestFrom 48 = .ok (.iload 4, 2) := by decide +kernel
theorem dX1_fewestFrom_50 : decode cX1_fewestFrom 50 = .ok (.invokevirtual 126, 3) := by decide +kernel
theorem dX1_fewestFrom_53 : decode cX1_fewestFrom 53 = .ok (.invokestatic 39, 3) := by decide +kernel
theorem dX1_fewestFrom_56 : decode cX1_fewestFrom 56 = .ok (.istore_n 3, 1) := by decide +kernel
theorem dX1_fewestFrom_57 : decode cX1_fewestFrom 57 = .ok (.iinc 4 1, 3) := by decide +kernel
theorem dX1_fewestFrom_60 : decode cX1_fewestFrom 60 = .ok (.goto (-25), 3) := by decide +kernel
theorem dX1_fewestFrom_63 : decode cX1_fewestFrom 63 = .ok (.iload_n 3, 1) := by decide +kernel
theorem dX1_fewestFrom_64 : decode cX1_fewestFrom 64 = .ok (.ireturn, 1) := by decide +kernel
theorem dX1_changesWith_0 : decode cX1_changesWith 0 = .ok (.iload_n 2, 1) := by decide +kernel
theorem dX1_changesWith_1 : decode cX1_changesWith 1 = .ok (.iload_n 3, 1) := by decide +kernel
theorem dX1_changesWith_2 : decode cX1_changesWith 2 = .ok (.invokestatic 116, 3) := by decide +kernel
theorem dX1_changesWith_5 : decode cX1_changesWith 5 = .ok (.ifCond .ne 23, 3) := by decide +kernel
theorem dX1_changesWith_8 : decode cX1_changesWith 8 = .ok (.aload_n 0, 1) := by decide +kernel
theorem dX1_changesWith_9 : decode cX1_changesWith 9 = .ok (.getfield 17, 3) := by decide +kernel
theorem dX1_changesWith_12 : decode cX1_changesWith 12 = .ok (.iload_n 1, 1) := by decide +kernel
theorem dX1_changesWith_13 : decode cX1_changesWith 13 = .ok (.bipush 7, 2) := by decide +kernel
theorem dX1_changesWith_15 : decode cX1_changesWith 15 = .ok (.imul, 1) := by decide +kernel
theorem dX1_changesWith_16 : decode cX1_changesWith 16 = .ok (.iload_n 3, 1) := by decide +kernel
theorem dX1_changesWith_17 : decode cX1_changesWith 17 = .ok (.iadd, 1) := by decide +kernel
theorem dX1_changesWith_18 : decode cX1_changesWith 18 = .ok (.invokestatic 63, 3) := by decide +kernel
theorem dX1_changesWith_21 : decode cX1_changesWith 21 = .ok (.aload_n 0, 1) := by decide +kernel
theorem dX1_changesWith_22 : decode cX1_changesWith 22 = .ok (.getfield 67, 3) := by decide +kernel
theorem dX1_changesWith_25 : decode cX1_changesWith 25 = .ok (.if_icmp .ge 6, 3) := by decide +kernel
theorem dX1_changesWith_28 : decode cX1_changesWith 28 = .ok (.bipush 100, 2) := by decide +kernel
theorem dX1_changesWith_30 : decode cX1_changesWith 30 = .ok (.ireturn, 1) := by decide +kernel
theorem dX1_changesWith_31 : decode cX1_changesWith 31 = .ok (.aload_n 0, 1) := by decide +kernel
theorem dX1_changesWith_32 : decode cX1_changesWith 32 = .ok (.getfield 21, 3) := by decide +kernel
theorem dX1_changesWith_35 : decode cX1_changesWith 35 = .ok (.iload_n 1, 1) := by decide +kernel
theorem dX1_changesWith_36 : decode cX1_changesWith 36 = .ok (.invokestatic 63, 3) := by decide +kernel
theorem dX1_changesWith_39 : decode cX1_changesWith 39 = .ok (.iload_n 3, 1) := by decide +kernel
theorem dX1_changesWith_40 : decode cX1_changesWith 40 = .ok (.if_icmp .ne 7, 3) := by decide +kernel
theorem dX1_changesWith_43 : decode cX1_changesWith 43 = .ok (.iconst 0, 1) := by decide +kernel
theorem dX1_changesWith_44 : decode cX1_changesWith 44 = .ok (.goto 4, 3) := by decide +kernel
theorem dX1_changesWith_47 : decode cX1_changesWith 47 = .ok (.iconst 1, 1) := by decide +kernel
theorem dX1_changesWith_48 : decode cX1_changesWith 48 = .ok (.istore 4, 2) := by decide +kernel
theorem dX1_changesWith_50 : decode cX1_changesWith 50 = .ok (.iload 4, 2) := by decide +kernel
theorem dX1_changesWith_52 : decode cX1_changesWith 52 = .ok (.aload_n 0, 1) := by decide +kernel
theorem dX1_changesWith_53 : decode cX1_changesWith 53 = .ok (.getfield 30, 3) := by decide +kernel
theorem dX1_changesWith_56 : decode cX1_changesWith 56 = .ok (.iload_n 1, 1) := by decide +kernel
theorem dX1_changesWith_57 : decode cX1_changesWith 57 = .ok (.iconst 1, 1) := by decide +kernel
theorem dX1_changesWith_58 : decode cX1_changesWith 58 = .ok (.iadd, 1) := by decide +kernel
theorem dX1_changesWith_59 : decode cX1_changesWith 59 = .ok (.iload_n 2, 1) := by decide +kernel
theorem dX1_changesWith_60 : decode cX1_changesWith 60 = .ok (.iconst 1, 1) := by decide +kernel
theorem dX1_changesWith_61 : decode cX1_changesWith 61 = .ok (.iload_n 3, 1) := by decide +kernel
theorem dX1_changesWith_62 : decode cX1_changesWith 62 = .ok (.ishl, 1) := by decide +kernel
theorem dX1_changesWith_63 : decode cX1_changesWith 63 = .ok (.ior, 1) := by decide +kernel
theorem dX1_changesWith_64 : decode cX1_changesWith 64 = .ok (.invokestatic 60, 3) := by decide +kernel
theorem dX1_changesWith_67 : decode cX1_changesWith 67 = .ok (.invokestatic 63, 3) := by decide +kernel
theorem dX1_changesWith_70 : decode cX1_changesWith 70 = .ok (.iadd, 1) := by decide +kernel
theorem dX1_changesWith_71 : decode cX1_changesWith 71 = .ok (.ireturn, 1) := by decide +kernel
theorem dX1_choose_0 : decode cX1_choose 0 = .ok (.aload_n 0, 1) := by decide +kernel
theorem dX1_choose_1 : decode cX1_choose 1 = .ok (.getfield 30, 3) := by decide +kernel
theorem dX1_choose_4 : decode cX1_choose 4 = .ok (.iload_n 1, 1) := by decide +kernel
theorem dX1_choose_5 : decode cX1_choose 5 = .ok (.iload_n 2, 1) := by decide +kernel
theorem dX1_choose_6 : decode cX1_choose 6 = .ok (.invokestatic 60, 3) := by decide +kernel
theorem dX1_choose_9 : decode cX1_choose 9 = .ok (.invokestatic 63, 3) := by decide +kernel
theorem dX1_choose_12 : decode cX1_choose 12 = .ok (.istore_n 3, 1) := by decide +kernel
theorem dX1_choose_13 : decode cX1_choose 13 = .ok (.iconst 0, 1) := by decide +kernel
theorem dX1_choose_14 : decode cX1_choose 14 = .ok (.istore 4, 2) := by decide +kernel
theorem dX1_choose_16 : decode cX1_choose 16 = .ok (.iload 4, 2) := by decide +kernel
theorem dX1_choose_18 : decode cX1_choose 18 = .ok (.aload_n 0, 1) := by decide +kernel
theorem dX1_choose_19 : decode cX1_choose 19 = .ok (.getfield 50, 3) := by decide +kernel
theorem dX1_choose_22 : decode cX1_choose 22 = .ok (.if_icmp .ge 24, 3) := by decide +kernel
theorem dX1_choose_25 : decode cX1_choose 25 = .ok (.aload_n 0, 1) := by decide +kernel
theorem dX1_choose_26 : decode cX1_choose 26 = .ok (.iload_n 1, 1) := by decide +kernel
theorem dX1_choose_27 : decode cX1_choose 27 = .ok (.iload_n 2, 1) := by decide +kernel
theorem dX1_choose_28 : decode cX1_choose 28 = .ok (.iload 4, 2) := by decide +kernel
theorem dX1_choose_30 : decode cX1_choose 30 = .ok (.invokevirtual 126, 3) := by decide +kernel
theorem dX1_choose_33 : decode cX1_choose 33 = .ok (.iload_n 3, 1) := by decide +kernel
theorem dX1_choose_34 : decode cX1_choose 34 = .ok (.if_icmp .ne 6, 3) := by decide +kernel
theorem dX1_choose_37 : decode cX1_choose 37 = .ok (.iload 4, 2) := by decide +kernel
theorem dX1_choose_39 : decode cX1_choose 39 = .ok (.ireturn, 1) := by decide +kernel
theorem dX1_choose_40 : decode cX1_choose 40 = .ok (.iinc 4 1, 3) := by decide +kernel
theorem dX1_choose_43 : decode cX1_choose 43 = .ok (.goto (-27), 3) := by decide +kernel
theorem dX1_choose_46 : decode cX1_choose 46 = .ok (.iconst (-1), 1) := by decide +kernel
theorem dX1_choose_47 : decode cX1_choose 47 = .ok (.ireturn, 1) := by decide +kernel
end
section
theorem dX2_init_0 : decode cX2_init 0 = .ok (.aload_n 0, 1) := by decide +kernel
theorem dX2_init_1 : decode cX2_init 1 = .ok (.invokespecial 3, 3) := by decide +kernel
theorem dX2_init_4 : decode cX2_init 4 = .ok (.aload_n 0, 1) := by decide +kernel
theorem dX2_init_5 : decode cX2_init 5 = .ok (.bipush 12, 2) := by decide +kernel
theorem dX2_init_7 : decode cX2_init 7 = .ok (.newarray .int, 2) := by decide +kernel
theorem dX2_init_9 : decode cX2_init 9 = .ok (.putfield 9, 3) := by decide +kernel
theorem dX2_init_12 : decode cX2_init 12 = .ok (.aload_n 0, 1) := by decide +kernel
theorem dX2_init_13 : decode cX2_init 13 = .ok (.bipush 12, 2) := by decide +kernel
theorem dX2_init_15 : decode cX2_init 15 = .ok (.newarray .int, 2) := by decide +kernel
theorem dX2_init_17 : decode cX2_init 17 = .ok (.putfield 15, 3) := by decide +kernel
theorem dX2_init_20 : decode cX2_init 20 = .ok (.aload_n 0, 1) := by decide +kernel
theorem dX2_init_21 : decode cX2_init 21 = .ok (.new 18, 3) := by decide +kernel
theorem dX2_init_24 : decode cX2_init 24 = .ok (.dup, 1) := by decide +kernel
theorem dX2_init_25 : decode cX2_init 25 = .ok (.invokespecial 20, 3) := by decide +kernel
theorem dX2_init_28 : decode cX2_init 28 = .ok (.putfield 21, 3) := by decide +kernel
theorem dX2_init_31 : decode cX2_init 31 = .ok (.aload_n 0, 1) := by decide +kernel
theorem dX2_init_32 : decode cX2_init 32 = .ok (.iconst (-1), 1) := by decide +kernel
theorem dX2_init_33 : decode cX2_init 33 = .ok (.putfield 25, 3) := by decide +kernel
theorem dX2_init_36 : decode cX2_init 36 = .ok (.aload_n 0, 1) := by decide +kernel
theorem dX2_init_37 : decode cX2_init 37 = .ok (.bipush (-9), 2) := by decide +kernel
theorem dX2_init_39 : decode cX2_init 39 = .ok (.putfield 29, 3) := by decide +kernel
theorem dX2_init_42 : decode cX2_init 42 = .ok (.aload_n 0, 1) := by decide +kernel
theorem dX2_init_43 : decode cX2_init 43 = .ok (.iload_n 1, 1) := by decide +kernel
theorem dX2_init_44 : decode cX2_init 44 = .ok (.putfield 32, 3) := by decide +kernel
theorem dX2_init_47 : decode cX2_init 47 = .ok (.aload_n 0, 1) := by decide +kernel
theorem dX2_init_48 : decode cX2_init 48 = .ok (.iload_n 2, 1) := by decide +kernel
theorem dX2_init_49 : decode cX2_init 49 = .ok (.putfield 35, 3) := by decide +kernel
theorem dX2_init_52 : decode cX2_init 52 = .ok (.aload_n 0, 1) := by decide +kernel
theorem dX2_init_53 : decode cX2_init 53 = .ok (.iload_n 3, 1) := by decide +kernel
theorem dX2_init_54 : decode cX2_init 54 = .ok (.putfield 38, 3) := by decide +kernel
theorem dX2_init_57 : decode cX2_init 57 = .ok (.return_, 1) := by decide +kernel
theorem dX2_startTread_0 : decode cX2_startTread 0 = .ok (.aload_n 0, 1) := by decide +kernel
theorem dX2_startTread_1 : decode cX2_startTread 1 = .ok (.iconst 0, 1) := by decide +kernel
theorem dX2_startTread_2 : decode cX2_startTread 2 = .ok (.putfield 41, 3) := by decide +kernel
theorem dX2_startTread_5 : decode cX2_startTread 5 = .ok (.aload_n 0, 1) := by decide +kernel
theorem dX2_startTread_6 : decode cX2_startTread 6 = .ok (.iconst 0, 1) := by decide +kernel
theorem dX2_startTread_7 : decode cX2_startTread 7 = .ok (.putfield 44, 3) := by decide +kernel
theorem dX2_startTread_10 : decode cX2_startTread 10 = .ok (.aload_n 0, 1) := by decide +kernel
theorem dX2_startTread_11 : decode cX2_startTread 11 = .ok (.sipush 180, 3) := by decide +kernel
theorem dX2_startTread_14 : decode cX2_startTread 14 = .ok (.invokevirtual 47, 3) := by decide +kernel
theorem dX2_startTread_17 : decode cX2_startTread 17 = .ok (.aload_n 0, 1) := by decide +kernel
theorem dX2_startTread_18 : decode cX2_startTread 18 = .ok (.iload_n 1, 1) := by decide +kernel
theorem dX2_startTread_19 : decode cX2_startTread 19 = .ok (.invokevirtual 51, 3) := by decide +kernel
theorem dX2_startTread_22 : decode cX2_startTread 22 = .ok (.return_, 1) := by decide +kernel
theorem dX2_hasReading_0 : decode cX2_hasReading 0 = .ok (.iload_n 1, 1) := by decide +kernel
theorem dX2_hasReading_1 : decode cX2_hasReading 1 = .ok (.ifCond .lt 15, 3) := by decide +kernel
theorem dX2_hasReading_4 : decode cX2_hasReading 4 = .ok (.iload_n 1, 1) := by decide +kernel
theorem dX2_hasReading_5 : decode cX2_hasReading 5 = .ok (.aload_n 0, 1) := by decide +kernel
theorem dX2_hasReading_6 : decode cX2_hasReading 6 = .ok (.getfield 44, 3) := by decide +kernel
theorem dX2_hasReading_9 : decode cX2_hasReading 9 = .ok (.if_icmp .ge 7, 3) := by decide +kernel
theorem dX2_hasReading_12 : decode cX2_hasReading 12 = .ok (.iconst 1, 1) := by decide +kernel
theorem dX2_hasReading_13 : decode cX2_hasReading 13 = .ok (.goto 4, 3) := by decide +kernel
theorem dX2_hasReading_16 : decode cX2_hasReading 16 = .ok (.iconst 0, 1) := by decide +kernel
theorem dX2_hasReading_17 : decode cX2_hasReading 17 = .ok (.ireturn, 1) := by decide +kernel
theorem dX2_addReading_0 : decode cX2_addReading 0 = .ok (.aload_n 0, 1) := by decide +kernel
theorem dX2_addReading_1 : decode cX2_addReading 1 = .ok (.getfield 44, 3) := by decide +kernel
theorem dX2_addReading_4 : decode cX2_addReading 4 = .ok (.bipush 12, 2) := by decide +kernel
theorem dX2_addReading_6 : decode cX2_addReading 6 = .ok (.if_icmp .lt 7, 3) := by decide +kernel
theorem dX2_addReading_9 : decode cX2_addReading 9 = .ok (.aload_n 0, 1) := by decide +kernel
theorem dX2_addReading_10 : decode cX2_addReading 10 = .ok (.invokevirtual 54, 3) := by decide +kernel
theorem dX2_addReading_13 : decode cX2_addReading 13 = .ok (.aload_n 0, 1) := by decide +kernel
theorem dX2_addReading_14 : decode cX2_addReading 14 = .ok (.getfield 9, 3) := by decide +kernel
theorem dX2_addReading_17 : decode cX2_addReading 17 = .ok (.aload_n 0, 1) := by decide +kernel
theorem dX2_addReading_18 : decode cX2_addReading 18 = .ok (.getfield 44, 3) := by decide +kernel
theorem dX2_addReading_21 : decode cX2_addReading 21 = .ok (.aload_n 0, 1) := by decide +kernel
theorem dX2_addReading_22 : decode cX2_addReading 22 = .ok (.getfield 41, 3) := by decide +kernel
theorem dX2_addReading_25 : decode cX2_addReading 25 = .ok (.invokestatic 57, 3) := by decide +kernel
theorem dX2_addReading_28 : decode cX2_addReading 28 = .ok (.aload_n 0, 1) := by decide +kernel
theorem dX2_addReading_29 : decode cX2_addReading 29 = .ok (.getfield 15, 3) := by decide +kernel
theorem dX2_addReading_32 : decode cX2_addReading 32 = .ok (.aload_n 0, 1) := by decide +kernel
theorem dX2_addReading_33 : decode cX2_addReading 33 = .ok (.getfield 44, 3) := by decide +kernel
theorem dX2_addReading_36 : decode cX2_addReading 36 = .ok (.iload_n 1, 1) := by decide +kernel
theorem dX2_addReading_37 : decode cX2_addReading 37 = .ok (.invokestatic 57, 3) := by decide +kernel
theorem dX2_addReading_40 : decode cX2_addReading 40 = .ok (.aload_n 0, 1) := by decide +kernel
theorem dX2_addReading_41 : decode cX2_addReading 41 = .ok (.dup, 1) := by decide +kernel
theorem dX2_addReading_42 : decode cX2_addReading 42 = .ok (.getfield 44, 3) := by decide +kernel
theorem dX2_addReading_45 : decode cX2_addReading 45 = .ok (.iconst 1, 1) := by decide +kernel
theorem dX2_addReading_46 : decode cX2_addReading 46 = .ok (.iadd, 1) := by decide +kernel
theorem dX2_addReading_47 : decode cX2_addReading 47 = .ok (.putfield 44, 3) := by decide +kernel
theorem dX2_addReading_50 : decode cX2_addReading 50 = .ok (.return_, 1) := by decide +kernel
theorem dX2_dropSecondReading_0 : decode cX2_dropSecondReading 0 = .ok (.iconst 2, 1) := by decide +kernel
theorem dX2_dropSecondReading_1 : decode cX2_dropSecondReading 1 = .ok (.istore_n 1, 1) := by decide +kernel
theorem dX2_dropSecondReading_2 : decode cX2_dropSecondReading 2 = .ok (.iload_n 1, 1) := by decide +kernel
theorem dX2_dropSecondReading_3 : decode cX2_dropSecondReading 3 = .ok (.bipush 12, 2) := by decide +kernel
theorem dX2_dropSecondReading_5 : decode cX2_dropSecondReading 5 = .ok (.if_icmp .ge 45, 3) := by decide +kernel
theorem dX2_dropSecondReading_8 : decode cX2_dropSecondReading 8 = .ok (.aload_n 0, 1) := by decide +kernel
theorem dX2_dropSecondReading_9 : decode cX2_dropSecondReading 9 = .ok (.getfield 9, 3) := by decide +kernel
theorem dX2_dropSecondReading_12 : decode cX2_dropSecondReading 12 = .ok (.iload_n 1, 1) := by decide +kernel
theorem dX2_dropSecondReading_13 : decode cX2_dropSecondReading 13 = .ok (.iconst 1, 1) := by decide +kernel
theorem dX2_dropSecondReading_14 : decode cX2_dropSecondReading 14 = .ok (.isub, 1) := by decide +kernel
theorem dX2_dropSecondReading_15 : decode cX2_dropSecondReading 15 = .ok (.aload_n 0, 1) := by decide +kernel
theorem dX2_dropSecondReading_16 : decode cX2_dropSecondReading 16 = .ok (.getfield 9, 3) := by decide +kernel
theorem dX2_dropSecondReading_19 : decode cX2_dropSecondReading 19 = .ok (.iload_n 1, 1) := by decide +kernel
theorem dX2_dropSecondReading_20 : decode cX2_dropSecondReading 20 = .ok (.invokestatic 61, 3) := by decide +kernel
theorem dX2_dropSecondReading_23 : decode cX2_dropSecondReading 23 = .ok (.invokestatic 57, 3) := by decide +kernel
theorem dX2_dropSecondReading_26 : decode cX2_dropSecondReading 26 = .ok (.aload_n 0, 1) := by decide +kernel
theorem dX2_dropSecondReading_27 : decode cX2_dropSecondReading 27 = .ok (.getfield 15, 3) := by decide +kernel
theorem dX2_dropSecondReading_30 : decode cX2_dropSecondReading 30 = .ok (.iload_n 1, 1) := by decide +kernel
theorem dX2_dropSecondReading_31 : decode cX2_dropSecondReading 31 = .ok (.iconst 1, 1) := by decide +kernel
theorem dX2_dropSecondReading_32 : decode cX2_dropSecondReading 32 = .ok (.isub, 1) := by decide +kernel
theorem dX2_dropSecondReading_33 : decode cX2_dropSecondReading 33 = .ok (.aload_n 0, 1) := by decide +kernel
theorem dX2_dropSecondReading_34 : decode cX2_dropSecondReading 34 = .ok (.getfield 15, 3) := by decide +kernel
theorem dX2_dropSecondReading_37 : decode cX2_dropSecondReading 37 = .ok (.iload_n 1, 1) := by decide +kernel
theorem dX2_dropSecondReading_38 : decode cX2_dropSecondReading 38 = .ok (.invokestatic 61, 3) := by decide +kernel
theorem dX2_dropSecondReading_41 : decode cX2_dropSecondReading 41 = .ok (.invokestatic 57, 3) := by decide +kernel
theorem dX2_dropSecondReading_44 : decode cX2_dropSecondReading 44 = .ok (.iinc 1 1, 3) := by decide +kernel
theorem dX2_dropSecondReading_47 : decode cX2_dropSecondReading 47 = .ok (.goto (-45), 3) := by decide +kernel
theorem dX2_dropSecondReading_50 : decode cX2_dropSecondReading 50 = .ok (.aload_n 0, 1) := by decide +kernel
theorem dX2_dropSecondReading_51 : decode cX2_dropSecondReading 51 = .ok (.bipush 11, 2) := by decide +kernel
theorem dX2_dropSecondReading_53 : decode cX2_dropSecondReading 53 = .ok (.putfield 44, 3) := by decide +kernel
theorem dX2_dropSecondReading_56 : decode cX2_dropSecondReading 56 = .ok (.return_, 1) := by decide +kernel
theorem dX2_fitWear_0 : decode cX2_fitWear 0 = .ok (.lconst 0, 1) := by decide +kernel
theorem dX2_fitWear_1 : decode cX2_fitWear 1 = .ok (.lstore_n 2, 1) := by decide +kernel
theorem dX2_fitWear_2 : decode cX2_fitWear 2 = .ok (.lconst 0, 1) := by decide +kernel
theorem dX2_fitWear_3 : decode cX2_fitWear 3 = .ok (.lstore 4, 2) := by decide +kernel
theorem dX2_fitWear_5 : decode cX2_fitWear 5 = .ok (.lconst 0, 1) := by decide +kernel
theorem dX2_fitWear_6 : decode cX2_fitWear 6 = .ok (.lstore 6, 2) := by decide +kernel
theorem dX2_fitWear_8 : decode cX2_fitWear 8 = .ok (.lconst 0, 1) := by decide +kernel
theorem dX2_fitWear_9 : decode cX2_fitWear 9 = .ok (.lstore 8, 2) := by decide +kernel
theorem dX2_fitWear_11 : decode cX2_fitWear 11 = .ok (.iconst 0, 1) := by decide +kernel
theorem dX2_fitWear_12 : decode cX2_fitWear 12 = .ok (.istore 10, 2) := by decide +kernel
theorem dX2_fitWear_14 : decode cX2_fitWear 14 = .ok (.iload 10, 2) := by decide +kernel
theorem dX2_fitWear_16 : decode cX2_fitWear 16 = .ok (.aload_n 0, 1) := by decide +kernel
theorem dX2_fitWear_17 : decode cX2_fitWear 17 = .ok (.getfield 44, 3) := by decide +kernel
theorem dX2_fitWear_20 : decode cX2_fitWear 20 = .ok (.if_icmp .ge 65, 3) := by decide +kernel
theorem dX2_fitWear_23 : decode cX2_fitWear 23 = .ok (.aload_n 0, 1) := by decide +kernel
theorem dX2_fitWear_24 : decode cX2_fitWear 24 = .ok (.getfield 9, 3) := by decide +kernel
theorem dX2_fitWear_27 : decode cX2_fitWear 27 = .ok (.iload 10, 2) := by decide +kernel
theorem dX2_fitWear_29 : decode cX2_fitWear 29 = .ok (.invokestatic 61, 3) := by decide +kernel
theorem dX2_fitWear_32 : decode cX2_fitWear 32 = .ok (.i2l, 1) := by decide +kernel
theorem dX2_fitWear_33 : decode cX2_fitWear 33 = .ok (.lstore 11, 2) := by decide +kernel
theorem dX2_fitWear_35 : decode cX2_fitWear 35 = .ok (.aload_n 0, 1) := by decide +kernel
theorem dX2_fitWear_36 : decode cX2_fitWear 36 = .ok (.getfield 15, 3) := by decide +kernel
theorem dX2_fitWear_39 : decode cX2_fitWear 39 = .ok (.iload 10, 2) := by decide +kernel
theorem dX2_fitWear_41 : decode cX2_fitWear 41 = .ok (.invokestatic 61, 3) := by decide +kernel
theorem dX2_fitWear_44 : decode cX2_fitWear 44 = .ok (.i2l, 1) := by decide +kernel
theorem dX2_fitWear_45 : decode cX2_fitWear 45 = .ok (.lstore 13, 2) := by decide +kernel
theorem dX2_fitWear_47 : decode cX2_fitWear 47 = .ok (.lload_n 2, 1) := by decide +kernel
theorem dX2_fitWear_48 : decode cX2_fitWear 48 = .ok (.lload 11, 2) := by decide +kernel
theorem dX2_fitWear_50 : decode cX2_fitWear 50 = .ok (.ladd, 1) := by decide +kernel
theorem dX2_fitWear_51 : decode cX2_fitWear 51 = .ok (.lstore_n 2, 1) := by decide +kernel
theorem dX2_fitWear_52 : decode cX2_fitWear 52 = .ok (.lload 4, 2) := by decide +kernel
theorem dX2_fitWear_54 : decode cX2_fitWear 54 = .ok (.lload 13, 2) := by decide +kernel
theorem dX2_fitWear_56 : decode cX2_fitWear 56 = .ok (.ladd, 1) := by decide +kernel
theorem dX2_fitWear_57 : decode cX2_fitWear 57 = .ok (.lstore 4, 2) := by decide +kernel
theorem dX2_fitWear_59 : decode cX2_fitWear 59 = .ok (.lload 6, 2) := by decide +kernel
theorem dX2_fitWear_61 : decode cX2_fitWear 61 = .ok (.lload 11, 2) := by decide +kernel
theorem dX2_fitWear_63 : decode cX2_fitWear 63 = .ok (.lload 11, 2) := by decide +kernel
theorem dX2_fitWear_65 : decode cX2_fitWear 65 = .ok (.lmul, 1) := by decide +kernel
theorem dX2_fitWear_66 : decode cX2_fitWear 66 = .ok (.ladd, 1) := by decide +kernel
theorem dX2_fitWear_67 : decode cX2_fitWear 67 = .ok (.lstore 6, 2) := by decide +kernel
theorem dX2_fitWear_69 : decode cX2_fitWear 69 = .ok (.lload 8, 2) := by decide +kernel
theorem dX2_fitWear_71 : decode cX2_fitWear 71 = .ok (.lload 11, 2) := by decide +kernel
theorem dX2_fitWear_73 : decode cX2_fitWear 73 = .ok (.lload 13, 2) := by decide +kernel
theorem dX2_fitWear_75 : decode cX2_fitWear 75 = .ok (.lmul, 1) := by decide +kernel
theorem dX2_fitWear_76 : decode cX2_fitWear 76 = .ok (.ladd, 1) := by decide +kernel
theorem dX2_fitWear_77 : decode cX2_fitWear 77 = .ok (.lstore 8, 2) := by decide +kernel
theorem dX2_fitWear_79 : decode cX2_fitWear 79 = .ok (.iinc 10 1, 3) := by decide +kernel
theorem dX2_fitWear_82 : decode cX2_fitWear 82 = .ok (.goto (-68), 3) := by decide +kernel
theorem dX2_fitWear_85 : decode cX2_fitWear 85 = .ok (.aload_n 0, 1) := by decide +kernel
theorem dX2_fitWear_86 : decode cX2_fitWear 86 = .ok (.getfield 44, 3) := by decide +kernel
theorem dX2_fitWear_89 : decode cX2_fitWear 89 = .ok (.i2l, 1) := by decide +kernel
theorem dX2_fitWear_90 : decode cX2_fitWear 90 = .ok (.lload 6, 2) := by decide +kernel
theorem dX2_fitWear_92 : decode cX2_fitWear 92 = .ok (.lmul, 1) := by decide +kernel
theorem dX2_fitWear_93 : decode cX2_fitWear 93 = .ok (.lload_n 2, 1) := by decide +kernel
theorem dX2_fitWear_94 : decode cX2_fitWear 94 = .ok (.lload_n 2, 1) := by decide +kernel
theorem dX2_fitWear_95 : decode cX2_fitWear 95 = .ok (.lmul, 1) := by decide +kernel
theorem dX2_fitWear_96 : decode cX2_fitWear 96 = .ok (.lsub, 1) := by decide +kernel
theorem dX2_fitWear_97 : decode cX2_fitWear 97 = .ok (.lstore 10, 2) := by decide +kernel
theorem dX2_fitWear_99 : decode cX2_fitWear 99 = .ok (.lload 10, 2) := by decide +kernel
theorem dX2_fitWear_101 : decode cX2_fitWear 101 = .ok (.lconst 0, 1) := by decide +kernel
theorem dX2_fitWear_102 : decode cX2_fitWear 102 = .ok (.lcmp, 1) := by decide +kernel
theorem dX2_fitWear_103 : decode cX2_fitWear 103 = .ok (.ifCond .le 28, 3) := by decide +kernel
theorem dX2_fitWear_106 : decode cX2_fitWear 106 = .ok (.aload_n 0, 1) := by decide +kernel
theorem dX2_fitWear_107 : decode cX2_fitWear 107 = .ok (.getfield 21, 3) := by decide +kernel
theorem dX2_fitWear_110 : decode cX2_fitWear 110 = .ok (.lload_n 2, 1) := by decide +kernel
theorem dX2_fitWear_111 : decode cX2_fitWear 111 = .ok (.lload 4, 2) := by decide +kernel
theorem dX2_fitWear_113 : decode cX2_fitWear 113 = .ok (.lmul, 1) := by decide +kernel
theorem dX2_fitWear_114 : decode cX2_fitWear 114 = .ok (.aload_n 0, 1) := by decide +kernel
theorem dX2_fitWear_115 : decode cX2_fitWear 115 = .ok (.getfield 44, 3) := by decide +kernel
theorem dX2_fitWear_118 : decode cX2_fitWear 118 = .ok (.i2l, 1) := by decide +kernel
theorem dX2_fitWear_119 : decode cX2_fitWear 119 = .ok (.lload 8, 2) := by decide +kernel
theorem dX2_fitWear_121 : decode cX2_fitWear 121 = .ok (.lmul, 1) := by decide +kernel
theorem dX2_fitWear_122 : decode cX2_fitWear 122 = .ok (.lsub, 1) := by decide +kernel
theorem dX2_fitWear_123 : decode cX2_fitWear 123 = .ok (.lload 10, 2) := by decide +kernel
theorem dX2_fitWear_125 : decode cX2_fitWear 125 = .ok (.invokevirtual 65, 3) := by decide +kernel
theorem dX2_fitWear_128 : decode cX2_fitWear 128 = .ok (.goto 15, 3) := by decide +kernel
theorem dX2_fitWear_131 : decode cX2_fitWear 131 = .ok (.aload_n 0, 1) := by decide +kernel
theorem dX2_fitWear_132 : decode cX2_fitWear 132 = .ok (.getfield 21, 3) := by decide +kernel
theorem dX2_fitWear_135 : decode cX2_fitWear 135 = .ok (.iload_n 1, 1) := by decide +kernel
theorem dX2_fitWear_136 : decode cX2_fitWear 136 = .ok (.i2l, 1) := by decide +kernel
theorem dX2_fitWear_137 : decode cX2_fitWear 137 = .ok (.ldc2_w 69, 3) := by decide +kernel
theorem dX2_fitWear_140 : decode cX2_fitWear 140 = .ok (.invokevirtual 65, 3) := by decide +kernel
theorem dX2_fitWear_143 : decode cX2_fitWear 143 = .ok (.return_, 1) := by decide +kernel
theorem dX2_depthAfter_0 : decode cX2_depthAfter 0 = .ok (.aload_n 0, 1) := by decide +kernel
theorem dX2_depthAfter_1 : decode cX2_depthAfter 1 = .ok (.getfield 21, 3) := by decide +kernel
theorem dX2_depthAfter_4 : decode cX2_depthAfter 4 = .ok (.aload_n 0, 1) := by decide +kernel
theorem dX2_depthAfter_5 : decode cX2_depthAfter 5 = .ok (.getfield 15, 3) := by decide +kernel
theorem dX2_depthAfter_8 : decode cX2_depthAfter 8 = .ok (.aload_n 0, 1) := by decide +kernel
theorem dX2_depthAfter_9 : decode cX2_depthAfter 9 = .ok (.getfield 44, 3) := by decide +kernel
theorem dX2_depthAfter_12 : decode cX2_depthAfter 12 = .ok (.iconst 1, 1) := by decide +kernel
theorem dX2_depthAfter_13 : decode cX2_depthAfter 13 = .ok (.isub, 1) := by decide +kernel
theorem dX2_depthAfter_14 : decode cX2_depthAfter 14 = .ok (.invokestatic 61, 3) := by decide +kernel
theorem dX2_depthAfter_17 : decode cX2_depthAfter 17 = .ok (.aload_n 0, 1) := by decide +kernel
theorem dX2_depthAfter_18 : decode cX2_depthAfter 18 = .ok (.invokevirtual 71, 3) := by decide +kernel
theorem dX2_depthAfter_21 : decode cX2_depthAfter 21 = .ok (.iload_n 1, 1) := by decide +kernel
theorem dX2_depthAfter_22 : decode cX2_depthAfter 22 = .ok (.iadd, 1) := by decide +kernel
theorem dX2_depthAfter_23 : decode cX2_depthAfter 23 = .ok (.invokevirtual 75, 3) := by decide +kernel
theorem dX2_depthAfter_26 : decode cX2_depthAfter 26 = .ok (.ireturn, 1) := by decide +kernel
theorem dX2_endFor_0 : decode cX2_endFor 0 = .ok (.aload_n 0, 1) := by decide +kernel
theorem dX2_endFor_1 : decode cX2_endFor 1 = .ok (.getfield 21, 3) := by decide +kernel
theorem dX2_endFor_4 : decode cX2_endFor 4 = .ok (.aload_n 0, 1) := by decide +kernel
theorem dX2_endFor_5 : decode cX2_endFor 5 = .ok (.getfield 15, 3) := by decide +kernel
theorem dX2_endFor_8 : decode cX2_endFor 8 = .ok (.aload_n 0, 1) := by decide +kernel
theorem dX2_endFor_9 : decode cX2_endFor 9 = .ok (.getfield 44, 3) := by decide +kernel
theorem dX2_endFor_12 : decode cX2_endFor 12 = .ok (.iconst 1, 1) := by decide +kernel
theorem dX2_endFor_13 : decode cX2_endFor 13 = .ok (.isub, 1) := by decide +kernel
theorem dX2_endFor_14 : decode cX2_endFor 14 = .ok (.invokestatic 61, 3) := by decide +kernel
theorem dX2_endFor_17 : decode cX2_endFor 17 = .ok (.aload_n 0, 1) := by decide +kernel
theorem dX2_endFor_18 : decode cX2_endFor 18 = .ok (.invokevirtual 71, 3) := by decide +kernel
theorem dX2_endFor_21 : decode cX2_endFor 21 = .ok (.iload_n 1, 1) := by decide +kernel
theorem dX2_endFor_22 : decode cX2_endFor 22 = .ok (.invokevirtual 79, 3) := by decide +kernel
theorem dX2_endFor_25 : decode cX2_endFor 25 = .ok (.ireturn, 1) := by decide +kernel
theorem dX2_sinceRead_0 : decode cX2_sinceRead 0 = .ok (.aload_n 0, 1) := by decide +kernel
theorem dX2_sinceRead_1 : decode cX2_sinceRead 1 = .ok (.getfield 41, 3) := by decide +kernel
theorem dX2_sinceRead_4 : decode cX2_sinceRead 4 = .ok (.aload_n 0, 1) := by decide +kernel
theorem dX2_sinceRead_5 : decode cX2_sinceRead 5 = .ok (.getfield 9, 3) := by decide +kernel
theorem dX2_sinceRead_8 : decode cX2_sinceRead 8 = .ok (.aload_n 0, 1) := by decide +kernel
theorem dX2_sinceRead_9 : decode cX2_sinceRead 9 = .ok (.getfield 44, 3) := by decide +kernel
theorem dX2_sinceRead_12 : decode cX2_sinceRead 12 = .ok (.iconst 1, 1) := by decide +kernel
theorem dX2_sinceRead_13 : decode cX2_sinceRead 13 = .ok (.isub, 1) := by decide +kernel
theorem dX2_sinceRead_14 : decode cX2_sinceRead 14 = .ok (.invokestatic 61, 3) := by decide +kernel
theorem dX2_sinceRead_17 : decode cX2_sinceRead 17 = .ok (.isub, 1) := by decide +kernel
theorem dX2_sinceRead_18 : decode cX2_sinceRead 18 = .ok (.ireturn, 1) := by decide +kernel
end
section
theorem dX3_init_0 : decode cX3_init 0 = .ok (.aload_n 0, 1) := by decide +kernel
theorem dX3_init_1 : decode cX3_init 1 = .ok (.invokespecial 3, 3) := by decide +kernel
theorem dX3_init_4 : decode cX3_init 4 = .ok (.aload_n 0, 1) := by decide +kernel
theorem dX3_init_5 : decode cX3_init 5 = .ok (.bipush 7, 2) := by decide +kernel
theorem dX3_init_7 : decode cX3_init 7 = .ok (.newarray .int, 2) := by decide +kernel
theorem dX3_init_9 : decode cX3_init 9 = .ok (.putfield 9, 3) := by decide +kernel
theorem dX3_init_12 : decode cX3_init 12 = .ok (.aload_n 0, 1) := by decide +kernel
theorem dX3_init_13 : decode cX3_init 13 = .ok (.bipush 7, 2) := by decide +kernel
theorem dX3_init_15 : decode cX3_init 15 = .ok (.anewarray 15, 3) := by decide +kernel
theorem dX3_init_18 : decode cX3_init 18 = .ok (.putfield 17, 3) := by decide +kernel
theorem dX3_init_21 : decode cX3_init 21 = .ok (.aload_n 0, 1) := by decide +kernel
theorem dX3_init_22 : decode cX3_init 22 = .ok (.iload_n 1, 1) := by decide +kernel
theorem dX3_init_23 : decode cX3_init 23 = .ok (.putfield 21, 3) := by decide +kernel
theorem dX3_init_26 : decode cX3_init 26 = .ok (.return_, 1) := by decide +kernel
theorem dX3_hasPlace_0 : decode cX3_hasPlace 0 = .ok (.iload_n 1, 1) := by decide +kernel
theorem dX3_hasPlace_1 : decode cX3_hasPlace 1 = .ok (.ifCond .lt 21, 3) := by decide +kernel
theorem dX3_hasPlace_4 : decode cX3_hasPlace 4 = .ok (.iload_n 1, 1) := by decide +kernel
theorem dX3_hasPlace_5 : decode cX3_hasPlace 5 = .ok (.aload_n 0, 1) := by decide +kernel
theorem dX3_hasPlace_6 : decode cX3_hasPlace 6 = .ok (.getfield 25, 3) := by decide +kernel
theorem dX3_hasPlace_9 : decode cX3_hasPlace 9 = .ok (.if_icmp .ge 13, 3) := by decide +kernel
theorem dX3_hasPlace_12 : decode cX3_hasPlace 12 = .ok (.iload_n 1, 1) := by decide +kernel
theorem dX3_hasPlace_13 : decode cX3_hasPlace 13 = .ok (.bipush 7, 2) := by decide +kernel
theorem dX3_hasPlace_15 : decode cX3_hasPlace 15 = .ok (.if_icmp .ge 7, 3) := by decide +kernel
theorem dX3_hasPlace_18 : decode cX3_hasPlace 18 = .ok (.iconst 1, 1) := by decide +kernel
theorem dX3_hasPlace_19 : decode cX3_hasPlace 19 = .ok (.goto 4, 3) := by decide +kernel
theorem dX3_hasPlace_22 : decode cX3_hasPlace 22 = .ok (.iconst 0, 1) := by decide +kernel
theorem dX3_hasPlace_23 : decode cX3_hasPlace 23 = .ok (.ireturn, 1) := by decide +kernel
theorem dX3_isFull_0 : decode cX3_isFull 0 = .ok (.aload_n 0, 1) := by decide +kernel
theorem dX3_isFull_1 : decode cX3_isFull 1 = .ok (.getfield 25, 3) := by decide +kernel
theorem dX3_isFull_4 : decode cX3_isFull 4 = .ok (.bipush 7, 2) := by decide +kernel
theorem dX3_isFull_6 : decode cX3_isFull 6 = .ok (.if_icmp .lt 7, 3) := by decide +kernel
theorem dX3_isFull_9 : decode cX3_isFull 9 = .ok (.iconst 1, 1) := by decide +kernel
theorem dX3_isFull_10 : decode cX3_isFull 10 = .ok (.goto 4, 3) := by decide +kernel
theorem dX3_isFull_13 : decode cX3_isFull 13 = .ok (.iconst 0, 1) := by decide +kernel
theorem dX3_isFull_14 : decode cX3_isFull 14 = .ok (.ireturn, 1) := by decide +kernel
theorem dX3_addPlace_0 : decode cX3_addPlace 0 = .ok (.aload_n 0, 1) := by decide +kernel
theorem dX3_addPlace_1 : decode cX3_addPlace 1 = .ok (.getfield 25, 3) := by decide +kernel
theorem dX3_addPlace_4 : decode cX3_addPlace 4 = .ok (.istore_n 2, 1) := by decide +kernel
theorem dX3_addPlace_5 : decode cX3_addPlace 5 = .ok (.aload_n 0, 1) := by decide +kernel
theorem dX3_addPlace_6 : decode cX3_addPlace 6 = .ok (.getfield 9, 3) := by decide +kernel
theorem dX3_addPlace_9 : decode cX3_addPlace 9 = .ok (.iload_n 2, 1) := by decide +kernel
theorem dX3_addPlace_10 : decode cX3_addPlace 10 = .ok (.iload_n 1, 1) := by decide +kernel
theorem dX3_addPlace_11 : decode cX3_addPlace 11 = .ok (.invokestatic 28, 3) := by decide +kernel
theorem dX3_addPlace_14 : decode cX3_addPlace 14 = .ok (.aload_n 0, 1) := by decide +kernel
theorem dX3_addPlace_15 : decode cX3_addPlace 15 = .ok (.iload_n 2, 1) := by decide +kernel
theorem dX3_addPlace_16 : decode cX3_addPlace 16 = .ok (.iconst 1, 1) := by decide +kernel
theorem dX3_addPlace_17 : decode cX3_addPlace 17 = .ok (.iadd, 1) := by decide +kernel
theorem dX3_addPlace_18 : decode cX3_addPlace 18 = .ok (.putfield 25, 3) := by decide +kernel
theorem dX3_addPlace_21 : decode cX3_addPlace 21 = .ok (.iload_n 2, 1) := by decide +kernel
theorem dX3_addPlace_22 : decode cX3_addPlace 22 = .ok (.ireturn, 1) := by decide +kernel
theorem dX3_kindOf_0 : decode cX3_kindOf 0 = .ok (.aload_n 0, 1) := by decide +kernel
theorem dX3_kindOf_1 : decode cX3_kindOf 1 = .ok (.iload_n 1, 1) := by decide +kernel
theorem dX3_kindOf_2 : decode cX3_kindOf 2 = .ok (.invokevirtual 32, 3) := by decide +kernel
theorem dX3_kindOf_5 : decode cX3_kindOf 5 = .ok (.ifCond .eq 14, 3) := by decide +kernel
theorem dX3_kindOf_8 : decode cX3_kindOf 8 = .ok (.aload_n 0, 1) := by decide +kernel
theorem dX3_kindOf_9 : decode cX3_kindOf 9 = .ok (.getfield 9, 3) := by decide +kernel
theorem dX3_kindOf_12 : decode cX3_kindOf 12 = .ok (.iload_n 1, 1) := by decide +kernel
theorem dX3_kindOf_13 : decode cX3_kindOf 13 = .ok (.invokestatic 36, 3) := by decide +kernel
theorem dX3_kindOf_16 : decode cX3_kindOf 16 = .ok (.goto 5, 3) := by decide +kernel
theorem dX3_kindOf_19 : decode cX3_kindOf 19 = .ok (.bipush (-9), 2) := by decide +kernel
theorem dX3_kindOf_21 : decode cX3_kindOf 21 = .ok (.ireturn, 1) := by decide +kernel
theorem dX3_tyreOn_0 : decode cX3_tyreOn 0 = .ok (.aload_n 0, 1) := by decide +kernel
theorem dX3_tyreOn_1 : decode cX3_tyreOn 1 = .ok (.iload_n 1, 1) := by decide +kernel
theorem dX3_tyreOn_2 : decode cX3_tyreOn 2 = .ok (.invokevirtual 32, 3) := by decide +kernel
theorem dX3_tyreOn_5 : decode cX3_tyreOn 5 = .ok (.ifCond .eq 12, 3) := by decide +kernel
theorem dX3_tyreOn_8 : decode cX3_tyreOn 8 = .ok (.aload_n 0, 1) := by decide +kernel
theorem dX3_tyreOn_9 : decode cX3_tyreOn 9 = .ok (.getfield 17, 3) := by decide +kernel
theorem dX3_tyreOn_12 : decode cX3_tyreOn 12 = .ok (.iload_n 1, 1) := by decide +kernel
theorem dX3_tyreOn_13 : decode cX3_tyreOn 13 = .ok (.aaload, 1) := by decide +kernel
theorem dX3_tyreOn_14 : decode cX3_tyreOn 14 = .ok (.goto 4, 3) := by decide +kernel
theorem dX3_tyreOn_17 : decode cX3_tyreOn 17 = .ok (.aconst_null, 1) := by decide +kernel
theorem dX3_tyreOn_18 : decode cX3_tyreOn 18 = .ok (.areturn, 1) := by decide +kernel
theorem dX3_lay_0 : decode cX3_lay 0 = .ok (.aload_n 0, 1) := by decide +kernel
theorem dX3_lay_1 : decode cX3_lay 1 = .ok (.iload_n 1, 1) := by decide +kernel
theorem dX3_lay_2 : decode cX3_lay 2 = .ok (.invokevirtual 32, 3) := by decide +kernel
theorem dX3_lay_5 : decode cX3_lay 5 = .ok (.ifCond .eq 10, 3) := by decide +kernel
theorem dX3_lay_8 : decode cX3_lay 8 = .ok (.aload_n 0, 1) := by decide +kernel
theorem dX3_lay_9 : decode cX3_lay 9 = .ok (.getfield 17, 3) := by decide +kernel
theorem dX3_lay_12 : decode cX3_lay 12 = .ok (.iload_n 1, 1) := by decide +kernel
theorem dX3_lay_13 : decode cX3_lay 13 = .ok (.aload_n 2, 1) := by decide +kernel
theorem dX3_lay_14 : decode cX3_lay 14 = .ok (.aastore, 1) := by decide +kernel
theorem dX3_lay_15 : decode cX3_lay 15 = .ok (.return_, 1) := by decide +kernel
theorem dX3_spot_0 : decode cX3_spot 0 = .ok (.bipush 10, 2) := by decide +kernel
theorem dX3_spot_2 : decode cX3_spot 2 = .ok (.aload_n 0, 1) := by decide +kernel
theorem dX3_spot_3 : decode cX3_spot 3 = .ok (.getfield 21, 3) := by decide +kernel
theorem dX3_spot_6 : decode cX3_spot 6 = .ok (.imul, 1) := by decide +kernel
theorem dX3_spot_7 : decode cX3_spot 7 = .ok (.iload_n 1, 1) := by decide +kernel
theorem dX3_spot_8 : decode cX3_spot 8 = .ok (.iadd, 1) := by decide +kernel
theorem dX3_spot_9 : decode cX3_spot 9 = .ok (.ireturn, 1) := by decide +kernel
theorem dX3_pairOf_0 : decode cX3_pairOf 0 = .ok (.aload_n 0, 1) := by decide +kernel
theorem dX3_pairOf_1 : decode cX3_pairOf 1 = .ok (.iload_n 1, 1) := by decide +kernel
theorem dX3_pairOf_2 : decode cX3_pairOf 2 = .ok (.invokevirtual 40, 3) := by decide +kernel
theorem dX3_pairOf_5 : decode cX3_pairOf 5 = .ok (.iconst 2, 1) := by decide +kernel
theorem dX3_pairOf_6 : decode cX3_pairOf 6 = .ok (.if_icmp .eq 6, 3) := by decide +kernel
theorem dX3_pairOf_9 : decode cX3_pairOf 9 = .ok (.bipush (-9), 2) := by decide +kernel
theorem dX3_pairOf_11 : decode cX3_pairOf 11 = .ok (.ireturn, 1) := by decide +kernel
theorem dX3_pairOf_12 : decode cX3_pairOf 12 = .ok (.bipush (-9), 2) := by decide +kernel
theorem dX3_pairOf_14 : decode cX3_pairOf 14 = .ok (.istore_n 2, 1) := by decide +kernel
theorem dX3_pairOf_15 : decode cX3_pairOf 15 = .ok (.iconst 0, 1) := by decide +kernel
theorem dX3_pairOf_16 : decode cX3_pairOf 16 = .ok (.istore_n 3, 1) := by decide +kernel
theorem dX3_pairOf_17 : decode cX3_pairOf 17 = .ok (.iload_n 3, 1) := by decide +kernel
theorem dX3_pairOf_18 : decode cX3_pairOf 18 = .ok (.aload_n 0, 1) := by decide +kernel
theorem dX3_pairOf_19 : decode cX3_pairOf 19 = .ok (.getfield 25, 3) := by decide +kernel
theorem dX3_pairOf_22 : decode cX3_pairOf 22 = .ok (.if_icmp .ge 49, 3) := by decide +kernel
theorem dX3_pairOf_25 : decode cX3_pairOf 25 = .ok (.aload_n 0, 1) := by decide +kernel
theorem dX3_pairOf_26 : decode cX3_pairOf 26 = .ok (.iload_n 3, 1) := by decide +kernel
theorem dX3_pairOf_27 : decode cX3_pairOf 27 = .ok (.invokevirtual 40, 3) := by decide +kernel
theorem dX3_pairOf_30 : decode cX3_pairOf 30 = .ok (.iconst 2, 1) := by decide +kernel
theorem dX3_pairOf_31 : decode cX3_pairOf 31 = .ok (.if_icmp .eq 6, 3) := by decide +kernel
theorem dX3_pairOf_34 : decode cX3_pairOf 34 = .ok (.goto 31, 3) := by decide +kernel
theorem dX3_pairOf_37 : decode cX3_pairOf 37 = .ok (.iload_n 2, 1) := by decide +kernel
theorem dX3_pairOf_38 : decode cX3_pairOf 38 = .ok (.bipush (-9), 2) := by decide +kernel
theorem dX3_pairOf_40 : decode cX3_pairOf 40 = .ok (.if_icmp .ne 8, 3) := by decide +kernel
theorem dX3_pairOf_43 : decode cX3_pairOf 43 = .ok (.iload_n 3, 1) := by decide +kernel
theorem dX3_pairOf_44 : decode cX3_pairOf 44 = .ok (.istore_n 2, 1) := by decide +kernel
theorem dX3_pairOf_45 : decode cX3_pairOf 45 = .ok (.goto 20, 3) := by decide +kernel
theorem dX3_pairOf_48 : decode cX3_pairOf 48 = .ok (.iload_n 2, 1) := by decide +kernel
theorem dX3_pairOf_49 : decode cX3_pairOf 49 = .ok (.iload_n 1, 1) := by decide +kernel
theorem dX3_pairOf_50 : decode cX3_pairOf 50 = .ok (.if_icmp .ne 5, 3) := by decide +kernel
theorem dX3_pairOf_53 : decode cX3_pairOf 53 = .ok (.iload_n 3, 1) := by decide +kernel
theorem dX3_pairOf_54 : decode cX3_pairOf 54 = .ok (.ireturn, 1) := by decide +kernel
theorem dX3_pairOf_55 : decode cX3_pairOf 55 = .ok (.iload_n 3, 1) := by decide +kernel
theorem dX3_pairOf_56 : decode cX3_pairOf 56 = .ok (.iload_n 1, 1) := by decide +kernel
theorem dX3_pairOf_57 : decode cX3_pairOf 57 = .ok (.if_icmp .ne 5, 3) := by decide +kernel
theorem dX3_pairOf_60 : decode cX3_pairOf 60 = .ok (.iload_n 2, 1) := by decide +kernel
theorem dX3_pairOf_61 : decode cX3_pairOf 61 = .ok (.ireturn, 1) := by decide +kernel
theorem dX3_pairOf_62 : decode cX3_pairOf 62 = .ok (.bipush (-9), 2) := by decide +kernel
theorem dX3_pairOf_64 : decode cX3_pairOf 64 = .ok (.istore_n 2, 1) := by decide +kernel
theorem dX3_pairOf_65 : decode cX3_pairOf 65 = .ok (.iinc 3 1, 3) := by decide +kernel
theorem dX3_pairOf_68 : decode cX3_pairOf 68 = .ok (.goto (-51), 3) := by decide +kernel
theorem dX3_pairOf_71 : decode cX3_pairOf 71 = .ok (.bipush (-9), 2) := by decide +kernel
theorem dX3_pairOf_73 : decode cX3_pairOf 73 = .ok (.ireturn, 1) := by decide +kernel
theorem dX3_whyUnfit_0 : decode cX3_whyUnfit 0 = .ok (.iconst 0, 1) := by decide +kernel
theorem dX3_whyUnfit_1 : decode cX3_whyUnfit 1 = .ok (.istore_n 3, 1) := by decide +kernel
theorem dX3_whyUnfit_2 : decode cX3_whyUnfit 2 = .ok (.iload_n 3, 1) := by decide +kernel
theorem dX3_whyUnfit_3 : decode cX3_whyUnfit 3 = .ok (.aload_n 0, 1) := by decide +kernel
theorem dX3_whyUnfit_4 : decode cX3_whyUnfit 4 = .ok (.getfield 25, 3) := by decide +kernel
theorem dX3_whyUnfit_7 : decode cX3_whyUnfit 7 = .ok (.if_icmp .ge 31, 3) := by decide +kernel
theorem dX3_whyUnfit_10 : decode cX3_whyUnfit 10 = .ok (.aload_n 0, 1) := by decide +kernel
theorem dX3_whyUnfit_11 : decode cX3_whyUnfit 11 = .ok (.iload_n 3, 1) := by decide +kernel
theorem dX3_whyUnfit_12 : decode cX3_whyUnfit 12 = .ok (.aload_n 1, 1) := by decide +kernel
theorem dX3_whyUnfit_13 : decode cX3_whyUnfit 13 = .ok (.iload_n 2, 1) := by decide +kernel
theorem dX3_whyUnfit_14 : decode cX3_whyUnfit 14 = .ok (.invokevirtual 44, 3) := by decide +kernel
theorem dX3_whyUnfit_17 : decode cX3_whyUnfit 17 = .ok (.istore 4, 2) := by decide +kernel
theorem dX3_whyUnfit_19 : decode cX3_whyUnfit 19 = .ok (.iload 4, 2) := by decide +kernel
theorem dX3_whyUnfit_21 : decode cX3_whyUnfit 21 = .ok (.ifCond .eq 11, 3) := by decide +kernel
theorem dX3_whyUnfit_24 : decode cX3_whyUnfit 24 = .ok (.bipush 10, 2) := by decide +kernel
theorem dX3_whyUnfit_26 : decode cX3_whyUnfit 26 = .ok (.iload_n 3, 1) := by decide +kernel
theorem dX3_whyUnfit_27 : decode cX3_whyUnfit 27 = .ok (.imul, 1) := by decide +kernel
theorem dX3_whyUnfit_28 : decode cX3_whyUnfit 28 = .ok (.iload 4, 2) := by decide +kernel
theorem dX3_whyUnfit_30 : decode cX3_whyUnfit 30 = .ok (.iadd, 1) := by decide +kernel
theorem dX3_whyUnfit_31 : decode cX3_whyUnfit 31 = .ok (.ireturn, 1) := by decide +kernel
theorem dX3_whyUnfit_32 : decode cX3_whyUnfit 32 = .ok (.iinc 3 1, 3) := by decide +kernel
theorem dX3_whyUnfit_35 : decode cX3_whyUnfit 35 = .ok (.goto (-33), 3) := by decide +kernel
theorem dX3_whyUnfit_38 : decode cX3_whyUnfit 38 = .ok (.bipush (-9), 2) := by decide +kernel
theorem dX3_whyUnfit_40 : decode cX3_whyUnfit 40 = .ok (.ireturn, 1) := by decide +kernel
theorem dX3_flawOn_0 : decode cX3_flawOn 0 = .ok (.aload_n 0, 1) := by decide +kernel
theorem dX3_flawOn_1 : decode cX3_flawOn 1 = .ok (.iload_n 1, 1) := by decide +kernel
theorem dX3_flawOn_2 : decode cX3_flawOn 2 = .ok (.invokevirtual 40, 3) := by decide +kernel
theorem dX3_flawOn_5 : decode cX3_flawOn 5 = .ok (.istore 4, 2) := by decide +kernel
theorem dX3_flawOn_7 : decode cX3_flawOn 7 = .ok (.aload_n 0, 1) := by decide +kernel
theorem dX3_flawOn_8 : decode cX3_flawOn 8 = .ok (.iload_n 1, 1) := by decide +kernel
theorem dX3_flawOn_9 : decode cX3_flawOn 9 = .ok (.invokevirtual 48, 3) := by decide +kernel
theorem dX3_flawOn_12 : decode cX3_flawOn 12 = .ok (.astore 5, 2) := by decide +kernel
theorem dX3_flawOn_14 : decode cX3_flawOn 14 = .ok (.aload 5, 2) := by decide +kernel
theorem dX3_flawOn_16 : decode cX3_flawOn 16 = .ok (.ifnonnull 15, 3) := by decide +kernel
theorem dX3_flawOn_19 : decode cX3_flawOn 19 = .ok (.iload 4, 2) := by decide +kernel
theorem dX3_flawOn_21 : decode cX3_flawOn 21 = .ok (.iconst 4, 1) := by decide +kernel
theorem dX3_flawOn_22 : decode cX3_flawOn 22 = .ok (.if_icmp .ne 7, 3) := by decide +kernel
theorem dX3_flawOn_25 : decode cX3_flawOn 25 = .ok (.iconst 0, 1) := by decide +kernel
theorem dX3_flawOn_26 : decode cX3_flawOn 26 = .ok (.goto 4, 3) := by decide +kernel
theorem dX3_flawOn_29 : decode cX3_flawOn 29 = .ok (.iconst 1, 1) := by decide +kernel
theorem dX3_flawOn_30 : decode cX3_flawOn 30 = .ok (.ireturn, 1) := by decide +kernel
theorem dX3_flawOn_31 : decode cX3_flawOn 31 = .ok (.iload 4, 2) := by decide +kernel
theorem dX3_flawOn_33 : decode cX3_flawOn 33 = .ok (.ifCond .ne 13, 3) := by decide +kernel
theorem dX3_flawOn_36 : decode cX3_flawOn 36 = .ok (.aload 5, 2) := by decide +kernel
theorem dX3_flawOn_38 : decode cX3_flawOn 38 = .ok (.getfield 52, 3) := by decide +kernel
theorem dX3_flawOn_41 : decode cX3_flawOn 41 = .ok (.ifCond .le 5, 3) := by decide +kernel
theorem dX3_flawOn_44 : decode cX3_flawOn 44 = .ok (.iconst 2, 1) := by decide +kernel
theorem dX3_flawOn_45 : decode cX3_flawOn 45 = .ok (.ireturn, 1) := by decide +kernel
theorem dX3_flawOn_46 : decode cX3_flawOn 46 = .ok (.aload 5, 2) := by decide +kernel
theorem dX3_flawOn_48 : decode cX3_flawOn 48 = .ok (.iconst 0, 1) := by decide +kernel
theorem dX3_flawOn_49 : decode cX3_flawOn 49 = .ok (.invokevirtual 55, 3) := by decide +kernel
theorem dX3_flawOn_52 : decode cX3_flawOn 52 = .ok (.istore 6, 2) := by decide +kernel
theorem dX3_flawOn_54 : decode cX3_flawOn 54 = .ok (.iload 6, 2) := by decide +kernel
theorem dX3_flawOn_56 : decode cX3_flawOn 56 = .ok (.aload_n 2, 1) := by decide +kernel
theorem dX3_flawOn_57 : decode cX3_flawOn 57 = .ok (.iload 4, 2) := by decide +kernel
theorem dX3_flawOn_59 : decode cX3_flawOn 59 = .ok (.invokestatic 36, 3) := by decide +kernel
theorem dX3_flawOn_62 : decode cX3_flawOn 62 = .ok (.if_icmp .ge 5, 3) := by decide +kernel
theorem dX3_flawOn_65 : decode cX3_flawOn 65 = .ok (.iconst 3, 1) := by decide +kernel
theorem dX3_flawOn_66 : decode cX3_flawOn 66 = .ok (.ireturn, 1) := by decide +kernel
theorem dX3_flawOn_67 : decode cX3_flawOn 67 = .ok (.aload_n 0, 1) := by decide +kernel
theorem dX3_flawOn_68 : decode cX3_flawOn 68 = .ok (.aload_n 0, 1) := by decide +kernel
theorem dX3_flawOn_69 : decode cX3_flawOn 69 = .ok (.iload_n 1, 1) := by decide +kernel
theorem dX3_flawOn_70 : decode cX3_flawOn 70 = .ok (.invokevirtual 58, 3) := by decide +kernel
theorem dX3_flawOn_73 : decode cX3_flawOn 73 = .ok (.invokevirtual 48, 3) := by decide +kernel
theorem dX3_flawOn_76 : decode cX3_flawOn 76 = .ok (.astore 7, 2) := by decide +kernel
theorem dX3_flawOn_78 : decode cX3_flawOn 78 = .ok (.aload 7, 2) := by decide +kernel
theorem dX3_flawOn_80 : decode cX3_flawOn 80 = .ok (.ifnull 23, 3) := by decide +kernel
theorem dX3_flawOn_83 : decode cX3_flawOn 83 = .ok (.iload 6, 2) := by decide +kernel
theorem dX3_flawOn_85 : decode cX3_flawOn 85 = .ok (.aload 7, 2) := by decide +kernel
theorem dX3_flawOn_87 : decode cX3_flawOn 87 = .ok (.iconst 0, 1) := by decide +kernel
theorem dX3_flawOn_88 : decode cX3_flawOn 88 = .ok (.invokevirtual 55, 3) := by decide +kernel
theorem dX3_flawOn_91 : decode cX3_flawOn 91 = .ok (.isub, 1) := by decide +kernel
theorem dX3_flawOn_92 : decode cX3_flawOn 92 = .ok (.invokestatic 61, 3) := by decide +kernel
theorem dX3_flawOn_95 : decode cX3_flawOn 95 = .ok (.iload_n 3, 1) := by decide +kernel
theorem dX3_flawOn_96 : decode cX3_flawOn 96 = .ok (.if_icmp .le 7, 3) := by decide +kernel
theorem dX3_flawOn_99 : decode cX3_flawOn 99 = .ok (.iconst 4, 1) := by decide +kernel
theorem dX3_flawOn_100 : decode cX3_flawOn 100 = .ok (.goto 4, 3) := by decide +kernel
theorem dX3_flawOn_103 : decode cX3_flawOn 103 = .ok (.iconst 0, 1) := by decide +kernel
theorem dX3_flawOn_104 : decode cX3_flawOn 104 = .ok (.ireturn, 1) := by decide +kernel
theorem dX3_reach_0 : decode cX3_reach 0 = .ok (.ldc 66, 2) := by decide +kernel
theorem dX3_reach_2 : decode cX3_reach 2 = .ok (.istore_n 2, 1) := by decide +kernel
theorem dX3_reach_3 : decode cX3_reach 3 = .ok (.iconst 0, 1) := by decide +kernel
theorem dX3_reach_4 : decode cX3_reach 4 = .ok (.istore_n 3, 1) := by decide +kernel
theorem dX3_reach_5 : decode cX3_reach 5 = .ok (.iload_n 3, 1) := by decide +kernel
theorem dX3_reach_6 : decode cX3_reach 6 = .ok (.aload_n 0, 1) := by decide +kernel
theorem dX3_reach_7 : decode cX3_reach 7 = .ok (.getfield 25, 3) := by decide +kernel
theorem dX3_reach_10 : decode cX3_reach 10 = .ok (.if_icmp .ge 49, 3) := by decide +kernel
theorem dX3_reach_13 : decode cX3_reach 13 = .ok (.aload_n 0, 1) := by decide +kernel
theorem dX3_reach_14 : decode cX3_reach 14 = .ok (.iload_n 3, 1) := by decide +kernel
theorem dX3_reach_15 : decode cX3_reach 15 = .ok (.invokevirtual 48, 3) := by decide +kernel
theorem dX3_reach_18 : decode cX3_reach 18 = .ok (.astore 4, 2) := by decide +kernel
theorem dX3_reach_20 : decode cX3_reach 20 = .ok (.aload 4, 2) := by decide +kernel
theorem dX3_reach_22 : decode cX3_reach 22 = .ok (.ifnull 31, 3) := by decide +kernel
theorem dX3_reach_25 : decode cX3_reach 25 = .ok (.aload_n 0, 1) := by decide +kernel
theorem dX3_reach_26 : decode cX3_reach 26 = .ok (.iload_n 3, 1) := by decide +kernel
theorem dX3_reach_27 : decode cX3_reach 27 = .ok (.invokevirtual 40, 3) := by decide +kernel
theorem dX3_reach_30 : decode cX3_reach 30 = .ok (.iconst 4, 1) := by decide +kernel
theorem dX3_reach_31 : decode cX3_reach 31 = .ok (.if_icmp .eq 22, 3) := by decide +kernel
theorem dX3_reach_34 : decode cX3_reach 34 = .ok (.iload_n 2, 1) := by decide +kernel
theorem dX3_reach_35 : decode cX3_reach 35 = .ok (.aload 4, 2) := by decide +kernel
theorem dX3_reach_37 : decode cX3_reach 37 = .ok (.aload_n 1, 1) := by decide +kernel
theorem dX3_reach_38 : decode cX3_reach 38 = .ok (.aload_n 0, 1) := by decide +kernel
theorem dX3_reach_39 : decode cX3_reach 39 = .ok (.iload_n 3, 1) := by decide +kernel
theorem dX3_reach_40 : decode cX3_reach 40 = .ok (.invokevirtual 40, 3) := by decide +kernel
theorem dX3_reach_43 : decode cX3_reach 43 = .ok (.invokestatic 36, 3) := by decide +kernel
theorem dX3_reach_46 : decode cX3_reach 46 = .ok (.invokevirtual 67, 3) := by decide +kernel
theorem dX3_reach_49 : decode cX3_reach 49 = .ok (.invokestatic 70, 3) := by decide +kernel
theorem dX3_reach_52 : decode cX3_reach 52 = .ok (.istore_n 2, 1) := by decide +kernel
theorem dX3_reach_53 : decode cX3_reach 53 = .ok (.iinc 3 1, 3) := by decide +kernel
theorem dX3_reach_56 : decode cX3_reach 56 = .ok (.goto (-51), 3) := by decide +kernel
theorem dX3_reach_59 : decode cX3_reach 59 = .ok (.iload_n 2, 1) := by decide +kernel
theorem dX3_reach_60 : decode cX3_reach 60 = .ok (.ireturn, 1) := by decide +kernel
theorem dX3_rollingOn_0 : decode cX3_rollingOn 0 = .ok (.aload_n 0, 1) := by decide +kernel
theorem dX3_rollingOn_1 : decode cX3_rollingOn 1 = .ok (.iload_n 1, 1) := by decide +kernel
theorem dX3_rollingOn_2 : decode cX3_rollingOn 2 = .ok (.invokevirtual 40, 3) := by decide +kernel
theorem dX3_rollingOn_5 : decode cX3_rollingOn 5 = .ok (.istore_n 3, 1) := by decide +kernel
theorem dX3_rollingOn_6 : decode cX3_rollingOn 6 = .ok (.iload_n 3, 1) := by decide +kernel
theorem dX3_rollingOn_7 : decode cX3_rollingOn 7 = .ok (.iconst 4, 1) := by decide +kernel
theorem dX3_rollingOn_8 : decode cX3_rollingOn 8 = .ok (.if_icmp .eq 12, 3) := by decide +kernel
theorem dX3_rollingOn_11 : decode cX3_rollingOn 11 = .ok (.iload_n 3, 1) := by decide +kernel
theorem dX3_rollingOn_12 : decode cX3_rollingOn 12 = .ok (.iconst 3, 1) := by decide +kernel
theorem dX3_rollingOn_13 : decode cX3_rollingOn 13 = .ok (.if_icmp .ne 11, 3) := by decide +kernel
theorem dX3_rollingOn_16 : decode cX3_rollingOn 16 = .ok (.iload_n 2, 1) := by decide +kernel
theorem dX3_rollingOn_17 : decode cX3_rollingOn 17 = .ok (.ifCond .ne 7, 3) := by decide +kernel
theorem dX3_rollingOn_20 : decode cX3_rollingOn 20 = .ok (.aconst_null, 1) := by decide +kernel
theorem dX3_rollingOn_21 : decode cX3_rollingOn 21 = .ok (.goto 8, 3) := by decide +kernel
theorem dX3_rollingOn_24 : decode cX3_rollingOn 24 = .ok (.aload_n 0, 1) := by decide +kernel
theorem dX3_rollingOn_25 : decode cX3_rollingOn 25 = .ok (.iload_n 1, 1) := by decide +kernel
theorem dX3_rollingOn_26 : decode cX3_rollingOn 26 = .ok (.invokevirtual 48, 3) := by decide +kernel
theorem dX3_rollingOn_29 : decode cX3_rollingOn 29 = .ok (.areturn, 1) := by decide +kernel
theorem dX3_mostLengths_0 : decode cX3_mostLengths 0 = .ok (.iconst 0, 1) := by decide +kernel
theorem dX3_mostLengths_1 : decode cX3_mostLengths 1 = .ok (.istore_n 2, 1) := by decide +kernel
theorem dX3_mostLengths_2 : decode cX3_mostLengths 2 = .ok (.iconst 0, 1) := by decide +kernel
theorem dX3_mostLengths_3 : decode cX3_mostLengths 3 = .ok (.istore_n 3, 1) := by decide +kernel
theorem dX3_mostLengths_4 : decode cX3_mostLengths 4 = .ok (.iload_n 3, 1) := by decide +kernel
theorem dX3_mostLengths_5 : decode cX3_mostLengths 5 = .ok (.aload_n 0, 1) := by decide +kernel
theorem dX3_mostLengths_6 : decode cX3_mostLengths 6 = .ok (.getfield 25, 3) := by decide +kernel
theorem dX3_mostLengths_9 : decode cX3_mostLengths 9 = .ok (.if_icmp .ge 32, 3) := by decide +kernel
theorem dX3_mostLengths_12 : decode cX3_mostLengths 12 = .ok (.aload_n 0, 1) := by decide +kernel
theorem dX3_mostLengths_13 : decode cX3_mostLengths 13 = .ok (.iload_n 3, 1) := by decide +kernel
theorem dX3_mostLengths_14 : decode cX3_mostLengths 14 = .ok (.iload_n 1, 1) := by decide +kernel
theorem dX3_mostLengths_15 : decode cX3_mostLengths 15 = .ok (.invokevirtual 74, 3) := by decide +kernel
theorem dX3_mostLengths_18 : decode cX3_mostLengths 18 = .ok (.astore 4, 2) := by decide +kernel
theorem dX3_mostLengths_20 : decode cX3_mostLengths 20 = .ok (.aload 4, 2) := by decide +kernel
theorem dX3_mostLengths_22 : decode cX3_mostLengths 22 = .ok (.ifnull 13, 3) := by decide +kernel
theorem dX3_mostLengths_25 : decode cX3_mostLengths 25 = .ok (.iload_n 2, 1) := by decide +kernel
theorem dX3_mostLengths_26 : decode cX3_mostLengths 26 = .ok (.aload 4, 2) := by decide +kernel
theorem dX3_mostLengths_28 : decode cX3_mostLengths 28 = .ok (.getfield 78, 3) := by decide +kernel
theorem dX3_mostLengths_31 : decode cX3_mostLengths 31 = .ok (.invokestatic 81, 3) := by decide +kernel
theorem dX3_mostLengths_34 : decode cX3_mostLengths 34 = .ok (.istore_n 2, 1) := by decide +kernel
theorem dX3_mostLengths_35 : decode cX3_mostLengths 35 = .ok (.iinc 3 1, 3) := by decide +kernel
theorem dX3_mostLengths_38 : decode cX3_mostLengths 38 = .ok (.goto (-34), 3) := by decide +kernel
theorem dX3_mostLengths_41 : decode cX3_mostLengths 41 = .ok (.iload_n 2, 1) := by decide +kernel
theorem dX3_mostLengths_42 : decode cX3_mostLengths 42 = .ok (.ireturn, 1) := by decide +kernel
theorem dX3_roll_0 : decode cX3_roll 0 = .ok (.iconst 0, 1) := by decide +kernel
theorem dX3_roll_1 : decode cX3_roll 1 = .ok (.istore_n 3, 1) := by decide +kernel
theorem dX3_roll_2 : decode cX3_roll 2 = .ok (.iload_n 3, 1) := by decide +kernel
theorem dX3_roll_3 : decode cX3_roll 3 = .ok (.aload_n 0, 1) := by decide +kernel
theorem dX3_roll_4 : decode cX3_roll 4 = .ok (.getfield 25, 3) := by decide +kernel
theorem dX3_roll_7 : decode cX3_roll 7 = .ok (.if_icmp .ge 33, 3) := by decide +kernel
theorem dX3_roll_10 : decode cX3_roll 10 = .ok (.aload_n 0, 1) := by decide +kernel
theorem dX3_roll_11 : decode cX3_roll 11 = .ok (.iload_n 3, 1) := by decide +kernel
theorem dX3_roll_12 : decode cX3_roll 12 = .ok (.iload_n 2, 1) := by decide +kernel
theorem dX3_roll_13 : decode cX3_roll 13 = .ok (.invokevirtual 74, 3) := by decide +kernel
theorem dX3_roll_16 : decode cX3_roll 16 = .ok (.astore 4, 2) := by decide +kernel
theorem dX3_roll_18 : decode cX3_roll 18 = .ok (.aload 4, 2) := by decide +kernel
theorem dX3_roll_20 : decode cX3_roll 20 = .ok (.ifnull 14, 3) := by decide +kernel
theorem dX3_roll_23 : decode cX3_roll 23 = .ok (.aload 4, 2) := by decide +kernel
theorem dX3_roll_25 : decode cX3_roll 25 = .ok (.dup, 1) := by decide +kernel
theorem dX3_roll_26 : decode cX3_roll 26 = .ok (.getfield 78, 3) := by decide +kernel
theorem dX3_roll_29 : decode cX3_roll 29 = .ok (.iload_n 1, 1) := by decide +kernel
theorem dX3_roll_30 : decode cX3_roll 30 = .ok (.iadd, 1) := by decide +kernel
theorem dX3_roll_31 : decode cX3_roll 31 = .ok (.putfield 78, 3) := by decide +kernel
theorem dX3_roll_34 : decode cX3_roll 34 = .ok (.iinc 3 1, 3) := by decide +kernel
theorem dX3_roll_37 : decode cX3_roll 37 = .ok (.goto (-35), 3) := by decide +kernel
theorem dX3_roll_40 : decode cX3_roll 40 = .ok (.return_, 1) := by decide +kernel
end
section
theorem dX4_init_0 : decode cX4_init 0 = .ok (.aload_n 0, 1) := by decide +kernel
theorem dX4_init_1 : decode cX4_init 1 = .ok (.invokespecial 3, 3) := by decide +kernel
theorem dX4_init_4 : decode cX4_init 4 = .ok (.aload_n 0, 1) := by decide +kernel
theorem dX4_init_5 : decode cX4_init 5 = .ok (.lconst 0, 1) := by decide +kernel
theorem dX4_init_6 : decode cX4_init 6 = .ok (.putfield 9, 3) := by decide +kernel
theorem dX4_init_9 : decode cX4_init 9 = .ok (.aload_n 0, 1) := by decide +kernel
theorem dX4_init_10 : decode cX4_init 10 = .ok (.lconst 1, 1) := by decide +kernel
theorem dX4_init_11 : decode cX4_init 11 = .ok (.putfield 15, 3) := by decide +kernel
theorem dX4_init_14 : decode cX4_init 14 = .ok (.return_, 1) := by decide +kernel
theorem dX4_become_0 : decode cX4_become 0 = .ok (.lload_n 1, 1) := by decide +kernel
theorem dX4_become_1 : decode cX4_become 1 = .ok (.lload_n 3, 1) := by decide +kernel
theorem dX4_become_2 : decode cX4_become 2 = .ok (.invokestatic 18, 3) := by decide +kernel
theorem dX4_become_5 : decode cX4_become 5 = .ok (.lstore 5, 2) := by decide +kernel
theorem dX4_become_7 : decode cX4_become 7 = .ok (.lload_n 1, 1) := by decide +kernel
theorem dX4_become_8 : decode cX4_become 8 = .ok (.lconst 0, 1) := by decide +kernel
theorem dX4_become_9 : decode cX4_become 9 = .ok (.lcmp, 1) := by decide +kernel
theorem dX4_become_10 : decode cX4_become 10 = .ok (.ifCond .le 16, 3) := by decide +kernel
theorem dX4_become_13 : decode cX4_become 13 = .ok (.lload_n 3, 1) := by decide +kernel
theorem dX4_become_14 : decode cX4_become 14 = .ok (.lconst 0, 1) := by decide +kernel
theorem dX4_become_15 : decode cX4_become 15 = .ok (.lcmp, 1) := by decide +kernel
theorem dX4_become_16 : decode cX4_become 16 = .ok (.ifCond .le 10, 3) := by decide +kernel
theorem dX4_become_19 : decode cX4_become 19 = .ok (.lload 5, 2) := by decide +kernel
theorem dX4_become_21 : decode cX4_become 21 = .ok (.lconst 0, 1) := by decide +kernel
theorem dX4_become_22 : decode cX4_become 22 = .ok (.lcmp, 1) := by decide +kernel
theorem dX4_become_23 : decode cX4_become 23 = .ok (.ifCond .gt 14, 3) := by decide +kernel
theorem dX4_become_26 : decode cX4_become 26 = .ok (.aload_n 0, 1) := by decide +kernel
theorem dX4_become_27 : decode cX4_become 27 = .ok (.lconst 0, 1) := by decide +kernel
theorem dX4_become_28 : decode cX4_become 28 = .ok (.putfield 9, 3) := by decide +kernel
theorem dX4_become_31 : decode cX4_become 31 = .ok (.aload_n 0, 1) := by decide +kernel
theorem dX4_become_32 : decode cX4_become 32 = .ok (.lconst 1, 1) := by decide +kernel
theorem dX4_become_33 : decode cX4_become 33 = .ok (.putfield 15, 3) := by decide +kernel
theorem dX4_become_36 : decode cX4_become 36 = .ok (.return_, 1) := by decide +kernel
theorem dX4_become_37 : decode cX4_become 37 = .ok (.aload_n 0, 1) := by decide +kernel
theorem dX4_become_38 : decode cX4_become 38 = .ok (.lload_n 1, 1) := by decide +kernel
theorem dX4_become_39 : decode cX4_become 39 = .ok (.lload 5, 2) := by decide +kernel
theorem dX4_become_41 : decode cX4_become 41 = .ok (.ldiv, 1) := by decide +kernel
theorem dX4_become_42 : decode cX4_become 42 = .ok (.putfield 9, 3) := by decide +kernel
theorem dX4_become_45 : decode cX4_become 45 = .ok (.aload_n 0, 1) := by decide +kernel
theorem dX4_become_46 : decode cX4_become 46 = .ok (.lload_n 3, 1) := by decide +kernel
theorem dX4_become_47 : decode cX4_become 47 = .ok (.lload 5, 2) := by decide +kernel
theorem dX4_become_49 : decode cX4_become 49 = .ok (.ldiv, 1) := by decide +kernel
theorem dX4_become_50 : decode cX4_become 50 = .ok (.putfield 15, 3) := by decide +kernel
theorem dX4_become_53 : decode cX4_become 53 = .ok (.return_, 1) := by decide +kernel
theorem dX4_commonFactor_0 : decode cX4_commonFactor 0 = .ok (.lload_n 0, 1) := by decide +kernel
theorem dX4_commonFactor_1 : decode cX4_commonFactor 1 = .ok (.lstore 4, 2) := by decide +kernel
theorem dX4_commonFactor_3 : decode cX4_commonFactor 3 = .ok (.lload_n 2, 1) := by decide +kernel
theorem dX4_commonFactor_4 : decode cX4_commonFactor 4 = .ok (.lstore 6, 2) := by decide +kernel
theorem dX4_commonFactor_6 : decode cX4_commonFactor 6 = .ok (.iconst 0, 1) := by decide +kernel
theorem dX4_commonFactor_7 : decode cX4_commonFactor 7 = .ok (.istore 8, 2) := by decide +kernel
theorem dX4_commonFactor_9 : decode cX4_commonFactor 9 = .ok (.iload 8, 2) := by decide +kernel
theorem dX4_commonFactor_11 : decode cX4_commonFactor 11 = .ok (.bipush 100, 2) := by decide +kernel
theorem dX4_commonFactor_13 : decode cX4_commonFactor 13 = .ok (.if_icmp .ge 31, 3) := by decide +kernel
theorem dX4_commonFactor_16 : decode cX4_commonFactor 16 = .ok (.lload 6, 2) := by decide +kernel
theorem dX4_commonFactor_18 : decode cX4_commonFactor 18 = .ok (.lconst 0, 1) := by decide +kernel
theorem dX4_commonFactor_19 : decode cX4_commonFactor 19 = .ok (.lcmp, 1) := by decide +kernel
theorem dX4_commonFactor_20 : decode cX4_commonFactor 20 = .ok (.ifCond .eq 24, 3) := by decide +kernel
theorem dX4_commonFactor_23 : decode cX4_commonFactor 23 = .ok (.lload 4, 2) := by decide +kernel
theorem dX4_commonFactor_25 : decode cX4_commonFactor 25 = .ok (.lload 6, 2) := by decide +kernel
theorem dX4_commonFactor_27 : decode cX4_commonFactor 27 = .ok (.lrem, 1) := by decide +kernel
theorem dX4_commonFactor_28 : decode cX4_commonFactor 28 = .ok (.lstore 9, 2) := by decide +kernel
theorem dX4_commonFactor_30 : decode cX4_commonFactor 30 = .ok (.lload 6, 2) := by decide +kernel
theorem dX4_commonFactor_32 : decode cX4_commonFactor 32 = .ok (.lstore 4, 2) := by decide +kernel
theorem dX4_commonFactor_34 : decode cX4_commonFactor 34 = .ok (.lload 9, 2) := by decide +kernel
theorem dX4_commonFactor_36 : decode cX4_commonFactor 36 = .ok (.lstore 6, 2) := by decide +kernel
theorem dX4_commonFactor_38 : decode cX4_commonFactor 38 = .ok (.iinc 8 1, 3) := by decide +kernel
theorem dX4_commonFactor_41 : decode cX4_commonFactor 41 = .ok (.goto (-32), 3) := by decide +kernel
theorem dX4_commonFactor_44 : decode cX4_commonFactor 44 = .ok (.lload 4, 2) := by decide +kernel
theorem dX4_commonFactor_46 : decode cX4_commonFactor 46 = .ok (.lreturn, 1) := by decide +kernel
theorem dX4_depthFrom_0 : decode cX4_depthFrom 0 = .ok (.iload_n 1, 1) := by decide +kernel
theorem dX4_depthFrom_1 : decode cX4_depthFrom 1 = .ok (.i2l, 1) := by decide +kernel
theorem dX4_depthFrom_2 : decode cX4_depthFrom 2 = .ok (.aload_n 0, 1) := by decide +kernel
theorem dX4_depthFrom_3 : decode cX4_depthFrom 3 = .ok (.getfield 15, 3) := by decide +kernel
theorem dX4_depthFrom_6 : decode cX4_depthFrom 6 = .ok (.lmul, 1) := by decide +kernel
theorem dX4_depthFrom_7 : decode cX4_depthFrom 7 = .ok (.aload_n 0, 1) := by decide +kernel
theorem dX4_depthFrom_8 : decode cX4_depthFrom 8 = .ok (.getfield 9, 3) := by decide +kernel
theorem dX4_depthFrom_11 : decode cX4_depthFrom 11 = .ok (.iload_n 2, 1) := by decide +kernel
theorem dX4_depthFrom_12 : decode cX4_depthFrom 12 = .ok (.i2l, 1) := by decide +kernel
theorem dX4_depthFrom_13 : decode cX4_depthFrom 13 = .ok (.lmul, 1) := by decide +kernel
theorem dX4_depthFrom_14 : decode cX4_depthFrom 14 = .ok (.lsub, 1) := by decide +kernel
theorem dX4_depthFrom_15 : decode cX4_depthFrom 15 = .ok (.lstore_n 3, 1) := by decide +kernel
theorem dX4_depthFrom_16 : decode cX4_depthFrom 16 = .ok (.lload_n 3, 1) := by decide +kernel
theorem dX4_depthFrom_17 : decode cX4_depthFrom 17 = .ok (.lconst 0, 1) := by decide +kernel
theorem dX4_depthFrom_18 : decode cX4_depthFrom 18 = .ok (.lcmp, 1) := by decide +kernel
theorem dX4_depthFrom_19 : decode cX4_depthFrom 19 = .ok (.ifCond .le 12, 3) := by decide +kernel
theorem dX4_depthFrom_22 : decode cX4_depthFrom 22 = .ok (.aload_n 0, 1) := by decide +kernel
theorem dX4_depthFrom_23 : decode cX4_depthFrom 23 = .ok (.getfield 15, 3) := by decide +kernel
theorem dX4_depthFrom_26 : decode cX4_depthFrom 26 = .ok (.lconst 0, 1) := by decide +kernel
theorem dX4_depthFrom_27 : decode cX4_depthFrom 27 = .ok (.lcmp, 1) := by decide +kernel
theorem dX4_depthFrom_28 : decode cX4_depthFrom 28 = .ok (.ifCond .gt 7, 3) := by decide +kernel
theorem dX4_depthFrom_31 : decode cX4_depthFrom 31 = .ok (.iconst 0, 1) := by decide +kernel
theorem dX4_depthFrom_32 : decode cX4_depthFrom 32 = .ok (.goto 10, 3) := by decide +kernel
theorem dX4_depthFrom_35 : decode cX4_depthFrom 35 = .ok (.lload_n 3, 1) := by decide +kernel
theorem dX4_depthFrom_36 : decode cX4_depthFrom 36 = .ok (.aload_n 0, 1) := by decide +kernel
theorem dX4_depthFrom_37 : decode cX4_depthFrom 37 = .ok (.getfield 15, 3) := by decide +kernel
theorem dX4_depthFrom_40 : decode cX4_depthFrom 40 = .ok (.ldiv, 1) := by decide +kernel
theorem dX4_depthFrom_41 : decode cX4_depthFrom 41 = .ok (.l2i, 1) := by decide +kernel
theorem dX4_depthFrom_42 : decode cX4_depthFrom 42 = .ok (.ireturn, 1) := by decide +kernel
theorem dX4_endFrom_0 : decode cX4_endFrom 0 = .ok (.iload_n 3, 1) := by decide +kernel
theorem dX4_endFrom_1 : decode cX4_endFrom 1 = .ok (.ifCond .gt 6, 3) := by decide +kernel
theorem dX4_endFrom_4 : decode cX4_endFrom 4 = .ok (.ldc 22, 2) := by decide +kernel
theorem dX4_endFrom_6 : decode cX4_endFrom 6 = .ok (.ireturn, 1) := by decide +kernel
theorem dX4_endFrom_7 : decode cX4_endFrom 7 = .ok (.iload_n 1, 1) := by decide +kernel
theorem dX4_endFrom_8 : decode cX4_endFrom 8 = .ok (.iload_n 3, 1) := by decide +kernel
theorem dX4_endFrom_9 : decode cX4_endFrom 9 = .ok (.if_icmp .ge 5, 3) := by decide +kernel
theorem dX4_endFrom_12 : decode cX4_endFrom 12 = .ok (.iconst 0, 1) := by decide +kernel
theorem dX4_endFrom_13 : decode cX4_endFrom 13 = .ok (.ireturn, 1) := by decide +kernel
theorem dX4_endFrom_14 : decode cX4_endFrom 14 = .ok (.aload_n 0, 1) := by decide +kernel
theorem dX4_endFrom_15 : decode cX4_endFrom 15 = .ok (.getfield 9, 3) := by decide +kernel
theorem dX4_endFrom_18 : decode cX4_endFrom 18 = .ok (.lconst 0, 1) := by decide +kernel
theorem dX4_endFrom_19 : decode cX4_endFrom 19 = .ok (.lcmp, 1) := by decide +kernel
theorem dX4_endFrom_20 : decode cX4_endFrom 20 = .ok (.ifCond .gt 6, 3) := by decide +kernel
theorem dX4_endFrom_23 : decode cX4_endFrom 23 = .ok (.ldc 22, 2) := by decide +kernel
theorem dX4_endFrom_25 : decode cX4_endFrom 25 = .ok (.ireturn, 1) := by decide +kernel
theorem dX4_endFrom_26 : decode cX4_endFrom 26 = .ok (.iload_n 1, 1) := by decide +kernel
theorem dX4_endFrom_27 : decode cX4_endFrom 27 = .ok (.iload_n 3, 1) := by decide +kernel
theorem dX4_endFrom_28 : decode cX4_endFrom 28 = .ok (.isub, 1) := by decide +kernel
theorem dX4_endFrom_29 : decode cX4_endFrom 29 = .ok (.i2l, 1) := by decide +kernel
theorem dX4_endFrom_30 : decode cX4_endFrom 30 = .ok (.aload_n 0, 1) := by decide +kernel
theorem dX4_endFrom_31 : decode cX4_endFrom 31 = .ok (.getfield 15, 3) := by decide +kernel
theorem dX4_endFrom_34 : decode cX4_endFrom 34 = .ok (.lmul, 1) := by decide +kernel
theorem dX4_endFrom_35 : decode cX4_endFrom 35 = .ok (.aload_n 0, 1) := by decide +kernel
theorem dX4_endFrom_36 : decode cX4_endFrom 36 = .ok (.getfield 9, 3) := by decide +kernel
theorem dX4_endFrom_39 : decode cX4_endFrom 39 = .ok (.ldiv, 1) := by decide +kernel
theorem dX4_endFrom_40 : decode cX4_endFrom 40 = .ok (.lstore 4, 2) := by decide +kernel
theorem dX4_endFrom_42 : decode cX4_endFrom 42 = .ok (.lconst 0, 1) := by decide +kernel
theorem dX4_endFrom_43 : decode cX4_endFrom 43 = .ok (.ldc2_w 23, 3) := by decide +kernel
theorem dX4_endFrom_46 : decode cX4_endFrom 46 = .ok (.lload 4, 2) := by decide +kernel
theorem dX4_endFrom_48 : decode cX4_endFrom 48 = .ok (.iload_n 2, 1) := by decide +kernel
theorem dX4_endFrom_49 : decode cX4_endFrom 49 = .ok (.i2l, 1) := by decide +kernel
theorem dX4_endFrom_50 : decode cX4_endFrom 50 = .ok (.lsub, 1) := by decide +kernel
theorem dX4_endFrom_51 : decode cX4_endFrom 51 = .ok (.invokestatic 25, 3) := by decide +kernel
theorem dX4_endFrom_54 : decode cX4_endFrom 54 = .ok (.invokestatic 30, 3) := by decide +kernel
theorem dX4_endFrom_57 : decode cX4_endFrom 57 = .ok (.l2i, 1) := by decide +kernel
theorem dX4_endFrom_58 : decode cX4_endFrom 58 = .ok (.ireturn, 1) := by decide +kernel
end
section
theorem dX5_init_0 : decode cX5_init 0 = .ok (.aload_n 0, 1) := by decide +kernel
theorem dX5_init_1 : decode cX5_init 1 = .ok (.invokespecial 1, 3) := by decide +kernel
theorem dX5_init_4 : decode cX5_init 4 = .ok (.aload_n 0, 1) := by decide +kernel
theorem dX5_init_5 : decode cX5_init 5 = .ok (.iconst 5, 1) := by decide +kernel
theorem dX5_init_6 : decode cX5_init 6 = .ok (.anewarray 9, 3) := by decide +kernel
theorem dX5_init_9 : decode cX5_init 9 = .ok (.putfield 11, 3) := by decide +kernel
theorem dX5_init_12 : decode cX5_init 12 = .ok (.aload_n 0, 1) := by decide +kernel
theorem dX5_init_13 : decode cX5_init 13 = .ok (.bipush 40, 2) := by decide +kernel
theorem dX5_init_15 : decode cX5_init 15 = .ok (.anewarray 15, 3) := by decide +kernel
theorem dX5_init_18 : decode cX5_init 18 = .ok (.putfield 17, 3) := by decide +kernel
theorem dX5_init_21 : decode cX5_init 21 = .ok (.aload_n 0, 1) := by decide +kernel
theorem dX5_init_22 : decode cX5_init 22 = .ok (.getstatic 21, 3) := by decide +kernel
theorem dX5_init_25 : decode cX5_init 25 = .ok (.invokevirtual 25, 3) := by decide +kernel
theorem dX5_init_28 : decode cX5_init 28 = .ok (.checkcast 26, 3) := by decide +kernel
theorem dX5_init_31 : decode cX5_init 31 = .ok (.putfield 30, 3) := by decide +kernel
theorem dX5_init_34 : decode cX5_init 34 = .ok (.aload_n 0, 1) := by decide +kernel
theorem dX5_init_35 : decode cX5_init 35 = .ok (.getstatic 33, 3) := by decide +kernel
theorem dX5_init_38 : decode cX5_init 38 = .ok (.invokevirtual 25, 3) := by decide +kernel
theorem dX5_init_41 : decode cX5_init 41 = .ok (.checkcast 26, 3) := by decide +kernel
theorem dX5_init_44 : decode cX5_init 44 = .ok (.putfield 36, 3) := by decide +kernel
theorem dX5_init_47 : decode cX5_init 47 = .ok (.aload_n 0, 1) := by decide +kernel
theorem dX5_init_48 : decode cX5_init 48 = .ok (.bipush 7, 2) := by decide +kernel
theorem dX5_init_50 : decode cX5_init 50 = .ok (.newarray .int, 2) := by decide +kernel
theorem dX5_init_52 : decode cX5_init 52 = .ok (.putfield 39, 3) := by decide +kernel
theorem dX5_init_55 : decode cX5_init 55 = .ok (.aload_n 0, 1) := by decide +kernel
theorem dX5_init_56 : decode cX5_init 56 = .ok (.new 42, 3) := by decide +kernel
theorem dX5_init_59 : decode cX5_init 59 = .ok (.dup, 1) := by decide +kernel
theorem dX5_init_60 : decode cX5_init 60 = .ok (.invokespecial 44, 3) := by decide +kernel
theorem dX5_init_63 : decode cX5_init 63 = .ok (.putfield 45, 3) := by decide +kernel
theorem dX5_init_66 : decode cX5_init 66 = .ok (.aload_n 0, 1) := by decide +kernel
theorem dX5_init_67 : decode cX5_init 67 = .ok (.new 49, 3) := by decide +kernel
theorem dX5_init_70 : decode cX5_init 70 = .ok (.dup, 1) := by decide +kernel
theorem dX5_init_71 : decode cX5_init 71 = .ok (.invokespecial 51, 3) := by decide +kernel
theorem dX5_init_74 : decode cX5_init 74 = .ok (.putfield 52, 3) := by decide +kernel
theorem dX5_init_77 : decode cX5_init 77 = .ok (.aload_n 0, 1) := by decide +kernel
theorem dX5_init_78 : decode cX5_init 78 = .ok (.new 56, 3) := by decide +kernel
theorem dX5_init_81 : decode cX5_init 81 = .ok (.dup, 1) := by decide +kernel
theorem dX5_init_82 : decode cX5_init 82 = .ok (.invokespecial 58, 3) := by decide +kernel
theorem dX5_init_85 : decode cX5_init 85 = .ok (.putfield 59, 3) := by decide +kernel
theorem dX5_init_88 : decode cX5_init 88 = .ok (.aload_n 0, 1) := by decide +kernel
theorem dX5_init_89 : decode cX5_init 89 = .ok (.bipush 20, 2) := by decide +kernel
theorem dX5_init_91 : decode cX5_init 91 = .ok (.putfield 63, 3) := by decide +kernel
theorem dX5_init_94 : decode cX5_init 94 = .ok (.return_, 1) := by decide +kernel
theorem dX5_wagon_0 : decode cX5_wagon 0 = .ok (.aload_n 0, 1) := by decide +kernel
theorem dX5_wagon_1 : decode cX5_wagon 1 = .ok (.getfield 67, 3) := by decide +kernel
theorem dX5_wagon_4 : decode cX5_wagon 4 = .ok (.ifCond .lt 15, 3) := by decide +kernel
theorem dX5_wagon_7 : decode cX5_wagon 7 = .ok (.aload_n 0, 1) := by decide +kernel
theorem dX5_wagon_8 : decode cX5_wagon 8 = .ok (.getfield 67, 3) := by decide +kernel
theorem dX5_wagon_11 : decode cX5_wagon 11 = .ok (.aload_n 0, 1) := by decide +kernel
theorem dX5_wagon_12 : decode cX5_wagon 12 = .ok (.getfield 11, 3) := by decide +kernel
theorem dX5_wagon_15 : decode cX5_wagon 15 = .ok (.arraylength, 1) := by decide +kernel
theorem dX5_wagon_16 : decode cX5_wagon 16 = .ok (.if_icmp .lt 10, 3) := by decide +kernel
theorem dX5_wagon_19 : decode cX5_wagon 19 = .ok (.aload_n 0, 1) := by decide +kernel
theorem dX5_wagon_20 : decode cX5_wagon 20 = .ok (.bipush (-6), 2) := by decide +kernel
theorem dX5_wagon_22 : decode cX5_wagon 22 = .ok (.invokevirtual 70, 3) := by decide +kernel
theorem dX5_wagon_25 : decode cX5_wagon 25 = .ok (.ireturn, 1) := by decide +kernel
theorem dX5_wagon_26 : decode cX5_wagon 26 = .ok (.aload_n 0, 1) := by decide +kernel
theorem dX5_wagon_27 : decode cX5_wagon 27 = .ok (.getfield 67, 3) := by decide +kernel
theorem dX5_wagon_30 : decode cX5_wagon 30 = .ok (.istore_n 1, 1) := by decide +kernel
theorem dX5_wagon_31 : decode cX5_wagon 31 = .ok (.aload_n 0, 1) := by decide +kernel
theorem dX5_wagon_32 : decode cX5_wagon 32 = .ok (.getfield 11, 3) := by decide +kernel
theorem dX5_wagon_35 : decode cX5_wagon 35 = .ok (.iload_n 1, 1) := by decide +kernel
theorem dX5_wagon_36 : decode cX5_wagon 36 = .ok (.new 9, 3) := by decide +kernel
theorem dX5_wagon_39 : decode cX5_wagon 39 = .ok (.dup, 1) := by decide +kernel
theorem dX5_wagon_40 : decode cX5_wagon 40 = .ok (.iload_n 1, 1) := by decide +kernel
theorem dX5_wagon_41 : decode cX5_wagon 41 = .ok (.invokespecial 74, 3) := by decide +kernel
theorem dX5_wagon_44 : decode cX5_wagon 44 = .ok (.aastore, 1) := by decide +kernel
theorem dX5_wagon_45 : decode cX5_wagon 45 = .ok (.aload_n 0, 1) := by decide +kernel
theorem dX5_wagon_46 : decode cX5_wagon 46 = .ok (.iload_n 1, 1) := by decide +kernel
theorem dX5_wagon_47 : decode cX5_wagon 47 = .ok (.iconst 1, 1) := by decide +kernel
theorem dX5_wagon_48 : decode cX5_wagon 48 = .ok (.iadd, 1) := by decide +kernel
theorem dX5_wagon_49 : decode cX5_wagon 49 = .ok (.putfield 67, 3) := by decide +kernel
theorem dX5_wagon_52 : decode cX5_wagon 52 = .ok (.iload_n 1, 1) := by decide +kernel
theorem dX5_wagon_53 : decode cX5_wagon 53 = .ok (.ireturn, 1) := by decide +kernel
theorem dX5_place_0 : decode cX5_place 0 = .ok (.aload_n 0, 1) := by decide +kernel
theorem dX5_place_1 : decode cX5_place 1 = .ok (.iload_n 1, 1) := by decide +kernel
theorem dX5_place_2 : decode cX5_place 2 = .ok (.invokevirtual 77, 3) := by decide +kernel
theorem dX5_place_5 : decode cX5_place 5 = .ok (.astore_n 3, 1) := by decide +kernel
theorem dX5_place_6 : decode cX5_place 6 = .ok (.aload_n 3, 1) := by decide +kernel
theorem dX5_place_7 : decode cX5_place 7 = .ok (.ifnull 10, 3) := by decide +kernel
theorem dX5_place_10 : decode cX5_place 10 = .ok (.iload_n 2, 1) := by decide +kernel
theorem dX5_place_11 : decode cX5_place 11 = .ok (.invokestatic 81, 3) := by decide +kernel
theorem dX5_place_14 : decode cX5_place 14 = .ok (.ifCond .ne 9, 3) := by decide +kernel
theorem dX5_place_17 : decode cX5_place 17 = .ok (.aload_n 0, 1) := by decide +kernel
theorem dX5_place_18 : decode cX5_place 18 = .ok (.iconst (-1), 1) := by decide +kernel
theorem dX5_place_19 : decode cX5_place 19 = .ok (.invokevirtual 70, 3) := by decide +kernel
theorem dX5_place_22 : decode cX5_place 22 = .ok (.ireturn, 1) := by decide +kernel
theorem dX5_place_23 : decode cX5_place 23 = .ok (.aload_n 3, 1) := by decide +kernel
theorem dX5_place_24 : decode cX5_place 24 = .ok (.invokevirtual 85, 3) := by decide +kernel
theorem dX5_place_27 : decode cX5_place 27 = .ok (.ifCond .eq 10, 3) := by decide +kernel
theorem dX5_place_30 : decode cX5_place 30 = .ok (.aload_n 0, 1) := by decide +kernel
theorem dX5_place_31 : decode cX5_place 31 = .ok (.bipush (-6), 2) := by decide +kernel
theorem dX5_place_33 : decode cX5_place 33 = .ok (.invokevirtual 70, 3) := by decide +kernel
theorem dX5_place_36 : decode cX5_place 36 = .ok (.ireturn, 1) := by decide +kernel
theorem dX5_place_37 : decode cX5_place 37 = .ok (.aload_n 3, 1) := by decide +kernel
theorem dX5_place_38 : decode cX5_place 38 = .ok (.iload_n 2, 1) := by decide +kernel
theorem dX5_place_39 : decode cX5_place 39 = .ok (.invokevirtual 89, 3) := by decide +kernel
theorem dX5_place_42 : decode cX5_place 42 = .ok (.ireturn, 1) := by decide +kernel
theorem dX5_least_0 : decode cX5_least 0 = .ok (.iload_n 1, 1) := by decide +kernel
theorem dX5_least_1 : decode cX5_least 1 = .ok (.invokestatic 81, 3) := by decide +kernel
theorem dX5_least_4 : decode cX5_least 4 = .ok (.ifCond .ne 9, 3) := by decide +kernel
theorem dX5_least_7 : decode cX5_least 7 = .ok (.aload_n 0, 1) := by decide +kernel
theorem dX5_least_8 : decode cX5_least 8 = .ok (.iconst (-1), 1) := by decide +kernel
theorem dX5_least_9 : decode cX5_least 9 = .ok (.invokevirtual 70, 3) := by decide +kernel
theorem dX5_least_12 : decode cX5_least 12 = .ok (.ireturn, 1) := by decide +kernel
theorem dX5_least_13 : decode cX5_least 13 = .ok (.iload_n 2, 1) := by decide +kernel
theorem dX5_least_14 : decode cX5_least 14 = .ok (.iconst 0, 1) := by decide +kernel
theorem dX5_least_15 : decode cX5_least 15 = .ok (.bipush 100, 2) := by decide +kernel
theorem dX5_least_17 : decode cX5_least 17 = .ok (.invokestatic 92, 3) := by decide +kernel
theorem dX5_least_20 : decode cX5_least 20 = .ok (.istore_n 3, 1) := by decide +kernel
theorem dX5_least_21 : decode cX5_least 21 = .ok (.iload_n 3, 1) := by decide +kernel
theorem dX5_least_22 : decode cX5_least 22 = .ok (.ifCond .eq 9, 3) := by decide +kernel
theorem dX5_least_25 : decode cX5_least 25 = .ok (.aload_n 0, 1) := by decide +kernel
theorem dX5_least_26 : decode cX5_least 26 = .ok (.iload_n 3, 1) := by decide +kernel
theorem dX5_least_27 : decode cX5_least 27 = .ok (.invokevirtual 70, 3) := by decide +kernel
theorem dX5_least_30 : decode cX5_least 30 = .ok (.ireturn, 1) := by decide +kernel
theorem dX5_least_31 : decode cX5_least 31 = .ok (.aload_n 0, 1) := by decide +kernel
theorem dX5_least_32 : decode cX5_least 32 = .ok (.getfield 30, 3) := by decide +kernel
theorem dX5_least_35 : decode cX5_least 35 = .ok (.iload_n 1, 1) := by decide +kernel
theorem dX5_least_36 : decode cX5_least 36 = .ok (.invokestatic 96, 3) := by decide +kernel
theorem dX5_least_39 : decode cX5_least 39 = .ok (.istore 4, 2) := by decide +kernel
theorem dX5_least_41 : decode cX5_least 41 = .ok (.aload_n 0, 1) := by decide +kernel
theorem dX5_least_42 : decode cX5_least 42 = .ok (.getfield 30, 3) := by decide +kernel
theorem dX5_least_45 : decode cX5_least 45 = .ok (.iload_n 1, 1) := by decide +kernel
theorem dX5_least_46 : decode cX5_least 46 = .ok (.iload_n 2, 1) := by decide +kernel
theorem dX5_least_47 : decode cX5_least 47 = .ok (.invokestatic 100, 3) := by decide +kernel
theorem dX5_least_50 : decode cX5_least 50 = .ok (.iload 4, 2) := by decide +kernel
theorem dX5_least_52 : decode cX5_least 52 = .ok (.ireturn, 1) := by decide +kernel
theorem dX5_apart_0 : decode cX5_apart 0 = .ok (.iload_n 1, 1) := by decide +kernel
theorem dX5_apart_1 : decode cX5_apart 1 = .ok (.iconst 0, 1) := by decide +kernel
theorem dX5_apart_2 : decode cX5_apart 2 = .ok (.bipush 100, 2) := by decide +kernel
theorem dX5_apart_4 : decode cX5_apart 4 = .ok (.invokestatic 92, 3) := by decide +kernel
theorem dX5_apart_7 : decode cX5_apart 7 = .ok (.istore_n 2, 1) := by decide +kernel
theorem dX5_apart_8 : decode cX5_apart 8 = .ok (.iload_n 2, 1) := by decide +kernel
theorem dX5_apart_9 : decode cX5_apart 9 = .ok (.ifCond .eq 9, 3) := by decide +kernel
theorem dX5_apart_12 : decode cX5_apart 12 = .ok (.aload_n 0, 1) := by decide +kernel
theorem dX5_apart_13 : decode cX5_apart 13 = .ok (.iload_n 2, 1) := by decide +kernel
theorem dX5_apart_14 : decode cX5_apart 14 = .ok (.invokevirtual 70, 3) := by decide +kernel
theorem dX5_apart_17 : decode cX5_apart 17 = .ok (.ireturn, 1) := by decide +kernel
theorem dX5_apart_18 : decode cX5_apart 18 = .ok (.aload_n 0, 1) := by decide +kernel
theorem dX5_apart_19 : decode cX5_apart 19 = .ok (.getfield 63, 3) := by decide +kernel
theorem dX5_apart_22 : decode cX5_apart 22 = .ok (.istore_n 3, 1) := by decide +kernel
theorem dX5_apart_23 : decode cX5_apart 23 = .ok (.aload_n 0, 1) := by decide +kernel
theorem dX5_apart_24 : decode cX5_apart 24 = .ok (.iload_n 1, 1) := by decide +kernel
theorem dX5_apart_25 : decode cX5_apart 25 = .ok (.putfield 63, 3) := by decide +kernel
theorem dX5_apart_28 : decode cX5_apart 28 = .ok (.iload_n 3, 1) := by decide +kernel
theorem dX5_apart_29 : decode cX5_apart 29 = .ok (.ireturn, 1) := by decide +kernel
theorem dX5_maker_0 : decode cX5_maker 0 = .ok (.iload_n 1, 1) := by decide +kernel
theorem dX5_maker_1 : decode cX5_maker 1 = .ok (.invokestatic 104, 3) := by decide +kernel
theorem dX5_maker_4 : decode cX5_maker 4 = .ok (.ifCond .ne 9, 3) := by decide +kernel
theorem dX5_maker_7 : decode cX5_maker 7 = .ok (.aload_n 0, 1) := by decide +kernel
theorem dX5_maker_8 : decode cX5_maker 8 = .ok (.iconst (-1), 1) := by decide +kernel
theorem dX5_maker_9 : decode cX5_maker 9 = .ok (.invokevirtual 70, 3) := by decide +kernel
theorem dX5_maker_12 : decode cX5_maker 12 = .ok (.ireturn, 1) := by decide +kernel
theorem dX5_maker_13 : decode cX5_maker 13 = .ok (.iload_n 2, 1) := by decide +kernel
theorem dX5_maker_14 : decode cX5_maker 14 = .ok (.iconst 0, 1) := by decide +kernel
theorem dX5_maker_15 : decode cX5_maker 15 = .ok (.sipush 1000, 3) := by decide +kernel
theorem dX5_maker_18 : decode cX5_maker 18 = .ok (.invokestatic 92, 3) := by decide +kernel
theorem dX5_maker_21 : decode cX5_maker 21 = .ok (.istore_n 3, 1) := by decide +kernel
theorem dX5_maker_22 : decode cX5_maker 22 = .ok (.iload_n 3, 1) := by decide +kernel
theorem dX5_maker_23 : decode cX5_maker 23 = .ok (.ifCond .eq 9, 3) := by decide +kernel
theorem dX5_maker_26 : decode cX5_maker 26 = .ok (.aload_n 0, 1) := by decide +kernel
theorem dX5_maker_27 : decode cX5_maker 27 = .ok (.iload_n 3, 1) := by decide +kernel
theorem dX5_maker_28 : decode cX5_maker 28 = .ok (.invokevirtual 70, 3) := by decide +kernel
theorem dX5_maker_31 : decode cX5_maker 31 = .ok (.ireturn, 1) := by decide +kernel
theorem dX5_maker_32 : decode cX5_maker 32 = .ok (.aload_n 0, 1) := by decide +kernel
theorem dX5_maker_33 : decode cX5_maker 33 = .ok (.getfield 36, 3) := by decide +kernel
theorem dX5_maker_36 : decode cX5_maker 36 = .ok (.iload_n 1, 1) := by decide +kernel
theorem dX5_maker_37 : decode cX5_maker 37 = .ok (.invokestatic 96, 3) := by decide +kernel
theorem dX5_maker_40 : decode cX5_maker 40 = .ok (.istore 4, 2) := by decide +kernel
theorem dX5_maker_42 : decode cX5_maker 42 = .ok (.aload_n 0, 1) := by decide +kernel
theorem dX5_maker_43 : decode cX5_maker 43 = .ok (.getfield 36, 3) := by decide +kernel
theorem dX5_maker_46 : decode cX5_maker 46 = .ok (.iload_n 1, 1) := by decide +kernel
theorem dX5_maker_47 : decode cX5_maker 47 = .ok (.iload_n 2, 1) := by decide +kernel
theorem dX5_maker_48 : decode cX5_maker 48 = .ok (.invokestatic 100, 3) := by decide +kernel
theorem dX5_maker_51 : decode cX5_maker 51 = .ok (.aload_n 0, 1) := by decide +kernel
theorem dX5_maker_52 : decode cX5_maker 52 = .ok (.iload_n 1, 1) := by decide +kernel
theorem dX5_maker_53 : decode cX5_maker 53 = .ok (.invokevirtual 107, 3) := by decide +kernel
theorem dX5_maker_56 : decode cX5_maker 56 = .ok (.iload 4, 2) := by decide +kernel
theorem dX5_maker_58 : decode cX5_maker 58 = .ok (.ireturn, 1) := by decide +kernel
theorem dX5_buy_0 : decode cX5_buy 0 = .ok (.iload_n 1, 1) := by decide +kernel
theorem dX5_buy_1 : decode cX5_buy 1 = .ok (.invokestatic 104, 3) := by decide +kernel
theorem dX5_buy_4 : decode cX5_buy 4 = .ok (.ifCond .ne 9, 3) := by decide +kernel
theorem dX5_buy_7 : decode cX5_buy 7 = .ok (.aload_n 0, 1) := by decide +kernel
theorem dX5_buy_8 : decode cX5_buy 8 = .ok (.iconst (-1), 1) := by decide +kernel
theorem dX5_buy_9 : decode cX5_buy 9 = .ok (.invokevirtual 70, 3) := by decide +kernel
theorem dX5_buy_12 : decode cX5_buy 12 = .ok (.ireturn, 1) := by decide +kernel
theorem dX5_buy_13 : decode cX5_buy 13 = .ok (.aload_n 0, 1) := by decide +kernel
theorem dX5_buy_14 : decode cX5_buy 14 = .ok (.getfield 110, 3) := by decide +kernel
theorem dX5_buy_17 : decode cX5_buy 17 = .ok (.ifCond .lt 26, 3) := by decide +kernel
theorem dX5_buy_20 : decode cX5_buy 20 = .ok (.aload_n 0, 1) := by decide +kernel
theorem dX5_buy_21 : decode cX5_buy 21 = .ok (.getfield 110, 3) := by decide +kernel
theorem dX5_buy_24 : decode cX5_buy 24 = .ok (.aload_n 0, 1) := by decide +kernel
theorem dX5_buy_25 : decode cX5_buy 25 = .ok (.getfield 17, 3) := by decide +kernel
theorem dX5_buy_28 : decode cX5_buy 28 = .ok (.arraylength, 1) := by decide +kernel
theorem dX5_buy_29 : decode cX5_buy 29 = .ok (.if_icmp .ge 14, 3) := by decide +kernel
theorem dX5_buy_32 : decode cX5_buy 32 = .ok (.aload_n 0, 1) := by decide +kernel
theorem dX5_buy_33 : decode cX5_buy 33 = .ok (.getfield 45, 3) := by decide +kernel
theorem dX5_buy_36 : decode cX5_buy 36 = .ok (.iconst 1, 1) := by decide +kernel
theorem dX5_buy_37 : decode cX5_buy 37 = .ok (.invokevirtual 113, 3) := by decide +kernel
theorem dX5_buy_40 : decode cX5_buy 40 = .ok (.ifCond .ne 10, 3) := by decide +kernel
theorem dX5_buy_43 : decode cX5_buy 43 = .ok (.aload_n 0, 1) := by decide +kernel
theorem dX5_buy_44 : decode cX5_buy 44 = .ok (.bipush (-6), 2) := by decide +kernel
theorem dX5_buy_46 : decode cX5_buy 46 = .ok (.invokevirtual 70, 3) := by decide +kernel
theorem dX5_buy_49 : decode cX5_buy 49 = .ok (.ireturn, 1) := by decide +kernel
theorem dX5_buy_50 : decode cX5_buy 50 = .ok (.new 15, 3) := by decide +kernel
theorem dX5_buy_53 : decode cX5_buy 53 = .ok (.dup, 1) := by decide +kernel
theorem dX5_buy_54 : decode cX5_buy 54 = .ok (.aload_n 0, 1) := by decide +kernel
theorem dX5_buy_55 : decode cX5_buy 55 = .ok (.getfield 110, 3) := by decide +kernel
theorem dX5_buy_58 : decode cX5_buy 58 = .ok (.iload_n 1, 1) := by decide +kernel
theorem dX5_buy_59 : decode cX5_buy 59 = .ok (.aload_n 0, 1) := by decide +kernel
theorem dX5_buy_60 : decode cX5_buy 60 = .ok (.getfield 116, 3) := by decide +kernel
theorem dX5_buy_63 : decode cX5_buy 63 = .ok (.invokespecial 119, 3) := by decide +kernel
theorem dX5_buy_66 : decode cX5_buy 66 = .ok (.astore_n 2, 1) := by decide +kernel
theorem dX5_buy_67 : decode cX5_buy 67 = .ok (.aload_n 2, 1) := by decide +kernel
theorem dX5_buy_68 : decode cX5_buy 68 = .ok (.aload_n 0, 1) := by decide +kernel
theorem dX5_buy_69 : decode cX5_buy 69 = .ok (.getfield 36, 3) := by decide +kernel
theorem dX5_buy_72 : decode cX5_buy 72 = .ok (.iload_n 1, 1) := by decide +kernel
theorem dX5_buy_73 : decode cX5_buy 73 = .ok (.invokestatic 96, 3) := by decide +kernel
theorem dX5_buy_76 : decode cX5_buy 76 = .ok (.invokevirtual 122, 3) := by decide +kernel
theorem dX5_buy_79 : decode cX5_buy 79 = .ok (.aload_n 0, 1) := by decide +kernel
theorem dX5_buy_80 : decode cX5_buy 80 = .ok (.getfield 17, 3) := by decide +kernel
theorem dX5_buy_83 : decode cX5_buy 83 = .ok (.aload_n 2, 1) := by decide +kernel
theorem dX5_buy_84 : decode cX5_buy 84 = .ok (.getfield 125, 3) := by decide +kernel
theorem dX5_buy_87 : decode cX5_buy 87 = .ok (.aload_n 2, 1) := by decide +kernel
theorem dX5_buy_88 : decode cX5_buy 88 = .ok (.aastore, 1) := by decide +kernel
theorem dX5_buy_89 : decode cX5_buy 89 = .ok (.aload_n 0, 1) := by decide +kernel
theorem dX5_buy_90 : decode cX5_buy 90 = .ok (.aload_n 2, 1) := by decide +kernel
theorem dX5_buy_91 : decode cX5_buy 91 = .ok (.getfield 125, 3) := by decide +kernel
theorem dX5_buy_94 : decode cX5_buy 94 = .ok (.iconst 1, 1) := by decide +kernel
theorem dX5_buy_95 : decode cX5_buy 95 = .ok (.iadd, 1) := by decide +kernel
theorem dX5_buy_96 : decode cX5_buy 96 = .ok (.putfield 110, 3) := by decide +kernel
theorem dX5_buy_99 : decode cX5_buy 99 = .ok (.aload_n 0, 1) := by decide +kernel
theorem dX5_buy_100 : decode cX5_buy 100 = .ok (.aload_n 2, 1) := by decide +kernel
theorem dX5_buy_101 : decode cX5_buy 101 = .ok (.iconst (-1), 1) := by decide +kernel
theorem dX5_buy_102 : decode cX5_buy 102 = .ok (.invokevirtual 128, 3) := by decide +kernel
theorem dX5_buy_105 : decode cX5_buy 105 = .ok (.aload_n 2, 1) := by decide +kernel
theorem dX5_buy_106 : decode cX5_buy 106 = .ok (.getfield 125, 3) := by decide +kernel
theorem dX5_buy_109 : decode cX5_buy 109 = .ok (.ireturn, 1) := by decide +kernel
theorem dX5_put_0 : decode cX5_put 0 = .ok (.aload_n 0, 1) := by decide +kernel
theorem dX5_put_1 : decode cX5_put 1 = .ok (.iload_n 1, 1) := by decide +kernel
theorem dX5_put_2 : decode cX5_put 2 = .ok (.invokevirtual 132, 3) := by decide +kernel
theorem dX5_put_5 : decode cX5_put 5 = .ok (.astore 4, 2) := by decide +kernel
theorem dX5_put_7 : decode cX5_put 7 = .ok (.aload_n 0, 1) := by decide +kernel
theorem dX5_put_8 : decode cX5_put 8 = .ok (.iload_n 2, 1) := by decide +kernel
theorem dX5_put_9 : decode cX5_put 9 = .ok (.invokevirtual 77, 3) := by decide +kernel
theorem dX5_put_12 : decode cX5_put 12 = .ok (.astore 5, 2) := by decide +kernel
theorem dX5_put_14 : decode cX5_put 14 = .ok (.aload 4, 2) := by decide +kernel
theorem dX5_put_16 : decode cX5_put 16 = .ok (.ifnull 17, 3) := by decide +kernel
theorem dX5_put_19 : decode cX5_put 19 = .ok (.aload 5, 2) := by decide +kernel
theorem dX5_put_21 : decode cX5_put 21 = .ok (.ifnull 12, 3) := by decide +kernel
theorem dX5_put_24 : decode cX5_put 24 = .ok (.aload 5, 2) := by decide +kernel
theorem dX5_put_26 : decode cX5_put 26 = .ok (.iload_n 3, 1) := by decide +kernel
theorem dX5_put_27 : decode cX5_put 27 = .ok (.invokevirtual 136, 3) := by decide +kernel
theorem dX5_put_30 : decode cX5_put 30 = .ok (.ifCond .ne 9, 3) := by decide +kernel
theorem dX5_put_33 : decode cX5_put 33 = .ok (.aload_n 0, 1) := by decide +kernel
theorem dX5_put_34 : decode cX5_put 34 = .ok (.iconst (-1), 1) := by decide +kernel
theorem dX5_put_35 : decode cX5_put 35 = .ok (.invokevirtual 70, 3) := by decide +kernel
theorem dX5_put_38 : decode cX5_put 38 = .ok (.ireturn, 1) := by decide +kernel
theorem dX5_put_39 : decode cX5_put 39 = .ok (.aload 4, 2) := by decide +kernel
theorem dX5_put_41 : decode cX5_put 41 = .ok (.getfield 139, 3) := by decide +kernel
theorem dX5_put_44 : decode cX5_put 44 = .ok (.iconst (-1), 1) := by decide +kernel
theorem dX5_put_45 : decode cX5_put 45 = .ok (.if_icmp .ne 12, 3) := by decide +kernel
theorem dX5_put_48 : decode cX5_put 48 = .ok (.aload 5, 2) := by decide +kernel
theorem dX5_put_50 : decode cX5_put 50 = .ok (.iload_n 3, 1) := by decide +kernel
theorem dX5_put_51 : decode cX5_put 51 = .ok (.invokevirtual 142, 3) := by decide +kernel
theorem dX5_put_54 : decode cX5_put 54 = .ok (.ifnull 10, 3) := by decide +kernel
theorem dX5_put_57 : decode cX5_put 57 = .ok (.aload_n 0, 1) := by decide +kernel
theorem dX5_put_58 : decode cX5_put 58 = .ok (.bipush (-2), 2) := by decide +kernel
theorem dX5_put_60 : decode cX5_put 60 = .ok (.invokevirtual 70, 3) := by decide +kernel
theorem dX5_put_63 : decode cX5_put 63 = .ok (.ireturn, 1) := by decide +kernel
theorem dX5_put_64 : decode cX5_put 64 = .ok (.aload_n 0, 1) := by decide +kernel
theorem dX5_put_65 : decode cX5_put 65 = .ok (.getfield 45, 3) := by decide +kernel
theorem dX5_put_68 : decode cX5_put 68 = .ok (.iconst 1, 1) := by decide +kernel
theorem dX5_put_69 : decode cX5_put 69 = .ok (.invokevirtual 113, 3) := by decide +kernel
theorem dX5_put_72 : decode cX5_put 72 = .ok (.ifCond .ne 10, 3) := by decide +kernel
theorem dX5_put_75 : decode cX5_put 75 = .ok (.aload_n 0, 1) := by decide +kernel
theorem dX5_put_76 : decode cX5_put 76 = .ok (.bipush (-6), 2) := by decide +kernel
theorem dX5_put_78 : decode cX5_put 78 = .ok (.invokevirtual 70, 3) := by decide +kernel
theorem dX5_put_81 : decode cX5_put 81 = .ok (.ireturn, 1) := by decide +kernel
theorem dX5_put_82 : decode cX5_put 82 = .ok (.aload 5, 2) := by decide +kernel
theorem dX5_put_84 : decode cX5_put 84 = .ok (.iload_n 3, 1) := by decide +kernel
theorem dX5_put_85 : decode cX5_put 85 = .ok (.aload 4, 2) := by decide +kernel
theorem dX5_put_87 : decode cX5_put 87 = .ok (.invokevirtual 145, 3) := by decide +kernel
theorem dX5_put_90 : decode cX5_put 90 = .ok (.aload_n 0, 1) := by decide +kernel
theorem dX5_put_91 : decode cX5_put 91 = .ok (.aload 4, 2) := by decide +kernel
theorem dX5_put_93 : decode cX5_put 93 = .ok (.aload 5, 2) := by decide +kernel
theorem dX5_put_95 : decode cX5_put 95 = .ok (.iload_n 3, 1) := by decide +kernel
theorem dX5_put_96 : decode cX5_put 96 = .ok (.invokevirtual 149, 3) := by decide +kernel
theorem dX5_put_99 : decode cX5_put 99 = .ok (.invokevirtual 128, 3) := by decide +kernel
theorem dX5_put_102 : decode cX5_put 102 = .ok (.iconst 1, 1) := by decide +kernel
theorem dX5_put_103 : decode cX5_put 103 = .ok (.ireturn, 1) := by decide +kernel
theorem dX5_take_0 : decode cX5_take 0 = .ok (.aload_n 0, 1) := by decide +kernel
theorem dX5_take_1 : decode cX5_take 1 = .ok (.iload_n 1, 1) := by decide +kernel
theorem dX5_take_2 : decode cX5_take 2 = .ok (.invokevirtual 77, 3) := by decide +kernel
theorem dX5_take_5 : decode cX5_take 5 = .ok (.astore_n 3, 1) := by decide +kernel
theorem dX5_take_6 : decode cX5_take 6 = .ok (.aload_n 3, 1) := by decide +kernel
theorem dX5_take_7 : decode cX5_take 7 = .ok (.ifnull 11, 3) := by decide +kernel
theorem dX5_take_10 : decode cX5_take 10 = .ok (.aload_n 3, 1) := by decide +kernel
theorem dX5_take_11 : decode cX5_take 11 = .ok (.iload_n 2, 1) := by decide +kernel
theorem dX5_take_12 : decode cX5_take 12 = .ok (.invokevirtual 136, 3) := by decide +kernel
theorem dX5_take_15 : decode cX5_take 15 = .ok (.ifCond .ne 9, 3) := by decide +kernel
theorem dX5_take_18 : decode cX5_take 18 = .ok (.aload_n 0, 1) := by decide +kernel
theorem dX5_take_19 : decode cX5_take 19 = .ok (.iconst (-1), 1) := by decide +kernel
theorem dX5_take_20 : decode cX5_take 20 = .ok (.invokevirtual 70, 3) := by decide +kernel
theorem dX5_take_23 : decode cX5_take 23 = .ok (.ireturn, 1) := by decide +kernel
theorem dX5_take_24 : decode cX5_take 24 = .ok (.aload_n 3, 1) := by decide +kernel
theorem dX5_take_25 : decode cX5_take 25 = .ok (.iload_n 2, 1) := by decide +kernel
theorem dX5_take_26 : decode cX5_take 26 = .ok (.invokevirtual 142, 3) := by decide +kernel
theorem dX5_take_29 : decode cX5_take 29 = .ok (.astore 4, 2) := by decide +kernel
theorem dX5_take_31 : decode cX5_take 31 = .ok (.aload 4, 2) := by decide +kernel
theorem dX5_take_33 : decode cX5_take 33 = .ok (.ifnonnull 10, 3) := by decide +kernel
theorem dX5_take_36 : decode cX5_take 36 = .ok (.aload_n 0, 1) := by decide +kernel
theorem dX5_take_37 : decode cX5_take 37 = .ok (.bipush (-2), 2) := by decide +kernel
theorem dX5_take_39 : decode cX5_take 39 = .ok (.invokevirtual 70, 3) := by decide +kernel
theorem dX5_take_42 : decode cX5_take 42 = .ok (.ireturn, 1) := by decide +kernel
theorem dX5_take_43 : decode cX5_take 43 = .ok (.aload_n 0, 1) := by decide +kernel
theorem dX5_take_44 : decode cX5_take 44 = .ok (.getfield 45, 3) := by decide +kernel
theorem dX5_take_47 : decode cX5_take 47 = .ok (.iconst 1, 1) := by decide +kernel
theorem dX5_take_48 : decode cX5_take 48 = .ok (.invokevirtual 113, 3) := by decide +kernel
theorem dX5_take_51 : decode cX5_take 51 = .ok (.ifCond .ne 10, 3) := by decide +kernel
theorem dX5_take_54 : decode cX5_take 54 = .ok (.aload_n 0, 1) := by decide +kernel
theorem dX5_take_55 : decode cX5_take 55 = .ok (.bipush (-6), 2) := by decide +kernel
theorem dX5_take_57 : decode cX5_take 57 = .ok (.invokevirtual 70, 3) := by decide +kernel
theorem dX5_take_60 : decode cX5_take 60 = .ok (.ireturn, 1) := by decide +kernel
theorem dX5_take_61 : decode cX5_take 61 = .ok (.aload_n 3, 1) := by decide +kernel
theorem dX5_take_62 : decode cX5_take 62 = .ok (.iload_n 2, 1) := by decide +kernel
theorem dX5_take_63 : decode cX5_take 63 = .ok (.aconst_null, 1) := by decide +kernel
theorem dX5_take_64 : decode cX5_take 64 = .ok (.invokevirtual 145, 3) := by decide +kernel
theorem dX5_take_67 : decode cX5_take 67 = .ok (.aload_n 0, 1) := by decide +kernel
theorem dX5_take_68 : decode cX5_take 68 = .ok (.aload 4, 2) := by decide +kernel
theorem dX5_take_70 : decode cX5_take 70 = .ok (.iconst (-1), 1) := by decide +kernel
theorem dX5_take_71 : decode cX5_take 71 = .ok (.invokevirtual 128, 3) := by decide +kernel
theorem dX5_take_74 : decode cX5_take 74 = .ok (.aload 4, 2) := by decide +kernel
theorem dX5_take_76 : decode cX5_take 76 = .ok (.getfield 125, 3) := by decide +kernel
theorem dX5_take_79 : decode cX5_take 79 = .ok (.ireturn, 1) := by decide +kernel
theorem dX5_swap_0 : decode cX5_swap 0 = .ok (.aload_n 0, 1) := by decide +kernel
theorem dX5_swap_1 : decode cX5_swap 1 = .ok (.iload_n 1, 1) := by decide +kernel
theorem dX5_swap_2 : decode cX5_swap 2 = .ok (.invokevirtual 77, 3) := by decide +kernel
theorem dX5_swap_5 : decode cX5_swap 5 = .ok (.astore 5, 2) := by decide +kernel
theorem dX5_swap_7 : decode cX5_swap 7 = .ok (.aload_n 0, 1) := by decide +kernel
theorem dX5_swap_8 : decode cX5_swap 8 = .ok (.iload_n 3, 1) := by decide +kernel
theorem dX5_swap_9 : decode cX5_swap 9 = .ok (.invokevirtual 77, 3) := by decide +kernel
theorem dX5_swap_12 : decode cX5_swap 12 = .ok (.astore 6, 2) := by decide +kernel
theorem dX5_swap_14 : decode cX5_swap 14 = .ok (.aload 5, 2) := by decide +kernel
theorem dX5_swap_16 : decode cX5_swap 16 = .ok (.ifnull 27, 3) := by decide +kernel
theorem dX5_swap_19 : decode cX5_swap 19 = .ok (.aload 6, 2) := by decide +kernel
theorem dX5_swap_21 : decode cX5_swap 21 = .ok (.ifnull 22, 3) := by decide +kernel
theorem dX5_swap_24 : decode cX5_swap 24 = .ok (.aload 5, 2) := by decide +kernel
theorem dX5_swap_26 : decode cX5_swap 26 = .ok (.iload_n 2, 1) := by decide +kernel
theorem dX5_swap_27 : decode cX5_swap 27 = .ok (.invokevirtual 136, 3) := by decide +kernel
theorem dX5_swap_30 : decode cX5_swap 30 = .ok (.ifCond .eq 13, 3) := by decide +kernel
theorem dX5_swap_33 : decode cX5_swap 33 = .ok (.aload 6, 2) := by decide +kernel
theorem dX5_swap_35 : decode cX5_swap 35 = .ok (.iload 4, 2) := by decide +kernel
theorem dX5_swap_37 : decode cX5_swap 37 = .ok (.invokevirtual 136, 3) := by decide +kernel
theorem dX5_swap_40 : decode cX5_swap 40 = .ok (.ifCond .ne 9, 3) := by decide +kernel
theorem dX5_swap_43 : decode cX5_swap 43 = .ok (.aload_n 0, 1) := by decide +kernel
theorem dX5_swap_44 : decode cX5_swap 44 = .ok (.iconst (-1), 1) := by decide +kernel
theorem dX5_swap_45 : decode cX5_swap 45 = .ok (.invokevirtual 70, 3) := by decide +kernel
theorem dX5_swap_48 : decode cX5_swap 48 = .ok (.ireturn, 1) := by decide +kernel
theorem dX5_swap_49 : decode cX5_swap 49 = .ok (.iload_n 1, 1) := by decide +kernel
theorem dX5_swap_50 : decode cX5_swap 50 = .ok (.iload_n 3, 1) := by decide +kernel
theorem dX5_swap_51 : decode cX5_swap 51 = .ok (.if_icmp .ne 15, 3) := by decide +kernel
theorem dX5_swap_54 : decode cX5_swap 54 = .ok (.iload_n 2, 1) := by decide +kernel
theorem dX5_swap_55 : decode cX5_swap 55 = .ok (.iload 4, 2) := by decide +kernel
theorem dX5_swap_57 : decode cX5_swap 57 = .ok (.if_icmp .ne 9, 3) := by decide +kernel
theorem dX5_swap_60 : decode cX5_swap 60 = .ok (.aload_n 0, 1) := by decide +kernel
theorem dX5_swap_61 : decode cX5_swap 61 = .ok (.iconst (-1), 1) := by decide +kernel
theorem dX5_swap_62 : decode cX5_swap 62 = .ok (.invokevirtual 70, 3) := by decide +kernel
theorem dX5_swap_65 : decode cX5_swap 65 = .ok (.ireturn, 1) := by decide +kernel
theorem dX5_swap_66 : decode cX5_swap 66 = .ok (.aload 5, 2) := by decide +kernel
theorem dX5_swap_68 : decode cX5_swap 68 = .ok (.iload_n 2, 1) := by decide +kernel
theorem dX5_swap_69 : decode cX5_swap 69 = .ok (.invokevirtual 142, 3) := by decide +kernel
theorem dX5_swap_72 : decode cX5_swap 72 = .ok (.astore 7, 2) := by decide +kernel
theorem dX5_swap_74 : decode cX5_swap 74 = .ok (.aload 6, 2) := by decide +kernel
theorem dX5_swap_76 : decode cX5_swap 76 = .ok (.iload 4, 2) := by decide +kernel
theorem dX5_swap_78 : decode cX5_swap 78 = .ok (.invokevirtual 142, 3) := by decide +kernel
theorem dX5_swap_81 : decode cX5_swap 81 = .ok (.astore 8, 2) := by decide +kernel
theorem dX5_swap_83 : decode cX5_swap 83 = .ok (.aload 7, 2) := by decide +kernel
theorem dX5_swap_85 : decode cX5_swap 85 = .ok (.ifnonnull 15, 3) := by decide +kernel
theorem dX5_swap_88 : decode cX5_swap 88 = .ok (.aload 8, 2) := by decide +kernel
theorem dX5_swap_90 : decode cX5_swap 90 = .ok (.ifnonnull 10, 3) := by decide +kernel
theorem dX5_swap_93 : decode cX5_swap 93 = .ok (.aload_n 0, 1) := by decide +kernel
theorem dX5_swap_94 : decode cX5_swap 94 = .ok (.bipush (-2), 2) := by decide +kernel
theorem dX5_swap_96 : decode cX5_swap 96 = .ok (.invokevirtual 70, 3) := by decide +kernel
theorem dX5_swap_99 : decode cX5_swap 99 = .ok (.ireturn, 1) := by decide +kernel
theorem dX5_swap_100 : decode cX5_swap 100 = .ok (.aload_n 0, 1) := by decide +kernel
theorem dX5_swap_101 : decode cX5_swap 101 = .ok (.getfield 45, 3) := by decide +kernel
theorem dX5_swap_104 : decode cX5_swap 104 = .ok (.aload 7, 2) := by decide +kernel
theorem dX5_swap_106 : decode cX5_swap 106 = .ok (.ifnull 8, 3) := by decide +kernel
theorem dX5_swap_109 : decode cX5_swap 109 = .ok (.aload 8, 2) := by decide +kernel
theorem dX5_swap_111 : decode cX5_swap 111 = .ok (.ifnonnull 7, 3) := by decide +kernel
theorem dX5_swap_114 : decode cX5_swap 114 = .ok (.iconst 1, 1) := by decide +kernel
theorem dX5_swap_115 : decode cX5_swap 115 = .ok (.goto 4, 3) := by decide +kernel
theorem dX5_swap_118 : decode cX5_swap 118 = .ok (.iconst 2, 1) := by decide +kernel
theorem dX5_swap_119 : decode cX5_swap 119 = .ok (.invokevirtual 113, 3) := by decide +kernel
theorem dX5_swap_122 : decode cX5_swap 122 = .ok (.ifCond .ne 10, 3) := by decide +kernel
theorem dX5_swap_125 : decode cX5_swap 125 = .ok (.aload_n 0, 1) := by decide +kernel
theorem dX5_swap_126 : decode cX5_swap 126 = .ok (.bipush (-6), 2) := by decide +kernel
theorem dX5_swap_128 : decode cX5_swap 128 = .ok (.invokevirtual 70, 3) := by decide +kernel
theorem dX5_swap_131 : decode cX5_swap 131 = .ok (.ireturn, 1) := by decide +kernel
theorem dX5_swap_132 : decode cX5_swap 132 = .ok (.aload 5, 2) := by decide +kernel
theorem dX5_swap_134 : decode cX5_swap 134 = .ok (.iload_n 2, 1) := by decide +kernel
theorem dX5_swap_135 : decode cX5_swap 135 = .ok (.aload 8, 2) := by decide +kernel
theorem dX5_swap_137 : decode cX5_swap 137 = .ok (.invokevirtual 145, 3) := by decide +kernel
theorem dX5_swap_140 : decode cX5_swap 140 = .ok (.aload 6, 2) := by decide +kernel
theorem dX5_swap_142 : decode cX5_swap 142 = .ok (.iload 4, 2) := by decide +kernel
theorem dX5_swap_144 : decode cX5_swap 144 = .ok (.aload 7, 2) := by decide +kernel
theorem dX5_swap_146 : decode cX5_swap 146 = .ok (.invokevirtual 145, 3) := by decide +kernel
theorem dX5_swap_149 : decode cX5_swap 149 = .ok (.aload_n 0, 1) := by decide +kernel
theorem dX5_swap_150 : decode cX5_swap 150 = .ok (.aload 8, 2) := by decide +kernel
theorem dX5_swap_152 : decode cX5_swap 152 = .ok (.aload 5, 2) := by decide +kernel
theorem dX5_swap_154 : decode cX5_swap 154 = .ok (.iload_n 2, 1) := by decide +kernel
theorem dX5_swap_155 : decode cX5_swap 155 = .ok (.invokevirtual 149, 3) := by decide +kernel
theorem dX5_swap_158 : decode cX5_swap 158 = .ok (.invokevirtual 128, 3) := by decide +kernel
theorem dX5_swap_161 : decode cX5_swap 161 = .ok (.aload_n 0, 1) := by decide +kernel
theorem dX5_swap_162 : decode cX5_swap 162 = .ok (.aload 7, 2) := by decide +kernel
theorem dX5_swap_164 : decode cX5_swap 164 = .ok (.aload 6, 2) := by decide +kernel
theorem dX5_swap_166 : decode cX5_swap 166 = .ok (.iload 4, 2) := by decide +kernel
theorem dX5_swap_168 : decode cX5_swap 168 = .ok (.invokevirtual 149, 3) := by decide +kernel
theorem dX5_swap_171 : decode cX5_swap 171 = .ok (.invokevirtual 128, 3) := by decide +kernel
theorem dX5_swap_174 : decode cX5_swap 174 = .ok (.iconst 1, 1) := by decide +kernel
theorem dX5_swap_175 : decode cX5_swap 175 = .ok (.ireturn, 1) := by decide +kernel
theorem dX5_read_0 : decode cX5_read 0 = .ok (.aload_n 0, 1) := by decide +kernel
theorem dX5_read_1 : decode cX5_read 1 = .ok (.iload_n 1, 1) := by decide +kernel
theorem dX5_read_2 : decode cX5_read 2 = .ok (.invokevirtual 132, 3) := by decide +kernel
theorem dX5_read_5 : decode cX5_read 5 = .ok (.astore_n 3, 1) := by decide +kernel
theorem dX5_read_6 : decode cX5_read 6 = .ok (.aload_n 3, 1) := by decide +kernel
theorem dX5_read_7 : decode cX5_read 7 = .ok (.ifnonnull 9, 3) := by decide +kernel
theorem dX5_read_10 : decode cX5_read 10 = .ok (.aload_n 0, 1) := by decide +kernel
theorem dX5_read_11 : decode cX5_read 11 = .ok (.iconst (-1), 1) := by decide +kernel
theorem dX5_read_12 : decode cX5_read 12 = .ok (.invokevirtual 70, 3) := by decide +kernel
theorem dX5_read_15 : decode cX5_read 15 = .ok (.ireturn, 1) := by decide +kernel
theorem dX5_read_16 : decode cX5_read 16 = .ok (.aload_n 3, 1) := by decide +kernel
theorem dX5_read_17 : decode cX5_read 17 = .ok (.getfield 139, 3) := by decide +kernel
theorem dX5_read_20 : decode cX5_read 20 = .ok (.bipush (-2), 2) := by decide +kernel
theorem dX5_read_22 : decode cX5_read 22 = .ok (.if_icmp .eq 12, 3) := by decide +kernel
theorem dX5_read_25 : decode cX5_read 25 = .ok (.aload_n 3, 1) := by decide +kernel
theorem dX5_read_26 : decode cX5_read 26 = .ok (.getfield 139, 3) := by decide +kernel
theorem dX5_read_29 : decode cX5_read 29 = .ok (.bipush (-3), 2) := by decide +kernel
theorem dX5_read_31 : decode cX5_read 31 = .ok (.if_icmp .ne 10, 3) := by decide +kernel
theorem dX5_read_34 : decode cX5_read 34 = .ok (.aload_n 0, 1) := by decide +kernel
theorem dX5_read_35 : decode cX5_read 35 = .ok (.bipush (-2), 2) := by decide +kernel
theorem dX5_read_37 : decode cX5_read 37 = .ok (.invokevirtual 70, 3) := by decide +kernel
theorem dX5_read_40 : decode cX5_read 40 = .ok (.ireturn, 1) := by decide +kernel
theorem dX5_read_41 : decode cX5_read 41 = .ok (.iload_n 2, 1) := by decide +kernel
theorem dX5_read_42 : decode cX5_read 42 = .ok (.iconst 0, 1) := by decide +kernel
theorem dX5_read_43 : decode cX5_read 43 = .ok (.sipush 300, 3) := by decide +kernel
theorem dX5_read_46 : decode cX5_read 46 = .ok (.invokestatic 92, 3) := by decide +kernel
theorem dX5_read_49 : decode cX5_read 49 = .ok (.istore 4, 2) := by decide +kernel
theorem dX5_read_51 : decode cX5_read 51 = .ok (.iload 4, 2) := by decide +kernel
theorem dX5_read_53 : decode cX5_read 53 = .ok (.ifCond .eq 10, 3) := by decide +kernel
theorem dX5_read_56 : decode cX5_read 56 = .ok (.aload_n 0, 1) := by decide +kernel
theorem dX5_read_57 : decode cX5_read 57 = .ok (.iload 4, 2) := by decide +kernel
theorem dX5_read_59 : decode cX5_read 59 = .ok (.invokevirtual 70, 3) := by decide +kernel
theorem dX5_read_62 : decode cX5_read 62 = .ok (.ireturn, 1) := by decide +kernel
theorem dX5_read_63 : decode cX5_read 63 = .ok (.aload_n 3, 1) := by decide +kernel
theorem dX5_read_64 : decode cX5_read 64 = .ok (.iload_n 2, 1) := by decide +kernel
theorem dX5_read_65 : decode cX5_read 65 = .ok (.invokevirtual 152, 3) := by decide +kernel
theorem dX5_read_68 : decode cX5_read 68 = .ok (.aload_n 3, 1) := by decide +kernel
theorem dX5_read_69 : decode cX5_read 69 = .ok (.aload_n 0, 1) := by decide +kernel
theorem dX5_read_70 : decode cX5_read 70 = .ok (.getfield 36, 3) := by decide +kernel
theorem dX5_read_73 : decode cX5_read 73 = .ok (.aload_n 3, 1) := by decide +kernel
theorem dX5_read_74 : decode cX5_read 74 = .ok (.getfield 155, 3) := by decide +kernel
theorem dX5_read_77 : decode cX5_read 77 = .ok (.invokestatic 96, 3) := by decide +kernel
theorem dX5_read_80 : decode cX5_read 80 = .ok (.invokevirtual 158, 3) := by decide +kernel
theorem dX5_read_83 : decode cX5_read 83 = .ok (.aload_n 3, 1) := by decide +kernel
theorem dX5_read_84 : decode cX5_read 84 = .ok (.getfield 161, 3) := by decide +kernel
theorem dX5_read_87 : decode cX5_read 87 = .ok (.ireturn, 1) := by decide +kernel
theorem dX5_go_0 : decode cX5_go 0 = .ok (.aload_n 0, 1) := by decide +kernel
theorem dX5_go_1 : decode cX5_go 1 = .ok (.iload_n 1, 1) := by decide +kernel
theorem dX5_go_2 : decode cX5_go 2 = .ok (.invokevirtual 77, 3) := by decide +kernel
theorem dX5_go_5 : decode cX5_go 5 = .ok (.astore 4, 2) := by decide +kernel
theorem dX5_go_7 : decode cX5_go 7 = .ok (.aload 4, 2) := by decide +kernel
theorem dX5_go_9 : decode cX5_go 9 = .ok (.ifnonnull 9, 3) := by decide +kernel
theorem dX5_go_12 : decode cX5_go 12 = .ok (.aload_n 0, 1) := by decide +kernel
theorem dX5_go_13 : decode cX5_go 13 = .ok (.iconst (-1), 1) := by decide +kernel
theorem dX5_go_14 : decode cX5_go 14 = .ok (.invokevirtual 70, 3) := by decide +kernel
theorem dX5_go_17 : decode cX5_go 17 = .ok (.ireturn, 1) := by decide +kernel
theorem dX5_go_18 : decode cX5_go 18 = .ok (.aload 4, 2) := by decide +kernel
theorem dX5_go_20 : decode cX5_go 20 = .ok (.aload_n 0, 1) := by decide +kernel
theorem dX5_go_21 : decode cX5_go 21 = .ok (.getfield 30, 3) := by decide +kernel
theorem dX5_go_24 : decode cX5_go 24 = .ok (.aload_n 0, 1) := by decide +kernel
theorem dX5_go_25 : decode cX5_go 25 = .ok (.getfield 63, 3) := by decide +kernel
theorem dX5_go_28 : decode cX5_go 28 = .ok (.invokevirtual 164, 3) := by decide +kernel
theorem dX5_go_31 : decode cX5_go 31 = .ok (.bipush (-9), 2) := by decide +kernel
theorem dX5_go_33 : decode cX5_go 33 = .ok (.if_icmp .eq 10, 3) := by decide +kernel
theorem dX5_go_36 : decode cX5_go 36 = .ok (.aload_n 0, 1) := by decide +kernel
theorem dX5_go_37 : decode cX5_go 37 = .ok (.bipush (-2), 2) := by decide +kernel
theorem dX5_go_39 : decode cX5_go 39 = .ok (.invokevirtual 70, 3) := by decide +kernel
theorem dX5_go_42 : decode cX5_go 42 = .ok (.ireturn, 1) := by decide +kernel
theorem dX5_go_43 : decode cX5_go 43 = .ok (.iload_n 2, 1) := by decide +kernel
theorem dX5_go_44 : decode cX5_go 44 = .ok (.iconst 1, 1) := by decide +kernel
theorem dX5_go_45 : decode cX5_go 45 = .ok (.if_icmp .ge 10, 3) := by decide +kernel
theorem dX5_go_48 : decode cX5_go 48 = .ok (.aload_n 0, 1) := by decide +kernel
theorem dX5_go_49 : decode cX5_go 49 = .ok (.bipush (-4), 2) := by decide +kernel
theorem dX5_go_51 : decode cX5_go 51 = .ok (.invokevirtual 70, 3) := by decide +kernel
theorem dX5_go_54 : decode cX5_go 54 = .ok (.ireturn, 1) := by decide +kernel
theorem dX5_go_55 : decode cX5_go 55 = .ok (.iload_n 2, 1) := by decide +kernel
theorem dX5_go_56 : decode cX5_go 56 = .ok (.sipush 10000, 3) := by decide +kernel
theorem dX5_go_59 : decode cX5_go 59 = .ok (.if_icmp .gt 16, 3) := by decide +kernel
theorem dX5_go_62 : decode cX5_go 62 = .ok (.aload 4, 2) := by decide +kernel
theorem dX5_go_64 : decode cX5_go 64 = .ok (.iload_n 3, 1) := by decide +kernel
theorem dX5_go_65 : decode cX5_go 65 = .ok (.invokevirtual 167, 3) := by decide +kernel
theorem dX5_go_68 : decode cX5_go 68 = .ok (.ldc 171, 2) := by decide +kernel
theorem dX5_go_70 : decode cX5_go 70 = .ok (.iload_n 2, 1) := by decide +kernel
theorem dX5_go_71 : decode cX5_go 71 = .ok (.isub, 1) := by decide +kernel
theorem dX5_go_72 : decode cX5_go 72 = .ok (.if_icmp .le 10, 3) := by decide +kernel
theorem dX5_go_75 : decode cX5_go 75 = .ok (.aload_n 0, 1) := by decide +kernel
theorem dX5_go_76 : decode cX5_go 76 = .ok (.bipush (-6), 2) := by decide +kernel
theorem dX5_go_78 : decode cX5_go 78 = .ok (.invokevirtual 70, 3) := by decide +kernel
theorem dX5_go_81 : decode cX5_go 81 = .ok (.ireturn, 1) := by decide +kernel
theorem dX5_go_82 : decode cX5_go 82 = .ok (.aload 4, 2) := by decide +kernel
theorem dX5_go_84 : decode cX5_go 84 = .ok (.iload_n 2, 1) := by decide +kernel
theorem dX5_go_85 : decode cX5_go 85 = .ok (.iload_n 3, 1) := by decide +kernel
theorem dX5_go_86 : decode cX5_go 86 = .ok (.invokevirtual 172, 3) := by decide +kernel
theorem dX5_go_89 : decode cX5_go 89 = .ok (.aload 4, 2) := by decide +kernel
theorem dX5_go_91 : decode cX5_go 91 = .ok (.aload_n 0, 1) := by decide +kernel
theorem dX5_go_92 : decode cX5_go 92 = .ok (.getfield 30, 3) := by decide +kernel
theorem dX5_go_95 : decode cX5_go 95 = .ok (.invokevirtual 176, 3) := by decide +kernel
theorem dX5_go_98 : decode cX5_go 98 = .ok (.ireturn, 1) := by decide +kernel
theorem dX5_why_0 : decode cX5_why 0 = .ok (.aload_n 0, 1) := by decide +kernel
theorem dX5_why_1 : decode cX5_why 1 = .ok (.iload_n 1, 1) := by decide +kernel
theorem dX5_why_2 : decode cX5_why 2 = .ok (.invokevirtual 77, 3) := by decide +kernel
theorem dX5_why_5 : decode cX5_why 5 = .ok (.astore_n 2, 1) := by decide +kernel
theorem dX5_why_6 : decode cX5_why 6 = .ok (.aload_n 2, 1) := by decide +kernel
theorem dX5_why_7 : decode cX5_why 7 = .ok (.ifnonnull 11, 3) := by decide +kernel
theorem dX5_why_10 : decode cX5_why 10 = .ok (.aload_n 0, 1) := by decide +kernel
theorem dX5_why_11 : decode cX5_why 11 = .ok (.iconst (-1), 1) := by decide +kernel
theorem dX5_why_12 : decode cX5_why 12 = .ok (.invokevirtual 70, 3) := by decide +kernel
theorem dX5_why_15 : decode cX5_why 15 = .ok (.goto 15, 3) := by decide +kernel
theorem dX5_why_18 : decode cX5_why 18 = .ok (.aload_n 2, 1) := by decide +kernel
theorem dX5_why_19 : decode cX5_why 19 = .ok (.aload_n 0, 1) := by decide +kernel
theorem dX5_why_20 : decode cX5_why 20 = .ok (.getfield 30, 3) := by decide +kernel
theorem dX5_why_23 : decode cX5_why 23 = .ok (.aload_n 0, 1) := by decide +kernel
theorem dX5_why_24 : decode cX5_why 24 = .ok (.getfield 63, 3) := by decide +kernel
theorem dX5_why_27 : decode cX5_why 27 = .ok (.invokevirtual 164, 3) := by decide +kernel
theorem dX5_why_30 : decode cX5_why 30 = .ok (.ireturn, 1) := by decide +kernel
theorem dX5_far_0 : decode cX5_far 0 = .ok (.aload_n 0, 1) := by decide +kernel
theorem dX5_far_1 : decode cX5_far 1 = .ok (.iload_n 1, 1) := by decide +kernel
theorem dX5_far_2 : decode cX5_far 2 = .ok (.invokevirtual 77, 3) := by decide +kernel
theorem dX5_far_5 : decode cX5_far 5 = .ok (.astore_n 2, 1) := by decide +kernel
theorem dX5_far_6 : decode cX5_far 6 = .ok (.aload_n 2, 1) := by decide +kernel
theorem dX5_far_7 : decode cX5_far 7 = .ok (.ifnonnull 11, 3) := by decide +kernel
theorem dX5_far_10 : decode cX5_far 10 = .ok (.aload_n 0, 1) := by decide +kernel
theorem dX5_far_11 : decode cX5_far 11 = .ok (.iconst (-1), 1) := by decide +kernel
theorem dX5_far_12 : decode cX5_far 12 = .ok (.invokevirtual 70, 3) := by decide +kernel
theorem dX5_far_15 : decode cX5_far 15 = .ok (.goto 11, 3) := by decide +kernel
theorem dX5_far_18 : decode cX5_far 18 = .ok (.aload_n 2, 1) := by decide +kernel
theorem dX5_far_19 : decode cX5_far 19 = .ok (.aload_n 0, 1) := by decide +kernel
theorem dX5_far_20 : decode cX5_far 20 = .ok (.getfield 30, 3) := by decide +kernel
theorem dX5_far_23 : decode cX5_far 23 = .ok (.invokevirtual 176, 3) := by decide +kernel
theorem dX5_far_26 : decode cX5_far 26 = .ok (.ireturn, 1) := by decide +kernel
theorem dX5_best_0 : decode cX5_best 0 = .ok (.aload_n 0, 1) := by decide +kernel
theorem dX5_best_1 : decode cX5_best 1 = .ok (.iload_n 1, 1) := by decide +kernel
theorem dX5_best_2 : decode cX5_best 2 = .ok (.invokevirtual 77, 3) := by decide +kernel
theorem dX5_best_5 : decode cX5_best 5 = .ok (.astore_n 2, 1) := by decide +kernel
theorem dX5_best_6 : decode cX5_best 6 = .ok (.aload_n 2, 1) := by decide +kernel
theorem dX5_best_7 : decode cX5_best 7 = .ok (.ifnonnull 9, 3) := by decide +kernel
theorem dX5_best_10 : decode cX5_best 10 = .ok (.aload_n 0, 1) := by decide +kernel
theorem dX5_best_11 : decode cX5_best 11 = .ok (.iconst (-1), 1) := by decide +kernel
theorem dX5_best_12 : decode cX5_best 12 = .ok (.invokevirtual 70, 3) := by decide +kernel
theorem dX5_best_15 : decode cX5_best 15 = .ok (.ireturn, 1) := by decide +kernel
theorem dX5_best_16 : decode cX5_best 16 = .ok (.aload_n 0, 1) := by decide +kernel
theorem dX5_best_17 : decode cX5_best 17 = .ok (.getfield 52, 3) := by decide +kernel
theorem dX5_best_20 : decode cX5_best 20 = .ok (.aload_n 2, 1) := by decide +kernel
theorem dX5_best_21 : decode cX5_best 21 = .ok (.aload_n 0, 1) := by decide +kernel
theorem dX5_best_22 : decode cX5_best 22 = .ok (.getfield 30, 3) := by decide +kernel
theorem dX5_best_25 : decode cX5_best 25 = .ok (.invokevirtual 180, 3) := by decide +kernel
theorem dX5_best_28 : decode cX5_best 28 = .ok (.ifCond .ne 10, 3) := by decide +kernel
theorem dX5_best_31 : decode cX5_best 31 = .ok (.aload_n 0, 1) := by decide +kernel
theorem dX5_best_32 : decode cX5_best 32 = .ok (.bipush (-2), 2) := by decide +kernel
theorem dX5_best_34 : decode cX5_best 34 = .ok (.invokevirtual 70, 3) := by decide +kernel
theorem dX5_best_37 : decode cX5_best 37 = .ok (.ireturn, 1) := by decide +kernel
theorem dX5_best_38 : decode cX5_best 38 = .ok (.aload_n 0, 1) := by decide +kernel
theorem dX5_best_39 : decode cX5_best 39 = .ok (.getfield 52, 3) := by decide +kernel
theorem dX5_best_42 : decode cX5_best 42 = .ok (.getfield 184, 3) := by decide +kernel
theorem dX5_best_45 : decode cX5_best 45 = .ok (.ireturn, 1) := by decide +kernel
theorem dX5_turn_0 : decode cX5_turn 0 = .ok (.aload_n 0, 1) := by decide +kernel
theorem dX5_turn_1 : decode cX5_turn 1 = .ok (.iload_n 1, 1) := by decide +kernel
theorem dX5_turn_2 : decode cX5_turn 2 = .ok (.invokevirtual 77, 3) := by decide +kernel
theorem dX5_turn_5 : decode cX5_turn 5 = .ok (.astore_n 2, 1) := by decide +kernel
theorem dX5_turn_6 : decode cX5_turn 6 = .ok (.aload_n 2, 1) := by decide +kernel
theorem dX5_turn_7 : decode cX5_turn 7 = .ok (.ifnonnull 9, 3) := by decide +kernel
theorem dX5_turn_10 : decode cX5_turn 10 = .ok (.aload_n 0, 1) := by decide +kernel
theorem dX5_turn_11 : decode cX5_turn 11 = .ok (.iconst (-1), 1) := by decide +kernel
theorem dX5_turn_12 : decode cX5_turn 12 = .ok (.invokevirtual 70, 3) := by decide +kernel
theorem dX5_turn_15 : decode cX5_turn 15 = .ok (.ireturn, 1) := by decide +kernel
theorem dX5_turn_16 : decode cX5_turn 16 = .ok (.aload_n 0, 1) := by decide +kernel
theorem dX5_turn_17 : decode cX5_turn 17 = .ok (.getfield 52, 3) := by decide +kernel
theorem dX5_turn_20 : decode cX5_turn 20 = .ok (.aload_n 2, 1) := by decide +kernel
theorem dX5_turn_21 : decode cX5_turn 21 = .ok (.aload_n 0, 1) := by decide +kernel
theorem dX5_turn_22 : decode cX5_turn 22 = .ok (.getfield 30, 3) := by decide +kernel
theorem dX5_turn_25 : decode cX5_turn 25 = .ok (.invokevirtual 180, 3) := by decide +kernel
theorem dX5_turn_28 : decode cX5_turn 28 = .ok (.ifCond .ne 10, 3) := by decide +kernel
theorem dX5_turn_31 : decode cX5_turn 31 = .ok (.aload_n 0, 1) := by decide +kernel
theorem dX5_turn_32 : decode cX5_turn 32 = .ok (.bipush (-2), 2) := by decide +kernel
theorem dX5_turn_34 : decode cX5_turn 34 = .ok (.invokevirtual 70, 3) := by decide +kernel
theorem dX5_turn_37 : decode cX5_turn 37 = .ok (.ireturn, 1) := by decide +kernel
theorem dX5_turn_38 : decode cX5_turn 38 = .ok (.aload_n 0, 1) := by decide +kernel
theorem dX5_turn_39 : decode cX5_turn 39 = .ok (.getfield 52, 3) := by decide +kernel
theorem dX5_turn_42 : decode cX5_turn 42 = .ok (.invokevirtual 186, 3) := by decide +kernel
theorem dX5_turn_45 : decode cX5_turn 45 = .ok (.istore_n 3, 1) := by decide +kernel
theorem dX5_turn_46 : decode cX5_turn 46 = .ok (.aload_n 0, 1) := by decide +kernel
theorem dX5_turn_47 : decode cX5_turn 47 = .ok (.getfield 45, 3) := by decide +kernel
theorem dX5_turn_50 : decode cX5_turn 50 = .ok (.iload_n 3, 1) := by decide +kernel
theorem dX5_turn_51 : decode cX5_turn 51 = .ok (.invokevirtual 113, 3) := by decide +kernel
theorem dX5_turn_54 : decode cX5_turn 54 = .ok (.ifCond .ne 10, 3) := by decide +kernel
theorem dX5_turn_57 : decode cX5_turn 57 = .ok (.aload_n 0, 1) := by decide +kernel
theorem dX5_turn_58 : decode cX5_turn 58 = .ok (.bipush (-6), 2) := by decide +kernel
theorem dX5_turn_60 : decode cX5_turn 60 = .ok (.invokevirtual 70, 3) := by decide +kernel
theorem dX5_turn_63 : decode cX5_turn 63 = .ok (.ireturn, 1) := by decide +kernel
theorem dX5_turn_64 : decode cX5_turn 64 = .ok (.aload_n 0, 1) := by decide +kernel
theorem dX5_turn_65 : decode cX5_turn 65 = .ok (.aload_n 2, 1) := by decide +kernel
theorem dX5_turn_66 : decode cX5_turn 66 = .ok (.invokevirtual 190, 3) := by decide +kernel
theorem dX5_turn_69 : decode cX5_turn 69 = .ok (.iload_n 3, 1) := by decide +kernel
theorem dX5_turn_70 : decode cX5_turn 70 = .ok (.ireturn, 1) := by decide +kernel
theorem dX5_wear_0 : decode cX5_wear 0 = .ok (.aload_n 0, 1) := by decide +kernel
theorem dX5_wear_1 : decode cX5_wear 1 = .ok (.iload_n 1, 1) := by decide +kernel
theorem dX5_wear_2 : decode cX5_wear 2 = .ok (.invokevirtual 132, 3) := by decide +kernel
theorem dX5_wear_5 : decode cX5_wear 5 = .ok (.astore_n 3, 1) := by decide +kernel
theorem dX5_wear_6 : decode cX5_wear 6 = .ok (.aload_n 3, 1) := by decide +kernel
theorem dX5_wear_7 : decode cX5_wear 7 = .ok (.ifnonnull 10, 3) := by decide +kernel
theorem dX5_wear_10 : decode cX5_wear 10 = .ok (.aload_n 0, 1) := by decide +kernel
theorem dX5_wear_11 : decode cX5_wear 11 = .ok (.iconst (-1), 1) := by decide +kernel
theorem dX5_wear_12 : decode cX5_wear 12 = .ok (.invokevirtual 70, 3) := by decide +kernel
theorem dX5_wear_15 : decode cX5_wear 15 = .ok (.i2l, 1) := by decide +kernel
theorem dX5_wear_16 : decode cX5_wear 16 = .ok (.lreturn, 1) := by decide +kernel
theorem dX5_wear_17 : decode cX5_wear 17 = .ok (.iload_n 2, 1) := by decide +kernel
theorem dX5_wear_18 : decode cX5_wear 18 = .ok (.lookupswitch 42 #[(0, 26), (1, 34)], 26) := by decide +kernel
theorem dX5_wear_44 : decode cX5_wear 44 = .ok (.aload_n 3, 1) := by decide +kernel
theorem dX5_wear_45 : decode cX5_wear 45 = .ok (.getfield 194, 3) := by decide +kernel
theorem dX5_wear_48 : decode cX5_wear 48 = .ok (.getfield 197, 3) := by decide +kernel
theorem dX5_wear_51 : decode cX5_wear 51 = .ok (.lreturn, 1) := by decide +kernel
theorem dX5_wear_52 : decode cX5_wear 52 = .ok (.aload_n 3, 1) := by decide +kernel
theorem dX5_wear_53 : decode cX5_wear 53 = .ok (.getfield 194, 3) := by decide +kernel
theorem dX5_wear_56 : decode cX5_wear 56 = .ok (.getfield 201, 3) := by decide +kernel
theorem dX5_wear_59 : decode cX5_wear 59 = .ok (.lreturn, 1) := by decide +kernel
theorem dX5_wear_60 : decode cX5_wear 60 = .ok (.aload_n 0, 1) := by decide +kernel
theorem dX5_wear_61 : decode cX5_wear 61 = .ok (.bipush (-2), 2) := by decide +kernel
theorem dX5_wear_63 : decode cX5_wear 63 = .ok (.invokevirtual 70, 3) := by decide +kernel
theorem dX5_wear_66 : decode cX5_wear 66 = .ok (.i2l, 1) := by decide +kernel
theorem dX5_wear_67 : decode cX5_wear 67 = .ok (.lreturn, 1) := by decide +kernel
theorem dX5_depth_0 : decode cX5_depth 0 = .ok (.aload_n 0, 1) := by decide +kernel
theorem dX5_depth_1 : decode cX5_depth 1 = .ok (.iload_n 1, 1) := by decide +kernel
theorem dX5_depth_2 : decode cX5_depth 2 = .ok (.invokevirtual 132, 3) := by decide +kernel
theorem dX5_depth_5 : decode cX5_depth 5 = .ok (.astore_n 3, 1) := by decide +kernel
theorem dX5_depth_6 : decode cX5_depth 6 = .ok (.aload_n 3, 1) := by decide +kernel
theorem dX5_depth_7 : decode cX5_depth 7 = .ok (.ifnonnull 9, 3) := by decide +kernel
theorem dX5_depth_10 : decode cX5_depth 10 = .ok (.aload_n 0, 1) := by decide +kernel
theorem dX5_depth_11 : decode cX5_depth 11 = .ok (.iconst (-1), 1) := by decide +kernel
theorem dX5_depth_12 : decode cX5_depth 12 = .ok (.invokevirtual 70, 3) := by decide +kernel
theorem dX5_depth_15 : decode cX5_depth 15 = .ok (.ireturn, 1) := by decide +kernel
theorem dX5_depth_16 : decode cX5_depth 16 = .ok (.iload_n 2, 1) := by decide +kernel
theorem dX5_depth_17 : decode cX5_depth 17 = .ok (.iconst 0, 1) := by decide +kernel
theorem dX5_depth_18 : decode cX5_depth 18 = .ok (.ldc 171, 2) := by decide +kernel
theorem dX5_depth_20 : decode cX5_depth 20 = .ok (.invokestatic 92, 3) := by decide +kernel
theorem dX5_depth_23 : decode cX5_depth 23 = .ok (.istore 4, 2) := by decide +kernel
theorem dX5_depth_25 : decode cX5_depth 25 = .ok (.iload 4, 2) := by decide +kernel
theorem dX5_depth_27 : decode cX5_depth 27 = .ok (.ifCond .eq 10, 3) := by decide +kernel
theorem dX5_depth_30 : decode cX5_depth 30 = .ok (.aload_n 0, 1) := by decide +kernel
theorem dX5_depth_31 : decode cX5_depth 31 = .ok (.iload 4, 2) := by decide +kernel
theorem dX5_depth_33 : decode cX5_depth 33 = .ok (.invokevirtual 70, 3) := by decide +kernel
theorem dX5_depth_36 : decode cX5_depth 36 = .ok (.ireturn, 1) := by decide +kernel
theorem dX5_depth_37 : decode cX5_depth 37 = .ok (.aload_n 3, 1) := by decide +kernel
theorem dX5_depth_38 : decode cX5_depth 38 = .ok (.iload_n 2, 1) := by decide +kernel
theorem dX5_depth_39 : decode cX5_depth 39 = .ok (.invokevirtual 204, 3) := by decide +kernel
theorem dX5_depth_42 : decode cX5_depth 42 = .ok (.ireturn, 1) := by decide +kernel
theorem dX5_end_0 : decode cX5_end 0 = .ok (.aload_n 0, 1) := by decide +kernel
theorem dX5_end_1 : decode cX5_end 1 = .ok (.iload_n 1, 1) := by decide +kernel
theorem dX5_end_2 : decode cX5_end 2 = .ok (.invokevirtual 132, 3) := by decide +kernel
theorem dX5_end_5 : decode cX5_end 5 = .ok (.astore_n 3, 1) := by decide +kernel
theorem dX5_end_6 : decode cX5_end 6 = .ok (.aload_n 3, 1) := by decide +kernel
theorem dX5_end_7 : decode cX5_end 7 = .ok (.ifnonnull 9, 3) := by decide +kernel
theorem dX5_end_10 : decode cX5_end 10 = .ok (.aload_n 0, 1) := by decide +kernel
theorem dX5_end_11 : decode cX5_end 11 = .ok (.iconst (-1), 1) := by decide +kernel
theorem dX5_end_12 : decode cX5_end 12 = .ok (.invokevirtual 70, 3) := by decide +kernel
theorem dX5_end_15 : decode cX5_end 15 = .ok (.ireturn, 1) := by decide +kernel
theorem dX5_end_16 : decode cX5_end 16 = .ok (.iload_n 2, 1) := by decide +kernel
theorem dX5_end_17 : decode cX5_end 17 = .ok (.iconst 0, 1) := by decide +kernel
theorem dX5_end_18 : decode cX5_end 18 = .ok (.sipush 300, 3) := by decide +kernel
theorem dX5_end_21 : decode cX5_end 21 = .ok (.invokestatic 92, 3) := by decide +kernel
theorem dX5_end_24 : decode cX5_end 24 = .ok (.istore 4, 2) := by decide +kernel
theorem dX5_end_26 : decode cX5_end 26 = .ok (.iload 4, 2) := by decide +kernel
theorem dX5_end_28 : decode cX5_end 28 = .ok (.ifCond .eq 10, 3) := by decide +kernel
theorem dX5_end_31 : decode cX5_end 31 = .ok (.aload_n 0, 1) := by decide +kernel
theorem dX5_end_32 : decode cX5_end 32 = .ok (.iload 4, 2) := by decide +kernel
theorem dX5_end_34 : decode cX5_end 34 = .ok (.invokevirtual 70, 3) := by decide +kernel
theorem dX5_end_37 : decode cX5_end 37 = .ok (.ireturn, 1) := by decide +kernel
theorem dX5_end_38 : decode cX5_end 38 = .ok (.aload_n 3, 1) := by decide +kernel
theorem dX5_end_39 : decode cX5_end 39 = .ok (.iload_n 2, 1) := by decide +kernel
theorem dX5_end_40 : decode cX5_end 40 = .ok (.invokevirtual 207, 3) := by decide +kernel
theorem dX5_end_43 : decode cX5_end 43 = .ok (.ireturn, 1) := by decide +kernel
theorem dX5_send_0 : decode cX5_send 0 = .ok (.aload_n 0, 1) := by decide +kernel
theorem dX5_send_1 : decode cX5_send 1 = .ok (.iload_n 1, 1) := by decide +kernel
theorem dX5_send_2 : decode cX5_send 2 = .ok (.invokevirtual 132, 3) := by decide +kernel
theorem dX5_send_5 : decode cX5_send 5 = .ok (.astore_n 2, 1) := by decide +kernel
theorem dX5_send_6 : decode cX5_send 6 = .ok (.aload_n 2, 1) := by decide +kernel
theorem dX5_send_7 : decode cX5_send 7 = .ok (.ifnonnull 9, 3) := by decide +kernel
theorem dX5_send_10 : decode cX5_send 10 = .ok (.aload_n 0, 1) := by decide +kernel
end
section
theorem dX5_send_11 : decode cX5_send 11 = .ok (.iconst (-1), 1) := by decide +kernel
theorem dX5_send_12 : decode cX5_send 12 = .ok (.invokevirtual 70, 3) := by decide +kernel
theorem dX5_send_15 : decode cX5_send 15 = .ok (.ireturn, 1) := by decide +kernel
theorem dX5_send_16 : decode cX5_send 16 = .ok (.aload_n 2, 1) := by decide +kernel
theorem dX5_send_17 : decode cX5_send 17 = .ok (.getfield 139, 3) := by decide +kernel
theorem dX5_send_20 : decode cX5_send 20 = .ok (.iconst (-1), 1) := by decide +kernel
theorem dX5_send_21 : decode cX5_send 21 = .ok (.if_icmp .ne 19, 3) := by decide +kernel
theorem dX5_send_24 : decode cX5_send 24 = .ok (.aload_n 2, 1) := by decide +kernel
theorem dX5_send_25 : decode cX5_send 25 = .ok (.getfield 210, 3) := by decide +kernel
theorem dX5_send_28 : decode cX5_send 28 = .ok (.iconst 2, 1) := by decide +kernel
theorem dX5_send_29 : decode cX5_send 29 = .ok (.if_icmp .ge 11, 3) := by decide +kernel
theorem dX5_send_32 : decode cX5_send 32 = .ok (.aload_n 2, 1) := by decide +kernel
theorem dX5_send_33 : decode cX5_send 33 = .ok (.getfield 213, 3) := by decide +kernel
theorem dX5_send_36 : decode cX5_send 36 = .ok (.iconst 3, 1) := by decide +kernel
theorem dX5_send_37 : decode cX5_send 37 = .ok (.if_icmp .lt 10, 3) := by decide +kernel
theorem dX5_send_40 : decode cX5_send 40 = .ok (.aload_n 0, 1) := by decide +kernel
theorem dX5_send_41 : decode cX5_send 41 = .ok (.bipush (-2), 2) := by decide +kernel
theorem dX5_send_43 : decode cX5_send 43 = .ok (.invokevirtual 70, 3) := by decide +kernel
theorem dX5_send_46 : decode cX5_send 46 = .ok (.ireturn, 1) := by decide +kernel
theorem dX5_send_47 : decode cX5_send 47 = .ok (.aload_n 0, 1) := by decide +kernel
theorem dX5_send_48 : decode cX5_send 48 = .ok (.getfield 45, 3) := by decide +kernel
theorem dX5_send_51 : decode cX5_send 51 = .ok (.iconst 1, 1) := by decide +kernel
theorem dX5_send_52 : decode cX5_send 52 = .ok (.invokevirtual 113, 3) := by decide +kernel
theorem dX5_send_55 : decode cX5_send 55 = .ok (.ifCond .eq 16, 3) := by decide +kernel
theorem dX5_send_58 : decode cX5_send 58 = .ok (.aload_n 0, 1) := by decide +kernel
theorem dX5_send_59 : decode cX5_send 59 = .ok (.getfield 116, 3) := by decide +kernel
theorem dX5_send_62 : decode cX5_send 62 = .ok (.bipush 10, 2) := by decide +kernel
theorem dX5_send_64 : decode cX5_send 64 = .ok (.iadd, 1) := by decide +kernel
theorem dX5_send_65 : decode cX5_send 65 = .ok (.sipush 2000, 3) := by decide +kernel
theorem dX5_send_68 : decode cX5_send 68 = .ok (.if_icmp .le 10, 3) := by decide +kernel
theorem dX5_send_71 : decode cX5_send 71 = .ok (.aload_n 0, 1) := by decide +kernel
theorem dX5_send_72 : decode cX5_send 72 = .ok (.bipush (-6), 2) := by decide +kernel
theorem dX5_send_74 : decode cX5_send 74 = .ok (.invokevirtual 70, 3) := by decide +kernel
theorem dX5_send_77 : decode cX5_send 77 = .ok (.ireturn, 1) := by decide +kernel
theorem dX5_send_78 : decode cX5_send 78 = .ok (.aload_n 2, 1) := by decide +kernel
theorem dX5_send_79 : decode cX5_send 79 = .ok (.aload_n 0, 1) := by decide +kernel
theorem dX5_send_80 : decode cX5_send 80 = .ok (.getfield 116, 3) := by decide +kernel
theorem dX5_send_83 : decode cX5_send 83 = .ok (.bipush 10, 2) := by decide +kernel
theorem dX5_send_85 : decode cX5_send 85 = .ok (.iadd, 1) := by decide +kernel
theorem dX5_send_86 : decode cX5_send 86 = .ok (.putfield 216, 3) := by decide +kernel
theorem dX5_send_89 : decode cX5_send 89 = .ok (.aload_n 0, 1) := by decide +kernel
theorem dX5_send_90 : decode cX5_send 90 = .ok (.aload_n 2, 1) := by decide +kernel
theorem dX5_send_91 : decode cX5_send 91 = .ok (.bipush (-2), 2) := by decide +kernel
theorem dX5_send_93 : decode cX5_send 93 = .ok (.invokevirtual 128, 3) := by decide +kernel
theorem dX5_send_96 : decode cX5_send 96 = .ok (.aload_n 2, 1) := by decide +kernel
theorem dX5_send_97 : decode cX5_send 97 = .ok (.getfield 216, 3) := by decide +kernel
theorem dX5_send_100 : decode cX5_send 100 = .ok (.ireturn, 1) := by decide +kernel
theorem dX5_mend_0 : decode cX5_mend 0 = .ok (.aload_n 0, 1) := by decide +kernel
theorem dX5_mend_1 : decode cX5_mend 1 = .ok (.iload_n 1, 1) := by decide +kernel
theorem dX5_mend_2 : decode cX5_mend 2 = .ok (.invokevirtual 132, 3) := by decide +kernel
theorem dX5_mend_5 : decode cX5_mend 5 = .ok (.astore_n 2, 1) := by decide +kernel
theorem dX5_mend_6 : decode cX5_mend 6 = .ok (.aload_n 2, 1) := by decide +kernel
theorem dX5_mend_7 : decode cX5_mend 7 = .ok (.ifnonnull 9, 3) := by decide +kernel
theorem dX5_mend_10 : decode cX5_mend 10 = .ok (.aload_n 0, 1) := by decide +kernel
theorem dX5_mend_11 : decode cX5_mend 11 = .ok (.iconst (-1), 1) := by decide +kernel
theorem dX5_mend_12 : decode cX5_mend 12 = .ok (.invokevirtual 70, 3) := by decide +kernel
theorem dX5_mend_15 : decode cX5_mend 15 = .ok (.ireturn, 1) := by decide +kernel
theorem dX5_mend_16 : decode cX5_mend 16 = .ok (.aload_n 2, 1) := by decide +kernel
theorem dX5_mend_17 : decode cX5_mend 17 = .ok (.getfield 139, 3) := by decide +kernel
theorem dX5_mend_20 : decode cX5_mend 20 = .ok (.iconst (-1), 1) := by decide +kernel
theorem dX5_mend_21 : decode cX5_mend 21 = .ok (.if_icmp .eq 10, 3) := by decide +kernel
theorem dX5_mend_24 : decode cX5_mend 24 = .ok (.aload_n 0, 1) := by decide +kernel
theorem dX5_mend_25 : decode cX5_mend 25 = .ok (.bipush (-2), 2) := by decide +kernel
theorem dX5_mend_27 : decode cX5_mend 27 = .ok (.invokevirtual 70, 3) := by decide +kernel
theorem dX5_mend_30 : decode cX5_mend 30 = .ok (.ireturn, 1) := by decide +kernel
theorem dX5_mend_31 : decode cX5_mend 31 = .ok (.aload_n 2, 1) := by decide +kernel
theorem dX5_mend_32 : decode cX5_mend 32 = .ok (.getfield 213, 3) := by decide +kernel
theorem dX5_mend_35 : decode cX5_mend 35 = .ok (.bipush 9, 2) := by decide +kernel
theorem dX5_mend_37 : decode cX5_mend 37 = .ok (.if_icmp .lt 10, 3) := by decide +kernel
theorem dX5_mend_40 : decode cX5_mend 40 = .ok (.aload_n 0, 1) := by decide +kernel
theorem dX5_mend_41 : decode cX5_mend 41 = .ok (.bipush (-6), 2) := by decide +kernel
theorem dX5_mend_43 : decode cX5_mend 43 = .ok (.invokevirtual 70, 3) := by decide +kernel
theorem dX5_mend_46 : decode cX5_mend 46 = .ok (.ireturn, 1) := by decide +kernel
theorem dX5_mend_47 : decode cX5_mend 47 = .ok (.aload_n 2, 1) := by decide +kernel
theorem dX5_mend_48 : decode cX5_mend 48 = .ok (.dup, 1) := by decide +kernel
theorem dX5_mend_49 : decode cX5_mend 49 = .ok (.getfield 213, 3) := by decide +kernel
theorem dX5_mend_52 : decode cX5_mend 52 = .ok (.iconst 1, 1) := by decide +kernel
theorem dX5_mend_53 : decode cX5_mend 53 = .ok (.iadd, 1) := by decide +kernel
theorem dX5_mend_54 : decode cX5_mend 54 = .ok (.putfield 213, 3) := by decide +kernel
theorem dX5_mend_57 : decode cX5_mend 57 = .ok (.aload_n 2, 1) := by decide +kernel
theorem dX5_mend_58 : decode cX5_mend 58 = .ok (.getfield 213, 3) := by decide +kernel
theorem dX5_mend_61 : decode cX5_mend 61 = .ok (.ireturn, 1) := by decide +kernel
theorem dX5_cast_0 : decode cX5_cast 0 = .ok (.aload_n 0, 1) := by decide +kernel
theorem dX5_cast_1 : decode cX5_cast 1 = .ok (.iload_n 1, 1) := by decide +kernel
theorem dX5_cast_2 : decode cX5_cast 2 = .ok (.invokevirtual 132, 3) := by decide +kernel
theorem dX5_cast_5 : decode cX5_cast 5 = .ok (.astore_n 2, 1) := by decide +kernel
theorem dX5_cast_6 : decode cX5_cast 6 = .ok (.aload_n 2, 1) := by decide +kernel
theorem dX5_cast_7 : decode cX5_cast 7 = .ok (.ifnonnull 9, 3) := by decide +kernel
theorem dX5_cast_10 : decode cX5_cast 10 = .ok (.aload_n 0, 1) := by decide +kernel
theorem dX5_cast_11 : decode cX5_cast 11 = .ok (.iconst (-1), 1) := by decide +kernel
theorem dX5_cast_12 : decode cX5_cast 12 = .ok (.invokevirtual 70, 3) := by decide +kernel
theorem dX5_cast_15 : decode cX5_cast 15 = .ok (.ireturn, 1) := by decide +kernel
theorem dX5_cast_16 : decode cX5_cast 16 = .ok (.aload_n 2, 1) := by decide +kernel
theorem dX5_cast_17 : decode cX5_cast 17 = .ok (.getfield 139, 3) := by decide +kernel
theorem dX5_cast_20 : decode cX5_cast 20 = .ok (.iconst (-1), 1) := by decide +kernel
theorem dX5_cast_21 : decode cX5_cast 21 = .ok (.if_icmp .eq 10, 3) := by decide +kernel
theorem dX5_cast_24 : decode cX5_cast 24 = .ok (.aload_n 0, 1) := by decide +kernel
theorem dX5_cast_25 : decode cX5_cast 25 = .ok (.bipush (-2), 2) := by decide +kernel
theorem dX5_cast_27 : decode cX5_cast 27 = .ok (.invokevirtual 70, 3) := by decide +kernel
theorem dX5_cast_30 : decode cX5_cast 30 = .ok (.ireturn, 1) := by decide +kernel
theorem dX5_cast_31 : decode cX5_cast 31 = .ok (.aload_n 0, 1) := by decide +kernel
theorem dX5_cast_32 : decode cX5_cast 32 = .ok (.getfield 45, 3) := by decide +kernel
theorem dX5_cast_35 : decode cX5_cast 35 = .ok (.iconst 1, 1) := by decide +kernel
theorem dX5_cast_36 : decode cX5_cast 36 = .ok (.invokevirtual 113, 3) := by decide +kernel
theorem dX5_cast_39 : decode cX5_cast 39 = .ok (.ifCond .ne 10, 3) := by decide +kernel
theorem dX5_cast_42 : decode cX5_cast 42 = .ok (.aload_n 0, 1) := by decide +kernel
theorem dX5_cast_43 : decode cX5_cast 43 = .ok (.bipush (-6), 2) := by decide +kernel
theorem dX5_cast_45 : decode cX5_cast 45 = .ok (.invokevirtual 70, 3) := by decide +kernel
theorem dX5_cast_48 : decode cX5_cast 48 = .ok (.ireturn, 1) := by decide +kernel
theorem dX5_cast_49 : decode cX5_cast 49 = .ok (.aload_n 0, 1) := by decide +kernel
theorem dX5_cast_50 : decode cX5_cast 50 = .ok (.aload_n 2, 1) := by decide +kernel
theorem dX5_cast_51 : decode cX5_cast 51 = .ok (.bipush (-3), 2) := by decide +kernel
theorem dX5_cast_53 : decode cX5_cast 53 = .ok (.invokevirtual 128, 3) := by decide +kernel
theorem dX5_cast_56 : decode cX5_cast 56 = .ok (.iconst 1, 1) := by decide +kernel
theorem dX5_cast_57 : decode cX5_cast 57 = .ok (.ireturn, 1) := by decide +kernel
theorem dX5_days_0 : decode cX5_days 0 = .ok (.iload_n 1, 1) := by decide +kernel
theorem dX5_days_1 : decode cX5_days 1 = .ok (.iconst 1, 1) := by decide +kernel
theorem dX5_days_2 : decode cX5_days 2 = .ok (.sipush 2000, 3) := by decide +kernel
theorem dX5_days_5 : decode cX5_days 5 = .ok (.aload_n 0, 1) := by decide +kernel
theorem dX5_days_6 : decode cX5_days 6 = .ok (.getfield 116, 3) := by decide +kernel
theorem dX5_days_9 : decode cX5_days 9 = .ok (.isub, 1) := by decide +kernel
theorem dX5_days_10 : decode cX5_days 10 = .ok (.invokestatic 92, 3) := by decide +kernel
theorem dX5_days_13 : decode cX5_days 13 = .ok (.istore_n 2, 1) := by decide +kernel
theorem dX5_days_14 : decode cX5_days 14 = .ok (.iload_n 2, 1) := by decide +kernel
theorem dX5_days_15 : decode cX5_days 15 = .ok (.ifCond .eq 9, 3) := by decide +kernel
theorem dX5_days_18 : decode cX5_days 18 = .ok (.aload_n 0, 1) := by decide +kernel
theorem dX5_days_19 : decode cX5_days 19 = .ok (.iload_n 2, 1) := by decide +kernel
theorem dX5_days_20 : decode cX5_days 20 = .ok (.invokevirtual 70, 3) := by decide +kernel
theorem dX5_days_23 : decode cX5_days 23 = .ok (.ireturn, 1) := by decide +kernel
theorem dX5_days_24 : decode cX5_days 24 = .ok (.aload_n 0, 1) := by decide +kernel
theorem dX5_days_25 : decode cX5_days 25 = .ok (.getfield 116, 3) := by decide +kernel
theorem dX5_days_28 : decode cX5_days 28 = .ok (.iload_n 1, 1) := by decide +kernel
theorem dX5_days_29 : decode cX5_days 29 = .ok (.iadd, 1) := by decide +kernel
theorem dX5_days_30 : decode cX5_days 30 = .ok (.istore_n 3, 1) := by decide +kernel
theorem dX5_days_31 : decode cX5_days 31 = .ok (.iconst 0, 1) := by decide +kernel
theorem dX5_days_32 : decode cX5_days 32 = .ok (.istore 4, 2) := by decide +kernel
theorem dX5_days_34 : decode cX5_days 34 = .ok (.iload 4, 2) := by decide +kernel
theorem dX5_days_36 : decode cX5_days 36 = .ok (.bipush 40, 2) := by decide +kernel
theorem dX5_days_38 : decode cX5_days 38 = .ok (.if_icmp .ge 39, 3) := by decide +kernel
theorem dX5_days_41 : decode cX5_days 41 = .ok (.aload_n 0, 1) := by decide +kernel
theorem dX5_days_42 : decode cX5_days 42 = .ok (.iload_n 3, 1) := by decide +kernel
theorem dX5_days_43 : decode cX5_days 43 = .ok (.invokevirtual 219, 3) := by decide +kernel
theorem dX5_days_46 : decode cX5_days 46 = .ok (.astore 5, 2) := by decide +kernel
theorem dX5_days_48 : decode cX5_days 48 = .ok (.aload 5, 2) := by decide +kernel
theorem dX5_days_50 : decode cX5_days 50 = .ok (.ifnonnull 6, 3) := by decide +kernel
theorem dX5_days_53 : decode cX5_days 53 = .ok (.goto 24, 3) := by decide +kernel
theorem dX5_days_56 : decode cX5_days 56 = .ok (.aload_n 0, 1) := by decide +kernel
theorem dX5_days_57 : decode cX5_days 57 = .ok (.aload 5, 2) := by decide +kernel
theorem dX5_days_59 : decode cX5_days 59 = .ok (.getfield 216, 3) := by decide +kernel
theorem dX5_days_62 : decode cX5_days 62 = .ok (.putfield 116, 3) := by decide +kernel
theorem dX5_days_65 : decode cX5_days 65 = .ok (.aload_n 0, 1) := by decide +kernel
theorem dX5_days_66 : decode cX5_days 66 = .ok (.aload 5, 2) := by decide +kernel
theorem dX5_days_68 : decode cX5_days 68 = .ok (.invokevirtual 222, 3) := by decide +kernel
theorem dX5_days_71 : decode cX5_days 71 = .ok (.iinc 4 1, 3) := by decide +kernel
theorem dX5_days_74 : decode cX5_days 74 = .ok (.goto (-40), 3) := by decide +kernel
theorem dX5_days_77 : decode cX5_days 77 = .ok (.aload_n 0, 1) := by decide +kernel
theorem dX5_days_78 : decode cX5_days 78 = .ok (.iload_n 3, 1) := by decide +kernel
theorem dX5_days_79 : decode cX5_days 79 = .ok (.putfield 116, 3) := by decide +kernel
theorem dX5_days_82 : decode cX5_days 82 = .ok (.aload_n 0, 1) := by decide +kernel
theorem dX5_days_83 : decode cX5_days 83 = .ok (.getfield 116, 3) := by decide +kernel
theorem dX5_days_86 : decode cX5_days 86 = .ok (.ireturn, 1) := by decide +kernel
theorem dX5_few_0 : decode cX5_few 0 = .ok (.aload_n 0, 1) := by decide +kernel
theorem dX5_few_1 : decode cX5_few 1 = .ok (.iload_n 1, 1) := by decide +kernel
theorem dX5_few_2 : decode cX5_few 2 = .ok (.invokevirtual 77, 3) := by decide +kernel
theorem dX5_few_5 : decode cX5_few 5 = .ok (.astore 4, 2) := by decide +kernel
theorem dX5_few_7 : decode cX5_few 7 = .ok (.aload 4, 2) := by decide +kernel
theorem dX5_few_9 : decode cX5_few 9 = .ok (.ifnull 10, 3) := by decide +kernel
theorem dX5_few_12 : decode cX5_few 12 = .ok (.iload_n 2, 1) := by decide +kernel
theorem dX5_few_13 : decode cX5_few 13 = .ok (.invokestatic 104, 3) := by decide +kernel
theorem dX5_few_16 : decode cX5_few 16 = .ok (.ifCond .ne 9, 3) := by decide +kernel
theorem dX5_few_19 : decode cX5_few 19 = .ok (.aload_n 0, 1) := by decide +kernel
theorem dX5_few_20 : decode cX5_few 20 = .ok (.iconst (-1), 1) := by decide +kernel
theorem dX5_few_21 : decode cX5_few 21 = .ok (.invokevirtual 70, 3) := by decide +kernel
theorem dX5_few_24 : decode cX5_few 24 = .ok (.ireturn, 1) := by decide +kernel
theorem dX5_few_25 : decode cX5_few 25 = .ok (.iload_n 3, 1) := by decide +kernel
theorem dX5_few_26 : decode cX5_few 26 = .ok (.iconst 0, 1) := by decide +kernel
theorem dX5_few_27 : decode cX5_few 27 = .ok (.ldc 171, 2) := by decide +kernel
theorem dX5_few_29 : decode cX5_few 29 = .ok (.invokestatic 92, 3) := by decide +kernel
theorem dX5_few_32 : decode cX5_few 32 = .ok (.istore 5, 2) := by decide +kernel
theorem dX5_few_34 : decode cX5_few 34 = .ok (.iload 5, 2) := by decide +kernel
theorem dX5_few_36 : decode cX5_few 36 = .ok (.ifCond .eq 10, 3) := by decide +kernel
theorem dX5_few_39 : decode cX5_few 39 = .ok (.aload_n 0, 1) := by decide +kernel
theorem dX5_few_40 : decode cX5_few 40 = .ok (.iload 5, 2) := by decide +kernel
theorem dX5_few_42 : decode cX5_few 42 = .ok (.invokevirtual 70, 3) := by decide +kernel
theorem dX5_few_45 : decode cX5_few 45 = .ok (.ireturn, 1) := by decide +kernel
theorem dX5_few_46 : decode cX5_few 46 = .ok (.aload_n 0, 1) := by decide +kernel
theorem dX5_few_47 : decode cX5_few 47 = .ok (.getfield 59, 3) := by decide +kernel
theorem dX5_few_50 : decode cX5_few 50 = .ok (.aload_n 0, 1) := by decide +kernel
theorem dX5_few_51 : decode cX5_few 51 = .ok (.getfield 36, 3) := by decide +kernel
theorem dX5_few_54 : decode cX5_few 54 = .ok (.iload_n 2, 1) := by decide +kernel
theorem dX5_few_55 : decode cX5_few 55 = .ok (.invokestatic 96, 3) := by decide +kernel
theorem dX5_few_58 : decode cX5_few 58 = .ok (.i2l, 1) := by decide +kernel
theorem dX5_few_59 : decode cX5_few 59 = .ok (.ldc2_w 226, 3) := by decide +kernel
theorem dX5_few_62 : decode cX5_few 62 = .ok (.invokevirtual 228, 3) := by decide +kernel
theorem dX5_few_65 : decode cX5_few 65 = .ok (.iconst 0, 1) := by decide +kernel
theorem dX5_few_66 : decode cX5_few 66 = .ok (.istore 6, 2) := by decide +kernel
theorem dX5_few_68 : decode cX5_few 68 = .ok (.iconst 0, 1) := by decide +kernel
theorem dX5_few_69 : decode cX5_few 69 = .ok (.istore 7, 2) := by decide +kernel
theorem dX5_few_71 : decode cX5_few 71 = .ok (.iload 7, 2) := by decide +kernel
theorem dX5_few_73 : decode cX5_few 73 = .ok (.aload 4, 2) := by decide +kernel
theorem dX5_few_75 : decode cX5_few 75 = .ok (.getfield 232, 3) := by decide +kernel
theorem dX5_few_78 : decode cX5_few 78 = .ok (.if_icmp .ge 23, 3) := by decide +kernel
theorem dX5_few_81 : decode cX5_few 81 = .ok (.iload 6, 2) := by decide +kernel
theorem dX5_few_83 : decode cX5_few 83 = .ok (.aload_n 0, 1) := by decide +kernel
theorem dX5_few_84 : decode cX5_few 84 = .ok (.aload 4, 2) := by decide +kernel
theorem dX5_few_86 : decode cX5_few 86 = .ok (.iload 7, 2) := by decide +kernel
theorem dX5_few_88 : decode cX5_few 88 = .ok (.iload_n 3, 1) := by decide +kernel
theorem dX5_few_89 : decode cX5_few 89 = .ok (.invokevirtual 235, 3) := by decide +kernel
theorem dX5_few_92 : decode cX5_few 92 = .ok (.iadd, 1) := by decide +kernel
theorem dX5_few_93 : decode cX5_few 93 = .ok (.istore 6, 2) := by decide +kernel
theorem dX5_few_95 : decode cX5_few 95 = .ok (.iinc 7 1, 3) := by decide +kernel
theorem dX5_few_98 : decode cX5_few 98 = .ok (.goto (-27), 3) := by decide +kernel
theorem dX5_few_101 : decode cX5_few 101 = .ok (.iload 6, 2) := by decide +kernel
theorem dX5_few_103 : decode cX5_few 103 = .ok (.ireturn, 1) := by decide +kernel
theorem dX5_asOf_0 : decode cX5_asOf 0 = .ok (.aload_n 0, 1) := by decide +kernel
theorem dX5_asOf_1 : decode cX5_asOf 1 = .ok (.iload_n 1, 1) := by decide +kernel
theorem dX5_asOf_2 : decode cX5_asOf 2 = .ok (.invokevirtual 132, 3) := by decide +kernel
theorem dX5_asOf_5 : decode cX5_asOf 5 = .ok (.astore_n 3, 1) := by decide +kernel
theorem dX5_asOf_6 : decode cX5_asOf 6 = .ok (.aload_n 3, 1) := by decide +kernel
theorem dX5_asOf_7 : decode cX5_asOf 7 = .ok (.ifnonnull 12, 3) := by decide +kernel
theorem dX5_asOf_10 : decode cX5_asOf 10 = .ok (.aload_n 0, 1) := by decide +kernel
theorem dX5_asOf_11 : decode cX5_asOf 11 = .ok (.iconst (-1), 1) := by decide +kernel
theorem dX5_asOf_12 : decode cX5_asOf 12 = .ok (.invokevirtual 70, 3) := by decide +kernel
theorem dX5_asOf_15 : decode cX5_asOf 15 = .ok (.bipush 10, 2) := by decide +kernel
theorem dX5_asOf_17 : decode cX5_asOf 17 = .ok (.isub, 1) := by decide +kernel
theorem dX5_asOf_18 : decode cX5_asOf 18 = .ok (.ireturn, 1) := by decide +kernel
theorem dX5_asOf_19 : decode cX5_asOf 19 = .ok (.iload_n 2, 1) := by decide +kernel
theorem dX5_asOf_20 : decode cX5_asOf 20 = .ok (.iconst 0, 1) := by decide +kernel
theorem dX5_asOf_21 : decode cX5_asOf 21 = .ok (.aload_n 0, 1) := by decide +kernel
theorem dX5_asOf_22 : decode cX5_asOf 22 = .ok (.getfield 116, 3) := by decide +kernel
theorem dX5_asOf_25 : decode cX5_asOf 25 = .ok (.invokestatic 92, 3) := by decide +kernel
theorem dX5_asOf_28 : decode cX5_asOf 28 = .ok (.istore 4, 2) := by decide +kernel
theorem dX5_asOf_30 : decode cX5_asOf 30 = .ok (.iload 4, 2) := by decide +kernel
theorem dX5_asOf_32 : decode cX5_asOf 32 = .ok (.ifCond .eq 13, 3) := by decide +kernel
theorem dX5_asOf_35 : decode cX5_asOf 35 = .ok (.aload_n 0, 1) := by decide +kernel
theorem dX5_asOf_36 : decode cX5_asOf 36 = .ok (.iload 4, 2) := by decide +kernel
theorem dX5_asOf_38 : decode cX5_asOf 38 = .ok (.invokevirtual 70, 3) := by decide +kernel
theorem dX5_asOf_41 : decode cX5_asOf 41 = .ok (.bipush 10, 2) := by decide +kernel
theorem dX5_asOf_43 : decode cX5_asOf 43 = .ok (.isub, 1) := by decide +kernel
theorem dX5_asOf_44 : decode cX5_asOf 44 = .ok (.ireturn, 1) := by decide +kernel
theorem dX5_asOf_45 : decode cX5_asOf 45 = .ok (.aload_n 0, 1) := by decide +kernel
theorem dX5_asOf_46 : decode cX5_asOf 46 = .ok (.getfield 45, 3) := by decide +kernel
theorem dX5_asOf_49 : decode cX5_asOf 49 = .ok (.aload_n 3, 1) := by decide +kernel
theorem dX5_asOf_50 : decode cX5_asOf 50 = .ok (.getfield 125, 3) := by decide +kernel
theorem dX5_asOf_53 : decode cX5_asOf 53 = .ok (.iload_n 2, 1) := by decide +kernel
theorem dX5_asOf_54 : decode cX5_asOf 54 = .ok (.invokevirtual 239, 3) := by decide +kernel
theorem dX5_asOf_57 : decode cX5_asOf 57 = .ok (.ireturn, 1) := by decide +kernel
theorem dX5_tyreOf_0 : decode cX5_tyreOf 0 = .ok (.aload_n 0, 1) := by decide +kernel
theorem dX5_tyreOf_1 : decode cX5_tyreOf 1 = .ok (.iload_n 1, 1) := by decide +kernel
theorem dX5_tyreOf_2 : decode cX5_tyreOf 2 = .ok (.invokevirtual 132, 3) := by decide +kernel
theorem dX5_tyreOf_5 : decode cX5_tyreOf 5 = .ok (.astore_n 3, 1) := by decide +kernel
theorem dX5_tyreOf_6 : decode cX5_tyreOf 6 = .ok (.aload_n 3, 1) := by decide +kernel
theorem dX5_tyreOf_7 : decode cX5_tyreOf 7 = .ok (.ifnonnull 6, 3) := by decide +kernel
theorem dX5_tyreOf_10 : decode cX5_tyreOf 10 = .ok (.bipush (-20), 2) := by decide +kernel
theorem dX5_tyreOf_12 : decode cX5_tyreOf 12 = .ok (.ireturn, 1) := by decide +kernel
theorem dX5_tyreOf_13 : decode cX5_tyreOf 13 = .ok (.iload_n 2, 1) := by decide +kernel
theorem dX5_tyreOf_14 : decode cX5_tyreOf 14 = .ok (.tableswitch 96 0 8 #[50, 55, 60, 65, 70, 75, 80, 85, 91], 50) := by decide +kernel
theorem dX5_tyreOf_64 : decode cX5_tyreOf 64 = .ok (.aload_n 3, 1) := by decide +kernel
theorem dX5_tyreOf_65 : decode cX5_tyreOf 65 = .ok (.getfield 155, 3) := by decide +kernel
theorem dX5_tyreOf_68 : decode cX5_tyreOf 68 = .ok (.ireturn, 1) := by decide +kernel
theorem dX5_tyreOf_69 : decode cX5_tyreOf 69 = .ok (.aload_n 3, 1) := by decide +kernel
theorem dX5_tyreOf_70 : decode cX5_tyreOf 70 = .ok (.getfield 243, 3) := by decide +kernel
theorem dX5_tyreOf_73 : decode cX5_tyreOf 73 = .ok (.ireturn, 1) := by decide +kernel
theorem dX5_tyreOf_74 : decode cX5_tyreOf 74 = .ok (.aload_n 3, 1) := by decide +kernel
theorem dX5_tyreOf_75 : decode cX5_tyreOf 75 = .ok (.getfield 210, 3) := by decide +kernel
theorem dX5_tyreOf_78 : decode cX5_tyreOf 78 = .ok (.ireturn, 1) := by decide +kernel
theorem dX5_tyreOf_79 : decode cX5_tyreOf 79 = .ok (.aload_n 3, 1) := by decide +kernel
theorem dX5_tyreOf_80 : decode cX5_tyreOf 80 = .ok (.getfield 213, 3) := by decide +kernel
theorem dX5_tyreOf_83 : decode cX5_tyreOf 83 = .ok (.ireturn, 1) := by decide +kernel
theorem dX5_tyreOf_84 : decode cX5_tyreOf 84 = .ok (.aload_n 3, 1) := by decide +kernel
theorem dX5_tyreOf_85 : decode cX5_tyreOf 85 = .ok (.getfield 246, 3) := by decide +kernel
theorem dX5_tyreOf_88 : decode cX5_tyreOf 88 = .ok (.ireturn, 1) := by decide +kernel
theorem dX5_tyreOf_89 : decode cX5_tyreOf 89 = .ok (.aload_n 3, 1) := by decide +kernel
theorem dX5_tyreOf_90 : decode cX5_tyreOf 90 = .ok (.getfield 161, 3) := by decide +kernel
theorem dX5_tyreOf_93 : decode cX5_tyreOf 93 = .ok (.ireturn, 1) := by decide +kernel
theorem dX5_tyreOf_94 : decode cX5_tyreOf 94 = .ok (.aload_n 3, 1) := by decide +kernel
theorem dX5_tyreOf_95 : decode cX5_tyreOf 95 = .ok (.getfield 139, 3) := by decide +kernel
theorem dX5_tyreOf_98 : decode cX5_tyreOf 98 = .ok (.ireturn, 1) := by decide +kernel
theorem dX5_tyreOf_99 : decode cX5_tyreOf 99 = .ok (.aload_n 3, 1) := by decide +kernel
theorem dX5_tyreOf_100 : decode cX5_tyreOf 100 = .ok (.iconst 0, 1) := by decide +kernel
theorem dX5_tyreOf_101 : decode cX5_tyreOf 101 = .ok (.invokevirtual 204, 3) := by decide +kernel
theorem dX5_tyreOf_104 : decode cX5_tyreOf 104 = .ok (.ireturn, 1) := by decide +kernel
theorem dX5_tyreOf_105 : decode cX5_tyreOf 105 = .ok (.aload_n 3, 1) := by decide +kernel
theorem dX5_tyreOf_106 : decode cX5_tyreOf 106 = .ok (.getfield 216, 3) := by decide +kernel
theorem dX5_tyreOf_109 : decode cX5_tyreOf 109 = .ok (.ireturn, 1) := by decide +kernel
theorem dX5_tyreOf_110 : decode cX5_tyreOf 110 = .ok (.bipush (-20), 2) := by decide +kernel
theorem dX5_tyreOf_112 : decode cX5_tyreOf 112 = .ok (.ireturn, 1) := by decide +kernel
theorem dX5_reading_0 : decode cX5_reading 0 = .ok (.aload_n 0, 1) := by decide +kernel
theorem dX5_reading_1 : decode cX5_reading 1 = .ok (.iload_n 1, 1) := by decide +kernel
theorem dX5_reading_2 : decode cX5_reading 2 = .ok (.invokevirtual 132, 3) := by decide +kernel
theorem dX5_reading_5 : decode cX5_reading 5 = .ok (.astore 4, 2) := by decide +kernel
theorem dX5_reading_7 : decode cX5_reading 7 = .ok (.aload 4, 2) := by decide +kernel
theorem dX5_reading_9 : decode cX5_reading 9 = .ok (.ifnull 12, 3) := by decide +kernel
theorem dX5_reading_12 : decode cX5_reading 12 = .ok (.aload 4, 2) := by decide +kernel
theorem dX5_reading_14 : decode cX5_reading 14 = .ok (.iload_n 2, 1) := by decide +kernel
theorem dX5_reading_15 : decode cX5_reading 15 = .ok (.invokevirtual 249, 3) := by decide +kernel
theorem dX5_reading_18 : decode cX5_reading 18 = .ok (.ifCond .ne 6, 3) := by decide +kernel
theorem dX5_reading_21 : decode cX5_reading 21 = .ok (.bipush (-9), 2) := by decide +kernel
theorem dX5_reading_23 : decode cX5_reading 23 = .ok (.ireturn, 1) := by decide +kernel
theorem dX5_reading_24 : decode cX5_reading 24 = .ok (.iload_n 3, 1) := by decide +kernel
theorem dX5_reading_25 : decode cX5_reading 25 = .ok (.lookupswitch 47 #[(0, 27), (1, 37)], 27) := by decide +kernel
theorem dX5_reading_52 : decode cX5_reading 52 = .ok (.aload 4, 2) := by decide +kernel
theorem dX5_reading_54 : decode cX5_reading 54 = .ok (.getfield 252, 3) := by decide +kernel
theorem dX5_reading_57 : decode cX5_reading 57 = .ok (.iload_n 2, 1) := by decide +kernel
theorem dX5_reading_58 : decode cX5_reading 58 = .ok (.invokestatic 96, 3) := by decide +kernel
theorem dX5_reading_61 : decode cX5_reading 61 = .ok (.ireturn, 1) := by decide +kernel
theorem dX5_reading_62 : decode cX5_reading 62 = .ok (.aload 4, 2) := by decide +kernel
theorem dX5_reading_64 : decode cX5_reading 64 = .ok (.getfield 255, 3) := by decide +kernel
theorem dX5_reading_67 : decode cX5_reading 67 = .ok (.iload_n 2, 1) := by decide +kernel
theorem dX5_reading_68 : decode cX5_reading 68 = .ok (.invokestatic 96, 3) := by decide +kernel
theorem dX5_reading_71 : decode cX5_reading 71 = .ok (.ireturn, 1) := by decide +kernel
theorem dX5_reading_72 : decode cX5_reading 72 = .ok (.bipush (-9), 2) := by decide +kernel
theorem dX5_reading_74 : decode cX5_reading 74 = .ok (.ireturn, 1) := by decide +kernel
theorem dX5_placeOf_0 : decode cX5_placeOf 0 = .ok (.aload_n 0, 1) := by decide +kernel
theorem dX5_placeOf_1 : decode cX5_placeOf 1 = .ok (.iload_n 1, 1) := by decide +kernel
theorem dX5_placeOf_2 : decode cX5_placeOf 2 = .ok (.invokevirtual 77, 3) := by decide +kernel
theorem dX5_placeOf_5 : decode cX5_placeOf 5 = .ok (.astore 4, 2) := by decide +kernel
theorem dX5_placeOf_7 : decode cX5_placeOf 7 = .ok (.aload 4, 2) := by decide +kernel
theorem dX5_placeOf_9 : decode cX5_placeOf 9 = .ok (.ifnull 12, 3) := by decide +kernel
theorem dX5_placeOf_12 : decode cX5_placeOf 12 = .ok (.aload 4, 2) := by decide +kernel
theorem dX5_placeOf_14 : decode cX5_placeOf 14 = .ok (.iload_n 2, 1) := by decide +kernel
theorem dX5_placeOf_15 : decode cX5_placeOf 15 = .ok (.invokevirtual 136, 3) := by decide +kernel
theorem dX5_placeOf_18 : decode cX5_placeOf 18 = .ok (.ifCond .ne 6, 3) := by decide +kernel
theorem dX5_placeOf_21 : decode cX5_placeOf 21 = .ok (.bipush (-9), 2) := by decide +kernel
theorem dX5_placeOf_23 : decode cX5_placeOf 23 = .ok (.ireturn, 1) := by decide +kernel
theorem dX5_placeOf_24 : decode cX5_placeOf 24 = .ok (.iload_n 3, 1) := by decide +kernel
theorem dX5_placeOf_25 : decode cX5_placeOf 25 = .ok (.tableswitch 51 0 2 #[27, 34, 44], 27) := by decide +kernel
theorem dX5_placeOf_52 : decode cX5_placeOf 52 = .ok (.aload 4, 2) := by decide +kernel
theorem dX5_placeOf_54 : decode cX5_placeOf 54 = .ok (.iload_n 2, 1) := by decide +kernel
theorem dX5_placeOf_55 : decode cX5_placeOf 55 = .ok (.invokevirtual 258, 3) := by decide +kernel
theorem dX5_placeOf_58 : decode cX5_placeOf 58 = .ok (.ireturn, 1) := by decide +kernel
theorem dX5_placeOf_59 : decode cX5_placeOf 59 = .ok (.aload 4, 2) := by decide +kernel
theorem dX5_placeOf_61 : decode cX5_placeOf 61 = .ok (.iload_n 2, 1) := by decide +kernel
theorem dX5_placeOf_62 : decode cX5_placeOf 62 = .ok (.invokevirtual 142, 3) := by decide +kernel
theorem dX5_placeOf_65 : decode cX5_placeOf 65 = .ok (.invokestatic 261, 3) := by decide +kernel
theorem dX5_placeOf_68 : decode cX5_placeOf 68 = .ok (.ireturn, 1) := by decide +kernel
theorem dX5_placeOf_69 : decode cX5_placeOf 69 = .ok (.aload 4, 2) := by decide +kernel
theorem dX5_placeOf_71 : decode cX5_placeOf 71 = .ok (.iload_n 2, 1) := by decide +kernel
theorem dX5_placeOf_72 : decode cX5_placeOf 72 = .ok (.invokevirtual 265, 3) := by decide +kernel
theorem dX5_placeOf_75 : decode cX5_placeOf 75 = .ok (.ireturn, 1) := by decide +kernel
theorem dX5_placeOf_76 : decode cX5_placeOf 76 = .ok (.bipush (-9), 2) := by decide +kernel
theorem dX5_placeOf_78 : decode cX5_placeOf 78 = .ok (.ireturn, 1) := by decide +kernel
theorem dX5_count_0 : decode cX5_count 0 = .ok (.iload_n 1, 1) := by decide +kernel
theorem dX5_count_1 : decode cX5_count 1 = .ok (.tableswitch 115 0 7 #[47, 52, 57, 62, 68, 93, 100, 107], 47) := by decide +kernel
theorem dX5_count_48 : decode cX5_count 48 = .ok (.aload_n 0, 1) := by decide +kernel
theorem dX5_count_49 : decode cX5_count 49 = .ok (.getfield 116, 3) := by decide +kernel
theorem dX5_count_52 : decode cX5_count 52 = .ok (.ireturn, 1) := by decide +kernel
theorem dX5_count_53 : decode cX5_count 53 = .ok (.aload_n 0, 1) := by decide +kernel
theorem dX5_count_54 : decode cX5_count 54 = .ok (.getfield 67, 3) := by decide +kernel
theorem dX5_count_57 : decode cX5_count 57 = .ok (.ireturn, 1) := by decide +kernel
theorem dX5_count_58 : decode cX5_count 58 = .ok (.aload_n 0, 1) := by decide +kernel
theorem dX5_count_59 : decode cX5_count 59 = .ok (.getfield 110, 3) := by decide +kernel
theorem dX5_count_62 : decode cX5_count 62 = .ok (.ireturn, 1) := by decide +kernel
theorem dX5_count_63 : decode cX5_count 63 = .ok (.aload_n 0, 1) := by decide +kernel
theorem dX5_count_64 : decode cX5_count 64 = .ok (.iconst (-1), 1) := by decide +kernel
theorem dX5_count_65 : decode cX5_count 65 = .ok (.invokevirtual 268, 3) := by decide +kernel
theorem dX5_count_68 : decode cX5_count 68 = .ok (.ireturn, 1) := by decide +kernel
theorem dX5_count_69 : decode cX5_count 69 = .ok (.aload_n 0, 1) := by decide +kernel
theorem dX5_count_70 : decode cX5_count 70 = .ok (.getfield 110, 3) := by decide +kernel
theorem dX5_count_73 : decode cX5_count 73 = .ok (.aload_n 0, 1) := by decide +kernel
theorem dX5_count_74 : decode cX5_count 74 = .ok (.iconst (-1), 1) := by decide +kernel
theorem dX5_count_75 : decode cX5_count 75 = .ok (.invokevirtual 268, 3) := by decide +kernel
theorem dX5_count_78 : decode cX5_count 78 = .ok (.isub, 1) := by decide +kernel
theorem dX5_count_79 : decode cX5_count 79 = .ok (.aload_n 0, 1) := by decide +kernel
theorem dX5_count_80 : decode cX5_count 80 = .ok (.bipush (-2), 2) := by decide +kernel
theorem dX5_count_82 : decode cX5_count 82 = .ok (.invokevirtual 268, 3) := by decide +kernel
theorem dX5_count_85 : decode cX5_count 85 = .ok (.isub, 1) := by decide +kernel
theorem dX5_count_86 : decode cX5_count 86 = .ok (.aload_n 0, 1) := by decide +kernel
theorem dX5_count_87 : decode cX5_count 87 = .ok (.bipush (-3), 2) := by decide +kernel
theorem dX5_count_89 : decode cX5_count 89 = .ok (.invokevirtual 268, 3) := by decide +kernel
theorem dX5_count_92 : decode cX5_count 92 = .ok (.isub, 1) := by decide +kernel
theorem dX5_count_93 : decode cX5_count 93 = .ok (.ireturn, 1) := by decide +kernel
theorem dX5_count_94 : decode cX5_count 94 = .ok (.aload_n 0, 1) := by decide +kernel
theorem dX5_count_95 : decode cX5_count 95 = .ok (.bipush (-2), 2) := by decide +kernel
theorem dX5_count_97 : decode cX5_count 97 = .ok (.invokevirtual 268, 3) := by decide +kernel
theorem dX5_count_100 : decode cX5_count 100 = .ok (.ireturn, 1) := by decide +kernel
theorem dX5_count_101 : decode cX5_count 101 = .ok (.aload_n 0, 1) := by decide +kernel
theorem dX5_count_102 : decode cX5_count 102 = .ok (.bipush (-3), 2) := by decide +kernel
theorem dX5_count_104 : decode cX5_count 104 = .ok (.invokevirtual 268, 3) := by decide +kernel
theorem dX5_count_107 : decode cX5_count 107 = .ok (.ireturn, 1) := by decide +kernel
theorem dX5_count_108 : decode cX5_count 108 = .ok (.aload_n 0, 1) := by decide +kernel
theorem dX5_count_109 : decode cX5_count 109 = .ok (.getfield 45, 3) := by decide +kernel
theorem dX5_count_112 : decode cX5_count 112 = .ok (.getfield 271, 3) := by decide +kernel
theorem dX5_count_115 : decode cX5_count 115 = .ok (.ireturn, 1) := by decide +kernel
theorem dX5_count_116 : decode cX5_count 116 = .ok (.iload_n 1, 1) := by decide +kernel
theorem dX5_count_117 : decode cX5_count 117 = .ok (.bipush 11, 2) := by decide +kernel
theorem dX5_count_119 : decode cX5_count 119 = .ok (.if_icmp .lt 23, 3) := by decide +kernel
theorem dX5_count_122 : decode cX5_count 122 = .ok (.iload_n 1, 1) := by decide +kernel
theorem dX5_count_123 : decode cX5_count 123 = .ok (.bipush 16, 2) := by decide +kernel
theorem dX5_count_125 : decode cX5_count 125 = .ok (.if_icmp .gt 17, 3) := by decide +kernel
theorem dX5_count_128 : decode cX5_count 128 = .ok (.aload_n 0, 1) := by decide +kernel
theorem dX5_count_129 : decode cX5_count 129 = .ok (.getfield 39, 3) := by decide +kernel
theorem dX5_count_132 : decode cX5_count 132 = .ok (.iload_n 1, 1) := by decide +kernel
theorem dX5_count_133 : decode cX5_count 133 = .ok (.bipush 10, 2) := by decide +kernel
theorem dX5_count_135 : decode cX5_count 135 = .ok (.isub, 1) := by decide +kernel
theorem dX5_count_136 : decode cX5_count 136 = .ok (.invokestatic 96, 3) := by decide +kernel
theorem dX5_count_139 : decode cX5_count 139 = .ok (.goto 5, 3) := by decide +kernel
theorem dX5_count_142 : decode cX5_count 142 = .ok (.bipush (-9), 2) := by decide +kernel
theorem dX5_count_144 : decode cX5_count 144 = .ok (.ireturn, 1) := by decide +kernel
theorem dX5_refuse_0 : decode cX5_refuse 0 = .ok (.aload_n 0, 1) := by decide +kernel
theorem dX5_refuse_1 : decode cX5_refuse 1 = .ok (.getfield 39, 3) := by decide +kernel
theorem dX5_refuse_4 : decode cX5_refuse 4 = .ok (.iload_n 1, 1) := by decide +kernel
theorem dX5_refuse_5 : decode cX5_refuse 5 = .ok (.ineg, 1) := by decide +kernel
theorem dX5_refuse_6 : decode cX5_refuse 6 = .ok (.aload_n 0, 1) := by decide +kernel
theorem dX5_refuse_7 : decode cX5_refuse 7 = .ok (.getfield 39, 3) := by decide +kernel
theorem dX5_refuse_10 : decode cX5_refuse 10 = .ok (.iload_n 1, 1) := by decide +kernel
theorem dX5_refuse_11 : decode cX5_refuse 11 = .ok (.ineg, 1) := by decide +kernel
theorem dX5_refuse_12 : decode cX5_refuse 12 = .ok (.invokestatic 96, 3) := by decide +kernel
theorem dX5_refuse_15 : decode cX5_refuse 15 = .ok (.iconst 1, 1) := by decide +kernel
theorem dX5_refuse_16 : decode cX5_refuse 16 = .ok (.iadd, 1) := by decide +kernel
theorem dX5_refuse_17 : decode cX5_refuse 17 = .ok (.invokestatic 100, 3) := by decide +kernel
theorem dX5_refuse_20 : decode cX5_refuse 20 = .ok (.iload_n 1, 1) := by decide +kernel
theorem dX5_refuse_21 : decode cX5_refuse 21 = .ok (.ireturn, 1) := by decide +kernel
theorem dX5_outside_0 : decode cX5_outside 0 = .ok (.iload_n 0, 1) := by decide +kernel
theorem dX5_outside_1 : decode cX5_outside 1 = .ok (.iload_n 1, 1) := by decide +kernel
theorem dX5_outside_2 : decode cX5_outside 2 = .ok (.if_icmp .ge 8, 3) := by decide +kernel
theorem dX5_outside_5 : decode cX5_outside 5 = .ok (.bipush (-4), 2) := by decide +kernel
theorem dX5_outside_7 : decode cX5_outside 7 = .ok (.goto 14, 3) := by decide +kernel
theorem dX5_outside_10 : decode cX5_outside 10 = .ok (.iload_n 0, 1) := by decide +kernel
theorem dX5_outside_11 : decode cX5_outside 11 = .ok (.iload_n 2, 1) := by decide +kernel
theorem dX5_outside_12 : decode cX5_outside 12 = .ok (.if_icmp .le 8, 3) := by decide +kernel
theorem dX5_outside_15 : decode cX5_outside 15 = .ok (.bipush (-6), 2) := by decide +kernel
theorem dX5_outside_17 : decode cX5_outside 17 = .ok (.goto 4, 3) := by decide +kernel
theorem dX5_outside_20 : decode cX5_outside 20 = .ok (.iconst 0, 1) := by decide +kernel
theorem dX5_outside_21 : decode cX5_outside 21 = .ok (.ireturn, 1) := by decide +kernel
theorem dX5_wagonAt_0 : decode cX5_wagonAt 0 = .ok (.iload_n 1, 1) := by decide +kernel
theorem dX5_wagonAt_1 : decode cX5_wagonAt 1 = .ok (.ifCond .lt 29, 3) := by decide +kernel
theorem dX5_wagonAt_4 : decode cX5_wagonAt 4 = .ok (.iload_n 1, 1) := by decide +kernel
theorem dX5_wagonAt_5 : decode cX5_wagonAt 5 = .ok (.aload_n 0, 1) := by decide +kernel
theorem dX5_wagonAt_6 : decode cX5_wagonAt 6 = .ok (.getfield 67, 3) := by decide +kernel
theorem dX5_wagonAt_9 : decode cX5_wagonAt 9 = .ok (.if_icmp .ge 21, 3) := by decide +kernel
theorem dX5_wagonAt_12 : decode cX5_wagonAt 12 = .ok (.iload_n 1, 1) := by decide +kernel
theorem dX5_wagonAt_13 : decode cX5_wagonAt 13 = .ok (.aload_n 0, 1) := by decide +kernel
theorem dX5_wagonAt_14 : decode cX5_wagonAt 14 = .ok (.getfield 11, 3) := by decide +kernel
theorem dX5_wagonAt_17 : decode cX5_wagonAt 17 = .ok (.arraylength, 1) := by decide +kernel
theorem dX5_wagonAt_18 : decode cX5_wagonAt 18 = .ok (.if_icmp .ge 12, 3) := by decide +kernel
theorem dX5_wagonAt_21 : decode cX5_wagonAt 21 = .ok (.aload_n 0, 1) := by decide +kernel
theorem dX5_wagonAt_22 : decode cX5_wagonAt 22 = .ok (.getfield 11, 3) := by decide +kernel
theorem dX5_wagonAt_25 : decode cX5_wagonAt 25 = .ok (.iload_n 1, 1) := by decide +kernel
theorem dX5_wagonAt_26 : decode cX5_wagonAt 26 = .ok (.aaload, 1) := by decide +kernel
theorem dX5_wagonAt_27 : decode cX5_wagonAt 27 = .ok (.goto 4, 3) := by decide +kernel
theorem dX5_wagonAt_30 : decode cX5_wagonAt 30 = .ok (.aconst_null, 1) := by decide +kernel
theorem dX5_wagonAt_31 : decode cX5_wagonAt 31 = .ok (.areturn, 1) := by decide +kernel
theorem dX5_tyreAt_0 : decode cX5_tyreAt 0 = .ok (.iload_n 1, 1) := by decide +kernel
theorem dX5_tyreAt_1 : decode cX5_tyreAt 1 = .ok (.ifCond .lt 29, 3) := by decide +kernel
theorem dX5_tyreAt_4 : decode cX5_tyreAt 4 = .ok (.iload_n 1, 1) := by decide +kernel
theorem dX5_tyreAt_5 : decode cX5_tyreAt 5 = .ok (.aload_n 0, 1) := by decide +kernel
theorem dX5_tyreAt_6 : decode cX5_tyreAt 6 = .ok (.getfield 110, 3) := by decide +kernel
theorem dX5_tyreAt_9 : decode cX5_tyreAt 9 = .ok (.if_icmp .ge 21, 3) := by decide +kernel
theorem dX5_tyreAt_12 : decode cX5_tyreAt 12 = .ok (.iload_n 1, 1) := by decide +kernel
theorem dX5_tyreAt_13 : decode cX5_tyreAt 13 = .ok (.aload_n 0, 1) := by decide +kernel
theorem dX5_tyreAt_14 : decode cX5_tyreAt 14 = .ok (.getfield 17, 3) := by decide +kernel
theorem dX5_tyreAt_17 : decode cX5_tyreAt 17 = .ok (.arraylength, 1) := by decide +kernel
theorem dX5_tyreAt_18 : decode cX5_tyreAt 18 = .ok (.if_icmp .ge 12, 3) := by decide +kernel
theorem dX5_tyreAt_21 : decode cX5_tyreAt 21 = .ok (.aload_n 0, 1) := by decide +kernel
theorem dX5_tyreAt_22 : decode cX5_tyreAt 22 = .ok (.getfield 17, 3) := by decide +kernel
theorem dX5_tyreAt_25 : decode cX5_tyreAt 25 = .ok (.iload_n 1, 1) := by decide +kernel
theorem dX5_tyreAt_26 : decode cX5_tyreAt 26 = .ok (.aaload, 1) := by decide +kernel
theorem dX5_tyreAt_27 : decode cX5_tyreAt 27 = .ok (.goto 4, 3) := by decide +kernel
theorem dX5_tyreAt_30 : decode cX5_tyreAt 30 = .ok (.aconst_null, 1) := by decide +kernel
theorem dX5_tyreAt_31 : decode cX5_tyreAt 31 = .ok (.areturn, 1) := by decide +kernel
theorem dX5_isKind_0 : decode cX5_isKind 0 = .ok (.iload_n 0, 1) := by decide +kernel
theorem dX5_isKind_1 : decode cX5_isKind 1 = .ok (.ifCond .lt 12, 3) := by decide +kernel
theorem dX5_isKind_4 : decode cX5_isKind 4 = .ok (.iload_n 0, 1) := by decide +kernel
theorem dX5_isKind_5 : decode cX5_isKind 5 = .ok (.iconst 4, 1) := by decide +kernel
theorem dX5_isKind_6 : decode cX5_isKind 6 = .ok (.if_icmp .gt 7, 3) := by decide +kernel
theorem dX5_isKind_9 : decode cX5_isKind 9 = .ok (.iconst 1, 1) := by decide +kernel
theorem dX5_isKind_10 : decode cX5_isKind 10 = .ok (.goto 4, 3) := by decide +kernel
theorem dX5_isKind_13 : decode cX5_isKind 13 = .ok (.iconst 0, 1) := by decide +kernel
theorem dX5_isKind_14 : decode cX5_isKind 14 = .ok (.ireturn, 1) := by decide +kernel
theorem dX5_isMaker_0 : decode cX5_isMaker 0 = .ok (.iload_n 0, 1) := by decide +kernel
theorem dX5_isMaker_1 : decode cX5_isMaker 1 = .ok (.ifCond .lt 12, 3) := by decide +kernel
theorem dX5_isMaker_4 : decode cX5_isMaker 4 = .ok (.iload_n 0, 1) := by decide +kernel
theorem dX5_isMaker_5 : decode cX5_isMaker 5 = .ok (.iconst 4, 1) := by decide +kernel
theorem dX5_isMaker_6 : decode cX5_isMaker 6 = .ok (.if_icmp .ge 7, 3) := by decide +kernel
theorem dX5_isMaker_9 : decode cX5_isMaker 9 = .ok (.iconst 1, 1) := by decide +kernel
theorem dX5_isMaker_10 : decode cX5_isMaker 10 = .ok (.goto 4, 3) := by decide +kernel
theorem dX5_isMaker_13 : decode cX5_isMaker 13 = .ok (.iconst 0, 1) := by decide +kernel
theorem dX5_isMaker_14 : decode cX5_isMaker 14 = .ok (.ireturn, 1) := by decide +kernel
theorem dX5_numberOf_0 : decode cX5_numberOf 0 = .ok (.aload_n 0, 1) := by decide +kernel
theorem dX5_numberOf_1 : decode cX5_numberOf 1 = .ok (.ifnonnull 8, 3) := by decide +kernel
theorem dX5_numberOf_4 : decode cX5_numberOf 4 = .ok (.bipush (-9), 2) := by decide +kernel
theorem dX5_numberOf_6 : decode cX5_numberOf 6 = .ok (.goto 7, 3) := by decide +kernel
theorem dX5_numberOf_9 : decode cX5_numberOf 9 = .ok (.aload_n 0, 1) := by decide +kernel
theorem dX5_numberOf_10 : decode cX5_numberOf 10 = .ok (.getfield 125, 3) := by decide +kernel
theorem dX5_numberOf_13 : decode cX5_numberOf 13 = .ok (.ireturn, 1) := by decide +kernel
theorem dX5_at_0 : decode cX5_at 0 = .ok (.iload_n 1, 1) := by decide +kernel
theorem dX5_at_1 : decode cX5_at 1 = .ok (.ifCond .lt 15, 3) := by decide +kernel
theorem dX5_at_4 : decode cX5_at 4 = .ok (.iload_n 1, 1) := by decide +kernel
theorem dX5_at_5 : decode cX5_at 5 = .ok (.aload_n 0, 1) := by decide +kernel
theorem dX5_at_6 : decode cX5_at 6 = .ok (.arraylength, 1) := by decide +kernel
theorem dX5_at_7 : decode cX5_at 7 = .ok (.if_icmp .ge 9, 3) := by decide +kernel
theorem dX5_at_10 : decode cX5_at 10 = .ok (.aload_n 0, 1) := by decide +kernel
theorem dX5_at_11 : decode cX5_at 11 = .ok (.iload_n 1, 1) := by decide +kernel
theorem dX5_at_12 : decode cX5_at 12 = .ok (.iaload, 1) := by decide +kernel
theorem dX5_at_13 : decode cX5_at 13 = .ok (.goto 4, 3) := by decide +kernel
theorem dX5_at_16 : decode cX5_at 16 = .ok (.iconst 0, 1) := by decide +kernel
theorem dX5_at_17 : decode cX5_at 17 = .ok (.ireturn, 1) := by decide +kernel
theorem dX5_write_0 : decode cX5_write 0 = .ok (.iload_n 1, 1) := by decide +kernel
theorem dX5_write_1 : decode cX5_write 1 = .ok (.ifCond .lt 13, 3) := by decide +kernel
theorem dX5_write_4 : decode cX5_write 4 = .ok (.iload_n 1, 1) := by decide +kernel
theorem dX5_write_5 : decode cX5_write 5 = .ok (.aload_n 0, 1) := by decide +kernel
theorem dX5_write_6 : decode cX5_write 6 = .ok (.arraylength, 1) := by decide +kernel
theorem dX5_write_7 : decode cX5_write 7 = .ok (.if_icmp .ge 7, 3) := by decide +kernel
theorem dX5_write_10 : decode cX5_write 10 = .ok (.aload_n 0, 1) := by decide +kernel
theorem dX5_write_11 : decode cX5_write 11 = .ok (.iload_n 1, 1) := by decide +kernel
theorem dX5_write_12 : decode cX5_write 12 = .ok (.iload_n 2, 1) := by decide +kernel
theorem dX5_write_13 : decode cX5_write 13 = .ok (.iastore, 1) := by decide +kernel
theorem dX5_write_14 : decode cX5_write 14 = .ok (.return_, 1) := by decide +kernel
theorem dX5_move_0 : decode cX5_move 0 = .ok (.aload_n 1, 1) := by decide +kernel
theorem dX5_move_1 : decode cX5_move 1 = .ok (.ifnull 24, 3) := by decide +kernel
theorem dX5_move_4 : decode cX5_move 4 = .ok (.aload_n 1, 1) := by decide +kernel
theorem dX5_move_5 : decode cX5_move 5 = .ok (.iload_n 2, 1) := by decide +kernel
theorem dX5_move_6 : decode cX5_move 6 = .ok (.putfield 139, 3) := by decide +kernel
theorem dX5_move_9 : decode cX5_move 9 = .ok (.aload_n 0, 1) := by decide +kernel
theorem dX5_move_10 : decode cX5_move 10 = .ok (.getfield 45, 3) := by decide +kernel
theorem dX5_move_13 : decode cX5_move 13 = .ok (.aload_n 0, 1) := by decide +kernel
theorem dX5_move_14 : decode cX5_move 14 = .ok (.getfield 116, 3) := by decide +kernel
theorem dX5_move_17 : decode cX5_move 17 = .ok (.aload_n 1, 1) := by decide +kernel
theorem dX5_move_18 : decode cX5_move 18 = .ok (.getfield 125, 3) := by decide +kernel
theorem dX5_move_21 : decode cX5_move 21 = .ok (.iload_n 2, 1) := by decide +kernel
theorem dX5_move_22 : decode cX5_move 22 = .ok (.invokevirtual 274, 3) := by decide +kernel
theorem dX5_move_25 : decode cX5_move 25 = .ok (.return_, 1) := by decide +kernel
theorem dX5_layAsChosen_0 : decode cX5_layAsChosen 0 = .ok (.iconst 0, 1) := by decide +kernel
theorem dX5_layAsChosen_1 : decode cX5_layAsChosen 1 = .ok (.istore_n 2, 1) := by decide +kernel
theorem dX5_layAsChosen_2 : decode cX5_layAsChosen 2 = .ok (.iload_n 2, 1) := by decide +kernel
theorem dX5_layAsChosen_3 : decode cX5_layAsChosen 3 = .ok (.aload_n 1, 1) := by decide +kernel
theorem dX5_layAsChosen_4 : decode cX5_layAsChosen 4 = .ok (.getfield 232, 3) := by decide +kernel
theorem dX5_layAsChosen_7 : decode cX5_layAsChosen 7 = .ok (.if_icmp .ge 43, 3) := by decide +kernel
theorem dX5_layAsChosen_10 : decode cX5_layAsChosen 10 = .ok (.aload_n 0, 1) := by decide +kernel
theorem dX5_layAsChosen_11 : decode cX5_layAsChosen 11 = .ok (.getfield 52, 3) := by decide +kernel
theorem dX5_layAsChosen_14 : decode cX5_layAsChosen 14 = .ok (.iload_n 2, 1) := by decide +kernel
theorem dX5_layAsChosen_15 : decode cX5_layAsChosen 15 = .ok (.invokevirtual 277, 3) := by decide +kernel
theorem dX5_layAsChosen_18 : decode cX5_layAsChosen 18 = .ok (.astore_n 3, 1) := by decide +kernel
theorem dX5_layAsChosen_19 : decode cX5_layAsChosen 19 = .ok (.aload_n 3, 1) := by decide +kernel
theorem dX5_layAsChosen_20 : decode cX5_layAsChosen 20 = .ok (.aload_n 1, 1) := by decide +kernel
theorem dX5_layAsChosen_21 : decode cX5_layAsChosen 21 = .ok (.iload_n 2, 1) := by decide +kernel
theorem dX5_layAsChosen_22 : decode cX5_layAsChosen 22 = .ok (.invokevirtual 142, 3) := by decide +kernel
theorem dX5_layAsChosen_25 : decode cX5_layAsChosen 25 = .ok (.if_acmp .eq 19, 3) := by decide +kernel
theorem dX5_layAsChosen_28 : decode cX5_layAsChosen 28 = .ok (.aload_n 1, 1) := by decide +kernel
theorem dX5_layAsChosen_29 : decode cX5_layAsChosen 29 = .ok (.iload_n 2, 1) := by decide +kernel
theorem dX5_layAsChosen_30 : decode cX5_layAsChosen 30 = .ok (.aload_n 3, 1) := by decide +kernel
theorem dX5_layAsChosen_31 : decode cX5_layAsChosen 31 = .ok (.invokevirtual 145, 3) := by decide +kernel
theorem dX5_layAsChosen_34 : decode cX5_layAsChosen 34 = .ok (.aload_n 0, 1) := by decide +kernel
theorem dX5_layAsChosen_35 : decode cX5_layAsChosen 35 = .ok (.aload_n 3, 1) := by decide +kernel
theorem dX5_layAsChosen_36 : decode cX5_layAsChosen 36 = .ok (.aload_n 1, 1) := by decide +kernel
theorem dX5_layAsChosen_37 : decode cX5_layAsChosen 37 = .ok (.iload_n 2, 1) := by decide +kernel
theorem dX5_layAsChosen_38 : decode cX5_layAsChosen 38 = .ok (.invokevirtual 149, 3) := by decide +kernel
theorem dX5_layAsChosen_41 : decode cX5_layAsChosen 41 = .ok (.invokevirtual 128, 3) := by decide +kernel
theorem dX5_layAsChosen_44 : decode cX5_layAsChosen 44 = .ok (.iinc 2 1, 3) := by decide +kernel
theorem dX5_layAsChosen_47 : decode cX5_layAsChosen 47 = .ok (.goto (-45), 3) := by decide +kernel
theorem dX5_layAsChosen_50 : decode cX5_layAsChosen 50 = .ok (.return_, 1) := by decide +kernel
theorem dX5_refitTyresOf_0 : decode cX5_refitTyresOf 0 = .ok (.iconst 0, 1) := by decide +kernel
theorem dX5_refitTyresOf_1 : decode cX5_refitTyresOf 1 = .ok (.istore_n 2, 1) := by decide +kernel
theorem dX5_refitTyresOf_2 : decode cX5_refitTyresOf 2 = .ok (.iload_n 2, 1) := by decide +kernel
theorem dX5_refitTyresOf_3 : decode cX5_refitTyresOf 3 = .ok (.bipush 40, 2) := by decide +kernel
theorem dX5_refitTyresOf_5 : decode cX5_refitTyresOf 5 = .ok (.if_icmp .ge 39, 3) := by decide +kernel
theorem dX5_refitTyresOf_8 : decode cX5_refitTyresOf 8 = .ok (.aload_n 0, 1) := by decide +kernel
theorem dX5_refitTyresOf_9 : decode cX5_refitTyresOf 9 = .ok (.iload_n 2, 1) := by decide +kernel
theorem dX5_refitTyresOf_10 : decode cX5_refitTyresOf 10 = .ok (.invokevirtual 132, 3) := by decide +kernel
theorem dX5_refitTyresOf_13 : decode cX5_refitTyresOf 13 = .ok (.astore_n 3, 1) := by decide +kernel
theorem dX5_refitTyresOf_14 : decode cX5_refitTyresOf 14 = .ok (.aload_n 3, 1) := by decide +kernel
theorem dX5_refitTyresOf_15 : decode cX5_refitTyresOf 15 = .ok (.ifnull 23, 3) := by decide +kernel
theorem dX5_refitTyresOf_18 : decode cX5_refitTyresOf 18 = .ok (.aload_n 3, 1) := by decide +kernel
theorem dX5_refitTyresOf_19 : decode cX5_refitTyresOf 19 = .ok (.getfield 155, 3) := by decide +kernel
theorem dX5_refitTyresOf_22 : decode cX5_refitTyresOf 22 = .ok (.iload_n 1, 1) := by decide +kernel
theorem dX5_refitTyresOf_23 : decode cX5_refitTyresOf 23 = .ok (.if_icmp .ne 15, 3) := by decide +kernel
theorem dX5_refitTyresOf_26 : decode cX5_refitTyresOf 26 = .ok (.aload_n 3, 1) := by decide +kernel
theorem dX5_refitTyresOf_27 : decode cX5_refitTyresOf 27 = .ok (.aload_n 0, 1) := by decide +kernel
theorem dX5_refitTyresOf_28 : decode cX5_refitTyresOf 28 = .ok (.getfield 36, 3) := by decide +kernel
theorem dX5_refitTyresOf_31 : decode cX5_refitTyresOf 31 = .ok (.iload_n 1, 1) := by decide +kernel
theorem dX5_refitTyresOf_32 : decode cX5_refitTyresOf 32 = .ok (.invokestatic 96, 3) := by decide +kernel
theorem dX5_refitTyresOf_35 : decode cX5_refitTyresOf 35 = .ok (.invokevirtual 158, 3) := by decide +kernel
theorem dX5_refitTyresOf_38 : decode cX5_refitTyresOf 38 = .ok (.iinc 2 1, 3) := by decide +kernel
theorem dX5_refitTyresOf_41 : decode cX5_refitTyresOf 41 = .ok (.goto (-39), 3) := by decide +kernel
theorem dX5_refitTyresOf_44 : decode cX5_refitTyresOf 44 = .ok (.return_, 1) := by decide +kernel
theorem dX5_nextBack_0 : decode cX5_nextBack 0 = .ok (.aconst_null, 1) := by decide +kernel
theorem dX5_nextBack_1 : decode cX5_nextBack 1 = .ok (.astore_n 2, 1) := by decide +kernel
theorem dX5_nextBack_2 : decode cX5_nextBack 2 = .ok (.iconst 0, 1) := by decide +kernel
theorem dX5_nextBack_3 : decode cX5_nextBack 3 = .ok (.istore_n 3, 1) := by decide +kernel
theorem dX5_nextBack_4 : decode cX5_nextBack 4 = .ok (.iload_n 3, 1) := by decide +kernel
theorem dX5_nextBack_5 : decode cX5_nextBack 5 = .ok (.bipush 40, 2) := by decide +kernel
theorem dX5_nextBack_7 : decode cX5_nextBack 7 = .ok (.if_icmp .ge 59, 3) := by decide +kernel
theorem dX5_nextBack_10 : decode cX5_nextBack 10 = .ok (.aload_n 0, 1) := by decide +kernel
theorem dX5_nextBack_11 : decode cX5_nextBack 11 = .ok (.iload_n 3, 1) := by decide +kernel
theorem dX5_nextBack_12 : decode cX5_nextBack 12 = .ok (.invokevirtual 132, 3) := by decide +kernel
theorem dX5_nextBack_15 : decode cX5_nextBack 15 = .ok (.astore 4, 2) := by decide +kernel
theorem dX5_nextBack_17 : decode cX5_nextBack 17 = .ok (.aload 4, 2) := by decide +kernel
theorem dX5_nextBack_19 : decode cX5_nextBack 19 = .ok (.ifnull 41, 3) := by decide +kernel
theorem dX5_nextBack_22 : decode cX5_nextBack 22 = .ok (.aload 4, 2) := by decide +kernel
theorem dX5_nextBack_24 : decode cX5_nextBack 24 = .ok (.getfield 139, 3) := by decide +kernel
theorem dX5_nextBack_27 : decode cX5_nextBack 27 = .ok (.bipush (-2), 2) := by decide +kernel
theorem dX5_nextBack_29 : decode cX5_nextBack 29 = .ok (.if_icmp .ne 31, 3) := by decide +kernel
theorem dX5_nextBack_32 : decode cX5_nextBack 32 = .ok (.aload 4, 2) := by decide +kernel
theorem dX5_nextBack_34 : decode cX5_nextBack 34 = .ok (.getfield 216, 3) := by decide +kernel
theorem dX5_nextBack_37 : decode cX5_nextBack 37 = .ok (.iload_n 1, 1) := by decide +kernel
theorem dX5_nextBack_38 : decode cX5_nextBack 38 = .ok (.if_icmp .gt 22, 3) := by decide +kernel
theorem dX5_nextBack_41 : decode cX5_nextBack 41 = .ok (.aload_n 2, 1) := by decide +kernel
theorem dX5_nextBack_42 : decode cX5_nextBack 42 = .ok (.ifnull 15, 3) := by decide +kernel
theorem dX5_nextBack_45 : decode cX5_nextBack 45 = .ok (.aload 4, 2) := by decide +kernel
theorem dX5_nextBack_47 : decode cX5_nextBack 47 = .ok (.getfield 216, 3) := by decide +kernel
theorem dX5_nextBack_50 : decode cX5_nextBack 50 = .ok (.aload_n 2, 1) := by decide +kernel
theorem dX5_nextBack_51 : decode cX5_nextBack 51 = .ok (.getfield 216, 3) := by decide +kernel
theorem dX5_nextBack_54 : decode cX5_nextBack 54 = .ok (.if_icmp .ge 6, 3) := by decide +kernel
theorem dX5_nextBack_57 : decode cX5_nextBack 57 = .ok (.aload 4, 2) := by decide +kernel
theorem dX5_nextBack_59 : decode cX5_nextBack 59 = .ok (.astore_n 2, 1) := by decide +kernel
theorem dX5_nextBack_60 : decode cX5_nextBack 60 = .ok (.iinc 3 1, 3) := by decide +kernel
theorem dX5_nextBack_63 : decode cX5_nextBack 63 = .ok (.goto (-59), 3) := by decide +kernel
theorem dX5_nextBack_66 : decode cX5_nextBack 66 = .ok (.aload_n 2, 1) := by decide +kernel
theorem dX5_nextBack_67 : decode cX5_nextBack 67 = .ok (.areturn, 1) := by decide +kernel
theorem dX5_bringBack_0 : decode cX5_bringBack 0 = .ok (.aload_n 1, 1) := by decide +kernel
theorem dX5_bringBack_1 : decode cX5_bringBack 1 = .ok (.dup, 1) := by decide +kernel
theorem dX5_bringBack_2 : decode cX5_bringBack 2 = .ok (.getfield 210, 3) := by decide +kernel
theorem dX5_bringBack_5 : decode cX5_bringBack 5 = .ok (.iconst 1, 1) := by decide +kernel
theorem dX5_bringBack_6 : decode cX5_bringBack 6 = .ok (.iadd, 1) := by decide +kernel
theorem dX5_bringBack_7 : decode cX5_bringBack 7 = .ok (.putfield 210, 3) := by decide +kernel
theorem dX5_bringBack_10 : decode cX5_bringBack 10 = .ok (.aload_n 1, 1) := by decide +kernel
theorem dX5_bringBack_11 : decode cX5_bringBack 11 = .ok (.bipush (-9), 2) := by decide +kernel
theorem dX5_bringBack_13 : decode cX5_bringBack 13 = .ok (.putfield 216, 3) := by decide +kernel
theorem dX5_bringBack_16 : decode cX5_bringBack 16 = .ok (.aload_n 1, 1) := by decide +kernel
theorem dX5_bringBack_17 : decode cX5_bringBack 17 = .ok (.aload_n 0, 1) := by decide +kernel
theorem dX5_bringBack_18 : decode cX5_bringBack 18 = .ok (.getfield 36, 3) := by decide +kernel
theorem dX5_bringBack_21 : decode cX5_bringBack 21 = .ok (.aload_n 1, 1) := by decide +kernel
theorem dX5_bringBack_22 : decode cX5_bringBack 22 = .ok (.getfield 155, 3) := by decide +kernel
theorem dX5_bringBack_25 : decode cX5_bringBack 25 = .ok (.invokestatic 96, 3) := by decide +kernel
theorem dX5_bringBack_28 : decode cX5_bringBack 28 = .ok (.invokevirtual 122, 3) := by decide +kernel
theorem dX5_bringBack_31 : decode cX5_bringBack 31 = .ok (.aload_n 0, 1) := by decide +kernel
theorem dX5_bringBack_32 : decode cX5_bringBack 32 = .ok (.aload_n 1, 1) := by decide +kernel
theorem dX5_bringBack_33 : decode cX5_bringBack 33 = .ok (.iconst (-1), 1) := by decide +kernel
theorem dX5_bringBack_34 : decode cX5_bringBack 34 = .ok (.invokevirtual 128, 3) := by decide +kernel
theorem dX5_bringBack_37 : decode cX5_bringBack 37 = .ok (.return_, 1) := by decide +kernel
theorem dX5_neededOn_0 : decode cX5_neededOn 0 = .ok (.aload_n 1, 1) := by decide +kernel
theorem dX5_neededOn_1 : decode cX5_neededOn 1 = .ok (.iload_n 2, 1) := by decide +kernel
theorem dX5_neededOn_2 : decode cX5_neededOn 2 = .ok (.invokevirtual 258, 3) := by decide +kernel
theorem dX5_neededOn_5 : decode cX5_neededOn 5 = .ok (.istore 4, 2) := by decide +kernel
theorem dX5_neededOn_7 : decode cX5_neededOn 7 = .ok (.iload 4, 2) := by decide +kernel
theorem dX5_neededOn_9 : decode cX5_neededOn 9 = .ok (.iconst 4, 1) := by decide +kernel
theorem dX5_neededOn_10 : decode cX5_neededOn 10 = .ok (.if_icmp .ne 5, 3) := by decide +kernel
theorem dX5_neededOn_13 : decode cX5_neededOn 13 = .ok (.iconst 0, 1) := by decide +kernel
theorem dX5_neededOn_14 : decode cX5_neededOn 14 = .ok (.ireturn, 1) := by decide +kernel
theorem dX5_neededOn_15 : decode cX5_neededOn 15 = .ok (.aload_n 0, 1) := by decide +kernel
theorem dX5_neededOn_16 : decode cX5_neededOn 16 = .ok (.getfield 30, 3) := by decide +kernel
theorem dX5_neededOn_19 : decode cX5_neededOn 19 = .ok (.iload 4, 2) := by decide +kernel
theorem dX5_neededOn_21 : decode cX5_neededOn 21 = .ok (.invokestatic 96, 3) := by decide +kernel
theorem dX5_neededOn_24 : decode cX5_neededOn 24 = .ok (.istore 5, 2) := by decide +kernel
theorem dX5_neededOn_26 : decode cX5_neededOn 26 = .ok (.aload_n 0, 1) := by decide +kernel
theorem dX5_neededOn_27 : decode cX5_neededOn 27 = .ok (.getfield 59, 3) := by decide +kernel
theorem dX5_neededOn_30 : decode cX5_neededOn 30 = .ok (.sipush 180, 3) := by decide +kernel
theorem dX5_neededOn_33 : decode cX5_neededOn 33 = .ok (.iconst 0, 1) := by decide +kernel
theorem dX5_neededOn_34 : decode cX5_neededOn 34 = .ok (.iload 5, 2) := by decide +kernel
theorem dX5_neededOn_36 : decode cX5_neededOn 36 = .ok (.invokevirtual 280, 3) := by decide +kernel
theorem dX5_neededOn_39 : decode cX5_neededOn 39 = .ok (.istore 6, 2) := by decide +kernel
theorem dX5_neededOn_41 : decode cX5_neededOn 41 = .ok (.aload_n 1, 1) := by decide +kernel
theorem dX5_neededOn_42 : decode cX5_neededOn 42 = .ok (.iload_n 2, 1) := by decide +kernel
theorem dX5_neededOn_43 : decode cX5_neededOn 43 = .ok (.invokevirtual 142, 3) := by decide +kernel
theorem dX5_neededOn_46 : decode cX5_neededOn 46 = .ok (.astore 7, 2) := by decide +kernel
theorem dX5_neededOn_48 : decode cX5_neededOn 48 = .ok (.aload 7, 2) := by decide +kernel
theorem dX5_neededOn_50 : decode cX5_neededOn 50 = .ok (.ifnonnull 14, 3) := by decide +kernel
theorem dX5_neededOn_53 : decode cX5_neededOn 53 = .ok (.iconst 1, 1) := by decide +kernel
theorem dX5_neededOn_54 : decode cX5_neededOn 54 = .ok (.iload_n 3, 1) := by decide +kernel
theorem dX5_neededOn_55 : decode cX5_neededOn 55 = .ok (.iload 6, 2) := by decide +kernel
theorem dX5_neededOn_57 : decode cX5_neededOn 57 = .ok (.invokestatic 283, 3) := by decide +kernel
theorem dX5_neededOn_60 : decode cX5_neededOn 60 = .ok (.invokestatic 286, 3) := by decide +kernel
theorem dX5_neededOn_63 : decode cX5_neededOn 63 = .ok (.ireturn, 1) := by decide +kernel
theorem dX5_neededOn_64 : decode cX5_neededOn 64 = .ok (.iload_n 3, 1) := by decide +kernel
theorem dX5_neededOn_65 : decode cX5_neededOn 65 = .ok (.aload 7, 2) := by decide +kernel
theorem dX5_neededOn_67 : decode cX5_neededOn 67 = .ok (.iload 5, 2) := by decide +kernel
theorem dX5_neededOn_69 : decode cX5_neededOn 69 = .ok (.invokevirtual 207, 3) := by decide +kernel
theorem dX5_neededOn_72 : decode cX5_neededOn 72 = .ok (.isub, 1) := by decide +kernel
theorem dX5_neededOn_73 : decode cX5_neededOn 73 = .ok (.iload 6, 2) := by decide +kernel
theorem dX5_neededOn_75 : decode cX5_neededOn 75 = .ok (.invokestatic 283, 3) := by decide +kernel
theorem dX5_neededOn_78 : decode cX5_neededOn 78 = .ok (.ireturn, 1) := by decide +kernel
theorem dX5_tyresFor_0 : decode cX5_tyresFor 0 = .ok (.iload_n 0, 1) := by decide +kernel
theorem dX5_tyresFor_1 : decode cX5_tyresFor 1 = .ok (.ifCond .le 7, 3) := by decide +kernel
theorem dX5_tyresFor_4 : decode cX5_tyresFor 4 = .ok (.iload_n 1, 1) := by decide +kernel
theorem dX5_tyresFor_5 : decode cX5_tyresFor 5 = .ok (.ifCond .gt 7, 3) := by decide +kernel
theorem dX5_tyresFor_8 : decode cX5_tyresFor 8 = .ok (.iconst 0, 1) := by decide +kernel
theorem dX5_tyresFor_9 : decode cX5_tyresFor 9 = .ok (.goto 10, 3) := by decide +kernel
theorem dX5_tyresFor_12 : decode cX5_tyresFor 12 = .ok (.iload_n 0, 1) := by decide +kernel
theorem dX5_tyresFor_13 : decode cX5_tyresFor 13 = .ok (.iconst 1, 1) := by decide +kernel
theorem dX5_tyresFor_14 : decode cX5_tyresFor 14 = .ok (.isub, 1) := by decide +kernel
theorem dX5_tyresFor_15 : decode cX5_tyresFor 15 = .ok (.iload_n 1, 1) := by decide +kernel
theorem dX5_tyresFor_16 : decode cX5_tyresFor 16 = .ok (.idiv, 1) := by decide +kernel
theorem dX5_tyresFor_17 : decode cX5_tyresFor 17 = .ok (.iconst 1, 1) := by decide +kernel
theorem dX5_tyresFor_18 : decode cX5_tyresFor 18 = .ok (.iadd, 1) := by decide +kernel
theorem dX5_tyresFor_19 : decode cX5_tyresFor 19 = .ok (.ireturn, 1) := by decide +kernel
theorem dX5_tyresAt_0 : decode cX5_tyresAt 0 = .ok (.iconst 0, 1) := by decide +kernel
theorem dX5_tyresAt_1 : decode cX5_tyresAt 1 = .ok (.istore_n 2, 1) := by decide +kernel
theorem dX5_tyresAt_2 : decode cX5_tyresAt 2 = .ok (.iconst 0, 1) := by decide +kernel
theorem dX5_tyresAt_3 : decode cX5_tyresAt 3 = .ok (.istore_n 3, 1) := by decide +kernel
theorem dX5_tyresAt_4 : decode cX5_tyresAt 4 = .ok (.iload_n 3, 1) := by decide +kernel
theorem dX5_tyresAt_5 : decode cX5_tyresAt 5 = .ok (.bipush 40, 2) := by decide +kernel
theorem dX5_tyresAt_7 : decode cX5_tyresAt 7 = .ok (.if_icmp .ge 33, 3) := by decide +kernel
theorem dX5_tyresAt_10 : decode cX5_tyresAt 10 = .ok (.aload_n 0, 1) := by decide +kernel
theorem dX5_tyresAt_11 : decode cX5_tyresAt 11 = .ok (.iload_n 3, 1) := by decide +kernel
theorem dX5_tyresAt_12 : decode cX5_tyresAt 12 = .ok (.invokevirtual 132, 3) := by decide +kernel
theorem dX5_tyresAt_15 : decode cX5_tyresAt 15 = .ok (.astore 4, 2) := by decide +kernel
theorem dX5_tyresAt_17 : decode cX5_tyresAt 17 = .ok (.aload 4, 2) := by decide +kernel
theorem dX5_tyresAt_19 : decode cX5_tyresAt 19 = .ok (.ifnull 15, 3) := by decide +kernel
theorem dX5_tyresAt_22 : decode cX5_tyresAt 22 = .ok (.aload 4, 2) := by decide +kernel
end
section
theorem dX5_tyresAt_24 : decode cX5_tyresAt 24 = .ok (.getfield 139, 3) := by decide +kernel
theorem dX5_tyresAt_27 : decode cX5_tyresAt 27 = .ok (.iload_n 1, 1) := by decide +kernel
theorem dX5_tyresAt_28 : decode cX5_tyresAt 28 = .ok (.if_icmp .ne 6, 3) := by decide +kernel
theorem dX5_tyresAt_31 : decode cX5_tyresAt 31 = .ok (.iinc 2 1, 3) := by decide +kernel
theorem dX5_tyresAt_34 : decode cX5_tyresAt 34 = .ok (.iinc 3 1, 3) := by decide +kernel
theorem dX5_tyresAt_37 : decode cX5_tyresAt 37 = .ok (.goto (-33), 3) := by decide +kernel
theorem dX5_tyresAt_40 : decode cX5_tyresAt 40 = .ok (.iload_n 2, 1) := by decide +kernel
theorem dX5_tyresAt_41 : decode cX5_tyresAt 41 = .ok (.ireturn, 1) := by decide +kernel
end
section
theorem dX6_init_0 : decode cX6_init 0 = .ok (.aload_n 0, 1) := by decide +kernel
theorem dX6_init_1 : decode cX6_init 1 = .ok (.invokespecial 1, 3) := by decide +kernel
theorem dX6_init_4 : decode cX6_init 4 = .ok (.aload_n 0, 1) := by decide +kernel
theorem dX6_init_5 : decode cX6_init 5 = .ok (.bipush 7, 2) := by decide +kernel
theorem dX6_init_7 : decode cX6_init 7 = .ok (.newarray .int, 2) := by decide +kernel
theorem dX6_init_9 : decode cX6_init 9 = .ok (.putfield 7, 3) := by decide +kernel
theorem dX6_init_12 : decode cX6_init 12 = .ok (.aload_n 0, 1) := by decide +kernel
theorem dX6_init_13 : decode cX6_init 13 = .ok (.iconst 5, 1) := by decide +kernel
theorem dX6_init_14 : decode cX6_init 14 = .ok (.newarray .int, 2) := by decide +kernel
theorem dX6_init_16 : decode cX6_init 16 = .ok (.dup, 1) := by decide +kernel
theorem dX6_init_17 : decode cX6_init 17 = .ok (.iconst 0, 1) := by decide +kernel
theorem dX6_init_18 : decode cX6_init 18 = .ok (.bipush 30, 2) := by decide +kernel
theorem dX6_init_20 : decode cX6_init 20 = .ok (.iastore, 1) := by decide +kernel
theorem dX6_init_21 : decode cX6_init 21 = .ok (.dup, 1) := by decide +kernel
theorem dX6_init_22 : decode cX6_init 22 = .ok (.iconst 1, 1) := by decide +kernel
theorem dX6_init_23 : decode cX6_init 23 = .ok (.bipush 20, 2) := by decide +kernel
theorem dX6_init_25 : decode cX6_init 25 = .ok (.iastore, 1) := by decide +kernel
theorem dX6_init_26 : decode cX6_init 26 = .ok (.dup, 1) := by decide +kernel
theorem dX6_init_27 : decode cX6_init 27 = .ok (.iconst 2, 1) := by decide +kernel
theorem dX6_init_28 : decode cX6_init 28 = .ok (.bipush 20, 2) := by decide +kernel
theorem dX6_init_30 : decode cX6_init 30 = .ok (.iastore, 1) := by decide +kernel
theorem dX6_init_31 : decode cX6_init 31 = .ok (.dup, 1) := by decide +kernel
theorem dX6_init_32 : decode cX6_init 32 = .ok (.iconst 3, 1) := by decide +kernel
theorem dX6_init_33 : decode cX6_init 33 = .ok (.bipush 16, 2) := by decide +kernel
theorem dX6_init_35 : decode cX6_init 35 = .ok (.iastore, 1) := by decide +kernel
theorem dX6_init_36 : decode cX6_init 36 = .ok (.dup, 1) := by decide +kernel
theorem dX6_init_37 : decode cX6_init 37 = .ok (.iconst 4, 1) := by decide +kernel
theorem dX6_init_38 : decode cX6_init 38 = .ok (.bipush 16, 2) := by decide +kernel
theorem dX6_init_40 : decode cX6_init 40 = .ok (.iastore, 1) := by decide +kernel
theorem dX6_init_41 : decode cX6_init 41 = .ok (.putfield 13, 3) := by decide +kernel
theorem dX6_init_44 : decode cX6_init 44 = .ok (.aload_n 0, 1) := by decide +kernel
theorem dX6_init_45 : decode cX6_init 45 = .ok (.iconst 4, 1) := by decide +kernel
theorem dX6_init_46 : decode cX6_init 46 = .ok (.newarray .int, 2) := by decide +kernel
theorem dX6_init_48 : decode cX6_init 48 = .ok (.dup, 1) := by decide +kernel
theorem dX6_init_49 : decode cX6_init 49 = .ok (.iconst 0, 1) := by decide +kernel
theorem dX6_init_50 : decode cX6_init 50 = .ok (.bipush 100, 2) := by decide +kernel
theorem dX6_init_52 : decode cX6_init 52 = .ok (.iastore, 1) := by decide +kernel
theorem dX6_init_53 : decode cX6_init 53 = .ok (.dup, 1) := by decide +kernel
theorem dX6_init_54 : decode cX6_init 54 = .ok (.iconst 1, 1) := by decide +kernel
theorem dX6_init_55 : decode cX6_init 55 = .ok (.bipush 100, 2) := by decide +kernel
theorem dX6_init_57 : decode cX6_init 57 = .ok (.iastore, 1) := by decide +kernel
theorem dX6_init_58 : decode cX6_init 58 = .ok (.dup, 1) := by decide +kernel
theorem dX6_init_59 : decode cX6_init 59 = .ok (.iconst 2, 1) := by decide +kernel
theorem dX6_init_60 : decode cX6_init 60 = .ok (.bipush 100, 2) := by decide +kernel
theorem dX6_init_62 : decode cX6_init 62 = .ok (.iastore, 1) := by decide +kernel
theorem dX6_init_63 : decode cX6_init 63 = .ok (.dup, 1) := by decide +kernel
theorem dX6_init_64 : decode cX6_init 64 = .ok (.iconst 3, 1) := by decide +kernel
theorem dX6_init_65 : decode cX6_init 65 = .ok (.bipush 100, 2) := by decide +kernel
theorem dX6_init_67 : decode cX6_init 67 = .ok (.iastore, 1) := by decide +kernel
theorem dX6_init_68 : decode cX6_init 68 = .ok (.putfield 16, 3) := by decide +kernel
theorem dX6_init_71 : decode cX6_init 71 = .ok (.aload_n 0, 1) := by decide +kernel
theorem dX6_init_72 : decode cX6_init 72 = .ok (.bipush 20, 2) := by decide +kernel
theorem dX6_init_74 : decode cX6_init 74 = .ok (.putfield 19, 3) := by decide +kernel
theorem dX6_init_77 : decode cX6_init 77 = .ok (.aload_n 0, 1) := by decide +kernel
theorem dX6_init_78 : decode cX6_init 78 = .ok (.iconst 5, 1) := by decide +kernel
theorem dX6_init_79 : decode cX6_init 79 = .ok (.newarray .int, 2) := by decide +kernel
theorem dX6_init_81 : decode cX6_init 81 = .ok (.putfield 23, 3) := by decide +kernel
theorem dX6_init_84 : decode cX6_init 84 = .ok (.aload_n 0, 1) := by decide +kernel
theorem dX6_init_85 : decode cX6_init 85 = .ok (.bipush 35, 2) := by decide +kernel
theorem dX6_init_87 : decode cX6_init 87 = .ok (.newarray .int, 2) := by decide +kernel
theorem dX6_init_89 : decode cX6_init 89 = .ok (.putfield 26, 3) := by decide +kernel
theorem dX6_init_92 : decode cX6_init 92 = .ok (.aload_n 0, 1) := by decide +kernel
theorem dX6_init_93 : decode cX6_init 93 = .ok (.bipush 35, 2) := by decide +kernel
theorem dX6_init_95 : decode cX6_init 95 = .ok (.newarray .int, 2) := by decide +kernel
theorem dX6_init_97 : decode cX6_init 97 = .ok (.putfield 29, 3) := by decide +kernel
theorem dX6_init_100 : decode cX6_init 100 = .ok (.aload_n 0, 1) := by decide +kernel
theorem dX6_init_101 : decode cX6_init 101 = .ok (.bipush 35, 2) := by decide +kernel
theorem dX6_init_103 : decode cX6_init 103 = .ok (.newarray .int, 2) := by decide +kernel
theorem dX6_init_105 : decode cX6_init 105 = .ok (.putfield 32, 3) := by decide +kernel
theorem dX6_init_108 : decode cX6_init 108 = .ok (.aload_n 0, 1) := by decide +kernel
theorem dX6_init_109 : decode cX6_init 109 = .ok (.bipush 40, 2) := by decide +kernel
theorem dX6_init_111 : decode cX6_init 111 = .ok (.newarray .int, 2) := by decide +kernel
theorem dX6_init_113 : decode cX6_init 113 = .ok (.putfield 35, 3) := by decide +kernel
theorem dX6_init_116 : decode cX6_init 116 = .ok (.aload_n 0, 1) := by decide +kernel
theorem dX6_init_117 : decode cX6_init 117 = .ok (.bipush 40, 2) := by decide +kernel
theorem dX6_init_119 : decode cX6_init 119 = .ok (.newarray .int, 2) := by decide +kernel
theorem dX6_init_121 : decode cX6_init 121 = .ok (.putfield 38, 3) := by decide +kernel
theorem dX6_init_124 : decode cX6_init 124 = .ok (.aload_n 0, 1) := by decide +kernel
theorem dX6_init_125 : decode cX6_init 125 = .ok (.bipush 40, 2) := by decide +kernel
theorem dX6_init_127 : decode cX6_init 127 = .ok (.newarray .int, 2) := by decide +kernel
theorem dX6_init_129 : decode cX6_init 129 = .ok (.putfield 41, 3) := by decide +kernel
theorem dX6_init_132 : decode cX6_init 132 = .ok (.aload_n 0, 1) := by decide +kernel
theorem dX6_init_133 : decode cX6_init 133 = .ok (.bipush 40, 2) := by decide +kernel
theorem dX6_init_135 : decode cX6_init 135 = .ok (.newarray .int, 2) := by decide +kernel
theorem dX6_init_137 : decode cX6_init 137 = .ok (.putfield 44, 3) := by decide +kernel
theorem dX6_init_140 : decode cX6_init 140 = .ok (.aload_n 0, 1) := by decide +kernel
theorem dX6_init_141 : decode cX6_init 141 = .ok (.bipush 40, 2) := by decide +kernel
theorem dX6_init_143 : decode cX6_init 143 = .ok (.newarray .int, 2) := by decide +kernel
theorem dX6_init_145 : decode cX6_init 145 = .ok (.putfield 47, 3) := by decide +kernel
theorem dX6_init_148 : decode cX6_init 148 = .ok (.aload_n 0, 1) := by decide +kernel
theorem dX6_init_149 : decode cX6_init 149 = .ok (.bipush 40, 2) := by decide +kernel
theorem dX6_init_151 : decode cX6_init 151 = .ok (.newarray .int, 2) := by decide +kernel
theorem dX6_init_153 : decode cX6_init 153 = .ok (.putfield 50, 3) := by decide +kernel
theorem dX6_init_156 : decode cX6_init 156 = .ok (.aload_n 0, 1) := by decide +kernel
theorem dX6_init_157 : decode cX6_init 157 = .ok (.bipush 40, 2) := by decide +kernel
theorem dX6_init_159 : decode cX6_init 159 = .ok (.newarray .int, 2) := by decide +kernel
theorem dX6_init_161 : decode cX6_init 161 = .ok (.putfield 53, 3) := by decide +kernel
theorem dX6_init_164 : decode cX6_init 164 = .ok (.aload_n 0, 1) := by decide +kernel
theorem dX6_init_165 : decode cX6_init 165 = .ok (.bipush 40, 2) := by decide +kernel
theorem dX6_init_167 : decode cX6_init 167 = .ok (.newarray .int, 2) := by decide +kernel
theorem dX6_init_169 : decode cX6_init 169 = .ok (.putfield 56, 3) := by decide +kernel
theorem dX6_init_172 : decode cX6_init 172 = .ok (.aload_n 0, 1) := by decide +kernel
theorem dX6_init_173 : decode cX6_init 173 = .ok (.sipush 520, 3) := by decide +kernel
theorem dX6_init_176 : decode cX6_init 176 = .ok (.newarray .int, 2) := by decide +kernel
theorem dX6_init_178 : decode cX6_init 178 = .ok (.putfield 59, 3) := by decide +kernel
theorem dX6_init_181 : decode cX6_init 181 = .ok (.aload_n 0, 1) := by decide +kernel
theorem dX6_init_182 : decode cX6_init 182 = .ok (.sipush 520, 3) := by decide +kernel
theorem dX6_init_185 : decode cX6_init 185 = .ok (.newarray .int, 2) := by decide +kernel
theorem dX6_init_187 : decode cX6_init 187 = .ok (.putfield 62, 3) := by decide +kernel
theorem dX6_init_190 : decode cX6_init 190 = .ok (.aload_n 0, 1) := by decide +kernel
theorem dX6_init_191 : decode cX6_init 191 = .ok (.sipush 600, 3) := by decide +kernel
theorem dX6_init_194 : decode cX6_init 194 = .ok (.newarray .int, 2) := by decide +kernel
theorem dX6_init_196 : decode cX6_init 196 = .ok (.putfield 65, 3) := by decide +kernel
theorem dX6_init_199 : decode cX6_init 199 = .ok (.aload_n 0, 1) := by decide +kernel
theorem dX6_init_200 : decode cX6_init 200 = .ok (.sipush 600, 3) := by decide +kernel
theorem dX6_init_203 : decode cX6_init 203 = .ok (.newarray .int, 2) := by decide +kernel
theorem dX6_init_205 : decode cX6_init 205 = .ok (.putfield 68, 3) := by decide +kernel
theorem dX6_init_208 : decode cX6_init 208 = .ok (.aload_n 0, 1) := by decide +kernel
theorem dX6_init_209 : decode cX6_init 209 = .ok (.sipush 600, 3) := by decide +kernel
theorem dX6_init_212 : decode cX6_init 212 = .ok (.newarray .int, 2) := by decide +kernel
theorem dX6_init_214 : decode cX6_init 214 = .ok (.putfield 71, 3) := by decide +kernel
theorem dX6_init_217 : decode cX6_init 217 = .ok (.aload_n 0, 1) := by decide +kernel
theorem dX6_init_218 : decode cX6_init 218 = .ok (.bipush 7, 2) := by decide +kernel
theorem dX6_init_220 : decode cX6_init 220 = .ok (.newarray .int, 2) := by decide +kernel
theorem dX6_init_222 : decode cX6_init 222 = .ok (.putfield 74, 3) := by decide +kernel
theorem dX6_init_225 : decode cX6_init 225 = .ok (.aload_n 0, 1) := by decide +kernel
theorem dX6_init_226 : decode cX6_init 226 = .ok (.bipush 7, 2) := by decide +kernel
theorem dX6_init_228 : decode cX6_init 228 = .ok (.newarray .int, 2) := by decide +kernel
theorem dX6_init_230 : decode cX6_init 230 = .ok (.putfield 77, 3) := by decide +kernel
theorem dX6_init_233 : decode cX6_init 233 = .ok (.aload_n 0, 1) := by decide +kernel
theorem dX6_init_234 : decode cX6_init 234 = .ok (.bipush 7, 2) := by decide +kernel
theorem dX6_init_236 : decode cX6_init 236 = .ok (.newarray .int, 2) := by decide +kernel
theorem dX6_init_238 : decode cX6_init 238 = .ok (.putfield 80, 3) := by decide +kernel
theorem dX6_init_241 : decode cX6_init 241 = .ok (.aload_n 0, 1) := by decide +kernel
theorem dX6_init_242 : decode cX6_init 242 = .ok (.bipush 35, 2) := by decide +kernel
theorem dX6_init_244 : decode cX6_init 244 = .ok (.newarray .int, 2) := by decide +kernel
theorem dX6_init_246 : decode cX6_init 246 = .ok (.putfield 83, 3) := by decide +kernel
theorem dX6_init_249 : decode cX6_init 249 = .ok (.return_, 1) := by decide +kernel
theorem dX6_refuse_0 : decode cX6_refuse 0 = .ok (.aload_n 0, 1) := by decide +kernel
theorem dX6_refuse_1 : decode cX6_refuse 1 = .ok (.getfield 7, 3) := by decide +kernel
theorem dX6_refuse_4 : decode cX6_refuse 4 = .ok (.iload_n 1, 1) := by decide +kernel
theorem dX6_refuse_5 : decode cX6_refuse 5 = .ok (.ineg, 1) := by decide +kernel
theorem dX6_refuse_6 : decode cX6_refuse 6 = .ok (.dup2, 1) := by decide +kernel
theorem dX6_refuse_7 : decode cX6_refuse 7 = .ok (.iaload, 1) := by decide +kernel
theorem dX6_refuse_8 : decode cX6_refuse 8 = .ok (.iconst 1, 1) := by decide +kernel
theorem dX6_refuse_9 : decode cX6_refuse 9 = .ok (.iadd, 1) := by decide +kernel
theorem dX6_refuse_10 : decode cX6_refuse 10 = .ok (.iastore, 1) := by decide +kernel
theorem dX6_refuse_11 : decode cX6_refuse 11 = .ok (.iload_n 1, 1) := by decide +kernel
theorem dX6_refuse_12 : decode cX6_refuse 12 = .ok (.ireturn, 1) := by decide +kernel
theorem dX6_isIn_0 : decode cX6_isIn 0 = .ok (.iload_n 0, 1) := by decide +kernel
theorem dX6_isIn_1 : decode cX6_isIn 1 = .ok (.ifCond .lt 12, 3) := by decide +kernel
theorem dX6_isIn_4 : decode cX6_isIn 4 = .ok (.iload_n 0, 1) := by decide +kernel
theorem dX6_isIn_5 : decode cX6_isIn 5 = .ok (.iload_n 1, 1) := by decide +kernel
theorem dX6_isIn_6 : decode cX6_isIn 6 = .ok (.if_icmp .ge 7, 3) := by decide +kernel
theorem dX6_isIn_9 : decode cX6_isIn 9 = .ok (.iconst 1, 1) := by decide +kernel
theorem dX6_isIn_10 : decode cX6_isIn 10 = .ok (.goto 4, 3) := by decide +kernel
theorem dX6_isIn_13 : decode cX6_isIn 13 = .ok (.iconst 0, 1) := by decide +kernel
theorem dX6_isIn_14 : decode cX6_isIn 14 = .ok (.ireturn, 1) := by decide +kernel
theorem dX6_isPlace_0 : decode cX6_isPlace 0 = .ok (.iload_n 1, 1) := by decide +kernel
theorem dX6_isPlace_1 : decode cX6_isPlace 1 = .ok (.aload_n 0, 1) := by decide +kernel
theorem dX6_isPlace_2 : decode cX6_isPlace 2 = .ok (.getfield 86, 3) := by decide +kernel
theorem dX6_isPlace_5 : decode cX6_isPlace 5 = .ok (.invokestatic 89, 3) := by decide +kernel
theorem dX6_isPlace_8 : decode cX6_isPlace 8 = .ok (.ifCond .eq 20, 3) := by decide +kernel
theorem dX6_isPlace_11 : decode cX6_isPlace 11 = .ok (.iload_n 2, 1) := by decide +kernel
theorem dX6_isPlace_12 : decode cX6_isPlace 12 = .ok (.aload_n 0, 1) := by decide +kernel
theorem dX6_isPlace_13 : decode cX6_isPlace 13 = .ok (.getfield 23, 3) := by decide +kernel
theorem dX6_isPlace_16 : decode cX6_isPlace 16 = .ok (.iload_n 1, 1) := by decide +kernel
theorem dX6_isPlace_17 : decode cX6_isPlace 17 = .ok (.iaload, 1) := by decide +kernel
theorem dX6_isPlace_18 : decode cX6_isPlace 18 = .ok (.invokestatic 89, 3) := by decide +kernel
theorem dX6_isPlace_21 : decode cX6_isPlace 21 = .ok (.ifCond .eq 7, 3) := by decide +kernel
theorem dX6_isPlace_24 : decode cX6_isPlace 24 = .ok (.iconst 1, 1) := by decide +kernel
theorem dX6_isPlace_25 : decode cX6_isPlace 25 = .ok (.goto 4, 3) := by decide +kernel
theorem dX6_isPlace_28 : decode cX6_isPlace 28 = .ok (.iconst 0, 1) := by decide +kernel
theorem dX6_isPlace_29 : decode cX6_isPlace 29 = .ok (.ireturn, 1) := by decide +kernel
theorem dX6_spot_0 : decode cX6_spot 0 = .ok (.bipush 7, 2) := by decide +kernel
theorem dX6_spot_2 : decode cX6_spot 2 = .ok (.iload_n 0, 1) := by decide +kernel
theorem dX6_spot_3 : decode cX6_spot 3 = .ok (.imul, 1) := by decide +kernel
theorem dX6_spot_4 : decode cX6_spot 4 = .ok (.iload_n 1, 1) := by decide +kernel
theorem dX6_spot_5 : decode cX6_spot 5 = .ok (.iadd, 1) := by decide +kernel
theorem dX6_spot_6 : decode cX6_spot 6 = .ok (.ireturn, 1) := by decide +kernel
theorem dX6_wagon_0 : decode cX6_wagon 0 = .ok (.aload_n 0, 1) := by decide +kernel
theorem dX6_wagon_1 : decode cX6_wagon 1 = .ok (.getfield 86, 3) := by decide +kernel
theorem dX6_wagon_4 : decode cX6_wagon 4 = .ok (.iconst 5, 1) := by decide +kernel
theorem dX6_wagon_5 : decode cX6_wagon 5 = .ok (.if_icmp .ne 10, 3) := by decide +kernel
theorem dX6_wagon_8 : decode cX6_wagon 8 = .ok (.aload_n 0, 1) := by decide +kernel
theorem dX6_wagon_9 : decode cX6_wagon 9 = .ok (.bipush (-6), 2) := by decide +kernel
theorem dX6_wagon_11 : decode cX6_wagon 11 = .ok (.invokevirtual 93, 3) := by decide +kernel
theorem dX6_wagon_14 : decode cX6_wagon 14 = .ok (.ireturn, 1) := by decide +kernel
theorem dX6_wagon_15 : decode cX6_wagon 15 = .ok (.aload_n 0, 1) := by decide +kernel
theorem dX6_wagon_16 : decode cX6_wagon 16 = .ok (.dup, 1) := by decide +kernel
theorem dX6_wagon_17 : decode cX6_wagon 17 = .ok (.getfield 86, 3) := by decide +kernel
theorem dX6_wagon_20 : decode cX6_wagon 20 = .ok (.iconst 1, 1) := by decide +kernel
theorem dX6_wagon_21 : decode cX6_wagon 21 = .ok (.iadd, 1) := by decide +kernel
theorem dX6_wagon_22 : decode cX6_wagon 22 = .ok (.putfield 86, 3) := by decide +kernel
theorem dX6_wagon_25 : decode cX6_wagon 25 = .ok (.aload_n 0, 1) := by decide +kernel
theorem dX6_wagon_26 : decode cX6_wagon 26 = .ok (.getfield 86, 3) := by decide +kernel
theorem dX6_wagon_29 : decode cX6_wagon 29 = .ok (.iconst 1, 1) := by decide +kernel
theorem dX6_wagon_30 : decode cX6_wagon 30 = .ok (.isub, 1) := by decide +kernel
theorem dX6_wagon_31 : decode cX6_wagon 31 = .ok (.ireturn, 1) := by decide +kernel
theorem dX6_place_0 : decode cX6_place 0 = .ok (.iload_n 1, 1) := by decide +kernel
theorem dX6_place_1 : decode cX6_place 1 = .ok (.aload_n 0, 1) := by decide +kernel
theorem dX6_place_2 : decode cX6_place 2 = .ok (.getfield 86, 3) := by decide +kernel
theorem dX6_place_5 : decode cX6_place 5 = .ok (.invokestatic 89, 3) := by decide +kernel
theorem dX6_place_8 : decode cX6_place 8 = .ok (.ifCond .eq 11, 3) := by decide +kernel
theorem dX6_place_11 : decode cX6_place 11 = .ok (.iload_n 2, 1) := by decide +kernel
theorem dX6_place_12 : decode cX6_place 12 = .ok (.iconst 5, 1) := by decide +kernel
theorem dX6_place_13 : decode cX6_place 13 = .ok (.invokestatic 89, 3) := by decide +kernel
theorem dX6_place_16 : decode cX6_place 16 = .ok (.ifCond .ne 9, 3) := by decide +kernel
theorem dX6_place_19 : decode cX6_place 19 = .ok (.aload_n 0, 1) := by decide +kernel
theorem dX6_place_20 : decode cX6_place 20 = .ok (.iconst (-1), 1) := by decide +kernel
theorem dX6_place_21 : decode cX6_place 21 = .ok (.invokevirtual 93, 3) := by decide +kernel
theorem dX6_place_24 : decode cX6_place 24 = .ok (.ireturn, 1) := by decide +kernel
theorem dX6_place_25 : decode cX6_place 25 = .ok (.aload_n 0, 1) := by decide +kernel
theorem dX6_place_26 : decode cX6_place 26 = .ok (.getfield 23, 3) := by decide +kernel
theorem dX6_place_29 : decode cX6_place 29 = .ok (.iload_n 1, 1) := by decide +kernel
theorem dX6_place_30 : decode cX6_place 30 = .ok (.iaload, 1) := by decide +kernel
theorem dX6_place_31 : decode cX6_place 31 = .ok (.bipush 7, 2) := by decide +kernel
theorem dX6_place_33 : decode cX6_place 33 = .ok (.if_icmp .ne 10, 3) := by decide +kernel
theorem dX6_place_36 : decode cX6_place 36 = .ok (.aload_n 0, 1) := by decide +kernel
theorem dX6_place_37 : decode cX6_place 37 = .ok (.bipush (-6), 2) := by decide +kernel
theorem dX6_place_39 : decode cX6_place 39 = .ok (.invokevirtual 93, 3) := by decide +kernel
theorem dX6_place_42 : decode cX6_place 42 = .ok (.ireturn, 1) := by decide +kernel
theorem dX6_place_43 : decode cX6_place 43 = .ok (.aload_n 0, 1) := by decide +kernel
theorem dX6_place_44 : decode cX6_place 44 = .ok (.getfield 23, 3) := by decide +kernel
theorem dX6_place_47 : decode cX6_place 47 = .ok (.iload_n 1, 1) := by decide +kernel
theorem dX6_place_48 : decode cX6_place 48 = .ok (.iaload, 1) := by decide +kernel
theorem dX6_place_49 : decode cX6_place 49 = .ok (.istore_n 3, 1) := by decide +kernel
theorem dX6_place_50 : decode cX6_place 50 = .ok (.iload_n 1, 1) := by decide +kernel
theorem dX6_place_51 : decode cX6_place 51 = .ok (.iload_n 3, 1) := by decide +kernel
theorem dX6_place_52 : decode cX6_place 52 = .ok (.invokestatic 97, 3) := by decide +kernel
theorem dX6_place_55 : decode cX6_place 55 = .ok (.istore 4, 2) := by decide +kernel
theorem dX6_place_57 : decode cX6_place 57 = .ok (.aload_n 0, 1) := by decide +kernel
theorem dX6_place_58 : decode cX6_place 58 = .ok (.getfield 26, 3) := by decide +kernel
theorem dX6_place_61 : decode cX6_place 61 = .ok (.iload 4, 2) := by decide +kernel
theorem dX6_place_63 : decode cX6_place 63 = .ok (.iload_n 2, 1) := by decide +kernel
theorem dX6_place_64 : decode cX6_place 64 = .ok (.iastore, 1) := by decide +kernel
theorem dX6_place_65 : decode cX6_place 65 = .ok (.aload_n 0, 1) := by decide +kernel
theorem dX6_place_66 : decode cX6_place 66 = .ok (.getfield 29, 3) := by decide +kernel
theorem dX6_place_69 : decode cX6_place 69 = .ok (.iload 4, 2) := by decide +kernel
theorem dX6_place_71 : decode cX6_place 71 = .ok (.iconst (-1), 1) := by decide +kernel
theorem dX6_place_72 : decode cX6_place 72 = .ok (.iastore, 1) := by decide +kernel
theorem dX6_place_73 : decode cX6_place 73 = .ok (.aload_n 0, 1) := by decide +kernel
theorem dX6_place_74 : decode cX6_place 74 = .ok (.getfield 32, 3) := by decide +kernel
theorem dX6_place_77 : decode cX6_place 77 = .ok (.iload 4, 2) := by decide +kernel
theorem dX6_place_79 : decode cX6_place 79 = .ok (.iconst (-1), 1) := by decide +kernel
theorem dX6_place_80 : decode cX6_place 80 = .ok (.iastore, 1) := by decide +kernel
theorem dX6_place_81 : decode cX6_place 81 = .ok (.iload_n 3, 1) := by decide +kernel
theorem dX6_place_82 : decode cX6_place 82 = .ok (.iconst 1, 1) := by decide +kernel
theorem dX6_place_83 : decode cX6_place 83 = .ok (.isub, 1) := by decide +kernel
theorem dX6_place_84 : decode cX6_place 84 = .ok (.istore 5, 2) := by decide +kernel
theorem dX6_place_86 : decode cX6_place 86 = .ok (.iload 5, 2) := by decide +kernel
theorem dX6_place_88 : decode cX6_place 88 = .ok (.ifCond .lt 77, 3) := by decide +kernel
theorem dX6_place_91 : decode cX6_place 91 = .ok (.iload_n 2, 1) := by decide +kernel
theorem dX6_place_92 : decode cX6_place 92 = .ok (.iconst 2, 1) := by decide +kernel
theorem dX6_place_93 : decode cX6_place 93 = .ok (.if_icmp .ne 72, 3) := by decide +kernel
theorem dX6_place_96 : decode cX6_place 96 = .ok (.aload_n 0, 1) := by decide +kernel
theorem dX6_place_97 : decode cX6_place 97 = .ok (.getfield 32, 3) := by decide +kernel
theorem dX6_place_100 : decode cX6_place 100 = .ok (.iload 4, 2) := by decide +kernel
theorem dX6_place_102 : decode cX6_place 102 = .ok (.iaload, 1) := by decide +kernel
theorem dX6_place_103 : decode cX6_place 103 = .ok (.ifCond .ge 62, 3) := by decide +kernel
theorem dX6_place_106 : decode cX6_place 106 = .ok (.aload_n 0, 1) := by decide +kernel
theorem dX6_place_107 : decode cX6_place 107 = .ok (.getfield 26, 3) := by decide +kernel
theorem dX6_place_110 : decode cX6_place 110 = .ok (.iload_n 1, 1) := by decide +kernel
theorem dX6_place_111 : decode cX6_place 111 = .ok (.iload 5, 2) := by decide +kernel
theorem dX6_place_113 : decode cX6_place 113 = .ok (.invokestatic 97, 3) := by decide +kernel
theorem dX6_place_116 : decode cX6_place 116 = .ok (.iaload, 1) := by decide +kernel
theorem dX6_place_117 : decode cX6_place 117 = .ok (.iconst 2, 1) := by decide +kernel
theorem dX6_place_118 : decode cX6_place 118 = .ok (.if_icmp .ne 41, 3) := by decide +kernel
theorem dX6_place_121 : decode cX6_place 121 = .ok (.aload_n 0, 1) := by decide +kernel
theorem dX6_place_122 : decode cX6_place 122 = .ok (.getfield 32, 3) := by decide +kernel
theorem dX6_place_125 : decode cX6_place 125 = .ok (.iload_n 1, 1) := by decide +kernel
theorem dX6_place_126 : decode cX6_place 126 = .ok (.iload 5, 2) := by decide +kernel
theorem dX6_place_128 : decode cX6_place 128 = .ok (.invokestatic 97, 3) := by decide +kernel
theorem dX6_place_131 : decode cX6_place 131 = .ok (.iaload, 1) := by decide +kernel
theorem dX6_place_132 : decode cX6_place 132 = .ok (.ifCond .lt 6, 3) := by decide +kernel
theorem dX6_place_135 : decode cX6_place 135 = .ok (.goto 24, 3) := by decide +kernel
theorem dX6_place_138 : decode cX6_place 138 = .ok (.aload_n 0, 1) := by decide +kernel
theorem dX6_place_139 : decode cX6_place 139 = .ok (.getfield 32, 3) := by decide +kernel
theorem dX6_place_142 : decode cX6_place 142 = .ok (.iload 4, 2) := by decide +kernel
theorem dX6_place_144 : decode cX6_place 144 = .ok (.iload 5, 2) := by decide +kernel
theorem dX6_place_146 : decode cX6_place 146 = .ok (.iastore, 1) := by decide +kernel
theorem dX6_place_147 : decode cX6_place 147 = .ok (.aload_n 0, 1) := by decide +kernel
theorem dX6_place_148 : decode cX6_place 148 = .ok (.getfield 32, 3) := by decide +kernel
theorem dX6_place_151 : decode cX6_place 151 = .ok (.iload_n 1, 1) := by decide +kernel
theorem dX6_place_152 : decode cX6_place 152 = .ok (.iload 5, 2) := by decide +kernel
theorem dX6_place_154 : decode cX6_place 154 = .ok (.invokestatic 97, 3) := by decide +kernel
theorem dX6_place_157 : decode cX6_place 157 = .ok (.iload_n 3, 1) := by decide +kernel
theorem dX6_place_158 : decode cX6_place 158 = .ok (.iastore, 1) := by decide +kernel
theorem dX6_place_159 : decode cX6_place 159 = .ok (.iinc 5 (-1), 3) := by decide +kernel
theorem dX6_place_162 : decode cX6_place 162 = .ok (.goto (-76), 3) := by decide +kernel
theorem dX6_place_165 : decode cX6_place 165 = .ok (.aload_n 0, 1) := by decide +kernel
theorem dX6_place_166 : decode cX6_place 166 = .ok (.getfield 23, 3) := by decide +kernel
theorem dX6_place_169 : decode cX6_place 169 = .ok (.iload_n 1, 1) := by decide +kernel
theorem dX6_place_170 : decode cX6_place 170 = .ok (.dup2, 1) := by decide +kernel
theorem dX6_place_171 : decode cX6_place 171 = .ok (.iaload, 1) := by decide +kernel
theorem dX6_place_172 : decode cX6_place 172 = .ok (.iconst 1, 1) := by decide +kernel
theorem dX6_place_173 : decode cX6_place 173 = .ok (.iadd, 1) := by decide +kernel
theorem dX6_place_174 : decode cX6_place 174 = .ok (.iastore, 1) := by decide +kernel
theorem dX6_place_175 : decode cX6_place 175 = .ok (.iload_n 3, 1) := by decide +kernel
theorem dX6_place_176 : decode cX6_place 176 = .ok (.ireturn, 1) := by decide +kernel
theorem dX6_least_0 : decode cX6_least 0 = .ok (.iload_n 1, 1) := by decide +kernel
theorem dX6_least_1 : decode cX6_least 1 = .ok (.iconst 5, 1) := by decide +kernel
theorem dX6_least_2 : decode cX6_least 2 = .ok (.invokestatic 89, 3) := by decide +kernel
theorem dX6_least_5 : decode cX6_least 5 = .ok (.ifCond .ne 9, 3) := by decide +kernel
theorem dX6_least_8 : decode cX6_least 8 = .ok (.aload_n 0, 1) := by decide +kernel
theorem dX6_least_9 : decode cX6_least 9 = .ok (.iconst (-1), 1) := by decide +kernel
theorem dX6_least_10 : decode cX6_least 10 = .ok (.invokevirtual 93, 3) := by decide +kernel
theorem dX6_least_13 : decode cX6_least 13 = .ok (.ireturn, 1) := by decide +kernel
theorem dX6_least_14 : decode cX6_least 14 = .ok (.iload_n 2, 1) := by decide +kernel
theorem dX6_least_15 : decode cX6_least 15 = .ok (.ifCond .ge 10, 3) := by decide +kernel
theorem dX6_least_18 : decode cX6_least 18 = .ok (.aload_n 0, 1) := by decide +kernel
theorem dX6_least_19 : decode cX6_least 19 = .ok (.bipush (-4), 2) := by decide +kernel
theorem dX6_least_21 : decode cX6_least 21 = .ok (.invokevirtual 93, 3) := by decide +kernel
theorem dX6_least_24 : decode cX6_least 24 = .ok (.ireturn, 1) := by decide +kernel
theorem dX6_least_25 : decode cX6_least 25 = .ok (.iload_n 2, 1) := by decide +kernel
theorem dX6_least_26 : decode cX6_least 26 = .ok (.bipush 100, 2) := by decide +kernel
theorem dX6_least_28 : decode cX6_least 28 = .ok (.if_icmp .le 10, 3) := by decide +kernel
theorem dX6_least_31 : decode cX6_least 31 = .ok (.aload_n 0, 1) := by decide +kernel
theorem dX6_least_32 : decode cX6_least 32 = .ok (.bipush (-6), 2) := by decide +kernel
theorem dX6_least_34 : decode cX6_least 34 = .ok (.invokevirtual 93, 3) := by decide +kernel
theorem dX6_least_37 : decode cX6_least 37 = .ok (.ireturn, 1) := by decide +kernel
theorem dX6_least_38 : decode cX6_least 38 = .ok (.aload_n 0, 1) := by decide +kernel
theorem dX6_least_39 : decode cX6_least 39 = .ok (.getfield 13, 3) := by decide +kernel
theorem dX6_least_42 : decode cX6_least 42 = .ok (.iload_n 1, 1) := by decide +kernel
theorem dX6_least_43 : decode cX6_least 43 = .ok (.iaload, 1) := by decide +kernel
theorem dX6_least_44 : decode cX6_least 44 = .ok (.istore_n 3, 1) := by decide +kernel
theorem dX6_least_45 : decode cX6_least 45 = .ok (.aload_n 0, 1) := by decide +kernel
theorem dX6_least_46 : decode cX6_least 46 = .ok (.getfield 13, 3) := by decide +kernel
theorem dX6_least_49 : decode cX6_least 49 = .ok (.iload_n 1, 1) := by decide +kernel
theorem dX6_least_50 : decode cX6_least 50 = .ok (.iload_n 2, 1) := by decide +kernel
theorem dX6_least_51 : decode cX6_least 51 = .ok (.iastore, 1) := by decide +kernel
theorem dX6_least_52 : decode cX6_least 52 = .ok (.iload_n 3, 1) := by decide +kernel
theorem dX6_least_53 : decode cX6_least 53 = .ok (.ireturn, 1) := by decide +kernel
theorem dX6_apart_0 : decode cX6_apart 0 = .ok (.iload_n 1, 1) := by decide +kernel
theorem dX6_apart_1 : decode cX6_apart 1 = .ok (.ifCond .ge 10, 3) := by decide +kernel
theorem dX6_apart_4 : decode cX6_apart 4 = .ok (.aload_n 0, 1) := by decide +kernel
theorem dX6_apart_5 : decode cX6_apart 5 = .ok (.bipush (-4), 2) := by decide +kernel
theorem dX6_apart_7 : decode cX6_apart 7 = .ok (.invokevirtual 93, 3) := by decide +kernel
theorem dX6_apart_10 : decode cX6_apart 10 = .ok (.ireturn, 1) := by decide +kernel
theorem dX6_apart_11 : decode cX6_apart 11 = .ok (.iload_n 1, 1) := by decide +kernel
theorem dX6_apart_12 : decode cX6_apart 12 = .ok (.bipush 100, 2) := by decide +kernel
theorem dX6_apart_14 : decode cX6_apart 14 = .ok (.if_icmp .le 10, 3) := by decide +kernel
theorem dX6_apart_17 : decode cX6_apart 17 = .ok (.aload_n 0, 1) := by decide +kernel
theorem dX6_apart_18 : decode cX6_apart 18 = .ok (.bipush (-6), 2) := by decide +kernel
theorem dX6_apart_20 : decode cX6_apart 20 = .ok (.invokevirtual 93, 3) := by decide +kernel
theorem dX6_apart_23 : decode cX6_apart 23 = .ok (.ireturn, 1) := by decide +kernel
theorem dX6_apart_24 : decode cX6_apart 24 = .ok (.aload_n 0, 1) := by decide +kernel
theorem dX6_apart_25 : decode cX6_apart 25 = .ok (.getfield 19, 3) := by decide +kernel
theorem dX6_apart_28 : decode cX6_apart 28 = .ok (.istore_n 2, 1) := by decide +kernel
theorem dX6_apart_29 : decode cX6_apart 29 = .ok (.aload_n 0, 1) := by decide +kernel
theorem dX6_apart_30 : decode cX6_apart 30 = .ok (.iload_n 1, 1) := by decide +kernel
theorem dX6_apart_31 : decode cX6_apart 31 = .ok (.putfield 19, 3) := by decide +kernel
theorem dX6_apart_34 : decode cX6_apart 34 = .ok (.iload_n 2, 1) := by decide +kernel
theorem dX6_apart_35 : decode cX6_apart 35 = .ok (.ireturn, 1) := by decide +kernel
theorem dX6_maker_0 : decode cX6_maker 0 = .ok (.iload_n 1, 1) := by decide +kernel
theorem dX6_maker_1 : decode cX6_maker 1 = .ok (.iconst 4, 1) := by decide +kernel
theorem dX6_maker_2 : decode cX6_maker 2 = .ok (.invokestatic 89, 3) := by decide +kernel
theorem dX6_maker_5 : decode cX6_maker 5 = .ok (.ifCond .ne 9, 3) := by decide +kernel
theorem dX6_maker_8 : decode cX6_maker 8 = .ok (.aload_n 0, 1) := by decide +kernel
theorem dX6_maker_9 : decode cX6_maker 9 = .ok (.iconst (-1), 1) := by decide +kernel
theorem dX6_maker_10 : decode cX6_maker 10 = .ok (.invokevirtual 93, 3) := by decide +kernel
theorem dX6_maker_13 : decode cX6_maker 13 = .ok (.ireturn, 1) := by decide +kernel
theorem dX6_maker_14 : decode cX6_maker 14 = .ok (.iload_n 2, 1) := by decide +kernel
theorem dX6_maker_15 : decode cX6_maker 15 = .ok (.ifCond .ge 10, 3) := by decide +kernel
theorem dX6_maker_18 : decode cX6_maker 18 = .ok (.aload_n 0, 1) := by decide +kernel
theorem dX6_maker_19 : decode cX6_maker 19 = .ok (.bipush (-4), 2) := by decide +kernel
theorem dX6_maker_21 : decode cX6_maker 21 = .ok (.invokevirtual 93, 3) := by decide +kernel
theorem dX6_maker_24 : decode cX6_maker 24 = .ok (.ireturn, 1) := by decide +kernel
theorem dX6_maker_25 : decode cX6_maker 25 = .ok (.iload_n 2, 1) := by decide +kernel
theorem dX6_maker_26 : decode cX6_maker 26 = .ok (.sipush 1000, 3) := by decide +kernel
theorem dX6_maker_29 : decode cX6_maker 29 = .ok (.if_icmp .le 10, 3) := by decide +kernel
theorem dX6_maker_32 : decode cX6_maker 32 = .ok (.aload_n 0, 1) := by decide +kernel
theorem dX6_maker_33 : decode cX6_maker 33 = .ok (.bipush (-6), 2) := by decide +kernel
theorem dX6_maker_35 : decode cX6_maker 35 = .ok (.invokevirtual 93, 3) := by decide +kernel
theorem dX6_maker_38 : decode cX6_maker 38 = .ok (.ireturn, 1) := by decide +kernel
theorem dX6_maker_39 : decode cX6_maker 39 = .ok (.aload_n 0, 1) := by decide +kernel
theorem dX6_maker_40 : decode cX6_maker 40 = .ok (.getfield 16, 3) := by decide +kernel
theorem dX6_maker_43 : decode cX6_maker 43 = .ok (.iload_n 1, 1) := by decide +kernel
theorem dX6_maker_44 : decode cX6_maker 44 = .ok (.iaload, 1) := by decide +kernel
theorem dX6_maker_45 : decode cX6_maker 45 = .ok (.istore_n 3, 1) := by decide +kernel
theorem dX6_maker_46 : decode cX6_maker 46 = .ok (.aload_n 0, 1) := by decide +kernel
theorem dX6_maker_47 : decode cX6_maker 47 = .ok (.getfield 16, 3) := by decide +kernel
theorem dX6_maker_50 : decode cX6_maker 50 = .ok (.iload_n 1, 1) := by decide +kernel
theorem dX6_maker_51 : decode cX6_maker 51 = .ok (.iload_n 2, 1) := by decide +kernel
theorem dX6_maker_52 : decode cX6_maker 52 = .ok (.iastore, 1) := by decide +kernel
theorem dX6_maker_53 : decode cX6_maker 53 = .ok (.iload_n 3, 1) := by decide +kernel
theorem dX6_maker_54 : decode cX6_maker 54 = .ok (.ireturn, 1) := by decide +kernel
theorem dX6_log_0 : decode cX6_log 0 = .ok (.aload_n 0, 1) := by decide +kernel
theorem dX6_log_1 : decode cX6_log 1 = .ok (.getfield 101, 3) := by decide +kernel
theorem dX6_log_4 : decode cX6_log 4 = .ok (.sipush 600, 3) := by decide +kernel
theorem dX6_log_7 : decode cX6_log 7 = .ok (.if_icmp .ne 4, 3) := by decide +kernel
theorem dX6_log_10 : decode cX6_log 10 = .ok (.return_, 1) := by decide +kernel
theorem dX6_log_11 : decode cX6_log 11 = .ok (.aload_n 0, 1) := by decide +kernel
theorem dX6_log_12 : decode cX6_log 12 = .ok (.getfield 65, 3) := by decide +kernel
theorem dX6_log_15 : decode cX6_log 15 = .ok (.aload_n 0, 1) := by decide +kernel
theorem dX6_log_16 : decode cX6_log 16 = .ok (.getfield 101, 3) := by decide +kernel
theorem dX6_log_19 : decode cX6_log 19 = .ok (.iload_n 1, 1) := by decide +kernel
theorem dX6_log_20 : decode cX6_log 20 = .ok (.iastore, 1) := by decide +kernel
theorem dX6_log_21 : decode cX6_log 21 = .ok (.aload_n 0, 1) := by decide +kernel
theorem dX6_log_22 : decode cX6_log 22 = .ok (.getfield 68, 3) := by decide +kernel
theorem dX6_log_25 : decode cX6_log 25 = .ok (.aload_n 0, 1) := by decide +kernel
theorem dX6_log_26 : decode cX6_log 26 = .ok (.getfield 101, 3) := by decide +kernel
theorem dX6_log_29 : decode cX6_log 29 = .ok (.aload_n 0, 1) := by decide +kernel
theorem dX6_log_30 : decode cX6_log 30 = .ok (.getfield 104, 3) := by decide +kernel
theorem dX6_log_33 : decode cX6_log 33 = .ok (.iastore, 1) := by decide +kernel
theorem dX6_log_34 : decode cX6_log 34 = .ok (.aload_n 0, 1) := by decide +kernel
theorem dX6_log_35 : decode cX6_log 35 = .ok (.getfield 71, 3) := by decide +kernel
theorem dX6_log_38 : decode cX6_log 38 = .ok (.aload_n 0, 1) := by decide +kernel
theorem dX6_log_39 : decode cX6_log 39 = .ok (.getfield 101, 3) := by decide +kernel
theorem dX6_log_42 : decode cX6_log 42 = .ok (.aload_n 0, 1) := by decide +kernel
theorem dX6_log_43 : decode cX6_log 43 = .ok (.getfield 50, 3) := by decide +kernel
theorem dX6_log_46 : decode cX6_log 46 = .ok (.iload_n 1, 1) := by decide +kernel
theorem dX6_log_47 : decode cX6_log 47 = .ok (.iaload, 1) := by decide +kernel
theorem dX6_log_48 : decode cX6_log 48 = .ok (.iastore, 1) := by decide +kernel
theorem dX6_log_49 : decode cX6_log 49 = .ok (.aload_n 0, 1) := by decide +kernel
theorem dX6_log_50 : decode cX6_log 50 = .ok (.dup, 1) := by decide +kernel
theorem dX6_log_51 : decode cX6_log 51 = .ok (.getfield 101, 3) := by decide +kernel
theorem dX6_log_54 : decode cX6_log 54 = .ok (.iconst 1, 1) := by decide +kernel
theorem dX6_log_55 : decode cX6_log 55 = .ok (.iadd, 1) := by decide +kernel
theorem dX6_log_56 : decode cX6_log 56 = .ok (.putfield 101, 3) := by decide +kernel
theorem dX6_log_59 : decode cX6_log 59 = .ok (.return_, 1) := by decide +kernel
theorem dX6_hasRoom_0 : decode cX6_hasRoom 0 = .ok (.aload_n 0, 1) := by decide +kernel
theorem dX6_hasRoom_1 : decode cX6_hasRoom 1 = .ok (.getfield 101, 3) := by decide +kernel
theorem dX6_hasRoom_4 : decode cX6_hasRoom 4 = .ok (.iload_n 1, 1) := by decide +kernel
theorem dX6_hasRoom_5 : decode cX6_hasRoom 5 = .ok (.iadd, 1) := by decide +kernel
theorem dX6_hasRoom_6 : decode cX6_hasRoom 6 = .ok (.sipush 600, 3) := by decide +kernel
theorem dX6_hasRoom_9 : decode cX6_hasRoom 9 = .ok (.if_icmp .gt 7, 3) := by decide +kernel
theorem dX6_hasRoom_12 : decode cX6_hasRoom 12 = .ok (.iconst 1, 1) := by decide +kernel
theorem dX6_hasRoom_13 : decode cX6_hasRoom 13 = .ok (.goto 4, 3) := by decide +kernel
theorem dX6_hasRoom_16 : decode cX6_hasRoom 16 = .ok (.iconst 0, 1) := by decide +kernel
theorem dX6_hasRoom_17 : decode cX6_hasRoom 17 = .ok (.ireturn, 1) := by decide +kernel
theorem dX6_fresh_0 : decode cX6_fresh 0 = .ok (.aload_n 0, 1) := by decide +kernel
theorem dX6_fresh_1 : decode cX6_fresh 1 = .ok (.getfield 47, 3) := by decide +kernel
theorem dX6_fresh_4 : decode cX6_fresh 4 = .ok (.iload_n 1, 1) := by decide +kernel
theorem dX6_fresh_5 : decode cX6_fresh 5 = .ok (.iconst 0, 1) := by decide +kernel
theorem dX6_fresh_6 : decode cX6_fresh 6 = .ok (.iastore, 1) := by decide +kernel
theorem dX6_fresh_7 : decode cX6_fresh 7 = .ok (.aload_n 0, 1) := by decide +kernel
theorem dX6_fresh_8 : decode cX6_fresh 8 = .ok (.getfield 56, 3) := by decide +kernel
theorem dX6_fresh_11 : decode cX6_fresh 11 = .ok (.iload_n 1, 1) := by decide +kernel
theorem dX6_fresh_12 : decode cX6_fresh 12 = .ok (.iconst 1, 1) := by decide +kernel
theorem dX6_fresh_13 : decode cX6_fresh 13 = .ok (.iastore, 1) := by decide +kernel
theorem dX6_fresh_14 : decode cX6_fresh 14 = .ok (.aload_n 0, 1) := by decide +kernel
theorem dX6_fresh_15 : decode cX6_fresh 15 = .ok (.getfield 59, 3) := by decide +kernel
theorem dX6_fresh_18 : decode cX6_fresh 18 = .ok (.bipush 13, 2) := by decide +kernel
theorem dX6_fresh_20 : decode cX6_fresh 20 = .ok (.iload_n 1, 1) := by decide +kernel
theorem dX6_fresh_21 : decode cX6_fresh 21 = .ok (.imul, 1) := by decide +kernel
theorem dX6_fresh_22 : decode cX6_fresh 22 = .ok (.iconst 0, 1) := by decide +kernel
theorem dX6_fresh_23 : decode cX6_fresh 23 = .ok (.iastore, 1) := by decide +kernel
theorem dX6_fresh_24 : decode cX6_fresh 24 = .ok (.aload_n 0, 1) := by decide +kernel
theorem dX6_fresh_25 : decode cX6_fresh 25 = .ok (.getfield 62, 3) := by decide +kernel
theorem dX6_fresh_28 : decode cX6_fresh 28 = .ok (.bipush 13, 2) := by decide +kernel
theorem dX6_fresh_30 : decode cX6_fresh 30 = .ok (.iload_n 1, 1) := by decide +kernel
theorem dX6_fresh_31 : decode cX6_fresh 31 = .ok (.imul, 1) := by decide +kernel
theorem dX6_fresh_32 : decode cX6_fresh 32 = .ok (.sipush 180, 3) := by decide +kernel
theorem dX6_fresh_35 : decode cX6_fresh 35 = .ok (.iastore, 1) := by decide +kernel
theorem dX6_fresh_36 : decode cX6_fresh 36 = .ok (.return_, 1) := by decide +kernel
theorem dX6_buy_0 : decode cX6_buy 0 = .ok (.iload_n 1, 1) := by decide +kernel
theorem dX6_buy_1 : decode cX6_buy 1 = .ok (.iconst 4, 1) := by decide +kernel
theorem dX6_buy_2 : decode cX6_buy 2 = .ok (.invokestatic 89, 3) := by decide +kernel
theorem dX6_buy_5 : decode cX6_buy 5 = .ok (.ifCond .ne 9, 3) := by decide +kernel
theorem dX6_buy_8 : decode cX6_buy 8 = .ok (.aload_n 0, 1) := by decide +kernel
theorem dX6_buy_9 : decode cX6_buy 9 = .ok (.iconst (-1), 1) := by decide +kernel
theorem dX6_buy_10 : decode cX6_buy 10 = .ok (.invokevirtual 93, 3) := by decide +kernel
theorem dX6_buy_13 : decode cX6_buy 13 = .ok (.ireturn, 1) := by decide +kernel
theorem dX6_buy_14 : decode cX6_buy 14 = .ok (.aload_n 0, 1) := by decide +kernel
theorem dX6_buy_15 : decode cX6_buy 15 = .ok (.getfield 107, 3) := by decide +kernel
theorem dX6_buy_18 : decode cX6_buy 18 = .ok (.bipush 40, 2) := by decide +kernel
theorem dX6_buy_20 : decode cX6_buy 20 = .ok (.if_icmp .eq 11, 3) := by decide +kernel
theorem dX6_buy_23 : decode cX6_buy 23 = .ok (.aload_n 0, 1) := by decide +kernel
theorem dX6_buy_24 : decode cX6_buy 24 = .ok (.iconst 1, 1) := by decide +kernel
theorem dX6_buy_25 : decode cX6_buy 25 = .ok (.invokevirtual 110, 3) := by decide +kernel
theorem dX6_buy_28 : decode cX6_buy 28 = .ok (.ifCond .ne 10, 3) := by decide +kernel
theorem dX6_buy_31 : decode cX6_buy 31 = .ok (.aload_n 0, 1) := by decide +kernel
theorem dX6_buy_32 : decode cX6_buy 32 = .ok (.bipush (-6), 2) := by decide +kernel
theorem dX6_buy_34 : decode cX6_buy 34 = .ok (.invokevirtual 93, 3) := by decide +kernel
theorem dX6_buy_37 : decode cX6_buy 37 = .ok (.ireturn, 1) := by decide +kernel
theorem dX6_buy_38 : decode cX6_buy 38 = .ok (.aload_n 0, 1) := by decide +kernel
theorem dX6_buy_39 : decode cX6_buy 39 = .ok (.getfield 107, 3) := by decide +kernel
theorem dX6_buy_42 : decode cX6_buy 42 = .ok (.istore_n 2, 1) := by decide +kernel
theorem dX6_buy_43 : decode cX6_buy 43 = .ok (.aload_n 0, 1) := by decide +kernel
theorem dX6_buy_44 : decode cX6_buy 44 = .ok (.dup, 1) := by decide +kernel
theorem dX6_buy_45 : decode cX6_buy 45 = .ok (.getfield 107, 3) := by decide +kernel
theorem dX6_buy_48 : decode cX6_buy 48 = .ok (.iconst 1, 1) := by decide +kernel
theorem dX6_buy_49 : decode cX6_buy 49 = .ok (.iadd, 1) := by decide +kernel
theorem dX6_buy_50 : decode cX6_buy 50 = .ok (.putfield 107, 3) := by decide +kernel
theorem dX6_buy_53 : decode cX6_buy 53 = .ok (.aload_n 0, 1) := by decide +kernel
theorem dX6_buy_54 : decode cX6_buy 54 = .ok (.getfield 35, 3) := by decide +kernel
theorem dX6_buy_57 : decode cX6_buy 57 = .ok (.iload_n 2, 1) := by decide +kernel
theorem dX6_buy_58 : decode cX6_buy 58 = .ok (.iload_n 1, 1) := by decide +kernel
theorem dX6_buy_59 : decode cX6_buy 59 = .ok (.iastore, 1) := by decide +kernel
theorem dX6_buy_60 : decode cX6_buy 60 = .ok (.aload_n 0, 1) := by decide +kernel
theorem dX6_buy_61 : decode cX6_buy 61 = .ok (.getfield 38, 3) := by decide +kernel
theorem dX6_buy_64 : decode cX6_buy 64 = .ok (.iload_n 2, 1) := by decide +kernel
theorem dX6_buy_65 : decode cX6_buy 65 = .ok (.aload_n 0, 1) := by decide +kernel
theorem dX6_buy_66 : decode cX6_buy 66 = .ok (.getfield 104, 3) := by decide +kernel
theorem dX6_buy_69 : decode cX6_buy 69 = .ok (.iastore, 1) := by decide +kernel
theorem dX6_buy_70 : decode cX6_buy 70 = .ok (.aload_n 0, 1) := by decide +kernel
theorem dX6_buy_71 : decode cX6_buy 71 = .ok (.getfield 50, 3) := by decide +kernel
theorem dX6_buy_74 : decode cX6_buy 74 = .ok (.iload_n 2, 1) := by decide +kernel
theorem dX6_buy_75 : decode cX6_buy 75 = .ok (.iconst (-1), 1) := by decide +kernel
theorem dX6_buy_76 : decode cX6_buy 76 = .ok (.iastore, 1) := by decide +kernel
theorem dX6_buy_77 : decode cX6_buy 77 = .ok (.aload_n 0, 1) := by decide +kernel
theorem dX6_buy_78 : decode cX6_buy 78 = .ok (.iload_n 2, 1) := by decide +kernel
theorem dX6_buy_79 : decode cX6_buy 79 = .ok (.invokevirtual 114, 3) := by decide +kernel
theorem dX6_buy_82 : decode cX6_buy 82 = .ok (.aload_n 0, 1) := by decide +kernel
theorem dX6_buy_83 : decode cX6_buy 83 = .ok (.iload_n 2, 1) := by decide +kernel
theorem dX6_buy_84 : decode cX6_buy 84 = .ok (.invokevirtual 118, 3) := by decide +kernel
theorem dX6_buy_87 : decode cX6_buy 87 = .ok (.iload_n 2, 1) := by decide +kernel
theorem dX6_buy_88 : decode cX6_buy 88 = .ok (.ireturn, 1) := by decide +kernel
theorem dX6_lays_0 : decode cX6_lays 0 = .ok (.aload_n 0, 1) := by decide +kernel
theorem dX6_lays_1 : decode cX6_lays 1 = .ok (.getfield 50, 3) := by decide +kernel
theorem dX6_lays_4 : decode cX6_lays 4 = .ok (.iload_n 1, 1) := by decide +kernel
theorem dX6_lays_5 : decode cX6_lays 5 = .ok (.iload_n 2, 1) := by decide +kernel
theorem dX6_lays_6 : decode cX6_lays 6 = .ok (.iastore, 1) := by decide +kernel
theorem dX6_lays_7 : decode cX6_lays 7 = .ok (.aload_n 0, 1) := by decide +kernel
theorem dX6_lays_8 : decode cX6_lays 8 = .ok (.iload_n 1, 1) := by decide +kernel
theorem dX6_lays_9 : decode cX6_lays 9 = .ok (.invokevirtual 118, 3) := by decide +kernel
theorem dX6_lays_12 : decode cX6_lays 12 = .ok (.return_, 1) := by decide +kernel
theorem dX6_put_0 : decode cX6_put 0 = .ok (.iload_n 1, 1) := by decide +kernel
theorem dX6_put_1 : decode cX6_put 1 = .ok (.aload_n 0, 1) := by decide +kernel
theorem dX6_put_2 : decode cX6_put 2 = .ok (.getfield 107, 3) := by decide +kernel
theorem dX6_put_5 : decode cX6_put 5 = .ok (.invokestatic 89, 3) := by decide +kernel
theorem dX6_put_8 : decode cX6_put 8 = .ok (.ifCond .eq 12, 3) := by decide +kernel
theorem dX6_put_11 : decode cX6_put 11 = .ok (.aload_n 0, 1) := by decide +kernel
theorem dX6_put_12 : decode cX6_put 12 = .ok (.iload_n 2, 1) := by decide +kernel
theorem dX6_put_13 : decode cX6_put 13 = .ok (.iload_n 3, 1) := by decide +kernel
theorem dX6_put_14 : decode cX6_put 14 = .ok (.invokevirtual 121, 3) := by decide +kernel
theorem dX6_put_17 : decode cX6_put 17 = .ok (.ifCond .ne 9, 3) := by decide +kernel
theorem dX6_put_20 : decode cX6_put 20 = .ok (.aload_n 0, 1) := by decide +kernel
theorem dX6_put_21 : decode cX6_put 21 = .ok (.iconst (-1), 1) := by decide +kernel
theorem dX6_put_22 : decode cX6_put 22 = .ok (.invokevirtual 93, 3) := by decide +kernel
theorem dX6_put_25 : decode cX6_put 25 = .ok (.ireturn, 1) := by decide +kernel
theorem dX6_put_26 : decode cX6_put 26 = .ok (.aload_n 0, 1) := by decide +kernel
theorem dX6_put_27 : decode cX6_put 27 = .ok (.getfield 50, 3) := by decide +kernel
theorem dX6_put_30 : decode cX6_put 30 = .ok (.iload_n 1, 1) := by decide +kernel
theorem dX6_put_31 : decode cX6_put 31 = .ok (.iaload, 1) := by decide +kernel
theorem dX6_put_32 : decode cX6_put 32 = .ok (.iconst (-1), 1) := by decide +kernel
theorem dX6_put_33 : decode cX6_put 33 = .ok (.if_icmp .ne 16, 3) := by decide +kernel
theorem dX6_put_36 : decode cX6_put 36 = .ok (.aload_n 0, 1) := by decide +kernel
theorem dX6_put_37 : decode cX6_put 37 = .ok (.getfield 29, 3) := by decide +kernel
theorem dX6_put_40 : decode cX6_put 40 = .ok (.iload_n 2, 1) := by decide +kernel
theorem dX6_put_41 : decode cX6_put 41 = .ok (.iload_n 3, 1) := by decide +kernel
theorem dX6_put_42 : decode cX6_put 42 = .ok (.invokestatic 97, 3) := by decide +kernel
theorem dX6_put_45 : decode cX6_put 45 = .ok (.iaload, 1) := by decide +kernel
theorem dX6_put_46 : decode cX6_put 46 = .ok (.ifCond .lt 10, 3) := by decide +kernel
theorem dX6_put_49 : decode cX6_put 49 = .ok (.aload_n 0, 1) := by decide +kernel
theorem dX6_put_50 : decode cX6_put 50 = .ok (.bipush (-2), 2) := by decide +kernel
theorem dX6_put_52 : decode cX6_put 52 = .ok (.invokevirtual 93, 3) := by decide +kernel
theorem dX6_put_55 : decode cX6_put 55 = .ok (.ireturn, 1) := by decide +kernel
theorem dX6_put_56 : decode cX6_put 56 = .ok (.aload_n 0, 1) := by decide +kernel
theorem dX6_put_57 : decode cX6_put 57 = .ok (.iconst 1, 1) := by decide +kernel
theorem dX6_put_58 : decode cX6_put 58 = .ok (.invokevirtual 110, 3) := by decide +kernel
theorem dX6_put_61 : decode cX6_put 61 = .ok (.ifCond .ne 10, 3) := by decide +kernel
theorem dX6_put_64 : decode cX6_put 64 = .ok (.aload_n 0, 1) := by decide +kernel
theorem dX6_put_65 : decode cX6_put 65 = .ok (.bipush (-6), 2) := by decide +kernel
theorem dX6_put_67 : decode cX6_put 67 = .ok (.invokevirtual 93, 3) := by decide +kernel
theorem dX6_put_70 : decode cX6_put 70 = .ok (.ireturn, 1) := by decide +kernel
theorem dX6_put_71 : decode cX6_put 71 = .ok (.aload_n 0, 1) := by decide +kernel
theorem dX6_put_72 : decode cX6_put 72 = .ok (.getfield 29, 3) := by decide +kernel
theorem dX6_put_75 : decode cX6_put 75 = .ok (.iload_n 2, 1) := by decide +kernel
theorem dX6_put_76 : decode cX6_put 76 = .ok (.iload_n 3, 1) := by decide +kernel
theorem dX6_put_77 : decode cX6_put 77 = .ok (.invokestatic 97, 3) := by decide +kernel
theorem dX6_put_80 : decode cX6_put 80 = .ok (.iload_n 1, 1) := by decide +kernel
theorem dX6_put_81 : decode cX6_put 81 = .ok (.iastore, 1) := by decide +kernel
theorem dX6_put_82 : decode cX6_put 82 = .ok (.aload_n 0, 1) := by decide +kernel
theorem dX6_put_83 : decode cX6_put 83 = .ok (.iload_n 1, 1) := by decide +kernel
theorem dX6_put_84 : decode cX6_put 84 = .ok (.bipush 10, 2) := by decide +kernel
theorem dX6_put_86 : decode cX6_put 86 = .ok (.iload_n 2, 1) := by decide +kernel
theorem dX6_put_87 : decode cX6_put 87 = .ok (.imul, 1) := by decide +kernel
theorem dX6_put_88 : decode cX6_put 88 = .ok (.iload_n 3, 1) := by decide +kernel
theorem dX6_put_89 : decode cX6_put 89 = .ok (.iadd, 1) := by decide +kernel
theorem dX6_put_90 : decode cX6_put 90 = .ok (.invokevirtual 124, 3) := by decide +kernel
theorem dX6_put_93 : decode cX6_put 93 = .ok (.iconst 1, 1) := by decide +kernel
theorem dX6_put_94 : decode cX6_put 94 = .ok (.ireturn, 1) := by decide +kernel
theorem dX6_take_0 : decode cX6_take 0 = .ok (.aload_n 0, 1) := by decide +kernel
theorem dX6_take_1 : decode cX6_take 1 = .ok (.iload_n 1, 1) := by decide +kernel
theorem dX6_take_2 : decode cX6_take 2 = .ok (.iload_n 2, 1) := by decide +kernel
theorem dX6_take_3 : decode cX6_take 3 = .ok (.invokevirtual 121, 3) := by decide +kernel
theorem dX6_take_6 : decode cX6_take 6 = .ok (.ifCond .ne 9, 3) := by decide +kernel
theorem dX6_take_9 : decode cX6_take 9 = .ok (.aload_n 0, 1) := by decide +kernel
theorem dX6_take_10 : decode cX6_take 10 = .ok (.iconst (-1), 1) := by decide +kernel
theorem dX6_take_11 : decode cX6_take 11 = .ok (.invokevirtual 93, 3) := by decide +kernel
theorem dX6_take_14 : decode cX6_take 14 = .ok (.ireturn, 1) := by decide +kernel
theorem dX6_take_15 : decode cX6_take 15 = .ok (.aload_n 0, 1) := by decide +kernel
theorem dX6_take_16 : decode cX6_take 16 = .ok (.getfield 29, 3) := by decide +kernel
theorem dX6_take_19 : decode cX6_take 19 = .ok (.iload_n 1, 1) := by decide +kernel
theorem dX6_take_20 : decode cX6_take 20 = .ok (.iload_n 2, 1) := by decide +kernel
theorem dX6_take_21 : decode cX6_take 21 = .ok (.invokestatic 97, 3) := by decide +kernel
theorem dX6_take_24 : decode cX6_take 24 = .ok (.iaload, 1) := by decide +kernel
theorem dX6_take_25 : decode cX6_take 25 = .ok (.istore_n 3, 1) := by decide +kernel
theorem dX6_take_26 : decode cX6_take 26 = .ok (.iload_n 3, 1) := by decide +kernel
theorem dX6_take_27 : decode cX6_take 27 = .ok (.ifCond .ge 10, 3) := by decide +kernel
theorem dX6_take_30 : decode cX6_take 30 = .ok (.aload_n 0, 1) := by decide +kernel
theorem dX6_take_31 : decode cX6_take 31 = .ok (.bipush (-2), 2) := by decide +kernel
theorem dX6_take_33 : decode cX6_take 33 = .ok (.invokevirtual 93, 3) := by decide +kernel
theorem dX6_take_36 : decode cX6_take 36 = .ok (.ireturn, 1) := by decide +kernel
theorem dX6_take_37 : decode cX6_take 37 = .ok (.aload_n 0, 1) := by decide +kernel
theorem dX6_take_38 : decode cX6_take 38 = .ok (.iconst 1, 1) := by decide +kernel
theorem dX6_take_39 : decode cX6_take 39 = .ok (.invokevirtual 110, 3) := by decide +kernel
theorem dX6_take_42 : decode cX6_take 42 = .ok (.ifCond .ne 10, 3) := by decide +kernel
theorem dX6_take_45 : decode cX6_take 45 = .ok (.aload_n 0, 1) := by decide +kernel
theorem dX6_take_46 : decode cX6_take 46 = .ok (.bipush (-6), 2) := by decide +kernel
theorem dX6_take_48 : decode cX6_take 48 = .ok (.invokevirtual 93, 3) := by decide +kernel
theorem dX6_take_51 : decode cX6_take 51 = .ok (.ireturn, 1) := by decide +kernel
theorem dX6_take_52 : decode cX6_take 52 = .ok (.aload_n 0, 1) := by decide +kernel
theorem dX6_take_53 : decode cX6_take 53 = .ok (.getfield 29, 3) := by decide +kernel
theorem dX6_take_56 : decode cX6_take 56 = .ok (.iload_n 1, 1) := by decide +kernel
theorem dX6_take_57 : decode cX6_take 57 = .ok (.iload_n 2, 1) := by decide +kernel
theorem dX6_take_58 : decode cX6_take 58 = .ok (.invokestatic 97, 3) := by decide +kernel
theorem dX6_take_61 : decode cX6_take 61 = .ok (.iconst (-1), 1) := by decide +kernel
theorem dX6_take_62 : decode cX6_take 62 = .ok (.iastore, 1) := by decide +kernel
theorem dX6_take_63 : decode cX6_take 63 = .ok (.aload_n 0, 1) := by decide +kernel
theorem dX6_take_64 : decode cX6_take 64 = .ok (.iload_n 3, 1) := by decide +kernel
theorem dX6_take_65 : decode cX6_take 65 = .ok (.iconst (-1), 1) := by decide +kernel
theorem dX6_take_66 : decode cX6_take 66 = .ok (.invokevirtual 124, 3) := by decide +kernel
theorem dX6_take_69 : decode cX6_take 69 = .ok (.iload_n 3, 1) := by decide +kernel
theorem dX6_take_70 : decode cX6_take 70 = .ok (.ireturn, 1) := by decide +kernel
theorem dX6_swap_0 : decode cX6_swap 0 = .ok (.aload_n 0, 1) := by decide +kernel
theorem dX6_swap_1 : decode cX6_swap 1 = .ok (.iload_n 1, 1) := by decide +kernel
theorem dX6_swap_2 : decode cX6_swap 2 = .ok (.iload_n 2, 1) := by decide +kernel
theorem dX6_swap_3 : decode cX6_swap 3 = .ok (.invokevirtual 121, 3) := by decide +kernel
theorem dX6_swap_6 : decode cX6_swap 6 = .ok (.ifCond .eq 24, 3) := by decide +kernel
theorem dX6_swap_9 : decode cX6_swap 9 = .ok (.aload_n 0, 1) := by decide +kernel
theorem dX6_swap_10 : decode cX6_swap 10 = .ok (.iload_n 3, 1) := by decide +kernel
theorem dX6_swap_11 : decode cX6_swap 11 = .ok (.iload 4, 2) := by decide +kernel
theorem dX6_swap_13 : decode cX6_swap 13 = .ok (.invokevirtual 121, 3) := by decide +kernel
theorem dX6_swap_16 : decode cX6_swap 16 = .ok (.ifCond .eq 14, 3) := by decide +kernel
theorem dX6_swap_19 : decode cX6_swap 19 = .ok (.iload_n 1, 1) := by decide +kernel
theorem dX6_swap_20 : decode cX6_swap 20 = .ok (.iload_n 3, 1) := by decide +kernel
theorem dX6_swap_21 : decode cX6_swap 21 = .ok (.if_icmp .ne 15, 3) := by decide +kernel
theorem dX6_swap_24 : decode cX6_swap 24 = .ok (.iload_n 2, 1) := by decide +kernel
theorem dX6_swap_25 : decode cX6_swap 25 = .ok (.iload 4, 2) := by decide +kernel
theorem dX6_swap_27 : decode cX6_swap 27 = .ok (.if_icmp .ne 9, 3) := by decide +kernel
theorem dX6_swap_30 : decode cX6_swap 30 = .ok (.aload_n 0, 1) := by decide +kernel
theorem dX6_swap_31 : decode cX6_swap 31 = .ok (.iconst (-1), 1) := by decide +kernel
theorem dX6_swap_32 : decode cX6_swap 32 = .ok (.invokevirtual 93, 3) := by decide +kernel
theorem dX6_swap_35 : decode cX6_swap 35 = .ok (.ireturn, 1) := by decide +kernel
theorem dX6_swap_36 : decode cX6_swap 36 = .ok (.aload_n 0, 1) := by decide +kernel
theorem dX6_swap_37 : decode cX6_swap 37 = .ok (.getfield 29, 3) := by decide +kernel
theorem dX6_swap_40 : decode cX6_swap 40 = .ok (.iload_n 1, 1) := by decide +kernel
theorem dX6_swap_41 : decode cX6_swap 41 = .ok (.iload_n 2, 1) := by decide +kernel
theorem dX6_swap_42 : decode cX6_swap 42 = .ok (.invokestatic 97, 3) := by decide +kernel
theorem dX6_swap_45 : decode cX6_swap 45 = .ok (.iaload, 1) := by decide +kernel
theorem dX6_swap_46 : decode cX6_swap 46 = .ok (.istore 5, 2) := by decide +kernel
theorem dX6_swap_48 : decode cX6_swap 48 = .ok (.aload_n 0, 1) := by decide +kernel
theorem dX6_swap_49 : decode cX6_swap 49 = .ok (.getfield 29, 3) := by decide +kernel
theorem dX6_swap_52 : decode cX6_swap 52 = .ok (.iload_n 3, 1) := by decide +kernel
theorem dX6_swap_53 : decode cX6_swap 53 = .ok (.iload 4, 2) := by decide +kernel
theorem dX6_swap_55 : decode cX6_swap 55 = .ok (.invokestatic 97, 3) := by decide +kernel
theorem dX6_swap_58 : decode cX6_swap 58 = .ok (.iaload, 1) := by decide +kernel
theorem dX6_swap_59 : decode cX6_swap 59 = .ok (.istore 6, 2) := by decide +kernel
theorem dX6_swap_61 : decode cX6_swap 61 = .ok (.iload 5, 2) := by decide +kernel
theorem dX6_swap_63 : decode cX6_swap 63 = .ok (.ifCond .ge 15, 3) := by decide +kernel
theorem dX6_swap_66 : decode cX6_swap 66 = .ok (.iload 6, 2) := by decide +kernel
theorem dX6_swap_68 : decode cX6_swap 68 = .ok (.ifCond .ge 10, 3) := by decide +kernel
theorem dX6_swap_71 : decode cX6_swap 71 = .ok (.aload_n 0, 1) := by decide +kernel
theorem dX6_swap_72 : decode cX6_swap 72 = .ok (.bipush (-2), 2) := by decide +kernel
theorem dX6_swap_74 : decode cX6_swap 74 = .ok (.invokevirtual 93, 3) := by decide +kernel
theorem dX6_swap_77 : decode cX6_swap 77 = .ok (.ireturn, 1) := by decide +kernel
theorem dX6_swap_78 : decode cX6_swap 78 = .ok (.aload_n 0, 1) := by decide +kernel
theorem dX6_swap_79 : decode cX6_swap 79 = .ok (.iload 5, 2) := by decide +kernel
theorem dX6_swap_81 : decode cX6_swap 81 = .ok (.ifCond .lt 8, 3) := by decide +kernel
theorem dX6_swap_84 : decode cX6_swap 84 = .ok (.iload 6, 2) := by decide +kernel
theorem dX6_swap_86 : decode cX6_swap 86 = .ok (.ifCond .ge 7, 3) := by decide +kernel
theorem dX6_swap_89 : decode cX6_swap 89 = .ok (.iconst 1, 1) := by decide +kernel
theorem dX6_swap_90 : decode cX6_swap 90 = .ok (.goto 4, 3) := by decide +kernel
theorem dX6_swap_93 : decode cX6_swap 93 = .ok (.iconst 2, 1) := by decide +kernel
theorem dX6_swap_94 : decode cX6_swap 94 = .ok (.invokevirtual 110, 3) := by decide +kernel
theorem dX6_swap_97 : decode cX6_swap 97 = .ok (.ifCond .ne 10, 3) := by decide +kernel
theorem dX6_swap_100 : decode cX6_swap 100 = .ok (.aload_n 0, 1) := by decide +kernel
theorem dX6_swap_101 : decode cX6_swap 101 = .ok (.bipush (-6), 2) := by decide +kernel
theorem dX6_swap_103 : decode cX6_swap 103 = .ok (.invokevirtual 93, 3) := by decide +kernel
theorem dX6_swap_106 : decode cX6_swap 106 = .ok (.ireturn, 1) := by decide +kernel
theorem dX6_swap_107 : decode cX6_swap 107 = .ok (.aload_n 0, 1) := by decide +kernel
theorem dX6_swap_108 : decode cX6_swap 108 = .ok (.getfield 29, 3) := by decide +kernel
theorem dX6_swap_111 : decode cX6_swap 111 = .ok (.iload_n 1, 1) := by decide +kernel
theorem dX6_swap_112 : decode cX6_swap 112 = .ok (.iload_n 2, 1) := by decide +kernel
theorem dX6_swap_113 : decode cX6_swap 113 = .ok (.invokestatic 97, 3) := by decide +kernel
theorem dX6_swap_116 : decode cX6_swap 116 = .ok (.iload 6, 2) := by decide +kernel
theorem dX6_swap_118 : decode cX6_swap 118 = .ok (.iastore, 1) := by decide +kernel
theorem dX6_swap_119 : decode cX6_swap 119 = .ok (.aload_n 0, 1) := by decide +kernel
theorem dX6_swap_120 : decode cX6_swap 120 = .ok (.getfield 29, 3) := by decide +kernel
theorem dX6_swap_123 : decode cX6_swap 123 = .ok (.iload_n 3, 1) := by decide +kernel
theorem dX6_swap_124 : decode cX6_swap 124 = .ok (.iload 4, 2) := by decide +kernel
theorem dX6_swap_126 : decode cX6_swap 126 = .ok (.invokestatic 97, 3) := by decide +kernel
theorem dX6_swap_129 : decode cX6_swap 129 = .ok (.iload 5, 2) := by decide +kernel
theorem dX6_swap_131 : decode cX6_swap 131 = .ok (.iastore, 1) := by decide +kernel
theorem dX6_swap_132 : decode cX6_swap 132 = .ok (.iload 5, 2) := by decide +kernel
theorem dX6_swap_134 : decode cX6_swap 134 = .ok (.ifCond .lt 16, 3) := by decide +kernel
theorem dX6_swap_137 : decode cX6_swap 137 = .ok (.aload_n 0, 1) := by decide +kernel
theorem dX6_swap_138 : decode cX6_swap 138 = .ok (.iload 5, 2) := by decide +kernel
theorem dX6_swap_140 : decode cX6_swap 140 = .ok (.bipush 10, 2) := by decide +kernel
theorem dX6_swap_142 : decode cX6_swap 142 = .ok (.iload_n 3, 1) := by decide +kernel
theorem dX6_swap_143 : decode cX6_swap 143 = .ok (.imul, 1) := by decide +kernel
theorem dX6_swap_144 : decode cX6_swap 144 = .ok (.iload 4, 2) := by decide +kernel
theorem dX6_swap_146 : decode cX6_swap 146 = .ok (.iadd, 1) := by decide +kernel
theorem dX6_swap_147 : decode cX6_swap 147 = .ok (.invokevirtual 124, 3) := by decide +kernel
theorem dX6_swap_150 : decode cX6_swap 150 = .ok (.iload 6, 2) := by decide +kernel
theorem dX6_swap_152 : decode cX6_swap 152 = .ok (.ifCond .lt 15, 3) := by decide +kernel
theorem dX6_swap_155 : decode cX6_swap 155 = .ok (.aload_n 0, 1) := by decide +kernel
end
section
theorem dX6_swap_156 : decode cX6_swap 156 = .ok (.iload 6, 2) := by decide +kernel
theorem dX6_swap_158 : decode cX6_swap 158 = .ok (.bipush 10, 2) := by decide +kernel
theorem dX6_swap_160 : decode cX6_swap 160 = .ok (.iload_n 1, 1) := by decide +kernel
theorem dX6_swap_161 : decode cX6_swap 161 = .ok (.imul, 1) := by decide +kernel
theorem dX6_swap_162 : decode cX6_swap 162 = .ok (.iload_n 2, 1) := by decide +kernel
theorem dX6_swap_163 : decode cX6_swap 163 = .ok (.iadd, 1) := by decide +kernel
theorem dX6_swap_164 : decode cX6_swap 164 = .ok (.invokevirtual 124, 3) := by decide +kernel
theorem dX6_swap_167 : decode cX6_swap 167 = .ok (.iconst 1, 1) := by decide +kernel
theorem dX6_swap_168 : decode cX6_swap 168 = .ok (.ireturn, 1) := by decide +kernel
theorem dX6_read_0 : decode cX6_read 0 = .ok (.iload_n 1, 1) := by decide +kernel
theorem dX6_read_1 : decode cX6_read 1 = .ok (.aload_n 0, 1) := by decide +kernel
theorem dX6_read_2 : decode cX6_read 2 = .ok (.getfield 107, 3) := by decide +kernel
theorem dX6_read_5 : decode cX6_read 5 = .ok (.invokestatic 89, 3) := by decide +kernel
theorem dX6_read_8 : decode cX6_read 8 = .ok (.ifCond .ne 9, 3) := by decide +kernel
theorem dX6_read_11 : decode cX6_read 11 = .ok (.aload_n 0, 1) := by decide +kernel
theorem dX6_read_12 : decode cX6_read 12 = .ok (.iconst (-1), 1) := by decide +kernel
theorem dX6_read_13 : decode cX6_read 13 = .ok (.invokevirtual 93, 3) := by decide +kernel
theorem dX6_read_16 : decode cX6_read 16 = .ok (.ireturn, 1) := by decide +kernel
theorem dX6_read_17 : decode cX6_read 17 = .ok (.aload_n 0, 1) := by decide +kernel
theorem dX6_read_18 : decode cX6_read 18 = .ok (.getfield 50, 3) := by decide +kernel
theorem dX6_read_21 : decode cX6_read 21 = .ok (.iload_n 1, 1) := by decide +kernel
theorem dX6_read_22 : decode cX6_read 22 = .ok (.iaload, 1) := by decide +kernel
theorem dX6_read_23 : decode cX6_read 23 = .ok (.bipush (-2), 2) := by decide +kernel
theorem dX6_read_25 : decode cX6_read 25 = .ok (.if_icmp .eq 14, 3) := by decide +kernel
theorem dX6_read_28 : decode cX6_read 28 = .ok (.aload_n 0, 1) := by decide +kernel
theorem dX6_read_29 : decode cX6_read 29 = .ok (.getfield 50, 3) := by decide +kernel
theorem dX6_read_32 : decode cX6_read 32 = .ok (.iload_n 1, 1) := by decide +kernel
theorem dX6_read_33 : decode cX6_read 33 = .ok (.iaload, 1) := by decide +kernel
theorem dX6_read_34 : decode cX6_read 34 = .ok (.bipush (-3), 2) := by decide +kernel
theorem dX6_read_36 : decode cX6_read 36 = .ok (.if_icmp .ne 10, 3) := by decide +kernel
theorem dX6_read_39 : decode cX6_read 39 = .ok (.aload_n 0, 1) := by decide +kernel
theorem dX6_read_40 : decode cX6_read 40 = .ok (.bipush (-2), 2) := by decide +kernel
theorem dX6_read_42 : decode cX6_read 42 = .ok (.invokevirtual 93, 3) := by decide +kernel
theorem dX6_read_45 : decode cX6_read 45 = .ok (.ireturn, 1) := by decide +kernel
theorem dX6_read_46 : decode cX6_read 46 = .ok (.iload_n 2, 1) := by decide +kernel
theorem dX6_read_47 : decode cX6_read 47 = .ok (.ifCond .ge 10, 3) := by decide +kernel
theorem dX6_read_50 : decode cX6_read 50 = .ok (.aload_n 0, 1) := by decide +kernel
theorem dX6_read_51 : decode cX6_read 51 = .ok (.bipush (-4), 2) := by decide +kernel
theorem dX6_read_53 : decode cX6_read 53 = .ok (.invokevirtual 93, 3) := by decide +kernel
theorem dX6_read_56 : decode cX6_read 56 = .ok (.ireturn, 1) := by decide +kernel
theorem dX6_read_57 : decode cX6_read 57 = .ok (.iload_n 2, 1) := by decide +kernel
theorem dX6_read_58 : decode cX6_read 58 = .ok (.sipush 300, 3) := by decide +kernel
theorem dX6_read_61 : decode cX6_read 61 = .ok (.if_icmp .le 10, 3) := by decide +kernel
theorem dX6_read_64 : decode cX6_read 64 = .ok (.aload_n 0, 1) := by decide +kernel
theorem dX6_read_65 : decode cX6_read 65 = .ok (.bipush (-6), 2) := by decide +kernel
theorem dX6_read_67 : decode cX6_read 67 = .ok (.invokevirtual 93, 3) := by decide +kernel
theorem dX6_read_70 : decode cX6_read 70 = .ok (.ireturn, 1) := by decide +kernel
theorem dX6_read_71 : decode cX6_read 71 = .ok (.bipush 13, 2) := by decide +kernel
theorem dX6_read_73 : decode cX6_read 73 = .ok (.iload_n 1, 1) := by decide +kernel
theorem dX6_read_74 : decode cX6_read 74 = .ok (.imul, 1) := by decide +kernel
theorem dX6_read_75 : decode cX6_read 75 = .ok (.istore_n 3, 1) := by decide +kernel
theorem dX6_read_76 : decode cX6_read 76 = .ok (.aload_n 0, 1) := by decide +kernel
theorem dX6_read_77 : decode cX6_read 77 = .ok (.getfield 59, 3) := by decide +kernel
theorem dX6_read_80 : decode cX6_read 80 = .ok (.iload_n 3, 1) := by decide +kernel
theorem dX6_read_81 : decode cX6_read 81 = .ok (.aload_n 0, 1) := by decide +kernel
theorem dX6_read_82 : decode cX6_read 82 = .ok (.getfield 56, 3) := by decide +kernel
theorem dX6_read_85 : decode cX6_read 85 = .ok (.iload_n 1, 1) := by decide +kernel
theorem dX6_read_86 : decode cX6_read 86 = .ok (.iaload, 1) := by decide +kernel
theorem dX6_read_87 : decode cX6_read 87 = .ok (.iadd, 1) := by decide +kernel
theorem dX6_read_88 : decode cX6_read 88 = .ok (.aload_n 0, 1) := by decide +kernel
theorem dX6_read_89 : decode cX6_read 89 = .ok (.getfield 47, 3) := by decide +kernel
theorem dX6_read_92 : decode cX6_read 92 = .ok (.iload_n 1, 1) := by decide +kernel
theorem dX6_read_93 : decode cX6_read 93 = .ok (.iaload, 1) := by decide +kernel
theorem dX6_read_94 : decode cX6_read 94 = .ok (.iastore, 1) := by decide +kernel
theorem dX6_read_95 : decode cX6_read 95 = .ok (.aload_n 0, 1) := by decide +kernel
theorem dX6_read_96 : decode cX6_read 96 = .ok (.getfield 62, 3) := by decide +kernel
theorem dX6_read_99 : decode cX6_read 99 = .ok (.iload_n 3, 1) := by decide +kernel
theorem dX6_read_100 : decode cX6_read 100 = .ok (.aload_n 0, 1) := by decide +kernel
theorem dX6_read_101 : decode cX6_read 101 = .ok (.getfield 56, 3) := by decide +kernel
theorem dX6_read_104 : decode cX6_read 104 = .ok (.iload_n 1, 1) := by decide +kernel
theorem dX6_read_105 : decode cX6_read 105 = .ok (.iaload, 1) := by decide +kernel
theorem dX6_read_106 : decode cX6_read 106 = .ok (.iadd, 1) := by decide +kernel
theorem dX6_read_107 : decode cX6_read 107 = .ok (.iload_n 2, 1) := by decide +kernel
theorem dX6_read_108 : decode cX6_read 108 = .ok (.iastore, 1) := by decide +kernel
theorem dX6_read_109 : decode cX6_read 109 = .ok (.aload_n 0, 1) := by decide +kernel
theorem dX6_read_110 : decode cX6_read 110 = .ok (.getfield 56, 3) := by decide +kernel
theorem dX6_read_113 : decode cX6_read 113 = .ok (.iload_n 1, 1) := by decide +kernel
theorem dX6_read_114 : decode cX6_read 114 = .ok (.iaload, 1) := by decide +kernel
theorem dX6_read_115 : decode cX6_read 115 = .ok (.bipush 12, 2) := by decide +kernel
theorem dX6_read_117 : decode cX6_read 117 = .ok (.if_icmp .ge 16, 3) := by decide +kernel
theorem dX6_read_120 : decode cX6_read 120 = .ok (.aload_n 0, 1) := by decide +kernel
theorem dX6_read_121 : decode cX6_read 121 = .ok (.getfield 56, 3) := by decide +kernel
theorem dX6_read_124 : decode cX6_read 124 = .ok (.iload_n 1, 1) := by decide +kernel
theorem dX6_read_125 : decode cX6_read 125 = .ok (.dup2, 1) := by decide +kernel
theorem dX6_read_126 : decode cX6_read 126 = .ok (.iaload, 1) := by decide +kernel
theorem dX6_read_127 : decode cX6_read 127 = .ok (.iconst 1, 1) := by decide +kernel
theorem dX6_read_128 : decode cX6_read 128 = .ok (.iadd, 1) := by decide +kernel
theorem dX6_read_129 : decode cX6_read 129 = .ok (.iastore, 1) := by decide +kernel
theorem dX6_read_130 : decode cX6_read 130 = .ok (.goto 59, 3) := by decide +kernel
theorem dX6_read_133 : decode cX6_read 133 = .ok (.iconst 1, 1) := by decide +kernel
theorem dX6_read_134 : decode cX6_read 134 = .ok (.istore 4, 2) := by decide +kernel
theorem dX6_read_136 : decode cX6_read 136 = .ok (.iload 4, 2) := by decide +kernel
theorem dX6_read_138 : decode cX6_read 138 = .ok (.bipush 12, 2) := by decide +kernel
theorem dX6_read_140 : decode cX6_read 140 = .ok (.if_icmp .ge 49, 3) := by decide +kernel
theorem dX6_read_143 : decode cX6_read 143 = .ok (.aload_n 0, 1) := by decide +kernel
theorem dX6_read_144 : decode cX6_read 144 = .ok (.getfield 59, 3) := by decide +kernel
theorem dX6_read_147 : decode cX6_read 147 = .ok (.iload_n 3, 1) := by decide +kernel
theorem dX6_read_148 : decode cX6_read 148 = .ok (.iload 4, 2) := by decide +kernel
theorem dX6_read_150 : decode cX6_read 150 = .ok (.iadd, 1) := by decide +kernel
theorem dX6_read_151 : decode cX6_read 151 = .ok (.aload_n 0, 1) := by decide +kernel
theorem dX6_read_152 : decode cX6_read 152 = .ok (.getfield 59, 3) := by decide +kernel
theorem dX6_read_155 : decode cX6_read 155 = .ok (.iload_n 3, 1) := by decide +kernel
theorem dX6_read_156 : decode cX6_read 156 = .ok (.iload 4, 2) := by decide +kernel
theorem dX6_read_158 : decode cX6_read 158 = .ok (.iadd, 1) := by decide +kernel
theorem dX6_read_159 : decode cX6_read 159 = .ok (.iconst 1, 1) := by decide +kernel
theorem dX6_read_160 : decode cX6_read 160 = .ok (.iadd, 1) := by decide +kernel
theorem dX6_read_161 : decode cX6_read 161 = .ok (.iaload, 1) := by decide +kernel
theorem dX6_read_162 : decode cX6_read 162 = .ok (.iastore, 1) := by decide +kernel
theorem dX6_read_163 : decode cX6_read 163 = .ok (.aload_n 0, 1) := by decide +kernel
theorem dX6_read_164 : decode cX6_read 164 = .ok (.getfield 62, 3) := by decide +kernel
theorem dX6_read_167 : decode cX6_read 167 = .ok (.iload_n 3, 1) := by decide +kernel
theorem dX6_read_168 : decode cX6_read 168 = .ok (.iload 4, 2) := by decide +kernel
theorem dX6_read_170 : decode cX6_read 170 = .ok (.iadd, 1) := by decide +kernel
theorem dX6_read_171 : decode cX6_read 171 = .ok (.aload_n 0, 1) := by decide +kernel
theorem dX6_read_172 : decode cX6_read 172 = .ok (.getfield 62, 3) := by decide +kernel
theorem dX6_read_175 : decode cX6_read 175 = .ok (.iload_n 3, 1) := by decide +kernel
theorem dX6_read_176 : decode cX6_read 176 = .ok (.iload 4, 2) := by decide +kernel
theorem dX6_read_178 : decode cX6_read 178 = .ok (.iadd, 1) := by decide +kernel
theorem dX6_read_179 : decode cX6_read 179 = .ok (.iconst 1, 1) := by decide +kernel
theorem dX6_read_180 : decode cX6_read 180 = .ok (.iadd, 1) := by decide +kernel
theorem dX6_read_181 : decode cX6_read 181 = .ok (.iaload, 1) := by decide +kernel
theorem dX6_read_182 : decode cX6_read 182 = .ok (.iastore, 1) := by decide +kernel
theorem dX6_read_183 : decode cX6_read 183 = .ok (.iinc 4 1, 3) := by decide +kernel
theorem dX6_read_186 : decode cX6_read 186 = .ok (.goto (-50), 3) := by decide +kernel
theorem dX6_read_189 : decode cX6_read 189 = .ok (.aload_n 0, 1) := by decide +kernel
theorem dX6_read_190 : decode cX6_read 190 = .ok (.getfield 56, 3) := by decide +kernel
theorem dX6_read_193 : decode cX6_read 193 = .ok (.iload_n 1, 1) := by decide +kernel
theorem dX6_read_194 : decode cX6_read 194 = .ok (.iaload, 1) := by decide +kernel
theorem dX6_read_195 : decode cX6_read 195 = .ok (.ireturn, 1) := by decide +kernel
theorem dX6_wearOf_0 : decode cX6_wearOf 0 = .ok (.aload_n 0, 1) := by decide +kernel
theorem dX6_wearOf_1 : decode cX6_wearOf 1 = .ok (.getfield 56, 3) := by decide +kernel
theorem dX6_wearOf_4 : decode cX6_wearOf 4 = .ok (.iload_n 1, 1) := by decide +kernel
theorem dX6_wearOf_5 : decode cX6_wearOf 5 = .ok (.iaload, 1) := by decide +kernel
theorem dX6_wearOf_6 : decode cX6_wearOf 6 = .ok (.istore_n 2, 1) := by decide +kernel
theorem dX6_wearOf_7 : decode cX6_wearOf 7 = .ok (.lconst 0, 1) := by decide +kernel
theorem dX6_wearOf_8 : decode cX6_wearOf 8 = .ok (.lstore_n 3, 1) := by decide +kernel
theorem dX6_wearOf_9 : decode cX6_wearOf 9 = .ok (.lconst 0, 1) := by decide +kernel
theorem dX6_wearOf_10 : decode cX6_wearOf 10 = .ok (.lstore 5, 2) := by decide +kernel
theorem dX6_wearOf_12 : decode cX6_wearOf 12 = .ok (.lconst 0, 1) := by decide +kernel
theorem dX6_wearOf_13 : decode cX6_wearOf 13 = .ok (.lstore 7, 2) := by decide +kernel
theorem dX6_wearOf_15 : decode cX6_wearOf 15 = .ok (.lconst 0, 1) := by decide +kernel
theorem dX6_wearOf_16 : decode cX6_wearOf 16 = .ok (.lstore 9, 2) := by decide +kernel
theorem dX6_wearOf_18 : decode cX6_wearOf 18 = .ok (.iconst 0, 1) := by decide +kernel
theorem dX6_wearOf_19 : decode cX6_wearOf 19 = .ok (.istore 11, 2) := by decide +kernel
theorem dX6_wearOf_21 : decode cX6_wearOf 21 = .ok (.iload 11, 2) := by decide +kernel
theorem dX6_wearOf_23 : decode cX6_wearOf 23 = .ok (.iload_n 2, 1) := by decide +kernel
theorem dX6_wearOf_24 : decode cX6_wearOf 24 = .ok (.if_icmp .ge 71, 3) := by decide +kernel
theorem dX6_wearOf_27 : decode cX6_wearOf 27 = .ok (.aload_n 0, 1) := by decide +kernel
theorem dX6_wearOf_28 : decode cX6_wearOf 28 = .ok (.getfield 59, 3) := by decide +kernel
theorem dX6_wearOf_31 : decode cX6_wearOf 31 = .ok (.bipush 13, 2) := by decide +kernel
theorem dX6_wearOf_33 : decode cX6_wearOf 33 = .ok (.iload_n 1, 1) := by decide +kernel
theorem dX6_wearOf_34 : decode cX6_wearOf 34 = .ok (.imul, 1) := by decide +kernel
theorem dX6_wearOf_35 : decode cX6_wearOf 35 = .ok (.iload 11, 2) := by decide +kernel
theorem dX6_wearOf_37 : decode cX6_wearOf 37 = .ok (.iadd, 1) := by decide +kernel
theorem dX6_wearOf_38 : decode cX6_wearOf 38 = .ok (.iaload, 1) := by decide +kernel
theorem dX6_wearOf_39 : decode cX6_wearOf 39 = .ok (.i2l, 1) := by decide +kernel
theorem dX6_wearOf_40 : decode cX6_wearOf 40 = .ok (.lstore 12, 2) := by decide +kernel
theorem dX6_wearOf_42 : decode cX6_wearOf 42 = .ok (.aload_n 0, 1) := by decide +kernel
theorem dX6_wearOf_43 : decode cX6_wearOf 43 = .ok (.getfield 62, 3) := by decide +kernel
theorem dX6_wearOf_46 : decode cX6_wearOf 46 = .ok (.bipush 13, 2) := by decide +kernel
theorem dX6_wearOf_48 : decode cX6_wearOf 48 = .ok (.iload_n 1, 1) := by decide +kernel
theorem dX6_wearOf_49 : decode cX6_wearOf 49 = .ok (.imul, 1) := by decide +kernel
theorem dX6_wearOf_50 : decode cX6_wearOf 50 = .ok (.iload 11, 2) := by decide +kernel
theorem dX6_wearOf_52 : decode cX6_wearOf 52 = .ok (.iadd, 1) := by decide +kernel
theorem dX6_wearOf_53 : decode cX6_wearOf 53 = .ok (.iaload, 1) := by decide +kernel
theorem dX6_wearOf_54 : decode cX6_wearOf 54 = .ok (.i2l, 1) := by decide +kernel
theorem dX6_wearOf_55 : decode cX6_wearOf 55 = .ok (.lstore 14, 2) := by decide +kernel
theorem dX6_wearOf_57 : decode cX6_wearOf 57 = .ok (.lload_n 3, 1) := by decide +kernel
theorem dX6_wearOf_58 : decode cX6_wearOf 58 = .ok (.lload 12, 2) := by decide +kernel
theorem dX6_wearOf_60 : decode cX6_wearOf 60 = .ok (.ladd, 1) := by decide +kernel
theorem dX6_wearOf_61 : decode cX6_wearOf 61 = .ok (.lstore_n 3, 1) := by decide +kernel
theorem dX6_wearOf_62 : decode cX6_wearOf 62 = .ok (.lload 5, 2) := by decide +kernel
theorem dX6_wearOf_64 : decode cX6_wearOf 64 = .ok (.lload 14, 2) := by decide +kernel
theorem dX6_wearOf_66 : decode cX6_wearOf 66 = .ok (.ladd, 1) := by decide +kernel
theorem dX6_wearOf_67 : decode cX6_wearOf 67 = .ok (.lstore 5, 2) := by decide +kernel
theorem dX6_wearOf_69 : decode cX6_wearOf 69 = .ok (.lload 7, 2) := by decide +kernel
theorem dX6_wearOf_71 : decode cX6_wearOf 71 = .ok (.lload 12, 2) := by decide +kernel
theorem dX6_wearOf_73 : decode cX6_wearOf 73 = .ok (.lload 12, 2) := by decide +kernel
theorem dX6_wearOf_75 : decode cX6_wearOf 75 = .ok (.lmul, 1) := by decide +kernel
theorem dX6_wearOf_76 : decode cX6_wearOf 76 = .ok (.ladd, 1) := by decide +kernel
theorem dX6_wearOf_77 : decode cX6_wearOf 77 = .ok (.lstore 7, 2) := by decide +kernel
theorem dX6_wearOf_79 : decode cX6_wearOf 79 = .ok (.lload 9, 2) := by decide +kernel
theorem dX6_wearOf_81 : decode cX6_wearOf 81 = .ok (.lload 12, 2) := by decide +kernel
theorem dX6_wearOf_83 : decode cX6_wearOf 83 = .ok (.lload 14, 2) := by decide +kernel
theorem dX6_wearOf_85 : decode cX6_wearOf 85 = .ok (.lmul, 1) := by decide +kernel
theorem dX6_wearOf_86 : decode cX6_wearOf 86 = .ok (.ladd, 1) := by decide +kernel
theorem dX6_wearOf_87 : decode cX6_wearOf 87 = .ok (.lstore 9, 2) := by decide +kernel
theorem dX6_wearOf_89 : decode cX6_wearOf 89 = .ok (.iinc 11 1, 3) := by decide +kernel
theorem dX6_wearOf_92 : decode cX6_wearOf 92 = .ok (.goto (-71), 3) := by decide +kernel
theorem dX6_wearOf_95 : decode cX6_wearOf 95 = .ok (.aload_n 0, 1) := by decide +kernel
theorem dX6_wearOf_96 : decode cX6_wearOf 96 = .ok (.lload_n 3, 1) := by decide +kernel
theorem dX6_wearOf_97 : decode cX6_wearOf 97 = .ok (.lload 5, 2) := by decide +kernel
theorem dX6_wearOf_99 : decode cX6_wearOf 99 = .ok (.lmul, 1) := by decide +kernel
theorem dX6_wearOf_100 : decode cX6_wearOf 100 = .ok (.iload_n 2, 1) := by decide +kernel
theorem dX6_wearOf_101 : decode cX6_wearOf 101 = .ok (.i2l, 1) := by decide +kernel
theorem dX6_wearOf_102 : decode cX6_wearOf 102 = .ok (.lload 9, 2) := by decide +kernel
theorem dX6_wearOf_104 : decode cX6_wearOf 104 = .ok (.lmul, 1) := by decide +kernel
theorem dX6_wearOf_105 : decode cX6_wearOf 105 = .ok (.lsub, 1) := by decide +kernel
theorem dX6_wearOf_106 : decode cX6_wearOf 106 = .ok (.putfield 128, 3) := by decide +kernel
theorem dX6_wearOf_109 : decode cX6_wearOf 109 = .ok (.aload_n 0, 1) := by decide +kernel
theorem dX6_wearOf_110 : decode cX6_wearOf 110 = .ok (.iload_n 2, 1) := by decide +kernel
theorem dX6_wearOf_111 : decode cX6_wearOf 111 = .ok (.i2l, 1) := by decide +kernel
theorem dX6_wearOf_112 : decode cX6_wearOf 112 = .ok (.lload 7, 2) := by decide +kernel
theorem dX6_wearOf_114 : decode cX6_wearOf 114 = .ok (.lmul, 1) := by decide +kernel
theorem dX6_wearOf_115 : decode cX6_wearOf 115 = .ok (.lload_n 3, 1) := by decide +kernel
theorem dX6_wearOf_116 : decode cX6_wearOf 116 = .ok (.lload_n 3, 1) := by decide +kernel
theorem dX6_wearOf_117 : decode cX6_wearOf 117 = .ok (.lmul, 1) := by decide +kernel
theorem dX6_wearOf_118 : decode cX6_wearOf 118 = .ok (.lsub, 1) := by decide +kernel
theorem dX6_wearOf_119 : decode cX6_wearOf 119 = .ok (.putfield 132, 3) := by decide +kernel
theorem dX6_wearOf_122 : decode cX6_wearOf 122 = .ok (.aload_n 0, 1) := by decide +kernel
theorem dX6_wearOf_123 : decode cX6_wearOf 123 = .ok (.getfield 132, 3) := by decide +kernel
theorem dX6_wearOf_126 : decode cX6_wearOf 126 = .ok (.lconst 0, 1) := by decide +kernel
theorem dX6_wearOf_127 : decode cX6_wearOf 127 = .ok (.lcmp, 1) := by decide +kernel
theorem dX6_wearOf_128 : decode cX6_wearOf 128 = .ok (.ifCond .ne 26, 3) := by decide +kernel
theorem dX6_wearOf_131 : decode cX6_wearOf 131 = .ok (.aload_n 0, 1) := by decide +kernel
theorem dX6_wearOf_132 : decode cX6_wearOf 132 = .ok (.aload_n 0, 1) := by decide +kernel
theorem dX6_wearOf_133 : decode cX6_wearOf 133 = .ok (.getfield 16, 3) := by decide +kernel
theorem dX6_wearOf_136 : decode cX6_wearOf 136 = .ok (.aload_n 0, 1) := by decide +kernel
theorem dX6_wearOf_137 : decode cX6_wearOf 137 = .ok (.getfield 35, 3) := by decide +kernel
theorem dX6_wearOf_140 : decode cX6_wearOf 140 = .ok (.iload_n 1, 1) := by decide +kernel
theorem dX6_wearOf_141 : decode cX6_wearOf 141 = .ok (.iaload, 1) := by decide +kernel
theorem dX6_wearOf_142 : decode cX6_wearOf 142 = .ok (.iaload, 1) := by decide +kernel
theorem dX6_wearOf_143 : decode cX6_wearOf 143 = .ok (.i2l, 1) := by decide +kernel
theorem dX6_wearOf_144 : decode cX6_wearOf 144 = .ok (.putfield 128, 3) := by decide +kernel
theorem dX6_wearOf_147 : decode cX6_wearOf 147 = .ok (.aload_n 0, 1) := by decide +kernel
theorem dX6_wearOf_148 : decode cX6_wearOf 148 = .ok (.ldc2_w 135, 3) := by decide +kernel
theorem dX6_wearOf_151 : decode cX6_wearOf 151 = .ok (.putfield 132, 3) := by decide +kernel
theorem dX6_wearOf_154 : decode cX6_wearOf 154 = .ok (.aload_n 0, 1) := by decide +kernel
theorem dX6_wearOf_155 : decode cX6_wearOf 155 = .ok (.getfield 128, 3) := by decide +kernel
theorem dX6_wearOf_158 : decode cX6_wearOf 158 = .ok (.lconst 0, 1) := by decide +kernel
theorem dX6_wearOf_159 : decode cX6_wearOf 159 = .ok (.lcmp, 1) := by decide +kernel
theorem dX6_wearOf_160 : decode cX6_wearOf 160 = .ok (.ifCond .gt 14, 3) := by decide +kernel
theorem dX6_wearOf_163 : decode cX6_wearOf 163 = .ok (.aload_n 0, 1) := by decide +kernel
theorem dX6_wearOf_164 : decode cX6_wearOf 164 = .ok (.lconst 0, 1) := by decide +kernel
theorem dX6_wearOf_165 : decode cX6_wearOf 165 = .ok (.putfield 128, 3) := by decide +kernel
theorem dX6_wearOf_168 : decode cX6_wearOf 168 = .ok (.aload_n 0, 1) := by decide +kernel
theorem dX6_wearOf_169 : decode cX6_wearOf 169 = .ok (.lconst 1, 1) := by decide +kernel
theorem dX6_wearOf_170 : decode cX6_wearOf 170 = .ok (.putfield 132, 3) := by decide +kernel
theorem dX6_wearOf_173 : decode cX6_wearOf 173 = .ok (.return_, 1) := by decide +kernel
theorem dX6_wearOf_174 : decode cX6_wearOf 174 = .ok (.aload_n 0, 1) := by decide +kernel
theorem dX6_wearOf_175 : decode cX6_wearOf 175 = .ok (.getfield 128, 3) := by decide +kernel
theorem dX6_wearOf_178 : decode cX6_wearOf 178 = .ok (.lstore 11, 2) := by decide +kernel
theorem dX6_wearOf_180 : decode cX6_wearOf 180 = .ok (.aload_n 0, 1) := by decide +kernel
theorem dX6_wearOf_181 : decode cX6_wearOf 181 = .ok (.getfield 132, 3) := by decide +kernel
theorem dX6_wearOf_184 : decode cX6_wearOf 184 = .ok (.lstore 13, 2) := by decide +kernel
theorem dX6_wearOf_186 : decode cX6_wearOf 186 = .ok (.lload 13, 2) := by decide +kernel
theorem dX6_wearOf_188 : decode cX6_wearOf 188 = .ok (.lconst 0, 1) := by decide +kernel
theorem dX6_wearOf_189 : decode cX6_wearOf 189 = .ok (.lcmp, 1) := by decide +kernel
theorem dX6_wearOf_190 : decode cX6_wearOf 190 = .ok (.ifCond .eq 21, 3) := by decide +kernel
theorem dX6_wearOf_193 : decode cX6_wearOf 193 = .ok (.lload 11, 2) := by decide +kernel
theorem dX6_wearOf_195 : decode cX6_wearOf 195 = .ok (.lload 13, 2) := by decide +kernel
theorem dX6_wearOf_197 : decode cX6_wearOf 197 = .ok (.lrem, 1) := by decide +kernel
theorem dX6_wearOf_198 : decode cX6_wearOf 198 = .ok (.lstore 15, 2) := by decide +kernel
theorem dX6_wearOf_200 : decode cX6_wearOf 200 = .ok (.lload 13, 2) := by decide +kernel
theorem dX6_wearOf_202 : decode cX6_wearOf 202 = .ok (.lstore 11, 2) := by decide +kernel
theorem dX6_wearOf_204 : decode cX6_wearOf 204 = .ok (.lload 15, 2) := by decide +kernel
theorem dX6_wearOf_206 : decode cX6_wearOf 206 = .ok (.lstore 13, 2) := by decide +kernel
theorem dX6_wearOf_208 : decode cX6_wearOf 208 = .ok (.goto (-22), 3) := by decide +kernel
theorem dX6_wearOf_211 : decode cX6_wearOf 211 = .ok (.aload_n 0, 1) := by decide +kernel
theorem dX6_wearOf_212 : decode cX6_wearOf 212 = .ok (.dup, 1) := by decide +kernel
theorem dX6_wearOf_213 : decode cX6_wearOf 213 = .ok (.getfield 128, 3) := by decide +kernel
theorem dX6_wearOf_216 : decode cX6_wearOf 216 = .ok (.lload 11, 2) := by decide +kernel
theorem dX6_wearOf_218 : decode cX6_wearOf 218 = .ok (.ldiv, 1) := by decide +kernel
theorem dX6_wearOf_219 : decode cX6_wearOf 219 = .ok (.putfield 128, 3) := by decide +kernel
theorem dX6_wearOf_222 : decode cX6_wearOf 222 = .ok (.aload_n 0, 1) := by decide +kernel
theorem dX6_wearOf_223 : decode cX6_wearOf 223 = .ok (.dup, 1) := by decide +kernel
theorem dX6_wearOf_224 : decode cX6_wearOf 224 = .ok (.getfield 132, 3) := by decide +kernel
theorem dX6_wearOf_227 : decode cX6_wearOf 227 = .ok (.lload 11, 2) := by decide +kernel
theorem dX6_wearOf_229 : decode cX6_wearOf 229 = .ok (.ldiv, 1) := by decide +kernel
theorem dX6_wearOf_230 : decode cX6_wearOf 230 = .ok (.putfield 132, 3) := by decide +kernel
theorem dX6_wearOf_233 : decode cX6_wearOf 233 = .ok (.return_, 1) := by decide +kernel
theorem dX6_lastOf_0 : decode cX6_lastOf 0 = .ok (.bipush 13, 2) := by decide +kernel
theorem dX6_lastOf_2 : decode cX6_lastOf 2 = .ok (.iload_n 1, 1) := by decide +kernel
theorem dX6_lastOf_3 : decode cX6_lastOf 3 = .ok (.imul, 1) := by decide +kernel
theorem dX6_lastOf_4 : decode cX6_lastOf 4 = .ok (.aload_n 0, 1) := by decide +kernel
theorem dX6_lastOf_5 : decode cX6_lastOf 5 = .ok (.getfield 56, 3) := by decide +kernel
theorem dX6_lastOf_8 : decode cX6_lastOf 8 = .ok (.iload_n 1, 1) := by decide +kernel
theorem dX6_lastOf_9 : decode cX6_lastOf 9 = .ok (.iaload, 1) := by decide +kernel
theorem dX6_lastOf_10 : decode cX6_lastOf 10 = .ok (.iadd, 1) := by decide +kernel
theorem dX6_lastOf_11 : decode cX6_lastOf 11 = .ok (.iconst 1, 1) := by decide +kernel
theorem dX6_lastOf_12 : decode cX6_lastOf 12 = .ok (.isub, 1) := by decide +kernel
theorem dX6_lastOf_13 : decode cX6_lastOf 13 = .ok (.ireturn, 1) := by decide +kernel
theorem dX6_depthOf_0 : decode cX6_depthOf 0 = .ok (.aload_n 0, 1) := by decide +kernel
theorem dX6_depthOf_1 : decode cX6_depthOf 1 = .ok (.iload_n 1, 1) := by decide +kernel
theorem dX6_depthOf_2 : decode cX6_depthOf 2 = .ok (.invokevirtual 137, 3) := by decide +kernel
theorem dX6_depthOf_5 : decode cX6_depthOf 5 = .ok (.aload_n 0, 1) := by decide +kernel
theorem dX6_depthOf_6 : decode cX6_depthOf 6 = .ok (.getfield 47, 3) := by decide +kernel
theorem dX6_depthOf_9 : decode cX6_depthOf 9 = .ok (.iload_n 1, 1) := by decide +kernel
theorem dX6_depthOf_10 : decode cX6_depthOf 10 = .ok (.iaload, 1) := by decide +kernel
theorem dX6_depthOf_11 : decode cX6_depthOf 11 = .ok (.i2l, 1) := by decide +kernel
theorem dX6_depthOf_12 : decode cX6_depthOf 12 = .ok (.iload_n 2, 1) := by decide +kernel
theorem dX6_depthOf_13 : decode cX6_depthOf 13 = .ok (.i2l, 1) := by decide +kernel
theorem dX6_depthOf_14 : decode cX6_depthOf 14 = .ok (.ladd, 1) := by decide +kernel
theorem dX6_depthOf_15 : decode cX6_depthOf 15 = .ok (.aload_n 0, 1) := by decide +kernel
theorem dX6_depthOf_16 : decode cX6_depthOf 16 = .ok (.getfield 59, 3) := by decide +kernel
theorem dX6_depthOf_19 : decode cX6_depthOf 19 = .ok (.aload_n 0, 1) := by decide +kernel
theorem dX6_depthOf_20 : decode cX6_depthOf 20 = .ok (.iload_n 1, 1) := by decide +kernel
theorem dX6_depthOf_21 : decode cX6_depthOf 21 = .ok (.invokevirtual 140, 3) := by decide +kernel
theorem dX6_depthOf_24 : decode cX6_depthOf 24 = .ok (.iaload, 1) := by decide +kernel
theorem dX6_depthOf_25 : decode cX6_depthOf 25 = .ok (.i2l, 1) := by decide +kernel
theorem dX6_depthOf_26 : decode cX6_depthOf 26 = .ok (.lsub, 1) := by decide +kernel
theorem dX6_depthOf_27 : decode cX6_depthOf 27 = .ok (.lstore_n 3, 1) := by decide +kernel
theorem dX6_depthOf_28 : decode cX6_depthOf 28 = .ok (.aload_n 0, 1) := by decide +kernel
theorem dX6_depthOf_29 : decode cX6_depthOf 29 = .ok (.getfield 62, 3) := by decide +kernel
theorem dX6_depthOf_32 : decode cX6_depthOf 32 = .ok (.aload_n 0, 1) := by decide +kernel
theorem dX6_depthOf_33 : decode cX6_depthOf 33 = .ok (.iload_n 1, 1) := by decide +kernel
theorem dX6_depthOf_34 : decode cX6_depthOf 34 = .ok (.invokevirtual 140, 3) := by decide +kernel
theorem dX6_depthOf_37 : decode cX6_depthOf 37 = .ok (.iaload, 1) := by decide +kernel
theorem dX6_depthOf_38 : decode cX6_depthOf 38 = .ok (.i2l, 1) := by decide +kernel
theorem dX6_depthOf_39 : decode cX6_depthOf 39 = .ok (.aload_n 0, 1) := by decide +kernel
theorem dX6_depthOf_40 : decode cX6_depthOf 40 = .ok (.getfield 132, 3) := by decide +kernel
theorem dX6_depthOf_43 : decode cX6_depthOf 43 = .ok (.lmul, 1) := by decide +kernel
theorem dX6_depthOf_44 : decode cX6_depthOf 44 = .ok (.aload_n 0, 1) := by decide +kernel
theorem dX6_depthOf_45 : decode cX6_depthOf 45 = .ok (.getfield 128, 3) := by decide +kernel
theorem dX6_depthOf_48 : decode cX6_depthOf 48 = .ok (.lload_n 3, 1) := by decide +kernel
theorem dX6_depthOf_49 : decode cX6_depthOf 49 = .ok (.lmul, 1) := by decide +kernel
theorem dX6_depthOf_50 : decode cX6_depthOf 50 = .ok (.lsub, 1) := by decide +kernel
theorem dX6_depthOf_51 : decode cX6_depthOf 51 = .ok (.aload_n 0, 1) := by decide +kernel
theorem dX6_depthOf_52 : decode cX6_depthOf 52 = .ok (.getfield 132, 3) := by decide +kernel
theorem dX6_depthOf_55 : decode cX6_depthOf 55 = .ok (.invokestatic 143, 3) := by decide +kernel
theorem dX6_depthOf_58 : decode cX6_depthOf 58 = .ok (.lstore 5, 2) := by decide +kernel
theorem dX6_depthOf_60 : decode cX6_depthOf 60 = .ok (.lload 5, 2) := by decide +kernel
theorem dX6_depthOf_62 : decode cX6_depthOf 62 = .ok (.lconst 0, 1) := by decide +kernel
theorem dX6_depthOf_63 : decode cX6_depthOf 63 = .ok (.lcmp, 1) := by decide +kernel
theorem dX6_depthOf_64 : decode cX6_depthOf 64 = .ok (.ifCond .ge 7, 3) := by decide +kernel
theorem dX6_depthOf_67 : decode cX6_depthOf 67 = .ok (.iconst 0, 1) := by decide +kernel
theorem dX6_depthOf_68 : decode cX6_depthOf 68 = .ok (.goto 6, 3) := by decide +kernel
theorem dX6_depthOf_71 : decode cX6_depthOf 71 = .ok (.lload 5, 2) := by decide +kernel
theorem dX6_depthOf_73 : decode cX6_depthOf 73 = .ok (.l2i, 1) := by decide +kernel
theorem dX6_depthOf_74 : decode cX6_depthOf 74 = .ok (.ireturn, 1) := by decide +kernel
theorem dX6_endOf_0 : decode cX6_endOf 0 = .ok (.aload_n 0, 1) := by decide +kernel
theorem dX6_endOf_1 : decode cX6_endOf 1 = .ok (.iload_n 1, 1) := by decide +kernel
theorem dX6_endOf_2 : decode cX6_endOf 2 = .ok (.iconst 0, 1) := by decide +kernel
theorem dX6_endOf_3 : decode cX6_endOf 3 = .ok (.invokevirtual 149, 3) := by decide +kernel
theorem dX6_endOf_6 : decode cX6_endOf 6 = .ok (.iload_n 2, 1) := by decide +kernel
theorem dX6_endOf_7 : decode cX6_endOf 7 = .ok (.if_icmp .ge 5, 3) := by decide +kernel
theorem dX6_endOf_10 : decode cX6_endOf 10 = .ok (.iconst 0, 1) := by decide +kernel
theorem dX6_endOf_11 : decode cX6_endOf 11 = .ok (.ireturn, 1) := by decide +kernel
theorem dX6_endOf_12 : decode cX6_endOf 12 = .ok (.iload_n 2, 1) := by decide +kernel
theorem dX6_endOf_13 : decode cX6_endOf 13 = .ok (.ifCond .eq 12, 3) := by decide +kernel
theorem dX6_endOf_16 : decode cX6_endOf 16 = .ok (.aload_n 0, 1) := by decide +kernel
theorem dX6_endOf_17 : decode cX6_endOf 17 = .ok (.getfield 128, 3) := by decide +kernel
theorem dX6_endOf_20 : decode cX6_endOf 20 = .ok (.lconst 0, 1) := by decide +kernel
theorem dX6_endOf_21 : decode cX6_endOf 21 = .ok (.lcmp, 1) := by decide +kernel
theorem dX6_endOf_22 : decode cX6_endOf 22 = .ok (.ifCond .ne 6, 3) := by decide +kernel
theorem dX6_endOf_25 : decode cX6_endOf 25 = .ok (.ldc 152, 2) := by decide +kernel
theorem dX6_endOf_27 : decode cX6_endOf 27 = .ok (.ireturn, 1) := by decide +kernel
theorem dX6_endOf_28 : decode cX6_endOf 28 = .ok (.aload_n 0, 1) := by decide +kernel
theorem dX6_endOf_29 : decode cX6_endOf 29 = .ok (.getfield 62, 3) := by decide +kernel
theorem dX6_endOf_32 : decode cX6_endOf 32 = .ok (.aload_n 0, 1) := by decide +kernel
theorem dX6_endOf_33 : decode cX6_endOf 33 = .ok (.iload_n 1, 1) := by decide +kernel
theorem dX6_endOf_34 : decode cX6_endOf 34 = .ok (.invokevirtual 140, 3) := by decide +kernel
theorem dX6_endOf_37 : decode cX6_endOf 37 = .ok (.iaload, 1) := by decide +kernel
theorem dX6_endOf_38 : decode cX6_endOf 38 = .ok (.iload_n 2, 1) := by decide +kernel
theorem dX6_endOf_39 : decode cX6_endOf 39 = .ok (.isub, 1) := by decide +kernel
theorem dX6_endOf_40 : decode cX6_endOf 40 = .ok (.i2l, 1) := by decide +kernel
theorem dX6_endOf_41 : decode cX6_endOf 41 = .ok (.aload_n 0, 1) := by decide +kernel
theorem dX6_endOf_42 : decode cX6_endOf 42 = .ok (.getfield 132, 3) := by decide +kernel
theorem dX6_endOf_45 : decode cX6_endOf 45 = .ok (.lmul, 1) := by decide +kernel
theorem dX6_endOf_46 : decode cX6_endOf 46 = .ok (.aload_n 0, 1) := by decide +kernel
theorem dX6_endOf_47 : decode cX6_endOf 47 = .ok (.getfield 128, 3) := by decide +kernel
theorem dX6_endOf_50 : decode cX6_endOf 50 = .ok (.invokestatic 143, 3) := by decide +kernel
theorem dX6_endOf_53 : decode cX6_endOf 53 = .ok (.lstore_n 3, 1) := by decide +kernel
theorem dX6_endOf_54 : decode cX6_endOf 54 = .ok (.ldc2_w 153, 3) := by decide +kernel
theorem dX6_endOf_57 : decode cX6_endOf 57 = .ok (.lload_n 3, 1) := by decide +kernel
theorem dX6_endOf_58 : decode cX6_endOf 58 = .ok (.aload_n 0, 1) := by decide +kernel
theorem dX6_endOf_59 : decode cX6_endOf 59 = .ok (.getfield 47, 3) := by decide +kernel
theorem dX6_endOf_62 : decode cX6_endOf 62 = .ok (.iload_n 1, 1) := by decide +kernel
theorem dX6_endOf_63 : decode cX6_endOf 63 = .ok (.iaload, 1) := by decide +kernel
theorem dX6_endOf_64 : decode cX6_endOf 64 = .ok (.aload_n 0, 1) := by decide +kernel
theorem dX6_endOf_65 : decode cX6_endOf 65 = .ok (.getfield 59, 3) := by decide +kernel
theorem dX6_endOf_68 : decode cX6_endOf 68 = .ok (.aload_n 0, 1) := by decide +kernel
theorem dX6_endOf_69 : decode cX6_endOf 69 = .ok (.iload_n 1, 1) := by decide +kernel
theorem dX6_endOf_70 : decode cX6_endOf 70 = .ok (.invokevirtual 140, 3) := by decide +kernel
theorem dX6_endOf_73 : decode cX6_endOf 73 = .ok (.iaload, 1) := by decide +kernel
theorem dX6_endOf_74 : decode cX6_endOf 74 = .ok (.isub, 1) := by decide +kernel
theorem dX6_endOf_75 : decode cX6_endOf 75 = .ok (.i2l, 1) := by decide +kernel
theorem dX6_endOf_76 : decode cX6_endOf 76 = .ok (.lsub, 1) := by decide +kernel
theorem dX6_endOf_77 : decode cX6_endOf 77 = .ok (.invokestatic 155, 3) := by decide +kernel
theorem dX6_endOf_80 : decode cX6_endOf 80 = .ok (.l2i, 1) := by decide +kernel
theorem dX6_endOf_81 : decode cX6_endOf 81 = .ok (.ireturn, 1) := by decide +kernel
theorem dX6_whyOf_0 : decode cX6_whyOf 0 = .ok (.iconst 0, 1) := by decide +kernel
theorem dX6_whyOf_1 : decode cX6_whyOf 1 = .ok (.istore_n 2, 1) := by decide +kernel
theorem dX6_whyOf_2 : decode cX6_whyOf 2 = .ok (.iload_n 2, 1) := by decide +kernel
theorem dX6_whyOf_3 : decode cX6_whyOf 3 = .ok (.aload_n 0, 1) := by decide +kernel
theorem dX6_whyOf_4 : decode cX6_whyOf 4 = .ok (.getfield 23, 3) := by decide +kernel
theorem dX6_whyOf_7 : decode cX6_whyOf 7 = .ok (.iload_n 1, 1) := by decide +kernel
theorem dX6_whyOf_8 : decode cX6_whyOf 8 = .ok (.iaload, 1) := by decide +kernel
theorem dX6_whyOf_9 : decode cX6_whyOf 9 = .ok (.if_icmp .ge 194, 3) := by decide +kernel
theorem dX6_whyOf_12 : decode cX6_whyOf 12 = .ok (.iload_n 1, 1) := by decide +kernel
theorem dX6_whyOf_13 : decode cX6_whyOf 13 = .ok (.iload_n 2, 1) := by decide +kernel
theorem dX6_whyOf_14 : decode cX6_whyOf 14 = .ok (.invokestatic 97, 3) := by decide +kernel
theorem dX6_whyOf_17 : decode cX6_whyOf 17 = .ok (.istore_n 3, 1) := by decide +kernel
theorem dX6_whyOf_18 : decode cX6_whyOf 18 = .ok (.aload_n 0, 1) := by decide +kernel
theorem dX6_whyOf_19 : decode cX6_whyOf 19 = .ok (.getfield 29, 3) := by decide +kernel
theorem dX6_whyOf_22 : decode cX6_whyOf 22 = .ok (.iload_n 3, 1) := by decide +kernel
theorem dX6_whyOf_23 : decode cX6_whyOf 23 = .ok (.iaload, 1) := by decide +kernel
theorem dX6_whyOf_24 : decode cX6_whyOf 24 = .ok (.istore 4, 2) := by decide +kernel
theorem dX6_whyOf_26 : decode cX6_whyOf 26 = .ok (.iconst 0, 1) := by decide +kernel
theorem dX6_whyOf_27 : decode cX6_whyOf 27 = .ok (.istore 5, 2) := by decide +kernel
theorem dX6_whyOf_29 : decode cX6_whyOf 29 = .ok (.iload 4, 2) := by decide +kernel
theorem dX6_whyOf_31 : decode cX6_whyOf 31 = .ok (.ifCond .ge 23, 3) := by decide +kernel
theorem dX6_whyOf_34 : decode cX6_whyOf 34 = .ok (.aload_n 0, 1) := by decide +kernel
theorem dX6_whyOf_35 : decode cX6_whyOf 35 = .ok (.getfield 26, 3) := by decide +kernel
theorem dX6_whyOf_38 : decode cX6_whyOf 38 = .ok (.iload_n 3, 1) := by decide +kernel
theorem dX6_whyOf_39 : decode cX6_whyOf 39 = .ok (.iaload, 1) := by decide +kernel
theorem dX6_whyOf_40 : decode cX6_whyOf 40 = .ok (.iconst 4, 1) := by decide +kernel
theorem dX6_whyOf_41 : decode cX6_whyOf 41 = .ok (.if_icmp .ne 7, 3) := by decide +kernel
theorem dX6_whyOf_44 : decode cX6_whyOf 44 = .ok (.iconst 0, 1) := by decide +kernel
theorem dX6_whyOf_45 : decode cX6_whyOf 45 = .ok (.goto 4, 3) := by decide +kernel
theorem dX6_whyOf_48 : decode cX6_whyOf 48 = .ok (.iconst 1, 1) := by decide +kernel
theorem dX6_whyOf_49 : decode cX6_whyOf 49 = .ok (.istore 5, 2) := by decide +kernel
theorem dX6_whyOf_51 : decode cX6_whyOf 51 = .ok (.goto 133, 3) := by decide +kernel
theorem dX6_whyOf_54 : decode cX6_whyOf 54 = .ok (.aload_n 0, 1) := by decide +kernel
theorem dX6_whyOf_55 : decode cX6_whyOf 55 = .ok (.getfield 26, 3) := by decide +kernel
theorem dX6_whyOf_58 : decode cX6_whyOf 58 = .ok (.iload_n 3, 1) := by decide +kernel
theorem dX6_whyOf_59 : decode cX6_whyOf 59 = .ok (.iaload, 1) := by decide +kernel
theorem dX6_whyOf_60 : decode cX6_whyOf 60 = .ok (.ifCond .ne 19, 3) := by decide +kernel
theorem dX6_whyOf_63 : decode cX6_whyOf 63 = .ok (.aload_n 0, 1) := by decide +kernel
theorem dX6_whyOf_64 : decode cX6_whyOf 64 = .ok (.getfield 41, 3) := by decide +kernel
theorem dX6_whyOf_67 : decode cX6_whyOf 67 = .ok (.iload 4, 2) := by decide +kernel
theorem dX6_whyOf_69 : decode cX6_whyOf 69 = .ok (.iaload, 1) := by decide +kernel
theorem dX6_whyOf_70 : decode cX6_whyOf 70 = .ok (.ifCond .le 9, 3) := by decide +kernel
theorem dX6_whyOf_73 : decode cX6_whyOf 73 = .ok (.iconst 2, 1) := by decide +kernel
theorem dX6_whyOf_74 : decode cX6_whyOf 74 = .ok (.istore 5, 2) := by decide +kernel
theorem dX6_whyOf_76 : decode cX6_whyOf 76 = .ok (.goto 108, 3) := by decide +kernel
theorem dX6_whyOf_79 : decode cX6_whyOf 79 = .ok (.aload_n 0, 1) := by decide +kernel
theorem dX6_whyOf_80 : decode cX6_whyOf 80 = .ok (.iload 4, 2) := by decide +kernel
theorem dX6_whyOf_82 : decode cX6_whyOf 82 = .ok (.iconst 0, 1) := by decide +kernel
theorem dX6_whyOf_83 : decode cX6_whyOf 83 = .ok (.invokevirtual 149, 3) := by decide +kernel
theorem dX6_whyOf_86 : decode cX6_whyOf 86 = .ok (.aload_n 0, 1) := by decide +kernel
theorem dX6_whyOf_87 : decode cX6_whyOf 87 = .ok (.getfield 13, 3) := by decide +kernel
theorem dX6_whyOf_90 : decode cX6_whyOf 90 = .ok (.aload_n 0, 1) := by decide +kernel
theorem dX6_whyOf_91 : decode cX6_whyOf 91 = .ok (.getfield 26, 3) := by decide +kernel
theorem dX6_whyOf_94 : decode cX6_whyOf 94 = .ok (.iload_n 3, 1) := by decide +kernel
theorem dX6_whyOf_95 : decode cX6_whyOf 95 = .ok (.iaload, 1) := by decide +kernel
theorem dX6_whyOf_96 : decode cX6_whyOf 96 = .ok (.iaload, 1) := by decide +kernel
theorem dX6_whyOf_97 : decode cX6_whyOf 97 = .ok (.if_icmp .ge 9, 3) := by decide +kernel
theorem dX6_whyOf_100 : decode cX6_whyOf 100 = .ok (.iconst 3, 1) := by decide +kernel
theorem dX6_whyOf_101 : decode cX6_whyOf 101 = .ok (.istore 5, 2) := by decide +kernel
theorem dX6_whyOf_103 : decode cX6_whyOf 103 = .ok (.goto 81, 3) := by decide +kernel
theorem dX6_whyOf_106 : decode cX6_whyOf 106 = .ok (.aload_n 0, 1) := by decide +kernel
theorem dX6_whyOf_107 : decode cX6_whyOf 107 = .ok (.getfield 26, 3) := by decide +kernel
theorem dX6_whyOf_110 : decode cX6_whyOf 110 = .ok (.iload_n 3, 1) := by decide +kernel
theorem dX6_whyOf_111 : decode cX6_whyOf 111 = .ok (.iaload, 1) := by decide +kernel
theorem dX6_whyOf_112 : decode cX6_whyOf 112 = .ok (.iconst 2, 1) := by decide +kernel
theorem dX6_whyOf_113 : decode cX6_whyOf 113 = .ok (.if_icmp .ne 71, 3) := by decide +kernel
theorem dX6_whyOf_116 : decode cX6_whyOf 116 = .ok (.aload_n 0, 1) := by decide +kernel
theorem dX6_whyOf_117 : decode cX6_whyOf 117 = .ok (.getfield 32, 3) := by decide +kernel
theorem dX6_whyOf_120 : decode cX6_whyOf 120 = .ok (.iload_n 3, 1) := by decide +kernel
theorem dX6_whyOf_121 : decode cX6_whyOf 121 = .ok (.iaload, 1) := by decide +kernel
theorem dX6_whyOf_122 : decode cX6_whyOf 122 = .ok (.ifCond .lt 62, 3) := by decide +kernel
theorem dX6_whyOf_125 : decode cX6_whyOf 125 = .ok (.aload_n 0, 1) := by decide +kernel
theorem dX6_whyOf_126 : decode cX6_whyOf 126 = .ok (.getfield 29, 3) := by decide +kernel
theorem dX6_whyOf_129 : decode cX6_whyOf 129 = .ok (.iload_n 1, 1) := by decide +kernel
theorem dX6_whyOf_130 : decode cX6_whyOf 130 = .ok (.aload_n 0, 1) := by decide +kernel
theorem dX6_whyOf_131 : decode cX6_whyOf 131 = .ok (.getfield 32, 3) := by decide +kernel
theorem dX6_whyOf_134 : decode cX6_whyOf 134 = .ok (.iload_n 3, 1) := by decide +kernel
theorem dX6_whyOf_135 : decode cX6_whyOf 135 = .ok (.iaload, 1) := by decide +kernel
theorem dX6_whyOf_136 : decode cX6_whyOf 136 = .ok (.invokestatic 97, 3) := by decide +kernel
theorem dX6_whyOf_139 : decode cX6_whyOf 139 = .ok (.iaload, 1) := by decide +kernel
theorem dX6_whyOf_140 : decode cX6_whyOf 140 = .ok (.ifCond .lt 44, 3) := by decide +kernel
theorem dX6_whyOf_143 : decode cX6_whyOf 143 = .ok (.aload_n 0, 1) := by decide +kernel
theorem dX6_whyOf_144 : decode cX6_whyOf 144 = .ok (.iload 4, 2) := by decide +kernel
theorem dX6_whyOf_146 : decode cX6_whyOf 146 = .ok (.iconst 0, 1) := by decide +kernel
theorem dX6_whyOf_147 : decode cX6_whyOf 147 = .ok (.invokevirtual 149, 3) := by decide +kernel
theorem dX6_whyOf_150 : decode cX6_whyOf 150 = .ok (.aload_n 0, 1) := by decide +kernel
theorem dX6_whyOf_151 : decode cX6_whyOf 151 = .ok (.aload_n 0, 1) := by decide +kernel
theorem dX6_whyOf_152 : decode cX6_whyOf 152 = .ok (.getfield 29, 3) := by decide +kernel
theorem dX6_whyOf_155 : decode cX6_whyOf 155 = .ok (.iload_n 1, 1) := by decide +kernel
theorem dX6_whyOf_156 : decode cX6_whyOf 156 = .ok (.aload_n 0, 1) := by decide +kernel
theorem dX6_whyOf_157 : decode cX6_whyOf 157 = .ok (.getfield 32, 3) := by decide +kernel
theorem dX6_whyOf_160 : decode cX6_whyOf 160 = .ok (.iload_n 3, 1) := by decide +kernel
theorem dX6_whyOf_161 : decode cX6_whyOf 161 = .ok (.iaload, 1) := by decide +kernel
theorem dX6_whyOf_162 : decode cX6_whyOf 162 = .ok (.invokestatic 97, 3) := by decide +kernel
theorem dX6_whyOf_165 : decode cX6_whyOf 165 = .ok (.iaload, 1) := by decide +kernel
theorem dX6_whyOf_166 : decode cX6_whyOf 166 = .ok (.iconst 0, 1) := by decide +kernel
theorem dX6_whyOf_167 : decode cX6_whyOf 167 = .ok (.invokevirtual 149, 3) := by decide +kernel
theorem dX6_whyOf_170 : decode cX6_whyOf 170 = .ok (.isub, 1) := by decide +kernel
theorem dX6_whyOf_171 : decode cX6_whyOf 171 = .ok (.invokestatic 158, 3) := by decide +kernel
theorem dX6_whyOf_174 : decode cX6_whyOf 174 = .ok (.aload_n 0, 1) := by decide +kernel
theorem dX6_whyOf_175 : decode cX6_whyOf 175 = .ok (.getfield 19, 3) := by decide +kernel
theorem dX6_whyOf_178 : decode cX6_whyOf 178 = .ok (.if_icmp .le 6, 3) := by decide +kernel
theorem dX6_whyOf_181 : decode cX6_whyOf 181 = .ok (.iconst 4, 1) := by decide +kernel
theorem dX6_whyOf_182 : decode cX6_whyOf 182 = .ok (.istore 5, 2) := by decide +kernel
theorem dX6_whyOf_184 : decode cX6_whyOf 184 = .ok (.iload 5, 2) := by decide +kernel
theorem dX6_whyOf_186 : decode cX6_whyOf 186 = .ok (.ifCond .le 11, 3) := by decide +kernel
theorem dX6_whyOf_189 : decode cX6_whyOf 189 = .ok (.bipush 10, 2) := by decide +kernel
theorem dX6_whyOf_191 : decode cX6_whyOf 191 = .ok (.iload_n 2, 1) := by decide +kernel
theorem dX6_whyOf_192 : decode cX6_whyOf 192 = .ok (.imul, 1) := by decide +kernel
theorem dX6_whyOf_193 : decode cX6_whyOf 193 = .ok (.iload 5, 2) := by decide +kernel
theorem dX6_whyOf_195 : decode cX6_whyOf 195 = .ok (.iadd, 1) := by decide +kernel
theorem dX6_whyOf_196 : decode cX6_whyOf 196 = .ok (.ireturn, 1) := by decide +kernel
theorem dX6_whyOf_197 : decode cX6_whyOf 197 = .ok (.iinc 2 1, 3) := by decide +kernel
theorem dX6_whyOf_200 : decode cX6_whyOf 200 = .ok (.goto (-198), 3) := by decide +kernel
theorem dX6_whyOf_203 : decode cX6_whyOf 203 = .ok (.bipush (-9), 2) := by decide +kernel
theorem dX6_whyOf_205 : decode cX6_whyOf 205 = .ok (.ireturn, 1) := by decide +kernel
theorem dX6_farOf_0 : decode cX6_farOf 0 = .ok (.ldc 152, 2) := by decide +kernel
theorem dX6_farOf_2 : decode cX6_farOf 2 = .ok (.istore_n 2, 1) := by decide +kernel
theorem dX6_farOf_3 : decode cX6_farOf 3 = .ok (.iconst 0, 1) := by decide +kernel
theorem dX6_farOf_4 : decode cX6_farOf 4 = .ok (.istore_n 3, 1) := by decide +kernel
theorem dX6_farOf_5 : decode cX6_farOf 5 = .ok (.iload_n 3, 1) := by decide +kernel
theorem dX6_farOf_6 : decode cX6_farOf 6 = .ok (.aload_n 0, 1) := by decide +kernel
theorem dX6_farOf_7 : decode cX6_farOf 7 = .ok (.getfield 23, 3) := by decide +kernel
theorem dX6_farOf_10 : decode cX6_farOf 10 = .ok (.iload_n 1, 1) := by decide +kernel
theorem dX6_farOf_11 : decode cX6_farOf 11 = .ok (.iaload, 1) := by decide +kernel
theorem dX6_farOf_12 : decode cX6_farOf 12 = .ok (.if_icmp .ge 65, 3) := by decide +kernel
theorem dX6_farOf_15 : decode cX6_farOf 15 = .ok (.iload_n 1, 1) := by decide +kernel
theorem dX6_farOf_16 : decode cX6_farOf 16 = .ok (.iload_n 3, 1) := by decide +kernel
theorem dX6_farOf_17 : decode cX6_farOf 17 = .ok (.invokestatic 97, 3) := by decide +kernel
theorem dX6_farOf_20 : decode cX6_farOf 20 = .ok (.istore 4, 2) := by decide +kernel
theorem dX6_farOf_22 : decode cX6_farOf 22 = .ok (.aload_n 0, 1) := by decide +kernel
theorem dX6_farOf_23 : decode cX6_farOf 23 = .ok (.getfield 26, 3) := by decide +kernel
theorem dX6_farOf_26 : decode cX6_farOf 26 = .ok (.iload 4, 2) := by decide +kernel
theorem dX6_farOf_28 : decode cX6_farOf 28 = .ok (.iaload, 1) := by decide +kernel
theorem dX6_farOf_29 : decode cX6_farOf 29 = .ok (.iconst 4, 1) := by decide +kernel
theorem dX6_farOf_30 : decode cX6_farOf 30 = .ok (.if_icmp .eq 41, 3) := by decide +kernel
theorem dX6_farOf_33 : decode cX6_farOf 33 = .ok (.aload_n 0, 1) := by decide +kernel
theorem dX6_farOf_34 : decode cX6_farOf 34 = .ok (.getfield 29, 3) := by decide +kernel
theorem dX6_farOf_37 : decode cX6_farOf 37 = .ok (.iload 4, 2) := by decide +kernel
theorem dX6_farOf_39 : decode cX6_farOf 39 = .ok (.iaload, 1) := by decide +kernel
theorem dX6_farOf_40 : decode cX6_farOf 40 = .ok (.ifCond .lt 31, 3) := by decide +kernel
theorem dX6_farOf_43 : decode cX6_farOf 43 = .ok (.iload_n 2, 1) := by decide +kernel
theorem dX6_farOf_44 : decode cX6_farOf 44 = .ok (.aload_n 0, 1) := by decide +kernel
theorem dX6_farOf_45 : decode cX6_farOf 45 = .ok (.aload_n 0, 1) := by decide +kernel
theorem dX6_farOf_46 : decode cX6_farOf 46 = .ok (.getfield 29, 3) := by decide +kernel
theorem dX6_farOf_49 : decode cX6_farOf 49 = .ok (.iload 4, 2) := by decide +kernel
theorem dX6_farOf_51 : decode cX6_farOf 51 = .ok (.iaload, 1) := by decide +kernel
theorem dX6_farOf_52 : decode cX6_farOf 52 = .ok (.aload_n 0, 1) := by decide +kernel
theorem dX6_farOf_53 : decode cX6_farOf 53 = .ok (.getfield 13, 3) := by decide +kernel
theorem dX6_farOf_56 : decode cX6_farOf 56 = .ok (.aload_n 0, 1) := by decide +kernel
theorem dX6_farOf_57 : decode cX6_farOf 57 = .ok (.getfield 26, 3) := by decide +kernel
theorem dX6_farOf_60 : decode cX6_farOf 60 = .ok (.iload 4, 2) := by decide +kernel
theorem dX6_farOf_62 : decode cX6_farOf 62 = .ok (.iaload, 1) := by decide +kernel
theorem dX6_farOf_63 : decode cX6_farOf 63 = .ok (.iaload, 1) := by decide +kernel
theorem dX6_farOf_64 : decode cX6_farOf 64 = .ok (.invokevirtual 161, 3) := by decide +kernel
theorem dX6_farOf_67 : decode cX6_farOf 67 = .ok (.invokestatic 164, 3) := by decide +kernel
theorem dX6_farOf_70 : decode cX6_farOf 70 = .ok (.istore_n 2, 1) := by decide +kernel
theorem dX6_farOf_71 : decode cX6_farOf 71 = .ok (.iinc 3 1, 3) := by decide +kernel
theorem dX6_farOf_74 : decode cX6_farOf 74 = .ok (.goto (-69), 3) := by decide +kernel
theorem dX6_farOf_77 : decode cX6_farOf 77 = .ok (.iload_n 2, 1) := by decide +kernel
theorem dX6_farOf_78 : decode cX6_farOf 78 = .ok (.ireturn, 1) := by decide +kernel
theorem dX6_goes_0 : decode cX6_goes 0 = .ok (.aload_n 0, 1) := by decide +kernel
theorem dX6_goes_1 : decode cX6_goes 1 = .ok (.getfield 29, 3) := by decide +kernel
theorem dX6_goes_4 : decode cX6_goes 4 = .ok (.iload_n 1, 1) := by decide +kernel
theorem dX6_goes_5 : decode cX6_goes 5 = .ok (.iaload, 1) := by decide +kernel
theorem dX6_goes_6 : decode cX6_goes 6 = .ok (.ifCond .lt 31, 3) := by decide +kernel
theorem dX6_goes_9 : decode cX6_goes 9 = .ok (.aload_n 0, 1) := by decide +kernel
theorem dX6_goes_10 : decode cX6_goes 10 = .ok (.getfield 26, 3) := by decide +kernel
theorem dX6_goes_13 : decode cX6_goes 13 = .ok (.iload_n 1, 1) := by decide +kernel
theorem dX6_goes_14 : decode cX6_goes 14 = .ok (.iaload, 1) := by decide +kernel
theorem dX6_goes_15 : decode cX6_goes 15 = .ok (.iconst 4, 1) := by decide +kernel
theorem dX6_goes_16 : decode cX6_goes 16 = .ok (.if_icmp .eq 21, 3) := by decide +kernel
theorem dX6_goes_19 : decode cX6_goes 19 = .ok (.iload_n 2, 1) := by decide +kernel
theorem dX6_goes_20 : decode cX6_goes 20 = .ok (.ifCond .ne 13, 3) := by decide +kernel
theorem dX6_goes_23 : decode cX6_goes 23 = .ok (.aload_n 0, 1) := by decide +kernel
theorem dX6_goes_24 : decode cX6_goes 24 = .ok (.getfield 26, 3) := by decide +kernel
theorem dX6_goes_27 : decode cX6_goes 27 = .ok (.iload_n 1, 1) := by decide +kernel
theorem dX6_goes_28 : decode cX6_goes 28 = .ok (.iaload, 1) := by decide +kernel
theorem dX6_goes_29 : decode cX6_goes 29 = .ok (.iconst 3, 1) := by decide +kernel
theorem dX6_goes_30 : decode cX6_goes 30 = .ok (.if_icmp .eq 7, 3) := by decide +kernel
theorem dX6_goes_33 : decode cX6_goes 33 = .ok (.iconst 1, 1) := by decide +kernel
theorem dX6_goes_34 : decode cX6_goes 34 = .ok (.goto 4, 3) := by decide +kernel
theorem dX6_goes_37 : decode cX6_goes 37 = .ok (.iconst 0, 1) := by decide +kernel
theorem dX6_goes_38 : decode cX6_goes 38 = .ok (.ireturn, 1) := by decide +kernel
theorem dX6_go_0 : decode cX6_go 0 = .ok (.iload_n 1, 1) := by decide +kernel
theorem dX6_go_1 : decode cX6_go 1 = .ok (.aload_n 0, 1) := by decide +kernel
theorem dX6_go_2 : decode cX6_go 2 = .ok (.getfield 86, 3) := by decide +kernel
theorem dX6_go_5 : decode cX6_go 5 = .ok (.invokestatic 89, 3) := by decide +kernel
theorem dX6_go_8 : decode cX6_go 8 = .ok (.ifCond .ne 9, 3) := by decide +kernel
theorem dX6_go_11 : decode cX6_go 11 = .ok (.aload_n 0, 1) := by decide +kernel
theorem dX6_go_12 : decode cX6_go 12 = .ok (.iconst (-1), 1) := by decide +kernel
theorem dX6_go_13 : decode cX6_go 13 = .ok (.invokevirtual 93, 3) := by decide +kernel
theorem dX6_go_16 : decode cX6_go 16 = .ok (.ireturn, 1) := by decide +kernel
theorem dX6_go_17 : decode cX6_go 17 = .ok (.aload_n 0, 1) := by decide +kernel
theorem dX6_go_18 : decode cX6_go 18 = .ok (.iload_n 1, 1) := by decide +kernel
theorem dX6_go_19 : decode cX6_go 19 = .ok (.invokevirtual 166, 3) := by decide +kernel
theorem dX6_go_22 : decode cX6_go 22 = .ok (.bipush (-9), 2) := by decide +kernel
theorem dX6_go_24 : decode cX6_go 24 = .ok (.if_icmp .eq 10, 3) := by decide +kernel
theorem dX6_go_27 : decode cX6_go 27 = .ok (.aload_n 0, 1) := by decide +kernel
theorem dX6_go_28 : decode cX6_go 28 = .ok (.bipush (-2), 2) := by decide +kernel
theorem dX6_go_30 : decode cX6_go 30 = .ok (.invokevirtual 93, 3) := by decide +kernel
theorem dX6_go_33 : decode cX6_go 33 = .ok (.ireturn, 1) := by decide +kernel
theorem dX6_go_34 : decode cX6_go 34 = .ok (.iload_n 2, 1) := by decide +kernel
theorem dX6_go_35 : decode cX6_go 35 = .ok (.iconst 1, 1) := by decide +kernel
theorem dX6_go_36 : decode cX6_go 36 = .ok (.if_icmp .ge 10, 3) := by decide +kernel
theorem dX6_go_39 : decode cX6_go 39 = .ok (.aload_n 0, 1) := by decide +kernel
theorem dX6_go_40 : decode cX6_go 40 = .ok (.bipush (-4), 2) := by decide +kernel
theorem dX6_go_42 : decode cX6_go 42 = .ok (.invokevirtual 93, 3) := by decide +kernel
theorem dX6_go_45 : decode cX6_go 45 = .ok (.ireturn, 1) := by decide +kernel
theorem dX6_go_46 : decode cX6_go 46 = .ok (.iload_n 2, 1) := by decide +kernel
theorem dX6_go_47 : decode cX6_go 47 = .ok (.sipush 10000, 3) := by decide +kernel
theorem dX6_go_50 : decode cX6_go 50 = .ok (.if_icmp .le 10, 3) := by decide +kernel
theorem dX6_go_53 : decode cX6_go 53 = .ok (.aload_n 0, 1) := by decide +kernel
theorem dX6_go_54 : decode cX6_go 54 = .ok (.bipush (-6), 2) := by decide +kernel
theorem dX6_go_56 : decode cX6_go 56 = .ok (.invokevirtual 93, 3) := by decide +kernel
theorem dX6_go_59 : decode cX6_go 59 = .ok (.ireturn, 1) := by decide +kernel
theorem dX6_go_60 : decode cX6_go 60 = .ok (.iconst 0, 1) := by decide +kernel
theorem dX6_go_61 : decode cX6_go 61 = .ok (.istore 4, 2) := by decide +kernel
theorem dX6_go_63 : decode cX6_go 63 = .ok (.iload 4, 2) := by decide +kernel
theorem dX6_go_65 : decode cX6_go 65 = .ok (.aload_n 0, 1) := by decide +kernel
theorem dX6_go_66 : decode cX6_go 66 = .ok (.getfield 23, 3) := by decide +kernel
theorem dX6_go_69 : decode cX6_go 69 = .ok (.iload_n 1, 1) := by decide +kernel
theorem dX6_go_70 : decode cX6_go 70 = .ok (.iaload, 1) := by decide +kernel
theorem dX6_go_71 : decode cX6_go 71 = .ok (.if_icmp .ge 53, 3) := by decide +kernel
theorem dX6_go_74 : decode cX6_go 74 = .ok (.aload_n 0, 1) := by decide +kernel
theorem dX6_go_75 : decode cX6_go 75 = .ok (.iload_n 1, 1) := by decide +kernel
theorem dX6_go_76 : decode cX6_go 76 = .ok (.iload 4, 2) := by decide +kernel
theorem dX6_go_78 : decode cX6_go 78 = .ok (.invokestatic 97, 3) := by decide +kernel
theorem dX6_go_81 : decode cX6_go 81 = .ok (.iload_n 3, 1) := by decide +kernel
theorem dX6_go_82 : decode cX6_go 82 = .ok (.invokevirtual 169, 3) := by decide +kernel
theorem dX6_go_85 : decode cX6_go 85 = .ok (.ifCond .eq 33, 3) := by decide +kernel
theorem dX6_go_88 : decode cX6_go 88 = .ok (.aload_n 0, 1) := by decide +kernel
theorem dX6_go_89 : decode cX6_go 89 = .ok (.getfield 47, 3) := by decide +kernel
theorem dX6_go_92 : decode cX6_go 92 = .ok (.aload_n 0, 1) := by decide +kernel
theorem dX6_go_93 : decode cX6_go 93 = .ok (.getfield 29, 3) := by decide +kernel
theorem dX6_go_96 : decode cX6_go 96 = .ok (.iload_n 1, 1) := by decide +kernel
theorem dX6_go_97 : decode cX6_go 97 = .ok (.iload 4, 2) := by decide +kernel
theorem dX6_go_99 : decode cX6_go 99 = .ok (.invokestatic 97, 3) := by decide +kernel
theorem dX6_go_102 : decode cX6_go 102 = .ok (.iaload, 1) := by decide +kernel
theorem dX6_go_103 : decode cX6_go 103 = .ok (.iaload, 1) := by decide +kernel
theorem dX6_go_104 : decode cX6_go 104 = .ok (.iload_n 2, 1) := by decide +kernel
theorem dX6_go_105 : decode cX6_go 105 = .ok (.iadd, 1) := by decide +kernel
theorem dX6_go_106 : decode cX6_go 106 = .ok (.ldc 152, 2) := by decide +kernel
theorem dX6_go_108 : decode cX6_go 108 = .ok (.if_icmp .le 10, 3) := by decide +kernel
theorem dX6_go_111 : decode cX6_go 111 = .ok (.aload_n 0, 1) := by decide +kernel
theorem dX6_go_112 : decode cX6_go 112 = .ok (.bipush (-6), 2) := by decide +kernel
theorem dX6_go_114 : decode cX6_go 114 = .ok (.invokevirtual 93, 3) := by decide +kernel
theorem dX6_go_117 : decode cX6_go 117 = .ok (.ireturn, 1) := by decide +kernel
theorem dX6_go_118 : decode cX6_go 118 = .ok (.iinc 4 1, 3) := by decide +kernel
theorem dX6_go_121 : decode cX6_go 121 = .ok (.goto (-58), 3) := by decide +kernel
theorem dX6_go_124 : decode cX6_go 124 = .ok (.iconst 0, 1) := by decide +kernel
theorem dX6_go_125 : decode cX6_go 125 = .ok (.istore 4, 2) := by decide +kernel
theorem dX6_go_127 : decode cX6_go 127 = .ok (.iload 4, 2) := by decide +kernel
theorem dX6_go_129 : decode cX6_go 129 = .ok (.aload_n 0, 1) := by decide +kernel
theorem dX6_go_130 : decode cX6_go 130 = .ok (.getfield 23, 3) := by decide +kernel
theorem dX6_go_133 : decode cX6_go 133 = .ok (.iload_n 1, 1) := by decide +kernel
theorem dX6_go_134 : decode cX6_go 134 = .ok (.iaload, 1) := by decide +kernel
theorem dX6_go_135 : decode cX6_go 135 = .ok (.if_icmp .ge 43, 3) := by decide +kernel
theorem dX6_go_138 : decode cX6_go 138 = .ok (.aload_n 0, 1) := by decide +kernel
theorem dX6_go_139 : decode cX6_go 139 = .ok (.iload_n 1, 1) := by decide +kernel
theorem dX6_go_140 : decode cX6_go 140 = .ok (.iload 4, 2) := by decide +kernel
theorem dX6_go_142 : decode cX6_go 142 = .ok (.invokestatic 97, 3) := by decide +kernel
theorem dX6_go_145 : decode cX6_go 145 = .ok (.iload_n 3, 1) := by decide +kernel
theorem dX6_go_146 : decode cX6_go 146 = .ok (.invokevirtual 169, 3) := by decide +kernel
theorem dX6_go_149 : decode cX6_go 149 = .ok (.ifCond .eq 23, 3) := by decide +kernel
theorem dX6_go_152 : decode cX6_go 152 = .ok (.aload_n 0, 1) := by decide +kernel
theorem dX6_go_153 : decode cX6_go 153 = .ok (.getfield 47, 3) := by decide +kernel
theorem dX6_go_156 : decode cX6_go 156 = .ok (.aload_n 0, 1) := by decide +kernel
theorem dX6_go_157 : decode cX6_go 157 = .ok (.getfield 29, 3) := by decide +kernel
theorem dX6_go_160 : decode cX6_go 160 = .ok (.iload_n 1, 1) := by decide +kernel
theorem dX6_go_161 : decode cX6_go 161 = .ok (.iload 4, 2) := by decide +kernel
theorem dX6_go_163 : decode cX6_go 163 = .ok (.invokestatic 97, 3) := by decide +kernel
theorem dX6_go_166 : decode cX6_go 166 = .ok (.iaload, 1) := by decide +kernel
theorem dX6_go_167 : decode cX6_go 167 = .ok (.dup2, 1) := by decide +kernel
theorem dX6_go_168 : decode cX6_go 168 = .ok (.iaload, 1) := by decide +kernel
theorem dX6_go_169 : decode cX6_go 169 = .ok (.iload_n 2, 1) := by decide +kernel
theorem dX6_go_170 : decode cX6_go 170 = .ok (.iadd, 1) := by decide +kernel
theorem dX6_go_171 : decode cX6_go 171 = .ok (.iastore, 1) := by decide +kernel
theorem dX6_go_172 : decode cX6_go 172 = .ok (.iinc 4 1, 3) := by decide +kernel
theorem dX6_go_175 : decode cX6_go 175 = .ok (.goto (-48), 3) := by decide +kernel
theorem dX6_go_178 : decode cX6_go 178 = .ok (.aload_n 0, 1) := by decide +kernel
theorem dX6_go_179 : decode cX6_go 179 = .ok (.iload_n 1, 1) := by decide +kernel
theorem dX6_go_180 : decode cX6_go 180 = .ok (.invokevirtual 173, 3) := by decide +kernel
theorem dX6_go_183 : decode cX6_go 183 = .ok (.ireturn, 1) := by decide +kernel
theorem dX6_why_0 : decode cX6_why 0 = .ok (.iload_n 1, 1) := by decide +kernel
theorem dX6_why_1 : decode cX6_why 1 = .ok (.aload_n 0, 1) := by decide +kernel
theorem dX6_why_2 : decode cX6_why 2 = .ok (.getfield 86, 3) := by decide +kernel
theorem dX6_why_5 : decode cX6_why 5 = .ok (.invokestatic 89, 3) := by decide +kernel
theorem dX6_why_8 : decode cX6_why 8 = .ok (.ifCond .eq 11, 3) := by decide +kernel
theorem dX6_why_11 : decode cX6_why 11 = .ok (.aload_n 0, 1) := by decide +kernel
theorem dX6_why_12 : decode cX6_why 12 = .ok (.iload_n 1, 1) := by decide +kernel
theorem dX6_why_13 : decode cX6_why 13 = .ok (.invokevirtual 166, 3) := by decide +kernel
theorem dX6_why_16 : decode cX6_why 16 = .ok (.goto 8, 3) := by decide +kernel
theorem dX6_why_19 : decode cX6_why 19 = .ok (.aload_n 0, 1) := by decide +kernel
theorem dX6_why_20 : decode cX6_why 20 = .ok (.iconst (-1), 1) := by decide +kernel
theorem dX6_why_21 : decode cX6_why 21 = .ok (.invokevirtual 93, 3) := by decide +kernel
theorem dX6_why_24 : decode cX6_why 24 = .ok (.ireturn, 1) := by decide +kernel
theorem dX6_far_0 : decode cX6_far 0 = .ok (.iload_n 1, 1) := by decide +kernel
theorem dX6_far_1 : decode cX6_far 1 = .ok (.aload_n 0, 1) := by decide +kernel
theorem dX6_far_2 : decode cX6_far 2 = .ok (.getfield 86, 3) := by decide +kernel
theorem dX6_far_5 : decode cX6_far 5 = .ok (.invokestatic 89, 3) := by decide +kernel
theorem dX6_far_8 : decode cX6_far 8 = .ok (.ifCond .eq 11, 3) := by decide +kernel
theorem dX6_far_11 : decode cX6_far 11 = .ok (.aload_n 0, 1) := by decide +kernel
theorem dX6_far_12 : decode cX6_far 12 = .ok (.iload_n 1, 1) := by decide +kernel
theorem dX6_far_13 : decode cX6_far 13 = .ok (.invokevirtual 173, 3) := by decide +kernel
theorem dX6_far_16 : decode cX6_far 16 = .ok (.goto 8, 3) := by decide +kernel
theorem dX6_far_19 : decode cX6_far 19 = .ok (.aload_n 0, 1) := by decide +kernel
theorem dX6_far_20 : decode cX6_far 20 = .ok (.iconst (-1), 1) := by decide +kernel
theorem dX6_far_21 : decode cX6_far 21 = .ok (.invokevirtual 93, 3) := by decide +kernel
theorem dX6_far_24 : decode cX6_far 24 = .ok (.ireturn, 1) := by decide +kernel
theorem dX6_tries_0 : decode cX6_tries 0 = .ok (.aload_n 0, 1) := by decide +kernel
theorem dX6_tries_1 : decode cX6_tries 1 = .ok (.iconst 0, 1) := by decide +kernel
theorem dX6_tries_2 : decode cX6_tries 2 = .ok (.putfield 176, 3) := by decide +kernel
theorem dX6_tries_5 : decode cX6_tries 5 = .ok (.iconst 0, 1) := by decide +kernel
theorem dX6_tries_6 : decode cX6_tries 6 = .ok (.istore_n 2, 1) := by decide +kernel
theorem dX6_tries_7 : decode cX6_tries 7 = .ok (.iload_n 2, 1) := by decide +kernel
theorem dX6_tries_8 : decode cX6_tries 8 = .ok (.aload_n 0, 1) := by decide +kernel
theorem dX6_tries_9 : decode cX6_tries 9 = .ok (.getfield 107, 3) := by decide +kernel
theorem dX6_tries_12 : decode cX6_tries 12 = .ok (.if_icmp .ge 124, 3) := by decide +kernel
end
section
theorem dX6_tries_15 : decode cX6_tries 15 = .ok (.iconst 0, 1) := by decide +kernel
theorem dX6_tries_16 : decode cX6_tries 16 = .ok (.istore_n 3, 1) := by decide +kernel
theorem dX6_tries_17 : decode cX6_tries 17 = .ok (.iconst 0, 1) := by decide +kernel
theorem dX6_tries_18 : decode cX6_tries 18 = .ok (.istore 4, 2) := by decide +kernel
theorem dX6_tries_20 : decode cX6_tries 20 = .ok (.iload 4, 2) := by decide +kernel
theorem dX6_tries_22 : decode cX6_tries 22 = .ok (.aload_n 0, 1) := by decide +kernel
theorem dX6_tries_23 : decode cX6_tries 23 = .ok (.getfield 23, 3) := by decide +kernel
theorem dX6_tries_26 : decode cX6_tries 26 = .ok (.iload_n 1, 1) := by decide +kernel
theorem dX6_tries_27 : decode cX6_tries 27 = .ok (.iaload, 1) := by decide +kernel
theorem dX6_tries_28 : decode cX6_tries 28 = .ok (.if_icmp .ge 34, 3) := by decide +kernel
theorem dX6_tries_31 : decode cX6_tries 31 = .ok (.iload_n 3, 1) := by decide +kernel
theorem dX6_tries_32 : decode cX6_tries 32 = .ok (.ifCond .ne 18, 3) := by decide +kernel
theorem dX6_tries_35 : decode cX6_tries 35 = .ok (.aload_n 0, 1) := by decide +kernel
theorem dX6_tries_36 : decode cX6_tries 36 = .ok (.getfield 29, 3) := by decide +kernel
theorem dX6_tries_39 : decode cX6_tries 39 = .ok (.iload_n 1, 1) := by decide +kernel
theorem dX6_tries_40 : decode cX6_tries 40 = .ok (.iload 4, 2) := by decide +kernel
theorem dX6_tries_42 : decode cX6_tries 42 = .ok (.invokestatic 97, 3) := by decide +kernel
theorem dX6_tries_45 : decode cX6_tries 45 = .ok (.iaload, 1) := by decide +kernel
theorem dX6_tries_46 : decode cX6_tries 46 = .ok (.iload_n 2, 1) := by decide +kernel
theorem dX6_tries_47 : decode cX6_tries 47 = .ok (.if_icmp .ne 7, 3) := by decide +kernel
theorem dX6_tries_50 : decode cX6_tries 50 = .ok (.iconst 1, 1) := by decide +kernel
theorem dX6_tries_51 : decode cX6_tries 51 = .ok (.goto 4, 3) := by decide +kernel
theorem dX6_tries_54 : decode cX6_tries 54 = .ok (.iconst 0, 1) := by decide +kernel
theorem dX6_tries_55 : decode cX6_tries 55 = .ok (.istore_n 3, 1) := by decide +kernel
theorem dX6_tries_56 : decode cX6_tries 56 = .ok (.iinc 4 1, 3) := by decide +kernel
theorem dX6_tries_59 : decode cX6_tries 59 = .ok (.goto (-39), 3) := by decide +kernel
theorem dX6_tries_62 : decode cX6_tries 62 = .ok (.iload_n 3, 1) := by decide +kernel
theorem dX6_tries_63 : decode cX6_tries 63 = .ok (.ifCond .ne 6, 3) := by decide +kernel
theorem dX6_tries_66 : decode cX6_tries 66 = .ok (.goto 64, 3) := by decide +kernel
theorem dX6_tries_69 : decode cX6_tries 69 = .ok (.aload_n 0, 1) := by decide +kernel
theorem dX6_tries_70 : decode cX6_tries 70 = .ok (.getfield 74, 3) := by decide +kernel
theorem dX6_tries_73 : decode cX6_tries 73 = .ok (.aload_n 0, 1) := by decide +kernel
theorem dX6_tries_74 : decode cX6_tries 74 = .ok (.getfield 176, 3) := by decide +kernel
theorem dX6_tries_77 : decode cX6_tries 77 = .ok (.iload_n 2, 1) := by decide +kernel
theorem dX6_tries_78 : decode cX6_tries 78 = .ok (.iastore, 1) := by decide +kernel
theorem dX6_tries_79 : decode cX6_tries 79 = .ok (.iconst 0, 1) := by decide +kernel
theorem dX6_tries_80 : decode cX6_tries 80 = .ok (.istore 4, 2) := by decide +kernel
theorem dX6_tries_82 : decode cX6_tries 82 = .ok (.iload 4, 2) := by decide +kernel
theorem dX6_tries_84 : decode cX6_tries 84 = .ok (.iconst 5, 1) := by decide +kernel
theorem dX6_tries_85 : decode cX6_tries 85 = .ok (.if_icmp .ge 35, 3) := by decide +kernel
theorem dX6_tries_88 : decode cX6_tries 88 = .ok (.aload_n 0, 1) := by decide +kernel
theorem dX6_tries_89 : decode cX6_tries 89 = .ok (.getfield 83, 3) := by decide +kernel
theorem dX6_tries_92 : decode cX6_tries 92 = .ok (.iconst 5, 1) := by decide +kernel
theorem dX6_tries_93 : decode cX6_tries 93 = .ok (.aload_n 0, 1) := by decide +kernel
theorem dX6_tries_94 : decode cX6_tries 94 = .ok (.getfield 176, 3) := by decide +kernel
theorem dX6_tries_97 : decode cX6_tries 97 = .ok (.imul, 1) := by decide +kernel
theorem dX6_tries_98 : decode cX6_tries 98 = .ok (.iload 4, 2) := by decide +kernel
theorem dX6_tries_100 : decode cX6_tries 100 = .ok (.iadd, 1) := by decide +kernel
theorem dX6_tries_101 : decode cX6_tries 101 = .ok (.aload_n 0, 1) := by decide +kernel
theorem dX6_tries_102 : decode cX6_tries 102 = .ok (.iload_n 2, 1) := by decide +kernel
theorem dX6_tries_103 : decode cX6_tries 103 = .ok (.aload_n 0, 1) := by decide +kernel
theorem dX6_tries_104 : decode cX6_tries 104 = .ok (.getfield 13, 3) := by decide +kernel
theorem dX6_tries_107 : decode cX6_tries 107 = .ok (.iload 4, 2) := by decide +kernel
theorem dX6_tries_109 : decode cX6_tries 109 = .ok (.iaload, 1) := by decide +kernel
theorem dX6_tries_110 : decode cX6_tries 110 = .ok (.invokevirtual 161, 3) := by decide +kernel
theorem dX6_tries_113 : decode cX6_tries 113 = .ok (.iastore, 1) := by decide +kernel
theorem dX6_tries_114 : decode cX6_tries 114 = .ok (.iinc 4 1, 3) := by decide +kernel
theorem dX6_tries_117 : decode cX6_tries 117 = .ok (.goto (-35), 3) := by decide +kernel
theorem dX6_tries_120 : decode cX6_tries 120 = .ok (.aload_n 0, 1) := by decide +kernel
theorem dX6_tries_121 : decode cX6_tries 121 = .ok (.dup, 1) := by decide +kernel
theorem dX6_tries_122 : decode cX6_tries 122 = .ok (.getfield 176, 3) := by decide +kernel
theorem dX6_tries_125 : decode cX6_tries 125 = .ok (.iconst 1, 1) := by decide +kernel
theorem dX6_tries_126 : decode cX6_tries 126 = .ok (.iadd, 1) := by decide +kernel
theorem dX6_tries_127 : decode cX6_tries 127 = .ok (.putfield 176, 3) := by decide +kernel
theorem dX6_tries_130 : decode cX6_tries 130 = .ok (.iinc 2 1, 3) := by decide +kernel
theorem dX6_tries_133 : decode cX6_tries 133 = .ok (.goto (-126), 3) := by decide +kernel
theorem dX6_tries_136 : decode cX6_tries 136 = .ok (.aload_n 0, 1) := by decide +kernel
theorem dX6_tries_137 : decode cX6_tries 137 = .ok (.iconst (-1), 1) := by decide +kernel
theorem dX6_tries_138 : decode cX6_tries 138 = .ok (.putfield 179, 3) := by decide +kernel
theorem dX6_tries_141 : decode cX6_tries 141 = .ok (.aload_n 0, 1) := by decide +kernel
theorem dX6_tries_142 : decode cX6_tries 142 = .ok (.getfield 176, 3) := by decide +kernel
theorem dX6_tries_145 : decode cX6_tries 145 = .ok (.ifCond .le 13, 3) := by decide +kernel
theorem dX6_tries_148 : decode cX6_tries 148 = .ok (.aload_n 0, 1) := by decide +kernel
theorem dX6_tries_149 : decode cX6_tries 149 = .ok (.iload_n 1, 1) := by decide +kernel
theorem dX6_tries_150 : decode cX6_tries 150 = .ok (.iconst 0, 1) := by decide +kernel
theorem dX6_tries_151 : decode cX6_tries 151 = .ok (.iconst 0, 1) := by decide +kernel
theorem dX6_tries_152 : decode cX6_tries 152 = .ok (.ldc 152, 2) := by decide +kernel
theorem dX6_tries_154 : decode cX6_tries 154 = .ok (.iconst 0, 1) := by decide +kernel
theorem dX6_tries_155 : decode cX6_tries 155 = .ok (.invokevirtual 182, 3) := by decide +kernel
theorem dX6_tries_158 : decode cX6_tries 158 = .ok (.aload_n 0, 1) := by decide +kernel
theorem dX6_tries_159 : decode cX6_tries 159 = .ok (.getfield 179, 3) := by decide +kernel
theorem dX6_tries_162 : decode cX6_tries 162 = .ok (.ifCond .lt 7, 3) := by decide +kernel
theorem dX6_tries_165 : decode cX6_tries 165 = .ok (.iconst 1, 1) := by decide +kernel
theorem dX6_tries_166 : decode cX6_tries 166 = .ok (.goto 4, 3) := by decide +kernel
theorem dX6_tries_169 : decode cX6_tries 169 = .ok (.iconst 0, 1) := by decide +kernel
theorem dX6_tries_170 : decode cX6_tries 170 = .ok (.ireturn, 1) := by decide +kernel
theorem dX6_lay_0 : decode cX6_lay 0 = .ok (.iload_n 2, 1) := by decide +kernel
theorem dX6_lay_1 : decode cX6_lay 1 = .ok (.aload_n 0, 1) := by decide +kernel
theorem dX6_lay_2 : decode cX6_lay 2 = .ok (.getfield 23, 3) := by decide +kernel
theorem dX6_lay_5 : decode cX6_lay 5 = .ok (.iload_n 1, 1) := by decide +kernel
theorem dX6_lay_6 : decode cX6_lay 6 = .ok (.iaload, 1) := by decide +kernel
theorem dX6_lay_7 : decode cX6_lay 7 = .ok (.if_icmp .ne 85, 3) := by decide +kernel
theorem dX6_lay_10 : decode cX6_lay 10 = .ok (.iload_n 3, 1) := by decide +kernel
theorem dX6_lay_11 : decode cX6_lay 11 = .ok (.iconst 1, 1) := by decide +kernel
theorem dX6_lay_12 : decode cX6_lay 12 = .ok (.aload_n 0, 1) := by decide +kernel
theorem dX6_lay_13 : decode cX6_lay 13 = .ok (.getfield 176, 3) := by decide +kernel
theorem dX6_lay_16 : decode cX6_lay 16 = .ok (.ishl, 1) := by decide +kernel
theorem dX6_lay_17 : decode cX6_lay 17 = .ok (.iconst 1, 1) := by decide +kernel
theorem dX6_lay_18 : decode cX6_lay 18 = .ok (.isub, 1) := by decide +kernel
theorem dX6_lay_19 : decode cX6_lay 19 = .ok (.if_icmp .ne 30, 3) := by decide +kernel
theorem dX6_lay_22 : decode cX6_lay 22 = .ok (.iload 4, 2) := by decide +kernel
theorem dX6_lay_24 : decode cX6_lay 24 = .ok (.aload_n 0, 1) := by decide +kernel
theorem dX6_lay_25 : decode cX6_lay 25 = .ok (.getfield 179, 3) := by decide +kernel
theorem dX6_lay_28 : decode cX6_lay 28 = .ok (.if_icmp .lt 21, 3) := by decide +kernel
theorem dX6_lay_31 : decode cX6_lay 31 = .ok (.iload 4, 2) := by decide +kernel
theorem dX6_lay_33 : decode cX6_lay 33 = .ok (.aload_n 0, 1) := by decide +kernel
theorem dX6_lay_34 : decode cX6_lay 34 = .ok (.getfield 179, 3) := by decide +kernel
theorem dX6_lay_37 : decode cX6_lay 37 = .ok (.if_icmp .ne 13, 3) := by decide +kernel
theorem dX6_lay_40 : decode cX6_lay 40 = .ok (.iload 5, 2) := by decide +kernel
theorem dX6_lay_42 : decode cX6_lay 42 = .ok (.aload_n 0, 1) := by decide +kernel
theorem dX6_lay_43 : decode cX6_lay 43 = .ok (.getfield 186, 3) := by decide +kernel
theorem dX6_lay_46 : decode cX6_lay 46 = .ok (.if_icmp .lt 4, 3) := by decide +kernel
theorem dX6_lay_49 : decode cX6_lay 49 = .ok (.return_, 1) := by decide +kernel
theorem dX6_lay_50 : decode cX6_lay 50 = .ok (.aload_n 0, 1) := by decide +kernel
theorem dX6_lay_51 : decode cX6_lay 51 = .ok (.iload 4, 2) := by decide +kernel
theorem dX6_lay_53 : decode cX6_lay 53 = .ok (.putfield 179, 3) := by decide +kernel
theorem dX6_lay_56 : decode cX6_lay 56 = .ok (.aload_n 0, 1) := by decide +kernel
theorem dX6_lay_57 : decode cX6_lay 57 = .ok (.iload 5, 2) := by decide +kernel
theorem dX6_lay_59 : decode cX6_lay 59 = .ok (.putfield 186, 3) := by decide +kernel
theorem dX6_lay_62 : decode cX6_lay 62 = .ok (.iconst 0, 1) := by decide +kernel
theorem dX6_lay_63 : decode cX6_lay 63 = .ok (.istore 6, 2) := by decide +kernel
theorem dX6_lay_65 : decode cX6_lay 65 = .ok (.iload 6, 2) := by decide +kernel
theorem dX6_lay_67 : decode cX6_lay 67 = .ok (.iload_n 2, 1) := by decide +kernel
theorem dX6_lay_68 : decode cX6_lay 68 = .ok (.if_icmp .ge 23, 3) := by decide +kernel
theorem dX6_lay_71 : decode cX6_lay 71 = .ok (.aload_n 0, 1) := by decide +kernel
theorem dX6_lay_72 : decode cX6_lay 72 = .ok (.getfield 80, 3) := by decide +kernel
theorem dX6_lay_75 : decode cX6_lay 75 = .ok (.iload 6, 2) := by decide +kernel
theorem dX6_lay_77 : decode cX6_lay 77 = .ok (.aload_n 0, 1) := by decide +kernel
theorem dX6_lay_78 : decode cX6_lay 78 = .ok (.getfield 77, 3) := by decide +kernel
theorem dX6_lay_81 : decode cX6_lay 81 = .ok (.iload 6, 2) := by decide +kernel
theorem dX6_lay_83 : decode cX6_lay 83 = .ok (.iaload, 1) := by decide +kernel
theorem dX6_lay_84 : decode cX6_lay 84 = .ok (.iastore, 1) := by decide +kernel
theorem dX6_lay_85 : decode cX6_lay 85 = .ok (.iinc 6 1, 3) := by decide +kernel
theorem dX6_lay_88 : decode cX6_lay 88 = .ok (.goto (-23), 3) := by decide +kernel
theorem dX6_lay_91 : decode cX6_lay 91 = .ok (.return_, 1) := by decide +kernel
theorem dX6_lay_92 : decode cX6_lay 92 = .ok (.iload_n 1, 1) := by decide +kernel
theorem dX6_lay_93 : decode cX6_lay 93 = .ok (.iload_n 2, 1) := by decide +kernel
theorem dX6_lay_94 : decode cX6_lay 94 = .ok (.invokestatic 97, 3) := by decide +kernel
theorem dX6_lay_97 : decode cX6_lay 97 = .ok (.istore 6, 2) := by decide +kernel
theorem dX6_lay_99 : decode cX6_lay 99 = .ok (.iconst 0, 1) := by decide +kernel
theorem dX6_lay_100 : decode cX6_lay 100 = .ok (.istore 7, 2) := by decide +kernel
theorem dX6_lay_102 : decode cX6_lay 102 = .ok (.iload 7, 2) := by decide +kernel
theorem dX6_lay_104 : decode cX6_lay 104 = .ok (.aload_n 0, 1) := by decide +kernel
theorem dX6_lay_105 : decode cX6_lay 105 = .ok (.getfield 176, 3) := by decide +kernel
theorem dX6_lay_108 : decode cX6_lay 108 = .ok (.if_icmp .ge 137, 3) := by decide +kernel
theorem dX6_lay_111 : decode cX6_lay 111 = .ok (.iload_n 3, 1) := by decide +kernel
theorem dX6_lay_112 : decode cX6_lay 112 = .ok (.iload 7, 2) := by decide +kernel
theorem dX6_lay_114 : decode cX6_lay 114 = .ok (.ishr, 1) := by decide +kernel
theorem dX6_lay_115 : decode cX6_lay 115 = .ok (.iconst 1, 1) := by decide +kernel
theorem dX6_lay_116 : decode cX6_lay 116 = .ok (.iand, 1) := by decide +kernel
theorem dX6_lay_117 : decode cX6_lay 117 = .ok (.iconst 1, 1) := by decide +kernel
theorem dX6_lay_118 : decode cX6_lay 118 = .ok (.if_icmp .eq 121, 3) := by decide +kernel
theorem dX6_lay_121 : decode cX6_lay 121 = .ok (.aload_n 0, 1) := by decide +kernel
theorem dX6_lay_122 : decode cX6_lay 122 = .ok (.getfield 26, 3) := by decide +kernel
theorem dX6_lay_125 : decode cX6_lay 125 = .ok (.iload 6, 2) := by decide +kernel
theorem dX6_lay_127 : decode cX6_lay 127 = .ok (.iaload, 1) := by decide +kernel
theorem dX6_lay_128 : decode cX6_lay 128 = .ok (.ifCond .ne 21, 3) := by decide +kernel
theorem dX6_lay_131 : decode cX6_lay 131 = .ok (.aload_n 0, 1) := by decide +kernel
theorem dX6_lay_132 : decode cX6_lay 132 = .ok (.getfield 41, 3) := by decide +kernel
theorem dX6_lay_135 : decode cX6_lay 135 = .ok (.aload_n 0, 1) := by decide +kernel
theorem dX6_lay_136 : decode cX6_lay 136 = .ok (.getfield 74, 3) := by decide +kernel
theorem dX6_lay_139 : decode cX6_lay 139 = .ok (.iload 7, 2) := by decide +kernel
theorem dX6_lay_141 : decode cX6_lay 141 = .ok (.iaload, 1) := by decide +kernel
theorem dX6_lay_142 : decode cX6_lay 142 = .ok (.iaload, 1) := by decide +kernel
theorem dX6_lay_143 : decode cX6_lay 143 = .ok (.ifCond .le 6, 3) := by decide +kernel
theorem dX6_lay_146 : decode cX6_lay 146 = .ok (.goto 93, 3) := by decide +kernel
theorem dX6_lay_149 : decode cX6_lay 149 = .ok (.aload_n 0, 1) := by decide +kernel
theorem dX6_lay_150 : decode cX6_lay 150 = .ok (.getfield 77, 3) := by decide +kernel
theorem dX6_lay_153 : decode cX6_lay 153 = .ok (.iload_n 2, 1) := by decide +kernel
theorem dX6_lay_154 : decode cX6_lay 154 = .ok (.aload_n 0, 1) := by decide +kernel
theorem dX6_lay_155 : decode cX6_lay 155 = .ok (.getfield 74, 3) := by decide +kernel
theorem dX6_lay_158 : decode cX6_lay 158 = .ok (.iload 7, 2) := by decide +kernel
theorem dX6_lay_160 : decode cX6_lay 160 = .ok (.iaload, 1) := by decide +kernel
theorem dX6_lay_161 : decode cX6_lay 161 = .ok (.iastore, 1) := by decide +kernel
theorem dX6_lay_162 : decode cX6_lay 162 = .ok (.aload_n 0, 1) := by decide +kernel
theorem dX6_lay_163 : decode cX6_lay 163 = .ok (.iload_n 1, 1) := by decide +kernel
theorem dX6_lay_164 : decode cX6_lay 164 = .ok (.iload_n 2, 1) := by decide +kernel
theorem dX6_lay_165 : decode cX6_lay 165 = .ok (.iconst 1, 1) := by decide +kernel
theorem dX6_lay_166 : decode cX6_lay 166 = .ok (.iadd, 1) := by decide +kernel
theorem dX6_lay_167 : decode cX6_lay 167 = .ok (.iload_n 3, 1) := by decide +kernel
theorem dX6_lay_168 : decode cX6_lay 168 = .ok (.iconst 1, 1) := by decide +kernel
theorem dX6_lay_169 : decode cX6_lay 169 = .ok (.iload 7, 2) := by decide +kernel
theorem dX6_lay_171 : decode cX6_lay 171 = .ok (.ishl, 1) := by decide +kernel
theorem dX6_lay_172 : decode cX6_lay 172 = .ok (.ior, 1) := by decide +kernel
theorem dX6_lay_173 : decode cX6_lay 173 = .ok (.aload_n 0, 1) := by decide +kernel
theorem dX6_lay_174 : decode cX6_lay 174 = .ok (.getfield 26, 3) := by decide +kernel
theorem dX6_lay_177 : decode cX6_lay 177 = .ok (.iload 6, 2) := by decide +kernel
theorem dX6_lay_179 : decode cX6_lay 179 = .ok (.iaload, 1) := by decide +kernel
theorem dX6_lay_180 : decode cX6_lay 180 = .ok (.iconst 4, 1) := by decide +kernel
theorem dX6_lay_181 : decode cX6_lay 181 = .ok (.if_icmp .ne 8, 3) := by decide +kernel
theorem dX6_lay_184 : decode cX6_lay 184 = .ok (.iload 4, 2) := by decide +kernel
theorem dX6_lay_186 : decode cX6_lay 186 = .ok (.goto 25, 3) := by decide +kernel
theorem dX6_lay_189 : decode cX6_lay 189 = .ok (.iload 4, 2) := by decide +kernel
theorem dX6_lay_191 : decode cX6_lay 191 = .ok (.aload_n 0, 1) := by decide +kernel
theorem dX6_lay_192 : decode cX6_lay 192 = .ok (.getfield 83, 3) := by decide +kernel
theorem dX6_lay_195 : decode cX6_lay 195 = .ok (.iconst 5, 1) := by decide +kernel
theorem dX6_lay_196 : decode cX6_lay 196 = .ok (.iload 7, 2) := by decide +kernel
theorem dX6_lay_198 : decode cX6_lay 198 = .ok (.imul, 1) := by decide +kernel
theorem dX6_lay_199 : decode cX6_lay 199 = .ok (.aload_n 0, 1) := by decide +kernel
theorem dX6_lay_200 : decode cX6_lay 200 = .ok (.getfield 26, 3) := by decide +kernel
theorem dX6_lay_203 : decode cX6_lay 203 = .ok (.iload 6, 2) := by decide +kernel
theorem dX6_lay_205 : decode cX6_lay 205 = .ok (.iaload, 1) := by decide +kernel
theorem dX6_lay_206 : decode cX6_lay 206 = .ok (.iadd, 1) := by decide +kernel
theorem dX6_lay_207 : decode cX6_lay 207 = .ok (.iaload, 1) := by decide +kernel
theorem dX6_lay_208 : decode cX6_lay 208 = .ok (.invokestatic 164, 3) := by decide +kernel
theorem dX6_lay_211 : decode cX6_lay 211 = .ok (.iload 5, 2) := by decide +kernel
theorem dX6_lay_213 : decode cX6_lay 213 = .ok (.aload_n 0, 1) := by decide +kernel
theorem dX6_lay_214 : decode cX6_lay 214 = .ok (.getfield 29, 3) := by decide +kernel
theorem dX6_lay_217 : decode cX6_lay 217 = .ok (.iload 6, 2) := by decide +kernel
theorem dX6_lay_219 : decode cX6_lay 219 = .ok (.iaload, 1) := by decide +kernel
theorem dX6_lay_220 : decode cX6_lay 220 = .ok (.aload_n 0, 1) := by decide +kernel
theorem dX6_lay_221 : decode cX6_lay 221 = .ok (.getfield 74, 3) := by decide +kernel
theorem dX6_lay_224 : decode cX6_lay 224 = .ok (.iload 7, 2) := by decide +kernel
theorem dX6_lay_226 : decode cX6_lay 226 = .ok (.iaload, 1) := by decide +kernel
theorem dX6_lay_227 : decode cX6_lay 227 = .ok (.if_icmp .ne 7, 3) := by decide +kernel
theorem dX6_lay_230 : decode cX6_lay 230 = .ok (.iconst 0, 1) := by decide +kernel
theorem dX6_lay_231 : decode cX6_lay 231 = .ok (.goto 4, 3) := by decide +kernel
theorem dX6_lay_234 : decode cX6_lay 234 = .ok (.iconst 1, 1) := by decide +kernel
theorem dX6_lay_235 : decode cX6_lay 235 = .ok (.iadd, 1) := by decide +kernel
theorem dX6_lay_236 : decode cX6_lay 236 = .ok (.invokevirtual 182, 3) := by decide +kernel
theorem dX6_lay_239 : decode cX6_lay 239 = .ok (.iinc 7 1, 3) := by decide +kernel
theorem dX6_lay_242 : decode cX6_lay 242 = .ok (.goto (-140), 3) := by decide +kernel
theorem dX6_lay_245 : decode cX6_lay 245 = .ok (.aload_n 0, 1) := by decide +kernel
theorem dX6_lay_246 : decode cX6_lay 246 = .ok (.getfield 29, 3) := by decide +kernel
theorem dX6_lay_249 : decode cX6_lay 249 = .ok (.iload 6, 2) := by decide +kernel
theorem dX6_lay_251 : decode cX6_lay 251 = .ok (.iaload, 1) := by decide +kernel
theorem dX6_lay_252 : decode cX6_lay 252 = .ok (.ifCond .lt 15, 3) := by decide +kernel
theorem dX6_lay_255 : decode cX6_lay 255 = .ok (.aload_n 0, 1) := by decide +kernel
theorem dX6_lay_256 : decode cX6_lay 256 = .ok (.getfield 26, 3) := by decide +kernel
theorem dX6_lay_259 : decode cX6_lay 259 = .ok (.iload 6, 2) := by decide +kernel
theorem dX6_lay_261 : decode cX6_lay 261 = .ok (.iaload, 1) := by decide +kernel
theorem dX6_lay_262 : decode cX6_lay 262 = .ok (.iconst 4, 1) := by decide +kernel
theorem dX6_lay_263 : decode cX6_lay 263 = .ok (.if_icmp .eq 4, 3) := by decide +kernel
theorem dX6_lay_266 : decode cX6_lay 266 = .ok (.return_, 1) := by decide +kernel
theorem dX6_lay_267 : decode cX6_lay 267 = .ok (.aload_n 0, 1) := by decide +kernel
theorem dX6_lay_268 : decode cX6_lay 268 = .ok (.getfield 77, 3) := by decide +kernel
theorem dX6_lay_271 : decode cX6_lay 271 = .ok (.iload_n 2, 1) := by decide +kernel
theorem dX6_lay_272 : decode cX6_lay 272 = .ok (.iconst (-1), 1) := by decide +kernel
theorem dX6_lay_273 : decode cX6_lay 273 = .ok (.iastore, 1) := by decide +kernel
theorem dX6_lay_274 : decode cX6_lay 274 = .ok (.aload_n 0, 1) := by decide +kernel
theorem dX6_lay_275 : decode cX6_lay 275 = .ok (.iload_n 1, 1) := by decide +kernel
theorem dX6_lay_276 : decode cX6_lay 276 = .ok (.iload_n 2, 1) := by decide +kernel
theorem dX6_lay_277 : decode cX6_lay 277 = .ok (.iconst 1, 1) := by decide +kernel
theorem dX6_lay_278 : decode cX6_lay 278 = .ok (.iadd, 1) := by decide +kernel
theorem dX6_lay_279 : decode cX6_lay 279 = .ok (.iload_n 3, 1) := by decide +kernel
theorem dX6_lay_280 : decode cX6_lay 280 = .ok (.iload 4, 2) := by decide +kernel
theorem dX6_lay_282 : decode cX6_lay 282 = .ok (.iload 5, 2) := by decide +kernel
theorem dX6_lay_284 : decode cX6_lay 284 = .ok (.invokevirtual 182, 3) := by decide +kernel
theorem dX6_lay_287 : decode cX6_lay 287 = .ok (.return_, 1) := by decide +kernel
theorem dX6_best_0 : decode cX6_best 0 = .ok (.iload_n 1, 1) := by decide +kernel
theorem dX6_best_1 : decode cX6_best 1 = .ok (.aload_n 0, 1) := by decide +kernel
theorem dX6_best_2 : decode cX6_best 2 = .ok (.getfield 86, 3) := by decide +kernel
theorem dX6_best_5 : decode cX6_best 5 = .ok (.invokestatic 89, 3) := by decide +kernel
theorem dX6_best_8 : decode cX6_best 8 = .ok (.ifCond .ne 9, 3) := by decide +kernel
theorem dX6_best_11 : decode cX6_best 11 = .ok (.aload_n 0, 1) := by decide +kernel
theorem dX6_best_12 : decode cX6_best 12 = .ok (.iconst (-1), 1) := by decide +kernel
theorem dX6_best_13 : decode cX6_best 13 = .ok (.invokevirtual 93, 3) := by decide +kernel
theorem dX6_best_16 : decode cX6_best 16 = .ok (.ireturn, 1) := by decide +kernel
theorem dX6_best_17 : decode cX6_best 17 = .ok (.aload_n 0, 1) := by decide +kernel
theorem dX6_best_18 : decode cX6_best 18 = .ok (.iload_n 1, 1) := by decide +kernel
theorem dX6_best_19 : decode cX6_best 19 = .ok (.invokevirtual 189, 3) := by decide +kernel
theorem dX6_best_22 : decode cX6_best 22 = .ok (.ifCond .eq 10, 3) := by decide +kernel
theorem dX6_best_25 : decode cX6_best 25 = .ok (.aload_n 0, 1) := by decide +kernel
theorem dX6_best_26 : decode cX6_best 26 = .ok (.getfield 179, 3) := by decide +kernel
theorem dX6_best_29 : decode cX6_best 29 = .ok (.goto 9, 3) := by decide +kernel
theorem dX6_best_32 : decode cX6_best 32 = .ok (.aload_n 0, 1) := by decide +kernel
theorem dX6_best_33 : decode cX6_best 33 = .ok (.bipush (-2), 2) := by decide +kernel
theorem dX6_best_35 : decode cX6_best 35 = .ok (.invokevirtual 93, 3) := by decide +kernel
theorem dX6_best_38 : decode cX6_best 38 = .ok (.ireturn, 1) := by decide +kernel
theorem dX6_turn_0 : decode cX6_turn 0 = .ok (.iload_n 1, 1) := by decide +kernel
theorem dX6_turn_1 : decode cX6_turn 1 = .ok (.aload_n 0, 1) := by decide +kernel
theorem dX6_turn_2 : decode cX6_turn 2 = .ok (.getfield 86, 3) := by decide +kernel
theorem dX6_turn_5 : decode cX6_turn 5 = .ok (.invokestatic 89, 3) := by decide +kernel
theorem dX6_turn_8 : decode cX6_turn 8 = .ok (.ifCond .ne 9, 3) := by decide +kernel
theorem dX6_turn_11 : decode cX6_turn 11 = .ok (.aload_n 0, 1) := by decide +kernel
theorem dX6_turn_12 : decode cX6_turn 12 = .ok (.iconst (-1), 1) := by decide +kernel
theorem dX6_turn_13 : decode cX6_turn 13 = .ok (.invokevirtual 93, 3) := by decide +kernel
theorem dX6_turn_16 : decode cX6_turn 16 = .ok (.ireturn, 1) := by decide +kernel
theorem dX6_turn_17 : decode cX6_turn 17 = .ok (.aload_n 0, 1) := by decide +kernel
theorem dX6_turn_18 : decode cX6_turn 18 = .ok (.iload_n 1, 1) := by decide +kernel
theorem dX6_turn_19 : decode cX6_turn 19 = .ok (.invokevirtual 189, 3) := by decide +kernel
theorem dX6_turn_22 : decode cX6_turn 22 = .ok (.ifCond .ne 10, 3) := by decide +kernel
theorem dX6_turn_25 : decode cX6_turn 25 = .ok (.aload_n 0, 1) := by decide +kernel
theorem dX6_turn_26 : decode cX6_turn 26 = .ok (.bipush (-2), 2) := by decide +kernel
theorem dX6_turn_28 : decode cX6_turn 28 = .ok (.invokevirtual 93, 3) := by decide +kernel
theorem dX6_turn_31 : decode cX6_turn 31 = .ok (.ireturn, 1) := by decide +kernel
theorem dX6_turn_32 : decode cX6_turn 32 = .ok (.aload_n 0, 1) := by decide +kernel
theorem dX6_turn_33 : decode cX6_turn 33 = .ok (.aload_n 0, 1) := by decide +kernel
theorem dX6_turn_34 : decode cX6_turn 34 = .ok (.getfield 186, 3) := by decide +kernel
theorem dX6_turn_37 : decode cX6_turn 37 = .ok (.invokevirtual 110, 3) := by decide +kernel
theorem dX6_turn_40 : decode cX6_turn 40 = .ok (.ifCond .ne 10, 3) := by decide +kernel
theorem dX6_turn_43 : decode cX6_turn 43 = .ok (.aload_n 0, 1) := by decide +kernel
theorem dX6_turn_44 : decode cX6_turn 44 = .ok (.bipush (-6), 2) := by decide +kernel
theorem dX6_turn_46 : decode cX6_turn 46 = .ok (.invokevirtual 93, 3) := by decide +kernel
theorem dX6_turn_49 : decode cX6_turn 49 = .ok (.ireturn, 1) := by decide +kernel
theorem dX6_turn_50 : decode cX6_turn 50 = .ok (.iconst 0, 1) := by decide +kernel
theorem dX6_turn_51 : decode cX6_turn 51 = .ok (.istore_n 2, 1) := by decide +kernel
theorem dX6_turn_52 : decode cX6_turn 52 = .ok (.iload_n 2, 1) := by decide +kernel
theorem dX6_turn_53 : decode cX6_turn 53 = .ok (.aload_n 0, 1) := by decide +kernel
theorem dX6_turn_54 : decode cX6_turn 54 = .ok (.getfield 23, 3) := by decide +kernel
theorem dX6_turn_57 : decode cX6_turn 57 = .ok (.iload_n 1, 1) := by decide +kernel
theorem dX6_turn_58 : decode cX6_turn 58 = .ok (.iaload, 1) := by decide +kernel
theorem dX6_turn_59 : decode cX6_turn 59 = .ok (.if_icmp .ge 79, 3) := by decide +kernel
theorem dX6_turn_62 : decode cX6_turn 62 = .ok (.aload_n 0, 1) := by decide +kernel
theorem dX6_turn_63 : decode cX6_turn 63 = .ok (.getfield 80, 3) := by decide +kernel
theorem dX6_turn_66 : decode cX6_turn 66 = .ok (.iload_n 2, 1) := by decide +kernel
theorem dX6_turn_67 : decode cX6_turn 67 = .ok (.iaload, 1) := by decide +kernel
theorem dX6_turn_68 : decode cX6_turn 68 = .ok (.ifCond .lt 26, 3) := by decide +kernel
theorem dX6_turn_71 : decode cX6_turn 71 = .ok (.aload_n 0, 1) := by decide +kernel
theorem dX6_turn_72 : decode cX6_turn 72 = .ok (.getfield 80, 3) := by decide +kernel
theorem dX6_turn_75 : decode cX6_turn 75 = .ok (.iload_n 2, 1) := by decide +kernel
theorem dX6_turn_76 : decode cX6_turn 76 = .ok (.iaload, 1) := by decide +kernel
theorem dX6_turn_77 : decode cX6_turn 77 = .ok (.aload_n 0, 1) := by decide +kernel
theorem dX6_turn_78 : decode cX6_turn 78 = .ok (.getfield 29, 3) := by decide +kernel
theorem dX6_turn_81 : decode cX6_turn 81 = .ok (.iload_n 1, 1) := by decide +kernel
theorem dX6_turn_82 : decode cX6_turn 82 = .ok (.iload_n 2, 1) := by decide +kernel
theorem dX6_turn_83 : decode cX6_turn 83 = .ok (.invokestatic 97, 3) := by decide +kernel
theorem dX6_turn_86 : decode cX6_turn 86 = .ok (.iaload, 1) := by decide +kernel
theorem dX6_turn_87 : decode cX6_turn 87 = .ok (.if_icmp .eq 7, 3) := by decide +kernel
theorem dX6_turn_90 : decode cX6_turn 90 = .ok (.iconst 1, 1) := by decide +kernel
theorem dX6_turn_91 : decode cX6_turn 91 = .ok (.goto 4, 3) := by decide +kernel
theorem dX6_turn_94 : decode cX6_turn 94 = .ok (.iconst 0, 1) := by decide +kernel
theorem dX6_turn_95 : decode cX6_turn 95 = .ok (.istore_n 3, 1) := by decide +kernel
theorem dX6_turn_96 : decode cX6_turn 96 = .ok (.aload_n 0, 1) := by decide +kernel
theorem dX6_turn_97 : decode cX6_turn 97 = .ok (.getfield 29, 3) := by decide +kernel
theorem dX6_turn_100 : decode cX6_turn 100 = .ok (.iload_n 1, 1) := by decide +kernel
theorem dX6_turn_101 : decode cX6_turn 101 = .ok (.iload_n 2, 1) := by decide +kernel
theorem dX6_turn_102 : decode cX6_turn 102 = .ok (.invokestatic 97, 3) := by decide +kernel
theorem dX6_turn_105 : decode cX6_turn 105 = .ok (.aload_n 0, 1) := by decide +kernel
theorem dX6_turn_106 : decode cX6_turn 106 = .ok (.getfield 80, 3) := by decide +kernel
theorem dX6_turn_109 : decode cX6_turn 109 = .ok (.iload_n 2, 1) := by decide +kernel
theorem dX6_turn_110 : decode cX6_turn 110 = .ok (.iaload, 1) := by decide +kernel
theorem dX6_turn_111 : decode cX6_turn 111 = .ok (.iastore, 1) := by decide +kernel
theorem dX6_turn_112 : decode cX6_turn 112 = .ok (.iload_n 3, 1) := by decide +kernel
theorem dX6_turn_113 : decode cX6_turn 113 = .ok (.ifCond .eq 19, 3) := by decide +kernel
theorem dX6_turn_116 : decode cX6_turn 116 = .ok (.aload_n 0, 1) := by decide +kernel
theorem dX6_turn_117 : decode cX6_turn 117 = .ok (.aload_n 0, 1) := by decide +kernel
theorem dX6_turn_118 : decode cX6_turn 118 = .ok (.getfield 80, 3) := by decide +kernel
theorem dX6_turn_121 : decode cX6_turn 121 = .ok (.iload_n 2, 1) := by decide +kernel
theorem dX6_turn_122 : decode cX6_turn 122 = .ok (.iaload, 1) := by decide +kernel
theorem dX6_turn_123 : decode cX6_turn 123 = .ok (.bipush 10, 2) := by decide +kernel
theorem dX6_turn_125 : decode cX6_turn 125 = .ok (.iload_n 1, 1) := by decide +kernel
theorem dX6_turn_126 : decode cX6_turn 126 = .ok (.imul, 1) := by decide +kernel
theorem dX6_turn_127 : decode cX6_turn 127 = .ok (.iload_n 2, 1) := by decide +kernel
theorem dX6_turn_128 : decode cX6_turn 128 = .ok (.iadd, 1) := by decide +kernel
theorem dX6_turn_129 : decode cX6_turn 129 = .ok (.invokevirtual 124, 3) := by decide +kernel
theorem dX6_turn_132 : decode cX6_turn 132 = .ok (.iinc 2 1, 3) := by decide +kernel
theorem dX6_turn_135 : decode cX6_turn 135 = .ok (.goto (-83), 3) := by decide +kernel
theorem dX6_turn_138 : decode cX6_turn 138 = .ok (.aload_n 0, 1) := by decide +kernel
theorem dX6_turn_139 : decode cX6_turn 139 = .ok (.getfield 186, 3) := by decide +kernel
theorem dX6_turn_142 : decode cX6_turn 142 = .ok (.ireturn, 1) := by decide +kernel
theorem dX6_wear_0 : decode cX6_wear 0 = .ok (.iload_n 1, 1) := by decide +kernel
theorem dX6_wear_1 : decode cX6_wear 1 = .ok (.aload_n 0, 1) := by decide +kernel
theorem dX6_wear_2 : decode cX6_wear 2 = .ok (.getfield 107, 3) := by decide +kernel
theorem dX6_wear_5 : decode cX6_wear 5 = .ok (.invokestatic 89, 3) := by decide +kernel
theorem dX6_wear_8 : decode cX6_wear 8 = .ok (.ifCond .ne 10, 3) := by decide +kernel
theorem dX6_wear_11 : decode cX6_wear 11 = .ok (.aload_n 0, 1) := by decide +kernel
theorem dX6_wear_12 : decode cX6_wear 12 = .ok (.iconst (-1), 1) := by decide +kernel
theorem dX6_wear_13 : decode cX6_wear 13 = .ok (.invokevirtual 93, 3) := by decide +kernel
theorem dX6_wear_16 : decode cX6_wear 16 = .ok (.i2l, 1) := by decide +kernel
theorem dX6_wear_17 : decode cX6_wear 17 = .ok (.lreturn, 1) := by decide +kernel
theorem dX6_wear_18 : decode cX6_wear 18 = .ok (.iload_n 2, 1) := by decide +kernel
theorem dX6_wear_19 : decode cX6_wear 19 = .ok (.iconst 2, 1) := by decide +kernel
theorem dX6_wear_20 : decode cX6_wear 20 = .ok (.invokestatic 89, 3) := by decide +kernel
theorem dX6_wear_23 : decode cX6_wear 23 = .ok (.ifCond .ne 11, 3) := by decide +kernel
theorem dX6_wear_26 : decode cX6_wear 26 = .ok (.aload_n 0, 1) := by decide +kernel
theorem dX6_wear_27 : decode cX6_wear 27 = .ok (.bipush (-2), 2) := by decide +kernel
theorem dX6_wear_29 : decode cX6_wear 29 = .ok (.invokevirtual 93, 3) := by decide +kernel
theorem dX6_wear_32 : decode cX6_wear 32 = .ok (.i2l, 1) := by decide +kernel
theorem dX6_wear_33 : decode cX6_wear 33 = .ok (.lreturn, 1) := by decide +kernel
theorem dX6_wear_34 : decode cX6_wear 34 = .ok (.aload_n 0, 1) := by decide +kernel
theorem dX6_wear_35 : decode cX6_wear 35 = .ok (.iload_n 1, 1) := by decide +kernel
theorem dX6_wear_36 : decode cX6_wear 36 = .ok (.invokevirtual 137, 3) := by decide +kernel
theorem dX6_wear_39 : decode cX6_wear 39 = .ok (.iload_n 2, 1) := by decide +kernel
theorem dX6_wear_40 : decode cX6_wear 40 = .ok (.ifCond .ne 10, 3) := by decide +kernel
theorem dX6_wear_43 : decode cX6_wear 43 = .ok (.aload_n 0, 1) := by decide +kernel
theorem dX6_wear_44 : decode cX6_wear 44 = .ok (.getfield 128, 3) := by decide +kernel
theorem dX6_wear_47 : decode cX6_wear 47 = .ok (.goto 7, 3) := by decide +kernel
theorem dX6_wear_50 : decode cX6_wear 50 = .ok (.aload_n 0, 1) := by decide +kernel
theorem dX6_wear_51 : decode cX6_wear 51 = .ok (.getfield 132, 3) := by decide +kernel
theorem dX6_wear_54 : decode cX6_wear 54 = .ok (.lreturn, 1) := by decide +kernel
theorem dX6_depth_0 : decode cX6_depth 0 = .ok (.iload_n 1, 1) := by decide +kernel
theorem dX6_depth_1 : decode cX6_depth 1 = .ok (.aload_n 0, 1) := by decide +kernel
theorem dX6_depth_2 : decode cX6_depth 2 = .ok (.getfield 107, 3) := by decide +kernel
theorem dX6_depth_5 : decode cX6_depth 5 = .ok (.invokestatic 89, 3) := by decide +kernel
theorem dX6_depth_8 : decode cX6_depth 8 = .ok (.ifCond .ne 9, 3) := by decide +kernel
theorem dX6_depth_11 : decode cX6_depth 11 = .ok (.aload_n 0, 1) := by decide +kernel
theorem dX6_depth_12 : decode cX6_depth 12 = .ok (.iconst (-1), 1) := by decide +kernel
theorem dX6_depth_13 : decode cX6_depth 13 = .ok (.invokevirtual 93, 3) := by decide +kernel
theorem dX6_depth_16 : decode cX6_depth 16 = .ok (.ireturn, 1) := by decide +kernel
theorem dX6_depth_17 : decode cX6_depth 17 = .ok (.iload_n 2, 1) := by decide +kernel
theorem dX6_depth_18 : decode cX6_depth 18 = .ok (.ifCond .ge 10, 3) := by decide +kernel
theorem dX6_depth_21 : decode cX6_depth 21 = .ok (.aload_n 0, 1) := by decide +kernel
theorem dX6_depth_22 : decode cX6_depth 22 = .ok (.bipush (-4), 2) := by decide +kernel
theorem dX6_depth_24 : decode cX6_depth 24 = .ok (.invokevirtual 93, 3) := by decide +kernel
theorem dX6_depth_27 : decode cX6_depth 27 = .ok (.ireturn, 1) := by decide +kernel
theorem dX6_depth_28 : decode cX6_depth 28 = .ok (.iload_n 2, 1) := by decide +kernel
theorem dX6_depth_29 : decode cX6_depth 29 = .ok (.ldc 152, 2) := by decide +kernel
theorem dX6_depth_31 : decode cX6_depth 31 = .ok (.if_icmp .le 12, 3) := by decide +kernel
theorem dX6_depth_34 : decode cX6_depth 34 = .ok (.aload_n 0, 1) := by decide +kernel
theorem dX6_depth_35 : decode cX6_depth 35 = .ok (.bipush (-6), 2) := by decide +kernel
theorem dX6_depth_37 : decode cX6_depth 37 = .ok (.invokevirtual 93, 3) := by decide +kernel
theorem dX6_depth_40 : decode cX6_depth 40 = .ok (.goto 9, 3) := by decide +kernel
theorem dX6_depth_43 : decode cX6_depth 43 = .ok (.aload_n 0, 1) := by decide +kernel
theorem dX6_depth_44 : decode cX6_depth 44 = .ok (.iload_n 1, 1) := by decide +kernel
theorem dX6_depth_45 : decode cX6_depth 45 = .ok (.iload_n 2, 1) := by decide +kernel
theorem dX6_depth_46 : decode cX6_depth 46 = .ok (.invokevirtual 149, 3) := by decide +kernel
theorem dX6_depth_49 : decode cX6_depth 49 = .ok (.ireturn, 1) := by decide +kernel
theorem dX6_end_0 : decode cX6_end 0 = .ok (.iload_n 1, 1) := by decide +kernel
theorem dX6_end_1 : decode cX6_end 1 = .ok (.aload_n 0, 1) := by decide +kernel
theorem dX6_end_2 : decode cX6_end 2 = .ok (.getfield 107, 3) := by decide +kernel
theorem dX6_end_5 : decode cX6_end 5 = .ok (.invokestatic 89, 3) := by decide +kernel
theorem dX6_end_8 : decode cX6_end 8 = .ok (.ifCond .ne 9, 3) := by decide +kernel
theorem dX6_end_11 : decode cX6_end 11 = .ok (.aload_n 0, 1) := by decide +kernel
theorem dX6_end_12 : decode cX6_end 12 = .ok (.iconst (-1), 1) := by decide +kernel
theorem dX6_end_13 : decode cX6_end 13 = .ok (.invokevirtual 93, 3) := by decide +kernel
theorem dX6_end_16 : decode cX6_end 16 = .ok (.ireturn, 1) := by decide +kernel
theorem dX6_end_17 : decode cX6_end 17 = .ok (.iload_n 2, 1) := by decide +kernel
theorem dX6_end_18 : decode cX6_end 18 = .ok (.ifCond .ge 10, 3) := by decide +kernel
theorem dX6_end_21 : decode cX6_end 21 = .ok (.aload_n 0, 1) := by decide +kernel
theorem dX6_end_22 : decode cX6_end 22 = .ok (.bipush (-4), 2) := by decide +kernel
theorem dX6_end_24 : decode cX6_end 24 = .ok (.invokevirtual 93, 3) := by decide +kernel
theorem dX6_end_27 : decode cX6_end 27 = .ok (.ireturn, 1) := by decide +kernel
theorem dX6_end_28 : decode cX6_end 28 = .ok (.iload_n 2, 1) := by decide +kernel
theorem dX6_end_29 : decode cX6_end 29 = .ok (.sipush 300, 3) := by decide +kernel
theorem dX6_end_32 : decode cX6_end 32 = .ok (.if_icmp .le 12, 3) := by decide +kernel
theorem dX6_end_35 : decode cX6_end 35 = .ok (.aload_n 0, 1) := by decide +kernel
theorem dX6_end_36 : decode cX6_end 36 = .ok (.bipush (-6), 2) := by decide +kernel
theorem dX6_end_38 : decode cX6_end 38 = .ok (.invokevirtual 93, 3) := by decide +kernel
theorem dX6_end_41 : decode cX6_end 41 = .ok (.goto 9, 3) := by decide +kernel
theorem dX6_end_44 : decode cX6_end 44 = .ok (.aload_n 0, 1) := by decide +kernel
theorem dX6_end_45 : decode cX6_end 45 = .ok (.iload_n 1, 1) := by decide +kernel
theorem dX6_end_46 : decode cX6_end 46 = .ok (.iload_n 2, 1) := by decide +kernel
theorem dX6_end_47 : decode cX6_end 47 = .ok (.invokevirtual 161, 3) := by decide +kernel
theorem dX6_end_50 : decode cX6_end 50 = .ok (.ireturn, 1) := by decide +kernel
theorem dX6_send_0 : decode cX6_send 0 = .ok (.iload_n 1, 1) := by decide +kernel
theorem dX6_send_1 : decode cX6_send 1 = .ok (.aload_n 0, 1) := by decide +kernel
theorem dX6_send_2 : decode cX6_send 2 = .ok (.getfield 107, 3) := by decide +kernel
theorem dX6_send_5 : decode cX6_send 5 = .ok (.invokestatic 89, 3) := by decide +kernel
theorem dX6_send_8 : decode cX6_send 8 = .ok (.ifCond .ne 9, 3) := by decide +kernel
theorem dX6_send_11 : decode cX6_send 11 = .ok (.aload_n 0, 1) := by decide +kernel
theorem dX6_send_12 : decode cX6_send 12 = .ok (.iconst (-1), 1) := by decide +kernel
theorem dX6_send_13 : decode cX6_send 13 = .ok (.invokevirtual 93, 3) := by decide +kernel
theorem dX6_send_16 : decode cX6_send 16 = .ok (.ireturn, 1) := by decide +kernel
theorem dX6_send_17 : decode cX6_send 17 = .ok (.aload_n 0, 1) := by decide +kernel
theorem dX6_send_18 : decode cX6_send 18 = .ok (.getfield 50, 3) := by decide +kernel
theorem dX6_send_21 : decode cX6_send 21 = .ok (.iload_n 1, 1) := by decide +kernel
theorem dX6_send_22 : decode cX6_send 22 = .ok (.iaload, 1) := by decide +kernel
theorem dX6_send_23 : decode cX6_send 23 = .ok (.iconst (-1), 1) := by decide +kernel
theorem dX6_send_24 : decode cX6_send 24 = .ok (.if_icmp .ne 23, 3) := by decide +kernel
theorem dX6_send_27 : decode cX6_send 27 = .ok (.aload_n 0, 1) := by decide +kernel
theorem dX6_send_28 : decode cX6_send 28 = .ok (.getfield 41, 3) := by decide +kernel
theorem dX6_send_31 : decode cX6_send 31 = .ok (.iload_n 1, 1) := by decide +kernel
theorem dX6_send_32 : decode cX6_send 32 = .ok (.iaload, 1) := by decide +kernel
theorem dX6_send_33 : decode cX6_send 33 = .ok (.iconst 2, 1) := by decide +kernel
theorem dX6_send_34 : decode cX6_send 34 = .ok (.if_icmp .ge 13, 3) := by decide +kernel
theorem dX6_send_37 : decode cX6_send 37 = .ok (.aload_n 0, 1) := by decide +kernel
theorem dX6_send_38 : decode cX6_send 38 = .ok (.getfield 44, 3) := by decide +kernel
theorem dX6_send_41 : decode cX6_send 41 = .ok (.iload_n 1, 1) := by decide +kernel
theorem dX6_send_42 : decode cX6_send 42 = .ok (.iaload, 1) := by decide +kernel
theorem dX6_send_43 : decode cX6_send 43 = .ok (.iconst 3, 1) := by decide +kernel
theorem dX6_send_44 : decode cX6_send 44 = .ok (.if_icmp .lt 10, 3) := by decide +kernel
theorem dX6_send_47 : decode cX6_send 47 = .ok (.aload_n 0, 1) := by decide +kernel
theorem dX6_send_48 : decode cX6_send 48 = .ok (.bipush (-2), 2) := by decide +kernel
theorem dX6_send_50 : decode cX6_send 50 = .ok (.invokevirtual 93, 3) := by decide +kernel
theorem dX6_send_53 : decode cX6_send 53 = .ok (.ireturn, 1) := by decide +kernel
theorem dX6_send_54 : decode cX6_send 54 = .ok (.aload_n 0, 1) := by decide +kernel
theorem dX6_send_55 : decode cX6_send 55 = .ok (.iconst 1, 1) := by decide +kernel
theorem dX6_send_56 : decode cX6_send 56 = .ok (.invokevirtual 110, 3) := by decide +kernel
theorem dX6_send_59 : decode cX6_send 59 = .ok (.ifCond .eq 16, 3) := by decide +kernel
theorem dX6_send_62 : decode cX6_send 62 = .ok (.aload_n 0, 1) := by decide +kernel
theorem dX6_send_63 : decode cX6_send 63 = .ok (.getfield 104, 3) := by decide +kernel
theorem dX6_send_66 : decode cX6_send 66 = .ok (.bipush 10, 2) := by decide +kernel
theorem dX6_send_68 : decode cX6_send 68 = .ok (.iadd, 1) := by decide +kernel
theorem dX6_send_69 : decode cX6_send 69 = .ok (.sipush 2000, 3) := by decide +kernel
theorem dX6_send_72 : decode cX6_send 72 = .ok (.if_icmp .le 10, 3) := by decide +kernel
theorem dX6_send_75 : decode cX6_send 75 = .ok (.aload_n 0, 1) := by decide +kernel
theorem dX6_send_76 : decode cX6_send 76 = .ok (.bipush (-6), 2) := by decide +kernel
theorem dX6_send_78 : decode cX6_send 78 = .ok (.invokevirtual 93, 3) := by decide +kernel
theorem dX6_send_81 : decode cX6_send 81 = .ok (.ireturn, 1) := by decide +kernel
theorem dX6_send_82 : decode cX6_send 82 = .ok (.aload_n 0, 1) := by decide +kernel
theorem dX6_send_83 : decode cX6_send 83 = .ok (.getfield 53, 3) := by decide +kernel
theorem dX6_send_86 : decode cX6_send 86 = .ok (.iload_n 1, 1) := by decide +kernel
theorem dX6_send_87 : decode cX6_send 87 = .ok (.aload_n 0, 1) := by decide +kernel
theorem dX6_send_88 : decode cX6_send 88 = .ok (.getfield 104, 3) := by decide +kernel
theorem dX6_send_91 : decode cX6_send 91 = .ok (.bipush 10, 2) := by decide +kernel
theorem dX6_send_93 : decode cX6_send 93 = .ok (.iadd, 1) := by decide +kernel
theorem dX6_send_94 : decode cX6_send 94 = .ok (.iastore, 1) := by decide +kernel
theorem dX6_send_95 : decode cX6_send 95 = .ok (.aload_n 0, 1) := by decide +kernel
theorem dX6_send_96 : decode cX6_send 96 = .ok (.iload_n 1, 1) := by decide +kernel
theorem dX6_send_97 : decode cX6_send 97 = .ok (.bipush (-2), 2) := by decide +kernel
theorem dX6_send_99 : decode cX6_send 99 = .ok (.invokevirtual 124, 3) := by decide +kernel
theorem dX6_send_102 : decode cX6_send 102 = .ok (.aload_n 0, 1) := by decide +kernel
theorem dX6_send_103 : decode cX6_send 103 = .ok (.getfield 53, 3) := by decide +kernel
theorem dX6_send_106 : decode cX6_send 106 = .ok (.iload_n 1, 1) := by decide +kernel
theorem dX6_send_107 : decode cX6_send 107 = .ok (.iaload, 1) := by decide +kernel
theorem dX6_send_108 : decode cX6_send 108 = .ok (.ireturn, 1) := by decide +kernel
theorem dX6_mend_0 : decode cX6_mend 0 = .ok (.iload_n 1, 1) := by decide +kernel
theorem dX6_mend_1 : decode cX6_mend 1 = .ok (.aload_n 0, 1) := by decide +kernel
theorem dX6_mend_2 : decode cX6_mend 2 = .ok (.getfield 107, 3) := by decide +kernel
theorem dX6_mend_5 : decode cX6_mend 5 = .ok (.invokestatic 89, 3) := by decide +kernel
theorem dX6_mend_8 : decode cX6_mend 8 = .ok (.ifCond .ne 9, 3) := by decide +kernel
theorem dX6_mend_11 : decode cX6_mend 11 = .ok (.aload_n 0, 1) := by decide +kernel
theorem dX6_mend_12 : decode cX6_mend 12 = .ok (.iconst (-1), 1) := by decide +kernel
theorem dX6_mend_13 : decode cX6_mend 13 = .ok (.invokevirtual 93, 3) := by decide +kernel
theorem dX6_mend_16 : decode cX6_mend 16 = .ok (.ireturn, 1) := by decide +kernel
theorem dX6_mend_17 : decode cX6_mend 17 = .ok (.aload_n 0, 1) := by decide +kernel
theorem dX6_mend_18 : decode cX6_mend 18 = .ok (.getfield 50, 3) := by decide +kernel
theorem dX6_mend_21 : decode cX6_mend 21 = .ok (.iload_n 1, 1) := by decide +kernel
theorem dX6_mend_22 : decode cX6_mend 22 = .ok (.iaload, 1) := by decide +kernel
theorem dX6_mend_23 : decode cX6_mend 23 = .ok (.iconst (-1), 1) := by decide +kernel
theorem dX6_mend_24 : decode cX6_mend 24 = .ok (.if_icmp .eq 10, 3) := by decide +kernel
theorem dX6_mend_27 : decode cX6_mend 27 = .ok (.aload_n 0, 1) := by decide +kernel
theorem dX6_mend_28 : decode cX6_mend 28 = .ok (.bipush (-2), 2) := by decide +kernel
theorem dX6_mend_30 : decode cX6_mend 30 = .ok (.invokevirtual 93, 3) := by decide +kernel
theorem dX6_mend_33 : decode cX6_mend 33 = .ok (.ireturn, 1) := by decide +kernel
theorem dX6_mend_34 : decode cX6_mend 34 = .ok (.aload_n 0, 1) := by decide +kernel
theorem dX6_mend_35 : decode cX6_mend 35 = .ok (.getfield 44, 3) := by decide +kernel
theorem dX6_mend_38 : decode cX6_mend 38 = .ok (.iload_n 1, 1) := by decide +kernel
theorem dX6_mend_39 : decode cX6_mend 39 = .ok (.iaload, 1) := by decide +kernel
theorem dX6_mend_40 : decode cX6_mend 40 = .ok (.bipush 9, 2) := by decide +kernel
theorem dX6_mend_42 : decode cX6_mend 42 = .ok (.if_icmp .ne 10, 3) := by decide +kernel
theorem dX6_mend_45 : decode cX6_mend 45 = .ok (.aload_n 0, 1) := by decide +kernel
theorem dX6_mend_46 : decode cX6_mend 46 = .ok (.bipush (-6), 2) := by decide +kernel
theorem dX6_mend_48 : decode cX6_mend 48 = .ok (.invokevirtual 93, 3) := by decide +kernel
theorem dX6_mend_51 : decode cX6_mend 51 = .ok (.ireturn, 1) := by decide +kernel
theorem dX6_mend_52 : decode cX6_mend 52 = .ok (.aload_n 0, 1) := by decide +kernel
theorem dX6_mend_53 : decode cX6_mend 53 = .ok (.getfield 44, 3) := by decide +kernel
theorem dX6_mend_56 : decode cX6_mend 56 = .ok (.iload_n 1, 1) := by decide +kernel
theorem dX6_mend_57 : decode cX6_mend 57 = .ok (.dup2, 1) := by decide +kernel
theorem dX6_mend_58 : decode cX6_mend 58 = .ok (.iaload, 1) := by decide +kernel
theorem dX6_mend_59 : decode cX6_mend 59 = .ok (.iconst 1, 1) := by decide +kernel
theorem dX6_mend_60 : decode cX6_mend 60 = .ok (.iadd, 1) := by decide +kernel
theorem dX6_mend_61 : decode cX6_mend 61 = .ok (.iastore, 1) := by decide +kernel
theorem dX6_mend_62 : decode cX6_mend 62 = .ok (.aload_n 0, 1) := by decide +kernel
theorem dX6_mend_63 : decode cX6_mend 63 = .ok (.getfield 44, 3) := by decide +kernel
theorem dX6_mend_66 : decode cX6_mend 66 = .ok (.iload_n 1, 1) := by decide +kernel
theorem dX6_mend_67 : decode cX6_mend 67 = .ok (.iaload, 1) := by decide +kernel
theorem dX6_mend_68 : decode cX6_mend 68 = .ok (.ireturn, 1) := by decide +kernel
theorem dX6_cast_0 : decode cX6_cast 0 = .ok (.iload_n 1, 1) := by decide +kernel
theorem dX6_cast_1 : decode cX6_cast 1 = .ok (.aload_n 0, 1) := by decide +kernel
theorem dX6_cast_2 : decode cX6_cast 2 = .ok (.getfield 107, 3) := by decide +kernel
theorem dX6_cast_5 : decode cX6_cast 5 = .ok (.invokestatic 89, 3) := by decide +kernel
theorem dX6_cast_8 : decode cX6_cast 8 = .ok (.ifCond .ne 9, 3) := by decide +kernel
theorem dX6_cast_11 : decode cX6_cast 11 = .ok (.aload_n 0, 1) := by decide +kernel
theorem dX6_cast_12 : decode cX6_cast 12 = .ok (.iconst (-1), 1) := by decide +kernel
theorem dX6_cast_13 : decode cX6_cast 13 = .ok (.invokevirtual 93, 3) := by decide +kernel
theorem dX6_cast_16 : decode cX6_cast 16 = .ok (.ireturn, 1) := by decide +kernel
theorem dX6_cast_17 : decode cX6_cast 17 = .ok (.aload_n 0, 1) := by decide +kernel
theorem dX6_cast_18 : decode cX6_cast 18 = .ok (.getfield 50, 3) := by decide +kernel
theorem dX6_cast_21 : decode cX6_cast 21 = .ok (.iload_n 1, 1) := by decide +kernel
theorem dX6_cast_22 : decode cX6_cast 22 = .ok (.iaload, 1) := by decide +kernel
theorem dX6_cast_23 : decode cX6_cast 23 = .ok (.iconst (-1), 1) := by decide +kernel
theorem dX6_cast_24 : decode cX6_cast 24 = .ok (.if_icmp .eq 10, 3) := by decide +kernel
theorem dX6_cast_27 : decode cX6_cast 27 = .ok (.aload_n 0, 1) := by decide +kernel
theorem dX6_cast_28 : decode cX6_cast 28 = .ok (.bipush (-2), 2) := by decide +kernel
theorem dX6_cast_30 : decode cX6_cast 30 = .ok (.invokevirtual 93, 3) := by decide +kernel
theorem dX6_cast_33 : decode cX6_cast 33 = .ok (.ireturn, 1) := by decide +kernel
theorem dX6_cast_34 : decode cX6_cast 34 = .ok (.aload_n 0, 1) := by decide +kernel
theorem dX6_cast_35 : decode cX6_cast 35 = .ok (.iconst 1, 1) := by decide +kernel
theorem dX6_cast_36 : decode cX6_cast 36 = .ok (.invokevirtual 110, 3) := by decide +kernel
theorem dX6_cast_39 : decode cX6_cast 39 = .ok (.ifCond .ne 10, 3) := by decide +kernel
theorem dX6_cast_42 : decode cX6_cast 42 = .ok (.aload_n 0, 1) := by decide +kernel
theorem dX6_cast_43 : decode cX6_cast 43 = .ok (.bipush (-6), 2) := by decide +kernel
theorem dX6_cast_45 : decode cX6_cast 45 = .ok (.invokevirtual 93, 3) := by decide +kernel
theorem dX6_cast_48 : decode cX6_cast 48 = .ok (.ireturn, 1) := by decide +kernel
theorem dX6_cast_49 : decode cX6_cast 49 = .ok (.aload_n 0, 1) := by decide +kernel
theorem dX6_cast_50 : decode cX6_cast 50 = .ok (.iload_n 1, 1) := by decide +kernel
theorem dX6_cast_51 : decode cX6_cast 51 = .ok (.bipush (-3), 2) := by decide +kernel
theorem dX6_cast_53 : decode cX6_cast 53 = .ok (.invokevirtual 124, 3) := by decide +kernel
theorem dX6_cast_56 : decode cX6_cast 56 = .ok (.iconst 1, 1) := by decide +kernel
theorem dX6_cast_57 : decode cX6_cast 57 = .ok (.ireturn, 1) := by decide +kernel
theorem dX6_days_0 : decode cX6_days 0 = .ok (.iload_n 1, 1) := by decide +kernel
theorem dX6_days_1 : decode cX6_days 1 = .ok (.iconst 1, 1) := by decide +kernel
theorem dX6_days_2 : decode cX6_days 2 = .ok (.if_icmp .ge 10, 3) := by decide +kernel
theorem dX6_days_5 : decode cX6_days 5 = .ok (.aload_n 0, 1) := by decide +kernel
theorem dX6_days_6 : decode cX6_days 6 = .ok (.bipush (-4), 2) := by decide +kernel
theorem dX6_days_8 : decode cX6_days 8 = .ok (.invokevirtual 93, 3) := by decide +kernel
theorem dX6_days_11 : decode cX6_days 11 = .ok (.ireturn, 1) := by decide +kernel
theorem dX6_days_12 : decode cX6_days 12 = .ok (.iload_n 1, 1) := by decide +kernel
theorem dX6_days_13 : decode cX6_days 13 = .ok (.sipush 2000, 3) := by decide +kernel
theorem dX6_days_16 : decode cX6_days 16 = .ok (.aload_n 0, 1) := by decide +kernel
theorem dX6_days_17 : decode cX6_days 17 = .ok (.getfield 104, 3) := by decide +kernel
theorem dX6_days_20 : decode cX6_days 20 = .ok (.isub, 1) := by decide +kernel
theorem dX6_days_21 : decode cX6_days 21 = .ok (.if_icmp .le 10, 3) := by decide +kernel
theorem dX6_days_24 : decode cX6_days 24 = .ok (.aload_n 0, 1) := by decide +kernel
theorem dX6_days_25 : decode cX6_days 25 = .ok (.bipush (-6), 2) := by decide +kernel
theorem dX6_days_27 : decode cX6_days 27 = .ok (.invokevirtual 93, 3) := by decide +kernel
theorem dX6_days_30 : decode cX6_days 30 = .ok (.ireturn, 1) := by decide +kernel
theorem dX6_days_31 : decode cX6_days 31 = .ok (.iconst 0, 1) := by decide +kernel
theorem dX6_days_32 : decode cX6_days 32 = .ok (.istore_n 2, 1) := by decide +kernel
theorem dX6_days_33 : decode cX6_days 33 = .ok (.iload_n 2, 1) := by decide +kernel
theorem dX6_days_34 : decode cX6_days 34 = .ok (.iload_n 1, 1) := by decide +kernel
theorem dX6_days_35 : decode cX6_days 35 = .ok (.if_icmp .ge 83, 3) := by decide +kernel
theorem dX6_days_38 : decode cX6_days 38 = .ok (.aload_n 0, 1) := by decide +kernel
theorem dX6_days_39 : decode cX6_days 39 = .ok (.dup, 1) := by decide +kernel
theorem dX6_days_40 : decode cX6_days 40 = .ok (.getfield 104, 3) := by decide +kernel
theorem dX6_days_43 : decode cX6_days 43 = .ok (.iconst 1, 1) := by decide +kernel
theorem dX6_days_44 : decode cX6_days 44 = .ok (.iadd, 1) := by decide +kernel
theorem dX6_days_45 : decode cX6_days 45 = .ok (.putfield 104, 3) := by decide +kernel
theorem dX6_days_48 : decode cX6_days 48 = .ok (.iconst 0, 1) := by decide +kernel
theorem dX6_days_49 : decode cX6_days 49 = .ok (.istore_n 3, 1) := by decide +kernel
theorem dX6_days_50 : decode cX6_days 50 = .ok (.iload_n 3, 1) := by decide +kernel
theorem dX6_days_51 : decode cX6_days 51 = .ok (.aload_n 0, 1) := by decide +kernel
theorem dX6_days_52 : decode cX6_days 52 = .ok (.getfield 107, 3) := by decide +kernel
theorem dX6_days_55 : decode cX6_days 55 = .ok (.if_icmp .ge 57, 3) := by decide +kernel
theorem dX6_days_58 : decode cX6_days 58 = .ok (.aload_n 0, 1) := by decide +kernel
theorem dX6_days_59 : decode cX6_days 59 = .ok (.getfield 50, 3) := by decide +kernel
theorem dX6_days_62 : decode cX6_days 62 = .ok (.iload_n 3, 1) := by decide +kernel
theorem dX6_days_63 : decode cX6_days 63 = .ok (.iaload, 1) := by decide +kernel
theorem dX6_days_64 : decode cX6_days 64 = .ok (.bipush (-2), 2) := by decide +kernel
theorem dX6_days_66 : decode cX6_days 66 = .ok (.if_icmp .ne 40, 3) := by decide +kernel
theorem dX6_days_69 : decode cX6_days 69 = .ok (.aload_n 0, 1) := by decide +kernel
theorem dX6_days_70 : decode cX6_days 70 = .ok (.getfield 53, 3) := by decide +kernel
theorem dX6_days_73 : decode cX6_days 73 = .ok (.iload_n 3, 1) := by decide +kernel
theorem dX6_days_74 : decode cX6_days 74 = .ok (.iaload, 1) := by decide +kernel
theorem dX6_days_75 : decode cX6_days 75 = .ok (.aload_n 0, 1) := by decide +kernel
theorem dX6_days_76 : decode cX6_days 76 = .ok (.getfield 104, 3) := by decide +kernel
theorem dX6_days_79 : decode cX6_days 79 = .ok (.if_icmp .eq 6, 3) := by decide +kernel
theorem dX6_days_82 : decode cX6_days 82 = .ok (.goto 24, 3) := by decide +kernel
theorem dX6_days_85 : decode cX6_days 85 = .ok (.aload_n 0, 1) := by decide +kernel
theorem dX6_days_86 : decode cX6_days 86 = .ok (.getfield 41, 3) := by decide +kernel
theorem dX6_days_89 : decode cX6_days 89 = .ok (.iload_n 3, 1) := by decide +kernel
theorem dX6_days_90 : decode cX6_days 90 = .ok (.dup2, 1) := by decide +kernel
theorem dX6_days_91 : decode cX6_days 91 = .ok (.iaload, 1) := by decide +kernel
theorem dX6_days_92 : decode cX6_days 92 = .ok (.iconst 1, 1) := by decide +kernel
theorem dX6_days_93 : decode cX6_days 93 = .ok (.iadd, 1) := by decide +kernel
theorem dX6_days_94 : decode cX6_days 94 = .ok (.iastore, 1) := by decide +kernel
theorem dX6_days_95 : decode cX6_days 95 = .ok (.aload_n 0, 1) := by decide +kernel
theorem dX6_days_96 : decode cX6_days 96 = .ok (.iload_n 3, 1) := by decide +kernel
theorem dX6_days_97 : decode cX6_days 97 = .ok (.invokevirtual 114, 3) := by decide +kernel
theorem dX6_days_100 : decode cX6_days 100 = .ok (.aload_n 0, 1) := by decide +kernel
theorem dX6_days_101 : decode cX6_days 101 = .ok (.iload_n 3, 1) := by decide +kernel
theorem dX6_days_102 : decode cX6_days 102 = .ok (.iconst (-1), 1) := by decide +kernel
theorem dX6_days_103 : decode cX6_days 103 = .ok (.invokevirtual 124, 3) := by decide +kernel
theorem dX6_days_106 : decode cX6_days 106 = .ok (.iinc 3 1, 3) := by decide +kernel
theorem dX6_days_109 : decode cX6_days 109 = .ok (.goto (-59), 3) := by decide +kernel
theorem dX6_days_112 : decode cX6_days 112 = .ok (.iinc 2 1, 3) := by decide +kernel
theorem dX6_days_115 : decode cX6_days 115 = .ok (.goto (-82), 3) := by decide +kernel
theorem dX6_days_118 : decode cX6_days 118 = .ok (.aload_n 0, 1) := by decide +kernel
theorem dX6_days_119 : decode cX6_days 119 = .ok (.getfield 104, 3) := by decide +kernel
theorem dX6_days_122 : decode cX6_days 122 = .ok (.ireturn, 1) := by decide +kernel
theorem dX6_few_0 : decode cX6_few 0 = .ok (.iload_n 1, 1) := by decide +kernel
theorem dX6_few_1 : decode cX6_few 1 = .ok (.aload_n 0, 1) := by decide +kernel
theorem dX6_few_2 : decode cX6_few 2 = .ok (.getfield 86, 3) := by decide +kernel
theorem dX6_few_5 : decode cX6_few 5 = .ok (.invokestatic 89, 3) := by decide +kernel
theorem dX6_few_8 : decode cX6_few 8 = .ok (.ifCond .eq 11, 3) := by decide +kernel
theorem dX6_few_11 : decode cX6_few 11 = .ok (.iload_n 2, 1) := by decide +kernel
theorem dX6_few_12 : decode cX6_few 12 = .ok (.iconst 4, 1) := by decide +kernel
theorem dX6_few_13 : decode cX6_few 13 = .ok (.invokestatic 89, 3) := by decide +kernel
theorem dX6_few_16 : decode cX6_few 16 = .ok (.ifCond .ne 9, 3) := by decide +kernel
theorem dX6_few_19 : decode cX6_few 19 = .ok (.aload_n 0, 1) := by decide +kernel
theorem dX6_few_20 : decode cX6_few 20 = .ok (.iconst (-1), 1) := by decide +kernel
theorem dX6_few_21 : decode cX6_few 21 = .ok (.invokevirtual 93, 3) := by decide +kernel
theorem dX6_few_24 : decode cX6_few 24 = .ok (.ireturn, 1) := by decide +kernel
theorem dX6_few_25 : decode cX6_few 25 = .ok (.iload_n 3, 1) := by decide +kernel
theorem dX6_few_26 : decode cX6_few 26 = .ok (.ifCond .ge 10, 3) := by decide +kernel
theorem dX6_few_29 : decode cX6_few 29 = .ok (.aload_n 0, 1) := by decide +kernel
theorem dX6_few_30 : decode cX6_few 30 = .ok (.bipush (-4), 2) := by decide +kernel
theorem dX6_few_32 : decode cX6_few 32 = .ok (.invokevirtual 93, 3) := by decide +kernel
theorem dX6_few_35 : decode cX6_few 35 = .ok (.ireturn, 1) := by decide +kernel
theorem dX6_few_36 : decode cX6_few 36 = .ok (.iload_n 3, 1) := by decide +kernel
theorem dX6_few_37 : decode cX6_few 37 = .ok (.ldc 152, 2) := by decide +kernel
theorem dX6_few_39 : decode cX6_few 39 = .ok (.if_icmp .le 10, 3) := by decide +kernel
theorem dX6_few_42 : decode cX6_few 42 = .ok (.aload_n 0, 1) := by decide +kernel
theorem dX6_few_43 : decode cX6_few 43 = .ok (.bipush (-6), 2) := by decide +kernel
theorem dX6_few_45 : decode cX6_few 45 = .ok (.invokevirtual 93, 3) := by decide +kernel
theorem dX6_few_48 : decode cX6_few 48 = .ok (.ireturn, 1) := by decide +kernel
theorem dX6_few_49 : decode cX6_few 49 = .ok (.iconst 0, 1) := by decide +kernel
theorem dX6_few_50 : decode cX6_few 50 = .ok (.istore 4, 2) := by decide +kernel
theorem dX6_few_52 : decode cX6_few 52 = .ok (.iconst 0, 1) := by decide +kernel
theorem dX6_few_53 : decode cX6_few 53 = .ok (.istore 5, 2) := by decide +kernel
theorem dX6_few_55 : decode cX6_few 55 = .ok (.iload 5, 2) := by decide +kernel
theorem dX6_few_57 : decode cX6_few 57 = .ok (.aload_n 0, 1) := by decide +kernel
theorem dX6_few_58 : decode cX6_few 58 = .ok (.getfield 23, 3) := by decide +kernel
theorem dX6_few_61 : decode cX6_few 61 = .ok (.iload_n 1, 1) := by decide +kernel
theorem dX6_few_62 : decode cX6_few 62 = .ok (.iaload, 1) := by decide +kernel
theorem dX6_few_63 : decode cX6_few 63 = .ok (.if_icmp .ge 160, 3) := by decide +kernel
theorem dX6_few_66 : decode cX6_few 66 = .ok (.iload_n 1, 1) := by decide +kernel
theorem dX6_few_67 : decode cX6_few 67 = .ok (.iload 5, 2) := by decide +kernel
theorem dX6_few_69 : decode cX6_few 69 = .ok (.invokestatic 97, 3) := by decide +kernel
theorem dX6_few_72 : decode cX6_few 72 = .ok (.istore 6, 2) := by decide +kernel
theorem dX6_few_74 : decode cX6_few 74 = .ok (.aload_n 0, 1) := by decide +kernel
theorem dX6_few_75 : decode cX6_few 75 = .ok (.getfield 26, 3) := by decide +kernel
theorem dX6_few_78 : decode cX6_few 78 = .ok (.iload 6, 2) := by decide +kernel
theorem dX6_few_80 : decode cX6_few 80 = .ok (.iaload, 1) := by decide +kernel
theorem dX6_few_81 : decode cX6_few 81 = .ok (.iconst 4, 1) := by decide +kernel
theorem dX6_few_82 : decode cX6_few 82 = .ok (.if_icmp .ne 6, 3) := by decide +kernel
theorem dX6_few_85 : decode cX6_few 85 = .ok (.goto 132, 3) := by decide +kernel
theorem dX6_few_88 : decode cX6_few 88 = .ok (.aload_n 0, 1) := by decide +kernel
theorem dX6_few_89 : decode cX6_few 89 = .ok (.getfield 13, 3) := by decide +kernel
theorem dX6_few_92 : decode cX6_few 92 = .ok (.aload_n 0, 1) := by decide +kernel
theorem dX6_few_93 : decode cX6_few 93 = .ok (.getfield 26, 3) := by decide +kernel
theorem dX6_few_96 : decode cX6_few 96 = .ok (.iload 6, 2) := by decide +kernel
theorem dX6_few_98 : decode cX6_few 98 = .ok (.iaload, 1) := by decide +kernel
theorem dX6_few_99 : decode cX6_few 99 = .ok (.iaload, 1) := by decide +kernel
theorem dX6_few_100 : decode cX6_few 100 = .ok (.istore 7, 2) := by decide +kernel
theorem dX6_few_102 : decode cX6_few 102 = .ok (.aload_n 0, 1) := by decide +kernel
theorem dX6_few_103 : decode cX6_few 103 = .ok (.getfield 16, 3) := by decide +kernel
theorem dX6_few_106 : decode cX6_few 106 = .ok (.iload_n 2, 1) := by decide +kernel
end
section
theorem dX6_few_107 : decode cX6_few 107 = .ok (.iaload, 1) := by decide +kernel
theorem dX6_few_108 : decode cX6_few 108 = .ok (.ifCond .eq 8, 3) := by decide +kernel
theorem dX6_few_111 : decode cX6_few 111 = .ok (.iload 7, 2) := by decide +kernel
theorem dX6_few_113 : decode cX6_few 113 = .ok (.ifCond .ne 8, 3) := by decide +kernel
theorem dX6_few_116 : decode cX6_few 116 = .ok (.ldc 152, 2) := by decide +kernel
theorem dX6_few_118 : decode cX6_few 118 = .ok (.goto 24, 3) := by decide +kernel
theorem dX6_few_121 : decode cX6_few 121 = .ok (.ldc 152, 2) := by decide +kernel
theorem dX6_few_123 : decode cX6_few 123 = .ok (.sipush 180, 3) := by decide +kernel
theorem dX6_few_126 : decode cX6_few 126 = .ok (.iload 7, 2) := by decide +kernel
theorem dX6_few_128 : decode cX6_few 128 = .ok (.isub, 1) := by decide +kernel
theorem dX6_few_129 : decode cX6_few 129 = .ok (.ldc 192, 2) := by decide +kernel
theorem dX6_few_131 : decode cX6_few 131 = .ok (.imul, 1) := by decide +kernel
theorem dX6_few_132 : decode cX6_few 132 = .ok (.aload_n 0, 1) := by decide +kernel
theorem dX6_few_133 : decode cX6_few 133 = .ok (.getfield 16, 3) := by decide +kernel
theorem dX6_few_136 : decode cX6_few 136 = .ok (.iload_n 2, 1) := by decide +kernel
theorem dX6_few_137 : decode cX6_few 137 = .ok (.iaload, 1) := by decide +kernel
theorem dX6_few_138 : decode cX6_few 138 = .ok (.idiv, 1) := by decide +kernel
theorem dX6_few_139 : decode cX6_few 139 = .ok (.invokestatic 164, 3) := by decide +kernel
theorem dX6_few_142 : decode cX6_few 142 = .ok (.istore 8, 2) := by decide +kernel
theorem dX6_few_144 : decode cX6_few 144 = .ok (.aload_n 0, 1) := by decide +kernel
theorem dX6_few_145 : decode cX6_few 145 = .ok (.getfield 29, 3) := by decide +kernel
theorem dX6_few_148 : decode cX6_few 148 = .ok (.iload 6, 2) := by decide +kernel
theorem dX6_few_150 : decode cX6_few 150 = .ok (.iaload, 1) := by decide +kernel
theorem dX6_few_151 : decode cX6_few 151 = .ok (.ifCond .ge 7, 3) := by decide +kernel
theorem dX6_few_154 : decode cX6_few 154 = .ok (.iload_n 3, 1) := by decide +kernel
theorem dX6_few_155 : decode cX6_few 155 = .ok (.goto 22, 3) := by decide +kernel
theorem dX6_few_158 : decode cX6_few 158 = .ok (.iconst 0, 1) := by decide +kernel
theorem dX6_few_159 : decode cX6_few 159 = .ok (.iload_n 3, 1) := by decide +kernel
theorem dX6_few_160 : decode cX6_few 160 = .ok (.aload_n 0, 1) := by decide +kernel
theorem dX6_few_161 : decode cX6_few 161 = .ok (.aload_n 0, 1) := by decide +kernel
theorem dX6_few_162 : decode cX6_few 162 = .ok (.getfield 29, 3) := by decide +kernel
theorem dX6_few_165 : decode cX6_few 165 = .ok (.iload 6, 2) := by decide +kernel
theorem dX6_few_167 : decode cX6_few 167 = .ok (.iaload, 1) := by decide +kernel
theorem dX6_few_168 : decode cX6_few 168 = .ok (.iload 7, 2) := by decide +kernel
theorem dX6_few_170 : decode cX6_few 170 = .ok (.invokevirtual 161, 3) := by decide +kernel
theorem dX6_few_173 : decode cX6_few 173 = .ok (.isub, 1) := by decide +kernel
theorem dX6_few_174 : decode cX6_few 174 = .ok (.invokestatic 193, 3) := by decide +kernel
theorem dX6_few_177 : decode cX6_few 177 = .ok (.istore 9, 2) := by decide +kernel
theorem dX6_few_179 : decode cX6_few 179 = .ok (.iload 9, 2) := by decide +kernel
theorem dX6_few_181 : decode cX6_few 181 = .ok (.iload 8, 2) := by decide +kernel
theorem dX6_few_183 : decode cX6_few 183 = .ok (.iadd, 1) := by decide +kernel
theorem dX6_few_184 : decode cX6_few 184 = .ok (.iconst 1, 1) := by decide +kernel
theorem dX6_few_185 : decode cX6_few 185 = .ok (.isub, 1) := by decide +kernel
theorem dX6_few_186 : decode cX6_few 186 = .ok (.iload 8, 2) := by decide +kernel
theorem dX6_few_188 : decode cX6_few 188 = .ok (.idiv, 1) := by decide +kernel
theorem dX6_few_189 : decode cX6_few 189 = .ok (.istore 10, 2) := by decide +kernel
theorem dX6_few_191 : decode cX6_few 191 = .ok (.iload 4, 2) := by decide +kernel
theorem dX6_few_193 : decode cX6_few 193 = .ok (.aload_n 0, 1) := by decide +kernel
theorem dX6_few_194 : decode cX6_few 194 = .ok (.getfield 29, 3) := by decide +kernel
theorem dX6_few_197 : decode cX6_few 197 = .ok (.iload 6, 2) := by decide +kernel
theorem dX6_few_199 : decode cX6_few 199 = .ok (.iaload, 1) := by decide +kernel
theorem dX6_few_200 : decode cX6_few 200 = .ok (.ifCond .ge 12, 3) := by decide +kernel
theorem dX6_few_203 : decode cX6_few 203 = .ok (.iconst 1, 1) := by decide +kernel
theorem dX6_few_204 : decode cX6_few 204 = .ok (.iload 10, 2) := by decide +kernel
theorem dX6_few_206 : decode cX6_few 206 = .ok (.invokestatic 193, 3) := by decide +kernel
theorem dX6_few_209 : decode cX6_few 209 = .ok (.goto 5, 3) := by decide +kernel
theorem dX6_few_212 : decode cX6_few 212 = .ok (.iload 10, 2) := by decide +kernel
theorem dX6_few_214 : decode cX6_few 214 = .ok (.iadd, 1) := by decide +kernel
theorem dX6_few_215 : decode cX6_few 215 = .ok (.istore 4, 2) := by decide +kernel
theorem dX6_few_217 : decode cX6_few 217 = .ok (.iinc 5 1, 3) := by decide +kernel
theorem dX6_few_220 : decode cX6_few 220 = .ok (.goto (-165), 3) := by decide +kernel
theorem dX6_few_223 : decode cX6_few 223 = .ok (.iload 4, 2) := by decide +kernel
theorem dX6_few_225 : decode cX6_few 225 = .ok (.ireturn, 1) := by decide +kernel
theorem dX6_asOf_0 : decode cX6_asOf 0 = .ok (.iload_n 1, 1) := by decide +kernel
theorem dX6_asOf_1 : decode cX6_asOf 1 = .ok (.aload_n 0, 1) := by decide +kernel
theorem dX6_asOf_2 : decode cX6_asOf 2 = .ok (.getfield 107, 3) := by decide +kernel
theorem dX6_asOf_5 : decode cX6_asOf 5 = .ok (.invokestatic 89, 3) := by decide +kernel
theorem dX6_asOf_8 : decode cX6_asOf 8 = .ok (.ifCond .ne 7, 3) := by decide +kernel
theorem dX6_asOf_11 : decode cX6_asOf 11 = .ok (.iconst (-1), 1) := by decide +kernel
theorem dX6_asOf_12 : decode cX6_asOf 12 = .ok (.goto 26, 3) := by decide +kernel
theorem dX6_asOf_15 : decode cX6_asOf 15 = .ok (.iload_n 2, 1) := by decide +kernel
theorem dX6_asOf_16 : decode cX6_asOf 16 = .ok (.ifCond .ge 8, 3) := by decide +kernel
theorem dX6_asOf_19 : decode cX6_asOf 19 = .ok (.bipush (-4), 2) := by decide +kernel
theorem dX6_asOf_21 : decode cX6_asOf 21 = .ok (.goto 17, 3) := by decide +kernel
theorem dX6_asOf_24 : decode cX6_asOf 24 = .ok (.iload_n 2, 1) := by decide +kernel
theorem dX6_asOf_25 : decode cX6_asOf 25 = .ok (.aload_n 0, 1) := by decide +kernel
theorem dX6_asOf_26 : decode cX6_asOf 26 = .ok (.getfield 104, 3) := by decide +kernel
theorem dX6_asOf_29 : decode cX6_asOf 29 = .ok (.if_icmp .le 8, 3) := by decide +kernel
theorem dX6_asOf_32 : decode cX6_asOf 32 = .ok (.bipush (-6), 2) := by decide +kernel
theorem dX6_asOf_34 : decode cX6_asOf 34 = .ok (.goto 4, 3) := by decide +kernel
theorem dX6_asOf_37 : decode cX6_asOf 37 = .ok (.iconst 0, 1) := by decide +kernel
theorem dX6_asOf_38 : decode cX6_asOf 38 = .ok (.istore_n 3, 1) := by decide +kernel
theorem dX6_asOf_39 : decode cX6_asOf 39 = .ok (.iload_n 3, 1) := by decide +kernel
theorem dX6_asOf_40 : decode cX6_asOf 40 = .ok (.ifCond .eq 12, 3) := by decide +kernel
theorem dX6_asOf_43 : decode cX6_asOf 43 = .ok (.aload_n 0, 1) := by decide +kernel
theorem dX6_asOf_44 : decode cX6_asOf 44 = .ok (.iload_n 3, 1) := by decide +kernel
theorem dX6_asOf_45 : decode cX6_asOf 45 = .ok (.invokevirtual 93, 3) := by decide +kernel
theorem dX6_asOf_48 : decode cX6_asOf 48 = .ok (.bipush 10, 2) := by decide +kernel
theorem dX6_asOf_50 : decode cX6_asOf 50 = .ok (.isub, 1) := by decide +kernel
theorem dX6_asOf_51 : decode cX6_asOf 51 = .ok (.ireturn, 1) := by decide +kernel
theorem dX6_asOf_52 : decode cX6_asOf 52 = .ok (.bipush (-9), 2) := by decide +kernel
theorem dX6_asOf_54 : decode cX6_asOf 54 = .ok (.istore 4, 2) := by decide +kernel
theorem dX6_asOf_56 : decode cX6_asOf 56 = .ok (.iconst 0, 1) := by decide +kernel
theorem dX6_asOf_57 : decode cX6_asOf 57 = .ok (.istore 5, 2) := by decide +kernel
theorem dX6_asOf_59 : decode cX6_asOf 59 = .ok (.iload 5, 2) := by decide +kernel
theorem dX6_asOf_61 : decode cX6_asOf 61 = .ok (.aload_n 0, 1) := by decide +kernel
theorem dX6_asOf_62 : decode cX6_asOf 62 = .ok (.getfield 101, 3) := by decide +kernel
theorem dX6_asOf_65 : decode cX6_asOf 65 = .ok (.if_icmp .ge 40, 3) := by decide +kernel
theorem dX6_asOf_68 : decode cX6_asOf 68 = .ok (.aload_n 0, 1) := by decide +kernel
theorem dX6_asOf_69 : decode cX6_asOf 69 = .ok (.getfield 65, 3) := by decide +kernel
theorem dX6_asOf_72 : decode cX6_asOf 72 = .ok (.iload 5, 2) := by decide +kernel
theorem dX6_asOf_74 : decode cX6_asOf 74 = .ok (.iaload, 1) := by decide +kernel
theorem dX6_asOf_75 : decode cX6_asOf 75 = .ok (.iload_n 1, 1) := by decide +kernel
theorem dX6_asOf_76 : decode cX6_asOf 76 = .ok (.if_icmp .ne 23, 3) := by decide +kernel
theorem dX6_asOf_79 : decode cX6_asOf 79 = .ok (.aload_n 0, 1) := by decide +kernel
theorem dX6_asOf_80 : decode cX6_asOf 80 = .ok (.getfield 68, 3) := by decide +kernel
theorem dX6_asOf_83 : decode cX6_asOf 83 = .ok (.iload 5, 2) := by decide +kernel
theorem dX6_asOf_85 : decode cX6_asOf 85 = .ok (.iaload, 1) := by decide +kernel
theorem dX6_asOf_86 : decode cX6_asOf 86 = .ok (.iload_n 2, 1) := by decide +kernel
theorem dX6_asOf_87 : decode cX6_asOf 87 = .ok (.if_icmp .gt 12, 3) := by decide +kernel
theorem dX6_asOf_90 : decode cX6_asOf 90 = .ok (.aload_n 0, 1) := by decide +kernel
theorem dX6_asOf_91 : decode cX6_asOf 91 = .ok (.getfield 71, 3) := by decide +kernel
theorem dX6_asOf_94 : decode cX6_asOf 94 = .ok (.iload 5, 2) := by decide +kernel
theorem dX6_asOf_96 : decode cX6_asOf 96 = .ok (.iaload, 1) := by decide +kernel
theorem dX6_asOf_97 : decode cX6_asOf 97 = .ok (.istore 4, 2) := by decide +kernel
theorem dX6_asOf_99 : decode cX6_asOf 99 = .ok (.iinc 5 1, 3) := by decide +kernel
theorem dX6_asOf_102 : decode cX6_asOf 102 = .ok (.goto (-43), 3) := by decide +kernel
theorem dX6_asOf_105 : decode cX6_asOf 105 = .ok (.iload 4, 2) := by decide +kernel
theorem dX6_asOf_107 : decode cX6_asOf 107 = .ok (.ireturn, 1) := by decide +kernel
theorem dX6_tyreOf_0 : decode cX6_tyreOf 0 = .ok (.iload_n 1, 1) := by decide +kernel
theorem dX6_tyreOf_1 : decode cX6_tyreOf 1 = .ok (.aload_n 0, 1) := by decide +kernel
theorem dX6_tyreOf_2 : decode cX6_tyreOf 2 = .ok (.getfield 107, 3) := by decide +kernel
theorem dX6_tyreOf_5 : decode cX6_tyreOf 5 = .ok (.invokestatic 89, 3) := by decide +kernel
theorem dX6_tyreOf_8 : decode cX6_tyreOf 8 = .ok (.ifCond .ne 6, 3) := by decide +kernel
theorem dX6_tyreOf_11 : decode cX6_tyreOf 11 = .ok (.bipush (-20), 2) := by decide +kernel
theorem dX6_tyreOf_13 : decode cX6_tyreOf 13 = .ok (.ireturn, 1) := by decide +kernel
theorem dX6_tyreOf_14 : decode cX6_tyreOf 14 = .ok (.iload_n 2, 1) := by decide +kernel
theorem dX6_tyreOf_15 : decode cX6_tyreOf 15 = .ok (.tableswitch 128 0 8 #[49, 56, 63, 70, 77, 84, 91, 98, 105], 49) := by decide +kernel
theorem dX6_tyreOf_64 : decode cX6_tyreOf 64 = .ok (.aload_n 0, 1) := by decide +kernel
theorem dX6_tyreOf_65 : decode cX6_tyreOf 65 = .ok (.getfield 35, 3) := by decide +kernel
theorem dX6_tyreOf_68 : decode cX6_tyreOf 68 = .ok (.iload_n 1, 1) := by decide +kernel
theorem dX6_tyreOf_69 : decode cX6_tyreOf 69 = .ok (.iaload, 1) := by decide +kernel
theorem dX6_tyreOf_70 : decode cX6_tyreOf 70 = .ok (.ireturn, 1) := by decide +kernel
theorem dX6_tyreOf_71 : decode cX6_tyreOf 71 = .ok (.aload_n 0, 1) := by decide +kernel
theorem dX6_tyreOf_72 : decode cX6_tyreOf 72 = .ok (.getfield 38, 3) := by decide +kernel
theorem dX6_tyreOf_75 : decode cX6_tyreOf 75 = .ok (.iload_n 1, 1) := by decide +kernel
theorem dX6_tyreOf_76 : decode cX6_tyreOf 76 = .ok (.iaload, 1) := by decide +kernel
theorem dX6_tyreOf_77 : decode cX6_tyreOf 77 = .ok (.ireturn, 1) := by decide +kernel
theorem dX6_tyreOf_78 : decode cX6_tyreOf 78 = .ok (.aload_n 0, 1) := by decide +kernel
theorem dX6_tyreOf_79 : decode cX6_tyreOf 79 = .ok (.getfield 41, 3) := by decide +kernel
theorem dX6_tyreOf_82 : decode cX6_tyreOf 82 = .ok (.iload_n 1, 1) := by decide +kernel
theorem dX6_tyreOf_83 : decode cX6_tyreOf 83 = .ok (.iaload, 1) := by decide +kernel
theorem dX6_tyreOf_84 : decode cX6_tyreOf 84 = .ok (.ireturn, 1) := by decide +kernel
theorem dX6_tyreOf_85 : decode cX6_tyreOf 85 = .ok (.aload_n 0, 1) := by decide +kernel
theorem dX6_tyreOf_86 : decode cX6_tyreOf 86 = .ok (.getfield 44, 3) := by decide +kernel
theorem dX6_tyreOf_89 : decode cX6_tyreOf 89 = .ok (.iload_n 1, 1) := by decide +kernel
theorem dX6_tyreOf_90 : decode cX6_tyreOf 90 = .ok (.iaload, 1) := by decide +kernel
theorem dX6_tyreOf_91 : decode cX6_tyreOf 91 = .ok (.ireturn, 1) := by decide +kernel
theorem dX6_tyreOf_92 : decode cX6_tyreOf 92 = .ok (.aload_n 0, 1) := by decide +kernel
theorem dX6_tyreOf_93 : decode cX6_tyreOf 93 = .ok (.getfield 47, 3) := by decide +kernel
theorem dX6_tyreOf_96 : decode cX6_tyreOf 96 = .ok (.iload_n 1, 1) := by decide +kernel
theorem dX6_tyreOf_97 : decode cX6_tyreOf 97 = .ok (.iaload, 1) := by decide +kernel
theorem dX6_tyreOf_98 : decode cX6_tyreOf 98 = .ok (.ireturn, 1) := by decide +kernel
theorem dX6_tyreOf_99 : decode cX6_tyreOf 99 = .ok (.aload_n 0, 1) := by decide +kernel
theorem dX6_tyreOf_100 : decode cX6_tyreOf 100 = .ok (.getfield 56, 3) := by decide +kernel
theorem dX6_tyreOf_103 : decode cX6_tyreOf 103 = .ok (.iload_n 1, 1) := by decide +kernel
theorem dX6_tyreOf_104 : decode cX6_tyreOf 104 = .ok (.iaload, 1) := by decide +kernel
theorem dX6_tyreOf_105 : decode cX6_tyreOf 105 = .ok (.ireturn, 1) := by decide +kernel
theorem dX6_tyreOf_106 : decode cX6_tyreOf 106 = .ok (.aload_n 0, 1) := by decide +kernel
theorem dX6_tyreOf_107 : decode cX6_tyreOf 107 = .ok (.getfield 50, 3) := by decide +kernel
theorem dX6_tyreOf_110 : decode cX6_tyreOf 110 = .ok (.iload_n 1, 1) := by decide +kernel
theorem dX6_tyreOf_111 : decode cX6_tyreOf 111 = .ok (.iaload, 1) := by decide +kernel
theorem dX6_tyreOf_112 : decode cX6_tyreOf 112 = .ok (.ireturn, 1) := by decide +kernel
theorem dX6_tyreOf_113 : decode cX6_tyreOf 113 = .ok (.aload_n 0, 1) := by decide +kernel
theorem dX6_tyreOf_114 : decode cX6_tyreOf 114 = .ok (.iload_n 1, 1) := by decide +kernel
theorem dX6_tyreOf_115 : decode cX6_tyreOf 115 = .ok (.iconst 0, 1) := by decide +kernel
theorem dX6_tyreOf_116 : decode cX6_tyreOf 116 = .ok (.invokevirtual 149, 3) := by decide +kernel
theorem dX6_tyreOf_119 : decode cX6_tyreOf 119 = .ok (.ireturn, 1) := by decide +kernel
theorem dX6_tyreOf_120 : decode cX6_tyreOf 120 = .ok (.aload_n 0, 1) := by decide +kernel
theorem dX6_tyreOf_121 : decode cX6_tyreOf 121 = .ok (.getfield 50, 3) := by decide +kernel
theorem dX6_tyreOf_124 : decode cX6_tyreOf 124 = .ok (.iload_n 1, 1) := by decide +kernel
theorem dX6_tyreOf_125 : decode cX6_tyreOf 125 = .ok (.iaload, 1) := by decide +kernel
theorem dX6_tyreOf_126 : decode cX6_tyreOf 126 = .ok (.bipush (-2), 2) := by decide +kernel
theorem dX6_tyreOf_128 : decode cX6_tyreOf 128 = .ok (.if_icmp .ne 12, 3) := by decide +kernel
theorem dX6_tyreOf_131 : decode cX6_tyreOf 131 = .ok (.aload_n 0, 1) := by decide +kernel
theorem dX6_tyreOf_132 : decode cX6_tyreOf 132 = .ok (.getfield 53, 3) := by decide +kernel
theorem dX6_tyreOf_135 : decode cX6_tyreOf 135 = .ok (.iload_n 1, 1) := by decide +kernel
theorem dX6_tyreOf_136 : decode cX6_tyreOf 136 = .ok (.iaload, 1) := by decide +kernel
theorem dX6_tyreOf_137 : decode cX6_tyreOf 137 = .ok (.goto 5, 3) := by decide +kernel
theorem dX6_tyreOf_140 : decode cX6_tyreOf 140 = .ok (.bipush (-9), 2) := by decide +kernel
theorem dX6_tyreOf_142 : decode cX6_tyreOf 142 = .ok (.ireturn, 1) := by decide +kernel
theorem dX6_tyreOf_143 : decode cX6_tyreOf 143 = .ok (.bipush (-20), 2) := by decide +kernel
theorem dX6_tyreOf_145 : decode cX6_tyreOf 145 = .ok (.ireturn, 1) := by decide +kernel
theorem dX6_reading_0 : decode cX6_reading 0 = .ok (.iload_n 1, 1) := by decide +kernel
theorem dX6_reading_1 : decode cX6_reading 1 = .ok (.aload_n 0, 1) := by decide +kernel
theorem dX6_reading_2 : decode cX6_reading 2 = .ok (.getfield 107, 3) := by decide +kernel
theorem dX6_reading_5 : decode cX6_reading 5 = .ok (.invokestatic 89, 3) := by decide +kernel
theorem dX6_reading_8 : decode cX6_reading 8 = .ok (.ifCond .eq 24, 3) := by decide +kernel
theorem dX6_reading_11 : decode cX6_reading 11 = .ok (.iload_n 2, 1) := by decide +kernel
theorem dX6_reading_12 : decode cX6_reading 12 = .ok (.aload_n 0, 1) := by decide +kernel
theorem dX6_reading_13 : decode cX6_reading 13 = .ok (.getfield 56, 3) := by decide +kernel
theorem dX6_reading_16 : decode cX6_reading 16 = .ok (.iload_n 1, 1) := by decide +kernel
theorem dX6_reading_17 : decode cX6_reading 17 = .ok (.iaload, 1) := by decide +kernel
theorem dX6_reading_18 : decode cX6_reading 18 = .ok (.invokestatic 89, 3) := by decide +kernel
theorem dX6_reading_21 : decode cX6_reading 21 = .ok (.ifCond .eq 11, 3) := by decide +kernel
theorem dX6_reading_24 : decode cX6_reading 24 = .ok (.iload_n 3, 1) := by decide +kernel
theorem dX6_reading_25 : decode cX6_reading 25 = .ok (.iconst 2, 1) := by decide +kernel
theorem dX6_reading_26 : decode cX6_reading 26 = .ok (.invokestatic 89, 3) := by decide +kernel
theorem dX6_reading_29 : decode cX6_reading 29 = .ok (.ifCond .ne 6, 3) := by decide +kernel
theorem dX6_reading_32 : decode cX6_reading 32 = .ok (.bipush (-9), 2) := by decide +kernel
theorem dX6_reading_34 : decode cX6_reading 34 = .ok (.ireturn, 1) := by decide +kernel
theorem dX6_reading_35 : decode cX6_reading 35 = .ok (.iload_n 3, 1) := by decide +kernel
theorem dX6_reading_36 : decode cX6_reading 36 = .ok (.ifCond .ne 17, 3) := by decide +kernel
theorem dX6_reading_39 : decode cX6_reading 39 = .ok (.aload_n 0, 1) := by decide +kernel
theorem dX6_reading_40 : decode cX6_reading 40 = .ok (.getfield 59, 3) := by decide +kernel
theorem dX6_reading_43 : decode cX6_reading 43 = .ok (.bipush 13, 2) := by decide +kernel
theorem dX6_reading_45 : decode cX6_reading 45 = .ok (.iload_n 1, 1) := by decide +kernel
theorem dX6_reading_46 : decode cX6_reading 46 = .ok (.imul, 1) := by decide +kernel
theorem dX6_reading_47 : decode cX6_reading 47 = .ok (.iload_n 2, 1) := by decide +kernel
theorem dX6_reading_48 : decode cX6_reading 48 = .ok (.iadd, 1) := by decide +kernel
theorem dX6_reading_49 : decode cX6_reading 49 = .ok (.iaload, 1) := by decide +kernel
theorem dX6_reading_50 : decode cX6_reading 50 = .ok (.goto 14, 3) := by decide +kernel
theorem dX6_reading_53 : decode cX6_reading 53 = .ok (.aload_n 0, 1) := by decide +kernel
theorem dX6_reading_54 : decode cX6_reading 54 = .ok (.getfield 62, 3) := by decide +kernel
theorem dX6_reading_57 : decode cX6_reading 57 = .ok (.bipush 13, 2) := by decide +kernel
theorem dX6_reading_59 : decode cX6_reading 59 = .ok (.iload_n 1, 1) := by decide +kernel
theorem dX6_reading_60 : decode cX6_reading 60 = .ok (.imul, 1) := by decide +kernel
theorem dX6_reading_61 : decode cX6_reading 61 = .ok (.iload_n 2, 1) := by decide +kernel
theorem dX6_reading_62 : decode cX6_reading 62 = .ok (.iadd, 1) := by decide +kernel
theorem dX6_reading_63 : decode cX6_reading 63 = .ok (.iaload, 1) := by decide +kernel
theorem dX6_reading_64 : decode cX6_reading 64 = .ok (.ireturn, 1) := by decide +kernel
theorem dX6_placeOf_0 : decode cX6_placeOf 0 = .ok (.aload_n 0, 1) := by decide +kernel
theorem dX6_placeOf_1 : decode cX6_placeOf 1 = .ok (.iload_n 1, 1) := by decide +kernel
theorem dX6_placeOf_2 : decode cX6_placeOf 2 = .ok (.iload_n 2, 1) := by decide +kernel
theorem dX6_placeOf_3 : decode cX6_placeOf 3 = .ok (.invokevirtual 121, 3) := by decide +kernel
theorem dX6_placeOf_6 : decode cX6_placeOf 6 = .ok (.ifCond .ne 6, 3) := by decide +kernel
theorem dX6_placeOf_9 : decode cX6_placeOf 9 = .ok (.bipush (-9), 2) := by decide +kernel
theorem dX6_placeOf_11 : decode cX6_placeOf 11 = .ok (.ireturn, 1) := by decide +kernel
theorem dX6_placeOf_12 : decode cX6_placeOf 12 = .ok (.iload_n 1, 1) := by decide +kernel
theorem dX6_placeOf_13 : decode cX6_placeOf 13 = .ok (.iload_n 2, 1) := by decide +kernel
theorem dX6_placeOf_14 : decode cX6_placeOf 14 = .ok (.invokestatic 97, 3) := by decide +kernel
theorem dX6_placeOf_17 : decode cX6_placeOf 17 = .ok (.istore 4, 2) := by decide +kernel
theorem dX6_placeOf_19 : decode cX6_placeOf 19 = .ok (.iload_n 3, 1) := by decide +kernel
theorem dX6_placeOf_20 : decode cX6_placeOf 20 = .ok (.ifCond .ne 13, 3) := by decide +kernel
theorem dX6_placeOf_23 : decode cX6_placeOf 23 = .ok (.aload_n 0, 1) := by decide +kernel
theorem dX6_placeOf_24 : decode cX6_placeOf 24 = .ok (.getfield 26, 3) := by decide +kernel
theorem dX6_placeOf_27 : decode cX6_placeOf 27 = .ok (.iload 4, 2) := by decide +kernel
theorem dX6_placeOf_29 : decode cX6_placeOf 29 = .ok (.iaload, 1) := by decide +kernel
theorem dX6_placeOf_30 : decode cX6_placeOf 30 = .ok (.goto 65, 3) := by decide +kernel
theorem dX6_placeOf_33 : decode cX6_placeOf 33 = .ok (.iload_n 3, 1) := by decide +kernel
theorem dX6_placeOf_34 : decode cX6_placeOf 34 = .ok (.iconst 1, 1) := by decide +kernel
theorem dX6_placeOf_35 : decode cX6_placeOf 35 = .ok (.if_icmp .ne 28, 3) := by decide +kernel
theorem dX6_placeOf_38 : decode cX6_placeOf 38 = .ok (.aload_n 0, 1) := by decide +kernel
theorem dX6_placeOf_39 : decode cX6_placeOf 39 = .ok (.getfield 29, 3) := by decide +kernel
theorem dX6_placeOf_42 : decode cX6_placeOf 42 = .ok (.iload 4, 2) := by decide +kernel
theorem dX6_placeOf_44 : decode cX6_placeOf 44 = .ok (.iaload, 1) := by decide +kernel
theorem dX6_placeOf_45 : decode cX6_placeOf 45 = .ok (.ifCond .ge 8, 3) := by decide +kernel
theorem dX6_placeOf_48 : decode cX6_placeOf 48 = .ok (.bipush (-9), 2) := by decide +kernel
theorem dX6_placeOf_50 : decode cX6_placeOf 50 = .ok (.goto 45, 3) := by decide +kernel
theorem dX6_placeOf_53 : decode cX6_placeOf 53 = .ok (.aload_n 0, 1) := by decide +kernel
theorem dX6_placeOf_54 : decode cX6_placeOf 54 = .ok (.getfield 29, 3) := by decide +kernel
theorem dX6_placeOf_57 : decode cX6_placeOf 57 = .ok (.iload 4, 2) := by decide +kernel
theorem dX6_placeOf_59 : decode cX6_placeOf 59 = .ok (.iaload, 1) := by decide +kernel
theorem dX6_placeOf_60 : decode cX6_placeOf 60 = .ok (.goto 35, 3) := by decide +kernel
theorem dX6_placeOf_63 : decode cX6_placeOf 63 = .ok (.iload_n 3, 1) := by decide +kernel
theorem dX6_placeOf_64 : decode cX6_placeOf 64 = .ok (.iconst 2, 1) := by decide +kernel
theorem dX6_placeOf_65 : decode cX6_placeOf 65 = .ok (.if_icmp .ne 28, 3) := by decide +kernel
theorem dX6_placeOf_68 : decode cX6_placeOf 68 = .ok (.aload_n 0, 1) := by decide +kernel
theorem dX6_placeOf_69 : decode cX6_placeOf 69 = .ok (.getfield 32, 3) := by decide +kernel
theorem dX6_placeOf_72 : decode cX6_placeOf 72 = .ok (.iload 4, 2) := by decide +kernel
theorem dX6_placeOf_74 : decode cX6_placeOf 74 = .ok (.iaload, 1) := by decide +kernel
theorem dX6_placeOf_75 : decode cX6_placeOf 75 = .ok (.ifCond .ge 8, 3) := by decide +kernel
theorem dX6_placeOf_78 : decode cX6_placeOf 78 = .ok (.bipush (-9), 2) := by decide +kernel
theorem dX6_placeOf_80 : decode cX6_placeOf 80 = .ok (.goto 15, 3) := by decide +kernel
theorem dX6_placeOf_83 : decode cX6_placeOf 83 = .ok (.aload_n 0, 1) := by decide +kernel
theorem dX6_placeOf_84 : decode cX6_placeOf 84 = .ok (.getfield 32, 3) := by decide +kernel
theorem dX6_placeOf_87 : decode cX6_placeOf 87 = .ok (.iload 4, 2) := by decide +kernel
theorem dX6_placeOf_89 : decode cX6_placeOf 89 = .ok (.iaload, 1) := by decide +kernel
theorem dX6_placeOf_90 : decode cX6_placeOf 90 = .ok (.goto 5, 3) := by decide +kernel
theorem dX6_placeOf_93 : decode cX6_placeOf 93 = .ok (.bipush (-9), 2) := by decide +kernel
theorem dX6_placeOf_95 : decode cX6_placeOf 95 = .ok (.ireturn, 1) := by decide +kernel
theorem dX6_count_0 : decode cX6_count 0 = .ok (.iload_n 1, 1) := by decide +kernel
theorem dX6_count_1 : decode cX6_count 1 = .ok (.bipush 10, 2) := by decide +kernel
theorem dX6_count_3 : decode cX6_count 3 = .ok (.if_icmp .le 19, 3) := by decide +kernel
theorem dX6_count_6 : decode cX6_count 6 = .ok (.iload_n 1, 1) := by decide +kernel
theorem dX6_count_7 : decode cX6_count 7 = .ok (.bipush 17, 2) := by decide +kernel
theorem dX6_count_9 : decode cX6_count 9 = .ok (.if_icmp .ge 13, 3) := by decide +kernel
theorem dX6_count_12 : decode cX6_count 12 = .ok (.aload_n 0, 1) := by decide +kernel
theorem dX6_count_13 : decode cX6_count 13 = .ok (.getfield 7, 3) := by decide +kernel
theorem dX6_count_16 : decode cX6_count 16 = .ok (.iload_n 1, 1) := by decide +kernel
theorem dX6_count_17 : decode cX6_count 17 = .ok (.bipush 10, 2) := by decide +kernel
theorem dX6_count_19 : decode cX6_count 19 = .ok (.isub, 1) := by decide +kernel
theorem dX6_count_20 : decode cX6_count 20 = .ok (.iaload, 1) := by decide +kernel
theorem dX6_count_21 : decode cX6_count 21 = .ok (.ireturn, 1) := by decide +kernel
theorem dX6_count_22 : decode cX6_count 22 = .ok (.iconst 0, 1) := by decide +kernel
theorem dX6_count_23 : decode cX6_count 23 = .ok (.istore_n 2, 1) := by decide +kernel
theorem dX6_count_24 : decode cX6_count 24 = .ok (.iload_n 1, 1) := by decide +kernel
theorem dX6_count_25 : decode cX6_count 25 = .ok (.tableswitch 140 0 7 #[47, 52, 57, 62, 62, 62, 62, 135], 47) := by decide +kernel
theorem dX6_count_72 : decode cX6_count 72 = .ok (.aload_n 0, 1) := by decide +kernel
theorem dX6_count_73 : decode cX6_count 73 = .ok (.getfield 104, 3) := by decide +kernel
theorem dX6_count_76 : decode cX6_count 76 = .ok (.ireturn, 1) := by decide +kernel
theorem dX6_count_77 : decode cX6_count 77 = .ok (.aload_n 0, 1) := by decide +kernel
theorem dX6_count_78 : decode cX6_count 78 = .ok (.getfield 86, 3) := by decide +kernel
theorem dX6_count_81 : decode cX6_count 81 = .ok (.ireturn, 1) := by decide +kernel
theorem dX6_count_82 : decode cX6_count 82 = .ok (.aload_n 0, 1) := by decide +kernel
theorem dX6_count_83 : decode cX6_count 83 = .ok (.getfield 107, 3) := by decide +kernel
theorem dX6_count_86 : decode cX6_count 86 = .ok (.ireturn, 1) := by decide +kernel
theorem dX6_count_87 : decode cX6_count 87 = .ok (.iconst 0, 1) := by decide +kernel
theorem dX6_count_88 : decode cX6_count 88 = .ok (.istore_n 3, 1) := by decide +kernel
theorem dX6_count_89 : decode cX6_count 89 = .ok (.iload_n 3, 1) := by decide +kernel
theorem dX6_count_90 : decode cX6_count 90 = .ok (.aload_n 0, 1) := by decide +kernel
theorem dX6_count_91 : decode cX6_count 91 = .ok (.getfield 107, 3) := by decide +kernel
theorem dX6_count_94 : decode cX6_count 94 = .ok (.if_icmp .ge 64, 3) := by decide +kernel
theorem dX6_count_97 : decode cX6_count 97 = .ok (.iload_n 2, 1) := by decide +kernel
theorem dX6_count_98 : decode cX6_count 98 = .ok (.iload_n 1, 1) := by decide +kernel
theorem dX6_count_99 : decode cX6_count 99 = .ok (.iconst 4, 1) := by decide +kernel
theorem dX6_count_100 : decode cX6_count 100 = .ok (.if_icmp .ne 15, 3) := by decide +kernel
theorem dX6_count_103 : decode cX6_count 103 = .ok (.aload_n 0, 1) := by decide +kernel
theorem dX6_count_104 : decode cX6_count 104 = .ok (.getfield 50, 3) := by decide +kernel
theorem dX6_count_107 : decode cX6_count 107 = .ok (.iload_n 3, 1) := by decide +kernel
theorem dX6_count_108 : decode cX6_count 108 = .ok (.iaload, 1) := by decide +kernel
theorem dX6_count_109 : decode cX6_count 109 = .ok (.ifCond .lt 40, 3) := by decide +kernel
theorem dX6_count_112 : decode cX6_count 112 = .ok (.goto 33, 3) := by decide +kernel
theorem dX6_count_115 : decode cX6_count 115 = .ok (.aload_n 0, 1) := by decide +kernel
theorem dX6_count_116 : decode cX6_count 116 = .ok (.getfield 50, 3) := by decide +kernel
theorem dX6_count_119 : decode cX6_count 119 = .ok (.iload_n 3, 1) := by decide +kernel
theorem dX6_count_120 : decode cX6_count 120 = .ok (.iaload, 1) := by decide +kernel
theorem dX6_count_121 : decode cX6_count 121 = .ok (.iload_n 1, 1) := by decide +kernel
theorem dX6_count_122 : decode cX6_count 122 = .ok (.iconst 3, 1) := by decide +kernel
theorem dX6_count_123 : decode cX6_count 123 = .ok (.if_icmp .ne 7, 3) := by decide +kernel
theorem dX6_count_126 : decode cX6_count 126 = .ok (.iconst (-1), 1) := by decide +kernel
theorem dX6_count_127 : decode cX6_count 127 = .ok (.goto 15, 3) := by decide +kernel
theorem dX6_count_130 : decode cX6_count 130 = .ok (.iload_n 1, 1) := by decide +kernel
theorem dX6_count_131 : decode cX6_count 131 = .ok (.iconst 5, 1) := by decide +kernel
theorem dX6_count_132 : decode cX6_count 132 = .ok (.if_icmp .ne 8, 3) := by decide +kernel
theorem dX6_count_135 : decode cX6_count 135 = .ok (.bipush (-2), 2) := by decide +kernel
theorem dX6_count_137 : decode cX6_count 137 = .ok (.goto 5, 3) := by decide +kernel
theorem dX6_count_140 : decode cX6_count 140 = .ok (.bipush (-3), 2) := by decide +kernel
theorem dX6_count_142 : decode cX6_count 142 = .ok (.if_icmp .ne 7, 3) := by decide +kernel
theorem dX6_count_145 : decode cX6_count 145 = .ok (.iconst 1, 1) := by decide +kernel
theorem dX6_count_146 : decode cX6_count 146 = .ok (.goto 4, 3) := by decide +kernel
theorem dX6_count_149 : decode cX6_count 149 = .ok (.iconst 0, 1) := by decide +kernel
theorem dX6_count_150 : decode cX6_count 150 = .ok (.iadd, 1) := by decide +kernel
theorem dX6_count_151 : decode cX6_count 151 = .ok (.istore_n 2, 1) := by decide +kernel
theorem dX6_count_152 : decode cX6_count 152 = .ok (.iinc 3 1, 3) := by decide +kernel
theorem dX6_count_155 : decode cX6_count 155 = .ok (.goto (-66), 3) := by decide +kernel
theorem dX6_count_158 : decode cX6_count 158 = .ok (.iload_n 2, 1) := by decide +kernel
theorem dX6_count_159 : decode cX6_count 159 = .ok (.ireturn, 1) := by decide +kernel
theorem dX6_count_160 : decode cX6_count 160 = .ok (.aload_n 0, 1) := by decide +kernel
theorem dX6_count_161 : decode cX6_count 161 = .ok (.getfield 101, 3) := by decide +kernel
theorem dX6_count_164 : decode cX6_count 164 = .ok (.ireturn, 1) := by decide +kernel
theorem dX6_count_165 : decode cX6_count 165 = .ok (.bipush (-9), 2) := by decide +kernel
theorem dX6_count_167 : decode cX6_count 167 = .ok (.ireturn, 1) := by decide +kernel
end
section
/-- the words that every method may lean on -/
def je_T : List Cond := lw_tbl.filter goodWord
theorem je_in {w : Cond} (i : Nat) (h : lw_tbl[i]? = some w) (hg : goodWord w = true) : w ∈ je_T := List.mem_filter.mpr ⟨List.mem_of_getElem? h, hg⟩
theorem je_ins {ws : List Cond} (ps : List Nat) (hp : ws = ps.filterMap (fun i => lw_tbl[i]?)) (hg : ws.all goodWord = true) : ∀ w ∈ ws, w ∈ je_T := fun w hw => by
  have h1 := List.all_eq_true.mp hg w hw
  rw [hp] at hw
  obtain ⟨i, -, hi⟩ := List.mem_filterMap.mp hw
  exact List.mem_filter.mpr ⟨List.mem_of_getElem? hi, h1⟩
/-- what a virtual call needs: the link, the method, its choice, its class, its code -/
def je_V (own : String) (idx : Nat) (y : MethodName) (cc : ByteArray) (nL : Nat) (ret : Option FieldType) (n : Nat) : Prop :=
  Cond.methodLink own idx y ∈ je_T ∧ Cond.instanceMethod y ∈ je_T ∧ Cond.selects y.cls y y ∈ je_T ∧ Cond.initialized y.cls ∈ je_T ∧ Cond.code y cc nL ret ∈ je_T ∧ (y.cls ≠ "java/lang/invoke/MethodHandle" ∧ y.cls ≠ "java/lang/invoke/VarHandle" ∧ (parseMethodDescriptor y.desc).map (fun d => d.parameters.length) = some n) ∧ nL ≤ 20
def je_S (own : String) (idx : Nat) (y : MethodName) (cc : ByteArray) (nL : Nat) (ret : Option FieldType) (n : Nat) : Prop :=
  Cond.methodLink own idx y ∈ je_T ∧ Cond.static y ∈ je_T ∧ Cond.initialized y.cls ∈ je_T ∧ Cond.code y cc nL ret ∈ je_T ∧ (y.cls ≠ "java/lang/invoke/MethodHandle" ∧ y.cls ≠ "java/lang/invoke/VarHandle" ∧ (parseMethodDescriptor y.desc).map (fun d => d.parameters.length) = some n) ∧ nL ≤ 20
def je_I (own : String) (idx : Nat) (y : MethodName) (cc : ByteArray) (nL : Nat) (n : Nat) : Prop :=
  Cond.methodLink own idx y ∈ je_T ∧ Cond.instanceMethod y ∈ je_T ∧ y.name = "<init>" ∧ Cond.initialized y.cls ∈ je_T ∧ Cond.code y cc nL none ∈ je_T ∧ (y.cls ≠ "java/lang/invoke/MethodHandle" ∧ y.cls ≠ "java/lang/invoke/VarHandle" ∧ (parseMethodDescriptor y.desc).map (fun d => d.parameters.length) = some n) ∧ nL ≤ 20
/-- the links among nest mates -/
def je_N : List Cond := [Cond.methodLinkNest RX5 44 yX0_init RX5, Cond.methodLinkNest RX5 51 yX1_init RX5, Cond.methodLinkNest RX5 58 yX4_init RX5, Cond.methodLinkNest RX3 28 yX5_write RX5, Cond.methodLinkNest RX2 61 yX5_at RX5, Cond.methodLinkNest RX2 20 yX4_init RX5, Cond.methodLinkNest RX2 57 yX5_write RX5, Cond.methodLinkNest RX0 25 yX5_write RX5, Cond.methodLinkNest RX3 36 yX5_at RX5, Cond.methodLinkNest RX1 76 yX5_write RX5, Cond.methodLinkNest RX1 63 yX5_at RX5, Cond.methodLinkNest RX0 29 yX5_at RX5, Cond.castable "[I" "java/lang/Cloneable"]
theorem je_N_in : ∀ w ∈ je_N, w ∈ lw_tbl := fun w hw => by
  have hp : je_N = [74, 95, 131, 235, 266, 289, 353, 363, 414, 506, 515, 630, 68].filterMap (fun i => lw_tbl[i]?) := by decide +kernel
  rw [hp] at hw
  obtain ⟨i, -, hi⟩ := List.mem_filterMap.mp hw
  exact List.mem_of_getElem? hi
theorem je_AO2_in : Cond.arrayOver (.object RX2) ∈ lw_tbl := List.mem_of_getElem? (i := 60) (by decide +kernel)
theorem je_AO3_in : Cond.arrayOver (.object RX3) ∈ lw_tbl := List.mem_of_getElem? (i := 58) (by decide +kernel)
def je_SN (own : String) (idx : Nat) (y : MethodName) (host : String) (cc : ByteArray) (nL : Nat) (ret : Option FieldType) (n : Nat) : Prop :=
  Cond.methodLinkNest own idx y host ∈ je_N ∧ Cond.static y ∈ je_T ∧ Cond.initialized y.cls ∈ je_T ∧ Cond.code y cc nL ret ∈ je_T ∧ (y.cls ≠ "java/lang/invoke/MethodHandle" ∧ y.cls ≠ "java/lang/invoke/VarHandle" ∧ (parseMethodDescriptor y.desc).map (fun d => d.parameters.length) = some n) ∧ nL ≤ 20
def je_IN (own : String) (idx : Nat) (y : MethodName) (host : String) (cc : ByteArray) (nL : Nat) (n : Nat) : Prop :=
  Cond.methodLinkNest own idx y host ∈ je_N ∧ Cond.instanceMethod y ∈ je_T ∧ y.name = "<init>" ∧ Cond.initialized y.cls ∈ je_T ∧ Cond.code y cc nL none ∈ je_T ∧ (y.cls ≠ "java/lang/invoke/MethodHandle" ∧ y.cls ≠ "java/lang/invoke/VarHandle" ∧ (parseMethodDescriptor y.desc).map (fun d => d.parameters.length) = some n) ∧ nL ≤ 20
theorem it_X0 : Cond.initialized RX0 ∈ je_T := je_in 42 (by decide +kernel) (by decide +kernel)
theorem it_X1 : Cond.initialized RX1 ∈ je_T := je_in 43 (by decide +kernel) (by decide +kernel)
theorem it_X2 : Cond.initialized RX2 ∈ je_T := je_in 47 (by decide +kernel) (by decide +kernel)
theorem it_X3 : Cond.initialized RX3 ∈ je_T := je_in 46 (by decide +kernel) (by decide +kernel)
theorem it_X4 : Cond.initialized RX4 ∈ je_T := je_in 44 (by decide +kernel) (by decide +kernel)
theorem it_X5 : Cond.initialized RX5 ∈ je_T := je_in 41 (by decide +kernel) (by decide +kernel)
theorem it_X6 : Cond.initialized RX6 ∈ je_T := je_in 45 (by decide +kernel) (by decide +kernel)
theorem it_J9 : Cond.initialized RJ9 ∈ je_T := je_in 48 (by decide +kernel) (by decide +kernel)
theorem it_L : Cond.initialized RL ∈ je_T := je_in 40 (by decide +kernel) (by decide +kernel)
theorem cl_L_7 : Cond.classLink RL 7 RX5 ∈ je_T := je_in 49 (by decide +kernel) (by decide +kernel)
theorem in_X5 : Cond.instantiable RX5 12 ∈ je_T := je_in 50 (by decide +kernel) (by decide +kernel)
theorem cl_X5_9 : Cond.classLink RX5 9 RX3 ∈ je_T := je_in 57 (by decide +kernel) (by decide +kernel)
theorem cl_X5_15 : Cond.classLink RX5 15 RX2 ∈ je_T := je_in 59 (by decide +kernel) (by decide +kernel)
theorem ls_FIRST_LEASTS : Cond.laysStatic RX5 "FIRST_LEASTS" "[I" ∈ lw_tbl := List.mem_of_getElem? (i := 62) (by decide +kernel)
theorem cl_X5_26 : Cond.classLink RX5 26 "[I" ∈ je_T := je_in 69 (by decide +kernel) (by decide +kernel)
theorem ls_FIRST_MEANS : Cond.laysStatic RX5 "FIRST_MEANS" "[I" ∈ lw_tbl := List.mem_of_getElem? (i := 71) (by decide +kernel)
theorem cl_X5_42 : Cond.classLink RX5 42 RX0 ∈ je_T := je_in 72 (by decide +kernel) (by decide +kernel)
theorem in_X0 : Cond.instantiable RX0 4 ∈ je_T := je_in 73 (by decide +kernel) (by decide +kernel)
theorem ac_int : Cond.arrayClass .int ∈ je_T := je_in 92 (by decide +kernel) (by decide +kernel)
theorem cl_X5_49 : Cond.classLink RX5 49 RX1 ∈ je_T := je_in 93 (by decide +kernel) (by decide +kernel)
theorem in_X1 : Cond.instantiable RX1 9 ∈ je_T := je_in 94 (by decide +kernel) (by decide +kernel)
theorem cl_X1_9 : Cond.classLink RX1 9 RX2 ∈ je_T := je_in 99 (by decide +kernel) (by decide +kernel)
theorem cl_X5_56 : Cond.classLink RX5 56 RX4 ∈ je_T := je_in 129 (by decide +kernel) (by decide +kernel)
theorem in_X4 : Cond.instantiable RX4 2 ∈ je_T := je_in 130 (by decide +kernel) (by decide +kernel)
theorem in_X3 : Cond.instantiable RX3 4 ∈ je_T := je_in 195 (by decide +kernel) (by decide +kernel)
theorem cl_X3_15 : Cond.classLink RX3 15 RX2 ∈ je_T := je_in 200 (by decide +kernel) (by decide +kernel)
theorem cq_X2_69 : Cond.constantLong RX2 69 100000 ∈ je_T := je_in 274 (by decide +kernel) (by decide +kernel)
theorem in_X2 : Cond.instantiable RX2 12 ∈ je_T := je_in 283 (by decide +kernel) (by decide +kernel)
theorem cl_X2_18 : Cond.classLink RX2 18 RX4 ∈ je_T := je_in 288 (by decide +kernel) (by decide +kernel)
theorem ct_X5_171 : Cond.constant RX5 171 1000000 ∈ je_T := je_in 446 (by decide +kernel) (by decide +kernel)
theorem ct_X3_66 : Cond.constant RX3 66 1000000 ∈ je_T := je_in 455 (by decide +kernel) (by decide +kernel)
theorem ct_X4_22 : Cond.constant RX4 22 1000000 ∈ je_T := je_in 464 (by decide +kernel) (by decide +kernel)
theorem cq_X4_23 : Cond.constantLong RX4 23 1000000 ∈ je_T := je_in 465 (by decide +kernel) (by decide +kernel)
theorem ct_X1_102 : Cond.constant RX1 102 1000000 ∈ je_T := je_in 514 (by decide +kernel) (by decide +kernel)
theorem cq_X5_226 : Cond.constantLong RX5 226 100000 ∈ je_T := je_in 610 (by decide +kernel) (by decide +kernel)
theorem cl_L_10 : Cond.classLink RL 10 RX6 ∈ je_T := je_in 659 (by decide +kernel) (by decide +kernel)
theorem in_X6 : Cond.instantiable RX6 34 ∈ je_T := je_in 660 (by decide +kernel) (by decide +kernel)
theorem cq_X6_135 : Cond.constantLong RX6 135 100000 ∈ je_T := je_in 854 (by decide +kernel) (by decide +kernel)
theorem ct_X6_152 : Cond.constant RX6 152 1000000 ∈ je_T := je_in 867 (by decide +kernel) (by decide +kernel)
theorem cq_X6_153 : Cond.constantLong RX6 153 1000000 ∈ je_T := je_in 876 (by decide +kernel) (by decide +kernel)
theorem ct_X6_192 : Cond.constant RX6 192 100000 ∈ je_T := je_in 935 (by decide +kernel) (by decide +kernel)
theorem uw_X0 : ∀ w ∈ u_ws RX0 TX0 4, w ∈ je_T := je_ins [83, 85, 87, 89] (by decide +kernel) (by decide +kernel)
theorem uw_X1 : ∀ w ∈ u_ws RX1 TX1 9, w ∈ je_T := je_ins [110, 112, 114, 116, 118, 120, 122, 124, 126] (by decide +kernel) (by decide +kernel)
theorem uw_X2 : ∀ w ∈ u_ws RX2 TX2 12, w ∈ je_T := je_ins [316, 318, 320, 322, 324, 326, 328, 330, 332, 334, 336, 338] (by decide +kernel) (by decide +kernel)
theorem uw_X3 : ∀ w ∈ u_ws RX3 TX3 4, w ∈ je_T := je_ins [207, 209, 211, 213] (by decide +kernel) (by decide +kernel)
theorem uw_X4 : ∀ w ∈ u_ws RX4 TX4 2, w ∈ je_T := je_ins [139, 141] (by decide +kernel) (by decide +kernel)
theorem uw_X5 : ∀ w ∈ u_ws RX5 TX5 12, w ∈ je_T := je_ins [156, 158, 160, 162, 164, 166, 168, 170, 172, 174, 176, 178] (by decide +kernel) (by decide +kernel)
theorem uw_X6 : ∀ w ∈ u_ws RX6 TX6 34, w ∈ je_T := je_ins [699, 701, 703, 705, 707, 709, 711, 713, 715, 717, 719, 721, 723, 725, 727, 729, 731, 733, 735, 737, 739, 741, 743, 745, 747, 749, 751, 753, 755, 757, 759, 761, 763, 765] (by decide +kernel) (by decide +kernel)
theorem fl_X5_21 : Cond.fieldLink RX5 21 RX5 "FIRST_LEASTS" "[I" ∈ je_T := je_in 61 (by decide +kernel) (by decide +kernel)
theorem fl_X5_33 : Cond.fieldLink RX5 33 RX5 "FIRST_MEANS" "[I" ∈ je_T := je_in 70 (by decide +kernel) (by decide +kernel)
theorem fl_X0_9 : Cond.fieldLink RX0 9 (TX0 0).1 (TX0 0).2.1 (TX0 0).2.2.1 ∈ je_T := je_in 78 (by decide +kernel) (by decide +kernel)
theorem fl_X0_15 : Cond.fieldLink RX0 15 (TX0 1).1 (TX0 1).2.1 (TX0 1).2.2.1 ∈ je_T := je_in 79 (by decide +kernel) (by decide +kernel)
theorem fl_X0_18 : Cond.fieldLink RX0 18 (TX0 2).1 (TX0 2).2.1 (TX0 2).2.2.1 ∈ je_T := je_in 80 (by decide +kernel) (by decide +kernel)
theorem fl_X0_21 : Cond.fieldLink RX0 21 (TX0 3).1 (TX0 3).2.1 (TX0 3).2.2.1 ∈ je_T := je_in 81 (by decide +kernel) (by decide +kernel)
theorem fl_X5_271 : Cond.fieldLink RX5 271 (TX0 3).1 (TX0 3).2.1 (TX0 3).2.2.1 ∈ je_T := je_in 82 (by decide +kernel) (by decide +kernel)
theorem fl_X1_11 : Cond.fieldLink RX1 11 (TX1 0).1 (TX1 0).2.1 (TX1 0).2.2.1 ∈ je_T := je_in 100 (by decide +kernel) (by decide +kernel)
theorem fl_X1_17 : Cond.fieldLink RX1 17 (TX1 1).1 (TX1 1).2.1 (TX1 1).2.2.1 ∈ je_T := je_in 101 (by decide +kernel) (by decide +kernel)
theorem fl_X1_21 : Cond.fieldLink RX1 21 (TX1 2).1 (TX1 2).2.1 (TX1 2).2.2.1 ∈ je_T := je_in 102 (by decide +kernel) (by decide +kernel)
theorem fl_X1_24 : Cond.fieldLink RX1 24 (TX1 3).1 (TX1 3).2.1 (TX1 3).2.2.1 ∈ je_T := je_in 103 (by decide +kernel) (by decide +kernel)
theorem fl_X1_27 : Cond.fieldLink RX1 27 (TX1 4).1 (TX1 4).2.1 (TX1 4).2.2.1 ∈ je_T := je_in 104 (by decide +kernel) (by decide +kernel)
theorem fl_X1_30 : Cond.fieldLink RX1 30 (TX1 5).1 (TX1 5).2.1 (TX1 5).2.2.1 ∈ je_T := je_in 105 (by decide +kernel) (by decide +kernel)
theorem fl_X1_50 : Cond.fieldLink RX1 50 (TX1 6).1 (TX1 6).2.1 (TX1 6).2.2.1 ∈ je_T := je_in 106 (by decide +kernel) (by decide +kernel)
theorem fl_X1_45 : Cond.fieldLink RX1 45 (TX1 7).1 (TX1 7).2.1 (TX1 7).2.2.1 ∈ je_T := je_in 107 (by decide +kernel) (by decide +kernel)
theorem fl_X1_67 : Cond.fieldLink RX1 67 (TX1 8).1 (TX1 8).2.1 (TX1 8).2.2.1 ∈ je_T := je_in 108 (by decide +kernel) (by decide +kernel)
theorem fl_X5_184 : Cond.fieldLink RX5 184 (TX1 8).1 (TX1 8).2.1 (TX1 8).2.2.1 ∈ je_T := je_in 109 (by decide +kernel) (by decide +kernel)
theorem fl_X4_9 : Cond.fieldLink RX4 9 (TX4 0).1 (TX4 0).2.1 (TX4 0).2.2.1 ∈ je_T := je_in 135 (by decide +kernel) (by decide +kernel)
theorem fl_X5_197 : Cond.fieldLink RX5 197 (TX4 0).1 (TX4 0).2.1 (TX4 0).2.2.1 ∈ je_T := je_in 136 (by decide +kernel) (by decide +kernel)
theorem fl_X4_15 : Cond.fieldLink RX4 15 (TX4 1).1 (TX4 1).2.1 (TX4 1).2.2.1 ∈ je_T := je_in 137 (by decide +kernel) (by decide +kernel)
theorem fl_X5_201 : Cond.fieldLink RX5 201 (TX4 1).1 (TX4 1).2.1 (TX4 1).2.2.1 ∈ je_T := je_in 138 (by decide +kernel) (by decide +kernel)
theorem fl_X5_11 : Cond.fieldLink RX5 11 (TX5 0).1 (TX5 0).2.1 (TX5 0).2.2.1 ∈ je_T := je_in 144 (by decide +kernel) (by decide +kernel)
theorem fl_X5_17 : Cond.fieldLink RX5 17 (TX5 1).1 (TX5 1).2.1 (TX5 1).2.2.1 ∈ je_T := je_in 145 (by decide +kernel) (by decide +kernel)
theorem fl_X5_30 : Cond.fieldLink RX5 30 (TX5 2).1 (TX5 2).2.1 (TX5 2).2.2.1 ∈ je_T := je_in 146 (by decide +kernel) (by decide +kernel)
theorem fl_X5_36 : Cond.fieldLink RX5 36 (TX5 3).1 (TX5 3).2.1 (TX5 3).2.2.1 ∈ je_T := je_in 147 (by decide +kernel) (by decide +kernel)
theorem fl_X5_39 : Cond.fieldLink RX5 39 (TX5 4).1 (TX5 4).2.1 (TX5 4).2.2.1 ∈ je_T := je_in 148 (by decide +kernel) (by decide +kernel)
theorem fl_X5_45 : Cond.fieldLink RX5 45 (TX5 5).1 (TX5 5).2.1 (TX5 5).2.2.1 ∈ je_T := je_in 149 (by decide +kernel) (by decide +kernel)
theorem fl_X5_52 : Cond.fieldLink RX5 52 (TX5 6).1 (TX5 6).2.1 (TX5 6).2.2.1 ∈ je_T := je_in 150 (by decide +kernel) (by decide +kernel)
theorem fl_X5_59 : Cond.fieldLink RX5 59 (TX5 7).1 (TX5 7).2.1 (TX5 7).2.2.1 ∈ je_T := je_in 151 (by decide +kernel) (by decide +kernel)
theorem fl_X5_67 : Cond.fieldLink RX5 67 (TX5 8).1 (TX5 8).2.1 (TX5 8).2.2.1 ∈ je_T := je_in 152 (by decide +kernel) (by decide +kernel)
theorem fl_X5_110 : Cond.fieldLink RX5 110 (TX5 9).1 (TX5 9).2.1 (TX5 9).2.2.1 ∈ je_T := je_in 153 (by decide +kernel) (by decide +kernel)
theorem fl_X5_63 : Cond.fieldLink RX5 63 (TX5 10).1 (TX5 10).2.1 (TX5 10).2.2.1 ∈ je_T := je_in 154 (by decide +kernel) (by decide +kernel)
theorem fl_X5_116 : Cond.fieldLink RX5 116 (TX5 11).1 (TX5 11).2.1 (TX5 11).2.2.1 ∈ je_T := je_in 155 (by decide +kernel) (by decide +kernel)
theorem fl_X3_21 : Cond.fieldLink RX3 21 (TX3 0).1 (TX3 0).2.1 (TX3 0).2.2.1 ∈ je_T := je_in 201 (by decide +kernel) (by decide +kernel)
theorem fl_X3_9 : Cond.fieldLink RX3 9 (TX3 1).1 (TX3 1).2.1 (TX3 1).2.2.1 ∈ je_T := je_in 202 (by decide +kernel) (by decide +kernel)
theorem fl_X3_17 : Cond.fieldLink RX3 17 (TX3 2).1 (TX3 2).2.1 (TX3 2).2.2.1 ∈ je_T := je_in 203 (by decide +kernel) (by decide +kernel)
theorem fl_X1_33 : Cond.fieldLink RX1 33 (TX3 3).1 (TX3 3).2.1 (TX3 3).2.2.1 ∈ je_T := je_in 204 (by decide +kernel) (by decide +kernel)
theorem fl_X3_25 : Cond.fieldLink RX3 25 (TX3 3).1 (TX3 3).2.1 (TX3 3).2.2.1 ∈ je_T := je_in 205 (by decide +kernel) (by decide +kernel)
theorem fl_X5_232 : Cond.fieldLink RX5 232 (TX3 3).1 (TX3 3).2.1 (TX3 3).2.2.1 ∈ je_T := je_in 206 (by decide +kernel) (by decide +kernel)
theorem fl_X2_32 : Cond.fieldLink RX2 32 (TX2 0).1 (TX2 0).2.1 (TX2 0).2.2.1 ∈ je_T := je_in 290 (by decide +kernel) (by decide +kernel)
theorem fl_X1_91 : Cond.fieldLink RX1 91 (TX2 0).1 (TX2 0).2.1 (TX2 0).2.2.1 ∈ je_T := je_in 291 (by decide +kernel) (by decide +kernel)
theorem fl_X5_125 : Cond.fieldLink RX5 125 (TX2 0).1 (TX2 0).2.1 (TX2 0).2.2.1 ∈ je_T := je_in 292 (by decide +kernel) (by decide +kernel)
theorem fl_X2_35 : Cond.fieldLink RX2 35 (TX2 1).1 (TX2 1).2.1 (TX2 1).2.2.1 ∈ je_T := je_in 293 (by decide +kernel) (by decide +kernel)
theorem fl_X5_155 : Cond.fieldLink RX5 155 (TX2 1).1 (TX2 1).2.1 (TX2 1).2.2.1 ∈ je_T := je_in 294 (by decide +kernel) (by decide +kernel)
theorem fl_X2_38 : Cond.fieldLink RX2 38 (TX2 2).1 (TX2 2).2.1 (TX2 2).2.2.1 ∈ je_T := je_in 295 (by decide +kernel) (by decide +kernel)
theorem fl_X5_243 : Cond.fieldLink RX5 243 (TX2 2).1 (TX2 2).2.1 (TX2 2).2.2.1 ∈ je_T := je_in 296 (by decide +kernel) (by decide +kernel)
theorem fl_X2_9 : Cond.fieldLink RX2 9 (TX2 3).1 (TX2 3).2.1 (TX2 3).2.2.1 ∈ je_T := je_in 297 (by decide +kernel) (by decide +kernel)
theorem fl_X5_252 : Cond.fieldLink RX5 252 (TX2 3).1 (TX2 3).2.1 (TX2 3).2.2.1 ∈ je_T := je_in 298 (by decide +kernel) (by decide +kernel)
theorem fl_X2_15 : Cond.fieldLink RX2 15 (TX2 4).1 (TX2 4).2.1 (TX2 4).2.2.1 ∈ je_T := je_in 299 (by decide +kernel) (by decide +kernel)
theorem fl_X5_255 : Cond.fieldLink RX5 255 (TX2 4).1 (TX2 4).2.1 (TX2 4).2.2.1 ∈ je_T := je_in 300 (by decide +kernel) (by decide +kernel)
theorem fl_X2_21 : Cond.fieldLink RX2 21 (TX2 5).1 (TX2 5).2.1 (TX2 5).2.2.1 ∈ je_T := je_in 301 (by decide +kernel) (by decide +kernel)
theorem fl_X5_194 : Cond.fieldLink RX5 194 (TX2 5).1 (TX2 5).2.1 (TX2 5).2.2.1 ∈ je_T := je_in 302 (by decide +kernel) (by decide +kernel)
theorem fl_X2_44 : Cond.fieldLink RX2 44 (TX2 6).1 (TX2 6).2.1 (TX2 6).2.2.1 ∈ je_T := je_in 303 (by decide +kernel) (by decide +kernel)
theorem fl_X5_161 : Cond.fieldLink RX5 161 (TX2 6).1 (TX2 6).2.1 (TX2 6).2.2.1 ∈ je_T := je_in 304 (by decide +kernel) (by decide +kernel)
theorem fl_X1_103 : Cond.fieldLink RX1 103 (TX2 7).1 (TX2 7).2.1 (TX2 7).2.2.1 ∈ je_T := je_in 305 (by decide +kernel) (by decide +kernel)
theorem fl_X3_52 : Cond.fieldLink RX3 52 (TX2 7).1 (TX2 7).2.1 (TX2 7).2.2.1 ∈ je_T := je_in 306 (by decide +kernel) (by decide +kernel)
theorem fl_X5_210 : Cond.fieldLink RX5 210 (TX2 7).1 (TX2 7).2.1 (TX2 7).2.2.1 ∈ je_T := je_in 307 (by decide +kernel) (by decide +kernel)
theorem fl_X5_213 : Cond.fieldLink RX5 213 (TX2 8).1 (TX2 8).2.1 (TX2 8).2.2.1 ∈ je_T := je_in 308 (by decide +kernel) (by decide +kernel)
theorem fl_X2_41 : Cond.fieldLink RX2 41 (TX2 9).1 (TX2 9).2.1 (TX2 9).2.2.1 ∈ je_T := je_in 309 (by decide +kernel) (by decide +kernel)
theorem fl_X3_78 : Cond.fieldLink RX3 78 (TX2 9).1 (TX2 9).2.1 (TX2 9).2.2.1 ∈ je_T := je_in 310 (by decide +kernel) (by decide +kernel)
theorem fl_X5_246 : Cond.fieldLink RX5 246 (TX2 9).1 (TX2 9).2.1 (TX2 9).2.2.1 ∈ je_T := je_in 311 (by decide +kernel) (by decide +kernel)
theorem fl_X2_25 : Cond.fieldLink RX2 25 (TX2 10).1 (TX2 10).2.1 (TX2 10).2.2.1 ∈ je_T := je_in 312 (by decide +kernel) (by decide +kernel)
theorem fl_X5_139 : Cond.fieldLink RX5 139 (TX2 10).1 (TX2 10).2.1 (TX2 10).2.2.1 ∈ je_T := je_in 313 (by decide +kernel) (by decide +kernel)
theorem fl_X2_29 : Cond.fieldLink RX2 29 (TX2 11).1 (TX2 11).2.1 (TX2 11).2.2.1 ∈ je_T := je_in 314 (by decide +kernel) (by decide +kernel)
theorem fl_X5_216 : Cond.fieldLink RX5 216 (TX2 11).1 (TX2 11).2.1 (TX2 11).2.2.1 ∈ je_T := je_in 315 (by decide +kernel) (by decide +kernel)
theorem fl_X6_7 : Cond.fieldLink RX6 7 (TX6 0).1 (TX6 0).2.1 (TX6 0).2.2.1 ∈ je_T := je_in 665 (by decide +kernel) (by decide +kernel)
theorem fl_X6_13 : Cond.fieldLink RX6 13 (TX6 1).1 (TX6 1).2.1 (TX6 1).2.2.1 ∈ je_T := je_in 666 (by decide +kernel) (by decide +kernel)
theorem fl_X6_16 : Cond.fieldLink RX6 16 (TX6 2).1 (TX6 2).2.1 (TX6 2).2.2.1 ∈ je_T := je_in 667 (by decide +kernel) (by decide +kernel)
theorem fl_X6_104 : Cond.fieldLink RX6 104 (TX6 3).1 (TX6 3).2.1 (TX6 3).2.2.1 ∈ je_T := je_in 668 (by decide +kernel) (by decide +kernel)
theorem fl_X6_86 : Cond.fieldLink RX6 86 (TX6 4).1 (TX6 4).2.1 (TX6 4).2.2.1 ∈ je_T := je_in 669 (by decide +kernel) (by decide +kernel)
theorem fl_X6_107 : Cond.fieldLink RX6 107 (TX6 5).1 (TX6 5).2.1 (TX6 5).2.2.1 ∈ je_T := je_in 670 (by decide +kernel) (by decide +kernel)
theorem fl_X6_19 : Cond.fieldLink RX6 19 (TX6 6).1 (TX6 6).2.1 (TX6 6).2.2.1 ∈ je_T := je_in 671 (by decide +kernel) (by decide +kernel)
theorem fl_X6_101 : Cond.fieldLink RX6 101 (TX6 7).1 (TX6 7).2.1 (TX6 7).2.2.1 ∈ je_T := je_in 672 (by decide +kernel) (by decide +kernel)
theorem fl_X6_23 : Cond.fieldLink RX6 23 (TX6 8).1 (TX6 8).2.1 (TX6 8).2.2.1 ∈ je_T := je_in 673 (by decide +kernel) (by decide +kernel)
theorem fl_X6_26 : Cond.fieldLink RX6 26 (TX6 9).1 (TX6 9).2.1 (TX6 9).2.2.1 ∈ je_T := je_in 674 (by decide +kernel) (by decide +kernel)
theorem fl_X6_29 : Cond.fieldLink RX6 29 (TX6 10).1 (TX6 10).2.1 (TX6 10).2.2.1 ∈ je_T := je_in 675 (by decide +kernel) (by decide +kernel)
theorem fl_X6_32 : Cond.fieldLink RX6 32 (TX6 11).1 (TX6 11).2.1 (TX6 11).2.2.1 ∈ je_T := je_in 676 (by decide +kernel) (by decide +kernel)
theorem fl_X6_35 : Cond.fieldLink RX6 35 (TX6 12).1 (TX6 12).2.1 (TX6 12).2.2.1 ∈ je_T := je_in 677 (by decide +kernel) (by decide +kernel)
theorem fl_X6_38 : Cond.fieldLink RX6 38 (TX6 13).1 (TX6 13).2.1 (TX6 13).2.2.1 ∈ je_T := je_in 678 (by decide +kernel) (by decide +kernel)
theorem fl_X6_41 : Cond.fieldLink RX6 41 (TX6 14).1 (TX6 14).2.1 (TX6 14).2.2.1 ∈ je_T := je_in 679 (by decide +kernel) (by decide +kernel)
theorem fl_X6_44 : Cond.fieldLink RX6 44 (TX6 15).1 (TX6 15).2.1 (TX6 15).2.2.1 ∈ je_T := je_in 680 (by decide +kernel) (by decide +kernel)
theorem fl_X6_47 : Cond.fieldLink RX6 47 (TX6 16).1 (TX6 16).2.1 (TX6 16).2.2.1 ∈ je_T := je_in 681 (by decide +kernel) (by decide +kernel)
theorem fl_X6_50 : Cond.fieldLink RX6 50 (TX6 17).1 (TX6 17).2.1 (TX6 17).2.2.1 ∈ je_T := je_in 682 (by decide +kernel) (by decide +kernel)
theorem fl_X6_53 : Cond.fieldLink RX6 53 (TX6 18).1 (TX6 18).2.1 (TX6 18).2.2.1 ∈ je_T := je_in 683 (by decide +kernel) (by decide +kernel)
theorem fl_X6_56 : Cond.fieldLink RX6 56 (TX6 19).1 (TX6 19).2.1 (TX6 19).2.2.1 ∈ je_T := je_in 684 (by decide +kernel) (by decide +kernel)
theorem fl_X6_59 : Cond.fieldLink RX6 59 (TX6 20).1 (TX6 20).2.1 (TX6 20).2.2.1 ∈ je_T := je_in 685 (by decide +kernel) (by decide +kernel)
theorem fl_X6_62 : Cond.fieldLink RX6 62 (TX6 21).1 (TX6 21).2.1 (TX6 21).2.2.1 ∈ je_T := je_in 686 (by decide +kernel) (by decide +kernel)
theorem fl_X6_65 : Cond.fieldLink RX6 65 (TX6 22).1 (TX6 22).2.1 (TX6 22).2.2.1 ∈ je_T := je_in 687 (by decide +kernel) (by decide +kernel)
theorem fl_X6_68 : Cond.fieldLink RX6 68 (TX6 23).1 (TX6 23).2.1 (TX6 23).2.2.1 ∈ je_T := je_in 688 (by decide +kernel) (by decide +kernel)
theorem fl_X6_71 : Cond.fieldLink RX6 71 (TX6 24).1 (TX6 24).2.1 (TX6 24).2.2.1 ∈ je_T := je_in 689 (by decide +kernel) (by decide +kernel)
theorem fl_X6_128 : Cond.fieldLink RX6 128 (TX6 25).1 (TX6 25).2.1 (TX6 25).2.2.1 ∈ je_T := je_in 690 (by decide +kernel) (by decide +kernel)
theorem fl_X6_132 : Cond.fieldLink RX6 132 (TX6 26).1 (TX6 26).2.1 (TX6 26).2.2.1 ∈ je_T := je_in 691 (by decide +kernel) (by decide +kernel)
theorem fl_X6_74 : Cond.fieldLink RX6 74 (TX6 27).1 (TX6 27).2.1 (TX6 27).2.2.1 ∈ je_T := je_in 692 (by decide +kernel) (by decide +kernel)
theorem fl_X6_77 : Cond.fieldLink RX6 77 (TX6 28).1 (TX6 28).2.1 (TX6 28).2.2.1 ∈ je_T := je_in 693 (by decide +kernel) (by decide +kernel)
theorem fl_X6_80 : Cond.fieldLink RX6 80 (TX6 29).1 (TX6 29).2.1 (TX6 29).2.2.1 ∈ je_T := je_in 694 (by decide +kernel) (by decide +kernel)
theorem fl_X6_83 : Cond.fieldLink RX6 83 (TX6 30).1 (TX6 30).2.1 (TX6 30).2.2.1 ∈ je_T := je_in 695 (by decide +kernel) (by decide +kernel)
theorem fl_X6_176 : Cond.fieldLink RX6 176 (TX6 31).1 (TX6 31).2.1 (TX6 31).2.2.1 ∈ je_T := je_in 696 (by decide +kernel) (by decide +kernel)
theorem fl_X6_179 : Cond.fieldLink RX6 179 (TX6 32).1 (TX6 32).2.1 (TX6 32).2.2.1 ∈ je_T := je_in 697 (by decide +kernel) (by decide +kernel)
theorem fl_X6_186 : Cond.fieldLink RX6 186 (TX6 33).1 (TX6 33).2.1 (TX6 33).2.2.1 ∈ je_T := je_in 698 (by decide +kernel) (by decide +kernel)
set_option maxRecDepth 100000 in
theorem cd_X5_init : Cond.code yX5_init cX5_init 1 none ∈ je_T := je_in 53 rfl (by decide +kernel)
set_option maxRecDepth 100000 in
theorem cd_X0_init : Cond.code yX0_init cX0_init 1 none ∈ je_T := je_in 76 rfl (by decide +kernel)
set_option maxRecDepth 100000 in
theorem cd_X1_init : Cond.code yX1_init cX1_init 1 none ∈ je_T := je_in 97 rfl (by decide +kernel)
set_option maxRecDepth 100000 in
theorem cd_X4_init : Cond.code yX4_init cX4_init 1 none ∈ je_T := je_in 133 rfl (by decide +kernel)
set_option maxRecDepth 100000 in
theorem cd_X5_wagon : Cond.code yX5_wagon cX5_wagon 2 (some FieldType.int) ∈ je_T := je_in 184 rfl (by decide +kernel)
set_option maxRecDepth 100000 in
theorem cd_X5_refuse : Cond.code yX5_refuse cX5_refuse 2 (some FieldType.int) ∈ je_T := je_in 188 rfl (by decide +kernel)
set_option maxRecDepth 100000 in
theorem cd_X5_at : Cond.code yX5_at cX5_at 2 (some FieldType.int) ∈ je_T := je_in 191 rfl (by decide +kernel)
set_option maxRecDepth 100000 in
theorem cd_X5_write : Cond.code yX5_write cX5_write 3 none ∈ je_T := je_in 194 rfl (by decide +kernel)
set_option maxRecDepth 100000 in
theorem cd_X3_init : Cond.code yX3_init cX3_init 2 none ∈ je_T := je_in 198 rfl (by decide +kernel)
set_option maxRecDepth 100000 in
theorem cd_X5_place : Cond.code yX5_place cX5_place 4 (some FieldType.int) ∈ je_T := je_in 219 rfl (by decide +kernel)
set_option maxRecDepth 100000 in
theorem cd_X5_wagonAt : Cond.code yX5_wagonAt cX5_wagonAt 2 (some (FieldType.object "TyreBook$Wagon")) ∈ je_T := je_in 223 rfl (by decide +kernel)
set_option maxRecDepth 100000 in
theorem cd_X5_isKind : Cond.code yX5_isKind cX5_isKind 1 (some FieldType.boolean) ∈ je_T := je_in 226 rfl (by decide +kernel)
set_option maxRecDepth 100000 in
theorem cd_X3_isFull : Cond.code yX3_isFull cX3_isFull 1 (some FieldType.boolean) ∈ je_T := je_in 230 rfl (by decide +kernel)
set_option maxRecDepth 100000 in
theorem cd_X3_addPlace : Cond.code yX3_addPlace cX3_addPlace 3 (some FieldType.int) ∈ je_T := je_in 234 rfl (by decide +kernel)
set_option maxRecDepth 100000 in
theorem cd_X5_least : Cond.code yX5_least cX5_least 5 (some FieldType.int) ∈ je_T := je_in 239 rfl (by decide +kernel)
set_option maxRecDepth 100000 in
theorem cd_X5_outside : Cond.code yX5_outside cX5_outside 3 (some FieldType.int) ∈ je_T := je_in 242 rfl (by decide +kernel)
set_option maxRecDepth 100000 in
theorem cd_X5_apart : Cond.code yX5_apart cX5_apart 4 (some FieldType.int) ∈ je_T := je_in 246 rfl (by decide +kernel)
set_option maxRecDepth 100000 in
theorem cd_X5_maker : Cond.code yX5_maker cX5_maker 5 (some FieldType.int) ∈ je_T := je_in 250 rfl (by decide +kernel)
set_option maxRecDepth 100000 in
theorem cd_X5_isMaker : Cond.code yX5_isMaker cX5_isMaker 1 (some FieldType.boolean) ∈ je_T := je_in 253 rfl (by decide +kernel)
set_option maxRecDepth 100000 in
theorem cd_X5_refitTyresOf : Cond.code yX5_refitTyresOf cX5_refitTyresOf 4 none ∈ je_T := je_in 257 rfl (by decide +kernel)
set_option maxRecDepth 100000 in
theorem cd_X5_tyreAt : Cond.code yX5_tyreAt cX5_tyreAt 2 (some (FieldType.object "TyreBook$Tyre")) ∈ je_T := je_in 261 rfl (by decide +kernel)
set_option maxRecDepth 100000 in
theorem cd_X2_fitWear : Cond.code yX2_fitWear cX2_fitWear 15 none ∈ je_T := je_in 265 rfl (by decide +kernel)
set_option maxRecDepth 100000 in
theorem cd_X4_become : Cond.code yX4_become cX4_become 7 none ∈ je_T := je_in 270 rfl (by decide +kernel)
set_option maxRecDepth 100000 in
theorem cd_X4_commonFactor : Cond.code yX4_commonFactor cX4_commonFactor 11 (some FieldType.long) ∈ je_T := je_in 273 rfl (by decide +kernel)
set_option maxRecDepth 100000 in
theorem cd_X5_buy : Cond.code yX5_buy cX5_buy 3 (some FieldType.int) ∈ je_T := je_in 278 rfl (by decide +kernel)
set_option maxRecDepth 100000 in
theorem cd_X0_hasRoomFor : Cond.code yX0_hasRoomFor cX0_hasRoomFor 2 (some FieldType.boolean) ∈ je_T := je_in 282 rfl (by decide +kernel)
set_option maxRecDepth 100000 in
theorem cd_X2_init : Cond.code yX2_init cX2_init 4 none ∈ je_T := je_in 286 rfl (by decide +kernel)
set_option maxRecDepth 100000 in
theorem cd_X2_startTread : Cond.code yX2_startTread cX2_startTread 2 none ∈ je_T := je_in 344 rfl (by decide +kernel)
set_option maxRecDepth 100000 in
theorem cd_X2_addReading : Cond.code yX2_addReading cX2_addReading 2 none ∈ je_T := je_in 348 rfl (by decide +kernel)
set_option maxRecDepth 100000 in
theorem cd_X2_dropSecondReading : Cond.code yX2_dropSecondReading cX2_dropSecondReading 2 none ∈ je_T := je_in 352 rfl (by decide +kernel)
set_option maxRecDepth 100000 in
theorem cd_X5_move : Cond.code yX5_move cX5_move 3 none ∈ je_T := je_in 358 rfl (by decide +kernel)
set_option maxRecDepth 100000 in
theorem cd_X0_note : Cond.code yX0_note cX0_note 4 none ∈ je_T := je_in 362 rfl (by decide +kernel)
set_option maxRecDepth 100000 in
theorem cd_X5_put : Cond.code yX5_put cX5_put 6 (some FieldType.int) ∈ je_T := je_in 367 rfl (by decide +kernel)
set_option maxRecDepth 100000 in
theorem cd_X3_hasPlace : Cond.code yX3_hasPlace cX3_hasPlace 2 (some FieldType.boolean) ∈ je_T := je_in 371 rfl (by decide +kernel)
set_option maxRecDepth 100000 in
theorem cd_X3_tyreOn : Cond.code yX3_tyreOn cX3_tyreOn 2 (some (FieldType.object "TyreBook$Tyre")) ∈ je_T := je_in 375 rfl (by decide +kernel)
set_option maxRecDepth 100000 in
theorem cd_X3_lay : Cond.code yX3_lay cX3_lay 3 none ∈ je_T := je_in 380 rfl (by decide +kernel)
set_option maxRecDepth 100000 in
theorem cd_X3_spot : Cond.code yX3_spot cX3_spot 2 (some FieldType.int) ∈ je_T := je_in 384 rfl (by decide +kernel)
set_option maxRecDepth 100000 in
theorem cd_X5_take : Cond.code yX5_take cX5_take 5 (some FieldType.int) ∈ je_T := je_in 388 rfl (by decide +kernel)
set_option maxRecDepth 100000 in
theorem cd_X5_swap : Cond.code yX5_swap cX5_swap 9 (some FieldType.int) ∈ je_T := je_in 392 rfl (by decide +kernel)
set_option maxRecDepth 100000 in
theorem cd_X5_read : Cond.code yX5_read cX5_read 5 (some FieldType.int) ∈ je_T := je_in 396 rfl (by decide +kernel)
set_option maxRecDepth 100000 in
theorem cd_X5_go : Cond.code yX5_go cX5_go 5 (some FieldType.int) ∈ je_T := je_in 401 rfl (by decide +kernel)
set_option maxRecDepth 100000 in
theorem cd_X3_whyUnfit : Cond.code yX3_whyUnfit cX3_whyUnfit 5 (some FieldType.int) ∈ je_T := je_in 405 rfl (by decide +kernel)
set_option maxRecDepth 100000 in
theorem cd_X3_flawOn : Cond.code yX3_flawOn cX3_flawOn 8 (some FieldType.int) ∈ je_T := je_in 409 rfl (by decide +kernel)
set_option maxRecDepth 100000 in
theorem cd_X3_kindOf : Cond.code yX3_kindOf cX3_kindOf 2 (some FieldType.int) ∈ je_T := je_in 413 rfl (by decide +kernel)
set_option maxRecDepth 100000 in
theorem cd_X2_depthAfter : Cond.code yX2_depthAfter cX2_depthAfter 2 (some FieldType.int) ∈ je_T := je_in 419 rfl (by decide +kernel)
set_option maxRecDepth 100000 in
theorem cd_X2_sinceRead : Cond.code yX2_sinceRead cX2_sinceRead 1 (some FieldType.int) ∈ je_T := je_in 423 rfl (by decide +kernel)
set_option maxRecDepth 100000 in
theorem cd_X4_depthFrom : Cond.code yX4_depthFrom cX4_depthFrom 5 (some FieldType.int) ∈ je_T := je_in 427 rfl (by decide +kernel)
set_option maxRecDepth 100000 in
theorem cd_X3_pairOf : Cond.code yX3_pairOf cX3_pairOf 4 (some FieldType.int) ∈ je_T := je_in 431 rfl (by decide +kernel)
set_option maxRecDepth 100000 in
theorem cd_J9_abs_0f7a4 : Cond.code yJ9_abs_0f7a4 cJ9_abs_0f7a4 1 (some FieldType.int) ∈ je_T := je_in 434 rfl (by decide +kernel)
set_option maxRecDepth 100000 in
theorem cd_X3_mostLengths : Cond.code yX3_mostLengths cX3_mostLengths 5 (some FieldType.int) ∈ je_T := je_in 438 rfl (by decide +kernel)
set_option maxRecDepth 100000 in
theorem cd_X3_rollingOn : Cond.code yX3_rollingOn cX3_rollingOn 4 (some (FieldType.object "TyreBook$Tyre")) ∈ je_T := je_in 442 rfl (by decide +kernel)
set_option maxRecDepth 100000 in
theorem cd_J9_max_7cf53 : Cond.code yJ9_max_7cf53 cJ9_max_7cf53 2 (some FieldType.int) ∈ je_T := je_in 445 rfl (by decide +kernel)
set_option maxRecDepth 100000 in
theorem cd_X3_roll : Cond.code yX3_roll cX3_roll 5 none ∈ je_T := je_in 450 rfl (by decide +kernel)
set_option maxRecDepth 100000 in
theorem cd_X3_reach : Cond.code yX3_reach cX3_reach 5 (some FieldType.int) ∈ je_T := je_in 454 rfl (by decide +kernel)
set_option maxRecDepth 100000 in
theorem cd_X2_endFor : Cond.code yX2_endFor cX2_endFor 2 (some FieldType.int) ∈ je_T := je_in 459 rfl (by decide +kernel)
set_option maxRecDepth 100000 in
theorem cd_X4_endFrom : Cond.code yX4_endFrom cX4_endFrom 6 (some FieldType.int) ∈ je_T := je_in 463 rfl (by decide +kernel)
set_option maxRecDepth 100000 in
theorem cd_J9_min_f86c9 : Cond.code yJ9_min_f86c9 cJ9_min_f86c9 4 (some FieldType.long) ∈ je_T := je_in 468 rfl (by decide +kernel)
set_option maxRecDepth 100000 in
theorem cd_J9_max_f86c9 : Cond.code yJ9_max_f86c9 cJ9_max_f86c9 4 (some FieldType.long) ∈ je_T := je_in 471 rfl (by decide +kernel)
set_option maxRecDepth 100000 in
theorem cd_J9_min_7cf53 : Cond.code yJ9_min_7cf53 cJ9_min_7cf53 2 (some FieldType.int) ∈ je_T := je_in 474 rfl (by decide +kernel)
set_option maxRecDepth 100000 in
theorem cd_X5_why : Cond.code yX5_why cX5_why 3 (some FieldType.int) ∈ je_T := je_in 478 rfl (by decide +kernel)
set_option maxRecDepth 100000 in
theorem cd_X5_far : Cond.code yX5_far cX5_far 3 (some FieldType.int) ∈ je_T := je_in 482 rfl (by decide +kernel)
set_option maxRecDepth 100000 in
theorem cd_X5_best : Cond.code yX5_best cX5_best 3 (some FieldType.int) ∈ je_T := je_in 486 rfl (by decide +kernel)
set_option maxRecDepth 100000 in
theorem cd_X1_findReach : Cond.code yX1_findReach cX1_findReach 4 (some FieldType.boolean) ∈ je_T := je_in 490 rfl (by decide +kernel)
set_option maxRecDepth 100000 in
theorem cd_X1_gather : Cond.code yX1_gather cX1_gather 4 none ∈ je_T := je_in 495 rfl (by decide +kernel)
set_option maxRecDepth 100000 in
theorem cd_X1_insert : Cond.code yX1_insert cX1_insert 4 none ∈ je_T := je_in 500 rfl (by decide +kernel)
set_option maxRecDepth 100000 in
theorem cd_X1_weigh : Cond.code yX1_weigh cX1_weigh 8 none ∈ je_T := je_in 504 rfl (by decide +kernel)
set_option maxRecDepth 100000 in
theorem cd_X1_turnedAt : Cond.code yX1_turnedAt cX1_turnedAt 2 (some (FieldType.object "TyreBook$Tyre")) ∈ je_T := je_in 510 rfl (by decide +kernel)
set_option maxRecDepth 100000 in
theorem cd_X1_reachOf : Cond.code yX1_reachOf cX1_reachOf 3 (some FieldType.int) ∈ je_T := je_in 513 rfl (by decide +kernel)
set_option maxRecDepth 100000 in
theorem cd_X1_fillReaches : Cond.code yX1_fillReaches cX1_fillReaches 4 none ∈ je_T := je_in 520 rfl (by decide +kernel)
set_option maxRecDepth 100000 in
theorem cd_X1_allUsed : Cond.code yX1_allUsed cX1_allUsed 1 (some FieldType.int) ∈ je_T := je_in 524 rfl (by decide +kernel)
set_option maxRecDepth 100000 in
theorem cd_X1_slot : Cond.code yX1_slot cX1_slot 2 (some FieldType.int) ∈ je_T := je_in 527 rfl (by decide +kernel)
set_option maxRecDepth 100000 in
theorem cd_X1_reachFrom : Cond.code yX1_reachFrom cX1_reachFrom 6 (some FieldType.int) ∈ je_T := je_in 531 rfl (by decide +kernel)
set_option maxRecDepth 100000 in
theorem cd_X1_isUsed : Cond.code yX1_isUsed cX1_isUsed 2 (some FieldType.boolean) ∈ je_T := je_in 534 rfl (by decide +kernel)
set_option maxRecDepth 100000 in
theorem cd_X5_turn : Cond.code yX5_turn cX5_turn 4 (some FieldType.int) ∈ je_T := je_in 539 rfl (by decide +kernel)
set_option maxRecDepth 100000 in
theorem cd_X1_findWay : Cond.code yX1_findWay cX1_findWay 4 (some FieldType.int) ∈ je_T := je_in 543 rfl (by decide +kernel)
set_option maxRecDepth 100000 in
theorem cd_X1_fillChanges : Cond.code yX1_fillChanges cX1_fillChanges 4 none ∈ je_T := je_in 547 rfl (by decide +kernel)
set_option maxRecDepth 100000 in
theorem cd_X1_fewestFrom : Cond.code yX1_fewestFrom cX1_fewestFrom 5 (some FieldType.int) ∈ je_T := je_in 551 rfl (by decide +kernel)
set_option maxRecDepth 100000 in
theorem cd_X1_changesWith : Cond.code yX1_changesWith cX1_changesWith 5 (some FieldType.int) ∈ je_T := je_in 555 rfl (by decide +kernel)
set_option maxRecDepth 100000 in
theorem cd_X1_choose : Cond.code yX1_choose cX1_choose 5 (some FieldType.int) ∈ je_T := je_in 559 rfl (by decide +kernel)
set_option maxRecDepth 100000 in
theorem cd_X5_layAsChosen : Cond.code yX5_layAsChosen cX5_layAsChosen 4 none ∈ je_T := je_in 563 rfl (by decide +kernel)
set_option maxRecDepth 100000 in
theorem cd_X1_chosenFor : Cond.code yX1_chosenFor cX1_chosenFor 2 (some (FieldType.object "TyreBook$Tyre")) ∈ je_T := je_in 567 rfl (by decide +kernel)
set_option maxRecDepth 100000 in
theorem cd_X5_wear : Cond.code yX5_wear cX5_wear 4 (some FieldType.long) ∈ je_T := je_in 571 rfl (by decide +kernel)
set_option maxRecDepth 100000 in
theorem cd_X5_depth : Cond.code yX5_depth cX5_depth 5 (some FieldType.int) ∈ je_T := je_in 575 rfl (by decide +kernel)
set_option maxRecDepth 100000 in
theorem cd_X5_end : Cond.code yX5_end cX5_end 5 (some FieldType.int) ∈ je_T := je_in 580 rfl (by decide +kernel)
set_option maxRecDepth 100000 in
theorem cd_X5_send : Cond.code yX5_send cX5_send 3 (some FieldType.int) ∈ je_T := je_in 585 rfl (by decide +kernel)
set_option maxRecDepth 100000 in
theorem cd_X5_mend : Cond.code yX5_mend cX5_mend 3 (some FieldType.int) ∈ je_T := je_in 589 rfl (by decide +kernel)
set_option maxRecDepth 100000 in
theorem cd_X5_cast : Cond.code yX5_cast cX5_cast 3 (some FieldType.int) ∈ je_T := je_in 593 rfl (by decide +kernel)
set_option maxRecDepth 100000 in
theorem cd_X5_days : Cond.code yX5_days cX5_days 6 (some FieldType.int) ∈ je_T := je_in 597 rfl (by decide +kernel)
set_option maxRecDepth 100000 in
theorem cd_X5_nextBack : Cond.code yX5_nextBack cX5_nextBack 5 (some (FieldType.object "TyreBook$Tyre")) ∈ je_T := je_in 601 rfl (by decide +kernel)
set_option maxRecDepth 100000 in
theorem cd_X5_bringBack : Cond.code yX5_bringBack cX5_bringBack 2 none ∈ je_T := je_in 605 rfl (by decide +kernel)
set_option maxRecDepth 100000 in
theorem cd_X5_few : Cond.code yX5_few cX5_few 8 (some FieldType.int) ∈ je_T := je_in 609 rfl (by decide +kernel)
set_option maxRecDepth 100000 in
theorem cd_X5_neededOn : Cond.code yX5_neededOn cX5_neededOn 8 (some FieldType.int) ∈ je_T := je_in 615 rfl (by decide +kernel)
set_option maxRecDepth 100000 in
theorem cd_X5_tyresFor : Cond.code yX5_tyresFor cX5_tyresFor 2 (some FieldType.int) ∈ je_T := je_in 620 rfl (by decide +kernel)
set_option maxRecDepth 100000 in
theorem cd_X5_asOf : Cond.code yX5_asOf cX5_asOf 5 (some FieldType.int) ∈ je_T := je_in 625 rfl (by decide +kernel)
set_option maxRecDepth 100000 in
theorem cd_X0_whereWas : Cond.code yX0_whereWas cX0_whereWas 4 (some FieldType.int) ∈ je_T := je_in 629 rfl (by decide +kernel)
set_option maxRecDepth 100000 in
theorem cd_X5_tyreOf : Cond.code yX5_tyreOf cX5_tyreOf 4 (some FieldType.int) ∈ je_T := je_in 634 rfl (by decide +kernel)
set_option maxRecDepth 100000 in
theorem cd_X5_reading : Cond.code yX5_reading cX5_reading 5 (some FieldType.int) ∈ je_T := je_in 638 rfl (by decide +kernel)
set_option maxRecDepth 100000 in
theorem cd_X2_hasReading : Cond.code yX2_hasReading cX2_hasReading 2 (some FieldType.boolean) ∈ je_T := je_in 642 rfl (by decide +kernel)
set_option maxRecDepth 100000 in
theorem cd_X5_placeOf : Cond.code yX5_placeOf cX5_placeOf 5 (some FieldType.int) ∈ je_T := je_in 646 rfl (by decide +kernel)
set_option maxRecDepth 100000 in
theorem cd_X5_numberOf : Cond.code yX5_numberOf cX5_numberOf 1 (some FieldType.int) ∈ je_T := je_in 649 rfl (by decide +kernel)
set_option maxRecDepth 100000 in
theorem cd_X5_count : Cond.code yX5_count cX5_count 2 (some FieldType.int) ∈ je_T := je_in 654 rfl (by decide +kernel)
set_option maxRecDepth 100000 in
theorem cd_X5_tyresAt : Cond.code yX5_tyresAt cX5_tyresAt 5 (some FieldType.int) ∈ je_T := je_in 658 rfl (by decide +kernel)
set_option maxRecDepth 100000 in
theorem cd_X6_init : Cond.code yX6_init cX6_init 1 none ∈ je_T := je_in 663 rfl (by decide +kernel)
set_option maxRecDepth 100000 in
theorem cd_X6_wagon : Cond.code yX6_wagon cX6_wagon 1 (some FieldType.int) ∈ je_T := je_in 771 rfl (by decide +kernel)
set_option maxRecDepth 100000 in
theorem cd_X6_refuse : Cond.code yX6_refuse cX6_refuse 2 (some FieldType.int) ∈ je_T := je_in 775 rfl (by decide +kernel)
set_option maxRecDepth 100000 in
theorem cd_X6_place : Cond.code yX6_place cX6_place 6 (some FieldType.int) ∈ je_T := je_in 779 rfl (by decide +kernel)
set_option maxRecDepth 100000 in
theorem cd_X6_isIn : Cond.code yX6_isIn cX6_isIn 2 (some FieldType.boolean) ∈ je_T := je_in 782 rfl (by decide +kernel)
set_option maxRecDepth 100000 in
theorem cd_X6_spot : Cond.code yX6_spot cX6_spot 2 (some FieldType.int) ∈ je_T := je_in 785 rfl (by decide +kernel)
set_option maxRecDepth 100000 in
theorem cd_X6_least : Cond.code yX6_least cX6_least 4 (some FieldType.int) ∈ je_T := je_in 789 rfl (by decide +kernel)
set_option maxRecDepth 100000 in
theorem cd_X6_apart : Cond.code yX6_apart cX6_apart 3 (some FieldType.int) ∈ je_T := je_in 793 rfl (by decide +kernel)
set_option maxRecDepth 100000 in
theorem cd_X6_maker : Cond.code yX6_maker cX6_maker 4 (some FieldType.int) ∈ je_T := je_in 797 rfl (by decide +kernel)
set_option maxRecDepth 100000 in
theorem cd_X6_buy : Cond.code yX6_buy cX6_buy 3 (some FieldType.int) ∈ je_T := je_in 801 rfl (by decide +kernel)
set_option maxRecDepth 100000 in
theorem cd_X6_hasRoom : Cond.code yX6_hasRoom cX6_hasRoom 2 (some FieldType.boolean) ∈ je_T := je_in 805 rfl (by decide +kernel)
set_option maxRecDepth 100000 in
theorem cd_X6_fresh : Cond.code yX6_fresh cX6_fresh 2 none ∈ je_T := je_in 809 rfl (by decide +kernel)
set_option maxRecDepth 100000 in
theorem cd_X6_log : Cond.code yX6_log cX6_log 2 none ∈ je_T := je_in 813 rfl (by decide +kernel)
set_option maxRecDepth 100000 in
theorem cd_X6_put : Cond.code yX6_put cX6_put 4 (some FieldType.int) ∈ je_T := je_in 817 rfl (by decide +kernel)
set_option maxRecDepth 100000 in
theorem cd_X6_isPlace : Cond.code yX6_isPlace cX6_isPlace 3 (some FieldType.boolean) ∈ je_T := je_in 821 rfl (by decide +kernel)
set_option maxRecDepth 100000 in
theorem cd_X6_lays : Cond.code yX6_lays cX6_lays 3 none ∈ je_T := je_in 825 rfl (by decide +kernel)
set_option maxRecDepth 100000 in
theorem cd_X6_take : Cond.code yX6_take cX6_take 4 (some FieldType.int) ∈ je_T := je_in 829 rfl (by decide +kernel)
set_option maxRecDepth 100000 in
theorem cd_X6_swap : Cond.code yX6_swap cX6_swap 7 (some FieldType.int) ∈ je_T := je_in 833 rfl (by decide +kernel)
set_option maxRecDepth 100000 in
theorem cd_X6_read : Cond.code yX6_read cX6_read 5 (some FieldType.int) ∈ je_T := je_in 837 rfl (by decide +kernel)
set_option maxRecDepth 100000 in
theorem cd_X6_go : Cond.code yX6_go cX6_go 5 (some FieldType.int) ∈ je_T := je_in 841 rfl (by decide +kernel)
set_option maxRecDepth 100000 in
theorem cd_X6_whyOf : Cond.code yX6_whyOf cX6_whyOf 6 (some FieldType.int) ∈ je_T := je_in 845 rfl (by decide +kernel)
set_option maxRecDepth 100000 in
theorem cd_X6_depthOf : Cond.code yX6_depthOf cX6_depthOf 7 (some FieldType.int) ∈ je_T := je_in 849 rfl (by decide +kernel)
set_option maxRecDepth 100000 in
theorem cd_X6_wearOf : Cond.code yX6_wearOf cX6_wearOf 17 none ∈ je_T := je_in 853 rfl (by decide +kernel)
set_option maxRecDepth 100000 in
theorem cd_X6_lastOf : Cond.code yX6_lastOf cX6_lastOf 2 (some FieldType.int) ∈ je_T := je_in 858 rfl (by decide +kernel)
set_option maxRecDepth 100000 in
theorem cd_J9_floorDiv_f86c9 : Cond.code yJ9_floorDiv_f86c9 cJ9_floorDiv_f86c9 6 (some FieldType.long) ∈ je_T := je_in 861 rfl (by decide +kernel)
set_option maxRecDepth 100000 in
theorem cd_X6_goes : Cond.code yX6_goes cX6_goes 3 (some FieldType.boolean) ∈ je_T := je_in 866 rfl (by decide +kernel)
set_option maxRecDepth 100000 in
theorem cd_X6_farOf : Cond.code yX6_farOf cX6_farOf 5 (some FieldType.int) ∈ je_T := je_in 871 rfl (by decide +kernel)
set_option maxRecDepth 100000 in
theorem cd_X6_endOf : Cond.code yX6_endOf cX6_endOf 5 (some FieldType.int) ∈ je_T := je_in 875 rfl (by decide +kernel)
set_option maxRecDepth 100000 in
theorem cd_X6_why : Cond.code yX6_why cX6_why 2 (some FieldType.int) ∈ je_T := je_in 882 rfl (by decide +kernel)
set_option maxRecDepth 100000 in
theorem cd_X6_far : Cond.code yX6_far cX6_far 2 (some FieldType.int) ∈ je_T := je_in 886 rfl (by decide +kernel)
set_option maxRecDepth 100000 in
theorem cd_X6_best : Cond.code yX6_best cX6_best 2 (some FieldType.int) ∈ je_T := je_in 890 rfl (by decide +kernel)
set_option maxRecDepth 100000 in
theorem cd_X6_tries : Cond.code yX6_tries cX6_tries 5 (some FieldType.boolean) ∈ je_T := je_in 894 rfl (by decide +kernel)
set_option maxRecDepth 100000 in
theorem cd_X6_lay : Cond.code yX6_lay cX6_lay 8 none ∈ je_T := je_in 898 rfl (by decide +kernel)
set_option maxRecDepth 100000 in
theorem cd_X6_turn : Cond.code yX6_turn cX6_turn 4 (some FieldType.int) ∈ je_T := je_in 902 rfl (by decide +kernel)
set_option maxRecDepth 100000 in
theorem cd_X6_wear : Cond.code yX6_wear cX6_wear 3 (some FieldType.long) ∈ je_T := je_in 906 rfl (by decide +kernel)
set_option maxRecDepth 100000 in
theorem cd_X6_depth : Cond.code yX6_depth cX6_depth 3 (some FieldType.int) ∈ je_T := je_in 910 rfl (by decide +kernel)
set_option maxRecDepth 100000 in
theorem cd_X6_end : Cond.code yX6_end cX6_end 3 (some FieldType.int) ∈ je_T := je_in 914 rfl (by decide +kernel)
set_option maxRecDepth 100000 in
theorem cd_X6_send : Cond.code yX6_send cX6_send 2 (some FieldType.int) ∈ je_T := je_in 918 rfl (by decide +kernel)
set_option maxRecDepth 100000 in
theorem cd_X6_mend : Cond.code yX6_mend cX6_mend 2 (some FieldType.int) ∈ je_T := je_in 922 rfl (by decide +kernel)
set_option maxRecDepth 100000 in
theorem cd_X6_cast : Cond.code yX6_cast cX6_cast 2 (some FieldType.int) ∈ je_T := je_in 926 rfl (by decide +kernel)
set_option maxRecDepth 100000 in
theorem cd_X6_days : Cond.code yX6_days cX6_days 4 (some FieldType.int) ∈ je_T := je_in 930 rfl (by decide +kernel)
set_option maxRecDepth 100000 in
theorem cd_X6_few : Cond.code yX6_few cX6_few 11 (some FieldType.int) ∈ je_T := je_in 934 rfl (by decide +kernel)
set_option maxRecDepth 100000 in
theorem cd_X6_asOf : Cond.code yX6_asOf cX6_asOf 6 (some FieldType.int) ∈ je_T := je_in 940 rfl (by decide +kernel)
set_option maxRecDepth 100000 in
theorem cd_X6_tyreOf : Cond.code yX6_tyreOf cX6_tyreOf 3 (some FieldType.int) ∈ je_T := je_in 944 rfl (by decide +kernel)
set_option maxRecDepth 100000 in
theorem cd_X6_reading : Cond.code yX6_reading cX6_reading 4 (some FieldType.int) ∈ je_T := je_in 948 rfl (by decide +kernel)
set_option maxRecDepth 100000 in
theorem cd_X6_placeOf : Cond.code yX6_placeOf cX6_placeOf 5 (some FieldType.int) ∈ je_T := je_in 952 rfl (by decide +kernel)
set_option maxRecDepth 100000 in
theorem cd_X6_count : Cond.code yX6_count cX6_count 4 (some FieldType.int) ∈ je_T := je_in 956 rfl (by decide +kernel)
theorem mi_L_9 : je_I RL 9 yX5_init cX5_init 1 0 := ⟨je_in 51 (by decide +kernel) (by decide +kernel), je_in 52 (by decide +kernel) (by decide +kernel), rfl, it_X5, cd_X5_init, ⟨by decide +kernel, by decide +kernel, by decide +kernel⟩, by decide⟩
theorem oi_X5_1 : Cond.methodLink RX5 1 objectInit ∈ je_T := je_in 54 (by decide +kernel) (by decide +kernel)
theorem mi_X5_44 : je_IN RX5 44 yX0_init RX5 cX0_init 1 0 := ⟨by simp [je_N], je_in 75 (by decide +kernel) (by decide +kernel), rfl, it_X0, cd_X0_init, ⟨by decide +kernel, by decide +kernel, by decide +kernel⟩, by decide⟩
theorem oi_X0_3 : Cond.methodLink RX0 3 objectInit ∈ je_T := je_in 77 (by decide +kernel) (by decide +kernel)
theorem mi_X5_51 : je_IN RX5 51 yX1_init RX5 cX1_init 1 0 := ⟨by simp [je_N], je_in 96 (by decide +kernel) (by decide +kernel), rfl, it_X1, cd_X1_init, ⟨by decide +kernel, by decide +kernel, by decide +kernel⟩, by decide⟩
theorem oi_X1_3 : Cond.methodLink RX1 3 objectInit ∈ je_T := je_in 98 (by decide +kernel) (by decide +kernel)
theorem mi_X5_58 : je_IN RX5 58 yX4_init RX5 cX4_init 1 0 := ⟨by simp [je_N], je_in 132 (by decide +kernel) (by decide +kernel), rfl, it_X4, cd_X4_init, ⟨by decide +kernel, by decide +kernel, by decide +kernel⟩, by decide⟩
theorem oi_X4_3 : Cond.methodLink RX4 3 objectInit ∈ je_T := je_in 134 (by decide +kernel) (by decide +kernel)
theorem mv_L_13 : je_V RL 13 yX5_wagon cX5_wagon 2 (some FieldType.int) 0 := ⟨je_in 181 (by decide +kernel) (by decide +kernel), je_in 182 (by decide +kernel) (by decide +kernel), je_in 183 (by decide +kernel) (by decide +kernel), it_X5, cd_X5_wagon, ⟨by decide +kernel, by decide +kernel, by decide +kernel⟩, by decide⟩
theorem mv_X5_70 : je_V RX5 70 yX5_refuse cX5_refuse 2 (some FieldType.int) 1 := ⟨je_in 185 (by decide +kernel) (by decide +kernel), je_in 187 (by decide +kernel) (by decide +kernel), je_in 0 (by decide +kernel) (by decide +kernel), it_X5, cd_X5_refuse, ⟨by decide +kernel, by decide +kernel, by decide +kernel⟩, by decide⟩
theorem ms_X5_96 : je_S RX5 96 yX5_at cX5_at 2 (some FieldType.int) 2 := ⟨je_in 189 (by decide +kernel) (by decide +kernel), je_in 190 (by decide +kernel) (by decide +kernel), it_X5, cd_X5_at, ⟨by decide +kernel, by decide +kernel, by decide +kernel⟩, by decide⟩
theorem ms_X5_100 : je_S RX5 100 yX5_write cX5_write 3 none 3 := ⟨je_in 192 (by decide +kernel) (by decide +kernel), je_in 193 (by decide +kernel) (by decide +kernel), it_X5, cd_X5_write, ⟨by decide +kernel, by decide +kernel, by decide +kernel⟩, by decide⟩
theorem mi_X5_74 : je_I RX5 74 yX3_init cX3_init 2 1 := ⟨je_in 196 (by decide +kernel) (by decide +kernel), je_in 197 (by decide +kernel) (by decide +kernel), rfl, it_X3, cd_X3_init, ⟨by decide +kernel, by decide +kernel, by decide +kernel⟩, by decide⟩
theorem oi_X3_3 : Cond.methodLink RX3 3 objectInit ∈ je_T := je_in 199 (by decide +kernel) (by decide +kernel)
theorem mv_L_18 : je_V RL 18 yX5_place cX5_place 4 (some FieldType.int) 2 := ⟨je_in 216 (by decide +kernel) (by decide +kernel), je_in 217 (by decide +kernel) (by decide +kernel), je_in 218 (by decide +kernel) (by decide +kernel), it_X5, cd_X5_place, ⟨by decide +kernel, by decide +kernel, by decide +kernel⟩, by decide⟩
theorem mv_X5_77 : je_V RX5 77 yX5_wagonAt cX5_wagonAt 2 (some (FieldType.object "TyreBook$Wagon")) 1 := ⟨je_in 220 (by decide +kernel) (by decide +kernel), je_in 222 (by decide +kernel) (by decide +kernel), je_in 1 (by decide +kernel) (by decide +kernel), it_X5, cd_X5_wagonAt, ⟨by decide +kernel, by decide +kernel, by decide +kernel⟩, by decide⟩
theorem ms_X5_81 : je_S RX5 81 yX5_isKind cX5_isKind 1 (some FieldType.boolean) 1 := ⟨je_in 224 (by decide +kernel) (by decide +kernel), je_in 225 (by decide +kernel) (by decide +kernel), it_X5, cd_X5_isKind, ⟨by decide +kernel, by decide +kernel, by decide +kernel⟩, by decide⟩
theorem mv_X5_85 : je_V RX5 85 yX3_isFull cX3_isFull 1 (some FieldType.boolean) 0 := ⟨je_in 227 (by decide +kernel) (by decide +kernel), je_in 228 (by decide +kernel) (by decide +kernel), je_in 229 (by decide +kernel) (by decide +kernel), it_X3, cd_X3_isFull, ⟨by decide +kernel, by decide +kernel, by decide +kernel⟩, by decide⟩
theorem mv_X5_89 : je_V RX5 89 yX3_addPlace cX3_addPlace 3 (some FieldType.int) 1 := ⟨je_in 231 (by decide +kernel) (by decide +kernel), je_in 232 (by decide +kernel) (by decide +kernel), je_in 233 (by decide +kernel) (by decide +kernel), it_X3, cd_X3_addPlace, ⟨by decide +kernel, by decide +kernel, by decide +kernel⟩, by decide⟩
theorem ms_X3_28 : je_SN RX3 28 yX5_write RX5 cX5_write 3 none 3 := ⟨by simp [je_N], je_in 193 (by decide +kernel) (by decide +kernel), it_X5, cd_X5_write, ⟨by decide +kernel, by decide +kernel, by decide +kernel⟩, by decide⟩
theorem mv_L_23 : je_V RL 23 yX5_least cX5_least 5 (some FieldType.int) 2 := ⟨je_in 236 (by decide +kernel) (by decide +kernel), je_in 237 (by decide +kernel) (by decide +kernel), je_in 238 (by decide +kernel) (by decide +kernel), it_X5, cd_X5_least, ⟨by decide +kernel, by decide +kernel, by decide +kernel⟩, by decide⟩
theorem ms_X5_92 : je_S RX5 92 yX5_outside cX5_outside 3 (some FieldType.int) 3 := ⟨je_in 240 (by decide +kernel) (by decide +kernel), je_in 241 (by decide +kernel) (by decide +kernel), it_X5, cd_X5_outside, ⟨by decide +kernel, by decide +kernel, by decide +kernel⟩, by decide⟩
theorem mv_L_27 : je_V RL 27 yX5_apart cX5_apart 4 (some FieldType.int) 1 := ⟨je_in 243 (by decide +kernel) (by decide +kernel), je_in 244 (by decide +kernel) (by decide +kernel), je_in 245 (by decide +kernel) (by decide +kernel), it_X5, cd_X5_apart, ⟨by decide +kernel, by decide +kernel, by decide +kernel⟩, by decide⟩
theorem mv_L_32 : je_V RL 32 yX5_maker cX5_maker 5 (some FieldType.int) 2 := ⟨je_in 247 (by decide +kernel) (by decide +kernel), je_in 248 (by decide +kernel) (by decide +kernel), je_in 249 (by decide +kernel) (by decide +kernel), it_X5, cd_X5_maker, ⟨by decide +kernel, by decide +kernel, by decide +kernel⟩, by decide⟩
theorem ms_X5_104 : je_S RX5 104 yX5_isMaker cX5_isMaker 1 (some FieldType.boolean) 1 := ⟨je_in 251 (by decide +kernel) (by decide +kernel), je_in 252 (by decide +kernel) (by decide +kernel), it_X5, cd_X5_isMaker, ⟨by decide +kernel, by decide +kernel, by decide +kernel⟩, by decide⟩
theorem mv_X5_107 : je_V RX5 107 yX5_refitTyresOf cX5_refitTyresOf 4 none 1 := ⟨je_in 254 (by decide +kernel) (by decide +kernel), je_in 256 (by decide +kernel) (by decide +kernel), je_in 2 (by decide +kernel) (by decide +kernel), it_X5, cd_X5_refitTyresOf, ⟨by decide +kernel, by decide +kernel, by decide +kernel⟩, by decide⟩
theorem mv_X5_132 : je_V RX5 132 yX5_tyreAt cX5_tyreAt 2 (some (FieldType.object "TyreBook$Tyre")) 1 := ⟨je_in 258 (by decide +kernel) (by decide +kernel), je_in 260 (by decide +kernel) (by decide +kernel), je_in 3 (by decide +kernel) (by decide +kernel), it_X5, cd_X5_tyreAt, ⟨by decide +kernel, by decide +kernel, by decide +kernel⟩, by decide⟩
theorem mv_X5_158 : je_V RX5 158 yX2_fitWear cX2_fitWear 15 none 1 := ⟨je_in 262 (by decide +kernel) (by decide +kernel), je_in 263 (by decide +kernel) (by decide +kernel), je_in 264 (by decide +kernel) (by decide +kernel), it_X2, cd_X2_fitWear, ⟨by decide +kernel, by decide +kernel, by decide +kernel⟩, by decide⟩
theorem ms_X2_61 : je_SN RX2 61 yX5_at RX5 cX5_at 2 (some FieldType.int) 2 := ⟨by simp [je_N], je_in 190 (by decide +kernel) (by decide +kernel), it_X5, cd_X5_at, ⟨by decide +kernel, by decide +kernel, by decide +kernel⟩, by decide⟩
theorem mv_X2_65 : je_V RX2 65 yX4_become cX4_become 7 none 2 := ⟨je_in 267 (by decide +kernel) (by decide +kernel), je_in 268 (by decide +kernel) (by decide +kernel), je_in 269 (by decide +kernel) (by decide +kernel), it_X4, cd_X4_become, ⟨by decide +kernel, by decide +kernel, by decide +kernel⟩, by decide⟩
theorem ms_X4_18 : je_S RX4 18 yX4_commonFactor cX4_commonFactor 11 (some FieldType.long) 2 := ⟨je_in 271 (by decide +kernel) (by decide +kernel), je_in 272 (by decide +kernel) (by decide +kernel), it_X4, cd_X4_commonFactor, ⟨by decide +kernel, by decide +kernel, by decide +kernel⟩, by decide⟩
theorem mv_L_36 : je_V RL 36 yX5_buy cX5_buy 3 (some FieldType.int) 1 := ⟨je_in 275 (by decide +kernel) (by decide +kernel), je_in 276 (by decide +kernel) (by decide +kernel), je_in 277 (by decide +kernel) (by decide +kernel), it_X5, cd_X5_buy, ⟨by decide +kernel, by decide +kernel, by decide +kernel⟩, by decide⟩
theorem mv_X5_113 : je_V RX5 113 yX0_hasRoomFor cX0_hasRoomFor 2 (some FieldType.boolean) 1 := ⟨je_in 279 (by decide +kernel) (by decide +kernel), je_in 280 (by decide +kernel) (by decide +kernel), je_in 281 (by decide +kernel) (by decide +kernel), it_X0, cd_X0_hasRoomFor, ⟨by decide +kernel, by decide +kernel, by decide +kernel⟩, by decide⟩
theorem mi_X5_119 : je_I RX5 119 yX2_init cX2_init 4 3 := ⟨je_in 284 (by decide +kernel) (by decide +kernel), je_in 285 (by decide +kernel) (by decide +kernel), rfl, it_X2, cd_X2_init, ⟨by decide +kernel, by decide +kernel, by decide +kernel⟩, by decide⟩
theorem oi_X2_3 : Cond.methodLink RX2 3 objectInit ∈ je_T := je_in 287 (by decide +kernel) (by decide +kernel)
theorem mi_X2_20 : je_IN RX2 20 yX4_init RX5 cX4_init 1 0 := ⟨by simp [je_N], je_in 132 (by decide +kernel) (by decide +kernel), rfl, it_X4, cd_X4_init, ⟨by decide +kernel, by decide +kernel, by decide +kernel⟩, by decide⟩
theorem mv_X5_122 : je_V RX5 122 yX2_startTread cX2_startTread 2 none 1 := ⟨je_in 341 (by decide +kernel) (by decide +kernel), je_in 342 (by decide +kernel) (by decide +kernel), je_in 343 (by decide +kernel) (by decide +kernel), it_X2, cd_X2_startTread, ⟨by decide +kernel, by decide +kernel, by decide +kernel⟩, by decide⟩
theorem mv_X2_47 : je_V RX2 47 yX2_addReading cX2_addReading 2 none 1 := ⟨je_in 345 (by decide +kernel) (by decide +kernel), je_in 346 (by decide +kernel) (by decide +kernel), je_in 347 (by decide +kernel) (by decide +kernel), it_X2, cd_X2_addReading, ⟨by decide +kernel, by decide +kernel, by decide +kernel⟩, by decide⟩
theorem mv_X2_54 : je_V RX2 54 yX2_dropSecondReading cX2_dropSecondReading 2 none 0 := ⟨je_in 349 (by decide +kernel) (by decide +kernel), je_in 351 (by decide +kernel) (by decide +kernel), je_in 4 (by decide +kernel) (by decide +kernel), it_X2, cd_X2_dropSecondReading, ⟨by decide +kernel, by decide +kernel, by decide +kernel⟩, by decide⟩
theorem ms_X2_57 : je_SN RX2 57 yX5_write RX5 cX5_write 3 none 3 := ⟨by simp [je_N], je_in 193 (by decide +kernel) (by decide +kernel), it_X5, cd_X5_write, ⟨by decide +kernel, by decide +kernel, by decide +kernel⟩, by decide⟩
theorem mv_X2_51 : je_V RX2 51 yX2_fitWear cX2_fitWear 15 none 1 := ⟨je_in 354 (by decide +kernel) (by decide +kernel), je_in 263 (by decide +kernel) (by decide +kernel), je_in 264 (by decide +kernel) (by decide +kernel), it_X2, cd_X2_fitWear, ⟨by decide +kernel, by decide +kernel, by decide +kernel⟩, by decide⟩
theorem mv_X5_128 : je_V RX5 128 yX5_move cX5_move 3 none 2 := ⟨je_in 355 (by decide +kernel) (by decide +kernel), je_in 357 (by decide +kernel) (by decide +kernel), je_in 5 (by decide +kernel) (by decide +kernel), it_X5, cd_X5_move, ⟨by decide +kernel, by decide +kernel, by decide +kernel⟩, by decide⟩
theorem mv_X5_274 : je_V RX5 274 yX0_note cX0_note 4 none 3 := ⟨je_in 359 (by decide +kernel) (by decide +kernel), je_in 360 (by decide +kernel) (by decide +kernel), je_in 361 (by decide +kernel) (by decide +kernel), it_X0, cd_X0_note, ⟨by decide +kernel, by decide +kernel, by decide +kernel⟩, by decide⟩
theorem ms_X0_25 : je_SN RX0 25 yX5_write RX5 cX5_write 3 none 3 := ⟨by simp [je_N], je_in 193 (by decide +kernel) (by decide +kernel), it_X5, cd_X5_write, ⟨by decide +kernel, by decide +kernel, by decide +kernel⟩, by decide⟩
theorem mv_L_40 : je_V RL 40 yX5_put cX5_put 6 (some FieldType.int) 3 := ⟨je_in 364 (by decide +kernel) (by decide +kernel), je_in 365 (by decide +kernel) (by decide +kernel), je_in 366 (by decide +kernel) (by decide +kernel), it_X5, cd_X5_put, ⟨by decide +kernel, by decide +kernel, by decide +kernel⟩, by decide⟩
theorem mv_X5_136 : je_V RX5 136 yX3_hasPlace cX3_hasPlace 2 (some FieldType.boolean) 1 := ⟨je_in 368 (by decide +kernel) (by decide +kernel), je_in 369 (by decide +kernel) (by decide +kernel), je_in 370 (by decide +kernel) (by decide +kernel), it_X3, cd_X3_hasPlace, ⟨by decide +kernel, by decide +kernel, by decide +kernel⟩, by decide⟩
theorem mv_X5_142 : je_V RX5 142 yX3_tyreOn cX3_tyreOn 2 (some (FieldType.object "TyreBook$Tyre")) 1 := ⟨je_in 372 (by decide +kernel) (by decide +kernel), je_in 373 (by decide +kernel) (by decide +kernel), je_in 374 (by decide +kernel) (by decide +kernel), it_X3, cd_X3_tyreOn, ⟨by decide +kernel, by decide +kernel, by decide +kernel⟩, by decide⟩
theorem mv_X3_32 : je_V RX3 32 yX3_hasPlace cX3_hasPlace 2 (some FieldType.boolean) 1 := ⟨je_in 376 (by decide +kernel) (by decide +kernel), je_in 369 (by decide +kernel) (by decide +kernel), je_in 370 (by decide +kernel) (by decide +kernel), it_X3, cd_X3_hasPlace, ⟨by decide +kernel, by decide +kernel, by decide +kernel⟩, by decide⟩
theorem mv_X5_145 : je_V RX5 145 yX3_lay cX3_lay 3 none 2 := ⟨je_in 377 (by decide +kernel) (by decide +kernel), je_in 378 (by decide +kernel) (by decide +kernel), je_in 379 (by decide +kernel) (by decide +kernel), it_X3, cd_X3_lay, ⟨by decide +kernel, by decide +kernel, by decide +kernel⟩, by decide⟩
theorem mv_X5_149 : je_V RX5 149 yX3_spot cX3_spot 2 (some FieldType.int) 1 := ⟨je_in 381 (by decide +kernel) (by decide +kernel), je_in 382 (by decide +kernel) (by decide +kernel), je_in 383 (by decide +kernel) (by decide +kernel), it_X3, cd_X3_spot, ⟨by decide +kernel, by decide +kernel, by decide +kernel⟩, by decide⟩
theorem mv_L_45 : je_V RL 45 yX5_take cX5_take 5 (some FieldType.int) 2 := ⟨je_in 385 (by decide +kernel) (by decide +kernel), je_in 386 (by decide +kernel) (by decide +kernel), je_in 387 (by decide +kernel) (by decide +kernel), it_X5, cd_X5_take, ⟨by decide +kernel, by decide +kernel, by decide +kernel⟩, by decide⟩
theorem mv_L_49 : je_V RL 49 yX5_swap cX5_swap 9 (some FieldType.int) 4 := ⟨je_in 389 (by decide +kernel) (by decide +kernel), je_in 390 (by decide +kernel) (by decide +kernel), je_in 391 (by decide +kernel) (by decide +kernel), it_X5, cd_X5_swap, ⟨by decide +kernel, by decide +kernel, by decide +kernel⟩, by decide⟩
theorem mv_L_54 : je_V RL 54 yX5_read cX5_read 5 (some FieldType.int) 2 := ⟨je_in 393 (by decide +kernel) (by decide +kernel), je_in 394 (by decide +kernel) (by decide +kernel), je_in 395 (by decide +kernel) (by decide +kernel), it_X5, cd_X5_read, ⟨by decide +kernel, by decide +kernel, by decide +kernel⟩, by decide⟩
theorem mv_X5_152 : je_V RX5 152 yX2_addReading cX2_addReading 2 none 1 := ⟨je_in 397 (by decide +kernel) (by decide +kernel), je_in 346 (by decide +kernel) (by decide +kernel), je_in 347 (by decide +kernel) (by decide +kernel), it_X2, cd_X2_addReading, ⟨by decide +kernel, by decide +kernel, by decide +kernel⟩, by decide⟩
theorem mv_L_58 : je_V RL 58 yX5_go cX5_go 5 (some FieldType.int) 3 := ⟨je_in 398 (by decide +kernel) (by decide +kernel), je_in 399 (by decide +kernel) (by decide +kernel), je_in 400 (by decide +kernel) (by decide +kernel), it_X5, cd_X5_go, ⟨by decide +kernel, by decide +kernel, by decide +kernel⟩, by decide⟩
theorem mv_X5_164 : je_V RX5 164 yX3_whyUnfit cX3_whyUnfit 5 (some FieldType.int) 2 := ⟨je_in 402 (by decide +kernel) (by decide +kernel), je_in 403 (by decide +kernel) (by decide +kernel), je_in 404 (by decide +kernel) (by decide +kernel), it_X3, cd_X3_whyUnfit, ⟨by decide +kernel, by decide +kernel, by decide +kernel⟩, by decide⟩
theorem mv_X3_44 : je_V RX3 44 yX3_flawOn cX3_flawOn 8 (some FieldType.int) 3 := ⟨je_in 406 (by decide +kernel) (by decide +kernel), je_in 408 (by decide +kernel) (by decide +kernel), je_in 6 (by decide +kernel) (by decide +kernel), it_X3, cd_X3_flawOn, ⟨by decide +kernel, by decide +kernel, by decide +kernel⟩, by decide⟩
theorem mv_X3_40 : je_V RX3 40 yX3_kindOf cX3_kindOf 2 (some FieldType.int) 1 := ⟨je_in 410 (by decide +kernel) (by decide +kernel), je_in 411 (by decide +kernel) (by decide +kernel), je_in 412 (by decide +kernel) (by decide +kernel), it_X3, cd_X3_kindOf, ⟨by decide +kernel, by decide +kernel, by decide +kernel⟩, by decide⟩
theorem ms_X3_36 : je_SN RX3 36 yX5_at RX5 cX5_at 2 (some FieldType.int) 2 := ⟨by simp [je_N], je_in 190 (by decide +kernel) (by decide +kernel), it_X5, cd_X5_at, ⟨by decide +kernel, by decide +kernel, by decide +kernel⟩, by decide⟩
theorem mv_X3_48 : je_V RX3 48 yX3_tyreOn cX3_tyreOn 2 (some (FieldType.object "TyreBook$Tyre")) 1 := ⟨je_in 415 (by decide +kernel) (by decide +kernel), je_in 373 (by decide +kernel) (by decide +kernel), je_in 374 (by decide +kernel) (by decide +kernel), it_X3, cd_X3_tyreOn, ⟨by decide +kernel, by decide +kernel, by decide +kernel⟩, by decide⟩
theorem mv_X3_55 : je_V RX3 55 yX2_depthAfter cX2_depthAfter 2 (some FieldType.int) 1 := ⟨je_in 416 (by decide +kernel) (by decide +kernel), je_in 417 (by decide +kernel) (by decide +kernel), je_in 418 (by decide +kernel) (by decide +kernel), it_X2, cd_X2_depthAfter, ⟨by decide +kernel, by decide +kernel, by decide +kernel⟩, by decide⟩
theorem mv_X2_71 : je_V RX2 71 yX2_sinceRead cX2_sinceRead 1 (some FieldType.int) 0 := ⟨je_in 420 (by decide +kernel) (by decide +kernel), je_in 422 (by decide +kernel) (by decide +kernel), je_in 7 (by decide +kernel) (by decide +kernel), it_X2, cd_X2_sinceRead, ⟨by decide +kernel, by decide +kernel, by decide +kernel⟩, by decide⟩
theorem mv_X2_75 : je_V RX2 75 yX4_depthFrom cX4_depthFrom 5 (some FieldType.int) 2 := ⟨je_in 424 (by decide +kernel) (by decide +kernel), je_in 425 (by decide +kernel) (by decide +kernel), je_in 426 (by decide +kernel) (by decide +kernel), it_X4, cd_X4_depthFrom, ⟨by decide +kernel, by decide +kernel, by decide +kernel⟩, by decide⟩
theorem mv_X3_58 : je_V RX3 58 yX3_pairOf cX3_pairOf 4 (some FieldType.int) 1 := ⟨je_in 428 (by decide +kernel) (by decide +kernel), je_in 429 (by decide +kernel) (by decide +kernel), je_in 430 (by decide +kernel) (by decide +kernel), it_X3, cd_X3_pairOf, ⟨by decide +kernel, by decide +kernel, by decide +kernel⟩, by decide⟩
theorem ms_X3_61 : je_S RX3 61 yJ9_abs_0f7a4 cJ9_abs_0f7a4 1 (some FieldType.int) 1 := ⟨je_in 432 (by decide +kernel) (by decide +kernel), je_in 433 (by decide +kernel) (by decide +kernel), it_J9, cd_J9_abs_0f7a4, ⟨by decide +kernel, by decide +kernel, by decide +kernel⟩, by decide⟩
theorem mv_X5_167 : je_V RX5 167 yX3_mostLengths cX3_mostLengths 5 (some FieldType.int) 1 := ⟨je_in 435 (by decide +kernel) (by decide +kernel), je_in 436 (by decide +kernel) (by decide +kernel), je_in 437 (by decide +kernel) (by decide +kernel), it_X3, cd_X3_mostLengths, ⟨by decide +kernel, by decide +kernel, by decide +kernel⟩, by decide⟩
theorem mv_X3_74 : je_V RX3 74 yX3_rollingOn cX3_rollingOn 4 (some (FieldType.object "TyreBook$Tyre")) 2 := ⟨je_in 439 (by decide +kernel) (by decide +kernel), je_in 441 (by decide +kernel) (by decide +kernel), je_in 8 (by decide +kernel) (by decide +kernel), it_X3, cd_X3_rollingOn, ⟨by decide +kernel, by decide +kernel, by decide +kernel⟩, by decide⟩
theorem ms_X3_81 : je_S RX3 81 yJ9_max_7cf53 cJ9_max_7cf53 2 (some FieldType.int) 2 := ⟨je_in 443 (by decide +kernel) (by decide +kernel), je_in 444 (by decide +kernel) (by decide +kernel), it_J9, cd_J9_max_7cf53, ⟨by decide +kernel, by decide +kernel, by decide +kernel⟩, by decide⟩
theorem mv_X5_172 : je_V RX5 172 yX3_roll cX3_roll 5 none 2 := ⟨je_in 447 (by decide +kernel) (by decide +kernel), je_in 448 (by decide +kernel) (by decide +kernel), je_in 449 (by decide +kernel) (by decide +kernel), it_X3, cd_X3_roll, ⟨by decide +kernel, by decide +kernel, by decide +kernel⟩, by decide⟩
theorem mv_X5_176 : je_V RX5 176 yX3_reach cX3_reach 5 (some FieldType.int) 1 := ⟨je_in 451 (by decide +kernel) (by decide +kernel), je_in 452 (by decide +kernel) (by decide +kernel), je_in 453 (by decide +kernel) (by decide +kernel), it_X3, cd_X3_reach, ⟨by decide +kernel, by decide +kernel, by decide +kernel⟩, by decide⟩
theorem mv_X3_67 : je_V RX3 67 yX2_endFor cX2_endFor 2 (some FieldType.int) 1 := ⟨je_in 456 (by decide +kernel) (by decide +kernel), je_in 457 (by decide +kernel) (by decide +kernel), je_in 458 (by decide +kernel) (by decide +kernel), it_X2, cd_X2_endFor, ⟨by decide +kernel, by decide +kernel, by decide +kernel⟩, by decide⟩
theorem mv_X2_79 : je_V RX2 79 yX4_endFrom cX4_endFrom 6 (some FieldType.int) 3 := ⟨je_in 460 (by decide +kernel) (by decide +kernel), je_in 461 (by decide +kernel) (by decide +kernel), je_in 462 (by decide +kernel) (by decide +kernel), it_X4, cd_X4_endFrom, ⟨by decide +kernel, by decide +kernel, by decide +kernel⟩, by decide⟩
theorem ms_X4_25 : je_S RX4 25 yJ9_min_f86c9 cJ9_min_f86c9 4 (some FieldType.long) 2 := ⟨je_in 466 (by decide +kernel) (by decide +kernel), je_in 467 (by decide +kernel) (by decide +kernel), it_J9, cd_J9_min_f86c9, ⟨by decide +kernel, by decide +kernel, by decide +kernel⟩, by decide⟩
theorem ms_X4_30 : je_S RX4 30 yJ9_max_f86c9 cJ9_max_f86c9 4 (some FieldType.long) 2 := ⟨je_in 469 (by decide +kernel) (by decide +kernel), je_in 470 (by decide +kernel) (by decide +kernel), it_J9, cd_J9_max_f86c9, ⟨by decide +kernel, by decide +kernel, by decide +kernel⟩, by decide⟩
theorem ms_X3_70 : je_S RX3 70 yJ9_min_7cf53 cJ9_min_7cf53 2 (some FieldType.int) 2 := ⟨je_in 472 (by decide +kernel) (by decide +kernel), je_in 473 (by decide +kernel) (by decide +kernel), it_J9, cd_J9_min_7cf53, ⟨by decide +kernel, by decide +kernel, by decide +kernel⟩, by decide⟩
theorem mv_L_63 : je_V RL 63 yX5_why cX5_why 3 (some FieldType.int) 1 := ⟨je_in 475 (by decide +kernel) (by decide +kernel), je_in 476 (by decide +kernel) (by decide +kernel), je_in 477 (by decide +kernel) (by decide +kernel), it_X5, cd_X5_why, ⟨by decide +kernel, by decide +kernel, by decide +kernel⟩, by decide⟩
theorem mv_L_67 : je_V RL 67 yX5_far cX5_far 3 (some FieldType.int) 1 := ⟨je_in 479 (by decide +kernel) (by decide +kernel), je_in 480 (by decide +kernel) (by decide +kernel), je_in 481 (by decide +kernel) (by decide +kernel), it_X5, cd_X5_far, ⟨by decide +kernel, by decide +kernel, by decide +kernel⟩, by decide⟩
theorem mv_L_71 : je_V RL 71 yX5_best cX5_best 3 (some FieldType.int) 1 := ⟨je_in 483 (by decide +kernel) (by decide +kernel), je_in 484 (by decide +kernel) (by decide +kernel), je_in 485 (by decide +kernel) (by decide +kernel), it_X5, cd_X5_best, ⟨by decide +kernel, by decide +kernel, by decide +kernel⟩, by decide⟩
theorem mv_X5_180 : je_V RX5 180 yX1_findReach cX1_findReach 4 (some FieldType.boolean) 2 := ⟨je_in 487 (by decide +kernel) (by decide +kernel), je_in 488 (by decide +kernel) (by decide +kernel), je_in 489 (by decide +kernel) (by decide +kernel), it_X1, cd_X1_findReach, ⟨by decide +kernel, by decide +kernel, by decide +kernel⟩, by decide⟩
theorem ms_X1_39 : je_S RX1 39 yJ9_min_7cf53 cJ9_min_7cf53 2 (some FieldType.int) 2 := ⟨je_in 491 (by decide +kernel) (by decide +kernel), je_in 473 (by decide +kernel) (by decide +kernel), it_J9, cd_J9_min_7cf53, ⟨by decide +kernel, by decide +kernel, by decide +kernel⟩, by decide⟩
theorem mv_X1_46 : je_V RX1 46 yX1_gather cX1_gather 4 none 1 := ⟨je_in 492 (by decide +kernel) (by decide +kernel), je_in 494 (by decide +kernel) (by decide +kernel), je_in 9 (by decide +kernel) (by decide +kernel), it_X1, cd_X1_gather, ⟨by decide +kernel, by decide +kernel, by decide +kernel⟩, by decide⟩
theorem mv_X1_84 : je_V RX1 84 yX3_tyreOn cX3_tyreOn 2 (some (FieldType.object "TyreBook$Tyre")) 1 := ⟨je_in 496 (by decide +kernel) (by decide +kernel), je_in 373 (by decide +kernel) (by decide +kernel), je_in 374 (by decide +kernel) (by decide +kernel), it_X3, cd_X3_tyreOn, ⟨by decide +kernel, by decide +kernel, by decide +kernel⟩, by decide⟩
theorem mv_X1_87 : je_V RX1 87 yX1_insert cX1_insert 4 none 1 := ⟨je_in 497 (by decide +kernel) (by decide +kernel), je_in 499 (by decide +kernel) (by decide +kernel), je_in 10 (by decide +kernel) (by decide +kernel), it_X1, cd_X1_insert, ⟨by decide +kernel, by decide +kernel, by decide +kernel⟩, by decide⟩
theorem mv_X1_53 : je_V RX1 53 yX1_weigh cX1_weigh 8 none 3 := ⟨je_in 501 (by decide +kernel) (by decide +kernel), je_in 503 (by decide +kernel) (by decide +kernel), je_in 11 (by decide +kernel) (by decide +kernel), it_X1, cd_X1_weigh, ⟨by decide +kernel, by decide +kernel, by decide +kernel⟩, by decide⟩
theorem mv_X1_94 : je_V RX1 94 yX3_kindOf cX3_kindOf 2 (some FieldType.int) 1 := ⟨je_in 505 (by decide +kernel) (by decide +kernel), je_in 411 (by decide +kernel) (by decide +kernel), je_in 412 (by decide +kernel) (by decide +kernel), it_X3, cd_X3_kindOf, ⟨by decide +kernel, by decide +kernel, by decide +kernel⟩, by decide⟩
theorem ms_X1_76 : je_SN RX1 76 yX5_write RX5 cX5_write 3 none 3 := ⟨by simp [je_N], je_in 193 (by decide +kernel) (by decide +kernel), it_X5, cd_X5_write, ⟨by decide +kernel, by decide +kernel, by decide +kernel⟩, by decide⟩
theorem mv_X1_80 : je_V RX1 80 yX1_turnedAt cX1_turnedAt 2 (some (FieldType.object "TyreBook$Tyre")) 1 := ⟨je_in 507 (by decide +kernel) (by decide +kernel), je_in 509 (by decide +kernel) (by decide +kernel), je_in 12 (by decide +kernel) (by decide +kernel), it_X1, cd_X1_turnedAt, ⟨by decide +kernel, by decide +kernel, by decide +kernel⟩, by decide⟩
theorem ms_X1_98 : je_S RX1 98 yX1_reachOf cX1_reachOf 3 (some FieldType.int) 3 := ⟨je_in 511 (by decide +kernel) (by decide +kernel), je_in 512 (by decide +kernel) (by decide +kernel), it_X1, cd_X1_reachOf, ⟨by decide +kernel, by decide +kernel, by decide +kernel⟩, by decide⟩
theorem ms_X1_63 : je_SN RX1 63 yX5_at RX5 cX5_at 2 (some FieldType.int) 2 := ⟨by simp [je_N], je_in 190 (by decide +kernel) (by decide +kernel), it_X5, cd_X5_at, ⟨by decide +kernel, by decide +kernel, by decide +kernel⟩, by decide⟩
theorem mv_X1_106 : je_V RX1 106 yX2_endFor cX2_endFor 2 (some FieldType.int) 1 := ⟨je_in 516 (by decide +kernel) (by decide +kernel), je_in 457 (by decide +kernel) (by decide +kernel), je_in 458 (by decide +kernel) (by decide +kernel), it_X2, cd_X2_endFor, ⟨by decide +kernel, by decide +kernel, by decide +kernel⟩, by decide⟩
theorem mv_X1_57 : je_V RX1 57 yX1_fillReaches cX1_fillReaches 4 none 0 := ⟨je_in 517 (by decide +kernel) (by decide +kernel), je_in 519 (by decide +kernel) (by decide +kernel), je_in 13 (by decide +kernel) (by decide +kernel), it_X1, cd_X1_fillReaches, ⟨by decide +kernel, by decide +kernel, by decide +kernel⟩, by decide⟩
theorem mv_X1_109 : je_V RX1 109 yX1_allUsed cX1_allUsed 1 (some FieldType.int) 0 := ⟨je_in 521 (by decide +kernel) (by decide +kernel), je_in 523 (by decide +kernel) (by decide +kernel), je_in 14 (by decide +kernel) (by decide +kernel), it_X1, cd_X1_allUsed, ⟨by decide +kernel, by decide +kernel, by decide +kernel⟩, by decide⟩
theorem ms_X1_60 : je_S RX1 60 yX1_slot cX1_slot 2 (some FieldType.int) 2 := ⟨je_in 525 (by decide +kernel) (by decide +kernel), je_in 526 (by decide +kernel) (by decide +kernel), it_X1, cd_X1_slot, ⟨by decide +kernel, by decide +kernel, by decide +kernel⟩, by decide⟩
theorem mv_X1_113 : je_V RX1 113 yX1_reachFrom cX1_reachFrom 6 (some FieldType.int) 2 := ⟨je_in 528 (by decide +kernel) (by decide +kernel), je_in 530 (by decide +kernel) (by decide +kernel), je_in 15 (by decide +kernel) (by decide +kernel), it_X1, cd_X1_reachFrom, ⟨by decide +kernel, by decide +kernel, by decide +kernel⟩, by decide⟩
theorem ms_X1_116 : je_S RX1 116 yX1_isUsed cX1_isUsed 2 (some FieldType.boolean) 2 := ⟨je_in 532 (by decide +kernel) (by decide +kernel), je_in 533 (by decide +kernel) (by decide +kernel), it_X1, cd_X1_isUsed, ⟨by decide +kernel, by decide +kernel, by decide +kernel⟩, by decide⟩
theorem ms_X1_120 : je_S RX1 120 yJ9_max_7cf53 cJ9_max_7cf53 2 (some FieldType.int) 2 := ⟨je_in 535 (by decide +kernel) (by decide +kernel), je_in 444 (by decide +kernel) (by decide +kernel), it_J9, cd_J9_max_7cf53, ⟨by decide +kernel, by decide +kernel, by decide +kernel⟩, by decide⟩
theorem mv_L_75 : je_V RL 75 yX5_turn cX5_turn 4 (some FieldType.int) 1 := ⟨je_in 536 (by decide +kernel) (by decide +kernel), je_in 537 (by decide +kernel) (by decide +kernel), je_in 538 (by decide +kernel) (by decide +kernel), it_X5, cd_X5_turn, ⟨by decide +kernel, by decide +kernel, by decide +kernel⟩, by decide⟩
theorem mv_X5_186 : je_V RX5 186 yX1_findWay cX1_findWay 4 (some FieldType.int) 0 := ⟨je_in 540 (by decide +kernel) (by decide +kernel), je_in 541 (by decide +kernel) (by decide +kernel), je_in 542 (by decide +kernel) (by decide +kernel), it_X1, cd_X1_findWay, ⟨by decide +kernel, by decide +kernel, by decide +kernel⟩, by decide⟩
theorem mv_X1_70 : je_V RX1 70 yX1_fillChanges cX1_fillChanges 4 none 0 := ⟨je_in 544 (by decide +kernel) (by decide +kernel), je_in 546 (by decide +kernel) (by decide +kernel), je_in 16 (by decide +kernel) (by decide +kernel), it_X1, cd_X1_fillChanges, ⟨by decide +kernel, by decide +kernel, by decide +kernel⟩, by decide⟩
theorem mv_X1_123 : je_V RX1 123 yX1_fewestFrom cX1_fewestFrom 5 (some FieldType.int) 2 := ⟨je_in 548 (by decide +kernel) (by decide +kernel), je_in 550 (by decide +kernel) (by decide +kernel), je_in 17 (by decide +kernel) (by decide +kernel), it_X1, cd_X1_fewestFrom, ⟨by decide +kernel, by decide +kernel, by decide +kernel⟩, by decide⟩
theorem mv_X1_126 : je_V RX1 126 yX1_changesWith cX1_changesWith 5 (some FieldType.int) 3 := ⟨je_in 552 (by decide +kernel) (by decide +kernel), je_in 554 (by decide +kernel) (by decide +kernel), je_in 18 (by decide +kernel) (by decide +kernel), it_X1, cd_X1_changesWith, ⟨by decide +kernel, by decide +kernel, by decide +kernel⟩, by decide⟩
theorem mv_X1_73 : je_V RX1 73 yX1_choose cX1_choose 5 (some FieldType.int) 2 := ⟨je_in 556 (by decide +kernel) (by decide +kernel), je_in 558 (by decide +kernel) (by decide +kernel), je_in 19 (by decide +kernel) (by decide +kernel), it_X1, cd_X1_choose, ⟨by decide +kernel, by decide +kernel, by decide +kernel⟩, by decide⟩
theorem mv_X5_190 : je_V RX5 190 yX5_layAsChosen cX5_layAsChosen 4 none 1 := ⟨je_in 560 (by decide +kernel) (by decide +kernel), je_in 562 (by decide +kernel) (by decide +kernel), je_in 20 (by decide +kernel) (by decide +kernel), it_X5, cd_X5_layAsChosen, ⟨by decide +kernel, by decide +kernel, by decide +kernel⟩, by decide⟩
theorem mv_X5_277 : je_V RX5 277 yX1_chosenFor cX1_chosenFor 2 (some (FieldType.object "TyreBook$Tyre")) 1 := ⟨je_in 564 (by decide +kernel) (by decide +kernel), je_in 565 (by decide +kernel) (by decide +kernel), je_in 566 (by decide +kernel) (by decide +kernel), it_X1, cd_X1_chosenFor, ⟨by decide +kernel, by decide +kernel, by decide +kernel⟩, by decide⟩
theorem mv_L_79 : je_V RL 79 yX5_wear cX5_wear 4 (some FieldType.long) 2 := ⟨je_in 568 (by decide +kernel) (by decide +kernel), je_in 569 (by decide +kernel) (by decide +kernel), je_in 570 (by decide +kernel) (by decide +kernel), it_X5, cd_X5_wear, ⟨by decide +kernel, by decide +kernel, by decide +kernel⟩, by decide⟩
theorem mv_L_84 : je_V RL 84 yX5_depth cX5_depth 5 (some FieldType.int) 2 := ⟨je_in 572 (by decide +kernel) (by decide +kernel), je_in 573 (by decide +kernel) (by decide +kernel), je_in 574 (by decide +kernel) (by decide +kernel), it_X5, cd_X5_depth, ⟨by decide +kernel, by decide +kernel, by decide +kernel⟩, by decide⟩
theorem mv_X5_204 : je_V RX5 204 yX2_depthAfter cX2_depthAfter 2 (some FieldType.int) 1 := ⟨je_in 576 (by decide +kernel) (by decide +kernel), je_in 417 (by decide +kernel) (by decide +kernel), je_in 418 (by decide +kernel) (by decide +kernel), it_X2, cd_X2_depthAfter, ⟨by decide +kernel, by decide +kernel, by decide +kernel⟩, by decide⟩
theorem mv_L_88 : je_V RL 88 yX5_end cX5_end 5 (some FieldType.int) 2 := ⟨je_in 577 (by decide +kernel) (by decide +kernel), je_in 578 (by decide +kernel) (by decide +kernel), je_in 579 (by decide +kernel) (by decide +kernel), it_X5, cd_X5_end, ⟨by decide +kernel, by decide +kernel, by decide +kernel⟩, by decide⟩
theorem mv_X5_207 : je_V RX5 207 yX2_endFor cX2_endFor 2 (some FieldType.int) 1 := ⟨je_in 581 (by decide +kernel) (by decide +kernel), je_in 457 (by decide +kernel) (by decide +kernel), je_in 458 (by decide +kernel) (by decide +kernel), it_X2, cd_X2_endFor, ⟨by decide +kernel, by decide +kernel, by decide +kernel⟩, by decide⟩
theorem mv_L_92 : je_V RL 92 yX5_send cX5_send 3 (some FieldType.int) 1 := ⟨je_in 582 (by decide +kernel) (by decide +kernel), je_in 583 (by decide +kernel) (by decide +kernel), je_in 584 (by decide +kernel) (by decide +kernel), it_X5, cd_X5_send, ⟨by decide +kernel, by decide +kernel, by decide +kernel⟩, by decide⟩
theorem mv_L_96 : je_V RL 96 yX5_mend cX5_mend 3 (some FieldType.int) 1 := ⟨je_in 586 (by decide +kernel) (by decide +kernel), je_in 587 (by decide +kernel) (by decide +kernel), je_in 588 (by decide +kernel) (by decide +kernel), it_X5, cd_X5_mend, ⟨by decide +kernel, by decide +kernel, by decide +kernel⟩, by decide⟩
theorem mv_L_100 : je_V RL 100 yX5_cast cX5_cast 3 (some FieldType.int) 1 := ⟨je_in 590 (by decide +kernel) (by decide +kernel), je_in 591 (by decide +kernel) (by decide +kernel), je_in 592 (by decide +kernel) (by decide +kernel), it_X5, cd_X5_cast, ⟨by decide +kernel, by decide +kernel, by decide +kernel⟩, by decide⟩
theorem mv_L_104 : je_V RL 104 yX5_days cX5_days 6 (some FieldType.int) 1 := ⟨je_in 594 (by decide +kernel) (by decide +kernel), je_in 595 (by decide +kernel) (by decide +kernel), je_in 596 (by decide +kernel) (by decide +kernel), it_X5, cd_X5_days, ⟨by decide +kernel, by decide +kernel, by decide +kernel⟩, by decide⟩
theorem mv_X5_219 : je_V RX5 219 yX5_nextBack cX5_nextBack 5 (some (FieldType.object "TyreBook$Tyre")) 1 := ⟨je_in 598 (by decide +kernel) (by decide +kernel), je_in 600 (by decide +kernel) (by decide +kernel), je_in 21 (by decide +kernel) (by decide +kernel), it_X5, cd_X5_nextBack, ⟨by decide +kernel, by decide +kernel, by decide +kernel⟩, by decide⟩
theorem mv_X5_222 : je_V RX5 222 yX5_bringBack cX5_bringBack 2 none 1 := ⟨je_in 602 (by decide +kernel) (by decide +kernel), je_in 604 (by decide +kernel) (by decide +kernel), je_in 22 (by decide +kernel) (by decide +kernel), it_X5, cd_X5_bringBack, ⟨by decide +kernel, by decide +kernel, by decide +kernel⟩, by decide⟩
theorem mv_L_108 : je_V RL 108 yX5_few cX5_few 8 (some FieldType.int) 3 := ⟨je_in 606 (by decide +kernel) (by decide +kernel), je_in 607 (by decide +kernel) (by decide +kernel), je_in 608 (by decide +kernel) (by decide +kernel), it_X5, cd_X5_few, ⟨by decide +kernel, by decide +kernel, by decide +kernel⟩, by decide⟩
theorem mv_X5_228 : je_V RX5 228 yX4_become cX4_become 7 none 2 := ⟨je_in 611 (by decide +kernel) (by decide +kernel), je_in 268 (by decide +kernel) (by decide +kernel), je_in 269 (by decide +kernel) (by decide +kernel), it_X4, cd_X4_become, ⟨by decide +kernel, by decide +kernel, by decide +kernel⟩, by decide⟩
theorem mv_X5_235 : je_V RX5 235 yX5_neededOn cX5_neededOn 8 (some FieldType.int) 3 := ⟨je_in 612 (by decide +kernel) (by decide +kernel), je_in 614 (by decide +kernel) (by decide +kernel), je_in 23 (by decide +kernel) (by decide +kernel), it_X5, cd_X5_neededOn, ⟨by decide +kernel, by decide +kernel, by decide +kernel⟩, by decide⟩
theorem mv_X5_258 : je_V RX5 258 yX3_kindOf cX3_kindOf 2 (some FieldType.int) 1 := ⟨je_in 616 (by decide +kernel) (by decide +kernel), je_in 411 (by decide +kernel) (by decide +kernel), je_in 412 (by decide +kernel) (by decide +kernel), it_X3, cd_X3_kindOf, ⟨by decide +kernel, by decide +kernel, by decide +kernel⟩, by decide⟩
theorem mv_X5_280 : je_V RX5 280 yX4_endFrom cX4_endFrom 6 (some FieldType.int) 3 := ⟨je_in 617 (by decide +kernel) (by decide +kernel), je_in 461 (by decide +kernel) (by decide +kernel), je_in 462 (by decide +kernel) (by decide +kernel), it_X4, cd_X4_endFrom, ⟨by decide +kernel, by decide +kernel, by decide +kernel⟩, by decide⟩
theorem ms_X5_283 : je_S RX5 283 yX5_tyresFor cX5_tyresFor 2 (some FieldType.int) 2 := ⟨je_in 618 (by decide +kernel) (by decide +kernel), je_in 619 (by decide +kernel) (by decide +kernel), it_X5, cd_X5_tyresFor, ⟨by decide +kernel, by decide +kernel, by decide +kernel⟩, by decide⟩
theorem ms_X5_286 : je_S RX5 286 yJ9_max_7cf53 cJ9_max_7cf53 2 (some FieldType.int) 2 := ⟨je_in 621 (by decide +kernel) (by decide +kernel), je_in 444 (by decide +kernel) (by decide +kernel), it_J9, cd_J9_max_7cf53, ⟨by decide +kernel, by decide +kernel, by decide +kernel⟩, by decide⟩
theorem mv_L_112 : je_V RL 112 yX5_asOf cX5_asOf 5 (some FieldType.int) 2 := ⟨je_in 622 (by decide +kernel) (by decide +kernel), je_in 623 (by decide +kernel) (by decide +kernel), je_in 624 (by decide +kernel) (by decide +kernel), it_X5, cd_X5_asOf, ⟨by decide +kernel, by decide +kernel, by decide +kernel⟩, by decide⟩
theorem mv_X5_239 : je_V RX5 239 yX0_whereWas cX0_whereWas 4 (some FieldType.int) 2 := ⟨je_in 626 (by decide +kernel) (by decide +kernel), je_in 627 (by decide +kernel) (by decide +kernel), je_in 628 (by decide +kernel) (by decide +kernel), it_X0, cd_X0_whereWas, ⟨by decide +kernel, by decide +kernel, by decide +kernel⟩, by decide⟩
theorem ms_X0_29 : je_SN RX0 29 yX5_at RX5 cX5_at 2 (some FieldType.int) 2 := ⟨by simp [je_N], je_in 190 (by decide +kernel) (by decide +kernel), it_X5, cd_X5_at, ⟨by decide +kernel, by decide +kernel, by decide +kernel⟩, by decide⟩
theorem mv_L_116 : je_V RL 116 yX5_tyreOf cX5_tyreOf 4 (some FieldType.int) 2 := ⟨je_in 631 (by decide +kernel) (by decide +kernel), je_in 632 (by decide +kernel) (by decide +kernel), je_in 633 (by decide +kernel) (by decide +kernel), it_X5, cd_X5_tyreOf, ⟨by decide +kernel, by decide +kernel, by decide +kernel⟩, by decide⟩
theorem mv_L_120 : je_V RL 120 yX5_reading cX5_reading 5 (some FieldType.int) 3 := ⟨je_in 635 (by decide +kernel) (by decide +kernel), je_in 636 (by decide +kernel) (by decide +kernel), je_in 637 (by decide +kernel) (by decide +kernel), it_X5, cd_X5_reading, ⟨by decide +kernel, by decide +kernel, by decide +kernel⟩, by decide⟩
theorem mv_X5_249 : je_V RX5 249 yX2_hasReading cX2_hasReading 2 (some FieldType.boolean) 1 := ⟨je_in 639 (by decide +kernel) (by decide +kernel), je_in 640 (by decide +kernel) (by decide +kernel), je_in 641 (by decide +kernel) (by decide +kernel), it_X2, cd_X2_hasReading, ⟨by decide +kernel, by decide +kernel, by decide +kernel⟩, by decide⟩
theorem mv_L_124 : je_V RL 124 yX5_placeOf cX5_placeOf 5 (some FieldType.int) 3 := ⟨je_in 643 (by decide +kernel) (by decide +kernel), je_in 644 (by decide +kernel) (by decide +kernel), je_in 645 (by decide +kernel) (by decide +kernel), it_X5, cd_X5_placeOf, ⟨by decide +kernel, by decide +kernel, by decide +kernel⟩, by decide⟩
theorem ms_X5_261 : je_S RX5 261 yX5_numberOf cX5_numberOf 1 (some FieldType.int) 1 := ⟨je_in 647 (by decide +kernel) (by decide +kernel), je_in 648 (by decide +kernel) (by decide +kernel), it_X5, cd_X5_numberOf, ⟨by decide +kernel, by decide +kernel, by decide +kernel⟩, by decide⟩
theorem mv_X5_265 : je_V RX5 265 yX3_pairOf cX3_pairOf 4 (some FieldType.int) 1 := ⟨je_in 650 (by decide +kernel) (by decide +kernel), je_in 429 (by decide +kernel) (by decide +kernel), je_in 430 (by decide +kernel) (by decide +kernel), it_X3, cd_X3_pairOf, ⟨by decide +kernel, by decide +kernel, by decide +kernel⟩, by decide⟩
theorem mv_L_128 : je_V RL 128 yX5_count cX5_count 2 (some FieldType.int) 1 := ⟨je_in 651 (by decide +kernel) (by decide +kernel), je_in 652 (by decide +kernel) (by decide +kernel), je_in 653 (by decide +kernel) (by decide +kernel), it_X5, cd_X5_count, ⟨by decide +kernel, by decide +kernel, by decide +kernel⟩, by decide⟩
theorem mv_X5_268 : je_V RX5 268 yX5_tyresAt cX5_tyresAt 5 (some FieldType.int) 1 := ⟨je_in 655 (by decide +kernel) (by decide +kernel), je_in 657 (by decide +kernel) (by decide +kernel), je_in 24 (by decide +kernel) (by decide +kernel), it_X5, cd_X5_tyresAt, ⟨by decide +kernel, by decide +kernel, by decide +kernel⟩, by decide⟩
theorem mi_L_12 : je_I RL 12 yX6_init cX6_init 1 0 := ⟨je_in 661 (by decide +kernel) (by decide +kernel), je_in 662 (by decide +kernel) (by decide +kernel), rfl, it_X6, cd_X6_init, ⟨by decide +kernel, by decide +kernel, by decide +kernel⟩, by decide⟩
theorem oi_X6_1 : Cond.methodLink RX6 1 objectInit ∈ je_T := je_in 664 (by decide +kernel) (by decide +kernel)
theorem mv_L_17 : je_V RL 17 yX6_wagon cX6_wagon 1 (some FieldType.int) 0 := ⟨je_in 768 (by decide +kernel) (by decide +kernel), je_in 769 (by decide +kernel) (by decide +kernel), je_in 770 (by decide +kernel) (by decide +kernel), it_X6, cd_X6_wagon, ⟨by decide +kernel, by decide +kernel, by decide +kernel⟩, by decide⟩
theorem mv_X6_93 : je_V RX6 93 yX6_refuse cX6_refuse 2 (some FieldType.int) 1 := ⟨je_in 772 (by decide +kernel) (by decide +kernel), je_in 774 (by decide +kernel) (by decide +kernel), je_in 25 (by decide +kernel) (by decide +kernel), it_X6, cd_X6_refuse, ⟨by decide +kernel, by decide +kernel, by decide +kernel⟩, by decide⟩
theorem mv_L_22 : je_V RL 22 yX6_place cX6_place 6 (some FieldType.int) 2 := ⟨je_in 776 (by decide +kernel) (by decide +kernel), je_in 777 (by decide +kernel) (by decide +kernel), je_in 778 (by decide +kernel) (by decide +kernel), it_X6, cd_X6_place, ⟨by decide +kernel, by decide +kernel, by decide +kernel⟩, by decide⟩
theorem ms_X6_89 : je_S RX6 89 yX6_isIn cX6_isIn 2 (some FieldType.boolean) 2 := ⟨je_in 780 (by decide +kernel) (by decide +kernel), je_in 781 (by decide +kernel) (by decide +kernel), it_X6, cd_X6_isIn, ⟨by decide +kernel, by decide +kernel, by decide +kernel⟩, by decide⟩
theorem ms_X6_97 : je_S RX6 97 yX6_spot cX6_spot 2 (some FieldType.int) 2 := ⟨je_in 783 (by decide +kernel) (by decide +kernel), je_in 784 (by decide +kernel) (by decide +kernel), it_X6, cd_X6_spot, ⟨by decide +kernel, by decide +kernel, by decide +kernel⟩, by decide⟩
theorem mv_L_26 : je_V RL 26 yX6_least cX6_least 4 (some FieldType.int) 2 := ⟨je_in 786 (by decide +kernel) (by decide +kernel), je_in 787 (by decide +kernel) (by decide +kernel), je_in 788 (by decide +kernel) (by decide +kernel), it_X6, cd_X6_least, ⟨by decide +kernel, by decide +kernel, by decide +kernel⟩, by decide⟩
theorem mv_L_31 : je_V RL 31 yX6_apart cX6_apart 3 (some FieldType.int) 1 := ⟨je_in 790 (by decide +kernel) (by decide +kernel), je_in 791 (by decide +kernel) (by decide +kernel), je_in 792 (by decide +kernel) (by decide +kernel), it_X6, cd_X6_apart, ⟨by decide +kernel, by decide +kernel, by decide +kernel⟩, by decide⟩
theorem mv_L_35 : je_V RL 35 yX6_maker cX6_maker 4 (some FieldType.int) 2 := ⟨je_in 794 (by decide +kernel) (by decide +kernel), je_in 795 (by decide +kernel) (by decide +kernel), je_in 796 (by decide +kernel) (by decide +kernel), it_X6, cd_X6_maker, ⟨by decide +kernel, by decide +kernel, by decide +kernel⟩, by decide⟩
theorem mv_L_39 : je_V RL 39 yX6_buy cX6_buy 3 (some FieldType.int) 1 := ⟨je_in 798 (by decide +kernel) (by decide +kernel), je_in 799 (by decide +kernel) (by decide +kernel), je_in 800 (by decide +kernel) (by decide +kernel), it_X6, cd_X6_buy, ⟨by decide +kernel, by decide +kernel, by decide +kernel⟩, by decide⟩
theorem mv_X6_110 : je_V RX6 110 yX6_hasRoom cX6_hasRoom 2 (some FieldType.boolean) 1 := ⟨je_in 802 (by decide +kernel) (by decide +kernel), je_in 804 (by decide +kernel) (by decide +kernel), je_in 26 (by decide +kernel) (by decide +kernel), it_X6, cd_X6_hasRoom, ⟨by decide +kernel, by decide +kernel, by decide +kernel⟩, by decide⟩
theorem mv_X6_114 : je_V RX6 114 yX6_fresh cX6_fresh 2 none 1 := ⟨je_in 806 (by decide +kernel) (by decide +kernel), je_in 808 (by decide +kernel) (by decide +kernel), je_in 27 (by decide +kernel) (by decide +kernel), it_X6, cd_X6_fresh, ⟨by decide +kernel, by decide +kernel, by decide +kernel⟩, by decide⟩
theorem mv_X6_118 : je_V RX6 118 yX6_log cX6_log 2 none 1 := ⟨je_in 810 (by decide +kernel) (by decide +kernel), je_in 812 (by decide +kernel) (by decide +kernel), je_in 28 (by decide +kernel) (by decide +kernel), it_X6, cd_X6_log, ⟨by decide +kernel, by decide +kernel, by decide +kernel⟩, by decide⟩
theorem mv_L_44 : je_V RL 44 yX6_put cX6_put 4 (some FieldType.int) 3 := ⟨je_in 814 (by decide +kernel) (by decide +kernel), je_in 815 (by decide +kernel) (by decide +kernel), je_in 816 (by decide +kernel) (by decide +kernel), it_X6, cd_X6_put, ⟨by decide +kernel, by decide +kernel, by decide +kernel⟩, by decide⟩
theorem mv_X6_121 : je_V RX6 121 yX6_isPlace cX6_isPlace 3 (some FieldType.boolean) 2 := ⟨je_in 818 (by decide +kernel) (by decide +kernel), je_in 820 (by decide +kernel) (by decide +kernel), je_in 29 (by decide +kernel) (by decide +kernel), it_X6, cd_X6_isPlace, ⟨by decide +kernel, by decide +kernel, by decide +kernel⟩, by decide⟩
theorem mv_X6_124 : je_V RX6 124 yX6_lays cX6_lays 3 none 2 := ⟨je_in 822 (by decide +kernel) (by decide +kernel), je_in 824 (by decide +kernel) (by decide +kernel), je_in 30 (by decide +kernel) (by decide +kernel), it_X6, cd_X6_lays, ⟨by decide +kernel, by decide +kernel, by decide +kernel⟩, by decide⟩
theorem mv_L_48 : je_V RL 48 yX6_take cX6_take 4 (some FieldType.int) 2 := ⟨je_in 826 (by decide +kernel) (by decide +kernel), je_in 827 (by decide +kernel) (by decide +kernel), je_in 828 (by decide +kernel) (by decide +kernel), it_X6, cd_X6_take, ⟨by decide +kernel, by decide +kernel, by decide +kernel⟩, by decide⟩
theorem mv_L_53 : je_V RL 53 yX6_swap cX6_swap 7 (some FieldType.int) 4 := ⟨je_in 830 (by decide +kernel) (by decide +kernel), je_in 831 (by decide +kernel) (by decide +kernel), je_in 832 (by decide +kernel) (by decide +kernel), it_X6, cd_X6_swap, ⟨by decide +kernel, by decide +kernel, by decide +kernel⟩, by decide⟩
theorem mv_L_57 : je_V RL 57 yX6_read cX6_read 5 (some FieldType.int) 2 := ⟨je_in 834 (by decide +kernel) (by decide +kernel), je_in 835 (by decide +kernel) (by decide +kernel), je_in 836 (by decide +kernel) (by decide +kernel), it_X6, cd_X6_read, ⟨by decide +kernel, by decide +kernel, by decide +kernel⟩, by decide⟩
theorem mv_L_62 : je_V RL 62 yX6_go cX6_go 5 (some FieldType.int) 3 := ⟨je_in 838 (by decide +kernel) (by decide +kernel), je_in 839 (by decide +kernel) (by decide +kernel), je_in 840 (by decide +kernel) (by decide +kernel), it_X6, cd_X6_go, ⟨by decide +kernel, by decide +kernel, by decide +kernel⟩, by decide⟩
theorem mv_X6_166 : je_V RX6 166 yX6_whyOf cX6_whyOf 6 (some FieldType.int) 1 := ⟨je_in 842 (by decide +kernel) (by decide +kernel), je_in 844 (by decide +kernel) (by decide +kernel), je_in 31 (by decide +kernel) (by decide +kernel), it_X6, cd_X6_whyOf, ⟨by decide +kernel, by decide +kernel, by decide +kernel⟩, by decide⟩
theorem mv_X6_149 : je_V RX6 149 yX6_depthOf cX6_depthOf 7 (some FieldType.int) 2 := ⟨je_in 846 (by decide +kernel) (by decide +kernel), je_in 848 (by decide +kernel) (by decide +kernel), je_in 32 (by decide +kernel) (by decide +kernel), it_X6, cd_X6_depthOf, ⟨by decide +kernel, by decide +kernel, by decide +kernel⟩, by decide⟩
theorem mv_X6_137 : je_V RX6 137 yX6_wearOf cX6_wearOf 17 none 1 := ⟨je_in 850 (by decide +kernel) (by decide +kernel), je_in 852 (by decide +kernel) (by decide +kernel), je_in 33 (by decide +kernel) (by decide +kernel), it_X6, cd_X6_wearOf, ⟨by decide +kernel, by decide +kernel, by decide +kernel⟩, by decide⟩
theorem mv_X6_140 : je_V RX6 140 yX6_lastOf cX6_lastOf 2 (some FieldType.int) 1 := ⟨je_in 855 (by decide +kernel) (by decide +kernel), je_in 857 (by decide +kernel) (by decide +kernel), je_in 34 (by decide +kernel) (by decide +kernel), it_X6, cd_X6_lastOf, ⟨by decide +kernel, by decide +kernel, by decide +kernel⟩, by decide⟩
theorem ms_X6_143 : je_S RX6 143 yJ9_floorDiv_f86c9 cJ9_floorDiv_f86c9 6 (some FieldType.long) 2 := ⟨je_in 859 (by decide +kernel) (by decide +kernel), je_in 860 (by decide +kernel) (by decide +kernel), it_J9, cd_J9_floorDiv_f86c9, ⟨by decide +kernel, by decide +kernel, by decide +kernel⟩, by decide⟩
theorem ms_X6_158 : je_S RX6 158 yJ9_abs_0f7a4 cJ9_abs_0f7a4 1 (some FieldType.int) 1 := ⟨je_in 862 (by decide +kernel) (by decide +kernel), je_in 433 (by decide +kernel) (by decide +kernel), it_J9, cd_J9_abs_0f7a4, ⟨by decide +kernel, by decide +kernel, by decide +kernel⟩, by decide⟩
theorem mv_X6_169 : je_V RX6 169 yX6_goes cX6_goes 3 (some FieldType.boolean) 2 := ⟨je_in 863 (by decide +kernel) (by decide +kernel), je_in 865 (by decide +kernel) (by decide +kernel), je_in 35 (by decide +kernel) (by decide +kernel), it_X6, cd_X6_goes, ⟨by decide +kernel, by decide +kernel, by decide +kernel⟩, by decide⟩
theorem mv_X6_173 : je_V RX6 173 yX6_farOf cX6_farOf 5 (some FieldType.int) 1 := ⟨je_in 868 (by decide +kernel) (by decide +kernel), je_in 870 (by decide +kernel) (by decide +kernel), je_in 36 (by decide +kernel) (by decide +kernel), it_X6, cd_X6_farOf, ⟨by decide +kernel, by decide +kernel, by decide +kernel⟩, by decide⟩
theorem mv_X6_161 : je_V RX6 161 yX6_endOf cX6_endOf 5 (some FieldType.int) 2 := ⟨je_in 872 (by decide +kernel) (by decide +kernel), je_in 874 (by decide +kernel) (by decide +kernel), je_in 37 (by decide +kernel) (by decide +kernel), it_X6, cd_X6_endOf, ⟨by decide +kernel, by decide +kernel, by decide +kernel⟩, by decide⟩
theorem ms_X6_155 : je_S RX6 155 yJ9_min_f86c9 cJ9_min_f86c9 4 (some FieldType.long) 2 := ⟨je_in 877 (by decide +kernel) (by decide +kernel), je_in 467 (by decide +kernel) (by decide +kernel), it_J9, cd_J9_min_f86c9, ⟨by decide +kernel, by decide +kernel, by decide +kernel⟩, by decide⟩
theorem ms_X6_164 : je_S RX6 164 yJ9_min_7cf53 cJ9_min_7cf53 2 (some FieldType.int) 2 := ⟨je_in 878 (by decide +kernel) (by decide +kernel), je_in 473 (by decide +kernel) (by decide +kernel), it_J9, cd_J9_min_7cf53, ⟨by decide +kernel, by decide +kernel, by decide +kernel⟩, by decide⟩
theorem mv_L_66 : je_V RL 66 yX6_why cX6_why 2 (some FieldType.int) 1 := ⟨je_in 879 (by decide +kernel) (by decide +kernel), je_in 880 (by decide +kernel) (by decide +kernel), je_in 881 (by decide +kernel) (by decide +kernel), it_X6, cd_X6_why, ⟨by decide +kernel, by decide +kernel, by decide +kernel⟩, by decide⟩
theorem mv_L_70 : je_V RL 70 yX6_far cX6_far 2 (some FieldType.int) 1 := ⟨je_in 883 (by decide +kernel) (by decide +kernel), je_in 884 (by decide +kernel) (by decide +kernel), je_in 885 (by decide +kernel) (by decide +kernel), it_X6, cd_X6_far, ⟨by decide +kernel, by decide +kernel, by decide +kernel⟩, by decide⟩
theorem mv_L_74 : je_V RL 74 yX6_best cX6_best 2 (some FieldType.int) 1 := ⟨je_in 887 (by decide +kernel) (by decide +kernel), je_in 888 (by decide +kernel) (by decide +kernel), je_in 889 (by decide +kernel) (by decide +kernel), it_X6, cd_X6_best, ⟨by decide +kernel, by decide +kernel, by decide +kernel⟩, by decide⟩
theorem mv_X6_189 : je_V RX6 189 yX6_tries cX6_tries 5 (some FieldType.boolean) 1 := ⟨je_in 891 (by decide +kernel) (by decide +kernel), je_in 893 (by decide +kernel) (by decide +kernel), je_in 38 (by decide +kernel) (by decide +kernel), it_X6, cd_X6_tries, ⟨by decide +kernel, by decide +kernel, by decide +kernel⟩, by decide⟩
theorem mv_X6_182 : je_V RX6 182 yX6_lay cX6_lay 8 none 5 := ⟨je_in 895 (by decide +kernel) (by decide +kernel), je_in 897 (by decide +kernel) (by decide +kernel), je_in 39 (by decide +kernel) (by decide +kernel), it_X6, cd_X6_lay, ⟨by decide +kernel, by decide +kernel, by decide +kernel⟩, by decide⟩
theorem mv_L_78 : je_V RL 78 yX6_turn cX6_turn 4 (some FieldType.int) 1 := ⟨je_in 899 (by decide +kernel) (by decide +kernel), je_in 900 (by decide +kernel) (by decide +kernel), je_in 901 (by decide +kernel) (by decide +kernel), it_X6, cd_X6_turn, ⟨by decide +kernel, by decide +kernel, by decide +kernel⟩, by decide⟩
theorem mv_L_83 : je_V RL 83 yX6_wear cX6_wear 3 (some FieldType.long) 2 := ⟨je_in 903 (by decide +kernel) (by decide +kernel), je_in 904 (by decide +kernel) (by decide +kernel), je_in 905 (by decide +kernel) (by decide +kernel), it_X6, cd_X6_wear, ⟨by decide +kernel, by decide +kernel, by decide +kernel⟩, by decide⟩
theorem mv_L_87 : je_V RL 87 yX6_depth cX6_depth 3 (some FieldType.int) 2 := ⟨je_in 907 (by decide +kernel) (by decide +kernel), je_in 908 (by decide +kernel) (by decide +kernel), je_in 909 (by decide +kernel) (by decide +kernel), it_X6, cd_X6_depth, ⟨by decide +kernel, by decide +kernel, by decide +kernel⟩, by decide⟩
theorem mv_L_91 : je_V RL 91 yX6_end cX6_end 3 (some FieldType.int) 2 := ⟨je_in 911 (by decide +kernel) (by decide +kernel), je_in 912 (by decide +kernel) (by decide +kernel), je_in 913 (by decide +kernel) (by decide +kernel), it_X6, cd_X6_end, ⟨by decide +kernel, by decide +kernel, by decide +kernel⟩, by decide⟩
theorem mv_L_95 : je_V RL 95 yX6_send cX6_send 2 (some FieldType.int) 1 := ⟨je_in 915 (by decide +kernel) (by decide +kernel), je_in 916 (by decide +kernel) (by decide +kernel), je_in 917 (by decide +kernel) (by decide +kernel), it_X6, cd_X6_send, ⟨by decide +kernel, by decide +kernel, by decide +kernel⟩, by decide⟩
theorem mv_L_99 : je_V RL 99 yX6_mend cX6_mend 2 (some FieldType.int) 1 := ⟨je_in 919 (by decide +kernel) (by decide +kernel), je_in 920 (by decide +kernel) (by decide +kernel), je_in 921 (by decide +kernel) (by decide +kernel), it_X6, cd_X6_mend, ⟨by decide +kernel, by decide +kernel, by decide +kernel⟩, by decide⟩
theorem mv_L_103 : je_V RL 103 yX6_cast cX6_cast 2 (some FieldType.int) 1 := ⟨je_in 923 (by decide +kernel) (by decide +kernel), je_in 924 (by decide +kernel) (by decide +kernel), je_in 925 (by decide +kernel) (by decide +kernel), it_X6, cd_X6_cast, ⟨by decide +kernel, by decide +kernel, by decide +kernel⟩, by decide⟩
theorem mv_L_107 : je_V RL 107 yX6_days cX6_days 4 (some FieldType.int) 1 := ⟨je_in 927 (by decide +kernel) (by decide +kernel), je_in 928 (by decide +kernel) (by decide +kernel), je_in 929 (by decide +kernel) (by decide +kernel), it_X6, cd_X6_days, ⟨by decide +kernel, by decide +kernel, by decide +kernel⟩, by decide⟩
theorem mv_L_111 : je_V RL 111 yX6_few cX6_few 11 (some FieldType.int) 3 := ⟨je_in 931 (by decide +kernel) (by decide +kernel), je_in 932 (by decide +kernel) (by decide +kernel), je_in 933 (by decide +kernel) (by decide +kernel), it_X6, cd_X6_few, ⟨by decide +kernel, by decide +kernel, by decide +kernel⟩, by decide⟩
theorem ms_X6_193 : je_S RX6 193 yJ9_max_7cf53 cJ9_max_7cf53 2 (some FieldType.int) 2 := ⟨je_in 936 (by decide +kernel) (by decide +kernel), je_in 444 (by decide +kernel) (by decide +kernel), it_J9, cd_J9_max_7cf53, ⟨by decide +kernel, by decide +kernel, by decide +kernel⟩, by decide⟩
theorem mv_L_115 : je_V RL 115 yX6_asOf cX6_asOf 6 (some FieldType.int) 2 := ⟨je_in 937 (by decide +kernel) (by decide +kernel), je_in 938 (by decide +kernel) (by decide +kernel), je_in 939 (by decide +kernel) (by decide +kernel), it_X6, cd_X6_asOf, ⟨by decide +kernel, by decide +kernel, by decide +kernel⟩, by decide⟩
theorem mv_L_119 : je_V RL 119 yX6_tyreOf cX6_tyreOf 3 (some FieldType.int) 2 := ⟨je_in 941 (by decide +kernel) (by decide +kernel), je_in 942 (by decide +kernel) (by decide +kernel), je_in 943 (by decide +kernel) (by decide +kernel), it_X6, cd_X6_tyreOf, ⟨by decide +kernel, by decide +kernel, by decide +kernel⟩, by decide⟩
theorem mv_L_123 : je_V RL 123 yX6_reading cX6_reading 4 (some FieldType.int) 3 := ⟨je_in 945 (by decide +kernel) (by decide +kernel), je_in 946 (by decide +kernel) (by decide +kernel), je_in 947 (by decide +kernel) (by decide +kernel), it_X6, cd_X6_reading, ⟨by decide +kernel, by decide +kernel, by decide +kernel⟩, by decide⟩
theorem mv_L_127 : je_V RL 127 yX6_placeOf cX6_placeOf 5 (some FieldType.int) 3 := ⟨je_in 949 (by decide +kernel) (by decide +kernel), je_in 950 (by decide +kernel) (by decide +kernel), je_in 951 (by decide +kernel) (by decide +kernel), it_X6, cd_X6_placeOf, ⟨by decide +kernel, by decide +kernel, by decide +kernel⟩, by decide⟩
theorem mv_L_131 : je_V RL 131 yX6_count cX6_count 4 (some FieldType.int) 1 := ⟨je_in 953 (by decide +kernel) (by decide +kernel), je_in 954 (by decide +kernel) (by decide +kernel), je_in 955 (by decide +kernel) (by decide +kernel), it_X6, cd_X6_count, ⟨by decide +kernel, by decide +kernel, by decide +kernel⟩, by decide⟩
theorem oi_im : Cond.instanceMethod objectInit ∈ je_T := je_in 55 (by decide +kernel) (by decide +kernel)
set_option maxRecDepth 100000 in
theorem oi_cd : Cond.code objectInit ⟨#[0xb1]⟩ 1 none ∈ je_T := je_in 56 rfl (by decide +kernel)
end
section
/-! ===== THE LIGHT MACHINE: the heap is a function from addresses; a rule an instruction ===== -/
abbrev je_E : Type := (Nat × vp_A) ⊕ (Nat × List Value)
abbrev je_H : Type := Nat → Option je_E
abbrev je_L : Type := List (Nat × je_E)
def je_e (cs : Nat → ClassId) (q : Nat × je_E) : Nat × va_E := (q.1, match q.2 with
  | .inl x => .inl (cs x.1, x.2)
  | .inr x => .inr x)
def je_ws (cs : Nat → ClassId) (w : je_L) : va_W := w.map (je_e cs)
def je_R (w : je_L) (h : je_H) : Prop := (∀ (k : Nat) (q : Nat × je_E), w[k]? = some q → h q.1 = some q.2) ∧ ∀ (a : Nat) (e : je_E), h a = some e → ∃ k : Nat, w[k]? = some (a, e)
def je_up (h : je_H) (a : Nat) (e : je_E) : je_H := fun b => if b = a then some e else h b
theorem je_up_s (h : je_H) (a : Nat) (e : je_E) : je_up h a e a = some e := by simp [je_up]
theorem je_up_n {h : je_H} {a b : Nat} {e : je_E} (hn : b ≠ a) : je_up h a e b = h b := by simp [je_up, hn]
theorem je_get {cs : Nat → ClassId} {w : je_L} {k : Nat} {q : Nat × je_E} (h : w[k]? = some q) : (je_ws cs w)[k]? = some (je_e cs q) := by rw [je_ws, List.getElem?_map, h]; rfl
theorem je_set {cs : Nat → ClassId} {w : je_L} {k : Nat} (q : Nat × je_E) : (je_ws cs w).set k (je_e cs q) = je_ws cs (w.set k q) := by simp [je_ws, List.map_set]
theorem je_push {cs : Nat → ClassId} {w : je_L} (q : Nat × je_E) : je_ws cs w ++ [je_e cs q] = je_ws cs (w ++ [q]) := by simp [je_ws]
theorem je_R_set {cs : Nat → ClassId} {A : Nat → Prop} {w : je_L} {h : je_H} {k a : Nat} {e : je_E} (e' : je_E) (hR : je_R w h) (hk : w[k]? = some (a, e)) (hD : va_D A (je_ws cs w)) : je_R (w.set k (a, e')) (je_up h a e') := by
  have hl := (List.getElem?_eq_some_iff.mp hk).1
  refine ⟨fun k2 q hq => ?_, fun b e2 hb => ?_⟩
  · by_cases hkk : k2 = k
    · subst hkk
      rw [List.getElem?_set_self hl] at hq
      cases hq
      exact je_up_s _ _ _
    · rw [List.getElem?_set_ne (Ne.symm hkk)] at hq
      have hn : q.1 ≠ a := fun hqa => hkk (hD.1 k2 k _ _ (je_get hq) (je_get hk) hqa)
      rw [je_up_n hn]
      exact hR.1 k2 q hq
  · by_cases hba : b = a
    · subst hba
      rw [je_up_s] at hb
      cases hb
      exact ⟨k, List.getElem?_set_self hl⟩
    · rw [je_up_n hba] at hb
      obtain ⟨k2, h2⟩ := hR.2 b e2 hb
      refine ⟨k2, ?_⟩
      rw [List.getElem?_set_ne]
      · exact h2
      · intro hkk
        subst hkk
        rw [hk] at h2
        cases h2
        exact hba rfl
theorem je_R_push {cs : Nat → ClassId} {A : Nat → Prop} {w : je_L} {h : je_H} {a : Nat} {e : je_E} (hR : je_R w h) (hD : va_D A (je_ws cs (w ++ [(a, e)]))) : h a = none ∧ je_R (w ++ [(a, e)]) (je_up h a e) := by
  have hl : (w ++ [(a, e)])[w.length]? = some (a, e) := by simp
  have hfresh : ∀ (k : Nat) (e0 : je_E), w[k]? = some (a, e0) → False := by
    intro k e0 hk
    have hk2 : (w ++ [(a, e)])[k]? = some (a, e0) := by
      rw [List.getElem?_append_left (List.getElem?_eq_some_iff.mp hk).1]
      exact hk
    have := hD.1 k w.length _ _ (je_get hk2) (je_get hl) rfl
    have h3 := (List.getElem?_eq_some_iff.mp hk).1
    omega
  have hn : h a = none := by
    cases hh : h a with
    | none => rfl
    | some e0 =>
      obtain ⟨k, hk⟩ := hR.2 a e0 hh
      exact (hfresh k e0 hk).elim
  refine ⟨hn, fun k q hq => ?_, fun b e2 hb => ?_⟩
  · by_cases hk : k < w.length
    · rw [List.getElem?_append_left hk] at hq
      have hqa : q.1 ≠ a := fun z => hfresh k q.2 (by rw [← z]; exact hq)
      rw [je_up_n hqa]
      exact hR.1 k q hq
    · rw [List.getElem?_append_right (by omega)] at hq
      have hz : k - w.length < 1 := (List.getElem?_eq_some_iff.mp hq).1
      rw [show k - w.length = 0 by omega] at hq
      cases hq
      exact je_up_s _ _ _
  · by_cases hba : b = a
    · subst hba
      rw [je_up_s] at hb
      cases hb
      exact ⟨w.length, hl⟩
    · rw [je_up_n hba] at hb
      obtain ⟨k, hk⟩ := hR.2 b e2 hb
      exact ⟨k, by rw [List.getElem?_append_left (List.getElem?_eq_some_iff.mp hk).1]; exact hk⟩
def je_tys (cs : Nat → ClassId) : List (ClassId × FieldType) := [(cs 0, .int), (cs 1, .object RX2), (cs 2, .object RX3)]
def je_K (D : va_G) (cs : Nat → ClassId) (U : State) : Prop := va_K D vwCl (je_tys cs) U ∧ (∀ w ∈ je_N, va_Nw w U) ∧ va_AO RX2 U ∧ va_AO RX3 U
theorem je_N_kind : ∀ w ∈ je_N, (∃ a i x b, w = Cond.methodLinkNest a i x b) ∨ ∃ a b, w = Cond.castable a b := by
  intro w hw
  simp only [je_N, List.mem_cons, List.not_mem_nil, or_false] at hw
  rcases hw with rfl | rfl | rfl | rfl | rfl | rfl | rfl | rfl | rfl | rfl | rfl | rfl | rfl <;> first | exact Or.inl ⟨_, _, _, _, rfl⟩ | exact Or.inr ⟨_, _, rfl⟩
theorem je_K.warm {D : va_G} {cs : Nat → ClassId} {s U : State} (hW : s.WarmedH U.vm) (h : je_K D cs s) : je_K D cs U := by
  refine ⟨va_K.moved hW.alike h.1, fun w hw => ?_, va_AO.moved hW.alike h.2.2.1, va_AO.moved hW.alike h.2.2.2⟩
  have h1 := h.2.1 w hw
  rcases je_N_kind w hw with ⟨a, i, x, b, rfl⟩ | ⟨a, b, rfl⟩
  · exact va_Nw.warmM hW h1
  · exact va_Nw.warmC hW h1
theorem je_K.same {D : va_G} {cs : Nat → ClassId} {s U : State} (hv : s.vm = U.vm) (h : je_K D cs s) : je_K D cs U := by
  have ha : s.vm.Alike U.vm := by rw [hv]; exact Vm.Alike.refl _
  refine ⟨va_K.moved ha h.1, fun w hw => ?_, va_AO.moved ha h.2.2.1, va_AO.moved ha h.2.2.2⟩
  have h1 := h.2.1 w hw
  rcases je_N_kind w hw with ⟨a, i, x, b, rfl⟩ | ⟨a, b, rfl⟩
  · exact va_Nw.same rfl hv h1
  · exact va_Nw.same rfl hv h1
/-! locals: by the slot -/
abbrev je_V0 : Type := List (Option Value)
def je_lo (ls : Array Slot) (nL : Nat) (lv : je_V0) : Prop := ls.size = nL ∧ lv_wf ls ∧ ∀ (i : Nat) (v : Value), lv[i]? = some (some v) → ls[i]? = some (.val v)
def je_pf (lv : je_V0) (i : Nat) : Option (Nat × Value) := match lv[i]? with
  | some (some v) => some (i, v)
  | _ => none
def je_pl (lv : je_V0) : List (Nat × Value) := (List.range lv.length).filterMap (je_pf lv)
theorem je_pf_s {lv : je_V0} {i j : Nat} {v : Value} (h : je_pf lv i = some (j, v)) : i = j ∧ lv[i]? = some (some v) := by
  unfold je_pf at h
  split at h
  · rename_i v2 hv
    cases h
    exact ⟨rfl, hv⟩
  · cases h
theorem je_pl_in {lv : je_V0} {i : Nat} {v : Value} (h : lv[i]? = some (some v)) : (i, v) ∈ je_pl lv :=
  List.mem_filterMap.mpr ⟨i, List.mem_range.mpr (List.getElem?_eq_some_iff.mp h).1, by simp [je_pf, h]⟩
theorem je_lo.has {ls : Array Slot} {nL : Nat} {lv : je_V0} (h : je_lo ls nL lv) : lv_has ls nL (je_pl lv) := by
  refine ⟨h.1, h.2.1, fun q hq => ?_⟩
  obtain ⟨i, -, hi⟩ := List.mem_filterMap.mp hq
  obtain ⟨rfl, h2⟩ := je_pf_s (j := q.1) (v := q.2) hi
  exact h.2.2 _ _ h2
/-- the slot ahead holds no long -/
def je_nl (lv : je_V0) (i : Nat) : Bool := match i with
  | 0 => true
  | j + 1 => match lv[j]? with
    | some (some (.long _)) => false
    | some (some (.double _)) => false
    | some (some _) => true
    | _ => true
theorem je_nl_s {lv : je_V0} {i j : Nat} {v : Value} (h : je_nl lv i = true) (hj : j + 1 = i) (hv : lv[j]? = some (some v)) : ¬ v.category = 2 := by
  subst hj
  simp only [je_nl, hv] at h
  cases v <;> simp_all [Value.category]
theorem je_st1 {ls : Array Slot} {nL i : Nat} {lv : je_V0} {v : Value} (hn : je_nl lv i = true) (h : lv_has ls nL ((i, v) :: (je_pl lv).filter (fun q => !(q.1 == i) && !(q.1 + 1 == i && q.2.category == 2)))) : je_lo ls nL (lv.set i (some v)) := by
  refine ⟨h.1, h.2.1, fun j x hx => ?_⟩
  by_cases hj : j = i
  · subst hj
    rw [List.getElem?_set_self' ] at hx
    cases hb : lv[j]? with
    | none => rw [hb] at hx; cases hx
    | some y =>
      rw [hb] at hx
      cases hx
      exact h.2.2 (j, v) List.mem_cons_self
  · rw [List.getElem?_set_ne (Ne.symm hj)] at hx
    refine h.2.2 (j, x) (List.mem_cons_of_mem _ (List.mem_filter.mpr ⟨je_pl_in hx, ?_⟩))
    by_cases h2 : j + 1 = i
    · have := je_nl_s hn h2 hx
      simp [hj, h2, this]
    · simp [hj, h2]
theorem je_st2 {ls : Array Slot} {nL i : Nat} {lv : je_V0} {v : Value} (hn : je_nl lv i = true) (h : lv_has ls nL ((i, v) :: (je_pl lv).filter (fun q => !(q.1 == i) && (!(q.1 == i + 1) && !(q.1 + 1 == i && q.2.category == 2))))) : je_lo ls nL ((lv.set i (some v)).set (i + 1) none) := by
  refine ⟨h.1, h.2.1, fun j x hx => ?_⟩
  by_cases hj1 : j = i + 1
  · subst hj1
    rw [List.getElem?_set_self'] at hx
    cases hb : (lv.set i (some v))[i + 1]? with
    | none => rw [hb] at hx; cases hx
    | some y => rw [hb] at hx; cases hx
  · rw [List.getElem?_set_ne (Ne.symm hj1)] at hx
    by_cases hj : j = i
    · subst hj
      rw [List.getElem?_set_self'] at hx
      cases hb : lv[j]? with
      | none => rw [hb] at hx; cases hx
      | some y =>
        rw [hb] at hx
        cases hx
        exact h.2.2 (j, v) List.mem_cons_self
    · rw [List.getElem?_set_ne (Ne.symm hj)] at hx
      refine h.2.2 (j, x) (List.mem_cons_of_mem _ (List.mem_filter.mpr ⟨je_pl_in hx, ?_⟩))
      by_cases h2 : j + 1 = i
      · have := je_nl_s hn h2 hx
        simp [hj, hj1, h2, this]
      · simp [hj, hj1, h2]
/-- killing a slot's value -/
theorem je_lo.kill {ls : Array Slot} {nL : Nat} {lv : je_V0} (i : Nat) (h : je_lo ls nL lv) : je_lo ls nL (lv.set i none) := by
  refine ⟨h.1, h.2.1, fun j x hx => ?_⟩
  by_cases hj : j = i
  · subst hj
    rw [List.getElem?_set_self'] at hx
    cases hb : lv[j]? with
    | none => rw [hb] at hx; cases hx
    | some y => rw [hb] at hx; cases hx
  · rw [List.getElem?_set_ne (Ne.symm hj)] at hx
    exact h.2.2 j x hx
/-! the judgement -/
abbrev je_C : Type := Program → Launch → Env → Room → State → MethodId → Array Value → List Frame → Method → Code → va_G → (Nat → ClassId) → (Nat → Prop) → (State → Prop) → Prop
def je_Ok (Cx : je_C) (own : String) (cc : ByteArray) (nL d : Nat) : Prop := ∀ p l e R s m args below meth c D cs A Q, Cx p l e R s m args below meth c D cs A Q →
  p.tables.exec = Jvm.exec ∧ c.code = cc ∧ c.maxLocals = nL ∧ s.vm.findClass own = some m.cls ∧ (∀ w ∈ je_T, w.before args s = true) ∧ je_K D cs s ∧ (∀ q : Nat, s.heap.size ≤ q → A q) ∧ d ≤ R.frames ∧ 40 * d ≤ R.locals
def En (Cx : je_C) (nL pc : Nat) (lv : je_V0) (st : List Value) (h : je_H) (bc bs : Nat) : Prop :=
  ∀ p l e R s m args below meth c D cs A Q, Cx p l e R s m args below meth c D cs A Q →
  ∀ (w : je_L) (H : Heap) (locs : List Loc) (cells slots : Nat) (ls : Array Slot), je_R w h → va_P D vwCl (je_ws cs w) H → va_D A (je_ws cs w) → va_S A s.heap H locs → je_lo ls nL lv → cells + bc ≤ R.cells → slots + bs ≤ R.slots →
  W p l e R s m args below meth c H locs cells slots Q (F0 m pc ls st)
section EN
variable {Cx : je_C} {own : String} {cc : ByteArray} {nL d pc bc bs : Nat} {lv : je_V0} {st rest : List Value} {h : je_H}
theorem En.go1 {pc2 : Nat} {st2 : List Value} (hC : je_Ok Cx own cc nL d) (f : ∀ {p : Program} {l : Launch} {e : Env} {R : Room} {s : State} {m : MethodId} {args : Array Value} {below : List Frame} {meth : Method} {c : Code} {H : Heap} {locs : List Loc} {cells slots : Nat} {Q : State → Prop} {ls : Array Slot}, p.tables.exec = Jvm.exec → c.code = cc → je_lo ls nL lv → W p l e R s m args below meth c H locs cells slots Q (F0 m pc2 ls st2) → W p l e R s m args below meth c H locs cells slots Q (F0 m pc ls st))
    (k : En Cx nL pc2 lv st2 h bc bs) : En Cx nL pc lv st h bc bs := by
  intro p l e R s m args below meth c D cs A Q hx w H locs cells slots ls hR hP hD hS hl hc hs
  obtain ⟨hx1, hb, -⟩ := hC _ _ _ _ _ _ _ _ _ _ _ _ _ _ hx
  exact f hx1 hb hl (k _ _ _ _ _ _ _ _ _ _ _ _ _ _ hx _ _ _ _ _ _ hR hP hD hS hl hc hs)
theorem En.br {pc1 pc2 : Nat} {st2 : List Value} {P N : Prop} (hC : je_Ok Cx own cc nL d) (f : ∀ {p : Program} {l : Launch} {e : Env} {R : Room} {s : State} {m : MethodId} {args : Array Value} {below : List Frame} {meth : Method} {c : Code} {H : Heap} {locs : List Loc} {cells slots : Nat} {Q : State → Prop} {ls : Array Slot}, p.tables.exec = Jvm.exec → c.code = cc → (P → W p l e R s m args below meth c H locs cells slots Q (F0 m pc1 ls st2)) → (N → W p l e R s m args below meth c H locs cells slots Q (F0 m pc2 ls st2)) → W p l e R s m args below meth c H locs cells slots Q (F0 m pc ls st))
    (k1 : P → En Cx nL pc1 lv st2 h bc bs) (k2 : N → En Cx nL pc2 lv st2 h bc bs) : En Cx nL pc lv st h bc bs := by
  intro p l e R s m args below meth c D cs A Q hx w H locs cells slots ls hR hP hD hS hl hc hs
  obtain ⟨hx1, hb, -⟩ := hC _ _ _ _ _ _ _ _ _ _ _ _ _ _ hx
  exact f hx1 hb (fun q => k1 q _ _ _ _ _ _ _ _ _ _ _ _ _ _ hx _ _ _ _ _ _ hR hP hD hS hl hc hs) (fun q => k2 q _ _ _ _ _ _ _ _ _ _ _ _ _ _ hx _ _ _ _ _ _ hR hP hD hS hl hc hs)
theorem En.st1 {lv' : je_V0} {pc2 i : Nat} {v : Value} (hC : je_Ok Cx own cc nL d) (hn : je_nl lv i = true) (hlv : lv.set i (some v) = lv')
    (f : ∀ {p : Program} {l : Launch} {e : Env} {R : Room} {s : State} {m : MethodId} {args : Array Value} {below : List Frame} {meth : Method} {c : Code} {H : Heap} {locs : List Loc} {cells slots : Nat} {Q : State → Prop} {ls : Array Slot}, p.tables.exec = Jvm.exec → c.code = cc → lv_has ls nL (je_pl lv) → (∀ ls' : Array Slot, lv_has ls' nL ((i, v) :: (je_pl lv).filter (fun q => !(q.1 == i) && !(q.1 + 1 == i && q.2.category == 2))) → W p l e R s m args below meth c H locs cells slots Q (F0 m pc2 ls' rest)) → W p l e R s m args below meth c H locs cells slots Q (F0 m pc ls st))
    (k : En Cx nL pc2 lv' rest h bc bs) : En Cx nL pc lv st h bc bs := by
  intro p l e R s m args below meth c D cs A Q hx w H locs cells slots ls hR hP hD hS hl hc hs
  obtain ⟨hx1, hb, -⟩ := hC _ _ _ _ _ _ _ _ _ _ _ _ _ _ hx
  subst hlv
  exact f hx1 hb hl.has (fun ls' hl' => k _ _ _ _ _ _ _ _ _ _ _ _ _ _ hx _ _ _ _ _ _ hR hP hD hS (je_st1 hn hl') hc hs)
theorem En.st2 {lv' : je_V0} {pc2 i : Nat} {v : Value} (hC : je_Ok Cx own cc nL d) (hn : je_nl lv i = true) (hlv : (lv.set i (some v)).set (i + 1) none = lv')
    (f : ∀ {p : Program} {l : Launch} {e : Env} {R : Room} {s : State} {m : MethodId} {args : Array Value} {below : List Frame} {meth : Method} {c : Code} {H : Heap} {locs : List Loc} {cells slots : Nat} {Q : State → Prop} {ls : Array Slot}, p.tables.exec = Jvm.exec → c.code = cc → lv_has ls nL (je_pl lv) → (∀ ls' : Array Slot, lv_has ls' nL ((i, v) :: (je_pl lv).filter (fun q => !(q.1 == i) && (!(q.1 == i + 1) && !(q.1 + 1 == i && q.2.category == 2)))) → W p l e R s m args below meth c H locs cells slots Q (F0 m pc2 ls' rest)) → W p l e R s m args below meth c H locs cells slots Q (F0 m pc ls st))
    (k : En Cx nL pc2 lv' rest h bc bs) : En Cx nL pc lv st h bc bs := by
  intro p l e R s m args below meth c D cs A Q hx w H locs cells slots ls hR hP hD hS hl hc hs
  obtain ⟨hx1, hb, -⟩ := hC _ _ _ _ _ _ _ _ _ _ _ _ _ _ hx
  subst hlv
  exact f hx1 hb hl.has (fun ls' hl' => k _ _ _ _ _ _ _ _ _ _ _ _ _ _ hx _ _ _ _ _ _ hR hP hD hS (je_st2 hn hl') hc hs)
/-- a slot is forgotten (ahead of a store behind a dead long; at a join) -/
theorem En.kill {lv' : je_V0} (i : Nat) (hlv : lv.set i none = lv') (k : En Cx nL pc lv' st h bc bs) : En Cx nL pc lv st h bc bs := by
  intro p l e R s m args below meth c D cs A Q hx w H locs cells slots ls hR hP hD hS hl hc hs
  subst hlv
  exact k _ _ _ _ _ _ _ _ _ _ _ _ _ _ hx _ _ _ _ _ _ hR hP hD hS (hl.kill i) hc hs
/-- less room -/
theorem En.less {bc' bs' : Nat} (h1 : bc' ≤ bc) (h2 : bs' ≤ bs) (k : En Cx nL pc lv st h bc' bs') : En Cx nL pc lv st h bc bs := by
  intro p l e R s m args below meth c D cs A Q hx w H locs cells slots ls hR hP hD hS hl hc hs
  exact k _ _ _ _ _ _ _ _ _ _ _ _ _ _ hx _ _ _ _ _ _ hR hP hD hS hl (by omega) (by omega)
theorem En_iconst (hC : je_Ok Cx own cc nL d) {n : Int} {v : Int32} (hd : decode cc pc = .ok (.iconst n, 1)) (hv : Int32.ofInt n = v) (k : En Cx nL (pc + 1) lv (.int v :: st) h bc bs) : En Cx nL pc lv (st) h bc bs :=
  En.go1 hC (fun hx hb hl k => lv_iconst hx hb hd hv k) k
theorem En_bipush (hC : je_Ok Cx own cc nL d) {n : Int} {v : Int32} (hd : decode cc pc = .ok (.bipush n, 2)) (hv : (Int8.ofInt n).toInt32 = v) (k : En Cx nL (pc + 2) lv (.int v :: st) h bc bs) : En Cx nL pc lv (st) h bc bs :=
  En.go1 hC (fun hx hb hl k => lv_bipush hx hb hd hv k) k
theorem En_sipush (hC : je_Ok Cx own cc nL d) {n : Int} {v : Int32} (hd : decode cc pc = .ok (.sipush n, 3)) (hv : (Int16.ofInt n).toInt32 = v) (k : En Cx nL (pc + 3) lv (.int v :: st) h bc bs) : En Cx nL pc lv (st) h bc bs :=
  En.go1 hC (fun hx hb hl k => lv_sipush hx hb hd hv k) k
theorem En_lconst (hC : je_Ok Cx own cc nL d) {n : Fin 2} {v : Int64} (hd : decode cc pc = .ok (.lconst n, 1)) (hv : Int64.ofNat (n : Nat) = v) (k : En Cx nL (pc + 1) lv (.long v :: st) h bc bs) : En Cx nL pc lv (st) h bc bs :=
  En.go1 hC (fun hx hb hl k => lv_lconst hx hb hd hv k) k
theorem En_null (hC : je_Ok Cx own cc nL d) (hd : decode cc pc = .ok (.aconst_null, 1)) (k : En Cx nL (pc + 1) lv (.null :: st) h bc bs) : En Cx nL pc lv (st) h bc bs :=
  En.go1 hC (fun hx hb hl k => lv_null hx hb hd k) k
theorem En_iload_n (hC : je_Ok Cx own cc nL d) {n : Fin 4} {x : Int32} (hd : decode cc pc = .ok (.iload_n n, 1)) (hv : lv[(n : Nat)]? = some (some (.int x))) (k : En Cx nL (pc + 1) lv (.int x :: st) h bc bs) : En Cx nL pc lv (st) h bc bs :=
  En.go1 hC (fun hx hb hl k => lv_iload_n hx hb hd rfl (hl.2.2 _ _ hv) k) k
theorem En_iload (hC : je_Ok Cx own cc nL d) {i : Nat} {x : Int32} (hd : decode cc pc = .ok (.iload i, 2)) (hv : lv[i]? = some (some (.int x))) (k : En Cx nL (pc + 2) lv (.int x :: st) h bc bs) : En Cx nL pc lv (st) h bc bs :=
  En.go1 hC (fun hx hb hl k => lv_iload hx hb hd (hl.2.2 _ _ hv) k) k
theorem En_lload_n (hC : je_Ok Cx own cc nL d) {n : Fin 4} {x : Int64} (hd : decode cc pc = .ok (.lload_n n, 1)) (hv : lv[(n : Nat)]? = some (some (.long x))) (k : En Cx nL (pc + 1) lv (.long x :: st) h bc bs) : En Cx nL pc lv (st) h bc bs :=
  En.go1 hC (fun hx hb hl k => lv_lload_n hx hb hd rfl (hl.2.2 _ _ hv) k) k
theorem En_lload (hC : je_Ok Cx own cc nL d) {i : Nat} {x : Int64} (hd : decode cc pc = .ok (.lload i, 2)) (hv : lv[i]? = some (some (.long x))) (k : En Cx nL (pc + 2) lv (.long x :: st) h bc bs) : En Cx nL pc lv (st) h bc bs :=
  En.go1 hC (fun hx hb hl k => lv_lload hx hb hd (hl.2.2 _ _ hv) k) k
theorem En_aload_n (hC : je_Ok Cx own cc nL d) {n : Fin 4} {x : Nat} (hd : decode cc pc = .ok (.aload_n n, 1)) (hv : lv[(n : Nat)]? = some (some (.ref x))) (k : En Cx nL (pc + 1) lv (.ref x :: st) h bc bs) : En Cx nL pc lv (st) h bc bs :=
  En.go1 hC (fun hx hb hl k => lv_aload_n hx hb hd rfl (hl.2.2 _ _ hv) k) k
theorem En_aload (hC : je_Ok Cx own cc nL d) {i : Nat} {x : Nat} (hd : decode cc pc = .ok (.aload i, 2)) (hv : lv[i]? = some (some (.ref x))) (k : En Cx nL (pc + 2) lv (.ref x :: st) h bc bs) : En Cx nL pc lv (st) h bc bs :=
  En.go1 hC (fun hx hb hl k => lv_aload hx hb hd (hl.2.2 _ _ hv) k) k
theorem En_aload_nN (hC : je_Ok Cx own cc nL d) {n : Fin 4} (hd : decode cc pc = .ok (.aload_n n, 1)) (hv : lv[(n : Nat)]? = some (some .null)) (k : En Cx nL (pc + 1) lv (.null :: st) h bc bs) : En Cx nL pc lv (st) h bc bs :=
  En.go1 hC (fun hx hb hl k => lv_aload_nN hx hb hd rfl (hl.2.2 _ _ hv) k) k
theorem En_aloadN (hC : je_Ok Cx own cc nL d) {i : Nat} (hd : decode cc pc = .ok (.aload i, 2)) (hv : lv[i]? = some (some .null)) (k : En Cx nL (pc + 2) lv (.null :: st) h bc bs) : En Cx nL pc lv (st) h bc bs :=
  En.go1 hC (fun hx hb hl k => lv_aloadN hx hb hd (hl.2.2 _ _ hv) k) k
theorem En_iadd (hC : je_Ok Cx own cc nL d) {x y : Int32} (hd : decode cc pc = .ok (.iadd, 1)) (k : En Cx nL (pc + 1) lv (.int (x + y) :: st) h bc bs) : En Cx nL pc lv (.int y :: .int x :: st) h bc bs :=
  En.go1 hC (fun hx hb hl k => lv_iadd hx hb hd k) k
theorem En_isub (hC : je_Ok Cx own cc nL d) {x y : Int32} (hd : decode cc pc = .ok (.isub, 1)) (k : En Cx nL (pc + 1) lv (.int (x - y) :: st) h bc bs) : En Cx nL pc lv (.int y :: .int x :: st) h bc bs :=
  En.go1 hC (fun hx hb hl k => lv_isub hx hb hd k) k
theorem En_imul (hC : je_Ok Cx own cc nL d) {x y : Int32} (hd : decode cc pc = .ok (.imul, 1)) (k : En Cx nL (pc + 1) lv (.int (x * y) :: st) h bc bs) : En Cx nL pc lv (.int y :: .int x :: st) h bc bs :=
  En.go1 hC (fun hx hb hl k => lv_imul hx hb hd k) k
theorem En_iand (hC : je_Ok Cx own cc nL d) {x y : Int32} (hd : decode cc pc = .ok (.iand, 1)) (k : En Cx nL (pc + 1) lv (.int (x &&& y) :: st) h bc bs) : En Cx nL pc lv (.int y :: .int x :: st) h bc bs :=
  En.go1 hC (fun hx hb hl k => lv_iand hx hb hd k) k
theorem En_ior (hC : je_Ok Cx own cc nL d) {x y : Int32} (hd : decode cc pc = .ok (.ior, 1)) (k : En Cx nL (pc + 1) lv (.int (x ||| y) :: st) h bc bs) : En Cx nL pc lv (.int y :: .int x :: st) h bc bs :=
  En.go1 hC (fun hx hb hl k => lv_ior hx hb hd k) k
theorem En_ishl (hC : je_Ok Cx own cc nL d) {x y : Int32} (hd : decode cc pc = .ok (.ishl, 1)) (k : En Cx nL (pc + 1) lv (.int (x <<< (y &&& 31)) :: st) h bc bs) : En Cx nL pc lv (.int y :: .int x :: st) h bc bs :=
  En.go1 hC (fun hx hb hl k => lv_ishl hx hb hd k) k
theorem En_ishr (hC : je_Ok Cx own cc nL d) {x y : Int32} (hd : decode cc pc = .ok (.ishr, 1)) (k : En Cx nL (pc + 1) lv (.int (x >>> (y &&& 31)) :: st) h bc bs) : En Cx nL pc lv (.int y :: .int x :: st) h bc bs :=
  En.go1 hC (fun hx hb hl k => lv_ishr hx hb hd k) k
theorem En_idiv (hC : je_Ok Cx own cc nL d) {x y : Int32} (hd : decode cc pc = .ok (.idiv, 1)) (hne : ¬ y = 0) (k : En Cx nL (pc + 1) lv (.int (x / y) :: st) h bc bs) : En Cx nL pc lv (.int y :: .int x :: st) h bc bs :=
  En.go1 hC (fun hx hb hl k => lv_idiv hx hb hd hne k) k
theorem En_ineg (hC : je_Ok Cx own cc nL d) {x : Int32} (hd : decode cc pc = .ok (.ineg, 1)) (k : En Cx nL (pc + 1) lv (.int (-x) :: st) h bc bs) : En Cx nL pc lv (.int x :: st) h bc bs :=
  En.go1 hC (fun hx hb hl k => lv_ineg hx hb hd k) k
theorem En_ladd (hC : je_Ok Cx own cc nL d) {x y : Int64} (hd : decode cc pc = .ok (.ladd, 1)) (k : En Cx nL (pc + 1) lv (.long (x + y) :: st) h bc bs) : En Cx nL pc lv (.long y :: .long x :: st) h bc bs :=
  En.go1 hC (fun hx hb hl k => lv_ladd hx hb hd k) k
theorem En_lsub (hC : je_Ok Cx own cc nL d) {x y : Int64} (hd : decode cc pc = .ok (.lsub, 1)) (k : En Cx nL (pc + 1) lv (.long (x - y) :: st) h bc bs) : En Cx nL pc lv (.long y :: .long x :: st) h bc bs :=
  En.go1 hC (fun hx hb hl k => lv_lsub hx hb hd k) k
theorem En_lmul (hC : je_Ok Cx own cc nL d) {x y : Int64} (hd : decode cc pc = .ok (.lmul, 1)) (k : En Cx nL (pc + 1) lv (.long (x * y) :: st) h bc bs) : En Cx nL pc lv (.long y :: .long x :: st) h bc bs :=
  En.go1 hC (fun hx hb hl k => lv_lmul hx hb hd k) k
theorem En_lxor (hC : je_Ok Cx own cc nL d) {x y : Int64} (hd : decode cc pc = .ok (.lxor, 1)) (k : En Cx nL (pc + 1) lv (.long (x ^^^ y) :: st) h bc bs) : En Cx nL pc lv (.long y :: .long x :: st) h bc bs :=
  En.go1 hC (fun hx hb hl k => lv_lxor hx hb hd k) k
theorem En_ldiv (hC : je_Ok Cx own cc nL d) {x y : Int64} (hd : decode cc pc = .ok (.ldiv, 1)) (hne : ¬ y = 0) (k : En Cx nL (pc + 1) lv (.long (x / y) :: st) h bc bs) : En Cx nL pc lv (.long y :: .long x :: st) h bc bs :=
  En.go1 hC (fun hx hb hl k => lv_ldiv hx hb hd hne k) k
theorem En_lrem (hC : je_Ok Cx own cc nL d) {x y : Int64} (hd : decode cc pc = .ok (.lrem, 1)) (hne : ¬ y = 0) (k : En Cx nL (pc + 1) lv (.long (x - x / y * y) :: st) h bc bs) : En Cx nL pc lv (.long y :: .long x :: st) h bc bs :=
  En.go1 hC (fun hx hb hl k => lv_lrem hx hb hd hne k) k
theorem En_lcmp (hC : je_Ok Cx own cc nL d) {x y : Int64} (hd : decode cc pc = .ok (.lcmp, 1)) (k : En Cx nL (pc + 1) lv (.int (lg_cmp x y) :: st) h bc bs) : En Cx nL pc lv (.long y :: .long x :: st) h bc bs :=
  En.go1 hC (fun hx hb hl k => W.lcmp hx hb hd k) k
theorem En_i2l (hC : je_Ok Cx own cc nL d) {x : Int32} (hd : decode cc pc = .ok (.i2l, 1)) (k : En Cx nL (pc + 1) lv (.long x.toInt64 :: st) h bc bs) : En Cx nL pc lv (.int x :: st) h bc bs :=
  En.go1 hC (fun hx hb hl k => lv_i2l hx hb hd rfl k) k
theorem En_l2i (hC : je_Ok Cx own cc nL d) {x : Int64} (hd : decode cc pc = .ok (.l2i, 1)) (k : En Cx nL (pc + 1) lv (.int x.toInt32 :: st) h bc bs) : En Cx nL pc lv (.long x :: st) h bc bs :=
  En.go1 hC (fun hx hb hl k => lv_l2i hx hb hd rfl k) k
theorem En_dup (hC : je_Ok Cx own cc nL d) {v : Value} (hd : decode cc pc = .ok (.dup, 1)) (hv : v.category = 1) (k : En Cx nL (pc + 1) lv (v :: v :: st) h bc bs) : En Cx nL pc lv (v :: st) h bc bs :=
  En.go1 hC (fun hx hb hl k => lv_dup hx hb hd hv k) k
theorem En_dup2 (hC : je_Ok Cx own cc nL d) {v u : Value} (hd : decode cc pc = .ok (.dup2, 1)) (hv : v.category = 1) (hu : u.category = 1) (k : En Cx nL (pc + 1) lv (v :: u :: v :: u :: st) h bc bs) : En Cx nL pc lv (v :: u :: st) h bc bs :=
  En.go1 hC (fun hx hb hl k => lv_dup2_11 hx hb hd hv hu k) k
theorem En_istore_n {lv' : je_V0} (hC : je_Ok Cx own cc nL d) {n : Fin 4} {x : Int32} (hd : decode cc pc = .ok (.istore_n n, 1)) (hi : (n : Nat) < nL) (hn : je_nl lv (n : Nat) = true) (hlv : lv.set (n : Nat) (some (.int x)) = lv') (k : En Cx nL (pc + 1) lv' st h bc bs) : En Cx nL pc lv (.int x :: st) h bc bs :=
  En.st1 hC hn hlv (fun hx hb h k => lv_istore_n hx hb hd rfl h hi rfl k) k
theorem En_istore {lv' : je_V0} (hC : je_Ok Cx own cc nL d) {i : Nat} {x : Int32} (hd : decode cc pc = .ok (.istore i, 2)) (hi : i < nL) (hn : je_nl lv i = true) (hlv : lv.set i (some (.int x)) = lv') (k : En Cx nL (pc + 2) lv' st h bc bs) : En Cx nL pc lv (.int x :: st) h bc bs :=
  En.st1 hC hn hlv (fun hx hb h k => lv_istore hx hb hd h hi rfl k) k
theorem En_lstore_n {lv' : je_V0} (hC : je_Ok Cx own cc nL d) {n : Fin 4} {x : Int64} (hd : decode cc pc = .ok (.lstore_n n, 1)) (hi : (n : Nat) + 1 < nL) (hn : je_nl lv (n : Nat) = true) (hlv : (lv.set (n : Nat) (some (.long x))).set ((n : Nat) + 1) none = lv') (k : En Cx nL (pc + 1) lv' st h bc bs) : En Cx nL pc lv (.long x :: st) h bc bs :=
  En.st2 hC hn hlv (fun hx hb h k => lv_lstore_n hx hb hd rfl h hi rfl k) k
theorem En_lstore {lv' : je_V0} (hC : je_Ok Cx own cc nL d) {i : Nat} {x : Int64} (hd : decode cc pc = .ok (.lstore i, 2)) (hi : i + 1 < nL) (hn : je_nl lv i = true) (hlv : (lv.set i (some (.long x))).set (i + 1) none = lv') (k : En Cx nL (pc + 2) lv' st h bc bs) : En Cx nL pc lv (.long x :: st) h bc bs :=
  En.st2 hC hn hlv (fun hx hb h k => lv_lstore hx hb hd h hi rfl k) k
theorem En_astore_n {lv' : je_V0} (hC : je_Ok Cx own cc nL d) {n : Fin 4} {x : Nat} (hd : decode cc pc = .ok (.astore_n n, 1)) (hi : (n : Nat) < nL) (hn : je_nl lv (n : Nat) = true) (hlv : lv.set (n : Nat) (some (.ref x)) = lv') (k : En Cx nL (pc + 1) lv' st h bc bs) : En Cx nL pc lv (.ref x :: st) h bc bs :=
  En.st1 hC hn hlv (fun hx hb h k => lv_astore_n hx hb hd rfl h hi rfl k) k
theorem En_astore {lv' : je_V0} (hC : je_Ok Cx own cc nL d) {i : Nat} {x : Nat} (hd : decode cc pc = .ok (.astore i, 2)) (hi : i < nL) (hn : je_nl lv i = true) (hlv : lv.set i (some (.ref x)) = lv') (k : En Cx nL (pc + 2) lv' st h bc bs) : En Cx nL pc lv (.ref x :: st) h bc bs :=
  En.st1 hC hn hlv (fun hx hb h k => lv_astore hx hb hd h hi rfl k) k
theorem En_astore_nN {lv' : je_V0} (hC : je_Ok Cx own cc nL d) {n : Fin 4} (hd : decode cc pc = .ok (.astore_n n, 1)) (hi : (n : Nat) < nL) (hn : je_nl lv (n : Nat) = true) (hlv : lv.set (n : Nat) (some (.null)) = lv') (k : En Cx nL (pc + 1) lv' st h bc bs) : En Cx nL pc lv (.null :: st) h bc bs :=
  En.st1 hC hn hlv (fun hx hb h k => lv_astore_nN hx hb hd rfl h hi rfl k) k
theorem En_astoreN {lv' : je_V0} (hC : je_Ok Cx own cc nL d) {i : Nat} (hd : decode cc pc = .ok (.astore i, 2)) (hi : i < nL) (hn : je_nl lv i = true) (hlv : lv.set i (some (.null)) = lv') (k : En Cx nL (pc + 2) lv' st h bc bs) : En Cx nL pc lv (.null :: st) h bc bs :=
  En.st1 hC hn hlv (fun hx hb h k => lv_astoreN hx hb hd h hi rfl k) k
theorem En_iinc {lv' : je_V0} (hC : je_Ok Cx own cc nL d) {i : Nat} {n : Int} {x v : Int32} (hd : decode cc pc = .ok (.iinc i n, 3)) (hi : i < nL) (hv : lv[i]? = some (some (.int x))) (hx2 : x + Int32.ofInt n = v) (hn : je_nl lv i = true) (hlv : lv.set i (some (.int v)) = lv') (k : En Cx nL (pc + 3) lv' st h bc bs) : En Cx nL pc lv st h bc bs :=
  En.st1 hC hn hlv (fun hx hb h k => by
    obtain ⟨k0, hk0⟩ := List.getElem?_of_mem (je_pl_in hv)
    exact lv_iinc hx hb hd h hk0 hx2 hi rfl k) k
theorem En_if_eq (hC : je_Ok Cx own cc nL d) {x : Int32} {off : Int} (tgt : Nat) (hd : decode cc pc = .ok (.ifCond .eq off, 3)) (ht : (pc : Int) + off = (tgt : Int)) (k1 : x = 0 → En Cx nL tgt lv st h bc bs) (k2 : ¬ x = 0 → En Cx nL (pc + 3) lv st h bc bs) : En Cx nL pc lv (.int x :: st) h bc bs :=
  En.br hC (fun hx hb k1 k2 => lv_if_eq hx hb hd ht k1 k2) k1 k2
theorem En_icmp_eq (hC : je_Ok Cx own cc nL d) {x y : Int32} {off : Int} (tgt : Nat) (hd : decode cc pc = .ok (.if_icmp .eq off, 3)) (ht : (pc : Int) + off = (tgt : Int)) (k1 : x = y → En Cx nL tgt lv st h bc bs) (k2 : ¬ x = y → En Cx nL (pc + 3) lv st h bc bs) : En Cx nL pc lv (.int y :: .int x :: st) h bc bs :=
  En.br hC (fun hx hb k1 k2 => lv_icmp_eq hx hb hd ht k1 k2) k1 k2
theorem En_if_ne (hC : je_Ok Cx own cc nL d) {x : Int32} {off : Int} (tgt : Nat) (hd : decode cc pc = .ok (.ifCond .ne off, 3)) (ht : (pc : Int) + off = (tgt : Int)) (k1 : ¬ x = 0 → En Cx nL tgt lv st h bc bs) (k2 : x = 0 → En Cx nL (pc + 3) lv st h bc bs) : En Cx nL pc lv (.int x :: st) h bc bs :=
  En.br hC (fun hx hb k1 k2 => lv_if_ne hx hb hd ht k1 k2) k1 k2
theorem En_icmp_ne (hC : je_Ok Cx own cc nL d) {x y : Int32} {off : Int} (tgt : Nat) (hd : decode cc pc = .ok (.if_icmp .ne off, 3)) (ht : (pc : Int) + off = (tgt : Int)) (k1 : ¬ x = y → En Cx nL tgt lv st h bc bs) (k2 : x = y → En Cx nL (pc + 3) lv st h bc bs) : En Cx nL pc lv (.int y :: .int x :: st) h bc bs :=
  En.br hC (fun hx hb k1 k2 => lv_icmp_ne hx hb hd ht k1 k2) k1 k2
theorem En_if_lt (hC : je_Ok Cx own cc nL d) {x : Int32} {off : Int} (tgt : Nat) (hd : decode cc pc = .ok (.ifCond .lt off, 3)) (ht : (pc : Int) + off = (tgt : Int)) (k1 : x < 0 → En Cx nL tgt lv st h bc bs) (k2 : ¬ x < 0 → En Cx nL (pc + 3) lv st h bc bs) : En Cx nL pc lv (.int x :: st) h bc bs :=
  En.br hC (fun hx hb k1 k2 => lv_if_lt hx hb hd ht k1 k2) k1 k2
theorem En_icmp_lt (hC : je_Ok Cx own cc nL d) {x y : Int32} {off : Int} (tgt : Nat) (hd : decode cc pc = .ok (.if_icmp .lt off, 3)) (ht : (pc : Int) + off = (tgt : Int)) (k1 : x < y → En Cx nL tgt lv st h bc bs) (k2 : ¬ x < y → En Cx nL (pc + 3) lv st h bc bs) : En Cx nL pc lv (.int y :: .int x :: st) h bc bs :=
  En.br hC (fun hx hb k1 k2 => lv_icmp_lt hx hb hd ht k1 k2) k1 k2
theorem En_if_ge (hC : je_Ok Cx own cc nL d) {x : Int32} {off : Int} (tgt : Nat) (hd : decode cc pc = .ok (.ifCond .ge off, 3)) (ht : (pc : Int) + off = (tgt : Int)) (k1 : 0 ≤ x → En Cx nL tgt lv st h bc bs) (k2 : ¬ 0 ≤ x → En Cx nL (pc + 3) lv st h bc bs) : En Cx nL pc lv (.int x :: st) h bc bs :=
  En.br hC (fun hx hb k1 k2 => lv_if_ge hx hb hd ht k1 k2) k1 k2
theorem En_icmp_ge (hC : je_Ok Cx own cc nL d) {x y : Int32} {off : Int} (tgt : Nat) (hd : decode cc pc = .ok (.if_icmp .ge off, 3)) (ht : (pc : Int) + off = (tgt : Int)) (k1 : y ≤ x → En Cx nL tgt lv st h bc bs) (k2 : ¬ y ≤ x → En Cx nL (pc + 3) lv st h bc bs) : En Cx nL pc lv (.int y :: .int x :: st) h bc bs :=
  En.br hC (fun hx hb k1 k2 => lv_icmp_ge hx hb hd ht k1 k2) k1 k2
theorem En_if_gt (hC : je_Ok Cx own cc nL d) {x : Int32} {off : Int} (tgt : Nat) (hd : decode cc pc = .ok (.ifCond .gt off, 3)) (ht : (pc : Int) + off = (tgt : Int)) (k1 : 0 < x → En Cx nL tgt lv st h bc bs) (k2 : ¬ 0 < x → En Cx nL (pc + 3) lv st h bc bs) : En Cx nL pc lv (.int x :: st) h bc bs :=
  En.br hC (fun hx hb k1 k2 => lv_if_gt hx hb hd ht k1 k2) k1 k2
theorem En_icmp_gt (hC : je_Ok Cx own cc nL d) {x y : Int32} {off : Int} (tgt : Nat) (hd : decode cc pc = .ok (.if_icmp .gt off, 3)) (ht : (pc : Int) + off = (tgt : Int)) (k1 : y < x → En Cx nL tgt lv st h bc bs) (k2 : ¬ y < x → En Cx nL (pc + 3) lv st h bc bs) : En Cx nL pc lv (.int y :: .int x :: st) h bc bs :=
  En.br hC (fun hx hb k1 k2 => lv_icmp_gt hx hb hd ht k1 k2) k1 k2
theorem En_if_le (hC : je_Ok Cx own cc nL d) {x : Int32} {off : Int} (tgt : Nat) (hd : decode cc pc = .ok (.ifCond .le off, 3)) (ht : (pc : Int) + off = (tgt : Int)) (k1 : x ≤ 0 → En Cx nL tgt lv st h bc bs) (k2 : ¬ x ≤ 0 → En Cx nL (pc + 3) lv st h bc bs) : En Cx nL pc lv (.int x :: st) h bc bs :=
  En.br hC (fun hx hb k1 k2 => lv_if_le hx hb hd ht k1 k2) k1 k2
theorem En_icmp_le (hC : je_Ok Cx own cc nL d) {x y : Int32} {off : Int} (tgt : Nat) (hd : decode cc pc = .ok (.if_icmp .le off, 3)) (ht : (pc : Int) + off = (tgt : Int)) (k1 : x ≤ y → En Cx nL tgt lv st h bc bs) (k2 : ¬ x ≤ y → En Cx nL (pc + 3) lv st h bc bs) : En Cx nL pc lv (.int y :: .int x :: st) h bc bs :=
  En.br hC (fun hx hb k1 k2 => lv_icmp_le hx hb hd ht k1 k2) k1 k2
theorem En_acmp_eq (hC : je_Ok Cx own cc nL d) {rx ry : Option Nat} {off : Int} (tgt : Nat) (hd : decode cc pc = .ok (.if_acmp .eq off, 3)) (ht : (pc : Int) + off = (tgt : Int)) (k1 : rx = ry → En Cx nL tgt lv st h bc bs) (k2 : ¬ rx = ry → En Cx nL (pc + 3) lv st h bc bs) : En Cx nL pc lv (va_rf ry :: va_rf rx :: st) h bc bs :=
  En.br hC (fun hx hb k1 k2 => lv_acmp_eq hx hb hd ht k1 k2) k1 k2
theorem En_acmp_ne (hC : je_Ok Cx own cc nL d) {rx ry : Option Nat} {off : Int} (tgt : Nat) (hd : decode cc pc = .ok (.if_acmp .ne off, 3)) (ht : (pc : Int) + off = (tgt : Int)) (k1 : ¬ rx = ry → En Cx nL tgt lv st h bc bs) (k2 : rx = ry → En Cx nL (pc + 3) lv st h bc bs) : En Cx nL pc lv (va_rf ry :: va_rf rx :: st) h bc bs :=
  En.br hC (fun hx hb k1 k2 => lv_acmp_ne hx hb hd ht k1 k2) k1 k2
theorem En_ifnull (hC : je_Ok Cx own cc nL d) {x : Nat} {off : Int} (hd : decode cc pc = .ok (.ifnull off, 3)) (k : En Cx nL (pc + 3) lv st h bc bs) : En Cx nL pc lv (.ref x :: st) h bc bs :=
  En.go1 hC (fun hx hb hl k => lv_ifnull hx hb hd k) k
theorem En_ifnullN (hC : je_Ok Cx own cc nL d) {off : Int} (tgt : Nat) (hd : decode cc pc = .ok (.ifnull off, 3)) (ht : (pc : Int) + off = (tgt : Int)) (k : En Cx nL tgt lv st h bc bs) : En Cx nL pc lv (.null :: st) h bc bs :=
  En.go1 hC (fun hx hb hl k => lv_ifnullN hx hb hd ht k) k
theorem En_ifnonnull (hC : je_Ok Cx own cc nL d) {x : Nat} {off : Int} (tgt : Nat) (hd : decode cc pc = .ok (.ifnonnull off, 3)) (ht : (pc : Int) + off = (tgt : Int)) (k : En Cx nL tgt lv st h bc bs) : En Cx nL pc lv (.ref x :: st) h bc bs :=
  En.go1 hC (fun hx hb hl k => lv_ifnonnull hx hb hd ht k) k
theorem En_ifnonnullN (hC : je_Ok Cx own cc nL d) {off : Int} (hd : decode cc pc = .ok (.ifnonnull off, 3)) (k : En Cx nL (pc + 3) lv st h bc bs) : En Cx nL pc lv (.null :: st) h bc bs :=
  En.go1 hC (fun hx hb hl k => lv_ifnonnullN hx hb hd k) k
theorem En_goto (hC : je_Ok Cx own cc nL d) {off : Int} (tgt : Nat) (hd : decode cc pc = .ok (.goto off, 3)) (ht : (pc : Int) + off = (tgt : Int)) (k : En Cx nL tgt lv st h bc bs) : En Cx nL pc lv st h bc bs :=
  En.go1 hC (fun hx hb hl k => lv_goto hx hb hd ht k) k
theorem En_lookup (hC : je_Ok Cx own cc nL d) {dflt : Int} {ps : Array (Int × Int)} {len : Nat} {x : Int32} {off : Int} (tgt : Nat) (hd : decode cc pc = .ok (.lookupswitch dflt ps, len)) (hp : (ps.toList.zip (ps.toList.drop 1)).all (fun (a, next) => a.1 < next.1) = true) (ho : Op.lookupswitch.offset ps.toList dflt x.toInt = off) (ht : (pc : Int) + off = (tgt : Int)) (k : En Cx nL tgt lv st h bc bs) : En Cx nL pc lv (.int x :: st) h bc bs :=
  En.go1 hC (fun hx hb hl k => lv_lookup hx hb hd hp ho ht k) k
theorem En_tableOut (hC : je_Ok Cx own cc nL d) {dflt lo hi : Int} {offs : Array Int} {len : Nat} {x : Int32} (tgt : Nat) (hd : decode cc pc = .ok (.tableswitch dflt lo hi offs, len)) (hq : x.toInt < lo ∨ hi < x.toInt) (ht : (pc : Int) + dflt = (tgt : Int)) (k : En Cx nL tgt lv st h bc bs) : En Cx nL pc lv (.int x :: st) h bc bs :=
  En.go1 hC (fun hx hb hl k => lv_tableOut hx hb hd hq ht k) k
theorem En_tableIn (hC : je_Ok Cx own cc nL d) {dflt lo hi : Int} {offs : Array Int} {len : Nat} {x : Int32} {off : Int} (tgt : Nat) (hd : decode cc pc = .ok (.tableswitch dflt lo hi offs, len)) (h1 : ¬ x.toInt < lo) (h2 : ¬ hi < x.toInt) (ho : offs[(x.toInt - lo).toNat]? = some off) (ht : (pc : Int) + off = (tgt : Int)) (k : En Cx nL tgt lv st h bc bs) : En Cx nL pc lv (.int x :: st) h bc bs :=
  En.go1 hC (fun hx hb hl k => lv_tableIn hx hb hd h1 h2 ho ht k) k
theorem En_ldc (hC : je_Ok Cx own cc nL d) {idx : Nat} {v : Int32} (hc0 : Cond.constant own idx v ∈ je_T) (hd : decode cc pc = .ok (.ldc idx, 2)) (k : En Cx nL (pc + 2) lv (.int v :: st) h bc bs) : En Cx nL pc lv st h bc bs := by
  intro p l e R s m args below meth c D cs A Q hx w H locs cells slots ls hR hP hD hS hl hc hs
  obtain ⟨hx1, hb, -, ho, ht, -⟩ := hC _ _ _ _ _ _ _ _ _ _ _ _ _ _ hx
  exact lv_ldc hx1 hb ho (ht _ hc0) hd (k _ _ _ _ _ _ _ _ _ _ _ _ _ _ hx _ _ _ _ _ _ hR hP hD hS hl hc hs)
theorem En_ldc2 (hC : je_Ok Cx own cc nL d) {idx : Nat} {v : Int64} (hc0 : Cond.constantLong own idx v ∈ je_T) (hd : decode cc pc = .ok (.ldc2_w idx, 3)) (k : En Cx nL (pc + 3) lv (.long v :: st) h bc bs) : En Cx nL pc lv st h bc bs := by
  intro p l e R s m args below meth c D cs A Q hx w H locs cells slots ls hR hP hD hS hl hc hs
  obtain ⟨hx1, hb, -, ho, ht, -⟩ := hC _ _ _ _ _ _ _ _ _ _ _ _ _ _ hx
  exact lv_ldc2 hx1 hb ho (ht _ hc0) hd (k _ _ _ _ _ _ _ _ _ _ _ _ _ _ hx _ _ _ _ _ _ hR hP hD hS hl hc hs)
theorem En_get (hC : je_Ok Cx own cc nL d) {C : String} {T : u_T} {N ci idx a : Nat} {fs : List Value} {v : Value} (k : Nat) (hin : ∀ w ∈ u_ws C T N, w ∈ je_T) (hcl : vwCl[ci]? = some (C, T, N)) (hlk : Cond.fieldLink own idx (T k).1 (T k).2.1 (T k).2.2.1 ∈ je_T) (hkN : k < N) (hd : decode cc pc = .ok (.getfield idx, 3)) (ha : h a = some (.inr (ci, fs))) (hv : fs[k]? = some v)
    (kk : En Cx nL (pc + 3) lv (v :: st) h bc bs) : En Cx nL pc lv (.ref a :: st) h bc bs := by
  intro p l e R s m args below meth c D cs A Q hx w H locs cells slots ls hR hP hD hS hl hc hs
  obtain ⟨hx1, hb, -, ho, ht, hK, -⟩ := hC _ _ _ _ _ _ _ _ _ _ _ _ _ _ hx
  obtain ⟨q0, hq0⟩ := hR.2 a _ ha
  exact va_get hx1 hb ht hin ho hK.1 hP q0 (je_get hq0) hcl k hkN (ht _ hlk) (fun _ z => z) hv hd (kk _ _ _ _ _ _ _ _ _ _ _ _ _ _ hx _ _ _ _ _ _ hR hP hD hS hl hc hs)
theorem En_put (hC : je_Ok Cx own cc nL d) {C : String} {T : u_T} {N ci idx a : Nat} {fs : List Value} {v : Value} {ty : FieldType} (k : Nat) (ty0 : Nat → FieldType) (hty : ∀ k, k < N → parseFieldDescriptor (T k).2.2.1 = some (ty0 k)) (hnm : ∀ a, a < N → ∀ b, b < N → a ≠ b → (T a).2.1 ≠ (T b).2.1) (hin : ∀ w ∈ u_ws C T N, w ∈ je_T) (hcl : vwCl[ci]? = some (C, T, N)) (hlk : Cond.fieldLink own idx (T k).1 (T k).2.1 (T k).2.2.1 ∈ je_T) (hkN : k < N) (hfin : (T k).2.2.2 = false) (hd : decode cc pc = .ok (.putfield idx, 3)) (ha : h a = some (.inr (ci, fs))) (hde : parseFieldDescriptor (T k).2.2.1 = some ty) (hn : narrow ty v = v) (hfit : fits ty v = true) (hle : k < fs.length)
    (kk : En Cx nL (pc + 3) lv st (je_up h a (.inr (ci, fs.set k v))) bc bs) : En Cx nL pc lv (v :: .ref a :: st) h bc bs := by
  intro p l e R s m args below meth c D cs A Q hx w H locs cells slots ls hR hP hD hS hl hc hs
  obtain ⟨hx1, hb, -, ho, ht, hK, -⟩ := hC _ _ _ _ _ _ _ _ _ _ _ _ _ _ hx
  obtain ⟨q0, hq0⟩ := hR.2 a _ ha
  refine va_put hx1 hb ht hin ty0 hty hnm ho hK.1 hP hD hS q0 (je_get hq0) hcl k hkN (ht _ hlk) (fun _ z => z) hfin hde hn hfit hle hd (fun H1 locs1 hP1 hD1 hS1 => ?_)
  have e0 := je_set (cs := cs) (w := w) (k := q0) (a, .inr (ci, fs.set k v))
  have hP1 : va_P D vwCl (je_ws cs (w.set q0 (a, .inr (ci, fs.set k v)))) H1 := by rw [← e0]; exact hP1
  have hD1 : va_D A (je_ws cs (w.set q0 (a, .inr (ci, fs.set k v)))) := by rw [← e0]; exact hD1
  exact kk _ _ _ _ _ _ _ _ _ _ _ _ _ _ hx _ _ _ _ _ _ (je_R_set _ hR hq0 hD) hP1 hD1 hS1 hl hc hs
theorem En_iald (hC : je_Ok Cx own cc nL d) {a n : Nat} {f : Nat → Int32} {i : Int32} (hd : decode cc pc = .ok (.iaload, 1)) (ha : h a = some (.inl (0, n, .inl f))) (hin : vp_in i n) (kk : En Cx nL (pc + 1) lv (.int (f i.toNatClampNeg) :: st) h bc bs) : En Cx nL pc lv (.int i :: .ref a :: st) h bc bs := by
  intro p l e R s m args below meth c D cs A Q hx w H locs cells slots ls hR hP hD hS hl hc hs
  obtain ⟨hx1, hb, -, ho, ht, hK, -⟩ := hC _ _ _ _ _ _ _ _ _ _ _ _ _ _ hx
  obtain ⟨q0, hq0⟩ := hR.2 a _ ha
  exact va_iald hx1 hb hK.1 hP q0 0 (je_get hq0) rfl hin hd (kk _ _ _ _ _ _ _ _ _ _ _ _ _ _ hx _ _ _ _ _ _ hR hP hD hS hl hc hs)
theorem En_iast (hC : je_Ok Cx own cc nL d) {a n : Nat} {f : Nat → Int32} {i x : Int32} (hd : decode cc pc = .ok (.iastore, 1)) (ha : h a = some (.inl (0, n, .inl f))) (hin : vp_in i n) (kk : En Cx nL (pc + 1) lv st (je_up h a (.inl (0, n, .inl (upd f i.toNatClampNeg x)))) bc bs) : En Cx nL pc lv (.int x :: .int i :: .ref a :: st) h bc bs := by
  intro p l e R s m args below meth c D cs A Q hx w H locs cells slots ls hR hP hD hS hl hc hs
  obtain ⟨hx1, hb, -, ho, ht, hK, -⟩ := hC _ _ _ _ _ _ _ _ _ _ _ _ _ _ hx
  obtain ⟨q0, hq0⟩ := hR.2 a _ ha
  refine va_iast hx1 hb hK.1 hP hD hS q0 0 (je_get hq0) rfl hin hd (fun H1 locs1 hP1 hD1 hS1 => ?_)
  have e0 := je_set (cs := cs) (w := w) (k := q0) (a, .inl (0, n, .inl (upd f i.toNatClampNeg x)))
  have hP1 : va_P D vwCl (je_ws cs (w.set q0 (a, .inl (0, n, .inl (upd f i.toNatClampNeg x))))) H1 := by rw [← e0]; exact hP1
  have hD1 : va_D A (je_ws cs (w.set q0 (a, .inl (0, n, .inl (upd f i.toNatClampNeg x))))) := by rw [← e0]; exact hD1
  exact kk _ _ _ _ _ _ _ _ _ _ _ _ _ _ hx _ _ _ _ _ _ (je_R_set _ hR hq0 hD) hP1 hD1 hS1 hl hc hs
theorem En_alen (hC : je_Ok Cx own cc nL d) {a t : Nat} {x : vp_A} (hd : decode cc pc = .ok (.arraylength, 1)) (ha : h a = some (.inl (t, x))) (ht3 : t < 3) (kk : En Cx nL (pc + 1) lv (.int (Int32.ofNat x.1) :: st) h bc bs) : En Cx nL pc lv (.ref a :: st) h bc bs := by
  intro p l e R s m args below meth c D cs A Q hx w H locs cells slots ls hR hP hD hS hl hc hs
  obtain ⟨hx1, hb, -, ho, ht, hK, -⟩ := hC _ _ _ _ _ _ _ _ _ _ _ _ _ _ hx
  obtain ⟨q0, hq0⟩ := hR.2 a _ ha
  have hty : ∃ ty, (je_tys cs)[t]? = some (cs t, ty) := by
    rcases (show t = 0 ∨ t = 1 ∨ t = 2 by omega) with rfl | rfl | rfl <;> exact ⟨_, rfl⟩
  obtain ⟨ty, hty⟩ := hty
  exact va_alen hx1 hb hK.1 hP q0 t (je_get hq0) hty rfl hd (kk _ _ _ _ _ _ _ _ _ _ _ _ _ _ hx _ _ _ _ _ _ hR hP hD hS hl hc hs)
/-- which class an array of kind t is over -/
def je_cn : Nat → String
  | 1 => RX2
  | _ => RX3
def je_cx : Nat → Nat
  | 1 => 2
  | _ => 3
theorem je_tys_q {cs : Nat → ClassId} {t : Nat} (ht : t = 1 ∨ t = 2) : (je_tys cs)[t]? = some (cs t, .object (je_cn t)) := by
  rcases ht with rfl | rfl <;> rfl
theorem En_aald (hC : je_Ok Cx own cc nL d) {a n t : Nat} {f : Nat → Option Nat} {i : Int32} (ht3 : t = 1 ∨ t = 2) (hd : decode cc pc = .ok (.aaload, 1)) (ha : h a = some (.inl (t, n, .inr (.inr (.inr (.inr f)))))) (hin : vp_in i n) (kk : En Cx nL (pc + 1) lv (va_rf (f i.toNatClampNeg) :: st) h bc bs) : En Cx nL pc lv (.int i :: .ref a :: st) h bc bs := by
  intro p l e R s m args below meth c D cs A Q hx w H locs cells slots ls hR hP hD hS hl hc hs
  obtain ⟨hx1, hb, -, ho, ht, hK, -⟩ := hC _ _ _ _ _ _ _ _ _ _ _ _ _ _ hx
  obtain ⟨q0, hq0⟩ := hR.2 a _ ha
  exact va_aldq hx1 hb hK.1 hP q0 t (je_get hq0) (je_tys_q ht3) hin hd (kk _ _ _ _ _ _ _ _ _ _ _ _ _ _ hx _ _ _ _ _ _ hR hP hD hS hl hc hs)
theorem En_aast (hC : je_Ok Cx own cc nL d) {a n t b : Nat} {f : Nat → Option Nat} {i : Int32} {fs : List Value} (ht3 : t = 1 ∨ t = 2) (hd : decode cc pc = .ok (.aastore, 1)) (ha : h a = some (.inl (t, n, .inr (.inr (.inr (.inr f)))))) (hb0 : h b = some (.inr (je_cx t, fs))) (hin : vp_in i n) (kk : En Cx nL (pc + 1) lv st (je_up h a (.inl (t, n, .inr (.inr (.inr (.inr (va_up f i.toNatClampNeg (some b)))))))) bc bs) : En Cx nL pc lv (.ref b :: .int i :: .ref a :: st) h bc bs := by
  intro p l e R s m args below meth c D cs A Q hx w H locs cells slots ls hR hP hD hS hl hc hs
  obtain ⟨hx1, hb, -, ho, ht, hK, -⟩ := hC _ _ _ _ _ _ _ _ _ _ _ _ _ _ hx
  obtain ⟨q0, hq0⟩ := hR.2 a _ ha
  obtain ⟨qk, hqk⟩ := hR.2 b _ hb0
  have hcc : ∃ r : vw_C, vwCl[je_cx t]? = some r ∧ r.1 = je_cn t := by rcases ht3 with rfl | rfl <;> exact ⟨_, rfl, rfl⟩
  obtain ⟨r, hr1, hr2⟩ := hcc
  refine va_astq hx1 hb hK.1 hP hD hS q0 t qk (je_cx t) (r := r) (je_get hq0) (by rw [hr2]; exact je_tys_q ht3) (je_get hqk) hr1 hin hd (fun H1 locs1 hP1 hD1 hS1 => ?_)
  have e0 := je_set (cs := cs) (w := w) (k := q0) (a, .inl (t, n, .inr (.inr (.inr (.inr (va_up f i.toNatClampNeg (some b)))))))
  have hP1 : va_P D vwCl (je_ws cs (w.set q0 (a, .inl (t, n, .inr (.inr (.inr (.inr (va_up f i.toNatClampNeg (some b))))))))) H1 := by rw [← e0]; exact hP1
  have hD1 : va_D A (je_ws cs (w.set q0 (a, .inl (t, n, .inr (.inr (.inr (.inr (va_up f i.toNatClampNeg (some b))))))))) := by rw [← e0]; exact hD1
  exact kk _ _ _ _ _ _ _ _ _ _ _ _ _ _ hx _ _ _ _ _ _ (je_R_set _ hR hq0 hD) hP1 hD1 hS1 hl hc hs
theorem En_aastN (hC : je_Ok Cx own cc nL d) {a n t : Nat} {f : Nat → Option Nat} {i : Int32} (ht3 : t = 1 ∨ t = 2) (hd : decode cc pc = .ok (.aastore, 1)) (ha : h a = some (.inl (t, n, .inr (.inr (.inr (.inr f)))))) (hin : vp_in i n) (kk : En Cx nL (pc + 1) lv st (je_up h a (.inl (t, n, .inr (.inr (.inr (.inr (va_up f i.toNatClampNeg none))))))) bc bs) : En Cx nL pc lv (.null :: .int i :: .ref a :: st) h bc bs := by
  intro p l e R s m args below meth c D cs A Q hx w H locs cells slots ls hR hP hD hS hl hc hs
  obtain ⟨hx1, hb, -, ho, ht, hK, -⟩ := hC _ _ _ _ _ _ _ _ _ _ _ _ _ _ hx
  obtain ⟨q0, hq0⟩ := hR.2 a _ ha
  refine va_astqN hx1 hb hK.1 hP hD hS q0 t (je_get hq0) (je_tys_q ht3) hin hd (fun H1 locs1 hP1 hD1 hS1 => ?_)
  have e0 := je_set (cs := cs) (w := w) (k := q0) (a, .inl (t, n, .inr (.inr (.inr (.inr (va_up f i.toNatClampNeg none))))))
  have hP1 : va_P D vwCl (je_ws cs (w.set q0 (a, .inl (t, n, .inr (.inr (.inr (.inr (va_up f i.toNatClampNeg none)))))))) H1 := by rw [← e0]; exact hP1
  have hD1 : va_D A (je_ws cs (w.set q0 (a, .inl (t, n, .inr (.inr (.inr (.inr (va_up f i.toNatClampNeg none)))))))) := by rw [← e0]; exact hD1
  exact kk _ _ _ _ _ _ _ _ _ _ _ _ _ _ hx _ _ _ _ _ _ (je_R_set _ hR hq0 hD) hP1 hD1 hS1 hl hc hs
end EN
end
section
/-! ===== THE LIGHT MACHINE: making, calling, returning; contracts ===== -/
def je_rm (d kc ks : Nat) : Room := { frames := d, cells := kc, slots := ks, locals := 40 * d }
/-- a method's end: an answer, a heap, what Q says of both; nothing else has changed -/
def je_Q (D : va_G) (cs : Nat → ClassId) (Q : Option Value → je_H → Prop) (A : Nat → Prop) : Array Value → State → Outcome → State → Prop := fun _ st oc t =>
  (∃ (v : Option Value) (h : je_H) (w : je_L), oc = .returned v ∧ Q v h ∧ je_R w h ∧ va_P D vwCl (je_ws cs w) t.heap ∧ va_D A (je_ws cs w)) ∧ va_F A st t
/-- THE CONTRACT: called with av over the heap h, y ends with an answer and a heap of which Q holds; d calls deep at most, kc cells of ks slots at most -/
def Ct (y : MethodName) (cc : ByteArray) (nL : Nat) (ret : Option FieldType) (d kc ks : Nat) (av : List Value) (h : je_H) (Q : Option Value → je_H → Prop) : Prop :=
  ∀ (l : Launch) (D : va_G) (cs : Nat → ClassId) (w : je_L) (sz : Nat), je_R w h →
    Met l y (Cond.code y cc nL ret :: je_T) (je_rm d kc ks) (va_Pc av (fun U => U.heap.size = sz ∧ va_P D vwCl (je_ws cs w) U.heap ∧ je_K D cs U ∧ va_D (fun _ => True) (je_ws cs w))) (je_Q D cs Q (va_A (je_ws cs w) sz)) kc ks (va_A (je_ws cs w) sz)
/-- the context of a method's body -/
def je_Cm (y : MethodName) (cc : ByteArray) (nL : Nat) (ret : Option FieldType) (d kc ks : Nat) (Q : Option Value → je_H → Prop) : je_C := fun p _ _ R s m args below meth c D cs A Qt =>
  p.tables.exec = Jvm.exec ∧ c.code = cc ∧ c.maxLocals = nL ∧ s.vm.findClass y.cls = some m.cls ∧ (∀ w ∈ je_T, w.before args s = true) ∧ je_K D cs s ∧ (∀ q : Nat, s.heap.size ≤ q → A q) ∧ meth.sig.returnType = ret ∧ meth.locks = false ∧ meth.name = y.name ∧ R = je_rm d kc ks ∧ Qt = MQ below (je_Q D cs Q A) args s kc ks A
theorem je_Cm_ok {y : MethodName} {cc : ByteArray} {nL : Nat} {ret : Option FieldType} {d kc ks : Nat} {Q : Option Value → je_H → Prop} : je_Ok (je_Cm y cc nL ret d kc ks Q) y.cls cc nL d := by
  intro p l e R s m args below meth c D cs A Qt hx
  obtain ⟨h1, h2, h3, h4, h5, h6, h7, -, -, -, rfl, -⟩ := hx
  exact ⟨h1, h2, h3, h4, h5, h6, h7, Nat.le_refl _, Nat.le_refl _⟩
def je_ar : List Value → je_V0
  | [] => []
  | v :: vs => if v.category = 2 then some v :: none :: je_ar vs else some v :: je_ar vs
def je_en (av : List Value) (nL : Nat) : je_V0 := je_ar av ++ List.replicate (nL - (je_ar av).length) none
theorem je_ar_in : ∀ (vs : List Value) (j i : Nat) (v : Value), (je_ar vs)[i]? = some (some v) → (j + i, v) ∈ lv_args j vs
  | [], _, _, _, h => by simp [je_ar] at h
  | x :: vs, j, i, v, h => by
    unfold je_ar at h
    unfold lv_args
    by_cases hc : x.category = 2
    · rw [if_pos hc] at h
      rw [if_pos hc]
      match i, h with
      | 0, h => simp at h; subst h; exact List.mem_cons_self
      | 1, h => simp at h
      | i + 2, h =>
        have h2 : (je_ar vs)[i]? = some (some v) := by simpa using h
        have := je_ar_in vs (j + 2) i v h2
        rw [show j + (i + 2) = j + 2 + i by omega]
        exact List.mem_cons_of_mem _ this
    · rw [if_neg hc] at h
      rw [if_neg hc]
      match i, h with
      | 0, h => simp at h; subst h; exact List.mem_cons_self
      | i + 1, h =>
        have h2 : (je_ar vs)[i]? = some (some v) := by simpa using h
        have := je_ar_in vs (j + 1) i v h2
        rw [show j + (i + 1) = j + 1 + i by omega]
        exact List.mem_cons_of_mem _ this
theorem je_en_in {av : List Value} {nL i : Nat} {v : Value} (h : (je_en av nL)[i]? = some (some v)) : (i, v) ∈ lv_args 0 av := by
  have h2 : (je_ar av)[i]? = some (some v) := by
    unfold je_en at h
    by_cases hi : i < (je_ar av).length
    · rw [List.getElem?_append_left hi] at h
      exact h
    · rw [List.getElem?_append_right (by omega), List.getElem?_replicate] at h
      split at h <;> cases h
  have := je_ar_in av 0 i v h2
  rwa [Nat.zero_add] at this
/-- a contract out of the walk of its body -/
theorem Ct_of {y : MethodName} {cc : ByteArray} {nL : Nat} {ret : Option FieldType} {d kc ks : Nat} {av : List Value} {h : je_H} {Q : Option Value → je_H → Prop} (lv : je_V0) (hpl : plainName y.cls = true) (hlv : je_en av nL = lv) (hsz : (lg_sl av).length ≤ nL)
    (body : En (je_Cm y cc nL ret d kc ks Q) nL 0 lv [] h kc ks) : Ct y cc nL ret d kc ks av h Q := by
  intro l D cs w sz hR
  refine Met.ofW (cc := cc) (maxL := nL) (ret := ret) hpl rfl ?_
  intro p e s m args below meth c s₁ B hml hv
  obtain ⟨rfl, hsz2, hP, hK, hD0⟩ := hv
  subst hsz2
  subst hlv
  have hts := atoms_spec (ws := Cond.code y cc nL ret :: je_T) B.pre
  have hl0 := lv_entry av (n := nL) hsz
  rw [lg_entry_eq]
  exact body p l e _ s m _ below meth c D cs (va_A (je_ws cs w) s.heap.size) _ ⟨B.exec, B.bytes, hml, findClass_of_methodNamed B.named, fun w hw => hts w (List.mem_cons_of_mem _ hw), hK, fun q hq => Or.inr hq, B.returns, B.notSynchronized, (name_of_methodNamed B.named B.method).1, rfl, rfl⟩ w s.heap [] 0 0 _ hR hP hD0.self va_S.rf ⟨hl0.1, hl0.2.1, fun i v hi => hl0.2.2 (i, v) (je_en_in hi)⟩ (by show 0 + kc ≤ kc; omega) (by show 0 + ks ≤ ks; omega)
/-- a weaker end -/
theorem Ct.mono {y : MethodName} {cc : ByteArray} {nL : Nat} {ret : Option FieldType} {d kc ks : Nat} {av : List Value} {h : je_H} {Q Q' : Option Value → je_H → Prop} (hc : Ct y cc nL ret d kc ks av h Q) (hq : ∀ v h', Q v h' → Q' v h') : Ct y cc nL ret d kc ks av h Q' := by
  intro l D cs w sz hR
  have hM := hc l D cs w sz hR
  intro p e ha hc hk s m args below hf happ hP hX
  obtain ⟨k, o, h1, h2, h3, ⟨⟨v, h', w', a1, a2, a3⟩, a4⟩, h5⟩ := hM p e ha hc hk s m args below hf happ hP hX
  exact ⟨k, o, h1, h2, h3, ⟨⟨v, h', w', a1, hq _ _ a2, a3⟩, a4⟩, h5⟩
section RT
variable {y : MethodName} {cc : ByteArray} {nL d kc ks pc bc bs : Nat} {Q : Option Value → je_H → Prop} {lv : je_V0} {h : je_H}
theorem En_iret {ty : FieldType} {v : Int32} (hd : decode cc pc = .ok (.ireturn, 1)) (hn : narrow ty (.int v) = .int v) (hq : Q (some (.int v)) h) : En (je_Cm y cc nL (some ty) d kc ks Q) nL pc lv [.int v] h bc bs := by
  intro p l e R s m args below meth c D cs A Qt hx w H locs cells slots ls hR hP hD hS hl hc hs
  obtain ⟨h1, h2, h3, h4, h5, h6, h7, hr, hlocks, -, rfl, rfl⟩ := hx
  have hc : cells + bc ≤ kc := hc
  have hs : slots + bs ≤ ks := hs
  refine W.widen (k := kc) (n := ks) (by omega) (by omega) ?_
  exact W.zret h1 h2 hr hn (fun t ht hW => ⟨⟨_, h, w, rfl, hq, hR, by rw [ht]; exact hP, hD⟩, hS.F ht⟩) hS.2.2 hd hlocks
theorem En_lret {v : Int64} (hd : decode cc pc = .ok (.lreturn, 1)) (hq : Q (some (.long v)) h) : En (je_Cm y cc nL (some .long) d kc ks Q) nL pc lv [.long v] h bc bs := by
  intro p l e R s m args below meth c D cs A Qt hx w H locs cells slots ls hR hP hD hS hl hc hs
  obtain ⟨h1, h2, h3, h4, h5, h6, h7, hr, hlocks, -, rfl, rfl⟩ := hx
  have hc : cells + bc ≤ kc := hc
  have hs : slots + bs ≤ ks := hs
  refine W.widen (k := kc) (n := ks) (by omega) (by omega) ?_
  exact W.lret h1 h2 hr (fun t ht hW => ⟨⟨_, h, w, rfl, hq, hR, by rw [ht]; exact hP, hD⟩, hS.F ht⟩) hS.2.2 hd hlocks
theorem En_aret {C : String} {v : Value} (hd : decode cc pc = .ok (.areturn, 1)) (hv : v = .null ∨ ∃ a, v = .ref a) (hq : Q (some v) h) : En (je_Cm y cc nL (some (.object C)) d kc ks Q) nL pc lv [v] h bc bs := by
  intro p l e R s m args below meth c D cs A Qt hx w H locs cells slots ls hR hP hD hS hl hc hs
  obtain ⟨h1, h2, h3, h4, h5, h6, h7, hr, hlocks, -, rfl, rfl⟩ := hx
  have hc : cells + bc ≤ kc := hc
  have hs : slots + bs ≤ ks := hs
  refine W.widen (k := kc) (n := ks) (by omega) (by omega) ?_
  exact W.aret h1 h2 hr (Or.inl ⟨_, rfl⟩) hv (fun t ht hW => ⟨⟨_, h, w, rfl, hq, hR, by rw [ht]; exact hP, hD⟩, hS.F ht⟩) hS.2.2 hd hlocks
theorem En_vret (hd : decode cc pc = .ok (.return_, 1)) (hq : Q none h) : En (je_Cm y cc nL none d kc ks Q) nL pc lv [] h bc bs := by
  intro p l e R s m args below meth c D cs A Qt hx w H locs cells slots ls hR hP hD hS hl hc hs
  obtain ⟨h1, h2, h3, h4, h5, h6, h7, hr, hlocks, -, rfl, rfl⟩ := hx
  have hc : cells + bc ≤ kc := hc
  have hs : slots + bs ≤ ks := hs
  refine W.widen (k := kc) (n := ks) (by omega) (by omega) ?_
  exact W.vret h1 h2 hr (fun t ht hW => ⟨⟨_, h, w, rfl, hq, hR, by rw [ht]; exact hP, hD⟩, hS.F ht⟩) hS.2.2 hd hlocks
end RT
/-! calls -/
theorem je_good {ws : List Cond} (hw : ∀ w ∈ ws, w ∈ je_T) : GoodIn je_T ws := fun w h => ⟨hw w h, good_of_word (List.mem_filter.mp (hw w h)).2⟩
theorem je_goodc {y : MethodName} {cc : ByteArray} {nL : Nat} {ret : Option FieldType} (h : Cond.code y cc nL ret ∈ je_T) : GoodIn je_T (Cond.code y cc nL ret :: je_T) := je_good (fun w hw => (List.mem_cons.mp hw).elim (fun e => by rw [e]; exact h) id)
section CALL
variable {p : Program} {l : Launch} {e : Env} {R : Room} {s : State} {m : MethodId} {args : Array Value} {below : List Frame} {meth : Method} {c : Code} {H : Heap} {locs : List Loc} {cells slots : Nat} {Q : State → Prop}
theorem je_after {D : va_G} {cs : Nat → ClassId} {A A1 : Nat → Prop} {Q' : Option Value → je_H → Prop} {pc : Nat} {ls : Array Slot} {st0 rest : List Value} {a : Array Value} {mc ms : Nat}
    (hr : va_Run p l e R s m args below meth c H locs cells slots mc ms (F0 m pc ls st0) rest (je_Q D cs Q' A1 a) A1) (hS : va_S A s.heap H locs) (hA : ∀ q, A1 q → A q)
    (kk : ∀ (v : Option Value) (h' : je_H) (w' : je_L) (H1 : Heap) (locs1 : List Loc), Q' v h' → je_R w' h' → va_P D vwCl (je_ws cs w') H1 → va_D A (je_ws cs w') → va_S A s.heap H1 locs1 → W p l e R s m args below meth c H1 locs1 (cells + mc) (slots + ms) Q (F0 m (pc + 3) ls (v.toList ++ rest))) : W p l e R s m args below meth c H locs cells slots Q (F0 m pc ls st0) := by
  intro T hT X
  obtain ⟨v, st₀, t, T', L, h0, X', hL, e1, e2, ⟨⟨v', h', w', hv, hq, hR', hP', hD'⟩, hz, hk⟩, st⟩ := hr T hT X
  cases hv
  rw [h0] at hz hk
  obtain ⟨t2, a1, b1⟩ := kk v h' w' T'.heap (locs ++ L) hq hR' (by rw [e1]; exact hP') (hD'.weaken (fun _ _ _ h => hA _ h))
    ⟨Nat.le_trans hS.1 (by rw [e1]; exact hz), fun q h1 h2 => by rw [e1, hk q (Nat.lt_of_lt_of_le h1 hS.1) (fun z => h2 (hA q z))]; exact hS.2.1 q h1 h2, fun q hq => by
      rcases List.mem_append.mp hq with h | h
      · exact hS.2.2 q h
      · exact hA _ (hL q h)⟩ T' rfl X'
  exact ⟨t2, st t2 a1, b1⟩
theorem je_blind {D : va_G} {cs : Nat → ClassId} {w : je_L} {sz : Nat} {av : List Value} : FrameBlind (va_Pc av (fun U => U.heap.size = sz ∧ va_P D vwCl (je_ws cs w) U.heap ∧ je_K D cs U ∧ va_D (fun _ => True) (je_ws cs w))) := fun a U g mk q => by
  obtain ⟨q0, q1, qP, qK, qD⟩ := q
  exact ⟨q0, q1, qP, je_K.same (s := U) (U := U.calling g mk a) rfl qK, qD⟩
theorem je_pre {D : va_G} {cs : Nat → ClassId} {A : Nat → Prop} {w : je_L} {av : List Value} (hK : je_K D cs s) (hP : va_P D vwCl (je_ws cs w) H) (hD : va_D A (je_ws cs w)) (U : State) (hU : U.heap = H) (hW : s.WarmedH U.vm) : (va_Pc av (fun U => U.heap.size = H.size ∧ va_P D vwCl (je_ws cs w) U.heap ∧ je_K D cs U ∧ va_D (fun _ => True) (je_ws cs w))) av.toArray U :=
  ⟨rfl, by rw [hU], by rw [hU]; exact hP, hK.warm hW, hD.weaken (fun _ _ _ _ => trivial)⟩
theorem je_A1 {cs : Nat → ClassId} {A : Nat → Prop} {w : je_L} (hD : va_D A (je_ws cs w)) (hS : va_S A s.heap H locs) (hA : ∀ q : Nat, s.heap.size ≤ q → A q) : ∀ q, va_A (je_ws cs w) H.size q → A q := fun q hq => hq.elim (fun ⟨k, e, hk⟩ => hD.2 k _ hk) (fun hq => hA q (Nat.le_trans hS.1 hq))
end CALL
section ENC
variable {Cx : je_C} {own : String} {cc bytes : ByteArray} {nL d d' pc bc bs kc ks maxL n idx : Nat} {lv : je_V0} {st rest As : List Value} {h : je_H} {y : MethodName} {ret : Option FieldType} {Q' : Option Value → je_H → Prop}
theorem En_callV {b ci : Nat} {fs : List Value} (hC : je_Ok Cx own cc nL d) (hv : je_V own idx y bytes maxL ret n) (hd : decode cc pc = .ok (.invokevirtual idx, 3)) (hct : Ct y bytes maxL ret d' kc ks (.ref b :: As) h Q') (hb0 : h b = some (.inr (ci, fs))) (hcl : ∃ q, vwCl[ci]? = some q ∧ q.1 = y.cls) (hst : st = As.reverse ++ .ref b :: rest) (hn : As.length = n) (hdd : d' + 1 ≤ d) (hrest : (rest.map fun v => v.category).sum ≤ 8) (hkc : kc ≤ bc) (hks : ks ≤ bs)
    (kk : ∀ v h', Q' v h' → En Cx nL (pc + 3) lv (v.toList ++ rest) h' (bc - kc) (bs - ks)) : En Cx nL pc lv st h bc bs := by
  intro p l e R s m args below meth c D cs A Q hx w H locs cells slots ls hR hP hD hS hl hc hs
  obtain ⟨hx1, hb, hml, ho, ht, hK, hA, hf, hlo⟩ := hC _ _ _ _ _ _ _ _ _ _ _ _ _ _ hx
  obtain ⟨l1, l2, l3, l4, l5, l6, l7⟩ := hv
  obtain ⟨q0, hq0⟩ := hR.2 b _ hb0
  obtain ⟨qc, hqc, hqy⟩ := hcl
  have hrecv := va_recv hK.1 hP hqc (je_get hq0)
  rw [hqy] at hrecv
  subst hst
  have hG : GoodIn je_T (wsV own idx y.cls y (Cond.code y bytes maxL ret :: je_T)) := je_good (fun w hw => by
    simp only [wsV, List.cons_append, List.nil_append, List.mem_cons] at hw
    rcases hw with rfl | rfl | rfl | rfl | rfl | hw
    · exact l1
    · exact l2
    · exact l3
    · exact l4
    · exact l5
    · exact hw)
  refine je_after (D := D) (cs := cs) (Q' := Q') (va_runV (As := As) (rest := rest) ⟨hx1, hb, hml, ho, ht⟩ (hct l D cs w H.size hR) (cwV n ht hG rfl rfl rfl ⟨rfl, l6⟩ ⟨by show d' + 1 ≤ _; omega, by show 8 + (maxL + 11) + 40 * d' ≤ _; omega⟩) ⟨je_blind, hrecv, je_pre hK hP hD⟩ rfl hn hl.1 rfl (lv_room hrest) hd ⟨by omega, by omega⟩) hS (je_A1 hD hS hA) (fun v h' w' H1 locs1 hq hR' hP' hD' hS' => ?_)
  exact kk v h' hq _ _ _ _ _ _ _ _ _ _ _ _ _ _ hx _ _ _ _ _ _ hR' hP' hD' hS' hl (by omega) (by omega)
theorem En_callS (hC : je_Ok Cx own cc nL d) (hv : je_S own idx y bytes maxL ret n) (hd : decode cc pc = .ok (.invokestatic idx, 3)) (hct : Ct y bytes maxL ret d' kc ks As h Q') (hst : st = As.reverse ++ rest) (hn : As.length = n) (hdd : d' + 1 ≤ d) (hrest : (rest.map fun v => v.category).sum ≤ 8) (hkc : kc ≤ bc) (hks : ks ≤ bs)
    (kk : ∀ v h', Q' v h' → En Cx nL (pc + 3) lv (v.toList ++ rest) h' (bc - kc) (bs - ks)) : En Cx nL pc lv st h bc bs := by
  intro p l e R s m args below meth c D cs A Q hx w H locs cells slots ls hR hP hD hS hl hc hs
  obtain ⟨hx1, hb, hml, ho, ht, hK, hA, hf, hlo⟩ := hC _ _ _ _ _ _ _ _ _ _ _ _ _ _ hx
  obtain ⟨l1, l2, l4, l5, l6, l7⟩ := hv
  subst hst
  have hG : GoodIn je_T (va_wsS own idx y (Cond.code y bytes maxL ret :: je_T)) := je_good (fun w hw => by
    simp only [va_wsS, List.cons_append, List.nil_append, List.mem_cons] at hw
    rcases hw with rfl | rfl | rfl | rfl | hw
    · exact l1
    · exact l2
    · exact l4
    · exact l5
    · exact hw)
  refine je_after (D := D) (cs := cs) (Q' := Q') (va_runS (As := As) (rest := rest) ⟨hx1, hb, hml, ho, ht⟩ (hct l D cs w H.size hR) (va_cwS n ht hG rfl rfl rfl l6 ⟨by show d' + 1 ≤ _; omega, by show 8 + (maxL + 11) + 40 * d' ≤ _; omega⟩) ⟨je_blind, je_pre hK hP hD⟩ rfl hn hl.1 rfl (lv_room hrest) hd ⟨by omega, by omega⟩) hS (je_A1 hD hS hA) (fun v h' w' H1 locs1 hq hR' hP' hD' hS' => ?_)
  exact kk v h' hq _ _ _ _ _ _ _ _ _ _ _ _ _ _ hx _ _ _ _ _ _ hR' hP' hD' hS' hl (by omega) (by omega)
theorem En_callSN {host : String} (hC : je_Ok Cx own cc nL d) (hv : je_SN own idx y host bytes maxL ret n) (hd : decode cc pc = .ok (.invokestatic idx, 3)) (hct : Ct y bytes maxL ret d' kc ks As h Q') (hst : st = As.reverse ++ rest) (hn : As.length = n) (hdd : d' + 1 ≤ d) (hrest : (rest.map fun v => v.category).sum ≤ 8) (hkc : kc ≤ bc) (hks : ks ≤ bs)
    (kk : ∀ v h', Q' v h' → En Cx nL (pc + 3) lv (v.toList ++ rest) h' (bc - kc) (bs - ks)) : En Cx nL pc lv st h bc bs := by
  intro p l e R s m args below meth c D cs A Q hx w H locs cells slots ls hR hP hD hS hl hc hs
  obtain ⟨hx1, hb, hml, ho, ht, hK, hA, hf, hlo⟩ := hC _ _ _ _ _ _ _ _ _ _ _ _ _ _ hx
  obtain ⟨l1, l2, l4, l5, l6, l7⟩ := hv
  subst hst
  refine je_after (D := D) (cs := cs) (Q' := Q') (va_runSN (As := As) (rest := rest) ⟨hx1, hb, hml, ho, ht⟩ (hct l D cs w H.size hR) ⟨va_cnB n ht (je_goodc l5) rfl rfl rfl (hK.2.1 _ l1) (ht _ l4) l6 ⟨by show d' + 1 ≤ _; omega, by show 8 + (maxL + 11) + 40 * d' ≤ _; omega⟩, ht _ l2, trivial⟩ ⟨je_blind, je_pre hK hP hD⟩ rfl hn hl.1 rfl (lv_room hrest) hd ⟨by omega, by omega⟩) hS (je_A1 hD hS hA) (fun v h' w' H1 locs1 hq hR' hP' hD' hS' => ?_)
  exact kk v h' hq _ _ _ _ _ _ _ _ _ _ _ _ _ _ hx _ _ _ _ _ _ hR' hP' hD' hS' hl (by omega) (by omega)
theorem En_callI {b : Nat} (hC : je_Ok Cx own cc nL d) (hv : je_I own idx y bytes maxL n) (hd : decode cc pc = .ok (.invokespecial idx, 3)) (hct : Ct y bytes maxL none d' kc ks (.ref b :: As) h Q') (hst : st = As.reverse ++ .ref b :: rest) (hn : As.length = n) (hdd : d' + 1 ≤ d) (hrest : (rest.map fun v => v.category).sum ≤ 8) (hkc : kc ≤ bc) (hks : ks ≤ bs)
    (kk : ∀ v h', Q' v h' → En Cx nL (pc + 3) lv (v.toList ++ rest) h' (bc - kc) (bs - ks)) : En Cx nL pc lv st h bc bs := by
  intro p l e R s m args below meth c D cs A Q hx w H locs cells slots ls hR hP hD hS hl hc hs
  obtain ⟨hx1, hb, hml, ho, ht, hK, hA, hf, hlo⟩ := hC _ _ _ _ _ _ _ _ _ _ _ _ _ _ hx
  obtain ⟨l1, l2, l3, l4, l5, l6, l7⟩ := hv
  subst hst
  refine je_after (D := D) (cs := cs) (Q' := Q') (va_runI (As := As) (rest := rest) ⟨hx1, hb, hml, ho, ht⟩ (hct l D cs w H.size hR) (cwI n ht (je_goodc l5) rfl rfl rfl (ht _ l4) (ht _ l1) (ht _ l2) l3 l6 ⟨by show d' + 1 ≤ _; omega, by show 8 + (maxL + 11) + 40 * d' ≤ _; omega⟩) ⟨je_blind, je_pre hK hP hD⟩ rfl hn hl.1 rfl (lv_room hrest) hd ⟨by omega, by omega⟩) hS (je_A1 hD hS hA) (fun v h' w' H1 locs1 hq hR' hP' hD' hS' => ?_)
  exact kk v h' hq _ _ _ _ _ _ _ _ _ _ _ _ _ _ hx _ _ _ _ _ _ hR' hP' hD' hS' hl (by omega) (by omega)
theorem En_callIN {b : Nat} {host : String} (hC : je_Ok Cx own cc nL d) (hv : je_IN own idx y host bytes maxL n) (hd : decode cc pc = .ok (.invokespecial idx, 3)) (hct : Ct y bytes maxL none d' kc ks (.ref b :: As) h Q') (hst : st = As.reverse ++ .ref b :: rest) (hn : As.length = n) (hdd : d' + 1 ≤ d) (hrest : (rest.map fun v => v.category).sum ≤ 8) (hkc : kc ≤ bc) (hks : ks ≤ bs)
    (kk : ∀ v h', Q' v h' → En Cx nL (pc + 3) lv (v.toList ++ rest) h' (bc - kc) (bs - ks)) : En Cx nL pc lv st h bc bs := by
  intro p l e R s m args below meth c D cs A Q hx w H locs cells slots ls hR hP hD hS hl hc hs
  obtain ⟨hx1, hb, hml, ho, ht, hK, hA, hf, hlo⟩ := hC _ _ _ _ _ _ _ _ _ _ _ _ _ _ hx
  obtain ⟨l1, l2, l3, l4, l5, l6, l7⟩ := hv
  subst hst
  refine je_after (D := D) (cs := cs) (Q' := Q') (va_runIN (As := As) (rest := rest) ⟨hx1, hb, hml, ho, ht⟩ (hct l D cs w H.size hR) ⟨va_cnB n ht (je_goodc l5) rfl rfl rfl (hK.2.1 _ l1) (ht _ l4) l6 ⟨by show d' + 1 ≤ _; omega, by show 8 + (maxL + 11) + 40 * d' ≤ _; omega⟩, l3, ht _ l2⟩ ⟨je_blind, je_pre hK hP hD⟩ rfl hn hl.1 rfl (lv_room hrest) hd ⟨by omega, by omega⟩) hS (je_A1 hD hS hA) (fun v h' w' H1 locs1 hq hR' hP' hD' hS' => ?_)
  exact kk v h' hq _ _ _ _ _ _ _ _ _ _ _ _ _ _ hx _ _ _ _ _ _ hR' hP' hD' hS' hl (by omega) (by omega)
theorem En_objInit {a : Nat} (hC : je_Ok Cx own cc nL d) (hli : Cond.methodLink own idx objectInit ∈ je_T) (hd : decode cc pc = .ok (.invokespecial idx, 3)) (h1d : 1 ≤ d) (hrest : (rest.map fun v => v.category).sum ≤ 8) (kk : En Cx nL (pc + 3) lv rest h bc bs) : En Cx nL pc lv (.ref a :: rest) h bc bs := by
  intro p l e R s m args below meth c D cs A Q hx w H locs cells slots ls hR hP hD hS hl hc hs
  obtain ⟨hx1, hb, hml, ho, ht, hK, hA, hf, hlo⟩ := hC _ _ _ _ _ _ _ _ _ _ _ _ _ _ hx
  refine W.objInit hx1 hb ho (ht _ hli) (ht _ oi_im) (ht _ oi_cd) rfl (by rw [hml]; exact hl.1) rfl hd (by omega) ?_ ?_
  · have := lv_room (m := m) (pc := pc) (ls := ls) (rest := .ref a :: rest) hrest
    omega
  · exact kk _ _ _ _ _ _ _ _ _ _ _ _ _ _ hx _ _ _ _ _ _ hR hP hD hS hl hc hs
/-! making -/
theorem En_new {C : String} {T : u_T} {N ci : Nat} {fs : List Value} (hC : je_Ok Cx own cc nL d) (ty0 : Nat → FieldType) (hty : ∀ k, k < N → parseFieldDescriptor (T k).2.2.1 = some (ty0 k)) (hin : ∀ w ∈ u_ws C T N, w ∈ je_T) (hcl : vwCl[ci]? = some (C, T, N)) (hcd : Cond.classLink own idx C ∈ je_T) (hins : Cond.instantiable C N ∈ je_T) (hini : Cond.initialized C ∈ je_T) (hd : decode cc pc = .ok (.new idx, 3)) (hfs : ∀ j, j < N → defaultValue (ty0 j) = vp_V fs j) (h1 : 1 ≤ bc) (h2 : N ≤ bs)
    (kk : ∀ q : Nat, h q = none → En Cx nL (pc + 3) lv (.ref q :: st) (je_up h q (.inr (ci, fs))) (bc - 1) (bs - N)) : En Cx nL pc lv st h bc bs := by
  intro p l e R s m args below meth c D cs A Q hx w H locs cells slots ls hR hP hD hS hl hc hs
  obtain ⟨hx1, hb, hml, ho, ht, hK, hA, hf, hlo⟩ := hC _ _ _ _ _ _ _ _ _ _ _ _ _ _ hx
  refine va_new hx1 hb ht hin ty0 hty ho (ht _ hcd) (ht _ hins) (ht _ hini) hK.1 hP hD hS hA hcl hfs (by omega) (by omega) hd (fun q H1 hP1 hD1 hS1 => ?_)
  have e0 := je_push (cs := cs) (w := w) (q, .inr (ci, fs))
  have hP1 : va_P D vwCl (je_ws cs (w ++ [(q, .inr (ci, fs))])) H1 := by rw [← e0]; exact hP1
  have hD1 : va_D A (je_ws cs (w ++ [(q, .inr (ci, fs))])) := by rw [← e0]; exact hD1
  obtain ⟨hn, hR1⟩ := je_R_push hR hD1
  exact kk q hn _ _ _ _ _ _ _ _ _ _ _ _ _ _ hx _ _ _ _ _ _ hR1 hP1 hD1 hS1 hl (by omega) (by omega)
theorem je_cI {D : va_G} {cs : Nat → ClassId} {U : State} {cA : ClassId} (h : va_K D vwCl (je_tys cs ++ [(cA, .int)]) U) : cA = cs 0 := by
  have h1 : va_RA U (cs 0) .int := (h.2 0 (cs 0, .int) rfl).2
  have h2 : va_RA U cA .int := (h.2 3 (cA, .int) rfl).2
  exact Option.some.inj (Eq.trans (Eq.symm h2) h1)
theorem je_cQ {D : va_G} {cs : Nat → ClassId} {U : State} {cA : ClassId} {t : Nat} (ht : t = 1 ∨ t = 2) (h : va_K D vwCl (je_tys cs ++ [(cA, .object (je_cn t))]) U) : cA = cs t := by
  have h1 : va_RA U (cs t) (.object (je_cn t)) := by
    rcases ht with rfl | rfl
    · exact (h.2 1 (cs 1, .object RX2) rfl).2
    · exact (h.2 2 (cs 2, .object RX3) rfl).2
  have h2 : va_RA U cA (.object (je_cn t)) := (h.2 3 (cA, .object (je_cn t)) rfl).2
  obtain ⟨_, _, _, _, _, g1⟩ := h1
  obtain ⟨_, _, _, _, _, g2⟩ := h2
  exact Option.some.inj (Eq.trans (Eq.symm g2) g1)
theorem En_newa {x : Int32} {N : Nat} (hC : je_Ok Cx own cc nL d) (hd : decode cc pc = .ok (.newarray .int, 2)) (hx0 : ¬ x < 0) (hN : x.toNatClampNeg = N) (hb4 : N ≤ 100000) (h1 : 1 ≤ bc) (h2 : N ≤ bs)
    (kk : ∀ q : Nat, h q = none → En Cx nL (pc + 2) lv (.ref q :: st) (je_up h q (.inl (0, N, .inl (fun _ => 0)))) (bc - 1) (bs - N)) : En Cx nL pc lv (.int x :: st) h bc bs := by
  intro p l e R s m args below meth c D cs A Q hx w H locs cells slots ls hR hP hD hS hl hc hs
  obtain ⟨hx1, hb, hml, ho, ht, hK, hA, hf, hlo⟩ := hC _ _ _ _ _ _ _ _ _ _ _ _ _ _ hx
  refine va_newa (atype := .int) hx1 hb (ty := .int) (N' := N) (a0 := (N, .inl (fun _ => 0))) (ht _ ac_int) rfl hK.1 hP hD hS hA (fun _ => rfl) hx0 hN (by show N * 4 ≤ _; omega) (by omega) (by omega) hd (fun q cA H1 hK1 hP1 hD1 hS1 => ?_)
  have hcA := je_cI hK1
  subst hcA
  have e0 := je_push (cs := cs) (w := w) (q, .inl (0, N, .inl (fun _ => 0)))
  have hP1 : va_P D vwCl (je_ws cs (w ++ [(q, .inl (0, N, .inl (fun _ => 0)))])) H1 := by rw [← e0]; exact hP1
  have hD1 : va_D A (je_ws cs (w ++ [(q, .inl (0, N, .inl (fun _ => 0)))])) := by rw [← e0]; exact hD1
  obtain ⟨hn, hR1⟩ := je_R_push hR hD1
  exact kk q hn _ _ _ _ _ _ _ _ _ _ _ _ _ _ hx _ _ _ _ _ _ hR1 hP1 hD1 hS1 hl (by omega) (by omega)
theorem En_newq {x : Int32} {N t : Nat} (hC : je_Ok Cx own cc nL d) (ht3 : t = 1 ∨ t = 2) (hcd : Cond.classLink own idx (je_cn t) ∈ je_T) (hd : decode cc pc = .ok (.anewarray idx, 3)) (hx0 : ¬ x < 0) (hN : x.toNatClampNeg = N) (hb4 : N ≤ 100000) (h1 : 1 ≤ bc) (h2 : N ≤ bs)
    (kk : ∀ q : Nat, h q = none → En Cx nL (pc + 3) lv (.ref q :: st) (je_up h q (.inl (t, N, .inr (.inr (.inr (.inr (fun _ => none))))))) (bc - 1) (bs - N)) : En Cx nL pc lv (.int x :: st) h bc bs := by
  intro p l e R s m args below meth c D cs A Q hx w H locs cells slots ls hR hP hD hS hl hc hs
  obtain ⟨hx1, hb, hml, ho, ht, hK, hA, hf, hlo⟩ := hC _ _ _ _ _ _ _ _ _ _ _ _ _ _ hx
  have hAO : va_AO (je_cn t) s := by
    rcases ht3 with rfl | rfl
    · exact hK.2.2.1
    · exact hK.2.2.2
  refine va_newq hx1 hb ho (ht _ hcd) hAO hK.1 hP hD hS hA hx0 hN (by omega) (by omega) (by omega) hd (fun q cA H1 hK1 hP1 hD1 hS1 => ?_)
  have hcA := je_cQ ht3 hK1
  subst hcA
  have e0 := je_push (cs := cs) (w := w) (q, .inl (t, N, .inr (.inr (.inr (.inr (fun _ => none))))))
  have hP1 : va_P D vwCl (je_ws cs (w ++ [(q, .inl (t, N, .inr (.inr (.inr (.inr (fun _ => none))))))])) H1 := by rw [← e0]; exact hP1
  have hD1 : va_D A (je_ws cs (w ++ [(q, .inl (t, N, .inr (.inr (.inr (.inr (fun _ => none))))))])) := by rw [← e0]; exact hD1
  obtain ⟨hn, hR1⟩ := je_R_push hR hD1
  exact kk q hn _ _ _ _ _ _ _ _ _ _ _ _ _ _ hx _ _ _ _ _ _ hR1 hP1 hD1 hS1 hl (by omega) (by omega)
theorem En_putF {y0 : MethodName} {kc0 ks0 : Nat} {Q0 : Option Value → je_H → Prop} {ret0 : Option FieldType} {T : u_T} {N ci a : Nat} {fs : List Value} {v : Value} {ty : FieldType} (k : Nat) (hini : y0.name = "<init>") (ty0 : Nat → FieldType) (hty : ∀ k, k < N → parseFieldDescriptor (T k).2.2.1 = some (ty0 k)) (hnm : ∀ a, a < N → ∀ b, b < N → a ≠ b → (T a).2.1 ≠ (T b).2.1) (hin : ∀ w ∈ u_ws y0.cls T N, w ∈ je_T) (hcl : vwCl[ci]? = some (y0.cls, T, N)) (hlk : Cond.fieldLink y0.cls idx (T k).1 (T k).2.1 (T k).2.2.1 ∈ je_T) (hkN : k < N) (hfin : (T k).2.2.2 = true) (hdecl : (T k).1 = y0.cls) (hd : decode cc pc = .ok (.putfield idx, 3)) (ha : h a = some (.inr (ci, fs))) (hde : parseFieldDescriptor (T k).2.2.1 = some ty) (hn : narrow ty v = v) (hfit : fits ty v = true) (hle : k < fs.length)
    (kk : En (je_Cm y0 cc nL ret0 d kc0 ks0 Q0) nL (pc + 3) lv st (je_up h a (.inr (ci, fs.set k v))) bc bs) : En (je_Cm y0 cc nL ret0 d kc0 ks0 Q0) nL pc lv (v :: .ref a :: st) h bc bs := by
  intro p l e R s m args below meth c D cs A Q hx w H locs cells slots ls hR hP hD hS hl hc hs
  obtain ⟨hx1, hb, hml, ho, ht, hK, hA, hf, hlo⟩ := je_Cm_ok _ _ _ _ _ _ _ _ _ _ _ _ _ _ hx
  have hmn : meth.name = "<init>" := by rw [hx.2.2.2.2.2.2.2.2.2.1]; exact hini
  obtain ⟨q0, hq0⟩ := hR.2 a _ ha
  refine va_putF hx1 hb ht hin ty0 hty hnm ho hK.1 hP hD hS q0 (je_get hq0) hcl k hkN (ht _ hlk) (fun _ z => z) hfin hmn hdecl hde hn hfit hle hd (fun H1 locs1 hP1 hD1 hS1 => ?_)
  have e0 := je_set (cs := cs) (w := w) (k := q0) (a, .inr (ci, fs.set k v))
  have hP1 : va_P D vwCl (je_ws cs (w.set q0 (a, .inr (ci, fs.set k v)))) H1 := by rw [← e0]; exact hP1
  have hD1 : va_D A (je_ws cs (w.set q0 (a, .inr (ci, fs.set k v)))) := by rw [← e0]; exact hD1
  exact kk _ _ _ _ _ _ _ _ _ _ _ _ _ _ hx _ _ _ _ _ _ (je_R_set _ hR hq0 hD) hP1 hD1 hS1 hl hc hs
end ENC
end
section
/-! ===== THE STATE OF BOTH SYSTEMS: cells by kind and number; B the ints, L the longs ===== -/
abbrev sA : Type := Nat → Nat → Nat
abbrev sB : Type := Nat → Nat → Nat → Int32
abbrev sL : Type := Nat → Nat → Nat → Int64
def rT (ad : sA) (x : Int32) : Option Nat := if x < 0 then none else some (ad 21 x.toNatClampNeg)
def ai (n : Nat) (f : Nat → Int32) : je_E := .inl (0, n, .inl f)
def ar (t n : Nat) (f : Nat → Option Nat) : je_E := .inl (t, n, .inr (.inr (.inr (.inr f))))
def sC (ad : sA) (nw nt : Nat) (B : sB) (L : sL) (kd j : Nat) : je_E := match kd with
  | 0 => .inr (5, [.ref (ad 1 0), .ref (ad 2 0), .ref (ad 3 0), .ref (ad 4 0), .ref (ad 5 0), .ref (ad 6 0), .ref (ad 10 0), .ref (ad 17 0), .int (B 0 0 8), .int (B 0 0 9), .int (B 0 0 10), .int (B 0 0 11)])
  | 1 => ar 2 5 (fun i => if i < nw then some (ad 18 i) else none)
  | 2 => ar 1 40 (fun i => if i < nt then some (ad 21 i) else none)
  | 3 => ai 5 (B 3 0)
  | 4 => ai 4 (B 4 0)
  | 5 => ai 7 (B 5 0)
  | 6 => .inr (0, [.ref (ad 7 0), .ref (ad 8 0), .ref (ad 9 0), .int (B 6 0 3)])
  | 7 => ai 600 (B 7 0)
  | 8 => ai 600 (B 8 0)
  | 9 => ai 600 (B 9 0)
  | 10 => .inr (1, [.ref (ad 11 0), .ref (ad 12 0), .ref (ad 13 0), .ref (ad 14 0), .ref (ad 15 0), .ref (ad 16 0), .int (B 10 0 6), .int (B 10 0 7), .int (B 10 0 8)])
  | 11 => ar 1 7 (fun i => rT ad (B 11 0 i))
  | 12 => ai 49 (B 12 0)
  | 13 => ai 7 (B 13 0)
  | 14 => ai 7 (B 14 0)
  | 15 => ai 7 (B 15 0)
  | 16 => ai 1024 (B 16 0)
  | 17 => .inr (4, [.long (L 17 0 0), .long (L 17 0 1)])
  | 18 => .inr (3, [.int (B 18 j 0), .ref (ad 19 j), .ref (ad 20 j), .int (B 18 j 3)])
  | 19 => ai 7 (B 19 j)
  | 20 => ar 1 7 (fun i => rT ad (B 20 j i))
  | 21 => .inr (2, [.int (B 21 j 0), .int (B 21 j 1), .int (B 21 j 2), .ref (ad 22 j), .ref (ad 23 j), .ref (ad 24 j), .int (B 21 j 6), .int (B 21 j 7), .int (B 21 j 8), .int (B 21 j 9), .int (B 21 j 10), .int (B 21 j 11)])
  | 22 => ai 12 (B 22 j)
  | 23 => ai 12 (B 23 j)
  | 24 => .inr (4, [.long (L 24 j 0), .long (L 24 j 1)])
  | 25 => .inr (6, [.ref (ad 30 0), .ref (ad 31 0), .ref (ad 32 0), .int (B 25 0 3), .int (B 25 0 4), .int (B 25 0 5), .int (B 25 0 6), .int (B 25 0 7), .ref (ad 38 0), .ref (ad 39 0), .ref (ad 40 0), .ref (ad 41 0), .ref (ad 42 0), .ref (ad 43 0), .ref (ad 44 0), .ref (ad 45 0), .ref (ad 46 0), .ref (ad 47 0), .ref (ad 48 0), .ref (ad 49 0), .ref (ad 50 0), .ref (ad 51 0), .ref (ad 52 0), .ref (ad 53 0), .ref (ad 54 0), .long (L 25 0 25), .long (L 25 0 26), .ref (ad 57 0), .ref (ad 58 0), .ref (ad 59 0), .ref (ad 60 0), .int (B 25 0 31), .int (B 25 0 32), .int (B 25 0 33)])
  | 30 => ai 7 (B 30 0)
  | 31 => ai 5 (B 31 0)
  | 32 => ai 4 (B 32 0)
  | 38 => ai 5 (B 38 0)
  | 39 => ai 35 (B 39 0)
  | 40 => ai 35 (B 40 0)
  | 41 => ai 35 (B 41 0)
  | 42 => ai 40 (B 42 0)
  | 43 => ai 40 (B 43 0)
  | 44 => ai 40 (B 44 0)
  | 45 => ai 40 (B 45 0)
  | 46 => ai 40 (B 46 0)
  | 47 => ai 40 (B 47 0)
  | 48 => ai 40 (B 48 0)
  | 49 => ai 40 (B 49 0)
  | 50 => ai 520 (B 50 0)
  | 51 => ai 520 (B 51 0)
  | 52 => ai 600 (B 52 0)
  | 53 => ai 600 (B 53 0)
  | 54 => ai 600 (B 54 0)
  | 57 => ai 7 (B 57 0)
  | 58 => ai 7 (B 58 0)
  | 59 => ai 7 (B 59 0)
  | 60 => ai 35 (B 60 0)
  | _ => ai 0 (fun _ => 0)
def sOk (nw nt kd j : Nat) : Bool := match kd with
  | 0 => Nat.beq j 0
  | 1 => Nat.beq j 0
  | 2 => Nat.beq j 0
  | 3 => Nat.beq j 0
  | 4 => Nat.beq j 0
  | 5 => Nat.beq j 0
  | 6 => Nat.beq j 0
  | 7 => Nat.beq j 0
  | 8 => Nat.beq j 0
  | 9 => Nat.beq j 0
  | 10 => Nat.beq j 0
  | 11 => Nat.beq j 0
  | 12 => Nat.beq j 0
  | 13 => Nat.beq j 0
  | 14 => Nat.beq j 0
  | 15 => Nat.beq j 0
  | 16 => Nat.beq j 0
  | 17 => Nat.beq j 0
  | 18 => Nat.blt j nw
  | 19 => Nat.blt j nw
  | 20 => Nat.blt j nw
  | 21 => Nat.blt j nt
  | 22 => Nat.blt j nt
  | 23 => Nat.blt j nt
  | 24 => Nat.blt j nt
  | 25 => Nat.beq j 0
  | 30 => Nat.beq j 0
  | 31 => Nat.beq j 0
  | 32 => Nat.beq j 0
  | 38 => Nat.beq j 0
  | 39 => Nat.beq j 0
  | 40 => Nat.beq j 0
  | 41 => Nat.beq j 0
  | 42 => Nat.beq j 0
  | 43 => Nat.beq j 0
  | 44 => Nat.beq j 0
  | 45 => Nat.beq j 0
  | 46 => Nat.beq j 0
  | 47 => Nat.beq j 0
  | 48 => Nat.beq j 0
  | 49 => Nat.beq j 0
  | 50 => Nat.beq j 0
  | 51 => Nat.beq j 0
  | 52 => Nat.beq j 0
  | 53 => Nat.beq j 0
  | 54 => Nat.beq j 0
  | 57 => Nat.beq j 0
  | 58 => Nat.beq j 0
  | 59 => Nat.beq j 0
  | 60 => Nat.beq j 0
  | _ => false
def sH (ad : sA) (nw nt : Nat) (B : sB) (L : sL) (h : je_H) : Prop := (∀ kd j, sOk nw nt kd j = true → h (ad kd j) = some (sC ad nw nt B L kd j)) ∧ ∀ kd j kd' j', sOk nw nt kd j = true → sOk nw nt kd' j' = true → ad kd j = ad kd' j' → kd = kd' ∧ j = j'
def uB (B : sB) (k j i : Nat) (x : Int32) : sB := fun k' j' i' => if k' = k ∧ j' = j ∧ i' = i then x else B k' j' i'
def uL (L : sL) (k j i : Nat) (x : Int64) : sL := fun k' j' i' => if k' = k ∧ j' = j ∧ i' = i then x else L k' j' i'
theorem uB_s (B : sB) (k j i : Nat) (x : Int32) : uB B k j i x k j i = x := by simp [uB]
theorem uB_n {B : sB} {k j i k' j' i' : Nat} {x : Int32} (hn : ¬ (k' = k ∧ j' = j ∧ i' = i)) : uB B k j i x k' j' i' = B k' j' i' := by simp only [uB, if_neg hn]
theorem uB_r {B : sB} {k j k' j' : Nat} {i : Nat} {x : Int32} (hn : ¬ (k' = k ∧ j' = j)) : uB B k j i x k' j' = B k' j' := by
  funext i'
  exact uB_n (fun q => hn ⟨q.1, q.2.1⟩)
theorem uB_a (B : sB) (k j i : Nat) (x : Int32) : uB B k j i x k j = upd (B k j) i x := by
  funext i'
  simp [uB, upd]
theorem uL_s (L : sL) (k j i : Nat) (x : Int64) : uL L k j i x k j i = x := by simp [uL]
theorem uL_r {L : sL} {k j k' j' : Nat} {i : Nat} {x : Int64} (hn : ¬ (k' = k ∧ j' = j)) : uL L k j i x k' j' = L k' j' := by
  funext i'
  simp only [uL]
  rw [if_neg (fun q => hn ⟨q.1, q.2.1⟩)]
theorem sC_congr {ad : sA} {nw nt : Nat} {B B' : sB} {L L' : sL} {kd j : Nat} (hB : B kd j = B' kd j) (hL : L kd j = L' kd j) (hj : sOk nw nt kd j = true) : sC ad nw nt B L kd j = sC ad nw nt B' L' kd j := by
  unfold sC
  unfold sOk at hj
  split <;> first | rfl | (simp only [hB]; done) | (simp only [hL]; done) | (have hj0 : j = 0 := Nat.eq_of_beq_eq_true (by simpa using hj); subst hj0; simp only [hB, hL])
theorem sH_upd {ad : sA} {nw nt : Nat} {B B' : sB} {L L' : sL} {h : je_H} {kd j : Nat} {e : je_E} (hs : sH ad nw nt B L h) (hk : sOk nw nt kd j = true) (he : e = sC ad nw nt B' L' kd j) (hB : ∀ kd' j', ¬ (kd' = kd ∧ j' = j) → B' kd' j' = B kd' j') (hL : ∀ kd' j', ¬ (kd' = kd ∧ j' = j) → L' kd' j' = L kd' j') : sH ad nw nt B' L' (je_up h (ad kd j) e) := by
  refine ⟨fun kd' j' hk' => ?_, hs.2⟩
  by_cases hq : kd' = kd ∧ j' = j
  · obtain ⟨rfl, rfl⟩ := hq
    rw [je_up_s, he]
  · have hne : ad kd' j' ≠ ad kd j := fun z => hq (hs.2 _ _ _ _ hk' hk z)
    rw [je_up_n hne, hs.1 kd' j' hk', sC_congr (hB kd' j' hq) (hL kd' j' hq) hk']
def Es (Cx : je_C) (nL pc : Nat) (lv : je_V0) (st : List Value) (ad : sA) (nw nt : Nat) (B : sB) (L : sL) (bc bs : Nat) : Prop := ∀ h, sH ad nw nt B L h → En Cx nL pc lv st h bc bs
def sQ (ad : sA) (nw nt : Nat) (Q : Option Value → sB → sL → Prop) : Option Value → je_H → Prop := fun v h => ∃ B L, sH ad nw nt B L h ∧ Q v B L
/-- a contract over the state -/
def Cs (y : MethodName) (cc : ByteArray) (nL : Nat) (ret : Option FieldType) (d : Nat) (av : List Value) (ad : sA) (nw nt : Nat) (B : sB) (L : sL) (Q : Option Value → sB → sL → Prop) : Prop := ∀ h, sH ad nw nt B L h → Ct y cc nL ret d 0 0 av h (sQ ad nw nt Q)
/-- the same, where answer and state are known -/
abbrev Cf (y : MethodName) (cc : ByteArray) (nL : Nat) (ret : Option FieldType) (d : Nat) (av : List Value) (ad : sA) (nw nt : Nat) (B : sB) (L : sL) (v0 : Option Value) (B' : sB) (L' : sL) : Prop := Cs y cc nL ret d av ad nw nt B L (fun v B1 L1 => v = v0 ∧ B1 = B' ∧ L1 = L')
abbrev sCm (y : MethodName) (cc : ByteArray) (nL : Nat) (ret : Option FieldType) (d : Nat) (ad : sA) (nw nt : Nat) (Q : Option Value → sB → sL → Prop) : je_C := je_Cm y cc nL ret d 0 0 (sQ ad nw nt Q)
theorem Cs_of {y : MethodName} {cc : ByteArray} {nL : Nat} {ret : Option FieldType} {d : Nat} {av : List Value} {ad : sA} {nw nt : Nat} {B : sB} {L : sL} {Q : Option Value → sB → sL → Prop} (lv : je_V0) (hpl : plainName y.cls = true) (hlv : je_en av nL = lv) (hsz : (lg_sl av).length ≤ nL)
    (body : Es (sCm y cc nL ret d ad nw nt Q) nL 0 lv [] ad nw nt B L 0 0) : Cs y cc nL ret d av ad nw nt B L Q := fun h hs => Ct_of lv hpl hlv hsz (body h hs)
theorem Cs.mono {y : MethodName} {cc : ByteArray} {nL : Nat} {ret : Option FieldType} {d : Nat} {av : List Value} {ad : sA} {nw nt : Nat} {B : sB} {L : sL} {Q Q' : Option Value → sB → sL → Prop} (hc : Cs y cc nL ret d av ad nw nt B L Q) (hq : ∀ v B' L', Q v B' L' → Q' v B' L') : Cs y cc nL ret d av ad nw nt B L Q' := fun h hs => (hc h hs).mono (fun v h' ⟨B', L', h1, h2⟩ => ⟨B', L', h1, hq _ _ _ h2⟩)
section ES
variable {Cx : je_C} {own : String} {cc : ByteArray} {nL d pc bc bs : Nat} {lv : je_V0} {st rest : List Value} {ad : sA} {nw nt : Nat} {B : sB} {L : sL}
theorem Es.kill {lv' : je_V0} (i : Nat) (hlv : lv.set i none = lv') (k : Es Cx nL pc lv' st ad nw nt B L bc bs) : Es Cx nL pc lv st ad nw nt B L bc bs := fun h hs => En.kill i hlv (k h hs)
theorem Es.less {bc' bs' : Nat} (h1 : bc' ≤ bc) (h2 : bs' ≤ bs) (k : Es Cx nL pc lv st ad nw nt B L bc' bs') : Es Cx nL pc lv st ad nw nt B L bc bs := fun h hs => En.less h1 h2 (k h hs)
theorem Es.eqB {B' : sB} (hB : B = B') (k : Es Cx nL pc lv st ad nw nt B' L bc bs) : Es Cx nL pc lv st ad nw nt B L bc bs := by subst hB; exact k
theorem Es.eqL {L' : sL} (hL : L = L') (k : Es Cx nL pc lv st ad nw nt B L' bc bs) : Es Cx nL pc lv st ad nw nt B L bc bs := by subst hL; exact k
theorem Es.eqS {st' : List Value} (hst : st = st') (k : Es Cx nL pc lv st' ad nw nt B L bc bs) : Es Cx nL pc lv st ad nw nt B L bc bs := by subst hst; exact k
theorem Es.eqV {lv' : je_V0} (hst : lv = lv') (k : Es Cx nL pc lv' st ad nw nt B L bc bs) : Es Cx nL pc lv st ad nw nt B L bc bs := by subst hst; exact k
theorem Es_iconst (hC : je_Ok Cx own cc nL d) {n : Int} {v : Int32} (hd : decode cc pc = .ok (.iconst n, 1)) (hv : Int32.ofInt n = v) (k : Es Cx nL (pc + 1) lv (.int v :: st) ad nw nt B L bc bs) : Es Cx nL pc lv (st) ad nw nt B L bc bs := fun h hs => En_iconst hC hd hv (k h hs)
theorem Es_bipush (hC : je_Ok Cx own cc nL d) {n : Int} {v : Int32} (hd : decode cc pc = .ok (.bipush n, 2)) (hv : (Int8.ofInt n).toInt32 = v) (k : Es Cx nL (pc + 2) lv (.int v :: st) ad nw nt B L bc bs) : Es Cx nL pc lv (st) ad nw nt B L bc bs := fun h hs => En_bipush hC hd hv (k h hs)
theorem Es_sipush (hC : je_Ok Cx own cc nL d) {n : Int} {v : Int32} (hd : decode cc pc = .ok (.sipush n, 3)) (hv : (Int16.ofInt n).toInt32 = v) (k : Es Cx nL (pc + 3) lv (.int v :: st) ad nw nt B L bc bs) : Es Cx nL pc lv (st) ad nw nt B L bc bs := fun h hs => En_sipush hC hd hv (k h hs)
theorem Es_lconst (hC : je_Ok Cx own cc nL d) {n : Fin 2} {v : Int64} (hd : decode cc pc = .ok (.lconst n, 1)) (hv : Int64.ofNat (n : Nat) = v) (k : Es Cx nL (pc + 1) lv (.long v :: st) ad nw nt B L bc bs) : Es Cx nL pc lv (st) ad nw nt B L bc bs := fun h hs => En_lconst hC hd hv (k h hs)
theorem Es_null (hC : je_Ok Cx own cc nL d) (hd : decode cc pc = .ok (.aconst_null, 1)) (k : Es Cx nL (pc + 1) lv (.null :: st) ad nw nt B L bc bs) : Es Cx nL pc lv (st) ad nw nt B L bc bs := fun h hs => En_null hC hd (k h hs)
theorem Es_iload_n (hC : je_Ok Cx own cc nL d) {n : Fin 4} {x : Int32} (hd : decode cc pc = .ok (.iload_n n, 1)) (hv : lv[(n : Nat)]? = some (some (.int x))) (k : Es Cx nL (pc + 1) lv (.int x :: st) ad nw nt B L bc bs) : Es Cx nL pc lv (st) ad nw nt B L bc bs := fun h hs => En_iload_n hC hd hv (k h hs)
theorem Es_iload (hC : je_Ok Cx own cc nL d) {i : Nat} {x : Int32} (hd : decode cc pc = .ok (.iload i, 2)) (hv : lv[i]? = some (some (.int x))) (k : Es Cx nL (pc + 2) lv (.int x :: st) ad nw nt B L bc bs) : Es Cx nL pc lv (st) ad nw nt B L bc bs := fun h hs => En_iload hC hd hv (k h hs)
theorem Es_lload_n (hC : je_Ok Cx own cc nL d) {n : Fin 4} {x : Int64} (hd : decode cc pc = .ok (.lload_n n, 1)) (hv : lv[(n : Nat)]? = some (some (.long x))) (k : Es Cx nL (pc + 1) lv (.long x :: st) ad nw nt B L bc bs) : Es Cx nL pc lv (st) ad nw nt B L bc bs := fun h hs => En_lload_n hC hd hv (k h hs)
theorem Es_lload (hC : je_Ok Cx own cc nL d) {i : Nat} {x : Int64} (hd : decode cc pc = .ok (.lload i, 2)) (hv : lv[i]? = some (some (.long x))) (k : Es Cx nL (pc + 2) lv (.long x :: st) ad nw nt B L bc bs) : Es Cx nL pc lv (st) ad nw nt B L bc bs := fun h hs => En_lload hC hd hv (k h hs)
theorem Es_aload_n (hC : je_Ok Cx own cc nL d) {n : Fin 4} {x : Nat} (hd : decode cc pc = .ok (.aload_n n, 1)) (hv : lv[(n : Nat)]? = some (some (.ref x))) (k : Es Cx nL (pc + 1) lv (.ref x :: st) ad nw nt B L bc bs) : Es Cx nL pc lv (st) ad nw nt B L bc bs := fun h hs => En_aload_n hC hd hv (k h hs)
theorem Es_aload (hC : je_Ok Cx own cc nL d) {i : Nat} {x : Nat} (hd : decode cc pc = .ok (.aload i, 2)) (hv : lv[i]? = some (some (.ref x))) (k : Es Cx nL (pc + 2) lv (.ref x :: st) ad nw nt B L bc bs) : Es Cx nL pc lv (st) ad nw nt B L bc bs := fun h hs => En_aload hC hd hv (k h hs)
theorem Es_aload_nN (hC : je_Ok Cx own cc nL d) {n : Fin 4} (hd : decode cc pc = .ok (.aload_n n, 1)) (hv : lv[(n : Nat)]? = some (some .null)) (k : Es Cx nL (pc + 1) lv (.null :: st) ad nw nt B L bc bs) : Es Cx nL pc lv (st) ad nw nt B L bc bs := fun h hs => En_aload_nN hC hd hv (k h hs)
theorem Es_aloadN (hC : je_Ok Cx own cc nL d) {i : Nat} (hd : decode cc pc = .ok (.aload i, 2)) (hv : lv[i]? = some (some .null)) (k : Es Cx nL (pc + 2) lv (.null :: st) ad nw nt B L bc bs) : Es Cx nL pc lv (st) ad nw nt B L bc bs := fun h hs => En_aloadN hC hd hv (k h hs)
theorem Es_iadd (hC : je_Ok Cx own cc nL d) {x y : Int32} (hd : decode cc pc = .ok (.iadd, 1)) (k : Es Cx nL (pc + 1) lv (.int (x + y) :: st) ad nw nt B L bc bs) : Es Cx nL pc lv (.int y :: .int x :: st) ad nw nt B L bc bs := fun h hs => En_iadd hC hd (k h hs)
theorem Es_isub (hC : je_Ok Cx own cc nL d) {x y : Int32} (hd : decode cc pc = .ok (.isub, 1)) (k : Es Cx nL (pc + 1) lv (.int (x - y) :: st) ad nw nt B L bc bs) : Es Cx nL pc lv (.int y :: .int x :: st) ad nw nt B L bc bs := fun h hs => En_isub hC hd (k h hs)
theorem Es_imul (hC : je_Ok Cx own cc nL d) {x y : Int32} (hd : decode cc pc = .ok (.imul, 1)) (k : Es Cx nL (pc + 1) lv (.int (x * y) :: st) ad nw nt B L bc bs) : Es Cx nL pc lv (.int y :: .int x :: st) ad nw nt B L bc bs := fun h hs => En_imul hC hd (k h hs)
theorem Es_iand (hC : je_Ok Cx own cc nL d) {x y : Int32} (hd : decode cc pc = .ok (.iand, 1)) (k : Es Cx nL (pc + 1) lv (.int (x &&& y) :: st) ad nw nt B L bc bs) : Es Cx nL pc lv (.int y :: .int x :: st) ad nw nt B L bc bs := fun h hs => En_iand hC hd (k h hs)
theorem Es_ior (hC : je_Ok Cx own cc nL d) {x y : Int32} (hd : decode cc pc = .ok (.ior, 1)) (k : Es Cx nL (pc + 1) lv (.int (x ||| y) :: st) ad nw nt B L bc bs) : Es Cx nL pc lv (.int y :: .int x :: st) ad nw nt B L bc bs := fun h hs => En_ior hC hd (k h hs)
theorem Es_ishl (hC : je_Ok Cx own cc nL d) {x y : Int32} (hd : decode cc pc = .ok (.ishl, 1)) (k : Es Cx nL (pc + 1) lv (.int (x <<< (y &&& 31)) :: st) ad nw nt B L bc bs) : Es Cx nL pc lv (.int y :: .int x :: st) ad nw nt B L bc bs := fun h hs => En_ishl hC hd (k h hs)
theorem Es_ishr (hC : je_Ok Cx own cc nL d) {x y : Int32} (hd : decode cc pc = .ok (.ishr, 1)) (k : Es Cx nL (pc + 1) lv (.int (x >>> (y &&& 31)) :: st) ad nw nt B L bc bs) : Es Cx nL pc lv (.int y :: .int x :: st) ad nw nt B L bc bs := fun h hs => En_ishr hC hd (k h hs)
theorem Es_idiv (hC : je_Ok Cx own cc nL d) {x y : Int32} (hd : decode cc pc = .ok (.idiv, 1)) (hne : ¬ y = 0) (k : Es Cx nL (pc + 1) lv (.int (x / y) :: st) ad nw nt B L bc bs) : Es Cx nL pc lv (.int y :: .int x :: st) ad nw nt B L bc bs := fun h hs => En_idiv hC hd hne (k h hs)
theorem Es_ineg (hC : je_Ok Cx own cc nL d) {x : Int32} (hd : decode cc pc = .ok (.ineg, 1)) (k : Es Cx nL (pc + 1) lv (.int (-x) :: st) ad nw nt B L bc bs) : Es Cx nL pc lv (.int x :: st) ad nw nt B L bc bs := fun h hs => En_ineg hC hd (k h hs)
theorem Es_ladd (hC : je_Ok Cx own cc nL d) {x y : Int64} (hd : decode cc pc = .ok (.ladd, 1)) (k : Es Cx nL (pc + 1) lv (.long (x + y) :: st) ad nw nt B L bc bs) : Es Cx nL pc lv (.long y :: .long x :: st) ad nw nt B L bc bs := fun h hs => En_ladd hC hd (k h hs)
theorem Es_lsub (hC : je_Ok Cx own cc nL d) {x y : Int64} (hd : decode cc pc = .ok (.lsub, 1)) (k : Es Cx nL (pc + 1) lv (.long (x - y) :: st) ad nw nt B L bc bs) : Es Cx nL pc lv (.long y :: .long x :: st) ad nw nt B L bc bs := fun h hs => En_lsub hC hd (k h hs)
theorem Es_lmul (hC : je_Ok Cx own cc nL d) {x y : Int64} (hd : decode cc pc = .ok (.lmul, 1)) (k : Es Cx nL (pc + 1) lv (.long (x * y) :: st) ad nw nt B L bc bs) : Es Cx nL pc lv (.long y :: .long x :: st) ad nw nt B L bc bs := fun h hs => En_lmul hC hd (k h hs)
theorem Es_lxor (hC : je_Ok Cx own cc nL d) {x y : Int64} (hd : decode cc pc = .ok (.lxor, 1)) (k : Es Cx nL (pc + 1) lv (.long (x ^^^ y) :: st) ad nw nt B L bc bs) : Es Cx nL pc lv (.long y :: .long x :: st) ad nw nt B L bc bs := fun h hs => En_lxor hC hd (k h hs)
theorem Es_ldiv (hC : je_Ok Cx own cc nL d) {x y : Int64} (hd : decode cc pc = .ok (.ldiv, 1)) (hne : ¬ y = 0) (k : Es Cx nL (pc + 1) lv (.long (x / y) :: st) ad nw nt B L bc bs) : Es Cx nL pc lv (.long y :: .long x :: st) ad nw nt B L bc bs := fun h hs => En_ldiv hC hd hne (k h hs)
theorem Es_lrem (hC : je_Ok Cx own cc nL d) {x y : Int64} (hd : decode cc pc = .ok (.lrem, 1)) (hne : ¬ y = 0) (k : Es Cx nL (pc + 1) lv (.long (x - x / y * y) :: st) ad nw nt B L bc bs) : Es Cx nL pc lv (.long y :: .long x :: st) ad nw nt B L bc bs := fun h hs => En_lrem hC hd hne (k h hs)
theorem Es_lcmp (hC : je_Ok Cx own cc nL d) {x y : Int64} (hd : decode cc pc = .ok (.lcmp, 1)) (k : Es Cx nL (pc + 1) lv (.int (lg_cmp x y) :: st) ad nw nt B L bc bs) : Es Cx nL pc lv (.long y :: .long x :: st) ad nw nt B L bc bs := fun h hs => En_lcmp hC hd (k h hs)
theorem Es_i2l (hC : je_Ok Cx own cc nL d) {x : Int32} (hd : decode cc pc = .ok (.i2l, 1)) (k : Es Cx nL (pc + 1) lv (.long x.toInt64 :: st) ad nw nt B L bc bs) : Es Cx nL pc lv (.int x :: st) ad nw nt B L bc bs := fun h hs => En_i2l hC hd (k h hs)
theorem Es_l2i (hC : je_Ok Cx own cc nL d) {x : Int64} (hd : decode cc pc = .ok (.l2i, 1)) (k : Es Cx nL (pc + 1) lv (.int x.toInt32 :: st) ad nw nt B L bc bs) : Es Cx nL pc lv (.long x :: st) ad nw nt B L bc bs := fun h hs => En_l2i hC hd (k h hs)
theorem Es_dup (hC : je_Ok Cx own cc nL d) {v : Value} (hd : decode cc pc = .ok (.dup, 1)) (hv : v.category = 1) (k : Es Cx nL (pc + 1) lv (v :: v :: st) ad nw nt B L bc bs) : Es Cx nL pc lv (v :: st) ad nw nt B L bc bs := fun h hs => En_dup hC hd hv (k h hs)
theorem Es_dup2 (hC : je_Ok Cx own cc nL d) {v u : Value} (hd : decode cc pc = .ok (.dup2, 1)) (hv : v.category = 1) (hu : u.category = 1) (k : Es Cx nL (pc + 1) lv (v :: u :: v :: u :: st) ad nw nt B L bc bs) : Es Cx nL pc lv (v :: u :: st) ad nw nt B L bc bs := fun h hs => En_dup2 hC hd hv hu (k h hs)
theorem Es_istore_n {lv' : je_V0} (hC : je_Ok Cx own cc nL d) {n : Fin 4} {x : Int32} (hd : decode cc pc = .ok (.istore_n n, 1)) (hi : (n : Nat) < nL) (hn : je_nl lv (n : Nat) = true) (hlv : lv.set (n : Nat) (some (.int x)) = lv') (k : Es Cx nL (pc + 1) lv' st ad nw nt B L bc bs) : Es Cx nL pc lv (.int x :: st) ad nw nt B L bc bs := fun h hs => En_istore_n hC hd hi hn hlv (k h hs)
theorem Es_istore {lv' : je_V0} (hC : je_Ok Cx own cc nL d) {i : Nat} {x : Int32} (hd : decode cc pc = .ok (.istore i, 2)) (hi : i < nL) (hn : je_nl lv i = true) (hlv : lv.set i (some (.int x)) = lv') (k : Es Cx nL (pc + 2) lv' st ad nw nt B L bc bs) : Es Cx nL pc lv (.int x :: st) ad nw nt B L bc bs := fun h hs => En_istore hC hd hi hn hlv (k h hs)
theorem Es_lstore_n {lv' : je_V0} (hC : je_Ok Cx own cc nL d) {n : Fin 4} {x : Int64} (hd : decode cc pc = .ok (.lstore_n n, 1)) (hi : (n : Nat) + 1 < nL) (hn : je_nl lv (n : Nat) = true) (hlv : (lv.set (n : Nat) (some (.long x))).set ((n : Nat) + 1) none = lv') (k : Es Cx nL (pc + 1) lv' st ad nw nt B L bc bs) : Es Cx nL pc lv (.long x :: st) ad nw nt B L bc bs := fun h hs => En_lstore_n hC hd hi hn hlv (k h hs)
theorem Es_lstore {lv' : je_V0} (hC : je_Ok Cx own cc nL d) {i : Nat} {x : Int64} (hd : decode cc pc = .ok (.lstore i, 2)) (hi : i + 1 < nL) (hn : je_nl lv i = true) (hlv : (lv.set i (some (.long x))).set (i + 1) none = lv') (k : Es Cx nL (pc + 2) lv' st ad nw nt B L bc bs) : Es Cx nL pc lv (.long x :: st) ad nw nt B L bc bs := fun h hs => En_lstore hC hd hi hn hlv (k h hs)
theorem Es_astore_n {lv' : je_V0} (hC : je_Ok Cx own cc nL d) {n : Fin 4} {x : Nat} (hd : decode cc pc = .ok (.astore_n n, 1)) (hi : (n : Nat) < nL) (hn : je_nl lv (n : Nat) = true) (hlv : lv.set (n : Nat) (some (.ref x)) = lv') (k : Es Cx nL (pc + 1) lv' st ad nw nt B L bc bs) : Es Cx nL pc lv (.ref x :: st) ad nw nt B L bc bs := fun h hs => En_astore_n hC hd hi hn hlv (k h hs)
theorem Es_astore {lv' : je_V0} (hC : je_Ok Cx own cc nL d) {i : Nat} {x : Nat} (hd : decode cc pc = .ok (.astore i, 2)) (hi : i < nL) (hn : je_nl lv i = true) (hlv : lv.set i (some (.ref x)) = lv') (k : Es Cx nL (pc + 2) lv' st ad nw nt B L bc bs) : Es Cx nL pc lv (.ref x :: st) ad nw nt B L bc bs := fun h hs => En_astore hC hd hi hn hlv (k h hs)
theorem Es_astore_nN {lv' : je_V0} (hC : je_Ok Cx own cc nL d) {n : Fin 4} (hd : decode cc pc = .ok (.astore_n n, 1)) (hi : (n : Nat) < nL) (hn : je_nl lv (n : Nat) = true) (hlv : lv.set (n : Nat) (some (.null)) = lv') (k : Es Cx nL (pc + 1) lv' st ad nw nt B L bc bs) : Es Cx nL pc lv (.null :: st) ad nw nt B L bc bs := fun h hs => En_astore_nN hC hd hi hn hlv (k h hs)
theorem Es_astoreN {lv' : je_V0} (hC : je_Ok Cx own cc nL d) {i : Nat} (hd : decode cc pc = .ok (.astore i, 2)) (hi : i < nL) (hn : je_nl lv i = true) (hlv : lv.set i (some (.null)) = lv') (k : Es Cx nL (pc + 2) lv' st ad nw nt B L bc bs) : Es Cx nL pc lv (.null :: st) ad nw nt B L bc bs := fun h hs => En_astoreN hC hd hi hn hlv (k h hs)
theorem Es_iinc {lv' : je_V0} (hC : je_Ok Cx own cc nL d) {i : Nat} {n : Int} {x v : Int32} (hd : decode cc pc = .ok (.iinc i n, 3)) (hi : i < nL) (hv : lv[i]? = some (some (.int x))) (hx2 : x + Int32.ofInt n = v) (hn : je_nl lv i = true) (hlv : lv.set i (some (.int v)) = lv') (k : Es Cx nL (pc + 3) lv' st ad nw nt B L bc bs) : Es Cx nL pc lv st ad nw nt B L bc bs := fun h hs => En_iinc hC hd hi hv hx2 hn hlv (k h hs)
theorem Es_if_eq (hC : je_Ok Cx own cc nL d) {x : Int32} {off : Int} (tgt : Nat) (hd : decode cc pc = .ok (.ifCond .eq off, 3)) (ht : (pc : Int) + off = (tgt : Int)) (k1 : x = 0 → Es Cx nL tgt lv st ad nw nt B L bc bs) (k2 : ¬ x = 0 → Es Cx nL (pc + 3) lv st ad nw nt B L bc bs) : Es Cx nL pc lv (.int x :: st) ad nw nt B L bc bs := fun h hs => En_if_eq hC tgt hd ht (fun q => k1 q h hs) (fun q => k2 q h hs)
theorem Es_icmp_eq (hC : je_Ok Cx own cc nL d) {x y : Int32} {off : Int} (tgt : Nat) (hd : decode cc pc = .ok (.if_icmp .eq off, 3)) (ht : (pc : Int) + off = (tgt : Int)) (k1 : x = y → Es Cx nL tgt lv st ad nw nt B L bc bs) (k2 : ¬ x = y → Es Cx nL (pc + 3) lv st ad nw nt B L bc bs) : Es Cx nL pc lv (.int y :: .int x :: st) ad nw nt B L bc bs := fun h hs => En_icmp_eq hC tgt hd ht (fun q => k1 q h hs) (fun q => k2 q h hs)
theorem Es_if_ne (hC : je_Ok Cx own cc nL d) {x : Int32} {off : Int} (tgt : Nat) (hd : decode cc pc = .ok (.ifCond .ne off, 3)) (ht : (pc : Int) + off = (tgt : Int)) (k1 : ¬ x = 0 → Es Cx nL tgt lv st ad nw nt B L bc bs) (k2 : x = 0 → Es Cx nL (pc + 3) lv st ad nw nt B L bc bs) : Es Cx nL pc lv (.int x :: st) ad nw nt B L bc bs := fun h hs => En_if_ne hC tgt hd ht (fun q => k1 q h hs) (fun q => k2 q h hs)
theorem Es_icmp_ne (hC : je_Ok Cx own cc nL d) {x y : Int32} {off : Int} (tgt : Nat) (hd : decode cc pc = .ok (.if_icmp .ne off, 3)) (ht : (pc : Int) + off = (tgt : Int)) (k1 : ¬ x = y → Es Cx nL tgt lv st ad nw nt B L bc bs) (k2 : x = y → Es Cx nL (pc + 3) lv st ad nw nt B L bc bs) : Es Cx nL pc lv (.int y :: .int x :: st) ad nw nt B L bc bs := fun h hs => En_icmp_ne hC tgt hd ht (fun q => k1 q h hs) (fun q => k2 q h hs)
theorem Es_if_lt (hC : je_Ok Cx own cc nL d) {x : Int32} {off : Int} (tgt : Nat) (hd : decode cc pc = .ok (.ifCond .lt off, 3)) (ht : (pc : Int) + off = (tgt : Int)) (k1 : x < 0 → Es Cx nL tgt lv st ad nw nt B L bc bs) (k2 : ¬ x < 0 → Es Cx nL (pc + 3) lv st ad nw nt B L bc bs) : Es Cx nL pc lv (.int x :: st) ad nw nt B L bc bs := fun h hs => En_if_lt hC tgt hd ht (fun q => k1 q h hs) (fun q => k2 q h hs)
theorem Es_icmp_lt (hC : je_Ok Cx own cc nL d) {x y : Int32} {off : Int} (tgt : Nat) (hd : decode cc pc = .ok (.if_icmp .lt off, 3)) (ht : (pc : Int) + off = (tgt : Int)) (k1 : x < y → Es Cx nL tgt lv st ad nw nt B L bc bs) (k2 : ¬ x < y → Es Cx nL (pc + 3) lv st ad nw nt B L bc bs) : Es Cx nL pc lv (.int y :: .int x :: st) ad nw nt B L bc bs := fun h hs => En_icmp_lt hC tgt hd ht (fun q => k1 q h hs) (fun q => k2 q h hs)
theorem Es_if_ge (hC : je_Ok Cx own cc nL d) {x : Int32} {off : Int} (tgt : Nat) (hd : decode cc pc = .ok (.ifCond .ge off, 3)) (ht : (pc : Int) + off = (tgt : Int)) (k1 : 0 ≤ x → Es Cx nL tgt lv st ad nw nt B L bc bs) (k2 : ¬ 0 ≤ x → Es Cx nL (pc + 3) lv st ad nw nt B L bc bs) : Es Cx nL pc lv (.int x :: st) ad nw nt B L bc bs := fun h hs => En_if_ge hC tgt hd ht (fun q => k1 q h hs) (fun q => k2 q h hs)
theorem Es_icmp_ge (hC : je_Ok Cx own cc nL d) {x y : Int32} {off : Int} (tgt : Nat) (hd : decode cc pc = .ok (.if_icmp .ge off, 3)) (ht : (pc : Int) + off = (tgt : Int)) (k1 : y ≤ x → Es Cx nL tgt lv st ad nw nt B L bc bs) (k2 : ¬ y ≤ x → Es Cx nL (pc + 3) lv st ad nw nt B L bc bs) : Es Cx nL pc lv (.int y :: .int x :: st) ad nw nt B L bc bs := fun h hs => En_icmp_ge hC tgt hd ht (fun q => k1 q h hs) (fun q => k2 q h hs)
theorem Es_if_gt (hC : je_Ok Cx own cc nL d) {x : Int32} {off : Int} (tgt : Nat) (hd : decode cc pc = .ok (.ifCond .gt off, 3)) (ht : (pc : Int) + off = (tgt : Int)) (k1 : 0 < x → Es Cx nL tgt lv st ad nw nt B L bc bs) (k2 : ¬ 0 < x → Es Cx nL (pc + 3) lv st ad nw nt B L bc bs) : Es Cx nL pc lv (.int x :: st) ad nw nt B L bc bs := fun h hs => En_if_gt hC tgt hd ht (fun q => k1 q h hs) (fun q => k2 q h hs)
theorem Es_icmp_gt (hC : je_Ok Cx own cc nL d) {x y : Int32} {off : Int} (tgt : Nat) (hd : decode cc pc = .ok (.if_icmp .gt off, 3)) (ht : (pc : Int) + off = (tgt : Int)) (k1 : y < x → Es Cx nL tgt lv st ad nw nt B L bc bs) (k2 : ¬ y < x → Es Cx nL (pc + 3) lv st ad nw nt B L bc bs) : Es Cx nL pc lv (.int y :: .int x :: st) ad nw nt B L bc bs := fun h hs => En_icmp_gt hC tgt hd ht (fun q => k1 q h hs) (fun q => k2 q h hs)
theorem Es_if_le (hC : je_Ok Cx own cc nL d) {x : Int32} {off : Int} (tgt : Nat) (hd : decode cc pc = .ok (.ifCond .le off, 3)) (ht : (pc : Int) + off = (tgt : Int)) (k1 : x ≤ 0 → Es Cx nL tgt lv st ad nw nt B L bc bs) (k2 : ¬ x ≤ 0 → Es Cx nL (pc + 3) lv st ad nw nt B L bc bs) : Es Cx nL pc lv (.int x :: st) ad nw nt B L bc bs := fun h hs => En_if_le hC tgt hd ht (fun q => k1 q h hs) (fun q => k2 q h hs)
theorem Es_icmp_le (hC : je_Ok Cx own cc nL d) {x y : Int32} {off : Int} (tgt : Nat) (hd : decode cc pc = .ok (.if_icmp .le off, 3)) (ht : (pc : Int) + off = (tgt : Int)) (k1 : x ≤ y → Es Cx nL tgt lv st ad nw nt B L bc bs) (k2 : ¬ x ≤ y → Es Cx nL (pc + 3) lv st ad nw nt B L bc bs) : Es Cx nL pc lv (.int y :: .int x :: st) ad nw nt B L bc bs := fun h hs => En_icmp_le hC tgt hd ht (fun q => k1 q h hs) (fun q => k2 q h hs)
theorem Es_acmp_eq (hC : je_Ok Cx own cc nL d) {rx ry : Option Nat} {off : Int} (tgt : Nat) (hd : decode cc pc = .ok (.if_acmp .eq off, 3)) (ht : (pc : Int) + off = (tgt : Int)) (k1 : rx = ry → Es Cx nL tgt lv st ad nw nt B L bc bs) (k2 : ¬ rx = ry → Es Cx nL (pc + 3) lv st ad nw nt B L bc bs) : Es Cx nL pc lv (va_rf ry :: va_rf rx :: st) ad nw nt B L bc bs := fun h hs => En_acmp_eq hC tgt hd ht (fun q => k1 q h hs) (fun q => k2 q h hs)
theorem Es_acmp_ne (hC : je_Ok Cx own cc nL d) {rx ry : Option Nat} {off : Int} (tgt : Nat) (hd : decode cc pc = .ok (.if_acmp .ne off, 3)) (ht : (pc : Int) + off = (tgt : Int)) (k1 : ¬ rx = ry → Es Cx nL tgt lv st ad nw nt B L bc bs) (k2 : rx = ry → Es Cx nL (pc + 3) lv st ad nw nt B L bc bs) : Es Cx nL pc lv (va_rf ry :: va_rf rx :: st) ad nw nt B L bc bs := fun h hs => En_acmp_ne hC tgt hd ht (fun q => k1 q h hs) (fun q => k2 q h hs)
theorem Es_ifnull (hC : je_Ok Cx own cc nL d) {x : Nat} {off : Int} (hd : decode cc pc = .ok (.ifnull off, 3)) (k : Es Cx nL (pc + 3) lv st ad nw nt B L bc bs) : Es Cx nL pc lv (.ref x :: st) ad nw nt B L bc bs := fun h hs => En_ifnull hC hd (k h hs)
theorem Es_ifnullN (hC : je_Ok Cx own cc nL d) {off : Int} (tgt : Nat) (hd : decode cc pc = .ok (.ifnull off, 3)) (ht : (pc : Int) + off = (tgt : Int)) (k : Es Cx nL tgt lv st ad nw nt B L bc bs) : Es Cx nL pc lv (.null :: st) ad nw nt B L bc bs := fun h hs => En_ifnullN hC tgt hd ht (k h hs)
theorem Es_ifnonnull (hC : je_Ok Cx own cc nL d) {x : Nat} {off : Int} (tgt : Nat) (hd : decode cc pc = .ok (.ifnonnull off, 3)) (ht : (pc : Int) + off = (tgt : Int)) (k : Es Cx nL tgt lv st ad nw nt B L bc bs) : Es Cx nL pc lv (.ref x :: st) ad nw nt B L bc bs := fun h hs => En_ifnonnull hC tgt hd ht (k h hs)
theorem Es_ifnonnullN (hC : je_Ok Cx own cc nL d) {off : Int} (hd : decode cc pc = .ok (.ifnonnull off, 3)) (k : Es Cx nL (pc + 3) lv st ad nw nt B L bc bs) : Es Cx nL pc lv (.null :: st) ad nw nt B L bc bs := fun h hs => En_ifnonnullN hC hd (k h hs)
theorem Es_goto (hC : je_Ok Cx own cc nL d) {off : Int} (tgt : Nat) (hd : decode cc pc = .ok (.goto off, 3)) (ht : (pc : Int) + off = (tgt : Int)) (k : Es Cx nL tgt lv st ad nw nt B L bc bs) : Es Cx nL pc lv st ad nw nt B L bc bs := fun h hs => En_goto hC tgt hd ht (k h hs)
theorem Es_lookup (hC : je_Ok Cx own cc nL d) {dflt : Int} {ps : Array (Int × Int)} {len : Nat} {x : Int32} {off : Int} (tgt : Nat) (hd : decode cc pc = .ok (.lookupswitch dflt ps, len)) (hp : (ps.toList.zip (ps.toList.drop 1)).all (fun (a, next) => a.1 < next.1) = true) (ho : Op.lookupswitch.offset ps.toList dflt x.toInt = off) (ht : (pc : Int) + off = (tgt : Int)) (k : Es Cx nL tgt lv st ad nw nt B L bc bs) : Es Cx nL pc lv (.int x :: st) ad nw nt B L bc bs := fun h hs => En_lookup hC tgt hd hp ho ht (k h hs)
theorem Es_tableOut (hC : je_Ok Cx own cc nL d) {dflt lo hi : Int} {offs : Array Int} {len : Nat} {x : Int32} (tgt : Nat) (hd : decode cc pc = .ok (.tableswitch dflt lo hi offs, len)) (hq : x.toInt < lo ∨ hi < x.toInt) (ht : (pc : Int) + dflt = (tgt : Int)) (k : Es Cx nL tgt lv st ad nw nt B L bc bs) : Es Cx nL pc lv (.int x :: st) ad nw nt B L bc bs := fun h hs => En_tableOut hC tgt hd hq ht (k h hs)
theorem Es_tableIn (hC : je_Ok Cx own cc nL d) {dflt lo hi : Int} {offs : Array Int} {len : Nat} {x : Int32} {off : Int} (tgt : Nat) (hd : decode cc pc = .ok (.tableswitch dflt lo hi offs, len)) (h1 : ¬ x.toInt < lo) (h2 : ¬ hi < x.toInt) (ho : offs[(x.toInt - lo).toNat]? = some off) (ht : (pc : Int) + off = (tgt : Int)) (k : Es Cx nL tgt lv st ad nw nt B L bc bs) : Es Cx nL pc lv (.int x :: st) ad nw nt B L bc bs := fun h hs => En_tableIn hC tgt hd h1 h2 ho ht (k h hs)
theorem Es_ldc (hC : je_Ok Cx own cc nL d) {idx : Nat} {v : Int32} (hc0 : Cond.constant own idx v ∈ je_T) (hd : decode cc pc = .ok (.ldc idx, 2)) (k : Es Cx nL (pc + 2) lv (.int v :: st) ad nw nt B L bc bs) : Es Cx nL pc lv st ad nw nt B L bc bs := fun h hs => En_ldc hC hc0 hd (k h hs)
theorem Es_ldc2 (hC : je_Ok Cx own cc nL d) {idx : Nat} {v : Int64} (hc0 : Cond.constantLong own idx v ∈ je_T) (hd : decode cc pc = .ok (.ldc2_w idx, 3)) (k : Es Cx nL (pc + 3) lv (.long v :: st) ad nw nt B L bc bs) : Es Cx nL pc lv st ad nw nt B L bc bs := fun h hs => En_ldc2 hC hc0 hd (k h hs)
theorem Es_get (hC : je_Ok Cx own cc nL d) {C : String} {T : u_T} {N ci idx kd j : Nat} {fs : List Value} {v : Value} (k : Nat) (hin : ∀ w ∈ u_ws C T N, w ∈ je_T) (hcl : vwCl[ci]? = some (C, T, N)) (hlk : Cond.fieldLink own idx (T k).1 (T k).2.1 (T k).2.2.1 ∈ je_T) (hkN : k < N) (hd : decode cc pc = .ok (.getfield idx, 3)) (hk : sOk nw nt kd j = true) (hcell : sC ad nw nt B L kd j = .inr (ci, fs)) (hv : fs[k]? = some v)
    (kk : Es Cx nL (pc + 3) lv (v :: st) ad nw nt B L bc bs) : Es Cx nL pc lv (.ref (ad kd j) :: st) ad nw nt B L bc bs := fun h hs => En_get hC k hin hcl hlk hkN hd (by rw [hs.1 kd j hk, hcell]) hv (kk h hs)
theorem Es_put (hC : je_Ok Cx own cc nL d) {C : String} {T : u_T} {N ci idx kd j : Nat} {fs : List Value} {x : Int32} (k : Nat) (ty0 : Nat → FieldType) (hty : ∀ k, k < N → parseFieldDescriptor (T k).2.2.1 = some (ty0 k)) (hnm : ∀ a, a < N → ∀ b, b < N → a ≠ b → (T a).2.1 ≠ (T b).2.1) (hin : ∀ w ∈ u_ws C T N, w ∈ je_T) (hcl : vwCl[ci]? = some (C, T, N)) (hlk : Cond.fieldLink own idx (T k).1 (T k).2.1 (T k).2.2.1 ∈ je_T) (hkN : k < N) (hfin : (T k).2.2.2 = false) (hde : parseFieldDescriptor (T k).2.2.1 = some .int) (hd : decode cc pc = .ok (.putfield idx, 3)) (hk : sOk nw nt kd j = true) (hcell : sC ad nw nt B L kd j = .inr (ci, fs)) (hle : k < fs.length) (hnew : (Sum.inr (ci, fs.set k (.int x)) : je_E) = sC ad nw nt (uB B kd j k x) L kd j)
    (kk : Es Cx nL (pc + 3) lv st ad nw nt (uB B kd j k x) L bc bs) : Es Cx nL pc lv (.int x :: .ref (ad kd j) :: st) ad nw nt B L bc bs := fun h hs => En_put hC k ty0 hty hnm hin hcl hlk hkN hfin hd (by rw [hs.1 kd j hk, hcell]) hde rfl rfl hle (kk _ (sH_upd hs hk hnew (fun _ _ q => uB_r q) (fun _ _ _ => rfl)))
theorem Es_putL (hC : je_Ok Cx own cc nL d) {C : String} {T : u_T} {N ci idx kd j : Nat} {fs : List Value} {x : Int64} (k : Nat) (ty0 : Nat → FieldType) (hty : ∀ k, k < N → parseFieldDescriptor (T k).2.2.1 = some (ty0 k)) (hnm : ∀ a, a < N → ∀ b, b < N → a ≠ b → (T a).2.1 ≠ (T b).2.1) (hin : ∀ w ∈ u_ws C T N, w ∈ je_T) (hcl : vwCl[ci]? = some (C, T, N)) (hlk : Cond.fieldLink own idx (T k).1 (T k).2.1 (T k).2.2.1 ∈ je_T) (hkN : k < N) (hfin : (T k).2.2.2 = false) (hde : parseFieldDescriptor (T k).2.2.1 = some .long) (hd : decode cc pc = .ok (.putfield idx, 3)) (hk : sOk nw nt kd j = true) (hcell : sC ad nw nt B L kd j = .inr (ci, fs)) (hle : k < fs.length) (hnew : (Sum.inr (ci, fs.set k (.long x)) : je_E) = sC ad nw nt B (uL L kd j k x) kd j)
    (kk : Es Cx nL (pc + 3) lv st ad nw nt B (uL L kd j k x) bc bs) : Es Cx nL pc lv (.long x :: .ref (ad kd j) :: st) ad nw nt B L bc bs := fun h hs => En_put hC k ty0 hty hnm hin hcl hlk hkN hfin hd (by rw [hs.1 kd j hk, hcell]) hde rfl rfl hle (kk _ (sH_upd hs hk hnew (fun _ _ _ => rfl) (fun _ _ q => uL_r q)))
theorem Es_iald (hC : je_Ok Cx own cc nL d) {kd j n : Nat} {i : Int32} (hd : decode cc pc = .ok (.iaload, 1)) (hk : sOk nw nt kd j = true) (hcell : sC ad nw nt B L kd j = ai n (B kd j)) (hin : vp_in i n) (kk : Es Cx nL (pc + 1) lv (.int (B kd j i.toNatClampNeg) :: st) ad nw nt B L bc bs) : Es Cx nL pc lv (.int i :: .ref (ad kd j) :: st) ad nw nt B L bc bs := fun h hs => En_iald hC hd (by rw [hs.1 kd j hk, hcell]; rfl) hin (kk h hs)
theorem Es_iast (hC : je_Ok Cx own cc nL d) {kd j n : Nat} {i x : Int32} (hd : decode cc pc = .ok (.iastore, 1)) (hk : sOk nw nt kd j = true) (hcell : ∀ B' : sB, sC ad nw nt B' L kd j = ai n (B' kd j)) (hin : vp_in i n) (kk : Es Cx nL (pc + 1) lv st ad nw nt (uB B kd j i.toNatClampNeg x) L bc bs) : Es Cx nL pc lv (.int x :: .int i :: .ref (ad kd j) :: st) ad nw nt B L bc bs := fun h hs => En_iast hC hd (by rw [hs.1 kd j hk, hcell]; rfl) hin (kk _ (sH_upd hs hk (by rw [hcell, uB_a]; rfl) (fun _ _ q => uB_r q) (fun _ _ _ => rfl)))
theorem Es_alen (hC : je_Ok Cx own cc nL d) {kd j t : Nat} {x : vp_A} (hd : decode cc pc = .ok (.arraylength, 1)) (hk : sOk nw nt kd j = true) (hcell : sC ad nw nt B L kd j = .inl (t, x)) (ht3 : t < 3) (kk : Es Cx nL (pc + 1) lv (.int (Int32.ofNat x.1) :: st) ad nw nt B L bc bs) : Es Cx nL pc lv (.ref (ad kd j) :: st) ad nw nt B L bc bs := fun h hs => En_alen hC hd (by rw [hs.1 kd j hk, hcell]) ht3 (kk h hs)
theorem Es_aald (hC : je_Ok Cx own cc nL d) {kd j n t : Nat} {f : Nat → Option Nat} {i : Int32} (ht3 : t = 1 ∨ t = 2) (hd : decode cc pc = .ok (.aaload, 1)) (hk : sOk nw nt kd j = true) (hcell : sC ad nw nt B L kd j = ar t n f) (hin : vp_in i n) (kk : Es Cx nL (pc + 1) lv (va_rf (f i.toNatClampNeg) :: st) ad nw nt B L bc bs) : Es Cx nL pc lv (.int i :: .ref (ad kd j) :: st) ad nw nt B L bc bs := fun h hs => En_aald hC ht3 hd (by rw [hs.1 kd j hk, hcell]; rfl) hin (kk h hs)
/-- a tyre is laid into an array of tyres (kinds 11, 20) -/
theorem Es_aast (hC : je_Ok Cx own cc nL d) {kd j t : Nat} {i : Int32} (hd : decode cc pc = .ok (.aastore, 1)) (hk : sOk nw nt kd j = true) (hcell : ∀ B' : sB, sC ad nw nt B' L kd j = ar 1 7 (fun i => rT ad (B' kd j i))) (hin : vp_in i 7) (ht : t < nt) (ht2 : t < 2 ^ 31) (kk : Es Cx nL (pc + 1) lv st ad nw nt (uB B kd j i.toNatClampNeg (nI t)) L bc bs) : Es Cx nL pc lv (.ref (ad 21 t) :: .int i :: .ref (ad kd j) :: st) ad nw nt B L bc bs := fun h hs => by
  have hk2 : sOk nw nt 21 t = true := by simp [sOk, Nat.blt_eq, ht]
  refine En_aast (t := 1) hC (Or.inl rfl) hd (by rw [hs.1 kd j hk, hcell]; rfl) (hs.1 21 t hk2) hin (kk _ (sH_upd hs hk ?_ (fun _ _ q => uB_r q) (fun _ _ _ => rfl)))
  rw [hcell, uB_a]
  show ar 1 7 _ = ar 1 7 _
  congr 1
  funext q
  by_cases hq : q = i.toNatClampNeg
  · subst hq
    simp [va_up, upd, rT, nI_pos ht2, nI_clamp ht2]
  · simp [va_up, upd, hq]
theorem Es_aastN (hC : je_Ok Cx own cc nL d) {kd j : Nat} {i : Int32} (hd : decode cc pc = .ok (.aastore, 1)) (hk : sOk nw nt kd j = true) (hcell : ∀ B' : sB, sC ad nw nt B' L kd j = ar 1 7 (fun i => rT ad (B' kd j i))) (hin : vp_in i 7) (kk : Es Cx nL (pc + 1) lv st ad nw nt (uB B kd j i.toNatClampNeg (-1)) L bc bs) : Es Cx nL pc lv (.null :: .int i :: .ref (ad kd j) :: st) ad nw nt B L bc bs := fun h hs => by
  refine En_aastN (t := 1) hC (Or.inl rfl) hd (by rw [hs.1 kd j hk, hcell]; rfl) hin (kk _ (sH_upd hs hk ?_ (fun _ _ q => uB_r q) (fun _ _ _ => rfl)))
  rw [hcell, uB_a]
  show ar 1 7 _ = ar 1 7 _
  congr 1
  funext q
  by_cases hq : q = i.toNatClampNeg
  · subst hq
    simp only [va_up, upd, rT, if_true]
    rfl
  · simp [va_up, upd, hq]
section CALLS
variable {bytes : ByteArray} {d' maxL n idx : Nat} {As : List Value} {y : MethodName} {ret : Option FieldType} {Q' : Option Value → sB → sL → Prop}
theorem Es_callV {kd j ci : Nat} {fs : List Value} (hC : je_Ok Cx own cc nL d) (hv : je_V own idx y bytes maxL ret n) (hd : decode cc pc = .ok (.invokevirtual idx, 3)) (hct : Cs y bytes maxL ret d' (.ref (ad kd j) :: As) ad nw nt B L Q') (hk : sOk nw nt kd j = true) (hcell : sC ad nw nt B L kd j = .inr (ci, fs)) (hcl : ∃ q, vwCl[ci]? = some q ∧ q.1 = y.cls) (hst : st = As.reverse ++ .ref (ad kd j) :: rest) (hn : As.length = n) (hdd : d' + 1 ≤ d) (hrest : (rest.map fun v => v.category).sum ≤ 8)
    (kk : ∀ v B' L', Q' v B' L' → Es Cx nL (pc + 3) lv (v.toList ++ rest) ad nw nt B' L' bc bs) : Es Cx nL pc lv st ad nw nt B L bc bs := fun h hs => En_callV hC hv hd (hct h hs) (by rw [hs.1 kd j hk, hcell]) hcl hst hn hdd hrest (Nat.zero_le _) (Nat.zero_le _) (fun v h' ⟨B', L', h1, h2⟩ => kk v B' L' h2 h' h1)
theorem Es_callS (hC : je_Ok Cx own cc nL d) (hv : je_S own idx y bytes maxL ret n) (hd : decode cc pc = .ok (.invokestatic idx, 3)) (hct : Cs y bytes maxL ret d' As ad nw nt B L Q') (hst : st = As.reverse ++ rest) (hn : As.length = n) (hdd : d' + 1 ≤ d) (hrest : (rest.map fun v => v.category).sum ≤ 8)
    (kk : ∀ v B' L', Q' v B' L' → Es Cx nL (pc + 3) lv (v.toList ++ rest) ad nw nt B' L' bc bs) : Es Cx nL pc lv st ad nw nt B L bc bs := fun h hs => En_callS hC hv hd (hct h hs) hst hn hdd hrest (Nat.zero_le _) (Nat.zero_le _) (fun v h' ⟨B', L', h1, h2⟩ => kk v B' L' h2 h' h1)
theorem Es_callSN {host : String} (hC : je_Ok Cx own cc nL d) (hv : je_SN own idx y host bytes maxL ret n) (hd : decode cc pc = .ok (.invokestatic idx, 3)) (hct : Cs y bytes maxL ret d' As ad nw nt B L Q') (hst : st = As.reverse ++ rest) (hn : As.length = n) (hdd : d' + 1 ≤ d) (hrest : (rest.map fun v => v.category).sum ≤ 8)
    (kk : ∀ v B' L', Q' v B' L' → Es Cx nL (pc + 3) lv (v.toList ++ rest) ad nw nt B' L' bc bs) : Es Cx nL pc lv st ad nw nt B L bc bs := fun h hs => En_callSN hC hv hd (hct h hs) hst hn hdd hrest (Nat.zero_le _) (Nat.zero_le _) (fun v h' ⟨B', L', h1, h2⟩ => kk v B' L' h2 h' h1)
/-- the functional forms -/
theorem Es_fV {kd j ci : Nat} {fs : List Value} {v0 : Option Value} {B0 : sB} {L0 : sL} (hC : je_Ok Cx own cc nL d) (hv : je_V own idx y bytes maxL ret n) (hd : decode cc pc = .ok (.invokevirtual idx, 3)) (hct : Cf y bytes maxL ret d' (.ref (ad kd j) :: As) ad nw nt B L v0 B0 L0) (hk : sOk nw nt kd j = true) (hcell : sC ad nw nt B L kd j = .inr (ci, fs)) (hcl : ∃ q, vwCl[ci]? = some q ∧ q.1 = y.cls) (hst : st = As.reverse ++ .ref (ad kd j) :: rest) (hn : As.length = n) (hdd : d' + 1 ≤ d) (hrest : (rest.map fun v => v.category).sum ≤ 8)
    (kk : Es Cx nL (pc + 3) lv (v0.toList ++ rest) ad nw nt B0 L0 bc bs) : Es Cx nL pc lv st ad nw nt B L bc bs := Es_callV hC hv hd hct hk hcell hcl hst hn hdd hrest (fun v B' L' ⟨h1, h2, h3⟩ => by subst h1; subst h2; subst h3; exact kk)
theorem Es_fS {v0 : Option Value} {B0 : sB} {L0 : sL} (hC : je_Ok Cx own cc nL d) (hv : je_S own idx y bytes maxL ret n) (hd : decode cc pc = .ok (.invokestatic idx, 3)) (hct : Cf y bytes maxL ret d' As ad nw nt B L v0 B0 L0) (hst : st = As.reverse ++ rest) (hn : As.length = n) (hdd : d' + 1 ≤ d) (hrest : (rest.map fun v => v.category).sum ≤ 8)
    (kk : Es Cx nL (pc + 3) lv (v0.toList ++ rest) ad nw nt B0 L0 bc bs) : Es Cx nL pc lv st ad nw nt B L bc bs := Es_callS hC hv hd hct hst hn hdd hrest (fun v B' L' ⟨h1, h2, h3⟩ => by subst h1; subst h2; subst h3; exact kk)
theorem Es_fSN {host : String} {v0 : Option Value} {B0 : sB} {L0 : sL} (hC : je_Ok Cx own cc nL d) (hv : je_SN own idx y host bytes maxL ret n) (hd : decode cc pc = .ok (.invokestatic idx, 3)) (hct : Cf y bytes maxL ret d' As ad nw nt B L v0 B0 L0) (hst : st = As.reverse ++ rest) (hn : As.length = n) (hdd : d' + 1 ≤ d) (hrest : (rest.map fun v => v.category).sum ≤ 8)
    (kk : Es Cx nL (pc + 3) lv (v0.toList ++ rest) ad nw nt B0 L0 bc bs) : Es Cx nL pc lv st ad nw nt B L bc bs := Es_callSN hC hv hd hct hst hn hdd hrest (fun v B' L' ⟨h1, h2, h3⟩ => by subst h1; subst h2; subst h3; exact kk)
end CALLS
section RETS
variable {y : MethodName} {Q : Option Value → sB → sL → Prop}
theorem Es_iret {ty : FieldType} {v : Int32} (hd : decode cc pc = .ok (.ireturn, 1)) (hn : narrow ty (.int v) = .int v) (hq : Q (some (.int v)) B L) : Es (sCm y cc nL (some ty) d ad nw nt Q) nL pc lv [.int v] ad nw nt B L bc bs := fun _ hs => En_iret hd hn ⟨B, L, hs, hq⟩
theorem Es_lret {v : Int64} (hd : decode cc pc = .ok (.lreturn, 1)) (hq : Q (some (.long v)) B L) : Es (sCm y cc nL (some .long) d ad nw nt Q) nL pc lv [.long v] ad nw nt B L bc bs := fun _ hs => En_lret hd ⟨B, L, hs, hq⟩
theorem Es_aret {C : String} {v : Value} (hd : decode cc pc = .ok (.areturn, 1)) (hv : v = .null ∨ ∃ a, v = .ref a) (hq : Q (some v) B L) : Es (sCm y cc nL (some (.object C)) d ad nw nt Q) nL pc lv [v] ad nw nt B L bc bs := fun _ hs => En_aret hd hv ⟨B, L, hs, hq⟩
theorem Es_vret (hd : decode cc pc = .ok (.return_, 1)) (hq : Q none B L) : Es (sCm y cc nL none d ad nw nt Q) nL pc lv [] ad nw nt B L bc bs := fun _ hs => En_vret hd ⟨B, L, hs, hq⟩
end RETS
end ES
end
section
theorem ok18 {nw nt j : Nat} (h : j < nw) : sOk nw nt 18 j = true := by simp [sOk, Nat.blt_eq, h]
theorem ok19 {nw nt j : Nat} (h : j < nw) : sOk nw nt 19 j = true := by simp [sOk, Nat.blt_eq, h]
theorem ok20 {nw nt j : Nat} (h : j < nw) : sOk nw nt 20 j = true := by simp [sOk, Nat.blt_eq, h]
theorem ok21 {nw nt j : Nat} (h : j < nt) : sOk nw nt 21 j = true := by simp [sOk, Nat.blt_eq, h]
theorem ok22 {nw nt j : Nat} (h : j < nt) : sOk nw nt 22 j = true := by simp [sOk, Nat.blt_eq, h]
theorem ok23 {nw nt j : Nat} (h : j < nt) : sOk nw nt 23 j = true := by simp [sOk, Nat.blt_eq, h]
theorem ok24 {nw nt j : Nat} (h : j < nt) : sOk nw nt 24 j = true := by simp [sOk, Nat.blt_eq, h]
section ACC
variable {Cx : je_C} {own : String} {cc : ByteArray} {nL d pc bc bs idx : Nat} {lv : je_V0} {st : List Value} {ad : sA} {nw nt : Nat} {B : sB} {L : sL}
theorem Sg_X0_0 (hC : je_Ok Cx own cc nL d) (hlk : Cond.fieldLink own idx (TX0 0).1 (TX0 0).2.1 (TX0 0).2.2.1 ∈ je_T) (hd : decode cc pc = .ok (.getfield idx, 3)) (kk : Es Cx nL (pc + 3) lv (.ref (ad 7 0) :: st) ad nw nt B L bc bs) : Es Cx nL pc lv (.ref (ad 6 0) :: st) ad nw nt B L bc bs := Es_get hC 0 uw_X0 rfl hlk (by decide) hd rfl rfl rfl kk
theorem Sg_X0_1 (hC : je_Ok Cx own cc nL d) (hlk : Cond.fieldLink own idx (TX0 1).1 (TX0 1).2.1 (TX0 1).2.2.1 ∈ je_T) (hd : decode cc pc = .ok (.getfield idx, 3)) (kk : Es Cx nL (pc + 3) lv (.ref (ad 8 0) :: st) ad nw nt B L bc bs) : Es Cx nL pc lv (.ref (ad 6 0) :: st) ad nw nt B L bc bs := Es_get hC 1 uw_X0 rfl hlk (by decide) hd rfl rfl rfl kk
theorem Sg_X0_2 (hC : je_Ok Cx own cc nL d) (hlk : Cond.fieldLink own idx (TX0 2).1 (TX0 2).2.1 (TX0 2).2.2.1 ∈ je_T) (hd : decode cc pc = .ok (.getfield idx, 3)) (kk : Es Cx nL (pc + 3) lv (.ref (ad 9 0) :: st) ad nw nt B L bc bs) : Es Cx nL pc lv (.ref (ad 6 0) :: st) ad nw nt B L bc bs := Es_get hC 2 uw_X0 rfl hlk (by decide) hd rfl rfl rfl kk
theorem Sg_X0_3 (hC : je_Ok Cx own cc nL d) (hlk : Cond.fieldLink own idx (TX0 3).1 (TX0 3).2.1 (TX0 3).2.2.1 ∈ je_T) (hd : decode cc pc = .ok (.getfield idx, 3)) (kk : Es Cx nL (pc + 3) lv (.int (B 6 0 3) :: st) ad nw nt B L bc bs) : Es Cx nL pc lv (.ref (ad 6 0) :: st) ad nw nt B L bc bs := Es_get hC 3 uw_X0 rfl hlk (by decide) hd rfl rfl rfl kk
theorem Sp_X0_3 {x : Int32} (hC : je_Ok Cx own cc nL d) (hlk : Cond.fieldLink own idx (TX0 3).1 (TX0 3).2.1 (TX0 3).2.2.1 ∈ je_T) (hd : decode cc pc = .ok (.putfield idx, 3)) (kk : Es Cx nL (pc + 3) lv st ad nw nt (uB B 6 0 3 x) L bc bs) : Es Cx nL pc lv (.int x :: .ref (ad 6 0) :: st) ad nw nt B L bc bs := Es_put hC 3 tyX0 tyX0_ok nmX0 uw_X0 rfl hlk (by decide) (by decide) (by decide +kernel) hd rfl rfl (Nat.le_of_ble_eq_true rfl) (by simp [sC, uB, uL]) kk
theorem Sg_X1_0 (hC : je_Ok Cx own cc nL d) (hlk : Cond.fieldLink own idx (TX1 0).1 (TX1 0).2.1 (TX1 0).2.2.1 ∈ je_T) (hd : decode cc pc = .ok (.getfield idx, 3)) (kk : Es Cx nL (pc + 3) lv (.ref (ad 11 0) :: st) ad nw nt B L bc bs) : Es Cx nL pc lv (.ref (ad 10 0) :: st) ad nw nt B L bc bs := Es_get hC 0 uw_X1 rfl hlk (by decide) hd rfl rfl rfl kk
theorem Sg_X1_1 (hC : je_Ok Cx own cc nL d) (hlk : Cond.fieldLink own idx (TX1 1).1 (TX1 1).2.1 (TX1 1).2.2.1 ∈ je_T) (hd : decode cc pc = .ok (.getfield idx, 3)) (kk : Es Cx nL (pc + 3) lv (.ref (ad 12 0) :: st) ad nw nt B L bc bs) : Es Cx nL pc lv (.ref (ad 10 0) :: st) ad nw nt B L bc bs := Es_get hC 1 uw_X1 rfl hlk (by decide) hd rfl rfl rfl kk
theorem Sg_X1_2 (hC : je_Ok Cx own cc nL d) (hlk : Cond.fieldLink own idx (TX1 2).1 (TX1 2).2.1 (TX1 2).2.2.1 ∈ je_T) (hd : decode cc pc = .ok (.getfield idx, 3)) (kk : Es Cx nL (pc + 3) lv (.ref (ad 13 0) :: st) ad nw nt B L bc bs) : Es Cx nL pc lv (.ref (ad 10 0) :: st) ad nw nt B L bc bs := Es_get hC 2 uw_X1 rfl hlk (by decide) hd rfl rfl rfl kk
theorem Sg_X1_3 (hC : je_Ok Cx own cc nL d) (hlk : Cond.fieldLink own idx (TX1 3).1 (TX1 3).2.1 (TX1 3).2.2.1 ∈ je_T) (hd : decode cc pc = .ok (.getfield idx, 3)) (kk : Es Cx nL (pc + 3) lv (.ref (ad 14 0) :: st) ad nw nt B L bc bs) : Es Cx nL pc lv (.ref (ad 10 0) :: st) ad nw nt B L bc bs := Es_get hC 3 uw_X1 rfl hlk (by decide) hd rfl rfl rfl kk
theorem Sg_X1_4 (hC : je_Ok Cx own cc nL d) (hlk : Cond.fieldLink own idx (TX1 4).1 (TX1 4).2.1 (TX1 4).2.2.1 ∈ je_T) (hd : decode cc pc = .ok (.getfield idx, 3)) (kk : Es Cx nL (pc + 3) lv (.ref (ad 15 0) :: st) ad nw nt B L bc bs) : Es Cx nL pc lv (.ref (ad 10 0) :: st) ad nw nt B L bc bs := Es_get hC 4 uw_X1 rfl hlk (by decide) hd rfl rfl rfl kk
theorem Sg_X1_5 (hC : je_Ok Cx own cc nL d) (hlk : Cond.fieldLink own idx (TX1 5).1 (TX1 5).2.1 (TX1 5).2.2.1 ∈ je_T) (hd : decode cc pc = .ok (.getfield idx, 3)) (kk : Es Cx nL (pc + 3) lv (.ref (ad 16 0) :: st) ad nw nt B L bc bs) : Es Cx nL pc lv (.ref (ad 10 0) :: st) ad nw nt B L bc bs := Es_get hC 5 uw_X1 rfl hlk (by decide) hd rfl rfl rfl kk
theorem Sg_X1_6 (hC : je_Ok Cx own cc nL d) (hlk : Cond.fieldLink own idx (TX1 6).1 (TX1 6).2.1 (TX1 6).2.2.1 ∈ je_T) (hd : decode cc pc = .ok (.getfield idx, 3)) (kk : Es Cx nL (pc + 3) lv (.int (B 10 0 6) :: st) ad nw nt B L bc bs) : Es Cx nL pc lv (.ref (ad 10 0) :: st) ad nw nt B L bc bs := Es_get hC 6 uw_X1 rfl hlk (by decide) hd rfl rfl rfl kk
theorem Sp_X1_6 {x : Int32} (hC : je_Ok Cx own cc nL d) (hlk : Cond.fieldLink own idx (TX1 6).1 (TX1 6).2.1 (TX1 6).2.2.1 ∈ je_T) (hd : decode cc pc = .ok (.putfield idx, 3)) (kk : Es Cx nL (pc + 3) lv st ad nw nt (uB B 10 0 6 x) L bc bs) : Es Cx nL pc lv (.int x :: .ref (ad 10 0) :: st) ad nw nt B L bc bs := Es_put hC 6 tyX1 tyX1_ok nmX1 uw_X1 rfl hlk (by decide) (by decide) (by decide +kernel) hd rfl rfl (Nat.le_of_ble_eq_true rfl) (by simp [sC, uB, uL]) kk
theorem Sg_X1_7 (hC : je_Ok Cx own cc nL d) (hlk : Cond.fieldLink own idx (TX1 7).1 (TX1 7).2.1 (TX1 7).2.2.1 ∈ je_T) (hd : decode cc pc = .ok (.getfield idx, 3)) (kk : Es Cx nL (pc + 3) lv (.int (B 10 0 7) :: st) ad nw nt B L bc bs) : Es Cx nL pc lv (.ref (ad 10 0) :: st) ad nw nt B L bc bs := Es_get hC 7 uw_X1 rfl hlk (by decide) hd rfl rfl rfl kk
theorem Sp_X1_7 {x : Int32} (hC : je_Ok Cx own cc nL d) (hlk : Cond.fieldLink own idx (TX1 7).1 (TX1 7).2.1 (TX1 7).2.2.1 ∈ je_T) (hd : decode cc pc = .ok (.putfield idx, 3)) (kk : Es Cx nL (pc + 3) lv st ad nw nt (uB B 10 0 7 x) L bc bs) : Es Cx nL pc lv (.int x :: .ref (ad 10 0) :: st) ad nw nt B L bc bs := Es_put hC 7 tyX1 tyX1_ok nmX1 uw_X1 rfl hlk (by decide) (by decide) (by decide +kernel) hd rfl rfl (Nat.le_of_ble_eq_true rfl) (by simp [sC, uB, uL]) kk
theorem Sg_X1_8 (hC : je_Ok Cx own cc nL d) (hlk : Cond.fieldLink own idx (TX1 8).1 (TX1 8).2.1 (TX1 8).2.2.1 ∈ je_T) (hd : decode cc pc = .ok (.getfield idx, 3)) (kk : Es Cx nL (pc + 3) lv (.int (B 10 0 8) :: st) ad nw nt B L bc bs) : Es Cx nL pc lv (.ref (ad 10 0) :: st) ad nw nt B L bc bs := Es_get hC 8 uw_X1 rfl hlk (by decide) hd rfl rfl rfl kk
theorem Sp_X1_8 {x : Int32} (hC : je_Ok Cx own cc nL d) (hlk : Cond.fieldLink own idx (TX1 8).1 (TX1 8).2.1 (TX1 8).2.2.1 ∈ je_T) (hd : decode cc pc = .ok (.putfield idx, 3)) (kk : Es Cx nL (pc + 3) lv st ad nw nt (uB B 10 0 8 x) L bc bs) : Es Cx nL pc lv (.int x :: .ref (ad 10 0) :: st) ad nw nt B L bc bs := Es_put hC 8 tyX1 tyX1_ok nmX1 uw_X1 rfl hlk (by decide) (by decide) (by decide +kernel) hd rfl rfl (Nat.le_of_ble_eq_true rfl) (by simp [sC, uB, uL]) kk
theorem Sg_X2_0 {j : Nat} (hC : je_Ok Cx own cc nL d) (hlk : Cond.fieldLink own idx (TX2 0).1 (TX2 0).2.1 (TX2 0).2.2.1 ∈ je_T) (hd : decode cc pc = .ok (.getfield idx, 3)) (hj : j < nt) (kk : Es Cx nL (pc + 3) lv (.int (B 21 j 0) :: st) ad nw nt B L bc bs) : Es Cx nL pc lv (.ref (ad 21 j) :: st) ad nw nt B L bc bs := Es_get hC 0 uw_X2 rfl hlk (by decide) hd (ok21 hj) rfl rfl kk
theorem Sg_X2_1 {j : Nat} (hC : je_Ok Cx own cc nL d) (hlk : Cond.fieldLink own idx (TX2 1).1 (TX2 1).2.1 (TX2 1).2.2.1 ∈ je_T) (hd : decode cc pc = .ok (.getfield idx, 3)) (hj : j < nt) (kk : Es Cx nL (pc + 3) lv (.int (B 21 j 1) :: st) ad nw nt B L bc bs) : Es Cx nL pc lv (.ref (ad 21 j) :: st) ad nw nt B L bc bs := Es_get hC 1 uw_X2 rfl hlk (by decide) hd (ok21 hj) rfl rfl kk
theorem Sg_X2_2 {j : Nat} (hC : je_Ok Cx own cc nL d) (hlk : Cond.fieldLink own idx (TX2 2).1 (TX2 2).2.1 (TX2 2).2.2.1 ∈ je_T) (hd : decode cc pc = .ok (.getfield idx, 3)) (hj : j < nt) (kk : Es Cx nL (pc + 3) lv (.int (B 21 j 2) :: st) ad nw nt B L bc bs) : Es Cx nL pc lv (.ref (ad 21 j) :: st) ad nw nt B L bc bs := Es_get hC 2 uw_X2 rfl hlk (by decide) hd (ok21 hj) rfl rfl kk
theorem Sg_X2_3 {j : Nat} (hC : je_Ok Cx own cc nL d) (hlk : Cond.fieldLink own idx (TX2 3).1 (TX2 3).2.1 (TX2 3).2.2.1 ∈ je_T) (hd : decode cc pc = .ok (.getfield idx, 3)) (hj : j < nt) (kk : Es Cx nL (pc + 3) lv (.ref (ad 22 j) :: st) ad nw nt B L bc bs) : Es Cx nL pc lv (.ref (ad 21 j) :: st) ad nw nt B L bc bs := Es_get hC 3 uw_X2 rfl hlk (by decide) hd (ok21 hj) rfl rfl kk
theorem Sg_X2_4 {j : Nat} (hC : je_Ok Cx own cc nL d) (hlk : Cond.fieldLink own idx (TX2 4).1 (TX2 4).2.1 (TX2 4).2.2.1 ∈ je_T) (hd : decode cc pc = .ok (.getfield idx, 3)) (hj : j < nt) (kk : Es Cx nL (pc + 3) lv (.ref (ad 23 j) :: st) ad nw nt B L bc bs) : Es Cx nL pc lv (.ref (ad 21 j) :: st) ad nw nt B L bc bs := Es_get hC 4 uw_X2 rfl hlk (by decide) hd (ok21 hj) rfl rfl kk
theorem Sg_X2_5 {j : Nat} (hC : je_Ok Cx own cc nL d) (hlk : Cond.fieldLink own idx (TX2 5).1 (TX2 5).2.1 (TX2 5).2.2.1 ∈ je_T) (hd : decode cc pc = .ok (.getfield idx, 3)) (hj : j < nt) (kk : Es Cx nL (pc + 3) lv (.ref (ad 24 j) :: st) ad nw nt B L bc bs) : Es Cx nL pc lv (.ref (ad 21 j) :: st) ad nw nt B L bc bs := Es_get hC 5 uw_X2 rfl hlk (by decide) hd (ok21 hj) rfl rfl kk
theorem Sg_X2_6 {j : Nat} (hC : je_Ok Cx own cc nL d) (hlk : Cond.fieldLink own idx (TX2 6).1 (TX2 6).2.1 (TX2 6).2.2.1 ∈ je_T) (hd : decode cc pc = .ok (.getfield idx, 3)) (hj : j < nt) (kk : Es Cx nL (pc + 3) lv (.int (B 21 j 6) :: st) ad nw nt B L bc bs) : Es Cx nL pc lv (.ref (ad 21 j) :: st) ad nw nt B L bc bs := Es_get hC 6 uw_X2 rfl hlk (by decide) hd (ok21 hj) rfl rfl kk
theorem Sp_X2_6 {j : Nat} {x : Int32} (hC : je_Ok Cx own cc nL d) (hlk : Cond.fieldLink own idx (TX2 6).1 (TX2 6).2.1 (TX2 6).2.2.1 ∈ je_T) (hd : decode cc pc = .ok (.putfield idx, 3)) (hj : j < nt) (kk : Es Cx nL (pc + 3) lv st ad nw nt (uB B 21 j 6 x) L bc bs) : Es Cx nL pc lv (.int x :: .ref (ad 21 j) :: st) ad nw nt B L bc bs := Es_put hC 6 tyX2 tyX2_ok nmX2 uw_X2 rfl hlk (by decide) (by decide) (by decide +kernel) hd (ok21 hj) rfl (Nat.le_of_ble_eq_true rfl) (by simp [sC, uB, uL]) kk
theorem Sg_X2_7 {j : Nat} (hC : je_Ok Cx own cc nL d) (hlk : Cond.fieldLink own idx (TX2 7).1 (TX2 7).2.1 (TX2 7).2.2.1 ∈ je_T) (hd : decode cc pc = .ok (.getfield idx, 3)) (hj : j < nt) (kk : Es Cx nL (pc + 3) lv (.int (B 21 j 7) :: st) ad nw nt B L bc bs) : Es Cx nL pc lv (.ref (ad 21 j) :: st) ad nw nt B L bc bs := Es_get hC 7 uw_X2 rfl hlk (by decide) hd (ok21 hj) rfl rfl kk
theorem Sp_X2_7 {j : Nat} {x : Int32} (hC : je_Ok Cx own cc nL d) (hlk : Cond.fieldLink own idx (TX2 7).1 (TX2 7).2.1 (TX2 7).2.2.1 ∈ je_T) (hd : decode cc pc = .ok (.putfield idx, 3)) (hj : j < nt) (kk : Es Cx nL (pc + 3) lv st ad nw nt (uB B 21 j 7 x) L bc bs) : Es Cx nL pc lv (.int x :: .ref (ad 21 j) :: st) ad nw nt B L bc bs := Es_put hC 7 tyX2 tyX2_ok nmX2 uw_X2 rfl hlk (by decide) (by decide) (by decide +kernel) hd (ok21 hj) rfl (Nat.le_of_ble_eq_true rfl) (by simp [sC, uB, uL]) kk
theorem Sg_X2_8 {j : Nat} (hC : je_Ok Cx own cc nL d) (hlk : Cond.fieldLink own idx (TX2 8).1 (TX2 8).2.1 (TX2 8).2.2.1 ∈ je_T) (hd : decode cc pc = .ok (.getfield idx, 3)) (hj : j < nt) (kk : Es Cx nL (pc + 3) lv (.int (B 21 j 8) :: st) ad nw nt B L bc bs) : Es Cx nL pc lv (.ref (ad 21 j) :: st) ad nw nt B L bc bs := Es_get hC 8 uw_X2 rfl hlk (by decide) hd (ok21 hj) rfl rfl kk
theorem Sp_X2_8 {j : Nat} {x : Int32} (hC : je_Ok Cx own cc nL d) (hlk : Cond.fieldLink own idx (TX2 8).1 (TX2 8).2.1 (TX2 8).2.2.1 ∈ je_T) (hd : decode cc pc = .ok (.putfield idx, 3)) (hj : j < nt) (kk : Es Cx nL (pc + 3) lv st ad nw nt (uB B 21 j 8 x) L bc bs) : Es Cx nL pc lv (.int x :: .ref (ad 21 j) :: st) ad nw nt B L bc bs := Es_put hC 8 tyX2 tyX2_ok nmX2 uw_X2 rfl hlk (by decide) (by decide) (by decide +kernel) hd (ok21 hj) rfl (Nat.le_of_ble_eq_true rfl) (by simp [sC, uB, uL]) kk
theorem Sg_X2_9 {j : Nat} (hC : je_Ok Cx own cc nL d) (hlk : Cond.fieldLink own idx (TX2 9).1 (TX2 9).2.1 (TX2 9).2.2.1 ∈ je_T) (hd : decode cc pc = .ok (.getfield idx, 3)) (hj : j < nt) (kk : Es Cx nL (pc + 3) lv (.int (B 21 j 9) :: st) ad nw nt B L bc bs) : Es Cx nL pc lv (.ref (ad 21 j) :: st) ad nw nt B L bc bs := Es_get hC 9 uw_X2 rfl hlk (by decide) hd (ok21 hj) rfl rfl kk
theorem Sp_X2_9 {j : Nat} {x : Int32} (hC : je_Ok Cx own cc nL d) (hlk : Cond.fieldLink own idx (TX2 9).1 (TX2 9).2.1 (TX2 9).2.2.1 ∈ je_T) (hd : decode cc pc = .ok (.putfield idx, 3)) (hj : j < nt) (kk : Es Cx nL (pc + 3) lv st ad nw nt (uB B 21 j 9 x) L bc bs) : Es Cx nL pc lv (.int x :: .ref (ad 21 j) :: st) ad nw nt B L bc bs := Es_put hC 9 tyX2 tyX2_ok nmX2 uw_X2 rfl hlk (by decide) (by decide) (by decide +kernel) hd (ok21 hj) rfl (Nat.le_of_ble_eq_true rfl) (by simp [sC, uB, uL]) kk
theorem Sg_X2_10 {j : Nat} (hC : je_Ok Cx own cc nL d) (hlk : Cond.fieldLink own idx (TX2 10).1 (TX2 10).2.1 (TX2 10).2.2.1 ∈ je_T) (hd : decode cc pc = .ok (.getfield idx, 3)) (hj : j < nt) (kk : Es Cx nL (pc + 3) lv (.int (B 21 j 10) :: st) ad nw nt B L bc bs) : Es Cx nL pc lv (.ref (ad 21 j) :: st) ad nw nt B L bc bs := Es_get hC 10 uw_X2 rfl hlk (by decide) hd (ok21 hj) rfl rfl kk
theorem Sp_X2_10 {j : Nat} {x : Int32} (hC : je_Ok Cx own cc nL d) (hlk : Cond.fieldLink own idx (TX2 10).1 (TX2 10).2.1 (TX2 10).2.2.1 ∈ je_T) (hd : decode cc pc = .ok (.putfield idx, 3)) (hj : j < nt) (kk : Es Cx nL (pc + 3) lv st ad nw nt (uB B 21 j 10 x) L bc bs) : Es Cx nL pc lv (.int x :: .ref (ad 21 j) :: st) ad nw nt B L bc bs := Es_put hC 10 tyX2 tyX2_ok nmX2 uw_X2 rfl hlk (by decide) (by decide) (by decide +kernel) hd (ok21 hj) rfl (Nat.le_of_ble_eq_true rfl) (by simp [sC, uB, uL]) kk
theorem Sg_X2_11 {j : Nat} (hC : je_Ok Cx own cc nL d) (hlk : Cond.fieldLink own idx (TX2 11).1 (TX2 11).2.1 (TX2 11).2.2.1 ∈ je_T) (hd : decode cc pc = .ok (.getfield idx, 3)) (hj : j < nt) (kk : Es Cx nL (pc + 3) lv (.int (B 21 j 11) :: st) ad nw nt B L bc bs) : Es Cx nL pc lv (.ref (ad 21 j) :: st) ad nw nt B L bc bs := Es_get hC 11 uw_X2 rfl hlk (by decide) hd (ok21 hj) rfl rfl kk
theorem Sp_X2_11 {j : Nat} {x : Int32} (hC : je_Ok Cx own cc nL d) (hlk : Cond.fieldLink own idx (TX2 11).1 (TX2 11).2.1 (TX2 11).2.2.1 ∈ je_T) (hd : decode cc pc = .ok (.putfield idx, 3)) (hj : j < nt) (kk : Es Cx nL (pc + 3) lv st ad nw nt (uB B 21 j 11 x) L bc bs) : Es Cx nL pc lv (.int x :: .ref (ad 21 j) :: st) ad nw nt B L bc bs := Es_put hC 11 tyX2 tyX2_ok nmX2 uw_X2 rfl hlk (by decide) (by decide) (by decide +kernel) hd (ok21 hj) rfl (Nat.le_of_ble_eq_true rfl) (by simp [sC, uB, uL]) kk
theorem Sg_X3_0 {j : Nat} (hC : je_Ok Cx own cc nL d) (hlk : Cond.fieldLink own idx (TX3 0).1 (TX3 0).2.1 (TX3 0).2.2.1 ∈ je_T) (hd : decode cc pc = .ok (.getfield idx, 3)) (hj : j < nw) (kk : Es Cx nL (pc + 3) lv (.int (B 18 j 0) :: st) ad nw nt B L bc bs) : Es Cx nL pc lv (.ref (ad 18 j) :: st) ad nw nt B L bc bs := Es_get hC 0 uw_X3 rfl hlk (by decide) hd (ok18 hj) rfl rfl kk
theorem Sg_X3_1 {j : Nat} (hC : je_Ok Cx own cc nL d) (hlk : Cond.fieldLink own idx (TX3 1).1 (TX3 1).2.1 (TX3 1).2.2.1 ∈ je_T) (hd : decode cc pc = .ok (.getfield idx, 3)) (hj : j < nw) (kk : Es Cx nL (pc + 3) lv (.ref (ad 19 j) :: st) ad nw nt B L bc bs) : Es Cx nL pc lv (.ref (ad 18 j) :: st) ad nw nt B L bc bs := Es_get hC 1 uw_X3 rfl hlk (by decide) hd (ok18 hj) rfl rfl kk
theorem Sg_X3_2 {j : Nat} (hC : je_Ok Cx own cc nL d) (hlk : Cond.fieldLink own idx (TX3 2).1 (TX3 2).2.1 (TX3 2).2.2.1 ∈ je_T) (hd : decode cc pc = .ok (.getfield idx, 3)) (hj : j < nw) (kk : Es Cx nL (pc + 3) lv (.ref (ad 20 j) :: st) ad nw nt B L bc bs) : Es Cx nL pc lv (.ref (ad 18 j) :: st) ad nw nt B L bc bs := Es_get hC 2 uw_X3 rfl hlk (by decide) hd (ok18 hj) rfl rfl kk
theorem Sg_X3_3 {j : Nat} (hC : je_Ok Cx own cc nL d) (hlk : Cond.fieldLink own idx (TX3 3).1 (TX3 3).2.1 (TX3 3).2.2.1 ∈ je_T) (hd : decode cc pc = .ok (.getfield idx, 3)) (hj : j < nw) (kk : Es Cx nL (pc + 3) lv (.int (B 18 j 3) :: st) ad nw nt B L bc bs) : Es Cx nL pc lv (.ref (ad 18 j) :: st) ad nw nt B L bc bs := Es_get hC 3 uw_X3 rfl hlk (by decide) hd (ok18 hj) rfl rfl kk
theorem Sp_X3_3 {j : Nat} {x : Int32} (hC : je_Ok Cx own cc nL d) (hlk : Cond.fieldLink own idx (TX3 3).1 (TX3 3).2.1 (TX3 3).2.2.1 ∈ je_T) (hd : decode cc pc = .ok (.putfield idx, 3)) (hj : j < nw) (kk : Es Cx nL (pc + 3) lv st ad nw nt (uB B 18 j 3 x) L bc bs) : Es Cx nL pc lv (.int x :: .ref (ad 18 j) :: st) ad nw nt B L bc bs := Es_put hC 3 tyX3 tyX3_ok nmX3 uw_X3 rfl hlk (by decide) (by decide) (by decide +kernel) hd (ok18 hj) rfl (Nat.le_of_ble_eq_true rfl) (by simp [sC, uB, uL]) kk
theorem Sg_X4_0n (hC : je_Ok Cx own cc nL d) (hlk : Cond.fieldLink own idx (TX4 0).1 (TX4 0).2.1 (TX4 0).2.2.1 ∈ je_T) (hd : decode cc pc = .ok (.getfield idx, 3)) (kk : Es Cx nL (pc + 3) lv (.long (L 17 0 0) :: st) ad nw nt B L bc bs) : Es Cx nL pc lv (.ref (ad 17 0) :: st) ad nw nt B L bc bs := Es_get hC 0 uw_X4 rfl hlk (by decide) hd rfl rfl rfl kk
theorem Sp_X4_0n {x : Int64} (hC : je_Ok Cx own cc nL d) (hlk : Cond.fieldLink own idx (TX4 0).1 (TX4 0).2.1 (TX4 0).2.2.1 ∈ je_T) (hd : decode cc pc = .ok (.putfield idx, 3)) (kk : Es Cx nL (pc + 3) lv st ad nw nt B (uL L 17 0 0 x) bc bs) : Es Cx nL pc lv (.long x :: .ref (ad 17 0) :: st) ad nw nt B L bc bs := Es_putL hC 0 tyX4 tyX4_ok nmX4 uw_X4 rfl hlk (by decide) (by decide) (by decide +kernel) hd rfl rfl (Nat.le_of_ble_eq_true rfl) (by simp [sC, uB, uL]) kk
theorem Sg_X4_0 {j : Nat} (hC : je_Ok Cx own cc nL d) (hlk : Cond.fieldLink own idx (TX4 0).1 (TX4 0).2.1 (TX4 0).2.2.1 ∈ je_T) (hd : decode cc pc = .ok (.getfield idx, 3)) (hj : j < nt) (kk : Es Cx nL (pc + 3) lv (.long (L 24 j 0) :: st) ad nw nt B L bc bs) : Es Cx nL pc lv (.ref (ad 24 j) :: st) ad nw nt B L bc bs := Es_get hC 0 uw_X4 rfl hlk (by decide) hd (ok24 hj) rfl rfl kk
theorem Sp_X4_0 {j : Nat} {x : Int64} (hC : je_Ok Cx own cc nL d) (hlk : Cond.fieldLink own idx (TX4 0).1 (TX4 0).2.1 (TX4 0).2.2.1 ∈ je_T) (hd : decode cc pc = .ok (.putfield idx, 3)) (hj : j < nt) (kk : Es Cx nL (pc + 3) lv st ad nw nt B (uL L 24 j 0 x) bc bs) : Es Cx nL pc lv (.long x :: .ref (ad 24 j) :: st) ad nw nt B L bc bs := Es_putL hC 0 tyX4 tyX4_ok nmX4 uw_X4 rfl hlk (by decide) (by decide) (by decide +kernel) hd (ok24 hj) rfl (Nat.le_of_ble_eq_true rfl) (by simp [sC, uB, uL]) kk
theorem Sg_X4_1n (hC : je_Ok Cx own cc nL d) (hlk : Cond.fieldLink own idx (TX4 1).1 (TX4 1).2.1 (TX4 1).2.2.1 ∈ je_T) (hd : decode cc pc = .ok (.getfield idx, 3)) (kk : Es Cx nL (pc + 3) lv (.long (L 17 0 1) :: st) ad nw nt B L bc bs) : Es Cx nL pc lv (.ref (ad 17 0) :: st) ad nw nt B L bc bs := Es_get hC 1 uw_X4 rfl hlk (by decide) hd rfl rfl rfl kk
theorem Sp_X4_1n {x : Int64} (hC : je_Ok Cx own cc nL d) (hlk : Cond.fieldLink own idx (TX4 1).1 (TX4 1).2.1 (TX4 1).2.2.1 ∈ je_T) (hd : decode cc pc = .ok (.putfield idx, 3)) (kk : Es Cx nL (pc + 3) lv st ad nw nt B (uL L 17 0 1 x) bc bs) : Es Cx nL pc lv (.long x :: .ref (ad 17 0) :: st) ad nw nt B L bc bs := Es_putL hC 1 tyX4 tyX4_ok nmX4 uw_X4 rfl hlk (by decide) (by decide) (by decide +kernel) hd rfl rfl (Nat.le_of_ble_eq_true rfl) (by simp [sC, uB, uL]) kk
theorem Sg_X4_1 {j : Nat} (hC : je_Ok Cx own cc nL d) (hlk : Cond.fieldLink own idx (TX4 1).1 (TX4 1).2.1 (TX4 1).2.2.1 ∈ je_T) (hd : decode cc pc = .ok (.getfield idx, 3)) (hj : j < nt) (kk : Es Cx nL (pc + 3) lv (.long (L 24 j 1) :: st) ad nw nt B L bc bs) : Es Cx nL pc lv (.ref (ad 24 j) :: st) ad nw nt B L bc bs := Es_get hC 1 uw_X4 rfl hlk (by decide) hd (ok24 hj) rfl rfl kk
theorem Sp_X4_1 {j : Nat} {x : Int64} (hC : je_Ok Cx own cc nL d) (hlk : Cond.fieldLink own idx (TX4 1).1 (TX4 1).2.1 (TX4 1).2.2.1 ∈ je_T) (hd : decode cc pc = .ok (.putfield idx, 3)) (hj : j < nt) (kk : Es Cx nL (pc + 3) lv st ad nw nt B (uL L 24 j 1 x) bc bs) : Es Cx nL pc lv (.long x :: .ref (ad 24 j) :: st) ad nw nt B L bc bs := Es_putL hC 1 tyX4 tyX4_ok nmX4 uw_X4 rfl hlk (by decide) (by decide) (by decide +kernel) hd (ok24 hj) rfl (Nat.le_of_ble_eq_true rfl) (by simp [sC, uB, uL]) kk
theorem Sg_X5_0 (hC : je_Ok Cx own cc nL d) (hlk : Cond.fieldLink own idx (TX5 0).1 (TX5 0).2.1 (TX5 0).2.2.1 ∈ je_T) (hd : decode cc pc = .ok (.getfield idx, 3)) (kk : Es Cx nL (pc + 3) lv (.ref (ad 1 0) :: st) ad nw nt B L bc bs) : Es Cx nL pc lv (.ref (ad 0 0) :: st) ad nw nt B L bc bs := Es_get hC 0 uw_X5 rfl hlk (by decide) hd rfl rfl rfl kk
theorem Sg_X5_1 (hC : je_Ok Cx own cc nL d) (hlk : Cond.fieldLink own idx (TX5 1).1 (TX5 1).2.1 (TX5 1).2.2.1 ∈ je_T) (hd : decode cc pc = .ok (.getfield idx, 3)) (kk : Es Cx nL (pc + 3) lv (.ref (ad 2 0) :: st) ad nw nt B L bc bs) : Es Cx nL pc lv (.ref (ad 0 0) :: st) ad nw nt B L bc bs := Es_get hC 1 uw_X5 rfl hlk (by decide) hd rfl rfl rfl kk
theorem Sg_X5_2 (hC : je_Ok Cx own cc nL d) (hlk : Cond.fieldLink own idx (TX5 2).1 (TX5 2).2.1 (TX5 2).2.2.1 ∈ je_T) (hd : decode cc pc = .ok (.getfield idx, 3)) (kk : Es Cx nL (pc + 3) lv (.ref (ad 3 0) :: st) ad nw nt B L bc bs) : Es Cx nL pc lv (.ref (ad 0 0) :: st) ad nw nt B L bc bs := Es_get hC 2 uw_X5 rfl hlk (by decide) hd rfl rfl rfl kk
theorem Sg_X5_3 (hC : je_Ok Cx own cc nL d) (hlk : Cond.fieldLink own idx (TX5 3).1 (TX5 3).2.1 (TX5 3).2.2.1 ∈ je_T) (hd : decode cc pc = .ok (.getfield idx, 3)) (kk : Es Cx nL (pc + 3) lv (.ref (ad 4 0) :: st) ad nw nt B L bc bs) : Es Cx nL pc lv (.ref (ad 0 0) :: st) ad nw nt B L bc bs := Es_get hC 3 uw_X5 rfl hlk (by decide) hd rfl rfl rfl kk
theorem Sg_X5_4 (hC : je_Ok Cx own cc nL d) (hlk : Cond.fieldLink own idx (TX5 4).1 (TX5 4).2.1 (TX5 4).2.2.1 ∈ je_T) (hd : decode cc pc = .ok (.getfield idx, 3)) (kk : Es Cx nL (pc + 3) lv (.ref (ad 5 0) :: st) ad nw nt B L bc bs) : Es Cx nL pc lv (.ref (ad 0 0) :: st) ad nw nt B L bc bs := Es_get hC 4 uw_X5 rfl hlk (by decide) hd rfl rfl rfl kk
theorem Sg_X5_5 (hC : je_Ok Cx own cc nL d) (hlk : Cond.fieldLink own idx (TX5 5).1 (TX5 5).2.1 (TX5 5).2.2.1 ∈ je_T) (hd : decode cc pc = .ok (.getfield idx, 3)) (kk : Es Cx nL (pc + 3) lv (.ref (ad 6 0) :: st) ad nw nt B L bc bs) : Es Cx nL pc lv (.ref (ad 0 0) :: st) ad nw nt B L bc bs := Es_get hC 5 uw_X5 rfl hlk (by decide) hd rfl rfl rfl kk
theorem Sg_X5_6 (hC : je_Ok Cx own cc nL d) (hlk : Cond.fieldLink own idx (TX5 6).1 (TX5 6).2.1 (TX5 6).2.2.1 ∈ je_T) (hd : decode cc pc = .ok (.getfield idx, 3)) (kk : Es Cx nL (pc + 3) lv (.ref (ad 10 0) :: st) ad nw nt B L bc bs) : Es Cx nL pc lv (.ref (ad 0 0) :: st) ad nw nt B L bc bs := Es_get hC 6 uw_X5 rfl hlk (by decide) hd rfl rfl rfl kk
theorem Sg_X5_7 (hC : je_Ok Cx own cc nL d) (hlk : Cond.fieldLink own idx (TX5 7).1 (TX5 7).2.1 (TX5 7).2.2.1 ∈ je_T) (hd : decode cc pc = .ok (.getfield idx, 3)) (kk : Es Cx nL (pc + 3) lv (.ref (ad 17 0) :: st) ad nw nt B L bc bs) : Es Cx nL pc lv (.ref (ad 0 0) :: st) ad nw nt B L bc bs := Es_get hC 7 uw_X5 rfl hlk (by decide) hd rfl rfl rfl kk
theorem Sg_X5_8 (hC : je_Ok Cx own cc nL d) (hlk : Cond.fieldLink own idx (TX5 8).1 (TX5 8).2.1 (TX5 8).2.2.1 ∈ je_T) (hd : decode cc pc = .ok (.getfield idx, 3)) (kk : Es Cx nL (pc + 3) lv (.int (B 0 0 8) :: st) ad nw nt B L bc bs) : Es Cx nL pc lv (.ref (ad 0 0) :: st) ad nw nt B L bc bs := Es_get hC 8 uw_X5 rfl hlk (by decide) hd rfl rfl rfl kk
theorem Sp_X5_8 {x : Int32} (hC : je_Ok Cx own cc nL d) (hlk : Cond.fieldLink own idx (TX5 8).1 (TX5 8).2.1 (TX5 8).2.2.1 ∈ je_T) (hd : decode cc pc = .ok (.putfield idx, 3)) (kk : Es Cx nL (pc + 3) lv st ad nw nt (uB B 0 0 8 x) L bc bs) : Es Cx nL pc lv (.int x :: .ref (ad 0 0) :: st) ad nw nt B L bc bs := Es_put hC 8 tyX5 tyX5_ok nmX5 uw_X5 rfl hlk (by decide) (by decide) (by decide +kernel) hd rfl rfl (Nat.le_of_ble_eq_true rfl) (by simp [sC, uB, uL]) kk
theorem Sg_X5_9 (hC : je_Ok Cx own cc nL d) (hlk : Cond.fieldLink own idx (TX5 9).1 (TX5 9).2.1 (TX5 9).2.2.1 ∈ je_T) (hd : decode cc pc = .ok (.getfield idx, 3)) (kk : Es Cx nL (pc + 3) lv (.int (B 0 0 9) :: st) ad nw nt B L bc bs) : Es Cx nL pc lv (.ref (ad 0 0) :: st) ad nw nt B L bc bs := Es_get hC 9 uw_X5 rfl hlk (by decide) hd rfl rfl rfl kk
theorem Sp_X5_9 {x : Int32} (hC : je_Ok Cx own cc nL d) (hlk : Cond.fieldLink own idx (TX5 9).1 (TX5 9).2.1 (TX5 9).2.2.1 ∈ je_T) (hd : decode cc pc = .ok (.putfield idx, 3)) (kk : Es Cx nL (pc + 3) lv st ad nw nt (uB B 0 0 9 x) L bc bs) : Es Cx nL pc lv (.int x :: .ref (ad 0 0) :: st) ad nw nt B L bc bs := Es_put hC 9 tyX5 tyX5_ok nmX5 uw_X5 rfl hlk (by decide) (by decide) (by decide +kernel) hd rfl rfl (Nat.le_of_ble_eq_true rfl) (by simp [sC, uB, uL]) kk
theorem Sg_X5_10 (hC : je_Ok Cx own cc nL d) (hlk : Cond.fieldLink own idx (TX5 10).1 (TX5 10).2.1 (TX5 10).2.2.1 ∈ je_T) (hd : decode cc pc = .ok (.getfield idx, 3)) (kk : Es Cx nL (pc + 3) lv (.int (B 0 0 10) :: st) ad nw nt B L bc bs) : Es Cx nL pc lv (.ref (ad 0 0) :: st) ad nw nt B L bc bs := Es_get hC 10 uw_X5 rfl hlk (by decide) hd rfl rfl rfl kk
theorem Sp_X5_10 {x : Int32} (hC : je_Ok Cx own cc nL d) (hlk : Cond.fieldLink own idx (TX5 10).1 (TX5 10).2.1 (TX5 10).2.2.1 ∈ je_T) (hd : decode cc pc = .ok (.putfield idx, 3)) (kk : Es Cx nL (pc + 3) lv st ad nw nt (uB B 0 0 10 x) L bc bs) : Es Cx nL pc lv (.int x :: .ref (ad 0 0) :: st) ad nw nt B L bc bs := Es_put hC 10 tyX5 tyX5_ok nmX5 uw_X5 rfl hlk (by decide) (by decide) (by decide +kernel) hd rfl rfl (Nat.le_of_ble_eq_true rfl) (by simp [sC, uB, uL]) kk
theorem Sg_X5_11 (hC : je_Ok Cx own cc nL d) (hlk : Cond.fieldLink own idx (TX5 11).1 (TX5 11).2.1 (TX5 11).2.2.1 ∈ je_T) (hd : decode cc pc = .ok (.getfield idx, 3)) (kk : Es Cx nL (pc + 3) lv (.int (B 0 0 11) :: st) ad nw nt B L bc bs) : Es Cx nL pc lv (.ref (ad 0 0) :: st) ad nw nt B L bc bs := Es_get hC 11 uw_X5 rfl hlk (by decide) hd rfl rfl rfl kk
theorem Sp_X5_11 {x : Int32} (hC : je_Ok Cx own cc nL d) (hlk : Cond.fieldLink own idx (TX5 11).1 (TX5 11).2.1 (TX5 11).2.2.1 ∈ je_T) (hd : decode cc pc = .ok (.putfield idx, 3)) (kk : Es Cx nL (pc + 3) lv st ad nw nt (uB B 0 0 11 x) L bc bs) : Es Cx nL pc lv (.int x :: .ref (ad 0 0) :: st) ad nw nt B L bc bs := Es_put hC 11 tyX5 tyX5_ok nmX5 uw_X5 rfl hlk (by decide) (by decide) (by decide +kernel) hd rfl rfl (Nat.le_of_ble_eq_true rfl) (by simp [sC, uB, uL]) kk
theorem Sg_X6_0 (hC : je_Ok Cx own cc nL d) (hlk : Cond.fieldLink own idx (TX6 0).1 (TX6 0).2.1 (TX6 0).2.2.1 ∈ je_T) (hd : decode cc pc = .ok (.getfield idx, 3)) (kk : Es Cx nL (pc + 3) lv (.ref (ad 30 0) :: st) ad nw nt B L bc bs) : Es Cx nL pc lv (.ref (ad 25 0) :: st) ad nw nt B L bc bs := Es_get hC 0 uw_X6 rfl hlk (by decide) hd rfl rfl rfl kk
theorem Sg_X6_1 (hC : je_Ok Cx own cc nL d) (hlk : Cond.fieldLink own idx (TX6 1).1 (TX6 1).2.1 (TX6 1).2.2.1 ∈ je_T) (hd : decode cc pc = .ok (.getfield idx, 3)) (kk : Es Cx nL (pc + 3) lv (.ref (ad 31 0) :: st) ad nw nt B L bc bs) : Es Cx nL pc lv (.ref (ad 25 0) :: st) ad nw nt B L bc bs := Es_get hC 1 uw_X6 rfl hlk (by decide) hd rfl rfl rfl kk
theorem Sg_X6_2 (hC : je_Ok Cx own cc nL d) (hlk : Cond.fieldLink own idx (TX6 2).1 (TX6 2).2.1 (TX6 2).2.2.1 ∈ je_T) (hd : decode cc pc = .ok (.getfield idx, 3)) (kk : Es Cx nL (pc + 3) lv (.ref (ad 32 0) :: st) ad nw nt B L bc bs) : Es Cx nL pc lv (.ref (ad 25 0) :: st) ad nw nt B L bc bs := Es_get hC 2 uw_X6 rfl hlk (by decide) hd rfl rfl rfl kk
theorem Sg_X6_3 (hC : je_Ok Cx own cc nL d) (hlk : Cond.fieldLink own idx (TX6 3).1 (TX6 3).2.1 (TX6 3).2.2.1 ∈ je_T) (hd : decode cc pc = .ok (.getfield idx, 3)) (kk : Es Cx nL (pc + 3) lv (.int (B 25 0 3) :: st) ad nw nt B L bc bs) : Es Cx nL pc lv (.ref (ad 25 0) :: st) ad nw nt B L bc bs := Es_get hC 3 uw_X6 rfl hlk (by decide) hd rfl rfl rfl kk
theorem Sp_X6_3 {x : Int32} (hC : je_Ok Cx own cc nL d) (hlk : Cond.fieldLink own idx (TX6 3).1 (TX6 3).2.1 (TX6 3).2.2.1 ∈ je_T) (hd : decode cc pc = .ok (.putfield idx, 3)) (kk : Es Cx nL (pc + 3) lv st ad nw nt (uB B 25 0 3 x) L bc bs) : Es Cx nL pc lv (.int x :: .ref (ad 25 0) :: st) ad nw nt B L bc bs := Es_put hC 3 tyX6 tyX6_ok nmX6 uw_X6 rfl hlk (by decide) (by decide) (by decide +kernel) hd rfl rfl (Nat.le_of_ble_eq_true rfl) (by simp [sC, uB, uL]) kk
theorem Sg_X6_4 (hC : je_Ok Cx own cc nL d) (hlk : Cond.fieldLink own idx (TX6 4).1 (TX6 4).2.1 (TX6 4).2.2.1 ∈ je_T) (hd : decode cc pc = .ok (.getfield idx, 3)) (kk : Es Cx nL (pc + 3) lv (.int (B 25 0 4) :: st) ad nw nt B L bc bs) : Es Cx nL pc lv (.ref (ad 25 0) :: st) ad nw nt B L bc bs := Es_get hC 4 uw_X6 rfl hlk (by decide) hd rfl rfl rfl kk
theorem Sp_X6_4 {x : Int32} (hC : je_Ok Cx own cc nL d) (hlk : Cond.fieldLink own idx (TX6 4).1 (TX6 4).2.1 (TX6 4).2.2.1 ∈ je_T) (hd : decode cc pc = .ok (.putfield idx, 3)) (kk : Es Cx nL (pc + 3) lv st ad nw nt (uB B 25 0 4 x) L bc bs) : Es Cx nL pc lv (.int x :: .ref (ad 25 0) :: st) ad nw nt B L bc bs := Es_put hC 4 tyX6 tyX6_ok nmX6 uw_X6 rfl hlk (by decide) (by decide) (by decide +kernel) hd rfl rfl (Nat.le_of_ble_eq_true rfl) (by simp [sC, uB, uL]) kk
theorem Sg_X6_5 (hC : je_Ok Cx own cc nL d) (hlk : Cond.fieldLink own idx (TX6 5).1 (TX6 5).2.1 (TX6 5).2.2.1 ∈ je_T) (hd : decode cc pc = .ok (.getfield idx, 3)) (kk : Es Cx nL (pc + 3) lv (.int (B 25 0 5) :: st) ad nw nt B L bc bs) : Es Cx nL pc lv (.ref (ad 25 0) :: st) ad nw nt B L bc bs := Es_get hC 5 uw_X6 rfl hlk (by decide) hd rfl rfl rfl kk
theorem Sp_X6_5 {x : Int32} (hC : je_Ok Cx own cc nL d) (hlk : Cond.fieldLink own idx (TX6 5).1 (TX6 5).2.1 (TX6 5).2.2.1 ∈ je_T) (hd : decode cc pc = .ok (.putfield idx, 3)) (kk : Es Cx nL (pc + 3) lv st ad nw nt (uB B 25 0 5 x) L bc bs) : Es Cx nL pc lv (.int x :: .ref (ad 25 0) :: st) ad nw nt B L bc bs := Es_put hC 5 tyX6 tyX6_ok nmX6 uw_X6 rfl hlk (by decide) (by decide) (by decide +kernel) hd rfl rfl (Nat.le_of_ble_eq_true rfl) (by simp [sC, uB, uL]) kk
theorem Sg_X6_6 (hC : je_Ok Cx own cc nL d) (hlk : Cond.fieldLink own idx (TX6 6).1 (TX6 6).2.1 (TX6 6).2.2.1 ∈ je_T) (hd : decode cc pc = .ok (.getfield idx, 3)) (kk : Es Cx nL (pc + 3) lv (.int (B 25 0 6) :: st) ad nw nt B L bc bs) : Es Cx nL pc lv (.ref (ad 25 0) :: st) ad nw nt B L bc bs := Es_get hC 6 uw_X6 rfl hlk (by decide) hd rfl rfl rfl kk
theorem Sp_X6_6 {x : Int32} (hC : je_Ok Cx own cc nL d) (hlk : Cond.fieldLink own idx (TX6 6).1 (TX6 6).2.1 (TX6 6).2.2.1 ∈ je_T) (hd : decode cc pc = .ok (.putfield idx, 3)) (kk : Es Cx nL (pc + 3) lv st ad nw nt (uB B 25 0 6 x) L bc bs) : Es Cx nL pc lv (.int x :: .ref (ad 25 0) :: st) ad nw nt B L bc bs := Es_put hC 6 tyX6 tyX6_ok nmX6 uw_X6 rfl hlk (by decide) (by decide) (by decide +kernel) hd rfl rfl (Nat.le_of_ble_eq_true rfl) (by simp [sC, uB, uL]) kk
theorem Sg_X6_7 (hC : je_Ok Cx own cc nL d) (hlk : Cond.fieldLink own idx (TX6 7).1 (TX6 7).2.1 (TX6 7).2.2.1 ∈ je_T) (hd : decode cc pc = .ok (.getfield idx, 3)) (kk : Es Cx nL (pc + 3) lv (.int (B 25 0 7) :: st) ad nw nt B L bc bs) : Es Cx nL pc lv (.ref (ad 25 0) :: st) ad nw nt B L bc bs := Es_get hC 7 uw_X6 rfl hlk (by decide) hd rfl rfl rfl kk
theorem Sp_X6_7 {x : Int32} (hC : je_Ok Cx own cc nL d) (hlk : Cond.fieldLink own idx (TX6 7).1 (TX6 7).2.1 (TX6 7).2.2.1 ∈ je_T) (hd : decode cc pc = .ok (.putfield idx, 3)) (kk : Es Cx nL (pc + 3) lv st ad nw nt (uB B 25 0 7 x) L bc bs) : Es Cx nL pc lv (.int x :: .ref (ad 25 0) :: st) ad nw nt B L bc bs := Es_put hC 7 tyX6 tyX6_ok nmX6 uw_X6 rfl hlk (by decide) (by decide) (by decide +kernel) hd rfl rfl (Nat.le_of_ble_eq_true rfl) (by simp [sC, uB, uL]) kk
theorem Sg_X6_8 (hC : je_Ok Cx own cc nL d) (hlk : Cond.fieldLink own idx (TX6 8).1 (TX6 8).2.1 (TX6 8).2.2.1 ∈ je_T) (hd : decode cc pc = .ok (.getfield idx, 3)) (kk : Es Cx nL (pc + 3) lv (.ref (ad 38 0) :: st) ad nw nt B L bc bs) : Es Cx nL pc lv (.ref (ad 25 0) :: st) ad nw nt B L bc bs := Es_get hC 8 uw_X6 rfl hlk (by decide) hd rfl rfl rfl kk
theorem Sg_X6_9 (hC : je_Ok Cx own cc nL d) (hlk : Cond.fieldLink own idx (TX6 9).1 (TX6 9).2.1 (TX6 9).2.2.1 ∈ je_T) (hd : decode cc pc = .ok (.getfield idx, 3)) (kk : Es Cx nL (pc + 3) lv (.ref (ad 39 0) :: st) ad nw nt B L bc bs) : Es Cx nL pc lv (.ref (ad 25 0) :: st) ad nw nt B L bc bs := Es_get hC 9 uw_X6 rfl hlk (by decide) hd rfl rfl rfl kk
theorem Sg_X6_10 (hC : je_Ok Cx own cc nL d) (hlk : Cond.fieldLink own idx (TX6 10).1 (TX6 10).2.1 (TX6 10).2.2.1 ∈ je_T) (hd : decode cc pc = .ok (.getfield idx, 3)) (kk : Es Cx nL (pc + 3) lv (.ref (ad 40 0) :: st) ad nw nt B L bc bs) : Es Cx nL pc lv (.ref (ad 25 0) :: st) ad nw nt B L bc bs := Es_get hC 10 uw_X6 rfl hlk (by decide) hd rfl rfl rfl kk
theorem Sg_X6_11 (hC : je_Ok Cx own cc nL d) (hlk : Cond.fieldLink own idx (TX6 11).1 (TX6 11).2.1 (TX6 11).2.2.1 ∈ je_T) (hd : decode cc pc = .ok (.getfield idx, 3)) (kk : Es Cx nL (pc + 3) lv (.ref (ad 41 0) :: st) ad nw nt B L bc bs) : Es Cx nL pc lv (.ref (ad 25 0) :: st) ad nw nt B L bc bs := Es_get hC 11 uw_X6 rfl hlk (by decide) hd rfl rfl rfl kk
theorem Sg_X6_12 (hC : je_Ok Cx own cc nL d) (hlk : Cond.fieldLink own idx (TX6 12).1 (TX6 12).2.1 (TX6 12).2.2.1 ∈ je_T) (hd : decode cc pc = .ok (.getfield idx, 3)) (kk : Es Cx nL (pc + 3) lv (.ref (ad 42 0) :: st) ad nw nt B L bc bs) : Es Cx nL pc lv (.ref (ad 25 0) :: st) ad nw nt B L bc bs := Es_get hC 12 uw_X6 rfl hlk (by decide) hd rfl rfl rfl kk
theorem Sg_X6_13 (hC : je_Ok Cx own cc nL d) (hlk : Cond.fieldLink own idx (TX6 13).1 (TX6 13).2.1 (TX6 13).2.2.1 ∈ je_T) (hd : decode cc pc = .ok (.getfield idx, 3)) (kk : Es Cx nL (pc + 3) lv (.ref (ad 43 0) :: st) ad nw nt B L bc bs) : Es Cx nL pc lv (.ref (ad 25 0) :: st) ad nw nt B L bc bs := Es_get hC 13 uw_X6 rfl hlk (by decide) hd rfl rfl rfl kk
theorem Sg_X6_14 (hC : je_Ok Cx own cc nL d) (hlk : Cond.fieldLink own idx (TX6 14).1 (TX6 14).2.1 (TX6 14).2.2.1 ∈ je_T) (hd : decode cc pc = .ok (.getfield idx, 3)) (kk : Es Cx nL (pc + 3) lv (.ref (ad 44 0) :: st) ad nw nt B L bc bs) : Es Cx nL pc lv (.ref (ad 25 0) :: st) ad nw nt B L bc bs := Es_get hC 14 uw_X6 rfl hlk (by decide) hd rfl rfl rfl kk
theorem Sg_X6_15 (hC : je_Ok Cx own cc nL d) (hlk : Cond.fieldLink own idx (TX6 15).1 (TX6 15).2.1 (TX6 15).2.2.1 ∈ je_T) (hd : decode cc pc = .ok (.getfield idx, 3)) (kk : Es Cx nL (pc + 3) lv (.ref (ad 45 0) :: st) ad nw nt B L bc bs) : Es Cx nL pc lv (.ref (ad 25 0) :: st) ad nw nt B L bc bs := Es_get hC 15 uw_X6 rfl hlk (by decide) hd rfl rfl rfl kk
theorem Sg_X6_16 (hC : je_Ok Cx own cc nL d) (hlk : Cond.fieldLink own idx (TX6 16).1 (TX6 16).2.1 (TX6 16).2.2.1 ∈ je_T) (hd : decode cc pc = .ok (.getfield idx, 3)) (kk : Es Cx nL (pc + 3) lv (.ref (ad 46 0) :: st) ad nw nt B L bc bs) : Es Cx nL pc lv (.ref (ad 25 0) :: st) ad nw nt B L bc bs := Es_get hC 16 uw_X6 rfl hlk (by decide) hd rfl rfl rfl kk
theorem Sg_X6_17 (hC : je_Ok Cx own cc nL d) (hlk : Cond.fieldLink own idx (TX6 17).1 (TX6 17).2.1 (TX6 17).2.2.1 ∈ je_T) (hd : decode cc pc = .ok (.getfield idx, 3)) (kk : Es Cx nL (pc + 3) lv (.ref (ad 47 0) :: st) ad nw nt B L bc bs) : Es Cx nL pc lv (.ref (ad 25 0) :: st) ad nw nt B L bc bs := Es_get hC 17 uw_X6 rfl hlk (by decide) hd rfl rfl rfl kk
theorem Sg_X6_18 (hC : je_Ok Cx own cc nL d) (hlk : Cond.fieldLink own idx (TX6 18).1 (TX6 18).2.1 (TX6 18).2.2.1 ∈ je_T) (hd : decode cc pc = .ok (.getfield idx, 3)) (kk : Es Cx nL (pc + 3) lv (.ref (ad 48 0) :: st) ad nw nt B L bc bs) : Es Cx nL pc lv (.ref (ad 25 0) :: st) ad nw nt B L bc bs := Es_get hC 18 uw_X6 rfl hlk (by decide) hd rfl rfl rfl kk
theorem Sg_X6_19 (hC : je_Ok Cx own cc nL d) (hlk : Cond.fieldLink own idx (TX6 19).1 (TX6 19).2.1 (TX6 19).2.2.1 ∈ je_T) (hd : decode cc pc = .ok (.getfield idx, 3)) (kk : Es Cx nL (pc + 3) lv (.ref (ad 49 0) :: st) ad nw nt B L bc bs) : Es Cx nL pc lv (.ref (ad 25 0) :: st) ad nw nt B L bc bs := Es_get hC 19 uw_X6 rfl hlk (by decide) hd rfl rfl rfl kk
theorem Sg_X6_20 (hC : je_Ok Cx own cc nL d) (hlk : Cond.fieldLink own idx (TX6 20).1 (TX6 20).2.1 (TX6 20).2.2.1 ∈ je_T) (hd : decode cc pc = .ok (.getfield idx, 3)) (kk : Es Cx nL (pc + 3) lv (.ref (ad 50 0) :: st) ad nw nt B L bc bs) : Es Cx nL pc lv (.ref (ad 25 0) :: st) ad nw nt B L bc bs := Es_get hC 20 uw_X6 rfl hlk (by decide) hd rfl rfl rfl kk
theorem Sg_X6_21 (hC : je_Ok Cx own cc nL d) (hlk : Cond.fieldLink own idx (TX6 21).1 (TX6 21).2.1 (TX6 21).2.2.1 ∈ je_T) (hd : decode cc pc = .ok (.getfield idx, 3)) (kk : Es Cx nL (pc + 3) lv (.ref (ad 51 0) :: st) ad nw nt B L bc bs) : Es Cx nL pc lv (.ref (ad 25 0) :: st) ad nw nt B L bc bs := Es_get hC 21 uw_X6 rfl hlk (by decide) hd rfl rfl rfl kk
theorem Sg_X6_22 (hC : je_Ok Cx own cc nL d) (hlk : Cond.fieldLink own idx (TX6 22).1 (TX6 22).2.1 (TX6 22).2.2.1 ∈ je_T) (hd : decode cc pc = .ok (.getfield idx, 3)) (kk : Es Cx nL (pc + 3) lv (.ref (ad 52 0) :: st) ad nw nt B L bc bs) : Es Cx nL pc lv (.ref (ad 25 0) :: st) ad nw nt B L bc bs := Es_get hC 22 uw_X6 rfl hlk (by decide) hd rfl rfl rfl kk
theorem Sg_X6_23 (hC : je_Ok Cx own cc nL d) (hlk : Cond.fieldLink own idx (TX6 23).1 (TX6 23).2.1 (TX6 23).2.2.1 ∈ je_T) (hd : decode cc pc = .ok (.getfield idx, 3)) (kk : Es Cx nL (pc + 3) lv (.ref (ad 53 0) :: st) ad nw nt B L bc bs) : Es Cx nL pc lv (.ref (ad 25 0) :: st) ad nw nt B L bc bs := Es_get hC 23 uw_X6 rfl hlk (by decide) hd rfl rfl rfl kk
theorem Sg_X6_24 (hC : je_Ok Cx own cc nL d) (hlk : Cond.fieldLink own idx (TX6 24).1 (TX6 24).2.1 (TX6 24).2.2.1 ∈ je_T) (hd : decode cc pc = .ok (.getfield idx, 3)) (kk : Es Cx nL (pc + 3) lv (.ref (ad 54 0) :: st) ad nw nt B L bc bs) : Es Cx nL pc lv (.ref (ad 25 0) :: st) ad nw nt B L bc bs := Es_get hC 24 uw_X6 rfl hlk (by decide) hd rfl rfl rfl kk
theorem Sg_X6_25 (hC : je_Ok Cx own cc nL d) (hlk : Cond.fieldLink own idx (TX6 25).1 (TX6 25).2.1 (TX6 25).2.2.1 ∈ je_T) (hd : decode cc pc = .ok (.getfield idx, 3)) (kk : Es Cx nL (pc + 3) lv (.long (L 25 0 25) :: st) ad nw nt B L bc bs) : Es Cx nL pc lv (.ref (ad 25 0) :: st) ad nw nt B L bc bs := Es_get hC 25 uw_X6 rfl hlk (by decide) hd rfl rfl rfl kk
theorem Sp_X6_25 {x : Int64} (hC : je_Ok Cx own cc nL d) (hlk : Cond.fieldLink own idx (TX6 25).1 (TX6 25).2.1 (TX6 25).2.2.1 ∈ je_T) (hd : decode cc pc = .ok (.putfield idx, 3)) (kk : Es Cx nL (pc + 3) lv st ad nw nt B (uL L 25 0 25 x) bc bs) : Es Cx nL pc lv (.long x :: .ref (ad 25 0) :: st) ad nw nt B L bc bs := Es_putL hC 25 tyX6 tyX6_ok nmX6 uw_X6 rfl hlk (by decide) (by decide) (by decide +kernel) hd rfl rfl (Nat.le_of_ble_eq_true rfl) (by simp [sC, uB, uL]) kk
theorem Sg_X6_26 (hC : je_Ok Cx own cc nL d) (hlk : Cond.fieldLink own idx (TX6 26).1 (TX6 26).2.1 (TX6 26).2.2.1 ∈ je_T) (hd : decode cc pc = .ok (.getfield idx, 3)) (kk : Es Cx nL (pc + 3) lv (.long (L 25 0 26) :: st) ad nw nt B L bc bs) : Es Cx nL pc lv (.ref (ad 25 0) :: st) ad nw nt B L bc bs := Es_get hC 26 uw_X6 rfl hlk (by decide) hd rfl rfl rfl kk
theorem Sp_X6_26 {x : Int64} (hC : je_Ok Cx own cc nL d) (hlk : Cond.fieldLink own idx (TX6 26).1 (TX6 26).2.1 (TX6 26).2.2.1 ∈ je_T) (hd : decode cc pc = .ok (.putfield idx, 3)) (kk : Es Cx nL (pc + 3) lv st ad nw nt B (uL L 25 0 26 x) bc bs) : Es Cx nL pc lv (.long x :: .ref (ad 25 0) :: st) ad nw nt B L bc bs := Es_putL hC 26 tyX6 tyX6_ok nmX6 uw_X6 rfl hlk (by decide) (by decide) (by decide +kernel) hd rfl rfl (Nat.le_of_ble_eq_true rfl) (by simp [sC, uB, uL]) kk
theorem Sg_X6_27 (hC : je_Ok Cx own cc nL d) (hlk : Cond.fieldLink own idx (TX6 27).1 (TX6 27).2.1 (TX6 27).2.2.1 ∈ je_T) (hd : decode cc pc = .ok (.getfield idx, 3)) (kk : Es Cx nL (pc + 3) lv (.ref (ad 57 0) :: st) ad nw nt B L bc bs) : Es Cx nL pc lv (.ref (ad 25 0) :: st) ad nw nt B L bc bs := Es_get hC 27 uw_X6 rfl hlk (by decide) hd rfl rfl rfl kk
theorem Sg_X6_28 (hC : je_Ok Cx own cc nL d) (hlk : Cond.fieldLink own idx (TX6 28).1 (TX6 28).2.1 (TX6 28).2.2.1 ∈ je_T) (hd : decode cc pc = .ok (.getfield idx, 3)) (kk : Es Cx nL (pc + 3) lv (.ref (ad 58 0) :: st) ad nw nt B L bc bs) : Es Cx nL pc lv (.ref (ad 25 0) :: st) ad nw nt B L bc bs := Es_get hC 28 uw_X6 rfl hlk (by decide) hd rfl rfl rfl kk
theorem Sg_X6_29 (hC : je_Ok Cx own cc nL d) (hlk : Cond.fieldLink own idx (TX6 29).1 (TX6 29).2.1 (TX6 29).2.2.1 ∈ je_T) (hd : decode cc pc = .ok (.getfield idx, 3)) (kk : Es Cx nL (pc + 3) lv (.ref (ad 59 0) :: st) ad nw nt B L bc bs) : Es Cx nL pc lv (.ref (ad 25 0) :: st) ad nw nt B L bc bs := Es_get hC 29 uw_X6 rfl hlk (by decide) hd rfl rfl rfl kk
theorem Sg_X6_30 (hC : je_Ok Cx own cc nL d) (hlk : Cond.fieldLink own idx (TX6 30).1 (TX6 30).2.1 (TX6 30).2.2.1 ∈ je_T) (hd : decode cc pc = .ok (.getfield idx, 3)) (kk : Es Cx nL (pc + 3) lv (.ref (ad 60 0) :: st) ad nw nt B L bc bs) : Es Cx nL pc lv (.ref (ad 25 0) :: st) ad nw nt B L bc bs := Es_get hC 30 uw_X6 rfl hlk (by decide) hd rfl rfl rfl kk
theorem Sg_X6_31 (hC : je_Ok Cx own cc nL d) (hlk : Cond.fieldLink own idx (TX6 31).1 (TX6 31).2.1 (TX6 31).2.2.1 ∈ je_T) (hd : decode cc pc = .ok (.getfield idx, 3)) (kk : Es Cx nL (pc + 3) lv (.int (B 25 0 31) :: st) ad nw nt B L bc bs) : Es Cx nL pc lv (.ref (ad 25 0) :: st) ad nw nt B L bc bs := Es_get hC 31 uw_X6 rfl hlk (by decide) hd rfl rfl rfl kk
theorem Sp_X6_31 {x : Int32} (hC : je_Ok Cx own cc nL d) (hlk : Cond.fieldLink own idx (TX6 31).1 (TX6 31).2.1 (TX6 31).2.2.1 ∈ je_T) (hd : decode cc pc = .ok (.putfield idx, 3)) (kk : Es Cx nL (pc + 3) lv st ad nw nt (uB B 25 0 31 x) L bc bs) : Es Cx nL pc lv (.int x :: .ref (ad 25 0) :: st) ad nw nt B L bc bs := Es_put hC 31 tyX6 tyX6_ok nmX6 uw_X6 rfl hlk (by decide) (by decide) (by decide +kernel) hd rfl rfl (Nat.le_of_ble_eq_true rfl) (by simp [sC, uB, uL]) kk
theorem Sg_X6_32 (hC : je_Ok Cx own cc nL d) (hlk : Cond.fieldLink own idx (TX6 32).1 (TX6 32).2.1 (TX6 32).2.2.1 ∈ je_T) (hd : decode cc pc = .ok (.getfield idx, 3)) (kk : Es Cx nL (pc + 3) lv (.int (B 25 0 32) :: st) ad nw nt B L bc bs) : Es Cx nL pc lv (.ref (ad 25 0) :: st) ad nw nt B L bc bs := Es_get hC 32 uw_X6 rfl hlk (by decide) hd rfl rfl rfl kk
theorem Sp_X6_32 {x : Int32} (hC : je_Ok Cx own cc nL d) (hlk : Cond.fieldLink own idx (TX6 32).1 (TX6 32).2.1 (TX6 32).2.2.1 ∈ je_T) (hd : decode cc pc = .ok (.putfield idx, 3)) (kk : Es Cx nL (pc + 3) lv st ad nw nt (uB B 25 0 32 x) L bc bs) : Es Cx nL pc lv (.int x :: .ref (ad 25 0) :: st) ad nw nt B L bc bs := Es_put hC 32 tyX6 tyX6_ok nmX6 uw_X6 rfl hlk (by decide) (by decide) (by decide +kernel) hd rfl rfl (Nat.le_of_ble_eq_true rfl) (by simp [sC, uB, uL]) kk
theorem Sg_X6_33 (hC : je_Ok Cx own cc nL d) (hlk : Cond.fieldLink own idx (TX6 33).1 (TX6 33).2.1 (TX6 33).2.2.1 ∈ je_T) (hd : decode cc pc = .ok (.getfield idx, 3)) (kk : Es Cx nL (pc + 3) lv (.int (B 25 0 33) :: st) ad nw nt B L bc bs) : Es Cx nL pc lv (.ref (ad 25 0) :: st) ad nw nt B L bc bs := Es_get hC 33 uw_X6 rfl hlk (by decide) hd rfl rfl rfl kk
theorem Sp_X6_33 {x : Int32} (hC : je_Ok Cx own cc nL d) (hlk : Cond.fieldLink own idx (TX6 33).1 (TX6 33).2.1 (TX6 33).2.2.1 ∈ je_T) (hd : decode cc pc = .ok (.putfield idx, 3)) (kk : Es Cx nL (pc + 3) lv st ad nw nt (uB B 25 0 33 x) L bc bs) : Es Cx nL pc lv (.int x :: .ref (ad 25 0) :: st) ad nw nt B L bc bs := Es_put hC 33 tyX6 tyX6_ok nmX6 uw_X6 rfl hlk (by decide) (by decide) (by decide +kernel) hd rfl rfl (Nat.le_of_ble_eq_true rfl) (by simp [sC, uB, uL]) kk
theorem Es_ialdN {kd j n k : Nat} {i : Int32} (hC : je_Ok Cx own cc nL d) (hd : decode cc pc = .ok (.iaload, 1)) (hk : sOk nw nt kd j = true) (hcell : sC ad nw nt B L kd j = ai n (B kd j)) (hi : i = nI k) (hn : k < n) (h31 : n < 2 ^ 31) (kk : Es Cx nL (pc + 1) lv (.int (B kd j k) :: st) ad nw nt B L bc bs) : Es Cx nL pc lv (.int i :: .ref (ad kd j) :: st) ad nw nt B L bc bs := by
  subst hi
  refine Es_iald hC hd hk hcell (vp_in_nI hn h31) ?_
  rw [nI_clamp (by omega)]
  exact kk
theorem Es_iastN {kd j n k : Nat} {i x : Int32} (hC : je_Ok Cx own cc nL d) (hd : decode cc pc = .ok (.iastore, 1)) (hk : sOk nw nt kd j = true) (hcell : ∀ B' : sB, sC ad nw nt B' L kd j = ai n (B' kd j)) (hi : i = nI k) (hn : k < n) (h31 : n < 2 ^ 31) (kk : Es Cx nL (pc + 1) lv st ad nw nt (uB B kd j k x) L bc bs) : Es Cx nL pc lv (.int x :: .int i :: .ref (ad kd j) :: st) ad nw nt B L bc bs := by
  subst hi
  refine Es_iast hC hd hk hcell (vp_in_nI hn h31) ?_
  rw [nI_clamp (by omega)]
  exact kk
theorem Es_aaldN {kd j n t k : Nat} {f : Nat → Option Nat} {i : Int32} {v : Value} (hC : je_Ok Cx own cc nL d) (ht3 : t = 1 ∨ t = 2) (hd : decode cc pc = .ok (.aaload, 1)) (hk : sOk nw nt kd j = true) (hcell : sC ad nw nt B L kd j = ar t n f) (hi : i = nI k) (hn : k < n) (h31 : n < 2 ^ 31) (hv : va_rf (f k) = v) (kk : Es Cx nL (pc + 1) lv (v :: st) ad nw nt B L bc bs) : Es Cx nL pc lv (.int i :: .ref (ad kd j) :: st) ad nw nt B L bc bs := by
  subst hi
  refine Es_aald hC ht3 hd hk hcell (vp_in_nI hn h31) ?_
  rw [nI_clamp (by omega), hv]
  exact kk
end ACC
end
section
/-! words on numbers: in a range, or out of it -/
def out (x : Int32) (n : Nat) : Prop := x < 0 ∨ nI n ≤ x
theorem in_out (x : Int32) {n : Nat} (hn : n < 2 ^ 31) : (∃ j, j < n ∧ x = nI j) ∨ out x n := by
  rcases pk_ix x hn with h | h | ⟨j, h1, h2⟩
  · exact Or.inr (Or.inl h)
  · exact Or.inr (Or.inr h)
  · exact Or.inl ⟨j, h1, h2⟩
theorem out_no {x : Int32} {n : Nat} (h : out x n) (h1 : ¬ x < 0) (h2 : ¬ nI n ≤ x) : False := h.elim h1 h2
def outs (x lo hi : Int32) : Int32 := if x < lo then -4 else if hi < x then -6 else 0
def bI (p : Prop) [Decidable p] : Int32 := if p then 1 else 0
section AST
variable {Cx : je_C} {own : String} {cc : ByteArray} {nL d pc bc bs : Nat} {lv : je_V0} {st : List Value} {ad : sA} {nw nt : Nat} {B : sB} {L : sL}
theorem Es_aastK {kd j t k : Nat} {i : Int32} (hC : je_Ok Cx own cc nL d) (hd : decode cc pc = .ok (.aastore, 1)) (hk : sOk nw nt kd j = true) (hcell : ∀ B' : sB, sC ad nw nt B' L kd j = ar 1 7 (fun i => rT ad (B' kd j i))) (hi : i = nI k) (hk7 : k < 7) (ht : t < nt) (ht2 : t < 2 ^ 31) (kk : Es Cx nL (pc + 1) lv st ad nw nt (uB B kd j k (nI t)) L bc bs) : Es Cx nL pc lv (.ref (ad 21 t) :: .int i :: .ref (ad kd j) :: st) ad nw nt B L bc bs := by
  subst hi
  refine Es_aast hC hd hk hcell (vp_in_nI hk7 (by decide)) ht ht2 ?_
  rw [nI_clamp (by omega)]
  exact kk
theorem Es_aastNK {kd j k : Nat} {i : Int32} (hC : je_Ok Cx own cc nL d) (hd : decode cc pc = .ok (.aastore, 1)) (hk : sOk nw nt kd j = true) (hcell : ∀ B' : sB, sC ad nw nt B' L kd j = ar 1 7 (fun i => rT ad (B' kd j i))) (hi : i = nI k) (hk7 : k < 7) (kk : Es Cx nL (pc + 1) lv st ad nw nt (uB B kd j k (-1)) L bc bs) : Es Cx nL pc lv (.null :: .int i :: .ref (ad kd j) :: st) ad nw nt B L bc bs := by
  subst hi
  refine Es_aastN hC hd hk hcell (vp_in_nI hk7 (by decide)) ?_
  rw [nI_clamp (by omega)]
  exact kk
end AST
end
section
set_option maxRecDepth 100000 in
set_option maxHeartbeats 4000000 in
theorem c_at {ad : sA} {nw nt : Nat} {B : sB} {L : sL} {kd j n k : Nat} {i : Int32} (hk : sOk nw nt kd j = true) (hcell : sC ad nw nt B L kd j = ai n (B kd j)) (hi : i = nI k) (hn : k < n) (h31 : n < 2 ^ 31) : Cf yX5_at cX5_at 2 (some FieldType.int) 0 [.ref (ad kd j), .int i] ad nw nt B L (some (.int (B kd j k))) (B) (L) := by
  have hC : ∀ Q, je_Ok (sCm yX5_at cX5_at 2 (some FieldType.int) 0 ad nw nt Q) RX5 cX5_at 2 0 := fun _ => je_Cm_ok
  refine Cs_of [some (.ref (ad kd j)), some (.int i)] (by decide) rfl (Nat.le_of_ble_eq_true rfl) ?_
  subst hi
  refine Es_iload_n (hC _) dX5_at_0 rfl ?_
  refine Es_if_lt (hC _) 16 dX5_at_1 (by decide) (fun hb1 => False.elim (nI_pos (by omega) hb1)) (fun hb1 => ?_)
  refine Es_iload_n (hC _) dX5_at_4 rfl ?_
  first | refine Es_aload_n (hC _) dX5_at_5 rfl ?_ | refine Es_aload_nN (hC _) dX5_at_5 rfl ?_
  refine Es_alen (t := 0) (x := (n, .inl (B kd j))) (hC _) dX5_at_6 hk hcell (by decide) ?_
  refine Es_icmp_ge (hC _) 16 dX5_at_7 (by decide) (fun hb7 => False.elim (nI_ge hn h31 hb7)) (fun hb7 => ?_)
  first | refine Es_aload_n (hC _) dX5_at_10 rfl ?_ | refine Es_aload_nN (hC _) dX5_at_10 rfl ?_
  refine Es_iload_n (hC _) dX5_at_11 rfl ?_
  refine Es_ialdN (hC _) dX5_at_12 hk hcell rfl hn h31 ?_
  refine Es_goto (hC _) 17 dX5_at_13 (by decide) ?_
  exact Es_iret dX5_at_17 rfl ⟨rfl, rfl, rfl⟩

set_option maxRecDepth 100000 in
set_option maxHeartbeats 4000000 in
theorem c_write {ad : sA} {nw nt : Nat} {B : sB} {L : sL} {kd j n k : Nat} {i x : Int32} (hk : sOk nw nt kd j = true) (hcell : ∀ B : sB, sC ad nw nt B L kd j = ai n (B kd j)) (hi : i = nI k) (hn : k < n) (h31 : n < 2 ^ 31) : Cf yX5_write cX5_write 3 none 0 [.ref (ad kd j), .int i, .int x] ad nw nt B L (none) (uB B kd j k x) (L) := by
  have hC : ∀ Q, je_Ok (sCm yX5_write cX5_write 3 none 0 ad nw nt Q) RX5 cX5_write 3 0 := fun _ => je_Cm_ok
  refine Cs_of [some (.ref (ad kd j)), some (.int i), some (.int x)] (by decide) rfl (Nat.le_of_ble_eq_true rfl) ?_
  subst hi
  refine Es_iload_n (hC _) dX5_write_0 rfl ?_
  refine Es_if_lt (hC _) 14 dX5_write_1 (by decide) (fun hb1 => False.elim (nI_pos (by omega) hb1)) (fun hb1 => ?_)
  refine Es_iload_n (hC _) dX5_write_4 rfl ?_
  first | refine Es_aload_n (hC _) dX5_write_5 rfl ?_ | refine Es_aload_nN (hC _) dX5_write_5 rfl ?_
  refine Es_alen (t := 0) (x := (n, .inl (B kd j))) (hC _) dX5_write_6 hk (hcell B) (by decide) ?_
  refine Es_icmp_ge (hC _) 14 dX5_write_7 (by decide) (fun hb7 => False.elim (nI_ge hn h31 hb7)) (fun hb7 => ?_)
  first | refine Es_aload_n (hC _) dX5_write_10 rfl ?_ | refine Es_aload_nN (hC _) dX5_write_10 rfl ?_
  refine Es_iload_n (hC _) dX5_write_11 rfl ?_
  refine Es_iload_n (hC _) dX5_write_12 rfl ?_
  refine Es_iastN (hC _) dX5_write_13 hk hcell rfl hn h31 ?_
  exact Es_vret dX5_write_14 ⟨rfl, rfl, rfl⟩

set_option maxRecDepth 100000 in
set_option maxHeartbeats 4000000 in
theorem c_outside {ad : sA} {nw nt : Nat} {B : sB} {L : sL} {x lo hi : Int32} : Cf yX5_outside cX5_outside 3 (some FieldType.int) 0 [.int x, .int lo, .int hi] ad nw nt B L (some (.int (outs x lo hi))) (B) (L) := by
  have hC : ∀ Q, je_Ok (sCm yX5_outside cX5_outside 3 (some FieldType.int) 0 ad nw nt Q) RX5 cX5_outside 3 0 := fun _ => je_Cm_ok
  refine Cs_of [some (.int x), some (.int lo), some (.int hi)] (by decide) rfl (Nat.le_of_ble_eq_true rfl) ?_
  refine Es_iload_n (hC _) dX5_outside_0 rfl ?_
  refine Es_iload_n (hC _) dX5_outside_1 rfl ?_
  refine Es_icmp_ge (hC _) 10 dX5_outside_2 (by decide) (fun hb2 => ?_) (fun hb2 => ?_)
  · refine Es_iload_n (hC _) dX5_outside_10 rfl ?_
    refine Es_iload_n (hC _) dX5_outside_11 rfl ?_
    refine Es_icmp_le (hC _) 20 dX5_outside_12 (by decide) (fun hb12 => ?_) (fun hb12 => ?_)
    · refine Es_iconst (v := 0) (hC _) dX5_outside_20 (by decide) ?_
      exact Es_iret dX5_outside_21 rfl ⟨by simp only [outs]; first | rw [if_pos (Int32.not_le.mp hb2)] | rw [if_neg (Int32.not_lt.mpr hb2), if_neg (Int32.not_lt.mpr hb12)] | rw [if_neg (Int32.not_lt.mpr hb2), if_pos (Int32.not_le.mp hb12)], rfl, rfl⟩
    · refine Es_bipush (v := -6) (hC _) dX5_outside_15 (by decide) ?_
      refine Es_goto (hC _) 21 dX5_outside_17 (by decide) ?_
      exact Es_iret dX5_outside_21 rfl ⟨by simp only [outs]; first | rw [if_pos (Int32.not_le.mp hb2)] | rw [if_neg (Int32.not_lt.mpr hb2), if_neg (Int32.not_lt.mpr hb12)] | rw [if_neg (Int32.not_lt.mpr hb2), if_pos (Int32.not_le.mp hb12)], rfl, rfl⟩
  · refine Es_bipush (v := -4) (hC _) dX5_outside_5 (by decide) ?_
    refine Es_goto (hC _) 21 dX5_outside_7 (by decide) ?_
    exact Es_iret dX5_outside_21 rfl ⟨by simp only [outs]; first | rw [if_pos (Int32.not_le.mp hb2)] | rw [if_neg (Int32.not_lt.mpr hb2), if_neg (Int32.not_lt.mpr hb12)] | rw [if_neg (Int32.not_lt.mpr hb2), if_pos (Int32.not_le.mp hb12)], rfl, rfl⟩

set_option maxRecDepth 100000 in
set_option maxHeartbeats 4000000 in
theorem c_isKind_in {ad : sA} {nw nt : Nat} {B : sB} {L : sL} {j : Nat} (hj : j < 5) : Cf yX5_isKind cX5_isKind 1 (some FieldType.boolean) 0 [.int (nI j)] ad nw nt B L (some (.int 1)) (B) (L) := by
  have hC : ∀ Q, je_Ok (sCm yX5_isKind cX5_isKind 1 (some FieldType.boolean) 0 ad nw nt Q) RX5 cX5_isKind 1 0 := fun _ => je_Cm_ok
  refine Cs_of [some (.int (nI j))] (by decide) rfl (Nat.le_of_ble_eq_true rfl) ?_
  refine Es_iload_n (hC _) dX5_isKind_0 rfl ?_
  refine Es_if_lt (hC _) 13 dX5_isKind_1 (by decide) (fun hb1 => False.elim (nI_pos (by omega) hb1)) (fun hb1 => ?_)
  refine Es_iload_n (hC _) dX5_isKind_4 rfl ?_
  refine Es_iconst (v := 4) (hC _) dX5_isKind_5 (by decide) ?_
  refine Es_icmp_gt (hC _) 13 dX5_isKind_6 (by decide) (fun hb6 => False.elim (nI_nlt (a := 4) (b := j) (by omega) (by omega) hb6)) (fun hb6 => ?_)
  refine Es_iconst (v := 1) (hC _) dX5_isKind_9 (by decide) ?_
  refine Es_goto (hC _) 14 dX5_isKind_10 (by decide) ?_
  exact Es_iret dX5_isKind_14 rfl ⟨rfl, rfl, rfl⟩

set_option maxRecDepth 100000 in
set_option maxHeartbeats 4000000 in
theorem c_isKind_out {ad : sA} {nw nt : Nat} {B : sB} {L : sL} {x : Int32} (ho : out x 5) : Cf yX5_isKind cX5_isKind 1 (some FieldType.boolean) 0 [.int x] ad nw nt B L (some (.int 0)) (B) (L) := by
  have hC : ∀ Q, je_Ok (sCm yX5_isKind cX5_isKind 1 (some FieldType.boolean) 0 ad nw nt Q) RX5 cX5_isKind 1 0 := fun _ => je_Cm_ok
  refine Cs_of [some (.int x)] (by decide) rfl (Nat.le_of_ble_eq_true rfl) ?_
  refine Es_iload_n (hC _) dX5_isKind_0 rfl ?_
  refine Es_if_lt (hC _) 13 dX5_isKind_1 (by decide) (fun hb1 => ?_) (fun hb1 => ?_)
  · refine Es_iconst (v := 0) (hC _) dX5_isKind_13 (by decide) ?_
    exact Es_iret dX5_isKind_14 rfl ⟨rfl, rfl, rfl⟩
  · refine Es_iload_n (hC _) dX5_isKind_4 rfl ?_
    refine Es_iconst (v := 4) (hC _) dX5_isKind_5 (by decide) ?_
    refine Es_icmp_gt (hC _) 13 dX5_isKind_6 (by decide) (fun hb6 => ?_) (fun hb6 => ?_)
    · refine Es_iconst (v := 0) (hC _) dX5_isKind_13 (by decide) ?_
      exact Es_iret dX5_isKind_14 rfl ⟨rfl, rfl, rfl⟩
    · exact (ho.elim hb1 (fun z => hb6 (Int32.lt_of_lt_of_le (show (4 : Int32) < nI 5 by decide) z))).elim

set_option maxRecDepth 100000 in
set_option maxHeartbeats 4000000 in
theorem c_isMaker_in {ad : sA} {nw nt : Nat} {B : sB} {L : sL} {j : Nat} (hj : j < 4) : Cf yX5_isMaker cX5_isMaker 1 (some FieldType.boolean) 0 [.int (nI j)] ad nw nt B L (some (.int 1)) (B) (L) := by
  have hC : ∀ Q, je_Ok (sCm yX5_isMaker cX5_isMaker 1 (some FieldType.boolean) 0 ad nw nt Q) RX5 cX5_isMaker 1 0 := fun _ => je_Cm_ok
  refine Cs_of [some (.int (nI j))] (by decide) rfl (Nat.le_of_ble_eq_true rfl) ?_
  refine Es_iload_n (hC _) dX5_isMaker_0 rfl ?_
  refine Es_if_lt (hC _) 13 dX5_isMaker_1 (by decide) (fun hb1 => False.elim (nI_pos (by omega) hb1)) (fun hb1 => ?_)
  refine Es_iload_n (hC _) dX5_isMaker_4 rfl ?_
  refine Es_iconst (v := 4) (hC _) dX5_isMaker_5 (by decide) ?_
  refine Es_icmp_ge (hC _) 13 dX5_isMaker_6 (by decide) (fun hb6 => False.elim (nI_ge (b := 4) (a := j) (by omega) (by omega) hb6)) (fun hb6 => ?_)
  refine Es_iconst (v := 1) (hC _) dX5_isMaker_9 (by decide) ?_
  refine Es_goto (hC _) 14 dX5_isMaker_10 (by decide) ?_
  exact Es_iret dX5_isMaker_14 rfl ⟨rfl, rfl, rfl⟩

set_option maxRecDepth 100000 in
set_option maxHeartbeats 4000000 in
theorem c_isMaker_out {ad : sA} {nw nt : Nat} {B : sB} {L : sL} {x : Int32} (ho : out x 4) : Cf yX5_isMaker cX5_isMaker 1 (some FieldType.boolean) 0 [.int x] ad nw nt B L (some (.int 0)) (B) (L) := by
  have hC : ∀ Q, je_Ok (sCm yX5_isMaker cX5_isMaker 1 (some FieldType.boolean) 0 ad nw nt Q) RX5 cX5_isMaker 1 0 := fun _ => je_Cm_ok
  refine Cs_of [some (.int x)] (by decide) rfl (Nat.le_of_ble_eq_true rfl) ?_
  refine Es_iload_n (hC _) dX5_isMaker_0 rfl ?_
  refine Es_if_lt (hC _) 13 dX5_isMaker_1 (by decide) (fun hb1 => ?_) (fun hb1 => ?_)
  · refine Es_iconst (v := 0) (hC _) dX5_isMaker_13 (by decide) ?_
    exact Es_iret dX5_isMaker_14 rfl ⟨rfl, rfl, rfl⟩
  · refine Es_iload_n (hC _) dX5_isMaker_4 rfl ?_
    refine Es_iconst (v := 4) (hC _) dX5_isMaker_5 (by decide) ?_
    refine Es_icmp_ge (hC _) 13 dX5_isMaker_6 (by decide) (fun hb6 => ?_) (fun hb6 => ?_)
    · refine Es_iconst (v := 0) (hC _) dX5_isMaker_13 (by decide) ?_
      exact Es_iret dX5_isMaker_14 rfl ⟨rfl, rfl, rfl⟩
    · exact (ho.elim hb1 hb6).elim

set_option maxRecDepth 100000 in
set_option maxHeartbeats 4000000 in
theorem r_isIn_in {ad : sA} {nw nt : Nat} {B : sB} {L : sL} {j n : Nat} (hj : j < n) (hn : n < 2 ^ 31) : Cf yX6_isIn cX6_isIn 2 (some FieldType.boolean) 0 [.int (nI j), .int (nI n)] ad nw nt B L (some (.int 1)) (B) (L) := by
  have hC : ∀ Q, je_Ok (sCm yX6_isIn cX6_isIn 2 (some FieldType.boolean) 0 ad nw nt Q) RX6 cX6_isIn 2 0 := fun _ => je_Cm_ok
  refine Cs_of [some (.int (nI j)), some (.int (nI n))] (by decide) rfl (Nat.le_of_ble_eq_true rfl) ?_
  refine Es_iload_n (hC _) dX6_isIn_0 rfl ?_
  refine Es_if_lt (hC _) 13 dX6_isIn_1 (by decide) (fun hb1 => False.elim (nI_pos (by omega) hb1)) (fun hb1 => ?_)
  refine Es_iload_n (hC _) dX6_isIn_4 rfl ?_
  refine Es_iload_n (hC _) dX6_isIn_5 rfl ?_
  refine Es_icmp_ge (hC _) 13 dX6_isIn_6 (by decide) (fun hb6 => False.elim (nI_ge hj hn hb6)) (fun hb6 => ?_)
  refine Es_iconst (v := 1) (hC _) dX6_isIn_9 (by decide) ?_
  refine Es_goto (hC _) 14 dX6_isIn_10 (by decide) ?_
  exact Es_iret dX6_isIn_14 rfl ⟨rfl, rfl, rfl⟩

set_option maxRecDepth 100000 in
set_option maxHeartbeats 4000000 in
theorem r_isIn_out {ad : sA} {nw nt : Nat} {B : sB} {L : sL} {x : Int32} {n : Nat} (ho : out x n) : Cf yX6_isIn cX6_isIn 2 (some FieldType.boolean) 0 [.int x, .int (nI n)] ad nw nt B L (some (.int 0)) (B) (L) := by
  have hC : ∀ Q, je_Ok (sCm yX6_isIn cX6_isIn 2 (some FieldType.boolean) 0 ad nw nt Q) RX6 cX6_isIn 2 0 := fun _ => je_Cm_ok
  refine Cs_of [some (.int x), some (.int (nI n))] (by decide) rfl (Nat.le_of_ble_eq_true rfl) ?_
  refine Es_iload_n (hC _) dX6_isIn_0 rfl ?_
  refine Es_if_lt (hC _) 13 dX6_isIn_1 (by decide) (fun hb1 => ?_) (fun hb1 => ?_)
  · refine Es_iconst (v := 0) (hC _) dX6_isIn_13 (by decide) ?_
    exact Es_iret dX6_isIn_14 rfl ⟨rfl, rfl, rfl⟩
  · refine Es_iload_n (hC _) dX6_isIn_4 rfl ?_
    refine Es_iload_n (hC _) dX6_isIn_5 rfl ?_
    refine Es_icmp_ge (hC _) 13 dX6_isIn_6 (by decide) (fun hb6 => ?_) (fun hb6 => ?_)
    · refine Es_iconst (v := 0) (hC _) dX6_isIn_13 (by decide) ?_
      exact Es_iret dX6_isIn_14 rfl ⟨rfl, rfl, rfl⟩
    · exact (ho.elim hb1 hb6).elim

set_option maxRecDepth 100000 in
set_option maxHeartbeats 4000000 in
theorem c_numberOf_null {ad : sA} {nw nt : Nat} {B : sB} {L : sL}  : Cf yX5_numberOf cX5_numberOf 1 (some FieldType.int) 0 [.null] ad nw nt B L (some (.int (-9))) (B) (L) := by
  have hC : ∀ Q, je_Ok (sCm yX5_numberOf cX5_numberOf 1 (some FieldType.int) 0 ad nw nt Q) RX5 cX5_numberOf 1 0 := fun _ => je_Cm_ok
  refine Cs_of [some (.null)] (by decide) rfl (Nat.le_of_ble_eq_true rfl) ?_
  first | refine Es_aload_n (hC _) dX5_numberOf_0 rfl ?_ | refine Es_aload_nN (hC _) dX5_numberOf_0 rfl ?_
  refine Es_ifnonnullN (hC _) dX5_numberOf_1 ?_
  refine Es_bipush (v := -9) (hC _) dX5_numberOf_4 (by decide) ?_
  refine Es_goto (hC _) 13 dX5_numberOf_6 (by decide) ?_
  exact Es_iret dX5_numberOf_13 rfl ⟨rfl, rfl, rfl⟩

set_option maxRecDepth 100000 in
set_option maxHeartbeats 4000000 in
theorem c_numberOf {ad : sA} {nw nt : Nat} {B : sB} {L : sL} {t : Nat} (ht : t < nt) : Cf yX5_numberOf cX5_numberOf 1 (some FieldType.int) 0 [.ref (ad 21 t)] ad nw nt B L (some (.int (B 21 t 0))) (B) (L) := by
  have hC : ∀ Q, je_Ok (sCm yX5_numberOf cX5_numberOf 1 (some FieldType.int) 0 ad nw nt Q) RX5 cX5_numberOf 1 0 := fun _ => je_Cm_ok
  refine Cs_of [some (.ref (ad 21 t))] (by decide) rfl (Nat.le_of_ble_eq_true rfl) ?_
  first | refine Es_aload_n (hC _) dX5_numberOf_0 rfl ?_ | refine Es_aload_nN (hC _) dX5_numberOf_0 rfl ?_
  refine Es_ifnonnull (hC _) 9 dX5_numberOf_1 (by decide) ?_
  first | refine Es_aload_n (hC _) dX5_numberOf_9 rfl ?_ | refine Es_aload_nN (hC _) dX5_numberOf_9 rfl ?_
  refine Sg_X2_0 (hC _) fl_X5_125 dX5_numberOf_10 ht ?_
  exact Es_iret dX5_numberOf_13 rfl ⟨rfl, rfl, rfl⟩

set_option maxRecDepth 100000 in
set_option maxHeartbeats 4000000 in
theorem c_wagonAt_in {ad : sA} {nw nt : Nat} {B : sB} {L : sL} {j : Nat} (hw : B 0 0 8 = nI nw) (h5 : nw ≤ 5) (hj : j < nw) : Cf yX5_wagonAt cX5_wagonAt 2 (some (FieldType.object "TyreBook$Wagon")) 0 [.ref (ad 0 0), .int (nI j)] ad nw nt B L (some (.ref (ad 18 j))) (B) (L) := by
  have hC : ∀ Q, je_Ok (sCm yX5_wagonAt cX5_wagonAt 2 (some (FieldType.object "TyreBook$Wagon")) 0 ad nw nt Q) RX5 cX5_wagonAt 2 0 := fun _ => je_Cm_ok
  refine Cs_of [some (.ref (ad 0 0)), some (.int (nI j))] (by decide) rfl (Nat.le_of_ble_eq_true rfl) ?_
  refine Es_iload_n (hC _) dX5_wagonAt_0 rfl ?_
  refine Es_if_lt (hC _) 30 dX5_wagonAt_1 (by decide) (fun hb1 => False.elim (nI_pos (by omega) hb1)) (fun hb1 => ?_)
  refine Es_iload_n (hC _) dX5_wagonAt_4 rfl ?_
  first | refine Es_aload_n (hC _) dX5_wagonAt_5 rfl ?_ | refine Es_aload_nN (hC _) dX5_wagonAt_5 rfl ?_
  refine Sg_X5_8 (hC _) fl_X5_67 dX5_wagonAt_6 ?_
  rw [hw]
  refine Es_icmp_ge (hC _) 30 dX5_wagonAt_9 (by decide) (fun hb9 => False.elim (nI_ge hj (by omega) hb9)) (fun hb9 => ?_)
  refine Es_iload_n (hC _) dX5_wagonAt_12 rfl ?_
  first | refine Es_aload_n (hC _) dX5_wagonAt_13 rfl ?_ | refine Es_aload_nN (hC _) dX5_wagonAt_13 rfl ?_
  refine Sg_X5_0 (hC _) fl_X5_11 dX5_wagonAt_14 ?_
  refine Es_alen (hC _) dX5_wagonAt_17 rfl rfl (by decide) ?_
  refine Es_icmp_ge (hC _) 30 dX5_wagonAt_18 (by decide) (fun hb18 => False.elim (nI_ge (b := 5) (a := j) (by omega) (by omega) hb18)) (fun hb18 => ?_)
  first | refine Es_aload_n (hC _) dX5_wagonAt_21 rfl ?_ | refine Es_aload_nN (hC _) dX5_wagonAt_21 rfl ?_
  refine Sg_X5_0 (hC _) fl_X5_11 dX5_wagonAt_22 ?_
  refine Es_iload_n (hC _) dX5_wagonAt_25 rfl ?_
  refine Es_aaldN (hC _) (Or.inr rfl) dX5_wagonAt_26 rfl rfl rfl (by omega) (by decide) (show va_rf (if j < nw then some (ad 18 j) else none) = .ref (ad 18 j) by rw [if_pos hj]; rfl) ?_
  refine Es_goto (hC _) 31 dX5_wagonAt_27 (by decide) ?_
  exact Es_aret dX5_wagonAt_31 (by first | exact Or.inl rfl | exact Or.inr ⟨_, rfl⟩) ⟨rfl, rfl, rfl⟩

set_option maxRecDepth 100000 in
set_option maxHeartbeats 4000000 in
theorem c_wagonAt_out {ad : sA} {nw nt : Nat} {B : sB} {L : sL} {x : Int32} (hw : B 0 0 8 = nI nw) (ho : out x nw) : Cf yX5_wagonAt cX5_wagonAt 2 (some (FieldType.object "TyreBook$Wagon")) 0 [.ref (ad 0 0), .int x] ad nw nt B L (some .null) (B) (L) := by
  have hC : ∀ Q, je_Ok (sCm yX5_wagonAt cX5_wagonAt 2 (some (FieldType.object "TyreBook$Wagon")) 0 ad nw nt Q) RX5 cX5_wagonAt 2 0 := fun _ => je_Cm_ok
  refine Cs_of [some (.ref (ad 0 0)), some (.int x)] (by decide) rfl (Nat.le_of_ble_eq_true rfl) ?_
  refine Es_iload_n (hC _) dX5_wagonAt_0 rfl ?_
  refine Es_if_lt (hC _) 30 dX5_wagonAt_1 (by decide) (fun hb1 => ?_) (fun hb1 => ?_)
  · refine Es_null (hC _) dX5_wagonAt_30 ?_
    exact Es_aret dX5_wagonAt_31 (by first | exact Or.inl rfl | exact Or.inr ⟨_, rfl⟩) ⟨rfl, rfl, rfl⟩
  · refine Es_iload_n (hC _) dX5_wagonAt_4 rfl ?_
    first | refine Es_aload_n (hC _) dX5_wagonAt_5 rfl ?_ | refine Es_aload_nN (hC _) dX5_wagonAt_5 rfl ?_
    refine Sg_X5_8 (hC _) fl_X5_67 dX5_wagonAt_6 ?_
    rw [hw]
    refine Es_icmp_ge (hC _) 30 dX5_wagonAt_9 (by decide) (fun hb9 => ?_) (fun hb9 => ?_)
    · refine Es_null (hC _) dX5_wagonAt_30 ?_
      exact Es_aret dX5_wagonAt_31 (by first | exact Or.inl rfl | exact Or.inr ⟨_, rfl⟩) ⟨rfl, rfl, rfl⟩
    · exact (ho.elim hb1 hb9).elim

set_option maxRecDepth 100000 in
set_option maxHeartbeats 4000000 in
theorem c_tyreAt_in {ad : sA} {nw nt : Nat} {B : sB} {L : sL} {j : Nat} (hw : B 0 0 9 = nI nt) (h5 : nt ≤ 40) (hj : j < nt) : Cf yX5_tyreAt cX5_tyreAt 2 (some (FieldType.object "TyreBook$Tyre")) 0 [.ref (ad 0 0), .int (nI j)] ad nw nt B L (some (.ref (ad 21 j))) (B) (L) := by
  have hC : ∀ Q, je_Ok (sCm yX5_tyreAt cX5_tyreAt 2 (some (FieldType.object "TyreBook$Tyre")) 0 ad nw nt Q) RX5 cX5_tyreAt 2 0 := fun _ => je_Cm_ok
  refine Cs_of [some (.ref (ad 0 0)), some (.int (nI j))] (by decide) rfl (Nat.le_of_ble_eq_true rfl) ?_
  refine Es_iload_n (hC _) dX5_tyreAt_0 rfl ?_
  refine Es_if_lt (hC _) 30 dX5_tyreAt_1 (by decide) (fun hb1 => False.elim (nI_pos (by omega) hb1)) (fun hb1 => ?_)
  refine Es_iload_n (hC _) dX5_tyreAt_4 rfl ?_
  first | refine Es_aload_n (hC _) dX5_tyreAt_5 rfl ?_ | refine Es_aload_nN (hC _) dX5_tyreAt_5 rfl ?_
  refine Sg_X5_9 (hC _) fl_X5_110 dX5_tyreAt_6 ?_
  rw [hw]
  refine Es_icmp_ge (hC _) 30 dX5_tyreAt_9 (by decide) (fun hb9 => False.elim (nI_ge hj (by omega) hb9)) (fun hb9 => ?_)
  refine Es_iload_n (hC _) dX5_tyreAt_12 rfl ?_
  first | refine Es_aload_n (hC _) dX5_tyreAt_13 rfl ?_ | refine Es_aload_nN (hC _) dX5_tyreAt_13 rfl ?_
  refine Sg_X5_1 (hC _) fl_X5_17 dX5_tyreAt_14 ?_
  refine Es_alen (hC _) dX5_tyreAt_17 rfl rfl (by decide) ?_
  refine Es_icmp_ge (hC _) 30 dX5_tyreAt_18 (by decide) (fun hb18 => False.elim (nI_ge (b := 40) (a := j) (by omega) (by omega) hb18)) (fun hb18 => ?_)
  first | refine Es_aload_n (hC _) dX5_tyreAt_21 rfl ?_ | refine Es_aload_nN (hC _) dX5_tyreAt_21 rfl ?_
  refine Sg_X5_1 (hC _) fl_X5_17 dX5_tyreAt_22 ?_
  refine Es_iload_n (hC _) dX5_tyreAt_25 rfl ?_
  refine Es_aaldN (hC _) (Or.inl rfl) dX5_tyreAt_26 rfl rfl rfl (by omega) (by decide) (show va_rf (if j < nt then some (ad 21 j) else none) = .ref (ad 21 j) by rw [if_pos hj]; rfl) ?_
  refine Es_goto (hC _) 31 dX5_tyreAt_27 (by decide) ?_
  exact Es_aret dX5_tyreAt_31 (by first | exact Or.inl rfl | exact Or.inr ⟨_, rfl⟩) ⟨rfl, rfl, rfl⟩

set_option maxRecDepth 100000 in
set_option maxHeartbeats 4000000 in
theorem c_tyreAt_out {ad : sA} {nw nt : Nat} {B : sB} {L : sL} {x : Int32} (hw : B 0 0 9 = nI nt) (ho : out x nt) : Cf yX5_tyreAt cX5_tyreAt 2 (some (FieldType.object "TyreBook$Tyre")) 0 [.ref (ad 0 0), .int x] ad nw nt B L (some .null) (B) (L) := by
  have hC : ∀ Q, je_Ok (sCm yX5_tyreAt cX5_tyreAt 2 (some (FieldType.object "TyreBook$Tyre")) 0 ad nw nt Q) RX5 cX5_tyreAt 2 0 := fun _ => je_Cm_ok
  refine Cs_of [some (.ref (ad 0 0)), some (.int x)] (by decide) rfl (Nat.le_of_ble_eq_true rfl) ?_
  refine Es_iload_n (hC _) dX5_tyreAt_0 rfl ?_
  refine Es_if_lt (hC _) 30 dX5_tyreAt_1 (by decide) (fun hb1 => ?_) (fun hb1 => ?_)
  · refine Es_null (hC _) dX5_tyreAt_30 ?_
    exact Es_aret dX5_tyreAt_31 (by first | exact Or.inl rfl | exact Or.inr ⟨_, rfl⟩) ⟨rfl, rfl, rfl⟩
  · refine Es_iload_n (hC _) dX5_tyreAt_4 rfl ?_
    first | refine Es_aload_n (hC _) dX5_tyreAt_5 rfl ?_ | refine Es_aload_nN (hC _) dX5_tyreAt_5 rfl ?_
    refine Sg_X5_9 (hC _) fl_X5_110 dX5_tyreAt_6 ?_
    rw [hw]
    refine Es_icmp_ge (hC _) 30 dX5_tyreAt_9 (by decide) (fun hb9 => ?_) (fun hb9 => ?_)
    · refine Es_null (hC _) dX5_tyreAt_30 ?_
      exact Es_aret dX5_tyreAt_31 (by first | exact Or.inl rfl | exact Or.inr ⟨_, rfl⟩) ⟨rfl, rfl, rfl⟩
    · exact (ho.elim hb1 hb9).elim

set_option maxRecDepth 100000 in
set_option maxHeartbeats 4000000 in
theorem c_refuse {ad : sA} {nw nt : Nat} {B : sB} {L : sL} {k : Nat} {x : Int32} (hx : -x = nI k) (hk : k < 7) : Cf yX5_refuse cX5_refuse 2 (some FieldType.int) 1 [.ref (ad 0 0), .int x] ad nw nt B L (some (.int x)) (uB B 5 0 k (B 5 0 k + 1)) (L) := by
  have hC : ∀ Q, je_Ok (sCm yX5_refuse cX5_refuse 2 (some FieldType.int) 1 ad nw nt Q) RX5 cX5_refuse 2 1 := fun _ => je_Cm_ok
  refine Cs_of [some (.ref (ad 0 0)), some (.int x)] (by decide) rfl (Nat.le_of_ble_eq_true rfl) ?_
  first | refine Es_aload_n (hC _) dX5_refuse_0 rfl ?_ | refine Es_aload_nN (hC _) dX5_refuse_0 rfl ?_
  refine Sg_X5_4 (hC _) fl_X5_39 dX5_refuse_1 ?_
  refine Es_iload_n (hC _) dX5_refuse_4 rfl ?_
  refine Es_ineg (hC _) dX5_refuse_5 ?_
  first | refine Es_aload_n (hC _) dX5_refuse_6 rfl ?_ | refine Es_aload_nN (hC _) dX5_refuse_6 rfl ?_
  refine Sg_X5_4 (hC _) fl_X5_39 dX5_refuse_7 ?_
  refine Es_iload_n (hC _) dX5_refuse_10 rfl ?_
  refine Es_ineg (hC _) dX5_refuse_11 ?_
  refine Es_fS (hC _) ms_X5_96 dX5_refuse_12 (c_at (kd := 5) (n := 7) rfl rfl hx hk (by decide)) rfl rfl (by decide) (Nat.le_of_ble_eq_true rfl) ?_
  refine Es_iconst (v := 1) (hC _) dX5_refuse_15 (by decide) ?_
  refine Es_iadd (hC _) dX5_refuse_16 ?_
  refine Es_fS (hC _) ms_X5_100 dX5_refuse_17 (c_write (kd := 5) (n := 7) rfl (fun _ => rfl) hx hk (by decide)) rfl rfl (by decide) (Nat.le_of_ble_eq_true rfl) ?_
  refine Es_iload_n (hC _) dX5_refuse_20 rfl ?_
  exact Es_iret dX5_refuse_21 rfl ⟨rfl, rfl, rfl⟩

set_option maxRecDepth 100000 in
set_option maxHeartbeats 4000000 in
theorem r_refuse {ad : sA} {nw nt : Nat} {B : sB} {L : sL} {k : Nat} {x : Int32} (hx : -x = nI k) (hk : k < 7) : Cf yX6_refuse cX6_refuse 2 (some FieldType.int) 0 [.ref (ad 25 0), .int x] ad nw nt B L (some (.int x)) (uB B 30 0 k (B 30 0 k + 1)) (L) := by
  have hC : ∀ Q, je_Ok (sCm yX6_refuse cX6_refuse 2 (some FieldType.int) 0 ad nw nt Q) RX6 cX6_refuse 2 0 := fun _ => je_Cm_ok
  refine Cs_of [some (.ref (ad 25 0)), some (.int x)] (by decide) rfl (Nat.le_of_ble_eq_true rfl) ?_
  first | refine Es_aload_n (hC _) dX6_refuse_0 rfl ?_ | refine Es_aload_nN (hC _) dX6_refuse_0 rfl ?_
  refine Sg_X6_0 (hC _) fl_X6_7 dX6_refuse_1 ?_
  refine Es_iload_n (hC _) dX6_refuse_4 rfl ?_
  refine Es_ineg (hC _) dX6_refuse_5 ?_
  refine Es_dup2 (hC _) dX6_refuse_6 rfl rfl ?_
  refine Es_ialdN (hC _) dX6_refuse_7 rfl rfl hx hk (by decide) ?_
  refine Es_iconst (v := 1) (hC _) dX6_refuse_8 (by decide) ?_
  refine Es_iadd (hC _) dX6_refuse_9 ?_
  refine Es_iastN (hC _) dX6_refuse_10 rfl (fun _ => rfl) hx hk (by decide) ?_
  refine Es_iload_n (hC _) dX6_refuse_11 rfl ?_
  exact Es_iret dX6_refuse_12 rfl ⟨rfl, rfl, rfl⟩

set_option maxRecDepth 100000 in
set_option maxHeartbeats 4000000 in
theorem c_hasRoomFor {ad : sA} {nw nt : Nat} {B : sB} {L : sL} {k m : Nat} (hk : B 6 0 3 = nI k) (hk6 : k ≤ 600) (hm : m ≤ 600) : Cf yX0_hasRoomFor cX0_hasRoomFor 2 (some FieldType.boolean) 0 [.ref (ad 6 0), .int (nI m)] ad nw nt B L (some (.int (bI (k + m ≤ 600)))) (B) (L) := by
  have hC : ∀ Q, je_Ok (sCm yX0_hasRoomFor cX0_hasRoomFor 2 (some FieldType.boolean) 0 ad nw nt Q) RX0 cX0_hasRoomFor 2 0 := fun _ => je_Cm_ok
  refine Cs_of [some (.ref (ad 6 0)), some (.int (nI m))] (by decide) rfl (Nat.le_of_ble_eq_true rfl) ?_
  first | refine Es_aload_n (hC _) dX0_hasRoomFor_0 rfl ?_ | refine Es_aload_nN (hC _) dX0_hasRoomFor_0 rfl ?_
  refine Sg_X0_3 (hC _) fl_X0_21 dX0_hasRoomFor_1 ?_
  refine Es_iload_n (hC _) dX0_hasRoomFor_4 rfl ?_
  refine Es_iadd (hC _) dX0_hasRoomFor_5 ?_
  refine Es_sipush (v := 600) (hC _) dX0_hasRoomFor_6 (by decide) ?_
  rw [hk, nI_add]
  refine Es_icmp_gt (hC _) 16 dX0_hasRoomFor_9 (by decide) (fun hb9 => ?_) (fun hb9 => ?_)
  · refine Es_iconst (v := 0) (hC _) dX0_hasRoomFor_16 (by decide) ?_
    exact Es_iret dX0_hasRoomFor_17 rfl ⟨by rw [bI, if_neg (fun z => nI_nlt (a := 600) (b := k + m) z (by omega) hb9)], rfl, rfl⟩
  · refine Es_iconst (v := 1) (hC _) dX0_hasRoomFor_12 (by decide) ?_
    refine Es_goto (hC _) 17 dX0_hasRoomFor_13 (by decide) ?_
    exact Es_iret dX0_hasRoomFor_17 rfl ⟨by rw [bI, if_pos (Nat.le_of_not_lt (fun z => hb9 (nI_lt (a := 600) z (by omega))))], rfl, rfl⟩

set_option maxRecDepth 100000 in
set_option maxHeartbeats 4000000 in
theorem r_hasRoom {ad : sA} {nw nt : Nat} {B : sB} {L : sL} {k m : Nat} (hk : B 25 0 7 = nI k) (hk6 : k ≤ 600) (hm : m ≤ 600) : Cf yX6_hasRoom cX6_hasRoom 2 (some FieldType.boolean) 0 [.ref (ad 25 0), .int (nI m)] ad nw nt B L (some (.int (bI (k + m ≤ 600)))) (B) (L) := by
  have hC : ∀ Q, je_Ok (sCm yX6_hasRoom cX6_hasRoom 2 (some FieldType.boolean) 0 ad nw nt Q) RX6 cX6_hasRoom 2 0 := fun _ => je_Cm_ok
  refine Cs_of [some (.ref (ad 25 0)), some (.int (nI m))] (by decide) rfl (Nat.le_of_ble_eq_true rfl) ?_
  first | refine Es_aload_n (hC _) dX6_hasRoom_0 rfl ?_ | refine Es_aload_nN (hC _) dX6_hasRoom_0 rfl ?_
  refine Sg_X6_7 (hC _) fl_X6_101 dX6_hasRoom_1 ?_
  refine Es_iload_n (hC _) dX6_hasRoom_4 rfl ?_
  refine Es_iadd (hC _) dX6_hasRoom_5 ?_
  refine Es_sipush (v := 600) (hC _) dX6_hasRoom_6 (by decide) ?_
  rw [hk, nI_add]
  refine Es_icmp_gt (hC _) 16 dX6_hasRoom_9 (by decide) (fun hb9 => ?_) (fun hb9 => ?_)
  · refine Es_iconst (v := 0) (hC _) dX6_hasRoom_16 (by decide) ?_
    exact Es_iret dX6_hasRoom_17 rfl ⟨by rw [bI, if_neg (fun z => nI_nlt (a := 600) (b := k + m) z (by omega) hb9)], rfl, rfl⟩
  · refine Es_iconst (v := 1) (hC _) dX6_hasRoom_12 (by decide) ?_
    refine Es_goto (hC _) 17 dX6_hasRoom_13 (by decide) ?_
    exact Es_iret dX6_hasRoom_17 rfl ⟨by rw [bI, if_pos (Nat.le_of_not_lt (fun z => hb9 (nI_lt (a := 600) z (by omega))))], rfl, rfl⟩

/-- the log of the class, one row more -/
def cLog (B : sB) (k : Nat) (dy num wh : Int32) : sB := uB (uB (uB (uB B 7 0 k dy) 8 0 k num) 9 0 k wh) 6 0 3 (nI (k + 1))
/-- the log of the reference, one row more -/
def rLog (B : sB) (k t : Nat) : sB := uB (uB (uB (uB B 52 0 k (nI t)) 53 0 k (B 25 0 3)) 54 0 k (B 47 0 t)) 25 0 7 (nI (k + 1))
set_option maxRecDepth 100000 in
set_option maxHeartbeats 4000000 in
theorem c_note {ad : sA} {nw nt : Nat} {B : sB} {L : sL} {k : Nat} {dy num wh : Int32} (hk : B 6 0 3 = nI k) (h6 : k < 600) : Cf yX0_note cX0_note 4 none 1 [.ref (ad 6 0), .int dy, .int num, .int wh] ad nw nt B L (none) (cLog B k dy num wh) (L) := by
  have hC : ∀ Q, je_Ok (sCm yX0_note cX0_note 4 none 1 ad nw nt Q) RX0 cX0_note 4 1 := fun _ => je_Cm_ok
  refine Cs_of [some (.ref (ad 6 0)), some (.int dy), some (.int num), some (.int wh)] (by decide) rfl (Nat.le_of_ble_eq_true rfl) ?_
  first | refine Es_aload_n (hC _) dX0_note_0 rfl ?_ | refine Es_aload_nN (hC _) dX0_note_0 rfl ?_
  refine Sg_X0_3 (hC _) fl_X0_21 dX0_note_1 ?_
  refine Es_sipush (v := 600) (hC _) dX0_note_4 (by decide) ?_
  refine Es_icmp_ge (hC _) 56 dX0_note_7 (by decide) (fun hb7 => False.elim (nI_ge (b := 600) h6 (by decide) (by rw [← hk]; exact hb7))) (fun hb7 => ?_)
  first | refine Es_aload_n (hC _) dX0_note_10 rfl ?_ | refine Es_aload_nN (hC _) dX0_note_10 rfl ?_
  refine Sg_X0_0 (hC _) fl_X0_9 dX0_note_11 ?_
  first | refine Es_aload_n (hC _) dX0_note_14 rfl ?_ | refine Es_aload_nN (hC _) dX0_note_14 rfl ?_
  refine Sg_X0_3 (hC _) fl_X0_21 dX0_note_15 ?_
  refine Es_iload_n (hC _) dX0_note_18 rfl ?_
  refine Es_fSN (hC _) ms_X0_25 dX0_note_19 (c_write (kd := 7) (n := 600) rfl (fun _ => rfl) hk h6 (by decide)) rfl rfl (by decide) (Nat.le_of_ble_eq_true rfl) ?_
  first | refine Es_aload_n (hC _) dX0_note_22 rfl ?_ | refine Es_aload_nN (hC _) dX0_note_22 rfl ?_
  refine Sg_X0_1 (hC _) fl_X0_15 dX0_note_23 ?_
  first | refine Es_aload_n (hC _) dX0_note_26 rfl ?_ | refine Es_aload_nN (hC _) dX0_note_26 rfl ?_
  refine Sg_X0_3 (hC _) fl_X0_21 dX0_note_27 ?_
  refine Es_iload_n (hC _) dX0_note_30 rfl ?_
  refine Es_fSN (hC _) ms_X0_25 dX0_note_31 (c_write (kd := 8) (n := 600) rfl (fun _ => rfl) (by rw [uB_n (by omega)]; exact hk) h6 (by decide)) rfl rfl (by decide) (Nat.le_of_ble_eq_true rfl) ?_
  first | refine Es_aload_n (hC _) dX0_note_34 rfl ?_ | refine Es_aload_nN (hC _) dX0_note_34 rfl ?_
  refine Sg_X0_2 (hC _) fl_X0_18 dX0_note_35 ?_
  first | refine Es_aload_n (hC _) dX0_note_38 rfl ?_ | refine Es_aload_nN (hC _) dX0_note_38 rfl ?_
  refine Sg_X0_3 (hC _) fl_X0_21 dX0_note_39 ?_
  refine Es_iload_n (hC _) dX0_note_42 rfl ?_
  refine Es_fSN (hC _) ms_X0_25 dX0_note_43 (c_write (kd := 9) (n := 600) rfl (fun _ => rfl) (by rw [uB_n (by omega), uB_n (by omega)]; exact hk) h6 (by decide)) rfl rfl (by decide) (Nat.le_of_ble_eq_true rfl) ?_
  first | refine Es_aload_n (hC _) dX0_note_46 rfl ?_ | refine Es_aload_nN (hC _) dX0_note_46 rfl ?_
  refine Es_dup (hC _) dX0_note_47 rfl ?_
  refine Sg_X0_3 (hC _) fl_X0_21 dX0_note_48 ?_
  refine Es_iconst (v := 1) (hC _) dX0_note_51 (by decide) ?_
  refine Es_iadd (hC _) dX0_note_52 ?_
  refine Sp_X0_3 (hC _) fl_X0_21 dX0_note_53 ?_
  exact Es_vret dX0_note_56 ⟨rfl, by rw [uB_n (by omega), uB_n (by omega), uB_n (by omega), hk, nI_1]; rfl, rfl⟩

set_option maxRecDepth 100000 in
set_option maxHeartbeats 4000000 in
theorem c_note_full {ad : sA} {nw nt : Nat} {B : sB} {L : sL} {dy num wh : Int32} (hk : B 6 0 3 = nI 600) : Cf yX0_note cX0_note 4 none 1 [.ref (ad 6 0), .int dy, .int num, .int wh] ad nw nt B L (none) (B) (L) := by
  have hC : ∀ Q, je_Ok (sCm yX0_note cX0_note 4 none 1 ad nw nt Q) RX0 cX0_note 4 1 := fun _ => je_Cm_ok
  refine Cs_of [some (.ref (ad 6 0)), some (.int dy), some (.int num), some (.int wh)] (by decide) rfl (Nat.le_of_ble_eq_true rfl) ?_
  first | refine Es_aload_n (hC _) dX0_note_0 rfl ?_ | refine Es_aload_nN (hC _) dX0_note_0 rfl ?_
  refine Sg_X0_3 (hC _) fl_X0_21 dX0_note_1 ?_
  refine Es_sipush (v := 600) (hC _) dX0_note_4 (by decide) ?_
  refine Es_icmp_ge (hC _) 56 dX0_note_7 (by decide) (fun hb7 => ?_) (fun hb7 => False.elim (hb7 (by rw [hk]; exact nI_le (Nat.le_refl _) (by decide))))
  exact Es_vret dX0_note_56 ⟨rfl, rfl, rfl⟩

set_option maxRecDepth 100000 in
set_option maxHeartbeats 4000000 in
theorem c_move_null {ad : sA} {nw nt : Nat} {B : sB} {L : sL} {wh : Int32} : Cf yX5_move cX5_move 3 none 2 [.ref (ad 0 0), .null, .int wh] ad nw nt B L (none) (B) (L) := by
  have hC : ∀ Q, je_Ok (sCm yX5_move cX5_move 3 none 2 ad nw nt Q) RX5 cX5_move 3 2 := fun _ => je_Cm_ok
  refine Cs_of [some (.ref (ad 0 0)), some (.null), some (.int wh)] (by decide) rfl (Nat.le_of_ble_eq_true rfl) ?_
  first | refine Es_aload_n (hC _) dX5_move_0 rfl ?_ | refine Es_aload_nN (hC _) dX5_move_0 rfl ?_
  refine Es_ifnullN (hC _) 25 dX5_move_1 (by decide) ?_
  exact Es_vret dX5_move_25 ⟨rfl, rfl, rfl⟩

set_option maxRecDepth 100000 in
set_option maxHeartbeats 4000000 in
theorem c_move {ad : sA} {nw nt : Nat} {B : sB} {L : sL} {t k : Nat} {wh : Int32} (ht : t < nt) (hk : B 6 0 3 = nI k) (h6 : k < 600) : Cf yX5_move cX5_move 3 none 2 [.ref (ad 0 0), .ref (ad 21 t), .int wh] ad nw nt B L (none) (cLog (uB B 21 t 10 wh) k (B 0 0 11) (B 21 t 0) wh) (L) := by
  have hC : ∀ Q, je_Ok (sCm yX5_move cX5_move 3 none 2 ad nw nt Q) RX5 cX5_move 3 2 := fun _ => je_Cm_ok
  refine Cs_of [some (.ref (ad 0 0)), some (.ref (ad 21 t)), some (.int wh)] (by decide) rfl (Nat.le_of_ble_eq_true rfl) ?_
  first | refine Es_aload_n (hC _) dX5_move_0 rfl ?_ | refine Es_aload_nN (hC _) dX5_move_0 rfl ?_
  refine Es_ifnull (hC _) dX5_move_1 ?_
  first | refine Es_aload_n (hC _) dX5_move_4 rfl ?_ | refine Es_aload_nN (hC _) dX5_move_4 rfl ?_
  refine Es_iload_n (hC _) dX5_move_5 rfl ?_
  refine Sp_X2_10 (hC _) fl_X5_139 dX5_move_6 ht ?_
  first | refine Es_aload_n (hC _) dX5_move_9 rfl ?_ | refine Es_aload_nN (hC _) dX5_move_9 rfl ?_
  refine Sg_X5_5 (hC _) fl_X5_45 dX5_move_10 ?_
  first | refine Es_aload_n (hC _) dX5_move_13 rfl ?_ | refine Es_aload_nN (hC _) dX5_move_13 rfl ?_
  refine Sg_X5_11 (hC _) fl_X5_116 dX5_move_14 ?_
  first | refine Es_aload_n (hC _) dX5_move_17 rfl ?_ | refine Es_aload_nN (hC _) dX5_move_17 rfl ?_
  refine Sg_X2_0 (hC _) fl_X5_125 dX5_move_18 ht ?_
  refine Es_iload_n (hC _) dX5_move_21 rfl ?_
  refine Es_fV (hC _) mv_X5_274 dX5_move_22 (c_note (by rw [uB_n (by omega)]; exact hk) h6) rfl rfl ⟨_, rfl, rfl⟩ rfl rfl (by decide) (Nat.le_of_ble_eq_true rfl) ?_
  exact Es_vret dX5_move_25 ⟨rfl, by rw [uB_n (by omega), uB_n (by omega)], rfl⟩

set_option maxRecDepth 100000 in
set_option maxHeartbeats 4000000 in
theorem c_move_full {ad : sA} {nw nt : Nat} {B : sB} {L : sL} {t : Nat} {wh : Int32} (ht : t < nt) (hk : B 6 0 3 = nI 600) : Cf yX5_move cX5_move 3 none 2 [.ref (ad 0 0), .ref (ad 21 t), .int wh] ad nw nt B L (none) (uB B 21 t 10 wh) (L) := by
  have hC : ∀ Q, je_Ok (sCm yX5_move cX5_move 3 none 2 ad nw nt Q) RX5 cX5_move 3 2 := fun _ => je_Cm_ok
  refine Cs_of [some (.ref (ad 0 0)), some (.ref (ad 21 t)), some (.int wh)] (by decide) rfl (Nat.le_of_ble_eq_true rfl) ?_
  first | refine Es_aload_n (hC _) dX5_move_0 rfl ?_ | refine Es_aload_nN (hC _) dX5_move_0 rfl ?_
  refine Es_ifnull (hC _) dX5_move_1 ?_
  first | refine Es_aload_n (hC _) dX5_move_4 rfl ?_ | refine Es_aload_nN (hC _) dX5_move_4 rfl ?_
  refine Es_iload_n (hC _) dX5_move_5 rfl ?_
  refine Sp_X2_10 (hC _) fl_X5_139 dX5_move_6 ht ?_
  first | refine Es_aload_n (hC _) dX5_move_9 rfl ?_ | refine Es_aload_nN (hC _) dX5_move_9 rfl ?_
  refine Sg_X5_5 (hC _) fl_X5_45 dX5_move_10 ?_
  first | refine Es_aload_n (hC _) dX5_move_13 rfl ?_ | refine Es_aload_nN (hC _) dX5_move_13 rfl ?_
  refine Sg_X5_11 (hC _) fl_X5_116 dX5_move_14 ?_
  first | refine Es_aload_n (hC _) dX5_move_17 rfl ?_ | refine Es_aload_nN (hC _) dX5_move_17 rfl ?_
  refine Sg_X2_0 (hC _) fl_X5_125 dX5_move_18 ht ?_
  refine Es_iload_n (hC _) dX5_move_21 rfl ?_
  refine Es_fV (hC _) mv_X5_274 dX5_move_22 (c_note_full (by rw [uB_n (by omega)]; exact hk)) rfl rfl ⟨_, rfl, rfl⟩ rfl rfl (by decide) (Nat.le_of_ble_eq_true rfl) ?_
  exact Es_vret dX5_move_25 ⟨rfl, rfl, rfl⟩

set_option maxRecDepth 100000 in
set_option maxHeartbeats 4000000 in
theorem r_log {ad : sA} {nw nt : Nat} {B : sB} {L : sL} {t k : Nat} (ht : t < 40) (hk : B 25 0 7 = nI k) (h6 : k < 600) : Cf yX6_log cX6_log 2 none 0 [.ref (ad 25 0), .int (nI t)] ad nw nt B L (none) (rLog B k t) (L) := by
  have hC : ∀ Q, je_Ok (sCm yX6_log cX6_log 2 none 0 ad nw nt Q) RX6 cX6_log 2 0 := fun _ => je_Cm_ok
  refine Cs_of [some (.ref (ad 25 0)), some (.int (nI t))] (by decide) rfl (Nat.le_of_ble_eq_true rfl) ?_
  first | refine Es_aload_n (hC _) dX6_log_0 rfl ?_ | refine Es_aload_nN (hC _) dX6_log_0 rfl ?_
  refine Sg_X6_7 (hC _) fl_X6_101 dX6_log_1 ?_
  refine Es_sipush (v := 600) (hC _) dX6_log_4 (by decide) ?_
  refine Es_icmp_ne (hC _) 11 dX6_log_7 (by decide) (fun hb7 => ?_) (fun hb7 => False.elim (absurd ((nI_eq (a := k) (b := 600) (by omega) (by decide)).mp (hk.symm.trans hb7)) (by omega)))
  first | refine Es_aload_n (hC _) dX6_log_11 rfl ?_ | refine Es_aload_nN (hC _) dX6_log_11 rfl ?_
  refine Sg_X6_22 (hC _) fl_X6_65 dX6_log_12 ?_
  first | refine Es_aload_n (hC _) dX6_log_15 rfl ?_ | refine Es_aload_nN (hC _) dX6_log_15 rfl ?_
  refine Sg_X6_7 (hC _) fl_X6_101 dX6_log_16 ?_
  refine Es_iload_n (hC _) dX6_log_19 rfl ?_
  refine Es_iastN (hC _) dX6_log_20 rfl (fun _ => rfl) hk h6 (by decide) ?_
  first | refine Es_aload_n (hC _) dX6_log_21 rfl ?_ | refine Es_aload_nN (hC _) dX6_log_21 rfl ?_
  refine Sg_X6_23 (hC _) fl_X6_68 dX6_log_22 ?_
  first | refine Es_aload_n (hC _) dX6_log_25 rfl ?_ | refine Es_aload_nN (hC _) dX6_log_25 rfl ?_
  refine Sg_X6_7 (hC _) fl_X6_101 dX6_log_26 ?_
  first | refine Es_aload_n (hC _) dX6_log_29 rfl ?_ | refine Es_aload_nN (hC _) dX6_log_29 rfl ?_
  refine Sg_X6_3 (hC _) fl_X6_104 dX6_log_30 ?_
  refine Es_iastN (hC _) dX6_log_33 rfl (fun _ => rfl) (by rw [uB_n (by omega)]; exact hk) h6 (by decide) ?_
  first | refine Es_aload_n (hC _) dX6_log_34 rfl ?_ | refine Es_aload_nN (hC _) dX6_log_34 rfl ?_
  refine Sg_X6_24 (hC _) fl_X6_71 dX6_log_35 ?_
  first | refine Es_aload_n (hC _) dX6_log_38 rfl ?_ | refine Es_aload_nN (hC _) dX6_log_38 rfl ?_
  refine Sg_X6_7 (hC _) fl_X6_101 dX6_log_39 ?_
  first | refine Es_aload_n (hC _) dX6_log_42 rfl ?_ | refine Es_aload_nN (hC _) dX6_log_42 rfl ?_
  refine Sg_X6_17 (hC _) fl_X6_50 dX6_log_43 ?_
  refine Es_iload_n (hC _) dX6_log_46 rfl ?_
  refine Es_ialdN (hC _) dX6_log_47 rfl rfl rfl ht (by decide) ?_
  refine Es_iastN (hC _) dX6_log_48 rfl (fun _ => rfl) (by rw [uB_n (by omega), uB_n (by omega)]; exact hk) h6 (by decide) ?_
  first | refine Es_aload_n (hC _) dX6_log_49 rfl ?_ | refine Es_aload_nN (hC _) dX6_log_49 rfl ?_
  refine Es_dup (hC _) dX6_log_50 rfl ?_
  refine Sg_X6_7 (hC _) fl_X6_101 dX6_log_51 ?_
  refine Es_iconst (v := 1) (hC _) dX6_log_54 (by decide) ?_
  refine Es_iadd (hC _) dX6_log_55 ?_
  refine Sp_X6_7 (hC _) fl_X6_101 dX6_log_56 ?_
  exact Es_vret dX6_log_59 ⟨rfl, by rw [uB_n (by omega), uB_n (by omega), uB_n (by omega), uB_n (by omega), uB_n (by omega), uB_n (by omega), hk, nI_1]; rfl, rfl⟩

set_option maxRecDepth 100000 in
set_option maxHeartbeats 4000000 in
theorem r_log_full {ad : sA} {nw nt : Nat} {B : sB} {L : sL} {x : Int32} (hk : B 25 0 7 = nI 600) : Cf yX6_log cX6_log 2 none 0 [.ref (ad 25 0), .int x] ad nw nt B L (none) (B) (L) := by
  have hC : ∀ Q, je_Ok (sCm yX6_log cX6_log 2 none 0 ad nw nt Q) RX6 cX6_log 2 0 := fun _ => je_Cm_ok
  refine Cs_of [some (.ref (ad 25 0)), some (.int x)] (by decide) rfl (Nat.le_of_ble_eq_true rfl) ?_
  first | refine Es_aload_n (hC _) dX6_log_0 rfl ?_ | refine Es_aload_nN (hC _) dX6_log_0 rfl ?_
  refine Sg_X6_7 (hC _) fl_X6_101 dX6_log_1 ?_
  refine Es_sipush (v := 600) (hC _) dX6_log_4 (by decide) ?_
  refine Es_icmp_ne (hC _) 11 dX6_log_7 (by decide) (fun hb7 => False.elim (hb7 hk)) (fun hb7 => ?_)
  exact Es_vret dX6_log_10 ⟨rfl, rfl, rfl⟩

set_option maxRecDepth 100000 in
set_option maxHeartbeats 4000000 in
theorem r_lays {ad : sA} {nw nt : Nat} {B : sB} {L : sL} {t k : Nat} {x : Int32} (ht : t < 40) (hk : B 25 0 7 = nI k) (h6 : k < 600) : Cf yX6_lays cX6_lays 3 none 1 [.ref (ad 25 0), .int (nI t), .int x] ad nw nt B L (none) (rLog (uB B 47 0 t x) k t) (L) := by
  have hC : ∀ Q, je_Ok (sCm yX6_lays cX6_lays 3 none 1 ad nw nt Q) RX6 cX6_lays 3 1 := fun _ => je_Cm_ok
  refine Cs_of [some (.ref (ad 25 0)), some (.int (nI t)), some (.int x)] (by decide) rfl (Nat.le_of_ble_eq_true rfl) ?_
  first | refine Es_aload_n (hC _) dX6_lays_0 rfl ?_ | refine Es_aload_nN (hC _) dX6_lays_0 rfl ?_
  refine Sg_X6_17 (hC _) fl_X6_50 dX6_lays_1 ?_
  refine Es_iload_n (hC _) dX6_lays_4 rfl ?_
  refine Es_iload_n (hC _) dX6_lays_5 rfl ?_
  refine Es_iastN (hC _) dX6_lays_6 rfl (fun _ => rfl) rfl ht (by decide) ?_
  first | refine Es_aload_n (hC _) dX6_lays_7 rfl ?_ | refine Es_aload_nN (hC _) dX6_lays_7 rfl ?_
  refine Es_iload_n (hC _) dX6_lays_8 rfl ?_
  refine Es_fV (hC _) mv_X6_118 dX6_lays_9 (r_log ht (by rw [uB_n (by omega)]; exact hk) h6) rfl rfl ⟨_, rfl, rfl⟩ rfl rfl (by decide) (Nat.le_of_ble_eq_true rfl) ?_
  exact Es_vret dX6_lays_12 ⟨rfl, rfl, rfl⟩

set_option maxRecDepth 100000 in
set_option maxHeartbeats 4000000 in
theorem r_lays_full {ad : sA} {nw nt : Nat} {B : sB} {L : sL} {t : Nat} {x : Int32} (ht : t < 40) (hk : B 25 0 7 = nI 600) : Cf yX6_lays cX6_lays 3 none 1 [.ref (ad 25 0), .int (nI t), .int x] ad nw nt B L (none) (uB B 47 0 t x) (L) := by
  have hC : ∀ Q, je_Ok (sCm yX6_lays cX6_lays 3 none 1 ad nw nt Q) RX6 cX6_lays 3 1 := fun _ => je_Cm_ok
  refine Cs_of [some (.ref (ad 25 0)), some (.int (nI t)), some (.int x)] (by decide) rfl (Nat.le_of_ble_eq_true rfl) ?_
  first | refine Es_aload_n (hC _) dX6_lays_0 rfl ?_ | refine Es_aload_nN (hC _) dX6_lays_0 rfl ?_
  refine Sg_X6_17 (hC _) fl_X6_50 dX6_lays_1 ?_
  refine Es_iload_n (hC _) dX6_lays_4 rfl ?_
  refine Es_iload_n (hC _) dX6_lays_5 rfl ?_
  refine Es_iastN (hC _) dX6_lays_6 rfl (fun _ => rfl) rfl ht (by decide) ?_
  first | refine Es_aload_n (hC _) dX6_lays_7 rfl ?_ | refine Es_aload_nN (hC _) dX6_lays_7 rfl ?_
  refine Es_iload_n (hC _) dX6_lays_8 rfl ?_
  refine Es_fV (hC _) mv_X6_118 dX6_lays_9 (r_log_full (by rw [uB_n (by omega)]; exact hk)) rfl rfl ⟨_, rfl, rfl⟩ rfl rfl (by decide) (Nat.le_of_ble_eq_true rfl) ?_
  exact Es_vret dX6_lays_12 ⟨rfl, rfl, rfl⟩

set_option maxRecDepth 100000 in
set_option maxHeartbeats 4000000 in
theorem c_hasPlace_in {ad : sA} {nw nt : Nat} {B : sB} {L : sL} {w p : Nat} (hw : w < nw) (hp : B 18 w 3 = nI p) (h7 : p ≤ 7) {j : Nat} (hj : j < p) : Cf yX3_hasPlace cX3_hasPlace 2 (some FieldType.boolean) 0 [.ref (ad 18 w), .int (nI j)] ad nw nt B L (some (.int 1)) (B) (L) := by
  have hC : ∀ Q, je_Ok (sCm yX3_hasPlace cX3_hasPlace 2 (some FieldType.boolean) 0 ad nw nt Q) RX3 cX3_hasPlace 2 0 := fun _ => je_Cm_ok
  refine Cs_of [some (.ref (ad 18 w)), some (.int (nI j))] (by decide) rfl (Nat.le_of_ble_eq_true rfl) ?_
  refine Es_iload_n (hC _) dX3_hasPlace_0 rfl ?_
  refine Es_if_lt (hC _) 22 dX3_hasPlace_1 (by decide) (fun hb1 => False.elim (nI_pos (by omega) hb1)) (fun hb1 => ?_)
  refine Es_iload_n (hC _) dX3_hasPlace_4 rfl ?_
  first | refine Es_aload_n (hC _) dX3_hasPlace_5 rfl ?_ | refine Es_aload_nN (hC _) dX3_hasPlace_5 rfl ?_
  refine Sg_X3_3 (hC _) fl_X3_25 dX3_hasPlace_6 hw ?_
  rw [hp]
  refine Es_icmp_ge (hC _) 22 dX3_hasPlace_9 (by decide) (fun hb9 => False.elim (nI_ge hj (by omega) hb9)) (fun hb9 => ?_)
  refine Es_iload_n (hC _) dX3_hasPlace_12 rfl ?_
  refine Es_bipush (v := 7) (hC _) dX3_hasPlace_13 (by decide) ?_
  refine Es_icmp_ge (hC _) 22 dX3_hasPlace_15 (by decide) (fun hb15 => False.elim (nI_ge (b := 7) (a := j) (by omega) (by omega) hb15)) (fun hb15 => ?_)
  refine Es_iconst (v := 1) (hC _) dX3_hasPlace_18 (by decide) ?_
  refine Es_goto (hC _) 23 dX3_hasPlace_19 (by decide) ?_
  exact Es_iret dX3_hasPlace_23 rfl ⟨rfl, rfl, rfl⟩

set_option maxRecDepth 100000 in
set_option maxHeartbeats 4000000 in
theorem c_hasPlace_out {ad : sA} {nw nt : Nat} {B : sB} {L : sL} {w p : Nat} (hw : w < nw) (hp : B 18 w 3 = nI p) (h7 : p ≤ 7) {x : Int32} (ho : out x p) : Cf yX3_hasPlace cX3_hasPlace 2 (some FieldType.boolean) 0 [.ref (ad 18 w), .int x] ad nw nt B L (some (.int 0)) (B) (L) := by
  have hC : ∀ Q, je_Ok (sCm yX3_hasPlace cX3_hasPlace 2 (some FieldType.boolean) 0 ad nw nt Q) RX3 cX3_hasPlace 2 0 := fun _ => je_Cm_ok
  refine Cs_of [some (.ref (ad 18 w)), some (.int x)] (by decide) rfl (Nat.le_of_ble_eq_true rfl) ?_
  refine Es_iload_n (hC _) dX3_hasPlace_0 rfl ?_
  refine Es_if_lt (hC _) 22 dX3_hasPlace_1 (by decide) (fun hb1 => ?_) (fun hb1 => ?_)
  · refine Es_iconst (v := 0) (hC _) dX3_hasPlace_22 (by decide) ?_
    exact Es_iret dX3_hasPlace_23 rfl ⟨rfl, rfl, rfl⟩
  · refine Es_iload_n (hC _) dX3_hasPlace_4 rfl ?_
    first | refine Es_aload_n (hC _) dX3_hasPlace_5 rfl ?_ | refine Es_aload_nN (hC _) dX3_hasPlace_5 rfl ?_
    refine Sg_X3_3 (hC _) fl_X3_25 dX3_hasPlace_6 hw ?_
    rw [hp]
    refine Es_icmp_ge (hC _) 22 dX3_hasPlace_9 (by decide) (fun hb9 => ?_) (fun hb9 => ?_)
    · refine Es_iconst (v := 0) (hC _) dX3_hasPlace_22 (by decide) ?_
      exact Es_iret dX3_hasPlace_23 rfl ⟨rfl, rfl, rfl⟩
    · exact (ho.elim hb1 hb9).elim

set_option maxRecDepth 100000 in
set_option maxHeartbeats 4000000 in
theorem c_isFull {ad : sA} {nw nt : Nat} {B : sB} {L : sL} {w p : Nat} (hw : w < nw) (hp : B 18 w 3 = nI p) (h7 : p ≤ 7) : Cf yX3_isFull cX3_isFull 1 (some FieldType.boolean) 0 [.ref (ad 18 w)] ad nw nt B L (some (.int (bI (p = 7)))) (B) (L) := by
  have hC : ∀ Q, je_Ok (sCm yX3_isFull cX3_isFull 1 (some FieldType.boolean) 0 ad nw nt Q) RX3 cX3_isFull 1 0 := fun _ => je_Cm_ok
  refine Cs_of [some (.ref (ad 18 w))] (by decide) rfl (Nat.le_of_ble_eq_true rfl) ?_
  first | refine Es_aload_n (hC _) dX3_isFull_0 rfl ?_ | refine Es_aload_nN (hC _) dX3_isFull_0 rfl ?_
  refine Sg_X3_3 (hC _) fl_X3_25 dX3_isFull_1 hw ?_
  refine Es_bipush (v := 7) (hC _) dX3_isFull_4 (by decide) ?_
  rw [hp]
  refine Es_icmp_lt (hC _) 13 dX3_isFull_6 (by decide) (fun hb6 => ?_) (fun hb6 => ?_)
  · refine Es_iconst (v := 0) (hC _) dX3_isFull_13 (by decide) ?_
    exact Es_iret dX3_isFull_14 rfl ⟨by rw [bI, if_neg (fun z => nI_nlt (b := 7) (a := p) (by omega) (by omega) hb6)], rfl, rfl⟩
  · refine Es_iconst (v := 1) (hC _) dX3_isFull_9 (by decide) ?_
    refine Es_goto (hC _) 14 dX3_isFull_10 (by decide) ?_
    exact Es_iret dX3_isFull_14 rfl ⟨by rw [bI, if_pos (Decidable.byContradiction (fun z => hb6 (nI_lt (b := 7) (by omega) (by decide))))], rfl, rfl⟩

set_option maxRecDepth 100000 in
set_option maxHeartbeats 4000000 in
theorem c_addPlace {ad : sA} {nw nt : Nat} {B : sB} {L : sL} {w p : Nat} {x : Int32} (hw : w < nw) (hp : B 18 w 3 = nI p) (h7 : p < 7) : Cf yX3_addPlace cX3_addPlace 3 (some FieldType.int) 1 [.ref (ad 18 w), .int x] ad nw nt B L (some (.int (nI p))) (uB (uB B 19 w p x) 18 w 3 (nI (p + 1))) (L) := by
  have hC : ∀ Q, je_Ok (sCm yX3_addPlace cX3_addPlace 3 (some FieldType.int) 1 ad nw nt Q) RX3 cX3_addPlace 3 1 := fun _ => je_Cm_ok
  refine Cs_of [some (.ref (ad 18 w)), some (.int x), none] (by decide) rfl (Nat.le_of_ble_eq_true rfl) ?_
  first | refine Es_aload_n (hC _) dX3_addPlace_0 rfl ?_ | refine Es_aload_nN (hC _) dX3_addPlace_0 rfl ?_
  refine Sg_X3_3 (hC _) fl_X3_25 dX3_addPlace_1 hw ?_
  rw [hp]
  refine Es_istore_n (lv' := [_, _, _]) (hC _) dX3_addPlace_4 (by decide) rfl rfl ?_
  first | refine Es_aload_n (hC _) dX3_addPlace_5 rfl ?_ | refine Es_aload_nN (hC _) dX3_addPlace_5 rfl ?_
  refine Sg_X3_1 (hC _) fl_X3_9 dX3_addPlace_6 hw ?_
  refine Es_iload_n (hC _) dX3_addPlace_9 rfl ?_
  refine Es_iload_n (hC _) dX3_addPlace_10 rfl ?_
  refine Es_fSN (hC _) ms_X3_28 dX3_addPlace_11 (c_write (kd := 19) (n := 7) (ok19 hw) (fun _ => rfl) rfl h7 (by decide)) rfl rfl (by decide) (Nat.le_of_ble_eq_true rfl) ?_
  first | refine Es_aload_n (hC _) dX3_addPlace_14 rfl ?_ | refine Es_aload_nN (hC _) dX3_addPlace_14 rfl ?_
  refine Es_iload_n (hC _) dX3_addPlace_15 rfl ?_
  refine Es_iconst (v := 1) (hC _) dX3_addPlace_16 (by decide) ?_
  refine Es_iadd (hC _) dX3_addPlace_17 ?_
  rw [nI_1]
  refine Sp_X3_3 (hC _) fl_X3_25 dX3_addPlace_18 hw ?_
  refine Es_iload_n (hC _) dX3_addPlace_21 rfl ?_
  exact Es_iret dX3_addPlace_22 rfl ⟨rfl, rfl, rfl⟩

set_option maxRecDepth 100000 in
set_option maxHeartbeats 4000000 in
theorem c_kindOf_in {ad : sA} {nw nt : Nat} {B : sB} {L : sL} {w p : Nat} (hw : w < nw) (hp : B 18 w 3 = nI p) (h7 : p ≤ 7) {j : Nat} (hj : j < p) : Cf yX3_kindOf cX3_kindOf 2 (some FieldType.int) 1 [.ref (ad 18 w), .int (nI j)] ad nw nt B L (some (.int (B 19 w j))) (B) (L) := by
  have hC : ∀ Q, je_Ok (sCm yX3_kindOf cX3_kindOf 2 (some FieldType.int) 1 ad nw nt Q) RX3 cX3_kindOf 2 1 := fun _ => je_Cm_ok
  refine Cs_of [some (.ref (ad 18 w)), some (.int (nI j))] (by decide) rfl (Nat.le_of_ble_eq_true rfl) ?_
  first | refine Es_aload_n (hC _) dX3_kindOf_0 rfl ?_ | refine Es_aload_nN (hC _) dX3_kindOf_0 rfl ?_
  refine Es_iload_n (hC _) dX3_kindOf_1 rfl ?_
  refine Es_fV (hC _) mv_X3_32 dX3_kindOf_2 (c_hasPlace_in hw hp h7 hj) (ok18 hw) rfl ⟨_, rfl, rfl⟩ rfl rfl (by decide) (Nat.le_of_ble_eq_true rfl) ?_
  refine Es_if_eq (hC _) 19 dX3_kindOf_5 (by decide) (fun hb5 => False.elim (absurd hb5 (by decide))) (fun hb5 => ?_)
  first | refine Es_aload_n (hC _) dX3_kindOf_8 rfl ?_ | refine Es_aload_nN (hC _) dX3_kindOf_8 rfl ?_
  refine Sg_X3_1 (hC _) fl_X3_9 dX3_kindOf_9 hw ?_
  refine Es_iload_n (hC _) dX3_kindOf_12 rfl ?_
  refine Es_fSN (hC _) ms_X3_36 dX3_kindOf_13 (c_at (kd := 19) (n := 7) (ok19 hw) rfl rfl (by omega) (by decide)) rfl rfl (by decide) (Nat.le_of_ble_eq_true rfl) ?_
  refine Es_goto (hC _) 21 dX3_kindOf_16 (by decide) ?_
  exact Es_iret dX3_kindOf_21 rfl ⟨rfl, rfl, rfl⟩

set_option maxRecDepth 100000 in
set_option maxHeartbeats 4000000 in
theorem c_kindOf_out {ad : sA} {nw nt : Nat} {B : sB} {L : sL} {w p : Nat} (hw : w < nw) (hp : B 18 w 3 = nI p) (h7 : p ≤ 7) {x : Int32} (ho : out x p) : Cf yX3_kindOf cX3_kindOf 2 (some FieldType.int) 1 [.ref (ad 18 w), .int x] ad nw nt B L (some (.int (-9))) (B) (L) := by
  have hC : ∀ Q, je_Ok (sCm yX3_kindOf cX3_kindOf 2 (some FieldType.int) 1 ad nw nt Q) RX3 cX3_kindOf 2 1 := fun _ => je_Cm_ok
  refine Cs_of [some (.ref (ad 18 w)), some (.int x)] (by decide) rfl (Nat.le_of_ble_eq_true rfl) ?_
  first | refine Es_aload_n (hC _) dX3_kindOf_0 rfl ?_ | refine Es_aload_nN (hC _) dX3_kindOf_0 rfl ?_
  refine Es_iload_n (hC _) dX3_kindOf_1 rfl ?_
  refine Es_fV (hC _) mv_X3_32 dX3_kindOf_2 (c_hasPlace_out hw hp h7 ho) (ok18 hw) rfl ⟨_, rfl, rfl⟩ rfl rfl (by decide) (Nat.le_of_ble_eq_true rfl) ?_
  refine Es_if_eq (hC _) 19 dX3_kindOf_5 (by decide) (fun hb5 => ?_) (fun hb5 => False.elim (hb5 rfl))
  refine Es_bipush (v := -9) (hC _) dX3_kindOf_19 (by decide) ?_
  exact Es_iret dX3_kindOf_21 rfl ⟨rfl, rfl, rfl⟩

set_option maxRecDepth 100000 in
set_option maxHeartbeats 4000000 in
theorem c_tyreOn_in {ad : sA} {nw nt : Nat} {B : sB} {L : sL} {w p : Nat} (hw : w < nw) (hp : B 18 w 3 = nI p) (h7 : p ≤ 7) {j : Nat} (hj : j < p) : Cf yX3_tyreOn cX3_tyreOn 2 (some (FieldType.object "TyreBook$Tyre")) 1 [.ref (ad 18 w), .int (nI j)] ad nw nt B L (some (va_rf (rT ad (B 20 w j)))) (B) (L) := by
  have hC : ∀ Q, je_Ok (sCm yX3_tyreOn cX3_tyreOn 2 (some (FieldType.object "TyreBook$Tyre")) 1 ad nw nt Q) RX3 cX3_tyreOn 2 1 := fun _ => je_Cm_ok
  refine Cs_of [some (.ref (ad 18 w)), some (.int (nI j))] (by decide) rfl (Nat.le_of_ble_eq_true rfl) ?_
  first | refine Es_aload_n (hC _) dX3_tyreOn_0 rfl ?_ | refine Es_aload_nN (hC _) dX3_tyreOn_0 rfl ?_
  refine Es_iload_n (hC _) dX3_tyreOn_1 rfl ?_
  refine Es_fV (hC _) mv_X3_32 dX3_tyreOn_2 (c_hasPlace_in hw hp h7 hj) (ok18 hw) rfl ⟨_, rfl, rfl⟩ rfl rfl (by decide) (Nat.le_of_ble_eq_true rfl) ?_
  refine Es_if_eq (hC _) 17 dX3_tyreOn_5 (by decide) (fun hb5 => False.elim (absurd hb5 (by decide))) (fun hb5 => ?_)
  first | refine Es_aload_n (hC _) dX3_tyreOn_8 rfl ?_ | refine Es_aload_nN (hC _) dX3_tyreOn_8 rfl ?_
  refine Sg_X3_2 (hC _) fl_X3_17 dX3_tyreOn_9 hw ?_
  refine Es_iload_n (hC _) dX3_tyreOn_12 rfl ?_
  refine Es_aaldN (hC _) (Or.inl rfl) dX3_tyreOn_13 (ok20 hw) rfl rfl (by omega) (by decide) rfl ?_
  refine Es_goto (hC _) 18 dX3_tyreOn_14 (by decide) ?_
  exact Es_aret dX3_tyreOn_18 (va_rf_or _) ⟨rfl, rfl, rfl⟩

set_option maxRecDepth 100000 in
set_option maxHeartbeats 4000000 in
theorem c_tyreOn_out {ad : sA} {nw nt : Nat} {B : sB} {L : sL} {w p : Nat} (hw : w < nw) (hp : B 18 w 3 = nI p) (h7 : p ≤ 7) {x : Int32} (ho : out x p) : Cf yX3_tyreOn cX3_tyreOn 2 (some (FieldType.object "TyreBook$Tyre")) 1 [.ref (ad 18 w), .int x] ad nw nt B L (some .null) (B) (L) := by
  have hC : ∀ Q, je_Ok (sCm yX3_tyreOn cX3_tyreOn 2 (some (FieldType.object "TyreBook$Tyre")) 1 ad nw nt Q) RX3 cX3_tyreOn 2 1 := fun _ => je_Cm_ok
  refine Cs_of [some (.ref (ad 18 w)), some (.int x)] (by decide) rfl (Nat.le_of_ble_eq_true rfl) ?_
  first | refine Es_aload_n (hC _) dX3_tyreOn_0 rfl ?_ | refine Es_aload_nN (hC _) dX3_tyreOn_0 rfl ?_
  refine Es_iload_n (hC _) dX3_tyreOn_1 rfl ?_
  refine Es_fV (hC _) mv_X3_32 dX3_tyreOn_2 (c_hasPlace_out hw hp h7 ho) (ok18 hw) rfl ⟨_, rfl, rfl⟩ rfl rfl (by decide) (Nat.le_of_ble_eq_true rfl) ?_
  refine Es_if_eq (hC _) 17 dX3_tyreOn_5 (by decide) (fun hb5 => ?_) (fun hb5 => False.elim (hb5 rfl))
  refine Es_null (hC _) dX3_tyreOn_17 ?_
  exact Es_aret dX3_tyreOn_18 (by first | exact Or.inl rfl | exact Or.inr ⟨_, rfl⟩) ⟨rfl, rfl, rfl⟩

set_option maxRecDepth 100000 in
set_option maxHeartbeats 4000000 in
theorem c_lay_null {ad : sA} {nw nt : Nat} {B : sB} {L : sL} {w p : Nat} (hw : w < nw) (hp : B 18 w 3 = nI p) (h7 : p ≤ 7) {j : Nat} (hj : j < p) : Cf yX3_lay cX3_lay 3 none 1 [.ref (ad 18 w), .int (nI j), .null] ad nw nt B L (none) (uB B 20 w j (-1)) (L) := by
  have hC : ∀ Q, je_Ok (sCm yX3_lay cX3_lay 3 none 1 ad nw nt Q) RX3 cX3_lay 3 1 := fun _ => je_Cm_ok
  refine Cs_of [some (.ref (ad 18 w)), some (.int (nI j)), some (.null)] (by decide) rfl (Nat.le_of_ble_eq_true rfl) ?_
  first | refine Es_aload_n (hC _) dX3_lay_0 rfl ?_ | refine Es_aload_nN (hC _) dX3_lay_0 rfl ?_
  refine Es_iload_n (hC _) dX3_lay_1 rfl ?_
  refine Es_fV (hC _) mv_X3_32 dX3_lay_2 (c_hasPlace_in hw hp h7 hj) (ok18 hw) rfl ⟨_, rfl, rfl⟩ rfl rfl (by decide) (Nat.le_of_ble_eq_true rfl) ?_
  refine Es_if_eq (hC _) 15 dX3_lay_5 (by decide) (fun hb5 => False.elim (absurd hb5 (by decide))) (fun hb5 => ?_)
  first | refine Es_aload_n (hC _) dX3_lay_8 rfl ?_ | refine Es_aload_nN (hC _) dX3_lay_8 rfl ?_
  refine Sg_X3_2 (hC _) fl_X3_17 dX3_lay_9 hw ?_
  refine Es_iload_n (hC _) dX3_lay_12 rfl ?_
  first | refine Es_aload_n (hC _) dX3_lay_13 rfl ?_ | refine Es_aload_nN (hC _) dX3_lay_13 rfl ?_
  refine Es_aastNK (hC _) dX3_lay_14 (ok20 hw) (fun _ => rfl) rfl (by omega) ?_
  exact Es_vret dX3_lay_15 ⟨rfl, rfl, rfl⟩

set_option maxRecDepth 100000 in
set_option maxHeartbeats 4000000 in
theorem c_lay {ad : sA} {nw nt : Nat} {B : sB} {L : sL} {w p : Nat} (hw : w < nw) (hp : B 18 w 3 = nI p) (h7 : p ≤ 7) {j t : Nat} (hj : j < p) (ht : t < nt) (ht2 : t < 2 ^ 31) : Cf yX3_lay cX3_lay 3 none 1 [.ref (ad 18 w), .int (nI j), .ref (ad 21 t)] ad nw nt B L (none) (uB B 20 w j (nI t)) (L) := by
  have hC : ∀ Q, je_Ok (sCm yX3_lay cX3_lay 3 none 1 ad nw nt Q) RX3 cX3_lay 3 1 := fun _ => je_Cm_ok
  refine Cs_of [some (.ref (ad 18 w)), some (.int (nI j)), some (.ref (ad 21 t))] (by decide) rfl (Nat.le_of_ble_eq_true rfl) ?_
  first | refine Es_aload_n (hC _) dX3_lay_0 rfl ?_ | refine Es_aload_nN (hC _) dX3_lay_0 rfl ?_
  refine Es_iload_n (hC _) dX3_lay_1 rfl ?_
  refine Es_fV (hC _) mv_X3_32 dX3_lay_2 (c_hasPlace_in hw hp h7 hj) (ok18 hw) rfl ⟨_, rfl, rfl⟩ rfl rfl (by decide) (Nat.le_of_ble_eq_true rfl) ?_
  refine Es_if_eq (hC _) 15 dX3_lay_5 (by decide) (fun hb5 => False.elim (absurd hb5 (by decide))) (fun hb5 => ?_)
  first | refine Es_aload_n (hC _) dX3_lay_8 rfl ?_ | refine Es_aload_nN (hC _) dX3_lay_8 rfl ?_
  refine Sg_X3_2 (hC _) fl_X3_17 dX3_lay_9 hw ?_
  refine Es_iload_n (hC _) dX3_lay_12 rfl ?_
  first | refine Es_aload_n (hC _) dX3_lay_13 rfl ?_ | refine Es_aload_nN (hC _) dX3_lay_13 rfl ?_
  refine Es_aastK (hC _) dX3_lay_14 (ok20 hw) (fun _ => rfl) rfl (by omega) ht ht2 ?_
  exact Es_vret dX3_lay_15 ⟨rfl, rfl, rfl⟩

set_option maxRecDepth 100000 in
set_option maxHeartbeats 4000000 in
theorem c_spot {ad : sA} {nw nt : Nat} {B : sB} {L : sL} {w j : Nat} (hw : w < nw) (hn : B 18 w 0 = nI w) : Cf yX3_spot cX3_spot 2 (some FieldType.int) 0 [.ref (ad 18 w), .int (nI j)] ad nw nt B L (some (.int (nI (10 * w + j)))) (B) (L) := by
  have hC : ∀ Q, je_Ok (sCm yX3_spot cX3_spot 2 (some FieldType.int) 0 ad nw nt Q) RX3 cX3_spot 2 0 := fun _ => je_Cm_ok
  refine Cs_of [some (.ref (ad 18 w)), some (.int (nI j))] (by decide) rfl (Nat.le_of_ble_eq_true rfl) ?_
  refine Es_bipush (v := 10) (hC _) dX3_spot_0 (by decide) ?_
  first | refine Es_aload_n (hC _) dX3_spot_2 rfl ?_ | refine Es_aload_nN (hC _) dX3_spot_2 rfl ?_
  refine Sg_X3_0 (hC _) fl_X3_21 dX3_spot_3 hw ?_
  rw [hn]
  refine Es_imul (hC _) dX3_spot_6 ?_
  refine Es_iload_n (hC _) dX3_spot_7 rfl ?_
  refine Es_iadd (hC _) dX3_spot_8 ?_
  exact Es_iret dX3_spot_9 rfl ⟨by rw [show (10 : Int32) = nI 10 from rfl, pk_mul, nI_add], rfl, rfl⟩

set_option maxRecDepth 100000 in
set_option maxHeartbeats 4000000 in
theorem r_spot {ad : sA} {nw nt : Nat} {B : sB} {L : sL} {w j : Nat} : Cf yX6_spot cX6_spot 2 (some FieldType.int) 0 [.int (nI w), .int (nI j)] ad nw nt B L (some (.int (nI (7 * w + j)))) (B) (L) := by
  have hC : ∀ Q, je_Ok (sCm yX6_spot cX6_spot 2 (some FieldType.int) 0 ad nw nt Q) RX6 cX6_spot 2 0 := fun _ => je_Cm_ok
  refine Cs_of [some (.int (nI w)), some (.int (nI j))] (by decide) rfl (Nat.le_of_ble_eq_true rfl) ?_
  refine Es_bipush (v := 7) (hC _) dX6_spot_0 (by decide) ?_
  refine Es_iload_n (hC _) dX6_spot_2 rfl ?_
  refine Es_imul (hC _) dX6_spot_3 ?_
  refine Es_iload_n (hC _) dX6_spot_4 rfl ?_
  refine Es_iadd (hC _) dX6_spot_5 ?_
  exact Es_iret dX6_spot_6 rfl ⟨by rw [show (7 : Int32) = nI 7 from rfl, pk_mul, nI_add], rfl, rfl⟩

set_option maxRecDepth 100000 in
set_option maxHeartbeats 4000000 in
theorem r_isPlace_in {ad : sA} {nw nt : Nat} {B : sB} {L : sL} {w j p : Nat} (hn : B 25 0 4 = nI nw) (h5 : nw ≤ 5) (hw : w < nw) (hp : B 38 0 w = nI p) (h7 : p ≤ 7) (hj : j < p) : Cf yX6_isPlace cX6_isPlace 3 (some FieldType.boolean) 1 [.ref (ad 25 0), .int (nI w), .int (nI j)] ad nw nt B L (some (.int 1)) (B) (L) := by
  have hC : ∀ Q, je_Ok (sCm yX6_isPlace cX6_isPlace 3 (some FieldType.boolean) 1 ad nw nt Q) RX6 cX6_isPlace 3 1 := fun _ => je_Cm_ok
  refine Cs_of [some (.ref (ad 25 0)), some (.int (nI w)), some (.int (nI j))] (by decide) rfl (Nat.le_of_ble_eq_true rfl) ?_
  refine Es_iload_n (hC _) dX6_isPlace_0 rfl ?_
  first | refine Es_aload_n (hC _) dX6_isPlace_1 rfl ?_ | refine Es_aload_nN (hC _) dX6_isPlace_1 rfl ?_
  refine Sg_X6_4 (hC _) fl_X6_86 dX6_isPlace_2 ?_
  rw [hn]
  refine Es_fS (hC _) ms_X6_89 dX6_isPlace_5 (r_isIn_in hw (by omega)) rfl rfl (by decide) (Nat.le_of_ble_eq_true rfl) ?_
  refine Es_if_eq (hC _) 28 dX6_isPlace_8 (by decide) (fun hb8 => False.elim (absurd hb8 (by decide))) (fun hb8 => ?_)
  refine Es_iload_n (hC _) dX6_isPlace_11 rfl ?_
  first | refine Es_aload_n (hC _) dX6_isPlace_12 rfl ?_ | refine Es_aload_nN (hC _) dX6_isPlace_12 rfl ?_
  refine Sg_X6_8 (hC _) fl_X6_23 dX6_isPlace_13 ?_
  refine Es_iload_n (hC _) dX6_isPlace_16 rfl ?_
  refine Es_ialdN (hC _) dX6_isPlace_17 rfl rfl rfl (by omega) (by decide) ?_
  rw [hp]
  refine Es_fS (hC _) ms_X6_89 dX6_isPlace_18 (r_isIn_in hj (by omega)) rfl rfl (by decide) (Nat.le_of_ble_eq_true rfl) ?_
  refine Es_if_eq (hC _) 28 dX6_isPlace_21 (by decide) (fun hb21 => False.elim (absurd hb21 (by decide))) (fun hb21 => ?_)
  refine Es_iconst (v := 1) (hC _) dX6_isPlace_24 (by decide) ?_
  refine Es_goto (hC _) 29 dX6_isPlace_25 (by decide) ?_
  exact Es_iret dX6_isPlace_29 rfl ⟨rfl, rfl, rfl⟩

set_option maxRecDepth 100000 in
set_option maxHeartbeats 4000000 in
theorem r_isPlace_out1 {ad : sA} {nw nt : Nat} {B : sB} {L : sL} {x y : Int32} (hn : B 25 0 4 = nI nw) (ho : out x nw) : Cf yX6_isPlace cX6_isPlace 3 (some FieldType.boolean) 1 [.ref (ad 25 0), .int x, .int y] ad nw nt B L (some (.int 0)) (B) (L) := by
  have hC : ∀ Q, je_Ok (sCm yX6_isPlace cX6_isPlace 3 (some FieldType.boolean) 1 ad nw nt Q) RX6 cX6_isPlace 3 1 := fun _ => je_Cm_ok
  refine Cs_of [some (.ref (ad 25 0)), some (.int x), some (.int y)] (by decide) rfl (Nat.le_of_ble_eq_true rfl) ?_
  refine Es_iload_n (hC _) dX6_isPlace_0 rfl ?_
  first | refine Es_aload_n (hC _) dX6_isPlace_1 rfl ?_ | refine Es_aload_nN (hC _) dX6_isPlace_1 rfl ?_
  refine Sg_X6_4 (hC _) fl_X6_86 dX6_isPlace_2 ?_
  rw [hn]
  refine Es_fS (hC _) ms_X6_89 dX6_isPlace_5 (r_isIn_out ho) rfl rfl (by decide) (Nat.le_of_ble_eq_true rfl) ?_
  refine Es_if_eq (hC _) 28 dX6_isPlace_8 (by decide) (fun hb8 => ?_) (fun hb8 => False.elim (hb8 rfl))
  refine Es_iconst (v := 0) (hC _) dX6_isPlace_28 (by decide) ?_
  exact Es_iret dX6_isPlace_29 rfl ⟨rfl, rfl, rfl⟩

set_option maxRecDepth 100000 in
set_option maxHeartbeats 4000000 in
theorem r_isPlace_out2 {ad : sA} {nw nt : Nat} {B : sB} {L : sL} {w p : Nat} {y : Int32} (hn : B 25 0 4 = nI nw) (h5 : nw ≤ 5) (hw : w < nw) (hp : B 38 0 w = nI p) (ho : out y p) : Cf yX6_isPlace cX6_isPlace 3 (some FieldType.boolean) 1 [.ref (ad 25 0), .int (nI w), .int y] ad nw nt B L (some (.int 0)) (B) (L) := by
  have hC : ∀ Q, je_Ok (sCm yX6_isPlace cX6_isPlace 3 (some FieldType.boolean) 1 ad nw nt Q) RX6 cX6_isPlace 3 1 := fun _ => je_Cm_ok
  refine Cs_of [some (.ref (ad 25 0)), some (.int (nI w)), some (.int y)] (by decide) rfl (Nat.le_of_ble_eq_true rfl) ?_
  refine Es_iload_n (hC _) dX6_isPlace_0 rfl ?_
  first | refine Es_aload_n (hC _) dX6_isPlace_1 rfl ?_ | refine Es_aload_nN (hC _) dX6_isPlace_1 rfl ?_
  refine Sg_X6_4 (hC _) fl_X6_86 dX6_isPlace_2 ?_
  rw [hn]
  refine Es_fS (hC _) ms_X6_89 dX6_isPlace_5 (r_isIn_in hw (by omega)) rfl rfl (by decide) (Nat.le_of_ble_eq_true rfl) ?_
  refine Es_if_eq (hC _) 28 dX6_isPlace_8 (by decide) (fun hb8 => False.elim (absurd hb8 (by decide))) (fun hb8 => ?_)
  refine Es_iload_n (hC _) dX6_isPlace_11 rfl ?_
  first | refine Es_aload_n (hC _) dX6_isPlace_12 rfl ?_ | refine Es_aload_nN (hC _) dX6_isPlace_12 rfl ?_
  refine Sg_X6_8 (hC _) fl_X6_23 dX6_isPlace_13 ?_
  refine Es_iload_n (hC _) dX6_isPlace_16 rfl ?_
  refine Es_ialdN (hC _) dX6_isPlace_17 rfl rfl rfl (by omega) (by decide) ?_
  rw [hp]
  refine Es_fS (hC _) ms_X6_89 dX6_isPlace_18 (r_isIn_out ho) rfl rfl (by decide) (Nat.le_of_ble_eq_true rfl) ?_
  refine Es_if_eq (hC _) 28 dX6_isPlace_21 (by decide) (fun hb21 => ?_) (fun hb21 => False.elim (hb21 rfl))
  refine Es_iconst (v := 0) (hC _) dX6_isPlace_28 (by decide) ?_
  exact Es_iret dX6_isPlace_29 rfl ⟨rfl, rfl, rfl⟩

set_option maxRecDepth 100000 in
set_option maxHeartbeats 4000000 in
theorem r_fresh {ad : sA} {nw nt : Nat} {B : sB} {L : sL} {t : Nat} (ht : t < 40) : Cf yX6_fresh cX6_fresh 2 none 0 [.ref (ad 25 0), .int (nI t)] ad nw nt B L (none) (uB (uB (uB (uB B 46 0 t 0) 49 0 t 1) 50 0 (13 * t) 0) 51 0 (13 * t) 180) (L) := by
  have hC : ∀ Q, je_Ok (sCm yX6_fresh cX6_fresh 2 none 0 ad nw nt Q) RX6 cX6_fresh 2 0 := fun _ => je_Cm_ok
  refine Cs_of [some (.ref (ad 25 0)), some (.int (nI t))] (by decide) rfl (Nat.le_of_ble_eq_true rfl) ?_
  first | refine Es_aload_n (hC _) dX6_fresh_0 rfl ?_ | refine Es_aload_nN (hC _) dX6_fresh_0 rfl ?_
  refine Sg_X6_16 (hC _) fl_X6_47 dX6_fresh_1 ?_
  refine Es_iload_n (hC _) dX6_fresh_4 rfl ?_
  refine Es_iconst (v := 0) (hC _) dX6_fresh_5 (by decide) ?_
  refine Es_iastN (hC _) dX6_fresh_6 rfl (fun _ => rfl) rfl ht (by decide) ?_
  first | refine Es_aload_n (hC _) dX6_fresh_7 rfl ?_ | refine Es_aload_nN (hC _) dX6_fresh_7 rfl ?_
  refine Sg_X6_19 (hC _) fl_X6_56 dX6_fresh_8 ?_
  refine Es_iload_n (hC _) dX6_fresh_11 rfl ?_
  refine Es_iconst (v := 1) (hC _) dX6_fresh_12 (by decide) ?_
  refine Es_iastN (hC _) dX6_fresh_13 rfl (fun _ => rfl) rfl ht (by decide) ?_
  first | refine Es_aload_n (hC _) dX6_fresh_14 rfl ?_ | refine Es_aload_nN (hC _) dX6_fresh_14 rfl ?_
  refine Sg_X6_20 (hC _) fl_X6_59 dX6_fresh_15 ?_
  refine Es_bipush (v := 13) (hC _) dX6_fresh_18 (by decide) ?_
  refine Es_iload_n (hC _) dX6_fresh_20 rfl ?_
  refine Es_imul (hC _) dX6_fresh_21 ?_
  refine Es_iconst (v := 0) (hC _) dX6_fresh_22 (by decide) ?_
  refine Es_iastN (hC _) dX6_fresh_23 rfl (fun _ => rfl) (by rw [show (13 : Int32) = nI 13 from rfl, pk_mul]) (by omega) (by decide) ?_
  first | refine Es_aload_n (hC _) dX6_fresh_24 rfl ?_ | refine Es_aload_nN (hC _) dX6_fresh_24 rfl ?_
  refine Sg_X6_21 (hC _) fl_X6_62 dX6_fresh_25 ?_
  refine Es_bipush (v := 13) (hC _) dX6_fresh_28 (by decide) ?_
  refine Es_iload_n (hC _) dX6_fresh_30 rfl ?_
  refine Es_imul (hC _) dX6_fresh_31 ?_
  refine Es_sipush (v := 180) (hC _) dX6_fresh_32 (by decide) ?_
  refine Es_iastN (hC _) dX6_fresh_35 rfl (fun _ => rfl) (by rw [show (13 : Int32) = nI 13 from rfl, pk_mul]) (by omega) (by decide) ?_
  exact Es_vret dX6_fresh_36 ⟨rfl, rfl, rfl⟩

set_option maxRecDepth 100000 in
set_option maxHeartbeats 4000000 in
theorem r_lastOf {ad : sA} {nw nt : Nat} {B : sB} {L : sL} {t r : Nat} (ht : t < 40) (hr : B 49 0 t = nI (r + 1)) : Cf yX6_lastOf cX6_lastOf 2 (some FieldType.int) 0 [.ref (ad 25 0), .int (nI t)] ad nw nt B L (some (.int (nI (13 * t + r)))) (B) (L) := by
  have hC : ∀ Q, je_Ok (sCm yX6_lastOf cX6_lastOf 2 (some FieldType.int) 0 ad nw nt Q) RX6 cX6_lastOf 2 0 := fun _ => je_Cm_ok
  refine Cs_of [some (.ref (ad 25 0)), some (.int (nI t))] (by decide) rfl (Nat.le_of_ble_eq_true rfl) ?_
  refine Es_bipush (v := 13) (hC _) dX6_lastOf_0 (by decide) ?_
  refine Es_iload_n (hC _) dX6_lastOf_2 rfl ?_
  refine Es_imul (hC _) dX6_lastOf_3 ?_
  first | refine Es_aload_n (hC _) dX6_lastOf_4 rfl ?_ | refine Es_aload_nN (hC _) dX6_lastOf_4 rfl ?_
  refine Sg_X6_19 (hC _) fl_X6_56 dX6_lastOf_5 ?_
  refine Es_iload_n (hC _) dX6_lastOf_8 rfl ?_
  refine Es_ialdN (hC _) dX6_lastOf_9 rfl rfl rfl ht (by decide) ?_
  refine Es_iadd (hC _) dX6_lastOf_10 ?_
  refine Es_iconst (v := 1) (hC _) dX6_lastOf_11 (by decide) ?_
  refine Es_isub (hC _) dX6_lastOf_12 ?_
  exact Es_iret dX6_lastOf_13 rfl ⟨by rw [hr, show (13 : Int32) = nI 13 from rfl, pk_mul, nI_add, ← Nat.add_assoc, nI_pred], rfl, rfl⟩

set_option maxRecDepth 100000 in
set_option maxHeartbeats 4000000 in
theorem c_hasReading_in {ad : sA} {nw nt : Nat} {B : sB} {L : sL} {t r j : Nat} (ht : t < nt) (hr : B 21 t 6 = nI r) (h12 : r ≤ 12) (hj : j < r) : Cf yX2_hasReading cX2_hasReading 2 (some FieldType.boolean) 0 [.ref (ad 21 t), .int (nI j)] ad nw nt B L (some (.int 1)) (B) (L) := by
  have hC : ∀ Q, je_Ok (sCm yX2_hasReading cX2_hasReading 2 (some FieldType.boolean) 0 ad nw nt Q) RX2 cX2_hasReading 2 0 := fun _ => je_Cm_ok
  refine Cs_of [some (.ref (ad 21 t)), some (.int (nI j))] (by decide) rfl (Nat.le_of_ble_eq_true rfl) ?_
  refine Es_iload_n (hC _) dX2_hasReading_0 rfl ?_
  refine Es_if_lt (hC _) 16 dX2_hasReading_1 (by decide) (fun hb1 => False.elim (nI_pos (by omega) hb1)) (fun hb1 => ?_)
  refine Es_iload_n (hC _) dX2_hasReading_4 rfl ?_
  first | refine Es_aload_n (hC _) dX2_hasReading_5 rfl ?_ | refine Es_aload_nN (hC _) dX2_hasReading_5 rfl ?_
  refine Sg_X2_6 (hC _) fl_X2_44 dX2_hasReading_6 ht ?_
  rw [hr]
  refine Es_icmp_ge (hC _) 16 dX2_hasReading_9 (by decide) (fun hb9 => False.elim (nI_ge hj (by omega) hb9)) (fun hb9 => ?_)
  refine Es_iconst (v := 1) (hC _) dX2_hasReading_12 (by decide) ?_
  refine Es_goto (hC _) 17 dX2_hasReading_13 (by decide) ?_
  exact Es_iret dX2_hasReading_17 rfl ⟨rfl, rfl, rfl⟩

set_option maxRecDepth 100000 in
set_option maxHeartbeats 4000000 in
theorem c_hasReading_out {ad : sA} {nw nt : Nat} {B : sB} {L : sL} {t r : Nat} {x : Int32} (ht : t < nt) (hr : B 21 t 6 = nI r) (ho : out x r) : Cf yX2_hasReading cX2_hasReading 2 (some FieldType.boolean) 0 [.ref (ad 21 t), .int x] ad nw nt B L (some (.int 0)) (B) (L) := by
  have hC : ∀ Q, je_Ok (sCm yX2_hasReading cX2_hasReading 2 (some FieldType.boolean) 0 ad nw nt Q) RX2 cX2_hasReading 2 0 := fun _ => je_Cm_ok
  refine Cs_of [some (.ref (ad 21 t)), some (.int x)] (by decide) rfl (Nat.le_of_ble_eq_true rfl) ?_
  refine Es_iload_n (hC _) dX2_hasReading_0 rfl ?_
  refine Es_if_lt (hC _) 16 dX2_hasReading_1 (by decide) (fun hb1 => ?_) (fun hb1 => ?_)
  · refine Es_iconst (v := 0) (hC _) dX2_hasReading_16 (by decide) ?_
    exact Es_iret dX2_hasReading_17 rfl ⟨rfl, rfl, rfl⟩
  · refine Es_iload_n (hC _) dX2_hasReading_4 rfl ?_
    first | refine Es_aload_n (hC _) dX2_hasReading_5 rfl ?_ | refine Es_aload_nN (hC _) dX2_hasReading_5 rfl ?_
    refine Sg_X2_6 (hC _) fl_X2_44 dX2_hasReading_6 ht ?_
    rw [hr]
    refine Es_icmp_ge (hC _) 16 dX2_hasReading_9 (by decide) (fun hb9 => ?_) (fun hb9 => ?_)
    · refine Es_iconst (v := 0) (hC _) dX2_hasReading_16 (by decide) ?_
      exact Es_iret dX2_hasReading_17 rfl ⟨rfl, rfl, rfl⟩
    · exact (ho.elim hb1 hb9).elim

set_option maxRecDepth 100000 in
set_option maxHeartbeats 4000000 in
theorem c_sinceRead {ad : sA} {nw nt : Nat} {B : sB} {L : sL} {t r : Nat} (ht : t < nt) (hr : B 21 t 6 = nI (r + 1)) (h12 : r < 12) : Cf yX2_sinceRead cX2_sinceRead 1 (some FieldType.int) 1 [.ref (ad 21 t)] ad nw nt B L (some (.int (B 21 t 9 - B 22 t r))) (B) (L) := by
  have hC : ∀ Q, je_Ok (sCm yX2_sinceRead cX2_sinceRead 1 (some FieldType.int) 1 ad nw nt Q) RX2 cX2_sinceRead 1 1 := fun _ => je_Cm_ok
  refine Cs_of [some (.ref (ad 21 t))] (by decide) rfl (Nat.le_of_ble_eq_true rfl) ?_
  first | refine Es_aload_n (hC _) dX2_sinceRead_0 rfl ?_ | refine Es_aload_nN (hC _) dX2_sinceRead_0 rfl ?_
  refine Sg_X2_9 (hC _) fl_X2_41 dX2_sinceRead_1 ht ?_
  first | refine Es_aload_n (hC _) dX2_sinceRead_4 rfl ?_ | refine Es_aload_nN (hC _) dX2_sinceRead_4 rfl ?_
  refine Sg_X2_3 (hC _) fl_X2_9 dX2_sinceRead_5 ht ?_
  first | refine Es_aload_n (hC _) dX2_sinceRead_8 rfl ?_ | refine Es_aload_nN (hC _) dX2_sinceRead_8 rfl ?_
  refine Sg_X2_6 (hC _) fl_X2_44 dX2_sinceRead_9 ht ?_
  rw [hr]
  refine Es_iconst (v := 1) (hC _) dX2_sinceRead_12 (by decide) ?_
  refine Es_isub (hC _) dX2_sinceRead_13 ?_
  refine Es_fSN (hC _) ms_X2_61 dX2_sinceRead_14 (c_at (kd := 22) (n := 12) (ok22 ht) rfl (nI_pred _) h12 (by decide)) rfl rfl (by decide) (Nat.le_of_ble_eq_true rfl) ?_
  refine Es_isub (hC _) dX2_sinceRead_17 ?_
  exact Es_iret dX2_sinceRead_18 rfl ⟨rfl, rfl, rfl⟩
end
section
/-! ===== THE RELATION between the class's cells and the reference's ===== -/
def u2 (f : Nat → Nat → Int32) (j i : Nat) (x : Int32) : Nat → Nat → Int32 := fun j' i' => if j' = j ∧ i' = i then x else f j' i'
theorem uB_k {B : sB} {k j i k' : Nat} {x : Int32} (hn : k' ≠ k) : uB B k j i x k' = B k' := by
  funext j' i'
  exact uB_n (fun q => hn q.1)
theorem uB_2 (B : sB) (k j i : Nat) (x : Int32) : uB B k j i x k = u2 (B k) j i x := by
  funext j' i'
  simp [uB, u2]
theorem u2_a (f : Nat → Nat → Int32) (j i : Nat) (x : Int32) : u2 f j i x j = upd (f j) i x := by
  funext i'
  simp [u2, upd]
theorem u2_r {f : Nat → Nat → Int32} {j i j' : Nat} {x : Int32} (hn : j' ≠ j) : u2 f j i x j' = f j' := by
  funext i'
  simp [u2, hn]
theorem u2_n {f : Nat → Nat → Int32} {j i j' i' : Nat} {x : Int32} (hn : ¬ (j' = j ∧ i' = i)) : u2 f j i x j' i' = f j' i' := by
  unfold u2
  rw [if_neg hn]
theorem u2_s (f : Nat → Nat → Int32) (j i : Nat) (x : Int32) : u2 f j i x j i = x := by simp [u2]
theorem upd_s (f : Nat → Int32) (i : Nat) (x : Int32) : upd f i x i = x := by simp [upd]
theorem upd_n {f : Nat → Int32} {i i' : Nat} {x : Int32} (hn : i' ≠ i) : upd f i x i' = f i' := by simp [upd, hn]
theorem uL_k {L : sL} {k j i k' : Nat} {x : Int64} (hn : k' ≠ k) : uL L k j i x k' = L k' := by
  funext j' i'
  simp only [uL]
  rw [if_neg (fun q => hn q.1)]
def bd (x : Int32) (n : Nat) : Prop := ∃ k, k ≤ n ∧ x = nI k
/-- scalars -/
def RelS (nw nt : Nat) (c r : Nat → Int32) : Prop := r 4 = nI nw ∧ c 8 = nI nw ∧ nw ≤ 5 ∧ r 5 = nI nt ∧ c 9 = nI nt ∧ nt ≤ 40 ∧ c 11 = r 3 ∧ bd (r 3) 2000 ∧ c 10 = r 6 ∧ bd (r 6) 100
/-- LEASTs, MEANs, REFUSALS -/
def RelP (c3 c4 c5 r0 r1 r2 : Nat → Int32) : Prop := (∀ k, k < 5 → c3 k = r1 k ∧ bd (r1 k) 100) ∧ (∀ m, m < 4 → c4 m = r2 m ∧ bd (r2 m) 1000) ∧ ∀ i, i < 7 → c5 i = r0 i
/-- the pair of a place: the twins as they come -/
def twN (k : Nat → Int32) : Nat → Nat
  | 0 => 0
  | p + 1 => twN k p + if k p = 2 then 1 else 0
/-- q and p are a pair among the first n places -/
def twP (k : Nat → Int32) (n q p : Nat) : Prop := q < n ∧ p < n ∧ k q = 2 ∧ k p = 2 ∧ ((twN k q % 2 = 0 ∧ twN k p = twN k q + 1) ∨ (twN k p % 2 = 0 ∧ twN k q = twN k p + 1))
def twO (k : Nat → Int32) (n q : Nat) (x : Int32) : Prop := (∃ p, twP k n q p ∧ x = nI p) ∨ (x = -1 ∧ ∀ p, ¬ twP k n q p)
/-- one wagon: w its number, p its places -/
def RelW1 (nt w p : Nat) (c18 c19 c20 : Nat → Int32) (r8 r9 r10 r11 r17 : Nat → Int32) : Prop := p ≤ 7 ∧ c18 0 = nI w ∧ c18 3 = nI p ∧ r8 w = nI p ∧ (∀ q, q < p → c19 q = r9 (7 * w + q) ∧ bd (c19 q) 4 ∧ c20 q = r10 (7 * w + q) ∧ (c20 q = -1 ∨ ∃ t, t < nt ∧ c20 q = nI t ∧ r17 t = nI (10 * w + q)) ∧ twO c19 p q (r11 (7 * w + q))) ∧ ∀ q, p ≤ q → q < 7 → c20 q = -1
def RelW (nw nt : Nat) (c18 c19 c20 : Nat → Nat → Int32) (r8 r9 r10 r11 r17 : Nat → Int32) : Prop := (∀ w, w < nw → ∃ p, RelW1 nt w p (c18 w) (c19 w) (c20 w) r8 r9 r10 r11 r17) ∧ ∀ w, nw ≤ w → w < 5 → r8 w = 0
/-- one tyre -/
def RelT1 (t : Nat) (dy : Int32) (c21 c22 c23 : Nat → Int32) (r12 r13 r14 r15 r16 r17 r18 r19 r20 r21 : Nat → Int32) : Prop :=
  c21 0 = nI t ∧ c21 1 = r12 t ∧ (∃ m, m < 4 ∧ r12 t = nI m) ∧ c21 2 = r13 t ∧ c21 7 = r14 t ∧ bd (r14 t) 2 ∧ c21 8 = r15 t ∧ bd (r15 t) 9 ∧ c21 9 = r16 t ∧ bd (r16 t) 1000000 ∧ c21 10 = r17 t ∧
  (r17 t = -1 ∨ r17 t = -2 ∨ r17 t = -3 ∨ ∃ k, k ≤ 46 ∧ r17 t = nI k) ∧ (r17 t = -2 → c21 11 = r18 t ∧ ∃ b d, b ≤ 2000 ∧ r18 t = nI b ∧ dy = nI d ∧ d < b) ∧ (¬ r17 t = -2 → c21 11 = -9) ∧
  ∃ r, r < 12 ∧ r19 t = nI (r + 1) ∧ c21 6 = nI (r + 1) ∧ ∀ i, i ≤ r → c22 i = r20 (13 * t + i) ∧ bd (c22 i) 1000000 ∧ c23 i = r21 (13 * t + i) ∧ bd (c23 i) 300
def RelT (nt : Nat) (dy : Int32) (c21 c22 c23 : Nat → Nat → Int32) (r12 r13 r14 r15 r16 r17 r18 r19 r20 r21 : Nat → Int32) : Prop := (∀ t, t < nt → RelT1 t dy (c21 t) (c22 t) (c23 t) r12 r13 r14 r15 r16 r17 r18 r19 r20 r21) ∧ ∀ t, nt ≤ t → t < 40 → r14 t = 0 ∧ r15 t = 0
/-- where a tyre was: the last row of the log that fits -/
def wl (num day wh : Nat → Int32) : Nat → Int32 → Int32 → Int32
  | 0, _, _ => -9
  | k + 1, t, dy => if num k = t ∧ day k ≤ dy then wh k else wl num day wh k t dy
def RelG (c6 c7 c8 c9 r r22 r23 r24 : Nat → Int32) : Prop := ∃ k, k ≤ 600 ∧ c6 3 = nI k ∧ r 7 = nI k ∧ ∀ t dy, wl c8 c7 c9 k t dy = wl r22 r23 r24 k t dy
/-- WEAR, as both compute it: sums over the readings -/
def sX (a : Nat → Int32) : Nat → Int64
  | 0 => 0
  | n + 1 => sX a n + (a n).toInt64
def sXX (a : Nat → Int32) : Nat → Int64
  | 0 => 0
  | n + 1 => sXX a n + (a n).toInt64 * (a n).toInt64
def sXY (a b : Nat → Int32) : Nat → Int64
  | 0 => 0
  | n + 1 => sXY a b n + (a n).toInt64 * (b n).toInt64
def wU0 (a b : Nat → Int32) (n : Nat) : Int64 := sX a n * sX b n - (nI n).toInt64 * sXY a b n
def wD0 (a : Nat → Int32) (n : Nat) : Int64 := (nI n).toInt64 * sXX a n - sX a n * sX a n
/-- Euclid's steps -/
def gcS : Nat → Int64 → Int64 → Int64
  | 0, x, _ => x
  | n + 1, x, y => if y = 0 then x else gcS n y (x - x / y * y)
def wUD (a b : Nat → Int32) (n : Nat) (mean : Int32) : Int64 × Int64 :=
  let u := if wD0 a n = 0 then mean.toInt64 else wU0 a b n
  let v := if wD0 a n = 0 then 100000 else wD0 a n
  if u ≤ 0 then (0, 1) else (u / gcS 100 u v, v / gcS 100 u v)
def RelL1 (t : Nat) (l : Nat → Int64) (c22 c23 : Nat → Int32) (r2 r12 r19 : Nat → Int32) : Prop := ∀ r m, r19 t = nI (r + 1) → r < 12 → r12 t = nI m → m < 4 → l 0 = (wUD c22 c23 (r + 1) (r2 m)).1 ∧ l 1 = (wUD c22 c23 (r + 1) (r2 m)).2
def RelL (nt : Nat) (L : Nat → Nat → Int64) (c22 c23 : Nat → Nat → Int32) (r2 r12 r19 : Nat → Int32) : Prop := ∀ t, t < nt → RelL1 t (L t) (c22 t) (c23 t) r2 r12 r19
def Rel (nw nt : Nat) (B : sB) (L : sL) : Prop := RelS nw nt (B 0 0) (B 25 0) ∧ RelP (B 3 0) (B 4 0) (B 5 0) (B 30 0) (B 31 0) (B 32 0) ∧ RelW nw nt (B 18) (B 19) (B 20) (B 38 0) (B 39 0) (B 40 0) (B 41 0) (B 47 0) ∧ RelT nt (B 25 0 3) (B 21) (B 22) (B 23) (B 42 0) (B 43 0) (B 44 0) (B 45 0) (B 46 0) (B 47 0) (B 48 0) (B 49 0) (B 50 0) (B 51 0) ∧ RelG (B 6 0) (B 7 0) (B 8 0) (B 9 0) (B 25 0) (B 52 0) (B 53 0) (B 54 0) ∧ RelL nt (L 24) (B 22) (B 23) (B 32 0) (B 42 0) (B 49 0)
/-- one call of both: the same answer, and the relation again -/
def Stq (yC : MethodName) (cC : ByteArray) (nC dC : Nat) (yR : MethodName) (cR : ByteArray) (nR dR : Nat) (ret : Option FieldType) (As : List Value) (ad : sA) (nw nt : Nat) (B : sB) (L : sL) : Prop := ∃ v B1 L1 B2 L2, Cf yC cC nC ret dC (.ref (ad 0 0) :: As) ad nw nt B L (some v) B1 L1 ∧ Cf yR cR nR ret dR (.ref (ad 25 0) :: As) ad nw nt B1 L1 (some v) B2 L2 ∧ Rel nw nt B2 L2
theorem Rel_refuse {nw nt : Nat} {B : sB} {L : sL} {k : Nat} (hR : Rel nw nt B L) : Rel nw nt (uB (uB B 5 0 k (B 5 0 k + 1)) 30 0 k ((uB B 5 0 k (B 5 0 k + 1)) 30 0 k + 1)) L := by
  unfold Rel at hR ⊢
  simp only [uB_2, u2_a, uB_k, ne_eq, Nat.reduceEqDiff, not_false_eq_true]
  refine ⟨hR.1, ⟨hR.2.1.1, hR.2.1.2.1, fun i hi => ?_⟩, hR.2.2⟩
  have h1 := hR.2.1.2.2 i hi
  by_cases hik : i = k
  · subst hik
    rw [upd_s, upd_s, h1]
  · rw [upd_n hik, upd_n hik, h1]
end
section
set_option maxRecDepth 100000 in
set_option maxHeartbeats 4000000 in
theorem c_least_1 {ad : sA} {nw nt : Nat} {B : sB} {L : sL} {x y : Int32} (ho : out x 5) : Cf yX5_least cX5_least 5 (some FieldType.int) 2 [.ref (ad 0 0), .int x, .int y] ad nw nt B L (some (.int (-1))) (uB B 5 0 1 (B 5 0 1 + 1)) (L) := by
  have hC : ∀ Q, je_Ok (sCm yX5_least cX5_least 5 (some FieldType.int) 2 ad nw nt Q) RX5 cX5_least 5 2 := fun _ => je_Cm_ok
  refine Cs_of [some (.ref (ad 0 0)), some (.int x), some (.int y), none, none] (by decide) rfl (Nat.le_of_ble_eq_true rfl) ?_
  refine Es_iload_n (hC _) dX5_least_0 rfl ?_
  refine Es_fS (hC _) ms_X5_81 dX5_least_1 (c_isKind_out ho) rfl rfl (by decide) (Nat.le_of_ble_eq_true rfl) ?_
  refine Es_if_ne (hC _) 13 dX5_least_4 (by decide) (fun hb4 => False.elim ((by first | exact absurd hb4 (by decide) | exact absurd hb4 (by assumption) | exact hb4 (by assumption) | exact hb4 rfl | (simp_all [bI]; done)))) (fun hb4 => ?_)
  first | refine Es_aload_n (hC _) dX5_least_7 rfl ?_ | refine Es_aload_nN (hC _) dX5_least_7 rfl ?_
  refine Es_iconst (v := -1) (hC _) dX5_least_8 (by decide) ?_
  refine Es_fV (hC _) mv_X5_70 dX5_least_9 (c_refuse (k := 1) (by decide) (by decide)) rfl rfl ⟨_, rfl, rfl⟩ rfl rfl (by decide) (Nat.le_of_ble_eq_true rfl) ?_
  exact Es_iret dX5_least_12 rfl ⟨rfl, rfl, rfl⟩

set_option maxRecDepth 100000 in
set_option maxHeartbeats 4000000 in
theorem r_least_1 {ad : sA} {nw nt : Nat} {B : sB} {L : sL} {x y : Int32} (ho : out x 5) : Cf yX6_least cX6_least 4 (some FieldType.int) 1 [.ref (ad 25 0), .int x, .int y] ad nw nt B L (some (.int (-1))) (uB B 30 0 1 (B 30 0 1 + 1)) (L) := by
  have hC : ∀ Q, je_Ok (sCm yX6_least cX6_least 4 (some FieldType.int) 1 ad nw nt Q) RX6 cX6_least 4 1 := fun _ => je_Cm_ok
  refine Cs_of [some (.ref (ad 25 0)), some (.int x), some (.int y), none] (by decide) rfl (Nat.le_of_ble_eq_true rfl) ?_
  refine Es_iload_n (hC _) dX6_least_0 rfl ?_
  refine Es_iconst (v := 5) (hC _) dX6_least_1 (by decide) ?_
  refine Es_fS (hC _) ms_X6_89 dX6_least_2 (r_isIn_out (n := 5) ho) rfl rfl (by decide) (Nat.le_of_ble_eq_true rfl) ?_
  refine Es_if_ne (hC _) 14 dX6_least_5 (by decide) (fun hb5 => False.elim ((by first | exact absurd hb5 (by decide) | exact absurd hb5 (by assumption) | exact hb5 (by assumption) | exact hb5 rfl | (simp_all [bI]; done)))) (fun hb5 => ?_)
  first | refine Es_aload_n (hC _) dX6_least_8 rfl ?_ | refine Es_aload_nN (hC _) dX6_least_8 rfl ?_
  refine Es_iconst (v := -1) (hC _) dX6_least_9 (by decide) ?_
  refine Es_fV (hC _) mv_X6_93 dX6_least_10 (r_refuse (k := 1) (by decide) (by decide)) rfl rfl ⟨_, rfl, rfl⟩ rfl rfl (by decide) (Nat.le_of_ble_eq_true rfl) ?_
  exact Es_iret dX6_least_13 rfl ⟨rfl, rfl, rfl⟩

set_option maxRecDepth 100000 in
set_option maxHeartbeats 4000000 in
theorem c_least_lo {ad : sA} {nw nt : Nat} {B : sB} {L : sL} {j : Nat} {y : Int32} (hj : j < 5) (hl : y < 0) : Cf yX5_least cX5_least 5 (some FieldType.int) 2 [.ref (ad 0 0), .int (nI j), .int y] ad nw nt B L (some (.int (-4))) (uB B 5 0 4 (B 5 0 4 + 1)) (L) := by
  have hC : ∀ Q, je_Ok (sCm yX5_least cX5_least 5 (some FieldType.int) 2 ad nw nt Q) RX5 cX5_least 5 2 := fun _ => je_Cm_ok
  refine Cs_of [some (.ref (ad 0 0)), some (.int (nI j)), some (.int y), none, none] (by decide) rfl (Nat.le_of_ble_eq_true rfl) ?_
  refine Es_iload_n (hC _) dX5_least_0 rfl ?_
  refine Es_fS (hC _) ms_X5_81 dX5_least_1 (c_isKind_in hj) rfl rfl (by decide) (Nat.le_of_ble_eq_true rfl) ?_
  refine Es_if_ne (hC _) 13 dX5_least_4 (by decide) (fun hb4 => ?_) (fun hb4 => False.elim ((by first | exact absurd hb4 (by decide) | exact absurd hb4 (by assumption) | exact hb4 (by assumption) | exact hb4 rfl | (simp_all [bI]; done))))
  refine Es_iload_n (hC _) dX5_least_13 rfl ?_
  refine Es_iconst (v := 0) (hC _) dX5_least_14 (by decide) ?_
  refine Es_bipush (v := 100) (hC _) dX5_least_15 (by decide) ?_
  refine Es_fS (hC _) ms_X5_92 dX5_least_17 c_outside rfl rfl (by decide) (Nat.le_of_ble_eq_true rfl) ?_
  rw [(show outs y 0 100 = -4 by simp only [outs]; rw [if_pos hl])]
  refine Es_istore_n (lv' := [_, _, _, _, _]) (hC _) dX5_least_20 (by decide) rfl rfl ?_
  refine Es_iload_n (hC _) dX5_least_21 rfl ?_
  refine Es_if_eq (hC _) 31 dX5_least_22 (by decide) (fun hb22 => False.elim (absurd hb22 (by decide))) (fun hb22 => ?_)
  first | refine Es_aload_n (hC _) dX5_least_25 rfl ?_ | refine Es_aload_nN (hC _) dX5_least_25 rfl ?_
  refine Es_iload_n (hC _) dX5_least_26 rfl ?_
  refine Es_fV (hC _) mv_X5_70 dX5_least_27 (c_refuse (k := 4) (by decide) (by decide)) rfl rfl ⟨_, rfl, rfl⟩ rfl rfl (by decide) (Nat.le_of_ble_eq_true rfl) ?_
  exact Es_iret dX5_least_30 rfl ⟨rfl, rfl, rfl⟩

set_option maxRecDepth 100000 in
set_option maxHeartbeats 4000000 in
theorem r_least_lo {ad : sA} {nw nt : Nat} {B : sB} {L : sL} {j : Nat} {y : Int32} (hj : j < 5) (hl : y < 0) : Cf yX6_least cX6_least 4 (some FieldType.int) 1 [.ref (ad 25 0), .int (nI j), .int y] ad nw nt B L (some (.int (-4))) (uB B 30 0 4 (B 30 0 4 + 1)) (L) := by
  have hC : ∀ Q, je_Ok (sCm yX6_least cX6_least 4 (some FieldType.int) 1 ad nw nt Q) RX6 cX6_least 4 1 := fun _ => je_Cm_ok
  refine Cs_of [some (.ref (ad 25 0)), some (.int (nI j)), some (.int y), none] (by decide) rfl (Nat.le_of_ble_eq_true rfl) ?_
  refine Es_iload_n (hC _) dX6_least_0 rfl ?_
  refine Es_iconst (v := 5) (hC _) dX6_least_1 (by decide) ?_
  refine Es_fS (hC _) ms_X6_89 dX6_least_2 (r_isIn_in (n := 5) hj (by decide)) rfl rfl (by decide) (Nat.le_of_ble_eq_true rfl) ?_
  refine Es_if_ne (hC _) 14 dX6_least_5 (by decide) (fun hb5 => ?_) (fun hb5 => False.elim ((by first | exact absurd hb5 (by decide) | exact absurd hb5 (by assumption) | exact hb5 (by assumption) | exact hb5 rfl | (simp_all [bI]; done))))
  refine Es_iload_n (hC _) dX6_least_14 rfl ?_
  refine Es_if_ge (hC _) 25 dX6_least_15 (by decide) (fun hb15 => False.elim (Int32.not_lt.mpr hb15 hl)) (fun hb15 => ?_)
  first | refine Es_aload_n (hC _) dX6_least_18 rfl ?_ | refine Es_aload_nN (hC _) dX6_least_18 rfl ?_
  refine Es_bipush (v := -4) (hC _) dX6_least_19 (by decide) ?_
  refine Es_fV (hC _) mv_X6_93 dX6_least_21 (r_refuse (k := 4) (by decide) (by decide)) rfl rfl ⟨_, rfl, rfl⟩ rfl rfl (by decide) (Nat.le_of_ble_eq_true rfl) ?_
  exact Es_iret dX6_least_24 rfl ⟨rfl, rfl, rfl⟩

set_option maxRecDepth 100000 in
set_option maxHeartbeats 4000000 in
theorem c_least_hi {ad : sA} {nw nt : Nat} {B : sB} {L : sL} {j : Nat} {y : Int32} (hj : j < 5) (hl : ¬ y < 0) (hh : 100 < y) : Cf yX5_least cX5_least 5 (some FieldType.int) 2 [.ref (ad 0 0), .int (nI j), .int y] ad nw nt B L (some (.int (-6))) (uB B 5 0 6 (B 5 0 6 + 1)) (L) := by
  have hC : ∀ Q, je_Ok (sCm yX5_least cX5_least 5 (some FieldType.int) 2 ad nw nt Q) RX5 cX5_least 5 2 := fun _ => je_Cm_ok
  refine Cs_of [some (.ref (ad 0 0)), some (.int (nI j)), some (.int y), none, none] (by decide) rfl (Nat.le_of_ble_eq_true rfl) ?_
  refine Es_iload_n (hC _) dX5_least_0 rfl ?_
  refine Es_fS (hC _) ms_X5_81 dX5_least_1 (c_isKind_in hj) rfl rfl (by decide) (Nat.le_of_ble_eq_true rfl) ?_
  refine Es_if_ne (hC _) 13 dX5_least_4 (by decide) (fun hb4 => ?_) (fun hb4 => False.elim ((by first | exact absurd hb4 (by decide) | exact absurd hb4 (by assumption) | exact hb4 (by assumption) | exact hb4 rfl | (simp_all [bI]; done))))
  refine Es_iload_n (hC _) dX5_least_13 rfl ?_
  refine Es_iconst (v := 0) (hC _) dX5_least_14 (by decide) ?_
  refine Es_bipush (v := 100) (hC _) dX5_least_15 (by decide) ?_
  refine Es_fS (hC _) ms_X5_92 dX5_least_17 c_outside rfl rfl (by decide) (Nat.le_of_ble_eq_true rfl) ?_
  rw [(show outs y 0 100 = -6 by simp only [outs]; rw [if_neg hl, if_pos hh])]
  refine Es_istore_n (lv' := [_, _, _, _, _]) (hC _) dX5_least_20 (by decide) rfl rfl ?_
  refine Es_iload_n (hC _) dX5_least_21 rfl ?_
  refine Es_if_eq (hC _) 31 dX5_least_22 (by decide) (fun hb22 => False.elim (absurd hb22 (by decide))) (fun hb22 => ?_)
  first | refine Es_aload_n (hC _) dX5_least_25 rfl ?_ | refine Es_aload_nN (hC _) dX5_least_25 rfl ?_
  refine Es_iload_n (hC _) dX5_least_26 rfl ?_
  refine Es_fV (hC _) mv_X5_70 dX5_least_27 (c_refuse (k := 6) (by decide) (by decide)) rfl rfl ⟨_, rfl, rfl⟩ rfl rfl (by decide) (Nat.le_of_ble_eq_true rfl) ?_
  exact Es_iret dX5_least_30 rfl ⟨rfl, rfl, rfl⟩

set_option maxRecDepth 100000 in
set_option maxHeartbeats 4000000 in
theorem r_least_hi {ad : sA} {nw nt : Nat} {B : sB} {L : sL} {j : Nat} {y : Int32} (hj : j < 5) (hl : ¬ y < 0) (hh : 100 < y) : Cf yX6_least cX6_least 4 (some FieldType.int) 1 [.ref (ad 25 0), .int (nI j), .int y] ad nw nt B L (some (.int (-6))) (uB B 30 0 6 (B 30 0 6 + 1)) (L) := by
  have hC : ∀ Q, je_Ok (sCm yX6_least cX6_least 4 (some FieldType.int) 1 ad nw nt Q) RX6 cX6_least 4 1 := fun _ => je_Cm_ok
  refine Cs_of [some (.ref (ad 25 0)), some (.int (nI j)), some (.int y), none] (by decide) rfl (Nat.le_of_ble_eq_true rfl) ?_
  refine Es_iload_n (hC _) dX6_least_0 rfl ?_
  refine Es_iconst (v := 5) (hC _) dX6_least_1 (by decide) ?_
  refine Es_fS (hC _) ms_X6_89 dX6_least_2 (r_isIn_in (n := 5) hj (by decide)) rfl rfl (by decide) (Nat.le_of_ble_eq_true rfl) ?_
  refine Es_if_ne (hC _) 14 dX6_least_5 (by decide) (fun hb5 => ?_) (fun hb5 => False.elim ((by first | exact absurd hb5 (by decide) | exact absurd hb5 (by assumption) | exact hb5 (by assumption) | exact hb5 rfl | (simp_all [bI]; done))))
  refine Es_iload_n (hC _) dX6_least_14 rfl ?_
  refine Es_if_ge (hC _) 25 dX6_least_15 (by decide) (fun hb15 => ?_) (fun hb15 => False.elim (hb15 (Int32.not_lt.mp hl)))
  refine Es_iload_n (hC _) dX6_least_25 rfl ?_
  refine Es_bipush (v := 100) (hC _) dX6_least_26 (by decide) ?_
  refine Es_icmp_le (hC _) 38 dX6_least_28 (by decide) (fun hb28 => False.elim (Int32.not_lt.mpr hb28 hh)) (fun hb28 => ?_)
  first | refine Es_aload_n (hC _) dX6_least_31 rfl ?_ | refine Es_aload_nN (hC _) dX6_least_31 rfl ?_
  refine Es_bipush (v := -6) (hC _) dX6_least_32 (by decide) ?_
  refine Es_fV (hC _) mv_X6_93 dX6_least_34 (r_refuse (k := 6) (by decide) (by decide)) rfl rfl ⟨_, rfl, rfl⟩ rfl rfl (by decide) (Nat.le_of_ble_eq_true rfl) ?_
  exact Es_iret dX6_least_37 rfl ⟨rfl, rfl, rfl⟩

set_option maxRecDepth 100000 in
set_option maxHeartbeats 4000000 in
theorem c_least_ok {ad : sA} {nw nt : Nat} {B : sB} {L : sL} {j : Nat} {y : Int32} (hj : j < 5) (hl : ¬ y < 0) (hh : ¬ 100 < y) : Cf yX5_least cX5_least 5 (some FieldType.int) 2 [.ref (ad 0 0), .int (nI j), .int y] ad nw nt B L (some (.int (B 3 0 j))) (uB B 3 0 j y) (L) := by
  have hC : ∀ Q, je_Ok (sCm yX5_least cX5_least 5 (some FieldType.int) 2 ad nw nt Q) RX5 cX5_least 5 2 := fun _ => je_Cm_ok
  refine Cs_of [some (.ref (ad 0 0)), some (.int (nI j)), some (.int y), none, none] (by decide) rfl (Nat.le_of_ble_eq_true rfl) ?_
  refine Es_iload_n (hC _) dX5_least_0 rfl ?_
  refine Es_fS (hC _) ms_X5_81 dX5_least_1 (c_isKind_in hj) rfl rfl (by decide) (Nat.le_of_ble_eq_true rfl) ?_
  refine Es_if_ne (hC _) 13 dX5_least_4 (by decide) (fun hb4 => ?_) (fun hb4 => False.elim ((by first | exact absurd hb4 (by decide) | exact absurd hb4 (by assumption) | exact hb4 (by assumption) | exact hb4 rfl | (simp_all [bI]; done))))
  refine Es_iload_n (hC _) dX5_least_13 rfl ?_
  refine Es_iconst (v := 0) (hC _) dX5_least_14 (by decide) ?_
  refine Es_bipush (v := 100) (hC _) dX5_least_15 (by decide) ?_
  refine Es_fS (hC _) ms_X5_92 dX5_least_17 c_outside rfl rfl (by decide) (Nat.le_of_ble_eq_true rfl) ?_
  rw [show outs y 0 100 = 0 by simp only [outs]; rw [if_neg hl, if_neg hh]]
  refine Es_istore_n (lv' := [_, _, _, _, _]) (hC _) dX5_least_20 (by decide) rfl rfl ?_
  refine Es_iload_n (hC _) dX5_least_21 rfl ?_
  refine Es_if_eq (hC _) 31 dX5_least_22 (by decide) (fun hb22 => ?_) (fun hb22 => False.elim (hb22 rfl))
  first | refine Es_aload_n (hC _) dX5_least_31 rfl ?_ | refine Es_aload_nN (hC _) dX5_least_31 rfl ?_
  refine Sg_X5_2 (hC _) fl_X5_30 dX5_least_32 ?_
  refine Es_iload_n (hC _) dX5_least_35 rfl ?_
  refine Es_fS (hC _) ms_X5_96 dX5_least_36 (c_at (kd := 3) (n := 5) rfl rfl rfl hj (by decide)) rfl rfl (by decide) (Nat.le_of_ble_eq_true rfl) ?_
  refine Es_istore (lv' := [_, _, _, _, _]) (hC _) dX5_least_39 (by decide) rfl rfl ?_
  first | refine Es_aload_n (hC _) dX5_least_41 rfl ?_ | refine Es_aload_nN (hC _) dX5_least_41 rfl ?_
  refine Sg_X5_2 (hC _) fl_X5_30 dX5_least_42 ?_
  refine Es_iload_n (hC _) dX5_least_45 rfl ?_
  refine Es_iload_n (hC _) dX5_least_46 rfl ?_
  refine Es_fS (hC _) ms_X5_100 dX5_least_47 (c_write (kd := 3) (n := 5) rfl (fun _ => rfl) rfl hj (by decide)) rfl rfl (by decide) (Nat.le_of_ble_eq_true rfl) ?_
  refine Es_iload (hC _) dX5_least_50 rfl ?_
  exact Es_iret dX5_least_52 rfl ⟨rfl, rfl, rfl⟩

set_option maxRecDepth 100000 in
set_option maxHeartbeats 4000000 in
theorem r_least_ok {ad : sA} {nw nt : Nat} {B : sB} {L : sL} {j : Nat} {y : Int32} (hj : j < 5) (hl : ¬ y < 0) (hh : ¬ 100 < y) : Cf yX6_least cX6_least 4 (some FieldType.int) 1 [.ref (ad 25 0), .int (nI j), .int y] ad nw nt B L (some (.int (B 31 0 j))) (uB B 31 0 j y) (L) := by
  have hC : ∀ Q, je_Ok (sCm yX6_least cX6_least 4 (some FieldType.int) 1 ad nw nt Q) RX6 cX6_least 4 1 := fun _ => je_Cm_ok
  refine Cs_of [some (.ref (ad 25 0)), some (.int (nI j)), some (.int y), none] (by decide) rfl (Nat.le_of_ble_eq_true rfl) ?_
  refine Es_iload_n (hC _) dX6_least_0 rfl ?_
  refine Es_iconst (v := 5) (hC _) dX6_least_1 (by decide) ?_
  refine Es_fS (hC _) ms_X6_89 dX6_least_2 (r_isIn_in (n := 5) hj (by decide)) rfl rfl (by decide) (Nat.le_of_ble_eq_true rfl) ?_
  refine Es_if_ne (hC _) 14 dX6_least_5 (by decide) (fun hb5 => ?_) (fun hb5 => False.elim ((by first | exact absurd hb5 (by decide) | exact absurd hb5 (by assumption) | exact hb5 (by assumption) | exact hb5 rfl | (simp_all [bI]; done))))
  refine Es_iload_n (hC _) dX6_least_14 rfl ?_
  refine Es_if_ge (hC _) 25 dX6_least_15 (by decide) (fun hb15 => ?_) (fun hb15 => False.elim (hb15 (Int32.not_lt.mp hl)))
  refine Es_iload_n (hC _) dX6_least_25 rfl ?_
  refine Es_bipush (v := 100) (hC _) dX6_least_26 (by decide) ?_
  refine Es_icmp_le (hC _) 38 dX6_least_28 (by decide) (fun hb28 => ?_) (fun hb28 => False.elim (hb28 (Int32.not_lt.mp hh)))
  first | refine Es_aload_n (hC _) dX6_least_38 rfl ?_ | refine Es_aload_nN (hC _) dX6_least_38 rfl ?_
  refine Sg_X6_1 (hC _) fl_X6_13 dX6_least_39 ?_
  refine Es_iload_n (hC _) dX6_least_42 rfl ?_
  refine Es_ialdN (hC _) dX6_least_43 rfl rfl rfl (by omega) (by decide) ?_
  refine Es_istore_n (lv' := [_, _, _, _]) (hC _) dX6_least_44 (by decide) rfl rfl ?_
  first | refine Es_aload_n (hC _) dX6_least_45 rfl ?_ | refine Es_aload_nN (hC _) dX6_least_45 rfl ?_
  refine Sg_X6_1 (hC _) fl_X6_13 dX6_least_46 ?_
  refine Es_iload_n (hC _) dX6_least_49 rfl ?_
  refine Es_iload_n (hC _) dX6_least_50 rfl ?_
  refine Es_iastN (hC _) dX6_least_51 rfl (fun _ => rfl) rfl (by omega) (by decide) ?_
  refine Es_iload_n (hC _) dX6_least_52 rfl ?_
  exact Es_iret dX6_least_53 rfl ⟨rfl, rfl, rfl⟩

set_option maxRecDepth 100000 in
set_option maxHeartbeats 4000000 in
theorem c_apart_lo {ad : sA} {nw nt : Nat} {B : sB} {L : sL} {y : Int32} (hl : y < 0) : Cf yX5_apart cX5_apart 4 (some FieldType.int) 2 [.ref (ad 0 0), .int y] ad nw nt B L (some (.int (-4))) (uB B 5 0 4 (B 5 0 4 + 1)) (L) := by
  have hC : ∀ Q, je_Ok (sCm yX5_apart cX5_apart 4 (some FieldType.int) 2 ad nw nt Q) RX5 cX5_apart 4 2 := fun _ => je_Cm_ok
  refine Cs_of [some (.ref (ad 0 0)), some (.int y), none, none] (by decide) rfl (Nat.le_of_ble_eq_true rfl) ?_
  refine Es_iload_n (hC _) dX5_apart_0 rfl ?_
  refine Es_iconst (v := 0) (hC _) dX5_apart_1 (by decide) ?_
  refine Es_bipush (v := 100) (hC _) dX5_apart_2 (by decide) ?_
  refine Es_fS (hC _) ms_X5_92 dX5_apart_4 c_outside rfl rfl (by decide) (Nat.le_of_ble_eq_true rfl) ?_
  rw [(show outs y 0 100 = -4 by simp only [outs]; rw [if_pos hl])]
  refine Es_istore_n (lv' := [_, _, _, _]) (hC _) dX5_apart_7 (by decide) rfl rfl ?_
  refine Es_iload_n (hC _) dX5_apart_8 rfl ?_
  refine Es_if_eq (hC _) 18 dX5_apart_9 (by decide) (fun hb9 => False.elim (absurd hb9 (by decide))) (fun hb9 => ?_)
  first | refine Es_aload_n (hC _) dX5_apart_12 rfl ?_ | refine Es_aload_nN (hC _) dX5_apart_12 rfl ?_
  refine Es_iload_n (hC _) dX5_apart_13 rfl ?_
  refine Es_fV (hC _) mv_X5_70 dX5_apart_14 (c_refuse (k := 4) (by decide) (by decide)) rfl rfl ⟨_, rfl, rfl⟩ rfl rfl (by decide) (Nat.le_of_ble_eq_true rfl) ?_
  exact Es_iret dX5_apart_17 rfl ⟨rfl, rfl, rfl⟩

set_option maxRecDepth 100000 in
set_option maxHeartbeats 4000000 in
theorem r_apart_lo {ad : sA} {nw nt : Nat} {B : sB} {L : sL} {y : Int32} (hl : y < 0) : Cf yX6_apart cX6_apart 3 (some FieldType.int) 1 [.ref (ad 25 0), .int y] ad nw nt B L (some (.int (-4))) (uB B 30 0 4 (B 30 0 4 + 1)) (L) := by
  have hC : ∀ Q, je_Ok (sCm yX6_apart cX6_apart 3 (some FieldType.int) 1 ad nw nt Q) RX6 cX6_apart 3 1 := fun _ => je_Cm_ok
  refine Cs_of [some (.ref (ad 25 0)), some (.int y), none] (by decide) rfl (Nat.le_of_ble_eq_true rfl) ?_
  refine Es_iload_n (hC _) dX6_apart_0 rfl ?_
  refine Es_if_ge (hC _) 11 dX6_apart_1 (by decide) (fun hb1 => False.elim (Int32.not_lt.mpr hb1 hl)) (fun hb1 => ?_)
  first | refine Es_aload_n (hC _) dX6_apart_4 rfl ?_ | refine Es_aload_nN (hC _) dX6_apart_4 rfl ?_
  refine Es_bipush (v := -4) (hC _) dX6_apart_5 (by decide) ?_
  refine Es_fV (hC _) mv_X6_93 dX6_apart_7 (r_refuse (k := 4) (by decide) (by decide)) rfl rfl ⟨_, rfl, rfl⟩ rfl rfl (by decide) (Nat.le_of_ble_eq_true rfl) ?_
  exact Es_iret dX6_apart_10 rfl ⟨rfl, rfl, rfl⟩

set_option maxRecDepth 100000 in
set_option maxHeartbeats 4000000 in
theorem c_apart_hi {ad : sA} {nw nt : Nat} {B : sB} {L : sL} {y : Int32} (hl : ¬ y < 0) (hh : 100 < y) : Cf yX5_apart cX5_apart 4 (some FieldType.int) 2 [.ref (ad 0 0), .int y] ad nw nt B L (some (.int (-6))) (uB B 5 0 6 (B 5 0 6 + 1)) (L) := by
  have hC : ∀ Q, je_Ok (sCm yX5_apart cX5_apart 4 (some FieldType.int) 2 ad nw nt Q) RX5 cX5_apart 4 2 := fun _ => je_Cm_ok
  refine Cs_of [some (.ref (ad 0 0)), some (.int y), none, none] (by decide) rfl (Nat.le_of_ble_eq_true rfl) ?_
  refine Es_iload_n (hC _) dX5_apart_0 rfl ?_
  refine Es_iconst (v := 0) (hC _) dX5_apart_1 (by decide) ?_
  refine Es_bipush (v := 100) (hC _) dX5_apart_2 (by decide) ?_
  refine Es_fS (hC _) ms_X5_92 dX5_apart_4 c_outside rfl rfl (by decide) (Nat.le_of_ble_eq_true rfl) ?_
  rw [(show outs y 0 100 = -6 by simp only [outs]; rw [if_neg hl, if_pos hh])]
  refine Es_istore_n (lv' := [_, _, _, _]) (hC _) dX5_apart_7 (by decide) rfl rfl ?_
  refine Es_iload_n (hC _) dX5_apart_8 rfl ?_
  refine Es_if_eq (hC _) 18 dX5_apart_9 (by decide) (fun hb9 => False.elim (absurd hb9 (by decide))) (fun hb9 => ?_)
  first | refine Es_aload_n (hC _) dX5_apart_12 rfl ?_ | refine Es_aload_nN (hC _) dX5_apart_12 rfl ?_
  refine Es_iload_n (hC _) dX5_apart_13 rfl ?_
  refine Es_fV (hC _) mv_X5_70 dX5_apart_14 (c_refuse (k := 6) (by decide) (by decide)) rfl rfl ⟨_, rfl, rfl⟩ rfl rfl (by decide) (Nat.le_of_ble_eq_true rfl) ?_
  exact Es_iret dX5_apart_17 rfl ⟨rfl, rfl, rfl⟩

set_option maxRecDepth 100000 in
set_option maxHeartbeats 4000000 in
theorem r_apart_hi {ad : sA} {nw nt : Nat} {B : sB} {L : sL} {y : Int32} (hl : ¬ y < 0) (hh : 100 < y) : Cf yX6_apart cX6_apart 3 (some FieldType.int) 1 [.ref (ad 25 0), .int y] ad nw nt B L (some (.int (-6))) (uB B 30 0 6 (B 30 0 6 + 1)) (L) := by
  have hC : ∀ Q, je_Ok (sCm yX6_apart cX6_apart 3 (some FieldType.int) 1 ad nw nt Q) RX6 cX6_apart 3 1 := fun _ => je_Cm_ok
  refine Cs_of [some (.ref (ad 25 0)), some (.int y), none] (by decide) rfl (Nat.le_of_ble_eq_true rfl) ?_
  refine Es_iload_n (hC _) dX6_apart_0 rfl ?_
  refine Es_if_ge (hC _) 11 dX6_apart_1 (by decide) (fun hb1 => ?_) (fun hb1 => False.elim (hb1 (Int32.not_lt.mp hl)))
  refine Es_iload_n (hC _) dX6_apart_11 rfl ?_
  refine Es_bipush (v := 100) (hC _) dX6_apart_12 (by decide) ?_
  refine Es_icmp_le (hC _) 24 dX6_apart_14 (by decide) (fun hb14 => False.elim (Int32.not_lt.mpr hb14 hh)) (fun hb14 => ?_)
  first | refine Es_aload_n (hC _) dX6_apart_17 rfl ?_ | refine Es_aload_nN (hC _) dX6_apart_17 rfl ?_
  refine Es_bipush (v := -6) (hC _) dX6_apart_18 (by decide) ?_
  refine Es_fV (hC _) mv_X6_93 dX6_apart_20 (r_refuse (k := 6) (by decide) (by decide)) rfl rfl ⟨_, rfl, rfl⟩ rfl rfl (by decide) (Nat.le_of_ble_eq_true rfl) ?_
  exact Es_iret dX6_apart_23 rfl ⟨rfl, rfl, rfl⟩

set_option maxRecDepth 100000 in
set_option maxHeartbeats 4000000 in
theorem c_apart_ok {ad : sA} {nw nt : Nat} {B : sB} {L : sL} {y : Int32} (hl : ¬ y < 0) (hh : ¬ 100 < y) : Cf yX5_apart cX5_apart 4 (some FieldType.int) 2 [.ref (ad 0 0), .int y] ad nw nt B L (some (.int (B 0 0 10))) (uB B 0 0 10 y) (L) := by
  have hC : ∀ Q, je_Ok (sCm yX5_apart cX5_apart 4 (some FieldType.int) 2 ad nw nt Q) RX5 cX5_apart 4 2 := fun _ => je_Cm_ok
  refine Cs_of [some (.ref (ad 0 0)), some (.int y), none, none] (by decide) rfl (Nat.le_of_ble_eq_true rfl) ?_
  refine Es_iload_n (hC _) dX5_apart_0 rfl ?_
  refine Es_iconst (v := 0) (hC _) dX5_apart_1 (by decide) ?_
  refine Es_bipush (v := 100) (hC _) dX5_apart_2 (by decide) ?_
  refine Es_fS (hC _) ms_X5_92 dX5_apart_4 c_outside rfl rfl (by decide) (Nat.le_of_ble_eq_true rfl) ?_
  rw [show outs y 0 100 = 0 by simp only [outs]; rw [if_neg hl, if_neg hh]]
  refine Es_istore_n (lv' := [_, _, _, _]) (hC _) dX5_apart_7 (by decide) rfl rfl ?_
  refine Es_iload_n (hC _) dX5_apart_8 rfl ?_
  refine Es_if_eq (hC _) 18 dX5_apart_9 (by decide) (fun hb9 => ?_) (fun hb9 => False.elim (hb9 rfl))
  first | refine Es_aload_n (hC _) dX5_apart_18 rfl ?_ | refine Es_aload_nN (hC _) dX5_apart_18 rfl ?_
  refine Sg_X5_10 (hC _) fl_X5_63 dX5_apart_19 ?_
  refine Es_istore_n (lv' := [_, _, _, _]) (hC _) dX5_apart_22 (by decide) rfl rfl ?_
  first | refine Es_aload_n (hC _) dX5_apart_23 rfl ?_ | refine Es_aload_nN (hC _) dX5_apart_23 rfl ?_
  refine Es_iload_n (hC _) dX5_apart_24 rfl ?_
  refine Sp_X5_10 (hC _) fl_X5_63 dX5_apart_25 ?_
  refine Es_iload_n (hC _) dX5_apart_28 rfl ?_
  exact Es_iret dX5_apart_29 rfl ⟨rfl, rfl, rfl⟩

set_option maxRecDepth 100000 in
set_option maxHeartbeats 4000000 in
theorem r_apart_ok {ad : sA} {nw nt : Nat} {B : sB} {L : sL} {y : Int32} (hl : ¬ y < 0) (hh : ¬ 100 < y) : Cf yX6_apart cX6_apart 3 (some FieldType.int) 1 [.ref (ad 25 0), .int y] ad nw nt B L (some (.int (B 25 0 6))) (uB B 25 0 6 y) (L) := by
  have hC : ∀ Q, je_Ok (sCm yX6_apart cX6_apart 3 (some FieldType.int) 1 ad nw nt Q) RX6 cX6_apart 3 1 := fun _ => je_Cm_ok
  refine Cs_of [some (.ref (ad 25 0)), some (.int y), none] (by decide) rfl (Nat.le_of_ble_eq_true rfl) ?_
  refine Es_iload_n (hC _) dX6_apart_0 rfl ?_
  refine Es_if_ge (hC _) 11 dX6_apart_1 (by decide) (fun hb1 => ?_) (fun hb1 => False.elim (hb1 (Int32.not_lt.mp hl)))
  refine Es_iload_n (hC _) dX6_apart_11 rfl ?_
  refine Es_bipush (v := 100) (hC _) dX6_apart_12 (by decide) ?_
  refine Es_icmp_le (hC _) 24 dX6_apart_14 (by decide) (fun hb14 => ?_) (fun hb14 => False.elim (hb14 (Int32.not_lt.mp hh)))
  first | refine Es_aload_n (hC _) dX6_apart_24 rfl ?_ | refine Es_aload_nN (hC _) dX6_apart_24 rfl ?_
  refine Sg_X6_6 (hC _) fl_X6_19 dX6_apart_25 ?_
  refine Es_istore_n (lv' := [_, _, _]) (hC _) dX6_apart_28 (by decide) rfl rfl ?_
  first | refine Es_aload_n (hC _) dX6_apart_29 rfl ?_ | refine Es_aload_nN (hC _) dX6_apart_29 rfl ?_
  refine Es_iload_n (hC _) dX6_apart_30 rfl ?_
  refine Sp_X6_6 (hC _) fl_X6_19 dX6_apart_31 ?_
  refine Es_iload_n (hC _) dX6_apart_34 rfl ?_
  exact Es_iret dX6_apart_35 rfl ⟨rfl, rfl, rfl⟩

set_option maxRecDepth 100000 in
set_option maxHeartbeats 4000000 in
theorem c_put_1a {ad : sA} {nw nt : Nat} {B : sB} {L : sL} (hnt : B 0 0 9 = nI nt) (h40 : nt ≤ 40) (hnw : B 0 0 8 = nI nw) (h5 : nw ≤ 5) {x : Int32} (hot : out x nt) {y : Int32} (how : out y nw) {z : Int32} : Cf yX5_put cX5_put 6 (some FieldType.int) 5 [.ref (ad 0 0), .int x, .int y, .int z] ad nw nt B L (some (.int (-1))) (uB B 5 0 1 (B 5 0 1 + 1)) (L) := by
  have hC : ∀ Q, je_Ok (sCm yX5_put cX5_put 6 (some FieldType.int) 5 ad nw nt Q) RX5 cX5_put 6 5 := fun _ => je_Cm_ok
  refine Cs_of [some (.ref (ad 0 0)), some (.int x), some (.int y), some (.int z), none, none] (by decide) rfl (Nat.le_of_ble_eq_true rfl) ?_
  first | refine Es_aload_n (hC _) dX5_put_0 rfl ?_ | refine Es_aload_nN (hC _) dX5_put_0 rfl ?_
  refine Es_iload_n (hC _) dX5_put_1 rfl ?_
  refine Es_fV (hC _) mv_X5_132 dX5_put_2 (c_tyreAt_out hnt hot) rfl rfl ⟨_, rfl, rfl⟩ rfl rfl (by decide) (Nat.le_of_ble_eq_true rfl) ?_
  first | refine Es_astore (lv' := [_, _, _, _, _, _]) (hC _) dX5_put_5 (by decide) rfl rfl ?_ | refine Es_astoreN (lv' := [_, _, _, _, _, _]) (hC _) dX5_put_5 (by decide) rfl rfl ?_
  first | refine Es_aload_n (hC _) dX5_put_7 rfl ?_ | refine Es_aload_nN (hC _) dX5_put_7 rfl ?_
  refine Es_iload_n (hC _) dX5_put_8 rfl ?_
  refine Es_fV (hC _) mv_X5_77 dX5_put_9 (c_wagonAt_out hnw how) rfl rfl ⟨_, rfl, rfl⟩ rfl rfl (by decide) (Nat.le_of_ble_eq_true rfl) ?_
  first | refine Es_astore (lv' := [_, _, _, _, _, _]) (hC _) dX5_put_12 (by decide) rfl rfl ?_ | refine Es_astoreN (lv' := [_, _, _, _, _, _]) (hC _) dX5_put_12 (by decide) rfl rfl ?_
  first | refine Es_aload (hC _) dX5_put_14 rfl ?_ | refine Es_aloadN (hC _) dX5_put_14 rfl ?_
  refine Es_ifnullN (hC _) 33 dX5_put_16 (by decide) ?_
  first | refine Es_aload_n (hC _) dX5_put_33 rfl ?_ | refine Es_aload_nN (hC _) dX5_put_33 rfl ?_
  refine Es_iconst (v := -1) (hC _) dX5_put_34 (by decide) ?_
  refine Es_fV (hC _) mv_X5_70 dX5_put_35 (c_refuse (k := 1) (by decide) (by decide)) rfl rfl ⟨_, rfl, rfl⟩ rfl rfl (by decide) (Nat.le_of_ble_eq_true rfl) ?_
  exact Es_iret dX5_put_38 rfl ⟨rfl, rfl, rfl⟩

set_option maxRecDepth 100000 in
set_option maxHeartbeats 4000000 in
theorem c_put_1b {ad : sA} {nw nt : Nat} {B : sB} {L : sL} (hnt : B 0 0 9 = nI nt) (h40 : nt ≤ 40) (hnw : B 0 0 8 = nI nw) (h5 : nw ≤ 5) {x : Int32} (hot : out x nt) {w : Nat} (hw : w < nw) {z : Int32} : Cf yX5_put cX5_put 6 (some FieldType.int) 5 [.ref (ad 0 0), .int x, .int (nI w), .int z] ad nw nt B L (some (.int (-1))) (uB B 5 0 1 (B 5 0 1 + 1)) (L) := by
  have hC : ∀ Q, je_Ok (sCm yX5_put cX5_put 6 (some FieldType.int) 5 ad nw nt Q) RX5 cX5_put 6 5 := fun _ => je_Cm_ok
  refine Cs_of [some (.ref (ad 0 0)), some (.int x), some (.int (nI w)), some (.int z), none, none] (by decide) rfl (Nat.le_of_ble_eq_true rfl) ?_
  first | refine Es_aload_n (hC _) dX5_put_0 rfl ?_ | refine Es_aload_nN (hC _) dX5_put_0 rfl ?_
  refine Es_iload_n (hC _) dX5_put_1 rfl ?_
  refine Es_fV (hC _) mv_X5_132 dX5_put_2 (c_tyreAt_out hnt hot) rfl rfl ⟨_, rfl, rfl⟩ rfl rfl (by decide) (Nat.le_of_ble_eq_true rfl) ?_
  first | refine Es_astore (lv' := [_, _, _, _, _, _]) (hC _) dX5_put_5 (by decide) rfl rfl ?_ | refine Es_astoreN (lv' := [_, _, _, _, _, _]) (hC _) dX5_put_5 (by decide) rfl rfl ?_
  first | refine Es_aload_n (hC _) dX5_put_7 rfl ?_ | refine Es_aload_nN (hC _) dX5_put_7 rfl ?_
  refine Es_iload_n (hC _) dX5_put_8 rfl ?_
  refine Es_fV (hC _) mv_X5_77 dX5_put_9 (c_wagonAt_in hnw h5 hw) rfl rfl ⟨_, rfl, rfl⟩ rfl rfl (by decide) (Nat.le_of_ble_eq_true rfl) ?_
  first | refine Es_astore (lv' := [_, _, _, _, _, _]) (hC _) dX5_put_12 (by decide) rfl rfl ?_ | refine Es_astoreN (lv' := [_, _, _, _, _, _]) (hC _) dX5_put_12 (by decide) rfl rfl ?_
  first | refine Es_aload (hC _) dX5_put_14 rfl ?_ | refine Es_aloadN (hC _) dX5_put_14 rfl ?_
  refine Es_ifnullN (hC _) 33 dX5_put_16 (by decide) ?_
  first | refine Es_aload_n (hC _) dX5_put_33 rfl ?_ | refine Es_aload_nN (hC _) dX5_put_33 rfl ?_
  refine Es_iconst (v := -1) (hC _) dX5_put_34 (by decide) ?_
  refine Es_fV (hC _) mv_X5_70 dX5_put_35 (c_refuse (k := 1) (by decide) (by decide)) rfl rfl ⟨_, rfl, rfl⟩ rfl rfl (by decide) (Nat.le_of_ble_eq_true rfl) ?_
  exact Es_iret dX5_put_38 rfl ⟨rfl, rfl, rfl⟩

set_option maxRecDepth 100000 in
set_option maxHeartbeats 4000000 in
theorem c_put_1c {ad : sA} {nw nt : Nat} {B : sB} {L : sL} (hnt : B 0 0 9 = nI nt) (h40 : nt ≤ 40) (hnw : B 0 0 8 = nI nw) (h5 : nw ≤ 5) {t : Nat} (ht : t < nt) {y : Int32} (how : out y nw) {z : Int32} : Cf yX5_put cX5_put 6 (some FieldType.int) 5 [.ref (ad 0 0), .int (nI t), .int y, .int z] ad nw nt B L (some (.int (-1))) (uB B 5 0 1 (B 5 0 1 + 1)) (L) := by
  have hC : ∀ Q, je_Ok (sCm yX5_put cX5_put 6 (some FieldType.int) 5 ad nw nt Q) RX5 cX5_put 6 5 := fun _ => je_Cm_ok
  refine Cs_of [some (.ref (ad 0 0)), some (.int (nI t)), some (.int y), some (.int z), none, none] (by decide) rfl (Nat.le_of_ble_eq_true rfl) ?_
  first | refine Es_aload_n (hC _) dX5_put_0 rfl ?_ | refine Es_aload_nN (hC _) dX5_put_0 rfl ?_
  refine Es_iload_n (hC _) dX5_put_1 rfl ?_
  refine Es_fV (hC _) mv_X5_132 dX5_put_2 (c_tyreAt_in hnt h40 ht) rfl rfl ⟨_, rfl, rfl⟩ rfl rfl (by decide) (Nat.le_of_ble_eq_true rfl) ?_
  first | refine Es_astore (lv' := [_, _, _, _, _, _]) (hC _) dX5_put_5 (by decide) rfl rfl ?_ | refine Es_astoreN (lv' := [_, _, _, _, _, _]) (hC _) dX5_put_5 (by decide) rfl rfl ?_
  first | refine Es_aload_n (hC _) dX5_put_7 rfl ?_ | refine Es_aload_nN (hC _) dX5_put_7 rfl ?_
  refine Es_iload_n (hC _) dX5_put_8 rfl ?_
  refine Es_fV (hC _) mv_X5_77 dX5_put_9 (c_wagonAt_out hnw how) rfl rfl ⟨_, rfl, rfl⟩ rfl rfl (by decide) (Nat.le_of_ble_eq_true rfl) ?_
  first | refine Es_astore (lv' := [_, _, _, _, _, _]) (hC _) dX5_put_12 (by decide) rfl rfl ?_ | refine Es_astoreN (lv' := [_, _, _, _, _, _]) (hC _) dX5_put_12 (by decide) rfl rfl ?_
  first | refine Es_aload (hC _) dX5_put_14 rfl ?_ | refine Es_aloadN (hC _) dX5_put_14 rfl ?_
  refine Es_ifnull (hC _) dX5_put_16 ?_
  first | refine Es_aload (hC _) dX5_put_19 rfl ?_ | refine Es_aloadN (hC _) dX5_put_19 rfl ?_
  refine Es_ifnullN (hC _) 33 dX5_put_21 (by decide) ?_
  first | refine Es_aload_n (hC _) dX5_put_33 rfl ?_ | refine Es_aload_nN (hC _) dX5_put_33 rfl ?_
  refine Es_iconst (v := -1) (hC _) dX5_put_34 (by decide) ?_
  refine Es_fV (hC _) mv_X5_70 dX5_put_35 (c_refuse (k := 1) (by decide) (by decide)) rfl rfl ⟨_, rfl, rfl⟩ rfl rfl (by decide) (Nat.le_of_ble_eq_true rfl) ?_
  exact Es_iret dX5_put_38 rfl ⟨rfl, rfl, rfl⟩

set_option maxRecDepth 100000 in
set_option maxHeartbeats 4000000 in
theorem c_put_1d {ad : sA} {nw nt : Nat} {B : sB} {L : sL} (hnt : B 0 0 9 = nI nt) (h40 : nt ≤ 40) (hnw : B 0 0 8 = nI nw) (h5 : nw ≤ 5) {t : Nat} (ht : t < nt) {w : Nat} (hw : w < nw) {p : Nat} {z : Int32} (hp : B 18 w 3 = nI p) (h7 : p ≤ 7) (hoz : out z p)  : Cf yX5_put cX5_put 6 (some FieldType.int) 5 [.ref (ad 0 0), .int (nI t), .int (nI w), .int z] ad nw nt B L (some (.int (-1))) (uB B 5 0 1 (B 5 0 1 + 1)) (L) := by
  have hC : ∀ Q, je_Ok (sCm yX5_put cX5_put 6 (some FieldType.int) 5 ad nw nt Q) RX5 cX5_put 6 5 := fun _ => je_Cm_ok
  refine Cs_of [some (.ref (ad 0 0)), some (.int (nI t)), some (.int (nI w)), some (.int z), none, none] (by decide) rfl (Nat.le_of_ble_eq_true rfl) ?_
  first | refine Es_aload_n (hC _) dX5_put_0 rfl ?_ | refine Es_aload_nN (hC _) dX5_put_0 rfl ?_
  refine Es_iload_n (hC _) dX5_put_1 rfl ?_
  refine Es_fV (hC _) mv_X5_132 dX5_put_2 (c_tyreAt_in hnt h40 ht) rfl rfl ⟨_, rfl, rfl⟩ rfl rfl (by decide) (Nat.le_of_ble_eq_true rfl) ?_
  first | refine Es_astore (lv' := [_, _, _, _, _, _]) (hC _) dX5_put_5 (by decide) rfl rfl ?_ | refine Es_astoreN (lv' := [_, _, _, _, _, _]) (hC _) dX5_put_5 (by decide) rfl rfl ?_
  first | refine Es_aload_n (hC _) dX5_put_7 rfl ?_ | refine Es_aload_nN (hC _) dX5_put_7 rfl ?_
  refine Es_iload_n (hC _) dX5_put_8 rfl ?_
  refine Es_fV (hC _) mv_X5_77 dX5_put_9 (c_wagonAt_in hnw h5 hw) rfl rfl ⟨_, rfl, rfl⟩ rfl rfl (by decide) (Nat.le_of_ble_eq_true rfl) ?_
  first | refine Es_astore (lv' := [_, _, _, _, _, _]) (hC _) dX5_put_12 (by decide) rfl rfl ?_ | refine Es_astoreN (lv' := [_, _, _, _, _, _]) (hC _) dX5_put_12 (by decide) rfl rfl ?_
  first | refine Es_aload (hC _) dX5_put_14 rfl ?_ | refine Es_aloadN (hC _) dX5_put_14 rfl ?_
  refine Es_ifnull (hC _) dX5_put_16 ?_
  first | refine Es_aload (hC _) dX5_put_19 rfl ?_ | refine Es_aloadN (hC _) dX5_put_19 rfl ?_
  refine Es_ifnull (hC _) dX5_put_21 ?_
  first | refine Es_aload (hC _) dX5_put_24 rfl ?_ | refine Es_aloadN (hC _) dX5_put_24 rfl ?_
  refine Es_iload_n (hC _) dX5_put_26 rfl ?_
  refine Es_fV (hC _) mv_X5_136 dX5_put_27 (c_hasPlace_out hw hp h7 hoz) (ok18 hw) rfl ⟨_, rfl, rfl⟩ rfl rfl (by decide) (Nat.le_of_ble_eq_true rfl) ?_
  refine Es_if_ne (hC _) 39 dX5_put_30 (by decide) (fun hb30 => False.elim ((by first | exact absurd hb30 (by decide) | exact absurd hb30 (by assumption) | exact hb30 (by assumption) | exact hb30 rfl | (simp_all [bI]; done)))) (fun hb30 => ?_)
  first | refine Es_aload_n (hC _) dX5_put_33 rfl ?_ | refine Es_aload_nN (hC _) dX5_put_33 rfl ?_
  refine Es_iconst (v := -1) (hC _) dX5_put_34 (by decide) ?_
  refine Es_fV (hC _) mv_X5_70 dX5_put_35 (c_refuse (k := 1) (by decide) (by decide)) rfl rfl ⟨_, rfl, rfl⟩ rfl rfl (by decide) (Nat.le_of_ble_eq_true rfl) ?_
  exact Es_iret dX5_put_38 rfl ⟨rfl, rfl, rfl⟩

set_option maxRecDepth 100000 in
set_option maxHeartbeats 4000000 in
theorem c_put_2 {ad : sA} {nw nt : Nat} {B : sB} {L : sL} (hnt : B 0 0 9 = nI nt) (h40 : nt ≤ 40) (hnw : B 0 0 8 = nI nw) (h5 : nw ≤ 5) {t : Nat} (ht : t < nt) {w : Nat} (hw : w < nw) {p q : Nat} (hp : B 18 w 3 = nI p) (h7 : p ≤ 7) (hq : q < p) (hwh : ¬ B 21 t 10 = -1) : Cf yX5_put cX5_put 6 (some FieldType.int) 5 [.ref (ad 0 0), .int (nI t), .int (nI w), .int (nI q)] ad nw nt B L (some (.int (-2))) (uB B 5 0 2 (B 5 0 2 + 1)) (L) := by
  have hC : ∀ Q, je_Ok (sCm yX5_put cX5_put 6 (some FieldType.int) 5 ad nw nt Q) RX5 cX5_put 6 5 := fun _ => je_Cm_ok
  refine Cs_of [some (.ref (ad 0 0)), some (.int (nI t)), some (.int (nI w)), some (.int (nI q)), none, none] (by decide) rfl (Nat.le_of_ble_eq_true rfl) ?_
  first | refine Es_aload_n (hC _) dX5_put_0 rfl ?_ | refine Es_aload_nN (hC _) dX5_put_0 rfl ?_
  refine Es_iload_n (hC _) dX5_put_1 rfl ?_
  refine Es_fV (hC _) mv_X5_132 dX5_put_2 (c_tyreAt_in hnt h40 ht) rfl rfl ⟨_, rfl, rfl⟩ rfl rfl (by decide) (Nat.le_of_ble_eq_true rfl) ?_
  first | refine Es_astore (lv' := [_, _, _, _, _, _]) (hC _) dX5_put_5 (by decide) rfl rfl ?_ | refine Es_astoreN (lv' := [_, _, _, _, _, _]) (hC _) dX5_put_5 (by decide) rfl rfl ?_
  first | refine Es_aload_n (hC _) dX5_put_7 rfl ?_ | refine Es_aload_nN (hC _) dX5_put_7 rfl ?_
  refine Es_iload_n (hC _) dX5_put_8 rfl ?_
  refine Es_fV (hC _) mv_X5_77 dX5_put_9 (c_wagonAt_in hnw h5 hw) rfl rfl ⟨_, rfl, rfl⟩ rfl rfl (by decide) (Nat.le_of_ble_eq_true rfl) ?_
  first | refine Es_astore (lv' := [_, _, _, _, _, _]) (hC _) dX5_put_12 (by decide) rfl rfl ?_ | refine Es_astoreN (lv' := [_, _, _, _, _, _]) (hC _) dX5_put_12 (by decide) rfl rfl ?_
  first | refine Es_aload (hC _) dX5_put_14 rfl ?_ | refine Es_aloadN (hC _) dX5_put_14 rfl ?_
  refine Es_ifnull (hC _) dX5_put_16 ?_
  first | refine Es_aload (hC _) dX5_put_19 rfl ?_ | refine Es_aloadN (hC _) dX5_put_19 rfl ?_
  refine Es_ifnull (hC _) dX5_put_21 ?_
  first | refine Es_aload (hC _) dX5_put_24 rfl ?_ | refine Es_aloadN (hC _) dX5_put_24 rfl ?_
  refine Es_iload_n (hC _) dX5_put_26 rfl ?_
  refine Es_fV (hC _) mv_X5_136 dX5_put_27 (c_hasPlace_in hw hp h7 hq) (ok18 hw) rfl ⟨_, rfl, rfl⟩ rfl rfl (by decide) (Nat.le_of_ble_eq_true rfl) ?_
  refine Es_if_ne (hC _) 39 dX5_put_30 (by decide) (fun hb30 => ?_) (fun hb30 => False.elim ((by first | exact absurd hb30 (by decide) | exact absurd hb30 (by assumption) | exact hb30 (by assumption) | exact hb30 rfl | (simp_all [bI]; done))))
  first | refine Es_aload (hC _) dX5_put_39 rfl ?_ | refine Es_aloadN (hC _) dX5_put_39 rfl ?_
  refine Sg_X2_10 (hC _) fl_X5_139 dX5_put_41 (by assumption) ?_
  refine Es_iconst (v := -1) (hC _) dX5_put_44 (by decide) ?_
  refine Es_icmp_ne (hC _) 57 dX5_put_45 (by decide) (fun hb45 => ?_) (fun hb45 => False.elim ((by first | exact absurd hb45 (by decide) | exact absurd hb45 (by assumption) | exact hb45 (by assumption) | exact hb45 rfl | (simp_all [bI]; done))))
  first | refine Es_aload_n (hC _) dX5_put_57 rfl ?_ | refine Es_aload_nN (hC _) dX5_put_57 rfl ?_
  refine Es_bipush (v := -2) (hC _) dX5_put_58 (by decide) ?_
  refine Es_fV (hC _) mv_X5_70 dX5_put_60 (c_refuse (k := 2) (by decide) (by decide)) rfl rfl ⟨_, rfl, rfl⟩ rfl rfl (by decide) (Nat.le_of_ble_eq_true rfl) ?_
  exact Es_iret dX5_put_63 rfl ⟨rfl, rfl, rfl⟩

set_option maxRecDepth 100000 in
set_option maxHeartbeats 4000000 in
theorem c_put_3 {ad : sA} {nw nt : Nat} {B : sB} {L : sL} (hnt : B 0 0 9 = nI nt) (h40 : nt ≤ 40) (hnw : B 0 0 8 = nI nw) (h5 : nw ≤ 5) {t : Nat} (ht : t < nt) {w : Nat} (hw : w < nw) {p q : Nat} (hp : B 18 w 3 = nI p) (h7 : p ≤ 7) (hq : q < p) {a : Nat} (hwh : B 21 t 10 = -1) (hon : B 20 w q = nI a) (ha : a < 2 ^ 31) : Cf yX5_put cX5_put 6 (some FieldType.int) 5 [.ref (ad 0 0), .int (nI t), .int (nI w), .int (nI q)] ad nw nt B L (some (.int (-2))) (uB B 5 0 2 (B 5 0 2 + 1)) (L) := by
  have hC : ∀ Q, je_Ok (sCm yX5_put cX5_put 6 (some FieldType.int) 5 ad nw nt Q) RX5 cX5_put 6 5 := fun _ => je_Cm_ok
  refine Cs_of [some (.ref (ad 0 0)), some (.int (nI t)), some (.int (nI w)), some (.int (nI q)), none, none] (by decide) rfl (Nat.le_of_ble_eq_true rfl) ?_
  first | refine Es_aload_n (hC _) dX5_put_0 rfl ?_ | refine Es_aload_nN (hC _) dX5_put_0 rfl ?_
  refine Es_iload_n (hC _) dX5_put_1 rfl ?_
  refine Es_fV (hC _) mv_X5_132 dX5_put_2 (c_tyreAt_in hnt h40 ht) rfl rfl ⟨_, rfl, rfl⟩ rfl rfl (by decide) (Nat.le_of_ble_eq_true rfl) ?_
  first | refine Es_astore (lv' := [_, _, _, _, _, _]) (hC _) dX5_put_5 (by decide) rfl rfl ?_ | refine Es_astoreN (lv' := [_, _, _, _, _, _]) (hC _) dX5_put_5 (by decide) rfl rfl ?_
  first | refine Es_aload_n (hC _) dX5_put_7 rfl ?_ | refine Es_aload_nN (hC _) dX5_put_7 rfl ?_
  refine Es_iload_n (hC _) dX5_put_8 rfl ?_
  refine Es_fV (hC _) mv_X5_77 dX5_put_9 (c_wagonAt_in hnw h5 hw) rfl rfl ⟨_, rfl, rfl⟩ rfl rfl (by decide) (Nat.le_of_ble_eq_true rfl) ?_
  first | refine Es_astore (lv' := [_, _, _, _, _, _]) (hC _) dX5_put_12 (by decide) rfl rfl ?_ | refine Es_astoreN (lv' := [_, _, _, _, _, _]) (hC _) dX5_put_12 (by decide) rfl rfl ?_
  first | refine Es_aload (hC _) dX5_put_14 rfl ?_ | refine Es_aloadN (hC _) dX5_put_14 rfl ?_
  refine Es_ifnull (hC _) dX5_put_16 ?_
  first | refine Es_aload (hC _) dX5_put_19 rfl ?_ | refine Es_aloadN (hC _) dX5_put_19 rfl ?_
  refine Es_ifnull (hC _) dX5_put_21 ?_
  first | refine Es_aload (hC _) dX5_put_24 rfl ?_ | refine Es_aloadN (hC _) dX5_put_24 rfl ?_
  refine Es_iload_n (hC _) dX5_put_26 rfl ?_
  refine Es_fV (hC _) mv_X5_136 dX5_put_27 (c_hasPlace_in hw hp h7 hq) (ok18 hw) rfl ⟨_, rfl, rfl⟩ rfl rfl (by decide) (Nat.le_of_ble_eq_true rfl) ?_
  refine Es_if_ne (hC _) 39 dX5_put_30 (by decide) (fun hb30 => ?_) (fun hb30 => False.elim ((by first | exact absurd hb30 (by decide) | exact absurd hb30 (by assumption) | exact hb30 (by assumption) | exact hb30 rfl | (simp_all [bI]; done))))
  first | refine Es_aload (hC _) dX5_put_39 rfl ?_ | refine Es_aloadN (hC _) dX5_put_39 rfl ?_
  refine Sg_X2_10 (hC _) fl_X5_139 dX5_put_41 (by assumption) ?_
  refine Es_iconst (v := -1) (hC _) dX5_put_44 (by decide) ?_
  refine Es_icmp_ne (hC _) 57 dX5_put_45 (by decide) (fun hb45 => False.elim ((by first | exact absurd hb45 (by decide) | exact absurd hb45 (by assumption) | exact hb45 (by assumption) | exact hb45 rfl | (simp_all [bI]; done)))) (fun hb45 => ?_)
  first | refine Es_aload (hC _) dX5_put_48 rfl ?_ | refine Es_aloadN (hC _) dX5_put_48 rfl ?_
  refine Es_iload_n (hC _) dX5_put_50 rfl ?_
  refine Es_fV (hC _) mv_X5_142 dX5_put_51 (c_tyreOn_in hw hp h7 hq) (ok18 hw) rfl ⟨_, rfl, rfl⟩ rfl rfl (by decide) (Nat.le_of_ble_eq_true rfl) ?_
  rw [show rT ad (B 20 w q) = some (ad 21 a) by rw [hon, rT, if_neg (nI_pos ha), nI_clamp ha]]
  refine Es_ifnull (hC _) dX5_put_54 ?_
  first | refine Es_aload_n (hC _) dX5_put_57 rfl ?_ | refine Es_aload_nN (hC _) dX5_put_57 rfl ?_
  refine Es_bipush (v := -2) (hC _) dX5_put_58 (by decide) ?_
  refine Es_fV (hC _) mv_X5_70 dX5_put_60 (c_refuse (k := 2) (by decide) (by decide)) rfl rfl ⟨_, rfl, rfl⟩ rfl rfl (by decide) (Nat.le_of_ble_eq_true rfl) ?_
  exact Es_iret dX5_put_63 rfl ⟨rfl, rfl, rfl⟩

set_option maxRecDepth 100000 in
set_option maxHeartbeats 4000000 in
theorem c_put_4 {ad : sA} {nw nt : Nat} {B : sB} {L : sL} (hnt : B 0 0 9 = nI nt) (h40 : nt ≤ 40) (hnw : B 0 0 8 = nI nw) (h5 : nw ≤ 5) {t : Nat} (ht : t < nt) {w : Nat} (hw : w < nw) {p q : Nat} (hp : B 18 w 3 = nI p) (h7 : p ≤ 7) (hq : q < p) (hwh : B 21 t 10 = -1) (hon : B 20 w q = -1) (hk : B 6 0 3 = nI 600) : Cf yX5_put cX5_put 6 (some FieldType.int) 5 [.ref (ad 0 0), .int (nI t), .int (nI w), .int (nI q)] ad nw nt B L (some (.int (-6))) (uB B 5 0 6 (B 5 0 6 + 1)) (L) := by
  have hC : ∀ Q, je_Ok (sCm yX5_put cX5_put 6 (some FieldType.int) 5 ad nw nt Q) RX5 cX5_put 6 5 := fun _ => je_Cm_ok
  refine Cs_of [some (.ref (ad 0 0)), some (.int (nI t)), some (.int (nI w)), some (.int (nI q)), none, none] (by decide) rfl (Nat.le_of_ble_eq_true rfl) ?_
  first | refine Es_aload_n (hC _) dX5_put_0 rfl ?_ | refine Es_aload_nN (hC _) dX5_put_0 rfl ?_
  refine Es_iload_n (hC _) dX5_put_1 rfl ?_
  refine Es_fV (hC _) mv_X5_132 dX5_put_2 (c_tyreAt_in hnt h40 ht) rfl rfl ⟨_, rfl, rfl⟩ rfl rfl (by decide) (Nat.le_of_ble_eq_true rfl) ?_
  first | refine Es_astore (lv' := [_, _, _, _, _, _]) (hC _) dX5_put_5 (by decide) rfl rfl ?_ | refine Es_astoreN (lv' := [_, _, _, _, _, _]) (hC _) dX5_put_5 (by decide) rfl rfl ?_
  first | refine Es_aload_n (hC _) dX5_put_7 rfl ?_ | refine Es_aload_nN (hC _) dX5_put_7 rfl ?_
  refine Es_iload_n (hC _) dX5_put_8 rfl ?_
  refine Es_fV (hC _) mv_X5_77 dX5_put_9 (c_wagonAt_in hnw h5 hw) rfl rfl ⟨_, rfl, rfl⟩ rfl rfl (by decide) (Nat.le_of_ble_eq_true rfl) ?_
  first | refine Es_astore (lv' := [_, _, _, _, _, _]) (hC _) dX5_put_12 (by decide) rfl rfl ?_ | refine Es_astoreN (lv' := [_, _, _, _, _, _]) (hC _) dX5_put_12 (by decide) rfl rfl ?_
  first | refine Es_aload (hC _) dX5_put_14 rfl ?_ | refine Es_aloadN (hC _) dX5_put_14 rfl ?_
  refine Es_ifnull (hC _) dX5_put_16 ?_
  first | refine Es_aload (hC _) dX5_put_19 rfl ?_ | refine Es_aloadN (hC _) dX5_put_19 rfl ?_
  refine Es_ifnull (hC _) dX5_put_21 ?_
  first | refine Es_aload (hC _) dX5_put_24 rfl ?_ | refine Es_aloadN (hC _) dX5_put_24 rfl ?_
  refine Es_iload_n (hC _) dX5_put_26 rfl ?_
  refine Es_fV (hC _) mv_X5_136 dX5_put_27 (c_hasPlace_in hw hp h7 hq) (ok18 hw) rfl ⟨_, rfl, rfl⟩ rfl rfl (by decide) (Nat.le_of_ble_eq_true rfl) ?_
  refine Es_if_ne (hC _) 39 dX5_put_30 (by decide) (fun hb30 => ?_) (fun hb30 => False.elim ((by first | exact absurd hb30 (by decide) | exact absurd hb30 (by assumption) | exact hb30 (by assumption) | exact hb30 rfl | (simp_all [bI]; done))))
  first | refine Es_aload (hC _) dX5_put_39 rfl ?_ | refine Es_aloadN (hC _) dX5_put_39 rfl ?_
  refine Sg_X2_10 (hC _) fl_X5_139 dX5_put_41 (by assumption) ?_
  refine Es_iconst (v := -1) (hC _) dX5_put_44 (by decide) ?_
  refine Es_icmp_ne (hC _) 57 dX5_put_45 (by decide) (fun hb45 => False.elim ((by first | exact absurd hb45 (by decide) | exact absurd hb45 (by assumption) | exact hb45 (by assumption) | exact hb45 rfl | (simp_all [bI]; done)))) (fun hb45 => ?_)
  first | refine Es_aload (hC _) dX5_put_48 rfl ?_ | refine Es_aloadN (hC _) dX5_put_48 rfl ?_
  refine Es_iload_n (hC _) dX5_put_50 rfl ?_
  refine Es_fV (hC _) mv_X5_142 dX5_put_51 (c_tyreOn_in hw hp h7 hq) (ok18 hw) rfl ⟨_, rfl, rfl⟩ rfl rfl (by decide) (Nat.le_of_ble_eq_true rfl) ?_
  rw [show rT ad (B 20 w q) = none by rw [hon]; rfl]
  refine Es_ifnullN (hC _) 64 dX5_put_54 (by decide) ?_
  first | refine Es_aload_n (hC _) dX5_put_64 rfl ?_ | refine Es_aload_nN (hC _) dX5_put_64 rfl ?_
  refine Sg_X5_5 (hC _) fl_X5_45 dX5_put_65 ?_
  refine Es_iconst (v := 1) (hC _) dX5_put_68 (by decide) ?_
  refine Es_fV (hC _) mv_X5_113 dX5_put_69 (c_hasRoomFor (m := 1) hk (by decide) (by decide)) rfl rfl ⟨_, rfl, rfl⟩ rfl rfl (by decide) (Nat.le_of_ble_eq_true rfl) ?_
  refine Es_if_ne (hC _) 82 dX5_put_72 (by decide) (fun hb72 => False.elim ((by first | exact absurd hb72 (by decide) | exact absurd hb72 (by assumption) | exact hb72 (by assumption) | exact hb72 rfl | (simp_all [bI]; done)))) (fun hb72 => ?_)
  first | refine Es_aload_n (hC _) dX5_put_75 rfl ?_ | refine Es_aload_nN (hC _) dX5_put_75 rfl ?_
  refine Es_bipush (v := -6) (hC _) dX5_put_76 (by decide) ?_
  refine Es_fV (hC _) mv_X5_70 dX5_put_78 (c_refuse (k := 6) (by decide) (by decide)) rfl rfl ⟨_, rfl, rfl⟩ rfl rfl (by decide) (Nat.le_of_ble_eq_true rfl) ?_
  exact Es_iret dX5_put_81 rfl ⟨rfl, rfl, rfl⟩

set_option maxRecDepth 100000 in
set_option maxHeartbeats 4000000 in
theorem c_put_5 {ad : sA} {nw nt : Nat} {B : sB} {L : sL} (hnt : B 0 0 9 = nI nt) (h40 : nt ≤ 40) (hnw : B 0 0 8 = nI nw) (h5 : nw ≤ 5) {t : Nat} (ht : t < nt) {w : Nat} (hw : w < nw) {p q : Nat} (hp : B 18 w 3 = nI p) (h7 : p ≤ 7) (hq : q < p) {k : Nat} (hwh : B 21 t 10 = -1) (hon : B 20 w q = -1) (hk : B 6 0 3 = nI k) (h6 : k < 600) (hwn : B 18 w 0 = nI w) : Cf yX5_put cX5_put 6 (some FieldType.int) 5 [.ref (ad 0 0), .int (nI t), .int (nI w), .int (nI q)] ad nw nt B L (some (.int 1)) (cLog (uB (uB B 20 w q (nI t)) 21 t 10 (nI (10 * w + q))) k (B 0 0 11) (B 21 t 0) (nI (10 * w + q))) (L) := by
  have hC : ∀ Q, je_Ok (sCm yX5_put cX5_put 6 (some FieldType.int) 5 ad nw nt Q) RX5 cX5_put 6 5 := fun _ => je_Cm_ok
  refine Cs_of [some (.ref (ad 0 0)), some (.int (nI t)), some (.int (nI w)), some (.int (nI q)), none, none] (by decide) rfl (Nat.le_of_ble_eq_true rfl) ?_
  first | refine Es_aload_n (hC _) dX5_put_0 rfl ?_ | refine Es_aload_nN (hC _) dX5_put_0 rfl ?_
  refine Es_iload_n (hC _) dX5_put_1 rfl ?_
  refine Es_fV (hC _) mv_X5_132 dX5_put_2 (c_tyreAt_in hnt h40 ht) rfl rfl ⟨_, rfl, rfl⟩ rfl rfl (by decide) (Nat.le_of_ble_eq_true rfl) ?_
  first | refine Es_astore (lv' := [_, _, _, _, _, _]) (hC _) dX5_put_5 (by decide) rfl rfl ?_ | refine Es_astoreN (lv' := [_, _, _, _, _, _]) (hC _) dX5_put_5 (by decide) rfl rfl ?_
  first | refine Es_aload_n (hC _) dX5_put_7 rfl ?_ | refine Es_aload_nN (hC _) dX5_put_7 rfl ?_
  refine Es_iload_n (hC _) dX5_put_8 rfl ?_
  refine Es_fV (hC _) mv_X5_77 dX5_put_9 (c_wagonAt_in hnw h5 hw) rfl rfl ⟨_, rfl, rfl⟩ rfl rfl (by decide) (Nat.le_of_ble_eq_true rfl) ?_
  first | refine Es_astore (lv' := [_, _, _, _, _, _]) (hC _) dX5_put_12 (by decide) rfl rfl ?_ | refine Es_astoreN (lv' := [_, _, _, _, _, _]) (hC _) dX5_put_12 (by decide) rfl rfl ?_
  first | refine Es_aload (hC _) dX5_put_14 rfl ?_ | refine Es_aloadN (hC _) dX5_put_14 rfl ?_
  refine Es_ifnull (hC _) dX5_put_16 ?_
  first | refine Es_aload (hC _) dX5_put_19 rfl ?_ | refine Es_aloadN (hC _) dX5_put_19 rfl ?_
  refine Es_ifnull (hC _) dX5_put_21 ?_
  first | refine Es_aload (hC _) dX5_put_24 rfl ?_ | refine Es_aloadN (hC _) dX5_put_24 rfl ?_
  refine Es_iload_n (hC _) dX5_put_26 rfl ?_
  refine Es_fV (hC _) mv_X5_136 dX5_put_27 (c_hasPlace_in hw hp h7 hq) (ok18 hw) rfl ⟨_, rfl, rfl⟩ rfl rfl (by decide) (Nat.le_of_ble_eq_true rfl) ?_
  refine Es_if_ne (hC _) 39 dX5_put_30 (by decide) (fun hb30 => ?_) (fun hb30 => False.elim ((by first | exact absurd hb30 (by decide) | exact absurd hb30 (by assumption) | exact hb30 (by assumption) | exact hb30 rfl | (simp_all [bI]; done))))
  first | refine Es_aload (hC _) dX5_put_39 rfl ?_ | refine Es_aloadN (hC _) dX5_put_39 rfl ?_
  refine Sg_X2_10 (hC _) fl_X5_139 dX5_put_41 (by assumption) ?_
  refine Es_iconst (v := -1) (hC _) dX5_put_44 (by decide) ?_
  refine Es_icmp_ne (hC _) 57 dX5_put_45 (by decide) (fun hb45 => False.elim ((by first | exact absurd hb45 (by decide) | exact absurd hb45 (by assumption) | exact hb45 (by assumption) | exact hb45 rfl | (simp_all [bI]; done)))) (fun hb45 => ?_)
  first | refine Es_aload (hC _) dX5_put_48 rfl ?_ | refine Es_aloadN (hC _) dX5_put_48 rfl ?_
  refine Es_iload_n (hC _) dX5_put_50 rfl ?_
  refine Es_fV (hC _) mv_X5_142 dX5_put_51 (c_tyreOn_in hw hp h7 hq) (ok18 hw) rfl ⟨_, rfl, rfl⟩ rfl rfl (by decide) (Nat.le_of_ble_eq_true rfl) ?_
  rw [show rT ad (B 20 w q) = none by rw [hon]; rfl]
  refine Es_ifnullN (hC _) 64 dX5_put_54 (by decide) ?_
  first | refine Es_aload_n (hC _) dX5_put_64 rfl ?_ | refine Es_aload_nN (hC _) dX5_put_64 rfl ?_
  refine Sg_X5_5 (hC _) fl_X5_45 dX5_put_65 ?_
  refine Es_iconst (v := 1) (hC _) dX5_put_68 (by decide) ?_
  refine Es_fV (hC _) mv_X5_113 dX5_put_69 (c_hasRoomFor (m := 1) hk (by omega) (by decide)) rfl rfl ⟨_, rfl, rfl⟩ rfl rfl (by decide) (Nat.le_of_ble_eq_true rfl) ?_
  refine Es_if_ne (hC _) 82 dX5_put_72 (by decide) (fun hb72 => ?_) (fun hb72 => False.elim (absurd hb72 (by rw [bI, if_pos (by omega)]; decide)))
  first | refine Es_aload (hC _) dX5_put_82 rfl ?_ | refine Es_aloadN (hC _) dX5_put_82 rfl ?_
  refine Es_iload_n (hC _) dX5_put_84 rfl ?_
  first | refine Es_aload (hC _) dX5_put_85 rfl ?_ | refine Es_aloadN (hC _) dX5_put_85 rfl ?_
  refine Es_fV (hC _) mv_X5_145 dX5_put_87 (c_lay hw hp h7 hq ht (by omega)) (ok18 hw) rfl ⟨_, rfl, rfl⟩ rfl rfl (by decide) (Nat.le_of_ble_eq_true rfl) ?_
  first | refine Es_aload_n (hC _) dX5_put_90 rfl ?_ | refine Es_aload_nN (hC _) dX5_put_90 rfl ?_
  first | refine Es_aload (hC _) dX5_put_91 rfl ?_ | refine Es_aloadN (hC _) dX5_put_91 rfl ?_
  first | refine Es_aload (hC _) dX5_put_93 rfl ?_ | refine Es_aloadN (hC _) dX5_put_93 rfl ?_
  refine Es_iload_n (hC _) dX5_put_95 rfl ?_
  refine Es_fV (hC _) mv_X5_149 dX5_put_96 (c_spot hw (by rw [uB_n (by omega)]; exact hwn)) (ok18 hw) rfl ⟨_, rfl, rfl⟩ rfl rfl (by decide) (Nat.le_of_ble_eq_true rfl) ?_
  refine Es_fV (hC _) mv_X5_128 dX5_put_99 (c_move ht (by rw [uB_n (by omega)]; exact hk) h6) rfl rfl ⟨_, rfl, rfl⟩ rfl rfl (by decide) (Nat.le_of_ble_eq_true rfl) ?_
  refine Es_iconst (v := 1) (hC _) dX5_put_102 (by decide) ?_
  exact Es_iret dX5_put_103 rfl ⟨rfl, by rw [uB_n (by omega), uB_n (by omega)], rfl⟩

set_option maxRecDepth 100000 in
set_option maxHeartbeats 4000000 in
theorem r_put_1a {ad : sA} {nw nt : Nat} {B : sB} {L : sL} (hnt : B 25 0 5 = nI nt) (h40 : nt ≤ 40) {x : Int32} (hot : out x nt) {y z : Int32} : Cf yX6_put cX6_put 4 (some FieldType.int) 3 [.ref (ad 25 0), .int x, .int y, .int z] ad nw nt B L (some (.int (-1))) (uB B 30 0 1 (B 30 0 1 + 1)) (L) := by
  have hC : ∀ Q, je_Ok (sCm yX6_put cX6_put 4 (some FieldType.int) 3 ad nw nt Q) RX6 cX6_put 4 3 := fun _ => je_Cm_ok
  refine Cs_of [some (.ref (ad 25 0)), some (.int x), some (.int y), some (.int z)] (by decide) rfl (Nat.le_of_ble_eq_true rfl) ?_
  refine Es_iload_n (hC _) dX6_put_0 rfl ?_
  first | refine Es_aload_n (hC _) dX6_put_1 rfl ?_ | refine Es_aload_nN (hC _) dX6_put_1 rfl ?_
  refine Sg_X6_5 (hC _) fl_X6_107 dX6_put_2 ?_
  rw [hnt]
  refine Es_fS (hC _) ms_X6_89 dX6_put_5 (r_isIn_out hot) rfl rfl (by decide) (Nat.le_of_ble_eq_true rfl) ?_
  refine Es_if_eq (hC _) 20 dX6_put_8 (by decide) (fun hb8 => ?_) (fun hb8 => False.elim ((by first | exact absurd hb8 (by decide) | exact absurd hb8 (by assumption) | exact hb8 (by assumption) | exact hb8 rfl | (simp_all [bI]; done))))
  first | refine Es_aload_n (hC _) dX6_put_20 rfl ?_ | refine Es_aload_nN (hC _) dX6_put_20 rfl ?_
  refine Es_iconst (v := -1) (hC _) dX6_put_21 (by decide) ?_
  refine Es_fV (hC _) mv_X6_93 dX6_put_22 (r_refuse (k := 1) (by decide) (by decide)) rfl rfl ⟨_, rfl, rfl⟩ rfl rfl (by decide) (Nat.le_of_ble_eq_true rfl) ?_
  exact Es_iret dX6_put_25 rfl ⟨rfl, rfl, rfl⟩

set_option maxRecDepth 100000 in
set_option maxHeartbeats 4000000 in
theorem r_put_1b {ad : sA} {nw nt : Nat} {B : sB} {L : sL} (hnt : B 25 0 5 = nI nt) (h40 : nt ≤ 40) (hnw : B 25 0 4 = nI nw) (h5 : nw ≤ 5) {t : Nat} (ht : t < nt) {y : Int32} (how : out y nw) {z : Int32} : Cf yX6_put cX6_put 4 (some FieldType.int) 3 [.ref (ad 25 0), .int (nI t), .int y, .int z] ad nw nt B L (some (.int (-1))) (uB B 30 0 1 (B 30 0 1 + 1)) (L) := by
  have hC : ∀ Q, je_Ok (sCm yX6_put cX6_put 4 (some FieldType.int) 3 ad nw nt Q) RX6 cX6_put 4 3 := fun _ => je_Cm_ok
  refine Cs_of [some (.ref (ad 25 0)), some (.int (nI t)), some (.int y), some (.int z)] (by decide) rfl (Nat.le_of_ble_eq_true rfl) ?_
  refine Es_iload_n (hC _) dX6_put_0 rfl ?_
  first | refine Es_aload_n (hC _) dX6_put_1 rfl ?_ | refine Es_aload_nN (hC _) dX6_put_1 rfl ?_
  refine Sg_X6_5 (hC _) fl_X6_107 dX6_put_2 ?_
  rw [hnt]
  refine Es_fS (hC _) ms_X6_89 dX6_put_5 (r_isIn_in ht (by omega)) rfl rfl (by decide) (Nat.le_of_ble_eq_true rfl) ?_
  refine Es_if_eq (hC _) 20 dX6_put_8 (by decide) (fun hb8 => False.elim ((by first | exact absurd hb8 (by decide) | exact absurd hb8 (by assumption) | exact hb8 (by assumption) | exact hb8 rfl | (simp_all [bI]; done)))) (fun hb8 => ?_)
  first | refine Es_aload_n (hC _) dX6_put_11 rfl ?_ | refine Es_aload_nN (hC _) dX6_put_11 rfl ?_
  refine Es_iload_n (hC _) dX6_put_12 rfl ?_
  refine Es_iload_n (hC _) dX6_put_13 rfl ?_
  refine Es_fV (hC _) mv_X6_121 dX6_put_14 (r_isPlace_out1 hnw how) rfl rfl ⟨_, rfl, rfl⟩ rfl rfl (by decide) (Nat.le_of_ble_eq_true rfl) ?_
  refine Es_if_ne (hC _) 26 dX6_put_17 (by decide) (fun hb17 => False.elim ((by first | exact absurd hb17 (by decide) | exact absurd hb17 (by assumption) | exact hb17 (by assumption) | exact hb17 rfl | (simp_all [bI]; done)))) (fun hb17 => ?_)
  first | refine Es_aload_n (hC _) dX6_put_20 rfl ?_ | refine Es_aload_nN (hC _) dX6_put_20 rfl ?_
  refine Es_iconst (v := -1) (hC _) dX6_put_21 (by decide) ?_
  refine Es_fV (hC _) mv_X6_93 dX6_put_22 (r_refuse (k := 1) (by decide) (by decide)) rfl rfl ⟨_, rfl, rfl⟩ rfl rfl (by decide) (Nat.le_of_ble_eq_true rfl) ?_
  exact Es_iret dX6_put_25 rfl ⟨rfl, rfl, rfl⟩

set_option maxRecDepth 100000 in
set_option maxHeartbeats 4000000 in
theorem r_put_1c {ad : sA} {nw nt : Nat} {B : sB} {L : sL} (hnt : B 25 0 5 = nI nt) (h40 : nt ≤ 40) (hnw : B 25 0 4 = nI nw) (h5 : nw ≤ 5) {t : Nat} (ht : t < nt) {w : Nat} (hw : w < nw) {p : Nat} {z : Int32} (hp : B 38 0 w = nI p) (h7 : p ≤ 7) (hoz : out z p)  : Cf yX6_put cX6_put 4 (some FieldType.int) 3 [.ref (ad 25 0), .int (nI t), .int (nI w), .int z] ad nw nt B L (some (.int (-1))) (uB B 30 0 1 (B 30 0 1 + 1)) (L) := by
  have hC : ∀ Q, je_Ok (sCm yX6_put cX6_put 4 (some FieldType.int) 3 ad nw nt Q) RX6 cX6_put 4 3 := fun _ => je_Cm_ok
  refine Cs_of [some (.ref (ad 25 0)), some (.int (nI t)), some (.int (nI w)), some (.int z)] (by decide) rfl (Nat.le_of_ble_eq_true rfl) ?_
  refine Es_iload_n (hC _) dX6_put_0 rfl ?_
  first | refine Es_aload_n (hC _) dX6_put_1 rfl ?_ | refine Es_aload_nN (hC _) dX6_put_1 rfl ?_
  refine Sg_X6_5 (hC _) fl_X6_107 dX6_put_2 ?_
  rw [hnt]
  refine Es_fS (hC _) ms_X6_89 dX6_put_5 (r_isIn_in ht (by omega)) rfl rfl (by decide) (Nat.le_of_ble_eq_true rfl) ?_
  refine Es_if_eq (hC _) 20 dX6_put_8 (by decide) (fun hb8 => False.elim ((by first | exact absurd hb8 (by decide) | exact absurd hb8 (by assumption) | exact hb8 (by assumption) | exact hb8 rfl | (simp_all [bI]; done)))) (fun hb8 => ?_)
  first | refine Es_aload_n (hC _) dX6_put_11 rfl ?_ | refine Es_aload_nN (hC _) dX6_put_11 rfl ?_
  refine Es_iload_n (hC _) dX6_put_12 rfl ?_
  refine Es_iload_n (hC _) dX6_put_13 rfl ?_
  refine Es_fV (hC _) mv_X6_121 dX6_put_14 (r_isPlace_out2 hnw h5 hw hp hoz) rfl rfl ⟨_, rfl, rfl⟩ rfl rfl (by decide) (Nat.le_of_ble_eq_true rfl) ?_
  refine Es_if_ne (hC _) 26 dX6_put_17 (by decide) (fun hb17 => False.elim ((by first | exact absurd hb17 (by decide) | exact absurd hb17 (by assumption) | exact hb17 (by assumption) | exact hb17 rfl | (simp_all [bI]; done)))) (fun hb17 => ?_)
  first | refine Es_aload_n (hC _) dX6_put_20 rfl ?_ | refine Es_aload_nN (hC _) dX6_put_20 rfl ?_
  refine Es_iconst (v := -1) (hC _) dX6_put_21 (by decide) ?_
  refine Es_fV (hC _) mv_X6_93 dX6_put_22 (r_refuse (k := 1) (by decide) (by decide)) rfl rfl ⟨_, rfl, rfl⟩ rfl rfl (by decide) (Nat.le_of_ble_eq_true rfl) ?_
  exact Es_iret dX6_put_25 rfl ⟨rfl, rfl, rfl⟩

set_option maxRecDepth 100000 in
set_option maxHeartbeats 4000000 in
theorem r_put_2 {ad : sA} {nw nt : Nat} {B : sB} {L : sL} (hnt : B 25 0 5 = nI nt) (h40 : nt ≤ 40) (hnw : B 25 0 4 = nI nw) (h5 : nw ≤ 5) {t : Nat} (ht : t < nt) {w : Nat} (hw : w < nw) {p q : Nat} (hp : B 38 0 w = nI p) (h7 : p ≤ 7) (hq : q < p) (hwh : ¬ B 47 0 t = -1) : Cf yX6_put cX6_put 4 (some FieldType.int) 3 [.ref (ad 25 0), .int (nI t), .int (nI w), .int (nI q)] ad nw nt B L (some (.int (-2))) (uB B 30 0 2 (B 30 0 2 + 1)) (L) := by
  have hC : ∀ Q, je_Ok (sCm yX6_put cX6_put 4 (some FieldType.int) 3 ad nw nt Q) RX6 cX6_put 4 3 := fun _ => je_Cm_ok
  refine Cs_of [some (.ref (ad 25 0)), some (.int (nI t)), some (.int (nI w)), some (.int (nI q))] (by decide) rfl (Nat.le_of_ble_eq_true rfl) ?_
  refine Es_iload_n (hC _) dX6_put_0 rfl ?_
  first | refine Es_aload_n (hC _) dX6_put_1 rfl ?_ | refine Es_aload_nN (hC _) dX6_put_1 rfl ?_
  refine Sg_X6_5 (hC _) fl_X6_107 dX6_put_2 ?_
  rw [hnt]
  refine Es_fS (hC _) ms_X6_89 dX6_put_5 (r_isIn_in ht (by omega)) rfl rfl (by decide) (Nat.le_of_ble_eq_true rfl) ?_
  refine Es_if_eq (hC _) 20 dX6_put_8 (by decide) (fun hb8 => False.elim ((by first | exact absurd hb8 (by decide) | exact absurd hb8 (by assumption) | exact hb8 (by assumption) | exact hb8 rfl | (simp_all [bI]; done)))) (fun hb8 => ?_)
  first | refine Es_aload_n (hC _) dX6_put_11 rfl ?_ | refine Es_aload_nN (hC _) dX6_put_11 rfl ?_
  refine Es_iload_n (hC _) dX6_put_12 rfl ?_
  refine Es_iload_n (hC _) dX6_put_13 rfl ?_
  refine Es_fV (hC _) mv_X6_121 dX6_put_14 (r_isPlace_in hnw h5 hw hp h7 hq) rfl rfl ⟨_, rfl, rfl⟩ rfl rfl (by decide) (Nat.le_of_ble_eq_true rfl) ?_
  refine Es_if_ne (hC _) 26 dX6_put_17 (by decide) (fun hb17 => ?_) (fun hb17 => False.elim ((by first | exact absurd hb17 (by decide) | exact absurd hb17 (by assumption) | exact hb17 (by assumption) | exact hb17 rfl | (simp_all [bI]; done))))
  first | refine Es_aload_n (hC _) dX6_put_26 rfl ?_ | refine Es_aload_nN (hC _) dX6_put_26 rfl ?_
  refine Sg_X6_17 (hC _) fl_X6_50 dX6_put_27 ?_
  refine Es_iload_n (hC _) dX6_put_30 rfl ?_
  refine Es_ialdN (hC _) dX6_put_31 rfl rfl rfl (by omega) (by decide) ?_
  refine Es_iconst (v := -1) (hC _) dX6_put_32 (by decide) ?_
  refine Es_icmp_ne (hC _) 49 dX6_put_33 (by decide) (fun hb33 => ?_) (fun hb33 => False.elim ((by first | exact absurd hb33 (by decide) | exact absurd hb33 (by assumption) | exact hb33 (by assumption) | exact hb33 rfl | (simp_all [bI]; done))))
  first | refine Es_aload_n (hC _) dX6_put_49 rfl ?_ | refine Es_aload_nN (hC _) dX6_put_49 rfl ?_
  refine Es_bipush (v := -2) (hC _) dX6_put_50 (by decide) ?_
  refine Es_fV (hC _) mv_X6_93 dX6_put_52 (r_refuse (k := 2) (by decide) (by decide)) rfl rfl ⟨_, rfl, rfl⟩ rfl rfl (by decide) (Nat.le_of_ble_eq_true rfl) ?_
  exact Es_iret dX6_put_55 rfl ⟨rfl, rfl, rfl⟩

set_option maxRecDepth 100000 in
set_option maxHeartbeats 4000000 in
theorem r_put_3 {ad : sA} {nw nt : Nat} {B : sB} {L : sL} (hnt : B 25 0 5 = nI nt) (h40 : nt ≤ 40) (hnw : B 25 0 4 = nI nw) (h5 : nw ≤ 5) {t : Nat} (ht : t < nt) {w : Nat} (hw : w < nw) {p q : Nat} (hp : B 38 0 w = nI p) (h7 : p ≤ 7) (hq : q < p) {a : Nat} (hwh : B 47 0 t = -1) (hon : B 40 0 (7 * w + q) = nI a) (ha : a < 2 ^ 31) : Cf yX6_put cX6_put 4 (some FieldType.int) 3 [.ref (ad 25 0), .int (nI t), .int (nI w), .int (nI q)] ad nw nt B L (some (.int (-2))) (uB B 30 0 2 (B 30 0 2 + 1)) (L) := by
  have hC : ∀ Q, je_Ok (sCm yX6_put cX6_put 4 (some FieldType.int) 3 ad nw nt Q) RX6 cX6_put 4 3 := fun _ => je_Cm_ok
  refine Cs_of [some (.ref (ad 25 0)), some (.int (nI t)), some (.int (nI w)), some (.int (nI q))] (by decide) rfl (Nat.le_of_ble_eq_true rfl) ?_
  refine Es_iload_n (hC _) dX6_put_0 rfl ?_
  first | refine Es_aload_n (hC _) dX6_put_1 rfl ?_ | refine Es_aload_nN (hC _) dX6_put_1 rfl ?_
  refine Sg_X6_5 (hC _) fl_X6_107 dX6_put_2 ?_
  rw [hnt]
  refine Es_fS (hC _) ms_X6_89 dX6_put_5 (r_isIn_in ht (by omega)) rfl rfl (by decide) (Nat.le_of_ble_eq_true rfl) ?_
  refine Es_if_eq (hC _) 20 dX6_put_8 (by decide) (fun hb8 => False.elim ((by first | exact absurd hb8 (by decide) | exact absurd hb8 (by assumption) | exact hb8 (by assumption) | exact hb8 rfl | (simp_all [bI]; done)))) (fun hb8 => ?_)
  first | refine Es_aload_n (hC _) dX6_put_11 rfl ?_ | refine Es_aload_nN (hC _) dX6_put_11 rfl ?_
  refine Es_iload_n (hC _) dX6_put_12 rfl ?_
  refine Es_iload_n (hC _) dX6_put_13 rfl ?_
  refine Es_fV (hC _) mv_X6_121 dX6_put_14 (r_isPlace_in hnw h5 hw hp h7 hq) rfl rfl ⟨_, rfl, rfl⟩ rfl rfl (by decide) (Nat.le_of_ble_eq_true rfl) ?_
  refine Es_if_ne (hC _) 26 dX6_put_17 (by decide) (fun hb17 => ?_) (fun hb17 => False.elim ((by first | exact absurd hb17 (by decide) | exact absurd hb17 (by assumption) | exact hb17 (by assumption) | exact hb17 rfl | (simp_all [bI]; done))))
  first | refine Es_aload_n (hC _) dX6_put_26 rfl ?_ | refine Es_aload_nN (hC _) dX6_put_26 rfl ?_
  refine Sg_X6_17 (hC _) fl_X6_50 dX6_put_27 ?_
  refine Es_iload_n (hC _) dX6_put_30 rfl ?_
  refine Es_ialdN (hC _) dX6_put_31 rfl rfl rfl (by omega) (by decide) ?_
  refine Es_iconst (v := -1) (hC _) dX6_put_32 (by decide) ?_
  refine Es_icmp_ne (hC _) 49 dX6_put_33 (by decide) (fun hb33 => False.elim ((by first | exact absurd hb33 (by decide) | exact absurd hb33 (by assumption) | exact hb33 (by assumption) | exact hb33 rfl | (simp_all [bI]; done)))) (fun hb33 => ?_)
  first | refine Es_aload_n (hC _) dX6_put_36 rfl ?_ | refine Es_aload_nN (hC _) dX6_put_36 rfl ?_
  refine Sg_X6_10 (hC _) fl_X6_29 dX6_put_37 ?_
  refine Es_iload_n (hC _) dX6_put_40 rfl ?_
  refine Es_iload_n (hC _) dX6_put_41 rfl ?_
  refine Es_fS (hC _) ms_X6_97 dX6_put_42 r_spot rfl rfl (by decide) (Nat.le_of_ble_eq_true rfl) ?_
  refine Es_ialdN (hC _) dX6_put_45 rfl rfl rfl (by omega) (by decide) ?_
  refine Es_if_lt (hC _) 56 dX6_put_46 (by decide) (fun hb46 => False.elim (nI_pos ha (by rw [← hon]; exact hb46))) (fun hb46 => ?_)
  first | refine Es_aload_n (hC _) dX6_put_49 rfl ?_ | refine Es_aload_nN (hC _) dX6_put_49 rfl ?_
  refine Es_bipush (v := -2) (hC _) dX6_put_50 (by decide) ?_
  refine Es_fV (hC _) mv_X6_93 dX6_put_52 (r_refuse (k := 2) (by decide) (by decide)) rfl rfl ⟨_, rfl, rfl⟩ rfl rfl (by decide) (Nat.le_of_ble_eq_true rfl) ?_
  exact Es_iret dX6_put_55 rfl ⟨rfl, rfl, rfl⟩

set_option maxRecDepth 100000 in
set_option maxHeartbeats 4000000 in
theorem r_put_4 {ad : sA} {nw nt : Nat} {B : sB} {L : sL} (hnt : B 25 0 5 = nI nt) (h40 : nt ≤ 40) (hnw : B 25 0 4 = nI nw) (h5 : nw ≤ 5) {t : Nat} (ht : t < nt) {w : Nat} (hw : w < nw) {p q : Nat} (hp : B 38 0 w = nI p) (h7 : p ≤ 7) (hq : q < p) (hwh : B 47 0 t = -1) (hon : B 40 0 (7 * w + q) = -1) (hk : B 25 0 7 = nI 600) : Cf yX6_put cX6_put 4 (some FieldType.int) 3 [.ref (ad 25 0), .int (nI t), .int (nI w), .int (nI q)] ad nw nt B L (some (.int (-6))) (uB B 30 0 6 (B 30 0 6 + 1)) (L) := by
  have hC : ∀ Q, je_Ok (sCm yX6_put cX6_put 4 (some FieldType.int) 3 ad nw nt Q) RX6 cX6_put 4 3 := fun _ => je_Cm_ok
  refine Cs_of [some (.ref (ad 25 0)), some (.int (nI t)), some (.int (nI w)), some (.int (nI q))] (by decide) rfl (Nat.le_of_ble_eq_true rfl) ?_
  refine Es_iload_n (hC _) dX6_put_0 rfl ?_
  first | refine Es_aload_n (hC _) dX6_put_1 rfl ?_ | refine Es_aload_nN (hC _) dX6_put_1 rfl ?_
  refine Sg_X6_5 (hC _) fl_X6_107 dX6_put_2 ?_
  rw [hnt]
  refine Es_fS (hC _) ms_X6_89 dX6_put_5 (r_isIn_in ht (by omega)) rfl rfl (by decide) (Nat.le_of_ble_eq_true rfl) ?_
  refine Es_if_eq (hC _) 20 dX6_put_8 (by decide) (fun hb8 => False.elim ((by first | exact absurd hb8 (by decide) | exact absurd hb8 (by assumption) | exact hb8 (by assumption) | exact hb8 rfl | (simp_all [bI]; done)))) (fun hb8 => ?_)
  first | refine Es_aload_n (hC _) dX6_put_11 rfl ?_ | refine Es_aload_nN (hC _) dX6_put_11 rfl ?_
  refine Es_iload_n (hC _) dX6_put_12 rfl ?_
  refine Es_iload_n (hC _) dX6_put_13 rfl ?_
  refine Es_fV (hC _) mv_X6_121 dX6_put_14 (r_isPlace_in hnw h5 hw hp h7 hq) rfl rfl ⟨_, rfl, rfl⟩ rfl rfl (by decide) (Nat.le_of_ble_eq_true rfl) ?_
  refine Es_if_ne (hC _) 26 dX6_put_17 (by decide) (fun hb17 => ?_) (fun hb17 => False.elim ((by first | exact absurd hb17 (by decide) | exact absurd hb17 (by assumption) | exact hb17 (by assumption) | exact hb17 rfl | (simp_all [bI]; done))))
  first | refine Es_aload_n (hC _) dX6_put_26 rfl ?_ | refine Es_aload_nN (hC _) dX6_put_26 rfl ?_
  refine Sg_X6_17 (hC _) fl_X6_50 dX6_put_27 ?_
  refine Es_iload_n (hC _) dX6_put_30 rfl ?_
  refine Es_ialdN (hC _) dX6_put_31 rfl rfl rfl (by omega) (by decide) ?_
  refine Es_iconst (v := -1) (hC _) dX6_put_32 (by decide) ?_
  refine Es_icmp_ne (hC _) 49 dX6_put_33 (by decide) (fun hb33 => False.elim ((by first | exact absurd hb33 (by decide) | exact absurd hb33 (by assumption) | exact hb33 (by assumption) | exact hb33 rfl | (simp_all [bI]; done)))) (fun hb33 => ?_)
  first | refine Es_aload_n (hC _) dX6_put_36 rfl ?_ | refine Es_aload_nN (hC _) dX6_put_36 rfl ?_
  refine Sg_X6_10 (hC _) fl_X6_29 dX6_put_37 ?_
  refine Es_iload_n (hC _) dX6_put_40 rfl ?_
  refine Es_iload_n (hC _) dX6_put_41 rfl ?_
  refine Es_fS (hC _) ms_X6_97 dX6_put_42 r_spot rfl rfl (by decide) (Nat.le_of_ble_eq_true rfl) ?_
  refine Es_ialdN (hC _) dX6_put_45 rfl rfl rfl (by omega) (by decide) ?_
  refine Es_if_lt (hC _) 56 dX6_put_46 (by decide) (fun hb46 => ?_) (fun hb46 => False.elim (hb46 (by rw [hon]; decide)))
  first | refine Es_aload_n (hC _) dX6_put_56 rfl ?_ | refine Es_aload_nN (hC _) dX6_put_56 rfl ?_
  refine Es_iconst (v := 1) (hC _) dX6_put_57 (by decide) ?_
  refine Es_fV (hC _) mv_X6_110 dX6_put_58 (r_hasRoom (m := 1) hk (by decide) (by decide)) rfl rfl ⟨_, rfl, rfl⟩ rfl rfl (by decide) (Nat.le_of_ble_eq_true rfl) ?_
  refine Es_if_ne (hC _) 71 dX6_put_61 (by decide) (fun hb61 => False.elim ((by first | exact absurd hb61 (by decide) | exact absurd hb61 (by assumption) | exact hb61 (by assumption) | exact hb61 rfl | (simp_all [bI]; done)))) (fun hb61 => ?_)
  first | refine Es_aload_n (hC _) dX6_put_64 rfl ?_ | refine Es_aload_nN (hC _) dX6_put_64 rfl ?_
  refine Es_bipush (v := -6) (hC _) dX6_put_65 (by decide) ?_
  refine Es_fV (hC _) mv_X6_93 dX6_put_67 (r_refuse (k := 6) (by decide) (by decide)) rfl rfl ⟨_, rfl, rfl⟩ rfl rfl (by decide) (Nat.le_of_ble_eq_true rfl) ?_
  exact Es_iret dX6_put_70 rfl ⟨rfl, rfl, rfl⟩

set_option maxRecDepth 100000 in
set_option maxHeartbeats 4000000 in
theorem r_put_5 {ad : sA} {nw nt : Nat} {B : sB} {L : sL} (hnt : B 25 0 5 = nI nt) (h40 : nt ≤ 40) (hnw : B 25 0 4 = nI nw) (h5 : nw ≤ 5) {t : Nat} (ht : t < nt) {w : Nat} (hw : w < nw) {p q : Nat} (hp : B 38 0 w = nI p) (h7 : p ≤ 7) (hq : q < p) {k : Nat} (hwh : B 47 0 t = -1) (hon : B 40 0 (7 * w + q) = -1) (hk : B 25 0 7 = nI k) (h6 : k < 600) : Cf yX6_put cX6_put 4 (some FieldType.int) 3 [.ref (ad 25 0), .int (nI t), .int (nI w), .int (nI q)] ad nw nt B L (some (.int 1)) (rLog (uB (uB B 40 0 (7 * w + q) (nI t)) 47 0 t (nI (10 * w + q))) k t) (L) := by
  have hC : ∀ Q, je_Ok (sCm yX6_put cX6_put 4 (some FieldType.int) 3 ad nw nt Q) RX6 cX6_put 4 3 := fun _ => je_Cm_ok
  refine Cs_of [some (.ref (ad 25 0)), some (.int (nI t)), some (.int (nI w)), some (.int (nI q))] (by decide) rfl (Nat.le_of_ble_eq_true rfl) ?_
  refine Es_iload_n (hC _) dX6_put_0 rfl ?_
  first | refine Es_aload_n (hC _) dX6_put_1 rfl ?_ | refine Es_aload_nN (hC _) dX6_put_1 rfl ?_
  refine Sg_X6_5 (hC _) fl_X6_107 dX6_put_2 ?_
  rw [hnt]
  refine Es_fS (hC _) ms_X6_89 dX6_put_5 (r_isIn_in ht (by omega)) rfl rfl (by decide) (Nat.le_of_ble_eq_true rfl) ?_
  refine Es_if_eq (hC _) 20 dX6_put_8 (by decide) (fun hb8 => False.elim ((by first | exact absurd hb8 (by decide) | exact absurd hb8 (by assumption) | exact hb8 (by assumption) | exact hb8 rfl | (simp_all [bI]; done)))) (fun hb8 => ?_)
  first | refine Es_aload_n (hC _) dX6_put_11 rfl ?_ | refine Es_aload_nN (hC _) dX6_put_11 rfl ?_
  refine Es_iload_n (hC _) dX6_put_12 rfl ?_
  refine Es_iload_n (hC _) dX6_put_13 rfl ?_
  refine Es_fV (hC _) mv_X6_121 dX6_put_14 (r_isPlace_in hnw h5 hw hp h7 hq) rfl rfl ⟨_, rfl, rfl⟩ rfl rfl (by decide) (Nat.le_of_ble_eq_true rfl) ?_
  refine Es_if_ne (hC _) 26 dX6_put_17 (by decide) (fun hb17 => ?_) (fun hb17 => False.elim ((by first | exact absurd hb17 (by decide) | exact absurd hb17 (by assumption) | exact hb17 (by assumption) | exact hb17 rfl | (simp_all [bI]; done))))
  first | refine Es_aload_n (hC _) dX6_put_26 rfl ?_ | refine Es_aload_nN (hC _) dX6_put_26 rfl ?_
  refine Sg_X6_17 (hC _) fl_X6_50 dX6_put_27 ?_
  refine Es_iload_n (hC _) dX6_put_30 rfl ?_
  refine Es_ialdN (hC _) dX6_put_31 rfl rfl rfl (by omega) (by decide) ?_
  refine Es_iconst (v := -1) (hC _) dX6_put_32 (by decide) ?_
  refine Es_icmp_ne (hC _) 49 dX6_put_33 (by decide) (fun hb33 => False.elim ((by first | exact absurd hb33 (by decide) | exact absurd hb33 (by assumption) | exact hb33 (by assumption) | exact hb33 rfl | (simp_all [bI]; done)))) (fun hb33 => ?_)
  first | refine Es_aload_n (hC _) dX6_put_36 rfl ?_ | refine Es_aload_nN (hC _) dX6_put_36 rfl ?_
  refine Sg_X6_10 (hC _) fl_X6_29 dX6_put_37 ?_
  refine Es_iload_n (hC _) dX6_put_40 rfl ?_
  refine Es_iload_n (hC _) dX6_put_41 rfl ?_
  refine Es_fS (hC _) ms_X6_97 dX6_put_42 r_spot rfl rfl (by decide) (Nat.le_of_ble_eq_true rfl) ?_
  refine Es_ialdN (hC _) dX6_put_45 rfl rfl rfl (by omega) (by decide) ?_
  refine Es_if_lt (hC _) 56 dX6_put_46 (by decide) (fun hb46 => ?_) (fun hb46 => False.elim (hb46 (by rw [hon]; decide)))
  first | refine Es_aload_n (hC _) dX6_put_56 rfl ?_ | refine Es_aload_nN (hC _) dX6_put_56 rfl ?_
  refine Es_iconst (v := 1) (hC _) dX6_put_57 (by decide) ?_
  refine Es_fV (hC _) mv_X6_110 dX6_put_58 (r_hasRoom (m := 1) hk (by omega) (by decide)) rfl rfl ⟨_, rfl, rfl⟩ rfl rfl (by decide) (Nat.le_of_ble_eq_true rfl) ?_
  refine Es_if_ne (hC _) 71 dX6_put_61 (by decide) (fun hb61 => ?_) (fun hb61 => False.elim (absurd hb61 (by rw [bI, if_pos (by omega)]; decide)))
  first | refine Es_aload_n (hC _) dX6_put_71 rfl ?_ | refine Es_aload_nN (hC _) dX6_put_71 rfl ?_
  refine Sg_X6_10 (hC _) fl_X6_29 dX6_put_72 ?_
  refine Es_iload_n (hC _) dX6_put_75 rfl ?_
  refine Es_iload_n (hC _) dX6_put_76 rfl ?_
  refine Es_fS (hC _) ms_X6_97 dX6_put_77 r_spot rfl rfl (by decide) (Nat.le_of_ble_eq_true rfl) ?_
  refine Es_iload_n (hC _) dX6_put_80 rfl ?_
  refine Es_iastN (hC _) dX6_put_81 rfl (fun _ => rfl) rfl (by omega) (by decide) ?_
  first | refine Es_aload_n (hC _) dX6_put_82 rfl ?_ | refine Es_aload_nN (hC _) dX6_put_82 rfl ?_
  refine Es_iload_n (hC _) dX6_put_83 rfl ?_
  refine Es_bipush (v := 10) (hC _) dX6_put_84 (by decide) ?_
  refine Es_iload_n (hC _) dX6_put_86 rfl ?_
  refine Es_imul (hC _) dX6_put_87 ?_
  refine Es_iload_n (hC _) dX6_put_88 rfl ?_
  refine Es_iadd (hC _) dX6_put_89 ?_
  rw [show (10 : Int32) = nI 10 from rfl, pk_mul, nI_add]
  refine Es_fV (hC _) mv_X6_124 dX6_put_90 (r_lays (by omega) (by rw [uB_n (by omega)]; exact hk) h6) rfl rfl ⟨_, rfl, rfl⟩ rfl rfl (by decide) (Nat.le_of_ble_eq_true rfl) ?_
  refine Es_iconst (v := 1) (hC _) dX6_put_93 (by decide) ?_
  exact Es_iret dX6_put_94 rfl ⟨rfl, rfl, rfl⟩

set_option maxRecDepth 100000 in
set_option maxHeartbeats 4000000 in
theorem c_take_1a {ad : sA} {nw nt : Nat} {B : sB} {L : sL} (hnw : B 0 0 8 = nI nw) (h5 : nw ≤ 5) {y : Int32} (how : out y nw) {z : Int32} : Cf yX5_take cX5_take 5 (some FieldType.int) 5 [.ref (ad 0 0), .int y, .int z] ad nw nt B L (some (.int (-1))) (uB B 5 0 1 (B 5 0 1 + 1)) (L) := by
  have hC : ∀ Q, je_Ok (sCm yX5_take cX5_take 5 (some FieldType.int) 5 ad nw nt Q) RX5 cX5_take 5 5 := fun _ => je_Cm_ok
  refine Cs_of [some (.ref (ad 0 0)), some (.int y), some (.int z), none, none] (by decide) rfl (Nat.le_of_ble_eq_true rfl) ?_
  first | refine Es_aload_n (hC _) dX5_take_0 rfl ?_ | refine Es_aload_nN (hC _) dX5_take_0 rfl ?_
  refine Es_iload_n (hC _) dX5_take_1 rfl ?_
  refine Es_fV (hC _) mv_X5_77 dX5_take_2 (c_wagonAt_out hnw how) rfl rfl ⟨_, rfl, rfl⟩ rfl rfl (by decide) (Nat.le_of_ble_eq_true rfl) ?_
  first | refine Es_astore_n (lv' := [_, _, _, _, _]) (hC _) dX5_take_5 (by decide) rfl rfl ?_ | refine Es_astore_nN (lv' := [_, _, _, _, _]) (hC _) dX5_take_5 (by decide) rfl rfl ?_
  first | refine Es_aload_n (hC _) dX5_take_6 rfl ?_ | refine Es_aload_nN (hC _) dX5_take_6 rfl ?_
  refine Es_ifnullN (hC _) 18 dX5_take_7 (by decide) ?_
  first | refine Es_aload_n (hC _) dX5_take_18 rfl ?_ | refine Es_aload_nN (hC _) dX5_take_18 rfl ?_
  refine Es_iconst (v := -1) (hC _) dX5_take_19 (by decide) ?_
  refine Es_fV (hC _) mv_X5_70 dX5_take_20 (c_refuse (k := 1) (by decide) (by decide)) rfl rfl ⟨_, rfl, rfl⟩ rfl rfl (by decide) (Nat.le_of_ble_eq_true rfl) ?_
  exact Es_iret dX5_take_23 rfl ⟨rfl, rfl, rfl⟩

set_option maxRecDepth 100000 in
set_option maxHeartbeats 4000000 in
theorem c_take_1b {ad : sA} {nw nt : Nat} {B : sB} {L : sL} (hnw : B 0 0 8 = nI nw) (h5 : nw ≤ 5) {w : Nat} (hw : w < nw) {p : Nat} {z : Int32} (hp : B 18 w 3 = nI p) (h7 : p ≤ 7) (hoz : out z p)  : Cf yX5_take cX5_take 5 (some FieldType.int) 5 [.ref (ad 0 0), .int (nI w), .int z] ad nw nt B L (some (.int (-1))) (uB B 5 0 1 (B 5 0 1 + 1)) (L) := by
  have hC : ∀ Q, je_Ok (sCm yX5_take cX5_take 5 (some FieldType.int) 5 ad nw nt Q) RX5 cX5_take 5 5 := fun _ => je_Cm_ok
  refine Cs_of [some (.ref (ad 0 0)), some (.int (nI w)), some (.int z), none, none] (by decide) rfl (Nat.le_of_ble_eq_true rfl) ?_
  first | refine Es_aload_n (hC _) dX5_take_0 rfl ?_ | refine Es_aload_nN (hC _) dX5_take_0 rfl ?_
  refine Es_iload_n (hC _) dX5_take_1 rfl ?_
  refine Es_fV (hC _) mv_X5_77 dX5_take_2 (c_wagonAt_in hnw h5 hw) rfl rfl ⟨_, rfl, rfl⟩ rfl rfl (by decide) (Nat.le_of_ble_eq_true rfl) ?_
  first | refine Es_astore_n (lv' := [_, _, _, _, _]) (hC _) dX5_take_5 (by decide) rfl rfl ?_ | refine Es_astore_nN (lv' := [_, _, _, _, _]) (hC _) dX5_take_5 (by decide) rfl rfl ?_
  first | refine Es_aload_n (hC _) dX5_take_6 rfl ?_ | refine Es_aload_nN (hC _) dX5_take_6 rfl ?_
  refine Es_ifnull (hC _) dX5_take_7 ?_
  first | refine Es_aload_n (hC _) dX5_take_10 rfl ?_ | refine Es_aload_nN (hC _) dX5_take_10 rfl ?_
  refine Es_iload_n (hC _) dX5_take_11 rfl ?_
  refine Es_fV (hC _) mv_X5_136 dX5_take_12 (c_hasPlace_out hw hp h7 hoz) (ok18 hw) rfl ⟨_, rfl, rfl⟩ rfl rfl (by decide) (Nat.le_of_ble_eq_true rfl) ?_
  refine Es_if_ne (hC _) 24 dX5_take_15 (by decide) (fun hb15 => False.elim ((by first | exact absurd hb15 (by decide) | exact absurd hb15 (by assumption) | exact hb15 (by assumption) | exact hb15 rfl | (simp_all [bI]; done)))) (fun hb15 => ?_)
  first | refine Es_aload_n (hC _) dX5_take_18 rfl ?_ | refine Es_aload_nN (hC _) dX5_take_18 rfl ?_
  refine Es_iconst (v := -1) (hC _) dX5_take_19 (by decide) ?_
  refine Es_fV (hC _) mv_X5_70 dX5_take_20 (c_refuse (k := 1) (by decide) (by decide)) rfl rfl ⟨_, rfl, rfl⟩ rfl rfl (by decide) (Nat.le_of_ble_eq_true rfl) ?_
  exact Es_iret dX5_take_23 rfl ⟨rfl, rfl, rfl⟩

set_option maxRecDepth 100000 in
set_option maxHeartbeats 4000000 in
theorem c_take_2 {ad : sA} {nw nt : Nat} {B : sB} {L : sL} (hnw : B 0 0 8 = nI nw) (h5 : nw ≤ 5) {w : Nat} (hw : w < nw) {p q : Nat} (hp : B 18 w 3 = nI p) (h7 : p ≤ 7) (hq : q < p) (hon : B 20 w q = -1) : Cf yX5_take cX5_take 5 (some FieldType.int) 5 [.ref (ad 0 0), .int (nI w), .int (nI q)] ad nw nt B L (some (.int (-2))) (uB B 5 0 2 (B 5 0 2 + 1)) (L) := by
  have hC : ∀ Q, je_Ok (sCm yX5_take cX5_take 5 (some FieldType.int) 5 ad nw nt Q) RX5 cX5_take 5 5 := fun _ => je_Cm_ok
  refine Cs_of [some (.ref (ad 0 0)), some (.int (nI w)), some (.int (nI q)), none, none] (by decide) rfl (Nat.le_of_ble_eq_true rfl) ?_
  first | refine Es_aload_n (hC _) dX5_take_0 rfl ?_ | refine Es_aload_nN (hC _) dX5_take_0 rfl ?_
  refine Es_iload_n (hC _) dX5_take_1 rfl ?_
  refine Es_fV (hC _) mv_X5_77 dX5_take_2 (c_wagonAt_in hnw h5 hw) rfl rfl ⟨_, rfl, rfl⟩ rfl rfl (by decide) (Nat.le_of_ble_eq_true rfl) ?_
  first | refine Es_astore_n (lv' := [_, _, _, _, _]) (hC _) dX5_take_5 (by decide) rfl rfl ?_ | refine Es_astore_nN (lv' := [_, _, _, _, _]) (hC _) dX5_take_5 (by decide) rfl rfl ?_
  first | refine Es_aload_n (hC _) dX5_take_6 rfl ?_ | refine Es_aload_nN (hC _) dX5_take_6 rfl ?_
  refine Es_ifnull (hC _) dX5_take_7 ?_
  first | refine Es_aload_n (hC _) dX5_take_10 rfl ?_ | refine Es_aload_nN (hC _) dX5_take_10 rfl ?_
  refine Es_iload_n (hC _) dX5_take_11 rfl ?_
  refine Es_fV (hC _) mv_X5_136 dX5_take_12 (c_hasPlace_in hw hp h7 hq) (ok18 hw) rfl ⟨_, rfl, rfl⟩ rfl rfl (by decide) (Nat.le_of_ble_eq_true rfl) ?_
  refine Es_if_ne (hC _) 24 dX5_take_15 (by decide) (fun hb15 => ?_) (fun hb15 => False.elim ((by first | exact absurd hb15 (by decide) | exact absurd hb15 (by assumption) | exact hb15 (by assumption) | exact hb15 rfl | (simp_all [bI]; done))))
  first | refine Es_aload_n (hC _) dX5_take_24 rfl ?_ | refine Es_aload_nN (hC _) dX5_take_24 rfl ?_
  refine Es_iload_n (hC _) dX5_take_25 rfl ?_
  refine Es_fV (hC _) mv_X5_142 dX5_take_26 (c_tyreOn_in hw hp h7 hq) (ok18 hw) rfl ⟨_, rfl, rfl⟩ rfl rfl (by decide) (Nat.le_of_ble_eq_true rfl) ?_
  rw [show rT ad (B 20 w q) = none by rw [hon]; rfl]
  first | refine Es_astore (lv' := [_, _, _, _, _]) (hC _) dX5_take_29 (by decide) rfl rfl ?_ | refine Es_astoreN (lv' := [_, _, _, _, _]) (hC _) dX5_take_29 (by decide) rfl rfl ?_
  first | refine Es_aload (hC _) dX5_take_31 rfl ?_ | refine Es_aloadN (hC _) dX5_take_31 rfl ?_
  refine Es_ifnonnullN (hC _) dX5_take_33 ?_
  first | refine Es_aload_n (hC _) dX5_take_36 rfl ?_ | refine Es_aload_nN (hC _) dX5_take_36 rfl ?_
  refine Es_bipush (v := -2) (hC _) dX5_take_37 (by decide) ?_
  refine Es_fV (hC _) mv_X5_70 dX5_take_39 (c_refuse (k := 2) (by decide) (by decide)) rfl rfl ⟨_, rfl, rfl⟩ rfl rfl (by decide) (Nat.le_of_ble_eq_true rfl) ?_
  exact Es_iret dX5_take_42 rfl ⟨rfl, rfl, rfl⟩

set_option maxRecDepth 100000 in
set_option maxHeartbeats 4000000 in
theorem c_take_3 {ad : sA} {nw nt : Nat} {B : sB} {L : sL} (hnw : B 0 0 8 = nI nw) (h5 : nw ≤ 5) (h40 : nt ≤ 40) {w : Nat} (hw : w < nw) {p q : Nat} (hp : B 18 w 3 = nI p) (h7 : p ≤ 7) (hq : q < p) {t : Nat} (ht : t < nt) (hon : B 20 w q = nI t) (hk : B 6 0 3 = nI 600) : Cf yX5_take cX5_take 5 (some FieldType.int) 5 [.ref (ad 0 0), .int (nI w), .int (nI q)] ad nw nt B L (some (.int (-6))) (uB B 5 0 6 (B 5 0 6 + 1)) (L) := by
  have hC : ∀ Q, je_Ok (sCm yX5_take cX5_take 5 (some FieldType.int) 5 ad nw nt Q) RX5 cX5_take 5 5 := fun _ => je_Cm_ok
  refine Cs_of [some (.ref (ad 0 0)), some (.int (nI w)), some (.int (nI q)), none, none] (by decide) rfl (Nat.le_of_ble_eq_true rfl) ?_
  first | refine Es_aload_n (hC _) dX5_take_0 rfl ?_ | refine Es_aload_nN (hC _) dX5_take_0 rfl ?_
  refine Es_iload_n (hC _) dX5_take_1 rfl ?_
  refine Es_fV (hC _) mv_X5_77 dX5_take_2 (c_wagonAt_in hnw h5 hw) rfl rfl ⟨_, rfl, rfl⟩ rfl rfl (by decide) (Nat.le_of_ble_eq_true rfl) ?_
  first | refine Es_astore_n (lv' := [_, _, _, _, _]) (hC _) dX5_take_5 (by decide) rfl rfl ?_ | refine Es_astore_nN (lv' := [_, _, _, _, _]) (hC _) dX5_take_5 (by decide) rfl rfl ?_
  first | refine Es_aload_n (hC _) dX5_take_6 rfl ?_ | refine Es_aload_nN (hC _) dX5_take_6 rfl ?_
  refine Es_ifnull (hC _) dX5_take_7 ?_
  first | refine Es_aload_n (hC _) dX5_take_10 rfl ?_ | refine Es_aload_nN (hC _) dX5_take_10 rfl ?_
  refine Es_iload_n (hC _) dX5_take_11 rfl ?_
  refine Es_fV (hC _) mv_X5_136 dX5_take_12 (c_hasPlace_in hw hp h7 hq) (ok18 hw) rfl ⟨_, rfl, rfl⟩ rfl rfl (by decide) (Nat.le_of_ble_eq_true rfl) ?_
  refine Es_if_ne (hC _) 24 dX5_take_15 (by decide) (fun hb15 => ?_) (fun hb15 => False.elim ((by first | exact absurd hb15 (by decide) | exact absurd hb15 (by assumption) | exact hb15 (by assumption) | exact hb15 rfl | (simp_all [bI]; done))))
  first | refine Es_aload_n (hC _) dX5_take_24 rfl ?_ | refine Es_aload_nN (hC _) dX5_take_24 rfl ?_
  refine Es_iload_n (hC _) dX5_take_25 rfl ?_
  refine Es_fV (hC _) mv_X5_142 dX5_take_26 (c_tyreOn_in hw hp h7 hq) (ok18 hw) rfl ⟨_, rfl, rfl⟩ rfl rfl (by decide) (Nat.le_of_ble_eq_true rfl) ?_
  rw [show rT ad (B 20 w q) = some (ad 21 t) by rw [hon, rT, if_neg (nI_pos (by omega)), nI_clamp (by omega)]]
  first | refine Es_astore (lv' := [_, _, _, _, _]) (hC _) dX5_take_29 (by decide) rfl rfl ?_ | refine Es_astoreN (lv' := [_, _, _, _, _]) (hC _) dX5_take_29 (by decide) rfl rfl ?_
  first | refine Es_aload (hC _) dX5_take_31 rfl ?_ | refine Es_aloadN (hC _) dX5_take_31 rfl ?_
  refine Es_ifnonnull (hC _) 43 dX5_take_33 (by decide) ?_
  first | refine Es_aload_n (hC _) dX5_take_43 rfl ?_ | refine Es_aload_nN (hC _) dX5_take_43 rfl ?_
  refine Sg_X5_5 (hC _) fl_X5_45 dX5_take_44 ?_
  refine Es_iconst (v := 1) (hC _) dX5_take_47 (by decide) ?_
  refine Es_fV (hC _) mv_X5_113 dX5_take_48 (c_hasRoomFor (m := 1) hk (by decide) (by decide)) rfl rfl ⟨_, rfl, rfl⟩ rfl rfl (by decide) (Nat.le_of_ble_eq_true rfl) ?_
  refine Es_if_ne (hC _) 61 dX5_take_51 (by decide) (fun hb51 => False.elim ((by first | exact absurd hb51 (by decide) | exact absurd hb51 (by assumption) | exact hb51 (by assumption) | exact hb51 rfl | (simp_all [bI]; done)))) (fun hb51 => ?_)
  first | refine Es_aload_n (hC _) dX5_take_54 rfl ?_ | refine Es_aload_nN (hC _) dX5_take_54 rfl ?_
  refine Es_bipush (v := -6) (hC _) dX5_take_55 (by decide) ?_
  refine Es_fV (hC _) mv_X5_70 dX5_take_57 (c_refuse (k := 6) (by decide) (by decide)) rfl rfl ⟨_, rfl, rfl⟩ rfl rfl (by decide) (Nat.le_of_ble_eq_true rfl) ?_
  exact Es_iret dX5_take_60 rfl ⟨rfl, rfl, rfl⟩

set_option maxRecDepth 100000 in
set_option maxHeartbeats 4000000 in
theorem c_take_4 {ad : sA} {nw nt : Nat} {B : sB} {L : sL} (hnw : B 0 0 8 = nI nw) (h5 : nw ≤ 5) (h40 : nt ≤ 40) {w : Nat} (hw : w < nw) {p q : Nat} (hp : B 18 w 3 = nI p) (h7 : p ≤ 7) (hq : q < p) {t : Nat} (ht : t < nt) {k : Nat} (hon : B 20 w q = nI t) (hk : B 6 0 3 = nI k) (h6 : k < 600) (hn : B 21 t 0 = nI t) : Cf yX5_take cX5_take 5 (some FieldType.int) 5 [.ref (ad 0 0), .int (nI w), .int (nI q)] ad nw nt B L (some (.int (nI t))) (cLog (uB (uB B 20 w q (-1)) 21 t 10 (-1)) k (B 0 0 11) (B 21 t 0) (-1)) (L) := by
  have hC : ∀ Q, je_Ok (sCm yX5_take cX5_take 5 (some FieldType.int) 5 ad nw nt Q) RX5 cX5_take 5 5 := fun _ => je_Cm_ok
  refine Cs_of [some (.ref (ad 0 0)), some (.int (nI w)), some (.int (nI q)), none, none] (by decide) rfl (Nat.le_of_ble_eq_true rfl) ?_
  first | refine Es_aload_n (hC _) dX5_take_0 rfl ?_ | refine Es_aload_nN (hC _) dX5_take_0 rfl ?_
  refine Es_iload_n (hC _) dX5_take_1 rfl ?_
  refine Es_fV (hC _) mv_X5_77 dX5_take_2 (c_wagonAt_in hnw h5 hw) rfl rfl ⟨_, rfl, rfl⟩ rfl rfl (by decide) (Nat.le_of_ble_eq_true rfl) ?_
  first | refine Es_astore_n (lv' := [_, _, _, _, _]) (hC _) dX5_take_5 (by decide) rfl rfl ?_ | refine Es_astore_nN (lv' := [_, _, _, _, _]) (hC _) dX5_take_5 (by decide) rfl rfl ?_
  first | refine Es_aload_n (hC _) dX5_take_6 rfl ?_ | refine Es_aload_nN (hC _) dX5_take_6 rfl ?_
  refine Es_ifnull (hC _) dX5_take_7 ?_
  first | refine Es_aload_n (hC _) dX5_take_10 rfl ?_ | refine Es_aload_nN (hC _) dX5_take_10 rfl ?_
  refine Es_iload_n (hC _) dX5_take_11 rfl ?_
  refine Es_fV (hC _) mv_X5_136 dX5_take_12 (c_hasPlace_in hw hp h7 hq) (ok18 hw) rfl ⟨_, rfl, rfl⟩ rfl rfl (by decide) (Nat.le_of_ble_eq_true rfl) ?_
  refine Es_if_ne (hC _) 24 dX5_take_15 (by decide) (fun hb15 => ?_) (fun hb15 => False.elim ((by first | exact absurd hb15 (by decide) | exact absurd hb15 (by assumption) | exact hb15 (by assumption) | exact hb15 rfl | (simp_all [bI]; done))))
  first | refine Es_aload_n (hC _) dX5_take_24 rfl ?_ | refine Es_aload_nN (hC _) dX5_take_24 rfl ?_
  refine Es_iload_n (hC _) dX5_take_25 rfl ?_
  refine Es_fV (hC _) mv_X5_142 dX5_take_26 (c_tyreOn_in hw hp h7 hq) (ok18 hw) rfl ⟨_, rfl, rfl⟩ rfl rfl (by decide) (Nat.le_of_ble_eq_true rfl) ?_
  rw [show rT ad (B 20 w q) = some (ad 21 t) by rw [hon, rT, if_neg (nI_pos (by omega)), nI_clamp (by omega)]]
  first | refine Es_astore (lv' := [_, _, _, _, _]) (hC _) dX5_take_29 (by decide) rfl rfl ?_ | refine Es_astoreN (lv' := [_, _, _, _, _]) (hC _) dX5_take_29 (by decide) rfl rfl ?_
  first | refine Es_aload (hC _) dX5_take_31 rfl ?_ | refine Es_aloadN (hC _) dX5_take_31 rfl ?_
  refine Es_ifnonnull (hC _) 43 dX5_take_33 (by decide) ?_
  first | refine Es_aload_n (hC _) dX5_take_43 rfl ?_ | refine Es_aload_nN (hC _) dX5_take_43 rfl ?_
  refine Sg_X5_5 (hC _) fl_X5_45 dX5_take_44 ?_
  refine Es_iconst (v := 1) (hC _) dX5_take_47 (by decide) ?_
  refine Es_fV (hC _) mv_X5_113 dX5_take_48 (c_hasRoomFor (m := 1) hk (by omega) (by decide)) rfl rfl ⟨_, rfl, rfl⟩ rfl rfl (by decide) (Nat.le_of_ble_eq_true rfl) ?_
  refine Es_if_ne (hC _) 61 dX5_take_51 (by decide) (fun hb51 => ?_) (fun hb51 => False.elim (absurd hb51 (by rw [bI, if_pos (by omega)]; decide)))
  first | refine Es_aload_n (hC _) dX5_take_61 rfl ?_ | refine Es_aload_nN (hC _) dX5_take_61 rfl ?_
  refine Es_iload_n (hC _) dX5_take_62 rfl ?_
  refine Es_null (hC _) dX5_take_63 ?_
  refine Es_fV (hC _) mv_X5_145 dX5_take_64 (c_lay_null hw hp h7 hq) (ok18 hw) rfl ⟨_, rfl, rfl⟩ rfl rfl (by decide) (Nat.le_of_ble_eq_true rfl) ?_
  first | refine Es_aload_n (hC _) dX5_take_67 rfl ?_ | refine Es_aload_nN (hC _) dX5_take_67 rfl ?_
  first | refine Es_aload (hC _) dX5_take_68 rfl ?_ | refine Es_aloadN (hC _) dX5_take_68 rfl ?_
  refine Es_iconst (v := -1) (hC _) dX5_take_70 (by decide) ?_
  refine Es_fV (hC _) mv_X5_128 dX5_take_71 (c_move ht (by rw [uB_n (by omega)]; exact hk) h6) rfl rfl ⟨_, rfl, rfl⟩ rfl rfl (by decide) (Nat.le_of_ble_eq_true rfl) ?_
  first | refine Es_aload (hC _) dX5_take_74 rfl ?_ | refine Es_aloadN (hC _) dX5_take_74 rfl ?_
  refine Sg_X2_0 (hC _) fl_X5_125 dX5_take_76 (by assumption) ?_
  exact Es_iret dX5_take_79 rfl ⟨by simp [cLog, uB, hn], by rw [uB_n (by omega), uB_n (by omega)], rfl⟩

set_option maxRecDepth 100000 in
set_option maxHeartbeats 4000000 in
theorem r_take_1a {ad : sA} {nw nt : Nat} {B : sB} {L : sL} (hnw : B 25 0 4 = nI nw) (h5 : nw ≤ 5) {y : Int32} (how : out y nw) {z : Int32} : Cf yX6_take cX6_take 4 (some FieldType.int) 3 [.ref (ad 25 0), .int y, .int z] ad nw nt B L (some (.int (-1))) (uB B 30 0 1 (B 30 0 1 + 1)) (L) := by
  have hC : ∀ Q, je_Ok (sCm yX6_take cX6_take 4 (some FieldType.int) 3 ad nw nt Q) RX6 cX6_take 4 3 := fun _ => je_Cm_ok
  refine Cs_of [some (.ref (ad 25 0)), some (.int y), some (.int z), none] (by decide) rfl (Nat.le_of_ble_eq_true rfl) ?_
  first | refine Es_aload_n (hC _) dX6_take_0 rfl ?_ | refine Es_aload_nN (hC _) dX6_take_0 rfl ?_
  refine Es_iload_n (hC _) dX6_take_1 rfl ?_
  refine Es_iload_n (hC _) dX6_take_2 rfl ?_
  refine Es_fV (hC _) mv_X6_121 dX6_take_3 (r_isPlace_out1 hnw how) rfl rfl ⟨_, rfl, rfl⟩ rfl rfl (by decide) (Nat.le_of_ble_eq_true rfl) ?_
  refine Es_if_ne (hC _) 15 dX6_take_6 (by decide) (fun hb6 => False.elim ((by first | exact absurd hb6 (by decide) | exact absurd hb6 (by assumption) | exact hb6 (by assumption) | exact hb6 rfl | (simp_all [bI]; done)))) (fun hb6 => ?_)
  first | refine Es_aload_n (hC _) dX6_take_9 rfl ?_ | refine Es_aload_nN (hC _) dX6_take_9 rfl ?_
  refine Es_iconst (v := -1) (hC _) dX6_take_10 (by decide) ?_
  refine Es_fV (hC _) mv_X6_93 dX6_take_11 (r_refuse (k := 1) (by decide) (by decide)) rfl rfl ⟨_, rfl, rfl⟩ rfl rfl (by decide) (Nat.le_of_ble_eq_true rfl) ?_
  exact Es_iret dX6_take_14 rfl ⟨rfl, rfl, rfl⟩

set_option maxRecDepth 100000 in
set_option maxHeartbeats 4000000 in
theorem r_take_1b {ad : sA} {nw nt : Nat} {B : sB} {L : sL} (hnw : B 25 0 4 = nI nw) (h5 : nw ≤ 5) {w : Nat} (hw : w < nw) {p : Nat} {z : Int32} (hp : B 38 0 w = nI p) (h7 : p ≤ 7) (hoz : out z p)  : Cf yX6_take cX6_take 4 (some FieldType.int) 3 [.ref (ad 25 0), .int (nI w), .int z] ad nw nt B L (some (.int (-1))) (uB B 30 0 1 (B 30 0 1 + 1)) (L) := by
  have hC : ∀ Q, je_Ok (sCm yX6_take cX6_take 4 (some FieldType.int) 3 ad nw nt Q) RX6 cX6_take 4 3 := fun _ => je_Cm_ok
  refine Cs_of [some (.ref (ad 25 0)), some (.int (nI w)), some (.int z), none] (by decide) rfl (Nat.le_of_ble_eq_true rfl) ?_
  first | refine Es_aload_n (hC _) dX6_take_0 rfl ?_ | refine Es_aload_nN (hC _) dX6_take_0 rfl ?_
  refine Es_iload_n (hC _) dX6_take_1 rfl ?_
  refine Es_iload_n (hC _) dX6_take_2 rfl ?_
  refine Es_fV (hC _) mv_X6_121 dX6_take_3 (r_isPlace_out2 hnw h5 hw hp hoz) rfl rfl ⟨_, rfl, rfl⟩ rfl rfl (by decide) (Nat.le_of_ble_eq_true rfl) ?_
  refine Es_if_ne (hC _) 15 dX6_take_6 (by decide) (fun hb6 => False.elim ((by first | exact absurd hb6 (by decide) | exact absurd hb6 (by assumption) | exact hb6 (by assumption) | exact hb6 rfl | (simp_all [bI]; done)))) (fun hb6 => ?_)
  first | refine Es_aload_n (hC _) dX6_take_9 rfl ?_ | refine Es_aload_nN (hC _) dX6_take_9 rfl ?_
  refine Es_iconst (v := -1) (hC _) dX6_take_10 (by decide) ?_
  refine Es_fV (hC _) mv_X6_93 dX6_take_11 (r_refuse (k := 1) (by decide) (by decide)) rfl rfl ⟨_, rfl, rfl⟩ rfl rfl (by decide) (Nat.le_of_ble_eq_true rfl) ?_
  exact Es_iret dX6_take_14 rfl ⟨rfl, rfl, rfl⟩

set_option maxRecDepth 100000 in
set_option maxHeartbeats 4000000 in
theorem r_take_2 {ad : sA} {nw nt : Nat} {B : sB} {L : sL} (hnw : B 25 0 4 = nI nw) (h5 : nw ≤ 5) {w : Nat} (hw : w < nw) {p q : Nat} (hp : B 38 0 w = nI p) (h7 : p ≤ 7) (hq : q < p) (hon : B 40 0 (7 * w + q) = -1) : Cf yX6_take cX6_take 4 (some FieldType.int) 3 [.ref (ad 25 0), .int (nI w), .int (nI q)] ad nw nt B L (some (.int (-2))) (uB B 30 0 2 (B 30 0 2 + 1)) (L) := by
  have hC : ∀ Q, je_Ok (sCm yX6_take cX6_take 4 (some FieldType.int) 3 ad nw nt Q) RX6 cX6_take 4 3 := fun _ => je_Cm_ok
  refine Cs_of [some (.ref (ad 25 0)), some (.int (nI w)), some (.int (nI q)), none] (by decide) rfl (Nat.le_of_ble_eq_true rfl) ?_
  first | refine Es_aload_n (hC _) dX6_take_0 rfl ?_ | refine Es_aload_nN (hC _) dX6_take_0 rfl ?_
  refine Es_iload_n (hC _) dX6_take_1 rfl ?_
  refine Es_iload_n (hC _) dX6_take_2 rfl ?_
  refine Es_fV (hC _) mv_X6_121 dX6_take_3 (r_isPlace_in hnw h5 hw hp h7 hq) rfl rfl ⟨_, rfl, rfl⟩ rfl rfl (by decide) (Nat.le_of_ble_eq_true rfl) ?_
  refine Es_if_ne (hC _) 15 dX6_take_6 (by decide) (fun hb6 => ?_) (fun hb6 => False.elim ((by first | exact absurd hb6 (by decide) | exact absurd hb6 (by assumption) | exact hb6 (by assumption) | exact hb6 rfl | (simp_all [bI]; done))))
  first | refine Es_aload_n (hC _) dX6_take_15 rfl ?_ | refine Es_aload_nN (hC _) dX6_take_15 rfl ?_
  refine Sg_X6_10 (hC _) fl_X6_29 dX6_take_16 ?_
  refine Es_iload_n (hC _) dX6_take_19 rfl ?_
  refine Es_iload_n (hC _) dX6_take_20 rfl ?_
  refine Es_fS (hC _) ms_X6_97 dX6_take_21 r_spot rfl rfl (by decide) (Nat.le_of_ble_eq_true rfl) ?_
  refine Es_ialdN (hC _) dX6_take_24 rfl rfl rfl (by omega) (by decide) ?_
  rw [hon]
  refine Es_istore_n (lv' := [_, _, _, _]) (hC _) dX6_take_25 (by decide) rfl rfl ?_
  refine Es_iload_n (hC _) dX6_take_26 rfl ?_
  refine Es_if_ge (hC _) 37 dX6_take_27 (by decide) (fun hb27 => False.elim (absurd hb27 (by decide))) (fun hb27 => ?_)
  first | refine Es_aload_n (hC _) dX6_take_30 rfl ?_ | refine Es_aload_nN (hC _) dX6_take_30 rfl ?_
  refine Es_bipush (v := -2) (hC _) dX6_take_31 (by decide) ?_
  refine Es_fV (hC _) mv_X6_93 dX6_take_33 (r_refuse (k := 2) (by decide) (by decide)) rfl rfl ⟨_, rfl, rfl⟩ rfl rfl (by decide) (Nat.le_of_ble_eq_true rfl) ?_
  exact Es_iret dX6_take_36 rfl ⟨rfl, rfl, rfl⟩

set_option maxRecDepth 100000 in
set_option maxHeartbeats 4000000 in
theorem r_take_3 {ad : sA} {nw nt : Nat} {B : sB} {L : sL} (hnw : B 25 0 4 = nI nw) (h5 : nw ≤ 5) (h40 : nt ≤ 40) {w : Nat} (hw : w < nw) {p q : Nat} (hp : B 38 0 w = nI p) (h7 : p ≤ 7) (hq : q < p) {t : Nat} (ht : t < nt) (hon : B 40 0 (7 * w + q) = nI t) (hk : B 25 0 7 = nI 600) : Cf yX6_take cX6_take 4 (some FieldType.int) 3 [.ref (ad 25 0), .int (nI w), .int (nI q)] ad nw nt B L (some (.int (-6))) (uB B 30 0 6 (B 30 0 6 + 1)) (L) := by
  have hC : ∀ Q, je_Ok (sCm yX6_take cX6_take 4 (some FieldType.int) 3 ad nw nt Q) RX6 cX6_take 4 3 := fun _ => je_Cm_ok
  refine Cs_of [some (.ref (ad 25 0)), some (.int (nI w)), some (.int (nI q)), none] (by decide) rfl (Nat.le_of_ble_eq_true rfl) ?_
  first | refine Es_aload_n (hC _) dX6_take_0 rfl ?_ | refine Es_aload_nN (hC _) dX6_take_0 rfl ?_
  refine Es_iload_n (hC _) dX6_take_1 rfl ?_
  refine Es_iload_n (hC _) dX6_take_2 rfl ?_
  refine Es_fV (hC _) mv_X6_121 dX6_take_3 (r_isPlace_in hnw h5 hw hp h7 hq) rfl rfl ⟨_, rfl, rfl⟩ rfl rfl (by decide) (Nat.le_of_ble_eq_true rfl) ?_
  refine Es_if_ne (hC _) 15 dX6_take_6 (by decide) (fun hb6 => ?_) (fun hb6 => False.elim ((by first | exact absurd hb6 (by decide) | exact absurd hb6 (by assumption) | exact hb6 (by assumption) | exact hb6 rfl | (simp_all [bI]; done))))
  first | refine Es_aload_n (hC _) dX6_take_15 rfl ?_ | refine Es_aload_nN (hC _) dX6_take_15 rfl ?_
  refine Sg_X6_10 (hC _) fl_X6_29 dX6_take_16 ?_
  refine Es_iload_n (hC _) dX6_take_19 rfl ?_
  refine Es_iload_n (hC _) dX6_take_20 rfl ?_
  refine Es_fS (hC _) ms_X6_97 dX6_take_21 r_spot rfl rfl (by decide) (Nat.le_of_ble_eq_true rfl) ?_
  refine Es_ialdN (hC _) dX6_take_24 rfl rfl rfl (by omega) (by decide) ?_
  rw [hon]
  refine Es_istore_n (lv' := [_, _, _, _]) (hC _) dX6_take_25 (by decide) rfl rfl ?_
  refine Es_iload_n (hC _) dX6_take_26 rfl ?_
  refine Es_if_ge (hC _) 37 dX6_take_27 (by decide) (fun hb27 => ?_) (fun hb27 => False.elim (hb27 (nI_pos' (by omega))))
  first | refine Es_aload_n (hC _) dX6_take_37 rfl ?_ | refine Es_aload_nN (hC _) dX6_take_37 rfl ?_
  refine Es_iconst (v := 1) (hC _) dX6_take_38 (by decide) ?_
  refine Es_fV (hC _) mv_X6_110 dX6_take_39 (r_hasRoom (m := 1) hk (by decide) (by decide)) rfl rfl ⟨_, rfl, rfl⟩ rfl rfl (by decide) (Nat.le_of_ble_eq_true rfl) ?_
  refine Es_if_ne (hC _) 52 dX6_take_42 (by decide) (fun hb42 => False.elim ((by first | exact absurd hb42 (by decide) | exact absurd hb42 (by assumption) | exact hb42 (by assumption) | exact hb42 rfl | (simp_all [bI]; done)))) (fun hb42 => ?_)
  first | refine Es_aload_n (hC _) dX6_take_45 rfl ?_ | refine Es_aload_nN (hC _) dX6_take_45 rfl ?_
  refine Es_bipush (v := -6) (hC _) dX6_take_46 (by decide) ?_
  refine Es_fV (hC _) mv_X6_93 dX6_take_48 (r_refuse (k := 6) (by decide) (by decide)) rfl rfl ⟨_, rfl, rfl⟩ rfl rfl (by decide) (Nat.le_of_ble_eq_true rfl) ?_
  exact Es_iret dX6_take_51 rfl ⟨rfl, rfl, rfl⟩

set_option maxRecDepth 100000 in
set_option maxHeartbeats 4000000 in
theorem r_take_4 {ad : sA} {nw nt : Nat} {B : sB} {L : sL} (hnw : B 25 0 4 = nI nw) (h5 : nw ≤ 5) (h40 : nt ≤ 40) {w : Nat} (hw : w < nw) {p q : Nat} (hp : B 38 0 w = nI p) (h7 : p ≤ 7) (hq : q < p) {t : Nat} (ht : t < nt) {k : Nat} (hon : B 40 0 (7 * w + q) = nI t) (hk : B 25 0 7 = nI k) (h6 : k < 600) : Cf yX6_take cX6_take 4 (some FieldType.int) 3 [.ref (ad 25 0), .int (nI w), .int (nI q)] ad nw nt B L (some (.int (nI t))) (rLog (uB (uB B 40 0 (7 * w + q) (-1)) 47 0 t (-1)) k t) (L) := by
  have hC : ∀ Q, je_Ok (sCm yX6_take cX6_take 4 (some FieldType.int) 3 ad nw nt Q) RX6 cX6_take 4 3 := fun _ => je_Cm_ok
  refine Cs_of [some (.ref (ad 25 0)), some (.int (nI w)), some (.int (nI q)), none] (by decide) rfl (Nat.le_of_ble_eq_true rfl) ?_
  first | refine Es_aload_n (hC _) dX6_take_0 rfl ?_ | refine Es_aload_nN (hC _) dX6_take_0 rfl ?_
  refine Es_iload_n (hC _) dX6_take_1 rfl ?_
  refine Es_iload_n (hC _) dX6_take_2 rfl ?_
  refine Es_fV (hC _) mv_X6_121 dX6_take_3 (r_isPlace_in hnw h5 hw hp h7 hq) rfl rfl ⟨_, rfl, rfl⟩ rfl rfl (by decide) (Nat.le_of_ble_eq_true rfl) ?_
  refine Es_if_ne (hC _) 15 dX6_take_6 (by decide) (fun hb6 => ?_) (fun hb6 => False.elim ((by first | exact absurd hb6 (by decide) | exact absurd hb6 (by assumption) | exact hb6 (by assumption) | exact hb6 rfl | (simp_all [bI]; done))))
  first | refine Es_aload_n (hC _) dX6_take_15 rfl ?_ | refine Es_aload_nN (hC _) dX6_take_15 rfl ?_
  refine Sg_X6_10 (hC _) fl_X6_29 dX6_take_16 ?_
  refine Es_iload_n (hC _) dX6_take_19 rfl ?_
  refine Es_iload_n (hC _) dX6_take_20 rfl ?_
  refine Es_fS (hC _) ms_X6_97 dX6_take_21 r_spot rfl rfl (by decide) (Nat.le_of_ble_eq_true rfl) ?_
  refine Es_ialdN (hC _) dX6_take_24 rfl rfl rfl (by omega) (by decide) ?_
  rw [hon]
  refine Es_istore_n (lv' := [_, _, _, _]) (hC _) dX6_take_25 (by decide) rfl rfl ?_
  refine Es_iload_n (hC _) dX6_take_26 rfl ?_
  refine Es_if_ge (hC _) 37 dX6_take_27 (by decide) (fun hb27 => ?_) (fun hb27 => False.elim (hb27 (nI_pos' (by omega))))
  first | refine Es_aload_n (hC _) dX6_take_37 rfl ?_ | refine Es_aload_nN (hC _) dX6_take_37 rfl ?_
  refine Es_iconst (v := 1) (hC _) dX6_take_38 (by decide) ?_
  refine Es_fV (hC _) mv_X6_110 dX6_take_39 (r_hasRoom (m := 1) hk (by omega) (by decide)) rfl rfl ⟨_, rfl, rfl⟩ rfl rfl (by decide) (Nat.le_of_ble_eq_true rfl) ?_
  refine Es_if_ne (hC _) 52 dX6_take_42 (by decide) (fun hb42 => ?_) (fun hb42 => False.elim (absurd hb42 (by rw [bI, if_pos (by omega)]; decide)))
  first | refine Es_aload_n (hC _) dX6_take_52 rfl ?_ | refine Es_aload_nN (hC _) dX6_take_52 rfl ?_
  refine Sg_X6_10 (hC _) fl_X6_29 dX6_take_53 ?_
  refine Es_iload_n (hC _) dX6_take_56 rfl ?_
  refine Es_iload_n (hC _) dX6_take_57 rfl ?_
  refine Es_fS (hC _) ms_X6_97 dX6_take_58 r_spot rfl rfl (by decide) (Nat.le_of_ble_eq_true rfl) ?_
  refine Es_iconst (v := -1) (hC _) dX6_take_61 (by decide) ?_
  refine Es_iastN (hC _) dX6_take_62 rfl (fun _ => rfl) rfl (by omega) (by decide) ?_
  first | refine Es_aload_n (hC _) dX6_take_63 rfl ?_ | refine Es_aload_nN (hC _) dX6_take_63 rfl ?_
  refine Es_iload_n (hC _) dX6_take_64 rfl ?_
  refine Es_iconst (v := -1) (hC _) dX6_take_65 (by decide) ?_
  refine Es_fV (hC _) mv_X6_124 dX6_take_66 (r_lays (by omega) (by rw [uB_n (by omega)]; exact hk) h6) rfl rfl ⟨_, rfl, rfl⟩ rfl rfl (by decide) (Nat.le_of_ble_eq_true rfl) ?_
  refine Es_iload_n (hC _) dX6_take_69 rfl ?_
  exact Es_iret dX6_take_70 rfl ⟨rfl, rfl, rfl⟩
end
