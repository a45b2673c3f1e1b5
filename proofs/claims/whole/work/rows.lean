section
-- ===== PART A: goes FIRST, ahead of the names: the tables' words, and 'selects' of the private methods out of them =====
/-- a private method of a class that the tables say can be made, by its rows of tables_1 -/
def lw_okq (q : MethodName × Nat) : Prop := (q.1.cls ≠ "java/lang/invoke/MethodHandle" ∧ q.1.cls ≠ "java/lang/invoke/VarHandle") ∧ Cond.instantiable q.1.cls q.2 ∈ tables_1 ∧ Cond.privateMethod q.1 ∈ tables_1 ∧ Cond.instanceMethod q.1 ∈ tables_1
theorem lw_p0 : lw_okq (⟨"NumeralBabel$Row", "copy", "(LNumeralBabel$Row;)V"⟩, 2) := ⟨⟨by decide +kernel, by decide +kernel⟩, List.mem_of_getElem? (i := 29) (by decide +kernel), List.mem_of_getElem? (i := 246) (by decide +kernel), List.mem_of_getElem? (i := 247) (by decide +kernel)⟩
theorem lw_p1 : lw_okq (⟨"NumeralBabel$Row", "clear", "()V"⟩, 2) := ⟨⟨by decide +kernel, by decide +kernel⟩, List.mem_of_getElem? (i := 29) (by decide +kernel), List.mem_of_getElem? (i := 254) (by decide +kernel), List.mem_of_getElem? (i := 255) (by decide +kernel)⟩
theorem lw_p2 : lw_okq (⟨"NumeralBabel$Cords", "add", "(J)J"⟩, 3) := ⟨⟨by decide +kernel, by decide +kernel⟩, List.mem_of_getElem? (i := 61) (by decide +kernel), List.mem_of_getElem? (i := 266) (by decide +kernel), List.mem_of_getElem? (i := 267) (by decide +kernel)⟩
theorem lw_p3 : lw_okq (⟨"NumeralBabel$Cords", "total", "()J"⟩, 3) := ⟨⟨by decide +kernel, by decide +kernel⟩, List.mem_of_getElem? (i := 61) (by decide +kernel), List.mem_of_getElem? (i := 287) (by decide +kernel), List.mem_of_getElem? (i := 288) (by decide +kernel)⟩
theorem lw_p4 : lw_okq (⟨"NumeralBabel", "grammarAt", "(I)LNumeralBabel$Grammar;"⟩, 14) := ⟨⟨by decide +kernel, by decide +kernel⟩, List.mem_of_getElem? (i := 19) (by decide +kernel), List.mem_of_getElem? (i := 301) (by decide +kernel), List.mem_of_getElem? (i := 302) (by decide +kernel)⟩
theorem lw_p5 : lw_okq (⟨"java/lang/Throwable", "fillInStackTrace", "(I)Ljava/lang/Throwable;"⟩, 6) := ⟨⟨by decide +kernel, by decide +kernel⟩, List.mem_of_getElem? (i := 343) (by decide +kernel), List.mem_of_getElem? (i := 341) (by decide +kernel), List.mem_of_getElem? (i := 342) (by decide +kernel)⟩
theorem lw_p6 : lw_okq (⟨"NumeralBabel$Atoms", "wordOf", "(I)I"⟩, 3) := ⟨⟨by decide +kernel, by decide +kernel⟩, List.mem_of_getElem? (i := 85) (by decide +kernel), List.mem_of_getElem? (i := 396) (by decide +kernel), List.mem_of_getElem? (i := 397) (by decide +kernel)⟩
theorem lw_p7 : lw_okq (⟨"NumeralBabel$Atoms", "countBelow", "(I)I"⟩, 3) := ⟨⟨by decide +kernel, by decide +kernel⟩, List.mem_of_getElem? (i := 85) (by decide +kernel), List.mem_of_getElem? (i := 400) (by decide +kernel), List.mem_of_getElem? (i := 401) (by decide +kernel)⟩
theorem lw_p8 : lw_okq (⟨"NumeralBabel$Atoms", "isFull", "()Z"⟩, 3) := ⟨⟨by decide +kernel, by decide +kernel⟩, List.mem_of_getElem? (i := 85) (by decide +kernel), List.mem_of_getElem? (i := 404) (by decide +kernel), List.mem_of_getElem? (i := 405) (by decide +kernel)⟩
theorem lw_p9 : lw_okq (⟨"NumeralBabel$Atoms", "put", "(II)V"⟩, 3) := ⟨⟨by decide +kernel, by decide +kernel⟩, List.mem_of_getElem? (i := 85) (by decide +kernel), List.mem_of_getElem? (i := 424) (by decide +kernel), List.mem_of_getElem? (i := 425) (by decide +kernel)⟩
theorem lw_p10 : lw_okq (⟨"NumeralBabel$Atoms", "take", "(I)I"⟩, 3) := ⟨⟨by decide +kernel, by decide +kernel⟩, List.mem_of_getElem? (i := 85) (by decide +kernel), List.mem_of_getElem? (i := 435) (by decide +kernel), List.mem_of_getElem? (i := 436) (by decide +kernel)⟩
theorem lw_p11 : lw_okq (⟨"NumeralBabel$Grammar", "hasBase", "(I)Z"⟩, 9) := ⟨⟨by decide +kernel, by decide +kernel⟩, List.mem_of_getElem? (i := 79) (by decide +kernel), List.mem_of_getElem? (i := 447) (by decide +kernel), List.mem_of_getElem? (i := 448) (by decide +kernel)⟩
theorem lw_p12 : lw_okq (⟨"NumeralBabel$Grammar", "addBase", "(IIII)I"⟩, 9) := ⟨⟨by decide +kernel, by decide +kernel⟩, List.mem_of_getElem? (i := 79) (by decide +kernel), List.mem_of_getElem? (i := 452) (by decide +kernel), List.mem_of_getElem? (i := 453) (by decide +kernel)⟩
theorem lw_p13 : lw_okq (⟨"NumeralBabel$Base", "start", "(IIII)V"⟩, 7) := ⟨⟨by decide +kernel, by decide +kernel⟩, List.mem_of_getElem? (i := 124) (by decide +kernel), List.mem_of_getElem? (i := 456) (by decide +kernel), List.mem_of_getElem? (i := 457) (by decide +kernel)⟩
theorem lw_p14 : lw_okq (⟨"NumeralBabel$Forms", "formOf", "(II)I"⟩, 4) := ⟨⟨by decide +kernel, by decide +kernel⟩, List.mem_of_getElem? (i := 105) (by decide +kernel), List.mem_of_getElem? (i := 488) (by decide +kernel), List.mem_of_getElem? (i := 489) (by decide +kernel)⟩
theorem lw_p15 : lw_okq (⟨"NumeralBabel$Forms", "placeOf", "(II)I"⟩, 4) := ⟨⟨by decide +kernel, by decide +kernel⟩, List.mem_of_getElem? (i := 105) (by decide +kernel), List.mem_of_getElem? (i := 492) (by decide +kernel), List.mem_of_getElem? (i := 493) (by decide +kernel)⟩
def lw_privs_1 : List (MethodName × Nat) := [(⟨"NumeralBabel$Row", "copy", "(LNumeralBabel$Row;)V"⟩, 2), (⟨"NumeralBabel$Row", "clear", "()V"⟩, 2), (⟨"NumeralBabel$Cords", "add", "(J)J"⟩, 3), (⟨"NumeralBabel$Cords", "total", "()J"⟩, 3), (⟨"NumeralBabel", "grammarAt", "(I)LNumeralBabel$Grammar;"⟩, 14), (⟨"java/lang/Throwable", "fillInStackTrace", "(I)Ljava/lang/Throwable;"⟩, 6), (⟨"NumeralBabel$Atoms", "wordOf", "(I)I"⟩, 3), (⟨"NumeralBabel$Atoms", "countBelow", "(I)I"⟩, 3), (⟨"NumeralBabel$Atoms", "isFull", "()Z"⟩, 3), (⟨"NumeralBabel$Atoms", "put", "(II)V"⟩, 3), (⟨"NumeralBabel$Atoms", "take", "(I)I"⟩, 3), (⟨"NumeralBabel$Grammar", "hasBase", "(I)Z"⟩, 9), (⟨"NumeralBabel$Grammar", "addBase", "(IIII)I"⟩, 9), (⟨"NumeralBabel$Base", "start", "(IIII)V"⟩, 7), (⟨"NumeralBabel$Forms", "formOf", "(II)I"⟩, 4), (⟨"NumeralBabel$Forms", "placeOf", "(II)I"⟩, 4)]
theorem lw_r1 : ∀ q ∈ lw_privs_1, lw_okq q := List.forall_mem_cons.mpr ⟨lw_p0, List.forall_mem_cons.mpr ⟨lw_p1, List.forall_mem_cons.mpr ⟨lw_p2, List.forall_mem_cons.mpr ⟨lw_p3, List.forall_mem_cons.mpr ⟨lw_p4, List.forall_mem_cons.mpr ⟨lw_p5, List.forall_mem_cons.mpr ⟨lw_p6, List.forall_mem_cons.mpr ⟨lw_p7, List.forall_mem_cons.mpr ⟨lw_p8, List.forall_mem_cons.mpr ⟨lw_p9, List.forall_mem_cons.mpr ⟨lw_p10, List.forall_mem_cons.mpr ⟨lw_p11, List.forall_mem_cons.mpr ⟨lw_p12, List.forall_mem_cons.mpr ⟨lw_p13, List.forall_mem_cons.mpr ⟨lw_p14, List.forall_mem_cons.mpr ⟨lw_p15, fun _ h => absurd h List.not_mem_nil⟩⟩⟩⟩⟩⟩⟩⟩⟩⟩⟩⟩⟩⟩⟩⟩
theorem lw_p16 : lw_okq (⟨"NumeralBabel$Forms", "isFull", "()Z"⟩, 4) := ⟨⟨by decide +kernel, by decide +kernel⟩, List.mem_of_getElem? (i := 105) (by decide +kernel), List.mem_of_getElem? (i := 496) (by decide +kernel), List.mem_of_getElem? (i := 497) (by decide +kernel)⟩
theorem lw_p17 : lw_okq (⟨"NumeralBabel$Forms", "put", "(III)V"⟩, 4) := ⟨⟨by decide +kernel, by decide +kernel⟩, List.mem_of_getElem? (i := 105) (by decide +kernel), List.mem_of_getElem? (i := 501) (by decide +kernel), List.mem_of_getElem? (i := 502) (by decide +kernel)⟩
theorem lw_p18 : lw_okq (⟨"NumeralBabel$Grammar", "addSeam", "(III)V"⟩, 9) := ⟨⟨by decide +kernel, by decide +kernel⟩, List.mem_of_getElem? (i := 79) (by decide +kernel), List.mem_of_getElem? (i := 520) (by decide +kernel), List.mem_of_getElem? (i := 521) (by decide +kernel)⟩
theorem lw_p19 : lw_okq (⟨"NumeralBabel$Grammar", "clear", "()V"⟩, 9) := ⟨⟨by decide +kernel, by decide +kernel⟩, List.mem_of_getElem? (i := 79) (by decide +kernel), List.mem_of_getElem? (i := 531) (by decide +kernel), List.mem_of_getElem? (i := 532) (by decide +kernel)⟩
theorem lw_p20 : lw_okq (⟨"NumeralBabel$Grammar", "speak", "(IILNumeralBabel$Row;)Z"⟩, 9) := ⟨⟨by decide +kernel, by decide +kernel⟩, List.mem_of_getElem? (i := 79) (by decide +kernel), List.mem_of_getElem? (i := 546) (by decide +kernel), List.mem_of_getElem? (i := 547) (by decide +kernel)⟩
theorem lw_p21 : lw_okq (⟨"NumeralBabel$Grammar", "addNameFor", "(IILNumeralBabel$Row;)Z"⟩, 9) := ⟨⟨by decide +kernel, by decide +kernel⟩, List.mem_of_getElem? (i := 79) (by decide +kernel), List.mem_of_getElem? (i := 551) (by decide +kernel), List.mem_of_getElem? (i := 552) (by decide +kernel)⟩
theorem lw_p22 : lw_okq (⟨"NumeralBabel$Grammar", "addName", "(ILNumeralBabel$Row;I)Z"⟩, 9) := ⟨⟨by decide +kernel, by decide +kernel⟩, List.mem_of_getElem? (i := 79) (by decide +kernel), List.mem_of_getElem? (i := 555) (by decide +kernel), List.mem_of_getElem? (i := 556) (by decide +kernel)⟩
theorem lw_p23 : lw_okq (⟨"NumeralBabel$Row", "add", "(I)Z"⟩, 2) := ⟨⟨by decide +kernel, by decide +kernel⟩, List.mem_of_getElem? (i := 29) (by decide +kernel), List.mem_of_getElem? (i := 560) (by decide +kernel), List.mem_of_getElem? (i := 561) (by decide +kernel)⟩
theorem lw_p24 : lw_okq (⟨"NumeralBabel$Grammar", "greatestUpTo", "(I)LNumeralBabel$Base;"⟩, 9) := ⟨⟨by decide +kernel, by decide +kernel⟩, List.mem_of_getElem? (i := 79) (by decide +kernel), List.mem_of_getElem? (i := 564) (by decide +kernel), List.mem_of_getElem? (i := 565) (by decide +kernel)⟩
theorem lw_p25 : lw_okq (⟨"NumeralBabel$Grammar", "addProduct", "(LNumeralBabel$Base;ILNumeralBabel$Row;I)Z"⟩, 9) := ⟨⟨by decide +kernel, by decide +kernel⟩, List.mem_of_getElem? (i := 79) (by decide +kernel), List.mem_of_getElem? (i := 568) (by decide +kernel), List.mem_of_getElem? (i := 569) (by decide +kernel)⟩
theorem lw_p26 : lw_okq (⟨"NumeralBabel$Base", "has", "(I)Z"⟩, 7) := ⟨⟨by decide +kernel, by decide +kernel⟩, List.mem_of_getElem? (i := 124) (by decide +kernel), List.mem_of_getElem? (i := 572) (by decide +kernel), List.mem_of_getElem? (i := 573) (by decide +kernel)⟩
theorem lw_p27 : lw_okq (⟨"NumeralBabel$Row", "last", "()I"⟩, 2) := ⟨⟨by decide +kernel, by decide +kernel⟩, List.mem_of_getElem? (i := 29) (by decide +kernel), List.mem_of_getElem? (i := 579) (by decide +kernel), List.mem_of_getElem? (i := 580) (by decide +kernel)⟩
theorem lw_p28 : lw_okq (⟨"NumeralBabel$Row", "wordAt", "(I)I"⟩, 2) := ⟨⟨by decide +kernel, by decide +kernel⟩, List.mem_of_getElem? (i := 29) (by decide +kernel), List.mem_of_getElem? (i := 583) (by decide +kernel), List.mem_of_getElem? (i := 584) (by decide +kernel)⟩
theorem lw_p29 : lw_okq (⟨"NumeralBabel$Row", "setLast", "(I)V"⟩, 2) := ⟨⟨by decide +kernel, by decide +kernel⟩, List.mem_of_getElem? (i := 29) (by decide +kernel), List.mem_of_getElem? (i := 588) (by decide +kernel), List.mem_of_getElem? (i := 589) (by decide +kernel)⟩
theorem lw_p30 : lw_okq (⟨"NumeralBabel$Grammar", "endSaying", "(ZLNumeralBabel$Row;)Z"⟩, 9) := ⟨⟨by decide +kernel, by decide +kernel⟩, List.mem_of_getElem? (i := 79) (by decide +kernel), List.mem_of_getElem? (i := 592) (by decide +kernel), List.mem_of_getElem? (i := 593) (by decide +kernel)⟩
theorem lw_p31 : lw_okq (⟨"NumeralBabel$Row", "melt", "(III)V"⟩, 2) := ⟨⟨by decide +kernel, by decide +kernel⟩, List.mem_of_getElem? (i := 29) (by decide +kernel), List.mem_of_getElem? (i := 596) (by decide +kernel), List.mem_of_getElem? (i := 597) (by decide +kernel)⟩
def lw_privs_2 : List (MethodName × Nat) := [(⟨"NumeralBabel$Forms", "isFull", "()Z"⟩, 4), (⟨"NumeralBabel$Forms", "put", "(III)V"⟩, 4), (⟨"NumeralBabel$Grammar", "addSeam", "(III)V"⟩, 9), (⟨"NumeralBabel$Grammar", "clear", "()V"⟩, 9), (⟨"NumeralBabel$Grammar", "speak", "(IILNumeralBabel$Row;)Z"⟩, 9), (⟨"NumeralBabel$Grammar", "addNameFor", "(IILNumeralBabel$Row;)Z"⟩, 9), (⟨"NumeralBabel$Grammar", "addName", "(ILNumeralBabel$Row;I)Z"⟩, 9), (⟨"NumeralBabel$Row", "add", "(I)Z"⟩, 2), (⟨"NumeralBabel$Grammar", "greatestUpTo", "(I)LNumeralBabel$Base;"⟩, 9), (⟨"NumeralBabel$Grammar", "addProduct", "(LNumeralBabel$Base;ILNumeralBabel$Row;I)Z"⟩, 9), (⟨"NumeralBabel$Base", "has", "(I)Z"⟩, 7), (⟨"NumeralBabel$Row", "last", "()I"⟩, 2), (⟨"NumeralBabel$Row", "wordAt", "(I)I"⟩, 2), (⟨"NumeralBabel$Row", "setLast", "(I)V"⟩, 2), (⟨"NumeralBabel$Grammar", "endSaying", "(ZLNumeralBabel$Row;)Z"⟩, 9), (⟨"NumeralBabel$Row", "melt", "(III)V"⟩, 2)]
theorem lw_r2 : ∀ q ∈ lw_privs_2, lw_okq q := List.forall_mem_cons.mpr ⟨lw_p16, List.forall_mem_cons.mpr ⟨lw_p17, List.forall_mem_cons.mpr ⟨lw_p18, List.forall_mem_cons.mpr ⟨lw_p19, List.forall_mem_cons.mpr ⟨lw_p20, List.forall_mem_cons.mpr ⟨lw_p21, List.forall_mem_cons.mpr ⟨lw_p22, List.forall_mem_cons.mpr ⟨lw_p23, List.forall_mem_cons.mpr ⟨lw_p24, List.forall_mem_cons.mpr ⟨lw_p25, List.forall_mem_cons.mpr ⟨lw_p26, List.forall_mem_cons.mpr ⟨lw_p27, List.forall_mem_cons.mpr ⟨lw_p28, List.forall_mem_cons.mpr ⟨lw_p29, List.forall_mem_cons.mpr ⟨lw_p30, List.forall_mem_cons.mpr ⟨lw_p31, fun _ h => absurd h List.not_mem_nil⟩⟩⟩⟩⟩⟩⟩⟩⟩⟩⟩⟩⟩⟩⟩⟩
theorem lw_p32 : lw_okq (⟨"NumeralBabel$Grammar", "speakFraction", "(IIILNumeralBabel$Row;)Z"⟩, 9) := ⟨⟨by decide +kernel, by decide +kernel⟩, List.mem_of_getElem? (i := 79) (by decide +kernel), List.mem_of_getElem? (i := 614) (by decide +kernel), List.mem_of_getElem? (i := 615) (by decide +kernel)⟩
theorem lw_p33 : lw_okq (⟨"NumeralBabel", "grammarToHear", "(III)LNumeralBabel$Grammar;"⟩, 14) := ⟨⟨by decide +kernel, by decide +kernel⟩, List.mem_of_getElem? (i := 19) (by decide +kernel), List.mem_of_getElem? (i := 643) (by decide +kernel), List.mem_of_getElem? (i := 644) (by decide +kernel)⟩
theorem lw_p34 : lw_okq (⟨"NumeralBabel", "isHeard", "(LNumeralBabel$Grammar;II)Z"⟩, 14) := ⟨⟨by decide +kernel, by decide +kernel⟩, List.mem_of_getElem? (i := 19) (by decide +kernel), List.mem_of_getElem? (i := 647) (by decide +kernel), List.mem_of_getElem? (i := 648) (by decide +kernel)⟩
theorem lw_p35 : lw_okq (⟨"NumeralBabel$Row", "agrees", "(LNumeralBabel$Row;)Z"⟩, 2) := ⟨⟨by decide +kernel, by decide +kernel⟩, List.mem_of_getElem? (i := 29) (by decide +kernel), List.mem_of_getElem? (i := 651) (by decide +kernel), List.mem_of_getElem? (i := 652) (by decide +kernel)⟩
theorem lw_p36 : lw_okq (⟨"NumeralBabel", "tallySpoken", "()V"⟩, 14) := ⟨⟨by decide +kernel, by decide +kernel⟩, List.mem_of_getElem? (i := 19) (by decide +kernel), List.mem_of_getElem? (i := 673) (by decide +kernel), List.mem_of_getElem? (i := 674) (by decide +kernel)⟩
theorem lw_p37 : lw_okq (⟨"NumeralBabel", "placeOfLeastTally", "()I"⟩, 14) := ⟨⟨by decide +kernel, by decide +kernel⟩, List.mem_of_getElem? (i := 19) (by decide +kernel), List.mem_of_getElem? (i := 678) (by decide +kernel), List.mem_of_getElem? (i := 679) (by decide +kernel)⟩
theorem lw_p38 : lw_okq (⟨"NumeralBabel$Lookup", "clear", "()V"⟩, 3) := ⟨⟨by decide +kernel, by decide +kernel⟩, List.mem_of_getElem? (i := 44) (by decide +kernel), List.mem_of_getElem? (i := 696) (by decide +kernel), List.mem_of_getElem? (i := 697) (by decide +kernel)⟩
theorem lw_p39 : lw_okq (⟨"NumeralBabel$Row", "mark", "()I"⟩, 2) := ⟨⟨by decide +kernel, by decide +kernel⟩, List.mem_of_getElem? (i := 29) (by decide +kernel), List.mem_of_getElem? (i := 701) (by decide +kernel), List.mem_of_getElem? (i := 702) (by decide +kernel)⟩
theorem lw_p40 : lw_okq (⟨"NumeralBabel", "isSpokenLower", "(LNumeralBabel$Grammar;II)Z"⟩, 14) := ⟨⟨by decide +kernel, by decide +kernel⟩, List.mem_of_getElem? (i := 19) (by decide +kernel), List.mem_of_getElem? (i := 705) (by decide +kernel), List.mem_of_getElem? (i := 706) (by decide +kernel)⟩
theorem lw_p41 : lw_okq (⟨"NumeralBabel$Lookup", "firstIn", "(I)I"⟩, 3) := ⟨⟨by decide +kernel, by decide +kernel⟩, List.mem_of_getElem? (i := 44) (by decide +kernel), List.mem_of_getElem? (i := 709) (by decide +kernel), List.mem_of_getElem? (i := 710) (by decide +kernel)⟩
theorem lw_p42 : lw_okq (⟨"NumeralBabel$Lookup", "markOf", "(I)I"⟩, 3) := ⟨⟨by decide +kernel, by decide +kernel⟩, List.mem_of_getElem? (i := 44) (by decide +kernel), List.mem_of_getElem? (i := 713) (by decide +kernel), List.mem_of_getElem? (i := 714) (by decide +kernel)⟩
theorem lw_p43 : lw_okq (⟨"NumeralBabel$Row", "same", "(LNumeralBabel$Row;)Z"⟩, 2) := ⟨⟨by decide +kernel, by decide +kernel⟩, List.mem_of_getElem? (i := 29) (by decide +kernel), List.mem_of_getElem? (i := 717) (by decide +kernel), List.mem_of_getElem? (i := 718) (by decide +kernel)⟩
theorem lw_p44 : lw_okq (⟨"NumeralBabel$Lookup", "behind", "(I)I"⟩, 3) := ⟨⟨by decide +kernel, by decide +kernel⟩, List.mem_of_getElem? (i := 44) (by decide +kernel), List.mem_of_getElem? (i := 721) (by decide +kernel), List.mem_of_getElem? (i := 722) (by decide +kernel)⟩
theorem lw_p45 : lw_okq (⟨"NumeralBabel$Lookup", "put", "(II)V"⟩, 3) := ⟨⟨by decide +kernel, by decide +kernel⟩, List.mem_of_getElem? (i := 44) (by decide +kernel), List.mem_of_getElem? (i := 725) (by decide +kernel), List.mem_of_getElem? (i := 726) (by decide +kernel)⟩
theorem lw_p46 : lw_okq (⟨"NumeralBabel$Row", "has", "(I)Z"⟩, 2) := ⟨⟨by decide +kernel, by decide +kernel⟩, List.mem_of_getElem? (i := 29) (by decide +kernel), List.mem_of_getElem? (i := 736) (by decide +kernel), List.mem_of_getElem? (i := 737) (by decide +kernel)⟩
theorem lw_p47 : lw_okq (⟨"NumeralBabel", "findSettings", "(LNumeralBabel$Grammar;LNumeralBabel$Base;I)I"⟩, 14) := ⟨⟨by decide +kernel, by decide +kernel⟩, List.mem_of_getElem? (i := 19) (by decide +kernel), List.mem_of_getElem? (i := 748) (by decide +kernel), List.mem_of_getElem? (i := 749) (by decide +kernel)⟩
def lw_privs_3 : List (MethodName × Nat) := [(⟨"NumeralBabel$Grammar", "speakFraction", "(IIILNumeralBabel$Row;)Z"⟩, 9), (⟨"NumeralBabel", "grammarToHear", "(III)LNumeralBabel$Grammar;"⟩, 14), (⟨"NumeralBabel", "isHeard", "(LNumeralBabel$Grammar;II)Z"⟩, 14), (⟨"NumeralBabel$Row", "agrees", "(LNumeralBabel$Row;)Z"⟩, 2), (⟨"NumeralBabel", "tallySpoken", "()V"⟩, 14), (⟨"NumeralBabel", "placeOfLeastTally", "()I"⟩, 14), (⟨"NumeralBabel$Lookup", "clear", "()V"⟩, 3), (⟨"NumeralBabel$Row", "mark", "()I"⟩, 2), (⟨"NumeralBabel", "isSpokenLower", "(LNumeralBabel$Grammar;II)Z"⟩, 14), (⟨"NumeralBabel$Lookup", "firstIn", "(I)I"⟩, 3), (⟨"NumeralBabel$Lookup", "markOf", "(I)I"⟩, 3), (⟨"NumeralBabel$Row", "same", "(LNumeralBabel$Row;)Z"⟩, 2), (⟨"NumeralBabel$Lookup", "behind", "(I)I"⟩, 3), (⟨"NumeralBabel$Lookup", "put", "(II)V"⟩, 3), (⟨"NumeralBabel$Row", "has", "(I)Z"⟩, 2), (⟨"NumeralBabel", "findSettings", "(LNumeralBabel$Grammar;LNumeralBabel$Base;I)I"⟩, 14)]
theorem lw_r3 : ∀ q ∈ lw_privs_3, lw_okq q := List.forall_mem_cons.mpr ⟨lw_p32, List.forall_mem_cons.mpr ⟨lw_p33, List.forall_mem_cons.mpr ⟨lw_p34, List.forall_mem_cons.mpr ⟨lw_p35, List.forall_mem_cons.mpr ⟨lw_p36, List.forall_mem_cons.mpr ⟨lw_p37, List.forall_mem_cons.mpr ⟨lw_p38, List.forall_mem_cons.mpr ⟨lw_p39, List.forall_mem_cons.mpr ⟨lw_p40, List.forall_mem_cons.mpr ⟨lw_p41, List.forall_mem_cons.mpr ⟨lw_p42, List.forall_mem_cons.mpr ⟨lw_p43, List.forall_mem_cons.mpr ⟨lw_p44, List.forall_mem_cons.mpr ⟨lw_p45, List.forall_mem_cons.mpr ⟨lw_p46, List.forall_mem_cons.mpr ⟨lw_p47, fun _ h => absurd h List.not_mem_nil⟩⟩⟩⟩⟩⟩⟩⟩⟩⟩⟩⟩⟩⟩⟩⟩
theorem lw_p48 : lw_okq (⟨"NumeralBabel$Base", "set", "(II)V"⟩, 7) := ⟨⟨by decide +kernel, by decide +kernel⟩, List.mem_of_getElem? (i := 124) (by decide +kernel), List.mem_of_getElem? (i := 752) (by decide +kernel), List.mem_of_getElem? (i := 753) (by decide +kernel)⟩
theorem lw_p49 : lw_okq (⟨"NumeralBabel", "meetsExamples", "(LNumeralBabel$Grammar;)Z"⟩, 14) := ⟨⟨by decide +kernel, by decide +kernel⟩, List.mem_of_getElem? (i := 19) (by decide +kernel), List.mem_of_getElem? (i := 756) (by decide +kernel), List.mem_of_getElem? (i := 757) (by decide +kernel)⟩
theorem lw_p50 : lw_okq (⟨"NumeralBabel", "speakBySettings", "(LNumeralBabel$Grammar;LNumeralBabel$Base;III)V"⟩, 14) := ⟨⟨by decide +kernel, by decide +kernel⟩, List.mem_of_getElem? (i := 19) (by decide +kernel), List.mem_of_getElem? (i := 775) (by decide +kernel), List.mem_of_getElem? (i := 776) (by decide +kernel)⟩
theorem lw_p51 : lw_okq (⟨"NumeralBabel", "greatestAlike", "(I)I"⟩, 14) := ⟨⟨by decide +kernel, by decide +kernel⟩, List.mem_of_getElem? (i := 19) (by decide +kernel), List.mem_of_getElem? (i := 779) (by decide +kernel), List.mem_of_getElem? (i := 780) (by decide +kernel)⟩
theorem lw_p52 : lw_okq (⟨"NumeralBabel$Grammar", "leastNumberWith", "(I)I"⟩, 9) := ⟨⟨by decide +kernel, by decide +kernel⟩, List.mem_of_getElem? (i := 79) (by decide +kernel), List.mem_of_getElem? (i := 798) (by decide +kernel), List.mem_of_getElem? (i := 799) (by decide +kernel)⟩
theorem lw_p53 : lw_okq (⟨"NumeralBabel$Atoms", "leastWith", "(I)I"⟩, 3) := ⟨⟨by decide +kernel, by decide +kernel⟩, List.mem_of_getElem? (i := 85) (by decide +kernel), List.mem_of_getElem? (i := 802) (by decide +kernel), List.mem_of_getElem? (i := 803) (by decide +kernel)⟩
theorem lw_p54 : lw_okq (⟨"NumeralBabel$Cords", "clear", "()V"⟩, 3) := ⟨⟨by decide +kernel, by decide +kernel⟩, List.mem_of_getElem? (i := 61) (by decide +kernel), List.mem_of_getElem? (i := 817) (by decide +kernel), List.mem_of_getElem? (i := 818) (by decide +kernel)⟩
theorem lw_p55 : lw_okq (⟨"NumeralBabelModel", "atomAt", "(II)I"⟩, 39) := ⟨⟨by decide +kernel, by decide +kernel⟩, List.mem_of_getElem? (i := 828) (by decide +kernel), List.mem_of_getElem? (i := 972) (by decide +kernel), List.mem_of_getElem? (i := 973) (by decide +kernel)⟩
theorem lw_p56 : lw_okq (⟨"NumeralBabelModel", "can", "(I)Z"⟩, 39) := ⟨⟨by decide +kernel, by decide +kernel⟩, List.mem_of_getElem? (i := 828) (by decide +kernel), List.mem_of_getElem? (i := 976) (by decide +kernel), List.mem_of_getElem? (i := 977) (by decide +kernel)⟩
theorem lw_p57 : lw_okq (⟨"NumeralBabelModel", "isBase", "(II)Z"⟩, 39) := ⟨⟨by decide +kernel, by decide +kernel⟩, List.mem_of_getElem? (i := 828) (by decide +kernel), List.mem_of_getElem? (i := 992) (by decide +kernel), List.mem_of_getElem? (i := 993) (by decide +kernel)⟩
theorem lw_p58 : lw_okq (⟨"NumeralBabelModel", "formAt", "(III)I"⟩, 39) := ⟨⟨by decide +kernel, by decide +kernel⟩, List.mem_of_getElem? (i := 828) (by decide +kernel), List.mem_of_getElem? (i := 1007) (by decide +kernel), List.mem_of_getElem? (i := 1008) (by decide +kernel)⟩
theorem lw_p59 : lw_okq (⟨"NumeralBabelModel", "finds", "(III)I"⟩, 39) := ⟨⟨by decide +kernel, by decide +kernel⟩, List.mem_of_getElem? (i := 828) (by decide +kernel), List.mem_of_getElem? (i := 1030) (by decide +kernel), List.mem_of_getElem? (i := 1031) (by decide +kernel)⟩
theorem lw_p60 : lw_okq (⟨"NumeralBabelModel", "names", "(II)Z"⟩, 39) := ⟨⟨by decide +kernel, by decide +kernel⟩, List.mem_of_getElem? (i := 828) (by decide +kernel), List.mem_of_getElem? (i := 1034) (by decide +kernel), List.mem_of_getElem? (i := 1035) (by decide +kernel)⟩
theorem lw_p61 : lw_okq (⟨"NumeralBabelModel", "waits", "(I)V"⟩, 39) := ⟨⟨by decide +kernel, by decide +kernel⟩, List.mem_of_getElem? (i := 828) (by decide +kernel), List.mem_of_getElem? (i := 1038) (by decide +kernel), List.mem_of_getElem? (i := 1039) (by decide +kernel)⟩
theorem lw_p62 : lw_okq (⟨"NumeralBabelModel", "parts", "(II)Z"⟩, 39) := ⟨⟨by decide +kernel, by decide +kernel⟩, List.mem_of_getElem? (i := 828) (by decide +kernel), List.mem_of_getElem? (i := 1042) (by decide +kernel), List.mem_of_getElem? (i := 1043) (by decide +kernel)⟩
theorem lw_p63 : lw_okq (⟨"NumeralBabelModel", "counts", "(II)I"⟩, 39) := ⟨⟨by decide +kernel, by decide +kernel⟩, List.mem_of_getElem? (i := 828) (by decide +kernel), List.mem_of_getElem? (i := 1046) (by decide +kernel), List.mem_of_getElem? (i := 1047) (by decide +kernel)⟩
def lw_privs_4 : List (MethodName × Nat) := [(⟨"NumeralBabel$Base", "set", "(II)V"⟩, 7), (⟨"NumeralBabel", "meetsExamples", "(LNumeralBabel$Grammar;)Z"⟩, 14), (⟨"NumeralBabel", "speakBySettings", "(LNumeralBabel$Grammar;LNumeralBabel$Base;III)V"⟩, 14), (⟨"NumeralBabel", "greatestAlike", "(I)I"⟩, 14), (⟨"NumeralBabel$Grammar", "leastNumberWith", "(I)I"⟩, 9), (⟨"NumeralBabel$Atoms", "leastWith", "(I)I"⟩, 3), (⟨"NumeralBabel$Cords", "clear", "()V"⟩, 3), (⟨"NumeralBabelModel", "atomAt", "(II)I"⟩, 39), (⟨"NumeralBabelModel", "can", "(I)Z"⟩, 39), (⟨"NumeralBabelModel", "isBase", "(II)Z"⟩, 39), (⟨"NumeralBabelModel", "formAt", "(III)I"⟩, 39), (⟨"NumeralBabelModel", "finds", "(III)I"⟩, 39), (⟨"NumeralBabelModel", "names", "(II)Z"⟩, 39), (⟨"NumeralBabelModel", "waits", "(I)V"⟩, 39), (⟨"NumeralBabelModel", "parts", "(II)Z"⟩, 39), (⟨"NumeralBabelModel", "counts", "(II)I"⟩, 39)]
theorem lw_r4 : ∀ q ∈ lw_privs_4, lw_okq q := List.forall_mem_cons.mpr ⟨lw_p48, List.forall_mem_cons.mpr ⟨lw_p49, List.forall_mem_cons.mpr ⟨lw_p50, List.forall_mem_cons.mpr ⟨lw_p51, List.forall_mem_cons.mpr ⟨lw_p52, List.forall_mem_cons.mpr ⟨lw_p53, List.forall_mem_cons.mpr ⟨lw_p54, List.forall_mem_cons.mpr ⟨lw_p55, List.forall_mem_cons.mpr ⟨lw_p56, List.forall_mem_cons.mpr ⟨lw_p57, List.forall_mem_cons.mpr ⟨lw_p58, List.forall_mem_cons.mpr ⟨lw_p59, List.forall_mem_cons.mpr ⟨lw_p60, List.forall_mem_cons.mpr ⟨lw_p61, List.forall_mem_cons.mpr ⟨lw_p62, List.forall_mem_cons.mpr ⟨lw_p63, fun _ h => absurd h List.not_mem_nil⟩⟩⟩⟩⟩⟩⟩⟩⟩⟩⟩⟩⟩⟩⟩⟩
theorem lw_p64 : lw_okq (⟨"NumeralBabelModel", "waitsProduct", "(II)Z"⟩, 39) := ⟨⟨by decide +kernel, by decide +kernel⟩, List.mem_of_getElem? (i := 828) (by decide +kernel), List.mem_of_getElem? (i := 1050) (by decide +kernel), List.mem_of_getElem? (i := 1051) (by decide +kernel)⟩
theorem lw_p65 : lw_okq (⟨"NumeralBabelModel", "waitsJoint", "(I)V"⟩, 39) := ⟨⟨by decide +kernel, by decide +kernel⟩, List.mem_of_getElem? (i := 828) (by decide +kernel), List.mem_of_getElem? (i := 1054) (by decide +kernel), List.mem_of_getElem? (i := 1055) (by decide +kernel)⟩
theorem lw_p66 : lw_okq (⟨"NumeralBabelModel", "product", "(II)V"⟩, 39) := ⟨⟨by decide +kernel, by decide +kernel⟩, List.mem_of_getElem? (i := 828) (by decide +kernel), List.mem_of_getElem? (i := 1058) (by decide +kernel), List.mem_of_getElem? (i := 1059) (by decide +kernel)⟩
theorem lw_p67 : lw_okq (⟨"NumeralBabelModel", "takesForm", "(II)V"⟩, 39) := ⟨⟨by decide +kernel, by decide +kernel⟩, List.mem_of_getElem? (i := 828) (by decide +kernel), List.mem_of_getElem? (i := 1062) (by decide +kernel), List.mem_of_getElem? (i := 1063) (by decide +kernel)⟩
theorem lw_p68 : lw_okq (⟨"NumeralBabelModel", "ends", "(IZ)I"⟩, 39) := ⟨⟨by decide +kernel, by decide +kernel⟩, List.mem_of_getElem? (i := 828) (by decide +kernel), List.mem_of_getElem? (i := 1066) (by decide +kernel), List.mem_of_getElem? (i := 1067) (by decide +kernel)⟩
theorem lw_p69 : lw_okq (⟨"NumeralBabelModel", "melts", "(I)V"⟩, 39) := ⟨⟨by decide +kernel, by decide +kernel⟩, List.mem_of_getElem? (i := 828) (by decide +kernel), List.mem_of_getElem? (i := 1070) (by decide +kernel), List.mem_of_getElem? (i := 1071) (by decide +kernel)⟩
theorem lw_p70 : lw_okq (⟨"NumeralBabelModel", "keepsSaying", "()I"⟩, 39) := ⟨⟨by decide +kernel, by decide +kernel⟩, List.mem_of_getElem? (i := 828) (by decide +kernel), List.mem_of_getElem? (i := 1074) (by decide +kernel), List.mem_of_getElem? (i := 1075) (by decide +kernel)⟩
theorem lw_p71 : lw_okq (⟨"NumeralBabelModel", "takesOrdinal", "(I)V"⟩, 39) := ⟨⟨by decide +kernel, by decide +kernel⟩, List.mem_of_getElem? (i := 828) (by decide +kernel), List.mem_of_getElem? (i := 1082) (by decide +kernel), List.mem_of_getElem? (i := 1083) (by decide +kernel)⟩
theorem lw_p72 : lw_okq (⟨"NumeralBabelModel", "canBound", "(IIIIZ)Z"⟩, 39) := ⟨⟨by decide +kernel, by decide +kernel⟩, List.mem_of_getElem? (i := 828) (by decide +kernel), List.mem_of_getElem? (i := 1110) (by decide +kernel), List.mem_of_getElem? (i := 1111) (by decide +kernel)⟩
theorem lw_p73 : lw_okq (⟨"NumeralBabelModel", "fitsIt", "(III)Z"⟩, 39) := ⟨⟨by decide +kernel, by decide +kernel⟩, List.mem_of_getElem? (i := 828) (by decide +kernel), List.mem_of_getElem? (i := 1114) (by decide +kernel), List.mem_of_getElem? (i := 1115) (by decide +kernel)⟩
theorem lw_p74 : lw_okq (⟨"NumeralBabelModel", "isHeard", "()Z"⟩, 39) := ⟨⟨by decide +kernel, by decide +kernel⟩, List.mem_of_getElem? (i := 828) (by decide +kernel), List.mem_of_getElem? (i := 1118) (by decide +kernel), List.mem_of_getElem? (i := 1119) (by decide +kernel)⟩
theorem lw_p75 : lw_okq (⟨"NumeralBabelModel", "keepsRow", "(I)V"⟩, 39) := ⟨⟨by decide +kernel, by decide +kernel⟩, List.mem_of_getElem? (i := 828) (by decide +kernel), List.mem_of_getElem? (i := 1130) (by decide +kernel), List.mem_of_getElem? (i := 1131) (by decide +kernel)⟩
theorem lw_p76 : lw_okq (⟨"NumeralBabelModel", "greatestAt", "(II)I"⟩, 39) := ⟨⟨by decide +kernel, by decide +kernel⟩, List.mem_of_getElem? (i := 828) (by decide +kernel), List.mem_of_getElem? (i := 1134) (by decide +kernel), List.mem_of_getElem? (i := 1135) (by decide +kernel)⟩
theorem lw_p77 : lw_okq (⟨"NumeralBabelModel", "areAlike", "(II)Z"⟩, 39) := ⟨⟨by decide +kernel, by decide +kernel⟩, List.mem_of_getElem? (i := 828) (by decide +kernel), List.mem_of_getElem? (i := 1146) (by decide +kernel), List.mem_of_getElem? (i := 1147) (by decide +kernel)⟩
theorem lw_p78 : lw_okq (⟨"NumeralBabelModel", "fitting", "(III)J"⟩, 39) := ⟨⟨by decide +kernel, by decide +kernel⟩, List.mem_of_getElem? (i := 828) (by decide +kernel), List.mem_of_getElem? (i := 1162) (by decide +kernel), List.mem_of_getElem? (i := 1163) (by decide +kernel)⟩
theorem lw_p79 : lw_okq (⟨"NumeralBabelModel", "sets", "(III)V"⟩, 39) := ⟨⟨by decide +kernel, by decide +kernel⟩, List.mem_of_getElem? (i := 828) (by decide +kernel), List.mem_of_getElem? (i := 1166) (by decide +kernel), List.mem_of_getElem? (i := 1167) (by decide +kernel)⟩
def lw_privs_5 : List (MethodName × Nat) := [(⟨"NumeralBabelModel", "waitsProduct", "(II)Z"⟩, 39), (⟨"NumeralBabelModel", "waitsJoint", "(I)V"⟩, 39), (⟨"NumeralBabelModel", "product", "(II)V"⟩, 39), (⟨"NumeralBabelModel", "takesForm", "(II)V"⟩, 39), (⟨"NumeralBabelModel", "ends", "(IZ)I"⟩, 39), (⟨"NumeralBabelModel", "melts", "(I)V"⟩, 39), (⟨"NumeralBabelModel", "keepsSaying", "()I"⟩, 39), (⟨"NumeralBabelModel", "takesOrdinal", "(I)V"⟩, 39), (⟨"NumeralBabelModel", "canBound", "(IIIIZ)Z"⟩, 39), (⟨"NumeralBabelModel", "fitsIt", "(III)Z"⟩, 39), (⟨"NumeralBabelModel", "isHeard", "()Z"⟩, 39), (⟨"NumeralBabelModel", "keepsRow", "(I)V"⟩, 39), (⟨"NumeralBabelModel", "greatestAt", "(II)I"⟩, 39), (⟨"NumeralBabelModel", "areAlike", "(II)Z"⟩, 39), (⟨"NumeralBabelModel", "fitting", "(III)J"⟩, 39), (⟨"NumeralBabelModel", "sets", "(III)V"⟩, 39)]
theorem lw_r5 : ∀ q ∈ lw_privs_5, lw_okq q := List.forall_mem_cons.mpr ⟨lw_p64, List.forall_mem_cons.mpr ⟨lw_p65, List.forall_mem_cons.mpr ⟨lw_p66, List.forall_mem_cons.mpr ⟨lw_p67, List.forall_mem_cons.mpr ⟨lw_p68, List.forall_mem_cons.mpr ⟨lw_p69, List.forall_mem_cons.mpr ⟨lw_p70, List.forall_mem_cons.mpr ⟨lw_p71, List.forall_mem_cons.mpr ⟨lw_p72, List.forall_mem_cons.mpr ⟨lw_p73, List.forall_mem_cons.mpr ⟨lw_p74, List.forall_mem_cons.mpr ⟨lw_p75, List.forall_mem_cons.mpr ⟨lw_p76, List.forall_mem_cons.mpr ⟨lw_p77, List.forall_mem_cons.mpr ⟨lw_p78, List.forall_mem_cons.mpr ⟨lw_p79, fun _ h => absurd h List.not_mem_nil⟩⟩⟩⟩⟩⟩⟩⟩⟩⟩⟩⟩⟩⟩⟩⟩
theorem lw_p80 : lw_okq (⟨"NumeralBabelModel", "fitsAll", "(I)Z"⟩, 39) := ⟨⟨by decide +kernel, by decide +kernel⟩, List.mem_of_getElem? (i := 828) (by decide +kernel), List.mem_of_getElem? (i := 1170) (by decide +kernel), List.mem_of_getElem? (i := 1171) (by decide +kernel)⟩
theorem lw_p81 : lw_okq (⟨"NumeralBabelModel", "isExample", "(I)Z"⟩, 39) := ⟨⟨by decide +kernel, by decide +kernel⟩, List.mem_of_getElem? (i := 828) (by decide +kernel), List.mem_of_getElem? (i := 1174) (by decide +kernel), List.mem_of_getElem? (i := 1175) (by decide +kernel)⟩
theorem lw_p82 : lw_okq (⟨"NumeralBabelModel", "greatestBy", "(IIIJI)I"⟩, 39) := ⟨⟨by decide +kernel, by decide +kernel⟩, List.mem_of_getElem? (i := 828) (by decide +kernel), List.mem_of_getElem? (i := 1189) (by decide +kernel), List.mem_of_getElem? (i := 1190) (by decide +kernel)⟩
def lw_privs_6 : List (MethodName × Nat) := [(⟨"NumeralBabelModel", "fitsAll", "(I)Z"⟩, 39), (⟨"NumeralBabelModel", "isExample", "(I)Z"⟩, 39), (⟨"NumeralBabelModel", "greatestBy", "(IIIJI)I"⟩, 39)]
theorem lw_r6 : ∀ q ∈ lw_privs_6, lw_okq q := List.forall_mem_cons.mpr ⟨lw_p80, List.forall_mem_cons.mpr ⟨lw_p81, List.forall_mem_cons.mpr ⟨lw_p82, fun _ h => absurd h List.not_mem_nil⟩⟩⟩
def lw_privs : List (MethodName × Nat) := lw_privs_1 ++ (lw_privs_2 ++ (lw_privs_3 ++ (lw_privs_4 ++ (lw_privs_5 ++ (lw_privs_6)))))
def lw_tbl : List Cond := k2_sels lw_privs ++ tables_1
theorem lw_privs_ok : ∀ q ∈ lw_privs, lw_okq q := by
  show ∀ q ∈ lw_privs_1 ++ (lw_privs_2 ++ (lw_privs_3 ++ (lw_privs_4 ++ (lw_privs_5 ++ (lw_privs_6))))), lw_okq q
  exact List.forall_mem_append.mpr ⟨lw_r1, List.forall_mem_append.mpr ⟨lw_r2, List.forall_mem_append.mpr ⟨lw_r3, List.forall_mem_append.mpr ⟨lw_r4, List.forall_mem_append.mpr ⟨lw_r5, lw_r6⟩⟩⟩⟩⟩
end
section
/-! ===== BEGIN words of one list among another's, by their places ===== -/
theorem goodIn_r {big : List Cond} (ws : List Cond) (ps : List Nat) (hp : ws = ps.filterMap (fun i => big[i]?)) (h : ws.all goodWord = true) : GoodIn big ws := by
  intro w hw
  have h1 := List.all_eq_true.mp h w hw
  rw [hp] at hw
  obtain ⟨i, -, hi⟩ := List.mem_filterMap.mp hw
  have hm : w ∈ big := by first | exact List.mem_of_getElem? hi | exact List.getElem?_mem hi
  exact ⟨hm, good_of_word h1⟩
theorem goodIn_app {big a b : List Cond} (ha : GoodIn big a) (hb : GoodIn big b) : GoodIn big (a ++ b) := fun w h => (List.mem_append.mp h).elim (ha w) (hb w)
theorem goodIn_ca {big a b : List Cond} {c : Cond} (ha : GoodIn big (c :: a)) (hb : GoodIn big b) : GoodIn big (c :: (a ++ b)) := fun w h => (List.mem_cons.mp h).elim (fun e => ha w (List.mem_cons.mpr (Or.inl e))) (fun h => (List.mem_append.mp h).elim (fun h => ha w (List.mem_cons.mpr (Or.inr h))) (hb w))
theorem goodIn_sub {big ws : List Cond} (hm : ∀ w ∈ ws, w ∈ big) (h : ws.all goodWord = true) : GoodIn big ws := fun w hw => ⟨hm w hw, good_of_word (List.all_eq_true.mp h w hw)⟩
/-! ===== END ===== -/

/-! ===== BEGIN exceptions that leave a method, and their catching by the caller (launches without stack traces) ===== -/
section VXA
/-! The laws vx_back, vx_callV, vx_callS, vx_callSW, vx_throw0, vx_throwS follow proofs of the library, with one case more: JvmDerived/Free/Laws.lean (Back.of_free), Shelf42/LK1.lean (callV, callS), Shelf/KitTraced.lean (throwNew0V, throwNewS). -/
/-- where a method has thrown q: the class by its name, the cell, what was written, the world -/
def vx_T (XC : String → State → State → Prop) (st : State) (q : Addr) (t : State) (mc ms : Nat) (free : Addr → Prop) : Prop :=
  ∃ (E : String) (ce : Cell) (L : List Loc), XC E st t ∧ t.heap[q]? = some ce ∧ ce.vm = .none ∧ st.vm.findClass E = some ce.cls ∧ st.WarmedH t.vm ∧ st.sameButNew ({ t with vm := st.vm } : State) L mc ms ∧ ∀ z ∈ L, free z.base
def vx_Q (Qc : Array Value → State → Outcome → State → Prop) (XC : String → State → State → Prop) (mc ms : Nat) (free : Addr → Prop) : Array Value → State → Outcome → State → Prop := fun a st o t =>
  (Qc a st o t ∧ ∃ L, FrameEnd st o t L mc ms ∧ ∀ q ∈ L, free q.base) ∨ ∃ q, o = .threw q ∧ vx_T XC st q t mc ms free
/-- a callee that returns or throws -/
def vx_Met (l : Launch) (y : MethodName) (ws : List Cond) (rm : Room) (Pc : Array Value → State → Prop) (Qc : Array Value → State → Outcome → State → Prop) (XC : String → State → State → Prop) (mc ms : Nat) (free : Addr → Prop) : Prop :=
  MetFree l y (headSpec ws rm) Pc (fun _ _ _ _ _ => True) (vx_Q Qc XC mc ms free)
def vx_Post (XC : String → State → State → Prop) (mc ms : Nat) (free : Addr → Prop) : Pt → Array Value → Addr → Pt → Prop := fun A a q B =>
  ∃ (g : JFrame) (mk : MethodId) (t : State) (L : List Loc) (E : String) (ce : Cell), B.U.heap = t.heap ∧ B.U.vm = t.vm ∧ XC E (A.U.calling g mk a) t ∧ t.heap[q]? = some ce ∧ ce.vm = .none ∧ A.U.vm.findClass E = some ce.cls ∧ B.locs = A.locs ++ L ∧ (∀ z ∈ L, free z.base) ∧ B.cells = A.cells + mc ∧ B.slots = A.slots + ms
def vx_Back (l : Launch) (R : Room) (p : Program) (e : Env) (below : List Frame) (s : State) (sargs : Array Value) (y : MethodName) (len W9 : Nat)
    (Pre : Pt → Array Value → Prop) (Post : Pt → Array Value → Option Value → Pt → Prop) (PostX : Pt → Array Value → Addr → Pt → Prop) : Prop :=
  ∀ (m : MethodId) (meth : Method) (c : Code) (A : Pt) (g : JFrame) (ig : Instr) (mk : MethodId) (a : Array Value),
    Stand p l e R s m sargs below meth c A.U A.locs A.cells A.slots → g.method = m → g.locals.size = c.maxLocals → decode c.code g.pc = .ok (ig, len) →
    2 * g.monitorRoom + (g.stack.map fun v => v.category).sum ≤ W9 → A.U.methodNamed? y = some mk → Pre A a →
    (∃ (v : Option Value) (B : Pt), Stand p l e R s m sargs below meth c B.U B.locs B.cells B.slots ∧ Post A a v B ∧
      Steps p.tables e below (doInvoke e (A.U.setTop g) [] mk a).1 (B.U.setTop { g with pc := g.pc + len, stack := v.toList ++ g.stack })) ∨
    (∃ (q : Addr) (B : Pt), Stand p l e R s m sargs below meth c B.U B.locs B.cells B.slots ∧ PostX A a q B ∧
      Steps p.tables e below (doInvoke e (A.U.setTop g) [] mk a).1 ((B.U.setTop g).pushFrame (.throwing q)))
section Payer
variable {l : Launch} {R : Room} {p : Program} {e : Env} {below : List Frame} {s : State} {sargs : Array Value} {y : MethodName} {len W9 : Nat}
theorem vx_back {ws : List Cond} {rm : Room} {Pc : Array Value → State → Prop} {Qc : Array Value → State → Outcome → State → Prop} {XC : String → State → State → Prop} {mc ms : Nat} {free : Addr → Prop} {bytes : ByteArray} {maxL : Nat} {ret : Option FieldType}
    (hM : vx_Met l y ws rm Pc Qc XC mc ms free) (hblind : FrameBlind Pc) (hrc : rm.cells = mc) (hrs : rm.slots = ms)
    (hframes : rm.frames + 1 ≤ R.frames) (hlocals : W9 + (maxL + 11) + rm.locals ≤ R.locals)
    (hws : ∀ w ∈ ws, ∀ a' U, s.WarmedH U.vm → w.before a' U = true) (hcode : Cond.code y bytes maxL ret ∈ ws) (hinit : ∀ a' U, s.WarmedH U.vm → (Cond.initialized y.cls).before a' U = true) :
    vx_Back l R p e below s sargs y len W9 (PreOf R mc ms Pc) (PostOf Qc mc ms free) (vx_Post XC mc ms free) := by
  intro m meth c A g ig mk a X hg hsize hdg hW hn hp
  have h1 : (headSpec ws rm).pre.before a A.U = true := atoms_intro fun w hw => hws w hw _ _ X.warmed
  have h2 : (Cond.code y bytes maxL ret).before a A.U = true := hws _ hcode _ _ X.warmed
  have h3 : (Cond.initialized y.cls).before a A.U = true := hinit _ _ X.warmed
  have h4 : A.cells + (headSpec ws rm).room.cells ≤ R.cells := by rw [show (headSpec ws rm).room.cells = mc from hrc]; exact hp.1
  have h5 : A.slots + (headSpec ws rm).room.slots ≤ R.slots := by rw [show (headSpec ws rm).room.slots = ms from hrs]; exact hp.2.1
  have hPc : Pc a (A.U.calling g mk a) := hblind _ _ _ _ hp.2.2
  obtain ⟨U, Ls, c0, s0⟩ := A
  dsimp only [Pt.U, Pt.locs, Pt.cells, Pt.slots] at h1 h2 h3 h4 h5 X hn hPc ⊢
  obtain ⟨methY, cY, hmY, hcY, -, hlY, -, -, -, -⟩ := Cond.code_spec hn h2
  obtain ⟨kY, hkY, -⟩ := className_of_methodNamed hn
  have hinitY : kY.init = .initialized := Cond.initialized_spec (findClass_of_methodNamed hn) hkY h3
  have h : At U g.method c below := by rw [hg]; exact X.here
  have hlocals9 : W9 + (maxL + 11) + (headSpec ws rm).room.locals ≤ R.locals := hlocals
  have happ : (headSpec ws rm).appliesLoose y e.platform (U.calling g mk a) = true :=
    Spec.appliesLoose_calling (g := g) h hdg hn hkY hinitY
      (X.room_calling (g := g) (R' := (headSpec ws rm).room) hsize hmY hcY hframes (by rw [hlY]; omega) h4 h5) h1
  obtain ⟨mid, hmid⟩ := h.above
  have hfr : (U.setTop g).frames = (.java g :: mid) ++ below := by rw [State.frames_setTop' g h.top, hmid]; rfl
  obtain ⟨o, s₂, hsteps, -, hend, hq⟩ := Steps.callFree hM p X.admits X.cas X.clock (acts := []) hfr happ hPc trivial
  have hq' : vx_Q Qc XC mc ms free a (U.calling g mk a) o s₂ := hq
  rw [State.frames_setTop' g h.top] at hend
  obtain ⟨g₀, hg0⟩ := Option.isSome_iff_exists.mp h.top
  obtain ⟨r, hr⟩ := State.topJava?_eq_some.mp hg0
  have hr' : (({ U with heap := s₂.heap, slotsUsed := s₂.slotsUsed } : State).setVm s₂.vm).frames = .java g₀ :: r := hr
  rcases hq' with ⟨hqc, L, hfe, hL⟩ | ⟨q, rfl, E, ce, L, hx, hce, hcv, hcl, hW₂, hsm, hL⟩
  · obtain ⟨⟨v, rfl⟩, hW₂, e2, q2, q3, q4, q5, q6⟩ := id hfe
    have e3 : s₂ = ({ (U.calling g mk a).setFrames s₂.frames with heap := s₂.heap, slotsUsed := s₂.slotsUsed } : State).setVm s₂.vm := by
      have : s₂ = ({ s₂ with vm := (U.calling g mk a).vm } : State).setVm s₂.vm := rfl
      rw [e2] at this
      exact this
    obtain ⟨c₂, i₂, len₂, hc₂, hd₂, hf₂⟩ := hend
    have hW' : U.WarmedH s₂.vm := hW₂
    have hcc : c₂ = c := by
      have h1 : s₂.code? g.method = U.code? g.method := by
        rw [State.code?_eq, State.code?_eq, hW'.alike.method?]
      exact Option.some.inj (hc₂.symm.trans (h1.trans h.code))
    subst hcc
    have hlen : len₂ = len := by rw [hdg] at hd₂; cases hd₂; rfl
    subst hlen
    have hs₂ : s₂ = (({ U with heap := s₂.heap, slotsUsed := s₂.slotsUsed } : State).setVm s₂.vm).setTop { g with pc := g.pc + len₂, stack := v.toList ++ g.stack } := by
      refine e3.trans ?_
      rw [hf₂, State.calling_eq h.top, State.setFrames_setFrames, State.setTop_of_frames _ hr', hr]
      rfl
    have hsame : U.sameButNew ({ U with heap := s₂.heap, slotsUsed := s₂.slotsUsed } : State) L mc ms := by
      refine ⟨?_, q2, q3, q4, q5, q6⟩
      obtain ⟨t, ht, -⟩ := State.frames_cons hr
      show ({ U with heap := s₂.heap, slotsUsed := s₂.slotsUsed } : State) = { U.setFrames U.frames with heap := s₂.heap, slotsUsed := s₂.slotsUsed }
      rw [State.setFrames_self ht]
    subst hg
    refine Or.inl ⟨v, ⟨(({ U with heap := s₂.heap, slotsUsed := s₂.slotsUsed } : State).setVm s₂.vm), Ls ++ L, c0 + mc, s0 + ms⟩,
      ⟨X.admits, X.cas, X.clock, X.frames, X.room, X.hears, X.method, X.code, (X.here.setHeapUsed s₂.heap s₂.slotsUsed).setVm hW'.alike, X.tail, State.WarmedH.trans X.warmed hW', X.limits, X.bytes, X.same.trans (hsame.setVm s.vm)⟩,
      ⟨g, mk, s₂, L, rfl, rfl, hqc, rfl, hL, rfl, rfl⟩, ?_⟩
    show Steps p.tables e below _ ((({ U with heap := s₂.heap, slotsUsed := s₂.slotsUsed } : State).setVm s₂.vm).setTop { g with pc := g.pc + len₂, stack := v.toList ++ g.stack })
    rw [← hs₂]
    exact hsteps
  · obtain ⟨e2, q2, q3, q4, q5, q6⟩ := id hsm
    have e3 : s₂ = ({ (U.calling g mk a).setFrames s₂.frames with heap := s₂.heap, slotsUsed := s₂.slotsUsed } : State).setVm s₂.vm := by
      have : s₂ = ({ s₂ with vm := (U.calling g mk a).vm } : State).setVm s₂.vm := rfl
      rw [e2] at this
      exact this
    have hf₂ : s₂.frames = .throwing q :: .java g :: U.frames.tail := hend
    have hW' : U.WarmedH s₂.vm := hW₂
    have hs₂ : s₂ = ((({ U with heap := s₂.heap, slotsUsed := s₂.slotsUsed } : State).setVm s₂.vm).setTop g).pushFrame (.throwing q) := by
      refine e3.trans ?_
      rw [hf₂, State.calling_eq h.top, State.setFrames_setFrames, State.pushFrame, State.frames_setTop _ hr', State.setTop_of_frames _ hr', State.setFrames_setFrames, hr]
      rfl
    have hsame : U.sameButNew ({ U with heap := s₂.heap, slotsUsed := s₂.slotsUsed } : State) L mc ms := by
      refine ⟨?_, q2, q3, q4, q5, q6⟩
      obtain ⟨t, ht, -⟩ := State.frames_cons hr
      show ({ U with heap := s₂.heap, slotsUsed := s₂.slotsUsed } : State) = { U.setFrames U.frames with heap := s₂.heap, slotsUsed := s₂.slotsUsed }
      rw [State.setFrames_self ht]
    subst hg
    refine Or.inr ⟨q, ⟨(({ U with heap := s₂.heap, slotsUsed := s₂.slotsUsed } : State).setVm s₂.vm), Ls ++ L, c0 + mc, s0 + ms⟩,
      ⟨X.admits, X.cas, X.clock, X.frames, X.room, X.hears, X.method, X.code, (X.here.setHeapUsed s₂.heap s₂.slotsUsed).setVm hW'.alike, X.tail, State.WarmedH.trans X.warmed hW', X.limits, X.bytes, X.same.trans (hsame.setVm s.vm)⟩,
      ⟨g, mk, s₂, L, E, ce, rfl, rfl, hx, hce, hcv, hcl, rfl, hL, rfl, rfl⟩, ?_⟩
    show Steps p.tables e below _ (((({ U with heap := s₂.heap, slotsUsed := s₂.slotsUsed } : State).setVm s₂.vm).setTop g).pushFrame (.throwing q))
    rw [← hs₂]
    exact hsteps
end Payer
section Calls
variable {p : Program} {l : Launch} {e : Env} {R : Room} {s : State} {m : MethodId} {args : Array Value} {below : List Frame} {meth : Method} {c : Code} {T : State} {locs : List Loc} {cells slots : Nat}
theorem vx_callV (X : Stand p l e R s m args below meth c T locs cells slots) (hexec : p.tables.exec = Jvm.exec) {own C : String} {index : Nat} {y : MethodName} {bytes : ByteArray} {maxL : Nat} {ret : Option FieldType}
    (hown : s.vm.findClass own = some m.cls) (hlink : (Cond.methodLink own index y).before args s = true) (hinst : (Cond.instanceMethod y).before args s = true) (hsel : (Cond.selects C y y).before args s = true)
    (hcode : (Cond.code y bytes maxL ret).before args s = true) (hy : y.cls ≠ "java/lang/invoke/MethodHandle" ∧ y.cls ≠ "java/lang/invoke/VarHandle")
    {W9 : Nat} {Pre : Pt → Array Value → Prop} {Post : Pt → Array Value → Option Value → Pt → Prop} {PostX : Pt → Array Value → Addr → Pt → Prop} (hK : vx_Back l R p e below s args y 3 W9 Pre Post PostX)
    {b : Addr} {cellB : Cell} (hcell : T.heap[b]? = some cellB) (hobj : cellB.vm.isStatics = false) (hcls : s.vm.findClass C = some cellB.cls)
    {g : JFrame} (hg : g.method = m) (hsize : g.locals.size = c.maxLocals) {argsL rest : List Value} (hlen : ∀ sig, parseMethodDescriptor y.desc = some sig → argsL.length = sig.parameters.length)
    (hstack : g.stack = argsL.reverse ++ .ref b :: rest) (hW : 2 * g.monitorRoom + (rest.map fun v => v.category).sum ≤ W9) (hdg : decode c.code g.pc = .ok (.invokevirtual index, 3))
    (hpre : ∀ vm₁, s.WarmedH vm₁ → Pre ⟨T.setVm vm₁, locs, cells, slots⟩ (Value.ref b :: argsL).toArray) :
    (∃ (v : Option Value) (vm₁ : Vm) (B : Pt), s.WarmedH vm₁ ∧ Stand p l e R s m args below meth c B.U B.locs B.cells B.slots ∧ Post ⟨T.setVm vm₁, locs, cells, slots⟩ (Value.ref b :: argsL).toArray v B ∧
      ∀ target, Steps p.tables e below (B.U.setTop { g with pc := g.pc + 3, stack := v.toList ++ rest }) target → Steps p.tables e below (T.setTop g) target) ∨
    (∃ (q : Addr) (vm₁ : Vm) (B : Pt), s.WarmedH vm₁ ∧ Stand p l e R s m args below meth c B.U B.locs B.cells B.slots ∧ PostX ⟨T.setVm vm₁, locs, cells, slots⟩ (Value.ref b :: argsL).toArray q B ∧
      Steps p.tables e below (T.setTop g) ((B.U.setTop { g with stack := rest }).pushFrame (.throwing q))) := by
  obtain ⟨mk, methM, hnamed, hmethM, hstM, habM⟩ := Cond.instanceMethod_spec hinst
  obtain ⟨methM', cM, hmethM', -, -, -, -, -, -, hsigM⟩ := Cond.code_spec hnamed hcode
  cases hmethM.symm.trans hmethM'
  obtain ⟨c2, r2, m2, q1, q2, q3, q4, kP, hkP, hkPi⟩ := Cond.selects_spec hsel
  cases hcls.symm.trans q1
  cases (State.methodFound?_of_named hnamed hy).symm.trans q2
  cases hnamed.symm.trans q3
  have hselP : selectMethod e.platform s.vm cellB.cls mk = .method mk := by rw [Launch.admits_selectMethod X.admits]; exact q4
  obtain ⟨vm₁, X₁, hstep₁⟩ := X.invokevirtual hexec hown hlink hnamed hmethM hstM hkP hkPi hy (a := b) (cell := cellB) hcell
    (fun z h => by rw [h] at hobj; cases hobj) hselP hmethM habM hkP hkPi (g := g) hg (argsL := argsL) (rest := rest) (hlen _ hsigM) hstack hdg
  rcases hK m meth c ⟨T.setVm vm₁, locs, cells, slots⟩ { g with stack := rest } (.invokevirtual index) mk (Value.ref b :: argsL).toArray X₁ hg hsize hdg hW (X₁.named hnamed) (hpre vm₁ X₁.warmed) with ⟨v, B, X', hpost, hsteps⟩ | ⟨q, B, X', hpost, hsteps⟩
  · exact Or.inl ⟨v, vm₁, B, X₁.warmed, X', hpost, fun target h => hstep₁ _ fun acts => by rw [doInvoke_state]; exact hsteps.trans h⟩
  · exact Or.inr ⟨q, vm₁, B, X₁.warmed, X', hpost, hstep₁ _ fun acts => by rw [doInvoke_state]; exact hsteps⟩
theorem vx_callS (X : Stand p l e R s m args below meth c T locs cells slots) (hexec : p.tables.exec = Jvm.exec) {own : String} {index : Nat} {y : MethodName} {bytes : ByteArray} {maxL : Nat} {ret : Option FieldType}
    (hown : s.vm.findClass own = some m.cls) (hlink : (Cond.methodLink own index y).before args s = true) (hstat : (Cond.static y).before args s = true) (hinit : (Cond.initialized y.cls).before args s = true)
    (hcode : (Cond.code y bytes maxL ret).before args s = true) (hy : y.cls ≠ "java/lang/invoke/MethodHandle" ∧ y.cls ≠ "java/lang/invoke/VarHandle")
    {W9 : Nat} {Pre : Pt → Array Value → Prop} {Post : Pt → Array Value → Option Value → Pt → Prop} {PostX : Pt → Array Value → Addr → Pt → Prop} (hK : vx_Back l R p e below s args y 3 W9 Pre Post PostX)
    {g : JFrame} (hg : g.method = m) (hsize : g.locals.size = c.maxLocals) {argsL rest : List Value} (hlen : ∀ sig, parseMethodDescriptor y.desc = some sig → argsL.length = sig.parameters.length)
    (hstack : g.stack = argsL.reverse ++ rest) (hW : 2 * g.monitorRoom + (rest.map fun v => v.category).sum ≤ W9) (hdg : decode c.code g.pc = .ok (.invokestatic index, 3))
    (hpre : ∀ vm₁, s.WarmedH vm₁ → Pre ⟨T.setVm vm₁, locs, cells, slots⟩ argsL.toArray) :
    (∃ (v : Option Value) (vm₁ : Vm) (B : Pt), s.WarmedH vm₁ ∧ Stand p l e R s m args below meth c B.U B.locs B.cells B.slots ∧ Post ⟨T.setVm vm₁, locs, cells, slots⟩ argsL.toArray v B ∧
      ∀ target, Steps p.tables e below (B.U.setTop { g with pc := g.pc + 3, stack := v.toList ++ rest }) target → Steps p.tables e below (T.setTop g) target) ∨
    (∃ (q : Addr) (vm₁ : Vm) (B : Pt), s.WarmedH vm₁ ∧ Stand p l e R s m args below meth c B.U B.locs B.cells B.slots ∧ PostX ⟨T.setVm vm₁, locs, cells, slots⟩ argsL.toArray q B ∧
      Steps p.tables e below (T.setTop g) ((B.U.setTop { g with stack := rest }).pushFrame (.throwing q))) := by
  obtain ⟨mk, hnamed⟩ := Cond.code_named hcode
  obtain ⟨methM, cM, hmethM, -, -, -, -, -, -, hsigM⟩ := Cond.code_spec hnamed hcode
  have hstatic : methM.isStatic = true := Cond.static_spec hnamed hmethM hstat
  obtain ⟨kP, hkP, -⟩ := className_of_methodNamed hnamed
  have hinitP : kP.init = .initialized := Cond.initialized_spec (findClass_of_methodNamed hnamed) hkP hinit
  obtain ⟨vm₁, X₁, hstep₁⟩ := X.invokestatic hexec hown hlink hnamed hmethM hstatic hkP hinitP hy (g := g) hg (argsL := argsL) (rest := rest) (hlen _ hsigM) hstack hdg
  rcases hK m meth c ⟨T.setVm vm₁, locs, cells, slots⟩ { g with stack := rest } (.invokestatic index) mk argsL.toArray X₁ hg hsize hdg hW (X₁.named hnamed) (hpre vm₁ X₁.warmed) with ⟨v, B, X', hpost, hsteps⟩ | ⟨q, B, X', hpost, hsteps⟩
  · exact Or.inl ⟨v, vm₁, B, X₁.warmed, X', hpost, fun target h => hstep₁ _ fun acts => by rw [doInvoke_state]; exact hsteps.trans h⟩
  · exact Or.inr ⟨q, vm₁, B, X₁.warmed, X', hpost, hstep₁ _ fun acts => by rw [doInvoke_state]; exact hsteps⟩
end Calls
theorem vx_cls {s : State} {T : State} {vm₁ : Vm} {E : String} {k : ClassId} (hW : s.WarmedH vm₁) (h : (T.setVm vm₁).vm.findClass E = some k) : s.vm.findClass E = some k := by
  have h1 : vm₁.findClass E = some k := h
  rw [hW.alike.findClass] at h1
  exact h1
/-- the method's frame g, with q thrown over it -/
def vx_W (p : Program) (l : Launch) (e : Env) (R : Room) (s : State) (m : MethodId) (args : Array Value) (below : List Frame) (meth : Method) (c : Code) (H : Heap) (locs : List Loc) (cells slots : Nat) (Q : State → Prop) (g : JFrame) (q : Addr) : Prop :=
  ∀ T : State, T.heap = H → Stand p l e R s m args below meth c T locs cells slots → ∃ t, Steps p.tables e below ((T.setTop g).pushFrame (.throwing q)) t ∧ Q t
def vx_Run (p : Program) (l : Launch) (e : Env) (R : Room) (s : State) (m : MethodId) (args : Array Value) (below : List Frame) (meth : Method) (c : Code) (H : Heap) (locs : List Loc) (cells slots mc ms : Nat) (g : JFrame) (rest : List Value) (Qa : State → Outcome → State → Prop) (XC : String → State → State → Prop) (free : Addr → Prop) : Prop :=
  ∀ T : State, T.heap = H → Stand p l e R s m args below meth c T locs cells slots →
    (∃ (v : Option Value) (st₀ t T' : State) (L : List Loc), st₀.heap = H ∧ Stand p l e R s m args below meth c T' (locs ++ L) (cells + mc) (slots + ms) ∧ (∀ q ∈ L, free q.base) ∧ T'.heap = t.heap ∧ T'.vm = t.vm ∧ Qa st₀ (.returned v) t ∧
      Goes p e below T g T' { g with pc := g.pc + 3, stack := v.toList ++ rest }) ∨
    (∃ (q : Addr) (st₀ t T' : State) (L : List Loc) (E : String) (ce : Cell), st₀.heap = H ∧ Stand p l e R s m args below meth c T' (locs ++ L) (cells + mc) (slots + ms) ∧ (∀ z ∈ L, free z.base) ∧ T'.heap = t.heap ∧ T'.vm = t.vm ∧ XC E st₀ t ∧ t.heap[q]? = some ce ∧ ce.vm = .none ∧ s.vm.findClass E = some ce.cls ∧
      Steps p.tables e below (T.setTop g) ((T'.setTop { g with stack := rest }).pushFrame (.throwing q)))
def vx_X {S : Type} (px : S → Prop) (B : String → S → State → Prop) (A : Nat → Prop) : String → State → State → Prop := fun E st t => ∃ u : S, px u ∧ B E u t ∧ va_F A st t
section Runs
variable {p : Program} {l : Launch} {e : Env} {R : Room} {s : State} {m : MethodId} {args : Array Value} {below : List Frame} {meth : Method} {c : Code} {H : Heap} {locs : List Loc} {cells slots : Nat}
variable {y : MethodName} {bytes cc : ByteArray} {maxL nL mc ms n index : Nat} {ret : Option FieldType} {ws : List Cond} {rm : Room} {Pc : Array Value → State → Prop} {Qc : Array Value → State → Outcome → State → Prop} {XC : String → State → State → Prop} {free : Addr → Prop} {Ts : List Cond} {own C : String} {b : Addr} {As rest : List Value} {g : JFrame}
theorem vx_callBack (cb : CallB R s args own index y bytes maxL ret ws rm mc ms n) (hM : vx_Met l y ws rm Pc Qc XC mc ms free) (hbl : FrameBlind Pc) : vx_Back l R p e below s args y 3 8 (PreOf R mc ms Pc) (PostOf Qc mc ms free) (vx_Post XC mc ms free) := by
  obtain ⟨hrc, hrs, hfr, hlo, hws, hcw, -, hini, -⟩ := cb
  exact vx_back (bytes := bytes) (maxL := maxL) (ret := ret) hM hbl hrc hrs hfr hlo hws hcw (fun a' U hW => word_at hW (Or.inl (by first | rfl | simp [Cond.onTables, Cond.keeps, Cond.steady])) hini)
theorem vx_runV (S : CallFix p m c cc nL s args Ts own) (hM : vx_Met l y ws rm Pc Qc XC mc ms free) (cw : CallW R s args own C index y bytes maxL ret ws rm mc ms n) (hp : PreV s H C b Pc As)
    (hg : g.method = m) (hn : As.length = n) (hsize : g.locals.size = nL) (hstack : g.stack = As.reverse ++ .ref b :: rest) (hW : 2 * g.monitorRoom + (rest.map fun v => v.category).sum ≤ 8) (hdg : decode cc g.pc = .ok (.invokevirtual index, 3)) (hf : cells + mc ≤ R.cells ∧ slots + ms ≤ R.slots) :
    vx_Run p l e R s m args below meth c H locs cells slots mc ms g rest (Qc (Value.ref b :: As).toArray) XC free := by
  have hK : vx_Back l R p e below s args y 3 8 (PreOf R mc ms Pc) (PostOf Qc mc ms free) (vx_Post XC mc ms free) := vx_callBack cw.1 hM hp.1
  obtain ⟨⟨-, -, -, -, -, -, hcode, -, hy, hlen, hl⟩, hin, hse⟩ := cw
  obtain ⟨hx, hb, hml, ho, -⟩ := S
  obtain ⟨-, ⟨cellB, hcB, hoB, hclB⟩, hPc⟩ := hp
  intro T hT X
  rcases vx_callV X hx (C := C) (bytes := bytes) (maxL := maxL) (ret := ret) ho hl hin hse hcode hy hK (by rw [hT]; exact hcB) hoB hclB hg (hsize.trans hml.symm) (argsL := As) (rest := rest) (fun sig h => hn.trans (hlen sig h)) hstack hW (by rw [hb]; exact hdg)
    (fun vm₁ hW₁ => ⟨hf.1, hf.2, hPc (T.setVm vm₁) hT hW₁⟩) with ⟨v, vm₁, ⟨U', l2, c2, s2⟩, hW₁, X', ⟨g', mk, t, L, e1, e2, hq, h1, hL, h2, h3⟩, st⟩ | ⟨q, vm₁, ⟨U', l2, c2, s2⟩, hW₁, X', ⟨g', mk, t, L, E, ce, e1, e2, hq, hce, hcv, hcl, h1, hL, h2, h3⟩, st⟩
  · dsimp only [Pt.U, Pt.locs, Pt.cells, Pt.slots] at X' e1 e2 h1 h2 h3 st
    subst h1; subst h2; subst h3
    exact Or.inl ⟨v, (T.setVm vm₁).calling g' mk (Value.ref b :: As).toArray, t, U', L, hT, X', hL, e1, e2, hq, st⟩
  · dsimp only [Pt.U, Pt.locs, Pt.cells, Pt.slots] at X' e1 e2 h1 h2 h3 st hcl
    subst h1; subst h2; subst h3
    exact Or.inr ⟨q, (T.setVm vm₁).calling g' mk (Value.ref b :: As).toArray, t, U', L, E, ce, hT, X', hL, e1, e2, hq, hce, hcv, vx_cls hW₁ hcl, st⟩
theorem vx_runS (S : CallFix p m c cc nL s args Ts own) (hM : vx_Met l y ws rm Pc Qc XC mc ms free) (cw : CallB R s args own index y bytes maxL ret ws rm mc ms n ∧ (Cond.static y).before args s = true) (hp : PreS s H Pc As)
    (hg : g.method = m) (hn : As.length = n) (hsize : g.locals.size = nL) (hstack : g.stack = As.reverse ++ rest) (hW : 2 * g.monitorRoom + (rest.map fun v => v.category).sum ≤ 8) (hdg : decode cc g.pc = .ok (.invokestatic index, 3)) (hf : cells + mc ≤ R.cells ∧ slots + ms ≤ R.slots) :
    vx_Run p l e R s m args below meth c H locs cells slots mc ms g rest (Qc As.toArray) XC free := by
  have hK : vx_Back l R p e below s args y 3 8 (PreOf R mc ms Pc) (PostOf Qc mc ms free) (vx_Post XC mc ms free) := vx_callBack cw.1 hM hp.1
  obtain ⟨⟨-, -, -, -, -, -, hcode, hini, hy, hlen, hl⟩, hstt⟩ := cw
  obtain ⟨hx, hb, hml, ho, -⟩ := S
  intro T hT X
  rcases vx_callS X hx (bytes := bytes) (maxL := maxL) (ret := ret) ho hl hstt hini hcode hy hK hg (hsize.trans hml.symm) (argsL := As) (rest := rest) (fun sig h => hn.trans (hlen sig h)) hstack hW (by rw [hb]; exact hdg)
    (fun vm₁ hW₁ => ⟨hf.1, hf.2, hp.2 (T.setVm vm₁) hT hW₁⟩) with ⟨v, vm₁, ⟨U', l2, c2, s2⟩, hW₁, X', ⟨g', mk, t, L, e1, e2, hq, h1, hL, h2, h3⟩, st⟩ | ⟨q, vm₁, ⟨U', l2, c2, s2⟩, hW₁, X', ⟨g', mk, t, L, E, ce, e1, e2, hq, hce, hcv, hcl, h1, hL, h2, h3⟩, st⟩
  · dsimp only [Pt.U, Pt.locs, Pt.cells, Pt.slots] at X' e1 e2 h1 h2 h3 st
    subst h1; subst h2; subst h3
    exact Or.inl ⟨v, (T.setVm vm₁).calling g' mk As.toArray, t, U', L, hT, X', hL, e1, e2, hq, st⟩
  · dsimp only [Pt.U, Pt.locs, Pt.cells, Pt.slots] at X' e1 e2 h1 h2 h3 st hcl
    subst h1; subst h2; subst h3
    exact Or.inr ⟨q, (T.setVm vm₁).calling g' mk As.toArray, t, U', L, E, ce, hT, X', hL, e1, e2, hq, hce, hcv, vx_cls hW₁ hcl, st⟩
end Runs
section Rows
variable {p : Program} {l : Launch} {e : Env} {R : Room} {s : State} {m : MethodId} {args : Array Value} {below : List Frame} {meth : Method} {c : Code} {H : Heap} {locs : List Loc} {cells slots : Nat} {Q : State → Prop}
variable {mc ms : Nat} {free : Addr → Prop} {A0 A1 : Nat → Prop} {H0 : Heap} {a : Array Value} {pc : Nat} {ls : Array Slot} {st0 rest : List Value}
theorem vx_keep {st₀ t T' : State} {L : List Loc} (h0 : st₀.heap = H) (e1 : T'.heap = t.heap) (hS : va_S A0 H0 H locs) (hA : ∀ q, q < H.size → A1 q → A0 q) (hf : ∀ q, free q → A0 q) (hL : ∀ q ∈ L, free q.base) (hF : va_F A1 st₀ t) :
    H.size ≤ T'.heap.size ∧ (∀ q : Nat, q < H.size → ¬ A1 q → T'.heap[q]? = H[q]?) ∧ va_S A0 H0 T'.heap (locs ++ L) := by
  obtain ⟨hz, hk⟩ := hF
  rw [h0] at hz hk
  exact ⟨by rw [e1]; exact hz, fun q h1 h2 => by rw [e1]; exact hk q h1 h2,
    ⟨Nat.le_trans hS.1 (by rw [e1]; exact hz), fun q h1 h2 => by rw [e1, hk q (Nat.lt_of_lt_of_le h1 hS.1) (fun z => h2 (hA q (Nat.lt_of_lt_of_le h1 hS.1) z))]; exact hS.2.1 q h1 h2, fun q hq => by
      rcases List.mem_append.mp hq with h | h
      · exact hS.2.2 q h
      · exact hf _ (hL q h)⟩⟩
theorem vx_calli {S SX : Type} {post : Int32 → S → Prop} {px : SX → Prop} {B : S → State → Prop} {BX : String → SX → State → Prop} {AX : Nat → Prop} (hr : vx_Run p l e R s m args below meth c H locs cells slots mc ms (F0 m pc ls st0) rest (va_Qi post B A1 a) (vx_X px BX AX) free) (hS : va_S A0 H0 H locs) (hA : ∀ q, q < H.size → A1 q → A0 q) (hf : ∀ q, free q → A0 q) (hAX : ∀ q, q < H.size → AX q → A0 q)
    (kx : ∀ (E : String) (ce : Cell) (q9 : Addr) (u : SX) (t : State) (H1 : Heap) (locs1 : List Loc), t.heap = H1 → s.vm.Alike t.vm → px u → BX E u t → H.size ≤ H1.size → (∀ q : Nat, q < H.size → ¬ AX q → H1[q]? = H[q]?) → va_S A0 H0 H1 locs1 → H1[q9]? = some ce → ce.vm = .none → s.vm.findClass E = some ce.cls → vx_W p l e R s m args below meth c H1 locs1 (cells + mc) (slots + ms) Q (F0 m pc ls rest) q9)
    (kk : ∀ (r : Int32) (u : S) (t : State) (H1 : Heap) (locs1 : List Loc), t.heap = H1 → s.vm.Alike t.vm → post r u → B u t → H.size ≤ H1.size → (∀ q : Nat, q < H.size → ¬ A1 q → H1[q]? = H[q]?) → va_S A0 H0 H1 locs1 → W p l e R s m args below meth c H1 locs1 (cells + mc) (slots + ms) Q (F0 m (pc + 3) ls (.int r :: rest))) : W p l e R s m args below meth c H locs cells slots Q (F0 m pc ls st0) := by
  intro T hT X
  rcases hr T hT X with ⟨v, st₀, t, T', L, h0, X', hL, e1, e2, ⟨⟨r, u, hv, hp, hb⟩, hF⟩, st⟩ | ⟨q, st₀, t, T', L, E, ce, h0, X', hL, e1, e2, ⟨u, hp, hb, hF⟩, hce, hcv, hcl, st⟩
  · cases hv
    obtain ⟨k1, k2, k3⟩ := vx_keep h0 e1 hS hA hf hL hF
    obtain ⟨t2, a1, b1⟩ := kk r u t T'.heap (locs ++ L) e1.symm (by rw [← e2]; exact X'.warmed.alike) hp hb k1 k2 k3 T' rfl X'
    exact ⟨t2, st t2 a1, b1⟩
  · obtain ⟨k1, k2, k3⟩ := vx_keep h0 e1 hS hAX hf hL hF
    obtain ⟨t2, a1, b1⟩ := kx E ce q u t T'.heap (locs ++ L) e1.symm (by rw [← e2]; exact X'.warmed.alike) hp hb k1 k2 k3 (by rw [e1]; exact hce) hcv hcl T' rfl X'
    exact ⟨t2, st.trans a1, b1⟩
theorem vx_calll {S SX : Type} {post : Int64 → S → Prop} {px : SX → Prop} {B : S → State → Prop} {BX : String → SX → State → Prop} {AX : Nat → Prop} (hr : vx_Run p l e R s m args below meth c H locs cells slots mc ms (F0 m pc ls st0) rest (va_Ql post B A1 a) (vx_X px BX AX) free) (hS : va_S A0 H0 H locs) (hA : ∀ q, q < H.size → A1 q → A0 q) (hf : ∀ q, free q → A0 q) (hAX : ∀ q, q < H.size → AX q → A0 q)
    (kx : ∀ (E : String) (ce : Cell) (q9 : Addr) (u : SX) (t : State) (H1 : Heap) (locs1 : List Loc), t.heap = H1 → s.vm.Alike t.vm → px u → BX E u t → H.size ≤ H1.size → (∀ q : Nat, q < H.size → ¬ AX q → H1[q]? = H[q]?) → va_S A0 H0 H1 locs1 → H1[q9]? = some ce → ce.vm = .none → s.vm.findClass E = some ce.cls → vx_W p l e R s m args below meth c H1 locs1 (cells + mc) (slots + ms) Q (F0 m pc ls rest) q9)
    (kk : ∀ (r : Int64) (u : S) (t : State) (H1 : Heap) (locs1 : List Loc), t.heap = H1 → s.vm.Alike t.vm → post r u → B u t → H.size ≤ H1.size → (∀ q : Nat, q < H.size → ¬ A1 q → H1[q]? = H[q]?) → va_S A0 H0 H1 locs1 → W p l e R s m args below meth c H1 locs1 (cells + mc) (slots + ms) Q (F0 m (pc + 3) ls (.long r :: rest))) : W p l e R s m args below meth c H locs cells slots Q (F0 m pc ls st0) := by
  intro T hT X
  rcases hr T hT X with ⟨v, st₀, t, T', L, h0, X', hL, e1, e2, ⟨⟨r, u, hv, hp, hb⟩, hF⟩, st⟩ | ⟨q, st₀, t, T', L, E, ce, h0, X', hL, e1, e2, ⟨u, hp, hb, hF⟩, hce, hcv, hcl, st⟩
  · cases hv
    obtain ⟨k1, k2, k3⟩ := vx_keep h0 e1 hS hA hf hL hF
    obtain ⟨t2, a1, b1⟩ := kk r u t T'.heap (locs ++ L) e1.symm (by rw [← e2]; exact X'.warmed.alike) hp hb k1 k2 k3 T' rfl X'
    exact ⟨t2, st t2 a1, b1⟩
  · obtain ⟨k1, k2, k3⟩ := vx_keep h0 e1 hS hAX hf hL hF
    obtain ⟨t2, a1, b1⟩ := kx E ce q u t T'.heap (locs ++ L) e1.symm (by rw [← e2]; exact X'.warmed.alike) hp hb k1 k2 k3 (by rw [e1]; exact hce) hcv hcl T' rfl X'
    exact ⟨t2, st.trans a1, b1⟩
theorem vx_callf {S SX : Type} {post : UInt32 → S → Prop} {px : SX → Prop} {B : S → State → Prop} {BX : String → SX → State → Prop} {AX : Nat → Prop} (hr : vx_Run p l e R s m args below meth c H locs cells slots mc ms (F0 m pc ls st0) rest (va_Qf post B A1 a) (vx_X px BX AX) free) (hS : va_S A0 H0 H locs) (hA : ∀ q, q < H.size → A1 q → A0 q) (hf : ∀ q, free q → A0 q) (hAX : ∀ q, q < H.size → AX q → A0 q)
    (kx : ∀ (E : String) (ce : Cell) (q9 : Addr) (u : SX) (t : State) (H1 : Heap) (locs1 : List Loc), t.heap = H1 → s.vm.Alike t.vm → px u → BX E u t → H.size ≤ H1.size → (∀ q : Nat, q < H.size → ¬ AX q → H1[q]? = H[q]?) → va_S A0 H0 H1 locs1 → H1[q9]? = some ce → ce.vm = .none → s.vm.findClass E = some ce.cls → vx_W p l e R s m args below meth c H1 locs1 (cells + mc) (slots + ms) Q (F0 m pc ls rest) q9)
    (kk : ∀ (r : UInt32) (u : S) (t : State) (H1 : Heap) (locs1 : List Loc), t.heap = H1 → s.vm.Alike t.vm → post r u → B u t → H.size ≤ H1.size → (∀ q : Nat, q < H.size → ¬ A1 q → H1[q]? = H[q]?) → va_S A0 H0 H1 locs1 → W p l e R s m args below meth c H1 locs1 (cells + mc) (slots + ms) Q (F0 m (pc + 3) ls (.float r :: rest))) : W p l e R s m args below meth c H locs cells slots Q (F0 m pc ls st0) := by
  intro T hT X
  rcases hr T hT X with ⟨v, st₀, t, T', L, h0, X', hL, e1, e2, ⟨⟨r, u, hv, hp, hb⟩, hF⟩, st⟩ | ⟨q, st₀, t, T', L, E, ce, h0, X', hL, e1, e2, ⟨u, hp, hb, hF⟩, hce, hcv, hcl, st⟩
  · cases hv
    obtain ⟨k1, k2, k3⟩ := vx_keep h0 e1 hS hA hf hL hF
    obtain ⟨t2, a1, b1⟩ := kk r u t T'.heap (locs ++ L) e1.symm (by rw [← e2]; exact X'.warmed.alike) hp hb k1 k2 k3 T' rfl X'
    exact ⟨t2, st t2 a1, b1⟩
  · obtain ⟨k1, k2, k3⟩ := vx_keep h0 e1 hS hAX hf hL hF
    obtain ⟨t2, a1, b1⟩ := kx E ce q u t T'.heap (locs ++ L) e1.symm (by rw [← e2]; exact X'.warmed.alike) hp hb k1 k2 k3 (by rw [e1]; exact hce) hcv hcl T' rfl X'
    exact ⟨t2, st.trans a1, b1⟩
theorem vx_calld {S SX : Type} {post : UInt64 → S → Prop} {px : SX → Prop} {B : S → State → Prop} {BX : String → SX → State → Prop} {AX : Nat → Prop} (hr : vx_Run p l e R s m args below meth c H locs cells slots mc ms (F0 m pc ls st0) rest (va_Qd post B A1 a) (vx_X px BX AX) free) (hS : va_S A0 H0 H locs) (hA : ∀ q, q < H.size → A1 q → A0 q) (hf : ∀ q, free q → A0 q) (hAX : ∀ q, q < H.size → AX q → A0 q)
    (kx : ∀ (E : String) (ce : Cell) (q9 : Addr) (u : SX) (t : State) (H1 : Heap) (locs1 : List Loc), t.heap = H1 → s.vm.Alike t.vm → px u → BX E u t → H.size ≤ H1.size → (∀ q : Nat, q < H.size → ¬ AX q → H1[q]? = H[q]?) → va_S A0 H0 H1 locs1 → H1[q9]? = some ce → ce.vm = .none → s.vm.findClass E = some ce.cls → vx_W p l e R s m args below meth c H1 locs1 (cells + mc) (slots + ms) Q (F0 m pc ls rest) q9)
    (kk : ∀ (r : UInt64) (u : S) (t : State) (H1 : Heap) (locs1 : List Loc), t.heap = H1 → s.vm.Alike t.vm → post r u → B u t → H.size ≤ H1.size → (∀ q : Nat, q < H.size → ¬ A1 q → H1[q]? = H[q]?) → va_S A0 H0 H1 locs1 → W p l e R s m args below meth c H1 locs1 (cells + mc) (slots + ms) Q (F0 m (pc + 3) ls (.double r :: rest))) : W p l e R s m args below meth c H locs cells slots Q (F0 m pc ls st0) := by
  intro T hT X
  rcases hr T hT X with ⟨v, st₀, t, T', L, h0, X', hL, e1, e2, ⟨⟨r, u, hv, hp, hb⟩, hF⟩, st⟩ | ⟨q, st₀, t, T', L, E, ce, h0, X', hL, e1, e2, ⟨u, hp, hb, hF⟩, hce, hcv, hcl, st⟩
  · cases hv
    obtain ⟨k1, k2, k3⟩ := vx_keep h0 e1 hS hA hf hL hF
    obtain ⟨t2, a1, b1⟩ := kk r u t T'.heap (locs ++ L) e1.symm (by rw [← e2]; exact X'.warmed.alike) hp hb k1 k2 k3 T' rfl X'
    exact ⟨t2, st t2 a1, b1⟩
  · obtain ⟨k1, k2, k3⟩ := vx_keep h0 e1 hS hAX hf hL hF
    obtain ⟨t2, a1, b1⟩ := kx E ce q u t T'.heap (locs ++ L) e1.symm (by rw [← e2]; exact X'.warmed.alike) hp hb k1 k2 k3 (by rw [e1]; exact hce) hcv hcl T' rfl X'
    exact ⟨t2, st.trans a1, b1⟩
theorem vx_callv {S SX : Type} {post : S → Prop} {px : SX → Prop} {B : S → State → Prop} {BX : String → SX → State → Prop} {AX : Nat → Prop} (hr : vx_Run p l e R s m args below meth c H locs cells slots mc ms (F0 m pc ls st0) rest (va_Qv post B A1 a) (vx_X px BX AX) free) (hS : va_S A0 H0 H locs) (hA : ∀ q, q < H.size → A1 q → A0 q) (hf : ∀ q, free q → A0 q) (hAX : ∀ q, q < H.size → AX q → A0 q)
    (kx : ∀ (E : String) (ce : Cell) (q9 : Addr) (u : SX) (t : State) (H1 : Heap) (locs1 : List Loc), t.heap = H1 → s.vm.Alike t.vm → px u → BX E u t → H.size ≤ H1.size → (∀ q : Nat, q < H.size → ¬ AX q → H1[q]? = H[q]?) → va_S A0 H0 H1 locs1 → H1[q9]? = some ce → ce.vm = .none → s.vm.findClass E = some ce.cls → vx_W p l e R s m args below meth c H1 locs1 (cells + mc) (slots + ms) Q (F0 m pc ls rest) q9)
    (kk : ∀ (u : S) (t : State) (H1 : Heap) (locs1 : List Loc), t.heap = H1 → s.vm.Alike t.vm → post u → B u t → H.size ≤ H1.size → (∀ q : Nat, q < H.size → ¬ A1 q → H1[q]? = H[q]?) → va_S A0 H0 H1 locs1 → W p l e R s m args below meth c H1 locs1 (cells + mc) (slots + ms) Q (F0 m (pc + 3) ls (rest))) : W p l e R s m args below meth c H locs cells slots Q (F0 m pc ls st0) := by
  intro T hT X
  rcases hr T hT X with ⟨v, st₀, t, T', L, h0, X', hL, e1, e2, ⟨⟨u, hv, hp, hb⟩, hF⟩, st⟩ | ⟨q, st₀, t, T', L, E, ce, h0, X', hL, e1, e2, ⟨u, hp, hb, hF⟩, hce, hcv, hcl, st⟩
  · cases hv
    obtain ⟨k1, k2, k3⟩ := vx_keep h0 e1 hS hA hf hL hF
    obtain ⟨t2, a1, b1⟩ := kk u t T'.heap (locs ++ L) e1.symm (by rw [← e2]; exact X'.warmed.alike) hp hb k1 k2 k3 T' rfl X'
    exact ⟨t2, st t2 a1, b1⟩
  · obtain ⟨k1, k2, k3⟩ := vx_keep h0 e1 hS hAX hf hL hF
    obtain ⟨t2, a1, b1⟩ := kx E ce q u t T'.heap (locs ++ L) e1.symm (by rw [← e2]; exact X'.warmed.alike) hp hb k1 k2 k3 (by rw [e1]; exact hce) hcv hcl T' rfl X'
    exact ⟨t2, st.trans a1, b1⟩
/-- caught by the row x of this method's table; the rows ahead don't take it -/
theorem vx_catch {own name : String} {E : String} {ce : Cell} {q : Addr} (hown : s.vm.findClass own = some m.cls) (pre : List ExceptionTableEntry) (x : ExceptionTableEntry) (suf : List ExceptionTableEntry) (hsplit : c.exceptionTable.toList = pre ++ x :: suf)
    (hpass : ∀ z ∈ pre, covers z pc = false ∨ (z.catchType ≠ 0 ∧ ∃ nm : String, (Cond.classLink own z.catchType nm).before args s = true ∧ va_Nc E nm s)) (hx : covers x pc = true) (h0 : x.catchType ≠ 0)
    (hlink : (Cond.classLink own x.catchType name).before args s = true) (hcast : (Cond.castable E name).before args s = true) (hcell : H[q]? = some ce) (hv : ce.vm = .none) (hcl : s.vm.findClass E = some ce.cls)
    (kk : W p l e R s m args below meth c H locs cells slots Q (F0 m x.handlerPc ls [.ref q])) : vx_W p l e R s m args below meth c H locs cells slots Q (F0 m pc ls rest) q := by
  intro T hT X
  have hpl : e.platform.magicAccessors = ({} : Platform).magicAccessors := by rw [X.admits.platform]
  obtain ⟨c3, c4, hc3, hc4, hasg⟩ := Cond.castable_spec hcast
  cases Option.some.inj (hc3.symm.trans hcl)
  obtain ⟨c5, hc5, hcl5⟩ := Cond.classLink_spec hown hlink e.platform hpl
  cases Option.some.inj (hc4.symm.trans hc5)
  obtain ⟨vm', X', st⟩ := X.thenCaughtThrough q (g := F0 m pc ls rest) rfl (Steps.refl _) (by rw [hT]; exact hcell) (by rw [hv]; rfl) (by obtain ⟨k9, h9, -⟩ := Vm.findClass_spec hcl; exact ⟨k9, h9⟩) pre x suf hsplit
    (fun z hz => by
      rcases hpass z hz with h | ⟨hz0, nm, hl1, hn1⟩
      · exact Or.inl h
      · obtain ⟨c6, hc6, hcl6⟩ := Cond.classLink_spec hown hl1 e.platform hpl
        obtain ⟨a8, b8, h1, h2, h3⟩ := hn1
        cases Option.some.inj (h1.symm.trans hcl)
        cases Option.some.inj (h2.symm.trans hc6)
        exact Or.inr ⟨hz0, _, hcl6, h3⟩) hx (Or.inr ⟨h0, c4, hcl5, hasg⟩)
  obtain ⟨t, a1, b1⟩ := kk (T.setVm vm') hT X'
  exact ⟨t, st.trans a1, b1⟩
end Rows
section Ends
variable {p : Program} {l : Launch} {e : Env} {R : Room} {s : State} {m : MethodId} {args : Array Value} {below : List Frame} {meth : Method} {c : Code} {H : Heap} {locs : List Loc} {cells slots : Nat} {Q : State → Prop}
variable {mc ms : Nat} {free : Addr → Prop} {A0 A1 : Nat → Prop} {H0 : Heap} {a : Array Value} {ls : Array Slot} {st0 rest : List Value}
variable {Qc : Array Value → State → Outcome → State → Prop} {XC : String → State → State → Prop}
/-- what a body that may throw owes at its end -/
def vx_MQ (below : List Frame) (Qc : Array Value → State → Outcome → State → Prop) (XC : String → State → State → Prop) (a : Array Value) (s : State) (mc ms : Nat) (free : Addr → Prop) : State → Prop := fun t =>
  ∃ o, t.status = .running ∧ Ended t below o ∧ vx_Q Qc XC mc ms free a s o t
theorem vx_ret {g : JFrame} {mc ms : Nat} (k : W p l e R s m args below meth c H locs cells slots (MQ below Qc args s mc ms free) g) : W p l e R s m args below meth c H locs cells slots (vx_MQ below Qc XC args s mc ms free) g := by
  intro T hT X
  obtain ⟨t, a1, o, b1, b2, b3, b4⟩ := k T hT X
  exact ⟨t, a1, o, b1, b2, Or.inl ⟨b3, b4⟩⟩
/-- not caught here: it goes on to the caller -/
theorem vx_widen {g : JFrame} {q : Addr} {k n : Nat} (h1 : cells ≤ k) (h2 : slots ≤ n) (kk : vx_W p l e R s m args below meth c H locs k n Q g q) : vx_W p l e R s m args below meth c H locs cells slots Q g q := fun T hT X => kk T hT (stand_widen X h1 h2)
theorem vx_out {pc : Nat} {E : String} {ce : Cell} {q : Addr} {mc ms : Nat} (hout : ∀ x ∈ c.exceptionTable.toList, covers x pc = false) (hlocks : meth.locks = false) (hcell : H[q]? = some ce) (hv : ce.vm = .none) (hcl : s.vm.findClass E = some ce.cls)
    (hx : ∀ t : State, t.heap = H → s.vm.Alike t.vm → XC E s t) (hf : ∀ z ∈ locs, free z.base) (hc : cells ≤ mc) (hs : slots ≤ ms) :
    vx_W p l e R s m args below meth c H locs cells slots (vx_MQ below Qc XC args s mc ms free) (F0 m pc ls rest) q := by
  intro T hT X
  obtain ⟨st1, hrun, hend, hW, hsm⟩ := X.leaveThrown q (g := F0 m pc ls rest) rfl rfl rfl hout hlocks
  have hcell9 : (T.setFrames (.throwing q :: below)).heap[q]? = some ce := by
    show T.heap[q]? = some ce
    rw [hT]; exact hcell
  exact ⟨_, st1, .threw q, hrun, hend, Or.inr ⟨q, rfl, E, ce, locs, hx _ hT hW.alike, hcell9, hv, hcl, hW, hsm.mono hc hs, hf⟩⟩
theorem vx_frame {U : State} {k n : Nat} (h : s.sameButNew ({ U with vm := s.vm } : State) locs k n) : s.heap.size ≤ U.heap.size ∧ ∀ q : Nat, q < s.heap.size → (∀ z ∈ locs, z.base ≠ q) → U.heap[q]? = s.heap[q]? := by
  obtain ⟨-, h2, -, -, -, h6⟩ := h
  refine ⟨h2, fun q hq hz => ?_⟩
  obtain ⟨c9, e1, e2, e3, e4⟩ := h6 q _ (Array.getElem?_eq_getElem hq)
  have hs : c9.slots = (s.heap[q]).slots := Array.ext_getElem? fun i => e4 i fun hm => hz _ hm rfl
  have h9 : c9 = s.heap[q] := by
    rw [hs] at e2
    exact e2
  have e5 : U.heap[q]? = some c9 := e1
  rw [e5, h9, Array.getElem?_eq_getElem hq]
/-- the words of a throw but the four that speak of the heap -/
def vx_no (w : Cond) : Bool := decide (w ≠ .isRef (.static Bundle.tN "UNASSIGNED_STACK" Bundle.steD)) && decide (w ≠ .isRef (.static Bundle.tN "SUPPRESSED_SENTINEL" Bundle.listD)) && decide (w ≠ .laysStatic Bundle.tN "UNASSIGNED_STACK" Bundle.steD) && decide (w ≠ .laysStatic Bundle.tN "SUPPRESSED_SENTINEL" Bundle.listD)
def vx_at0 (own : String) (ic : Nat) (X : String) (names : List String) : List Cond := (Bundle.ownAtoms0 own ic X names).filter vx_no
def vx_atS (own : String) (ic : Nat) (X : String) (names : List String) : List Cond := (Bundle.ownAtoms own ic X names).filter vx_no
/-- a word that the tables alone decide, or a good one -/
def vx_ot (w : Cond) : Bool := w.onTables || goodWord w
theorem vx_ot_at {args a' : Array Value} {s U : State} {w : Cond} (hW : s.WarmedH U.vm) (hvm : s.vm = U.vm) (hg : vx_ot w = true) (h : w.before args s = true) : w.before a' U = true := by
  simp only [vx_ot, Bool.or_eq_true] at hg
  rcases hg with hg | hg
  · exact va_tabs hg hvm h
  · exact word_at hW (good_of_word hg) h
/-- a list's words: the good ones out of the method's own list, the others by premises of their own -/
theorem vx_hat {args : Array Value} {s : State} {L B : List Cond} (h1 : ∀ w ∈ L.filter goodWord, w.before args s = true) (h2 : ∀ w ∈ L.filter (fun w => !goodWord w), w ∈ B) (h3 : ∀ w ∈ B, w.before args s = true) : ∀ w ∈ L, w.before args s = true := by
  intro w hw
  by_cases g : goodWord w = true
  · exact h1 w (List.mem_filter.mpr ⟨hw, g⟩)
  · refine h3 w (h2 w (List.mem_filter.mpr ⟨hw, ?_⟩))
    show (!goodWord w) = true
    cases hgw : goodWord w
    · rfl
    · exact absurd hgw g
theorem vx_c {args : Array Value} {s : State} {w : Cond} {B : List Cond} (h : w.before args s = true) (t : ∀ w ∈ B, w.before args s = true) : ∀ w' ∈ w :: B, w'.before args s = true := fun w' h' => (List.mem_cons.mp h').elim (fun e => by rw [e]; exact h) (t w')
theorem vx_n {args : Array Value} {s : State} : ∀ w ∈ ([] : List Cond), w.before args s = true := fun _ h => nomatch h
theorem vx_own {args : Array Value} {s : State} {L : List Cond} (h1 : ∀ w ∈ L.filter vx_no, w.before args s = true)
    (hU : (Cond.isRef (.static Bundle.tN "UNASSIGNED_STACK" Bundle.steD)).before args s = true) (hN : (Cond.isRef (.static Bundle.tN "SUPPRESSED_SENTINEL" Bundle.listD)).before args s = true)
    (lU : (Cond.laysStatic Bundle.tN "UNASSIGNED_STACK" Bundle.steD).before args s = true) (lN : (Cond.laysStatic Bundle.tN "SUPPRESSED_SENTINEL" Bundle.listD).before args s = true) : ∀ w ∈ L, w.before args s = true := by
  intro w hw
  by_cases e1 : w = .isRef (.static Bundle.tN "UNASSIGNED_STACK" Bundle.steD)
  · rw [e1]; exact hU
  · by_cases e2 : w = .isRef (.static Bundle.tN "SUPPRESSED_SENTINEL" Bundle.listD)
    · rw [e2]; exact hN
    · by_cases e3 : w = .laysStatic Bundle.tN "UNASSIGNED_STACK" Bundle.steD
      · rw [e3]; exact lU
      · by_cases e4 : w = .laysStatic Bundle.tN "SUPPRESSED_SENTINEL" Bundle.listD
        · rw [e4]; exact lN
        · exact h1 w (List.mem_filter.mpr ⟨hw, by unfold vx_no; rw [decide_eq_true e1, decide_eq_true e2, decide_eq_true e3, decide_eq_true e4]; rfl⟩)
/-- where a static field lies, its class's statics cell in H -/
def vx_L (C n d : String) (A : Nat → Prop) (U : State) (H : Heap) : Prop := ∃ (c : ClassId) (k : Class) (i : Nat) (f : Field) (a : Nat) (cell : Cell), U.vm.findClass C = some c ∧ U.fieldFound? C n d = some (c, k, i, f) ∧ f.isStatic = true ∧ k.statics = some a ∧ H[a]? = some cell ∧ cell.vm.isStatics = true ∧ cell.cls = c ∧ f.slot < cell.slots.size ∧ k.staticTypes[f.slot]? = some f.type ∧ ¬ A a
theorem vx_L.moved {C n d : String} {A : Nat → Prop} {u U : State} {H : Heap} (hvm : u.vm.Alike U.vm) (h : vx_L C n d A u H) : vx_L C n d A U H := by
  obtain ⟨c, k, i, f, a, cell, h1, h2, h3, h4, h5, h6, h7, h8, h9, h10⟩ := h
  obtain ⟨k', hi', he⟩ := State.fieldFound?_setVm hvm h2
  exact ⟨c, k', i, f, a, cell, by rw [hvm.findClass]; exact h1, hi', h3, by rw [he]; exact h4, h5, h6, h7, h8, by rw [he]; exact h9, h10⟩
theorem vx_L.kept {C n d : String} {A : Nat → Prop} {U : State} {H H1 : Heap} (h : vx_L C n d A U H) (hq : ∀ a : Nat, a < H.size → ¬ A a → H1[a]? = H[a]?) : vx_L C n d A U H1 := by
  obtain ⟨c, k, i, f, a, cell, h1, h2, h3, h4, h5, h6, h7, h8, h9, h10⟩ := h
  exact ⟨c, k, i, f, a, cell, h1, h2, h3, h4, by rw [hq a (Array.getElem?_eq_some_iff.mp h5).1 h10]; exact h5, h6, h7, h8, h9, h10⟩
theorem vx_L.narrow {C n d : String} {A B : Nat → Prop} {U : State} {H : Heap} (h : vx_L C n d A U H) (hAB : ∀ q, B q → A q) : vx_L C n d B U H := by
  obtain ⟨c, k, i, f, a, cell, h1, h2, h3, h4, h5, h6, h7, h8, h9, h10⟩ := h
  exact ⟨c, k, i, f, a, cell, h1, h2, h3, h4, h5, h6, h7, h8, h9, fun z => h10 (hAB _ z)⟩
theorem vx_L.word {C n d : String} {A : Nat → Prop} {s : State} {args : Array Value} (h : vx_L C n d A s s.heap) : (Cond.laysStatic C n d).before args s = true := by
  obtain ⟨c, k, i, f, a, cell, h1, h2, h3, h4, h5, h6, h7, h8, h9, -⟩ := h
  show (Cond.laysStatic C n d).holds args s none s [] = true
  exact Cond.laysStatic_of h1 h2 h3 h4 h5 h6 h7 h8 h9
/-- .. and what it holds: null or some reference -/
def vx_Zq (C n d : String) (A : Nat → Prop) (U : State) (H : Heap) : Prop := va_Zq C n d A U H ∧ vx_L C n d A U H
theorem vx_Zq.moved {C n d : String} {A : Nat → Prop} {u U : State} {H : Heap} (hvm : u.vm.Alike U.vm) (h : vx_Zq C n d A u H) : vx_Zq C n d A U H := ⟨va_Zq.moved hvm h.1, vx_L.moved hvm h.2⟩
theorem vx_Zq.kept {C n d : String} {A : Nat → Prop} {U : State} {H H1 : Heap} (h : vx_Zq C n d A U H) (hq : ∀ a : Nat, a < H.size → ¬ A a → H1[a]? = H[a]?) : vx_Zq C n d A U H1 := ⟨va_Zq.kept h.1 hq, vx_L.kept h.2 hq⟩
theorem vx_Zq.narrow {C n d : String} {A B : Nat → Prop} {U : State} {H : Heap} (h : vx_Zq C n d A U H) (hAB : ∀ q, B q → A q) : vx_Zq C n d B U H := ⟨va_Zq.narrow h.1 hAB, vx_L.narrow h.2 hAB⟩
theorem vx_Zqof {args : Array Value} {s : State} {C n d : String} {A : Nat → Prop} (hl : (Cond.laysStatic C n d).before args s = true) (hini : (Cond.initialized C).before args s = true) (h : (Cond.isRef (.static C n d)).before args s = true) (hA : ∀ a : Nat, a < s.heap.size → ¬ A a) : vx_Zq C n d A s s.heap := by
  refine ⟨va_Zqof hl hini h hA, ?_⟩
  obtain ⟨c, k, i, f, a, cell, h1, h2, h3, h4, h5, h6, h7, h8, h9⟩ := Cond.laysStatic_spec hl
  exact ⟨c, k, i, f, a, cell, h1, h2, h3, h4, h5, h6, h7, h8, h9, hA a (Array.getElem?_eq_some_iff.mp h5).1⟩
theorem vx_isRef {C n d : String} {v : Value} {A : Nat → Prop} {s : State} {args : Array Value} (h : va_Z C n d v A s s.heap) (hv : v.isRef = true) : (Cond.isRef (.static C n d)).before args s = true := by
  obtain ⟨cf, kf, fi, f, a, cell, h1, h2, h3, h4, h5, h6, h7, -⟩ := h
  have he : (Term.static C n d).eval args s none [] s = some v := by
    simp [Term.eval, State.fieldNamed?, h1, h2, h4, h5, h6, h7]
  simp only [Cond.before, Cond.holds, Cond.value, he]
  cases v <;> simp_all [Value.isRef]
theorem vx_isRefq {C n d : String} {A : Nat → Prop} {s : State} {args : Array Value} (h : va_Zq C n d A s s.heap) : (Cond.isRef (.static C n d)).before args s = true := by
  rcases h with h | ⟨t, h⟩
  · exact vx_isRef h rfl
  · exact vx_isRef h rfl
/-- the same frame, seen from here: as if the method were called anew in this heap -/
theorem vx_rebase {T : State} (X : Stand p l e R s m args below meth c T locs cells slots) {R' : Room} (hf : R'.frames ≤ R.frames) (hl : R'.locals ≤ R.locals) (hc : cells + R'.cells ≤ R.cells) (hs : slots + R'.slots ≤ R.slots) :
    Stand p l e R' ((T.setVm s.vm).setFrames (.invoking m args :: below)) m args below meth c T [] 0 0 := by
  have htop : (T.setVm s.vm).topJava?.isSome := X.here.top
  have hF : ((T.setVm s.vm).setFrames (.invoking m args :: below)).frames = .invoking m args :: below := State.frames_setFrames _ (State.cur_lt_of_top htop)
  obtain ⟨g₀, hg0⟩ := Option.isSome_iff_exists.mp htop
  obtain ⟨r, hr⟩ := State.topJava?_eq_some.mp hg0
  have hl9 : e.platform.stackLimits (T.setVm s.vm).me = e.platform.stackLimits s.me := X.limits
  have hb9 : (T.setVm s.vm).me.stackBytes = s.me.stackBytes := X.bytes
  refine ⟨X.admits, X.cas, X.clock, hF, ?_, X.hears, X.method, X.code, X.here, X.tail, X.warmed, ?_, ?_, ?_⟩
  · have h := X.room
    have hU : ((T.setVm s.vm).setFrames (.invoking m args :: below)).localsInUse = s.localsInUse := by
      rw [State.localsInUse_invoking hF (meth := meth) (c := c) X.method X.code, State.localsInUse_invoking X.frames X.method X.code]
    simp only [State.hasRoom, Bool.and_eq_true, decide_eq_true_eq] at h ⊢
    obtain ⟨⟨⟨⟨h1, h2, h3, h4, h5, h6⟩, h7⟩, h8⟩, h9⟩ := h
    rw [X.frames, List.length_cons] at h2 h3
    have q1 := X.heapSize
    have q2 := X.used
    simp only [hF, hU, List.length_cons, State.stackLimits_setFrames, State.stackBytes_setFrames, hl9, hb9]
    refine ⟨⟨⟨⟨by omega, by omega, by omega, by omega, by omega, h6⟩, ?_⟩, ?_⟩, X.book⟩
    · show T.heap.size + R'.cells ≤ e.platform.maxCells
      omega
    · show T.slotsUsed + R'.slots ≤ e.platform.maxSlots
      omega
  · rw [State.stackLimits_setFrames]; rfl
  · rw [State.stackBytes_setFrames]; rfl
  · refine ⟨?_, Nat.le_refl _, Nat.le_refl _, ?_, ?_, fun a c9 h9 => ⟨c9, h9, rfl, rfl, fun _ _ => rfl⟩⟩
    · obtain ⟨t, ht, -⟩ := State.frames_cons hr
      show T.setVm s.vm = { ((T.setVm s.vm).setFrames (.invoking m args :: below)).setFrames (T.setVm s.vm).frames with heap := T.heap, slotsUsed := T.slotsUsed }
      rw [State.setFrames_setFrames, State.setFrames_self ht]
      rfl
    · show T.slotsUsed = T.slotsUsed + ((T.heap.toList.drop T.heap.size).map (·.slots.size)).sum
      rw [List.drop_eq_nil_of_le (Nat.le_of_eq Array.length_toList)]
      rfl
    · show ((T.heap.toList.drop T.heap.size).map (·.slots.size)).sum ≤ 0
      rw [List.drop_eq_nil_of_le (Nat.le_of_eq Array.length_toList)]
      exact Nat.le_refl _
/-- 'throw new E()': new; dup; invokespecial; athrow -/
theorem vx_throw0 {cc : ByteArray} {pc : Nat} (hexec : p.tables.exec = Jvm.exec) (hb : c.code = cc) (hl : l.stackTraces = false) {own cls : String} {names : List String} {ik ic mc ms : Nat} {A : Nat → Prop}
    (hown : s.vm.findClass own = some m.cls) (hcls : Bundle.fit cls = true) (hnames : ∀ n ∈ names, Bundle.fit n = true)
    (hk : (Cond.classLink own ik cls).before args s = true) (hini : (Cond.initialized cls).before args s = true) (hat : ∀ w ∈ vx_at0 own ic cls names, w.before args s = true)
    (hgood : ∀ w ∈ Cond.classLink own ik cls :: Cond.initialized cls :: vx_at0 own ic cls names, vx_ot w = true)
    (hU : vx_Zq Bundle.tN "UNASSIGNED_STACK" Bundle.steD A s s.heap) (hN : vx_Zq Bundle.tN "SUPPRESSED_SENTINEL" Bundle.listD A s s.heap) (hS : va_S A s.heap H locs) (hsize : ls.size = c.maxLocals)
    (d0 : decode cc pc = .ok (.new ik, 3)) (d3 : decode cc (pc + 3) = .ok (.dup, 1)) (d4 : decode cc (pc + 4) = .ok (.invokespecial ic, 3)) (d7 : decode cc (pc + 7) = .ok (.athrow, 1))
    (hout : ∀ x ∈ c.exceptionTable.toList, covers x (pc + 7) = false)
    (hRframes : names.length + 3 < R.frames) (hRlocals : (rest.map fun v => v.category).sum + (13 * (names.length + 1) + 42) ≤ R.locals) (hRcells : cells + 1 ≤ R.cells) (hRslots : slots + 6 ≤ R.slots) (hlocks : meth.locks = false)
    (hx : ∀ t : State, s.vm.Alike t.vm → H.size ≤ t.heap.size → (∀ q : Nat, q < H.size → t.heap[q]? = H[q]?) → XC cls s t)
    (hf : ∀ z ∈ locs, free z.base) (hc : cells + 1 ≤ mc) (hs : slots + 6 ≤ ms) :
    W p l e R s m args below meth c H locs cells slots (vx_MQ below Qc XC args s mc ms free) (F0 m pc ls rest) := by
  intro T hT X
  have htr : e.platform.stackTraces = false := (show e.platform.stackTraces = l.stackTraces by rw [X.admits.platform]).trans hl
  have Y := vx_rebase X (R' := { frames := R.frames, locals := R.locals, cells := 1, slots := 6 }) (Nat.le_refl _) (Nat.le_refl _) hRcells hRslots
  obtain ⟨s', hA⟩ : ∃ z, z = (T.setVm s.vm).setFrames (.invoking m args :: below) := ⟨_, rfl⟩
  rw [← hA] at Y
  have hvm : s'.vm = s.vm := by rw [hA]; rfl
  have hhp : s'.heap = H := by rw [hA]; exact hT
  have hW0 : s.WarmedH s'.vm := by rw [hvm]; exact State.WarmedH.refl s
  have hat' : ∀ w ∈ vx_at0 own ic cls names, w.before args s' = true := fun w hw => vx_ot_at hW0 hvm.symm (hgood w (List.mem_cons_of_mem _ (List.mem_cons_of_mem _ hw))) (hat w hw)
  have hk' : (Cond.classLink own ik cls).before args s' = true := vx_ot_at hW0 hvm.symm (hgood _ List.mem_cons_self) hk
  have hini' : (Cond.initialized cls).before args s' = true := vx_ot_at hW0 hvm.symm (hgood _ (List.mem_cons_of_mem _ List.mem_cons_self)) hini
  have hU' : vx_Zq Bundle.tN "UNASSIGNED_STACK" Bundle.steD A s' s'.heap := by rw [hhp]; exact vx_Zq.moved hW0.alike (hU.kept hS.2.1)
  have hN' : vx_Zq Bundle.tN "SUPPRESSED_SENTINEL" Bundle.listD A s' s'.heap := by rw [hhp]; exact vx_Zq.moved hW0.alike (hN.kept hS.2.1)
  have h : ∀ w ∈ Bundle.ownAtoms0 own ic cls names, w.before args s' = true := vx_own hat' (vx_isRefq hU'.1) (vx_isRefq hN'.1) hU'.2.word hN'.2.word
  have hown' : s'.vm.findClass own = some m.cls := by rw [hvm]; exact hown
  have hins : (Cond.instantiable cls 6).before args s' = true := h _ (by simp [Bundle.ownAtoms0])
  obtain ⟨vm₁, cX, kX, hfX, hkX, -, -, X₁, st1⟩ := Y.newCold hexec (own := own) (C := cls) (index := ik) (n := 6) hown' hk' hins hini'
    (g := F0 m pc ls rest) rfl (by rw [hb]; exact d0) (Nat.le_refl _) (Nat.le_refl _)
  generalize hT1 : (T.setVm vm₁).pushCell { cls := cX, slots := kX.instanceTypes.map defaultValue, vm := .none } = T1 at X₁ st1
  have hcat : (Value.ref T.heap.size).category = 1 := rfl
  have hcellA : T1.heap[T.heap.size]? = some (freshCell cX kX) := by rw [← hT1]; exact State.heap_pushCell_size _ _
  have d3' : decode c.code (pc + 3) = .ok (.dup, 1) := by rw [hb]; exact d3
  obtain ⟨U, hsteps, hrun, hend, hW, hsame, ce, hce, hO⟩ := X₁.ctorThrow0 hexec htr (own := own) (cls := cls) (names := names) (ic := ic) hown' hcls hnames h (fun x hx => nomatch hx) hfX hkX hcellA (by rw [hhp, hT]; exact Nat.le_refl _)
    (g := { method := m, pc := pc + 4, locals := ls, stack := .ref T.heap.size :: .ref T.heap.size :: rest, locked := none }) rfl hsize rfl rfl (rest := rest) rfl
    (by rw [hb]; exact d4) (by rw [hb]; exact d7) hout hRframes (by simp only [List.map_cons, List.sum_cons, hcat]; omega) hlocks
  obtain ⟨f1, f2⟩ := vx_frame hsame
  rw [hhp] at f1 f2
  have hWs : s.WarmedH U.vm := State.WarmedH.trans hW0 hW
  have hcl : s.vm.findClass cls = some ce.cls := by
    have h9 := hO.cls
    rw [hvm] at h9
    exact h9
  have hall : s.sameButNew ({ U with vm := s.vm } : State) locs mc ms := by
    subst hA
    obtain ⟨e1, e2⟩ := hsame
    rw [State.setFrames_setFrames] at e1
    have h2 : (T.setVm s.vm).sameButNew ({ U with vm := s.vm } : State) [] (0 + 1) (0 + 6) := ⟨e1, e2⟩
    have h3 := X.same.trans h2
    rw [List.append_nil] at h3
    exact h3.mono hc hs
  refine ⟨U, ?_, .threw T.heap.size, hrun, hend, Or.inr ⟨T.heap.size, rfl, cls, ce, locs, hx U hWs.alike f1 (fun q hq => f2 q hq (fun z hz => nomatch hz)), hce, hO.vm, hcl, hWs, hall, hf⟩⟩
  refine st1 _ ?_
  show Steps p.tables e below (T1.setTop { method := m, pc := pc + 3, locals := ls, stack := .ref T.heap.size :: rest, locked := none }) _
  jvm_step X₁.here [X₁.here.top, hexec, d3', Value.category]
  exact hsteps
/-- 'throw new E("text")': new; dup; ldc; invokespecial; athrow -/
theorem vx_throwS {cc : ByteArray} {pc : Nat} (hexec : p.tables.exec = Jvm.exec) (hb : c.code = cc) (hl : l.stackTraces = false) {own cls text : String} {names : List String} {ik is ic mc ms sa : Nat} {A : Nat → Prop}
    (hown : s.vm.findClass own = some m.cls) (hcls : Bundle.fit cls = true) (hnames : ∀ n ∈ names, Bundle.fit n = true)
    (hk : (Cond.classLink own ik cls).before args s = true) (hini : (Cond.initialized cls).before args s = true) (hstr : vk_R own is text sa s) (hat : ∀ w ∈ vx_atS own ic cls names, w.before args s = true)
    (hgood : ∀ w ∈ Cond.classLink own ik cls :: Cond.initialized cls :: vx_atS own ic cls names, vx_ot w = true)
    (hU : vx_Zq Bundle.tN "UNASSIGNED_STACK" Bundle.steD A s s.heap) (hN : vx_Zq Bundle.tN "SUPPRESSED_SENTINEL" Bundle.listD A s s.heap) (hS : va_S A s.heap H locs) (hsize : ls.size = c.maxLocals)
    (d0 : decode cc pc = .ok (.new ik, 3)) (d3 : decode cc (pc + 3) = .ok (.dup, 1)) (d4 : decode cc (pc + 4) = .ok (.ldc is, 2)) (d6 : decode cc (pc + 6) = .ok (.invokespecial ic, 3)) (d9 : decode cc (pc + 9) = .ok (.athrow, 1))
    (hout : ∀ x ∈ c.exceptionTable.toList, covers x (pc + 9) = false)
    (hRframes : names.length + 3 < R.frames) (hRlocals : (rest.map fun v => v.category).sum + (13 * (names.length + 1) + 43) ≤ R.locals) (hRcells : cells + 1 ≤ R.cells) (hRslots : slots + 6 ≤ R.slots) (hlocks : meth.locks = false)
    (hx : ∀ t : State, s.vm.Alike t.vm → H.size ≤ t.heap.size → (∀ q : Nat, q < H.size → t.heap[q]? = H[q]?) → XC cls s t)
    (hf : ∀ z ∈ locs, free z.base) (hc : cells + 1 ≤ mc) (hs : slots + 6 ≤ ms) :
    W p l e R s m args below meth c H locs cells slots (vx_MQ below Qc XC args s mc ms free) (F0 m pc ls rest) := by
  intro T hT X
  have htr : e.platform.stackTraces = false := (show e.platform.stackTraces = l.stackTraces by rw [X.admits.platform]).trans hl
  have Y := vx_rebase X (R' := { frames := R.frames, locals := R.locals, cells := 1, slots := 6 }) (Nat.le_refl _) (Nat.le_refl _) hRcells hRslots
  obtain ⟨s', hA⟩ : ∃ z, z = (T.setVm s.vm).setFrames (.invoking m args :: below) := ⟨_, rfl⟩
  rw [← hA] at Y
  have hvm : s'.vm = s.vm := by rw [hA]; rfl
  have hhp : s'.heap = H := by rw [hA]; exact hT
  have hW0 : s.WarmedH s'.vm := by rw [hvm]; exact State.WarmedH.refl s
  have hat' : ∀ w ∈ vx_atS own ic cls names, w.before args s' = true := fun w hw => vx_ot_at hW0 hvm.symm (hgood w (List.mem_cons_of_mem _ (List.mem_cons_of_mem _ hw))) (hat w hw)
  have hk' : (Cond.classLink own ik cls).before args s' = true := vx_ot_at hW0 hvm.symm (hgood _ List.mem_cons_self) hk
  have hini' : (Cond.initialized cls).before args s' = true := vx_ot_at hW0 hvm.symm (hgood _ (List.mem_cons_of_mem _ List.mem_cons_self)) hini
  have hU' : vx_Zq Bundle.tN "UNASSIGNED_STACK" Bundle.steD A s' s'.heap := by rw [hhp]; exact vx_Zq.moved hW0.alike (hU.kept hS.2.1)
  have hN' : vx_Zq Bundle.tN "SUPPRESSED_SENTINEL" Bundle.listD A s' s'.heap := by rw [hhp]; exact vx_Zq.moved hW0.alike (hN.kept hS.2.1)
  have h : ∀ w ∈ Bundle.ownAtoms own ic cls names, w.before args s' = true := vx_own hat' (vx_isRefq hU'.1) (vx_isRefq hN'.1) hU'.2.word hN'.2.word
  have hown' : s'.vm.findClass own = some m.cls := by rw [hvm]; exact hown
  have hins : (Cond.instantiable cls 6).before args s' = true := h _ (by simp [Bundle.ownAtoms])
  obtain ⟨vm₁, cX, kX, hfX, hkX, -, -, X₁, st1⟩ := Y.newCold hexec (own := own) (C := cls) (index := ik) (n := 6) hown' hk' hins hini'
    (g := F0 m pc ls rest) rfl (by rw [hb]; exact d0) (Nat.le_refl _) (Nat.le_refl _)
  generalize hT1 : (T.setVm vm₁).pushCell { cls := cX, slots := kX.instanceTypes.map defaultValue, vm := .none } = T1 at X₁ st1
  have hcat : (Value.ref T.heap.size).category = 1 := rfl
  have hcellA : T1.heap[T.heap.size]? = some (freshCell cX kX) := by rw [← hT1]; exact State.heap_pushCell_size _ _
  have d3' : decode c.code (pc + 3) = .ok (.dup, 1) := by rw [hb]; exact d3
  have d4' : decode c.code (pc + 4) = .ok (.ldc is, 2) := by rw [hb]; exact d4
  have hstr' : vk_R own is text sa s' := vk_R.warm hW0 hstr
  obtain ⟨U, hsteps, hrun, hend, hW, hsame, ce, hce, hO⟩ := X₁.ctorThrowS hexec htr (own := own) (cls := cls) (names := names) (ic := ic) hown' hcls hnames h (fun x hx => nomatch hx) hfX hkX hcellA (by rw [hhp, hT]; exact Nat.le_refl _) (msg := .ref sa) rfl
    (g := { method := m, pc := pc + 6, locals := ls, stack := .ref sa :: .ref T.heap.size :: .ref T.heap.size :: rest, locked := none }) rfl hsize rfl rfl (rest := rest) rfl
    (by rw [hb]; exact d6) (by rw [hb]; exact d9) hout hRframes (by simp only [List.map_cons, List.sum_cons, hcat]; omega) hlocks
  obtain ⟨f1, f2⟩ := vx_frame hsame
  rw [hhp] at f1 f2
  have hWs : s.WarmedH U.vm := State.WarmedH.trans hW0 hW
  have hcl : s.vm.findClass cls = some ce.cls := by
    have h9 := hO.cls
    rw [hvm] at h9
    exact h9
  have hall : s.sameButNew ({ U with vm := s.vm } : State) locs mc ms := by
    subst hA
    obtain ⟨e1, e2⟩ := hsame
    rw [State.setFrames_setFrames] at e1
    have h2 : (T.setVm s.vm).sameButNew ({ U with vm := s.vm } : State) [] (0 + 1) (0 + 6) := ⟨e1, e2⟩
    have h3 := X.same.trans h2
    rw [List.append_nil] at h3
    exact h3.mono hc hs
  refine ⟨U, ?_, .threw T.heap.size, hrun, hend, Or.inr ⟨T.heap.size, rfl, cls, ce, locs, hx U hWs.alike f1 (fun q hq => f2 q hq (fun z hz => nomatch hz)), hce, hO.vm, hcl, hWs, hall, hf⟩⟩
  refine st1 _ ?_
  show Steps p.tables e below (T1.setTop { method := m, pc := pc + 3, locals := ls, stack := .ref T.heap.size :: rest, locked := none }) _
  jvm_step X₁.here [X₁.here.top, hexec, d3', Value.category]
  exact X₁.ldcString hexec (own := own) (text := text) (index := is) (a := sa) hown' hstr'.1 hstr'.2
    (g := { method := m, pc := pc + 4, locals := ls, stack := .ref T.heap.size :: .ref T.heap.size :: rest, locked := none }) rfl d4' _ hsteps
/-- 'throw new E("text")', the text by a wide index -/
theorem vx_throwSW {cc : ByteArray} {pc : Nat} (hexec : p.tables.exec = Jvm.exec) (hb : c.code = cc) (hl : l.stackTraces = false) {own cls text : String} {names : List String} {ik is ic mc ms sa : Nat} {A : Nat → Prop}
    (hown : s.vm.findClass own = some m.cls) (hcls : Bundle.fit cls = true) (hnames : ∀ n ∈ names, Bundle.fit n = true)
    (hk : (Cond.classLink own ik cls).before args s = true) (hini : (Cond.initialized cls).before args s = true) (hstr : vk_R own is text sa s) (hat : ∀ w ∈ vx_atS own ic cls names, w.before args s = true)
    (hgood : ∀ w ∈ Cond.classLink own ik cls :: Cond.initialized cls :: vx_atS own ic cls names, vx_ot w = true)
    (hU : vx_Zq Bundle.tN "UNASSIGNED_STACK" Bundle.steD A s s.heap) (hN : vx_Zq Bundle.tN "SUPPRESSED_SENTINEL" Bundle.listD A s s.heap) (hS : va_S A s.heap H locs) (hsize : ls.size = c.maxLocals)
    (d0 : decode cc pc = .ok (.new ik, 3)) (d3 : decode cc (pc + 3) = .ok (.dup, 1)) (d4 : decode cc (pc + 4) = .ok (.ldc_w is, 3)) (d7 : decode cc (pc + 7) = .ok (.invokespecial ic, 3)) (d10 : decode cc (pc + 10) = .ok (.athrow, 1))
    (hout : ∀ x ∈ c.exceptionTable.toList, covers x (pc + 10) = false)
    (hRframes : names.length + 3 < R.frames) (hRlocals : (rest.map fun v => v.category).sum + (13 * (names.length + 1) + 43) ≤ R.locals) (hRcells : cells + 1 ≤ R.cells) (hRslots : slots + 6 ≤ R.slots) (hlocks : meth.locks = false)
    (hx : ∀ t : State, s.vm.Alike t.vm → H.size ≤ t.heap.size → (∀ q : Nat, q < H.size → t.heap[q]? = H[q]?) → XC cls s t)
    (hf : ∀ z ∈ locs, free z.base) (hc : cells + 1 ≤ mc) (hs : slots + 6 ≤ ms) :
    W p l e R s m args below meth c H locs cells slots (vx_MQ below Qc XC args s mc ms free) (F0 m pc ls rest) := by
  intro T hT X
  have htr : e.platform.stackTraces = false := (show e.platform.stackTraces = l.stackTraces by rw [X.admits.platform]).trans hl
  have Y := vx_rebase X (R' := { frames := R.frames, locals := R.locals, cells := 1, slots := 6 }) (Nat.le_refl _) (Nat.le_refl _) hRcells hRslots
  obtain ⟨s', hA⟩ : ∃ z, z = (T.setVm s.vm).setFrames (.invoking m args :: below) := ⟨_, rfl⟩
  rw [← hA] at Y
  have hvm : s'.vm = s.vm := by rw [hA]; rfl
  have hhp : s'.heap = H := by rw [hA]; exact hT
  have hW0 : s.WarmedH s'.vm := by rw [hvm]; exact State.WarmedH.refl s
  have hat' : ∀ w ∈ vx_atS own ic cls names, w.before args s' = true := fun w hw => vx_ot_at hW0 hvm.symm (hgood w (List.mem_cons_of_mem _ (List.mem_cons_of_mem _ hw))) (hat w hw)
  have hk' : (Cond.classLink own ik cls).before args s' = true := vx_ot_at hW0 hvm.symm (hgood _ List.mem_cons_self) hk
  have hini' : (Cond.initialized cls).before args s' = true := vx_ot_at hW0 hvm.symm (hgood _ (List.mem_cons_of_mem _ List.mem_cons_self)) hini
  have hU' : vx_Zq Bundle.tN "UNASSIGNED_STACK" Bundle.steD A s' s'.heap := by rw [hhp]; exact vx_Zq.moved hW0.alike (hU.kept hS.2.1)
  have hN' : vx_Zq Bundle.tN "SUPPRESSED_SENTINEL" Bundle.listD A s' s'.heap := by rw [hhp]; exact vx_Zq.moved hW0.alike (hN.kept hS.2.1)
  have h : ∀ w ∈ Bundle.ownAtoms own ic cls names, w.before args s' = true := vx_own hat' (vx_isRefq hU'.1) (vx_isRefq hN'.1) hU'.2.word hN'.2.word
  have hown' : s'.vm.findClass own = some m.cls := by rw [hvm]; exact hown
  have hins : (Cond.instantiable cls 6).before args s' = true := h _ (by simp [Bundle.ownAtoms])
  obtain ⟨vm₁, cX, kX, hfX, hkX, -, -, X₁, st1⟩ := Y.newCold hexec (own := own) (C := cls) (index := ik) (n := 6) hown' hk' hins hini'
    (g := F0 m pc ls rest) rfl (by rw [hb]; exact d0) (Nat.le_refl _) (Nat.le_refl _)
  generalize hT1 : (T.setVm vm₁).pushCell { cls := cX, slots := kX.instanceTypes.map defaultValue, vm := .none } = T1 at X₁ st1
  have hcat : (Value.ref T.heap.size).category = 1 := rfl
  have hcellA : T1.heap[T.heap.size]? = some (freshCell cX kX) := by rw [← hT1]; exact State.heap_pushCell_size _ _
  have d3' : decode c.code (pc + 3) = .ok (.dup, 1) := by rw [hb]; exact d3
  have d4' : decode c.code (pc + 4) = .ok (.ldc_w is, 3) := by rw [hb]; exact d4
  have hstr' : vk_R own is text sa s' := vk_R.warm hW0 hstr
  obtain ⟨U, hsteps, hrun, hend, hW, hsame, ce, hce, hO⟩ := X₁.ctorThrowS hexec htr (own := own) (cls := cls) (names := names) (ic := ic) hown' hcls hnames h (fun x hx => nomatch hx) hfX hkX hcellA (by rw [hhp, hT]; exact Nat.le_refl _) (msg := .ref sa) rfl
    (g := { method := m, pc := pc + 7, locals := ls, stack := .ref sa :: .ref T.heap.size :: .ref T.heap.size :: rest, locked := none }) rfl hsize rfl rfl (rest := rest) rfl
    (by rw [hb]; exact d7) (by rw [hb]; exact d10) hout hRframes (by simp only [List.map_cons, List.sum_cons, hcat]; omega) hlocks
  obtain ⟨f1, f2⟩ := vx_frame hsame
  rw [hhp] at f1 f2
  have hWs : s.WarmedH U.vm := State.WarmedH.trans hW0 hW
  have hcl : s.vm.findClass cls = some ce.cls := by
    have h9 := hO.cls
    rw [hvm] at h9
    exact h9
  have hall : s.sameButNew ({ U with vm := s.vm } : State) locs mc ms := by
    subst hA
    obtain ⟨e1, e2⟩ := hsame
    rw [State.setFrames_setFrames] at e1
    have h2 : (T.setVm s.vm).sameButNew ({ U with vm := s.vm } : State) [] (0 + 1) (0 + 6) := ⟨e1, e2⟩
    have h3 := X.same.trans h2
    rw [List.append_nil] at h3
    exact h3.mono hc hs
  refine ⟨U, ?_, .threw T.heap.size, hrun, hend, Or.inr ⟨T.heap.size, rfl, cls, ce, locs, hx U hWs.alike f1 (fun q hq => f2 q hq (fun z hz => nomatch hz)), hce, hO.vm, hcl, hWs, hall, hf⟩⟩
  refine st1 _ ?_
  show Steps p.tables e below (T1.setTop { method := m, pc := pc + 3, locals := ls, stack := .ref T.heap.size :: rest, locked := none }) _
  jvm_step X₁.here [X₁.here.top, hexec, d3', Value.category]
  exact X₁.ldcStringW hexec (own := own) (text := text) (index := is) (a := sa) hown' hstr'.1 hstr'.2
    (g := { method := m, pc := pc + 4, locals := ls, stack := .ref T.heap.size :: .ref T.heap.size :: rest, locked := none }) rfl d4' _ hsteps
end Ends
section Bodies
variable {l : Launch}
theorem vx_ofW {y : MethodName} {ws ws' : List Cond} {rm : Room} {Pc : Array Value → State → Prop} {Qc : Array Value → State → Outcome → State → Prop} {XC : String → State → State → Prop} {mc ms : Nat} {free : Addr → Prop} {cc : ByteArray} {maxL : Nat} {ret : Option FieldType}
    (hy : plainName y.cls = true) (hw : ws = Cond.code y cc maxL ret :: ws')
    (body : ∀ p e s m args below meth c s₁, BodyLoose p l y (headSpec ws rm) cc maxL ret e s m args below meth c s₁ → c.maxLocals = maxL → (∀ x ∈ c.exceptionTable.toList, False) → Pc args s →
      W p l e (headSpec ws rm).room s m args below meth c s.heap [] 0 0 (vx_MQ below Qc XC args s mc ms free) (entryFrame m args maxL)) : vx_Met l y ws rm Pc Qc XC mc ms free := by
  refine MetFree.of_bodyS (code := cc) (maxLocals := maxL) (ret := ret) hy ?_ ?_
  · intro args s m h hn
    obtain ⟨meth, c, h1, h2, h3, h4, h5, h6, -, -⟩ := Cond.code_spec hn (atoms_spec (ws := ws) h _ (by rw [hw]; exact List.mem_cons_self))
    exact ⟨meth, c, h1, h2, h3, h4, h5, h6⟩
  · intro p e s m args below meth c s₁ B hml hP _
    have hh0 : s₁.heap = s.heap := by rw [B.state]; rfl
    have ht : ∀ x ∈ c.exceptionTable.toList, False := by
      obtain ⟨meth9, c9, h1, h2, -, -, -, -, h7, -⟩ := Cond.code_spec B.named (atoms_spec (ws := ws) B.pre _ (by rw [hw]; exact List.mem_cons_self))
      cases Option.some.inj (h1.symm.trans B.method)
      cases Option.some.inj (h2.symm.trans (Stand.of_body B).code)
      intro x hx
      rw [Array.isEmpty_iff.mp h7] at hx
      cases hx
    obtain ⟨t, a1, o, b1, b2, b3⟩ := body p e s m args below meth c s₁ B hml ht hP s₁ hh0 (Stand.of_body B)
    exact ⟨t, o, a1, b1, b2, b3⟩
/-- the table of a body with handlers -/
theorem vx_table {p : Program} {x y : MethodName} {S : Spec} {cc bytes : ByteArray} {maxL maxL' : Nat} {ret ret' : Option FieldType} {e : Env} {s s₁ : State} {m : MethodId} {args : Array Value} {below : List Frame} {meth : Method} {c : Code} {hh : List (Nat × Nat × Nat × Nat)}
    (B : BodyLoose p l y S cc maxL ret e s m args below meth c s₁) (h : (Cond.codeWith y bytes maxL' ret' hh).before args s = true) : c.exceptionTable.toList = tableOf hh := by
  obtain ⟨m9, meth9, c9, hn9, h1, h2, -, -, h6, -⟩ := Cond.codeWith_spec h
  cases Option.some.inj (hn9.symm.trans B.named)
  cases Option.some.inj (h1.symm.trans B.method)
  cases Option.some.inj (h2.symm.trans (Stand.of_body B).code)
  rw [← h6, table_eq]
end Bodies
end VXA
/-! ===== END ===== -/
/-! ===== BEGIN a static call of a method with an exception table ===== -/
section VXS
variable {p : Program} {l : Launch} {e : Env} {R : Room} {s : State} {m : MethodId} {args : Array Value} {below : List Frame} {meth : Method} {c : Code} {T : State} {H : Heap} {locs : List Loc} {cells slots : Nat}
abbrev vx_CSW (R : Room) (s : State) (args : Array Value) (own : String) (index : Nat) (y : MethodName) (bytes : ByteArray) (maxL : Nat) (ret : Option FieldType) (hh : List (Nat × Nat × Nat × Nat)) (ws : List Cond) (rm : Room) (mc ms n : Nat) : Prop :=
  (rm.cells = mc ∧ rm.slots = ms ∧ rm.frames + 1 ≤ R.frames ∧ 8 + (maxL + 11) + rm.locals ≤ R.locals ∧ (∀ w ∈ ws, ∀ (a' : Array Value) (U : State), s.WarmedH U.vm → w.before a' U = true) ∧ Cond.codeWith y bytes maxL ret hh ∈ ws) ∧
  (Cond.codeWith y bytes maxL ret hh).before args s = true ∧ (Cond.initialized y.cls).before args s = true ∧ (y.cls ≠ "java/lang/invoke/MethodHandle" ∧ y.cls ≠ "java/lang/invoke/VarHandle") ∧
  (∀ sig, parseMethodDescriptor y.desc = some sig → n = sig.parameters.length) ∧ (Cond.methodLink own index y).before args s = true ∧ (Cond.static y).before args s = true
theorem vx_cwSW {own : String} {index maxL mc ms : Nat} {y : MethodName} {bytes : ByteArray} {ret : Option FieldType} {hh : List (Nat × Nat × Nat × Nat)} {Ts ws ws' : List Cond} {rm : Room} (n : Nat) (ht : ∀ w ∈ Ts, w.before args s = true) (hT : GoodIn Ts (va_wsS own index y ws)) (hw : ws = Cond.codeWith y bytes maxL ret hh :: ws') (hrc : rm.cells = mc) (hrs : rm.slots = ms)
    (hd : y.cls ≠ "java/lang/invoke/MethodHandle" ∧ y.cls ≠ "java/lang/invoke/VarHandle" ∧ (parseMethodDescriptor y.desc).map (fun d => d.parameters.length) = some n) (hR : rm.frames + 1 ≤ R.frames ∧ 8 + (maxL + 11) + rm.locals ≤ R.locals) :
    vx_CSW R s args own index y bytes maxL ret hh ws rm mc ms n := by
  have ok : ∀ w ∈ va_wsS own index y ws, w.before args s = true := fun w h => ht w (hT w h).1
  have hG : GoodIn Ts ws := fun w h => hT w (by unfold va_wsS; exact List.mem_append_right _ h)
  have hc : Cond.codeWith y bytes maxL ret hh ∈ ws := by rw [hw]; exact List.mem_cons_self
  refine ⟨⟨hrc, hrs, hR.1, hR.2, pay_in ht hG, hc⟩, ht _ (hG _ hc).1, ok _ (by simp [va_wsS]), ⟨hd.1, hd.2.1⟩, fun sig h => ?_, ok _ (by simp [va_wsS]), ok _ (by simp [va_wsS])⟩
  have h2 := hd.2.2
  rw [h] at h2
  exact (Option.some.inj h2).symm
theorem vx_callSW (X : Stand p l e R s m args below meth c T locs cells slots) (hexec : p.tables.exec = Jvm.exec) {own : String} {index : Nat} {y : MethodName} {bytes : ByteArray} {maxL : Nat} {ret : Option FieldType} {hh : List (Nat × Nat × Nat × Nat)}
    (hown : s.vm.findClass own = some m.cls) (hlink : (Cond.methodLink own index y).before args s = true) (hstat : (Cond.static y).before args s = true) (hinit : (Cond.initialized y.cls).before args s = true)
    (hcode : (Cond.codeWith y bytes maxL ret hh).before args s = true) (hy : y.cls ≠ "java/lang/invoke/MethodHandle" ∧ y.cls ≠ "java/lang/invoke/VarHandle")
    {W9 : Nat} {Pre : Pt → Array Value → Prop} {Post : Pt → Array Value → Option Value → Pt → Prop} (hK : Back l R p e below s args y 3 W9 Pre Post)
    {g : JFrame} (hg : g.method = m) (hsize : g.locals.size = c.maxLocals) {argsL rest : List Value} (hlen : ∀ sig, parseMethodDescriptor y.desc = some sig → argsL.length = sig.parameters.length)
    (hstack : g.stack = argsL.reverse ++ rest) (hW : 2 * g.monitorRoom + (rest.map fun v => v.category).sum ≤ W9) (hdg : decode c.code g.pc = .ok (.invokestatic index, 3))
    (hpre : ∀ vm₁, s.WarmedH vm₁ → Pre ⟨T.setVm vm₁, locs, cells, slots⟩ argsL.toArray) :
    ∃ (v : Option Value) (vm₁ : Vm) (B : Pt), s.WarmedH vm₁ ∧ Stand p l e R s m args below meth c B.U B.locs B.cells B.slots ∧ Post ⟨T.setVm vm₁, locs, cells, slots⟩ argsL.toArray v B ∧
      ∀ target, Steps p.tables e below (B.U.setTop { g with pc := g.pc + 3, stack := v.toList ++ rest }) target → Steps p.tables e below (T.setTop g) target := by
  obtain ⟨mk, methM, cM, hnamed, hmethM, -, -, -, -, -, -, hsigM⟩ := Cond.codeWith_spec hcode
  have hstatic : methM.isStatic = true := Cond.static_spec hnamed hmethM hstat
  obtain ⟨kP, hkP, -⟩ := className_of_methodNamed hnamed
  have hinitP : kP.init = .initialized := Cond.initialized_spec (findClass_of_methodNamed hnamed) hkP hinit
  obtain ⟨vm₁, X₁, hstep₁⟩ := X.invokestatic hexec hown hlink hnamed hmethM hstatic hkP hinitP hy (g := g) hg (argsL := argsL) (rest := rest) (hlen _ hsigM) hstack hdg
  obtain ⟨v, B, X', hpost, hsteps⟩ := hK m meth c ⟨T.setVm vm₁, locs, cells, slots⟩ { g with stack := rest } (.invokestatic index) mk argsL.toArray X₁ hg hsize hdg hW (X₁.named hnamed) (hpre vm₁ X₁.warmed)
  exact ⟨v, vm₁, B, X₁.warmed, X', hpost, fun target h => hstep₁ _ fun acts => by rw [doInvoke_state]; exact hsteps.trans h⟩
theorem vx_runSW {y : MethodName} {bytes cc : ByteArray} {maxL nL mc ms n index : Nat} {ret : Option FieldType} {hh : List (Nat × Nat × Nat × Nat)} {ws : List Cond} {rm : Room} {Pc : Array Value → State → Prop} {Qc : Array Value → State → Outcome → State → Prop} {free : Addr → Prop} {Ts : List Cond} {own : String} {As rest : List Value} {g : JFrame}
    (S : CallFix p m c cc nL s args Ts own) (hM : Met l y ws rm Pc Qc mc ms free) (cw : vx_CSW R s args own index y bytes maxL ret hh ws rm mc ms n) (hp : PreS s H Pc As)
    (hg : g.method = m) (hn : As.length = n) (hsize : g.locals.size = nL) (hstack : g.stack = As.reverse ++ rest) (hW : 2 * g.monitorRoom + (rest.map fun v => v.category).sum ≤ 8) (hdg : decode cc g.pc = .ok (.invokestatic index, 3)) (hf : cells + mc ≤ R.cells ∧ slots + ms ≤ R.slots) :
    va_Run p l e R s m args below meth c H locs cells slots mc ms g rest (Qc As.toArray) (free) := by
  obtain ⟨⟨hrc, hrs, hfr, hlo, hws, hcw⟩, hcode, hini, hy, hlen, hl, hstt⟩ := cw
  have hK : Back l R p e below s args y 3 8 (PreOf R mc ms Pc) (PostOf Qc mc ms free) := va_backW (hh := hh) (bytes := bytes) (maxL := maxL) (ret := ret) hM hp.1 hrc hrs hfr hlo hws hcw (fun a' U hW => word_at hW (Or.inl (by first | rfl | simp [Cond.onTables, Cond.keeps, Cond.steady])) hini)
  obtain ⟨hx, hb, hml, ho, -⟩ := S
  intro T hT X
  obtain ⟨v, vm₁, ⟨U', l2, c2, s2⟩, hW₁, X', ⟨g', mk, t, L, e1, e2, hq, h1, hL, h2, h3⟩, st⟩ := vx_callSW X hx (hh := hh) (bytes := bytes) (maxL := maxL) (ret := ret) ho hl hstt hini hcode hy hK hg (hsize.trans hml.symm) (argsL := As) (rest := rest) (fun sig h => hn.trans (hlen sig h)) hstack hW (by rw [hb]; exact hdg)
    (fun vm₁ hW₁ => ⟨hf.1, hf.2, hp.2 (T.setVm vm₁) hT hW₁⟩)
  dsimp only [Pt.U, Pt.locs, Pt.cells, Pt.slots] at X' e1 e2 h1 h2 h3 st
  subst h1; subst h2; subst h3
  exact ⟨v, (T.setVm vm₁).calling g' mk As.toArray, t, U', L, hT, X', hL, e1, e2, hq, st⟩
/-- not caught here, past rows that name other classes: it goes on to the caller -/
theorem vx_outP {p : Program} {l : Launch} {e : Env} {R : Room} {s : State} {m : MethodId} {args : Array Value} {below : List Frame} {meth : Method} {c : Code} {H : Heap} {locs : List Loc} {cells slots : Nat} {free : Addr → Prop} {ls : Array Slot} {rest : List Value} {Qc : Array Value → State → Outcome → State → Prop} {XC : String → State → State → Prop}
    {pc : Nat} {own E : String} {ce : Cell} {q : Addr} {mc ms : Nat} (hown : s.vm.findClass own = some m.cls) (hlocks : meth.locks = false)
    (hpass : ∀ z ∈ c.exceptionTable.toList, covers z pc = false ∨ (z.catchType ≠ 0 ∧ ∃ nm : String, (Cond.classLink own z.catchType nm).before args s = true ∧ va_Nc E nm s)) (hcell : H[q]? = some ce) (hv : ce.vm = .none) (hcl : s.vm.findClass E = some ce.cls)
    (hx : ∀ t : State, t.heap = H → s.vm.Alike t.vm → XC E s t) (hf : ∀ z ∈ locs, free z.base) (hc : cells ≤ mc) (hs : slots ≤ ms) :
    vx_W p l e R s m args below meth c H locs cells slots (vx_MQ below Qc XC args s mc ms free) (F0 m pc ls rest) q := by
  intro T hT X
  have hpl : e.platform.magicAccessors = ({} : Platform).magicAccessors := by rw [X.admits.platform]
  obtain ⟨vm', hW', X', st⟩ := X.outThrough hlocks q (g := F0 m pc ls rest) rfl rfl rfl (cell := ce) (by rw [hT]; exact hcell) (by rw [hv]; rfl)
    (by obtain ⟨k9, h9, -⟩ := Vm.findClass_spec hcl; exact ⟨k9, h9⟩) (fun z hz => by
      rcases hpass z hz with h | ⟨hz0, nm, hl1, hn1⟩
      · exact Or.inl h
      · obtain ⟨c6, hc6, hcl6⟩ := Cond.classLink_spec hown hl1 e.platform hpl
        obtain ⟨a8, b8, h1, h2, h3⟩ := hn1
        cases Option.some.inj (h1.symm.trans hcl)
        cases Option.some.inj (h2.symm.trans hc6)
        exact Or.inr ⟨hz0, _, hcl6, h3⟩)
  obtain ⟨g₀, hfr⟩ := X'.frames_eq
  have hcell9 : ((T.setVm vm').setFrames (.throwing q :: below)).heap[q]? = some ce := by
    show T.heap[q]? = some ce
    rw [hT]; exact hcell
  have hend : Ended ((T.setVm vm').setFrames (.throwing q :: below)) below (.threw q) := State.frames_setFrames _ (State.cur_lt_of_frames hfr)
  refine ⟨(T.setVm vm').setFrames (.throwing q :: below), ?_, .threw q, X'.here.running, hend, Or.inr ⟨q, rfl, E, ce, locs, hx _ hT (X'.ends _).1.alike, hcell9, hv, hcl, (X'.ends _).1, (X'.ends _).2.mono hc hs, hf⟩⟩
  rw [X.pushThrowing_eq]
  exact st
/-- a thing of a world lies in the heap -/
theorem vx_lt {D : va_G} {cl : List vw_C} {ws : va_W} {H1 : Heap} (h : va_P D cl ws H1) {k : Nat} {q : Nat × va_E} (hk : ws[k]? = some q) : q.1 < H1.size := (h k q hk).lt
end VXS
/-! ===== END ===== -/
/-! ===== BEGIN methods with a table of their own: called by a name, returning or throwing ===== -/
section VXH
/-! vx_backW, vx_callVX, vx_callSX, vx_callVW, vx_runVW, vx_runVX, vx_runSX, vx_ofWH follow the same proofs as their sisters above (Free/Laws.lean, Shelf42/LK1.lean); vx_outP calls Shelf42/NT130.lean (outThrough). -/
section
variable {l : Launch} {R : Room} {p : Program} {e : Env} {below : List Frame} {s : State} {sargs : Array Value} {y : MethodName} {len W9 : Nat}
theorem vx_backW {ws : List Cond} {rm : Room} {Pc : Array Value → State → Prop} {Qc : Array Value → State → Outcome → State → Prop} {XC : String → State → State → Prop} {mc ms : Nat} {free : Addr → Prop} {bytes : ByteArray} {maxL : Nat} {ret : Option FieldType} {hh : List (Nat × Nat × Nat × Nat)}
    (hM : vx_Met l y ws rm Pc Qc XC mc ms free) (hblind : FrameBlind Pc) (hrc : rm.cells = mc) (hrs : rm.slots = ms)
    (hframes : rm.frames + 1 ≤ R.frames) (hlocals : W9 + (maxL + 11) + rm.locals ≤ R.locals)
    (hws : ∀ w ∈ ws, ∀ a' U, s.WarmedH U.vm → w.before a' U = true) (hcode : Cond.codeWith y bytes maxL ret hh ∈ ws) (hinit : ∀ a' U, s.WarmedH U.vm → (Cond.initialized y.cls).before a' U = true) :
    vx_Back l R p e below s sargs y len W9 (PreOf R mc ms Pc) (PostOf Qc mc ms free) (vx_Post XC mc ms free) := by
  intro m meth c A g ig mk a X hg hsize hdg hW hn hp
  have h1 : (headSpec ws rm).pre.before a A.U = true := atoms_intro fun w hw => hws w hw _ _ X.warmed
  have h2 : (Cond.codeWith y bytes maxL ret hh).before a A.U = true := hws _ hcode _ _ X.warmed
  have h3 : (Cond.initialized y.cls).before a A.U = true := hinit _ _ X.warmed
  have h4 : A.cells + (headSpec ws rm).room.cells ≤ R.cells := by rw [show (headSpec ws rm).room.cells = mc from hrc]; exact hp.1
  have h5 : A.slots + (headSpec ws rm).room.slots ≤ R.slots := by rw [show (headSpec ws rm).room.slots = ms from hrs]; exact hp.2.1
  have hPc : Pc a (A.U.calling g mk a) := hblind _ _ _ _ hp.2.2
  obtain ⟨U, Ls, c0, s0⟩ := A
  dsimp only [Pt.U, Pt.locs, Pt.cells, Pt.slots] at h1 h2 h3 h4 h5 X hn hPc ⊢
  obtain ⟨m9, methY, cY, hn9, hmY, hcY, -, hlY, -⟩ := Cond.codeWith_spec h2
  cases Option.some.inj (hn9.symm.trans hn)
  obtain ⟨kY, hkY, -⟩ := className_of_methodNamed hn
  have hinitY : kY.init = .initialized := Cond.initialized_spec (findClass_of_methodNamed hn) hkY h3
  have h : At U g.method c below := by rw [hg]; exact X.here
  have hlocals9 : W9 + (maxL + 11) + (headSpec ws rm).room.locals ≤ R.locals := hlocals
  have happ : (headSpec ws rm).appliesLoose y e.platform (U.calling g mk a) = true :=
    Spec.appliesLoose_calling (g := g) h hdg hn hkY hinitY
      (X.room_calling (g := g) (R' := (headSpec ws rm).room) hsize hmY hcY hframes (by rw [hlY]; omega) h4 h5) h1
  obtain ⟨mid, hmid⟩ := h.above
  have hfr : (U.setTop g).frames = (.java g :: mid) ++ below := by rw [State.frames_setTop' g h.top, hmid]; rfl
  obtain ⟨o, s₂, hsteps, -, hend, hq⟩ := Steps.callFree hM p X.admits X.cas X.clock (acts := []) hfr happ hPc trivial
  have hq' : vx_Q Qc XC mc ms free a (U.calling g mk a) o s₂ := hq
  rw [State.frames_setTop' g h.top] at hend
  obtain ⟨g₀, hg0⟩ := Option.isSome_iff_exists.mp h.top
  obtain ⟨r, hr⟩ := State.topJava?_eq_some.mp hg0
  have hr' : (({ U with heap := s₂.heap, slotsUsed := s₂.slotsUsed } : State).setVm s₂.vm).frames = .java g₀ :: r := hr
  rcases hq' with ⟨hqc, L, hfe, hL⟩ | ⟨q, rfl, E, ce, L, hx, hce, hcv, hcl, hW₂, hsm, hL⟩
  · obtain ⟨⟨v, rfl⟩, hW₂, e2, q2, q3, q4, q5, q6⟩ := id hfe
    have e3 : s₂ = ({ (U.calling g mk a).setFrames s₂.frames with heap := s₂.heap, slotsUsed := s₂.slotsUsed } : State).setVm s₂.vm := by
      have : s₂ = ({ s₂ with vm := (U.calling g mk a).vm } : State).setVm s₂.vm := rfl
      rw [e2] at this
      exact this
    obtain ⟨c₂, i₂, len₂, hc₂, hd₂, hf₂⟩ := hend
    have hW' : U.WarmedH s₂.vm := hW₂
    have hcc : c₂ = c := by
      have h1 : s₂.code? g.method = U.code? g.method := by
        rw [State.code?_eq, State.code?_eq, hW'.alike.method?]
      exact Option.some.inj (hc₂.symm.trans (h1.trans h.code))
    subst hcc
    have hlen : len₂ = len := by rw [hdg] at hd₂; cases hd₂; rfl
    subst hlen
    have hs₂ : s₂ = (({ U with heap := s₂.heap, slotsUsed := s₂.slotsUsed } : State).setVm s₂.vm).setTop { g with pc := g.pc + len₂, stack := v.toList ++ g.stack } := by
      refine e3.trans ?_
      rw [hf₂, State.calling_eq h.top, State.setFrames_setFrames, State.setTop_of_frames _ hr', hr]
      rfl
    have hsame : U.sameButNew ({ U with heap := s₂.heap, slotsUsed := s₂.slotsUsed } : State) L mc ms := by
      refine ⟨?_, q2, q3, q4, q5, q6⟩
      obtain ⟨t, ht, -⟩ := State.frames_cons hr
      show ({ U with heap := s₂.heap, slotsUsed := s₂.slotsUsed } : State) = { U.setFrames U.frames with heap := s₂.heap, slotsUsed := s₂.slotsUsed }
      rw [State.setFrames_self ht]
    subst hg
    refine Or.inl ⟨v, ⟨(({ U with heap := s₂.heap, slotsUsed := s₂.slotsUsed } : State).setVm s₂.vm), Ls ++ L, c0 + mc, s0 + ms⟩,
      ⟨X.admits, X.cas, X.clock, X.frames, X.room, X.hears, X.method, X.code, (X.here.setHeapUsed s₂.heap s₂.slotsUsed).setVm hW'.alike, X.tail, State.WarmedH.trans X.warmed hW', X.limits, X.bytes, X.same.trans (hsame.setVm s.vm)⟩,
      ⟨g, mk, s₂, L, rfl, rfl, hqc, rfl, hL, rfl, rfl⟩, ?_⟩
    show Steps p.tables e below _ ((({ U with heap := s₂.heap, slotsUsed := s₂.slotsUsed } : State).setVm s₂.vm).setTop { g with pc := g.pc + len₂, stack := v.toList ++ g.stack })
    rw [← hs₂]
    exact hsteps
  · obtain ⟨e2, q2, q3, q4, q5, q6⟩ := id hsm
    have e3 : s₂ = ({ (U.calling g mk a).setFrames s₂.frames with heap := s₂.heap, slotsUsed := s₂.slotsUsed } : State).setVm s₂.vm := by
      have : s₂ = ({ s₂ with vm := (U.calling g mk a).vm } : State).setVm s₂.vm := rfl
      rw [e2] at this
      exact this
    have hf₂ : s₂.frames = .throwing q :: .java g :: U.frames.tail := hend
    have hW' : U.WarmedH s₂.vm := hW₂
    have hs₂ : s₂ = ((({ U with heap := s₂.heap, slotsUsed := s₂.slotsUsed } : State).setVm s₂.vm).setTop g).pushFrame (.throwing q) := by
      refine e3.trans ?_
      rw [hf₂, State.calling_eq h.top, State.setFrames_setFrames, State.pushFrame, State.frames_setTop _ hr', State.setTop_of_frames _ hr', State.setFrames_setFrames, hr]
      rfl
    have hsame : U.sameButNew ({ U with heap := s₂.heap, slotsUsed := s₂.slotsUsed } : State) L mc ms := by
      refine ⟨?_, q2, q3, q4, q5, q6⟩
      obtain ⟨t, ht, -⟩ := State.frames_cons hr
      show ({ U with heap := s₂.heap, slotsUsed := s₂.slotsUsed } : State) = { U.setFrames U.frames with heap := s₂.heap, slotsUsed := s₂.slotsUsed }
      rw [State.setFrames_self ht]
    subst hg
    refine Or.inr ⟨q, ⟨(({ U with heap := s₂.heap, slotsUsed := s₂.slotsUsed } : State).setVm s₂.vm), Ls ++ L, c0 + mc, s0 + ms⟩,
      ⟨X.admits, X.cas, X.clock, X.frames, X.room, X.hears, X.method, X.code, (X.here.setHeapUsed s₂.heap s₂.slotsUsed).setVm hW'.alike, X.tail, State.WarmedH.trans X.warmed hW', X.limits, X.bytes, X.same.trans (hsame.setVm s.vm)⟩,
      ⟨g, mk, s₂, L, E, ce, rfl, rfl, hx, hce, hcv, hcl, rfl, hL, rfl, rfl⟩, ?_⟩
    show Steps p.tables e below _ (((({ U with heap := s₂.heap, slotsUsed := s₂.slotsUsed } : State).setVm s₂.vm).setTop g).pushFrame (.throwing q))
    rw [← hs₂]
    exact hsteps
end
variable {p : Program} {l : Launch} {e : Env} {R : Room} {s : State} {m : MethodId} {args : Array Value} {below : List Frame} {meth : Method} {c : Code} {T : State} {H : Heap} {locs : List Loc} {cells slots : Nat}
theorem vx_callVX (X : Stand p l e R s m args below meth c T locs cells slots) (hexec : p.tables.exec = Jvm.exec) {own C : String} {index : Nat} {y : MethodName} {bytes : ByteArray} {maxL : Nat} {ret : Option FieldType} {hh : List (Nat × Nat × Nat × Nat)}
    (hown : s.vm.findClass own = some m.cls) (hlink : (Cond.methodLink own index y).before args s = true) (hinst : (Cond.instanceMethod y).before args s = true) (hsel : (Cond.selects C y y).before args s = true)
    (hcode : (Cond.codeWith y bytes maxL ret hh).before args s = true) (hy : y.cls ≠ "java/lang/invoke/MethodHandle" ∧ y.cls ≠ "java/lang/invoke/VarHandle")
    {W9 : Nat} {Pre : Pt → Array Value → Prop} {Post : Pt → Array Value → Option Value → Pt → Prop} {PostX : Pt → Array Value → Addr → Pt → Prop} (hK : vx_Back l R p e below s args y 3 W9 Pre Post PostX)
    {b : Addr} {cellB : Cell} (hcell : T.heap[b]? = some cellB) (hobj : cellB.vm.isStatics = false) (hcls : s.vm.findClass C = some cellB.cls)
    {g : JFrame} (hg : g.method = m) (hsize : g.locals.size = c.maxLocals) {argsL rest : List Value} (hlen : ∀ sig, parseMethodDescriptor y.desc = some sig → argsL.length = sig.parameters.length)
    (hstack : g.stack = argsL.reverse ++ .ref b :: rest) (hW : 2 * g.monitorRoom + (rest.map fun v => v.category).sum ≤ W9) (hdg : decode c.code g.pc = .ok (.invokevirtual index, 3))
    (hpre : ∀ vm₁, s.WarmedH vm₁ → Pre ⟨T.setVm vm₁, locs, cells, slots⟩ (Value.ref b :: argsL).toArray) :
    (∃ (v : Option Value) (vm₁ : Vm) (B : Pt), s.WarmedH vm₁ ∧ Stand p l e R s m args below meth c B.U B.locs B.cells B.slots ∧ Post ⟨T.setVm vm₁, locs, cells, slots⟩ (Value.ref b :: argsL).toArray v B ∧
      ∀ target, Steps p.tables e below (B.U.setTop { g with pc := g.pc + 3, stack := v.toList ++ rest }) target → Steps p.tables e below (T.setTop g) target) ∨
    (∃ (q : Addr) (vm₁ : Vm) (B : Pt), s.WarmedH vm₁ ∧ Stand p l e R s m args below meth c B.U B.locs B.cells B.slots ∧ PostX ⟨T.setVm vm₁, locs, cells, slots⟩ (Value.ref b :: argsL).toArray q B ∧
      Steps p.tables e below (T.setTop g) ((B.U.setTop { g with stack := rest }).pushFrame (.throwing q))) := by
  obtain ⟨mk, methM, hnamed, hmethM, hstM, habM⟩ := Cond.instanceMethod_spec hinst
  obtain ⟨m8, methM', cM, hn8, hmethM', -, -, -, -, -, -, hsigM⟩ := Cond.codeWith_spec hcode
  cases Option.some.inj (hn8.symm.trans hnamed)
  cases hmethM.symm.trans hmethM'
  obtain ⟨c2, r2, m2, q1, q2, q3, q4, kP, hkP, hkPi⟩ := Cond.selects_spec hsel
  cases hcls.symm.trans q1
  cases (State.methodFound?_of_named hnamed hy).symm.trans q2
  cases hnamed.symm.trans q3
  have hselP : selectMethod e.platform s.vm cellB.cls mk = .method mk := by rw [Launch.admits_selectMethod X.admits]; exact q4
  obtain ⟨vm₁, X₁, hstep₁⟩ := X.invokevirtual hexec hown hlink hnamed hmethM hstM hkP hkPi hy (a := b) (cell := cellB) hcell
    (fun z h => by rw [h] at hobj; cases hobj) hselP hmethM habM hkP hkPi (g := g) hg (argsL := argsL) (rest := rest) (hlen _ hsigM) hstack hdg
  rcases hK m meth c ⟨T.setVm vm₁, locs, cells, slots⟩ { g with stack := rest } (.invokevirtual index) mk (Value.ref b :: argsL).toArray X₁ hg hsize hdg hW (X₁.named hnamed) (hpre vm₁ X₁.warmed) with ⟨v, B, X', hpost, hsteps⟩ | ⟨q, B, X', hpost, hsteps⟩
  · exact Or.inl ⟨v, vm₁, B, X₁.warmed, X', hpost, fun target h => hstep₁ _ fun acts => by rw [doInvoke_state]; exact hsteps.trans h⟩
  · exact Or.inr ⟨q, vm₁, B, X₁.warmed, X', hpost, hstep₁ _ fun acts => by rw [doInvoke_state]; exact hsteps⟩
theorem vx_callSX (X : Stand p l e R s m args below meth c T locs cells slots) (hexec : p.tables.exec = Jvm.exec) {own : String} {index : Nat} {y : MethodName} {bytes : ByteArray} {maxL : Nat} {ret : Option FieldType} {hh : List (Nat × Nat × Nat × Nat)}
    (hown : s.vm.findClass own = some m.cls) (hlink : (Cond.methodLink own index y).before args s = true) (hstat : (Cond.static y).before args s = true) (hinit : (Cond.initialized y.cls).before args s = true)
    (hcode : (Cond.codeWith y bytes maxL ret hh).before args s = true) (hy : y.cls ≠ "java/lang/invoke/MethodHandle" ∧ y.cls ≠ "java/lang/invoke/VarHandle")
    {W9 : Nat} {Pre : Pt → Array Value → Prop} {Post : Pt → Array Value → Option Value → Pt → Prop} {PostX : Pt → Array Value → Addr → Pt → Prop} (hK : vx_Back l R p e below s args y 3 W9 Pre Post PostX)
    {g : JFrame} (hg : g.method = m) (hsize : g.locals.size = c.maxLocals) {argsL rest : List Value} (hlen : ∀ sig, parseMethodDescriptor y.desc = some sig → argsL.length = sig.parameters.length)
    (hstack : g.stack = argsL.reverse ++ rest) (hW : 2 * g.monitorRoom + (rest.map fun v => v.category).sum ≤ W9) (hdg : decode c.code g.pc = .ok (.invokestatic index, 3))
    (hpre : ∀ vm₁, s.WarmedH vm₁ → Pre ⟨T.setVm vm₁, locs, cells, slots⟩ argsL.toArray) :
    (∃ (v : Option Value) (vm₁ : Vm) (B : Pt), s.WarmedH vm₁ ∧ Stand p l e R s m args below meth c B.U B.locs B.cells B.slots ∧ Post ⟨T.setVm vm₁, locs, cells, slots⟩ argsL.toArray v B ∧
      ∀ target, Steps p.tables e below (B.U.setTop { g with pc := g.pc + 3, stack := v.toList ++ rest }) target → Steps p.tables e below (T.setTop g) target) ∨
    (∃ (q : Addr) (vm₁ : Vm) (B : Pt), s.WarmedH vm₁ ∧ Stand p l e R s m args below meth c B.U B.locs B.cells B.slots ∧ PostX ⟨T.setVm vm₁, locs, cells, slots⟩ argsL.toArray q B ∧
      Steps p.tables e below (T.setTop g) ((B.U.setTop { g with stack := rest }).pushFrame (.throwing q))) := by
  obtain ⟨mk, methM, cM, hnamed, hmethM, -, -, -, -, -, -, hsigM⟩ := Cond.codeWith_spec hcode
  have hstatic : methM.isStatic = true := Cond.static_spec hnamed hmethM hstat
  obtain ⟨kP, hkP, -⟩ := className_of_methodNamed hnamed
  have hinitP : kP.init = .initialized := Cond.initialized_spec (findClass_of_methodNamed hnamed) hkP hinit
  obtain ⟨vm₁, X₁, hstep₁⟩ := X.invokestatic hexec hown hlink hnamed hmethM hstatic hkP hinitP hy (g := g) hg (argsL := argsL) (rest := rest) (hlen _ hsigM) hstack hdg
  rcases hK m meth c ⟨T.setVm vm₁, locs, cells, slots⟩ { g with stack := rest } (.invokestatic index) mk argsL.toArray X₁ hg hsize hdg hW (X₁.named hnamed) (hpre vm₁ X₁.warmed) with ⟨v, B, X', hpost, hsteps⟩ | ⟨q, B, X', hpost, hsteps⟩
  · exact Or.inl ⟨v, vm₁, B, X₁.warmed, X', hpost, fun target h => hstep₁ _ fun acts => by rw [doInvoke_state]; exact hsteps.trans h⟩
  · exact Or.inr ⟨q, vm₁, B, X₁.warmed, X', hpost, hstep₁ _ fun acts => by rw [doInvoke_state]; exact hsteps⟩
theorem vx_callVW (X : Stand p l e R s m args below meth c T locs cells slots) (hexec : p.tables.exec = Jvm.exec) {own C : String} {index : Nat} {y : MethodName} {bytes : ByteArray} {maxL : Nat} {ret : Option FieldType} {hh : List (Nat × Nat × Nat × Nat)}
    (hown : s.vm.findClass own = some m.cls) (hlink : (Cond.methodLink own index y).before args s = true) (hinst : (Cond.instanceMethod y).before args s = true) (hsel : (Cond.selects C y y).before args s = true)
    (hcode : (Cond.codeWith y bytes maxL ret hh).before args s = true) (hy : y.cls ≠ "java/lang/invoke/MethodHandle" ∧ y.cls ≠ "java/lang/invoke/VarHandle")
    {W9 : Nat} {Pre : Pt → Array Value → Prop} {Post : Pt → Array Value → Option Value → Pt → Prop} (hK : Back l R p e below s args y 3 W9 Pre Post)
    {b : Addr} {cellB : Cell} (hcell : T.heap[b]? = some cellB) (hobj : cellB.vm.isStatics = false) (hcls : s.vm.findClass C = some cellB.cls)
    {g : JFrame} (hg : g.method = m) (hsize : g.locals.size = c.maxLocals) {argsL rest : List Value} (hlen : ∀ sig, parseMethodDescriptor y.desc = some sig → argsL.length = sig.parameters.length)
    (hstack : g.stack = argsL.reverse ++ .ref b :: rest) (hW : 2 * g.monitorRoom + (rest.map fun v => v.category).sum ≤ W9) (hdg : decode c.code g.pc = .ok (.invokevirtual index, 3))
    (hpre : ∀ vm₁, s.WarmedH vm₁ → Pre ⟨T.setVm vm₁, locs, cells, slots⟩ (Value.ref b :: argsL).toArray) :
    ∃ (v : Option Value) (vm₁ : Vm) (B : Pt), s.WarmedH vm₁ ∧ Stand p l e R s m args below meth c B.U B.locs B.cells B.slots ∧ Post ⟨T.setVm vm₁, locs, cells, slots⟩ (Value.ref b :: argsL).toArray v B ∧
      ∀ target, Steps p.tables e below (B.U.setTop { g with pc := g.pc + 3, stack := v.toList ++ rest }) target → Steps p.tables e below (T.setTop g) target := by
  obtain ⟨mk, methM, hnamed, hmethM, hstM, habM⟩ := Cond.instanceMethod_spec hinst
  obtain ⟨m8, methM', cM, hn8, hmethM', -, -, -, -, -, -, hsigM⟩ := Cond.codeWith_spec hcode
  cases Option.some.inj (hn8.symm.trans hnamed)
  cases hmethM.symm.trans hmethM'
  obtain ⟨c2, r2, m2, q1, q2, q3, q4, kP, hkP, hkPi⟩ := Cond.selects_spec hsel
  cases hcls.symm.trans q1
  cases (State.methodFound?_of_named hnamed hy).symm.trans q2
  cases hnamed.symm.trans q3
  have hselP : selectMethod e.platform s.vm cellB.cls mk = .method mk := by rw [Launch.admits_selectMethod X.admits]; exact q4
  obtain ⟨vm₁, X₁, hstep₁⟩ := X.invokevirtual hexec hown hlink hnamed hmethM hstM hkP hkPi hy (a := b) (cell := cellB) hcell
    (fun z h => by rw [h] at hobj; cases hobj) hselP hmethM habM hkP hkPi (g := g) hg (argsL := argsL) (rest := rest) (hlen _ hsigM) hstack hdg
  obtain ⟨v, B, X', hpost, hsteps⟩ := hK m meth c ⟨T.setVm vm₁, locs, cells, slots⟩ { g with stack := rest } (.invokevirtual index) mk (Value.ref b :: argsL).toArray X₁ hg hsize hdg hW (X₁.named hnamed) (hpre vm₁ X₁.warmed)
  exact ⟨v, vm₁, B, X₁.warmed, X', hpost, fun target h => hstep₁ _ fun acts => by rw [doInvoke_state]; exact hsteps.trans h⟩
abbrev vx_CVW (R : Room) (s : State) (args : Array Value) (own C : String) (index : Nat) (y : MethodName) (bytes : ByteArray) (maxL : Nat) (ret : Option FieldType) (hh : List (Nat × Nat × Nat × Nat)) (ws : List Cond) (rm : Room) (mc ms n : Nat) : Prop :=
  (rm.cells = mc ∧ rm.slots = ms ∧ rm.frames + 1 ≤ R.frames ∧ 8 + (maxL + 11) + rm.locals ≤ R.locals ∧ (∀ w ∈ ws, ∀ (a' : Array Value) (U : State), s.WarmedH U.vm → w.before a' U = true) ∧ Cond.codeWith y bytes maxL ret hh ∈ ws) ∧
  (Cond.codeWith y bytes maxL ret hh).before args s = true ∧ (Cond.initialized y.cls).before args s = true ∧ (y.cls ≠ "java/lang/invoke/MethodHandle" ∧ y.cls ≠ "java/lang/invoke/VarHandle") ∧
  (∀ sig, parseMethodDescriptor y.desc = some sig → n = sig.parameters.length) ∧ (Cond.methodLink own index y).before args s = true ∧ (Cond.instanceMethod y).before args s = true ∧ (Cond.selects C y y).before args s = true
theorem vx_cwVW {own C : String} {index maxL mc ms : Nat} {y : MethodName} {bytes : ByteArray} {ret : Option FieldType} {hh : List (Nat × Nat × Nat × Nat)} {Ts ws ws' : List Cond} {rm : Room} (n : Nat) (ht : ∀ w ∈ Ts, w.before args s = true) (hT : GoodIn Ts (wsV own index C y ws)) (hw : ws = Cond.codeWith y bytes maxL ret hh :: ws') (hrc : rm.cells = mc) (hrs : rm.slots = ms)
    (hd : y.cls = C ∧ y.cls ≠ "java/lang/invoke/MethodHandle" ∧ y.cls ≠ "java/lang/invoke/VarHandle" ∧ (parseMethodDescriptor y.desc).map (fun d => d.parameters.length) = some n) (hR : rm.frames + 1 ≤ R.frames ∧ 8 + (maxL + 11) + rm.locals ≤ R.locals) :
    vx_CVW R s args own C index y bytes maxL ret hh ws rm mc ms n := by
  obtain ⟨hC, hd⟩ := hd
  subst hC
  have ok : ∀ w ∈ wsV own index y.cls y ws, w.before args s = true := fun w h => ht w (hT w h).1
  have hG : GoodIn Ts ws := fun w h => hT w (by unfold wsV; exact List.mem_append_right _ h)
  have hc : Cond.codeWith y bytes maxL ret hh ∈ ws := by rw [hw]; exact List.mem_cons_self
  refine ⟨⟨hrc, hrs, hR.1, hR.2, pay_in ht hG, hc⟩, ht _ (hG _ hc).1, ok _ (by simp [wsV]), ⟨hd.1, hd.2.1⟩, fun sig h => ?_, ok _ (by simp [wsV]), ok _ (by simp [wsV]), ok _ (by simp [wsV])⟩
  have h2 := hd.2.2
  rw [h] at h2
  exact (Option.some.inj h2).symm
theorem vx_runVW {y : MethodName} {bytes cc : ByteArray} {maxL nL mc ms n index : Nat} {ret : Option FieldType} {hh : List (Nat × Nat × Nat × Nat)} {ws : List Cond} {rm : Room} {Pc : Array Value → State → Prop} {Qc : Array Value → State → Outcome → State → Prop} {free : Addr → Prop} {Ts : List Cond} {own C : String} {b : Addr} {As rest : List Value} {g : JFrame}
    (S : CallFix p m c cc nL s args Ts own) (hM : Met l y ws rm Pc Qc mc ms free) (cw : vx_CVW R s args own C index y bytes maxL ret hh ws rm mc ms n) (hp : PreV s H C b Pc As)
    (hg : g.method = m) (hn : As.length = n) (hsize : g.locals.size = nL) (hstack : g.stack = As.reverse ++ .ref b :: rest) (hW : 2 * g.monitorRoom + (rest.map fun v => v.category).sum ≤ 8) (hdg : decode cc g.pc = .ok (.invokevirtual index, 3)) (hf : cells + mc ≤ R.cells ∧ slots + ms ≤ R.slots) :
    va_Run p l e R s m args below meth c H locs cells slots mc ms g rest (Qc (Value.ref b :: As).toArray) free := by
  obtain ⟨⟨hrc, hrs, hfr, hlo, hws, hcw⟩, hcode, hini, hy, hlen, hl, hin, hse⟩ := cw
  have hK : Back l R p e below s args y 3 8 (PreOf R mc ms Pc) (PostOf Qc mc ms free) := va_backW (hh := hh) (bytes := bytes) (maxL := maxL) (ret := ret) hM hp.1 hrc hrs hfr hlo hws hcw (fun a' U hW => word_at hW (Or.inl (by first | rfl | simp [Cond.onTables, Cond.keeps, Cond.steady])) hini)
  obtain ⟨hx, hb, hml, ho, -⟩ := S
  obtain ⟨-, ⟨cellB, hcB, hoB, hclB⟩, hPc⟩ := hp
  intro T hT X
  obtain ⟨v, vm₁, ⟨U', l2, c2, s2⟩, hW₁, X', ⟨g', mk, t, L, e1, e2, hq, h1, hL, h2, h3⟩, st⟩ := vx_callVW X hx (C := C) (hh := hh) (bytes := bytes) (maxL := maxL) (ret := ret) ho hl hin hse hcode hy hK (by rw [hT]; exact hcB) hoB hclB hg (hsize.trans hml.symm) (argsL := As) (rest := rest) (fun sig h => hn.trans (hlen sig h)) hstack hW (by rw [hb]; exact hdg)
    (fun vm₁ hW₁ => ⟨hf.1, hf.2, hPc (T.setVm vm₁) hT hW₁⟩)
  dsimp only [Pt.U, Pt.locs, Pt.cells, Pt.slots] at X' e1 e2 h1 h2 h3 st
  subst h1; subst h2; subst h3
  exact ⟨v, (T.setVm vm₁).calling g' mk (Value.ref b :: As).toArray, t, U', L, hT, X', hL, e1, e2, hq, st⟩
section
variable {y : MethodName} {bytes cc : ByteArray} {maxL nL mc ms n index : Nat} {ret : Option FieldType} {ws : List Cond} {rm : Room} {Pc : Array Value → State → Prop} {Qc : Array Value → State → Outcome → State → Prop} {XC : String → State → State → Prop} {free : Addr → Prop} {Ts : List Cond} {own C : String} {b : Addr} {As rest : List Value} {g : JFrame}
theorem vx_runVX {hh : List (Nat × Nat × Nat × Nat)} (S : CallFix p m c cc nL s args Ts own) (hM : vx_Met l y ws rm Pc Qc XC mc ms free) (cw : vx_CVW R s args own C index y bytes maxL ret hh ws rm mc ms n) (hp : PreV s H C b Pc As)
    (hg : g.method = m) (hn : As.length = n) (hsize : g.locals.size = nL) (hstack : g.stack = As.reverse ++ .ref b :: rest) (hW : 2 * g.monitorRoom + (rest.map fun v => v.category).sum ≤ 8) (hdg : decode cc g.pc = .ok (.invokevirtual index, 3)) (hf : cells + mc ≤ R.cells ∧ slots + ms ≤ R.slots) :
    vx_Run p l e R s m args below meth c H locs cells slots mc ms g rest (Qc (Value.ref b :: As).toArray) XC free := by
  obtain ⟨⟨hrc, hrs, hfr, hlo, hws, hcw⟩, hcode, hini, hy, hlen, hl, hin, hse⟩ := cw
  have hK : vx_Back l R p e below s args y 3 8 (PreOf R mc ms Pc) (PostOf Qc mc ms free) (vx_Post XC mc ms free) := vx_backW (hh := hh) (bytes := bytes) (maxL := maxL) (ret := ret) hM hp.1 hrc hrs hfr hlo hws hcw (fun a' U hW => word_at hW (Or.inl (by first | rfl | simp [Cond.onTables, Cond.keeps, Cond.steady])) hini)
  obtain ⟨hx, hb, hml, ho, -⟩ := S
  obtain ⟨-, ⟨cellB, hcB, hoB, hclB⟩, hPc⟩ := hp
  intro T hT X
  rcases vx_callVX X hx (C := C) (hh := hh) (bytes := bytes) (maxL := maxL) (ret := ret) ho hl hin hse hcode hy hK (by rw [hT]; exact hcB) hoB hclB hg (hsize.trans hml.symm) (argsL := As) (rest := rest) (fun sig h => hn.trans (hlen sig h)) hstack hW (by rw [hb]; exact hdg)
    (fun vm₁ hW₁ => ⟨hf.1, hf.2, hPc (T.setVm vm₁) hT hW₁⟩) with ⟨v, vm₁, ⟨U', l2, c2, s2⟩, hW₁, X', ⟨g', mk, t, L, e1, e2, hq, h1, hL, h2, h3⟩, st⟩ | ⟨q, vm₁, ⟨U', l2, c2, s2⟩, hW₁, X', ⟨g', mk, t, L, E, ce, e1, e2, hq, hce, hcv, hcl, h1, hL, h2, h3⟩, st⟩
  · dsimp only [Pt.U, Pt.locs, Pt.cells, Pt.slots] at X' e1 e2 h1 h2 h3 st
    subst h1; subst h2; subst h3
    exact Or.inl ⟨v, (T.setVm vm₁).calling g' mk (Value.ref b :: As).toArray, t, U', L, hT, X', hL, e1, e2, hq, st⟩
  · dsimp only [Pt.U, Pt.locs, Pt.cells, Pt.slots] at X' e1 e2 h1 h2 h3 st hcl
    subst h1; subst h2; subst h3
    exact Or.inr ⟨q, (T.setVm vm₁).calling g' mk (Value.ref b :: As).toArray, t, U', L, E, ce, hT, X', hL, e1, e2, hq, hce, hcv, vx_cls hW₁ hcl, st⟩
theorem vx_runSX {hh : List (Nat × Nat × Nat × Nat)} (S : CallFix p m c cc nL s args Ts own) (hM : vx_Met l y ws rm Pc Qc XC mc ms free) (cw : vx_CSW R s args own index y bytes maxL ret hh ws rm mc ms n) (hp : PreS s H Pc As)
    (hg : g.method = m) (hn : As.length = n) (hsize : g.locals.size = nL) (hstack : g.stack = As.reverse ++ rest) (hW : 2 * g.monitorRoom + (rest.map fun v => v.category).sum ≤ 8) (hdg : decode cc g.pc = .ok (.invokestatic index, 3)) (hf : cells + mc ≤ R.cells ∧ slots + ms ≤ R.slots) :
    vx_Run p l e R s m args below meth c H locs cells slots mc ms g rest (Qc As.toArray) XC free := by
  obtain ⟨⟨hrc, hrs, hfr, hlo, hws, hcw⟩, hcode, hini, hy, hlen, hl, hstt⟩ := cw
  have hK : vx_Back l R p e below s args y 3 8 (PreOf R mc ms Pc) (PostOf Qc mc ms free) (vx_Post XC mc ms free) := vx_backW (hh := hh) (bytes := bytes) (maxL := maxL) (ret := ret) hM hp.1 hrc hrs hfr hlo hws hcw (fun a' U hW => word_at hW (Or.inl (by first | rfl | simp [Cond.onTables, Cond.keeps, Cond.steady])) hini)
  obtain ⟨hx, hb, hml, ho, -⟩ := S
  intro T hT X
  rcases vx_callSX X hx (hh := hh) (bytes := bytes) (maxL := maxL) (ret := ret) ho hl hstt hini hcode hy hK hg (hsize.trans hml.symm) (argsL := As) (rest := rest) (fun sig h => hn.trans (hlen sig h)) hstack hW (by rw [hb]; exact hdg)
    (fun vm₁ hW₁ => ⟨hf.1, hf.2, hp.2 (T.setVm vm₁) hT hW₁⟩) with ⟨v, vm₁, ⟨U', l2, c2, s2⟩, hW₁, X', ⟨g', mk, t, L, e1, e2, hq, h1, hL, h2, h3⟩, st⟩ | ⟨q, vm₁, ⟨U', l2, c2, s2⟩, hW₁, X', ⟨g', mk, t, L, E, ce, e1, e2, hq, hce, hcv, hcl, h1, hL, h2, h3⟩, st⟩
  · dsimp only [Pt.U, Pt.locs, Pt.cells, Pt.slots] at X' e1 e2 h1 h2 h3 st
    subst h1; subst h2; subst h3
    exact Or.inl ⟨v, (T.setVm vm₁).calling g' mk As.toArray, t, U', L, hT, X', hL, e1, e2, hq, st⟩
  · dsimp only [Pt.U, Pt.locs, Pt.cells, Pt.slots] at X' e1 e2 h1 h2 h3 st hcl
    subst h1; subst h2; subst h3
    exact Or.inr ⟨q, (T.setVm vm₁).calling g' mk As.toArray, t, U', L, E, ce, hT, X', hL, e1, e2, hq, hce, hcv, vx_cls hW₁ hcl, st⟩
end
end VXH
theorem vx_ofWH {l : Launch} {y : MethodName} {ws ws' : List Cond} {rm : Room} {Pc : Array Value → State → Prop} {Qc : Array Value → State → Outcome → State → Prop} {XC : String → State → State → Prop} {mc ms : Nat} {free : Addr → Prop} {cc : ByteArray} {maxL : Nat} {ret : Option FieldType} {hh : List (Nat × Nat × Nat × Nat)}
    (hy : plainName y.cls = true) (hw : ws = Cond.codeWith y cc maxL ret hh :: ws')
    (body : ∀ p e s m args below meth c s₁, BodyLoose p l y (headSpec ws rm) cc maxL ret e s m args below meth c s₁ → c.maxLocals = maxL → Pc args s →
      W p l e (headSpec ws rm).room s m args below meth c s.heap [] 0 0 (vx_MQ below Qc XC args s mc ms free) (entryFrame m args maxL)) : vx_Met l y ws rm Pc Qc XC mc ms free := by
  refine MetFree.of_bodyS (code := cc) (maxLocals := maxL) (ret := ret) hy ?_ ?_
  · intro args s m h hn
    obtain ⟨m9, meth, c, hn9, h1, h2, h3, h4, -, h5, h6, -⟩ := Cond.codeWith_spec (atoms_spec (ws := ws) h _ (by rw [hw]; exact List.mem_cons_self))
    cases hn.symm.trans hn9
    exact ⟨meth, c, h1, h2, h3, h4, h5, h6⟩
  · intro p e s m args below meth c s₁ B hml hP _
    have hh0 : s₁.heap = s.heap := by rw [B.state]; rfl
    obtain ⟨t, a1, o, b1, b2, b3⟩ := body p e s m args below meth c s₁ B hml hP s₁ hh0 (Stand.of_body B)
    exact ⟨t, o, a1, b1, b2, b3⟩
/-! ===== END ===== -/
end
section
def RX0 : String := "NumeralBabel$Atoms"
def TX0 : u_T := fun k => match k with
  | 0 => ("NumeralBabel$Atoms", "numbers", "[I", true)
  | 1 => ("NumeralBabel$Atoms", "words", "[I", true)
  | _ => ("NumeralBabel$Atoms", "size", "I", false)
def tyX0 : Nat → FieldType := fun k => match k with
  | 0 => .array .int
  | 1 => .array .int
  | _ => .int
abbrev wsX00 : List Cond := u_ws RX0 TX0 3
theorem nmX0 : ∀ a, a < 3 → ∀ b, b < 3 → a ≠ b → (TX0 a).2.1 ≠ (TX0 b).2.1 := by decide +kernel
theorem tyX0_ok : ∀ k, k < 3 → parseFieldDescriptor (TX0 k).2.2.1 = some (tyX0 k) := by decide +kernel
abbrev cX0_init : ByteArray := prog_2_method_1_code
def yX0_init : MethodName := ⟨RX0, "<init>", "()V"⟩
abbrev cX0_isFull : ByteArray := prog_2_method_2_code
def yX0_isFull : MethodName := ⟨RX0, "isFull", "()Z"⟩
abbrev cX0_countBelow : ByteArray := prog_2_method_3_code
def yX0_countBelow : MethodName := ⟨RX0, "countBelow", "(I)I"⟩
abbrev cX0_wordOf : ByteArray := prog_2_method_4_code
def yX0_wordOf : MethodName := ⟨RX0, "wordOf", "(I)I"⟩
abbrev cX0_put : ByteArray := prog_2_method_5_code
def yX0_put : MethodName := ⟨RX0, "put", "(II)V"⟩
abbrev cX0_take : ByteArray := prog_2_method_6_code
def yX0_take : MethodName := ⟨RX0, "take", "(I)I"⟩
abbrev cX0_leastWith : ByteArray := prog_2_method_7_code
def yX0_leastWith : MethodName := ⟨RX0, "leastWith", "(I)I"⟩
def RX1 : String := "NumeralBabel$Base"
def TX1 : u_T := fun k => match k with
  | 0 => ("NumeralBabel$Base", "number", "I", false)
  | 1 => ("NumeralBabel$Base", "word", "I", false)
  | 2 => ("NumeralBabel$Base", "most", "I", false)
  | 3 => ("NumeralBabel$Base", "style", "I", false)
  | 4 => ("NumeralBabel$Base", "joint", "I", false)
  | 5 => ("NumeralBabel$Base", "less", "I", false)
  | _ => ("NumeralBabel$Base", "lessWord", "I", false)
def tyX1 : Nat → FieldType := fun k => match k with
  | 0 => .int
  | 1 => .int
  | 2 => .int
  | 3 => .int
  | 4 => .int
  | 5 => .int
  | _ => .int
abbrev wsX10 : List Cond := u_ws RX1 TX1 7
theorem nmX1 : ∀ a, a < 7 → ∀ b, b < 7 → a ≠ b → (TX1 a).2.1 ≠ (TX1 b).2.1 := by decide +kernel
theorem tyX1_ok : ∀ k, k < 7 → parseFieldDescriptor (TX1 k).2.2.1 = some (tyX1 k) := by decide +kernel
abbrev cX1_init : ByteArray := prog_3_method_1_code
def yX1_init : MethodName := ⟨RX1, "<init>", "()V"⟩
abbrev cX1_start : ByteArray := prog_3_method_2_code
def yX1_start : MethodName := ⟨RX1, "start", "(IIII)V"⟩
abbrev cX1_set : ByteArray := prog_3_method_3_code
def yX1_set : MethodName := ⟨RX1, "set", "(II)V"⟩
abbrev cX1_has : ByteArray := prog_3_method_4_code
def yX1_has : MethodName := ⟨RX1, "has", "(I)Z"⟩
def RX2 : String := "NumeralBabel$Cords"
def TX2 : u_T := fun k => match k with
  | 0 => ("NumeralBabel$Cords", "bases", "[I", true)
  | 1 => ("NumeralBabel$Cords", "tied", "[I", true)
  | _ => ("NumeralBabel$Cords", "gone", "J", false)
def tyX2 : Nat → FieldType := fun k => match k with
  | 0 => .array .int
  | 1 => .array .int
  | _ => .long
abbrev wsX20 : List Cond := u_ws RX2 TX2 3
theorem nmX2 : ∀ a, a < 3 → ∀ b, b < 3 → a ≠ b → (TX2 a).2.1 ≠ (TX2 b).2.1 := by decide +kernel
theorem tyX2_ok : ∀ k, k < 3 → parseFieldDescriptor (TX2 k).2.2.1 = some (tyX2 k) := by decide +kernel
abbrev cX2_init : ByteArray := prog_4_method_1_code
def yX2_init : MethodName := ⟨RX2, "<init>", "()V"⟩
abbrev cX2_clear : ByteArray := prog_4_method_2_code
def yX2_clear : MethodName := ⟨RX2, "clear", "()V"⟩
abbrev cX2_add : ByteArray := prog_4_method_3_code
def yX2_add : MethodName := ⟨RX2, "add", "(J)J"⟩
abbrev cX2_total : ByteArray := prog_4_method_4_code
def yX2_total : MethodName := ⟨RX2, "total", "()J"⟩
def RX3 : String := "NumeralBabel$Forms"
def TX3 : u_T := fun k => match k with
  | 0 => ("NumeralBabel$Forms", "words", "[I", true)
  | 1 => ("NumeralBabel$Forms", "kinds", "[I", true)
  | 2 => ("NumeralBabel$Forms", "becomes", "[I", true)
  | _ => ("NumeralBabel$Forms", "size", "I", false)
def tyX3 : Nat → FieldType := fun k => match k with
  | 0 => .array .int
  | 1 => .array .int
  | 2 => .array .int
  | _ => .int
abbrev wsX30 : List Cond := u_ws RX3 TX3 4
theorem nmX3 : ∀ a, a < 4 → ∀ b, b < 4 → a ≠ b → (TX3 a).2.1 ≠ (TX3 b).2.1 := by decide +kernel
theorem tyX3_ok : ∀ k, k < 4 → parseFieldDescriptor (TX3 k).2.2.1 = some (tyX3 k) := by decide +kernel
abbrev cX3_init : ByteArray := prog_5_method_1_code
def yX3_init : MethodName := ⟨RX3, "<init>", "()V"⟩
abbrev cX3_isFull : ByteArray := prog_5_method_2_code
def yX3_isFull : MethodName := ⟨RX3, "isFull", "()Z"⟩
abbrev cX3_placeOf : ByteArray := prog_5_method_3_code
def yX3_placeOf : MethodName := ⟨RX3, "placeOf", "(II)I"⟩
abbrev cX3_formOf : ByteArray := prog_5_method_4_code
def yX3_formOf : MethodName := ⟨RX3, "formOf", "(II)I"⟩
abbrev cX3_put : ByteArray := prog_5_method_5_code
def yX3_put : MethodName := ⟨RX3, "put", "(III)V"⟩
def RX4 : String := "NumeralBabel$Grammar"
def TX4 : u_T := fun k => match k with
  | 0 => ("NumeralBabel$Grammar", "atoms", "LNumeralBabel$Atoms;", true)
  | 1 => ("NumeralBabel$Grammar", "bases", "[LNumeralBabel$Base;", true)
  | 2 => ("NumeralBabel$Grammar", "baseCount", "I", false)
  | 3 => ("NumeralBabel$Grammar", "forms", "LNumeralBabel$Forms;", true)
  | 4 => ("NumeralBabel$Grammar", "ordinalWord", "I", false)
  | 5 => ("NumeralBabel$Grammar", "seamLefts", "[I", true)
  | 6 => ("NumeralBabel$Grammar", "seamRights", "[I", true)
  | 7 => ("NumeralBabel$Grammar", "seamBecomes", "[I", true)
  | _ => ("NumeralBabel$Grammar", "seamCount", "I", false)
def tyX4 : Nat → FieldType := fun k => match k with
  | 0 => .object "NumeralBabel$Atoms"
  | 1 => .array (.object "NumeralBabel$Base")
  | 2 => .int
  | 3 => .object "NumeralBabel$Forms"
  | 4 => .int
  | 5 => .array .int
  | 6 => .array .int
  | 7 => .array .int
  | _ => .int
abbrev wsX40 : List Cond := u_ws RX4 TX4 9
theorem nmX4 : ∀ a, a < 9 → ∀ b, b < 9 → a ≠ b → (TX4 a).2.1 ≠ (TX4 b).2.1 := by decide +kernel
theorem tyX4_ok : ∀ k, k < 9 → parseFieldDescriptor (TX4 k).2.2.1 = some (tyX4 k) := by decide +kernel
abbrev cX4_init : ByteArray := prog_6_method_1_code
def yX4_init : MethodName := ⟨RX4, "<init>", "()V"⟩
abbrev cX4_clear : ByteArray := prog_6_method_2_code
def yX4_clear : MethodName := ⟨RX4, "clear", "()V"⟩
abbrev cX4_hasBase : ByteArray := prog_6_method_3_code
def yX4_hasBase : MethodName := ⟨RX4, "hasBase", "(I)Z"⟩
abbrev cX4_addBase : ByteArray := prog_6_method_4_code
def yX4_addBase : MethodName := ⟨RX4, "addBase", "(IIII)I"⟩
abbrev cX4_addSeam : ByteArray := prog_6_method_5_code
def yX4_addSeam : MethodName := ⟨RX4, "addSeam", "(III)V"⟩
abbrev cX4_leastNumberWith : ByteArray := prog_6_method_6_code
def yX4_leastNumberWith : MethodName := ⟨RX4, "leastNumberWith", "(I)I"⟩
abbrev cX4_speak : ByteArray := prog_6_method_7_code
def yX4_speak : MethodName := ⟨RX4, "speak", "(IILNumeralBabel$Row;)Z"⟩
abbrev cX4_speakFraction : ByteArray := prog_6_method_8_code
def yX4_speakFraction : MethodName := ⟨RX4, "speakFraction", "(IIILNumeralBabel$Row;)Z"⟩
abbrev cX4_endSaying : ByteArray := prog_6_method_9_code
def yX4_endSaying : MethodName := ⟨RX4, "endSaying", "(ZLNumeralBabel$Row;)Z"⟩
abbrev cX4_addNameFor : ByteArray := prog_6_method_10_code
def yX4_addNameFor : MethodName := ⟨RX4, "addNameFor", "(IILNumeralBabel$Row;)Z"⟩
abbrev cX4_addUnlessNone : ByteArray := prog_6_method_11_code
def yX4_addUnlessNone : MethodName := ⟨RX4, "addUnlessNone", "(ILNumeralBabel$Row;)Z"⟩
abbrev cX4_addName : ByteArray := prog_6_method_12_code
def yX4_addName : MethodName := ⟨RX4, "addName", "(ILNumeralBabel$Row;I)Z"⟩
abbrev cX4_addProduct : ByteArray := prog_6_method_13_code
def yX4_addProduct : MethodName := ⟨RX4, "addProduct", "(LNumeralBabel$Base;ILNumeralBabel$Row;I)Z"⟩
abbrev cX4_greatestUpTo : ByteArray := prog_6_method_14_code
def yX4_greatestUpTo : MethodName := ⟨RX4, "greatestUpTo", "(I)LNumeralBabel$Base;"⟩
def RX5 : String := "NumeralBabel$Lookup"
def TX5 : u_T := fun k => match k with
  | 0 => ("NumeralBabel$Lookup", "heads", "[I", true)
  | 1 => ("NumeralBabel$Lookup", "nexts", "[I", true)
  | _ => ("NumeralBabel$Lookup", "marks", "[I", true)
def tyX5 : Nat → FieldType := fun k => match k with
  | 0 => .array .int
  | 1 => .array .int
  | _ => .array .int
abbrev wsX50 : List Cond := u_ws RX5 TX5 3
theorem nmX5 : ∀ a, a < 3 → ∀ b, b < 3 → a ≠ b → (TX5 a).2.1 ≠ (TX5 b).2.1 := by decide +kernel
theorem tyX5_ok : ∀ k, k < 3 → parseFieldDescriptor (TX5 k).2.2.1 = some (tyX5 k) := by decide +kernel
abbrev cX5_init : ByteArray := prog_7_method_1_code
def yX5_init : MethodName := ⟨RX5, "<init>", "()V"⟩
abbrev cX5_clear : ByteArray := prog_7_method_2_code
def yX5_clear : MethodName := ⟨RX5, "clear", "()V"⟩
abbrev cX5_put : ByteArray := prog_7_method_3_code
def yX5_put : MethodName := ⟨RX5, "put", "(II)V"⟩
abbrev cX5_firstIn : ByteArray := prog_7_method_4_code
def yX5_firstIn : MethodName := ⟨RX5, "firstIn", "(I)I"⟩
abbrev cX5_behind : ByteArray := prog_7_method_5_code
def yX5_behind : MethodName := ⟨RX5, "behind", "(I)I"⟩
abbrev cX5_markOf : ByteArray := prog_7_method_6_code
def yX5_markOf : MethodName := ⟨RX5, "markOf", "(I)I"⟩
def RX6 : String := "NumeralBabel$Row"
def TX6 : u_T := fun k => match k with
  | 0 => ("NumeralBabel$Row", "words", "[I", true)
  | _ => ("NumeralBabel$Row", "size", "I", false)
def tyX6 : Nat → FieldType := fun k => match k with
  | 0 => .array .int
  | _ => .int
abbrev wsX60 : List Cond := u_ws RX6 TX6 2
theorem nmX6 : ∀ a, a < 2 → ∀ b, b < 2 → a ≠ b → (TX6 a).2.1 ≠ (TX6 b).2.1 := by decide +kernel
theorem tyX6_ok : ∀ k, k < 2 → parseFieldDescriptor (TX6 k).2.2.1 = some (tyX6 k) := by decide +kernel
abbrev cX6_init : ByteArray := prog_8_method_1_code
def yX6_init : MethodName := ⟨RX6, "<init>", "()V"⟩
abbrev cX6_clear : ByteArray := prog_8_method_2_code
def yX6_clear : MethodName := ⟨RX6, "clear", "()V"⟩
abbrev cX6_add : ByteArray := prog_8_method_3_code
def yX6_add : MethodName := ⟨RX6, "add", "(I)Z"⟩
abbrev cX6_wordAt : ByteArray := prog_8_method_4_code
def yX6_wordAt : MethodName := ⟨RX6, "wordAt", "(I)I"⟩
abbrev cX6_last : ByteArray := prog_8_method_5_code
def yX6_last : MethodName := ⟨RX6, "last", "()I"⟩
abbrev cX6_setLast : ByteArray := prog_8_method_6_code
def yX6_setLast : MethodName := ⟨RX6, "setLast", "(I)V"⟩
abbrev cX6_has : ByteArray := prog_8_method_7_code
def yX6_has : MethodName := ⟨RX6, "has", "(I)Z"⟩
abbrev cX6_copy : ByteArray := prog_8_method_8_code
def yX6_copy : MethodName := ⟨RX6, "copy", "(LNumeralBabel$Row;)V"⟩
abbrev cX6_same : ByteArray := prog_8_method_9_code
def yX6_same : MethodName := ⟨RX6, "same", "(LNumeralBabel$Row;)Z"⟩
abbrev cX6_agrees : ByteArray := prog_8_method_10_code
def yX6_agrees : MethodName := ⟨RX6, "agrees", "(LNumeralBabel$Row;)Z"⟩
abbrev cX6_melt : ByteArray := prog_8_method_11_code
def yX6_melt : MethodName := ⟨RX6, "melt", "(III)V"⟩
abbrev cX6_mark : ByteArray := prog_8_method_12_code
def yX6_mark : MethodName := ⟨RX6, "mark", "()I"⟩
def RX7 : String := "NumeralBabel"
def TX7 : u_T := fun k => match k with
  | 0 => ("NumeralBabel", "grammars", "[LNumeralBabel$Grammar;", true)
  | 1 => ("NumeralBabel", "latest", "LNumeralBabel$Row;", true)
  | 2 => ("NumeralBabel", "heard", "LNumeralBabel$Row;", true)
  | 3 => ("NumeralBabel", "spoken", "LNumeralBabel$Row;", true)
  | 4 => ("NumeralBabel", "lowerSpoken", "LNumeralBabel$Row;", true)
  | 5 => ("NumeralBabel", "tallies", "[I", true)
  | 6 => ("NumeralBabel", "greatestTallies", "[I", true)
  | 7 => ("NumeralBabel", "lookup", "LNumeralBabel$Lookup;", true)
  | 8 => ("NumeralBabel", "exampleNumbers", "[I", true)
  | 9 => ("NumeralBabel", "exampleRows", "[LNumeralBabel$Row;", true)
  | 10 => ("NumeralBabel", "exampleCount", "I", false)
  | 11 => ("NumeralBabel", "fittingSettings", "[I", true)
  | 12 => ("NumeralBabel", "settingRows", "[LNumeralBabel$Row;", true)
  | _ => ("NumeralBabel", "cords", "LNumeralBabel$Cords;", true)
def tyX7 : Nat → FieldType := fun k => match k with
  | 0 => .array (.object "NumeralBabel$Grammar")
  | 1 => .object "NumeralBabel$Row"
  | 2 => .object "NumeralBabel$Row"
  | 3 => .object "NumeralBabel$Row"
  | 4 => .object "NumeralBabel$Row"
  | 5 => .array .int
  | 6 => .array .int
  | 7 => .object "NumeralBabel$Lookup"
  | 8 => .array .int
  | 9 => .array (.object "NumeralBabel$Row")
  | 10 => .int
  | 11 => .array .int
  | 12 => .array (.object "NumeralBabel$Row")
  | _ => .object "NumeralBabel$Cords"
abbrev wsX70 : List Cond := u_ws RX7 TX7 14
theorem nmX7 : ∀ a, a < 14 → ∀ b, b < 14 → a ≠ b → (TX7 a).2.1 ≠ (TX7 b).2.1 := by decide +kernel
theorem tyX7_ok : ∀ k, k < 14 → parseFieldDescriptor (TX7 k).2.2.1 = some (tyX7 k) := by decide +kernel
abbrev cX7_init : ByteArray := prog_1_method_1_code
def yX7_init : MethodName := ⟨RX7, "<init>", "()V"⟩
abbrev cX7_atom : ByteArray := prog_1_method_2_code
def yX7_atom : MethodName := ⟨RX7, "atom", "(III)I"⟩
abbrev cX7_dropAtom : ByteArray := prog_1_method_3_code
def yX7_dropAtom : MethodName := ⟨RX7, "dropAtom", "(II)I"⟩
abbrev cX7_base : ByteArray := prog_1_method_4_code
def yX7_base : MethodName := ⟨RX7, "base", "(IIIII)I"⟩
abbrev cX7_joint : ByteArray := prog_1_method_5_code
def yX7_joint : MethodName := ⟨RX7, "joint", "(III)I"⟩
abbrev cX7_less : ByteArray := prog_1_method_6_code
def yX7_less : MethodName := ⟨RX7, "less", "(IIII)I"⟩
abbrev cX7_form : ByteArray := prog_1_method_7_code
def yX7_form : MethodName := ⟨RX7, "form", "(IIII)I"⟩
abbrev cX7_ordinal : ByteArray := prog_1_method_8_code
def yX7_ordinal : MethodName := ⟨RX7, "ordinal", "(II)I"⟩
abbrev cX7_seam : ByteArray := prog_1_method_9_code
def yX7_seam : MethodName := ⟨RX7, "seam", "(IIII)I"⟩
abbrev cX7_empty : ByteArray := prog_1_method_10_code
def yX7_empty : MethodName := ⟨RX7, "empty", "(I)I"⟩
abbrev cX7_say : ByteArray := prog_1_method_11_code
def yX7_say : MethodName := ⟨RX7, "say", "(III)I"⟩
abbrev cX7_sayOrdinal : ByteArray := prog_1_method_12_code
def yX7_sayOrdinal : MethodName := ⟨RX7, "sayOrdinal", "(II)I"⟩
abbrev cX7_sayFraction : ByteArray := prog_1_method_13_code
def yX7_sayFraction : MethodName := ⟨RX7, "sayFraction", "(IIII)I"⟩
abbrev cX7_said : ByteArray := prog_1_method_14_code
def yX7_said : MethodName := ⟨RX7, "said", "(I)I"⟩
abbrev cX7_hear : ByteArray := prog_1_method_15_code
def yX7_hear : MethodName := ⟨RX7, "hear", "(I)I"⟩
abbrev cX7_hearSaid : ByteArray := prog_1_method_16_code
def yX7_hearSaid : MethodName := ⟨RX7, "hearSaid", "()I"⟩
abbrev cX7_forget : ByteArray := prog_1_method_17_code
def yX7_forget : MethodName := ⟨RX7, "forget", "()I"⟩
abbrev cX7_fits : ByteArray := prog_1_method_18_code
def yX7_fits : MethodName := ⟨RX7, "fits", "(III)I"⟩
abbrev cX7_fit : ByteArray := prog_1_method_19_code
def yX7_fit : MethodName := ⟨RX7, "fit", "(IIII)I"⟩
abbrev cX7_askWord : ByteArray := prog_1_method_20_code
def yX7_askWord : MethodName := ⟨RX7, "askWord", "(III)I"⟩
abbrev cX7_gap : ByteArray := prog_1_method_21_code
def yX7_gap : MethodName := ⟨RX7, "gap", "(II)I"⟩
abbrev cX7_clash : ByteArray := prog_1_method_22_code
def yX7_clash : MethodName := ⟨RX7, "clash", "(III)I"⟩
abbrev cX7_example : ByteArray := prog_1_method_23_code
def yX7_example : MethodName := ⟨RX7, "example", "(I)I"⟩
abbrev cX7_dropExamples : ByteArray := prog_1_method_24_code
def yX7_dropExamples : MethodName := ⟨RX7, "dropExamples", "()I"⟩
abbrev cX7_settings : ByteArray := prog_1_method_25_code
def yX7_settings : MethodName := ⟨RX7, "settings", "(III)I"⟩
abbrev cX7_learn : ByteArray := prog_1_method_26_code
def yX7_learn : MethodName := ⟨RX7, "learn", "(III)I"⟩
abbrev cX7_askNumber : ByteArray := prog_1_method_27_code
def yX7_askNumber : MethodName := ⟨RX7, "askNumber", "(IIII)I"⟩
abbrev cX7_baseTold : ByteArray := prog_1_method_28_code
def yX7_baseTold : MethodName := ⟨RX7, "baseTold", "(III)I"⟩
abbrev cX7_numberOf : ByteArray := prog_1_method_29_code
def yX7_numberOf : MethodName := ⟨RX7, "numberOf", "(II)I"⟩
abbrev cX7_cord : ByteArray := prog_1_method_30_code
def yX7_cord : MethodName := ⟨RX7, "cord", "(II)I"⟩
abbrev cX7_count : ByteArray := prog_1_method_31_code
def yX7_count : MethodName := ⟨RX7, "count", "(J)J"⟩
abbrev cX7_knots : ByteArray := prog_1_method_32_code
def yX7_knots : MethodName := ⟨RX7, "knots", "(I)I"⟩
abbrev cX7_lost : ByteArray := prog_1_method_33_code
def yX7_lost : MethodName := ⟨RX7, "lost", "()J"⟩
abbrev cX7_shown : ByteArray := prog_1_method_34_code
def yX7_shown : MethodName := ⟨RX7, "shown", "()J"⟩
abbrev cX7_grammarAt : ByteArray := prog_1_method_35_code
def yX7_grammarAt : MethodName := ⟨RX7, "grammarAt", "(I)LNumeralBabel$Grammar;"⟩
abbrev cX7_grammarToHear : ByteArray := prog_1_method_36_code
def yX7_grammarToHear : MethodName := ⟨RX7, "grammarToHear", "(III)LNumeralBabel$Grammar;"⟩
abbrev cX7_baseAt : ByteArray := prog_1_method_37_code
def yX7_baseAt : MethodName := ⟨RX7, "baseAt", "(LNumeralBabel$Grammar;I)LNumeralBabel$Base;"⟩
abbrev cX7_needWord : ByteArray := prog_1_method_38_code
def yX7_needWord : MethodName := ⟨RX7, "needWord", "(I)V"⟩
abbrev cX7_needWordOrNone : ByteArray := prog_1_method_39_code
def yX7_needWordOrNone : MethodName := ⟨RX7, "needWordOrNone", "(I)V"⟩
abbrev cX7_needClass : ByteArray := prog_1_method_40_code
def yX7_needClass : MethodName := ⟨RX7, "needClass", "(I)V"⟩
abbrev cX7_needCord : ByteArray := prog_1_method_41_code
def yX7_needCord : MethodName := ⟨RX7, "needCord", "(I)V"⟩
abbrev cX7_needRange : ByteArray := prog_1_method_42_code
def yX7_needRange : MethodName := ⟨RX7, "needRange", "(III)V"⟩
abbrev cX7_isHeard : ByteArray := prog_1_method_43_code
def yX7_isHeard : MethodName := ⟨RX7, "isHeard", "(LNumeralBabel$Grammar;II)Z"⟩
abbrev cX7_tallySpoken : ByteArray := prog_1_method_44_code
def yX7_tallySpoken : MethodName := ⟨RX7, "tallySpoken", "()V"⟩
abbrev cX7_placeOfLeastTally : ByteArray := prog_1_method_45_code
def yX7_placeOfLeastTally : MethodName := ⟨RX7, "placeOfLeastTally", "()I"⟩
abbrev cX7_isSpokenLower : ByteArray := prog_1_method_46_code
def yX7_isSpokenLower : MethodName := ⟨RX7, "isSpokenLower", "(LNumeralBabel$Grammar;II)Z"⟩
abbrev cX7_findSettings : ByteArray := prog_1_method_47_code
def yX7_findSettings : MethodName := ⟨RX7, "findSettings", "(LNumeralBabel$Grammar;LNumeralBabel$Base;I)I"⟩
abbrev cX7_meetsExamples : ByteArray := prog_1_method_48_code
def yX7_meetsExamples : MethodName := ⟨RX7, "meetsExamples", "(LNumeralBabel$Grammar;)Z"⟩
abbrev cX7_speakBySettings : ByteArray := prog_1_method_49_code
def yX7_speakBySettings : MethodName := ⟨RX7, "speakBySettings", "(LNumeralBabel$Grammar;LNumeralBabel$Base;III)V"⟩
abbrev cX7_greatestAlike : ByteArray := prog_1_method_50_code
def yX7_greatestAlike : MethodName := ⟨RX7, "greatestAlike", "(I)I"⟩
def RX8 : String := "NumeralBabelModel"
def TX8 : u_T := fun k => match k with
  | 0 => ("NumeralBabelModel", "atoms", "[I", true)
  | 1 => ("NumeralBabelModel", "atomNumber", "[I", true)
  | 2 => ("NumeralBabelModel", "atomWord", "[I", true)
  | 3 => ("NumeralBabelModel", "bases", "[I", true)
  | 4 => ("NumeralBabelModel", "base", "[I", true)
  | 5 => ("NumeralBabelModel", "baseWord", "[I", true)
  | 6 => ("NumeralBabelModel", "most", "[I", true)
  | 7 => ("NumeralBabelModel", "style", "[I", true)
  | 8 => ("NumeralBabelModel", "joint", "[I", true)
  | 9 => ("NumeralBabelModel", "less", "[I", true)
  | 10 => ("NumeralBabelModel", "lessWord", "[I", true)
  | 11 => ("NumeralBabelModel", "forms", "[I", true)
  | 12 => ("NumeralBabelModel", "formOf", "[I", true)
  | 13 => ("NumeralBabelModel", "formKind", "[I", true)
  | 14 => ("NumeralBabelModel", "formWord", "[I", true)
  | 15 => ("NumeralBabelModel", "ordinals", "[I", true)
  | 16 => ("NumeralBabelModel", "seams", "[I", true)
  | 17 => ("NumeralBabelModel", "seamLeft", "[I", true)
  | 18 => ("NumeralBabelModel", "seamRight", "[I", true)
  | 19 => ("NumeralBabelModel", "seamWord", "[I", true)
  | 20 => ("NumeralBabelModel", "length", "I", false)
  | 21 => ("NumeralBabelModel", "row", "[I", true)
  | 22 => ("NumeralBabelModel", "saidLength", "I", false)
  | 23 => ("NumeralBabelModel", "said", "[I", true)
  | 24 => ("NumeralBabelModel", "waiting", "I", false)
  | 25 => ("NumeralBabelModel", "stack", "[I", true)
  | 26 => ("NumeralBabelModel", "heard", "I", false)
  | 27 => ("NumeralBabelModel", "hears", "[I", true)
  | 28 => ("NumeralBabelModel", "examples", "I", false)
  | 29 => ("NumeralBabelModel", "exampleNumber", "[I", true)
  | 30 => ("NumeralBabelModel", "exampleLength", "[I", true)
  | 31 => ("NumeralBabelModel", "exampleWord", "[I", true)
  | 32 => ("NumeralBabelModel", "lengths", "[I", true)
  | 33 => ("NumeralBabelModel", "words", "[I", true)
  | 34 => ("NumeralBabelModel", "cordBase", "[I", true)
  | 35 => ("NumeralBabelModel", "knots", "[I", true)
  | 36 => ("NumeralBabelModel", "lost", "J", false)
  | 37 => ("NumeralBabelModel", "thrown", "I", false)
  | _ => ("NumeralBabelModel", "tally", "[I", true)
def tyX8 : Nat → FieldType := fun k => match k with
  | 0 => .array .int
  | 1 => .array .int
  | 2 => .array .int
  | 3 => .array .int
  | 4 => .array .int
  | 5 => .array .int
  | 6 => .array .int
  | 7 => .array .int
  | 8 => .array .int
  | 9 => .array .int
  | 10 => .array .int
  | 11 => .array .int
  | 12 => .array .int
  | 13 => .array .int
  | 14 => .array .int
  | 15 => .array .int
  | 16 => .array .int
  | 17 => .array .int
  | 18 => .array .int
  | 19 => .array .int
  | 20 => .int
  | 21 => .array .int
  | 22 => .int
  | 23 => .array .int
  | 24 => .int
  | 25 => .array .int
  | 26 => .int
  | 27 => .array .int
  | 28 => .int
  | 29 => .array .int
  | 30 => .array .int
  | 31 => .array .int
  | 32 => .array .int
  | 33 => .array .int
  | 34 => .array .int
  | 35 => .array .int
  | 36 => .long
  | 37 => .int
  | _ => .array .int
abbrev wsX80 : List Cond := u_ws RX8 TX8 39
theorem nmX8 : ∀ a, a < 39 → ∀ b, b < 39 → a ≠ b → (TX8 a).2.1 ≠ (TX8 b).2.1 := by decide +kernel
theorem tyX8_ok : ∀ k, k < 39 → parseFieldDescriptor (TX8 k).2.2.1 = some (tyX8 k) := by decide +kernel
abbrev cX8_init : ByteArray := prog_10_method_1_code
def yX8_init : MethodName := ⟨RX8, "<init>", "()V"⟩
abbrev cX8_thrown : ByteArray := prog_10_method_2_code
def yX8_thrown : MethodName := ⟨RX8, "thrown", "()I"⟩
abbrev cX8_can : ByteArray := prog_10_method_3_code
def yX8_can : MethodName := ⟨RX8, "can", "(I)Z"⟩
abbrev cX8_isIn : ByteArray := prog_10_method_4_code
def yX8_isIn : MethodName := ⟨RX8, "isIn", "(III)Z"⟩
abbrev cX8_isGrammar : ByteArray := prog_10_method_5_code
def yX8_isGrammar : MethodName := ⟨RX8, "isGrammar", "(I)Z"⟩
abbrev cX8_isWord : ByteArray := prog_10_method_6_code
def yX8_isWord : MethodName := ⟨RX8, "isWord", "(I)Z"⟩
abbrev cX8_isWordOrNone : ByteArray := prog_10_method_7_code
def yX8_isWordOrNone : MethodName := ⟨RX8, "isWordOrNone", "(I)Z"⟩
abbrev cX8_isNumber : ByteArray := prog_10_method_8_code
def yX8_isNumber : MethodName := ⟨RX8, "isNumber", "(I)Z"⟩
abbrev cX8_isBase : ByteArray := prog_10_method_9_code
def yX8_isBase : MethodName := ⟨RX8, "isBase", "(II)Z"⟩
abbrev cX8_isClass : ByteArray := prog_10_method_10_code
def yX8_isClass : MethodName := ⟨RX8, "isClass", "(I)Z"⟩
abbrev cX8_atomAt : ByteArray := prog_10_method_11_code
def yX8_atomAt : MethodName := ⟨RX8, "atomAt", "(II)I"⟩
abbrev cX8_atom : ByteArray := prog_10_method_12_code
def yX8_atom : MethodName := ⟨RX8, "atom", "(III)I"⟩
abbrev cX8_dropAtom : ByteArray := prog_10_method_13_code
def yX8_dropAtom : MethodName := ⟨RX8, "dropAtom", "(II)I"⟩
abbrev cX8_base : ByteArray := prog_10_method_14_code
def yX8_base : MethodName := ⟨RX8, "base", "(IIIII)I"⟩
abbrev cX8_joint : ByteArray := prog_10_method_15_code
def yX8_joint : MethodName := ⟨RX8, "joint", "(III)I"⟩
abbrev cX8_less : ByteArray := prog_10_method_16_code
def yX8_less : MethodName := ⟨RX8, "less", "(IIII)I"⟩
abbrev cX8_formAt : ByteArray := prog_10_method_17_code
def yX8_formAt : MethodName := ⟨RX8, "formAt", "(III)I"⟩
abbrev cX8_form : ByteArray := prog_10_method_18_code
def yX8_form : MethodName := ⟨RX8, "form", "(IIII)I"⟩
abbrev cX8_ordinal : ByteArray := prog_10_method_19_code
def yX8_ordinal : MethodName := ⟨RX8, "ordinal", "(II)I"⟩
abbrev cX8_seam : ByteArray := prog_10_method_20_code
def yX8_seam : MethodName := ⟨RX8, "seam", "(IIII)I"⟩
abbrev cX8_empty : ByteArray := prog_10_method_21_code
def yX8_empty : MethodName := ⟨RX8, "empty", "(I)I"⟩
abbrev cX8_waits : ByteArray := prog_10_method_22_code
def yX8_waits : MethodName := ⟨RX8, "waits", "(I)V"⟩
abbrev cX8_waitsProduct : ByteArray := prog_10_method_23_code
def yX8_waitsProduct : MethodName := ⟨RX8, "waitsProduct", "(II)Z"⟩
abbrev cX8_counts : ByteArray := prog_10_method_24_code
def yX8_counts : MethodName := ⟨RX8, "counts", "(II)I"⟩
abbrev cX8_waitsJoint : ByteArray := prog_10_method_25_code
def yX8_waitsJoint : MethodName := ⟨RX8, "waitsJoint", "(I)V"⟩
abbrev cX8_parts : ByteArray := prog_10_method_26_code
def yX8_parts : MethodName := ⟨RX8, "parts", "(II)Z"⟩
abbrev cX8_product : ByteArray := prog_10_method_27_code
def yX8_product : MethodName := ⟨RX8, "product", "(II)V"⟩
abbrev cX8_names : ByteArray := prog_10_method_28_code
def yX8_names : MethodName := ⟨RX8, "names", "(II)Z"⟩
abbrev cX8_takesForm : ByteArray := prog_10_method_29_code
def yX8_takesForm : MethodName := ⟨RX8, "takesForm", "(II)V"⟩
abbrev cX8_takesOrdinal : ByteArray := prog_10_method_30_code
def yX8_takesOrdinal : MethodName := ⟨RX8, "takesOrdinal", "(I)V"⟩
abbrev cX8_melts : ByteArray := prog_10_method_31_code
def yX8_melts : MethodName := ⟨RX8, "melts", "(I)V"⟩
abbrev cX8_ends : ByteArray := prog_10_method_32_code
def yX8_ends : MethodName := ⟨RX8, "ends", "(IZ)I"⟩
abbrev cX8_finds : ByteArray := prog_10_method_33_code
def yX8_finds : MethodName := ⟨RX8, "finds", "(III)I"⟩
abbrev cX8_keepsSaying : ByteArray := prog_10_method_34_code
def yX8_keepsSaying : MethodName := ⟨RX8, "keepsSaying", "()I"⟩
abbrev cX8_say : ByteArray := prog_10_method_35_code
def yX8_say : MethodName := ⟨RX8, "say", "(III)I"⟩
abbrev cX8_sayOrdinal : ByteArray := prog_10_method_36_code
def yX8_sayOrdinal : MethodName := ⟨RX8, "sayOrdinal", "(II)I"⟩
abbrev cX8_sayFraction : ByteArray := prog_10_method_37_code
def yX8_sayFraction : MethodName := ⟨RX8, "sayFraction", "(IIII)I"⟩
abbrev cX8_said : ByteArray := prog_10_method_38_code
def yX8_said : MethodName := ⟨RX8, "said", "(I)I"⟩
abbrev cX8_hear : ByteArray := prog_10_method_39_code
def yX8_hear : MethodName := ⟨RX8, "hear", "(I)I"⟩
abbrev cX8_hearSaid : ByteArray := prog_10_method_40_code
def yX8_hearSaid : MethodName := ⟨RX8, "hearSaid", "()I"⟩
abbrev cX8_forget : ByteArray := prog_10_method_41_code
def yX8_forget : MethodName := ⟨RX8, "forget", "()I"⟩
abbrev cX8_isHeard : ByteArray := prog_10_method_42_code
def yX8_isHeard : MethodName := ⟨RX8, "isHeard", "()Z"⟩
abbrev cX8_canBound : ByteArray := prog_10_method_43_code
def yX8_canBound : MethodName := ⟨RX8, "canBound", "(IIIIZ)Z"⟩
abbrev cX8_fitsIt : ByteArray := prog_10_method_44_code
def yX8_fitsIt : MethodName := ⟨RX8, "fitsIt", "(III)Z"⟩
abbrev cX8_fits : ByteArray := prog_10_method_45_code
def yX8_fits : MethodName := ⟨RX8, "fits", "(III)I"⟩
abbrev cX8_fit : ByteArray := prog_10_method_46_code
def yX8_fit : MethodName := ⟨RX8, "fit", "(IIII)I"⟩
abbrev cX8_keepsRow : ByteArray := prog_10_method_47_code
def yX8_keepsRow : MethodName := ⟨RX8, "keepsRow", "(I)V"⟩
abbrev cX8_greatestAt : ByteArray := prog_10_method_48_code
def yX8_greatestAt : MethodName := ⟨RX8, "greatestAt", "(II)I"⟩
abbrev cX8_askWord : ByteArray := prog_10_method_49_code
def yX8_askWord : MethodName := ⟨RX8, "askWord", "(III)I"⟩
abbrev cX8_gap : ByteArray := prog_10_method_50_code
def yX8_gap : MethodName := ⟨RX8, "gap", "(II)I"⟩
abbrev cX8_areAlike : ByteArray := prog_10_method_51_code
def yX8_areAlike : MethodName := ⟨RX8, "areAlike", "(II)Z"⟩
abbrev cX8_clash : ByteArray := prog_10_method_52_code
def yX8_clash : MethodName := ⟨RX8, "clash", "(III)I"⟩
abbrev cX8_example : ByteArray := prog_10_method_53_code
def yX8_example : MethodName := ⟨RX8, "example", "(I)I"⟩
abbrev cX8_dropExamples : ByteArray := prog_10_method_54_code
def yX8_dropExamples : MethodName := ⟨RX8, "dropExamples", "()I"⟩
abbrev cX8_isExample : ByteArray := prog_10_method_55_code
def yX8_isExample : MethodName := ⟨RX8, "isExample", "(I)Z"⟩
abbrev cX8_fitsAll : ByteArray := prog_10_method_56_code
def yX8_fitsAll : MethodName := ⟨RX8, "fitsAll", "(I)Z"⟩
abbrev cX8_sets : ByteArray := prog_10_method_57_code
def yX8_sets : MethodName := ⟨RX8, "sets", "(III)V"⟩
abbrev cX8_fitting : ByteArray := prog_10_method_58_code
def yX8_fitting : MethodName := ⟨RX8, "fitting", "(III)J"⟩
abbrev cX8_many : ByteArray := prog_10_method_59_code
def yX8_many : MethodName := ⟨RX8, "many", "(J)I"⟩
abbrev cX8_settings : ByteArray := prog_10_method_60_code
def yX8_settings : MethodName := ⟨RX8, "settings", "(III)I"⟩
abbrev cX8_learn : ByteArray := prog_10_method_61_code
def yX8_learn : MethodName := ⟨RX8, "learn", "(III)I"⟩
abbrev cX8_greatestBy : ByteArray := prog_10_method_62_code
def yX8_greatestBy : MethodName := ⟨RX8, "greatestBy", "(IIIJI)I"⟩
abbrev cX8_askNumber : ByteArray := prog_10_method_63_code
def yX8_askNumber : MethodName := ⟨RX8, "askNumber", "(IIII)I"⟩
abbrev cX8_baseTold : ByteArray := prog_10_method_64_code
def yX8_baseTold : MethodName := ⟨RX8, "baseTold", "(III)I"⟩
abbrev cX8_numberOf : ByteArray := prog_10_method_65_code
def yX8_numberOf : MethodName := ⟨RX8, "numberOf", "(II)I"⟩
abbrev cX8_isCord : ByteArray := prog_10_method_66_code
def yX8_isCord : MethodName := ⟨RX8, "isCord", "(I)Z"⟩
abbrev cX8_cord : ByteArray := prog_10_method_67_code
def yX8_cord : MethodName := ⟨RX8, "cord", "(II)I"⟩
abbrev cX8_count : ByteArray := prog_10_method_68_code
def yX8_count : MethodName := ⟨RX8, "count", "(J)J"⟩
abbrev cX8_knots : ByteArray := prog_10_method_69_code
def yX8_knots : MethodName := ⟨RX8, "knots", "(I)I"⟩
abbrev cX8_lost : ByteArray := prog_10_method_70_code
def yX8_lost : MethodName := ⟨RX8, "lost", "()J"⟩
abbrev cX8_shown : ByteArray := prog_10_method_71_code
def yX8_shown : MethodName := ⟨RX8, "shown", "()J"⟩
def RJx145de : String := "java/io/Serializable"
def TJx145de : u_T := fun k => match k with
  | _ => ("", "", "", false)
def tyJx145de : Nat → FieldType := fun k => match k with
  | _ => .int
abbrev wsJx145de0 : List Cond := u_ws RJx145de TJx145de 0
theorem nmJx145de : ∀ a, a < 0 → ∀ b, b < 0 → a ≠ b → (TJx145de a).2.1 ≠ (TJx145de b).2.1 := by decide +kernel
theorem tyJx145de_ok : ∀ k, k < 0 → parseFieldDescriptor (TJx145de k).2.2.1 = some (tyJx145de k) := by decide +kernel
def RJ9 : String := "java/lang/Math"
def TJ9 : u_T := fun k => match k with
  | _ => ("", "", "", false)
def tyJ9 : Nat → FieldType := fun k => match k with
  | _ => .int
abbrev wsJ90 : List Cond := u_ws RJ9 TJ9 0
theorem nmJ9 : ∀ a, a < 0 → ∀ b, b < 0 → a ≠ b → (TJ9 a).2.1 ≠ (TJ9 b).2.1 := by decide +kernel
theorem tyJ9_ok : ∀ k, k < 0 → parseFieldDescriptor (TJ9 k).2.2.1 = some (tyJ9 k) := by decide +kernel
abbrev cJ9_floorDiv_f86c9 : ByteArray := prog_15_method_49_code
def yJ9_floorDiv_f86c9 : MethodName := ⟨RJ9, "floorDiv", "(JJ)J"⟩
abbrev cJ9_floorMod_f86c9 : ByteArray := prog_15_method_52_code
def yJ9_floorMod_f86c9 : MethodName := ⟨RJ9, "floorMod", "(JJ)J"⟩
abbrev cJ9_max_7cf53 : ByteArray := prog_15_method_65_code
def yJ9_max_7cf53 : MethodName := ⟨RJ9, "max", "(II)I"⟩
def RJ0 : String := "java/lang/String"
def TJ0 : u_T := fun k => match k with
  | _ => ("", "", "", false)
def tyJ0 : Nat → FieldType := fun k => match k with
  | _ => .int
abbrev wsJ00 : List Cond := u_ws RJ0 TJ0 0
theorem nmJ0 : ∀ a, a < 0 → ∀ b, b < 0 → a ≠ b → (TJ0 a).2.1 ≠ (TJ0 b).2.1 := by decide +kernel
theorem tyJ0_ok : ∀ k, k < 0 → parseFieldDescriptor (TJ0 k).2.2.1 = some (tyJ0 k) := by decide +kernel
def RJ7 : String := "java/util/Arrays"
def TJ7 : u_T := fun k => match k with
  | _ => ("", "", "", false)
def tyJ7 : Nat → FieldType := fun k => match k with
  | _ => .int
abbrev wsJ70 : List Cond := u_ws RJ7 TJ7 0
theorem nmJ7 : ∀ a, a < 0 → ∀ b, b < 0 → a ≠ b → (TJ7 a).2.1 ≠ (TJ7 b).2.1 := by decide +kernel
theorem tyJ7_ok : ∀ k, k < 0 → parseFieldDescriptor (TJ7 k).2.2.1 = some (tyJ7 k) := by decide +kernel
abbrev cJ7_fill_53178 : ByteArray := prog_19_method_103_code
def yJ7_fill_53178 : MethodName := ⟨RJ7, "fill", "([II)V"⟩
def RL : String := "NumeralBabelLaw"
abbrev cL_atom : ByteArray := method_3_code
def yL_atom : MethodName := ⟨RL, "atom", "(LNumeralBabel;III[J)I"⟩
abbrev cL_dropAtom : ByteArray := method_4_code
def yL_dropAtom : MethodName := ⟨RL, "dropAtom", "(LNumeralBabel;II[J)I"⟩
abbrev cL_base : ByteArray := method_5_code
def yL_base : MethodName := ⟨RL, "base", "(LNumeralBabel;IIIII[J)I"⟩
abbrev cL_joint : ByteArray := method_6_code
def yL_joint : MethodName := ⟨RL, "joint", "(LNumeralBabel;III[J)I"⟩
abbrev cL_less : ByteArray := method_7_code
def yL_less : MethodName := ⟨RL, "less", "(LNumeralBabel;IIII[J)I"⟩
abbrev cL_form : ByteArray := method_8_code
def yL_form : MethodName := ⟨RL, "form", "(LNumeralBabel;IIII[J)I"⟩
abbrev cL_ordinal : ByteArray := method_9_code
def yL_ordinal : MethodName := ⟨RL, "ordinal", "(LNumeralBabel;II[J)I"⟩
abbrev cL_seam : ByteArray := method_10_code
def yL_seam : MethodName := ⟨RL, "seam", "(LNumeralBabel;IIII[J)I"⟩
abbrev cL_empty : ByteArray := method_11_code
def yL_empty : MethodName := ⟨RL, "empty", "(LNumeralBabel;I[J)I"⟩
abbrev cL_say : ByteArray := method_12_code
def yL_say : MethodName := ⟨RL, "say", "(LNumeralBabel;III[J)I"⟩
abbrev cL_sayOrdinal : ByteArray := method_13_code
def yL_sayOrdinal : MethodName := ⟨RL, "sayOrdinal", "(LNumeralBabel;II[J)I"⟩
abbrev cL_sayFraction : ByteArray := method_14_code
def yL_sayFraction : MethodName := ⟨RL, "sayFraction", "(LNumeralBabel;IIII[J)I"⟩
abbrev cL_said : ByteArray := method_15_code
def yL_said : MethodName := ⟨RL, "said", "(LNumeralBabel;I[J)I"⟩
abbrev cL_hear : ByteArray := method_16_code
def yL_hear : MethodName := ⟨RL, "hear", "(LNumeralBabel;I[J)I"⟩
abbrev cL_fits : ByteArray := method_17_code
def yL_fits : MethodName := ⟨RL, "fits", "(LNumeralBabel;III[J)I"⟩
abbrev cL_fit : ByteArray := method_18_code
def yL_fit : MethodName := ⟨RL, "fit", "(LNumeralBabel;IIII[J)I"⟩
abbrev cL_askWord : ByteArray := method_19_code
def yL_askWord : MethodName := ⟨RL, "askWord", "(LNumeralBabel;III[J)I"⟩
abbrev cL_gap : ByteArray := method_20_code
def yL_gap : MethodName := ⟨RL, "gap", "(LNumeralBabel;II[J)I"⟩
abbrev cL_clash : ByteArray := method_21_code
def yL_clash : MethodName := ⟨RL, "clash", "(LNumeralBabel;III[J)I"⟩
abbrev cL_example : ByteArray := method_22_code
def yL_example : MethodName := ⟨RL, "example", "(LNumeralBabel;I[J)I"⟩
abbrev cL_settings : ByteArray := method_23_code
def yL_settings : MethodName := ⟨RL, "settings", "(LNumeralBabel;III[J)I"⟩
abbrev cL_learn : ByteArray := method_24_code
def yL_learn : MethodName := ⟨RL, "learn", "(LNumeralBabel;III[J)I"⟩
abbrev cL_askNumber : ByteArray := method_25_code
def yL_askNumber : MethodName := ⟨RL, "askNumber", "(LNumeralBabel;IIII[J)I"⟩
abbrev cL_baseTold : ByteArray := method_26_code
def yL_baseTold : MethodName := ⟨RL, "baseTold", "(LNumeralBabel;III[J)I"⟩
abbrev cL_numberOf : ByteArray := method_27_code
def yL_numberOf : MethodName := ⟨RL, "numberOf", "(LNumeralBabel;II[J)I"⟩
abbrev cL_cord : ByteArray := method_28_code
def yL_cord : MethodName := ⟨RL, "cord", "(LNumeralBabel;II[J)I"⟩
abbrev cL_knots : ByteArray := method_29_code
def yL_knots : MethodName := ⟨RL, "knots", "(LNumeralBabel;I[J)I"⟩
abbrev cL_law : ByteArray := code
def yL_law : MethodName := ⟨RL, "law", "([I)Z"⟩
abbrev vwCl : List vw_C := [(RX0, TX0, 3), (RX1, TX1, 7), (RX2, TX2, 3), (RX3, TX3, 4), (RX4, TX4, 9), (RX5, TX5, 3), (RX6, TX6, 2), (RX7, TX7, 14), (RX8, TX8, 39)]
end
section
theorem dX0_init_0 : decode cX0_init 0 = .ok (.aload_n 0, 1) := by decide +kernel
theorem dX0_init_1 : decode cX0_init 1 = .ok (.invokespecial 3, 3) := by decide +kernel
theorem dX0_init_4 : decode cX0_init 4 = .ok (.aload_n 0, 1) := by decide +kernel
theorem dX0_init_5 : decode cX0_init 5 = .ok (.bipush 40, 2) := by decide +kernel
theorem dX0_init_7 : decode cX0_init 7 = .ok (.newarray .int, 2) := by decide +kernel
theorem dX0_init_9 : decode cX0_init 9 = .ok (.putfield 9, 3) := by decide +kernel
theorem dX0_init_12 : decode cX0_init 12 = .ok (.aload_n 0, 1) := by decide +kernel
theorem dX0_init_13 : decode cX0_init 13 = .ok (.bipush 40, 2) := by decide +kernel
theorem dX0_init_15 : decode cX0_init 15 = .ok (.newarray .int, 2) := by decide +kernel
theorem dX0_init_17 : decode cX0_init 17 = .ok (.putfield 15, 3) := by decide +kernel
theorem dX0_init_20 : decode cX0_init 20 = .ok (.aload_n 0, 1) := by decide +kernel
theorem dX0_init_21 : decode cX0_init 21 = .ok (.iconst 0, 1) := by decide +kernel
theorem dX0_init_22 : decode cX0_init 22 = .ok (.putfield 18, 3) := by decide +kernel
theorem dX0_init_25 : decode cX0_init 25 = .ok (.return_, 1) := by decide +kernel
theorem dX0_isFull_0 : decode cX0_isFull 0 = .ok (.aload_n 0, 1) := by decide +kernel
theorem dX0_isFull_1 : decode cX0_isFull 1 = .ok (.getfield 18, 3) := by decide +kernel
theorem dX0_isFull_4 : decode cX0_isFull 4 = .ok (.bipush 40, 2) := by decide +kernel
theorem dX0_isFull_6 : decode cX0_isFull 6 = .ok (.if_icmp .lt 7, 3) := by decide +kernel
theorem dX0_isFull_9 : decode cX0_isFull 9 = .ok (.iconst 1, 1) := by decide +kernel
theorem dX0_isFull_10 : decode cX0_isFull 10 = .ok (.goto 4, 3) := by decide +kernel
theorem dX0_isFull_13 : decode cX0_isFull 13 = .ok (.iconst 0, 1) := by decide +kernel
theorem dX0_isFull_14 : decode cX0_isFull 14 = .ok (.ireturn, 1) := by decide +kernel
theorem dX0_countBelow_0 : decode cX0_countBelow 0 = .ok (.iconst 0, 1) := by decide +kernel
theorem dX0_countBelow_1 : decode cX0_countBelow 1 = .ok (.istore_n 2, 1) := by decide +kernel
theorem dX0_countBelow_2 : decode cX0_countBelow 2 = .ok (.bipush 32, 2) := by decide +kernel
theorem dX0_countBelow_4 : decode cX0_countBelow 4 = .ok (.istore_n 3, 1) := by decide +kernel
theorem dX0_countBelow_5 : decode cX0_countBelow 5 = .ok (.iload_n 3, 1) := by decide +kernel
theorem dX0_countBelow_6 : decode cX0_countBelow 6 = .ok (.ifCond .le 40, 3) := by decide +kernel
theorem dX0_countBelow_9 : decode cX0_countBelow 9 = .ok (.iload_n 2, 1) := by decide +kernel
theorem dX0_countBelow_10 : decode cX0_countBelow 10 = .ok (.iload_n 3, 1) := by decide +kernel
theorem dX0_countBelow_11 : decode cX0_countBelow 11 = .ok (.iadd, 1) := by decide +kernel
theorem dX0_countBelow_12 : decode cX0_countBelow 12 = .ok (.istore 4, 2) := by decide +kernel
theorem dX0_countBelow_14 : decode cX0_countBelow 14 = .ok (.iload 4, 2) := by decide +kernel
theorem dX0_countBelow_16 : decode cX0_countBelow 16 = .ok (.aload_n 0, 1) := by decide +kernel
theorem dX0_countBelow_17 : decode cX0_countBelow 17 = .ok (.getfield 18, 3) := by decide +kernel
theorem dX0_countBelow_20 : decode cX0_countBelow 20 = .ok (.if_icmp .gt 19, 3) := by decide +kernel
theorem dX0_countBelow_23 : decode cX0_countBelow 23 = .ok (.aload_n 0, 1) := by decide +kernel
theorem dX0_countBelow_24 : decode cX0_countBelow 24 = .ok (.getfield 9, 3) := by decide +kernel
theorem dX0_countBelow_27 : decode cX0_countBelow 27 = .ok (.iload 4, 2) := by decide +kernel
theorem dX0_countBelow_29 : decode cX0_countBelow 29 = .ok (.iconst 1, 1) := by decide +kernel
theorem dX0_countBelow_30 : decode cX0_countBelow 30 = .ok (.isub, 1) := by decide +kernel
theorem dX0_countBelow_31 : decode cX0_countBelow 31 = .ok (.iaload, 1) := by decide +kernel
theorem dX0_countBelow_32 : decode cX0_countBelow 32 = .ok (.iload_n 1, 1) := by decide +kernel
theorem dX0_countBelow_33 : decode cX0_countBelow 33 = .ok (.if_icmp .ge 6, 3) := by decide +kernel
theorem dX0_countBelow_36 : decode cX0_countBelow 36 = .ok (.iload 4, 2) := by decide +kernel
theorem dX0_countBelow_38 : decode cX0_countBelow 38 = .ok (.istore_n 2, 1) := by decide +kernel
theorem dX0_countBelow_39 : decode cX0_countBelow 39 = .ok (.iload_n 3, 1) := by decide +kernel
theorem dX0_countBelow_40 : decode cX0_countBelow 40 = .ok (.iconst 2, 1) := by decide +kernel
theorem dX0_countBelow_41 : decode cX0_countBelow 41 = .ok (.idiv, 1) := by decide +kernel
theorem dX0_countBelow_42 : decode cX0_countBelow 42 = .ok (.istore_n 3, 1) := by decide +kernel
theorem dX0_countBelow_43 : decode cX0_countBelow 43 = .ok (.goto (-38), 3) := by decide +kernel
theorem dX0_countBelow_46 : decode cX0_countBelow 46 = .ok (.iload_n 2, 1) := by decide +kernel
theorem dX0_countBelow_47 : decode cX0_countBelow 47 = .ok (.ireturn, 1) := by decide +kernel
theorem dX0_wordOf_0 : decode cX0_wordOf 0 = .ok (.aload_n 0, 1) := by decide +kernel
theorem dX0_wordOf_1 : decode cX0_wordOf 1 = .ok (.iload_n 1, 1) := by decide +kernel
theorem dX0_wordOf_2 : decode cX0_wordOf 2 = .ok (.invokevirtual 22, 3) := by decide +kernel
theorem dX0_wordOf_5 : decode cX0_wordOf 5 = .ok (.istore_n 2, 1) := by decide +kernel
theorem dX0_wordOf_6 : decode cX0_wordOf 6 = .ok (.iload_n 2, 1) := by decide +kernel
theorem dX0_wordOf_7 : decode cX0_wordOf 7 = .ok (.aload_n 0, 1) := by decide +kernel
theorem dX0_wordOf_8 : decode cX0_wordOf 8 = .ok (.getfield 18, 3) := by decide +kernel
theorem dX0_wordOf_11 : decode cX0_wordOf 11 = .ok (.if_icmp .ge 22, 3) := by decide +kernel
theorem dX0_wordOf_14 : decode cX0_wordOf 14 = .ok (.aload_n 0, 1) := by decide +kernel
theorem dX0_wordOf_15 : decode cX0_wordOf 15 = .ok (.getfield 9, 3) := by decide +kernel
theorem dX0_wordOf_18 : decode cX0_wordOf 18 = .ok (.iload_n 2, 1) := by decide +kernel
theorem dX0_wordOf_19 : decode cX0_wordOf 19 = .ok (.iaload, 1) := by decide +kernel
theorem dX0_wordOf_20 : decode cX0_wordOf 20 = .ok (.iload_n 1, 1) := by decide +kernel
theorem dX0_wordOf_21 : decode cX0_wordOf 21 = .ok (.if_icmp .ne 12, 3) := by decide +kernel
theorem dX0_wordOf_24 : decode cX0_wordOf 24 = .ok (.aload_n 0, 1) := by decide +kernel
theorem dX0_wordOf_25 : decode cX0_wordOf 25 = .ok (.getfield 15, 3) := by decide +kernel
theorem dX0_wordOf_28 : decode cX0_wordOf 28 = .ok (.iload_n 2, 1) := by decide +kernel
theorem dX0_wordOf_29 : decode cX0_wordOf 29 = .ok (.iaload, 1) := by decide +kernel
theorem dX0_wordOf_30 : decode cX0_wordOf 30 = .ok (.goto 4, 3) := by decide +kernel
theorem dX0_wordOf_33 : decode cX0_wordOf 33 = .ok (.iconst (-1), 1) := by decide +kernel
theorem dX0_wordOf_34 : decode cX0_wordOf 34 = .ok (.ireturn, 1) := by decide +kernel
theorem dX0_put_0 : decode cX0_put 0 = .ok (.aload_n 0, 1) := by decide +kernel
theorem dX0_put_1 : decode cX0_put 1 = .ok (.iload_n 1, 1) := by decide +kernel
theorem dX0_put_2 : decode cX0_put 2 = .ok (.invokevirtual 22, 3) := by decide +kernel
theorem dX0_put_5 : decode cX0_put 5 = .ok (.istore_n 3, 1) := by decide +kernel
theorem dX0_put_6 : decode cX0_put 6 = .ok (.iload_n 3, 1) := by decide +kernel
theorem dX0_put_7 : decode cX0_put 7 = .ok (.aload_n 0, 1) := by decide +kernel
theorem dX0_put_8 : decode cX0_put 8 = .ok (.getfield 18, 3) := by decide +kernel
theorem dX0_put_11 : decode cX0_put 11 = .ok (.if_icmp .ge 21, 3) := by decide +kernel
theorem dX0_put_14 : decode cX0_put 14 = .ok (.aload_n 0, 1) := by decide +kernel
theorem dX0_put_15 : decode cX0_put 15 = .ok (.getfield 9, 3) := by decide +kernel
theorem dX0_put_18 : decode cX0_put 18 = .ok (.iload_n 3, 1) := by decide +kernel
theorem dX0_put_19 : decode cX0_put 19 = .ok (.iaload, 1) := by decide +kernel
theorem dX0_put_20 : decode cX0_put 20 = .ok (.iload_n 1, 1) := by decide +kernel
theorem dX0_put_21 : decode cX0_put 21 = .ok (.if_icmp .ne 11, 3) := by decide +kernel
theorem dX0_put_24 : decode cX0_put 24 = .ok (.aload_n 0, 1) := by decide +kernel
theorem dX0_put_25 : decode cX0_put 25 = .ok (.getfield 15, 3) := by decide +kernel
theorem dX0_put_28 : decode cX0_put 28 = .ok (.iload_n 3, 1) := by decide +kernel
theorem dX0_put_29 : decode cX0_put 29 = .ok (.iload_n 2, 1) := by decide +kernel
theorem dX0_put_30 : decode cX0_put 30 = .ok (.iastore, 1) := by decide +kernel
theorem dX0_put_31 : decode cX0_put 31 = .ok (.return_, 1) := by decide +kernel
theorem dX0_put_32 : decode cX0_put 32 = .ok (.aload_n 0, 1) := by decide +kernel
theorem dX0_put_33 : decode cX0_put 33 = .ok (.getfield 18, 3) := by decide +kernel
theorem dX0_put_36 : decode cX0_put 36 = .ok (.bipush 40, 2) := by decide +kernel
theorem dX0_put_38 : decode cX0_put 38 = .ok (.if_icmp .lt 4, 3) := by decide +kernel
theorem dX0_put_41 : decode cX0_put 41 = .ok (.return_, 1) := by decide +kernel
theorem dX0_put_42 : decode cX0_put 42 = .ok (.aload_n 0, 1) := by decide +kernel
theorem dX0_put_43 : decode cX0_put 43 = .ok (.getfield 18, 3) := by decide +kernel
theorem dX0_put_46 : decode cX0_put 46 = .ok (.istore 4, 2) := by decide +kernel
theorem dX0_put_48 : decode cX0_put 48 = .ok (.iload 4, 2) := by decide +kernel
theorem dX0_put_50 : decode cX0_put 50 = .ok (.iload_n 3, 1) := by decide +kernel
theorem dX0_put_51 : decode cX0_put 51 = .ok (.if_icmp .le 41, 3) := by decide +kernel
theorem dX0_put_54 : decode cX0_put 54 = .ok (.aload_n 0, 1) := by decide +kernel
theorem dX0_put_55 : decode cX0_put 55 = .ok (.getfield 9, 3) := by decide +kernel
theorem dX0_put_58 : decode cX0_put 58 = .ok (.iload 4, 2) := by decide +kernel
theorem dX0_put_60 : decode cX0_put 60 = .ok (.aload_n 0, 1) := by decide +kernel
theorem dX0_put_61 : decode cX0_put 61 = .ok (.getfield 9, 3) := by decide +kernel
theorem dX0_put_64 : decode cX0_put 64 = .ok (.iload 4, 2) := by decide +kernel
theorem dX0_put_66 : decode cX0_put 66 = .ok (.iconst 1, 1) := by decide +kernel
theorem dX0_put_67 : decode cX0_put 67 = .ok (.isub, 1) := by decide +kernel
theorem dX0_put_68 : decode cX0_put 68 = .ok (.iaload, 1) := by decide +kernel
theorem dX0_put_69 : decode cX0_put 69 = .ok (.iastore, 1) := by decide +kernel
theorem dX0_put_70 : decode cX0_put 70 = .ok (.aload_n 0, 1) := by decide +kernel
theorem dX0_put_71 : decode cX0_put 71 = .ok (.getfield 15, 3) := by decide +kernel
theorem dX0_put_74 : decode cX0_put 74 = .ok (.iload 4, 2) := by decide +kernel
theorem dX0_put_76 : decode cX0_put 76 = .ok (.aload_n 0, 1) := by decide +kernel
theorem dX0_put_77 : decode cX0_put 77 = .ok (.getfield 15, 3) := by decide +kernel
theorem dX0_put_80 : decode cX0_put 80 = .ok (.iload 4, 2) := by decide +kernel
theorem dX0_put_82 : decode cX0_put 82 = .ok (.iconst 1, 1) := by decide +kernel
theorem dX0_put_83 : decode cX0_put 83 = .ok (.isub, 1) := by decide +kernel
theorem dX0_put_84 : decode cX0_put 84 = .ok (.iaload, 1) := by decide +kernel
theorem dX0_put_85 : decode cX0_put 85 = .ok (.iastore, 1) := by decide +kernel
theorem dX0_put_86 : decode cX0_put 86 = .ok (.iinc 4 (-1), 3) := by decide +kernel
theorem dX0_put_89 : decode cX0_put 89 = .ok (.goto (-41), 3) := by decide +kernel
theorem dX0_put_92 : decode cX0_put 92 = .ok (.aload_n 0, 1) := by decide +kernel
theorem dX0_put_93 : decode cX0_put 93 = .ok (.getfield 9, 3) := by decide +kernel
theorem dX0_put_96 : decode cX0_put 96 = .ok (.iload_n 3, 1) := by decide +kernel
theorem dX0_put_97 : decode cX0_put 97 = .ok (.iload_n 1, 1) := by decide +kernel
theorem dX0_put_98 : decode cX0_put 98 = .ok (.iastore, 1) := by decide +kernel
theorem dX0_put_99 : decode cX0_put 99 = .ok (.aload_n 0, 1) := by decide +kernel
theorem dX0_put_100 : decode cX0_put 100 = .ok (.getfield 15, 3) := by decide +kernel
theorem dX0_put_103 : decode cX0_put 103 = .ok (.iload_n 3, 1) := by decide +kernel
theorem dX0_put_104 : decode cX0_put 104 = .ok (.iload_n 2, 1) := by decide +kernel
theorem dX0_put_105 : decode cX0_put 105 = .ok (.iastore, 1) := by decide +kernel
theorem dX0_put_106 : decode cX0_put 106 = .ok (.aload_n 0, 1) := by decide +kernel
theorem dX0_put_107 : decode cX0_put 107 = .ok (.dup, 1) := by decide +kernel
theorem dX0_put_108 : decode cX0_put 108 = .ok (.getfield 18, 3) := by decide +kernel
theorem dX0_put_111 : decode cX0_put 111 = .ok (.iconst 1, 1) := by decide +kernel
theorem dX0_put_112 : decode cX0_put 112 = .ok (.iadd, 1) := by decide +kernel
theorem dX0_put_113 : decode cX0_put 113 = .ok (.putfield 18, 3) := by decide +kernel
theorem dX0_put_116 : decode cX0_put 116 = .ok (.return_, 1) := by decide +kernel
theorem dX0_take_0 : decode cX0_take 0 = .ok (.aload_n 0, 1) := by decide +kernel
theorem dX0_take_1 : decode cX0_take 1 = .ok (.iload_n 1, 1) := by decide +kernel
theorem dX0_take_2 : decode cX0_take 2 = .ok (.invokevirtual 26, 3) := by decide +kernel
theorem dX0_take_5 : decode cX0_take 5 = .ok (.istore_n 2, 1) := by decide +kernel
theorem dX0_take_6 : decode cX0_take 6 = .ok (.iload_n 2, 1) := by decide +kernel
theorem dX0_take_7 : decode cX0_take 7 = .ok (.iconst (-1), 1) := by decide +kernel
theorem dX0_take_8 : decode cX0_take 8 = .ok (.if_icmp .eq 63, 3) := by decide +kernel
theorem dX0_take_11 : decode cX0_take 11 = .ok (.aload_n 0, 1) := by decide +kernel
theorem dX0_take_12 : decode cX0_take 12 = .ok (.iload_n 1, 1) := by decide +kernel
theorem dX0_take_13 : decode cX0_take 13 = .ok (.invokevirtual 22, 3) := by decide +kernel
theorem dX0_take_16 : decode cX0_take 16 = .ok (.iconst 1, 1) := by decide +kernel
theorem dX0_take_17 : decode cX0_take 17 = .ok (.iadd, 1) := by decide +kernel
theorem dX0_take_18 : decode cX0_take 18 = .ok (.istore_n 3, 1) := by decide +kernel
theorem dX0_take_19 : decode cX0_take 19 = .ok (.iload_n 3, 1) := by decide +kernel
theorem dX0_take_20 : decode cX0_take 20 = .ok (.aload_n 0, 1) := by decide +kernel
theorem dX0_take_21 : decode cX0_take 21 = .ok (.getfield 18, 3) := by decide +kernel
theorem dX0_take_24 : decode cX0_take 24 = .ok (.if_icmp .ge 37, 3) := by decide +kernel
theorem dX0_take_27 : decode cX0_take 27 = .ok (.aload_n 0, 1) := by decide +kernel
theorem dX0_take_28 : decode cX0_take 28 = .ok (.getfield 9, 3) := by decide +kernel
theorem dX0_take_31 : decode cX0_take 31 = .ok (.iload_n 3, 1) := by decide +kernel
theorem dX0_take_32 : decode cX0_take 32 = .ok (.iconst 1, 1) := by decide +kernel
theorem dX0_take_33 : decode cX0_take 33 = .ok (.isub, 1) := by decide +kernel
theorem dX0_take_34 : decode cX0_take 34 = .ok (.aload_n 0, 1) := by decide +kernel
theorem dX0_take_35 : decode cX0_take 35 = .ok (.getfield 9, 3) := by decide +kernel
theorem dX0_take_38 : decode cX0_take 38 = .ok (.iload_n 3, 1) := by decide +kernel
theorem dX0_take_39 : decode cX0_take 39 = .ok (.iaload, 1) := by decide +kernel
theorem dX0_take_40 : decode cX0_take 40 = .ok (.iastore, 1) := by decide +kernel
theorem dX0_take_41 : decode cX0_take 41 = .ok (.aload_n 0, 1) := by decide +kernel
theorem dX0_take_42 : decode cX0_take 42 = .ok (.getfield 15, 3) := by decide +kernel
theorem dX0_take_45 : decode cX0_take 45 = .ok (.iload_n 3, 1) := by decide +kernel
theorem dX0_take_46 : decode cX0_take 46 = .ok (.iconst 1, 1) := by decide +kernel
theorem dX0_take_47 : decode cX0_take 47 = .ok (.isub, 1) := by decide +kernel
theorem dX0_take_48 : decode cX0_take 48 = .ok (.aload_n 0, 1) := by decide +kernel
theorem dX0_take_49 : decode cX0_take 49 = .ok (.getfield 15, 3) := by decide +kernel
theorem dX0_take_52 : decode cX0_take 52 = .ok (.iload_n 3, 1) := by decide +kernel
theorem dX0_take_53 : decode cX0_take 53 = .ok (.iaload, 1) := by decide +kernel
theorem dX0_take_54 : decode cX0_take 54 = .ok (.iastore, 1) := by decide +kernel
theorem dX0_take_55 : decode cX0_take 55 = .ok (.iinc 3 1, 3) := by decide +kernel
theorem dX0_take_58 : decode cX0_take 58 = .ok (.goto (-39), 3) := by decide +kernel
theorem dX0_take_61 : decode cX0_take 61 = .ok (.aload_n 0, 1) := by decide +kernel
theorem dX0_take_62 : decode cX0_take 62 = .ok (.dup, 1) := by decide +kernel
theorem dX0_take_63 : decode cX0_take 63 = .ok (.getfield 18, 3) := by decide +kernel
theorem dX0_take_66 : decode cX0_take 66 = .ok (.iconst 1, 1) := by decide +kernel
theorem dX0_take_67 : decode cX0_take 67 = .ok (.isub, 1) := by decide +kernel
theorem dX0_take_68 : decode cX0_take 68 = .ok (.putfield 18, 3) := by decide +kernel
theorem dX0_take_71 : decode cX0_take 71 = .ok (.iload_n 2, 1) := by decide +kernel
theorem dX0_take_72 : decode cX0_take 72 = .ok (.ireturn, 1) := by decide +kernel
theorem dX0_leastWith_0 : decode cX0_leastWith 0 = .ok (.iconst 0, 1) := by decide +kernel
theorem dX0_leastWith_1 : decode cX0_leastWith 1 = .ok (.istore_n 2, 1) := by decide +kernel
theorem dX0_leastWith_2 : decode cX0_leastWith 2 = .ok (.iload_n 2, 1) := by decide +kernel
theorem dX0_leastWith_3 : decode cX0_leastWith 3 = .ok (.aload_n 0, 1) := by decide +kernel
theorem dX0_leastWith_4 : decode cX0_leastWith 4 = .ok (.getfield 18, 3) := by decide +kernel
theorem dX0_leastWith_7 : decode cX0_leastWith 7 = .ok (.if_icmp .ge 26, 3) := by decide +kernel
theorem dX0_leastWith_10 : decode cX0_leastWith 10 = .ok (.aload_n 0, 1) := by decide +kernel
theorem dX0_leastWith_11 : decode cX0_leastWith 11 = .ok (.getfield 15, 3) := by decide +kernel
theorem dX0_leastWith_14 : decode cX0_leastWith 14 = .ok (.iload_n 2, 1) := by decide +kernel
theorem dX0_leastWith_15 : decode cX0_leastWith 15 = .ok (.iaload, 1) := by decide +kernel
theorem dX0_leastWith_16 : decode cX0_leastWith 16 = .ok (.iload_n 1, 1) := by decide +kernel
theorem dX0_leastWith_17 : decode cX0_leastWith 17 = .ok (.if_icmp .ne 10, 3) := by decide +kernel
theorem dX0_leastWith_20 : decode cX0_leastWith 20 = .ok (.aload_n 0, 1) := by decide +kernel
theorem dX0_leastWith_21 : decode cX0_leastWith 21 = .ok (.getfield 9, 3) := by decide +kernel
theorem dX0_leastWith_24 : decode cX0_leastWith 24 = .ok (.iload_n 2, 1) := by decide +kernel
theorem dX0_leastWith_25 : decode cX0_leastWith 25 = .ok (.iaload, 1) := by decide +kernel
theorem dX0_leastWith_26 : decode cX0_leastWith 26 = .ok (.ireturn, 1) := by decide +kernel
theorem dX0_leastWith_27 : decode cX0_leastWith 27 = .ok (.iinc 2 1, 3) := by decide +kernel
theorem dX0_leastWith_30 : decode cX0_leastWith 30 = .ok (.goto (-28), 3) := by decide +kernel
theorem dX0_leastWith_33 : decode cX0_leastWith 33 = .ok (.iconst (-1), 1) := by decide +kernel
theorem dX0_leastWith_34 : decode cX0_leastWith 34 = .ok (.ireturn, 1) := by decide +kernel
theorem dX1_init_0 : decode cX1_init 0 = .ok (.aload_n 0, 1) := by decide +kernel
theorem dX1_init_1 : decode cX1_init 1 = .ok (.invokespecial 3, 3) := by decide +kernel
theorem dX1_init_4 : decode cX1_init 4 = .ok (.aload_n 0, 1) := by decide +kernel
theorem dX1_init_5 : decode cX1_init 5 = .ok (.iconst 0, 1) := by decide +kernel
theorem dX1_init_6 : decode cX1_init 6 = .ok (.putfield 9, 3) := by decide +kernel
theorem dX1_init_9 : decode cX1_init 9 = .ok (.aload_n 0, 1) := by decide +kernel
theorem dX1_init_10 : decode cX1_init 10 = .ok (.iconst 0, 1) := by decide +kernel
theorem dX1_init_11 : decode cX1_init 11 = .ok (.putfield 15, 3) := by decide +kernel
theorem dX1_init_14 : decode cX1_init 14 = .ok (.aload_n 0, 1) := by decide +kernel
theorem dX1_init_15 : decode cX1_init 15 = .ok (.iconst 0, 1) := by decide +kernel
theorem dX1_init_16 : decode cX1_init 16 = .ok (.putfield 18, 3) := by decide +kernel
theorem dX1_init_19 : decode cX1_init 19 = .ok (.aload_n 0, 1) := by decide +kernel
theorem dX1_init_20 : decode cX1_init 20 = .ok (.iconst 0, 1) := by decide +kernel
theorem dX1_init_21 : decode cX1_init 21 = .ok (.putfield 21, 3) := by decide +kernel
theorem dX1_init_24 : decode cX1_init 24 = .ok (.aload_n 0, 1) := by decide +kernel
theorem dX1_init_25 : decode cX1_init 25 = .ok (.iconst (-1), 1) := by decide +kernel
theorem dX1_init_26 : decode cX1_init 26 = .ok (.putfield 24, 3) := by decide +kernel
theorem dX1_init_29 : decode cX1_init 29 = .ok (.aload_n 0, 1) := by decide +kernel
theorem dX1_init_30 : decode cX1_init 30 = .ok (.iconst 0, 1) := by decide +kernel
theorem dX1_init_31 : decode cX1_init 31 = .ok (.putfield 27, 3) := by decide +kernel
theorem dX1_init_34 : decode cX1_init 34 = .ok (.aload_n 0, 1) := by decide +kernel
theorem dX1_init_35 : decode cX1_init 35 = .ok (.iconst 0, 1) := by decide +kernel
theorem dX1_init_36 : decode cX1_init 36 = .ok (.putfield 30, 3) := by decide +kernel
theorem dX1_init_39 : decode cX1_init 39 = .ok (.return_, 1) := by decide +kernel
theorem dX1_start_0 : decode cX1_start 0 = .ok (.aload_n 0, 1) := by decide +kernel
theorem dX1_start_1 : decode cX1_start 1 = .ok (.iload_n 1, 1) := by decide +kernel
theorem dX1_start_2 : decode cX1_start 2 = .ok (.putfield 9, 3) := by decide +kernel
theorem dX1_start_5 : decode cX1_start 5 = .ok (.aload_n 0, 1) := by decide +kernel
theorem dX1_start_6 : decode cX1_start 6 = .ok (.iload_n 2, 1) := by decide +kernel
theorem dX1_start_7 : decode cX1_start 7 = .ok (.putfield 15, 3) := by decide +kernel
theorem dX1_start_10 : decode cX1_start 10 = .ok (.aload_n 0, 1) := by decide +kernel
theorem dX1_start_11 : decode cX1_start 11 = .ok (.iload_n 3, 1) := by decide +kernel
theorem dX1_start_12 : decode cX1_start 12 = .ok (.putfield 18, 3) := by decide +kernel
theorem dX1_start_15 : decode cX1_start 15 = .ok (.aload_n 0, 1) := by decide +kernel
theorem dX1_start_16 : decode cX1_start 16 = .ok (.iload 4, 2) := by decide +kernel
theorem dX1_start_18 : decode cX1_start 18 = .ok (.putfield 21, 3) := by decide +kernel
theorem dX1_start_21 : decode cX1_start 21 = .ok (.aload_n 0, 1) := by decide +kernel
theorem dX1_start_22 : decode cX1_start 22 = .ok (.iconst (-1), 1) := by decide +kernel
theorem dX1_start_23 : decode cX1_start 23 = .ok (.putfield 24, 3) := by decide +kernel
theorem dX1_start_26 : decode cX1_start 26 = .ok (.aload_n 0, 1) := by decide +kernel
theorem dX1_start_27 : decode cX1_start 27 = .ok (.iconst 0, 1) := by decide +kernel
theorem dX1_start_28 : decode cX1_start 28 = .ok (.putfield 27, 3) := by decide +kernel
theorem dX1_start_31 : decode cX1_start 31 = .ok (.aload_n 0, 1) := by decide +kernel
theorem dX1_start_32 : decode cX1_start 32 = .ok (.iconst 0, 1) := by decide +kernel
theorem dX1_start_33 : decode cX1_start 33 = .ok (.putfield 30, 3) := by decide +kernel
theorem dX1_start_36 : decode cX1_start 36 = .ok (.return_, 1) := by decide +kernel
theorem dX1_set_0 : decode cX1_set 0 = .ok (.aload_n 0, 1) := by decide +kernel
theorem dX1_set_1 : decode cX1_set 1 = .ok (.iload_n 1, 1) := by decide +kernel
theorem dX1_set_2 : decode cX1_set 2 = .ok (.iconst 2, 1) := by decide +kernel
theorem dX1_set_3 : decode cX1_set 3 = .ok (.idiv, 1) := by decide +kernel
theorem dX1_set_4 : decode cX1_set 4 = .ok (.putfield 21, 3) := by decide +kernel
theorem dX1_set_7 : decode cX1_set 7 = .ok (.aload_n 0, 1) := by decide +kernel
theorem dX1_set_8 : decode cX1_set 8 = .ok (.iload_n 1, 1) := by decide +kernel
theorem dX1_set_9 : decode cX1_set 9 = .ok (.iconst 2, 1) := by decide +kernel
theorem dX1_set_10 : decode cX1_set 10 = .ok (.irem, 1) := by decide +kernel
theorem dX1_set_11 : decode cX1_set 11 = .ok (.iconst 1, 1) := by decide +kernel
theorem dX1_set_12 : decode cX1_set 12 = .ok (.if_icmp .ne 7, 3) := by decide +kernel
theorem dX1_set_15 : decode cX1_set 15 = .ok (.iload_n 2, 1) := by decide +kernel
theorem dX1_set_16 : decode cX1_set 16 = .ok (.goto 4, 3) := by decide +kernel
theorem dX1_set_19 : decode cX1_set 19 = .ok (.iconst (-1), 1) := by decide +kernel
theorem dX1_set_20 : decode cX1_set 20 = .ok (.putfield 24, 3) := by decide +kernel
theorem dX1_set_23 : decode cX1_set 23 = .ok (.return_, 1) := by decide +kernel
theorem dX1_has_0 : decode cX1_has 0 = .ok (.aload_n 0, 1) := by decide +kernel
theorem dX1_has_1 : decode cX1_has 1 = .ok (.getfield 21, 3) := by decide +kernel
theorem dX1_has_4 : decode cX1_has 4 = .ok (.iload_n 1, 1) := by decide +kernel
theorem dX1_has_5 : decode cX1_has 5 = .ok (.iand, 1) := by decide +kernel
theorem dX1_has_6 : decode cX1_has 6 = .ok (.ifCond .eq 7, 3) := by decide +kernel
theorem dX1_has_9 : decode cX1_has 9 = .ok (.iconst 1, 1) := by decide +kernel
theorem dX1_has_10 : decode cX1_has 10 = .ok (.goto 4, 3) := by decide +kernel
theorem dX1_has_13 : decode cX1_has 13 = .ok (.iconst 0, 1) := by decide +kernel
theorem dX1_has_14 : decode cX1_has 14 = .ok (.ireturn, 1) := by decide +kernel
theorem dX2_init_0 : decode cX2_init 0 = .ok (.aload_n 0, 1) := by decide +kernel
theorem dX2_init_1 : decode cX2_init 1 = .ok (.invokespecial 3, 3) := by decide +kernel
theorem dX2_init_4 : decode cX2_init 4 = .ok (.aload_n 0, 1) := by decide +kernel
theorem dX2_init_5 : decode cX2_init 5 = .ok (.bipush 6, 2) := by decide +kernel
theorem dX2_init_7 : decode cX2_init 7 = .ok (.newarray .int, 2) := by decide +kernel
theorem dX2_init_9 : decode cX2_init 9 = .ok (.putfield 9, 3) := by decide +kernel
theorem dX2_init_12 : decode cX2_init 12 = .ok (.aload_n 0, 1) := by decide +kernel
theorem dX2_init_13 : decode cX2_init 13 = .ok (.bipush 6, 2) := by decide +kernel
theorem dX2_init_15 : decode cX2_init 15 = .ok (.newarray .int, 2) := by decide +kernel
theorem dX2_init_17 : decode cX2_init 17 = .ok (.putfield 15, 3) := by decide +kernel
theorem dX2_init_20 : decode cX2_init 20 = .ok (.aload_n 0, 1) := by decide +kernel
theorem dX2_init_21 : decode cX2_init 21 = .ok (.lconst 0, 1) := by decide +kernel
theorem dX2_init_22 : decode cX2_init 22 = .ok (.putfield 18, 3) := by decide +kernel
theorem dX2_init_25 : decode cX2_init 25 = .ok (.iconst 0, 1) := by decide +kernel
theorem dX2_init_26 : decode cX2_init 26 = .ok (.istore_n 1, 1) := by decide +kernel
theorem dX2_init_27 : decode cX2_init 27 = .ok (.iload_n 1, 1) := by decide +kernel
theorem dX2_init_28 : decode cX2_init 28 = .ok (.bipush 6, 2) := by decide +kernel
theorem dX2_init_30 : decode cX2_init 30 = .ok (.if_icmp .ge 17, 3) := by decide +kernel
theorem dX2_init_33 : decode cX2_init 33 = .ok (.aload_n 0, 1) := by decide +kernel
theorem dX2_init_34 : decode cX2_init 34 = .ok (.getfield 9, 3) := by decide +kernel
theorem dX2_init_37 : decode cX2_init 37 = .ok (.iload_n 1, 1) := by decide +kernel
theorem dX2_init_38 : decode cX2_init 38 = .ok (.bipush 10, 2) := by decide +kernel
theorem dX2_init_40 : decode cX2_init 40 = .ok (.iastore, 1) := by decide +kernel
theorem dX2_init_41 : decode cX2_init 41 = .ok (.iinc 1 1, 3) := by decide +kernel
theorem dX2_init_44 : decode cX2_init 44 = .ok (.goto (-17), 3) := by decide +kernel
theorem dX2_init_47 : decode cX2_init 47 = .ok (.return_, 1) := by decide +kernel
theorem dX2_clear_0 : decode cX2_clear 0 = .ok (.iconst 0, 1) := by decide +kernel
theorem dX2_clear_1 : decode cX2_clear 1 = .ok (.istore_n 1, 1) := by decide +kernel
theorem dX2_clear_2 : decode cX2_clear 2 = .ok (.iload_n 1, 1) := by decide +kernel
theorem dX2_clear_3 : decode cX2_clear 3 = .ok (.bipush 6, 2) := by decide +kernel
theorem dX2_clear_5 : decode cX2_clear 5 = .ok (.if_icmp .ge 16, 3) := by decide +kernel
theorem dX2_clear_8 : decode cX2_clear 8 = .ok (.aload_n 0, 1) := by decide +kernel
theorem dX2_clear_9 : decode cX2_clear 9 = .ok (.getfield 15, 3) := by decide +kernel
theorem dX2_clear_12 : decode cX2_clear 12 = .ok (.iload_n 1, 1) := by decide +kernel
theorem dX2_clear_13 : decode cX2_clear 13 = .ok (.iconst 0, 1) := by decide +kernel
theorem dX2_clear_14 : decode cX2_clear 14 = .ok (.iastore, 1) := by decide +kernel
theorem dX2_clear_15 : decode cX2_clear 15 = .ok (.iinc 1 1, 3) := by decide +kernel
theorem dX2_clear_18 : decode cX2_clear 18 = .ok (.goto (-16), 3) := by decide +kernel
theorem dX2_clear_21 : decode cX2_clear 21 = .ok (.aload_n 0, 1) := by decide +kernel
theorem dX2_clear_22 : decode cX2_clear 22 = .ok (.lconst 0, 1) := by decide +kernel
theorem dX2_clear_23 : decode cX2_clear 23 = .ok (.putfield 18, 3) := by decide +kernel
theorem dX2_clear_26 : decode cX2_clear 26 = .ok (.return_, 1) := by decide +kernel
theorem dX2_add_0 : decode cX2_add 0 = .ok (.lload_n 1, 1) := by decide +kernel
theorem dX2_add_1 : decode cX2_add 1 = .ok (.lstore_n 3, 1) := by decide +kernel
theorem dX2_add_2 : decode cX2_add 2 = .ok (.iconst 0, 1) := by decide +kernel
theorem dX2_add_3 : decode cX2_add 3 = .ok (.istore 5, 2) := by decide +kernel
theorem dX2_add_5 : decode cX2_add 5 = .ok (.iload 5, 2) := by decide +kernel
theorem dX2_add_7 : decode cX2_add 7 = .ok (.bipush 6, 2) := by decide +kernel
theorem dX2_add_9 : decode cX2_add 9 = .ok (.if_icmp .ge 79, 3) := by decide +kernel
theorem dX2_add_12 : decode cX2_add 12 = .ok (.aload_n 0, 1) := by decide +kernel
theorem dX2_add_13 : decode cX2_add 13 = .ok (.getfield 9, 3) := by decide +kernel
theorem dX2_add_16 : decode cX2_add 16 = .ok (.iload 5, 2) := by decide +kernel
theorem dX2_add_18 : decode cX2_add 18 = .ok (.iaload, 1) := by decide +kernel
theorem dX2_add_19 : decode cX2_add 19 = .ok (.iconst 2, 1) := by decide +kernel
theorem dX2_add_20 : decode cX2_add 20 = .ok (.invokestatic 22, 3) := by decide +kernel
theorem dX2_add_23 : decode cX2_add 23 = .ok (.istore 6, 2) := by decide +kernel
theorem dX2_add_25 : decode cX2_add 25 = .ok (.aload_n 0, 1) := by decide +kernel
theorem dX2_add_26 : decode cX2_add 26 = .ok (.getfield 15, 3) := by decide +kernel
theorem dX2_add_29 : decode cX2_add 29 = .ok (.iload 5, 2) := by decide +kernel
theorem dX2_add_31 : decode cX2_add 31 = .ok (.iaload, 1) := by decide +kernel
theorem dX2_add_32 : decode cX2_add 32 = .ok (.i2l, 1) := by decide +kernel
theorem dX2_add_33 : decode cX2_add 33 = .ok (.lload_n 3, 1) := by decide +kernel
theorem dX2_add_34 : decode cX2_add 34 = .ok (.iload 6, 2) := by decide +kernel
theorem dX2_add_36 : decode cX2_add 36 = .ok (.i2l, 1) := by decide +kernel
theorem dX2_add_37 : decode cX2_add 37 = .ok (.invokestatic 28, 3) := by decide +kernel
theorem dX2_add_40 : decode cX2_add 40 = .ok (.ladd, 1) := by decide +kernel
theorem dX2_add_41 : decode cX2_add 41 = .ok (.lstore 7, 2) := by decide +kernel
theorem dX2_add_43 : decode cX2_add 43 = .ok (.lload_n 3, 1) := by decide +kernel
theorem dX2_add_44 : decode cX2_add 44 = .ok (.iload 6, 2) := by decide +kernel
theorem dX2_add_46 : decode cX2_add 46 = .ok (.i2l, 1) := by decide +kernel
theorem dX2_add_47 : decode cX2_add 47 = .ok (.invokestatic 32, 3) := by decide +kernel
theorem dX2_add_50 : decode cX2_add 50 = .ok (.lstore_n 3, 1) := by decide +kernel
theorem dX2_add_51 : decode cX2_add 51 = .ok (.lload 7, 2) := by decide +kernel
theorem dX2_add_53 : decode cX2_add 53 = .ok (.iload 6, 2) := by decide +kernel
theorem dX2_add_55 : decode cX2_add 55 = .ok (.i2l, 1) := by decide +kernel
theorem dX2_add_56 : decode cX2_add 56 = .ok (.lcmp, 1) := by decide +kernel
theorem dX2_add_57 : decode cX2_add 57 = .ok (.ifCond .lt 15, 3) := by decide +kernel
theorem dX2_add_60 : decode cX2_add 60 = .ok (.lload 7, 2) := by decide +kernel
theorem dX2_add_62 : decode cX2_add 62 = .ok (.iload 6, 2) := by decide +kernel
theorem dX2_add_64 : decode cX2_add 64 = .ok (.i2l, 1) := by decide +kernel
theorem dX2_add_65 : decode cX2_add 65 = .ok (.lsub, 1) := by decide +kernel
theorem dX2_add_66 : decode cX2_add 66 = .ok (.lstore 7, 2) := by decide +kernel
theorem dX2_add_68 : decode cX2_add 68 = .ok (.lload_n 3, 1) := by decide +kernel
theorem dX2_add_69 : decode cX2_add 69 = .ok (.lconst 1, 1) := by decide +kernel
theorem dX2_add_70 : decode cX2_add 70 = .ok (.ladd, 1) := by decide +kernel
theorem dX2_add_71 : decode cX2_add 71 = .ok (.lstore_n 3, 1) := by decide +kernel
theorem dX2_add_72 : decode cX2_add 72 = .ok (.aload_n 0, 1) := by decide +kernel
theorem dX2_add_73 : decode cX2_add 73 = .ok (.getfield 15, 3) := by decide +kernel
theorem dX2_add_76 : decode cX2_add 76 = .ok (.iload 5, 2) := by decide +kernel
theorem dX2_add_78 : decode cX2_add 78 = .ok (.lload 7, 2) := by decide +kernel
theorem dX2_add_80 : decode cX2_add 80 = .ok (.l2i, 1) := by decide +kernel
theorem dX2_add_81 : decode cX2_add 81 = .ok (.iastore, 1) := by decide +kernel
theorem dX2_add_82 : decode cX2_add 82 = .ok (.iinc 5 1, 3) := by decide +kernel
theorem dX2_add_85 : decode cX2_add 85 = .ok (.goto (-80), 3) := by decide +kernel
theorem dX2_add_88 : decode cX2_add 88 = .ok (.aload_n 0, 1) := by decide +kernel
theorem dX2_add_89 : decode cX2_add 89 = .ok (.dup, 1) := by decide +kernel
theorem dX2_add_90 : decode cX2_add 90 = .ok (.getfield 18, 3) := by decide +kernel
theorem dX2_add_93 : decode cX2_add 93 = .ok (.lload_n 3, 1) := by decide +kernel
theorem dX2_add_94 : decode cX2_add 94 = .ok (.ladd, 1) := by decide +kernel
theorem dX2_add_95 : decode cX2_add 95 = .ok (.putfield 18, 3) := by decide +kernel
theorem dX2_add_98 : decode cX2_add 98 = .ok (.lload_n 3, 1) := by decide +kernel
theorem dX2_add_99 : decode cX2_add 99 = .ok (.lreturn, 1) := by decide +kernel
theorem dX2_total_0 : decode cX2_total 0 = .ok (.lconst 0, 1) := by decide +kernel
theorem dX2_total_1 : decode cX2_total 1 = .ok (.lstore_n 1, 1) := by decide +kernel
theorem dX2_total_2 : decode cX2_total 2 = .ok (.lconst 1, 1) := by decide +kernel
theorem dX2_total_3 : decode cX2_total 3 = .ok (.lstore_n 3, 1) := by decide +kernel
theorem dX2_total_4 : decode cX2_total 4 = .ok (.iconst 0, 1) := by decide +kernel
theorem dX2_total_5 : decode cX2_total 5 = .ok (.istore 5, 2) := by decide +kernel
theorem dX2_total_7 : decode cX2_total 7 = .ok (.iload 5, 2) := by decide +kernel
theorem dX2_total_9 : decode cX2_total 9 = .ok (.bipush 6, 2) := by decide +kernel
theorem dX2_total_11 : decode cX2_total 11 = .ok (.if_icmp .ge 33, 3) := by decide +kernel
theorem dX2_total_14 : decode cX2_total 14 = .ok (.lload_n 1, 1) := by decide +kernel
theorem dX2_total_15 : decode cX2_total 15 = .ok (.aload_n 0, 1) := by decide +kernel
theorem dX2_total_16 : decode cX2_total 16 = .ok (.getfield 15, 3) := by decide +kernel
theorem dX2_total_19 : decode cX2_total 19 = .ok (.iload 5, 2) := by decide +kernel
theorem dX2_total_21 : decode cX2_total 21 = .ok (.iaload, 1) := by decide +kernel
theorem dX2_total_22 : decode cX2_total 22 = .ok (.i2l, 1) := by decide +kernel
theorem dX2_total_23 : decode cX2_total 23 = .ok (.lload_n 3, 1) := by decide +kernel
theorem dX2_total_24 : decode cX2_total 24 = .ok (.lmul, 1) := by decide +kernel
theorem dX2_total_25 : decode cX2_total 25 = .ok (.ladd, 1) := by decide +kernel
theorem dX2_total_26 : decode cX2_total 26 = .ok (.lstore_n 1, 1) := by decide +kernel
theorem dX2_total_27 : decode cX2_total 27 = .ok (.lload_n 3, 1) := by decide +kernel
theorem dX2_total_28 : decode cX2_total 28 = .ok (.aload_n 0, 1) := by decide +kernel
theorem dX2_total_29 : decode cX2_total 29 = .ok (.getfield 9, 3) := by decide +kernel
theorem dX2_total_32 : decode cX2_total 32 = .ok (.iload 5, 2) := by decide +kernel
theorem dX2_total_34 : decode cX2_total 34 = .ok (.iaload, 1) := by decide +kernel
theorem dX2_total_35 : decode cX2_total 35 = .ok (.i2l, 1) := by decide +kernel
theorem dX2_total_36 : decode cX2_total 36 = .ok (.lmul, 1) := by decide +kernel
theorem dX2_total_37 : decode cX2_total 37 = .ok (.lstore_n 3, 1) := by decide +kernel
theorem dX2_total_38 : decode cX2_total 38 = .ok (.iinc 5 1, 3) := by decide +kernel
theorem dX2_total_41 : decode cX2_total 41 = .ok (.goto (-34), 3) := by decide +kernel
theorem dX2_total_44 : decode cX2_total 44 = .ok (.lload_n 1, 1) := by decide +kernel
theorem dX2_total_45 : decode cX2_total 45 = .ok (.lreturn, 1) := by decide +kernel
theorem dX3_init_0 : decode cX3_init 0 = .ok (.aload_n 0, 1) := by decide +kernel
theorem dX3_init_1 : decode cX3_init 1 = .ok (.invokespecial 3, 3) := by decide +kernel
theorem dX3_init_4 : decode cX3_init 4 = .ok (.aload_n 0, 1) := by decide +kernel
theorem dX3_init_5 : decode cX3_init 5 = .ok (.bipush 30, 2) := by decide +kernel
theorem dX3_init_7 : decode cX3_init 7 = .ok (.newarray .int, 2) := by decide +kernel
theorem dX3_init_9 : decode cX3_init 9 = .ok (.putfield 9, 3) := by decide +kernel
theorem dX3_init_12 : decode cX3_init 12 = .ok (.aload_n 0, 1) := by decide +kernel
theorem dX3_init_13 : decode cX3_init 13 = .ok (.bipush 30, 2) := by decide +kernel
theorem dX3_init_15 : decode cX3_init 15 = .ok (.newarray .int, 2) := by decide +kernel
theorem dX3_init_17 : decode cX3_init 17 = .ok (.putfield 15, 3) := by decide +kernel
theorem dX3_init_20 : decode cX3_init 20 = .ok (.aload_n 0, 1) := by decide +kernel
theorem dX3_init_21 : decode cX3_init 21 = .ok (.bipush 30, 2) := by decide +kernel
theorem dX3_init_23 : decode cX3_init 23 = .ok (.newarray .int, 2) := by decide +kernel
theorem dX3_init_25 : decode cX3_init 25 = .ok (.putfield 18, 3) := by decide +kernel
theorem dX3_init_28 : decode cX3_init 28 = .ok (.aload_n 0, 1) := by decide +kernel
theorem dX3_init_29 : decode cX3_init 29 = .ok (.iconst 0, 1) := by decide +kernel
theorem dX3_init_30 : decode cX3_init 30 = .ok (.putfield 21, 3) := by decide +kernel
theorem dX3_init_33 : decode cX3_init 33 = .ok (.return_, 1) := by decide +kernel
theorem dX3_isFull_0 : decode cX3_isFull 0 = .ok (.aload_n 0, 1) := by decide +kernel
theorem dX3_isFull_1 : decode cX3_isFull 1 = .ok (.getfield 21, 3) := by decide +kernel
theorem dX3_isFull_4 : decode cX3_isFull 4 = .ok (.bipush 30, 2) := by decide +kernel
theorem dX3_isFull_6 : decode cX3_isFull 6 = .ok (.if_icmp .lt 7, 3) := by decide +kernel
theorem dX3_isFull_9 : decode cX3_isFull 9 = .ok (.iconst 1, 1) := by decide +kernel
theorem dX3_isFull_10 : decode cX3_isFull 10 = .ok (.goto 4, 3) := by decide +kernel
theorem dX3_isFull_13 : decode cX3_isFull 13 = .ok (.iconst 0, 1) := by decide +kernel
theorem dX3_isFull_14 : decode cX3_isFull 14 = .ok (.ireturn, 1) := by decide +kernel
theorem dX3_placeOf_0 : decode cX3_placeOf 0 = .ok (.iconst 0, 1) := by decide +kernel
theorem dX3_placeOf_1 : decode cX3_placeOf 1 = .ok (.istore_n 3, 1) := by decide +kernel
theorem dX3_placeOf_2 : decode cX3_placeOf 2 = .ok (.iload_n 3, 1) := by decide +kernel
theorem dX3_placeOf_3 : decode cX3_placeOf 3 = .ok (.aload_n 0, 1) := by decide +kernel
theorem dX3_placeOf_4 : decode cX3_placeOf 4 = .ok (.getfield 21, 3) := by decide +kernel
theorem dX3_placeOf_7 : decode cX3_placeOf 7 = .ok (.if_icmp .ge 31, 3) := by decide +kernel
theorem dX3_placeOf_10 : decode cX3_placeOf 10 = .ok (.aload_n 0, 1) := by decide +kernel
theorem dX3_placeOf_11 : decode cX3_placeOf 11 = .ok (.getfield 9, 3) := by decide +kernel
theorem dX3_placeOf_14 : decode cX3_placeOf 14 = .ok (.iload_n 3, 1) := by decide +kernel
theorem dX3_placeOf_15 : decode cX3_placeOf 15 = .ok (.iaload, 1) := by decide +kernel
theorem dX3_placeOf_16 : decode cX3_placeOf 16 = .ok (.iload_n 1, 1) := by decide +kernel
theorem dX3_placeOf_17 : decode cX3_placeOf 17 = .ok (.if_icmp .ne 15, 3) := by decide +kernel
theorem dX3_placeOf_20 : decode cX3_placeOf 20 = .ok (.aload_n 0, 1) := by decide +kernel
theorem dX3_placeOf_21 : decode cX3_placeOf 21 = .ok (.getfield 15, 3) := by decide +kernel
theorem dX3_placeOf_24 : decode cX3_placeOf 24 = .ok (.iload_n 3, 1) := by decide +kernel
theorem dX3_placeOf_25 : decode cX3_placeOf 25 = .ok (.iaload, 1) := by decide +kernel
theorem dX3_placeOf_26 : decode cX3_placeOf 26 = .ok (.iload_n 2, 1) := by decide +kernel
theorem dX3_placeOf_27 : decode cX3_placeOf 27 = .ok (.if_icmp .ne 5, 3) := by decide +kernel
theorem dX3_placeOf_30 : decode cX3_placeOf 30 = .ok (.iload_n 3, 1) := by decide +kernel
theorem dX3_placeOf_31 : decode cX3_placeOf 31 = .ok (.ireturn, 1) := by decide +kernel
theorem dX3_placeOf_32 : decode cX3_placeOf 32 = .ok (.iinc 3 1, 3) := by decide +kernel
theorem dX3_placeOf_35 : decode cX3_placeOf 35 = .ok (.goto (-33), 3) := by decide +kernel
theorem dX3_placeOf_38 : decode cX3_placeOf 38 = .ok (.iconst (-1), 1) := by decide +kernel
theorem dX3_placeOf_39 : decode cX3_placeOf 39 = .ok (.ireturn, 1) := by decide +kernel
theorem dX3_formOf_0 : decode cX3_formOf 0 = .ok (.aload_n 0, 1) := by decide +kernel
theorem dX3_formOf_1 : decode cX3_formOf 1 = .ok (.iload_n 1, 1) := by decide +kernel
theorem dX3_formOf_2 : decode cX3_formOf 2 = .ok (.iload_n 2, 1) := by decide +kernel
theorem dX3_formOf_3 : decode cX3_formOf 3 = .ok (.invokevirtual 25, 3) := by decide +kernel
theorem dX3_formOf_6 : decode cX3_formOf 6 = .ok (.istore_n 3, 1) := by decide +kernel
theorem dX3_formOf_7 : decode cX3_formOf 7 = .ok (.iload_n 3, 1) := by decide +kernel
theorem dX3_formOf_8 : decode cX3_formOf 8 = .ok (.iconst (-1), 1) := by decide +kernel
theorem dX3_formOf_9 : decode cX3_formOf 9 = .ok (.if_icmp .ne 7, 3) := by decide +kernel
theorem dX3_formOf_12 : decode cX3_formOf 12 = .ok (.iconst (-1), 1) := by decide +kernel
theorem dX3_formOf_13 : decode cX3_formOf 13 = .ok (.goto 9, 3) := by decide +kernel
theorem dX3_formOf_16 : decode cX3_formOf 16 = .ok (.aload_n 0, 1) := by decide +kernel
theorem dX3_formOf_17 : decode cX3_formOf 17 = .ok (.getfield 18, 3) := by decide +kernel
theorem dX3_formOf_20 : decode cX3_formOf 20 = .ok (.iload_n 3, 1) := by decide +kernel
theorem dX3_formOf_21 : decode cX3_formOf 21 = .ok (.iaload, 1) := by decide +kernel
theorem dX3_formOf_22 : decode cX3_formOf 22 = .ok (.ireturn, 1) := by decide +kernel
theorem dX3_put_0 : decode cX3_put 0 = .ok (.aload_n 0, 1) := by decide +kernel
theorem dX3_put_1 : decode cX3_put 1 = .ok (.iload_n 1, 1) := by decide +kernel
theorem dX3_put_2 : decode cX3_put 2 = .ok (.iload_n 2, 1) := by decide +kernel
theorem dX3_put_3 : decode cX3_put 3 = .ok (.invokevirtual 25, 3) := by decide +kernel
theorem dX3_put_6 : decode cX3_put 6 = .ok (.istore 4, 2) := by decide +kernel
theorem dX3_put_8 : decode cX3_put 8 = .ok (.iload 4, 2) := by decide +kernel
theorem dX3_put_10 : decode cX3_put 10 = .ok (.iconst (-1), 1) := by decide +kernel
theorem dX3_put_11 : decode cX3_put 11 = .ok (.if_icmp .eq 14, 3) := by decide +kernel
theorem dX3_put_14 : decode cX3_put 14 = .ok (.aload_n 0, 1) := by decide +kernel
theorem dX3_put_15 : decode cX3_put 15 = .ok (.getfield 18, 3) := by decide +kernel
theorem dX3_put_18 : decode cX3_put 18 = .ok (.iload 4, 2) := by decide +kernel
theorem dX3_put_20 : decode cX3_put 20 = .ok (.iload_n 3, 1) := by decide +kernel
theorem dX3_put_21 : decode cX3_put 21 = .ok (.iastore, 1) := by decide +kernel
theorem dX3_put_22 : decode cX3_put 22 = .ok (.goto 52, 3) := by decide +kernel
theorem dX3_put_25 : decode cX3_put 25 = .ok (.aload_n 0, 1) := by decide +kernel
theorem dX3_put_26 : decode cX3_put 26 = .ok (.getfield 21, 3) := by decide +kernel
theorem dX3_put_29 : decode cX3_put 29 = .ok (.bipush 30, 2) := by decide +kernel
theorem dX3_put_31 : decode cX3_put 31 = .ok (.if_icmp .ge 43, 3) := by decide +kernel
theorem dX3_put_34 : decode cX3_put 34 = .ok (.aload_n 0, 1) := by decide +kernel
theorem dX3_put_35 : decode cX3_put 35 = .ok (.getfield 9, 3) := by decide +kernel
theorem dX3_put_38 : decode cX3_put 38 = .ok (.aload_n 0, 1) := by decide +kernel
theorem dX3_put_39 : decode cX3_put 39 = .ok (.getfield 21, 3) := by decide +kernel
theorem dX3_put_42 : decode cX3_put 42 = .ok (.iload_n 1, 1) := by decide +kernel
theorem dX3_put_43 : decode cX3_put 43 = .ok (.iastore, 1) := by decide +kernel
theorem dX3_put_44 : decode cX3_put 44 = .ok (.aload_n 0, 1) := by decide +kernel
theorem dX3_put_45 : decode cX3_put 45 = .ok (.getfield 15, 3) := by decide +kernel
theorem dX3_put_48 : decode cX3_put 48 = .ok (.aload_n 0, 1) := by decide +kernel
theorem dX3_put_49 : decode cX3_put 49 = .ok (.getfield 21, 3) := by decide +kernel
theorem dX3_put_52 : decode cX3_put 52 = .ok (.iload_n 2, 1) := by decide +kernel
theorem dX3_put_53 : decode cX3_put 53 = .ok (.iastore, 1) := by decide +kernel
theorem dX3_put_54 : decode cX3_put 54 = .ok (.aload_n 0, 1) := by decide +kernel
theorem dX3_put_55 : decode cX3_put 55 = .ok (.getfield 18, 3) := by decide +kernel
theorem dX3_put_58 : decode cX3_put 58 = .ok (.aload_n 0, 1) := by decide +kernel
theorem dX3_put_59 : decode cX3_put 59 = .ok (.getfield 21, 3) := by decide +kernel
theorem dX3_put_62 : decode cX3_put 62 = .ok (.iload_n 3, 1) := by decide +kernel
theorem dX3_put_63 : decode cX3_put 63 = .ok (.iastore, 1) := by decide +kernel
theorem dX3_put_64 : decode cX3_put 64 = .ok (.aload_n 0, 1) := by decide +kernel
theorem dX3_put_65 : decode cX3_put 65 = .ok (.dup, 1) := by decide +kernel
theorem dX3_put_66 : decode cX3_put 66 = .ok (.getfield 21, 3) := by decide +kernel
theorem dX3_put_69 : decode cX3_put 69 = .ok (.iconst 1, 1) := by decide +kernel
theorem dX3_put_70 : decode cX3_put 70 = .ok (.iadd, 1) := by decide +kernel
theorem dX3_put_71 : decode cX3_put 71 = .ok (.putfield 21, 3) := by decide +kernel
theorem dX3_put_74 : decode cX3_put 74 = .ok (.return_, 1) := by decide +kernel
theorem dX4_init_0 : decode cX4_init 0 = .ok (.aload_n 0, 1) := by decide +kernel
theorem dX4_init_1 : decode cX4_init 1 = .ok (.invokespecial 3, 3) := by decide +kernel
theorem dX4_init_4 : decode cX4_init 4 = .ok (.aload_n 0, 1) := by decide +kernel
theorem dX4_init_5 : decode cX4_init 5 = .ok (.new 9, 3) := by decide +kernel
theorem dX4_init_8 : decode cX4_init 8 = .ok (.dup, 1) := by decide +kernel
theorem dX4_init_9 : decode cX4_init 9 = .ok (.invokespecial 11, 3) := by decide +kernel
theorem dX4_init_12 : decode cX4_init 12 = .ok (.putfield 12, 3) := by decide +kernel
theorem dX4_init_15 : decode cX4_init 15 = .ok (.aload_n 0, 1) := by decide +kernel
theorem dX4_init_16 : decode cX4_init 16 = .ok (.iconst 5, 1) := by decide +kernel
theorem dX4_init_17 : decode cX4_init 17 = .ok (.anewarray 18, 3) := by decide +kernel
theorem dX4_init_20 : decode cX4_init 20 = .ok (.putfield 20, 3) := by decide +kernel
theorem dX4_init_23 : decode cX4_init 23 = .ok (.aload_n 0, 1) := by decide +kernel
theorem dX4_init_24 : decode cX4_init 24 = .ok (.iconst 0, 1) := by decide +kernel
theorem dX4_init_25 : decode cX4_init 25 = .ok (.putfield 24, 3) := by decide +kernel
theorem dX4_init_28 : decode cX4_init 28 = .ok (.aload_n 0, 1) := by decide +kernel
theorem dX4_init_29 : decode cX4_init 29 = .ok (.new 28, 3) := by decide +kernel
theorem dX4_init_32 : decode cX4_init 32 = .ok (.dup, 1) := by decide +kernel
theorem dX4_init_33 : decode cX4_init 33 = .ok (.invokespecial 30, 3) := by decide +kernel
theorem dX4_init_36 : decode cX4_init 36 = .ok (.putfield 31, 3) := by decide +kernel
theorem dX4_init_39 : decode cX4_init 39 = .ok (.aload_n 0, 1) := by decide +kernel
theorem dX4_init_40 : decode cX4_init 40 = .ok (.iconst (-1), 1) := by decide +kernel
theorem dX4_init_41 : decode cX4_init 41 = .ok (.putfield 35, 3) := by decide +kernel
theorem dX4_init_44 : decode cX4_init 44 = .ok (.aload_n 0, 1) := by decide +kernel
theorem dX4_init_45 : decode cX4_init 45 = .ok (.bipush 6, 2) := by decide +kernel
theorem dX4_init_47 : decode cX4_init 47 = .ok (.newarray .int, 2) := by decide +kernel
theorem dX4_init_49 : decode cX4_init 49 = .ok (.putfield 38, 3) := by decide +kernel
theorem dX4_init_52 : decode cX4_init 52 = .ok (.aload_n 0, 1) := by decide +kernel
theorem dX4_init_53 : decode cX4_init 53 = .ok (.bipush 6, 2) := by decide +kernel
theorem dX4_init_55 : decode cX4_init 55 = .ok (.newarray .int, 2) := by decide +kernel
theorem dX4_init_57 : decode cX4_init 57 = .ok (.putfield 42, 3) := by decide +kernel
theorem dX4_init_60 : decode cX4_init 60 = .ok (.aload_n 0, 1) := by decide +kernel
theorem dX4_init_61 : decode cX4_init 61 = .ok (.bipush 6, 2) := by decide +kernel
theorem dX4_init_63 : decode cX4_init 63 = .ok (.newarray .int, 2) := by decide +kernel
theorem dX4_init_65 : decode cX4_init 65 = .ok (.putfield 45, 3) := by decide +kernel
theorem dX4_init_68 : decode cX4_init 68 = .ok (.aload_n 0, 1) := by decide +kernel
theorem dX4_init_69 : decode cX4_init 69 = .ok (.iconst 0, 1) := by decide +kernel
theorem dX4_init_70 : decode cX4_init 70 = .ok (.putfield 48, 3) := by decide +kernel
theorem dX4_init_73 : decode cX4_init 73 = .ok (.iconst 0, 1) := by decide +kernel
theorem dX4_init_74 : decode cX4_init 74 = .ok (.istore_n 1, 1) := by decide +kernel
theorem dX4_init_75 : decode cX4_init 75 = .ok (.iload_n 1, 1) := by decide +kernel
theorem dX4_init_76 : decode cX4_init 76 = .ok (.iconst 5, 1) := by decide +kernel
theorem dX4_init_77 : decode cX4_init 77 = .ok (.if_icmp .ge 22, 3) := by decide +kernel
theorem dX4_init_80 : decode cX4_init 80 = .ok (.aload_n 0, 1) := by decide +kernel
theorem dX4_init_81 : decode cX4_init 81 = .ok (.getfield 20, 3) := by decide +kernel
theorem dX4_init_84 : decode cX4_init 84 = .ok (.iload_n 1, 1) := by decide +kernel
theorem dX4_init_85 : decode cX4_init 85 = .ok (.new 18, 3) := by decide +kernel
theorem dX4_init_88 : decode cX4_init 88 = .ok (.dup, 1) := by decide +kernel
theorem dX4_init_89 : decode cX4_init 89 = .ok (.invokespecial 51, 3) := by decide +kernel
theorem dX4_init_92 : decode cX4_init 92 = .ok (.aastore, 1) := by decide +kernel
theorem dX4_init_93 : decode cX4_init 93 = .ok (.iinc 1 1, 3) := by decide +kernel
theorem dX4_init_96 : decode cX4_init 96 = .ok (.goto (-21), 3) := by decide +kernel
theorem dX4_init_99 : decode cX4_init 99 = .ok (.return_, 1) := by decide +kernel
theorem dX4_clear_0 : decode cX4_clear 0 = .ok (.aload_n 0, 1) := by decide +kernel
theorem dX4_clear_1 : decode cX4_clear 1 = .ok (.getfield 12, 3) := by decide +kernel
theorem dX4_clear_4 : decode cX4_clear 4 = .ok (.iconst 0, 1) := by decide +kernel
theorem dX4_clear_5 : decode cX4_clear 5 = .ok (.putfield 52, 3) := by decide +kernel
theorem dX4_clear_8 : decode cX4_clear 8 = .ok (.aload_n 0, 1) := by decide +kernel
theorem dX4_clear_9 : decode cX4_clear 9 = .ok (.iconst 0, 1) := by decide +kernel
theorem dX4_clear_10 : decode cX4_clear 10 = .ok (.putfield 24, 3) := by decide +kernel
theorem dX4_clear_13 : decode cX4_clear 13 = .ok (.aload_n 0, 1) := by decide +kernel
theorem dX4_clear_14 : decode cX4_clear 14 = .ok (.getfield 31, 3) := by decide +kernel
theorem dX4_clear_17 : decode cX4_clear 17 = .ok (.iconst 0, 1) := by decide +kernel
theorem dX4_clear_18 : decode cX4_clear 18 = .ok (.putfield 55, 3) := by decide +kernel
theorem dX4_clear_21 : decode cX4_clear 21 = .ok (.aload_n 0, 1) := by decide +kernel
theorem dX4_clear_22 : decode cX4_clear 22 = .ok (.iconst (-1), 1) := by decide +kernel
theorem dX4_clear_23 : decode cX4_clear 23 = .ok (.putfield 35, 3) := by decide +kernel
theorem dX4_clear_26 : decode cX4_clear 26 = .ok (.aload_n 0, 1) := by decide +kernel
theorem dX4_clear_27 : decode cX4_clear 27 = .ok (.iconst 0, 1) := by decide +kernel
theorem dX4_clear_28 : decode cX4_clear 28 = .ok (.putfield 48, 3) := by decide +kernel
theorem dX4_clear_31 : decode cX4_clear 31 = .ok (.return_, 1) := by decide +kernel
theorem dX4_hasBase_0 : decode cX4_hasBase 0 = .ok (.iconst 0, 1) := by decide +kernel
theorem dX4_hasBase_1 : decode cX4_hasBase 1 = .ok (.istore_n 2, 1) := by decide +kernel
theorem dX4_hasBase_2 : decode cX4_hasBase 2 = .ok (.iload_n 2, 1) := by decide +kernel
theorem dX4_hasBase_3 : decode cX4_hasBase 3 = .ok (.aload_n 0, 1) := by decide +kernel
theorem dX4_hasBase_4 : decode cX4_hasBase 4 = .ok (.getfield 24, 3) := by decide +kernel
theorem dX4_hasBase_7 : decode cX4_hasBase 7 = .ok (.if_icmp .ge 24, 3) := by decide +kernel
theorem dX4_hasBase_10 : decode cX4_hasBase 10 = .ok (.aload_n 0, 1) := by decide +kernel
theorem dX4_hasBase_11 : decode cX4_hasBase 11 = .ok (.getfield 20, 3) := by decide +kernel
theorem dX4_hasBase_14 : decode cX4_hasBase 14 = .ok (.iload_n 2, 1) := by decide +kernel
theorem dX4_hasBase_15 : decode cX4_hasBase 15 = .ok (.aaload, 1) := by decide +kernel
theorem dX4_hasBase_16 : decode cX4_hasBase 16 = .ok (.getfield 56, 3) := by decide +kernel
theorem dX4_hasBase_19 : decode cX4_hasBase 19 = .ok (.iload_n 1, 1) := by decide +kernel
theorem dX4_hasBase_20 : decode cX4_hasBase 20 = .ok (.if_icmp .ne 5, 3) := by decide +kernel
theorem dX4_hasBase_23 : decode cX4_hasBase 23 = .ok (.iconst 1, 1) := by decide +kernel
theorem dX4_hasBase_24 : decode cX4_hasBase 24 = .ok (.ireturn, 1) := by decide +kernel
theorem dX4_hasBase_25 : decode cX4_hasBase 25 = .ok (.iinc 2 1, 3) := by decide +kernel
theorem dX4_hasBase_28 : decode cX4_hasBase 28 = .ok (.goto (-26), 3) := by decide +kernel
theorem dX4_hasBase_31 : decode cX4_hasBase 31 = .ok (.iconst 0, 1) := by decide +kernel
theorem dX4_hasBase_32 : decode cX4_hasBase 32 = .ok (.ireturn, 1) := by decide +kernel
theorem dX4_addBase_0 : decode cX4_addBase 0 = .ok (.aload_n 0, 1) := by decide +kernel
theorem dX4_addBase_1 : decode cX4_addBase 1 = .ok (.getfield 24, 3) := by decide +kernel
theorem dX4_addBase_4 : decode cX4_addBase 4 = .ok (.istore 5, 2) := by decide +kernel
theorem dX4_addBase_6 : decode cX4_addBase 6 = .ok (.iload 5, 2) := by decide +kernel
theorem dX4_addBase_8 : decode cX4_addBase 8 = .ok (.iconst 5, 1) := by decide +kernel
theorem dX4_addBase_9 : decode cX4_addBase 9 = .ok (.if_icmp .ge 28, 3) := by decide +kernel
theorem dX4_addBase_12 : decode cX4_addBase 12 = .ok (.aload_n 0, 1) := by decide +kernel
theorem dX4_addBase_13 : decode cX4_addBase 13 = .ok (.getfield 20, 3) := by decide +kernel
theorem dX4_addBase_16 : decode cX4_addBase 16 = .ok (.iload 5, 2) := by decide +kernel
theorem dX4_addBase_18 : decode cX4_addBase 18 = .ok (.aaload, 1) := by decide +kernel
theorem dX4_addBase_19 : decode cX4_addBase 19 = .ok (.iload_n 1, 1) := by decide +kernel
theorem dX4_addBase_20 : decode cX4_addBase 20 = .ok (.iload_n 2, 1) := by decide +kernel
theorem dX4_addBase_21 : decode cX4_addBase 21 = .ok (.iload_n 3, 1) := by decide +kernel
theorem dX4_addBase_22 : decode cX4_addBase 22 = .ok (.iload 4, 2) := by decide +kernel
theorem dX4_addBase_24 : decode cX4_addBase 24 = .ok (.invokevirtual 59, 3) := by decide +kernel
theorem dX4_addBase_27 : decode cX4_addBase 27 = .ok (.aload_n 0, 1) := by decide +kernel
theorem dX4_addBase_28 : decode cX4_addBase 28 = .ok (.dup, 1) := by decide +kernel
theorem dX4_addBase_29 : decode cX4_addBase 29 = .ok (.getfield 24, 3) := by decide +kernel
theorem dX4_addBase_32 : decode cX4_addBase 32 = .ok (.iconst 1, 1) := by decide +kernel
theorem dX4_addBase_33 : decode cX4_addBase 33 = .ok (.iadd, 1) := by decide +kernel
theorem dX4_addBase_34 : decode cX4_addBase 34 = .ok (.putfield 24, 3) := by decide +kernel
theorem dX4_addBase_37 : decode cX4_addBase 37 = .ok (.iload 5, 2) := by decide +kernel
theorem dX4_addBase_39 : decode cX4_addBase 39 = .ok (.ireturn, 1) := by decide +kernel
theorem dX4_addSeam_0 : decode cX4_addSeam 0 = .ok (.aload_n 0, 1) := by decide +kernel
theorem dX4_addSeam_1 : decode cX4_addSeam 1 = .ok (.getfield 48, 3) := by decide +kernel
theorem dX4_addSeam_4 : decode cX4_addSeam 4 = .ok (.bipush 6, 2) := by decide +kernel
theorem dX4_addSeam_6 : decode cX4_addSeam 6 = .ok (.if_icmp .ge 43, 3) := by decide +kernel
theorem dX4_addSeam_9 : decode cX4_addSeam 9 = .ok (.aload_n 0, 1) := by decide +kernel
theorem dX4_addSeam_10 : decode cX4_addSeam 10 = .ok (.getfield 38, 3) := by decide +kernel
theorem dX4_addSeam_13 : decode cX4_addSeam 13 = .ok (.aload_n 0, 1) := by decide +kernel
theorem dX4_addSeam_14 : decode cX4_addSeam 14 = .ok (.getfield 48, 3) := by decide +kernel
theorem dX4_addSeam_17 : decode cX4_addSeam 17 = .ok (.iload_n 1, 1) := by decide +kernel
theorem dX4_addSeam_18 : decode cX4_addSeam 18 = .ok (.iastore, 1) := by decide +kernel
theorem dX4_addSeam_19 : decode cX4_addSeam 19 = .ok (.aload_n 0, 1) := by decide +kernel
theorem dX4_addSeam_20 : decode cX4_addSeam 20 = .ok (.getfield 42, 3) := by decide +kernel
theorem dX4_addSeam_23 : decode cX4_addSeam 23 = .ok (.aload_n 0, 1) := by decide +kernel
theorem dX4_addSeam_24 : decode cX4_addSeam 24 = .ok (.getfield 48, 3) := by decide +kernel
theorem dX4_addSeam_27 : decode cX4_addSeam 27 = .ok (.iload_n 2, 1) := by decide +kernel
theorem dX4_addSeam_28 : decode cX4_addSeam 28 = .ok (.iastore, 1) := by decide +kernel
theorem dX4_addSeam_29 : decode cX4_addSeam 29 = .ok (.aload_n 0, 1) := by decide +kernel
theorem dX4_addSeam_30 : decode cX4_addSeam 30 = .ok (.getfield 45, 3) := by decide +kernel
theorem dX4_addSeam_33 : decode cX4_addSeam 33 = .ok (.aload_n 0, 1) := by decide +kernel
theorem dX4_addSeam_34 : decode cX4_addSeam 34 = .ok (.getfield 48, 3) := by decide +kernel
theorem dX4_addSeam_37 : decode cX4_addSeam 37 = .ok (.iload_n 3, 1) := by decide +kernel
theorem dX4_addSeam_38 : decode cX4_addSeam 38 = .ok (.iastore, 1) := by decide +kernel
theorem dX4_addSeam_39 : decode cX4_addSeam 39 = .ok (.aload_n 0, 1) := by decide +kernel
theorem dX4_addSeam_40 : decode cX4_addSeam 40 = .ok (.dup, 1) := by decide +kernel
theorem dX4_addSeam_41 : decode cX4_addSeam 41 = .ok (.getfield 48, 3) := by decide +kernel
theorem dX4_addSeam_44 : decode cX4_addSeam 44 = .ok (.iconst 1, 1) := by decide +kernel
theorem dX4_addSeam_45 : decode cX4_addSeam 45 = .ok (.iadd, 1) := by decide +kernel
theorem dX4_addSeam_46 : decode cX4_addSeam 46 = .ok (.putfield 48, 3) := by decide +kernel
theorem dX4_addSeam_49 : decode cX4_addSeam 49 = .ok (.return_, 1) := by decide +kernel
theorem dX4_leastNumberWith_0 : decode cX4_leastNumberWith 0 = .ok (.aload_n 0, 1) := by decide +kernel
theorem dX4_leastNumberWith_1 : decode cX4_leastNumberWith 1 = .ok (.getfield 12, 3) := by decide +kernel
theorem dX4_leastNumberWith_4 : decode cX4_leastNumberWith 4 = .ok (.iload_n 1, 1) := by decide +kernel
theorem dX4_leastNumberWith_5 : decode cX4_leastNumberWith 5 = .ok (.invokevirtual 63, 3) := by decide +kernel
theorem dX4_leastNumberWith_8 : decode cX4_leastNumberWith 8 = .ok (.istore_n 2, 1) := by decide +kernel
theorem dX4_leastNumberWith_9 : decode cX4_leastNumberWith 9 = .ok (.iconst 0, 1) := by decide +kernel
theorem dX4_leastNumberWith_10 : decode cX4_leastNumberWith 10 = .ok (.istore_n 3, 1) := by decide +kernel
theorem dX4_leastNumberWith_11 : decode cX4_leastNumberWith 11 = .ok (.iload_n 3, 1) := by decide +kernel
theorem dX4_leastNumberWith_12 : decode cX4_leastNumberWith 12 = .ok (.aload_n 0, 1) := by decide +kernel
theorem dX4_leastNumberWith_13 : decode cX4_leastNumberWith 13 = .ok (.getfield 24, 3) := by decide +kernel
theorem dX4_leastNumberWith_16 : decode cX4_leastNumberWith 16 = .ok (.if_icmp .ge 50, 3) := by decide +kernel
theorem dX4_leastNumberWith_19 : decode cX4_leastNumberWith 19 = .ok (.aload_n 0, 1) := by decide +kernel
theorem dX4_leastNumberWith_20 : decode cX4_leastNumberWith 20 = .ok (.getfield 20, 3) := by decide +kernel
theorem dX4_leastNumberWith_23 : decode cX4_leastNumberWith 23 = .ok (.iload_n 3, 1) := by decide +kernel
theorem dX4_leastNumberWith_24 : decode cX4_leastNumberWith 24 = .ok (.aaload, 1) := by decide +kernel
theorem dX4_leastNumberWith_25 : decode cX4_leastNumberWith 25 = .ok (.getfield 67, 3) := by decide +kernel
theorem dX4_leastNumberWith_28 : decode cX4_leastNumberWith 28 = .ok (.iload_n 1, 1) := by decide +kernel
theorem dX4_leastNumberWith_29 : decode cX4_leastNumberWith 29 = .ok (.if_icmp .ne 31, 3) := by decide +kernel
theorem dX4_leastNumberWith_32 : decode cX4_leastNumberWith 32 = .ok (.iload_n 2, 1) := by decide +kernel
theorem dX4_leastNumberWith_33 : decode cX4_leastNumberWith 33 = .ok (.iconst (-1), 1) := by decide +kernel
theorem dX4_leastNumberWith_34 : decode cX4_leastNumberWith 34 = .ok (.if_icmp .eq 16, 3) := by decide +kernel
theorem dX4_leastNumberWith_37 : decode cX4_leastNumberWith 37 = .ok (.aload_n 0, 1) := by decide +kernel
theorem dX4_leastNumberWith_38 : decode cX4_leastNumberWith 38 = .ok (.getfield 20, 3) := by decide +kernel
theorem dX4_leastNumberWith_41 : decode cX4_leastNumberWith 41 = .ok (.iload_n 3, 1) := by decide +kernel
theorem dX4_leastNumberWith_42 : decode cX4_leastNumberWith 42 = .ok (.aaload, 1) := by decide +kernel
theorem dX4_leastNumberWith_43 : decode cX4_leastNumberWith 43 = .ok (.getfield 56, 3) := by decide +kernel
theorem dX4_leastNumberWith_46 : decode cX4_leastNumberWith 46 = .ok (.iload_n 2, 1) := by decide +kernel
theorem dX4_leastNumberWith_47 : decode cX4_leastNumberWith 47 = .ok (.if_icmp .ge 13, 3) := by decide +kernel
theorem dX4_leastNumberWith_50 : decode cX4_leastNumberWith 50 = .ok (.aload_n 0, 1) := by decide +kernel
theorem dX4_leastNumberWith_51 : decode cX4_leastNumberWith 51 = .ok (.getfield 20, 3) := by decide +kernel
theorem dX4_leastNumberWith_54 : decode cX4_leastNumberWith 54 = .ok (.iload_n 3, 1) := by decide +kernel
theorem dX4_leastNumberWith_55 : decode cX4_leastNumberWith 55 = .ok (.aaload, 1) := by decide +kernel
theorem dX4_leastNumberWith_56 : decode cX4_leastNumberWith 56 = .ok (.getfield 56, 3) := by decide +kernel
theorem dX4_leastNumberWith_59 : decode cX4_leastNumberWith 59 = .ok (.istore_n 2, 1) := by decide +kernel
theorem dX4_leastNumberWith_60 : decode cX4_leastNumberWith 60 = .ok (.iinc 3 1, 3) := by decide +kernel
theorem dX4_leastNumberWith_63 : decode cX4_leastNumberWith 63 = .ok (.goto (-52), 3) := by decide +kernel
theorem dX4_leastNumberWith_66 : decode cX4_leastNumberWith 66 = .ok (.iload_n 2, 1) := by decide +kernel
theorem dX4_leastNumberWith_67 : decode cX4_leastNumberWith 67 = .ok (.ireturn, 1) := by decide +kernel
theorem dX4_speak_0 : decode cX4_speak 0 = .ok (.aload_n 3, 1) := by decide +kernel
theorem dX4_speak_1 : decode cX4_speak 1 = .ok (.invokevirtual 70, 3) := by decide +kernel
theorem dX4_speak_4 : decode cX4_speak 4 = .ok (.aload_n 0, 1) := by decide +kernel
theorem dX4_speak_5 : decode cX4_speak 5 = .ok (.aload_n 0, 1) := by decide +kernel
theorem dX4_speak_6 : decode cX4_speak 6 = .ok (.iload_n 1, 1) := by decide +kernel
theorem dX4_speak_7 : decode cX4_speak 7 = .ok (.iload_n 2, 1) := by decide +kernel
theorem dX4_speak_8 : decode cX4_speak 8 = .ok (.aload_n 3, 1) := by decide +kernel
theorem dX4_speak_9 : decode cX4_speak 9 = .ok (.invokevirtual 75, 3) := by decide +kernel
theorem dX4_speak_12 : decode cX4_speak 12 = .ok (.aload_n 3, 1) := by decide +kernel
theorem dX4_speak_13 : decode cX4_speak 13 = .ok (.invokevirtual 79, 3) := by decide +kernel
theorem dX4_speak_16 : decode cX4_speak 16 = .ok (.ireturn, 1) := by decide +kernel
theorem dX4_speakFraction_0 : decode cX4_speakFraction 0 = .ok (.aload 4, 2) := by decide +kernel
theorem dX4_speakFraction_2 : decode cX4_speakFraction 2 = .ok (.invokevirtual 70, 3) := by decide +kernel
theorem dX4_speakFraction_5 : decode cX4_speakFraction 5 = .ok (.aload_n 0, 1) := by decide +kernel
theorem dX4_speakFraction_6 : decode cX4_speakFraction 6 = .ok (.iload_n 1, 1) := by decide +kernel
theorem dX4_speakFraction_7 : decode cX4_speakFraction 7 = .ok (.iload_n 3, 1) := by decide +kernel
theorem dX4_speakFraction_8 : decode cX4_speakFraction 8 = .ok (.aload 4, 2) := by decide +kernel
theorem dX4_speakFraction_10 : decode cX4_speakFraction 10 = .ok (.invokevirtual 75, 3) := by decide +kernel
theorem dX4_speakFraction_13 : decode cX4_speakFraction 13 = .ok (.ifCond .eq 18, 3) := by decide +kernel
theorem dX4_speakFraction_16 : decode cX4_speakFraction 16 = .ok (.aload_n 0, 1) := by decide +kernel
theorem dX4_speakFraction_17 : decode cX4_speakFraction 17 = .ok (.iload_n 2, 1) := by decide +kernel
theorem dX4_speakFraction_18 : decode cX4_speakFraction 18 = .ok (.iconst 3, 1) := by decide +kernel
theorem dX4_speakFraction_19 : decode cX4_speakFraction 19 = .ok (.aload 4, 2) := by decide +kernel
theorem dX4_speakFraction_21 : decode cX4_speakFraction 21 = .ok (.invokevirtual 75, 3) := by decide +kernel
theorem dX4_speakFraction_24 : decode cX4_speakFraction 24 = .ok (.ifCond .eq 7, 3) := by decide +kernel
theorem dX4_speakFraction_27 : decode cX4_speakFraction 27 = .ok (.iconst 1, 1) := by decide +kernel
theorem dX4_speakFraction_28 : decode cX4_speakFraction 28 = .ok (.goto 4, 3) := by decide +kernel
theorem dX4_speakFraction_31 : decode cX4_speakFraction 31 = .ok (.iconst 0, 1) := by decide +kernel
theorem dX4_speakFraction_32 : decode cX4_speakFraction 32 = .ok (.istore 5, 2) := by decide +kernel
theorem dX4_speakFraction_34 : decode cX4_speakFraction 34 = .ok (.aload_n 0, 1) := by decide +kernel
theorem dX4_speakFraction_35 : decode cX4_speakFraction 35 = .ok (.iload 5, 2) := by decide +kernel
theorem dX4_speakFraction_37 : decode cX4_speakFraction 37 = .ok (.aload 4, 2) := by decide +kernel
theorem dX4_speakFraction_39 : decode cX4_speakFraction 39 = .ok (.invokevirtual 79, 3) := by decide +kernel
theorem dX4_speakFraction_42 : decode cX4_speakFraction 42 = .ok (.ireturn, 1) := by decide +kernel
theorem dX4_endSaying_0 : decode cX4_endSaying 0 = .ok (.iload_n 1, 1) := by decide +kernel
theorem dX4_endSaying_1 : decode cX4_endSaying 1 = .ok (.ifCond .ne 9, 3) := by decide +kernel
theorem dX4_endSaying_4 : decode cX4_endSaying 4 = .ok (.aload_n 2, 1) := by decide +kernel
theorem dX4_endSaying_5 : decode cX4_endSaying 5 = .ok (.invokevirtual 70, 3) := by decide +kernel
theorem dX4_endSaying_8 : decode cX4_endSaying 8 = .ok (.iconst 0, 1) := by decide +kernel
theorem dX4_endSaying_9 : decode cX4_endSaying 9 = .ok (.ireturn, 1) := by decide +kernel
theorem dX4_endSaying_10 : decode cX4_endSaying 10 = .ok (.iconst 0, 1) := by decide +kernel
theorem dX4_endSaying_11 : decode cX4_endSaying 11 = .ok (.istore_n 3, 1) := by decide +kernel
theorem dX4_endSaying_12 : decode cX4_endSaying 12 = .ok (.iload_n 3, 1) := by decide +kernel
theorem dX4_endSaying_13 : decode cX4_endSaying 13 = .ok (.aload_n 0, 1) := by decide +kernel
theorem dX4_endSaying_14 : decode cX4_endSaying 14 = .ok (.getfield 48, 3) := by decide +kernel
theorem dX4_endSaying_17 : decode cX4_endSaying 17 = .ok (.if_icmp .ge 31, 3) := by decide +kernel
theorem dX4_endSaying_20 : decode cX4_endSaying 20 = .ok (.aload_n 2, 1) := by decide +kernel
theorem dX4_endSaying_21 : decode cX4_endSaying 21 = .ok (.aload_n 0, 1) := by decide +kernel
theorem dX4_endSaying_22 : decode cX4_endSaying 22 = .ok (.getfield 38, 3) := by decide +kernel
theorem dX4_endSaying_25 : decode cX4_endSaying 25 = .ok (.iload_n 3, 1) := by decide +kernel
theorem dX4_endSaying_26 : decode cX4_endSaying 26 = .ok (.iaload, 1) := by decide +kernel
theorem dX4_endSaying_27 : decode cX4_endSaying 27 = .ok (.aload_n 0, 1) := by decide +kernel
theorem dX4_endSaying_28 : decode cX4_endSaying 28 = .ok (.getfield 42, 3) := by decide +kernel
theorem dX4_endSaying_31 : decode cX4_endSaying 31 = .ok (.iload_n 3, 1) := by decide +kernel
theorem dX4_endSaying_32 : decode cX4_endSaying 32 = .ok (.iaload, 1) := by decide +kernel
theorem dX4_endSaying_33 : decode cX4_endSaying 33 = .ok (.aload_n 0, 1) := by decide +kernel
theorem dX4_endSaying_34 : decode cX4_endSaying 34 = .ok (.getfield 45, 3) := by decide +kernel
theorem dX4_endSaying_37 : decode cX4_endSaying 37 = .ok (.iload_n 3, 1) := by decide +kernel
theorem dX4_endSaying_38 : decode cX4_endSaying 38 = .ok (.iaload, 1) := by decide +kernel
theorem dX4_endSaying_39 : decode cX4_endSaying 39 = .ok (.invokevirtual 83, 3) := by decide +kernel
theorem dX4_endSaying_42 : decode cX4_endSaying 42 = .ok (.iinc 3 1, 3) := by decide +kernel
theorem dX4_endSaying_45 : decode cX4_endSaying 45 = .ok (.goto (-33), 3) := by decide +kernel
theorem dX4_endSaying_48 : decode cX4_endSaying 48 = .ok (.iconst 1, 1) := by decide +kernel
theorem dX4_endSaying_49 : decode cX4_endSaying 49 = .ok (.ireturn, 1) := by decide +kernel
theorem dX4_addNameFor_0 : decode cX4_addNameFor 0 = .ok (.aload_n 0, 1) := by decide +kernel
theorem dX4_addNameFor_1 : decode cX4_addNameFor 1 = .ok (.iload_n 1, 1) := by decide +kernel
theorem dX4_addNameFor_2 : decode cX4_addNameFor 2 = .ok (.aload_n 3, 1) := by decide +kernel
theorem dX4_addNameFor_3 : decode cX4_addNameFor 3 = .ok (.iconst 0, 1) := by decide +kernel
theorem dX4_addNameFor_4 : decode cX4_addNameFor 4 = .ok (.invokevirtual 87, 3) := by decide +kernel
theorem dX4_addNameFor_7 : decode cX4_addNameFor 7 = .ok (.ifCond .ne 5, 3) := by decide +kernel
theorem dX4_addNameFor_10 : decode cX4_addNameFor 10 = .ok (.iconst 0, 1) := by decide +kernel
theorem dX4_addNameFor_11 : decode cX4_addNameFor 11 = .ok (.ireturn, 1) := by decide +kernel
theorem dX4_addNameFor_12 : decode cX4_addNameFor 12 = .ok (.aload_n 0, 1) := by decide +kernel
theorem dX4_addNameFor_13 : decode cX4_addNameFor 13 = .ok (.getfield 31, 3) := by decide +kernel
theorem dX4_addNameFor_16 : decode cX4_addNameFor 16 = .ok (.aload_n 3, 1) := by decide +kernel
theorem dX4_addNameFor_17 : decode cX4_addNameFor 17 = .ok (.invokevirtual 91, 3) := by decide +kernel
theorem dX4_addNameFor_20 : decode cX4_addNameFor 20 = .ok (.iload_n 2, 1) := by decide +kernel
theorem dX4_addNameFor_21 : decode cX4_addNameFor 21 = .ok (.invokevirtual 95, 3) := by decide +kernel
theorem dX4_addNameFor_24 : decode cX4_addNameFor 24 = .ok (.istore 4, 2) := by decide +kernel
theorem dX4_addNameFor_26 : decode cX4_addNameFor 26 = .ok (.iload 4, 2) := by decide +kernel
theorem dX4_addNameFor_28 : decode cX4_addNameFor 28 = .ok (.iconst (-1), 1) := by decide +kernel
theorem dX4_addNameFor_29 : decode cX4_addNameFor 29 = .ok (.if_icmp .eq 11, 3) := by decide +kernel
theorem dX4_addNameFor_32 : decode cX4_addNameFor 32 = .ok (.aload_n 3, 1) := by decide +kernel
theorem dX4_addNameFor_33 : decode cX4_addNameFor 33 = .ok (.iload 4, 2) := by decide +kernel
theorem dX4_addNameFor_35 : decode cX4_addNameFor 35 = .ok (.invokevirtual 99, 3) := by decide +kernel
theorem dX4_addNameFor_38 : decode cX4_addNameFor 38 = .ok (.iconst 1, 1) := by decide +kernel
theorem dX4_addNameFor_39 : decode cX4_addNameFor 39 = .ok (.ireturn, 1) := by decide +kernel
theorem dX4_addNameFor_40 : decode cX4_addNameFor 40 = .ok (.iload_n 2, 1) := by decide +kernel
theorem dX4_addNameFor_41 : decode cX4_addNameFor 41 = .ok (.iconst 3, 1) := by decide +kernel
theorem dX4_addNameFor_42 : decode cX4_addNameFor 42 = .ok (.if_icmp .ne 14, 3) := by decide +kernel
theorem dX4_addNameFor_45 : decode cX4_addNameFor 45 = .ok (.aload_n 0, 1) := by decide +kernel
theorem dX4_addNameFor_46 : decode cX4_addNameFor 46 = .ok (.getfield 35, 3) := by decide +kernel
theorem dX4_addNameFor_49 : decode cX4_addNameFor 49 = .ok (.aload_n 3, 1) := by decide +kernel
theorem dX4_addNameFor_50 : decode cX4_addNameFor 50 = .ok (.invokestatic 103, 3) := by decide +kernel
theorem dX4_addNameFor_53 : decode cX4_addNameFor 53 = .ok (.ifCond .eq 7, 3) := by decide +kernel
theorem dX4_addNameFor_56 : decode cX4_addNameFor 56 = .ok (.iconst 1, 1) := by decide +kernel
theorem dX4_addNameFor_57 : decode cX4_addNameFor 57 = .ok (.goto 4, 3) := by decide +kernel
theorem dX4_addNameFor_60 : decode cX4_addNameFor 60 = .ok (.iconst 0, 1) := by decide +kernel
theorem dX4_addNameFor_61 : decode cX4_addNameFor 61 = .ok (.ireturn, 1) := by decide +kernel
theorem dX4_addUnlessNone_0 : decode cX4_addUnlessNone 0 = .ok (.iload_n 0, 1) := by decide +kernel
theorem dX4_addUnlessNone_1 : decode cX4_addUnlessNone 1 = .ok (.iconst (-1), 1) := by decide +kernel
theorem dX4_addUnlessNone_2 : decode cX4_addUnlessNone 2 = .ok (.if_icmp .eq 11, 3) := by decide +kernel
theorem dX4_addUnlessNone_5 : decode cX4_addUnlessNone 5 = .ok (.aload_n 1, 1) := by decide +kernel
theorem dX4_addUnlessNone_6 : decode cX4_addUnlessNone 6 = .ok (.iload_n 0, 1) := by decide +kernel
theorem dX4_addUnlessNone_7 : decode cX4_addUnlessNone 7 = .ok (.invokevirtual 107, 3) := by decide +kernel
theorem dX4_addUnlessNone_10 : decode cX4_addUnlessNone 10 = .ok (.ifCond .eq 7, 3) := by decide +kernel
theorem dX4_addUnlessNone_13 : decode cX4_addUnlessNone 13 = .ok (.iconst 1, 1) := by decide +kernel
theorem dX4_addUnlessNone_14 : decode cX4_addUnlessNone 14 = .ok (.goto 4, 3) := by decide +kernel
theorem dX4_addUnlessNone_17 : decode cX4_addUnlessNone 17 = .ok (.iconst 0, 1) := by decide +kernel
theorem dX4_addUnlessNone_18 : decode cX4_addUnlessNone 18 = .ok (.ireturn, 1) := by decide +kernel
theorem dX4_addName_0 : decode cX4_addName 0 = .ok (.iload_n 3, 1) := by decide +kernel
theorem dX4_addName_1 : decode cX4_addName 1 = .ok (.bipush 40, 2) := by decide +kernel
theorem dX4_addName_3 : decode cX4_addName 3 = .ok (.if_icmp .le 5, 3) := by decide +kernel
theorem dX4_addName_6 : decode cX4_addName 6 = .ok (.iconst 0, 1) := by decide +kernel
theorem dX4_addName_7 : decode cX4_addName 7 = .ok (.ireturn, 1) := by decide +kernel
theorem dX4_addName_8 : decode cX4_addName 8 = .ok (.aload_n 0, 1) := by decide +kernel
theorem dX4_addName_9 : decode cX4_addName 9 = .ok (.getfield 12, 3) := by decide +kernel
theorem dX4_addName_12 : decode cX4_addName 12 = .ok (.iload_n 1, 1) := by decide +kernel
theorem dX4_addName_13 : decode cX4_addName 13 = .ok (.invokevirtual 111, 3) := by decide +kernel
theorem dX4_addName_16 : decode cX4_addName 16 = .ok (.istore 4, 2) := by decide +kernel
theorem dX4_addName_18 : decode cX4_addName 18 = .ok (.iload 4, 2) := by decide +kernel
theorem dX4_addName_20 : decode cX4_addName 20 = .ok (.iconst (-1), 1) := by decide +kernel
theorem dX4_addName_21 : decode cX4_addName 21 = .ok (.if_icmp .eq 10, 3) := by decide +kernel
theorem dX4_addName_24 : decode cX4_addName 24 = .ok (.aload_n 2, 1) := by decide +kernel
theorem dX4_addName_25 : decode cX4_addName 25 = .ok (.iload 4, 2) := by decide +kernel
theorem dX4_addName_27 : decode cX4_addName 27 = .ok (.invokevirtual 107, 3) := by decide +kernel
theorem dX4_addName_30 : decode cX4_addName 30 = .ok (.ireturn, 1) := by decide +kernel
theorem dX4_addName_31 : decode cX4_addName 31 = .ok (.aload_n 0, 1) := by decide +kernel
theorem dX4_addName_32 : decode cX4_addName 32 = .ok (.iload_n 1, 1) := by decide +kernel
theorem dX4_addName_33 : decode cX4_addName 33 = .ok (.invokevirtual 114, 3) := by decide +kernel
theorem dX4_addName_36 : decode cX4_addName 36 = .ok (.astore 5, 2) := by decide +kernel
theorem dX4_addName_38 : decode cX4_addName 38 = .ok (.aload 5, 2) := by decide +kernel
theorem dX4_addName_40 : decode cX4_addName 40 = .ok (.ifnull 12, 3) := by decide +kernel
theorem dX4_addName_43 : decode cX4_addName 43 = .ok (.aload 5, 2) := by decide +kernel
theorem dX4_addName_45 : decode cX4_addName 45 = .ok (.getfield 56, 3) := by decide +kernel
theorem dX4_addName_48 : decode cX4_addName 48 = .ok (.iconst 2, 1) := by decide +kernel
theorem dX4_addName_49 : decode cX4_addName 49 = .ok (.if_icmp .ge 5, 3) := by decide +kernel
theorem dX4_addName_52 : decode cX4_addName 52 = .ok (.iconst 0, 1) := by decide +kernel
theorem dX4_addName_53 : decode cX4_addName 53 = .ok (.ireturn, 1) := by decide +kernel
theorem dX4_addName_54 : decode cX4_addName 54 = .ok (.iload_n 1, 1) := by decide +kernel
theorem dX4_addName_55 : decode cX4_addName 55 = .ok (.aload 5, 2) := by decide +kernel
theorem dX4_addName_57 : decode cX4_addName 57 = .ok (.getfield 56, 3) := by decide +kernel
theorem dX4_addName_60 : decode cX4_addName 60 = .ok (.idiv, 1) := by decide +kernel
theorem dX4_addName_61 : decode cX4_addName 61 = .ok (.istore 6, 2) := by decide +kernel
theorem dX4_addName_63 : decode cX4_addName 63 = .ok (.iload_n 1, 1) := by decide +kernel
theorem dX4_addName_64 : decode cX4_addName 64 = .ok (.aload 5, 2) := by decide +kernel
theorem dX4_addName_66 : decode cX4_addName 66 = .ok (.getfield 56, 3) := by decide +kernel
theorem dX4_addName_69 : decode cX4_addName 69 = .ok (.irem, 1) := by decide +kernel
theorem dX4_addName_70 : decode cX4_addName 70 = .ok (.istore 7, 2) := by decide +kernel
theorem dX4_addName_72 : decode cX4_addName 72 = .ok (.iload 7, 2) := by decide +kernel
theorem dX4_addName_74 : decode cX4_addName 74 = .ok (.ifCond .ne 14, 3) := by decide +kernel
theorem dX4_addName_77 : decode cX4_addName 77 = .ok (.aload_n 0, 1) := by decide +kernel
theorem dX4_addName_78 : decode cX4_addName 78 = .ok (.aload 5, 2) := by decide +kernel
theorem dX4_addName_80 : decode cX4_addName 80 = .ok (.iload 6, 2) := by decide +kernel
theorem dX4_addName_82 : decode cX4_addName 82 = .ok (.aload_n 2, 1) := by decide +kernel
theorem dX4_addName_83 : decode cX4_addName 83 = .ok (.iload_n 3, 1) := by decide +kernel
theorem dX4_addName_84 : decode cX4_addName 84 = .ok (.invokevirtual 118, 3) := by decide +kernel
theorem dX4_addName_87 : decode cX4_addName 87 = .ok (.ireturn, 1) := by decide +kernel
theorem dX4_addName_88 : decode cX4_addName 88 = .ok (.aload 5, 2) := by decide +kernel
theorem dX4_addName_90 : decode cX4_addName 90 = .ok (.getfield 56, 3) := by decide +kernel
theorem dX4_addName_93 : decode cX4_addName 93 = .ok (.iload 7, 2) := by decide +kernel
theorem dX4_addName_95 : decode cX4_addName 95 = .ok (.isub, 1) := by decide +kernel
theorem dX4_addName_96 : decode cX4_addName 96 = .ok (.istore 8, 2) := by decide +kernel
theorem dX4_addName_98 : decode cX4_addName 98 = .ok (.iload 8, 2) := by decide +kernel
theorem dX4_addName_100 : decode cX4_addName 100 = .ok (.aload 5, 2) := by decide +kernel
theorem dX4_addName_102 : decode cX4_addName 102 = .ok (.getfield 122, 3) := by decide +kernel
theorem dX4_addName_105 : decode cX4_addName 105 = .ok (.if_icmp .gt 49, 3) := by decide +kernel
theorem dX4_addName_108 : decode cX4_addName 108 = .ok (.aload_n 0, 1) := by decide +kernel
theorem dX4_addName_109 : decode cX4_addName 109 = .ok (.iload 8, 2) := by decide +kernel
theorem dX4_addName_111 : decode cX4_addName 111 = .ok (.aload_n 2, 1) := by decide +kernel
theorem dX4_addName_112 : decode cX4_addName 112 = .ok (.iload_n 3, 1) := by decide +kernel
theorem dX4_addName_113 : decode cX4_addName 113 = .ok (.iconst 1, 1) := by decide +kernel
theorem dX4_addName_114 : decode cX4_addName 114 = .ok (.iadd, 1) := by decide +kernel
theorem dX4_addName_115 : decode cX4_addName 115 = .ok (.invokevirtual 87, 3) := by decide +kernel
theorem dX4_addName_118 : decode cX4_addName 118 = .ok (.ifCond .eq 34, 3) := by decide +kernel
theorem dX4_addName_121 : decode cX4_addName 121 = .ok (.aload_n 2, 1) := by decide +kernel
theorem dX4_addName_122 : decode cX4_addName 122 = .ok (.aload 5, 2) := by decide +kernel
theorem dX4_addName_124 : decode cX4_addName 124 = .ok (.getfield 125, 3) := by decide +kernel
theorem dX4_addName_127 : decode cX4_addName 127 = .ok (.invokevirtual 107, 3) := by decide +kernel
theorem dX4_addName_130 : decode cX4_addName 130 = .ok (.ifCond .eq 22, 3) := by decide +kernel
theorem dX4_addName_133 : decode cX4_addName 133 = .ok (.aload_n 0, 1) := by decide +kernel
theorem dX4_addName_134 : decode cX4_addName 134 = .ok (.aload 5, 2) := by decide +kernel
theorem dX4_addName_136 : decode cX4_addName 136 = .ok (.iload 6, 2) := by decide +kernel
theorem dX4_addName_138 : decode cX4_addName 138 = .ok (.iconst 1, 1) := by decide +kernel
theorem dX4_addName_139 : decode cX4_addName 139 = .ok (.iadd, 1) := by decide +kernel
theorem dX4_addName_140 : decode cX4_addName 140 = .ok (.aload_n 2, 1) := by decide +kernel
theorem dX4_addName_141 : decode cX4_addName 141 = .ok (.iload_n 3, 1) := by decide +kernel
theorem dX4_addName_142 : decode cX4_addName 142 = .ok (.invokevirtual 118, 3) := by decide +kernel
theorem dX4_addName_145 : decode cX4_addName 145 = .ok (.ifCond .eq 7, 3) := by decide +kernel
theorem dX4_addName_148 : decode cX4_addName 148 = .ok (.iconst 1, 1) := by decide +kernel
theorem dX4_addName_149 : decode cX4_addName 149 = .ok (.goto 4, 3) := by decide +kernel
theorem dX4_addName_152 : decode cX4_addName 152 = .ok (.iconst 0, 1) := by decide +kernel
theorem dX4_addName_153 : decode cX4_addName 153 = .ok (.ireturn, 1) := by decide +kernel
theorem dX4_addName_154 : decode cX4_addName 154 = .ok (.aload 5, 2) := by decide +kernel
theorem dX4_addName_156 : decode cX4_addName 156 = .ok (.bipush 8, 2) := by decide +kernel
theorem dX4_addName_158 : decode cX4_addName 158 = .ok (.invokevirtual 128, 3) := by decide +kernel
theorem dX4_addName_161 : decode cX4_addName 161 = .ok (.ifCond .ne 12, 3) := by decide +kernel
theorem dX4_addName_164 : decode cX4_addName 164 = .ok (.aload 5, 2) := by decide +kernel
theorem dX4_addName_166 : decode cX4_addName 166 = .ok (.iconst 4, 1) := by decide +kernel
theorem dX4_addName_167 : decode cX4_addName 167 = .ok (.invokevirtual 128, 3) := by decide +kernel
theorem dX4_addName_170 : decode cX4_addName 170 = .ok (.ifCond .eq 64, 3) := by decide +kernel
theorem dX4_addName_173 : decode cX4_addName 173 = .ok (.aload_n 0, 1) := by decide +kernel
theorem dX4_addName_174 : decode cX4_addName 174 = .ok (.iload 7, 2) := by decide +kernel
theorem dX4_addName_176 : decode cX4_addName 176 = .ok (.aload_n 2, 1) := by decide +kernel
theorem dX4_addName_177 : decode cX4_addName 177 = .ok (.iload_n 3, 1) := by decide +kernel
theorem dX4_addName_178 : decode cX4_addName 178 = .ok (.iconst 1, 1) := by decide +kernel
theorem dX4_addName_179 : decode cX4_addName 179 = .ok (.iadd, 1) := by decide +kernel
theorem dX4_addName_180 : decode cX4_addName 180 = .ok (.invokevirtual 87, 3) := by decide +kernel
theorem dX4_addName_183 : decode cX4_addName 183 = .ok (.ifCond .eq 49, 3) := by decide +kernel
theorem dX4_addName_186 : decode cX4_addName 186 = .ok (.aload 5, 2) := by decide +kernel
theorem dX4_addName_188 : decode cX4_addName 188 = .ok (.getfield 131, 3) := by decide +kernel
theorem dX4_addName_191 : decode cX4_addName 191 = .ok (.aload_n 2, 1) := by decide +kernel
theorem dX4_addName_192 : decode cX4_addName 192 = .ok (.invokestatic 103, 3) := by decide +kernel
theorem dX4_addName_195 : decode cX4_addName 195 = .ok (.ifCond .eq 37, 3) := by decide +kernel
theorem dX4_addName_198 : decode cX4_addName 198 = .ok (.aload_n 0, 1) := by decide +kernel
theorem dX4_addName_199 : decode cX4_addName 199 = .ok (.aload 5, 2) := by decide +kernel
theorem dX4_addName_201 : decode cX4_addName 201 = .ok (.aload 5, 2) := by decide +kernel
theorem dX4_addName_203 : decode cX4_addName 203 = .ok (.bipush 8, 2) := by decide +kernel
theorem dX4_addName_205 : decode cX4_addName 205 = .ok (.invokevirtual 128, 3) := by decide +kernel
theorem dX4_addName_208 : decode cX4_addName 208 = .ok (.ifCond .eq 10, 3) := by decide +kernel
theorem dX4_addName_211 : decode cX4_addName 211 = .ok (.iload 6, 2) := by decide +kernel
theorem dX4_addName_213 : decode cX4_addName 213 = .ok (.iconst 1, 1) := by decide +kernel
theorem dX4_addName_214 : decode cX4_addName 214 = .ok (.iadd, 1) := by decide +kernel
theorem dX4_addName_215 : decode cX4_addName 215 = .ok (.goto 5, 3) := by decide +kernel
theorem dX4_addName_218 : decode cX4_addName 218 = .ok (.iload 6, 2) := by decide +kernel
theorem dX4_addName_220 : decode cX4_addName 220 = .ok (.aload_n 2, 1) := by decide +kernel
theorem dX4_addName_221 : decode cX4_addName 221 = .ok (.iload_n 3, 1) := by decide +kernel
theorem dX4_addName_222 : decode cX4_addName 222 = .ok (.invokevirtual 118, 3) := by decide +kernel
theorem dX4_addName_225 : decode cX4_addName 225 = .ok (.ifCond .eq 7, 3) := by decide +kernel
theorem dX4_addName_228 : decode cX4_addName 228 = .ok (.iconst 1, 1) := by decide +kernel
theorem dX4_addName_229 : decode cX4_addName 229 = .ok (.goto 4, 3) := by decide +kernel
theorem dX4_addName_232 : decode cX4_addName 232 = .ok (.iconst 0, 1) := by decide +kernel
theorem dX4_addName_233 : decode cX4_addName 233 = .ok (.ireturn, 1) := by decide +kernel
theorem dX4_addName_234 : decode cX4_addName 234 = .ok (.aload_n 0, 1) := by decide +kernel
theorem dX4_addName_235 : decode cX4_addName 235 = .ok (.aload 5, 2) := by decide +kernel
theorem dX4_addName_237 : decode cX4_addName 237 = .ok (.iload 6, 2) := by decide +kernel
theorem dX4_addName_239 : decode cX4_addName 239 = .ok (.aload_n 2, 1) := by decide +kernel
theorem dX4_addName_240 : decode cX4_addName 240 = .ok (.iload_n 3, 1) := by decide +kernel
theorem dX4_addName_241 : decode cX4_addName 241 = .ok (.invokevirtual 118, 3) := by decide +kernel
theorem dX4_addName_244 : decode cX4_addName 244 = .ok (.ifCond .eq 32, 3) := by decide +kernel
theorem dX4_addName_247 : decode cX4_addName 247 = .ok (.aload 5, 2) := by decide +kernel
theorem dX4_addName_249 : decode cX4_addName 249 = .ok (.getfield 131, 3) := by decide +kernel
theorem dX4_addName_252 : decode cX4_addName 252 = .ok (.aload_n 2, 1) := by decide +kernel
theorem dX4_addName_253 : decode cX4_addName 253 = .ok (.invokestatic 103, 3) := by decide +kernel
theorem dX4_addName_256 : decode cX4_addName 256 = .ok (.ifCond .eq 20, 3) := by decide +kernel
theorem dX4_addName_259 : decode cX4_addName 259 = .ok (.aload_n 0, 1) := by decide +kernel
theorem dX4_addName_260 : decode cX4_addName 260 = .ok (.iload 7, 2) := by decide +kernel
theorem dX4_addName_262 : decode cX4_addName 262 = .ok (.aload_n 2, 1) := by decide +kernel
theorem dX4_addName_263 : decode cX4_addName 263 = .ok (.iload_n 3, 1) := by decide +kernel
theorem dX4_addName_264 : decode cX4_addName 264 = .ok (.iconst 1, 1) := by decide +kernel
theorem dX4_addName_265 : decode cX4_addName 265 = .ok (.iadd, 1) := by decide +kernel
theorem dX4_addName_266 : decode cX4_addName 266 = .ok (.invokevirtual 87, 3) := by decide +kernel
theorem dX4_addName_269 : decode cX4_addName 269 = .ok (.ifCond .eq 7, 3) := by decide +kernel
theorem dX4_addName_272 : decode cX4_addName 272 = .ok (.iconst 1, 1) := by decide +kernel
theorem dX4_addName_273 : decode cX4_addName 273 = .ok (.goto 4, 3) := by decide +kernel
theorem dX4_addName_276 : decode cX4_addName 276 = .ok (.iconst 0, 1) := by decide +kernel
theorem dX4_addName_277 : decode cX4_addName 277 = .ok (.ireturn, 1) := by decide +kernel
theorem dX4_addProduct_0 : decode cX4_addProduct 0 = .ok (.iload_n 2, 1) := by decide +kernel
theorem dX4_addProduct_1 : decode cX4_addProduct 1 = .ok (.aload_n 1, 1) := by decide +kernel
theorem dX4_addProduct_2 : decode cX4_addProduct 2 = .ok (.getfield 134, 3) := by decide +kernel
theorem dX4_addProduct_5 : decode cX4_addProduct 5 = .ok (.if_icmp .le 5, 3) := by decide +kernel
theorem dX4_addProduct_8 : decode cX4_addProduct 8 = .ok (.iconst 0, 1) := by decide +kernel
theorem dX4_addProduct_9 : decode cX4_addProduct 9 = .ok (.ireturn, 1) := by decide +kernel
theorem dX4_addProduct_10 : decode cX4_addProduct 10 = .ok (.iload_n 2, 1) := by decide +kernel
theorem dX4_addProduct_11 : decode cX4_addProduct 11 = .ok (.iconst 1, 1) := by decide +kernel
theorem dX4_addProduct_12 : decode cX4_addProduct 12 = .ok (.if_icmp .ne 20, 3) := by decide +kernel
theorem dX4_addProduct_15 : decode cX4_addProduct 15 = .ok (.aload_n 1, 1) := by decide +kernel
theorem dX4_addProduct_16 : decode cX4_addProduct 16 = .ok (.iconst 1, 1) := by decide +kernel
theorem dX4_addProduct_17 : decode cX4_addProduct 17 = .ok (.invokevirtual 128, 3) := by decide +kernel
theorem dX4_addProduct_20 : decode cX4_addProduct 20 = .ok (.ifCond .ne 12, 3) := by decide +kernel
theorem dX4_addProduct_23 : decode cX4_addProduct 23 = .ok (.aload_n 3, 1) := by decide +kernel
theorem dX4_addProduct_24 : decode cX4_addProduct 24 = .ok (.aload_n 1, 1) := by decide +kernel
theorem dX4_addProduct_25 : decode cX4_addProduct 25 = .ok (.getfield 67, 3) := by decide +kernel
theorem dX4_addProduct_28 : decode cX4_addProduct 28 = .ok (.invokevirtual 107, 3) := by decide +kernel
theorem dX4_addProduct_31 : decode cX4_addProduct 31 = .ok (.ireturn, 1) := by decide +kernel
theorem dX4_addProduct_32 : decode cX4_addProduct 32 = .ok (.aload_n 1, 1) := by decide +kernel
theorem dX4_addProduct_33 : decode cX4_addProduct 33 = .ok (.iconst 2, 1) := by decide +kernel
theorem dX4_addProduct_34 : decode cX4_addProduct 34 = .ok (.invokevirtual 128, 3) := by decide +kernel
theorem dX4_addProduct_37 : decode cX4_addProduct 37 = .ok (.ifCond .eq 33, 3) := by decide +kernel
theorem dX4_addProduct_40 : decode cX4_addProduct 40 = .ok (.aload_n 3, 1) := by decide +kernel
theorem dX4_addProduct_41 : decode cX4_addProduct 41 = .ok (.aload_n 1, 1) := by decide +kernel
theorem dX4_addProduct_42 : decode cX4_addProduct 42 = .ok (.getfield 67, 3) := by decide +kernel
theorem dX4_addProduct_45 : decode cX4_addProduct 45 = .ok (.invokevirtual 107, 3) := by decide +kernel
theorem dX4_addProduct_48 : decode cX4_addProduct 48 = .ok (.ifCond .eq 20, 3) := by decide +kernel
theorem dX4_addProduct_51 : decode cX4_addProduct 51 = .ok (.aload_n 0, 1) := by decide +kernel
theorem dX4_addProduct_52 : decode cX4_addProduct 52 = .ok (.iload_n 2, 1) := by decide +kernel
theorem dX4_addProduct_53 : decode cX4_addProduct 53 = .ok (.aload_n 3, 1) := by decide +kernel
theorem dX4_addProduct_54 : decode cX4_addProduct 54 = .ok (.iload 4, 2) := by decide +kernel
theorem dX4_addProduct_56 : decode cX4_addProduct 56 = .ok (.iconst 1, 1) := by decide +kernel
theorem dX4_addProduct_57 : decode cX4_addProduct 57 = .ok (.iadd, 1) := by decide +kernel
theorem dX4_addProduct_58 : decode cX4_addProduct 58 = .ok (.invokevirtual 87, 3) := by decide +kernel
theorem dX4_addProduct_61 : decode cX4_addProduct 61 = .ok (.ifCond .eq 7, 3) := by decide +kernel
theorem dX4_addProduct_64 : decode cX4_addProduct 64 = .ok (.iconst 1, 1) := by decide +kernel
theorem dX4_addProduct_65 : decode cX4_addProduct 65 = .ok (.goto 4, 3) := by decide +kernel
theorem dX4_addProduct_68 : decode cX4_addProduct 68 = .ok (.iconst 0, 1) := by decide +kernel
theorem dX4_addProduct_69 : decode cX4_addProduct 69 = .ok (.ireturn, 1) := by decide +kernel
theorem dX4_addProduct_70 : decode cX4_addProduct 70 = .ok (.aload_n 0, 1) := by decide +kernel
theorem dX4_addProduct_71 : decode cX4_addProduct 71 = .ok (.iload_n 2, 1) := by decide +kernel
theorem dX4_addProduct_72 : decode cX4_addProduct 72 = .ok (.aload_n 3, 1) := by decide +kernel
theorem dX4_addProduct_73 : decode cX4_addProduct 73 = .ok (.iload 4, 2) := by decide +kernel
theorem dX4_addProduct_75 : decode cX4_addProduct 75 = .ok (.iconst 1, 1) := by decide +kernel
theorem dX4_addProduct_76 : decode cX4_addProduct 76 = .ok (.iadd, 1) := by decide +kernel
theorem dX4_addProduct_77 : decode cX4_addProduct 77 = .ok (.invokevirtual 87, 3) := by decide +kernel
theorem dX4_addProduct_80 : decode cX4_addProduct 80 = .ok (.ifCond .eq 18, 3) := by decide +kernel
theorem dX4_addProduct_83 : decode cX4_addProduct 83 = .ok (.aload_n 3, 1) := by decide +kernel
theorem dX4_addProduct_84 : decode cX4_addProduct 84 = .ok (.aload_n 1, 1) := by decide +kernel
theorem dX4_addProduct_85 : decode cX4_addProduct 85 = .ok (.getfield 67, 3) := by decide +kernel
theorem dX4_addProduct_88 : decode cX4_addProduct 88 = .ok (.invokevirtual 107, 3) := by decide +kernel
theorem dX4_addProduct_91 : decode cX4_addProduct 91 = .ok (.ifCond .eq 7, 3) := by decide +kernel
theorem dX4_addProduct_94 : decode cX4_addProduct 94 = .ok (.iconst 1, 1) := by decide +kernel
theorem dX4_addProduct_95 : decode cX4_addProduct 95 = .ok (.goto 4, 3) := by decide +kernel
theorem dX4_addProduct_98 : decode cX4_addProduct 98 = .ok (.iconst 0, 1) := by decide +kernel
theorem dX4_addProduct_99 : decode cX4_addProduct 99 = .ok (.ireturn, 1) := by decide +kernel
theorem dX4_greatestUpTo_0 : decode cX4_greatestUpTo 0 = .ok (.aconst_null, 1) := by decide +kernel
theorem dX4_greatestUpTo_1 : decode cX4_greatestUpTo 1 = .ok (.astore_n 2, 1) := by decide +kernel
theorem dX4_greatestUpTo_2 : decode cX4_greatestUpTo 2 = .ok (.iconst 0, 1) := by decide +kernel
theorem dX4_greatestUpTo_3 : decode cX4_greatestUpTo 3 = .ok (.istore_n 3, 1) := by decide +kernel
theorem dX4_greatestUpTo_4 : decode cX4_greatestUpTo 4 = .ok (.iload_n 3, 1) := by decide +kernel
theorem dX4_greatestUpTo_5 : decode cX4_greatestUpTo 5 = .ok (.aload_n 0, 1) := by decide +kernel
theorem dX4_greatestUpTo_6 : decode cX4_greatestUpTo 6 = .ok (.getfield 24, 3) := by decide +kernel
theorem dX4_greatestUpTo_9 : decode cX4_greatestUpTo 9 = .ok (.if_icmp .ge 45, 3) := by decide +kernel
theorem dX4_greatestUpTo_12 : decode cX4_greatestUpTo 12 = .ok (.aload_n 0, 1) := by decide +kernel
theorem dX4_greatestUpTo_13 : decode cX4_greatestUpTo 13 = .ok (.getfield 20, 3) := by decide +kernel
theorem dX4_greatestUpTo_16 : decode cX4_greatestUpTo 16 = .ok (.iload_n 3, 1) := by decide +kernel
theorem dX4_greatestUpTo_17 : decode cX4_greatestUpTo 17 = .ok (.aaload, 1) := by decide +kernel
theorem dX4_greatestUpTo_18 : decode cX4_greatestUpTo 18 = .ok (.astore 4, 2) := by decide +kernel
theorem dX4_greatestUpTo_20 : decode cX4_greatestUpTo 20 = .ok (.aload 4, 2) := by decide +kernel
theorem dX4_greatestUpTo_22 : decode cX4_greatestUpTo 22 = .ok (.getfield 56, 3) := by decide +kernel
theorem dX4_greatestUpTo_25 : decode cX4_greatestUpTo 25 = .ok (.iload_n 1, 1) := by decide +kernel
theorem dX4_greatestUpTo_26 : decode cX4_greatestUpTo 26 = .ok (.if_icmp .gt 22, 3) := by decide +kernel
theorem dX4_greatestUpTo_29 : decode cX4_greatestUpTo 29 = .ok (.aload_n 2, 1) := by decide +kernel
theorem dX4_greatestUpTo_30 : decode cX4_greatestUpTo 30 = .ok (.ifnull 15, 3) := by decide +kernel
theorem dX4_greatestUpTo_33 : decode cX4_greatestUpTo 33 = .ok (.aload 4, 2) := by decide +kernel
theorem dX4_greatestUpTo_35 : decode cX4_greatestUpTo 35 = .ok (.getfield 56, 3) := by decide +kernel
theorem dX4_greatestUpTo_38 : decode cX4_greatestUpTo 38 = .ok (.aload_n 2, 1) := by decide +kernel
theorem dX4_greatestUpTo_39 : decode cX4_greatestUpTo 39 = .ok (.getfield 56, 3) := by decide +kernel
theorem dX4_greatestUpTo_42 : decode cX4_greatestUpTo 42 = .ok (.if_icmp .le 6, 3) := by decide +kernel
theorem dX4_greatestUpTo_45 : decode cX4_greatestUpTo 45 = .ok (.aload 4, 2) := by decide +kernel
theorem dX4_greatestUpTo_47 : decode cX4_greatestUpTo 47 = .ok (.astore_n 2, 1) := by decide +kernel
theorem dX4_greatestUpTo_48 : decode cX4_greatestUpTo 48 = .ok (.iinc 3 1, 3) := by decide +kernel
theorem dX4_greatestUpTo_51 : decode cX4_greatestUpTo 51 = .ok (.goto (-47), 3) := by decide +kernel
theorem dX4_greatestUpTo_54 : decode cX4_greatestUpTo 54 = .ok (.aload_n 2, 1) := by decide +kernel
theorem dX4_greatestUpTo_55 : decode cX4_greatestUpTo 55 = .ok (.areturn, 1) := by decide +kernel
theorem dX5_init_0 : decode cX5_init 0 = .ok (.aload_n 0, 1) := by decide +kernel
theorem dX5_init_1 : decode cX5_init 1 = .ok (.invokespecial 3, 3) := by decide +kernel
theorem dX5_init_4 : decode cX5_init 4 = .ok (.aload_n 0, 1) := by decide +kernel
theorem dX5_init_5 : decode cX5_init 5 = .ok (.sipush 256, 3) := by decide +kernel
theorem dX5_init_8 : decode cX5_init 8 = .ok (.newarray .int, 2) := by decide +kernel
theorem dX5_init_10 : decode cX5_init 10 = .ok (.putfield 9, 3) := by decide +kernel
theorem dX5_init_13 : decode cX5_init 13 = .ok (.aload_n 0, 1) := by decide +kernel
theorem dX5_init_14 : decode cX5_init 14 = .ok (.sipush 1000, 3) := by decide +kernel
theorem dX5_init_17 : decode cX5_init 17 = .ok (.newarray .int, 2) := by decide +kernel
theorem dX5_init_19 : decode cX5_init 19 = .ok (.putfield 15, 3) := by decide +kernel
theorem dX5_init_22 : decode cX5_init 22 = .ok (.aload_n 0, 1) := by decide +kernel
theorem dX5_init_23 : decode cX5_init 23 = .ok (.sipush 1000, 3) := by decide +kernel
theorem dX5_init_26 : decode cX5_init 26 = .ok (.newarray .int, 2) := by decide +kernel
theorem dX5_init_28 : decode cX5_init 28 = .ok (.putfield 18, 3) := by decide +kernel
theorem dX5_init_31 : decode cX5_init 31 = .ok (.return_, 1) := by decide +kernel
theorem dX5_clear_0 : decode cX5_clear 0 = .ok (.aload_n 0, 1) := by decide +kernel
theorem dX5_clear_1 : decode cX5_clear 1 = .ok (.getfield 9, 3) := by decide +kernel
theorem dX5_clear_4 : decode cX5_clear 4 = .ok (.iconst (-1), 1) := by decide +kernel
theorem dX5_clear_5 : decode cX5_clear 5 = .ok (.invokestatic 21, 3) := by decide +kernel
theorem dX5_clear_8 : decode cX5_clear 8 = .ok (.return_, 1) := by decide +kernel
theorem dX5_put_0 : decode cX5_put 0 = .ok (.iload_n 2, 1) := by decide +kernel
theorem dX5_put_1 : decode cX5_put 1 = .ok (.sipush 255, 3) := by decide +kernel
theorem dX5_put_4 : decode cX5_put 4 = .ok (.iand, 1) := by decide +kernel
theorem dX5_put_5 : decode cX5_put 5 = .ok (.istore_n 3, 1) := by decide +kernel
theorem dX5_put_6 : decode cX5_put 6 = .ok (.iload_n 1, 1) := by decide +kernel
theorem dX5_put_7 : decode cX5_put 7 = .ok (.ifCond .lt 36, 3) := by decide +kernel
theorem dX5_put_10 : decode cX5_put 10 = .ok (.iload_n 1, 1) := by decide +kernel
theorem dX5_put_11 : decode cX5_put 11 = .ok (.sipush 999, 3) := by decide +kernel
theorem dX5_put_14 : decode cX5_put 14 = .ok (.if_icmp .gt 29, 3) := by decide +kernel
theorem dX5_put_17 : decode cX5_put 17 = .ok (.aload_n 0, 1) := by decide +kernel
theorem dX5_put_18 : decode cX5_put 18 = .ok (.getfield 18, 3) := by decide +kernel
theorem dX5_put_21 : decode cX5_put 21 = .ok (.iload_n 1, 1) := by decide +kernel
theorem dX5_put_22 : decode cX5_put 22 = .ok (.iload_n 2, 1) := by decide +kernel
theorem dX5_put_23 : decode cX5_put 23 = .ok (.iastore, 1) := by decide +kernel
theorem dX5_put_24 : decode cX5_put 24 = .ok (.aload_n 0, 1) := by decide +kernel
theorem dX5_put_25 : decode cX5_put 25 = .ok (.getfield 15, 3) := by decide +kernel
theorem dX5_put_28 : decode cX5_put 28 = .ok (.iload_n 1, 1) := by decide +kernel
theorem dX5_put_29 : decode cX5_put 29 = .ok (.aload_n 0, 1) := by decide +kernel
theorem dX5_put_30 : decode cX5_put 30 = .ok (.getfield 9, 3) := by decide +kernel
theorem dX5_put_33 : decode cX5_put 33 = .ok (.iload_n 3, 1) := by decide +kernel
theorem dX5_put_34 : decode cX5_put 34 = .ok (.iaload, 1) := by decide +kernel
theorem dX5_put_35 : decode cX5_put 35 = .ok (.iastore, 1) := by decide +kernel
theorem dX5_put_36 : decode cX5_put 36 = .ok (.aload_n 0, 1) := by decide +kernel
theorem dX5_put_37 : decode cX5_put 37 = .ok (.getfield 9, 3) := by decide +kernel
theorem dX5_put_40 : decode cX5_put 40 = .ok (.iload_n 3, 1) := by decide +kernel
theorem dX5_put_41 : decode cX5_put 41 = .ok (.iload_n 1, 1) := by decide +kernel
theorem dX5_put_42 : decode cX5_put 42 = .ok (.iastore, 1) := by decide +kernel
theorem dX5_put_43 : decode cX5_put 43 = .ok (.return_, 1) := by decide +kernel
theorem dX5_firstIn_0 : decode cX5_firstIn 0 = .ok (.aload_n 0, 1) := by decide +kernel
theorem dX5_firstIn_1 : decode cX5_firstIn 1 = .ok (.getfield 9, 3) := by decide +kernel
theorem dX5_firstIn_4 : decode cX5_firstIn 4 = .ok (.iload_n 1, 1) := by decide +kernel
theorem dX5_firstIn_5 : decode cX5_firstIn 5 = .ok (.sipush 255, 3) := by decide +kernel
theorem dX5_firstIn_8 : decode cX5_firstIn 8 = .ok (.iand, 1) := by decide +kernel
theorem dX5_firstIn_9 : decode cX5_firstIn 9 = .ok (.iaload, 1) := by decide +kernel
theorem dX5_firstIn_10 : decode cX5_firstIn 10 = .ok (.ireturn, 1) := by decide +kernel
theorem dX5_behind_0 : decode cX5_behind 0 = .ok (.iload_n 1, 1) := by decide +kernel
theorem dX5_behind_1 : decode cX5_behind 1 = .ok (.ifCond .lt 19, 3) := by decide +kernel
theorem dX5_behind_4 : decode cX5_behind 4 = .ok (.iload_n 1, 1) := by decide +kernel
theorem dX5_behind_5 : decode cX5_behind 5 = .ok (.sipush 999, 3) := by decide +kernel
theorem dX5_behind_8 : decode cX5_behind 8 = .ok (.if_icmp .gt 12, 3) := by decide +kernel
theorem dX5_behind_11 : decode cX5_behind 11 = .ok (.aload_n 0, 1) := by decide +kernel
theorem dX5_behind_12 : decode cX5_behind 12 = .ok (.getfield 15, 3) := by decide +kernel
theorem dX5_behind_15 : decode cX5_behind 15 = .ok (.iload_n 1, 1) := by decide +kernel
theorem dX5_behind_16 : decode cX5_behind 16 = .ok (.iaload, 1) := by decide +kernel
theorem dX5_behind_17 : decode cX5_behind 17 = .ok (.goto 4, 3) := by decide +kernel
theorem dX5_behind_20 : decode cX5_behind 20 = .ok (.iconst (-1), 1) := by decide +kernel
theorem dX5_behind_21 : decode cX5_behind 21 = .ok (.ireturn, 1) := by decide +kernel
theorem dX5_markOf_0 : decode cX5_markOf 0 = .ok (.iload_n 1, 1) := by decide +kernel
theorem dX5_markOf_1 : decode cX5_markOf 1 = .ok (.ifCond .lt 19, 3) := by decide +kernel
theorem dX5_markOf_4 : decode cX5_markOf 4 = .ok (.iload_n 1, 1) := by decide +kernel
theorem dX5_markOf_5 : decode cX5_markOf 5 = .ok (.sipush 999, 3) := by decide +kernel
theorem dX5_markOf_8 : decode cX5_markOf 8 = .ok (.if_icmp .gt 12, 3) := by decide +kernel
theorem dX5_markOf_11 : decode cX5_markOf 11 = .ok (.aload_n 0, 1) := by decide +kernel
theorem dX5_markOf_12 : decode cX5_markOf 12 = .ok (.getfield 18, 3) := by decide +kernel
theorem dX5_markOf_15 : decode cX5_markOf 15 = .ok (.iload_n 1, 1) := by decide +kernel
theorem dX5_markOf_16 : decode cX5_markOf 16 = .ok (.iaload, 1) := by decide +kernel
theorem dX5_markOf_17 : decode cX5_markOf 17 = .ok (.goto 4, 3) := by decide +kernel
theorem dX5_markOf_20 : decode cX5_markOf 20 = .ok (.iconst (-1), 1) := by decide +kernel
theorem dX5_markOf_21 : decode cX5_markOf 21 = .ok (.ireturn, 1) := by decide +kernel
theorem dX6_init_0 : decode cX6_init 0 = .ok (.aload_n 0, 1) := by decide +kernel
theorem dX6_init_1 : decode cX6_init 1 = .ok (.invokespecial 3, 3) := by decide +kernel
theorem dX6_init_4 : decode cX6_init 4 = .ok (.aload_n 0, 1) := by decide +kernel
theorem dX6_init_5 : decode cX6_init 5 = .ok (.bipush 20, 2) := by decide +kernel
theorem dX6_init_7 : decode cX6_init 7 = .ok (.newarray .int, 2) := by decide +kernel
theorem dX6_init_9 : decode cX6_init 9 = .ok (.putfield 9, 3) := by decide +kernel
theorem dX6_init_12 : decode cX6_init 12 = .ok (.aload_n 0, 1) := by decide +kernel
theorem dX6_init_13 : decode cX6_init 13 = .ok (.iconst 0, 1) := by decide +kernel
theorem dX6_init_14 : decode cX6_init 14 = .ok (.putfield 15, 3) := by decide +kernel
theorem dX6_init_17 : decode cX6_init 17 = .ok (.return_, 1) := by decide +kernel
theorem dX6_clear_0 : decode cX6_clear 0 = .ok (.aload_n 0, 1) := by decide +kernel
theorem dX6_clear_1 : decode cX6_clear 1 = .ok (.iconst 0, 1) := by decide +kernel
theorem dX6_clear_2 : decode cX6_clear 2 = .ok (.putfield 15, 3) := by decide +kernel
theorem dX6_clear_5 : decode cX6_clear 5 = .ok (.return_, 1) := by decide +kernel
theorem dX6_add_0 : decode cX6_add 0 = .ok (.aload_n 0, 1) := by decide +kernel
theorem dX6_add_1 : decode cX6_add 1 = .ok (.getfield 15, 3) := by decide +kernel
theorem dX6_add_4 : decode cX6_add 4 = .ok (.bipush 20, 2) := by decide +kernel
theorem dX6_add_6 : decode cX6_add 6 = .ok (.if_icmp .lt 5, 3) := by decide +kernel
theorem dX6_add_9 : decode cX6_add 9 = .ok (.iconst 0, 1) := by decide +kernel
theorem dX6_add_10 : decode cX6_add 10 = .ok (.ireturn, 1) := by decide +kernel
theorem dX6_add_11 : decode cX6_add 11 = .ok (.aload_n 0, 1) := by decide +kernel
theorem dX6_add_12 : decode cX6_add 12 = .ok (.getfield 9, 3) := by decide +kernel
theorem dX6_add_15 : decode cX6_add 15 = .ok (.aload_n 0, 1) := by decide +kernel
theorem dX6_add_16 : decode cX6_add 16 = .ok (.getfield 15, 3) := by decide +kernel
theorem dX6_add_19 : decode cX6_add 19 = .ok (.iload_n 1, 1) := by decide +kernel
theorem dX6_add_20 : decode cX6_add 20 = .ok (.iastore, 1) := by decide +kernel
theorem dX6_add_21 : decode cX6_add 21 = .ok (.aload_n 0, 1) := by decide +kernel
theorem dX6_add_22 : decode cX6_add 22 = .ok (.dup, 1) := by decide +kernel
theorem dX6_add_23 : decode cX6_add 23 = .ok (.getfield 15, 3) := by decide +kernel
theorem dX6_add_26 : decode cX6_add 26 = .ok (.iconst 1, 1) := by decide +kernel
theorem dX6_add_27 : decode cX6_add 27 = .ok (.iadd, 1) := by decide +kernel
theorem dX6_add_28 : decode cX6_add 28 = .ok (.putfield 15, 3) := by decide +kernel
theorem dX6_add_31 : decode cX6_add 31 = .ok (.iconst 1, 1) := by decide +kernel
theorem dX6_add_32 : decode cX6_add 32 = .ok (.ireturn, 1) := by decide +kernel
theorem dX6_wordAt_0 : decode cX6_wordAt 0 = .ok (.iload_n 1, 1) := by decide +kernel
theorem dX6_wordAt_1 : decode cX6_wordAt 1 = .ok (.ifCond .lt 20, 3) := by decide +kernel
theorem dX6_wordAt_4 : decode cX6_wordAt 4 = .ok (.iload_n 1, 1) := by decide +kernel
theorem dX6_wordAt_5 : decode cX6_wordAt 5 = .ok (.aload_n 0, 1) := by decide +kernel
theorem dX6_wordAt_6 : decode cX6_wordAt 6 = .ok (.getfield 15, 3) := by decide +kernel
theorem dX6_wordAt_9 : decode cX6_wordAt 9 = .ok (.if_icmp .ge 12, 3) := by decide +kernel
theorem dX6_wordAt_12 : decode cX6_wordAt 12 = .ok (.aload_n 0, 1) := by decide +kernel
theorem dX6_wordAt_13 : decode cX6_wordAt 13 = .ok (.getfield 9, 3) := by decide +kernel
theorem dX6_wordAt_16 : decode cX6_wordAt 16 = .ok (.iload_n 1, 1) := by decide +kernel
theorem dX6_wordAt_17 : decode cX6_wordAt 17 = .ok (.iaload, 1) := by decide +kernel
theorem dX6_wordAt_18 : decode cX6_wordAt 18 = .ok (.goto 4, 3) := by decide +kernel
theorem dX6_wordAt_21 : decode cX6_wordAt 21 = .ok (.iconst (-1), 1) := by decide +kernel
theorem dX6_wordAt_22 : decode cX6_wordAt 22 = .ok (.ireturn, 1) := by decide +kernel
theorem dX6_last_0 : decode cX6_last 0 = .ok (.aload_n 0, 1) := by decide +kernel
theorem dX6_last_1 : decode cX6_last 1 = .ok (.aload_n 0, 1) := by decide +kernel
theorem dX6_last_2 : decode cX6_last 2 = .ok (.getfield 15, 3) := by decide +kernel
theorem dX6_last_5 : decode cX6_last 5 = .ok (.iconst 1, 1) := by decide +kernel
theorem dX6_last_6 : decode cX6_last 6 = .ok (.isub, 1) := by decide +kernel
theorem dX6_last_7 : decode cX6_last 7 = .ok (.invokevirtual 19, 3) := by decide +kernel
theorem dX6_last_10 : decode cX6_last 10 = .ok (.ireturn, 1) := by decide +kernel
theorem dX6_setLast_0 : decode cX6_setLast 0 = .ok (.aload_n 0, 1) := by decide +kernel
theorem dX6_setLast_1 : decode cX6_setLast 1 = .ok (.getfield 15, 3) := by decide +kernel
theorem dX6_setLast_4 : decode cX6_setLast 4 = .ok (.ifCond .le 15, 3) := by decide +kernel
theorem dX6_setLast_7 : decode cX6_setLast 7 = .ok (.aload_n 0, 1) := by decide +kernel
theorem dX6_setLast_8 : decode cX6_setLast 8 = .ok (.getfield 9, 3) := by decide +kernel
theorem dX6_setLast_11 : decode cX6_setLast 11 = .ok (.aload_n 0, 1) := by decide +kernel
theorem dX6_setLast_12 : decode cX6_setLast 12 = .ok (.getfield 15, 3) := by decide +kernel
theorem dX6_setLast_15 : decode cX6_setLast 15 = .ok (.iconst 1, 1) := by decide +kernel
theorem dX6_setLast_16 : decode cX6_setLast 16 = .ok (.isub, 1) := by decide +kernel
theorem dX6_setLast_17 : decode cX6_setLast 17 = .ok (.iload_n 1, 1) := by decide +kernel
theorem dX6_setLast_18 : decode cX6_setLast 18 = .ok (.iastore, 1) := by decide +kernel
theorem dX6_setLast_19 : decode cX6_setLast 19 = .ok (.return_, 1) := by decide +kernel
theorem dX6_has_0 : decode cX6_has 0 = .ok (.iconst 0, 1) := by decide +kernel
theorem dX6_has_1 : decode cX6_has 1 = .ok (.istore_n 2, 1) := by decide +kernel
theorem dX6_has_2 : decode cX6_has 2 = .ok (.iload_n 2, 1) := by decide +kernel
theorem dX6_has_3 : decode cX6_has 3 = .ok (.aload_n 0, 1) := by decide +kernel
theorem dX6_has_4 : decode cX6_has 4 = .ok (.getfield 15, 3) := by decide +kernel
theorem dX6_has_7 : decode cX6_has 7 = .ok (.if_icmp .ge 21, 3) := by decide +kernel
theorem dX6_has_10 : decode cX6_has 10 = .ok (.aload_n 0, 1) := by decide +kernel
theorem dX6_has_11 : decode cX6_has 11 = .ok (.getfield 9, 3) := by decide +kernel
theorem dX6_has_14 : decode cX6_has 14 = .ok (.iload_n 2, 1) := by decide +kernel
theorem dX6_has_15 : decode cX6_has 15 = .ok (.iaload, 1) := by decide +kernel
theorem dX6_has_16 : decode cX6_has 16 = .ok (.iload_n 1, 1) := by decide +kernel
theorem dX6_has_17 : decode cX6_has 17 = .ok (.if_icmp .ne 5, 3) := by decide +kernel
theorem dX6_has_20 : decode cX6_has 20 = .ok (.iconst 1, 1) := by decide +kernel
theorem dX6_has_21 : decode cX6_has 21 = .ok (.ireturn, 1) := by decide +kernel
theorem dX6_has_22 : decode cX6_has 22 = .ok (.iinc 2 1, 3) := by decide +kernel
theorem dX6_has_25 : decode cX6_has 25 = .ok (.goto (-23), 3) := by decide +kernel
theorem dX6_has_28 : decode cX6_has 28 = .ok (.iconst 0, 1) := by decide +kernel
theorem dX6_has_29 : decode cX6_has 29 = .ok (.ireturn, 1) := by decide +kernel
theorem dX6_copy_0 : decode cX6_copy 0 = .ok (.iconst 0, 1) := by decide +kernel
theorem dX6_copy_1 : decode cX6_copy 1 = .ok (.istore_n 2, 1) := by decide +kernel
theorem dX6_copy_2 : decode cX6_copy 2 = .ok (.iload_n 2, 1) := by decide +kernel
theorem dX6_copy_3 : decode cX6_copy 3 = .ok (.aload_n 1, 1) := by decide +kernel
theorem dX6_copy_4 : decode cX6_copy 4 = .ok (.getfield 15, 3) := by decide +kernel
theorem dX6_copy_7 : decode cX6_copy 7 = .ok (.if_icmp .ge 21, 3) := by decide +kernel
theorem dX6_copy_10 : decode cX6_copy 10 = .ok (.aload_n 0, 1) := by decide +kernel
theorem dX6_copy_11 : decode cX6_copy 11 = .ok (.getfield 9, 3) := by decide +kernel
theorem dX6_copy_14 : decode cX6_copy 14 = .ok (.iload_n 2, 1) := by decide +kernel
theorem dX6_copy_15 : decode cX6_copy 15 = .ok (.aload_n 1, 1) := by decide +kernel
theorem dX6_copy_16 : decode cX6_copy 16 = .ok (.getfield 9, 3) := by decide +kernel
theorem dX6_copy_19 : decode cX6_copy 19 = .ok (.iload_n 2, 1) := by decide +kernel
theorem dX6_copy_20 : decode cX6_copy 20 = .ok (.iaload, 1) := by decide +kernel
theorem dX6_copy_21 : decode cX6_copy 21 = .ok (.iastore, 1) := by decide +kernel
theorem dX6_copy_22 : decode cX6_copy 22 = .ok (.iinc 2 1, 3) := by decide +kernel
theorem dX6_copy_25 : decode cX6_copy 25 = .ok (.goto (-23), 3) := by decide +kernel
theorem dX6_copy_28 : decode cX6_copy 28 = .ok (.aload_n 0, 1) := by decide +kernel
theorem dX6_copy_29 : decode cX6_copy 29 = .ok (.aload_n 1, 1) := by decide +kernel
theorem dX6_copy_30 : decode cX6_copy 30 = .ok (.getfield 15, 3) := by decide +kernel
theorem dX6_copy_33 : decode cX6_copy 33 = .ok (.putfield 15, 3) := by decide +kernel
theorem dX6_copy_36 : decode cX6_copy 36 = .ok (.return_, 1) := by decide +kernel
theorem dX6_same_0 : decode cX6_same 0 = .ok (.aload_n 0, 1) := by decide +kernel
theorem dX6_same_1 : decode cX6_same 1 = .ok (.getfield 15, 3) := by decide +kernel
theorem dX6_same_4 : decode cX6_same 4 = .ok (.aload_n 1, 1) := by decide +kernel
theorem dX6_same_5 : decode cX6_same 5 = .ok (.getfield 15, 3) := by decide +kernel
theorem dX6_same_8 : decode cX6_same 8 = .ok (.if_icmp .eq 5, 3) := by decide +kernel
theorem dX6_same_11 : decode cX6_same 11 = .ok (.iconst 0, 1) := by decide +kernel
theorem dX6_same_12 : decode cX6_same 12 = .ok (.ireturn, 1) := by decide +kernel
theorem dX6_same_13 : decode cX6_same 13 = .ok (.iconst 0, 1) := by decide +kernel
theorem dX6_same_14 : decode cX6_same 14 = .ok (.istore_n 2, 1) := by decide +kernel
theorem dX6_same_15 : decode cX6_same 15 = .ok (.iload_n 2, 1) := by decide +kernel
theorem dX6_same_16 : decode cX6_same 16 = .ok (.aload_n 0, 1) := by decide +kernel
theorem dX6_same_17 : decode cX6_same 17 = .ok (.getfield 15, 3) := by decide +kernel
theorem dX6_same_20 : decode cX6_same 20 = .ok (.if_icmp .ge 26, 3) := by decide +kernel
theorem dX6_same_23 : decode cX6_same 23 = .ok (.aload_n 0, 1) := by decide +kernel
theorem dX6_same_24 : decode cX6_same 24 = .ok (.getfield 9, 3) := by decide +kernel
theorem dX6_same_27 : decode cX6_same 27 = .ok (.iload_n 2, 1) := by decide +kernel
theorem dX6_same_28 : decode cX6_same 28 = .ok (.iaload, 1) := by decide +kernel
theorem dX6_same_29 : decode cX6_same 29 = .ok (.aload_n 1, 1) := by decide +kernel
theorem dX6_same_30 : decode cX6_same 30 = .ok (.getfield 9, 3) := by decide +kernel
theorem dX6_same_33 : decode cX6_same 33 = .ok (.iload_n 2, 1) := by decide +kernel
theorem dX6_same_34 : decode cX6_same 34 = .ok (.iaload, 1) := by decide +kernel
theorem dX6_same_35 : decode cX6_same 35 = .ok (.if_icmp .eq 5, 3) := by decide +kernel
theorem dX6_same_38 : decode cX6_same 38 = .ok (.iconst 0, 1) := by decide +kernel
theorem dX6_same_39 : decode cX6_same 39 = .ok (.ireturn, 1) := by decide +kernel
theorem dX6_same_40 : decode cX6_same 40 = .ok (.iinc 2 1, 3) := by decide +kernel
theorem dX6_same_43 : decode cX6_same 43 = .ok (.goto (-28), 3) := by decide +kernel
theorem dX6_same_46 : decode cX6_same 46 = .ok (.iconst 1, 1) := by decide +kernel
theorem dX6_same_47 : decode cX6_same 47 = .ok (.ireturn, 1) := by decide +kernel
theorem dX6_agrees_0 : decode cX6_agrees 0 = .ok (.aload_n 0, 1) := by decide +kernel
theorem dX6_agrees_1 : decode cX6_agrees 1 = .ok (.getfield 15, 3) := by decide +kernel
theorem dX6_agrees_4 : decode cX6_agrees 4 = .ok (.aload_n 1, 1) := by decide +kernel
theorem dX6_agrees_5 : decode cX6_agrees 5 = .ok (.getfield 15, 3) := by decide +kernel
theorem dX6_agrees_8 : decode cX6_agrees 8 = .ok (.if_icmp .eq 5, 3) := by decide +kernel
theorem dX6_agrees_11 : decode cX6_agrees 11 = .ok (.iconst 0, 1) := by decide +kernel
theorem dX6_agrees_12 : decode cX6_agrees 12 = .ok (.ireturn, 1) := by decide +kernel
theorem dX6_agrees_13 : decode cX6_agrees 13 = .ok (.iconst 0, 1) := by decide +kernel
theorem dX6_agrees_14 : decode cX6_agrees 14 = .ok (.istore_n 2, 1) := by decide +kernel
theorem dX6_agrees_15 : decode cX6_agrees 15 = .ok (.iload_n 2, 1) := by decide +kernel
theorem dX6_agrees_16 : decode cX6_agrees 16 = .ok (.aload_n 0, 1) := by decide +kernel
theorem dX6_agrees_17 : decode cX6_agrees 17 = .ok (.getfield 15, 3) := by decide +kernel
theorem dX6_agrees_20 : decode cX6_agrees 20 = .ok (.if_icmp .ge 36, 3) := by decide +kernel
theorem dX6_agrees_23 : decode cX6_agrees 23 = .ok (.aload_n 1, 1) := by decide +kernel
theorem dX6_agrees_24 : decode cX6_agrees 24 = .ok (.getfield 9, 3) := by decide +kernel
theorem dX6_agrees_27 : decode cX6_agrees 27 = .ok (.iload_n 2, 1) := by decide +kernel
theorem dX6_agrees_28 : decode cX6_agrees 28 = .ok (.iaload, 1) := by decide +kernel
theorem dX6_agrees_29 : decode cX6_agrees 29 = .ok (.iconst (-1), 1) := by decide +kernel
theorem dX6_agrees_30 : decode cX6_agrees 30 = .ok (.if_icmp .eq 20, 3) := by decide +kernel
theorem dX6_agrees_33 : decode cX6_agrees 33 = .ok (.aload_n 1, 1) := by decide +kernel
theorem dX6_agrees_34 : decode cX6_agrees 34 = .ok (.getfield 9, 3) := by decide +kernel
theorem dX6_agrees_37 : decode cX6_agrees 37 = .ok (.iload_n 2, 1) := by decide +kernel
theorem dX6_agrees_38 : decode cX6_agrees 38 = .ok (.iaload, 1) := by decide +kernel
theorem dX6_agrees_39 : decode cX6_agrees 39 = .ok (.aload_n 0, 1) := by decide +kernel
theorem dX6_agrees_40 : decode cX6_agrees 40 = .ok (.getfield 9, 3) := by decide +kernel
theorem dX6_agrees_43 : decode cX6_agrees 43 = .ok (.iload_n 2, 1) := by decide +kernel
theorem dX6_agrees_44 : decode cX6_agrees 44 = .ok (.iaload, 1) := by decide +kernel
theorem dX6_agrees_45 : decode cX6_agrees 45 = .ok (.if_icmp .eq 5, 3) := by decide +kernel
theorem dX6_agrees_48 : decode cX6_agrees 48 = .ok (.iconst 0, 1) := by decide +kernel
theorem dX6_agrees_49 : decode cX6_agrees 49 = .ok (.ireturn, 1) := by decide +kernel
theorem dX6_agrees_50 : decode cX6_agrees 50 = .ok (.iinc 2 1, 3) := by decide +kernel
theorem dX6_agrees_53 : decode cX6_agrees 53 = .ok (.goto (-38), 3) := by decide +kernel
theorem dX6_agrees_56 : decode cX6_agrees 56 = .ok (.iconst 1, 1) := by decide +kernel
theorem dX6_agrees_57 : decode cX6_agrees 57 = .ok (.ireturn, 1) := by decide +kernel
theorem dX6_melt_0 : decode cX6_melt 0 = .ok (.iconst 0, 1) := by decide +kernel
theorem dX6_melt_1 : decode cX6_melt 1 = .ok (.istore 4, 2) := by decide +kernel
theorem dX6_melt_3 : decode cX6_melt 3 = .ok (.iconst 0, 1) := by decide +kernel
theorem dX6_melt_4 : decode cX6_melt 4 = .ok (.istore 5, 2) := by decide +kernel
theorem dX6_melt_6 : decode cX6_melt 6 = .ok (.iload 5, 2) := by decide +kernel
theorem dX6_melt_8 : decode cX6_melt 8 = .ok (.aload_n 0, 1) := by decide +kernel
theorem dX6_melt_9 : decode cX6_melt 9 = .ok (.getfield 15, 3) := by decide +kernel
theorem dX6_melt_12 : decode cX6_melt 12 = .ok (.if_icmp .ge 89, 3) := by decide +kernel
theorem dX6_melt_15 : decode cX6_melt 15 = .ok (.iload 5, 2) := by decide +kernel
theorem dX6_melt_17 : decode cX6_melt 17 = .ok (.iconst 1, 1) := by decide +kernel
theorem dX6_melt_18 : decode cX6_melt 18 = .ok (.iadd, 1) := by decide +kernel
theorem dX6_melt_19 : decode cX6_melt 19 = .ok (.aload_n 0, 1) := by decide +kernel
theorem dX6_melt_20 : decode cX6_melt 20 = .ok (.getfield 15, 3) := by decide +kernel
theorem dX6_melt_23 : decode cX6_melt 23 = .ok (.if_icmp .ge 31, 3) := by decide +kernel
theorem dX6_melt_26 : decode cX6_melt 26 = .ok (.aload_n 0, 1) := by decide +kernel
theorem dX6_melt_27 : decode cX6_melt 27 = .ok (.getfield 9, 3) := by decide +kernel
theorem dX6_melt_30 : decode cX6_melt 30 = .ok (.iload 5, 2) := by decide +kernel
theorem dX6_melt_32 : decode cX6_melt 32 = .ok (.iaload, 1) := by decide +kernel
theorem dX6_melt_33 : decode cX6_melt 33 = .ok (.iload_n 1, 1) := by decide +kernel
theorem dX6_melt_34 : decode cX6_melt 34 = .ok (.if_icmp .ne 20, 3) := by decide +kernel
theorem dX6_melt_37 : decode cX6_melt 37 = .ok (.aload_n 0, 1) := by decide +kernel
theorem dX6_melt_38 : decode cX6_melt 38 = .ok (.getfield 9, 3) := by decide +kernel
theorem dX6_melt_41 : decode cX6_melt 41 = .ok (.iload 5, 2) := by decide +kernel
theorem dX6_melt_43 : decode cX6_melt 43 = .ok (.iconst 1, 1) := by decide +kernel
theorem dX6_melt_44 : decode cX6_melt 44 = .ok (.iadd, 1) := by decide +kernel
theorem dX6_melt_45 : decode cX6_melt 45 = .ok (.iaload, 1) := by decide +kernel
theorem dX6_melt_46 : decode cX6_melt 46 = .ok (.iload_n 2, 1) := by decide +kernel
theorem dX6_melt_47 : decode cX6_melt 47 = .ok (.if_icmp .ne 7, 3) := by decide +kernel
theorem dX6_melt_50 : decode cX6_melt 50 = .ok (.iconst 1, 1) := by decide +kernel
theorem dX6_melt_51 : decode cX6_melt 51 = .ok (.goto 4, 3) := by decide +kernel
theorem dX6_melt_54 : decode cX6_melt 54 = .ok (.iconst 0, 1) := by decide +kernel
theorem dX6_melt_55 : decode cX6_melt 55 = .ok (.istore 6, 2) := by decide +kernel
theorem dX6_melt_57 : decode cX6_melt 57 = .ok (.aload_n 0, 1) := by decide +kernel
theorem dX6_melt_58 : decode cX6_melt 58 = .ok (.getfield 9, 3) := by decide +kernel
theorem dX6_melt_61 : decode cX6_melt 61 = .ok (.iload 4, 2) := by decide +kernel
theorem dX6_melt_63 : decode cX6_melt 63 = .ok (.iload 6, 2) := by decide +kernel
theorem dX6_melt_65 : decode cX6_melt 65 = .ok (.ifCond .eq 7, 3) := by decide +kernel
theorem dX6_melt_68 : decode cX6_melt 68 = .ok (.iload_n 3, 1) := by decide +kernel
theorem dX6_melt_69 : decode cX6_melt 69 = .ok (.goto 10, 3) := by decide +kernel
theorem dX6_melt_72 : decode cX6_melt 72 = .ok (.aload_n 0, 1) := by decide +kernel
theorem dX6_melt_73 : decode cX6_melt 73 = .ok (.getfield 9, 3) := by decide +kernel
theorem dX6_melt_76 : decode cX6_melt 76 = .ok (.iload 5, 2) := by decide +kernel
theorem dX6_melt_78 : decode cX6_melt 78 = .ok (.iaload, 1) := by decide +kernel
theorem dX6_melt_79 : decode cX6_melt 79 = .ok (.iastore, 1) := by decide +kernel
theorem dX6_melt_80 : decode cX6_melt 80 = .ok (.iinc 4 1, 3) := by decide +kernel
theorem dX6_melt_83 : decode cX6_melt 83 = .ok (.iload 5, 2) := by decide +kernel
theorem dX6_melt_85 : decode cX6_melt 85 = .ok (.iload 6, 2) := by decide +kernel
theorem dX6_melt_87 : decode cX6_melt 87 = .ok (.ifCond .eq 7, 3) := by decide +kernel
theorem dX6_melt_90 : decode cX6_melt 90 = .ok (.iconst 2, 1) := by decide +kernel
theorem dX6_melt_91 : decode cX6_melt 91 = .ok (.goto 4, 3) := by decide +kernel
theorem dX6_melt_94 : decode cX6_melt 94 = .ok (.iconst 1, 1) := by decide +kernel
theorem dX6_melt_95 : decode cX6_melt 95 = .ok (.iadd, 1) := by decide +kernel
theorem dX6_melt_96 : decode cX6_melt 96 = .ok (.istore 5, 2) := by decide +kernel
theorem dX6_melt_98 : decode cX6_melt 98 = .ok (.goto (-92), 3) := by decide +kernel
theorem dX6_melt_101 : decode cX6_melt 101 = .ok (.aload_n 0, 1) := by decide +kernel
theorem dX6_melt_102 : decode cX6_melt 102 = .ok (.iload 4, 2) := by decide +kernel
theorem dX6_melt_104 : decode cX6_melt 104 = .ok (.putfield 15, 3) := by decide +kernel
theorem dX6_melt_107 : decode cX6_melt 107 = .ok (.return_, 1) := by decide +kernel
theorem dX6_mark_0 : decode cX6_mark 0 = .ok (.aload_n 0, 1) := by decide +kernel
theorem dX6_mark_1 : decode cX6_mark 1 = .ok (.getfield 15, 3) := by decide +kernel
theorem dX6_mark_4 : decode cX6_mark 4 = .ok (.istore_n 1, 1) := by decide +kernel
theorem dX6_mark_5 : decode cX6_mark 5 = .ok (.iconst 0, 1) := by decide +kernel
theorem dX6_mark_6 : decode cX6_mark 6 = .ok (.istore_n 2, 1) := by decide +kernel
theorem dX6_mark_7 : decode cX6_mark 7 = .ok (.iload_n 2, 1) := by decide +kernel
theorem dX6_mark_8 : decode cX6_mark 8 = .ok (.aload_n 0, 1) := by decide +kernel
theorem dX6_mark_9 : decode cX6_mark 9 = .ok (.getfield 15, 3) := by decide +kernel
theorem dX6_mark_12 : decode cX6_mark 12 = .ok (.if_icmp .ge 22, 3) := by decide +kernel
theorem dX6_mark_15 : decode cX6_mark 15 = .ok (.iload_n 1, 1) := by decide +kernel
theorem dX6_mark_16 : decode cX6_mark 16 = .ok (.sipush 211, 3) := by decide +kernel
theorem dX6_mark_19 : decode cX6_mark 19 = .ok (.imul, 1) := by decide +kernel
theorem dX6_mark_20 : decode cX6_mark 20 = .ok (.aload_n 0, 1) := by decide +kernel
theorem dX6_mark_21 : decode cX6_mark 21 = .ok (.getfield 9, 3) := by decide +kernel
theorem dX6_mark_24 : decode cX6_mark 24 = .ok (.iload_n 2, 1) := by decide +kernel
theorem dX6_mark_25 : decode cX6_mark 25 = .ok (.iaload, 1) := by decide +kernel
theorem dX6_mark_26 : decode cX6_mark 26 = .ok (.iadd, 1) := by decide +kernel
theorem dX6_mark_27 : decode cX6_mark 27 = .ok (.istore_n 1, 1) := by decide +kernel
theorem dX6_mark_28 : decode cX6_mark 28 = .ok (.iinc 2 1, 3) := by decide +kernel
theorem dX6_mark_31 : decode cX6_mark 31 = .ok (.goto (-24), 3) := by decide +kernel
theorem dX6_mark_34 : decode cX6_mark 34 = .ok (.iload_n 1, 1) := by decide +kernel
theorem dX6_mark_35 : decode cX6_mark 35 = .ok (.ireturn, 1) := by decide +kernel
theorem dX7_init_0 : decode cX7_init 0 = .ok (.aload_n 0, 1) := by decide +kernel
theorem dX7_init_1 : decode cX7_init 1 = .ok (.invokespecial 1, 3) := by decide +kernel
theorem dX7_init_4 : decode cX7_init 4 = .ok (.aload_n 0, 1) := by decide +kernel
theorem dX7_init_5 : decode cX7_init 5 = .ok (.iconst 4, 1) := by decide +kernel
theorem dX7_init_6 : decode cX7_init 6 = .ok (.anewarray 9, 3) := by decide +kernel
theorem dX7_init_9 : decode cX7_init 9 = .ok (.putfield 11, 3) := by decide +kernel
theorem dX7_init_12 : decode cX7_init 12 = .ok (.aload_n 0, 1) := by decide +kernel
theorem dX7_init_13 : decode cX7_init 13 = .ok (.new 15, 3) := by decide +kernel
theorem dX7_init_16 : decode cX7_init 16 = .ok (.dup, 1) := by decide +kernel
theorem dX7_init_17 : decode cX7_init 17 = .ok (.invokespecial 17, 3) := by decide +kernel
theorem dX7_init_20 : decode cX7_init 20 = .ok (.putfield 18, 3) := by decide +kernel
theorem dX7_init_23 : decode cX7_init 23 = .ok (.aload_n 0, 1) := by decide +kernel
theorem dX7_init_24 : decode cX7_init 24 = .ok (.new 15, 3) := by decide +kernel
theorem dX7_init_27 : decode cX7_init 27 = .ok (.dup, 1) := by decide +kernel
theorem dX7_init_28 : decode cX7_init 28 = .ok (.invokespecial 17, 3) := by decide +kernel
theorem dX7_init_31 : decode cX7_init 31 = .ok (.putfield 22, 3) := by decide +kernel
theorem dX7_init_34 : decode cX7_init 34 = .ok (.aload_n 0, 1) := by decide +kernel
theorem dX7_init_35 : decode cX7_init 35 = .ok (.new 15, 3) := by decide +kernel
theorem dX7_init_38 : decode cX7_init 38 = .ok (.dup, 1) := by decide +kernel
theorem dX7_init_39 : decode cX7_init 39 = .ok (.invokespecial 17, 3) := by decide +kernel
theorem dX7_init_42 : decode cX7_init 42 = .ok (.putfield 25, 3) := by decide +kernel
theorem dX7_init_45 : decode cX7_init 45 = .ok (.aload_n 0, 1) := by decide +kernel
theorem dX7_init_46 : decode cX7_init 46 = .ok (.new 15, 3) := by decide +kernel
theorem dX7_init_49 : decode cX7_init 49 = .ok (.dup, 1) := by decide +kernel
theorem dX7_init_50 : decode cX7_init 50 = .ok (.invokespecial 17, 3) := by decide +kernel
theorem dX7_init_53 : decode cX7_init 53 = .ok (.putfield 28, 3) := by decide +kernel
theorem dX7_init_56 : decode cX7_init 56 = .ok (.aload_n 0, 1) := by decide +kernel
theorem dX7_init_57 : decode cX7_init 57 = .ok (.sipush 4000, 3) := by decide +kernel
theorem dX7_init_60 : decode cX7_init 60 = .ok (.newarray .int, 2) := by decide +kernel
theorem dX7_init_62 : decode cX7_init 62 = .ok (.putfield 31, 3) := by decide +kernel
theorem dX7_init_65 : decode cX7_init 65 = .ok (.aload_n 0, 1) := by decide +kernel
theorem dX7_init_66 : decode cX7_init 66 = .ok (.bipush 20, 2) := by decide +kernel
theorem dX7_init_68 : decode cX7_init 68 = .ok (.newarray .int, 2) := by decide +kernel
theorem dX7_init_70 : decode cX7_init 70 = .ok (.putfield 35, 3) := by decide +kernel
theorem dX7_init_73 : decode cX7_init 73 = .ok (.aload_n 0, 1) := by decide +kernel
theorem dX7_init_74 : decode cX7_init 74 = .ok (.new 38, 3) := by decide +kernel
theorem dX7_init_77 : decode cX7_init 77 = .ok (.dup, 1) := by decide +kernel
theorem dX7_init_78 : decode cX7_init 78 = .ok (.invokespecial 40, 3) := by decide +kernel
theorem dX7_init_81 : decode cX7_init 81 = .ok (.putfield 41, 3) := by decide +kernel
theorem dX7_init_84 : decode cX7_init 84 = .ok (.aload_n 0, 1) := by decide +kernel
theorem dX7_init_85 : decode cX7_init 85 = .ok (.bipush 20, 2) := by decide +kernel
theorem dX7_init_87 : decode cX7_init 87 = .ok (.newarray .int, 2) := by decide +kernel
theorem dX7_init_89 : decode cX7_init 89 = .ok (.putfield 45, 3) := by decide +kernel
theorem dX7_init_92 : decode cX7_init 92 = .ok (.aload_n 0, 1) := by decide +kernel
theorem dX7_init_93 : decode cX7_init 93 = .ok (.bipush 20, 2) := by decide +kernel
theorem dX7_init_95 : decode cX7_init 95 = .ok (.anewarray 15, 3) := by decide +kernel
theorem dX7_init_98 : decode cX7_init 98 = .ok (.putfield 48, 3) := by decide +kernel
theorem dX7_init_101 : decode cX7_init 101 = .ok (.aload_n 0, 1) := by decide +kernel
theorem dX7_init_102 : decode cX7_init 102 = .ok (.iconst 0, 1) := by decide +kernel
theorem dX7_init_103 : decode cX7_init 103 = .ok (.putfield 52, 3) := by decide +kernel
theorem dX7_init_106 : decode cX7_init 106 = .ok (.aload_n 0, 1) := by decide +kernel
theorem dX7_init_107 : decode cX7_init 107 = .ok (.bipush 32, 2) := by decide +kernel
theorem dX7_init_109 : decode cX7_init 109 = .ok (.newarray .int, 2) := by decide +kernel
theorem dX7_init_111 : decode cX7_init 111 = .ok (.putfield 56, 3) := by decide +kernel
theorem dX7_init_114 : decode cX7_init 114 = .ok (.aload_n 0, 1) := by decide +kernel
theorem dX7_init_115 : decode cX7_init 115 = .ok (.bipush 32, 2) := by decide +kernel
theorem dX7_init_117 : decode cX7_init 117 = .ok (.anewarray 15, 3) := by decide +kernel
theorem dX7_init_120 : decode cX7_init 120 = .ok (.putfield 59, 3) := by decide +kernel
theorem dX7_init_123 : decode cX7_init 123 = .ok (.aload_n 0, 1) := by decide +kernel
theorem dX7_init_124 : decode cX7_init 124 = .ok (.new 62, 3) := by decide +kernel
theorem dX7_init_127 : decode cX7_init 127 = .ok (.dup, 1) := by decide +kernel
theorem dX7_init_128 : decode cX7_init 128 = .ok (.invokespecial 64, 3) := by decide +kernel
theorem dX7_init_131 : decode cX7_init 131 = .ok (.putfield 65, 3) := by decide +kernel
theorem dX7_init_134 : decode cX7_init 134 = .ok (.iconst 0, 1) := by decide +kernel
theorem dX7_init_135 : decode cX7_init 135 = .ok (.istore_n 1, 1) := by decide +kernel
theorem dX7_init_136 : decode cX7_init 136 = .ok (.iload_n 1, 1) := by decide +kernel
theorem dX7_init_137 : decode cX7_init 137 = .ok (.iconst 4, 1) := by decide +kernel
theorem dX7_init_138 : decode cX7_init 138 = .ok (.if_icmp .ge 22, 3) := by decide +kernel
theorem dX7_init_141 : decode cX7_init 141 = .ok (.aload_n 0, 1) := by decide +kernel
theorem dX7_init_142 : decode cX7_init 142 = .ok (.getfield 11, 3) := by decide +kernel
theorem dX7_init_145 : decode cX7_init 145 = .ok (.iload_n 1, 1) := by decide +kernel
theorem dX7_init_146 : decode cX7_init 146 = .ok (.new 9, 3) := by decide +kernel
theorem dX7_init_149 : decode cX7_init 149 = .ok (.dup, 1) := by decide +kernel
theorem dX7_init_150 : decode cX7_init 150 = .ok (.invokespecial 69, 3) := by decide +kernel
theorem dX7_init_153 : decode cX7_init 153 = .ok (.aastore, 1) := by decide +kernel
theorem dX7_init_154 : decode cX7_init 154 = .ok (.iinc 1 1, 3) := by decide +kernel
theorem dX7_init_157 : decode cX7_init 157 = .ok (.goto (-21), 3) := by decide +kernel
theorem dX7_init_160 : decode cX7_init 160 = .ok (.iconst 0, 1) := by decide +kernel
theorem dX7_init_161 : decode cX7_init 161 = .ok (.istore_n 1, 1) := by decide +kernel
theorem dX7_init_162 : decode cX7_init 162 = .ok (.iload_n 1, 1) := by decide +kernel
theorem dX7_init_163 : decode cX7_init 163 = .ok (.bipush 20, 2) := by decide +kernel
theorem dX7_init_165 : decode cX7_init 165 = .ok (.if_icmp .ge 22, 3) := by decide +kernel
theorem dX7_init_168 : decode cX7_init 168 = .ok (.aload_n 0, 1) := by decide +kernel
theorem dX7_init_169 : decode cX7_init 169 = .ok (.getfield 48, 3) := by decide +kernel
theorem dX7_init_172 : decode cX7_init 172 = .ok (.iload_n 1, 1) := by decide +kernel
theorem dX7_init_173 : decode cX7_init 173 = .ok (.new 15, 3) := by decide +kernel
theorem dX7_init_176 : decode cX7_init 176 = .ok (.dup, 1) := by decide +kernel
theorem dX7_init_177 : decode cX7_init 177 = .ok (.invokespecial 17, 3) := by decide +kernel
theorem dX7_init_180 : decode cX7_init 180 = .ok (.aastore, 1) := by decide +kernel
theorem dX7_init_181 : decode cX7_init 181 = .ok (.iinc 1 1, 3) := by decide +kernel
theorem dX7_init_184 : decode cX7_init 184 = .ok (.goto (-22), 3) := by decide +kernel
theorem dX7_init_187 : decode cX7_init 187 = .ok (.iconst 0, 1) := by decide +kernel
theorem dX7_init_188 : decode cX7_init 188 = .ok (.istore_n 1, 1) := by decide +kernel
theorem dX7_init_189 : decode cX7_init 189 = .ok (.iload_n 1, 1) := by decide +kernel
theorem dX7_init_190 : decode cX7_init 190 = .ok (.bipush 32, 2) := by decide +kernel
theorem dX7_init_192 : decode cX7_init 192 = .ok (.if_icmp .ge 22, 3) := by decide +kernel
theorem dX7_init_195 : decode cX7_init 195 = .ok (.aload_n 0, 1) := by decide +kernel
theorem dX7_init_196 : decode cX7_init 196 = .ok (.getfield 59, 3) := by decide +kernel
theorem dX7_init_199 : decode cX7_init 199 = .ok (.iload_n 1, 1) := by decide +kernel
theorem dX7_init_200 : decode cX7_init 200 = .ok (.new 15, 3) := by decide +kernel
theorem dX7_init_203 : decode cX7_init 203 = .ok (.dup, 1) := by decide +kernel
theorem dX7_init_204 : decode cX7_init 204 = .ok (.invokespecial 17, 3) := by decide +kernel
theorem dX7_init_207 : decode cX7_init 207 = .ok (.aastore, 1) := by decide +kernel
theorem dX7_init_208 : decode cX7_init 208 = .ok (.iinc 1 1, 3) := by decide +kernel
theorem dX7_init_211 : decode cX7_init 211 = .ok (.goto (-22), 3) := by decide +kernel
theorem dX7_init_214 : decode cX7_init 214 = .ok (.return_, 1) := by decide +kernel
theorem dX7_atom_0 : decode cX7_atom 0 = .ok (.aload_n 0, 1) := by decide +kernel
theorem dX7_atom_1 : decode cX7_atom 1 = .ok (.iload_n 1, 1) := by decide +kernel
theorem dX7_atom_2 : decode cX7_atom 2 = .ok (.invokevirtual 70, 3) := by decide +kernel
theorem dX7_atom_5 : decode cX7_atom 5 = .ok (.getfield 74, 3) := by decide +kernel
theorem dX7_atom_8 : decode cX7_atom 8 = .ok (.astore 4, 2) := by decide +kernel
theorem dX7_atom_10 : decode cX7_atom 10 = .ok (.iload_n 3, 1) := by decide +kernel
theorem dX7_atom_11 : decode cX7_atom 11 = .ok (.invokestatic 78, 3) := by decide +kernel
theorem dX7_atom_14 : decode cX7_atom 14 = .ok (.iload_n 2, 1) := by decide +kernel
theorem dX7_atom_15 : decode cX7_atom 15 = .ok (.iconst 0, 1) := by decide +kernel
theorem dX7_atom_16 : decode cX7_atom 16 = .ok (.sipush 9999, 3) := by decide +kernel
theorem dX7_atom_19 : decode cX7_atom 19 = .ok (.invokestatic 82, 3) := by decide +kernel
theorem dX7_atom_22 : decode cX7_atom 22 = .ok (.aload 4, 2) := by decide +kernel
theorem dX7_atom_24 : decode cX7_atom 24 = .ok (.iload_n 2, 1) := by decide +kernel
theorem dX7_atom_25 : decode cX7_atom 25 = .ok (.invokevirtual 86, 3) := by decide +kernel
theorem dX7_atom_28 : decode cX7_atom 28 = .ok (.istore 5, 2) := by decide +kernel
theorem dX7_atom_30 : decode cX7_atom 30 = .ok (.iload 5, 2) := by decide +kernel
theorem dX7_atom_32 : decode cX7_atom 32 = .ok (.iconst (-1), 1) := by decide +kernel
theorem dX7_atom_33 : decode cX7_atom 33 = .ok (.if_icmp .ne 21, 3) := by decide +kernel
theorem dX7_atom_36 : decode cX7_atom 36 = .ok (.aload 4, 2) := by decide +kernel
theorem dX7_atom_38 : decode cX7_atom 38 = .ok (.invokevirtual 92, 3) := by decide +kernel
theorem dX7_atom_41 : decode cX7_atom 41 = .ok (.ifCond .eq 13, 3) := by decide +kernel
theorem dX7_atom_44 : decode cX7_atom 44 = .ok (.new 96, 3) := by decide +kernel
theorem dX7_atom_47 : decode cX7_atom 47 = .ok (.dup, 1) := by decide +kernel
theorem dX7_atom_48 : decode cX7_atom 48 = .ok (.ldc 98, 2) := by decide +kernel
theorem dX7_atom_50 : decode cX7_atom 50 = .ok (.invokespecial 100, 3) := by decide +kernel
theorem dX7_atom_53 : decode cX7_atom 53 = .ok (.athrow, 1) := by decide +kernel
theorem dX7_atom_54 : decode cX7_atom 54 = .ok (.aload 4, 2) := by decide +kernel
theorem dX7_atom_56 : decode cX7_atom 56 = .ok (.iload_n 2, 1) := by decide +kernel
theorem dX7_atom_57 : decode cX7_atom 57 = .ok (.iload_n 3, 1) := by decide +kernel
theorem dX7_atom_58 : decode cX7_atom 58 = .ok (.invokevirtual 103, 3) := by decide +kernel
theorem dX7_atom_61 : decode cX7_atom 61 = .ok (.iload 5, 2) := by decide +kernel
theorem dX7_atom_63 : decode cX7_atom 63 = .ok (.ireturn, 1) := by decide +kernel
theorem dX7_dropAtom_0 : decode cX7_dropAtom 0 = .ok (.aload_n 0, 1) := by decide +kernel
theorem dX7_dropAtom_1 : decode cX7_dropAtom 1 = .ok (.iload_n 1, 1) := by decide +kernel
theorem dX7_dropAtom_2 : decode cX7_dropAtom 2 = .ok (.invokevirtual 70, 3) := by decide +kernel
theorem dX7_dropAtom_5 : decode cX7_dropAtom 5 = .ok (.getfield 74, 3) := by decide +kernel
theorem dX7_dropAtom_8 : decode cX7_dropAtom 8 = .ok (.iload_n 2, 1) := by decide +kernel
theorem dX7_dropAtom_9 : decode cX7_dropAtom 9 = .ok (.invokevirtual 107, 3) := by decide +kernel
theorem dX7_dropAtom_12 : decode cX7_dropAtom 12 = .ok (.ireturn, 1) := by decide +kernel
theorem dX7_base_0 : decode cX7_base 0 = .ok (.aload_n 0, 1) := by decide +kernel
theorem dX7_base_1 : decode cX7_base 1 = .ok (.iload_n 1, 1) := by decide +kernel
theorem dX7_base_2 : decode cX7_base 2 = .ok (.invokevirtual 70, 3) := by decide +kernel
theorem dX7_base_5 : decode cX7_base 5 = .ok (.astore 6, 2) := by decide +kernel
theorem dX7_base_7 : decode cX7_base 7 = .ok (.iload_n 3, 1) := by decide +kernel
theorem dX7_base_8 : decode cX7_base 8 = .ok (.invokestatic 78, 3) := by decide +kernel
theorem dX7_base_11 : decode cX7_base 11 = .ok (.iload_n 2, 1) := by decide +kernel
theorem dX7_base_12 : decode cX7_base 12 = .ok (.iconst 2, 1) := by decide +kernel
theorem dX7_base_13 : decode cX7_base 13 = .ok (.sipush 5000, 3) := by decide +kernel
theorem dX7_base_16 : decode cX7_base 16 = .ok (.invokestatic 82, 3) := by decide +kernel
theorem dX7_base_19 : decode cX7_base 19 = .ok (.iload 4, 2) := by decide +kernel
theorem dX7_base_21 : decode cX7_base 21 = .ok (.iconst 1, 1) := by decide +kernel
theorem dX7_base_22 : decode cX7_base 22 = .ok (.bipush 99, 2) := by decide +kernel
theorem dX7_base_24 : decode cX7_base 24 = .ok (.invokestatic 82, 3) := by decide +kernel
theorem dX7_base_27 : decode cX7_base 27 = .ok (.iload 5, 2) := by decide +kernel
theorem dX7_base_29 : decode cX7_base 29 = .ok (.iconst 0, 1) := by decide +kernel
theorem dX7_base_30 : decode cX7_base 30 = .ok (.bipush 15, 2) := by decide +kernel
theorem dX7_base_32 : decode cX7_base 32 = .ok (.invokestatic 82, 3) := by decide +kernel
theorem dX7_base_35 : decode cX7_base 35 = .ok (.aload 6, 2) := by decide +kernel
theorem dX7_base_37 : decode cX7_base 37 = .ok (.getfield 110, 3) := by decide +kernel
theorem dX7_base_40 : decode cX7_base 40 = .ok (.iconst 5, 1) := by decide +kernel
theorem dX7_base_41 : decode cX7_base 41 = .ok (.if_icmp .ge 12, 3) := by decide +kernel
theorem dX7_base_44 : decode cX7_base 44 = .ok (.aload 6, 2) := by decide +kernel
theorem dX7_base_46 : decode cX7_base 46 = .ok (.iload_n 2, 1) := by decide +kernel
theorem dX7_base_47 : decode cX7_base 47 = .ok (.invokevirtual 113, 3) := by decide +kernel
theorem dX7_base_50 : decode cX7_base 50 = .ok (.ifCond .eq 13, 3) := by decide +kernel
theorem dX7_base_53 : decode cX7_base 53 = .ok (.new 96, 3) := by decide +kernel
theorem dX7_base_56 : decode cX7_base 56 = .ok (.dup, 1) := by decide +kernel
theorem dX7_base_57 : decode cX7_base 57 = .ok (.ldc 117, 2) := by decide +kernel
theorem dX7_base_59 : decode cX7_base 59 = .ok (.invokespecial 100, 3) := by decide +kernel
theorem dX7_base_62 : decode cX7_base 62 = .ok (.athrow, 1) := by decide +kernel
theorem dX7_base_63 : decode cX7_base 63 = .ok (.aload 6, 2) := by decide +kernel
theorem dX7_base_65 : decode cX7_base 65 = .ok (.iload_n 2, 1) := by decide +kernel
theorem dX7_base_66 : decode cX7_base 66 = .ok (.iload_n 3, 1) := by decide +kernel
theorem dX7_base_67 : decode cX7_base 67 = .ok (.iload 4, 2) := by decide +kernel
theorem dX7_base_69 : decode cX7_base 69 = .ok (.iload 5, 2) := by decide +kernel
theorem dX7_base_71 : decode cX7_base 71 = .ok (.invokevirtual 119, 3) := by decide +kernel
theorem dX7_base_74 : decode cX7_base 74 = .ok (.ireturn, 1) := by decide +kernel
theorem dX7_joint_0 : decode cX7_joint 0 = .ok (.aload_n 0, 1) := by decide +kernel
theorem dX7_joint_1 : decode cX7_joint 1 = .ok (.iload_n 1, 1) := by decide +kernel
theorem dX7_joint_2 : decode cX7_joint 2 = .ok (.invokevirtual 70, 3) := by decide +kernel
theorem dX7_joint_5 : decode cX7_joint 5 = .ok (.iload_n 2, 1) := by decide +kernel
theorem dX7_joint_6 : decode cX7_joint 6 = .ok (.invokestatic 123, 3) := by decide +kernel
theorem dX7_joint_9 : decode cX7_joint 9 = .ok (.astore 4, 2) := by decide +kernel
theorem dX7_joint_11 : decode cX7_joint 11 = .ok (.iload_n 3, 1) := by decide +kernel
theorem dX7_joint_12 : decode cX7_joint 12 = .ok (.invokestatic 127, 3) := by decide +kernel
theorem dX7_joint_15 : decode cX7_joint 15 = .ok (.aload 4, 2) := by decide +kernel
theorem dX7_joint_17 : decode cX7_joint 17 = .ok (.getfield 130, 3) := by decide +kernel
theorem dX7_joint_20 : decode cX7_joint 20 = .ok (.istore 5, 2) := by decide +kernel
theorem dX7_joint_22 : decode cX7_joint 22 = .ok (.aload 4, 2) := by decide +kernel
theorem dX7_joint_24 : decode cX7_joint 24 = .ok (.iload_n 3, 1) := by decide +kernel
theorem dX7_joint_25 : decode cX7_joint 25 = .ok (.putfield 130, 3) := by decide +kernel
theorem dX7_joint_28 : decode cX7_joint 28 = .ok (.iload 5, 2) := by decide +kernel
theorem dX7_joint_30 : decode cX7_joint 30 = .ok (.ireturn, 1) := by decide +kernel
theorem dX7_less_0 : decode cX7_less 0 = .ok (.aload_n 0, 1) := by decide +kernel
theorem dX7_less_1 : decode cX7_less 1 = .ok (.iload_n 1, 1) := by decide +kernel
theorem dX7_less_2 : decode cX7_less 2 = .ok (.invokevirtual 70, 3) := by decide +kernel
theorem dX7_less_5 : decode cX7_less 5 = .ok (.iload_n 2, 1) := by decide +kernel
theorem dX7_less_6 : decode cX7_less 6 = .ok (.invokestatic 123, 3) := by decide +kernel
theorem dX7_less_9 : decode cX7_less 9 = .ok (.astore 5, 2) := by decide +kernel
theorem dX7_less_11 : decode cX7_less 11 = .ok (.iload 4, 2) := by decide +kernel
theorem dX7_less_13 : decode cX7_less 13 = .ok (.invokestatic 78, 3) := by decide +kernel
theorem dX7_less_16 : decode cX7_less 16 = .ok (.iload_n 3, 1) := by decide +kernel
theorem dX7_less_17 : decode cX7_less 17 = .ok (.iconst 0, 1) := by decide +kernel
theorem dX7_less_18 : decode cX7_less 18 = .ok (.bipush 9, 2) := by decide +kernel
theorem dX7_less_20 : decode cX7_less 20 = .ok (.invokestatic 82, 3) := by decide +kernel
theorem dX7_less_23 : decode cX7_less 23 = .ok (.aload 5, 2) := by decide +kernel
theorem dX7_less_25 : decode cX7_less 25 = .ok (.getfield 135, 3) := by decide +kernel
theorem dX7_less_28 : decode cX7_less 28 = .ok (.istore 6, 2) := by decide +kernel
theorem dX7_less_30 : decode cX7_less 30 = .ok (.aload 5, 2) := by decide +kernel
theorem dX7_less_32 : decode cX7_less 32 = .ok (.iload_n 3, 1) := by decide +kernel
theorem dX7_less_33 : decode cX7_less 33 = .ok (.putfield 135, 3) := by decide +kernel
theorem dX7_less_36 : decode cX7_less 36 = .ok (.aload 5, 2) := by decide +kernel
theorem dX7_less_38 : decode cX7_less 38 = .ok (.iload 4, 2) := by decide +kernel
theorem dX7_less_40 : decode cX7_less 40 = .ok (.putfield 138, 3) := by decide +kernel
theorem dX7_less_43 : decode cX7_less 43 = .ok (.iload 6, 2) := by decide +kernel
theorem dX7_less_45 : decode cX7_less 45 = .ok (.ireturn, 1) := by decide +kernel
theorem dX7_form_0 : decode cX7_form 0 = .ok (.aload_n 0, 1) := by decide +kernel
theorem dX7_form_1 : decode cX7_form 1 = .ok (.iload_n 1, 1) := by decide +kernel
theorem dX7_form_2 : decode cX7_form 2 = .ok (.invokevirtual 70, 3) := by decide +kernel
theorem dX7_form_5 : decode cX7_form 5 = .ok (.getfield 141, 3) := by decide +kernel
theorem dX7_form_8 : decode cX7_form 8 = .ok (.astore 5, 2) := by decide +kernel
theorem dX7_form_10 : decode cX7_form 10 = .ok (.iload_n 2, 1) := by decide +kernel
theorem dX7_form_11 : decode cX7_form 11 = .ok (.invokestatic 78, 3) := by decide +kernel
theorem dX7_form_14 : decode cX7_form 14 = .ok (.iload 4, 2) := by decide +kernel
theorem dX7_form_16 : decode cX7_form 16 = .ok (.invokestatic 78, 3) := by decide +kernel
theorem dX7_form_19 : decode cX7_form 19 = .ok (.iload_n 3, 1) := by decide +kernel
theorem dX7_form_20 : decode cX7_form 20 = .ok (.iconst 0, 1) := by decide +kernel
theorem dX7_form_21 : decode cX7_form 21 = .ok (.iconst 3, 1) := by decide +kernel
theorem dX7_form_22 : decode cX7_form 22 = .ok (.invokestatic 82, 3) := by decide +kernel
theorem dX7_form_25 : decode cX7_form 25 = .ok (.aload 5, 2) := by decide +kernel
theorem dX7_form_27 : decode cX7_form 27 = .ok (.iload_n 2, 1) := by decide +kernel
theorem dX7_form_28 : decode cX7_form 28 = .ok (.iload_n 3, 1) := by decide +kernel
theorem dX7_form_29 : decode cX7_form 29 = .ok (.invokevirtual 145, 3) := by decide +kernel
theorem dX7_form_32 : decode cX7_form 32 = .ok (.istore 6, 2) := by decide +kernel
theorem dX7_form_34 : decode cX7_form 34 = .ok (.iload 6, 2) := by decide +kernel
theorem dX7_form_36 : decode cX7_form 36 = .ok (.iconst (-1), 1) := by decide +kernel
theorem dX7_form_37 : decode cX7_form 37 = .ok (.if_icmp .ne 21, 3) := by decide +kernel
theorem dX7_form_40 : decode cX7_form 40 = .ok (.aload 5, 2) := by decide +kernel
theorem dX7_form_42 : decode cX7_form 42 = .ok (.invokevirtual 151, 3) := by decide +kernel
theorem dX7_form_45 : decode cX7_form 45 = .ok (.ifCond .eq 13, 3) := by decide +kernel
theorem dX7_form_48 : decode cX7_form 48 = .ok (.new 96, 3) := by decide +kernel
theorem dX7_form_51 : decode cX7_form 51 = .ok (.dup, 1) := by decide +kernel
theorem dX7_form_52 : decode cX7_form 52 = .ok (.ldc 152, 2) := by decide +kernel
theorem dX7_form_54 : decode cX7_form 54 = .ok (.invokespecial 100, 3) := by decide +kernel
theorem dX7_form_57 : decode cX7_form 57 = .ok (.athrow, 1) := by decide +kernel
theorem dX7_form_58 : decode cX7_form 58 = .ok (.aload 5, 2) := by decide +kernel
theorem dX7_form_60 : decode cX7_form 60 = .ok (.iload_n 2, 1) := by decide +kernel
theorem dX7_form_61 : decode cX7_form 61 = .ok (.iload_n 3, 1) := by decide +kernel
theorem dX7_form_62 : decode cX7_form 62 = .ok (.iload 4, 2) := by decide +kernel
theorem dX7_form_64 : decode cX7_form 64 = .ok (.invokevirtual 154, 3) := by decide +kernel
theorem dX7_form_67 : decode cX7_form 67 = .ok (.iload 6, 2) := by decide +kernel
theorem dX7_form_69 : decode cX7_form 69 = .ok (.ireturn, 1) := by decide +kernel
theorem dX7_ordinal_0 : decode cX7_ordinal 0 = .ok (.aload_n 0, 1) := by decide +kernel
theorem dX7_ordinal_1 : decode cX7_ordinal 1 = .ok (.iload_n 1, 1) := by decide +kernel
theorem dX7_ordinal_2 : decode cX7_ordinal 2 = .ok (.invokevirtual 70, 3) := by decide +kernel
theorem dX7_ordinal_5 : decode cX7_ordinal 5 = .ok (.astore_n 3, 1) := by decide +kernel
theorem dX7_ordinal_6 : decode cX7_ordinal 6 = .ok (.iload_n 2, 1) := by decide +kernel
theorem dX7_ordinal_7 : decode cX7_ordinal 7 = .ok (.invokestatic 127, 3) := by decide +kernel
theorem dX7_ordinal_10 : decode cX7_ordinal 10 = .ok (.aload_n 3, 1) := by decide +kernel
theorem dX7_ordinal_11 : decode cX7_ordinal 11 = .ok (.getfield 156, 3) := by decide +kernel
theorem dX7_ordinal_14 : decode cX7_ordinal 14 = .ok (.istore 4, 2) := by decide +kernel
theorem dX7_ordinal_16 : decode cX7_ordinal 16 = .ok (.aload_n 3, 1) := by decide +kernel
theorem dX7_ordinal_17 : decode cX7_ordinal 17 = .ok (.iload_n 2, 1) := by decide +kernel
theorem dX7_ordinal_18 : decode cX7_ordinal 18 = .ok (.putfield 156, 3) := by decide +kernel
theorem dX7_ordinal_21 : decode cX7_ordinal 21 = .ok (.iload 4, 2) := by decide +kernel
theorem dX7_ordinal_23 : decode cX7_ordinal 23 = .ok (.ireturn, 1) := by decide +kernel
theorem dX7_seam_0 : decode cX7_seam 0 = .ok (.aload_n 0, 1) := by decide +kernel
theorem dX7_seam_1 : decode cX7_seam 1 = .ok (.iload_n 1, 1) := by decide +kernel
theorem dX7_seam_2 : decode cX7_seam 2 = .ok (.invokevirtual 70, 3) := by decide +kernel
theorem dX7_seam_5 : decode cX7_seam 5 = .ok (.astore 5, 2) := by decide +kernel
theorem dX7_seam_7 : decode cX7_seam 7 = .ok (.iload_n 2, 1) := by decide +kernel
theorem dX7_seam_8 : decode cX7_seam 8 = .ok (.invokestatic 78, 3) := by decide +kernel
theorem dX7_seam_11 : decode cX7_seam 11 = .ok (.iload_n 3, 1) := by decide +kernel
theorem dX7_seam_12 : decode cX7_seam 12 = .ok (.invokestatic 78, 3) := by decide +kernel
theorem dX7_seam_15 : decode cX7_seam 15 = .ok (.iload 4, 2) := by decide +kernel
theorem dX7_seam_17 : decode cX7_seam 17 = .ok (.invokestatic 78, 3) := by decide +kernel
theorem dX7_seam_20 : decode cX7_seam 20 = .ok (.aload 5, 2) := by decide +kernel
theorem dX7_seam_22 : decode cX7_seam 22 = .ok (.getfield 159, 3) := by decide +kernel
theorem dX7_seam_25 : decode cX7_seam 25 = .ok (.bipush 6, 2) := by decide +kernel
theorem dX7_seam_27 : decode cX7_seam 27 = .ok (.if_icmp .lt 13, 3) := by decide +kernel
theorem dX7_seam_30 : decode cX7_seam 30 = .ok (.new 96, 3) := by decide +kernel
theorem dX7_seam_33 : decode cX7_seam 33 = .ok (.dup, 1) := by decide +kernel
theorem dX7_seam_34 : decode cX7_seam 34 = .ok (.ldc 162, 2) := by decide +kernel
theorem dX7_seam_36 : decode cX7_seam 36 = .ok (.invokespecial 100, 3) := by decide +kernel
theorem dX7_seam_39 : decode cX7_seam 39 = .ok (.athrow, 1) := by decide +kernel
theorem dX7_seam_40 : decode cX7_seam 40 = .ok (.aload 5, 2) := by decide +kernel
theorem dX7_seam_42 : decode cX7_seam 42 = .ok (.iload_n 2, 1) := by decide +kernel
theorem dX7_seam_43 : decode cX7_seam 43 = .ok (.iload_n 3, 1) := by decide +kernel
theorem dX7_seam_44 : decode cX7_seam 44 = .ok (.iload 4, 2) := by decide +kernel
theorem dX7_seam_46 : decode cX7_seam 46 = .ok (.invokevirtual 164, 3) := by decide +kernel
theorem dX7_seam_49 : decode cX7_seam 49 = .ok (.aload 5, 2) := by decide +kernel
theorem dX7_seam_51 : decode cX7_seam 51 = .ok (.getfield 159, 3) := by decide +kernel
theorem dX7_seam_54 : decode cX7_seam 54 = .ok (.ireturn, 1) := by decide +kernel
theorem dX7_empty_0 : decode cX7_empty 0 = .ok (.aload_n 0, 1) := by decide +kernel
theorem dX7_empty_1 : decode cX7_empty 1 = .ok (.iload_n 1, 1) := by decide +kernel
theorem dX7_empty_2 : decode cX7_empty 2 = .ok (.invokevirtual 70, 3) := by decide +kernel
theorem dX7_empty_5 : decode cX7_empty 5 = .ok (.astore_n 2, 1) := by decide +kernel
theorem dX7_empty_6 : decode cX7_empty 6 = .ok (.aload_n 2, 1) := by decide +kernel
theorem dX7_empty_7 : decode cX7_empty 7 = .ok (.getfield 74, 3) := by decide +kernel
theorem dX7_empty_10 : decode cX7_empty 10 = .ok (.getfield 167, 3) := by decide +kernel
theorem dX7_empty_13 : decode cX7_empty 13 = .ok (.aload_n 2, 1) := by decide +kernel
theorem dX7_empty_14 : decode cX7_empty 14 = .ok (.getfield 110, 3) := by decide +kernel
theorem dX7_empty_17 : decode cX7_empty 17 = .ok (.iadd, 1) := by decide +kernel
theorem dX7_empty_18 : decode cX7_empty 18 = .ok (.istore_n 3, 1) := by decide +kernel
theorem dX7_empty_19 : decode cX7_empty 19 = .ok (.aload_n 2, 1) := by decide +kernel
theorem dX7_empty_20 : decode cX7_empty 20 = .ok (.invokevirtual 170, 3) := by decide +kernel
theorem dX7_empty_23 : decode cX7_empty 23 = .ok (.iload_n 3, 1) := by decide +kernel
theorem dX7_empty_24 : decode cX7_empty 24 = .ok (.ireturn, 1) := by decide +kernel
theorem dX7_say_0 : decode cX7_say 0 = .ok (.aload_n 0, 1) := by decide +kernel
theorem dX7_say_1 : decode cX7_say 1 = .ok (.iload_n 1, 1) := by decide +kernel
theorem dX7_say_2 : decode cX7_say 2 = .ok (.invokevirtual 70, 3) := by decide +kernel
theorem dX7_say_5 : decode cX7_say 5 = .ok (.astore 4, 2) := by decide +kernel
theorem dX7_say_7 : decode cX7_say 7 = .ok (.iload_n 3, 1) := by decide +kernel
theorem dX7_say_8 : decode cX7_say 8 = .ok (.invokestatic 173, 3) := by decide +kernel
theorem dX7_say_11 : decode cX7_say 11 = .ok (.iload_n 2, 1) := by decide +kernel
theorem dX7_say_12 : decode cX7_say 12 = .ok (.iconst 0, 1) := by decide +kernel
theorem dX7_say_13 : decode cX7_say 13 = .ok (.sipush 9999, 3) := by decide +kernel
theorem dX7_say_16 : decode cX7_say 16 = .ok (.invokestatic 82, 3) := by decide +kernel
theorem dX7_say_19 : decode cX7_say 19 = .ok (.aload 4, 2) := by decide +kernel
theorem dX7_say_21 : decode cX7_say 21 = .ok (.iload_n 2, 1) := by decide +kernel
theorem dX7_say_22 : decode cX7_say 22 = .ok (.iload_n 3, 1) := by decide +kernel
theorem dX7_say_23 : decode cX7_say 23 = .ok (.aload_n 0, 1) := by decide +kernel
theorem dX7_say_24 : decode cX7_say 24 = .ok (.getfield 18, 3) := by decide +kernel
theorem dX7_say_27 : decode cX7_say 27 = .ok (.invokevirtual 176, 3) := by decide +kernel
theorem dX7_say_30 : decode cX7_say 30 = .ok (.pop, 1) := by decide +kernel
theorem dX7_say_31 : decode cX7_say 31 = .ok (.aload_n 0, 1) := by decide +kernel
theorem dX7_say_32 : decode cX7_say 32 = .ok (.getfield 18, 3) := by decide +kernel
theorem dX7_say_35 : decode cX7_say 35 = .ok (.getfield 180, 3) := by decide +kernel
theorem dX7_say_38 : decode cX7_say 38 = .ok (.ireturn, 1) := by decide +kernel
theorem dX7_sayOrdinal_0 : decode cX7_sayOrdinal 0 = .ok (.aload_n 0, 1) := by decide +kernel
theorem dX7_sayOrdinal_1 : decode cX7_sayOrdinal 1 = .ok (.iload_n 1, 1) := by decide +kernel
theorem dX7_sayOrdinal_2 : decode cX7_sayOrdinal 2 = .ok (.invokevirtual 70, 3) := by decide +kernel
theorem dX7_sayOrdinal_5 : decode cX7_sayOrdinal 5 = .ok (.astore_n 3, 1) := by decide +kernel
theorem dX7_sayOrdinal_6 : decode cX7_sayOrdinal 6 = .ok (.iload_n 2, 1) := by decide +kernel
theorem dX7_sayOrdinal_7 : decode cX7_sayOrdinal 7 = .ok (.iconst 0, 1) := by decide +kernel
theorem dX7_sayOrdinal_8 : decode cX7_sayOrdinal 8 = .ok (.sipush 9999, 3) := by decide +kernel
theorem dX7_sayOrdinal_11 : decode cX7_sayOrdinal 11 = .ok (.invokestatic 82, 3) := by decide +kernel
theorem dX7_sayOrdinal_14 : decode cX7_sayOrdinal 14 = .ok (.aload_n 3, 1) := by decide +kernel
theorem dX7_sayOrdinal_15 : decode cX7_sayOrdinal 15 = .ok (.iload_n 2, 1) := by decide +kernel
theorem dX7_sayOrdinal_16 : decode cX7_sayOrdinal 16 = .ok (.iconst 3, 1) := by decide +kernel
theorem dX7_sayOrdinal_17 : decode cX7_sayOrdinal 17 = .ok (.aload_n 0, 1) := by decide +kernel
theorem dX7_sayOrdinal_18 : decode cX7_sayOrdinal 18 = .ok (.getfield 18, 3) := by decide +kernel
theorem dX7_sayOrdinal_21 : decode cX7_sayOrdinal 21 = .ok (.invokevirtual 176, 3) := by decide +kernel
theorem dX7_sayOrdinal_24 : decode cX7_sayOrdinal 24 = .ok (.pop, 1) := by decide +kernel
theorem dX7_sayOrdinal_25 : decode cX7_sayOrdinal 25 = .ok (.aload_n 0, 1) := by decide +kernel
theorem dX7_sayOrdinal_26 : decode cX7_sayOrdinal 26 = .ok (.getfield 18, 3) := by decide +kernel
theorem dX7_sayOrdinal_29 : decode cX7_sayOrdinal 29 = .ok (.getfield 180, 3) := by decide +kernel
theorem dX7_sayOrdinal_32 : decode cX7_sayOrdinal 32 = .ok (.ireturn, 1) := by decide +kernel
theorem dX7_sayFraction_0 : decode cX7_sayFraction 0 = .ok (.aload_n 0, 1) := by decide +kernel
theorem dX7_sayFraction_1 : decode cX7_sayFraction 1 = .ok (.iload_n 1, 1) := by decide +kernel
theorem dX7_sayFraction_2 : decode cX7_sayFraction 2 = .ok (.invokevirtual 70, 3) := by decide +kernel
theorem dX7_sayFraction_5 : decode cX7_sayFraction 5 = .ok (.astore 5, 2) := by decide +kernel
theorem dX7_sayFraction_7 : decode cX7_sayFraction 7 = .ok (.iload 4, 2) := by decide +kernel
theorem dX7_sayFraction_9 : decode cX7_sayFraction 9 = .ok (.invokestatic 173, 3) := by decide +kernel
theorem dX7_sayFraction_12 : decode cX7_sayFraction 12 = .ok (.iload_n 2, 1) := by decide +kernel
theorem dX7_sayFraction_13 : decode cX7_sayFraction 13 = .ok (.iconst 0, 1) := by decide +kernel
theorem dX7_sayFraction_14 : decode cX7_sayFraction 14 = .ok (.sipush 9999, 3) := by decide +kernel
theorem dX7_sayFraction_17 : decode cX7_sayFraction 17 = .ok (.invokestatic 82, 3) := by decide +kernel
theorem dX7_sayFraction_20 : decode cX7_sayFraction 20 = .ok (.iload_n 3, 1) := by decide +kernel
theorem dX7_sayFraction_21 : decode cX7_sayFraction 21 = .ok (.iconst 1, 1) := by decide +kernel
theorem dX7_sayFraction_22 : decode cX7_sayFraction 22 = .ok (.sipush 9999, 3) := by decide +kernel
theorem dX7_sayFraction_25 : decode cX7_sayFraction 25 = .ok (.invokestatic 82, 3) := by decide +kernel
theorem dX7_sayFraction_28 : decode cX7_sayFraction 28 = .ok (.aload 5, 2) := by decide +kernel
theorem dX7_sayFraction_30 : decode cX7_sayFraction 30 = .ok (.iload_n 2, 1) := by decide +kernel
theorem dX7_sayFraction_31 : decode cX7_sayFraction 31 = .ok (.iload_n 3, 1) := by decide +kernel
theorem dX7_sayFraction_32 : decode cX7_sayFraction 32 = .ok (.iload 4, 2) := by decide +kernel
theorem dX7_sayFraction_34 : decode cX7_sayFraction 34 = .ok (.aload_n 0, 1) := by decide +kernel
theorem dX7_sayFraction_35 : decode cX7_sayFraction 35 = .ok (.getfield 18, 3) := by decide +kernel
theorem dX7_sayFraction_38 : decode cX7_sayFraction 38 = .ok (.invokevirtual 181, 3) := by decide +kernel
theorem dX7_sayFraction_41 : decode cX7_sayFraction 41 = .ok (.pop, 1) := by decide +kernel
theorem dX7_sayFraction_42 : decode cX7_sayFraction 42 = .ok (.aload_n 0, 1) := by decide +kernel
theorem dX7_sayFraction_43 : decode cX7_sayFraction 43 = .ok (.getfield 18, 3) := by decide +kernel
theorem dX7_sayFraction_46 : decode cX7_sayFraction 46 = .ok (.getfield 180, 3) := by decide +kernel
theorem dX7_sayFraction_49 : decode cX7_sayFraction 49 = .ok (.ireturn, 1) := by decide +kernel
theorem dX7_said_0 : decode cX7_said 0 = .ok (.iload_n 1, 1) := by decide +kernel
theorem dX7_said_1 : decode cX7_said 1 = .ok (.ifCond .lt 14, 3) := by decide +kernel
theorem dX7_said_4 : decode cX7_said 4 = .ok (.iload_n 1, 1) := by decide +kernel
theorem dX7_said_5 : decode cX7_said 5 = .ok (.aload_n 0, 1) := by decide +kernel
theorem dX7_said_6 : decode cX7_said 6 = .ok (.getfield 18, 3) := by decide +kernel
theorem dX7_said_9 : decode cX7_said 9 = .ok (.getfield 180, 3) := by decide +kernel
theorem dX7_said_12 : decode cX7_said 12 = .ok (.if_icmp .lt 13, 3) := by decide +kernel
theorem dX7_said_15 : decode cX7_said 15 = .ok (.new 185, 3) := by decide +kernel
theorem dX7_said_18 : decode cX7_said 18 = .ok (.dup, 1) := by decide +kernel
theorem dX7_said_19 : decode cX7_said 19 = .ok (.ldc 187, 2) := by decide +kernel
theorem dX7_said_21 : decode cX7_said 21 = .ok (.invokespecial 189, 3) := by decide +kernel
theorem dX7_said_24 : decode cX7_said 24 = .ok (.athrow, 1) := by decide +kernel
theorem dX7_said_25 : decode cX7_said 25 = .ok (.aload_n 0, 1) := by decide +kernel
theorem dX7_said_26 : decode cX7_said 26 = .ok (.getfield 18, 3) := by decide +kernel
theorem dX7_said_29 : decode cX7_said 29 = .ok (.iload_n 1, 1) := by decide +kernel
theorem dX7_said_30 : decode cX7_said 30 = .ok (.invokevirtual 190, 3) := by decide +kernel
theorem dX7_said_33 : decode cX7_said 33 = .ok (.ireturn, 1) := by decide +kernel
theorem dX7_hear_0 : decode cX7_hear 0 = .ok (.iload_n 1, 1) := by decide +kernel
theorem dX7_hear_1 : decode cX7_hear 1 = .ok (.invokestatic 127, 3) := by decide +kernel
theorem dX7_hear_4 : decode cX7_hear 4 = .ok (.aload_n 0, 1) := by decide +kernel
theorem dX7_hear_5 : decode cX7_hear 5 = .ok (.getfield 22, 3) := by decide +kernel
theorem dX7_hear_8 : decode cX7_hear 8 = .ok (.iload_n 1, 1) := by decide +kernel
theorem dX7_hear_9 : decode cX7_hear 9 = .ok (.invokevirtual 193, 3) := by decide +kernel
theorem dX7_hear_12 : decode cX7_hear 12 = .ok (.ifCond .ne 13, 3) := by decide +kernel
theorem dX7_hear_15 : decode cX7_hear 15 = .ok (.new 96, 3) := by decide +kernel
theorem dX7_hear_18 : decode cX7_hear 18 = .ok (.dup, 1) := by decide +kernel
theorem dX7_hear_19 : decode cX7_hear 19 = .ok (.ldc 196, 2) := by decide +kernel
theorem dX7_hear_21 : decode cX7_hear 21 = .ok (.invokespecial 100, 3) := by decide +kernel
theorem dX7_hear_24 : decode cX7_hear 24 = .ok (.athrow, 1) := by decide +kernel
theorem dX7_hear_25 : decode cX7_hear 25 = .ok (.aload_n 0, 1) := by decide +kernel
theorem dX7_hear_26 : decode cX7_hear 26 = .ok (.getfield 22, 3) := by decide +kernel
theorem dX7_hear_29 : decode cX7_hear 29 = .ok (.getfield 180, 3) := by decide +kernel
theorem dX7_hear_32 : decode cX7_hear 32 = .ok (.ireturn, 1) := by decide +kernel
theorem dX7_hearSaid_0 : decode cX7_hearSaid 0 = .ok (.aload_n 0, 1) := by decide +kernel
theorem dX7_hearSaid_1 : decode cX7_hearSaid 1 = .ok (.getfield 22, 3) := by decide +kernel
theorem dX7_hearSaid_4 : decode cX7_hearSaid 4 = .ok (.aload_n 0, 1) := by decide +kernel
theorem dX7_hearSaid_5 : decode cX7_hearSaid 5 = .ok (.getfield 18, 3) := by decide +kernel
theorem dX7_hearSaid_8 : decode cX7_hearSaid 8 = .ok (.invokevirtual 198, 3) := by decide +kernel
theorem dX7_hearSaid_11 : decode cX7_hearSaid 11 = .ok (.aload_n 0, 1) := by decide +kernel
theorem dX7_hearSaid_12 : decode cX7_hearSaid 12 = .ok (.getfield 22, 3) := by decide +kernel
theorem dX7_hearSaid_15 : decode cX7_hearSaid 15 = .ok (.getfield 180, 3) := by decide +kernel
theorem dX7_hearSaid_18 : decode cX7_hearSaid 18 = .ok (.ireturn, 1) := by decide +kernel
theorem dX7_forget_0 : decode cX7_forget 0 = .ok (.aload_n 0, 1) := by decide +kernel
theorem dX7_forget_1 : decode cX7_forget 1 = .ok (.getfield 22, 3) := by decide +kernel
theorem dX7_forget_4 : decode cX7_forget 4 = .ok (.getfield 180, 3) := by decide +kernel
theorem dX7_forget_7 : decode cX7_forget 7 = .ok (.istore_n 1, 1) := by decide +kernel
theorem dX7_forget_8 : decode cX7_forget 8 = .ok (.aload_n 0, 1) := by decide +kernel
theorem dX7_forget_9 : decode cX7_forget 9 = .ok (.getfield 22, 3) := by decide +kernel
theorem dX7_forget_12 : decode cX7_forget 12 = .ok (.invokevirtual 202, 3) := by decide +kernel
theorem dX7_forget_15 : decode cX7_forget 15 = .ok (.iload_n 1, 1) := by decide +kernel
theorem dX7_forget_16 : decode cX7_forget 16 = .ok (.ireturn, 1) := by decide +kernel
theorem dX7_fits_0 : decode cX7_fits 0 = .ok (.aload_n 0, 1) := by decide +kernel
theorem dX7_fits_1 : decode cX7_fits 1 = .ok (.iload_n 1, 1) := by decide +kernel
theorem dX7_fits_2 : decode cX7_fits 2 = .ok (.iload_n 2, 1) := by decide +kernel
theorem dX7_fits_3 : decode cX7_fits 3 = .ok (.iload_n 3, 1) := by decide +kernel
theorem dX7_fits_4 : decode cX7_fits 4 = .ok (.invokevirtual 203, 3) := by decide +kernel
theorem dX7_fits_7 : decode cX7_fits 7 = .ok (.astore 4, 2) := by decide +kernel
theorem dX7_fits_9 : decode cX7_fits 9 = .ok (.iconst 0, 1) := by decide +kernel
theorem dX7_fits_10 : decode cX7_fits 10 = .ok (.istore 5, 2) := by decide +kernel
theorem dX7_fits_12 : decode cX7_fits 12 = .ok (.iconst 0, 1) := by decide +kernel
theorem dX7_fits_13 : decode cX7_fits 13 = .ok (.istore 6, 2) := by decide +kernel
theorem dX7_fits_15 : decode cX7_fits 15 = .ok (.iload 6, 2) := by decide +kernel
theorem dX7_fits_17 : decode cX7_fits 17 = .ok (.iload_n 3, 1) := by decide +kernel
theorem dX7_fits_18 : decode cX7_fits 18 = .ok (.if_icmp .gt 24, 3) := by decide +kernel
theorem dX7_fits_21 : decode cX7_fits 21 = .ok (.aload_n 0, 1) := by decide +kernel
theorem dX7_fits_22 : decode cX7_fits 22 = .ok (.aload 4, 2) := by decide +kernel
theorem dX7_fits_24 : decode cX7_fits 24 = .ok (.iload 6, 2) := by decide +kernel
theorem dX7_fits_26 : decode cX7_fits 26 = .ok (.iload_n 2, 1) := by decide +kernel
theorem dX7_fits_27 : decode cX7_fits 27 = .ok (.invokevirtual 207, 3) := by decide +kernel
theorem dX7_fits_30 : decode cX7_fits 30 = .ok (.ifCond .eq 6, 3) := by decide +kernel
theorem dX7_fits_33 : decode cX7_fits 33 = .ok (.iinc 5 1, 3) := by decide +kernel
theorem dX7_fits_36 : decode cX7_fits 36 = .ok (.iinc 6 1, 3) := by decide +kernel
theorem dX7_fits_39 : decode cX7_fits 39 = .ok (.goto (-24), 3) := by decide +kernel
theorem dX7_fits_42 : decode cX7_fits 42 = .ok (.iload 5, 2) := by decide +kernel
theorem dX7_fits_44 : decode cX7_fits 44 = .ok (.ireturn, 1) := by decide +kernel
theorem dX7_fit_0 : decode cX7_fit 0 = .ok (.aload_n 0, 1) := by decide +kernel
theorem dX7_fit_1 : decode cX7_fit 1 = .ok (.iload_n 1, 1) := by decide +kernel
theorem dX7_fit_2 : decode cX7_fit 2 = .ok (.iload_n 2, 1) := by decide +kernel
theorem dX7_fit_3 : decode cX7_fit 3 = .ok (.iload_n 3, 1) := by decide +kernel
theorem dX7_fit_4 : decode cX7_fit 4 = .ok (.invokevirtual 203, 3) := by decide +kernel
theorem dX7_fit_7 : decode cX7_fit 7 = .ok (.astore 5, 2) := by decide +kernel
theorem dX7_fit_9 : decode cX7_fit 9 = .ok (.iload 4, 2) := by decide +kernel
theorem dX7_fit_11 : decode cX7_fit 11 = .ok (.ifCond .ge 13, 3) := by decide +kernel
theorem dX7_fit_14 : decode cX7_fit 14 = .ok (.new 211, 3) := by decide +kernel
theorem dX7_fit_17 : decode cX7_fit 17 = .ok (.dup, 1) := by decide +kernel
theorem dX7_fit_18 : decode cX7_fit 18 = .ok (.ldc 213, 2) := by decide +kernel
theorem dX7_fit_20 : decode cX7_fit 20 = .ok (.invokespecial 215, 3) := by decide +kernel
theorem dX7_fit_23 : decode cX7_fit 23 = .ok (.athrow, 1) := by decide +kernel
theorem dX7_fit_24 : decode cX7_fit 24 = .ok (.iconst 0, 1) := by decide +kernel
theorem dX7_fit_25 : decode cX7_fit 25 = .ok (.istore 6, 2) := by decide +kernel
theorem dX7_fit_27 : decode cX7_fit 27 = .ok (.iconst 0, 1) := by decide +kernel
theorem dX7_fit_28 : decode cX7_fit 28 = .ok (.istore 7, 2) := by decide +kernel
theorem dX7_fit_30 : decode cX7_fit 30 = .ok (.iload 7, 2) := by decide +kernel
theorem dX7_fit_32 : decode cX7_fit 32 = .ok (.iload_n 3, 1) := by decide +kernel
theorem dX7_fit_33 : decode cX7_fit 33 = .ok (.if_icmp .gt 34, 3) := by decide +kernel
theorem dX7_fit_36 : decode cX7_fit 36 = .ok (.aload_n 0, 1) := by decide +kernel
theorem dX7_fit_37 : decode cX7_fit 37 = .ok (.aload 5, 2) := by decide +kernel
theorem dX7_fit_39 : decode cX7_fit 39 = .ok (.iload 7, 2) := by decide +kernel
theorem dX7_fit_41 : decode cX7_fit 41 = .ok (.iload_n 2, 1) := by decide +kernel
theorem dX7_fit_42 : decode cX7_fit 42 = .ok (.invokevirtual 207, 3) := by decide +kernel
theorem dX7_fit_45 : decode cX7_fit 45 = .ok (.ifCond .eq 16, 3) := by decide +kernel
theorem dX7_fit_48 : decode cX7_fit 48 = .ok (.iload 6, 2) := by decide +kernel
theorem dX7_fit_50 : decode cX7_fit 50 = .ok (.iload 4, 2) := by decide +kernel
theorem dX7_fit_52 : decode cX7_fit 52 = .ok (.if_icmp .ne 6, 3) := by decide +kernel
theorem dX7_fit_55 : decode cX7_fit 55 = .ok (.iload 7, 2) := by decide +kernel
theorem dX7_fit_57 : decode cX7_fit 57 = .ok (.ireturn, 1) := by decide +kernel
theorem dX7_fit_58 : decode cX7_fit 58 = .ok (.iinc 6 1, 3) := by decide +kernel
theorem dX7_fit_61 : decode cX7_fit 61 = .ok (.iinc 7 1, 3) := by decide +kernel
theorem dX7_fit_64 : decode cX7_fit 64 = .ok (.goto (-34), 3) := by decide +kernel
theorem dX7_fit_67 : decode cX7_fit 67 = .ok (.iconst (-1), 1) := by decide +kernel
theorem dX7_fit_68 : decode cX7_fit 68 = .ok (.ireturn, 1) := by decide +kernel
theorem dX7_askWord_0 : decode cX7_askWord 0 = .ok (.aload_n 0, 1) := by decide +kernel
theorem dX7_askWord_1 : decode cX7_askWord 1 = .ok (.iload_n 1, 1) := by decide +kernel
theorem dX7_askWord_2 : decode cX7_askWord 2 = .ok (.iload_n 2, 1) := by decide +kernel
theorem dX7_askWord_3 : decode cX7_askWord 3 = .ok (.iload_n 3, 1) := by decide +kernel
theorem dX7_askWord_4 : decode cX7_askWord 4 = .ok (.invokevirtual 203, 3) := by decide +kernel
theorem dX7_askWord_7 : decode cX7_askWord 7 = .ok (.astore 4, 2) := by decide +kernel
theorem dX7_askWord_9 : decode cX7_askWord 9 = .ok (.aload_n 0, 1) := by decide +kernel
theorem dX7_askWord_10 : decode cX7_askWord 10 = .ok (.getfield 31, 3) := by decide +kernel
theorem dX7_askWord_13 : decode cX7_askWord 13 = .ok (.iconst 0, 1) := by decide +kernel
theorem dX7_askWord_14 : decode cX7_askWord 14 = .ok (.invokestatic 216, 3) := by decide +kernel
theorem dX7_askWord_17 : decode cX7_askWord 17 = .ok (.aload_n 0, 1) := by decide +kernel
theorem dX7_askWord_18 : decode cX7_askWord 18 = .ok (.getfield 35, 3) := by decide +kernel
theorem dX7_askWord_21 : decode cX7_askWord 21 = .ok (.iconst 0, 1) := by decide +kernel
theorem dX7_askWord_22 : decode cX7_askWord 22 = .ok (.invokestatic 216, 3) := by decide +kernel
theorem dX7_askWord_25 : decode cX7_askWord 25 = .ok (.iconst 0, 1) := by decide +kernel
theorem dX7_askWord_26 : decode cX7_askWord 26 = .ok (.istore 5, 2) := by decide +kernel
theorem dX7_askWord_28 : decode cX7_askWord 28 = .ok (.iconst 0, 1) := by decide +kernel
theorem dX7_askWord_29 : decode cX7_askWord 29 = .ok (.istore 6, 2) := by decide +kernel
theorem dX7_askWord_31 : decode cX7_askWord 31 = .ok (.iload 6, 2) := by decide +kernel
theorem dX7_askWord_33 : decode cX7_askWord 33 = .ok (.iload_n 3, 1) := by decide +kernel
theorem dX7_askWord_34 : decode cX7_askWord 34 = .ok (.if_icmp .gt 28, 3) := by decide +kernel
theorem dX7_askWord_37 : decode cX7_askWord 37 = .ok (.aload_n 0, 1) := by decide +kernel
theorem dX7_askWord_38 : decode cX7_askWord 38 = .ok (.aload 4, 2) := by decide +kernel
theorem dX7_askWord_40 : decode cX7_askWord 40 = .ok (.iload 6, 2) := by decide +kernel
theorem dX7_askWord_42 : decode cX7_askWord 42 = .ok (.iload_n 2, 1) := by decide +kernel
theorem dX7_askWord_43 : decode cX7_askWord 43 = .ok (.invokevirtual 207, 3) := by decide +kernel
theorem dX7_askWord_46 : decode cX7_askWord 46 = .ok (.ifCond .eq 10, 3) := by decide +kernel
theorem dX7_askWord_49 : decode cX7_askWord 49 = .ok (.iinc 5 1, 3) := by decide +kernel
theorem dX7_askWord_52 : decode cX7_askWord 52 = .ok (.aload_n 0, 1) := by decide +kernel
theorem dX7_askWord_53 : decode cX7_askWord 53 = .ok (.invokevirtual 222, 3) := by decide +kernel
theorem dX7_askWord_56 : decode cX7_askWord 56 = .ok (.iinc 6 1, 3) := by decide +kernel
theorem dX7_askWord_59 : decode cX7_askWord 59 = .ok (.goto (-28), 3) := by decide +kernel
theorem dX7_askWord_62 : decode cX7_askWord 62 = .ok (.iload 5, 2) := by decide +kernel
theorem dX7_askWord_64 : decode cX7_askWord 64 = .ok (.iconst 2, 1) := by decide +kernel
theorem dX7_askWord_65 : decode cX7_askWord 65 = .ok (.if_icmp .ge 7, 3) := by decide +kernel
theorem dX7_askWord_68 : decode cX7_askWord 68 = .ok (.iconst (-1), 1) := by decide +kernel
theorem dX7_askWord_69 : decode cX7_askWord 69 = .ok (.goto 7, 3) := by decide +kernel
theorem dX7_askWord_72 : decode cX7_askWord 72 = .ok (.aload_n 0, 1) := by decide +kernel
theorem dX7_askWord_73 : decode cX7_askWord 73 = .ok (.invokevirtual 225, 3) := by decide +kernel
theorem dX7_askWord_76 : decode cX7_askWord 76 = .ok (.ireturn, 1) := by decide +kernel
theorem dX7_gap_0 : decode cX7_gap 0 = .ok (.aload_n 0, 1) := by decide +kernel
theorem dX7_gap_1 : decode cX7_gap 1 = .ok (.iload_n 1, 1) := by decide +kernel
theorem dX7_gap_2 : decode cX7_gap 2 = .ok (.invokevirtual 70, 3) := by decide +kernel
theorem dX7_gap_5 : decode cX7_gap 5 = .ok (.astore_n 3, 1) := by decide +kernel
theorem dX7_gap_6 : decode cX7_gap 6 = .ok (.iload_n 2, 1) := by decide +kernel
theorem dX7_gap_7 : decode cX7_gap 7 = .ok (.iconst 0, 1) := by decide +kernel
theorem dX7_gap_8 : decode cX7_gap 8 = .ok (.sipush 999, 3) := by decide +kernel
theorem dX7_gap_11 : decode cX7_gap 11 = .ok (.invokestatic 82, 3) := by decide +kernel
theorem dX7_gap_14 : decode cX7_gap 14 = .ok (.iconst 0, 1) := by decide +kernel
theorem dX7_gap_15 : decode cX7_gap 15 = .ok (.istore 4, 2) := by decide +kernel
theorem dX7_gap_17 : decode cX7_gap 17 = .ok (.iload 4, 2) := by decide +kernel
theorem dX7_gap_19 : decode cX7_gap 19 = .ok (.iload_n 2, 1) := by decide +kernel
theorem dX7_gap_20 : decode cX7_gap 20 = .ok (.if_icmp .gt 26, 3) := by decide +kernel
theorem dX7_gap_23 : decode cX7_gap 23 = .ok (.aload_n 3, 1) := by decide +kernel
theorem dX7_gap_24 : decode cX7_gap 24 = .ok (.iload 4, 2) := by decide +kernel
theorem dX7_gap_26 : decode cX7_gap 26 = .ok (.iconst 0, 1) := by decide +kernel
theorem dX7_gap_27 : decode cX7_gap 27 = .ok (.aload_n 0, 1) := by decide +kernel
theorem dX7_gap_28 : decode cX7_gap 28 = .ok (.getfield 25, 3) := by decide +kernel
theorem dX7_gap_31 : decode cX7_gap 31 = .ok (.invokevirtual 176, 3) := by decide +kernel
theorem dX7_gap_34 : decode cX7_gap 34 = .ok (.ifCond .ne 6, 3) := by decide +kernel
theorem dX7_gap_37 : decode cX7_gap 37 = .ok (.iload 4, 2) := by decide +kernel
theorem dX7_gap_39 : decode cX7_gap 39 = .ok (.ireturn, 1) := by decide +kernel
theorem dX7_gap_40 : decode cX7_gap 40 = .ok (.iinc 4 1, 3) := by decide +kernel
theorem dX7_gap_43 : decode cX7_gap 43 = .ok (.goto (-26), 3) := by decide +kernel
theorem dX7_gap_46 : decode cX7_gap 46 = .ok (.iconst (-1), 1) := by decide +kernel
theorem dX7_gap_47 : decode cX7_gap 47 = .ok (.ireturn, 1) := by decide +kernel
theorem dX7_clash_0 : decode cX7_clash 0 = .ok (.aload_n 0, 1) := by decide +kernel
theorem dX7_clash_1 : decode cX7_clash 1 = .ok (.iload_n 1, 1) := by decide +kernel
theorem dX7_clash_2 : decode cX7_clash 2 = .ok (.iload_n 2, 1) := by decide +kernel
theorem dX7_clash_3 : decode cX7_clash 3 = .ok (.iload_n 3, 1) := by decide +kernel
theorem dX7_clash_4 : decode cX7_clash 4 = .ok (.invokevirtual 203, 3) := by decide +kernel
theorem dX7_clash_7 : decode cX7_clash 7 = .ok (.astore 4, 2) := by decide +kernel
theorem dX7_clash_9 : decode cX7_clash 9 = .ok (.aload_n 0, 1) := by decide +kernel
theorem dX7_clash_10 : decode cX7_clash 10 = .ok (.getfield 41, 3) := by decide +kernel
theorem dX7_clash_13 : decode cX7_clash 13 = .ok (.invokevirtual 229, 3) := by decide +kernel
theorem dX7_clash_16 : decode cX7_clash 16 = .ok (.iconst 0, 1) := by decide +kernel
theorem dX7_clash_17 : decode cX7_clash 17 = .ok (.istore 5, 2) := by decide +kernel
theorem dX7_clash_19 : decode cX7_clash 19 = .ok (.iload 5, 2) := by decide +kernel
theorem dX7_clash_21 : decode cX7_clash 21 = .ok (.iload_n 3, 1) := by decide +kernel
theorem dX7_clash_22 : decode cX7_clash 22 = .ok (.if_icmp .gt 59, 3) := by decide +kernel
theorem dX7_clash_25 : decode cX7_clash 25 = .ok (.aload 4, 2) := by decide +kernel
theorem dX7_clash_27 : decode cX7_clash 27 = .ok (.iload 5, 2) := by decide +kernel
theorem dX7_clash_29 : decode cX7_clash 29 = .ok (.iload_n 2, 1) := by decide +kernel
theorem dX7_clash_30 : decode cX7_clash 30 = .ok (.aload_n 0, 1) := by decide +kernel
theorem dX7_clash_31 : decode cX7_clash 31 = .ok (.getfield 25, 3) := by decide +kernel
theorem dX7_clash_34 : decode cX7_clash 34 = .ok (.invokevirtual 176, 3) := by decide +kernel
theorem dX7_clash_37 : decode cX7_clash 37 = .ok (.ifCond .eq 38, 3) := by decide +kernel
theorem dX7_clash_40 : decode cX7_clash 40 = .ok (.aload_n 0, 1) := by decide +kernel
theorem dX7_clash_41 : decode cX7_clash 41 = .ok (.getfield 25, 3) := by decide +kernel
theorem dX7_clash_44 : decode cX7_clash 44 = .ok (.invokevirtual 230, 3) := by decide +kernel
theorem dX7_clash_47 : decode cX7_clash 47 = .ok (.istore 6, 2) := by decide +kernel
theorem dX7_clash_49 : decode cX7_clash 49 = .ok (.aload_n 0, 1) := by decide +kernel
theorem dX7_clash_50 : decode cX7_clash 50 = .ok (.aload 4, 2) := by decide +kernel
theorem dX7_clash_52 : decode cX7_clash 52 = .ok (.iload_n 2, 1) := by decide +kernel
theorem dX7_clash_53 : decode cX7_clash 53 = .ok (.iload 6, 2) := by decide +kernel
theorem dX7_clash_55 : decode cX7_clash 55 = .ok (.invokevirtual 233, 3) := by decide +kernel
theorem dX7_clash_58 : decode cX7_clash 58 = .ok (.ifCond .eq 6, 3) := by decide +kernel
theorem dX7_clash_61 : decode cX7_clash 61 = .ok (.iload 5, 2) := by decide +kernel
theorem dX7_clash_63 : decode cX7_clash 63 = .ok (.ireturn, 1) := by decide +kernel
theorem dX7_clash_64 : decode cX7_clash 64 = .ok (.aload_n 0, 1) := by decide +kernel
theorem dX7_clash_65 : decode cX7_clash 65 = .ok (.getfield 41, 3) := by decide +kernel
theorem dX7_clash_68 : decode cX7_clash 68 = .ok (.iload 5, 2) := by decide +kernel
theorem dX7_clash_70 : decode cX7_clash 70 = .ok (.iload 6, 2) := by decide +kernel
theorem dX7_clash_72 : decode cX7_clash 72 = .ok (.invokevirtual 236, 3) := by decide +kernel
theorem dX7_clash_75 : decode cX7_clash 75 = .ok (.iinc 5 1, 3) := by decide +kernel
theorem dX7_clash_78 : decode cX7_clash 78 = .ok (.goto (-59), 3) := by decide +kernel
theorem dX7_clash_81 : decode cX7_clash 81 = .ok (.iconst (-1), 1) := by decide +kernel
theorem dX7_clash_82 : decode cX7_clash 82 = .ok (.ireturn, 1) := by decide +kernel
theorem dX7_example_0 : decode cX7_example 0 = .ok (.iload_n 1, 1) := by decide +kernel
theorem dX7_example_1 : decode cX7_example 1 = .ok (.iconst 0, 1) := by decide +kernel
theorem dX7_example_2 : decode cX7_example 2 = .ok (.sipush 9999, 3) := by decide +kernel
theorem dX7_example_5 : decode cX7_example 5 = .ok (.invokestatic 82, 3) := by decide +kernel
theorem dX7_example_8 : decode cX7_example 8 = .ok (.aload_n 0, 1) := by decide +kernel
theorem dX7_example_9 : decode cX7_example 9 = .ok (.getfield 52, 3) := by decide +kernel
theorem dX7_example_12 : decode cX7_example 12 = .ok (.bipush 20, 2) := by decide +kernel
theorem dX7_example_14 : decode cX7_example 14 = .ok (.if_icmp .ge 24, 3) := by decide +kernel
theorem dX7_example_17 : decode cX7_example 17 = .ok (.aload_n 0, 1) := by decide +kernel
theorem dX7_example_18 : decode cX7_example 18 = .ok (.getfield 22, 3) := by decide +kernel
theorem dX7_example_21 : decode cX7_example 21 = .ok (.getfield 180, 3) := by decide +kernel
theorem dX7_example_24 : decode cX7_example 24 = .ok (.ifCond .eq 14, 3) := by decide +kernel
theorem dX7_example_27 : decode cX7_example 27 = .ok (.aload_n 0, 1) := by decide +kernel
theorem dX7_example_28 : decode cX7_example 28 = .ok (.getfield 22, 3) := by decide +kernel
theorem dX7_example_31 : decode cX7_example 31 = .ok (.iconst (-1), 1) := by decide +kernel
theorem dX7_example_32 : decode cX7_example 32 = .ok (.invokevirtual 237, 3) := by decide +kernel
theorem dX7_example_35 : decode cX7_example 35 = .ok (.ifCond .eq 13, 3) := by decide +kernel
theorem dX7_example_38 : decode cX7_example 38 = .ok (.new 96, 3) := by decide +kernel
theorem dX7_example_41 : decode cX7_example 41 = .ok (.dup, 1) := by decide +kernel
theorem dX7_example_42 : decode cX7_example 42 = .ok (.ldc 240, 2) := by decide +kernel
theorem dX7_example_44 : decode cX7_example 44 = .ok (.invokespecial 100, 3) := by decide +kernel
theorem dX7_example_47 : decode cX7_example 47 = .ok (.athrow, 1) := by decide +kernel
theorem dX7_example_48 : decode cX7_example 48 = .ok (.aload_n 0, 1) := by decide +kernel
theorem dX7_example_49 : decode cX7_example 49 = .ok (.getfield 45, 3) := by decide +kernel
theorem dX7_example_52 : decode cX7_example 52 = .ok (.aload_n 0, 1) := by decide +kernel
theorem dX7_example_53 : decode cX7_example 53 = .ok (.getfield 52, 3) := by decide +kernel
theorem dX7_example_56 : decode cX7_example 56 = .ok (.iload_n 1, 1) := by decide +kernel
theorem dX7_example_57 : decode cX7_example 57 = .ok (.iastore, 1) := by decide +kernel
theorem dX7_example_58 : decode cX7_example 58 = .ok (.aload_n 0, 1) := by decide +kernel
theorem dX7_example_59 : decode cX7_example 59 = .ok (.getfield 48, 3) := by decide +kernel
theorem dX7_example_62 : decode cX7_example 62 = .ok (.aload_n 0, 1) := by decide +kernel
theorem dX7_example_63 : decode cX7_example 63 = .ok (.getfield 52, 3) := by decide +kernel
theorem dX7_example_66 : decode cX7_example 66 = .ok (.aaload, 1) := by decide +kernel
theorem dX7_example_67 : decode cX7_example 67 = .ok (.aload_n 0, 1) := by decide +kernel
theorem dX7_example_68 : decode cX7_example 68 = .ok (.getfield 22, 3) := by decide +kernel
theorem dX7_example_71 : decode cX7_example 71 = .ok (.invokevirtual 198, 3) := by decide +kernel
theorem dX7_example_74 : decode cX7_example 74 = .ok (.aload_n 0, 1) := by decide +kernel
theorem dX7_example_75 : decode cX7_example 75 = .ok (.dup, 1) := by decide +kernel
theorem dX7_example_76 : decode cX7_example 76 = .ok (.getfield 52, 3) := by decide +kernel
theorem dX7_example_79 : decode cX7_example 79 = .ok (.iconst 1, 1) := by decide +kernel
theorem dX7_example_80 : decode cX7_example 80 = .ok (.iadd, 1) := by decide +kernel
theorem dX7_example_81 : decode cX7_example 81 = .ok (.putfield 52, 3) := by decide +kernel
theorem dX7_example_84 : decode cX7_example 84 = .ok (.aload_n 0, 1) := by decide +kernel
theorem dX7_example_85 : decode cX7_example 85 = .ok (.getfield 52, 3) := by decide +kernel
theorem dX7_example_88 : decode cX7_example 88 = .ok (.ireturn, 1) := by decide +kernel
theorem dX7_dropExamples_0 : decode cX7_dropExamples 0 = .ok (.aload_n 0, 1) := by decide +kernel
theorem dX7_dropExamples_1 : decode cX7_dropExamples 1 = .ok (.getfield 52, 3) := by decide +kernel
theorem dX7_dropExamples_4 : decode cX7_dropExamples 4 = .ok (.istore_n 1, 1) := by decide +kernel
theorem dX7_dropExamples_5 : decode cX7_dropExamples 5 = .ok (.aload_n 0, 1) := by decide +kernel
theorem dX7_dropExamples_6 : decode cX7_dropExamples 6 = .ok (.iconst 0, 1) := by decide +kernel
theorem dX7_dropExamples_7 : decode cX7_dropExamples 7 = .ok (.putfield 52, 3) := by decide +kernel
theorem dX7_dropExamples_10 : decode cX7_dropExamples 10 = .ok (.iload_n 1, 1) := by decide +kernel
theorem dX7_dropExamples_11 : decode cX7_dropExamples 11 = .ok (.ireturn, 1) := by decide +kernel
theorem dX7_settings_0 : decode cX7_settings 0 = .ok (.aload_n 0, 1) := by decide +kernel
theorem dX7_settings_1 : decode cX7_settings 1 = .ok (.iload_n 1, 1) := by decide +kernel
theorem dX7_settings_2 : decode cX7_settings 2 = .ok (.invokevirtual 70, 3) := by decide +kernel
theorem dX7_settings_5 : decode cX7_settings 5 = .ok (.astore 4, 2) := by decide +kernel
theorem dX7_settings_7 : decode cX7_settings 7 = .ok (.aload 4, 2) := by decide +kernel
theorem dX7_settings_9 : decode cX7_settings 9 = .ok (.iload_n 2, 1) := by decide +kernel
theorem dX7_settings_10 : decode cX7_settings 10 = .ok (.invokestatic 123, 3) := by decide +kernel
theorem dX7_settings_13 : decode cX7_settings 13 = .ok (.astore 5, 2) := by decide +kernel
theorem dX7_settings_15 : decode cX7_settings 15 = .ok (.iload_n 3, 1) := by decide +kernel
theorem dX7_settings_16 : decode cX7_settings 16 = .ok (.invokestatic 78, 3) := by decide +kernel
theorem dX7_settings_19 : decode cX7_settings 19 = .ok (.aload_n 0, 1) := by decide +kernel
theorem dX7_settings_20 : decode cX7_settings 20 = .ok (.aload 4, 2) := by decide +kernel
theorem dX7_settings_22 : decode cX7_settings 22 = .ok (.aload 5, 2) := by decide +kernel
theorem dX7_settings_24 : decode cX7_settings 24 = .ok (.iload_n 3, 1) := by decide +kernel
theorem dX7_settings_25 : decode cX7_settings 25 = .ok (.invokevirtual 242, 3) := by decide +kernel
theorem dX7_settings_28 : decode cX7_settings 28 = .ok (.ireturn, 1) := by decide +kernel
theorem dX7_learn_0 : decode cX7_learn 0 = .ok (.aload_n 0, 1) := by decide +kernel
theorem dX7_learn_1 : decode cX7_learn 1 = .ok (.iload_n 1, 1) := by decide +kernel
theorem dX7_learn_2 : decode cX7_learn 2 = .ok (.invokevirtual 70, 3) := by decide +kernel
theorem dX7_learn_5 : decode cX7_learn 5 = .ok (.astore 4, 2) := by decide +kernel
theorem dX7_learn_7 : decode cX7_learn 7 = .ok (.aload 4, 2) := by decide +kernel
theorem dX7_learn_9 : decode cX7_learn 9 = .ok (.iload_n 2, 1) := by decide +kernel
theorem dX7_learn_10 : decode cX7_learn 10 = .ok (.invokestatic 123, 3) := by decide +kernel
theorem dX7_learn_13 : decode cX7_learn 13 = .ok (.astore 5, 2) := by decide +kernel
theorem dX7_learn_15 : decode cX7_learn 15 = .ok (.iload_n 3, 1) := by decide +kernel
theorem dX7_learn_16 : decode cX7_learn 16 = .ok (.invokestatic 78, 3) := by decide +kernel
theorem dX7_learn_19 : decode cX7_learn 19 = .ok (.aload_n 0, 1) := by decide +kernel
theorem dX7_learn_20 : decode cX7_learn 20 = .ok (.aload 4, 2) := by decide +kernel
theorem dX7_learn_22 : decode cX7_learn 22 = .ok (.aload 5, 2) := by decide +kernel
theorem dX7_learn_24 : decode cX7_learn 24 = .ok (.iload_n 3, 1) := by decide +kernel
theorem dX7_learn_25 : decode cX7_learn 25 = .ok (.invokevirtual 242, 3) := by decide +kernel
theorem dX7_learn_28 : decode cX7_learn 28 = .ok (.ifCond .ne 13, 3) := by decide +kernel
theorem dX7_learn_31 : decode cX7_learn 31 = .ok (.new 96, 3) := by decide +kernel
theorem dX7_learn_34 : decode cX7_learn 34 = .ok (.dup, 1) := by decide +kernel
theorem dX7_learn_35 : decode cX7_learn 35 = .ok (.ldc 246, 2) := by decide +kernel
theorem dX7_learn_37 : decode cX7_learn 37 = .ok (.invokespecial 100, 3) := by decide +kernel
theorem dX7_learn_40 : decode cX7_learn 40 = .ok (.athrow, 1) := by decide +kernel
theorem dX7_learn_41 : decode cX7_learn 41 = .ok (.aload_n 0, 1) := by decide +kernel
theorem dX7_learn_42 : decode cX7_learn 42 = .ok (.getfield 56, 3) := by decide +kernel
theorem dX7_learn_45 : decode cX7_learn 45 = .ok (.iconst 0, 1) := by decide +kernel
theorem dX7_learn_46 : decode cX7_learn 46 = .ok (.iaload, 1) := by decide +kernel
theorem dX7_learn_47 : decode cX7_learn 47 = .ok (.istore 6, 2) := by decide +kernel
theorem dX7_learn_49 : decode cX7_learn 49 = .ok (.aload 5, 2) := by decide +kernel
theorem dX7_learn_51 : decode cX7_learn 51 = .ok (.iload 6, 2) := by decide +kernel
theorem dX7_learn_53 : decode cX7_learn 53 = .ok (.iload_n 3, 1) := by decide +kernel
theorem dX7_learn_54 : decode cX7_learn 54 = .ok (.invokevirtual 248, 3) := by decide +kernel
theorem dX7_learn_57 : decode cX7_learn 57 = .ok (.iload 6, 2) := by decide +kernel
theorem dX7_learn_59 : decode cX7_learn 59 = .ok (.ireturn, 1) := by decide +kernel
theorem dX7_askNumber_0 : decode cX7_askNumber 0 = .ok (.aload_n 0, 1) := by decide +kernel
theorem dX7_askNumber_1 : decode cX7_askNumber 1 = .ok (.iload_n 1, 1) := by decide +kernel
theorem dX7_askNumber_2 : decode cX7_askNumber 2 = .ok (.invokevirtual 70, 3) := by decide +kernel
theorem dX7_askNumber_5 : decode cX7_askNumber 5 = .ok (.astore 5, 2) := by decide +kernel
theorem dX7_askNumber_7 : decode cX7_askNumber 7 = .ok (.aload 5, 2) := by decide +kernel
theorem dX7_askNumber_9 : decode cX7_askNumber 9 = .ok (.iload_n 2, 1) := by decide +kernel
theorem dX7_askNumber_10 : decode cX7_askNumber 10 = .ok (.invokestatic 123, 3) := by decide +kernel
theorem dX7_askNumber_13 : decode cX7_askNumber 13 = .ok (.astore 6, 2) := by decide +kernel
theorem dX7_askNumber_15 : decode cX7_askNumber 15 = .ok (.iload_n 3, 1) := by decide +kernel
theorem dX7_askNumber_16 : decode cX7_askNumber 16 = .ok (.invokestatic 78, 3) := by decide +kernel
theorem dX7_askNumber_19 : decode cX7_askNumber 19 = .ok (.iload 4, 2) := by decide +kernel
theorem dX7_askNumber_21 : decode cX7_askNumber 21 = .ok (.iconst 0, 1) := by decide +kernel
theorem dX7_askNumber_22 : decode cX7_askNumber 22 = .ok (.bipush 99, 2) := by decide +kernel
theorem dX7_askNumber_24 : decode cX7_askNumber 24 = .ok (.invokestatic 82, 3) := by decide +kernel
theorem dX7_askNumber_27 : decode cX7_askNumber 27 = .ok (.aload_n 0, 1) := by decide +kernel
theorem dX7_askNumber_28 : decode cX7_askNumber 28 = .ok (.aload 5, 2) := by decide +kernel
theorem dX7_askNumber_30 : decode cX7_askNumber 30 = .ok (.aload 6, 2) := by decide +kernel
theorem dX7_askNumber_32 : decode cX7_askNumber 32 = .ok (.iload_n 3, 1) := by decide +kernel
theorem dX7_askNumber_33 : decode cX7_askNumber 33 = .ok (.invokevirtual 242, 3) := by decide +kernel
theorem dX7_askNumber_36 : decode cX7_askNumber 36 = .ok (.istore 7, 2) := by decide +kernel
theorem dX7_askNumber_38 : decode cX7_askNumber 38 = .ok (.iconst (-1), 1) := by decide +kernel
theorem dX7_askNumber_39 : decode cX7_askNumber 39 = .ok (.istore 8, 2) := by decide +kernel
theorem dX7_askNumber_41 : decode cX7_askNumber 41 = .ok (.iload 7, 2) := by decide +kernel
theorem dX7_askNumber_43 : decode cX7_askNumber 43 = .ok (.istore 9, 2) := by decide +kernel
theorem dX7_askNumber_45 : decode cX7_askNumber 45 = .ok (.iconst 0, 1) := by decide +kernel
theorem dX7_askNumber_46 : decode cX7_askNumber 46 = .ok (.istore 10, 2) := by decide +kernel
theorem dX7_askNumber_48 : decode cX7_askNumber 48 = .ok (.iload 10, 2) := by decide +kernel
theorem dX7_askNumber_50 : decode cX7_askNumber 50 = .ok (.iload 4, 2) := by decide +kernel
theorem dX7_askNumber_52 : decode cX7_askNumber 52 = .ok (.if_icmp .gt 45, 3) := by decide +kernel
theorem dX7_askNumber_55 : decode cX7_askNumber 55 = .ok (.aload_n 0, 1) := by decide +kernel
theorem dX7_askNumber_56 : decode cX7_askNumber 56 = .ok (.aload 5, 2) := by decide +kernel
theorem dX7_askNumber_58 : decode cX7_askNumber 58 = .ok (.aload 6, 2) := by decide +kernel
theorem dX7_askNumber_60 : decode cX7_askNumber 60 = .ok (.iload_n 3, 1) := by decide +kernel
theorem dX7_askNumber_61 : decode cX7_askNumber 61 = .ok (.iload 10, 2) := by decide +kernel
theorem dX7_askNumber_63 : decode cX7_askNumber 63 = .ok (.iload 7, 2) := by decide +kernel
theorem dX7_askNumber_65 : decode cX7_askNumber 65 = .ok (.invokevirtual 251, 3) := by decide +kernel
theorem dX7_askNumber_68 : decode cX7_askNumber 68 = .ok (.aload_n 0, 1) := by decide +kernel
theorem dX7_askNumber_69 : decode cX7_askNumber 69 = .ok (.iload 7, 2) := by decide +kernel
theorem dX7_askNumber_71 : decode cX7_askNumber 71 = .ok (.invokevirtual 255, 3) := by decide +kernel
theorem dX7_askNumber_74 : decode cX7_askNumber 74 = .ok (.istore 11, 2) := by decide +kernel
theorem dX7_askNumber_76 : decode cX7_askNumber 76 = .ok (.iload 11, 2) := by decide +kernel
theorem dX7_askNumber_78 : decode cX7_askNumber 78 = .ok (.iload 9, 2) := by decide +kernel
theorem dX7_askNumber_80 : decode cX7_askNumber 80 = .ok (.if_icmp .ge 11, 3) := by decide +kernel
theorem dX7_askNumber_83 : decode cX7_askNumber 83 = .ok (.iload 11, 2) := by decide +kernel
theorem dX7_askNumber_85 : decode cX7_askNumber 85 = .ok (.istore 9, 2) := by decide +kernel
theorem dX7_askNumber_87 : decode cX7_askNumber 87 = .ok (.iload 10, 2) := by decide +kernel
theorem dX7_askNumber_89 : decode cX7_askNumber 89 = .ok (.istore 8, 2) := by decide +kernel
theorem dX7_askNumber_91 : decode cX7_askNumber 91 = .ok (.iinc 10 1, 3) := by decide +kernel
theorem dX7_askNumber_94 : decode cX7_askNumber 94 = .ok (.goto (-46), 3) := by decide +kernel
theorem dX7_askNumber_97 : decode cX7_askNumber 97 = .ok (.iload 8, 2) := by decide +kernel
theorem dX7_askNumber_99 : decode cX7_askNumber 99 = .ok (.ireturn, 1) := by decide +kernel
theorem dX7_baseTold_0 : decode cX7_baseTold 0 = .ok (.aload_n 0, 1) := by decide +kernel
theorem dX7_baseTold_1 : decode cX7_baseTold 1 = .ok (.iload_n 1, 1) := by decide +kernel
theorem dX7_baseTold_2 : decode cX7_baseTold 2 = .ok (.invokevirtual 70, 3) := by decide +kernel
theorem dX7_baseTold_5 : decode cX7_baseTold 5 = .ok (.iload_n 2, 1) := by decide +kernel
theorem dX7_baseTold_6 : decode cX7_baseTold 6 = .ok (.invokestatic 123, 3) := by decide +kernel
theorem dX7_baseTold_9 : decode cX7_baseTold 9 = .ok (.astore 4, 2) := by decide +kernel
theorem dX7_baseTold_11 : decode cX7_baseTold 11 = .ok (.iload_n 3, 1) := by decide +kernel
theorem dX7_baseTold_12 : decode cX7_baseTold 12 = .ok (.tableswitch 86 0 6 #[44, 50, 56, 62, 68, 74, 80], 44) := by decide +kernel
theorem dX7_baseTold_56 : decode cX7_baseTold 56 = .ok (.aload 4, 2) := by decide +kernel
theorem dX7_baseTold_58 : decode cX7_baseTold 58 = .ok (.getfield 258, 3) := by decide +kernel
theorem dX7_baseTold_61 : decode cX7_baseTold 61 = .ok (.ireturn, 1) := by decide +kernel
theorem dX7_baseTold_62 : decode cX7_baseTold 62 = .ok (.aload 4, 2) := by decide +kernel
theorem dX7_baseTold_64 : decode cX7_baseTold 64 = .ok (.getfield 261, 3) := by decide +kernel
theorem dX7_baseTold_67 : decode cX7_baseTold 67 = .ok (.ireturn, 1) := by decide +kernel
theorem dX7_baseTold_68 : decode cX7_baseTold 68 = .ok (.aload 4, 2) := by decide +kernel
theorem dX7_baseTold_70 : decode cX7_baseTold 70 = .ok (.getfield 264, 3) := by decide +kernel
theorem dX7_baseTold_73 : decode cX7_baseTold 73 = .ok (.ireturn, 1) := by decide +kernel
theorem dX7_baseTold_74 : decode cX7_baseTold 74 = .ok (.aload 4, 2) := by decide +kernel
theorem dX7_baseTold_76 : decode cX7_baseTold 76 = .ok (.getfield 267, 3) := by decide +kernel
theorem dX7_baseTold_79 : decode cX7_baseTold 79 = .ok (.ireturn, 1) := by decide +kernel
theorem dX7_baseTold_80 : decode cX7_baseTold 80 = .ok (.aload 4, 2) := by decide +kernel
theorem dX7_baseTold_82 : decode cX7_baseTold 82 = .ok (.getfield 130, 3) := by decide +kernel
theorem dX7_baseTold_85 : decode cX7_baseTold 85 = .ok (.ireturn, 1) := by decide +kernel
theorem dX7_baseTold_86 : decode cX7_baseTold 86 = .ok (.aload 4, 2) := by decide +kernel
theorem dX7_baseTold_88 : decode cX7_baseTold 88 = .ok (.getfield 135, 3) := by decide +kernel
theorem dX7_baseTold_91 : decode cX7_baseTold 91 = .ok (.ireturn, 1) := by decide +kernel
theorem dX7_baseTold_92 : decode cX7_baseTold 92 = .ok (.aload 4, 2) := by decide +kernel
theorem dX7_baseTold_94 : decode cX7_baseTold 94 = .ok (.getfield 138, 3) := by decide +kernel
theorem dX7_baseTold_97 : decode cX7_baseTold 97 = .ok (.ireturn, 1) := by decide +kernel
theorem dX7_baseTold_98 : decode cX7_baseTold 98 = .ok (.new 211, 3) := by decide +kernel
theorem dX7_baseTold_101 : decode cX7_baseTold 101 = .ok (.dup, 1) := by decide +kernel
theorem dX7_baseTold_102 : decode cX7_baseTold 102 = .ok (.ldc_w 270, 3) := by decide +kernel
theorem dX7_baseTold_105 : decode cX7_baseTold 105 = .ok (.invokespecial 215, 3) := by decide +kernel
theorem dX7_baseTold_108 : decode cX7_baseTold 108 = .ok (.athrow, 1) := by decide +kernel
theorem dX7_numberOf_0 : decode cX7_numberOf 0 = .ok (.aload_n 0, 1) := by decide +kernel
theorem dX7_numberOf_1 : decode cX7_numberOf 1 = .ok (.iload_n 1, 1) := by decide +kernel
theorem dX7_numberOf_2 : decode cX7_numberOf 2 = .ok (.invokevirtual 70, 3) := by decide +kernel
theorem dX7_numberOf_5 : decode cX7_numberOf 5 = .ok (.astore_n 3, 1) := by decide +kernel
theorem dX7_numberOf_6 : decode cX7_numberOf 6 = .ok (.iload_n 2, 1) := by decide +kernel
theorem dX7_numberOf_7 : decode cX7_numberOf 7 = .ok (.invokestatic 78, 3) := by decide +kernel
theorem dX7_numberOf_10 : decode cX7_numberOf 10 = .ok (.aload_n 3, 1) := by decide +kernel
theorem dX7_numberOf_11 : decode cX7_numberOf 11 = .ok (.iload_n 2, 1) := by decide +kernel
theorem dX7_numberOf_12 : decode cX7_numberOf 12 = .ok (.invokevirtual 272, 3) := by decide +kernel
theorem dX7_numberOf_15 : decode cX7_numberOf 15 = .ok (.ireturn, 1) := by decide +kernel
theorem dX7_cord_0 : decode cX7_cord 0 = .ok (.iload_n 1, 1) := by decide +kernel
theorem dX7_cord_1 : decode cX7_cord 1 = .ok (.invokestatic 275, 3) := by decide +kernel
theorem dX7_cord_4 : decode cX7_cord 4 = .ok (.iload_n 2, 1) := by decide +kernel
theorem dX7_cord_5 : decode cX7_cord 5 = .ok (.iconst 2, 1) := by decide +kernel
theorem dX7_cord_6 : decode cX7_cord 6 = .ok (.bipush 60, 2) := by decide +kernel
theorem dX7_cord_8 : decode cX7_cord 8 = .ok (.invokestatic 82, 3) := by decide +kernel
theorem dX7_cord_11 : decode cX7_cord 11 = .ok (.aload_n 0, 1) := by decide +kernel
theorem dX7_cord_12 : decode cX7_cord 12 = .ok (.getfield 65, 3) := by decide +kernel
theorem dX7_cord_15 : decode cX7_cord 15 = .ok (.getfield 278, 3) := by decide +kernel
theorem dX7_cord_18 : decode cX7_cord 18 = .ok (.iload_n 1, 1) := by decide +kernel
theorem dX7_cord_19 : decode cX7_cord 19 = .ok (.iaload, 1) := by decide +kernel
theorem dX7_cord_20 : decode cX7_cord 20 = .ok (.istore_n 3, 1) := by decide +kernel
theorem dX7_cord_21 : decode cX7_cord 21 = .ok (.aload_n 0, 1) := by decide +kernel
theorem dX7_cord_22 : decode cX7_cord 22 = .ok (.getfield 65, 3) := by decide +kernel
theorem dX7_cord_25 : decode cX7_cord 25 = .ok (.getfield 278, 3) := by decide +kernel
theorem dX7_cord_28 : decode cX7_cord 28 = .ok (.iload_n 1, 1) := by decide +kernel
theorem dX7_cord_29 : decode cX7_cord 29 = .ok (.iload_n 2, 1) := by decide +kernel
theorem dX7_cord_30 : decode cX7_cord 30 = .ok (.iastore, 1) := by decide +kernel
theorem dX7_cord_31 : decode cX7_cord 31 = .ok (.aload_n 0, 1) := by decide +kernel
theorem dX7_cord_32 : decode cX7_cord 32 = .ok (.getfield 65, 3) := by decide +kernel
theorem dX7_cord_35 : decode cX7_cord 35 = .ok (.invokevirtual 281, 3) := by decide +kernel
theorem dX7_cord_38 : decode cX7_cord 38 = .ok (.iload_n 3, 1) := by decide +kernel
theorem dX7_cord_39 : decode cX7_cord 39 = .ok (.ireturn, 1) := by decide +kernel
theorem dX7_count_0 : decode cX7_count 0 = .ok (.aload_n 0, 1) := by decide +kernel
theorem dX7_count_1 : decode cX7_count 1 = .ok (.getfield 65, 3) := by decide +kernel
theorem dX7_count_4 : decode cX7_count 4 = .ok (.lload_n 1, 1) := by decide +kernel
theorem dX7_count_5 : decode cX7_count 5 = .ok (.invokevirtual 282, 3) := by decide +kernel
theorem dX7_count_8 : decode cX7_count 8 = .ok (.lreturn, 1) := by decide +kernel
theorem dX7_knots_0 : decode cX7_knots 0 = .ok (.iload_n 1, 1) := by decide +kernel
theorem dX7_knots_1 : decode cX7_knots 1 = .ok (.invokestatic 275, 3) := by decide +kernel
theorem dX7_knots_4 : decode cX7_knots 4 = .ok (.aload_n 0, 1) := by decide +kernel
theorem dX7_knots_5 : decode cX7_knots 5 = .ok (.getfield 65, 3) := by decide +kernel
theorem dX7_knots_8 : decode cX7_knots 8 = .ok (.getfield 285, 3) := by decide +kernel
theorem dX7_knots_11 : decode cX7_knots 11 = .ok (.iload_n 1, 1) := by decide +kernel
theorem dX7_knots_12 : decode cX7_knots 12 = .ok (.iaload, 1) := by decide +kernel
theorem dX7_knots_13 : decode cX7_knots 13 = .ok (.ireturn, 1) := by decide +kernel
theorem dX7_lost_0 : decode cX7_lost 0 = .ok (.aload_n 0, 1) := by decide +kernel
theorem dX7_lost_1 : decode cX7_lost 1 = .ok (.getfield 65, 3) := by decide +kernel
theorem dX7_lost_4 : decode cX7_lost 4 = .ok (.getfield 288, 3) := by decide +kernel
theorem dX7_lost_7 : decode cX7_lost 7 = .ok (.lreturn, 1) := by decide +kernel
theorem dX7_shown_0 : decode cX7_shown 0 = .ok (.aload_n 0, 1) := by decide +kernel
theorem dX7_shown_1 : decode cX7_shown 1 = .ok (.getfield 65, 3) := by decide +kernel
theorem dX7_shown_4 : decode cX7_shown 4 = .ok (.invokevirtual 292, 3) := by decide +kernel
theorem dX7_shown_7 : decode cX7_shown 7 = .ok (.lreturn, 1) := by decide +kernel
theorem dX7_grammarAt_0 : decode cX7_grammarAt 0 = .ok (.iload_n 1, 1) := by decide +kernel
theorem dX7_grammarAt_1 : decode cX7_grammarAt 1 = .ok (.ifCond .lt 8, 3) := by decide +kernel
theorem dX7_grammarAt_4 : decode cX7_grammarAt 4 = .ok (.iload_n 1, 1) := by decide +kernel
theorem dX7_grammarAt_5 : decode cX7_grammarAt 5 = .ok (.iconst 4, 1) := by decide +kernel
theorem dX7_grammarAt_6 : decode cX7_grammarAt 6 = .ok (.if_icmp .lt 14, 3) := by decide +kernel
theorem dX7_grammarAt_9 : decode cX7_grammarAt 9 = .ok (.new 185, 3) := by decide +kernel
theorem dX7_grammarAt_12 : decode cX7_grammarAt 12 = .ok (.dup, 1) := by decide +kernel
theorem dX7_grammarAt_13 : decode cX7_grammarAt 13 = .ok (.ldc_w 296, 3) := by decide +kernel
theorem dX7_grammarAt_16 : decode cX7_grammarAt 16 = .ok (.invokespecial 189, 3) := by decide +kernel
theorem dX7_grammarAt_19 : decode cX7_grammarAt 19 = .ok (.athrow, 1) := by decide +kernel
theorem dX7_grammarAt_20 : decode cX7_grammarAt 20 = .ok (.aload_n 0, 1) := by decide +kernel
theorem dX7_grammarAt_21 : decode cX7_grammarAt 21 = .ok (.getfield 11, 3) := by decide +kernel
theorem dX7_grammarAt_24 : decode cX7_grammarAt 24 = .ok (.iload_n 1, 1) := by decide +kernel
theorem dX7_grammarAt_25 : decode cX7_grammarAt 25 = .ok (.aaload, 1) := by decide +kernel
theorem dX7_grammarAt_26 : decode cX7_grammarAt 26 = .ok (.areturn, 1) := by decide +kernel
theorem dX7_grammarToHear_0 : decode cX7_grammarToHear 0 = .ok (.aload_n 0, 1) := by decide +kernel
theorem dX7_grammarToHear_1 : decode cX7_grammarToHear 1 = .ok (.iload_n 1, 1) := by decide +kernel
theorem dX7_grammarToHear_2 : decode cX7_grammarToHear 2 = .ok (.invokevirtual 70, 3) := by decide +kernel
theorem dX7_grammarToHear_5 : decode cX7_grammarToHear 5 = .ok (.astore 4, 2) := by decide +kernel
theorem dX7_grammarToHear_7 : decode cX7_grammarToHear 7 = .ok (.iload_n 2, 1) := by decide +kernel
theorem dX7_grammarToHear_8 : decode cX7_grammarToHear 8 = .ok (.invokestatic 173, 3) := by decide +kernel
theorem dX7_grammarToHear_11 : decode cX7_grammarToHear 11 = .ok (.iload_n 3, 1) := by decide +kernel
theorem dX7_grammarToHear_12 : decode cX7_grammarToHear 12 = .ok (.iconst 0, 1) := by decide +kernel
theorem dX7_grammarToHear_13 : decode cX7_grammarToHear 13 = .ok (.sipush 999, 3) := by decide +kernel
theorem dX7_grammarToHear_16 : decode cX7_grammarToHear 16 = .ok (.invokestatic 82, 3) := by decide +kernel
theorem dX7_grammarToHear_19 : decode cX7_grammarToHear 19 = .ok (.aload 4, 2) := by decide +kernel
theorem dX7_grammarToHear_21 : decode cX7_grammarToHear 21 = .ok (.areturn, 1) := by decide +kernel
theorem dX7_baseAt_0 : decode cX7_baseAt 0 = .ok (.iload_n 1, 1) := by decide +kernel
theorem dX7_baseAt_1 : decode cX7_baseAt 1 = .ok (.ifCond .lt 11, 3) := by decide +kernel
theorem dX7_baseAt_4 : decode cX7_baseAt 4 = .ok (.iload_n 1, 1) := by decide +kernel
theorem dX7_baseAt_5 : decode cX7_baseAt 5 = .ok (.aload_n 0, 1) := by decide +kernel
theorem dX7_baseAt_6 : decode cX7_baseAt 6 = .ok (.getfield 110, 3) := by decide +kernel
theorem dX7_baseAt_9 : decode cX7_baseAt 9 = .ok (.if_icmp .lt 14, 3) := by decide +kernel
theorem dX7_baseAt_12 : decode cX7_baseAt 12 = .ok (.new 185, 3) := by decide +kernel
theorem dX7_baseAt_15 : decode cX7_baseAt 15 = .ok (.dup, 1) := by decide +kernel
theorem dX7_baseAt_16 : decode cX7_baseAt 16 = .ok (.ldc_w 298, 3) := by decide +kernel
theorem dX7_baseAt_19 : decode cX7_baseAt 19 = .ok (.invokespecial 189, 3) := by decide +kernel
theorem dX7_baseAt_22 : decode cX7_baseAt 22 = .ok (.athrow, 1) := by decide +kernel
theorem dX7_baseAt_23 : decode cX7_baseAt 23 = .ok (.aload_n 0, 1) := by decide +kernel
theorem dX7_baseAt_24 : decode cX7_baseAt 24 = .ok (.getfield 300, 3) := by decide +kernel
theorem dX7_baseAt_27 : decode cX7_baseAt 27 = .ok (.iload_n 1, 1) := by decide +kernel
theorem dX7_baseAt_28 : decode cX7_baseAt 28 = .ok (.aaload, 1) := by decide +kernel
theorem dX7_baseAt_29 : decode cX7_baseAt 29 = .ok (.areturn, 1) := by decide +kernel
theorem dX7_needWord_0 : decode cX7_needWord 0 = .ok (.iload_n 0, 1) := by decide +kernel
theorem dX7_needWord_1 : decode cX7_needWord 1 = .ok (.ifCond .lt 10, 3) := by decide +kernel
theorem dX7_needWord_4 : decode cX7_needWord 4 = .ok (.iload_n 0, 1) := by decide +kernel
theorem dX7_needWord_5 : decode cX7_needWord 5 = .ok (.sipush 200, 3) := by decide +kernel
theorem dX7_needWord_8 : decode cX7_needWord 8 = .ok (.if_icmp .lt 14, 3) := by decide +kernel
theorem dX7_needWord_11 : decode cX7_needWord 11 = .ok (.new 185, 3) := by decide +kernel
theorem dX7_needWord_14 : decode cX7_needWord 14 = .ok (.dup, 1) := by decide +kernel
theorem dX7_needWord_15 : decode cX7_needWord 15 = .ok (.ldc_w 303, 3) := by decide +kernel
theorem dX7_needWord_18 : decode cX7_needWord 18 = .ok (.invokespecial 189, 3) := by decide +kernel
theorem dX7_needWord_21 : decode cX7_needWord 21 = .ok (.athrow, 1) := by decide +kernel
theorem dX7_needWord_22 : decode cX7_needWord 22 = .ok (.return_, 1) := by decide +kernel
theorem dX7_needWordOrNone_0 : decode cX7_needWordOrNone 0 = .ok (.iload_n 0, 1) := by decide +kernel
theorem dX7_needWordOrNone_1 : decode cX7_needWordOrNone 1 = .ok (.iconst (-1), 1) := by decide +kernel
theorem dX7_needWordOrNone_2 : decode cX7_needWordOrNone 2 = .ok (.if_icmp .eq 7, 3) := by decide +kernel
theorem dX7_needWordOrNone_5 : decode cX7_needWordOrNone 5 = .ok (.iload_n 0, 1) := by decide +kernel
theorem dX7_needWordOrNone_6 : decode cX7_needWordOrNone 6 = .ok (.invokestatic 78, 3) := by decide +kernel
theorem dX7_needWordOrNone_9 : decode cX7_needWordOrNone 9 = .ok (.return_, 1) := by decide +kernel
theorem dX7_needClass_0 : decode cX7_needClass 0 = .ok (.iload_n 0, 1) := by decide +kernel
theorem dX7_needClass_1 : decode cX7_needClass 1 = .ok (.ifCond .lt 8, 3) := by decide +kernel
theorem dX7_needClass_4 : decode cX7_needClass 4 = .ok (.iload_n 0, 1) := by decide +kernel
theorem dX7_needClass_5 : decode cX7_needClass 5 = .ok (.iconst 3, 1) := by decide +kernel
theorem dX7_needClass_6 : decode cX7_needClass 6 = .ok (.if_icmp .lt 14, 3) := by decide +kernel
theorem dX7_needClass_9 : decode cX7_needClass 9 = .ok (.new 185, 3) := by decide +kernel
theorem dX7_needClass_12 : decode cX7_needClass 12 = .ok (.dup, 1) := by decide +kernel
theorem dX7_needClass_13 : decode cX7_needClass 13 = .ok (.ldc_w 305, 3) := by decide +kernel
theorem dX7_needClass_16 : decode cX7_needClass 16 = .ok (.invokespecial 189, 3) := by decide +kernel
theorem dX7_needClass_19 : decode cX7_needClass 19 = .ok (.athrow, 1) := by decide +kernel
theorem dX7_needClass_20 : decode cX7_needClass 20 = .ok (.return_, 1) := by decide +kernel
theorem dX7_needCord_0 : decode cX7_needCord 0 = .ok (.iload_n 0, 1) := by decide +kernel
theorem dX7_needCord_1 : decode cX7_needCord 1 = .ok (.ifCond .lt 9, 3) := by decide +kernel
theorem dX7_needCord_4 : decode cX7_needCord 4 = .ok (.iload_n 0, 1) := by decide +kernel
theorem dX7_needCord_5 : decode cX7_needCord 5 = .ok (.bipush 6, 2) := by decide +kernel
theorem dX7_needCord_7 : decode cX7_needCord 7 = .ok (.if_icmp .lt 14, 3) := by decide +kernel
theorem dX7_needCord_10 : decode cX7_needCord 10 = .ok (.new 185, 3) := by decide +kernel
theorem dX7_needCord_13 : decode cX7_needCord 13 = .ok (.dup, 1) := by decide +kernel
theorem dX7_needCord_14 : decode cX7_needCord 14 = .ok (.ldc_w 307, 3) := by decide +kernel
theorem dX7_needCord_17 : decode cX7_needCord 17 = .ok (.invokespecial 189, 3) := by decide +kernel
theorem dX7_needCord_20 : decode cX7_needCord 20 = .ok (.athrow, 1) := by decide +kernel
theorem dX7_needCord_21 : decode cX7_needCord 21 = .ok (.return_, 1) := by decide +kernel
theorem dX7_needRange_0 : decode cX7_needRange 0 = .ok (.iload_n 0, 1) := by decide +kernel
theorem dX7_needRange_1 : decode cX7_needRange 1 = .ok (.iload_n 1, 1) := by decide +kernel
theorem dX7_needRange_2 : decode cX7_needRange 2 = .ok (.if_icmp .lt 8, 3) := by decide +kernel
theorem dX7_needRange_5 : decode cX7_needRange 5 = .ok (.iload_n 0, 1) := by decide +kernel
theorem dX7_needRange_6 : decode cX7_needRange 6 = .ok (.iload_n 2, 1) := by decide +kernel
theorem dX7_needRange_7 : decode cX7_needRange 7 = .ok (.if_icmp .le 14, 3) := by decide +kernel
theorem dX7_needRange_10 : decode cX7_needRange 10 = .ok (.new 211, 3) := by decide +kernel
theorem dX7_needRange_13 : decode cX7_needRange 13 = .ok (.dup, 1) := by decide +kernel
theorem dX7_needRange_14 : decode cX7_needRange 14 = .ok (.ldc_w 309, 3) := by decide +kernel
theorem dX7_needRange_17 : decode cX7_needRange 17 = .ok (.invokespecial 215, 3) := by decide +kernel
theorem dX7_needRange_20 : decode cX7_needRange 20 = .ok (.athrow, 1) := by decide +kernel
theorem dX7_needRange_21 : decode cX7_needRange 21 = .ok (.return_, 1) := by decide +kernel
theorem dX7_isHeard_0 : decode cX7_isHeard 0 = .ok (.aload_n 1, 1) := by decide +kernel
theorem dX7_isHeard_1 : decode cX7_isHeard 1 = .ok (.iload_n 2, 1) := by decide +kernel
theorem dX7_isHeard_2 : decode cX7_isHeard 2 = .ok (.iload_n 3, 1) := by decide +kernel
theorem dX7_isHeard_3 : decode cX7_isHeard 3 = .ok (.aload_n 0, 1) := by decide +kernel
theorem dX7_isHeard_4 : decode cX7_isHeard 4 = .ok (.getfield 25, 3) := by decide +kernel
theorem dX7_isHeard_7 : decode cX7_isHeard 7 = .ok (.invokevirtual 176, 3) := by decide +kernel
theorem dX7_isHeard_10 : decode cX7_isHeard 10 = .ok (.ifCond .eq 21, 3) := by decide +kernel
theorem dX7_isHeard_13 : decode cX7_isHeard 13 = .ok (.aload_n 0, 1) := by decide +kernel
theorem dX7_isHeard_14 : decode cX7_isHeard 14 = .ok (.getfield 25, 3) := by decide +kernel
theorem dX7_isHeard_17 : decode cX7_isHeard 17 = .ok (.aload_n 0, 1) := by decide +kernel
theorem dX7_isHeard_18 : decode cX7_isHeard 18 = .ok (.getfield 22, 3) := by decide +kernel
theorem dX7_isHeard_21 : decode cX7_isHeard 21 = .ok (.invokevirtual 311, 3) := by decide +kernel
theorem dX7_isHeard_24 : decode cX7_isHeard 24 = .ok (.ifCond .eq 7, 3) := by decide +kernel
theorem dX7_isHeard_27 : decode cX7_isHeard 27 = .ok (.iconst 1, 1) := by decide +kernel
theorem dX7_isHeard_28 : decode cX7_isHeard 28 = .ok (.goto 4, 3) := by decide +kernel
theorem dX7_isHeard_31 : decode cX7_isHeard 31 = .ok (.iconst 0, 1) := by decide +kernel
theorem dX7_isHeard_32 : decode cX7_isHeard 32 = .ok (.ireturn, 1) := by decide +kernel
theorem dX7_tallySpoken_0 : decode cX7_tallySpoken 0 = .ok (.iconst 0, 1) := by decide +kernel
theorem dX7_tallySpoken_1 : decode cX7_tallySpoken 1 = .ok (.istore_n 1, 1) := by decide +kernel
theorem dX7_tallySpoken_2 : decode cX7_tallySpoken 2 = .ok (.iload_n 1, 1) := by decide +kernel
theorem dX7_tallySpoken_3 : decode cX7_tallySpoken 3 = .ok (.aload_n 0, 1) := by decide +kernel
theorem dX7_tallySpoken_4 : decode cX7_tallySpoken 4 = .ok (.getfield 22, 3) := by decide +kernel
theorem dX7_tallySpoken_7 : decode cX7_tallySpoken 7 = .ok (.getfield 180, 3) := by decide +kernel
theorem dX7_tallySpoken_10 : decode cX7_tallySpoken 10 = .ok (.if_icmp .ge 80, 3) := by decide +kernel
theorem dX7_tallySpoken_13 : decode cX7_tallySpoken 13 = .ok (.aload_n 0, 1) := by decide +kernel
theorem dX7_tallySpoken_14 : decode cX7_tallySpoken 14 = .ok (.getfield 25, 3) := by decide +kernel
theorem dX7_tallySpoken_17 : decode cX7_tallySpoken 17 = .ok (.iload_n 1, 1) := by decide +kernel
theorem dX7_tallySpoken_18 : decode cX7_tallySpoken 18 = .ok (.invokevirtual 190, 3) := by decide +kernel
theorem dX7_tallySpoken_21 : decode cX7_tallySpoken 21 = .ok (.istore_n 2, 1) := by decide +kernel
theorem dX7_tallySpoken_22 : decode cX7_tallySpoken 22 = .ok (.iload_n 2, 1) := by decide +kernel
theorem dX7_tallySpoken_23 : decode cX7_tallySpoken 23 = .ok (.ifCond .lt 61, 3) := by decide +kernel
theorem dX7_tallySpoken_26 : decode cX7_tallySpoken 26 = .ok (.iload_n 2, 1) := by decide +kernel
theorem dX7_tallySpoken_27 : decode cX7_tallySpoken 27 = .ok (.sipush 200, 3) := by decide +kernel
theorem dX7_tallySpoken_30 : decode cX7_tallySpoken 30 = .ok (.if_icmp .ge 54, 3) := by decide +kernel
theorem dX7_tallySpoken_33 : decode cX7_tallySpoken 33 = .ok (.aload_n 0, 1) := by decide +kernel
theorem dX7_tallySpoken_34 : decode cX7_tallySpoken 34 = .ok (.getfield 22, 3) := by decide +kernel
theorem dX7_tallySpoken_37 : decode cX7_tallySpoken 37 = .ok (.iload_n 1, 1) := by decide +kernel
theorem dX7_tallySpoken_38 : decode cX7_tallySpoken 38 = .ok (.invokevirtual 190, 3) := by decide +kernel
theorem dX7_tallySpoken_41 : decode cX7_tallySpoken 41 = .ok (.iconst (-1), 1) := by decide +kernel
theorem dX7_tallySpoken_42 : decode cX7_tallySpoken 42 = .ok (.if_icmp .ne 42, 3) := by decide +kernel
theorem dX7_tallySpoken_45 : decode cX7_tallySpoken 45 = .ok (.iload_n 1, 1) := by decide +kernel
theorem dX7_tallySpoken_46 : decode cX7_tallySpoken 46 = .ok (.sipush 200, 3) := by decide +kernel
theorem dX7_tallySpoken_49 : decode cX7_tallySpoken 49 = .ok (.imul, 1) := by decide +kernel
theorem dX7_tallySpoken_50 : decode cX7_tallySpoken 50 = .ok (.iload_n 2, 1) := by decide +kernel
theorem dX7_tallySpoken_51 : decode cX7_tallySpoken 51 = .ok (.iadd, 1) := by decide +kernel
theorem dX7_tallySpoken_52 : decode cX7_tallySpoken 52 = .ok (.istore_n 3, 1) := by decide +kernel
theorem dX7_tallySpoken_53 : decode cX7_tallySpoken 53 = .ok (.aload_n 0, 1) := by decide +kernel
theorem dX7_tallySpoken_54 : decode cX7_tallySpoken 54 = .ok (.getfield 31, 3) := by decide +kernel
theorem dX7_tallySpoken_57 : decode cX7_tallySpoken 57 = .ok (.iload_n 3, 1) := by decide +kernel
theorem dX7_tallySpoken_58 : decode cX7_tallySpoken 58 = .ok (.dup2, 1) := by decide +kernel
theorem dX7_tallySpoken_59 : decode cX7_tallySpoken 59 = .ok (.iaload, 1) := by decide +kernel
theorem dX7_tallySpoken_60 : decode cX7_tallySpoken 60 = .ok (.iconst 1, 1) := by decide +kernel
theorem dX7_tallySpoken_61 : decode cX7_tallySpoken 61 = .ok (.iadd, 1) := by decide +kernel
theorem dX7_tallySpoken_62 : decode cX7_tallySpoken 62 = .ok (.iastore, 1) := by decide +kernel
theorem dX7_tallySpoken_63 : decode cX7_tallySpoken 63 = .ok (.aload_n 0, 1) := by decide +kernel
theorem dX7_tallySpoken_64 : decode cX7_tallySpoken 64 = .ok (.getfield 35, 3) := by decide +kernel
theorem dX7_tallySpoken_67 : decode cX7_tallySpoken 67 = .ok (.iload_n 1, 1) := by decide +kernel
theorem dX7_tallySpoken_68 : decode cX7_tallySpoken 68 = .ok (.aload_n 0, 1) := by decide +kernel
theorem dX7_tallySpoken_69 : decode cX7_tallySpoken 69 = .ok (.getfield 35, 3) := by decide +kernel
theorem dX7_tallySpoken_72 : decode cX7_tallySpoken 72 = .ok (.iload_n 1, 1) := by decide +kernel
theorem dX7_tallySpoken_73 : decode cX7_tallySpoken 73 = .ok (.iaload, 1) := by decide +kernel
theorem dX7_tallySpoken_74 : decode cX7_tallySpoken 74 = .ok (.aload_n 0, 1) := by decide +kernel
theorem dX7_tallySpoken_75 : decode cX7_tallySpoken 75 = .ok (.getfield 31, 3) := by decide +kernel
theorem dX7_tallySpoken_78 : decode cX7_tallySpoken 78 = .ok (.iload_n 3, 1) := by decide +kernel
theorem dX7_tallySpoken_79 : decode cX7_tallySpoken 79 = .ok (.iaload, 1) := by decide +kernel
theorem dX7_tallySpoken_80 : decode cX7_tallySpoken 80 = .ok (.invokestatic 315, 3) := by decide +kernel
theorem dX7_tallySpoken_83 : decode cX7_tallySpoken 83 = .ok (.iastore, 1) := by decide +kernel
theorem dX7_tallySpoken_84 : decode cX7_tallySpoken 84 = .ok (.iinc 1 1, 3) := by decide +kernel
theorem dX7_tallySpoken_87 : decode cX7_tallySpoken 87 = .ok (.goto (-85), 3) := by decide +kernel
theorem dX7_tallySpoken_90 : decode cX7_tallySpoken 90 = .ok (.return_, 1) := by decide +kernel
theorem dX7_placeOfLeastTally_0 : decode cX7_placeOfLeastTally 0 = .ok (.iconst (-1), 1) := by decide +kernel
theorem dX7_placeOfLeastTally_1 : decode cX7_placeOfLeastTally 1 = .ok (.istore_n 1, 1) := by decide +kernel
theorem dX7_placeOfLeastTally_2 : decode cX7_placeOfLeastTally 2 = .ok (.iconst 0, 1) := by decide +kernel
theorem dX7_placeOfLeastTally_3 : decode cX7_placeOfLeastTally 3 = .ok (.istore_n 2, 1) := by decide +kernel
theorem dX7_placeOfLeastTally_4 : decode cX7_placeOfLeastTally 4 = .ok (.iconst 0, 1) := by decide +kernel
theorem dX7_placeOfLeastTally_5 : decode cX7_placeOfLeastTally 5 = .ok (.istore_n 3, 1) := by decide +kernel
theorem dX7_placeOfLeastTally_6 : decode cX7_placeOfLeastTally 6 = .ok (.iload_n 3, 1) := by decide +kernel
theorem dX7_placeOfLeastTally_7 : decode cX7_placeOfLeastTally 7 = .ok (.aload_n 0, 1) := by decide +kernel
theorem dX7_placeOfLeastTally_8 : decode cX7_placeOfLeastTally 8 = .ok (.getfield 22, 3) := by decide +kernel
theorem dX7_placeOfLeastTally_11 : decode cX7_placeOfLeastTally 11 = .ok (.getfield 180, 3) := by decide +kernel
theorem dX7_placeOfLeastTally_14 : decode cX7_placeOfLeastTally 14 = .ok (.if_icmp .ge 45, 3) := by decide +kernel
theorem dX7_placeOfLeastTally_17 : decode cX7_placeOfLeastTally 17 = .ok (.aload_n 0, 1) := by decide +kernel
theorem dX7_placeOfLeastTally_18 : decode cX7_placeOfLeastTally 18 = .ok (.getfield 22, 3) := by decide +kernel
theorem dX7_placeOfLeastTally_21 : decode cX7_placeOfLeastTally 21 = .ok (.iload_n 3, 1) := by decide +kernel
theorem dX7_placeOfLeastTally_22 : decode cX7_placeOfLeastTally 22 = .ok (.invokevirtual 190, 3) := by decide +kernel
theorem dX7_placeOfLeastTally_25 : decode cX7_placeOfLeastTally 25 = .ok (.iconst (-1), 1) := by decide +kernel
theorem dX7_placeOfLeastTally_26 : decode cX7_placeOfLeastTally 26 = .ok (.if_icmp .ne 27, 3) := by decide +kernel
theorem dX7_placeOfLeastTally_29 : decode cX7_placeOfLeastTally 29 = .ok (.iload_n 1, 1) := by decide +kernel
theorem dX7_placeOfLeastTally_30 : decode cX7_placeOfLeastTally 30 = .ok (.iconst (-1), 1) := by decide +kernel
theorem dX7_placeOfLeastTally_31 : decode cX7_placeOfLeastTally 31 = .ok (.if_icmp .eq 13, 3) := by decide +kernel
theorem dX7_placeOfLeastTally_34 : decode cX7_placeOfLeastTally 34 = .ok (.aload_n 0, 1) := by decide +kernel
theorem dX7_placeOfLeastTally_35 : decode cX7_placeOfLeastTally 35 = .ok (.getfield 35, 3) := by decide +kernel
theorem dX7_placeOfLeastTally_38 : decode cX7_placeOfLeastTally 38 = .ok (.iload_n 3, 1) := by decide +kernel
theorem dX7_placeOfLeastTally_39 : decode cX7_placeOfLeastTally 39 = .ok (.iaload, 1) := by decide +kernel
theorem dX7_placeOfLeastTally_40 : decode cX7_placeOfLeastTally 40 = .ok (.iload_n 2, 1) := by decide +kernel
theorem dX7_placeOfLeastTally_41 : decode cX7_placeOfLeastTally 41 = .ok (.if_icmp .ge 12, 3) := by decide +kernel
theorem dX7_placeOfLeastTally_44 : decode cX7_placeOfLeastTally 44 = .ok (.aload_n 0, 1) := by decide +kernel
theorem dX7_placeOfLeastTally_45 : decode cX7_placeOfLeastTally 45 = .ok (.getfield 35, 3) := by decide +kernel
theorem dX7_placeOfLeastTally_48 : decode cX7_placeOfLeastTally 48 = .ok (.iload_n 3, 1) := by decide +kernel
theorem dX7_placeOfLeastTally_49 : decode cX7_placeOfLeastTally 49 = .ok (.iaload, 1) := by decide +kernel
theorem dX7_placeOfLeastTally_50 : decode cX7_placeOfLeastTally 50 = .ok (.istore_n 2, 1) := by decide +kernel
theorem dX7_placeOfLeastTally_51 : decode cX7_placeOfLeastTally 51 = .ok (.iload_n 3, 1) := by decide +kernel
theorem dX7_placeOfLeastTally_52 : decode cX7_placeOfLeastTally 52 = .ok (.istore_n 1, 1) := by decide +kernel
theorem dX7_placeOfLeastTally_53 : decode cX7_placeOfLeastTally 53 = .ok (.iinc 3 1, 3) := by decide +kernel
theorem dX7_placeOfLeastTally_56 : decode cX7_placeOfLeastTally 56 = .ok (.goto (-50), 3) := by decide +kernel
theorem dX7_placeOfLeastTally_59 : decode cX7_placeOfLeastTally 59 = .ok (.iload_n 1, 1) := by decide +kernel
theorem dX7_placeOfLeastTally_60 : decode cX7_placeOfLeastTally 60 = .ok (.ireturn, 1) := by decide +kernel
theorem dX7_isSpokenLower_0 : decode cX7_isSpokenLower 0 = .ok (.aload_n 0, 1) := by decide +kernel
theorem dX7_isSpokenLower_1 : decode cX7_isSpokenLower 1 = .ok (.getfield 41, 3) := by decide +kernel
theorem dX7_isSpokenLower_4 : decode cX7_isSpokenLower 4 = .ok (.iload_n 3, 1) := by decide +kernel
theorem dX7_isSpokenLower_5 : decode cX7_isSpokenLower 5 = .ok (.invokevirtual 320, 3) := by decide +kernel
theorem dX7_isSpokenLower_8 : decode cX7_isSpokenLower 8 = .ok (.istore 4, 2) := by decide +kernel
theorem dX7_isSpokenLower_10 : decode cX7_isSpokenLower 10 = .ok (.iconst 0, 1) := by decide +kernel
theorem dX7_isSpokenLower_11 : decode cX7_isSpokenLower 11 = .ok (.istore 5, 2) := by decide +kernel
theorem dX7_isSpokenLower_13 : decode cX7_isSpokenLower 13 = .ok (.iload 5, 2) := by decide +kernel
theorem dX7_isSpokenLower_15 : decode cX7_isSpokenLower 15 = .ok (.sipush 999, 3) := by decide +kernel
theorem dX7_isSpokenLower_18 : decode cX7_isSpokenLower 18 = .ok (.if_icmp .gt 69, 3) := by decide +kernel
theorem dX7_isSpokenLower_21 : decode cX7_isSpokenLower 21 = .ok (.iload 4, 2) := by decide +kernel
theorem dX7_isSpokenLower_23 : decode cX7_isSpokenLower 23 = .ok (.iconst (-1), 1) := by decide +kernel
theorem dX7_isSpokenLower_24 : decode cX7_isSpokenLower 24 = .ok (.if_icmp .eq 63, 3) := by decide +kernel
theorem dX7_isSpokenLower_27 : decode cX7_isSpokenLower 27 = .ok (.aload_n 0, 1) := by decide +kernel
theorem dX7_isSpokenLower_28 : decode cX7_isSpokenLower 28 = .ok (.getfield 41, 3) := by decide +kernel
theorem dX7_isSpokenLower_31 : decode cX7_isSpokenLower 31 = .ok (.iload 4, 2) := by decide +kernel
theorem dX7_isSpokenLower_33 : decode cX7_isSpokenLower 33 = .ok (.invokevirtual 323, 3) := by decide +kernel
theorem dX7_isSpokenLower_36 : decode cX7_isSpokenLower 36 = .ok (.iload_n 3, 1) := by decide +kernel
theorem dX7_isSpokenLower_37 : decode cX7_isSpokenLower 37 = .ok (.if_icmp .ne 33, 3) := by decide +kernel
theorem dX7_isSpokenLower_40 : decode cX7_isSpokenLower 40 = .ok (.aload_n 1, 1) := by decide +kernel
theorem dX7_isSpokenLower_41 : decode cX7_isSpokenLower 41 = .ok (.iload 4, 2) := by decide +kernel
theorem dX7_isSpokenLower_43 : decode cX7_isSpokenLower 43 = .ok (.iload_n 2, 1) := by decide +kernel
theorem dX7_isSpokenLower_44 : decode cX7_isSpokenLower 44 = .ok (.aload_n 0, 1) := by decide +kernel
theorem dX7_isSpokenLower_45 : decode cX7_isSpokenLower 45 = .ok (.getfield 28, 3) := by decide +kernel
theorem dX7_isSpokenLower_48 : decode cX7_isSpokenLower 48 = .ok (.invokevirtual 176, 3) := by decide +kernel
theorem dX7_isSpokenLower_51 : decode cX7_isSpokenLower 51 = .ok (.ifCond .eq 19, 3) := by decide +kernel
theorem dX7_isSpokenLower_54 : decode cX7_isSpokenLower 54 = .ok (.aload_n 0, 1) := by decide +kernel
theorem dX7_isSpokenLower_55 : decode cX7_isSpokenLower 55 = .ok (.getfield 28, 3) := by decide +kernel
theorem dX7_isSpokenLower_58 : decode cX7_isSpokenLower 58 = .ok (.aload_n 0, 1) := by decide +kernel
theorem dX7_isSpokenLower_59 : decode cX7_isSpokenLower 59 = .ok (.getfield 25, 3) := by decide +kernel
theorem dX7_isSpokenLower_62 : decode cX7_isSpokenLower 62 = .ok (.invokevirtual 326, 3) := by decide +kernel
theorem dX7_isSpokenLower_65 : decode cX7_isSpokenLower 65 = .ok (.ifCond .eq 5, 3) := by decide +kernel
theorem dX7_isSpokenLower_68 : decode cX7_isSpokenLower 68 = .ok (.iconst 1, 1) := by decide +kernel
theorem dX7_isSpokenLower_69 : decode cX7_isSpokenLower 69 = .ok (.ireturn, 1) := by decide +kernel
theorem dX7_isSpokenLower_70 : decode cX7_isSpokenLower 70 = .ok (.aload_n 0, 1) := by decide +kernel
theorem dX7_isSpokenLower_71 : decode cX7_isSpokenLower 71 = .ok (.getfield 41, 3) := by decide +kernel
theorem dX7_isSpokenLower_74 : decode cX7_isSpokenLower 74 = .ok (.iload 4, 2) := by decide +kernel
theorem dX7_isSpokenLower_76 : decode cX7_isSpokenLower 76 = .ok (.invokevirtual 329, 3) := by decide +kernel
theorem dX7_isSpokenLower_79 : decode cX7_isSpokenLower 79 = .ok (.istore 4, 2) := by decide +kernel
theorem dX7_isSpokenLower_81 : decode cX7_isSpokenLower 81 = .ok (.iinc 5 1, 3) := by decide +kernel
theorem dX7_isSpokenLower_84 : decode cX7_isSpokenLower 84 = .ok (.goto (-71), 3) := by decide +kernel
theorem dX7_isSpokenLower_87 : decode cX7_isSpokenLower 87 = .ok (.iconst 0, 1) := by decide +kernel
theorem dX7_isSpokenLower_88 : decode cX7_isSpokenLower 88 = .ok (.ireturn, 1) := by decide +kernel
theorem dX7_findSettings_0 : decode cX7_findSettings 0 = .ok (.aload_n 2, 1) := by decide +kernel
theorem dX7_findSettings_1 : decode cX7_findSettings 1 = .ok (.getfield 267, 3) := by decide +kernel
theorem dX7_findSettings_4 : decode cX7_findSettings 4 = .ok (.istore 4, 2) := by decide +kernel
theorem dX7_findSettings_6 : decode cX7_findSettings 6 = .ok (.aload_n 2, 1) := by decide +kernel
theorem dX7_findSettings_7 : decode cX7_findSettings 7 = .ok (.getfield 130, 3) := by decide +kernel
theorem dX7_findSettings_10 : decode cX7_findSettings 10 = .ok (.istore 5, 2) := by decide +kernel
theorem dX7_findSettings_12 : decode cX7_findSettings 12 = .ok (.iconst 0, 1) := by decide +kernel
theorem dX7_findSettings_13 : decode cX7_findSettings 13 = .ok (.istore 6, 2) := by decide +kernel
theorem dX7_findSettings_15 : decode cX7_findSettings 15 = .ok (.iconst 0, 1) := by decide +kernel
theorem dX7_findSettings_16 : decode cX7_findSettings 16 = .ok (.istore 7, 2) := by decide +kernel
theorem dX7_findSettings_18 : decode cX7_findSettings 18 = .ok (.iload 7, 2) := by decide +kernel
theorem dX7_findSettings_20 : decode cX7_findSettings 20 = .ok (.bipush 32, 2) := by decide +kernel
theorem dX7_findSettings_22 : decode cX7_findSettings 22 = .ok (.if_icmp .ge 36, 3) := by decide +kernel
theorem dX7_findSettings_25 : decode cX7_findSettings 25 = .ok (.aload_n 2, 1) := by decide +kernel
theorem dX7_findSettings_26 : decode cX7_findSettings 26 = .ok (.iload 7, 2) := by decide +kernel
theorem dX7_findSettings_28 : decode cX7_findSettings 28 = .ok (.iload_n 3, 1) := by decide +kernel
theorem dX7_findSettings_29 : decode cX7_findSettings 29 = .ok (.invokevirtual 248, 3) := by decide +kernel
theorem dX7_findSettings_32 : decode cX7_findSettings 32 = .ok (.aload_n 0, 1) := by decide +kernel
theorem dX7_findSettings_33 : decode cX7_findSettings 33 = .ok (.aload_n 1, 1) := by decide +kernel
theorem dX7_findSettings_34 : decode cX7_findSettings 34 = .ok (.invokevirtual 332, 3) := by decide +kernel
theorem dX7_findSettings_37 : decode cX7_findSettings 37 = .ok (.ifCond .eq 15, 3) := by decide +kernel
theorem dX7_findSettings_40 : decode cX7_findSettings 40 = .ok (.aload_n 0, 1) := by decide +kernel
theorem dX7_findSettings_41 : decode cX7_findSettings 41 = .ok (.getfield 56, 3) := by decide +kernel
theorem dX7_findSettings_44 : decode cX7_findSettings 44 = .ok (.iload 6, 2) := by decide +kernel
theorem dX7_findSettings_46 : decode cX7_findSettings 46 = .ok (.iload 7, 2) := by decide +kernel
theorem dX7_findSettings_48 : decode cX7_findSettings 48 = .ok (.iastore, 1) := by decide +kernel
theorem dX7_findSettings_49 : decode cX7_findSettings 49 = .ok (.iinc 6 1, 3) := by decide +kernel
theorem dX7_findSettings_52 : decode cX7_findSettings 52 = .ok (.iinc 7 1, 3) := by decide +kernel
theorem dX7_findSettings_55 : decode cX7_findSettings 55 = .ok (.goto (-37), 3) := by decide +kernel
theorem dX7_findSettings_58 : decode cX7_findSettings 58 = .ok (.aload_n 2, 1) := by decide +kernel
theorem dX7_findSettings_59 : decode cX7_findSettings 59 = .ok (.iload 4, 2) := by decide +kernel
theorem dX7_findSettings_61 : decode cX7_findSettings 61 = .ok (.putfield 267, 3) := by decide +kernel
theorem dX7_findSettings_64 : decode cX7_findSettings 64 = .ok (.aload_n 2, 1) := by decide +kernel
theorem dX7_findSettings_65 : decode cX7_findSettings 65 = .ok (.iload 5, 2) := by decide +kernel
theorem dX7_findSettings_67 : decode cX7_findSettings 67 = .ok (.putfield 130, 3) := by decide +kernel
theorem dX7_findSettings_70 : decode cX7_findSettings 70 = .ok (.iload 6, 2) := by decide +kernel
theorem dX7_findSettings_72 : decode cX7_findSettings 72 = .ok (.ireturn, 1) := by decide +kernel
theorem dX7_meetsExamples_0 : decode cX7_meetsExamples 0 = .ok (.iconst 0, 1) := by decide +kernel
theorem dX7_meetsExamples_1 : decode cX7_meetsExamples 1 = .ok (.istore_n 2, 1) := by decide +kernel
theorem dX7_meetsExamples_2 : decode cX7_meetsExamples 2 = .ok (.iload_n 2, 1) := by decide +kernel
theorem dX7_meetsExamples_3 : decode cX7_meetsExamples 3 = .ok (.aload_n 0, 1) := by decide +kernel
theorem dX7_meetsExamples_4 : decode cX7_meetsExamples 4 = .ok (.getfield 52, 3) := by decide +kernel
theorem dX7_meetsExamples_7 : decode cX7_meetsExamples 7 = .ok (.if_icmp .ge 45, 3) := by decide +kernel
theorem dX7_meetsExamples_10 : decode cX7_meetsExamples 10 = .ok (.aload_n 1, 1) := by decide +kernel
theorem dX7_meetsExamples_11 : decode cX7_meetsExamples 11 = .ok (.aload_n 0, 1) := by decide +kernel
theorem dX7_meetsExamples_12 : decode cX7_meetsExamples 12 = .ok (.getfield 45, 3) := by decide +kernel
theorem dX7_meetsExamples_15 : decode cX7_meetsExamples 15 = .ok (.iload_n 2, 1) := by decide +kernel
theorem dX7_meetsExamples_16 : decode cX7_meetsExamples 16 = .ok (.iaload, 1) := by decide +kernel
theorem dX7_meetsExamples_17 : decode cX7_meetsExamples 17 = .ok (.iconst 0, 1) := by decide +kernel
theorem dX7_meetsExamples_18 : decode cX7_meetsExamples 18 = .ok (.aload_n 0, 1) := by decide +kernel
theorem dX7_meetsExamples_19 : decode cX7_meetsExamples 19 = .ok (.getfield 25, 3) := by decide +kernel
theorem dX7_meetsExamples_22 : decode cX7_meetsExamples 22 = .ok (.invokevirtual 176, 3) := by decide +kernel
theorem dX7_meetsExamples_25 : decode cX7_meetsExamples 25 = .ok (.ifCond .eq 19, 3) := by decide +kernel
theorem dX7_meetsExamples_28 : decode cX7_meetsExamples 28 = .ok (.aload_n 0, 1) := by decide +kernel
theorem dX7_meetsExamples_29 : decode cX7_meetsExamples 29 = .ok (.getfield 25, 3) := by decide +kernel
theorem dX7_meetsExamples_32 : decode cX7_meetsExamples 32 = .ok (.aload_n 0, 1) := by decide +kernel
theorem dX7_meetsExamples_33 : decode cX7_meetsExamples 33 = .ok (.getfield 48, 3) := by decide +kernel
theorem dX7_meetsExamples_36 : decode cX7_meetsExamples 36 = .ok (.iload_n 2, 1) := by decide +kernel
theorem dX7_meetsExamples_37 : decode cX7_meetsExamples 37 = .ok (.aaload, 1) := by decide +kernel
theorem dX7_meetsExamples_38 : decode cX7_meetsExamples 38 = .ok (.invokevirtual 326, 3) := by decide +kernel
theorem dX7_meetsExamples_41 : decode cX7_meetsExamples 41 = .ok (.ifCond .ne 5, 3) := by decide +kernel
theorem dX7_meetsExamples_44 : decode cX7_meetsExamples 44 = .ok (.iconst 0, 1) := by decide +kernel
theorem dX7_meetsExamples_45 : decode cX7_meetsExamples 45 = .ok (.ireturn, 1) := by decide +kernel
theorem dX7_meetsExamples_46 : decode cX7_meetsExamples 46 = .ok (.iinc 2 1, 3) := by decide +kernel
theorem dX7_meetsExamples_49 : decode cX7_meetsExamples 49 = .ok (.goto (-47), 3) := by decide +kernel
theorem dX7_meetsExamples_52 : decode cX7_meetsExamples 52 = .ok (.iconst 1, 1) := by decide +kernel
theorem dX7_meetsExamples_53 : decode cX7_meetsExamples 53 = .ok (.ireturn, 1) := by decide +kernel
theorem dX7_speakBySettings_0 : decode cX7_speakBySettings 0 = .ok (.aload_n 2, 1) := by decide +kernel
theorem dX7_speakBySettings_1 : decode cX7_speakBySettings 1 = .ok (.getfield 267, 3) := by decide +kernel
theorem dX7_speakBySettings_4 : decode cX7_speakBySettings 4 = .ok (.istore 6, 2) := by decide +kernel
theorem dX7_speakBySettings_6 : decode cX7_speakBySettings 6 = .ok (.aload_n 2, 1) := by decide +kernel
theorem dX7_speakBySettings_7 : decode cX7_speakBySettings 7 = .ok (.getfield 130, 3) := by decide +kernel
theorem dX7_speakBySettings_10 : decode cX7_speakBySettings 10 = .ok (.istore 7, 2) := by decide +kernel
theorem dX7_speakBySettings_12 : decode cX7_speakBySettings 12 = .ok (.iconst 0, 1) := by decide +kernel
theorem dX7_speakBySettings_13 : decode cX7_speakBySettings 13 = .ok (.istore 8, 2) := by decide +kernel
theorem dX7_speakBySettings_15 : decode cX7_speakBySettings 15 = .ok (.iload 8, 2) := by decide +kernel
theorem dX7_speakBySettings_17 : decode cX7_speakBySettings 17 = .ok (.iload 5, 2) := by decide +kernel
theorem dX7_speakBySettings_19 : decode cX7_speakBySettings 19 = .ok (.if_icmp .ge 36, 3) := by decide +kernel
theorem dX7_speakBySettings_22 : decode cX7_speakBySettings 22 = .ok (.aload_n 2, 1) := by decide +kernel
theorem dX7_speakBySettings_23 : decode cX7_speakBySettings 23 = .ok (.aload_n 0, 1) := by decide +kernel
theorem dX7_speakBySettings_24 : decode cX7_speakBySettings 24 = .ok (.getfield 56, 3) := by decide +kernel
theorem dX7_speakBySettings_27 : decode cX7_speakBySettings 27 = .ok (.iload 8, 2) := by decide +kernel
theorem dX7_speakBySettings_29 : decode cX7_speakBySettings 29 = .ok (.iaload, 1) := by decide +kernel
theorem dX7_speakBySettings_30 : decode cX7_speakBySettings 30 = .ok (.iload_n 3, 1) := by decide +kernel
theorem dX7_speakBySettings_31 : decode cX7_speakBySettings 31 = .ok (.invokevirtual 248, 3) := by decide +kernel
theorem dX7_speakBySettings_34 : decode cX7_speakBySettings 34 = .ok (.aload_n 1, 1) := by decide +kernel
theorem dX7_speakBySettings_35 : decode cX7_speakBySettings 35 = .ok (.iload 4, 2) := by decide +kernel
theorem dX7_speakBySettings_37 : decode cX7_speakBySettings 37 = .ok (.iconst 0, 1) := by decide +kernel
theorem dX7_speakBySettings_38 : decode cX7_speakBySettings 38 = .ok (.aload_n 0, 1) := by decide +kernel
theorem dX7_speakBySettings_39 : decode cX7_speakBySettings 39 = .ok (.getfield 59, 3) := by decide +kernel
theorem dX7_speakBySettings_42 : decode cX7_speakBySettings 42 = .ok (.iload 8, 2) := by decide +kernel
theorem dX7_speakBySettings_44 : decode cX7_speakBySettings 44 = .ok (.aaload, 1) := by decide +kernel
theorem dX7_speakBySettings_45 : decode cX7_speakBySettings 45 = .ok (.invokevirtual 176, 3) := by decide +kernel
theorem dX7_speakBySettings_48 : decode cX7_speakBySettings 48 = .ok (.pop, 1) := by decide +kernel
theorem dX7_speakBySettings_49 : decode cX7_speakBySettings 49 = .ok (.iinc 8 1, 3) := by decide +kernel
theorem dX7_speakBySettings_52 : decode cX7_speakBySettings 52 = .ok (.goto (-37), 3) := by decide +kernel
theorem dX7_speakBySettings_55 : decode cX7_speakBySettings 55 = .ok (.aload_n 2, 1) := by decide +kernel
theorem dX7_speakBySettings_56 : decode cX7_speakBySettings 56 = .ok (.iload 6, 2) := by decide +kernel
theorem dX7_speakBySettings_58 : decode cX7_speakBySettings 58 = .ok (.putfield 267, 3) := by decide +kernel
theorem dX7_speakBySettings_61 : decode cX7_speakBySettings 61 = .ok (.aload_n 2, 1) := by decide +kernel
theorem dX7_speakBySettings_62 : decode cX7_speakBySettings 62 = .ok (.iload 7, 2) := by decide +kernel
theorem dX7_speakBySettings_64 : decode cX7_speakBySettings 64 = .ok (.putfield 130, 3) := by decide +kernel
theorem dX7_speakBySettings_67 : decode cX7_speakBySettings 67 = .ok (.return_, 1) := by decide +kernel
theorem dX7_greatestAlike_0 : decode cX7_greatestAlike 0 = .ok (.iconst 0, 1) := by decide +kernel
theorem dX7_greatestAlike_1 : decode cX7_greatestAlike 1 = .ok (.istore_n 2, 1) := by decide +kernel
theorem dX7_greatestAlike_2 : decode cX7_greatestAlike 2 = .ok (.iconst 0, 1) := by decide +kernel
theorem dX7_greatestAlike_3 : decode cX7_greatestAlike 3 = .ok (.istore_n 3, 1) := by decide +kernel
theorem dX7_greatestAlike_4 : decode cX7_greatestAlike 4 = .ok (.iload_n 3, 1) := by decide +kernel
theorem dX7_greatestAlike_5 : decode cX7_greatestAlike 5 = .ok (.iload_n 1, 1) := by decide +kernel
theorem dX7_greatestAlike_6 : decode cX7_greatestAlike 6 = .ok (.iload_n 2, 1) := by decide +kernel
theorem dX7_greatestAlike_7 : decode cX7_greatestAlike 7 = .ok (.isub, 1) := by decide +kernel
theorem dX7_greatestAlike_8 : decode cX7_greatestAlike 8 = .ok (.if_icmp .ge 58, 3) := by decide +kernel
theorem dX7_greatestAlike_11 : decode cX7_greatestAlike 11 = .ok (.iconst 1, 1) := by decide +kernel
theorem dX7_greatestAlike_12 : decode cX7_greatestAlike 12 = .ok (.istore 4, 2) := by decide +kernel
theorem dX7_greatestAlike_14 : decode cX7_greatestAlike 14 = .ok (.iload_n 3, 1) := by decide +kernel
theorem dX7_greatestAlike_15 : decode cX7_greatestAlike 15 = .ok (.iconst 1, 1) := by decide +kernel
theorem dX7_greatestAlike_16 : decode cX7_greatestAlike 16 = .ok (.iadd, 1) := by decide +kernel
theorem dX7_greatestAlike_17 : decode cX7_greatestAlike 17 = .ok (.istore 5, 2) := by decide +kernel
theorem dX7_greatestAlike_19 : decode cX7_greatestAlike 19 = .ok (.iload 5, 2) := by decide +kernel
theorem dX7_greatestAlike_21 : decode cX7_greatestAlike 21 = .ok (.iload_n 1, 1) := by decide +kernel
theorem dX7_greatestAlike_22 : decode cX7_greatestAlike 22 = .ok (.if_icmp .ge 31, 3) := by decide +kernel
theorem dX7_greatestAlike_25 : decode cX7_greatestAlike 25 = .ok (.aload_n 0, 1) := by decide +kernel
theorem dX7_greatestAlike_26 : decode cX7_greatestAlike 26 = .ok (.getfield 59, 3) := by decide +kernel
theorem dX7_greatestAlike_29 : decode cX7_greatestAlike 29 = .ok (.iload 5, 2) := by decide +kernel
theorem dX7_greatestAlike_31 : decode cX7_greatestAlike 31 = .ok (.aaload, 1) := by decide +kernel
theorem dX7_greatestAlike_32 : decode cX7_greatestAlike 32 = .ok (.aload_n 0, 1) := by decide +kernel
theorem dX7_greatestAlike_33 : decode cX7_greatestAlike 33 = .ok (.getfield 59, 3) := by decide +kernel
theorem dX7_greatestAlike_36 : decode cX7_greatestAlike 36 = .ok (.iload_n 3, 1) := by decide +kernel
theorem dX7_greatestAlike_37 : decode cX7_greatestAlike 37 = .ok (.aaload, 1) := by decide +kernel
theorem dX7_greatestAlike_38 : decode cX7_greatestAlike 38 = .ok (.invokevirtual 326, 3) := by decide +kernel
theorem dX7_greatestAlike_41 : decode cX7_greatestAlike 41 = .ok (.ifCond .eq 6, 3) := by decide +kernel
theorem dX7_greatestAlike_44 : decode cX7_greatestAlike 44 = .ok (.iinc 4 1, 3) := by decide +kernel
theorem dX7_greatestAlike_47 : decode cX7_greatestAlike 47 = .ok (.iinc 5 1, 3) := by decide +kernel
theorem dX7_greatestAlike_50 : decode cX7_greatestAlike 50 = .ok (.goto (-31), 3) := by decide +kernel
theorem dX7_greatestAlike_53 : decode cX7_greatestAlike 53 = .ok (.iload_n 2, 1) := by decide +kernel
theorem dX7_greatestAlike_54 : decode cX7_greatestAlike 54 = .ok (.iload 4, 2) := by decide +kernel
theorem dX7_greatestAlike_56 : decode cX7_greatestAlike 56 = .ok (.invokestatic 315, 3) := by decide +kernel
theorem dX7_greatestAlike_59 : decode cX7_greatestAlike 59 = .ok (.istore_n 2, 1) := by decide +kernel
theorem dX7_greatestAlike_60 : decode cX7_greatestAlike 60 = .ok (.iinc 3 1, 3) := by decide +kernel
theorem dX7_greatestAlike_63 : decode cX7_greatestAlike 63 = .ok (.goto (-59), 3) := by decide +kernel
theorem dX7_greatestAlike_66 : decode cX7_greatestAlike 66 = .ok (.iload_n 2, 1) := by decide +kernel
theorem dX7_greatestAlike_67 : decode cX7_greatestAlike 67 = .ok (.ireturn, 1) := by decide +kernel
theorem dX8_init_0 : decode cX8_init 0 = .ok (.aload_n 0, 1) := by decide +kernel
theorem dX8_init_1 : decode cX8_init 1 = .ok (.invokespecial 1, 3) := by decide +kernel
theorem dX8_init_4 : decode cX8_init 4 = .ok (.aload_n 0, 1) := by decide +kernel
end
section
theorem dX8_init_5 : decode cX8_init 5 = .ok (.iconst 4, 1) := by decide +kernel
theorem dX8_init_6 : decode cX8_init 6 = .ok (.newarray .int, 2) := by decide +kernel
theorem dX8_init_8 : decode cX8_init 8 = .ok (.putfield 7, 3) := by decide +kernel
theorem dX8_init_11 : decode cX8_init 11 = .ok (.aload_n 0, 1) := by decide +kernel
theorem dX8_init_12 : decode cX8_init 12 = .ok (.sipush 160, 3) := by decide +kernel
theorem dX8_init_15 : decode cX8_init 15 = .ok (.newarray .int, 2) := by decide +kernel
theorem dX8_init_17 : decode cX8_init 17 = .ok (.putfield 13, 3) := by decide +kernel
theorem dX8_init_20 : decode cX8_init 20 = .ok (.aload_n 0, 1) := by decide +kernel
theorem dX8_init_21 : decode cX8_init 21 = .ok (.sipush 160, 3) := by decide +kernel
theorem dX8_init_24 : decode cX8_init 24 = .ok (.newarray .int, 2) := by decide +kernel
theorem dX8_init_26 : decode cX8_init 26 = .ok (.putfield 16, 3) := by decide +kernel
theorem dX8_init_29 : decode cX8_init 29 = .ok (.aload_n 0, 1) := by decide +kernel
theorem dX8_init_30 : decode cX8_init 30 = .ok (.iconst 4, 1) := by decide +kernel
theorem dX8_init_31 : decode cX8_init 31 = .ok (.newarray .int, 2) := by decide +kernel
theorem dX8_init_33 : decode cX8_init 33 = .ok (.putfield 19, 3) := by decide +kernel
theorem dX8_init_36 : decode cX8_init 36 = .ok (.aload_n 0, 1) := by decide +kernel
theorem dX8_init_37 : decode cX8_init 37 = .ok (.bipush 20, 2) := by decide +kernel
theorem dX8_init_39 : decode cX8_init 39 = .ok (.newarray .int, 2) := by decide +kernel
theorem dX8_init_41 : decode cX8_init 41 = .ok (.putfield 22, 3) := by decide +kernel
theorem dX8_init_44 : decode cX8_init 44 = .ok (.aload_n 0, 1) := by decide +kernel
theorem dX8_init_45 : decode cX8_init 45 = .ok (.bipush 20, 2) := by decide +kernel
theorem dX8_init_47 : decode cX8_init 47 = .ok (.newarray .int, 2) := by decide +kernel
theorem dX8_init_49 : decode cX8_init 49 = .ok (.putfield 25, 3) := by decide +kernel
theorem dX8_init_52 : decode cX8_init 52 = .ok (.aload_n 0, 1) := by decide +kernel
theorem dX8_init_53 : decode cX8_init 53 = .ok (.bipush 20, 2) := by decide +kernel
theorem dX8_init_55 : decode cX8_init 55 = .ok (.newarray .int, 2) := by decide +kernel
theorem dX8_init_57 : decode cX8_init 57 = .ok (.putfield 28, 3) := by decide +kernel
theorem dX8_init_60 : decode cX8_init 60 = .ok (.aload_n 0, 1) := by decide +kernel
theorem dX8_init_61 : decode cX8_init 61 = .ok (.bipush 20, 2) := by decide +kernel
theorem dX8_init_63 : decode cX8_init 63 = .ok (.newarray .int, 2) := by decide +kernel
theorem dX8_init_65 : decode cX8_init 65 = .ok (.putfield 31, 3) := by decide +kernel
theorem dX8_init_68 : decode cX8_init 68 = .ok (.aload_n 0, 1) := by decide +kernel
theorem dX8_init_69 : decode cX8_init 69 = .ok (.bipush 20, 2) := by decide +kernel
theorem dX8_init_71 : decode cX8_init 71 = .ok (.newarray .int, 2) := by decide +kernel
theorem dX8_init_73 : decode cX8_init 73 = .ok (.putfield 34, 3) := by decide +kernel
theorem dX8_init_76 : decode cX8_init 76 = .ok (.aload_n 0, 1) := by decide +kernel
theorem dX8_init_77 : decode cX8_init 77 = .ok (.bipush 20, 2) := by decide +kernel
theorem dX8_init_79 : decode cX8_init 79 = .ok (.newarray .int, 2) := by decide +kernel
theorem dX8_init_81 : decode cX8_init 81 = .ok (.putfield 37, 3) := by decide +kernel
theorem dX8_init_84 : decode cX8_init 84 = .ok (.aload_n 0, 1) := by decide +kernel
theorem dX8_init_85 : decode cX8_init 85 = .ok (.bipush 20, 2) := by decide +kernel
theorem dX8_init_87 : decode cX8_init 87 = .ok (.newarray .int, 2) := by decide +kernel
theorem dX8_init_89 : decode cX8_init 89 = .ok (.putfield 40, 3) := by decide +kernel
theorem dX8_init_92 : decode cX8_init 92 = .ok (.aload_n 0, 1) := by decide +kernel
theorem dX8_init_93 : decode cX8_init 93 = .ok (.iconst 4, 1) := by decide +kernel
theorem dX8_init_94 : decode cX8_init 94 = .ok (.newarray .int, 2) := by decide +kernel
theorem dX8_init_96 : decode cX8_init 96 = .ok (.putfield 43, 3) := by decide +kernel
theorem dX8_init_99 : decode cX8_init 99 = .ok (.aload_n 0, 1) := by decide +kernel
theorem dX8_init_100 : decode cX8_init 100 = .ok (.bipush 120, 2) := by decide +kernel
theorem dX8_init_102 : decode cX8_init 102 = .ok (.newarray .int, 2) := by decide +kernel
theorem dX8_init_104 : decode cX8_init 104 = .ok (.putfield 46, 3) := by decide +kernel
theorem dX8_init_107 : decode cX8_init 107 = .ok (.aload_n 0, 1) := by decide +kernel
theorem dX8_init_108 : decode cX8_init 108 = .ok (.bipush 120, 2) := by decide +kernel
theorem dX8_init_110 : decode cX8_init 110 = .ok (.newarray .int, 2) := by decide +kernel
theorem dX8_init_112 : decode cX8_init 112 = .ok (.putfield 49, 3) := by decide +kernel
theorem dX8_init_115 : decode cX8_init 115 = .ok (.aload_n 0, 1) := by decide +kernel
theorem dX8_init_116 : decode cX8_init 116 = .ok (.bipush 120, 2) := by decide +kernel
theorem dX8_init_118 : decode cX8_init 118 = .ok (.newarray .int, 2) := by decide +kernel
theorem dX8_init_120 : decode cX8_init 120 = .ok (.putfield 52, 3) := by decide +kernel
theorem dX8_init_123 : decode cX8_init 123 = .ok (.aload_n 0, 1) := by decide +kernel
theorem dX8_init_124 : decode cX8_init 124 = .ok (.iconst 4, 1) := by decide +kernel
theorem dX8_init_125 : decode cX8_init 125 = .ok (.newarray .int, 2) := by decide +kernel
theorem dX8_init_127 : decode cX8_init 127 = .ok (.putfield 55, 3) := by decide +kernel
theorem dX8_init_130 : decode cX8_init 130 = .ok (.aload_n 0, 1) := by decide +kernel
theorem dX8_init_131 : decode cX8_init 131 = .ok (.iconst 4, 1) := by decide +kernel
theorem dX8_init_132 : decode cX8_init 132 = .ok (.newarray .int, 2) := by decide +kernel
theorem dX8_init_134 : decode cX8_init 134 = .ok (.putfield 58, 3) := by decide +kernel
theorem dX8_init_137 : decode cX8_init 137 = .ok (.aload_n 0, 1) := by decide +kernel
theorem dX8_init_138 : decode cX8_init 138 = .ok (.bipush 24, 2) := by decide +kernel
theorem dX8_init_140 : decode cX8_init 140 = .ok (.newarray .int, 2) := by decide +kernel
theorem dX8_init_142 : decode cX8_init 142 = .ok (.putfield 61, 3) := by decide +kernel
theorem dX8_init_145 : decode cX8_init 145 = .ok (.aload_n 0, 1) := by decide +kernel
theorem dX8_init_146 : decode cX8_init 146 = .ok (.bipush 24, 2) := by decide +kernel
theorem dX8_init_148 : decode cX8_init 148 = .ok (.newarray .int, 2) := by decide +kernel
theorem dX8_init_150 : decode cX8_init 150 = .ok (.putfield 64, 3) := by decide +kernel
theorem dX8_init_153 : decode cX8_init 153 = .ok (.aload_n 0, 1) := by decide +kernel
theorem dX8_init_154 : decode cX8_init 154 = .ok (.bipush 24, 2) := by decide +kernel
theorem dX8_init_156 : decode cX8_init 156 = .ok (.newarray .int, 2) := by decide +kernel
theorem dX8_init_158 : decode cX8_init 158 = .ok (.putfield 67, 3) := by decide +kernel
theorem dX8_init_161 : decode cX8_init 161 = .ok (.aload_n 0, 1) := by decide +kernel
theorem dX8_init_162 : decode cX8_init 162 = .ok (.bipush 48, 2) := by decide +kernel
theorem dX8_init_164 : decode cX8_init 164 = .ok (.newarray .int, 2) := by decide +kernel
theorem dX8_init_166 : decode cX8_init 166 = .ok (.putfield 70, 3) := by decide +kernel
theorem dX8_init_169 : decode cX8_init 169 = .ok (.aload_n 0, 1) := by decide +kernel
theorem dX8_init_170 : decode cX8_init 170 = .ok (.bipush 48, 2) := by decide +kernel
theorem dX8_init_172 : decode cX8_init 172 = .ok (.newarray .int, 2) := by decide +kernel
theorem dX8_init_174 : decode cX8_init 174 = .ok (.putfield 73, 3) := by decide +kernel
theorem dX8_init_177 : decode cX8_init 177 = .ok (.aload_n 0, 1) := by decide +kernel
theorem dX8_init_178 : decode cX8_init 178 = .ok (.bipush 48, 2) := by decide +kernel
theorem dX8_init_180 : decode cX8_init 180 = .ok (.newarray .int, 2) := by decide +kernel
theorem dX8_init_182 : decode cX8_init 182 = .ok (.putfield 76, 3) := by decide +kernel
theorem dX8_init_185 : decode cX8_init 185 = .ok (.aload_n 0, 1) := by decide +kernel
theorem dX8_init_186 : decode cX8_init 186 = .ok (.bipush 20, 2) := by decide +kernel
theorem dX8_init_188 : decode cX8_init 188 = .ok (.newarray .int, 2) := by decide +kernel
theorem dX8_init_190 : decode cX8_init 190 = .ok (.putfield 79, 3) := by decide +kernel
theorem dX8_init_193 : decode cX8_init 193 = .ok (.aload_n 0, 1) := by decide +kernel
theorem dX8_init_194 : decode cX8_init 194 = .ok (.bipush 20, 2) := by decide +kernel
theorem dX8_init_196 : decode cX8_init 196 = .ok (.newarray .int, 2) := by decide +kernel
theorem dX8_init_198 : decode cX8_init 198 = .ok (.putfield 82, 3) := by decide +kernel
theorem dX8_init_201 : decode cX8_init 201 = .ok (.aload_n 0, 1) := by decide +kernel
theorem dX8_init_202 : decode cX8_init 202 = .ok (.bipush 20, 2) := by decide +kernel
theorem dX8_init_204 : decode cX8_init 204 = .ok (.newarray .int, 2) := by decide +kernel
theorem dX8_init_206 : decode cX8_init 206 = .ok (.putfield 85, 3) := by decide +kernel
theorem dX8_init_209 : decode cX8_init 209 = .ok (.aload_n 0, 1) := by decide +kernel
theorem dX8_init_210 : decode cX8_init 210 = .ok (.sipush 400, 3) := by decide +kernel
theorem dX8_init_213 : decode cX8_init 213 = .ok (.newarray .int, 2) := by decide +kernel
theorem dX8_init_215 : decode cX8_init 215 = .ok (.putfield 88, 3) := by decide +kernel
theorem dX8_init_218 : decode cX8_init 218 = .ok (.aload_n 0, 1) := by decide +kernel
theorem dX8_init_219 : decode cX8_init 219 = .ok (.sipush 1000, 3) := by decide +kernel
theorem dX8_init_222 : decode cX8_init 222 = .ok (.newarray .int, 2) := by decide +kernel
theorem dX8_init_224 : decode cX8_init 224 = .ok (.putfield 91, 3) := by decide +kernel
theorem dX8_init_227 : decode cX8_init 227 = .ok (.aload_n 0, 1) := by decide +kernel
theorem dX8_init_228 : decode cX8_init 228 = .ok (.sipush 20000, 3) := by decide +kernel
theorem dX8_init_231 : decode cX8_init 231 = .ok (.newarray .int, 2) := by decide +kernel
theorem dX8_init_233 : decode cX8_init 233 = .ok (.putfield 94, 3) := by decide +kernel
theorem dX8_init_236 : decode cX8_init 236 = .ok (.aload_n 0, 1) := by decide +kernel
theorem dX8_init_237 : decode cX8_init 237 = .ok (.bipush 6, 2) := by decide +kernel
theorem dX8_init_239 : decode cX8_init 239 = .ok (.newarray .int, 2) := by decide +kernel
theorem dX8_init_241 : decode cX8_init 241 = .ok (.putfield 97, 3) := by decide +kernel
theorem dX8_init_244 : decode cX8_init 244 = .ok (.aload_n 0, 1) := by decide +kernel
theorem dX8_init_245 : decode cX8_init 245 = .ok (.bipush 6, 2) := by decide +kernel
theorem dX8_init_247 : decode cX8_init 247 = .ok (.newarray .int, 2) := by decide +kernel
theorem dX8_init_249 : decode cX8_init 249 = .ok (.putfield 100, 3) := by decide +kernel
theorem dX8_init_252 : decode cX8_init 252 = .ok (.aload_n 0, 1) := by decide +kernel
theorem dX8_init_253 : decode cX8_init 253 = .ok (.sipush 200, 3) := by decide +kernel
theorem dX8_init_256 : decode cX8_init 256 = .ok (.newarray .int, 2) := by decide +kernel
theorem dX8_init_258 : decode cX8_init 258 = .ok (.putfield 103, 3) := by decide +kernel
theorem dX8_init_261 : decode cX8_init 261 = .ok (.iconst 0, 1) := by decide +kernel
theorem dX8_init_262 : decode cX8_init 262 = .ok (.istore_n 1, 1) := by decide +kernel
theorem dX8_init_263 : decode cX8_init 263 = .ok (.iload_n 1, 1) := by decide +kernel
theorem dX8_init_264 : decode cX8_init 264 = .ok (.iconst 4, 1) := by decide +kernel
theorem dX8_init_265 : decode cX8_init 265 = .ok (.if_icmp .ge 16, 3) := by decide +kernel
theorem dX8_init_268 : decode cX8_init 268 = .ok (.aload_n 0, 1) := by decide +kernel
theorem dX8_init_269 : decode cX8_init 269 = .ok (.getfield 55, 3) := by decide +kernel
theorem dX8_init_272 : decode cX8_init 272 = .ok (.iload_n 1, 1) := by decide +kernel
theorem dX8_init_273 : decode cX8_init 273 = .ok (.iconst (-1), 1) := by decide +kernel
theorem dX8_init_274 : decode cX8_init 274 = .ok (.iastore, 1) := by decide +kernel
theorem dX8_init_275 : decode cX8_init 275 = .ok (.iinc 1 1, 3) := by decide +kernel
theorem dX8_init_278 : decode cX8_init 278 = .ok (.goto (-15), 3) := by decide +kernel
theorem dX8_init_281 : decode cX8_init 281 = .ok (.iconst 0, 1) := by decide +kernel
theorem dX8_init_282 : decode cX8_init 282 = .ok (.istore_n 1, 1) := by decide +kernel
theorem dX8_init_283 : decode cX8_init 283 = .ok (.iload_n 1, 1) := by decide +kernel
theorem dX8_init_284 : decode cX8_init 284 = .ok (.bipush 6, 2) := by decide +kernel
theorem dX8_init_286 : decode cX8_init 286 = .ok (.if_icmp .ge 17, 3) := by decide +kernel
theorem dX8_init_289 : decode cX8_init 289 = .ok (.aload_n 0, 1) := by decide +kernel
theorem dX8_init_290 : decode cX8_init 290 = .ok (.getfield 97, 3) := by decide +kernel
theorem dX8_init_293 : decode cX8_init 293 = .ok (.iload_n 1, 1) := by decide +kernel
theorem dX8_init_294 : decode cX8_init 294 = .ok (.bipush 10, 2) := by decide +kernel
theorem dX8_init_296 : decode cX8_init 296 = .ok (.iastore, 1) := by decide +kernel
theorem dX8_init_297 : decode cX8_init 297 = .ok (.iinc 1 1, 3) := by decide +kernel
theorem dX8_init_300 : decode cX8_init 300 = .ok (.goto (-17), 3) := by decide +kernel
theorem dX8_init_303 : decode cX8_init 303 = .ok (.return_, 1) := by decide +kernel
theorem dX8_thrown_0 : decode cX8_thrown 0 = .ok (.aload_n 0, 1) := by decide +kernel
theorem dX8_thrown_1 : decode cX8_thrown 1 = .ok (.getfield 106, 3) := by decide +kernel
theorem dX8_thrown_4 : decode cX8_thrown 4 = .ok (.ireturn, 1) := by decide +kernel
theorem dX8_can_0 : decode cX8_can 0 = .ok (.aload_n 0, 1) := by decide +kernel
theorem dX8_can_1 : decode cX8_can 1 = .ok (.iload_n 1, 1) := by decide +kernel
theorem dX8_can_2 : decode cX8_can 2 = .ok (.putfield 106, 3) := by decide +kernel
theorem dX8_can_5 : decode cX8_can 5 = .ok (.iload_n 1, 1) := by decide +kernel
theorem dX8_can_6 : decode cX8_can 6 = .ok (.ifCond .ne 7, 3) := by decide +kernel
theorem dX8_can_9 : decode cX8_can 9 = .ok (.iconst 1, 1) := by decide +kernel
theorem dX8_can_10 : decode cX8_can 10 = .ok (.goto 4, 3) := by decide +kernel
theorem dX8_can_13 : decode cX8_can 13 = .ok (.iconst 0, 1) := by decide +kernel
theorem dX8_can_14 : decode cX8_can 14 = .ok (.ireturn, 1) := by decide +kernel
theorem dX8_isIn_0 : decode cX8_isIn 0 = .ok (.iload_n 0, 1) := by decide +kernel
theorem dX8_isIn_1 : decode cX8_isIn 1 = .ok (.iload_n 1, 1) := by decide +kernel
theorem dX8_isIn_2 : decode cX8_isIn 2 = .ok (.if_icmp .lt 12, 3) := by decide +kernel
theorem dX8_isIn_5 : decode cX8_isIn 5 = .ok (.iload_n 0, 1) := by decide +kernel
theorem dX8_isIn_6 : decode cX8_isIn 6 = .ok (.iload_n 2, 1) := by decide +kernel
theorem dX8_isIn_7 : decode cX8_isIn 7 = .ok (.if_icmp .gt 7, 3) := by decide +kernel
theorem dX8_isIn_10 : decode cX8_isIn 10 = .ok (.iconst 1, 1) := by decide +kernel
theorem dX8_isIn_11 : decode cX8_isIn 11 = .ok (.goto 4, 3) := by decide +kernel
theorem dX8_isIn_14 : decode cX8_isIn 14 = .ok (.iconst 0, 1) := by decide +kernel
theorem dX8_isIn_15 : decode cX8_isIn 15 = .ok (.ireturn, 1) := by decide +kernel
theorem dX8_isGrammar_0 : decode cX8_isGrammar 0 = .ok (.iload_n 0, 1) := by decide +kernel
theorem dX8_isGrammar_1 : decode cX8_isGrammar 1 = .ok (.iconst 0, 1) := by decide +kernel
theorem dX8_isGrammar_2 : decode cX8_isGrammar 2 = .ok (.iconst 3, 1) := by decide +kernel
theorem dX8_isGrammar_3 : decode cX8_isGrammar 3 = .ok (.invokestatic 110, 3) := by decide +kernel
theorem dX8_isGrammar_6 : decode cX8_isGrammar 6 = .ok (.ireturn, 1) := by decide +kernel
theorem dX8_isWord_0 : decode cX8_isWord 0 = .ok (.iload_n 0, 1) := by decide +kernel
theorem dX8_isWord_1 : decode cX8_isWord 1 = .ok (.iconst 0, 1) := by decide +kernel
theorem dX8_isWord_2 : decode cX8_isWord 2 = .ok (.sipush 199, 3) := by decide +kernel
theorem dX8_isWord_5 : decode cX8_isWord 5 = .ok (.invokestatic 110, 3) := by decide +kernel
theorem dX8_isWord_8 : decode cX8_isWord 8 = .ok (.ireturn, 1) := by decide +kernel
theorem dX8_isWordOrNone_0 : decode cX8_isWordOrNone 0 = .ok (.iload_n 0, 1) := by decide +kernel
theorem dX8_isWordOrNone_1 : decode cX8_isWordOrNone 1 = .ok (.iconst (-1), 1) := by decide +kernel
theorem dX8_isWordOrNone_2 : decode cX8_isWordOrNone 2 = .ok (.sipush 199, 3) := by decide +kernel
theorem dX8_isWordOrNone_5 : decode cX8_isWordOrNone 5 = .ok (.invokestatic 110, 3) := by decide +kernel
theorem dX8_isWordOrNone_8 : decode cX8_isWordOrNone 8 = .ok (.ireturn, 1) := by decide +kernel
theorem dX8_isNumber_0 : decode cX8_isNumber 0 = .ok (.iload_n 0, 1) := by decide +kernel
theorem dX8_isNumber_1 : decode cX8_isNumber 1 = .ok (.iconst 0, 1) := by decide +kernel
theorem dX8_isNumber_2 : decode cX8_isNumber 2 = .ok (.sipush 9999, 3) := by decide +kernel
theorem dX8_isNumber_5 : decode cX8_isNumber 5 = .ok (.invokestatic 110, 3) := by decide +kernel
theorem dX8_isNumber_8 : decode cX8_isNumber 8 = .ok (.ireturn, 1) := by decide +kernel
theorem dX8_isBase_0 : decode cX8_isBase 0 = .ok (.iload_n 1, 1) := by decide +kernel
theorem dX8_isBase_1 : decode cX8_isBase 1 = .ok (.invokestatic 114, 3) := by decide +kernel
theorem dX8_isBase_4 : decode cX8_isBase 4 = .ok (.ifCond .eq 23, 3) := by decide +kernel
theorem dX8_isBase_7 : decode cX8_isBase 7 = .ok (.iload_n 2, 1) := by decide +kernel
theorem dX8_isBase_8 : decode cX8_isBase 8 = .ok (.iconst 0, 1) := by decide +kernel
theorem dX8_isBase_9 : decode cX8_isBase 9 = .ok (.aload_n 0, 1) := by decide +kernel
theorem dX8_isBase_10 : decode cX8_isBase 10 = .ok (.getfield 19, 3) := by decide +kernel
theorem dX8_isBase_13 : decode cX8_isBase 13 = .ok (.iload_n 1, 1) := by decide +kernel
theorem dX8_isBase_14 : decode cX8_isBase 14 = .ok (.iaload, 1) := by decide +kernel
theorem dX8_isBase_15 : decode cX8_isBase 15 = .ok (.iconst 1, 1) := by decide +kernel
theorem dX8_isBase_16 : decode cX8_isBase 16 = .ok (.isub, 1) := by decide +kernel
theorem dX8_isBase_17 : decode cX8_isBase 17 = .ok (.invokestatic 110, 3) := by decide +kernel
theorem dX8_isBase_20 : decode cX8_isBase 20 = .ok (.ifCond .eq 7, 3) := by decide +kernel
theorem dX8_isBase_23 : decode cX8_isBase 23 = .ok (.iconst 1, 1) := by decide +kernel
theorem dX8_isBase_24 : decode cX8_isBase 24 = .ok (.goto 4, 3) := by decide +kernel
theorem dX8_isBase_27 : decode cX8_isBase 27 = .ok (.iconst 0, 1) := by decide +kernel
theorem dX8_isBase_28 : decode cX8_isBase 28 = .ok (.ireturn, 1) := by decide +kernel
theorem dX8_isClass_0 : decode cX8_isClass 0 = .ok (.iload_n 0, 1) := by decide +kernel
theorem dX8_isClass_1 : decode cX8_isClass 1 = .ok (.iconst 0, 1) := by decide +kernel
theorem dX8_isClass_2 : decode cX8_isClass 2 = .ok (.iconst 2, 1) := by decide +kernel
theorem dX8_isClass_3 : decode cX8_isClass 3 = .ok (.invokestatic 110, 3) := by decide +kernel
theorem dX8_isClass_6 : decode cX8_isClass 6 = .ok (.ireturn, 1) := by decide +kernel
theorem dX8_atomAt_0 : decode cX8_atomAt 0 = .ok (.iconst (-1), 1) := by decide +kernel
theorem dX8_atomAt_1 : decode cX8_atomAt 1 = .ok (.istore_n 3, 1) := by decide +kernel
theorem dX8_atomAt_2 : decode cX8_atomAt 2 = .ok (.bipush 40, 2) := by decide +kernel
theorem dX8_atomAt_4 : decode cX8_atomAt 4 = .ok (.iload_n 1, 1) := by decide +kernel
theorem dX8_atomAt_5 : decode cX8_atomAt 5 = .ok (.imul, 1) := by decide +kernel
theorem dX8_atomAt_6 : decode cX8_atomAt 6 = .ok (.istore 4, 2) := by decide +kernel
theorem dX8_atomAt_8 : decode cX8_atomAt 8 = .ok (.iload 4, 2) := by decide +kernel
theorem dX8_atomAt_10 : decode cX8_atomAt 10 = .ok (.bipush 40, 2) := by decide +kernel
theorem dX8_atomAt_12 : decode cX8_atomAt 12 = .ok (.iload_n 1, 1) := by decide +kernel
theorem dX8_atomAt_13 : decode cX8_atomAt 13 = .ok (.imul, 1) := by decide +kernel
theorem dX8_atomAt_14 : decode cX8_atomAt 14 = .ok (.aload_n 0, 1) := by decide +kernel
theorem dX8_atomAt_15 : decode cX8_atomAt 15 = .ok (.getfield 7, 3) := by decide +kernel
theorem dX8_atomAt_18 : decode cX8_atomAt 18 = .ok (.iload_n 1, 1) := by decide +kernel
theorem dX8_atomAt_19 : decode cX8_atomAt 19 = .ok (.iaload, 1) := by decide +kernel
theorem dX8_atomAt_20 : decode cX8_atomAt 20 = .ok (.iadd, 1) := by decide +kernel
theorem dX8_atomAt_21 : decode cX8_atomAt 21 = .ok (.if_icmp .ge 27, 3) := by decide +kernel
theorem dX8_atomAt_24 : decode cX8_atomAt 24 = .ok (.aload_n 0, 1) := by decide +kernel
theorem dX8_atomAt_25 : decode cX8_atomAt 25 = .ok (.getfield 13, 3) := by decide +kernel
theorem dX8_atomAt_28 : decode cX8_atomAt 28 = .ok (.iload 4, 2) := by decide +kernel
theorem dX8_atomAt_30 : decode cX8_atomAt 30 = .ok (.iaload, 1) := by decide +kernel
theorem dX8_atomAt_31 : decode cX8_atomAt 31 = .ok (.iload_n 2, 1) := by decide +kernel
theorem dX8_atomAt_32 : decode cX8_atomAt 32 = .ok (.if_icmp .ne 8, 3) := by decide +kernel
theorem dX8_atomAt_35 : decode cX8_atomAt 35 = .ok (.iload 4, 2) := by decide +kernel
theorem dX8_atomAt_37 : decode cX8_atomAt 37 = .ok (.goto 4, 3) := by decide +kernel
theorem dX8_atomAt_40 : decode cX8_atomAt 40 = .ok (.iload_n 3, 1) := by decide +kernel
theorem dX8_atomAt_41 : decode cX8_atomAt 41 = .ok (.istore_n 3, 1) := by decide +kernel
theorem dX8_atomAt_42 : decode cX8_atomAt 42 = .ok (.iinc 4 1, 3) := by decide +kernel
theorem dX8_atomAt_45 : decode cX8_atomAt 45 = .ok (.goto (-37), 3) := by decide +kernel
theorem dX8_atomAt_48 : decode cX8_atomAt 48 = .ok (.iload_n 3, 1) := by decide +kernel
theorem dX8_atomAt_49 : decode cX8_atomAt 49 = .ok (.ireturn, 1) := by decide +kernel
theorem dX8_atom_0 : decode cX8_atom 0 = .ok (.iload_n 1, 1) := by decide +kernel
theorem dX8_atom_1 : decode cX8_atom 1 = .ok (.invokestatic 114, 3) := by decide +kernel
theorem dX8_atom_4 : decode cX8_atom 4 = .ok (.ifCond .eq 14, 3) := by decide +kernel
theorem dX8_atom_7 : decode cX8_atom 7 = .ok (.iload_n 3, 1) := by decide +kernel
theorem dX8_atom_8 : decode cX8_atom 8 = .ok (.invokestatic 118, 3) := by decide +kernel
theorem dX8_atom_11 : decode cX8_atom 11 = .ok (.ifCond .eq 7, 3) := by decide +kernel
theorem dX8_atom_14 : decode cX8_atom 14 = .ok (.iconst 1, 1) := by decide +kernel
theorem dX8_atom_15 : decode cX8_atom 15 = .ok (.goto 4, 3) := by decide +kernel
theorem dX8_atom_18 : decode cX8_atom 18 = .ok (.iconst 0, 1) := by decide +kernel
theorem dX8_atom_19 : decode cX8_atom 19 = .ok (.istore 4, 2) := by decide +kernel
theorem dX8_atom_21 : decode cX8_atom 21 = .ok (.iload_n 2, 1) := by decide +kernel
theorem dX8_atom_22 : decode cX8_atom 22 = .ok (.invokestatic 121, 3) := by decide +kernel
theorem dX8_atom_25 : decode cX8_atom 25 = .ok (.istore 5, 2) := by decide +kernel
theorem dX8_atom_27 : decode cX8_atom 27 = .ok (.iload 4, 2) := by decide +kernel
theorem dX8_atom_29 : decode cX8_atom 29 = .ok (.ifCond .eq 17, 3) := by decide +kernel
theorem dX8_atom_32 : decode cX8_atom 32 = .ok (.iload 5, 2) := by decide +kernel
theorem dX8_atom_34 : decode cX8_atom 34 = .ok (.ifCond .eq 12, 3) := by decide +kernel
theorem dX8_atom_37 : decode cX8_atom 37 = .ok (.aload_n 0, 1) := by decide +kernel
theorem dX8_atom_38 : decode cX8_atom 38 = .ok (.iload_n 1, 1) := by decide +kernel
theorem dX8_atom_39 : decode cX8_atom 39 = .ok (.iload_n 2, 1) := by decide +kernel
theorem dX8_atom_40 : decode cX8_atom 40 = .ok (.invokevirtual 124, 3) := by decide +kernel
theorem dX8_atom_43 : decode cX8_atom 43 = .ok (.goto 4, 3) := by decide +kernel
theorem dX8_atom_46 : decode cX8_atom 46 = .ok (.iconst (-1), 1) := by decide +kernel
theorem dX8_atom_47 : decode cX8_atom 47 = .ok (.istore 6, 2) := by decide +kernel
theorem dX8_atom_49 : decode cX8_atom 49 = .ok (.iload 4, 2) := by decide +kernel
theorem dX8_atom_51 : decode cX8_atom 51 = .ok (.ifCond .eq 29, 3) := by decide +kernel
theorem dX8_atom_54 : decode cX8_atom 54 = .ok (.iload 5, 2) := by decide +kernel
theorem dX8_atom_56 : decode cX8_atom 56 = .ok (.ifCond .eq 24, 3) := by decide +kernel
theorem dX8_atom_59 : decode cX8_atom 59 = .ok (.iload 6, 2) := by decide +kernel
theorem dX8_atom_61 : decode cX8_atom 61 = .ok (.iconst (-1), 1) := by decide +kernel
theorem dX8_atom_62 : decode cX8_atom 62 = .ok (.if_icmp .ne 18, 3) := by decide +kernel
theorem dX8_atom_65 : decode cX8_atom 65 = .ok (.aload_n 0, 1) := by decide +kernel
theorem dX8_atom_66 : decode cX8_atom 66 = .ok (.getfield 7, 3) := by decide +kernel
theorem dX8_atom_69 : decode cX8_atom 69 = .ok (.iload_n 1, 1) := by decide +kernel
theorem dX8_atom_70 : decode cX8_atom 70 = .ok (.iaload, 1) := by decide +kernel
theorem dX8_atom_71 : decode cX8_atom 71 = .ok (.bipush 40, 2) := by decide +kernel
theorem dX8_atom_73 : decode cX8_atom 73 = .ok (.if_icmp .ne 7, 3) := by decide +kernel
theorem dX8_atom_76 : decode cX8_atom 76 = .ok (.iconst 1, 1) := by decide +kernel
theorem dX8_atom_77 : decode cX8_atom 77 = .ok (.goto 4, 3) := by decide +kernel
theorem dX8_atom_80 : decode cX8_atom 80 = .ok (.iconst 0, 1) := by decide +kernel
theorem dX8_atom_81 : decode cX8_atom 81 = .ok (.istore 7, 2) := by decide +kernel
theorem dX8_atom_83 : decode cX8_atom 83 = .ok (.aload_n 0, 1) := by decide +kernel
theorem dX8_atom_84 : decode cX8_atom 84 = .ok (.iload 4, 2) := by decide +kernel
theorem dX8_atom_86 : decode cX8_atom 86 = .ok (.ifCond .ne 7, 3) := by decide +kernel
theorem dX8_atom_89 : decode cX8_atom 89 = .ok (.iconst 1, 1) := by decide +kernel
theorem dX8_atom_90 : decode cX8_atom 90 = .ok (.goto 22, 3) := by decide +kernel
theorem dX8_atom_93 : decode cX8_atom 93 = .ok (.iload 5, 2) := by decide +kernel
theorem dX8_atom_95 : decode cX8_atom 95 = .ok (.ifCond .ne 7, 3) := by decide +kernel
theorem dX8_atom_98 : decode cX8_atom 98 = .ok (.iconst 2, 1) := by decide +kernel
theorem dX8_atom_99 : decode cX8_atom 99 = .ok (.goto 13, 3) := by decide +kernel
theorem dX8_atom_102 : decode cX8_atom 102 = .ok (.iload 7, 2) := by decide +kernel
theorem dX8_atom_104 : decode cX8_atom 104 = .ok (.ifCond .eq 7, 3) := by decide +kernel
theorem dX8_atom_107 : decode cX8_atom 107 = .ok (.iconst 3, 1) := by decide +kernel
theorem dX8_atom_108 : decode cX8_atom 108 = .ok (.goto 4, 3) := by decide +kernel
theorem dX8_atom_111 : decode cX8_atom 111 = .ok (.iconst 0, 1) := by decide +kernel
theorem dX8_atom_112 : decode cX8_atom 112 = .ok (.invokevirtual 128, 3) := by decide +kernel
theorem dX8_atom_115 : decode cX8_atom 115 = .ok (.ifCond .ne 5, 3) := by decide +kernel
theorem dX8_atom_118 : decode cX8_atom 118 = .ok (.iconst 0, 1) := by decide +kernel
theorem dX8_atom_119 : decode cX8_atom 119 = .ok (.ireturn, 1) := by decide +kernel
theorem dX8_atom_120 : decode cX8_atom 120 = .ok (.iload 6, 2) := by decide +kernel
theorem dX8_atom_122 : decode cX8_atom 122 = .ok (.iconst (-1), 1) := by decide +kernel
theorem dX8_atom_123 : decode cX8_atom 123 = .ok (.if_icmp .ne 49, 3) := by decide +kernel
theorem dX8_atom_126 : decode cX8_atom 126 = .ok (.aload_n 0, 1) := by decide +kernel
theorem dX8_atom_127 : decode cX8_atom 127 = .ok (.getfield 13, 3) := by decide +kernel
theorem dX8_atom_130 : decode cX8_atom 130 = .ok (.bipush 40, 2) := by decide +kernel
theorem dX8_atom_132 : decode cX8_atom 132 = .ok (.iload_n 1, 1) := by decide +kernel
theorem dX8_atom_133 : decode cX8_atom 133 = .ok (.imul, 1) := by decide +kernel
theorem dX8_atom_134 : decode cX8_atom 134 = .ok (.aload_n 0, 1) := by decide +kernel
theorem dX8_atom_135 : decode cX8_atom 135 = .ok (.getfield 7, 3) := by decide +kernel
theorem dX8_atom_138 : decode cX8_atom 138 = .ok (.iload_n 1, 1) := by decide +kernel
theorem dX8_atom_139 : decode cX8_atom 139 = .ok (.iaload, 1) := by decide +kernel
theorem dX8_atom_140 : decode cX8_atom 140 = .ok (.iadd, 1) := by decide +kernel
theorem dX8_atom_141 : decode cX8_atom 141 = .ok (.iload_n 2, 1) := by decide +kernel
theorem dX8_atom_142 : decode cX8_atom 142 = .ok (.iastore, 1) := by decide +kernel
theorem dX8_atom_143 : decode cX8_atom 143 = .ok (.aload_n 0, 1) := by decide +kernel
theorem dX8_atom_144 : decode cX8_atom 144 = .ok (.getfield 16, 3) := by decide +kernel
theorem dX8_atom_147 : decode cX8_atom 147 = .ok (.bipush 40, 2) := by decide +kernel
theorem dX8_atom_149 : decode cX8_atom 149 = .ok (.iload_n 1, 1) := by decide +kernel
theorem dX8_atom_150 : decode cX8_atom 150 = .ok (.imul, 1) := by decide +kernel
theorem dX8_atom_151 : decode cX8_atom 151 = .ok (.aload_n 0, 1) := by decide +kernel
theorem dX8_atom_152 : decode cX8_atom 152 = .ok (.getfield 7, 3) := by decide +kernel
theorem dX8_atom_155 : decode cX8_atom 155 = .ok (.iload_n 1, 1) := by decide +kernel
theorem dX8_atom_156 : decode cX8_atom 156 = .ok (.iaload, 1) := by decide +kernel
theorem dX8_atom_157 : decode cX8_atom 157 = .ok (.iadd, 1) := by decide +kernel
theorem dX8_atom_158 : decode cX8_atom 158 = .ok (.iload_n 3, 1) := by decide +kernel
theorem dX8_atom_159 : decode cX8_atom 159 = .ok (.iastore, 1) := by decide +kernel
theorem dX8_atom_160 : decode cX8_atom 160 = .ok (.aload_n 0, 1) := by decide +kernel
theorem dX8_atom_161 : decode cX8_atom 161 = .ok (.getfield 7, 3) := by decide +kernel
theorem dX8_atom_164 : decode cX8_atom 164 = .ok (.iload_n 1, 1) := by decide +kernel
theorem dX8_atom_165 : decode cX8_atom 165 = .ok (.dup2, 1) := by decide +kernel
theorem dX8_atom_166 : decode cX8_atom 166 = .ok (.iaload, 1) := by decide +kernel
theorem dX8_atom_167 : decode cX8_atom 167 = .ok (.iconst 1, 1) := by decide +kernel
theorem dX8_atom_168 : decode cX8_atom 168 = .ok (.iadd, 1) := by decide +kernel
theorem dX8_atom_169 : decode cX8_atom 169 = .ok (.iastore, 1) := by decide +kernel
theorem dX8_atom_170 : decode cX8_atom 170 = .ok (.iconst (-1), 1) := by decide +kernel
theorem dX8_atom_171 : decode cX8_atom 171 = .ok (.ireturn, 1) := by decide +kernel
theorem dX8_atom_172 : decode cX8_atom 172 = .ok (.aload_n 0, 1) := by decide +kernel
theorem dX8_atom_173 : decode cX8_atom 173 = .ok (.getfield 16, 3) := by decide +kernel
theorem dX8_atom_176 : decode cX8_atom 176 = .ok (.iload 6, 2) := by decide +kernel
theorem dX8_atom_178 : decode cX8_atom 178 = .ok (.iaload, 1) := by decide +kernel
theorem dX8_atom_179 : decode cX8_atom 179 = .ok (.istore 8, 2) := by decide +kernel
theorem dX8_atom_181 : decode cX8_atom 181 = .ok (.aload_n 0, 1) := by decide +kernel
theorem dX8_atom_182 : decode cX8_atom 182 = .ok (.getfield 16, 3) := by decide +kernel
theorem dX8_atom_185 : decode cX8_atom 185 = .ok (.iload 6, 2) := by decide +kernel
theorem dX8_atom_187 : decode cX8_atom 187 = .ok (.iload_n 3, 1) := by decide +kernel
theorem dX8_atom_188 : decode cX8_atom 188 = .ok (.iastore, 1) := by decide +kernel
theorem dX8_atom_189 : decode cX8_atom 189 = .ok (.iload 8, 2) := by decide +kernel
theorem dX8_atom_191 : decode cX8_atom 191 = .ok (.ireturn, 1) := by decide +kernel
theorem dX8_dropAtom_0 : decode cX8_dropAtom 0 = .ok (.aload_n 0, 1) := by decide +kernel
theorem dX8_dropAtom_1 : decode cX8_dropAtom 1 = .ok (.iload_n 1, 1) := by decide +kernel
theorem dX8_dropAtom_2 : decode cX8_dropAtom 2 = .ok (.invokestatic 114, 3) := by decide +kernel
theorem dX8_dropAtom_5 : decode cX8_dropAtom 5 = .ok (.ifCond .eq 7, 3) := by decide +kernel
theorem dX8_dropAtom_8 : decode cX8_dropAtom 8 = .ok (.iconst 0, 1) := by decide +kernel
theorem dX8_dropAtom_9 : decode cX8_dropAtom 9 = .ok (.goto 4, 3) := by decide +kernel
theorem dX8_dropAtom_12 : decode cX8_dropAtom 12 = .ok (.iconst 1, 1) := by decide +kernel
theorem dX8_dropAtom_13 : decode cX8_dropAtom 13 = .ok (.invokevirtual 128, 3) := by decide +kernel
theorem dX8_dropAtom_16 : decode cX8_dropAtom 16 = .ok (.ifCond .ne 5, 3) := by decide +kernel
theorem dX8_dropAtom_19 : decode cX8_dropAtom 19 = .ok (.iconst 0, 1) := by decide +kernel
theorem dX8_dropAtom_20 : decode cX8_dropAtom 20 = .ok (.ireturn, 1) := by decide +kernel
theorem dX8_dropAtom_21 : decode cX8_dropAtom 21 = .ok (.aload_n 0, 1) := by decide +kernel
theorem dX8_dropAtom_22 : decode cX8_dropAtom 22 = .ok (.iload_n 1, 1) := by decide +kernel
theorem dX8_dropAtom_23 : decode cX8_dropAtom 23 = .ok (.iload_n 2, 1) := by decide +kernel
theorem dX8_dropAtom_24 : decode cX8_dropAtom 24 = .ok (.invokevirtual 124, 3) := by decide +kernel
theorem dX8_dropAtom_27 : decode cX8_dropAtom 27 = .ok (.istore_n 3, 1) := by decide +kernel
theorem dX8_dropAtom_28 : decode cX8_dropAtom 28 = .ok (.iload_n 3, 1) := by decide +kernel
theorem dX8_dropAtom_29 : decode cX8_dropAtom 29 = .ok (.iconst (-1), 1) := by decide +kernel
theorem dX8_dropAtom_30 : decode cX8_dropAtom 30 = .ok (.if_icmp .ne 5, 3) := by decide +kernel
theorem dX8_dropAtom_33 : decode cX8_dropAtom 33 = .ok (.iconst (-1), 1) := by decide +kernel
theorem dX8_dropAtom_34 : decode cX8_dropAtom 34 = .ok (.ireturn, 1) := by decide +kernel
theorem dX8_dropAtom_35 : decode cX8_dropAtom 35 = .ok (.aload_n 0, 1) := by decide +kernel
theorem dX8_dropAtom_36 : decode cX8_dropAtom 36 = .ok (.getfield 16, 3) := by decide +kernel
theorem dX8_dropAtom_39 : decode cX8_dropAtom 39 = .ok (.iload_n 3, 1) := by decide +kernel
theorem dX8_dropAtom_40 : decode cX8_dropAtom 40 = .ok (.iaload, 1) := by decide +kernel
theorem dX8_dropAtom_41 : decode cX8_dropAtom 41 = .ok (.istore 4, 2) := by decide +kernel
theorem dX8_dropAtom_43 : decode cX8_dropAtom 43 = .ok (.aload_n 0, 1) := by decide +kernel
theorem dX8_dropAtom_44 : decode cX8_dropAtom 44 = .ok (.getfield 7, 3) := by decide +kernel
theorem dX8_dropAtom_47 : decode cX8_dropAtom 47 = .ok (.iload_n 1, 1) := by decide +kernel
theorem dX8_dropAtom_48 : decode cX8_dropAtom 48 = .ok (.dup2, 1) := by decide +kernel
theorem dX8_dropAtom_49 : decode cX8_dropAtom 49 = .ok (.iaload, 1) := by decide +kernel
theorem dX8_dropAtom_50 : decode cX8_dropAtom 50 = .ok (.iconst 1, 1) := by decide +kernel
theorem dX8_dropAtom_51 : decode cX8_dropAtom 51 = .ok (.isub, 1) := by decide +kernel
theorem dX8_dropAtom_52 : decode cX8_dropAtom 52 = .ok (.iastore, 1) := by decide +kernel
theorem dX8_dropAtom_53 : decode cX8_dropAtom 53 = .ok (.aload_n 0, 1) := by decide +kernel
theorem dX8_dropAtom_54 : decode cX8_dropAtom 54 = .ok (.getfield 13, 3) := by decide +kernel
theorem dX8_dropAtom_57 : decode cX8_dropAtom 57 = .ok (.iload_n 3, 1) := by decide +kernel
theorem dX8_dropAtom_58 : decode cX8_dropAtom 58 = .ok (.aload_n 0, 1) := by decide +kernel
theorem dX8_dropAtom_59 : decode cX8_dropAtom 59 = .ok (.getfield 13, 3) := by decide +kernel
theorem dX8_dropAtom_62 : decode cX8_dropAtom 62 = .ok (.bipush 40, 2) := by decide +kernel
theorem dX8_dropAtom_64 : decode cX8_dropAtom 64 = .ok (.iload_n 1, 1) := by decide +kernel
theorem dX8_dropAtom_65 : decode cX8_dropAtom 65 = .ok (.imul, 1) := by decide +kernel
theorem dX8_dropAtom_66 : decode cX8_dropAtom 66 = .ok (.aload_n 0, 1) := by decide +kernel
theorem dX8_dropAtom_67 : decode cX8_dropAtom 67 = .ok (.getfield 7, 3) := by decide +kernel
theorem dX8_dropAtom_70 : decode cX8_dropAtom 70 = .ok (.iload_n 1, 1) := by decide +kernel
theorem dX8_dropAtom_71 : decode cX8_dropAtom 71 = .ok (.iaload, 1) := by decide +kernel
theorem dX8_dropAtom_72 : decode cX8_dropAtom 72 = .ok (.iadd, 1) := by decide +kernel
theorem dX8_dropAtom_73 : decode cX8_dropAtom 73 = .ok (.iaload, 1) := by decide +kernel
theorem dX8_dropAtom_74 : decode cX8_dropAtom 74 = .ok (.iastore, 1) := by decide +kernel
theorem dX8_dropAtom_75 : decode cX8_dropAtom 75 = .ok (.aload_n 0, 1) := by decide +kernel
theorem dX8_dropAtom_76 : decode cX8_dropAtom 76 = .ok (.getfield 16, 3) := by decide +kernel
theorem dX8_dropAtom_79 : decode cX8_dropAtom 79 = .ok (.iload_n 3, 1) := by decide +kernel
theorem dX8_dropAtom_80 : decode cX8_dropAtom 80 = .ok (.aload_n 0, 1) := by decide +kernel
theorem dX8_dropAtom_81 : decode cX8_dropAtom 81 = .ok (.getfield 16, 3) := by decide +kernel
theorem dX8_dropAtom_84 : decode cX8_dropAtom 84 = .ok (.bipush 40, 2) := by decide +kernel
theorem dX8_dropAtom_86 : decode cX8_dropAtom 86 = .ok (.iload_n 1, 1) := by decide +kernel
theorem dX8_dropAtom_87 : decode cX8_dropAtom 87 = .ok (.imul, 1) := by decide +kernel
theorem dX8_dropAtom_88 : decode cX8_dropAtom 88 = .ok (.aload_n 0, 1) := by decide +kernel
theorem dX8_dropAtom_89 : decode cX8_dropAtom 89 = .ok (.getfield 7, 3) := by decide +kernel
theorem dX8_dropAtom_92 : decode cX8_dropAtom 92 = .ok (.iload_n 1, 1) := by decide +kernel
theorem dX8_dropAtom_93 : decode cX8_dropAtom 93 = .ok (.iaload, 1) := by decide +kernel
theorem dX8_dropAtom_94 : decode cX8_dropAtom 94 = .ok (.iadd, 1) := by decide +kernel
theorem dX8_dropAtom_95 : decode cX8_dropAtom 95 = .ok (.iaload, 1) := by decide +kernel
theorem dX8_dropAtom_96 : decode cX8_dropAtom 96 = .ok (.iastore, 1) := by decide +kernel
theorem dX8_dropAtom_97 : decode cX8_dropAtom 97 = .ok (.iload 4, 2) := by decide +kernel
theorem dX8_dropAtom_99 : decode cX8_dropAtom 99 = .ok (.ireturn, 1) := by decide +kernel
theorem dX8_base_0 : decode cX8_base 0 = .ok (.iload_n 1, 1) := by decide +kernel
theorem dX8_base_1 : decode cX8_base 1 = .ok (.invokestatic 114, 3) := by decide +kernel
theorem dX8_base_4 : decode cX8_base 4 = .ok (.ifCond .eq 14, 3) := by decide +kernel
theorem dX8_base_7 : decode cX8_base 7 = .ok (.iload_n 3, 1) := by decide +kernel
theorem dX8_base_8 : decode cX8_base 8 = .ok (.invokestatic 118, 3) := by decide +kernel
theorem dX8_base_11 : decode cX8_base 11 = .ok (.ifCond .eq 7, 3) := by decide +kernel
theorem dX8_base_14 : decode cX8_base 14 = .ok (.iconst 1, 1) := by decide +kernel
theorem dX8_base_15 : decode cX8_base 15 = .ok (.goto 4, 3) := by decide +kernel
theorem dX8_base_18 : decode cX8_base 18 = .ok (.iconst 0, 1) := by decide +kernel
theorem dX8_base_19 : decode cX8_base 19 = .ok (.istore 6, 2) := by decide +kernel
theorem dX8_base_21 : decode cX8_base 21 = .ok (.iload_n 2, 1) := by decide +kernel
theorem dX8_base_22 : decode cX8_base 22 = .ok (.iconst 2, 1) := by decide +kernel
theorem dX8_base_23 : decode cX8_base 23 = .ok (.sipush 5000, 3) := by decide +kernel
theorem dX8_base_26 : decode cX8_base 26 = .ok (.invokestatic 110, 3) := by decide +kernel
theorem dX8_base_29 : decode cX8_base 29 = .ok (.ifCond .eq 29, 3) := by decide +kernel
theorem dX8_base_32 : decode cX8_base 32 = .ok (.iload 4, 2) := by decide +kernel
theorem dX8_base_34 : decode cX8_base 34 = .ok (.iconst 1, 1) := by decide +kernel
theorem dX8_base_35 : decode cX8_base 35 = .ok (.bipush 99, 2) := by decide +kernel
theorem dX8_base_37 : decode cX8_base 37 = .ok (.invokestatic 110, 3) := by decide +kernel
theorem dX8_base_40 : decode cX8_base 40 = .ok (.ifCond .eq 18, 3) := by decide +kernel
theorem dX8_base_43 : decode cX8_base 43 = .ok (.iload 5, 2) := by decide +kernel
theorem dX8_base_45 : decode cX8_base 45 = .ok (.iconst 0, 1) := by decide +kernel
theorem dX8_base_46 : decode cX8_base 46 = .ok (.bipush 15, 2) := by decide +kernel
theorem dX8_base_48 : decode cX8_base 48 = .ok (.invokestatic 110, 3) := by decide +kernel
theorem dX8_base_51 : decode cX8_base 51 = .ok (.ifCond .eq 7, 3) := by decide +kernel
theorem dX8_base_54 : decode cX8_base 54 = .ok (.iconst 1, 1) := by decide +kernel
theorem dX8_base_55 : decode cX8_base 55 = .ok (.goto 4, 3) := by decide +kernel
theorem dX8_base_58 : decode cX8_base 58 = .ok (.iconst 0, 1) := by decide +kernel
theorem dX8_base_59 : decode cX8_base 59 = .ok (.istore 7, 2) := by decide +kernel
theorem dX8_base_61 : decode cX8_base 61 = .ok (.iconst 0, 1) := by decide +kernel
theorem dX8_base_62 : decode cX8_base 62 = .ok (.istore 8, 2) := by decide +kernel
theorem dX8_base_64 : decode cX8_base 64 = .ok (.iconst 0, 1) := by decide +kernel
theorem dX8_base_65 : decode cX8_base 65 = .ok (.istore 9, 2) := by decide +kernel
theorem dX8_base_67 : decode cX8_base 67 = .ok (.iload 9, 2) := by decide +kernel
theorem dX8_base_69 : decode cX8_base 69 = .ok (.iconst 5, 1) := by decide +kernel
theorem dX8_base_70 : decode cX8_base 70 = .ok (.if_icmp .ge 52, 3) := by decide +kernel
theorem dX8_base_73 : decode cX8_base 73 = .ok (.iload 6, 2) := by decide +kernel
theorem dX8_base_75 : decode cX8_base 75 = .ok (.ifCond .eq 47, 3) := by decide +kernel
theorem dX8_base_78 : decode cX8_base 78 = .ok (.iload 8, 2) := by decide +kernel
theorem dX8_base_80 : decode cX8_base 80 = .ok (.ifCond .ne 29, 3) := by decide +kernel
theorem dX8_base_83 : decode cX8_base 83 = .ok (.iload 9, 2) := by decide +kernel
theorem dX8_base_85 : decode cX8_base 85 = .ok (.aload_n 0, 1) := by decide +kernel
theorem dX8_base_86 : decode cX8_base 86 = .ok (.getfield 19, 3) := by decide +kernel
theorem dX8_base_89 : decode cX8_base 89 = .ok (.iload_n 1, 1) := by decide +kernel
theorem dX8_base_90 : decode cX8_base 90 = .ok (.iaload, 1) := by decide +kernel
theorem dX8_base_91 : decode cX8_base 91 = .ok (.if_icmp .ge 22, 3) := by decide +kernel
theorem dX8_base_94 : decode cX8_base 94 = .ok (.aload_n 0, 1) := by decide +kernel
theorem dX8_base_95 : decode cX8_base 95 = .ok (.getfield 22, 3) := by decide +kernel
theorem dX8_base_98 : decode cX8_base 98 = .ok (.iconst 5, 1) := by decide +kernel
theorem dX8_base_99 : decode cX8_base 99 = .ok (.iload_n 1, 1) := by decide +kernel
theorem dX8_base_100 : decode cX8_base 100 = .ok (.imul, 1) := by decide +kernel
theorem dX8_base_101 : decode cX8_base 101 = .ok (.iload 9, 2) := by decide +kernel
theorem dX8_base_103 : decode cX8_base 103 = .ok (.iadd, 1) := by decide +kernel
theorem dX8_base_104 : decode cX8_base 104 = .ok (.iaload, 1) := by decide +kernel
theorem dX8_base_105 : decode cX8_base 105 = .ok (.iload_n 2, 1) := by decide +kernel
theorem dX8_base_106 : decode cX8_base 106 = .ok (.if_icmp .ne 7, 3) := by decide +kernel
theorem dX8_base_109 : decode cX8_base 109 = .ok (.iconst 1, 1) := by decide +kernel
theorem dX8_base_110 : decode cX8_base 110 = .ok (.goto 4, 3) := by decide +kernel
theorem dX8_base_113 : decode cX8_base 113 = .ok (.iconst 0, 1) := by decide +kernel
theorem dX8_base_114 : decode cX8_base 114 = .ok (.istore 8, 2) := by decide +kernel
theorem dX8_base_116 : decode cX8_base 116 = .ok (.iinc 9 1, 3) := by decide +kernel
theorem dX8_base_119 : decode cX8_base 119 = .ok (.goto (-52), 3) := by decide +kernel
theorem dX8_base_122 : decode cX8_base 122 = .ok (.aload_n 0, 1) := by decide +kernel
theorem dX8_base_123 : decode cX8_base 123 = .ok (.iload 6, 2) := by decide +kernel
theorem dX8_base_125 : decode cX8_base 125 = .ok (.ifCond .ne 7, 3) := by decide +kernel
theorem dX8_base_128 : decode cX8_base 128 = .ok (.iconst 1, 1) := by decide +kernel
theorem dX8_base_129 : decode cX8_base 129 = .ok (.goto 32, 3) := by decide +kernel
theorem dX8_base_132 : decode cX8_base 132 = .ok (.iload 7, 2) := by decide +kernel
theorem dX8_base_134 : decode cX8_base 134 = .ok (.ifCond .ne 7, 3) := by decide +kernel
theorem dX8_base_137 : decode cX8_base 137 = .ok (.iconst 2, 1) := by decide +kernel
theorem dX8_base_138 : decode cX8_base 138 = .ok (.goto 23, 3) := by decide +kernel
theorem dX8_base_141 : decode cX8_base 141 = .ok (.iload 8, 2) := by decide +kernel
theorem dX8_base_143 : decode cX8_base 143 = .ok (.ifCond .ne 13, 3) := by decide +kernel
theorem dX8_base_146 : decode cX8_base 146 = .ok (.aload_n 0, 1) := by decide +kernel
theorem dX8_base_147 : decode cX8_base 147 = .ok (.getfield 19, 3) := by decide +kernel
theorem dX8_base_150 : decode cX8_base 150 = .ok (.iload_n 1, 1) := by decide +kernel
theorem dX8_base_151 : decode cX8_base 151 = .ok (.iaload, 1) := by decide +kernel
theorem dX8_base_152 : decode cX8_base 152 = .ok (.iconst 5, 1) := by decide +kernel
theorem dX8_base_153 : decode cX8_base 153 = .ok (.if_icmp .ne 7, 3) := by decide +kernel
theorem dX8_base_156 : decode cX8_base 156 = .ok (.iconst 3, 1) := by decide +kernel
theorem dX8_base_157 : decode cX8_base 157 = .ok (.goto 4, 3) := by decide +kernel
theorem dX8_base_160 : decode cX8_base 160 = .ok (.iconst 0, 1) := by decide +kernel
theorem dX8_base_161 : decode cX8_base 161 = .ok (.invokevirtual 128, 3) := by decide +kernel
theorem dX8_base_164 : decode cX8_base 164 = .ok (.ifCond .ne 5, 3) := by decide +kernel
theorem dX8_base_167 : decode cX8_base 167 = .ok (.iconst 0, 1) := by decide +kernel
theorem dX8_base_168 : decode cX8_base 168 = .ok (.ireturn, 1) := by decide +kernel
theorem dX8_base_169 : decode cX8_base 169 = .ok (.iconst 5, 1) := by decide +kernel
theorem dX8_base_170 : decode cX8_base 170 = .ok (.iload_n 1, 1) := by decide +kernel
theorem dX8_base_171 : decode cX8_base 171 = .ok (.imul, 1) := by decide +kernel
theorem dX8_base_172 : decode cX8_base 172 = .ok (.aload_n 0, 1) := by decide +kernel
theorem dX8_base_173 : decode cX8_base 173 = .ok (.getfield 19, 3) := by decide +kernel
theorem dX8_base_176 : decode cX8_base 176 = .ok (.iload_n 1, 1) := by decide +kernel
theorem dX8_base_177 : decode cX8_base 177 = .ok (.iaload, 1) := by decide +kernel
theorem dX8_base_178 : decode cX8_base 178 = .ok (.iadd, 1) := by decide +kernel
theorem dX8_base_179 : decode cX8_base 179 = .ok (.istore 9, 2) := by decide +kernel
theorem dX8_base_181 : decode cX8_base 181 = .ok (.aload_n 0, 1) := by decide +kernel
theorem dX8_base_182 : decode cX8_base 182 = .ok (.getfield 22, 3) := by decide +kernel
theorem dX8_base_185 : decode cX8_base 185 = .ok (.iload 9, 2) := by decide +kernel
theorem dX8_base_187 : decode cX8_base 187 = .ok (.iload_n 2, 1) := by decide +kernel
theorem dX8_base_188 : decode cX8_base 188 = .ok (.iastore, 1) := by decide +kernel
theorem dX8_base_189 : decode cX8_base 189 = .ok (.aload_n 0, 1) := by decide +kernel
theorem dX8_base_190 : decode cX8_base 190 = .ok (.getfield 25, 3) := by decide +kernel
theorem dX8_base_193 : decode cX8_base 193 = .ok (.iload 9, 2) := by decide +kernel
theorem dX8_base_195 : decode cX8_base 195 = .ok (.iload_n 3, 1) := by decide +kernel
theorem dX8_base_196 : decode cX8_base 196 = .ok (.iastore, 1) := by decide +kernel
theorem dX8_base_197 : decode cX8_base 197 = .ok (.aload_n 0, 1) := by decide +kernel
theorem dX8_base_198 : decode cX8_base 198 = .ok (.getfield 28, 3) := by decide +kernel
theorem dX8_base_201 : decode cX8_base 201 = .ok (.iload 9, 2) := by decide +kernel
theorem dX8_base_203 : decode cX8_base 203 = .ok (.iload 4, 2) := by decide +kernel
theorem dX8_base_205 : decode cX8_base 205 = .ok (.iastore, 1) := by decide +kernel
theorem dX8_base_206 : decode cX8_base 206 = .ok (.aload_n 0, 1) := by decide +kernel
theorem dX8_base_207 : decode cX8_base 207 = .ok (.getfield 31, 3) := by decide +kernel
theorem dX8_base_210 : decode cX8_base 210 = .ok (.iload 9, 2) := by decide +kernel
theorem dX8_base_212 : decode cX8_base 212 = .ok (.iload 5, 2) := by decide +kernel
theorem dX8_base_214 : decode cX8_base 214 = .ok (.iastore, 1) := by decide +kernel
theorem dX8_base_215 : decode cX8_base 215 = .ok (.aload_n 0, 1) := by decide +kernel
theorem dX8_base_216 : decode cX8_base 216 = .ok (.getfield 34, 3) := by decide +kernel
theorem dX8_base_219 : decode cX8_base 219 = .ok (.iload 9, 2) := by decide +kernel
theorem dX8_base_221 : decode cX8_base 221 = .ok (.iconst (-1), 1) := by decide +kernel
theorem dX8_base_222 : decode cX8_base 222 = .ok (.iastore, 1) := by decide +kernel
theorem dX8_base_223 : decode cX8_base 223 = .ok (.aload_n 0, 1) := by decide +kernel
theorem dX8_base_224 : decode cX8_base 224 = .ok (.getfield 37, 3) := by decide +kernel
theorem dX8_base_227 : decode cX8_base 227 = .ok (.iload 9, 2) := by decide +kernel
theorem dX8_base_229 : decode cX8_base 229 = .ok (.iconst 0, 1) := by decide +kernel
theorem dX8_base_230 : decode cX8_base 230 = .ok (.iastore, 1) := by decide +kernel
theorem dX8_base_231 : decode cX8_base 231 = .ok (.aload_n 0, 1) := by decide +kernel
theorem dX8_base_232 : decode cX8_base 232 = .ok (.getfield 40, 3) := by decide +kernel
theorem dX8_base_235 : decode cX8_base 235 = .ok (.iload 9, 2) := by decide +kernel
theorem dX8_base_237 : decode cX8_base 237 = .ok (.iconst 0, 1) := by decide +kernel
theorem dX8_base_238 : decode cX8_base 238 = .ok (.iastore, 1) := by decide +kernel
theorem dX8_base_239 : decode cX8_base 239 = .ok (.aload_n 0, 1) := by decide +kernel
theorem dX8_base_240 : decode cX8_base 240 = .ok (.getfield 19, 3) := by decide +kernel
theorem dX8_base_243 : decode cX8_base 243 = .ok (.iload_n 1, 1) := by decide +kernel
theorem dX8_base_244 : decode cX8_base 244 = .ok (.dup2, 1) := by decide +kernel
theorem dX8_base_245 : decode cX8_base 245 = .ok (.iaload, 1) := by decide +kernel
theorem dX8_base_246 : decode cX8_base 246 = .ok (.iconst 1, 1) := by decide +kernel
theorem dX8_base_247 : decode cX8_base 247 = .ok (.iadd, 1) := by decide +kernel
theorem dX8_base_248 : decode cX8_base 248 = .ok (.iastore, 1) := by decide +kernel
theorem dX8_base_249 : decode cX8_base 249 = .ok (.aload_n 0, 1) := by decide +kernel
theorem dX8_base_250 : decode cX8_base 250 = .ok (.getfield 19, 3) := by decide +kernel
theorem dX8_base_253 : decode cX8_base 253 = .ok (.iload_n 1, 1) := by decide +kernel
theorem dX8_base_254 : decode cX8_base 254 = .ok (.iaload, 1) := by decide +kernel
theorem dX8_base_255 : decode cX8_base 255 = .ok (.iconst 1, 1) := by decide +kernel
theorem dX8_base_256 : decode cX8_base 256 = .ok (.isub, 1) := by decide +kernel
theorem dX8_base_257 : decode cX8_base 257 = .ok (.ireturn, 1) := by decide +kernel
theorem dX8_joint_0 : decode cX8_joint 0 = .ok (.aload_n 0, 1) := by decide +kernel
theorem dX8_joint_1 : decode cX8_joint 1 = .ok (.aload_n 0, 1) := by decide +kernel
theorem dX8_joint_2 : decode cX8_joint 2 = .ok (.iload_n 1, 1) := by decide +kernel
theorem dX8_joint_3 : decode cX8_joint 3 = .ok (.iload_n 2, 1) := by decide +kernel
theorem dX8_joint_4 : decode cX8_joint 4 = .ok (.invokevirtual 131, 3) := by decide +kernel
theorem dX8_joint_7 : decode cX8_joint 7 = .ok (.ifCond .eq 14, 3) := by decide +kernel
theorem dX8_joint_10 : decode cX8_joint 10 = .ok (.iload_n 3, 1) := by decide +kernel
theorem dX8_joint_11 : decode cX8_joint 11 = .ok (.invokestatic 135, 3) := by decide +kernel
theorem dX8_joint_14 : decode cX8_joint 14 = .ok (.ifCond .eq 7, 3) := by decide +kernel
theorem dX8_joint_17 : decode cX8_joint 17 = .ok (.iconst 0, 1) := by decide +kernel
theorem dX8_joint_18 : decode cX8_joint 18 = .ok (.goto 4, 3) := by decide +kernel
theorem dX8_joint_21 : decode cX8_joint 21 = .ok (.iconst 1, 1) := by decide +kernel
theorem dX8_joint_22 : decode cX8_joint 22 = .ok (.invokevirtual 128, 3) := by decide +kernel
theorem dX8_joint_25 : decode cX8_joint 25 = .ok (.ifCond .ne 5, 3) := by decide +kernel
theorem dX8_joint_28 : decode cX8_joint 28 = .ok (.iconst 0, 1) := by decide +kernel
theorem dX8_joint_29 : decode cX8_joint 29 = .ok (.ireturn, 1) := by decide +kernel
theorem dX8_joint_30 : decode cX8_joint 30 = .ok (.aload_n 0, 1) := by decide +kernel
theorem dX8_joint_31 : decode cX8_joint 31 = .ok (.getfield 34, 3) := by decide +kernel
theorem dX8_joint_34 : decode cX8_joint 34 = .ok (.iconst 5, 1) := by decide +kernel
theorem dX8_joint_35 : decode cX8_joint 35 = .ok (.iload_n 1, 1) := by decide +kernel
theorem dX8_joint_36 : decode cX8_joint 36 = .ok (.imul, 1) := by decide +kernel
theorem dX8_joint_37 : decode cX8_joint 37 = .ok (.iload_n 2, 1) := by decide +kernel
theorem dX8_joint_38 : decode cX8_joint 38 = .ok (.iadd, 1) := by decide +kernel
theorem dX8_joint_39 : decode cX8_joint 39 = .ok (.iaload, 1) := by decide +kernel
theorem dX8_joint_40 : decode cX8_joint 40 = .ok (.istore 4, 2) := by decide +kernel
theorem dX8_joint_42 : decode cX8_joint 42 = .ok (.aload_n 0, 1) := by decide +kernel
theorem dX8_joint_43 : decode cX8_joint 43 = .ok (.getfield 34, 3) := by decide +kernel
theorem dX8_joint_46 : decode cX8_joint 46 = .ok (.iconst 5, 1) := by decide +kernel
theorem dX8_joint_47 : decode cX8_joint 47 = .ok (.iload_n 1, 1) := by decide +kernel
theorem dX8_joint_48 : decode cX8_joint 48 = .ok (.imul, 1) := by decide +kernel
theorem dX8_joint_49 : decode cX8_joint 49 = .ok (.iload_n 2, 1) := by decide +kernel
theorem dX8_joint_50 : decode cX8_joint 50 = .ok (.iadd, 1) := by decide +kernel
theorem dX8_joint_51 : decode cX8_joint 51 = .ok (.iload_n 3, 1) := by decide +kernel
theorem dX8_joint_52 : decode cX8_joint 52 = .ok (.iastore, 1) := by decide +kernel
theorem dX8_joint_53 : decode cX8_joint 53 = .ok (.iload 4, 2) := by decide +kernel
theorem dX8_joint_55 : decode cX8_joint 55 = .ok (.ireturn, 1) := by decide +kernel
theorem dX8_less_0 : decode cX8_less 0 = .ok (.aload_n 0, 1) := by decide +kernel
theorem dX8_less_1 : decode cX8_less 1 = .ok (.iload_n 1, 1) := by decide +kernel
theorem dX8_less_2 : decode cX8_less 2 = .ok (.iload_n 2, 1) := by decide +kernel
theorem dX8_less_3 : decode cX8_less 3 = .ok (.invokevirtual 131, 3) := by decide +kernel
theorem dX8_less_6 : decode cX8_less 6 = .ok (.ifCond .eq 15, 3) := by decide +kernel
theorem dX8_less_9 : decode cX8_less 9 = .ok (.iload 4, 2) := by decide +kernel
theorem dX8_less_11 : decode cX8_less 11 = .ok (.invokestatic 118, 3) := by decide +kernel
theorem dX8_less_14 : decode cX8_less 14 = .ok (.ifCond .eq 7, 3) := by decide +kernel
theorem dX8_less_17 : decode cX8_less 17 = .ok (.iconst 1, 1) := by decide +kernel
theorem dX8_less_18 : decode cX8_less 18 = .ok (.goto 4, 3) := by decide +kernel
theorem dX8_less_21 : decode cX8_less 21 = .ok (.iconst 0, 1) := by decide +kernel
theorem dX8_less_22 : decode cX8_less 22 = .ok (.istore 5, 2) := by decide +kernel
theorem dX8_less_24 : decode cX8_less 24 = .ok (.aload_n 0, 1) := by decide +kernel
theorem dX8_less_25 : decode cX8_less 25 = .ok (.iload 5, 2) := by decide +kernel
theorem dX8_less_27 : decode cX8_less 27 = .ok (.ifCond .ne 7, 3) := by decide +kernel
theorem dX8_less_30 : decode cX8_less 30 = .ok (.iconst 1, 1) := by decide +kernel
theorem dX8_less_31 : decode cX8_less 31 = .ok (.goto 18, 3) := by decide +kernel
theorem dX8_less_34 : decode cX8_less 34 = .ok (.iload_n 3, 1) := by decide +kernel
theorem dX8_less_35 : decode cX8_less 35 = .ok (.iconst 0, 1) := by decide +kernel
theorem dX8_less_36 : decode cX8_less 36 = .ok (.bipush 9, 2) := by decide +kernel
theorem dX8_less_38 : decode cX8_less 38 = .ok (.invokestatic 110, 3) := by decide +kernel
theorem dX8_less_41 : decode cX8_less 41 = .ok (.ifCond .eq 7, 3) := by decide +kernel
theorem dX8_less_44 : decode cX8_less 44 = .ok (.iconst 0, 1) := by decide +kernel
theorem dX8_less_45 : decode cX8_less 45 = .ok (.goto 4, 3) := by decide +kernel
theorem dX8_less_48 : decode cX8_less 48 = .ok (.iconst 2, 1) := by decide +kernel
theorem dX8_less_49 : decode cX8_less 49 = .ok (.invokevirtual 128, 3) := by decide +kernel
theorem dX8_less_52 : decode cX8_less 52 = .ok (.ifCond .ne 5, 3) := by decide +kernel
theorem dX8_less_55 : decode cX8_less 55 = .ok (.iconst 0, 1) := by decide +kernel
theorem dX8_less_56 : decode cX8_less 56 = .ok (.ireturn, 1) := by decide +kernel
theorem dX8_less_57 : decode cX8_less 57 = .ok (.iconst 5, 1) := by decide +kernel
theorem dX8_less_58 : decode cX8_less 58 = .ok (.iload_n 1, 1) := by decide +kernel
theorem dX8_less_59 : decode cX8_less 59 = .ok (.imul, 1) := by decide +kernel
theorem dX8_less_60 : decode cX8_less 60 = .ok (.iload_n 2, 1) := by decide +kernel
theorem dX8_less_61 : decode cX8_less 61 = .ok (.iadd, 1) := by decide +kernel
theorem dX8_less_62 : decode cX8_less 62 = .ok (.istore 6, 2) := by decide +kernel
theorem dX8_less_64 : decode cX8_less 64 = .ok (.aload_n 0, 1) := by decide +kernel
theorem dX8_less_65 : decode cX8_less 65 = .ok (.getfield 37, 3) := by decide +kernel
theorem dX8_less_68 : decode cX8_less 68 = .ok (.iload 6, 2) := by decide +kernel
theorem dX8_less_70 : decode cX8_less 70 = .ok (.iaload, 1) := by decide +kernel
theorem dX8_less_71 : decode cX8_less 71 = .ok (.istore 7, 2) := by decide +kernel
theorem dX8_less_73 : decode cX8_less 73 = .ok (.aload_n 0, 1) := by decide +kernel
theorem dX8_less_74 : decode cX8_less 74 = .ok (.getfield 37, 3) := by decide +kernel
theorem dX8_less_77 : decode cX8_less 77 = .ok (.iload 6, 2) := by decide +kernel
theorem dX8_less_79 : decode cX8_less 79 = .ok (.iload_n 3, 1) := by decide +kernel
theorem dX8_less_80 : decode cX8_less 80 = .ok (.iastore, 1) := by decide +kernel
theorem dX8_less_81 : decode cX8_less 81 = .ok (.aload_n 0, 1) := by decide +kernel
theorem dX8_less_82 : decode cX8_less 82 = .ok (.getfield 40, 3) := by decide +kernel
theorem dX8_less_85 : decode cX8_less 85 = .ok (.iload 6, 2) := by decide +kernel
theorem dX8_less_87 : decode cX8_less 87 = .ok (.iload 4, 2) := by decide +kernel
theorem dX8_less_89 : decode cX8_less 89 = .ok (.iastore, 1) := by decide +kernel
theorem dX8_less_90 : decode cX8_less 90 = .ok (.iload 7, 2) := by decide +kernel
theorem dX8_less_92 : decode cX8_less 92 = .ok (.ireturn, 1) := by decide +kernel
theorem dX8_formAt_0 : decode cX8_formAt 0 = .ok (.iconst (-1), 1) := by decide +kernel
theorem dX8_formAt_1 : decode cX8_formAt 1 = .ok (.istore 4, 2) := by decide +kernel
theorem dX8_formAt_3 : decode cX8_formAt 3 = .ok (.bipush 30, 2) := by decide +kernel
theorem dX8_formAt_5 : decode cX8_formAt 5 = .ok (.iload_n 1, 1) := by decide +kernel
theorem dX8_formAt_6 : decode cX8_formAt 6 = .ok (.imul, 1) := by decide +kernel
theorem dX8_formAt_7 : decode cX8_formAt 7 = .ok (.istore 5, 2) := by decide +kernel
theorem dX8_formAt_9 : decode cX8_formAt 9 = .ok (.iload 5, 2) := by decide +kernel
theorem dX8_formAt_11 : decode cX8_formAt 11 = .ok (.bipush 30, 2) := by decide +kernel
theorem dX8_formAt_13 : decode cX8_formAt 13 = .ok (.iload_n 1, 1) := by decide +kernel
theorem dX8_formAt_14 : decode cX8_formAt 14 = .ok (.imul, 1) := by decide +kernel
theorem dX8_formAt_15 : decode cX8_formAt 15 = .ok (.aload_n 0, 1) := by decide +kernel
theorem dX8_formAt_16 : decode cX8_formAt 16 = .ok (.getfield 43, 3) := by decide +kernel
theorem dX8_formAt_19 : decode cX8_formAt 19 = .ok (.iload_n 1, 1) := by decide +kernel
theorem dX8_formAt_20 : decode cX8_formAt 20 = .ok (.iaload, 1) := by decide +kernel
theorem dX8_formAt_21 : decode cX8_formAt 21 = .ok (.iadd, 1) := by decide +kernel
theorem dX8_formAt_22 : decode cX8_formAt 22 = .ok (.if_icmp .ge 40, 3) := by decide +kernel
theorem dX8_formAt_25 : decode cX8_formAt 25 = .ok (.aload_n 0, 1) := by decide +kernel
theorem dX8_formAt_26 : decode cX8_formAt 26 = .ok (.getfield 46, 3) := by decide +kernel
theorem dX8_formAt_29 : decode cX8_formAt 29 = .ok (.iload 5, 2) := by decide +kernel
theorem dX8_formAt_31 : decode cX8_formAt 31 = .ok (.iaload, 1) := by decide +kernel
theorem dX8_formAt_32 : decode cX8_formAt 32 = .ok (.iload_n 2, 1) := by decide +kernel
theorem dX8_formAt_33 : decode cX8_formAt 33 = .ok (.if_icmp .ne 19, 3) := by decide +kernel
theorem dX8_formAt_36 : decode cX8_formAt 36 = .ok (.aload_n 0, 1) := by decide +kernel
theorem dX8_formAt_37 : decode cX8_formAt 37 = .ok (.getfield 49, 3) := by decide +kernel
theorem dX8_formAt_40 : decode cX8_formAt 40 = .ok (.iload 5, 2) := by decide +kernel
theorem dX8_formAt_42 : decode cX8_formAt 42 = .ok (.iaload, 1) := by decide +kernel
theorem dX8_formAt_43 : decode cX8_formAt 43 = .ok (.iload_n 3, 1) := by decide +kernel
theorem dX8_formAt_44 : decode cX8_formAt 44 = .ok (.if_icmp .ne 8, 3) := by decide +kernel
theorem dX8_formAt_47 : decode cX8_formAt 47 = .ok (.iload 5, 2) := by decide +kernel
theorem dX8_formAt_49 : decode cX8_formAt 49 = .ok (.goto 5, 3) := by decide +kernel
theorem dX8_formAt_52 : decode cX8_formAt 52 = .ok (.iload 4, 2) := by decide +kernel
theorem dX8_formAt_54 : decode cX8_formAt 54 = .ok (.istore 4, 2) := by decide +kernel
theorem dX8_formAt_56 : decode cX8_formAt 56 = .ok (.iinc 5 1, 3) := by decide +kernel
theorem dX8_formAt_59 : decode cX8_formAt 59 = .ok (.goto (-50), 3) := by decide +kernel
theorem dX8_formAt_62 : decode cX8_formAt 62 = .ok (.iload 4, 2) := by decide +kernel
theorem dX8_formAt_64 : decode cX8_formAt 64 = .ok (.ireturn, 1) := by decide +kernel
theorem dX8_form_0 : decode cX8_form 0 = .ok (.iload_n 1, 1) := by decide +kernel
theorem dX8_form_1 : decode cX8_form 1 = .ok (.invokestatic 114, 3) := by decide +kernel
theorem dX8_form_4 : decode cX8_form 4 = .ok (.ifCond .eq 22, 3) := by decide +kernel
theorem dX8_form_7 : decode cX8_form 7 = .ok (.iload_n 2, 1) := by decide +kernel
theorem dX8_form_8 : decode cX8_form 8 = .ok (.invokestatic 118, 3) := by decide +kernel
theorem dX8_form_11 : decode cX8_form 11 = .ok (.ifCond .eq 15, 3) := by decide +kernel
theorem dX8_form_14 : decode cX8_form 14 = .ok (.iload 4, 2) := by decide +kernel
theorem dX8_form_16 : decode cX8_form 16 = .ok (.invokestatic 118, 3) := by decide +kernel
theorem dX8_form_19 : decode cX8_form 19 = .ok (.ifCond .eq 7, 3) := by decide +kernel
theorem dX8_form_22 : decode cX8_form 22 = .ok (.iconst 1, 1) := by decide +kernel
theorem dX8_form_23 : decode cX8_form 23 = .ok (.goto 4, 3) := by decide +kernel
theorem dX8_form_26 : decode cX8_form 26 = .ok (.iconst 0, 1) := by decide +kernel
theorem dX8_form_27 : decode cX8_form 27 = .ok (.istore 5, 2) := by decide +kernel
theorem dX8_form_29 : decode cX8_form 29 = .ok (.iload_n 3, 1) := by decide +kernel
theorem dX8_form_30 : decode cX8_form 30 = .ok (.iconst 0, 1) := by decide +kernel
theorem dX8_form_31 : decode cX8_form 31 = .ok (.iconst 3, 1) := by decide +kernel
theorem dX8_form_32 : decode cX8_form 32 = .ok (.invokestatic 110, 3) := by decide +kernel
theorem dX8_form_35 : decode cX8_form 35 = .ok (.istore 6, 2) := by decide +kernel
theorem dX8_form_37 : decode cX8_form 37 = .ok (.iload 5, 2) := by decide +kernel
theorem dX8_form_39 : decode cX8_form 39 = .ok (.ifCond .eq 13, 3) := by decide +kernel
theorem dX8_form_42 : decode cX8_form 42 = .ok (.aload_n 0, 1) := by decide +kernel
theorem dX8_form_43 : decode cX8_form 43 = .ok (.iload_n 1, 1) := by decide +kernel
theorem dX8_form_44 : decode cX8_form 44 = .ok (.iload_n 2, 1) := by decide +kernel
theorem dX8_form_45 : decode cX8_form 45 = .ok (.iload_n 3, 1) := by decide +kernel
theorem dX8_form_46 : decode cX8_form 46 = .ok (.invokevirtual 138, 3) := by decide +kernel
theorem dX8_form_49 : decode cX8_form 49 = .ok (.goto 4, 3) := by decide +kernel
theorem dX8_form_52 : decode cX8_form 52 = .ok (.iconst (-1), 1) := by decide +kernel
theorem dX8_form_53 : decode cX8_form 53 = .ok (.istore 7, 2) := by decide +kernel
theorem dX8_form_55 : decode cX8_form 55 = .ok (.iload 5, 2) := by decide +kernel
theorem dX8_form_57 : decode cX8_form 57 = .ok (.ifCond .eq 24, 3) := by decide +kernel
theorem dX8_form_60 : decode cX8_form 60 = .ok (.iload 7, 2) := by decide +kernel
theorem dX8_form_62 : decode cX8_form 62 = .ok (.iconst (-1), 1) := by decide +kernel
theorem dX8_form_63 : decode cX8_form 63 = .ok (.if_icmp .ne 18, 3) := by decide +kernel
theorem dX8_form_66 : decode cX8_form 66 = .ok (.aload_n 0, 1) := by decide +kernel
theorem dX8_form_67 : decode cX8_form 67 = .ok (.getfield 43, 3) := by decide +kernel
theorem dX8_form_70 : decode cX8_form 70 = .ok (.iload_n 1, 1) := by decide +kernel
theorem dX8_form_71 : decode cX8_form 71 = .ok (.iaload, 1) := by decide +kernel
theorem dX8_form_72 : decode cX8_form 72 = .ok (.bipush 30, 2) := by decide +kernel
theorem dX8_form_74 : decode cX8_form 74 = .ok (.if_icmp .ne 7, 3) := by decide +kernel
theorem dX8_form_77 : decode cX8_form 77 = .ok (.iconst 1, 1) := by decide +kernel
theorem dX8_form_78 : decode cX8_form 78 = .ok (.goto 4, 3) := by decide +kernel
theorem dX8_form_81 : decode cX8_form 81 = .ok (.iconst 0, 1) := by decide +kernel
theorem dX8_form_82 : decode cX8_form 82 = .ok (.istore 8, 2) := by decide +kernel
theorem dX8_form_84 : decode cX8_form 84 = .ok (.aload_n 0, 1) := by decide +kernel
theorem dX8_form_85 : decode cX8_form 85 = .ok (.iload 5, 2) := by decide +kernel
theorem dX8_form_87 : decode cX8_form 87 = .ok (.ifCond .ne 7, 3) := by decide +kernel
theorem dX8_form_90 : decode cX8_form 90 = .ok (.iconst 1, 1) := by decide +kernel
theorem dX8_form_91 : decode cX8_form 91 = .ok (.goto 22, 3) := by decide +kernel
theorem dX8_form_94 : decode cX8_form 94 = .ok (.iload 6, 2) := by decide +kernel
theorem dX8_form_96 : decode cX8_form 96 = .ok (.ifCond .ne 7, 3) := by decide +kernel
theorem dX8_form_99 : decode cX8_form 99 = .ok (.iconst 2, 1) := by decide +kernel
theorem dX8_form_100 : decode cX8_form 100 = .ok (.goto 13, 3) := by decide +kernel
theorem dX8_form_103 : decode cX8_form 103 = .ok (.iload 8, 2) := by decide +kernel
theorem dX8_form_105 : decode cX8_form 105 = .ok (.ifCond .eq 7, 3) := by decide +kernel
theorem dX8_form_108 : decode cX8_form 108 = .ok (.iconst 3, 1) := by decide +kernel
theorem dX8_form_109 : decode cX8_form 109 = .ok (.goto 4, 3) := by decide +kernel
theorem dX8_form_112 : decode cX8_form 112 = .ok (.iconst 0, 1) := by decide +kernel
theorem dX8_form_113 : decode cX8_form 113 = .ok (.invokevirtual 128, 3) := by decide +kernel
theorem dX8_form_116 : decode cX8_form 116 = .ok (.ifCond .ne 5, 3) := by decide +kernel
theorem dX8_form_119 : decode cX8_form 119 = .ok (.iconst 0, 1) := by decide +kernel
theorem dX8_form_120 : decode cX8_form 120 = .ok (.ireturn, 1) := by decide +kernel
theorem dX8_form_121 : decode cX8_form 121 = .ok (.iload 7, 2) := by decide +kernel
theorem dX8_form_123 : decode cX8_form 123 = .ok (.iconst (-1), 1) := by decide +kernel
theorem dX8_form_124 : decode cX8_form 124 = .ok (.if_icmp .ne 7, 3) := by decide +kernel
theorem dX8_form_127 : decode cX8_form 127 = .ok (.iconst (-1), 1) := by decide +kernel
theorem dX8_form_128 : decode cX8_form 128 = .ok (.goto 10, 3) := by decide +kernel
theorem dX8_form_131 : decode cX8_form 131 = .ok (.aload_n 0, 1) := by decide +kernel
theorem dX8_form_132 : decode cX8_form 132 = .ok (.getfield 52, 3) := by decide +kernel
theorem dX8_form_135 : decode cX8_form 135 = .ok (.iload 7, 2) := by decide +kernel
theorem dX8_form_137 : decode cX8_form 137 = .ok (.iaload, 1) := by decide +kernel
theorem dX8_form_138 : decode cX8_form 138 = .ok (.istore 9, 2) := by decide +kernel
theorem dX8_form_140 : decode cX8_form 140 = .ok (.iload 7, 2) := by decide +kernel
theorem dX8_form_142 : decode cX8_form 142 = .ok (.iconst (-1), 1) := by decide +kernel
theorem dX8_form_143 : decode cX8_form 143 = .ok (.if_icmp .ne 26, 3) := by decide +kernel
theorem dX8_form_146 : decode cX8_form 146 = .ok (.bipush 30, 2) := by decide +kernel
theorem dX8_form_148 : decode cX8_form 148 = .ok (.iload_n 1, 1) := by decide +kernel
theorem dX8_form_149 : decode cX8_form 149 = .ok (.imul, 1) := by decide +kernel
theorem dX8_form_150 : decode cX8_form 150 = .ok (.aload_n 0, 1) := by decide +kernel
theorem dX8_form_151 : decode cX8_form 151 = .ok (.getfield 43, 3) := by decide +kernel
theorem dX8_form_154 : decode cX8_form 154 = .ok (.iload_n 1, 1) := by decide +kernel
theorem dX8_form_155 : decode cX8_form 155 = .ok (.iaload, 1) := by decide +kernel
theorem dX8_form_156 : decode cX8_form 156 = .ok (.iadd, 1) := by decide +kernel
theorem dX8_form_157 : decode cX8_form 157 = .ok (.istore 7, 2) := by decide +kernel
theorem dX8_form_159 : decode cX8_form 159 = .ok (.aload_n 0, 1) := by decide +kernel
theorem dX8_form_160 : decode cX8_form 160 = .ok (.getfield 43, 3) := by decide +kernel
theorem dX8_form_163 : decode cX8_form 163 = .ok (.iload_n 1, 1) := by decide +kernel
theorem dX8_form_164 : decode cX8_form 164 = .ok (.dup2, 1) := by decide +kernel
theorem dX8_form_165 : decode cX8_form 165 = .ok (.iaload, 1) := by decide +kernel
theorem dX8_form_166 : decode cX8_form 166 = .ok (.iconst 1, 1) := by decide +kernel
theorem dX8_form_167 : decode cX8_form 167 = .ok (.iadd, 1) := by decide +kernel
theorem dX8_form_168 : decode cX8_form 168 = .ok (.iastore, 1) := by decide +kernel
theorem dX8_form_169 : decode cX8_form 169 = .ok (.aload_n 0, 1) := by decide +kernel
theorem dX8_form_170 : decode cX8_form 170 = .ok (.getfield 46, 3) := by decide +kernel
theorem dX8_form_173 : decode cX8_form 173 = .ok (.iload 7, 2) := by decide +kernel
theorem dX8_form_175 : decode cX8_form 175 = .ok (.iload_n 2, 1) := by decide +kernel
theorem dX8_form_176 : decode cX8_form 176 = .ok (.iastore, 1) := by decide +kernel
theorem dX8_form_177 : decode cX8_form 177 = .ok (.aload_n 0, 1) := by decide +kernel
theorem dX8_form_178 : decode cX8_form 178 = .ok (.getfield 49, 3) := by decide +kernel
theorem dX8_form_181 : decode cX8_form 181 = .ok (.iload 7, 2) := by decide +kernel
theorem dX8_form_183 : decode cX8_form 183 = .ok (.iload_n 3, 1) := by decide +kernel
theorem dX8_form_184 : decode cX8_form 184 = .ok (.iastore, 1) := by decide +kernel
theorem dX8_form_185 : decode cX8_form 185 = .ok (.aload_n 0, 1) := by decide +kernel
theorem dX8_form_186 : decode cX8_form 186 = .ok (.getfield 52, 3) := by decide +kernel
theorem dX8_form_189 : decode cX8_form 189 = .ok (.iload 7, 2) := by decide +kernel
theorem dX8_form_191 : decode cX8_form 191 = .ok (.iload 4, 2) := by decide +kernel
theorem dX8_form_193 : decode cX8_form 193 = .ok (.iastore, 1) := by decide +kernel
theorem dX8_form_194 : decode cX8_form 194 = .ok (.iload 9, 2) := by decide +kernel
theorem dX8_form_196 : decode cX8_form 196 = .ok (.ireturn, 1) := by decide +kernel
theorem dX8_ordinal_0 : decode cX8_ordinal 0 = .ok (.aload_n 0, 1) := by decide +kernel
theorem dX8_ordinal_1 : decode cX8_ordinal 1 = .ok (.iload_n 1, 1) := by decide +kernel
theorem dX8_ordinal_2 : decode cX8_ordinal 2 = .ok (.invokestatic 114, 3) := by decide +kernel
theorem dX8_ordinal_5 : decode cX8_ordinal 5 = .ok (.ifCond .eq 14, 3) := by decide +kernel
theorem dX8_ordinal_8 : decode cX8_ordinal 8 = .ok (.iload_n 2, 1) := by decide +kernel
theorem dX8_ordinal_9 : decode cX8_ordinal 9 = .ok (.invokestatic 135, 3) := by decide +kernel
theorem dX8_ordinal_12 : decode cX8_ordinal 12 = .ok (.ifCond .eq 7, 3) := by decide +kernel
theorem dX8_ordinal_15 : decode cX8_ordinal 15 = .ok (.iconst 0, 1) := by decide +kernel
theorem dX8_ordinal_16 : decode cX8_ordinal 16 = .ok (.goto 4, 3) := by decide +kernel
theorem dX8_ordinal_19 : decode cX8_ordinal 19 = .ok (.iconst 1, 1) := by decide +kernel
theorem dX8_ordinal_20 : decode cX8_ordinal 20 = .ok (.invokevirtual 128, 3) := by decide +kernel
theorem dX8_ordinal_23 : decode cX8_ordinal 23 = .ok (.ifCond .ne 5, 3) := by decide +kernel
theorem dX8_ordinal_26 : decode cX8_ordinal 26 = .ok (.iconst 0, 1) := by decide +kernel
theorem dX8_ordinal_27 : decode cX8_ordinal 27 = .ok (.ireturn, 1) := by decide +kernel
theorem dX8_ordinal_28 : decode cX8_ordinal 28 = .ok (.aload_n 0, 1) := by decide +kernel
theorem dX8_ordinal_29 : decode cX8_ordinal 29 = .ok (.getfield 55, 3) := by decide +kernel
theorem dX8_ordinal_32 : decode cX8_ordinal 32 = .ok (.iload_n 1, 1) := by decide +kernel
theorem dX8_ordinal_33 : decode cX8_ordinal 33 = .ok (.iaload, 1) := by decide +kernel
theorem dX8_ordinal_34 : decode cX8_ordinal 34 = .ok (.istore_n 3, 1) := by decide +kernel
theorem dX8_ordinal_35 : decode cX8_ordinal 35 = .ok (.aload_n 0, 1) := by decide +kernel
theorem dX8_ordinal_36 : decode cX8_ordinal 36 = .ok (.getfield 55, 3) := by decide +kernel
theorem dX8_ordinal_39 : decode cX8_ordinal 39 = .ok (.iload_n 1, 1) := by decide +kernel
theorem dX8_ordinal_40 : decode cX8_ordinal 40 = .ok (.iload_n 2, 1) := by decide +kernel
theorem dX8_ordinal_41 : decode cX8_ordinal 41 = .ok (.iastore, 1) := by decide +kernel
theorem dX8_ordinal_42 : decode cX8_ordinal 42 = .ok (.iload_n 3, 1) := by decide +kernel
theorem dX8_ordinal_43 : decode cX8_ordinal 43 = .ok (.ireturn, 1) := by decide +kernel
theorem dX8_seam_0 : decode cX8_seam 0 = .ok (.iload_n 1, 1) := by decide +kernel
theorem dX8_seam_1 : decode cX8_seam 1 = .ok (.invokestatic 114, 3) := by decide +kernel
theorem dX8_seam_4 : decode cX8_seam 4 = .ok (.ifCond .eq 29, 3) := by decide +kernel
theorem dX8_seam_7 : decode cX8_seam 7 = .ok (.iload_n 2, 1) := by decide +kernel
theorem dX8_seam_8 : decode cX8_seam 8 = .ok (.invokestatic 118, 3) := by decide +kernel
theorem dX8_seam_11 : decode cX8_seam 11 = .ok (.ifCond .eq 22, 3) := by decide +kernel
theorem dX8_seam_14 : decode cX8_seam 14 = .ok (.iload_n 3, 1) := by decide +kernel
theorem dX8_seam_15 : decode cX8_seam 15 = .ok (.invokestatic 118, 3) := by decide +kernel
theorem dX8_seam_18 : decode cX8_seam 18 = .ok (.ifCond .eq 15, 3) := by decide +kernel
theorem dX8_seam_21 : decode cX8_seam 21 = .ok (.iload 4, 2) := by decide +kernel
theorem dX8_seam_23 : decode cX8_seam 23 = .ok (.invokestatic 118, 3) := by decide +kernel
theorem dX8_seam_26 : decode cX8_seam 26 = .ok (.ifCond .eq 7, 3) := by decide +kernel
theorem dX8_seam_29 : decode cX8_seam 29 = .ok (.iconst 1, 1) := by decide +kernel
theorem dX8_seam_30 : decode cX8_seam 30 = .ok (.goto 4, 3) := by decide +kernel
theorem dX8_seam_33 : decode cX8_seam 33 = .ok (.iconst 0, 1) := by decide +kernel
theorem dX8_seam_34 : decode cX8_seam 34 = .ok (.istore 5, 2) := by decide +kernel
theorem dX8_seam_36 : decode cX8_seam 36 = .ok (.aload_n 0, 1) := by decide +kernel
theorem dX8_seam_37 : decode cX8_seam 37 = .ok (.iload 5, 2) := by decide +kernel
theorem dX8_seam_39 : decode cX8_seam 39 = .ok (.ifCond .ne 7, 3) := by decide +kernel
theorem dX8_seam_42 : decode cX8_seam 42 = .ok (.iconst 1, 1) := by decide +kernel
theorem dX8_seam_43 : decode cX8_seam 43 = .ok (.goto 19, 3) := by decide +kernel
theorem dX8_seam_46 : decode cX8_seam 46 = .ok (.aload_n 0, 1) := by decide +kernel
theorem dX8_seam_47 : decode cX8_seam 47 = .ok (.getfield 58, 3) := by decide +kernel
theorem dX8_seam_50 : decode cX8_seam 50 = .ok (.iload_n 1, 1) := by decide +kernel
theorem dX8_seam_51 : decode cX8_seam 51 = .ok (.iaload, 1) := by decide +kernel
theorem dX8_seam_52 : decode cX8_seam 52 = .ok (.bipush 6, 2) := by decide +kernel
theorem dX8_seam_54 : decode cX8_seam 54 = .ok (.if_icmp .ne 7, 3) := by decide +kernel
theorem dX8_seam_57 : decode cX8_seam 57 = .ok (.iconst 2, 1) := by decide +kernel
theorem dX8_seam_58 : decode cX8_seam 58 = .ok (.goto 4, 3) := by decide +kernel
theorem dX8_seam_61 : decode cX8_seam 61 = .ok (.iconst 0, 1) := by decide +kernel
theorem dX8_seam_62 : decode cX8_seam 62 = .ok (.invokevirtual 128, 3) := by decide +kernel
theorem dX8_seam_65 : decode cX8_seam 65 = .ok (.ifCond .ne 5, 3) := by decide +kernel
theorem dX8_seam_68 : decode cX8_seam 68 = .ok (.iconst 0, 1) := by decide +kernel
theorem dX8_seam_69 : decode cX8_seam 69 = .ok (.ireturn, 1) := by decide +kernel
theorem dX8_seam_70 : decode cX8_seam 70 = .ok (.bipush 6, 2) := by decide +kernel
theorem dX8_seam_72 : decode cX8_seam 72 = .ok (.iload_n 1, 1) := by decide +kernel
theorem dX8_seam_73 : decode cX8_seam 73 = .ok (.imul, 1) := by decide +kernel
theorem dX8_seam_74 : decode cX8_seam 74 = .ok (.aload_n 0, 1) := by decide +kernel
theorem dX8_seam_75 : decode cX8_seam 75 = .ok (.getfield 58, 3) := by decide +kernel
theorem dX8_seam_78 : decode cX8_seam 78 = .ok (.iload_n 1, 1) := by decide +kernel
theorem dX8_seam_79 : decode cX8_seam 79 = .ok (.iaload, 1) := by decide +kernel
theorem dX8_seam_80 : decode cX8_seam 80 = .ok (.iadd, 1) := by decide +kernel
theorem dX8_seam_81 : decode cX8_seam 81 = .ok (.istore 6, 2) := by decide +kernel
theorem dX8_seam_83 : decode cX8_seam 83 = .ok (.aload_n 0, 1) := by decide +kernel
theorem dX8_seam_84 : decode cX8_seam 84 = .ok (.getfield 61, 3) := by decide +kernel
theorem dX8_seam_87 : decode cX8_seam 87 = .ok (.iload 6, 2) := by decide +kernel
theorem dX8_seam_89 : decode cX8_seam 89 = .ok (.iload_n 2, 1) := by decide +kernel
theorem dX8_seam_90 : decode cX8_seam 90 = .ok (.iastore, 1) := by decide +kernel
theorem dX8_seam_91 : decode cX8_seam 91 = .ok (.aload_n 0, 1) := by decide +kernel
theorem dX8_seam_92 : decode cX8_seam 92 = .ok (.getfield 64, 3) := by decide +kernel
theorem dX8_seam_95 : decode cX8_seam 95 = .ok (.iload 6, 2) := by decide +kernel
theorem dX8_seam_97 : decode cX8_seam 97 = .ok (.iload_n 3, 1) := by decide +kernel
theorem dX8_seam_98 : decode cX8_seam 98 = .ok (.iastore, 1) := by decide +kernel
theorem dX8_seam_99 : decode cX8_seam 99 = .ok (.aload_n 0, 1) := by decide +kernel
theorem dX8_seam_100 : decode cX8_seam 100 = .ok (.getfield 67, 3) := by decide +kernel
theorem dX8_seam_103 : decode cX8_seam 103 = .ok (.iload 6, 2) := by decide +kernel
theorem dX8_seam_105 : decode cX8_seam 105 = .ok (.iload 4, 2) := by decide +kernel
theorem dX8_seam_107 : decode cX8_seam 107 = .ok (.iastore, 1) := by decide +kernel
theorem dX8_seam_108 : decode cX8_seam 108 = .ok (.aload_n 0, 1) := by decide +kernel
theorem dX8_seam_109 : decode cX8_seam 109 = .ok (.getfield 58, 3) := by decide +kernel
theorem dX8_seam_112 : decode cX8_seam 112 = .ok (.iload_n 1, 1) := by decide +kernel
theorem dX8_seam_113 : decode cX8_seam 113 = .ok (.dup2, 1) := by decide +kernel
theorem dX8_seam_114 : decode cX8_seam 114 = .ok (.iaload, 1) := by decide +kernel
theorem dX8_seam_115 : decode cX8_seam 115 = .ok (.iconst 1, 1) := by decide +kernel
theorem dX8_seam_116 : decode cX8_seam 116 = .ok (.iadd, 1) := by decide +kernel
theorem dX8_seam_117 : decode cX8_seam 117 = .ok (.iastore, 1) := by decide +kernel
theorem dX8_seam_118 : decode cX8_seam 118 = .ok (.aload_n 0, 1) := by decide +kernel
theorem dX8_seam_119 : decode cX8_seam 119 = .ok (.getfield 58, 3) := by decide +kernel
theorem dX8_seam_122 : decode cX8_seam 122 = .ok (.iload_n 1, 1) := by decide +kernel
theorem dX8_seam_123 : decode cX8_seam 123 = .ok (.iaload, 1) := by decide +kernel
theorem dX8_seam_124 : decode cX8_seam 124 = .ok (.ireturn, 1) := by decide +kernel
theorem dX8_empty_0 : decode cX8_empty 0 = .ok (.aload_n 0, 1) := by decide +kernel
theorem dX8_empty_1 : decode cX8_empty 1 = .ok (.iload_n 1, 1) := by decide +kernel
theorem dX8_empty_2 : decode cX8_empty 2 = .ok (.invokestatic 114, 3) := by decide +kernel
theorem dX8_empty_5 : decode cX8_empty 5 = .ok (.ifCond .eq 7, 3) := by decide +kernel
theorem dX8_empty_8 : decode cX8_empty 8 = .ok (.iconst 0, 1) := by decide +kernel
theorem dX8_empty_9 : decode cX8_empty 9 = .ok (.goto 4, 3) := by decide +kernel
theorem dX8_empty_12 : decode cX8_empty 12 = .ok (.iconst 1, 1) := by decide +kernel
theorem dX8_empty_13 : decode cX8_empty 13 = .ok (.invokevirtual 128, 3) := by decide +kernel
theorem dX8_empty_16 : decode cX8_empty 16 = .ok (.ifCond .ne 5, 3) := by decide +kernel
theorem dX8_empty_19 : decode cX8_empty 19 = .ok (.iconst 0, 1) := by decide +kernel
theorem dX8_empty_20 : decode cX8_empty 20 = .ok (.ireturn, 1) := by decide +kernel
theorem dX8_empty_21 : decode cX8_empty 21 = .ok (.aload_n 0, 1) := by decide +kernel
theorem dX8_empty_22 : decode cX8_empty 22 = .ok (.getfield 7, 3) := by decide +kernel
theorem dX8_empty_25 : decode cX8_empty 25 = .ok (.iload_n 1, 1) := by decide +kernel
theorem dX8_empty_26 : decode cX8_empty 26 = .ok (.iaload, 1) := by decide +kernel
theorem dX8_empty_27 : decode cX8_empty 27 = .ok (.aload_n 0, 1) := by decide +kernel
theorem dX8_empty_28 : decode cX8_empty 28 = .ok (.getfield 19, 3) := by decide +kernel
theorem dX8_empty_31 : decode cX8_empty 31 = .ok (.iload_n 1, 1) := by decide +kernel
theorem dX8_empty_32 : decode cX8_empty 32 = .ok (.iaload, 1) := by decide +kernel
theorem dX8_empty_33 : decode cX8_empty 33 = .ok (.iadd, 1) := by decide +kernel
theorem dX8_empty_34 : decode cX8_empty 34 = .ok (.istore_n 2, 1) := by decide +kernel
theorem dX8_empty_35 : decode cX8_empty 35 = .ok (.aload_n 0, 1) := by decide +kernel
theorem dX8_empty_36 : decode cX8_empty 36 = .ok (.getfield 7, 3) := by decide +kernel
theorem dX8_empty_39 : decode cX8_empty 39 = .ok (.iload_n 1, 1) := by decide +kernel
theorem dX8_empty_40 : decode cX8_empty 40 = .ok (.iconst 0, 1) := by decide +kernel
theorem dX8_empty_41 : decode cX8_empty 41 = .ok (.iastore, 1) := by decide +kernel
theorem dX8_empty_42 : decode cX8_empty 42 = .ok (.aload_n 0, 1) := by decide +kernel
theorem dX8_empty_43 : decode cX8_empty 43 = .ok (.getfield 19, 3) := by decide +kernel
theorem dX8_empty_46 : decode cX8_empty 46 = .ok (.iload_n 1, 1) := by decide +kernel
theorem dX8_empty_47 : decode cX8_empty 47 = .ok (.iconst 0, 1) := by decide +kernel
theorem dX8_empty_48 : decode cX8_empty 48 = .ok (.iastore, 1) := by decide +kernel
theorem dX8_empty_49 : decode cX8_empty 49 = .ok (.aload_n 0, 1) := by decide +kernel
theorem dX8_empty_50 : decode cX8_empty 50 = .ok (.getfield 43, 3) := by decide +kernel
theorem dX8_empty_53 : decode cX8_empty 53 = .ok (.iload_n 1, 1) := by decide +kernel
theorem dX8_empty_54 : decode cX8_empty 54 = .ok (.iconst 0, 1) := by decide +kernel
theorem dX8_empty_55 : decode cX8_empty 55 = .ok (.iastore, 1) := by decide +kernel
theorem dX8_empty_56 : decode cX8_empty 56 = .ok (.aload_n 0, 1) := by decide +kernel
theorem dX8_empty_57 : decode cX8_empty 57 = .ok (.getfield 58, 3) := by decide +kernel
theorem dX8_empty_60 : decode cX8_empty 60 = .ok (.iload_n 1, 1) := by decide +kernel
theorem dX8_empty_61 : decode cX8_empty 61 = .ok (.iconst 0, 1) := by decide +kernel
theorem dX8_empty_62 : decode cX8_empty 62 = .ok (.iastore, 1) := by decide +kernel
theorem dX8_empty_63 : decode cX8_empty 63 = .ok (.aload_n 0, 1) := by decide +kernel
theorem dX8_empty_64 : decode cX8_empty 64 = .ok (.getfield 55, 3) := by decide +kernel
theorem dX8_empty_67 : decode cX8_empty 67 = .ok (.iload_n 1, 1) := by decide +kernel
theorem dX8_empty_68 : decode cX8_empty 68 = .ok (.iconst (-1), 1) := by decide +kernel
theorem dX8_empty_69 : decode cX8_empty 69 = .ok (.iastore, 1) := by decide +kernel
theorem dX8_empty_70 : decode cX8_empty 70 = .ok (.iload_n 2, 1) := by decide +kernel
theorem dX8_empty_71 : decode cX8_empty 71 = .ok (.ireturn, 1) := by decide +kernel
theorem dX8_waits_0 : decode cX8_waits 0 = .ok (.aload_n 0, 1) := by decide +kernel
theorem dX8_waits_1 : decode cX8_waits 1 = .ok (.getfield 76, 3) := by decide +kernel
theorem dX8_waits_4 : decode cX8_waits 4 = .ok (.aload_n 0, 1) := by decide +kernel
theorem dX8_waits_5 : decode cX8_waits 5 = .ok (.getfield 142, 3) := by decide +kernel
theorem dX8_waits_8 : decode cX8_waits 8 = .ok (.iload_n 1, 1) := by decide +kernel
theorem dX8_waits_9 : decode cX8_waits 9 = .ok (.iastore, 1) := by decide +kernel
theorem dX8_waits_10 : decode cX8_waits 10 = .ok (.aload_n 0, 1) := by decide +kernel
theorem dX8_waits_11 : decode cX8_waits 11 = .ok (.dup, 1) := by decide +kernel
theorem dX8_waits_12 : decode cX8_waits 12 = .ok (.getfield 142, 3) := by decide +kernel
theorem dX8_waits_15 : decode cX8_waits 15 = .ok (.iconst 1, 1) := by decide +kernel
theorem dX8_waits_16 : decode cX8_waits 16 = .ok (.iadd, 1) := by decide +kernel
theorem dX8_waits_17 : decode cX8_waits 17 = .ok (.putfield 142, 3) := by decide +kernel
theorem dX8_waits_20 : decode cX8_waits 20 = .ok (.return_, 1) := by decide +kernel
theorem dX8_waitsProduct_0 : decode cX8_waitsProduct 0 = .ok (.aload_n 0, 1) := by decide +kernel
theorem dX8_waitsProduct_1 : decode cX8_waitsProduct 1 = .ok (.sipush 20000, 3) := by decide +kernel
theorem dX8_waitsProduct_4 : decode cX8_waitsProduct 4 = .ok (.bipush 100, 2) := by decide +kernel
theorem dX8_waitsProduct_6 : decode cX8_waitsProduct 6 = .ok (.iload_n 1, 1) := by decide +kernel
theorem dX8_waitsProduct_7 : decode cX8_waitsProduct 7 = .ok (.imul, 1) := by decide +kernel
theorem dX8_waitsProduct_8 : decode cX8_waitsProduct 8 = .ok (.iadd, 1) := by decide +kernel
theorem dX8_waitsProduct_9 : decode cX8_waitsProduct 9 = .ok (.iload_n 2, 1) := by decide +kernel
theorem dX8_waitsProduct_10 : decode cX8_waitsProduct 10 = .ok (.iadd, 1) := by decide +kernel
theorem dX8_waitsProduct_11 : decode cX8_waitsProduct 11 = .ok (.invokevirtual 145, 3) := by decide +kernel
theorem dX8_waitsProduct_14 : decode cX8_waitsProduct 14 = .ok (.iload_n 2, 1) := by decide +kernel
theorem dX8_waitsProduct_15 : decode cX8_waitsProduct 15 = .ok (.aload_n 0, 1) := by decide +kernel
theorem dX8_waitsProduct_16 : decode cX8_waitsProduct 16 = .ok (.getfield 28, 3) := by decide +kernel
theorem dX8_waitsProduct_19 : decode cX8_waitsProduct 19 = .ok (.iload_n 1, 1) := by decide +kernel
theorem dX8_waitsProduct_20 : decode cX8_waitsProduct 20 = .ok (.iaload, 1) := by decide +kernel
theorem dX8_waitsProduct_21 : decode cX8_waitsProduct 21 = .ok (.if_icmp .gt 7, 3) := by decide +kernel
theorem dX8_waitsProduct_24 : decode cX8_waitsProduct 24 = .ok (.iconst 1, 1) := by decide +kernel
theorem dX8_waitsProduct_25 : decode cX8_waitsProduct 25 = .ok (.goto 4, 3) := by decide +kernel
theorem dX8_waitsProduct_28 : decode cX8_waitsProduct 28 = .ok (.iconst 0, 1) := by decide +kernel
theorem dX8_waitsProduct_29 : decode cX8_waitsProduct 29 = .ok (.ireturn, 1) := by decide +kernel
theorem dX8_counts_0 : decode cX8_counts 0 = .ok (.iconst (-1), 1) := by decide +kernel
theorem dX8_counts_1 : decode cX8_counts 1 = .ok (.istore_n 3, 1) := by decide +kernel
theorem dX8_counts_2 : decode cX8_counts 2 = .ok (.iconst 5, 1) := by decide +kernel
theorem dX8_counts_3 : decode cX8_counts 3 = .ok (.iload_n 1, 1) := by decide +kernel
theorem dX8_counts_4 : decode cX8_counts 4 = .ok (.imul, 1) := by decide +kernel
theorem dX8_counts_5 : decode cX8_counts 5 = .ok (.istore 4, 2) := by decide +kernel
theorem dX8_counts_7 : decode cX8_counts 7 = .ok (.iload 4, 2) := by decide +kernel
theorem dX8_counts_9 : decode cX8_counts 9 = .ok (.iconst 5, 1) := by decide +kernel
theorem dX8_counts_10 : decode cX8_counts 10 = .ok (.iload_n 1, 1) := by decide +kernel
theorem dX8_counts_11 : decode cX8_counts 11 = .ok (.imul, 1) := by decide +kernel
theorem dX8_counts_12 : decode cX8_counts 12 = .ok (.aload_n 0, 1) := by decide +kernel
theorem dX8_counts_13 : decode cX8_counts 13 = .ok (.getfield 19, 3) := by decide +kernel
theorem dX8_counts_16 : decode cX8_counts 16 = .ok (.iload_n 1, 1) := by decide +kernel
theorem dX8_counts_17 : decode cX8_counts 17 = .ok (.iaload, 1) := by decide +kernel
theorem dX8_counts_18 : decode cX8_counts 18 = .ok (.iadd, 1) := by decide +kernel
theorem dX8_counts_19 : decode cX8_counts 19 = .ok (.if_icmp .ge 48, 3) := by decide +kernel
theorem dX8_counts_22 : decode cX8_counts 22 = .ok (.aload_n 0, 1) := by decide +kernel
theorem dX8_counts_23 : decode cX8_counts 23 = .ok (.getfield 22, 3) := by decide +kernel
theorem dX8_counts_26 : decode cX8_counts 26 = .ok (.iload 4, 2) := by decide +kernel
theorem dX8_counts_28 : decode cX8_counts 28 = .ok (.iaload, 1) := by decide +kernel
theorem dX8_counts_29 : decode cX8_counts 29 = .ok (.iload_n 2, 1) := by decide +kernel
theorem dX8_counts_30 : decode cX8_counts 30 = .ok (.if_icmp .gt 29, 3) := by decide +kernel
theorem dX8_counts_33 : decode cX8_counts 33 = .ok (.iload_n 3, 1) := by decide +kernel
theorem dX8_counts_34 : decode cX8_counts 34 = .ok (.iconst (-1), 1) := by decide +kernel
theorem dX8_counts_35 : decode cX8_counts 35 = .ok (.if_icmp .eq 19, 3) := by decide +kernel
theorem dX8_counts_38 : decode cX8_counts 38 = .ok (.aload_n 0, 1) := by decide +kernel
theorem dX8_counts_39 : decode cX8_counts 39 = .ok (.getfield 22, 3) := by decide +kernel
theorem dX8_counts_42 : decode cX8_counts 42 = .ok (.iload 4, 2) := by decide +kernel
theorem dX8_counts_44 : decode cX8_counts 44 = .ok (.iaload, 1) := by decide +kernel
theorem dX8_counts_45 : decode cX8_counts 45 = .ok (.aload_n 0, 1) := by decide +kernel
theorem dX8_counts_46 : decode cX8_counts 46 = .ok (.getfield 22, 3) := by decide +kernel
theorem dX8_counts_49 : decode cX8_counts 49 = .ok (.iload_n 3, 1) := by decide +kernel
theorem dX8_counts_50 : decode cX8_counts 50 = .ok (.iaload, 1) := by decide +kernel
theorem dX8_counts_51 : decode cX8_counts 51 = .ok (.if_icmp .le 8, 3) := by decide +kernel
theorem dX8_counts_54 : decode cX8_counts 54 = .ok (.iload 4, 2) := by decide +kernel
theorem dX8_counts_56 : decode cX8_counts 56 = .ok (.goto 4, 3) := by decide +kernel
theorem dX8_counts_59 : decode cX8_counts 59 = .ok (.iload_n 3, 1) := by decide +kernel
theorem dX8_counts_60 : decode cX8_counts 60 = .ok (.istore_n 3, 1) := by decide +kernel
theorem dX8_counts_61 : decode cX8_counts 61 = .ok (.iinc 4 1, 3) := by decide +kernel
theorem dX8_counts_64 : decode cX8_counts 64 = .ok (.goto (-57), 3) := by decide +kernel
theorem dX8_counts_67 : decode cX8_counts 67 = .ok (.iload_n 3, 1) := by decide +kernel
theorem dX8_counts_68 : decode cX8_counts 68 = .ok (.ireturn, 1) := by decide +kernel
theorem dX8_waitsJoint_0 : decode cX8_waitsJoint 0 = .ok (.aload_n 0, 1) := by decide +kernel
theorem dX8_waitsJoint_1 : decode cX8_waitsJoint 1 = .ok (.getfield 34, 3) := by decide +kernel
theorem dX8_waitsJoint_4 : decode cX8_waitsJoint 4 = .ok (.iload_n 1, 1) := by decide +kernel
theorem dX8_waitsJoint_5 : decode cX8_waitsJoint 5 = .ok (.iaload, 1) := by decide +kernel
theorem dX8_waitsJoint_6 : decode cX8_waitsJoint 6 = .ok (.iconst (-1), 1) := by decide +kernel
theorem dX8_waitsJoint_7 : decode cX8_waitsJoint 7 = .ok (.if_icmp .eq 13, 3) := by decide +kernel
theorem dX8_waitsJoint_10 : decode cX8_waitsJoint 10 = .ok (.aload_n 0, 1) := by decide +kernel
theorem dX8_waitsJoint_11 : decode cX8_waitsJoint 11 = .ok (.aload_n 0, 1) := by decide +kernel
theorem dX8_waitsJoint_12 : decode cX8_waitsJoint 12 = .ok (.getfield 34, 3) := by decide +kernel
theorem dX8_waitsJoint_15 : decode cX8_waitsJoint 15 = .ok (.iload_n 1, 1) := by decide +kernel
theorem dX8_waitsJoint_16 : decode cX8_waitsJoint 16 = .ok (.iaload, 1) := by decide +kernel
theorem dX8_waitsJoint_17 : decode cX8_waitsJoint 17 = .ok (.invokevirtual 145, 3) := by decide +kernel
theorem dX8_waitsJoint_20 : decode cX8_waitsJoint 20 = .ok (.return_, 1) := by decide +kernel
theorem dX8_parts_0 : decode cX8_parts 0 = .ok (.aload_n 0, 1) := by decide +kernel
theorem dX8_parts_1 : decode cX8_parts 1 = .ok (.iload_n 1, 1) := by decide +kernel
theorem dX8_parts_2 : decode cX8_parts 2 = .ok (.iload_n 2, 1) := by decide +kernel
theorem dX8_parts_3 : decode cX8_parts 3 = .ok (.invokevirtual 124, 3) := by decide +kernel
theorem dX8_parts_6 : decode cX8_parts 6 = .ok (.istore_n 3, 1) := by decide +kernel
theorem dX8_parts_7 : decode cX8_parts 7 = .ok (.iload_n 3, 1) := by decide +kernel
theorem dX8_parts_8 : decode cX8_parts 8 = .ok (.iconst (-1), 1) := by decide +kernel
theorem dX8_parts_9 : decode cX8_parts 9 = .ok (.if_icmp .eq 15, 3) := by decide +kernel
theorem dX8_parts_12 : decode cX8_parts 12 = .ok (.aload_n 0, 1) := by decide +kernel
theorem dX8_parts_13 : decode cX8_parts 13 = .ok (.aload_n 0, 1) := by decide +kernel
theorem dX8_parts_14 : decode cX8_parts 14 = .ok (.getfield 16, 3) := by decide +kernel
theorem dX8_parts_17 : decode cX8_parts 17 = .ok (.iload_n 3, 1) := by decide +kernel
theorem dX8_parts_18 : decode cX8_parts 18 = .ok (.iaload, 1) := by decide +kernel
theorem dX8_parts_19 : decode cX8_parts 19 = .ok (.invokevirtual 145, 3) := by decide +kernel
theorem dX8_parts_22 : decode cX8_parts 22 = .ok (.iconst 1, 1) := by decide +kernel
theorem dX8_parts_23 : decode cX8_parts 23 = .ok (.ireturn, 1) := by decide +kernel
theorem dX8_parts_24 : decode cX8_parts 24 = .ok (.aload_n 0, 1) := by decide +kernel
theorem dX8_parts_25 : decode cX8_parts 25 = .ok (.iload_n 1, 1) := by decide +kernel
theorem dX8_parts_26 : decode cX8_parts 26 = .ok (.iload_n 2, 1) := by decide +kernel
theorem dX8_parts_27 : decode cX8_parts 27 = .ok (.invokevirtual 149, 3) := by decide +kernel
theorem dX8_parts_30 : decode cX8_parts 30 = .ok (.istore 4, 2) := by decide +kernel
theorem dX8_parts_32 : decode cX8_parts 32 = .ok (.iload 4, 2) := by decide +kernel
theorem dX8_parts_34 : decode cX8_parts 34 = .ok (.iconst (-1), 1) := by decide +kernel
theorem dX8_parts_35 : decode cX8_parts 35 = .ok (.if_icmp .ne 5, 3) := by decide +kernel
theorem dX8_parts_38 : decode cX8_parts 38 = .ok (.iconst 0, 1) := by decide +kernel
theorem dX8_parts_39 : decode cX8_parts 39 = .ok (.ireturn, 1) := by decide +kernel
theorem dX8_parts_40 : decode cX8_parts 40 = .ok (.iload_n 2, 1) := by decide +kernel
theorem dX8_parts_41 : decode cX8_parts 41 = .ok (.aload_n 0, 1) := by decide +kernel
theorem dX8_parts_42 : decode cX8_parts 42 = .ok (.getfield 22, 3) := by decide +kernel
theorem dX8_parts_45 : decode cX8_parts 45 = .ok (.iload 4, 2) := by decide +kernel
theorem dX8_parts_47 : decode cX8_parts 47 = .ok (.iaload, 1) := by decide +kernel
theorem dX8_parts_48 : decode cX8_parts 48 = .ok (.idiv, 1) := by decide +kernel
theorem dX8_parts_49 : decode cX8_parts 49 = .ok (.istore 5, 2) := by decide +kernel
theorem dX8_parts_51 : decode cX8_parts 51 = .ok (.iload_n 2, 1) := by decide +kernel
theorem dX8_parts_52 : decode cX8_parts 52 = .ok (.aload_n 0, 1) := by decide +kernel
theorem dX8_parts_53 : decode cX8_parts 53 = .ok (.getfield 22, 3) := by decide +kernel
theorem dX8_parts_56 : decode cX8_parts 56 = .ok (.iload 4, 2) := by decide +kernel
theorem dX8_parts_58 : decode cX8_parts 58 = .ok (.iaload, 1) := by decide +kernel
theorem dX8_parts_59 : decode cX8_parts 59 = .ok (.irem, 1) := by decide +kernel
theorem dX8_parts_60 : decode cX8_parts 60 = .ok (.istore 6, 2) := by decide +kernel
theorem dX8_parts_62 : decode cX8_parts 62 = .ok (.iload 6, 2) := by decide +kernel
theorem dX8_parts_64 : decode cX8_parts 64 = .ok (.ifCond .ne 32, 3) := by decide +kernel
theorem dX8_parts_67 : decode cX8_parts 67 = .ok (.iload 5, 2) := by decide +kernel
theorem dX8_parts_69 : decode cX8_parts 69 = .ok (.aload_n 0, 1) := by decide +kernel
theorem dX8_parts_70 : decode cX8_parts 70 = .ok (.getfield 28, 3) := by decide +kernel
theorem dX8_parts_73 : decode cX8_parts 73 = .ok (.iload 4, 2) := by decide +kernel
theorem dX8_parts_75 : decode cX8_parts 75 = .ok (.iaload, 1) := by decide +kernel
theorem dX8_parts_76 : decode cX8_parts 76 = .ok (.if_icmp .gt 18, 3) := by decide +kernel
theorem dX8_parts_79 : decode cX8_parts 79 = .ok (.aload_n 0, 1) := by decide +kernel
theorem dX8_parts_80 : decode cX8_parts 80 = .ok (.iload 4, 2) := by decide +kernel
theorem dX8_parts_82 : decode cX8_parts 82 = .ok (.iload 5, 2) := by decide +kernel
theorem dX8_parts_84 : decode cX8_parts 84 = .ok (.invokevirtual 152, 3) := by decide +kernel
theorem dX8_parts_87 : decode cX8_parts 87 = .ok (.ifCond .eq 7, 3) := by decide +kernel
theorem dX8_parts_90 : decode cX8_parts 90 = .ok (.iconst 1, 1) := by decide +kernel
theorem dX8_parts_91 : decode cX8_parts 91 = .ok (.goto 4, 3) := by decide +kernel
theorem dX8_parts_94 : decode cX8_parts 94 = .ok (.iconst 0, 1) := by decide +kernel
theorem dX8_parts_95 : decode cX8_parts 95 = .ok (.ireturn, 1) := by decide +kernel
theorem dX8_parts_96 : decode cX8_parts 96 = .ok (.aload_n 0, 1) := by decide +kernel
theorem dX8_parts_97 : decode cX8_parts 97 = .ok (.getfield 22, 3) := by decide +kernel
theorem dX8_parts_100 : decode cX8_parts 100 = .ok (.iload 4, 2) := by decide +kernel
theorem dX8_parts_102 : decode cX8_parts 102 = .ok (.iaload, 1) := by decide +kernel
theorem dX8_parts_103 : decode cX8_parts 103 = .ok (.iload 6, 2) := by decide +kernel
theorem dX8_parts_105 : decode cX8_parts 105 = .ok (.isub, 1) := by decide +kernel
theorem dX8_parts_106 : decode cX8_parts 106 = .ok (.aload_n 0, 1) := by decide +kernel
theorem dX8_parts_107 : decode cX8_parts 107 = .ok (.getfield 37, 3) := by decide +kernel
theorem dX8_parts_110 : decode cX8_parts 110 = .ok (.iload 4, 2) := by decide +kernel
theorem dX8_parts_112 : decode cX8_parts 112 = .ok (.iaload, 1) := by decide +kernel
theorem dX8_parts_113 : decode cX8_parts 113 = .ok (.if_icmp .gt 69, 3) := by decide +kernel
theorem dX8_parts_116 : decode cX8_parts 116 = .ok (.iload 5, 2) := by decide +kernel
theorem dX8_parts_118 : decode cX8_parts 118 = .ok (.iconst 1, 1) := by decide +kernel
theorem dX8_parts_119 : decode cX8_parts 119 = .ok (.iadd, 1) := by decide +kernel
theorem dX8_parts_120 : decode cX8_parts 120 = .ok (.aload_n 0, 1) := by decide +kernel
theorem dX8_parts_121 : decode cX8_parts 121 = .ok (.getfield 28, 3) := by decide +kernel
theorem dX8_parts_124 : decode cX8_parts 124 = .ok (.iload 4, 2) := by decide +kernel
theorem dX8_parts_126 : decode cX8_parts 126 = .ok (.iaload, 1) := by decide +kernel
theorem dX8_parts_127 : decode cX8_parts 127 = .ok (.if_icmp .gt 20, 3) := by decide +kernel
theorem dX8_parts_130 : decode cX8_parts 130 = .ok (.aload_n 0, 1) := by decide +kernel
theorem dX8_parts_131 : decode cX8_parts 131 = .ok (.iload 4, 2) := by decide +kernel
theorem dX8_parts_133 : decode cX8_parts 133 = .ok (.iload 5, 2) := by decide +kernel
theorem dX8_parts_135 : decode cX8_parts 135 = .ok (.iconst 1, 1) := by decide +kernel
theorem dX8_parts_136 : decode cX8_parts 136 = .ok (.iadd, 1) := by decide +kernel
theorem dX8_parts_137 : decode cX8_parts 137 = .ok (.invokevirtual 152, 3) := by decide +kernel
theorem dX8_parts_140 : decode cX8_parts 140 = .ok (.ifCond .eq 7, 3) := by decide +kernel
theorem dX8_parts_143 : decode cX8_parts 143 = .ok (.iconst 1, 1) := by decide +kernel
theorem dX8_parts_144 : decode cX8_parts 144 = .ok (.goto 4, 3) := by decide +kernel
theorem dX8_parts_147 : decode cX8_parts 147 = .ok (.iconst 0, 1) := by decide +kernel
theorem dX8_parts_148 : decode cX8_parts 148 = .ok (.istore 7, 2) := by decide +kernel
theorem dX8_parts_150 : decode cX8_parts 150 = .ok (.aload_n 0, 1) := by decide +kernel
theorem dX8_parts_151 : decode cX8_parts 151 = .ok (.aload_n 0, 1) := by decide +kernel
theorem dX8_parts_152 : decode cX8_parts 152 = .ok (.getfield 40, 3) := by decide +kernel
theorem dX8_parts_155 : decode cX8_parts 155 = .ok (.iload 4, 2) := by decide +kernel
theorem dX8_parts_157 : decode cX8_parts 157 = .ok (.iaload, 1) := by decide +kernel
theorem dX8_parts_158 : decode cX8_parts 158 = .ok (.invokevirtual 145, 3) := by decide +kernel
theorem dX8_parts_161 : decode cX8_parts 161 = .ok (.aload_n 0, 1) := by decide +kernel
theorem dX8_parts_162 : decode cX8_parts 162 = .ok (.sipush 1000, 3) := by decide +kernel
theorem dX8_parts_165 : decode cX8_parts 165 = .ok (.aload_n 0, 1) := by decide +kernel
theorem dX8_parts_166 : decode cX8_parts 166 = .ok (.getfield 22, 3) := by decide +kernel
theorem dX8_parts_169 : decode cX8_parts 169 = .ok (.iload 4, 2) := by decide +kernel
theorem dX8_parts_171 : decode cX8_parts 171 = .ok (.iaload, 1) := by decide +kernel
theorem dX8_parts_172 : decode cX8_parts 172 = .ok (.iadd, 1) := by decide +kernel
theorem dX8_parts_173 : decode cX8_parts 173 = .ok (.iload 6, 2) := by decide +kernel
theorem dX8_parts_175 : decode cX8_parts 175 = .ok (.isub, 1) := by decide +kernel
theorem dX8_parts_176 : decode cX8_parts 176 = .ok (.invokevirtual 145, 3) := by decide +kernel
theorem dX8_parts_179 : decode cX8_parts 179 = .ok (.iload 7, 2) := by decide +kernel
theorem dX8_parts_181 : decode cX8_parts 181 = .ok (.ireturn, 1) := by decide +kernel
theorem dX8_parts_182 : decode cX8_parts 182 = .ok (.aload_n 0, 1) := by decide +kernel
theorem dX8_parts_183 : decode cX8_parts 183 = .ok (.getfield 31, 3) := by decide +kernel
theorem dX8_parts_186 : decode cX8_parts 186 = .ok (.iload 4, 2) := by decide +kernel
theorem dX8_parts_188 : decode cX8_parts 188 = .ok (.iaload, 1) := by decide +kernel
theorem dX8_parts_189 : decode cX8_parts 189 = .ok (.bipush 8, 2) := by decide +kernel
theorem dX8_parts_191 : decode cX8_parts 191 = .ok (.iand, 1) := by decide +kernel
theorem dX8_parts_192 : decode cX8_parts 192 = .ok (.ifCond .le 10, 3) := by decide +kernel
theorem dX8_parts_195 : decode cX8_parts 195 = .ok (.iload 5, 2) := by decide +kernel
theorem dX8_parts_197 : decode cX8_parts 197 = .ok (.iconst 1, 1) := by decide +kernel
theorem dX8_parts_198 : decode cX8_parts 198 = .ok (.iadd, 1) := by decide +kernel
theorem dX8_parts_199 : decode cX8_parts 199 = .ok (.goto 5, 3) := by decide +kernel
theorem dX8_parts_202 : decode cX8_parts 202 = .ok (.iload 5, 2) := by decide +kernel
theorem dX8_parts_204 : decode cX8_parts 204 = .ok (.istore 7, 2) := by decide +kernel
theorem dX8_parts_206 : decode cX8_parts 206 = .ok (.iload 7, 2) := by decide +kernel
theorem dX8_parts_208 : decode cX8_parts 208 = .ok (.aload_n 0, 1) := by decide +kernel
theorem dX8_parts_209 : decode cX8_parts 209 = .ok (.getfield 28, 3) := by decide +kernel
theorem dX8_parts_212 : decode cX8_parts 212 = .ok (.iload 4, 2) := by decide +kernel
theorem dX8_parts_214 : decode cX8_parts 214 = .ok (.iaload, 1) := by decide +kernel
theorem dX8_parts_215 : decode cX8_parts 215 = .ok (.if_icmp .le 5, 3) := by decide +kernel
theorem dX8_parts_218 : decode cX8_parts 218 = .ok (.iconst 0, 1) := by decide +kernel
theorem dX8_parts_219 : decode cX8_parts 219 = .ok (.ireturn, 1) := by decide +kernel
theorem dX8_parts_220 : decode cX8_parts 220 = .ok (.aload_n 0, 1) := by decide +kernel
theorem dX8_parts_221 : decode cX8_parts 221 = .ok (.getfield 31, 3) := by decide +kernel
theorem dX8_parts_224 : decode cX8_parts 224 = .ok (.iload 4, 2) := by decide +kernel
theorem dX8_parts_226 : decode cX8_parts 226 = .ok (.iaload, 1) := by decide +kernel
theorem dX8_parts_227 : decode cX8_parts 227 = .ok (.bipush 12, 2) := by decide +kernel
theorem dX8_parts_229 : decode cX8_parts 229 = .ok (.iand, 1) := by decide +kernel
theorem dX8_parts_230 : decode cX8_parts 230 = .ok (.ifCond .le 7, 3) := by decide +kernel
theorem dX8_parts_233 : decode cX8_parts 233 = .ok (.iconst 1, 1) := by decide +kernel
theorem dX8_parts_234 : decode cX8_parts 234 = .ok (.goto 4, 3) := by decide +kernel
theorem dX8_parts_237 : decode cX8_parts 237 = .ok (.iconst 0, 1) := by decide +kernel
theorem dX8_parts_238 : decode cX8_parts 238 = .ok (.istore 8, 2) := by decide +kernel
theorem dX8_parts_240 : decode cX8_parts 240 = .ok (.iload 8, 2) := by decide +kernel
theorem dX8_parts_242 : decode cX8_parts 242 = .ok (.ifCond .eq 32, 3) := by decide +kernel
theorem dX8_parts_245 : decode cX8_parts 245 = .ok (.aload_n 0, 1) := by decide +kernel
theorem dX8_parts_246 : decode cX8_parts 246 = .ok (.iload 4, 2) := by decide +kernel
theorem dX8_parts_248 : decode cX8_parts 248 = .ok (.iload 7, 2) := by decide +kernel
theorem dX8_parts_250 : decode cX8_parts 250 = .ok (.invokevirtual 152, 3) := by decide +kernel
theorem dX8_parts_253 : decode cX8_parts 253 = .ok (.istore 9, 2) := by decide +kernel
theorem dX8_parts_255 : decode cX8_parts 255 = .ok (.aload_n 0, 1) := by decide +kernel
theorem dX8_parts_256 : decode cX8_parts 256 = .ok (.iload 4, 2) := by decide +kernel
theorem dX8_parts_258 : decode cX8_parts 258 = .ok (.invokevirtual 155, 3) := by decide +kernel
theorem dX8_parts_261 : decode cX8_parts 261 = .ok (.aload_n 0, 1) := by decide +kernel
theorem dX8_parts_262 : decode cX8_parts 262 = .ok (.sipush 1000, 3) := by decide +kernel
theorem dX8_parts_265 : decode cX8_parts 265 = .ok (.iload 6, 2) := by decide +kernel
theorem dX8_parts_267 : decode cX8_parts 267 = .ok (.iadd, 1) := by decide +kernel
theorem dX8_parts_268 : decode cX8_parts 268 = .ok (.invokevirtual 145, 3) := by decide +kernel
theorem dX8_parts_271 : decode cX8_parts 271 = .ok (.goto 29, 3) := by decide +kernel
theorem dX8_parts_274 : decode cX8_parts 274 = .ok (.aload_n 0, 1) := by decide +kernel
theorem dX8_parts_275 : decode cX8_parts 275 = .ok (.sipush 1000, 3) := by decide +kernel
theorem dX8_parts_278 : decode cX8_parts 278 = .ok (.iload 6, 2) := by decide +kernel
theorem dX8_parts_280 : decode cX8_parts 280 = .ok (.iadd, 1) := by decide +kernel
theorem dX8_parts_281 : decode cX8_parts 281 = .ok (.invokevirtual 145, 3) := by decide +kernel
theorem dX8_parts_284 : decode cX8_parts 284 = .ok (.aload_n 0, 1) := by decide +kernel
theorem dX8_parts_285 : decode cX8_parts 285 = .ok (.iload 4, 2) := by decide +kernel
theorem dX8_parts_287 : decode cX8_parts 287 = .ok (.invokevirtual 155, 3) := by decide +kernel
theorem dX8_parts_290 : decode cX8_parts 290 = .ok (.aload_n 0, 1) := by decide +kernel
theorem dX8_parts_291 : decode cX8_parts 291 = .ok (.iload 4, 2) := by decide +kernel
theorem dX8_parts_293 : decode cX8_parts 293 = .ok (.iload 7, 2) := by decide +kernel
theorem dX8_parts_295 : decode cX8_parts 295 = .ok (.invokevirtual 152, 3) := by decide +kernel
theorem dX8_parts_298 : decode cX8_parts 298 = .ok (.istore 9, 2) := by decide +kernel
theorem dX8_parts_300 : decode cX8_parts 300 = .ok (.iconst 1, 1) := by decide +kernel
theorem dX8_parts_301 : decode cX8_parts 301 = .ok (.ireturn, 1) := by decide +kernel
theorem dX8_product_0 : decode cX8_product 0 = .ok (.iload_n 2, 1) := by decide +kernel
theorem dX8_product_1 : decode cX8_product 1 = .ok (.iconst 1, 1) := by decide +kernel
theorem dX8_product_2 : decode cX8_product 2 = .ok (.if_icmp .ne 27, 3) := by decide +kernel
theorem dX8_product_5 : decode cX8_product 5 = .ok (.aload_n 0, 1) := by decide +kernel
theorem dX8_product_6 : decode cX8_product 6 = .ok (.getfield 31, 3) := by decide +kernel
theorem dX8_product_9 : decode cX8_product 9 = .ok (.iload_n 1, 1) := by decide +kernel
theorem dX8_product_10 : decode cX8_product 10 = .ok (.iaload, 1) := by decide +kernel
theorem dX8_product_11 : decode cX8_product 11 = .ok (.iconst 1, 1) := by decide +kernel
theorem dX8_product_12 : decode cX8_product 12 = .ok (.iand, 1) := by decide +kernel
theorem dX8_product_13 : decode cX8_product 13 = .ok (.ifCond .ne 16, 3) := by decide +kernel
theorem dX8_product_16 : decode cX8_product 16 = .ok (.aload_n 0, 1) := by decide +kernel
theorem dX8_product_17 : decode cX8_product 17 = .ok (.aload_n 0, 1) := by decide +kernel
theorem dX8_product_18 : decode cX8_product 18 = .ok (.getfield 25, 3) := by decide +kernel
theorem dX8_product_21 : decode cX8_product 21 = .ok (.iload_n 1, 1) := by decide +kernel
theorem dX8_product_22 : decode cX8_product 22 = .ok (.iaload, 1) := by decide +kernel
theorem dX8_product_23 : decode cX8_product 23 = .ok (.invokevirtual 145, 3) := by decide +kernel
theorem dX8_product_26 : decode cX8_product 26 = .ok (.goto 55, 3) := by decide +kernel
theorem dX8_product_29 : decode cX8_product 29 = .ok (.aload_n 0, 1) := by decide +kernel
theorem dX8_product_30 : decode cX8_product 30 = .ok (.getfield 31, 3) := by decide +kernel
theorem dX8_product_33 : decode cX8_product 33 = .ok (.iload_n 1, 1) := by decide +kernel
theorem dX8_product_34 : decode cX8_product 34 = .ok (.iaload, 1) := by decide +kernel
theorem dX8_product_35 : decode cX8_product 35 = .ok (.iconst 2, 1) := by decide +kernel
theorem dX8_product_36 : decode cX8_product 36 = .ok (.iand, 1) := by decide +kernel
theorem dX8_product_37 : decode cX8_product 37 = .ok (.ifCond .le 25, 3) := by decide +kernel
theorem dX8_product_40 : decode cX8_product 40 = .ok (.aload_n 0, 1) := by decide +kernel
theorem dX8_product_41 : decode cX8_product 41 = .ok (.sipush 1000, 3) := by decide +kernel
theorem dX8_product_44 : decode cX8_product 44 = .ok (.iload_n 2, 1) := by decide +kernel
theorem dX8_product_45 : decode cX8_product 45 = .ok (.iadd, 1) := by decide +kernel
theorem dX8_product_46 : decode cX8_product 46 = .ok (.invokevirtual 145, 3) := by decide +kernel
theorem dX8_product_49 : decode cX8_product 49 = .ok (.aload_n 0, 1) := by decide +kernel
theorem dX8_product_50 : decode cX8_product 50 = .ok (.aload_n 0, 1) := by decide +kernel
theorem dX8_product_51 : decode cX8_product 51 = .ok (.getfield 25, 3) := by decide +kernel
theorem dX8_product_54 : decode cX8_product 54 = .ok (.iload_n 1, 1) := by decide +kernel
theorem dX8_product_55 : decode cX8_product 55 = .ok (.iaload, 1) := by decide +kernel
theorem dX8_product_56 : decode cX8_product 56 = .ok (.invokevirtual 145, 3) := by decide +kernel
theorem dX8_product_59 : decode cX8_product 59 = .ok (.goto 22, 3) := by decide +kernel
theorem dX8_product_62 : decode cX8_product 62 = .ok (.aload_n 0, 1) := by decide +kernel
theorem dX8_product_63 : decode cX8_product 63 = .ok (.aload_n 0, 1) := by decide +kernel
theorem dX8_product_64 : decode cX8_product 64 = .ok (.getfield 25, 3) := by decide +kernel
theorem dX8_product_67 : decode cX8_product 67 = .ok (.iload_n 1, 1) := by decide +kernel
theorem dX8_product_68 : decode cX8_product 68 = .ok (.iaload, 1) := by decide +kernel
theorem dX8_product_69 : decode cX8_product 69 = .ok (.invokevirtual 145, 3) := by decide +kernel
theorem dX8_product_72 : decode cX8_product 72 = .ok (.aload_n 0, 1) := by decide +kernel
theorem dX8_product_73 : decode cX8_product 73 = .ok (.sipush 1000, 3) := by decide +kernel
theorem dX8_product_76 : decode cX8_product 76 = .ok (.iload_n 2, 1) := by decide +kernel
theorem dX8_product_77 : decode cX8_product 77 = .ok (.iadd, 1) := by decide +kernel
theorem dX8_product_78 : decode cX8_product 78 = .ok (.invokevirtual 145, 3) := by decide +kernel
theorem dX8_product_81 : decode cX8_product 81 = .ok (.return_, 1) := by decide +kernel
theorem dX8_names_0 : decode cX8_names 0 = .ok (.aload_n 0, 1) := by decide +kernel
theorem dX8_names_1 : decode cX8_names 1 = .ok (.getfield 158, 3) := by decide +kernel
theorem dX8_names_4 : decode cX8_names 4 = .ok (.istore_n 3, 1) := by decide +kernel
theorem dX8_names_5 : decode cX8_names 5 = .ok (.aload_n 0, 1) := by decide +kernel
theorem dX8_names_6 : decode cX8_names 6 = .ok (.iconst 0, 1) := by decide +kernel
theorem dX8_names_7 : decode cX8_names 7 = .ok (.putfield 142, 3) := by decide +kernel
theorem dX8_names_10 : decode cX8_names 10 = .ok (.aload_n 0, 1) := by decide +kernel
theorem dX8_names_11 : decode cX8_names 11 = .ok (.sipush 1000, 3) := by decide +kernel
theorem dX8_names_14 : decode cX8_names 14 = .ok (.iload_n 2, 1) := by decide +kernel
theorem dX8_names_15 : decode cX8_names 15 = .ok (.iadd, 1) := by decide +kernel
theorem dX8_names_16 : decode cX8_names 16 = .ok (.invokevirtual 145, 3) := by decide +kernel
theorem dX8_names_19 : decode cX8_names 19 = .ok (.aload_n 0, 1) := by decide +kernel
theorem dX8_names_20 : decode cX8_names 20 = .ok (.getfield 142, 3) := by decide +kernel
theorem dX8_names_23 : decode cX8_names 23 = .ok (.ifCond .le 123, 3) := by decide +kernel
theorem dX8_names_26 : decode cX8_names 26 = .ok (.aload_n 0, 1) := by decide +kernel
theorem dX8_names_27 : decode cX8_names 27 = .ok (.dup, 1) := by decide +kernel
theorem dX8_names_28 : decode cX8_names 28 = .ok (.getfield 142, 3) := by decide +kernel
theorem dX8_names_31 : decode cX8_names 31 = .ok (.iconst 1, 1) := by decide +kernel
theorem dX8_names_32 : decode cX8_names 32 = .ok (.isub, 1) := by decide +kernel
theorem dX8_names_33 : decode cX8_names 33 = .ok (.putfield 142, 3) := by decide +kernel
theorem dX8_names_36 : decode cX8_names 36 = .ok (.aload_n 0, 1) := by decide +kernel
theorem dX8_names_37 : decode cX8_names 37 = .ok (.getfield 76, 3) := by decide +kernel
theorem dX8_names_40 : decode cX8_names 40 = .ok (.aload_n 0, 1) := by decide +kernel
theorem dX8_names_41 : decode cX8_names 41 = .ok (.getfield 142, 3) := by decide +kernel
theorem dX8_names_44 : decode cX8_names 44 = .ok (.iaload, 1) := by decide +kernel
theorem dX8_names_45 : decode cX8_names 45 = .ok (.istore 4, 2) := by decide +kernel
theorem dX8_names_47 : decode cX8_names 47 = .ok (.iload 4, 2) := by decide +kernel
theorem dX8_names_49 : decode cX8_names 49 = .ok (.sipush 1000, 3) := by decide +kernel
theorem dX8_names_52 : decode cX8_names 52 = .ok (.if_icmp .ge 27, 3) := by decide +kernel
theorem dX8_names_55 : decode cX8_names 55 = .ok (.aload_n 0, 1) := by decide +kernel
theorem dX8_names_56 : decode cX8_names 56 = .ok (.getfield 70, 3) := by decide +kernel
theorem dX8_names_59 : decode cX8_names 59 = .ok (.aload_n 0, 1) := by decide +kernel
theorem dX8_names_60 : decode cX8_names 60 = .ok (.getfield 158, 3) := by decide +kernel
theorem dX8_names_63 : decode cX8_names 63 = .ok (.iload 4, 2) := by decide +kernel
theorem dX8_names_65 : decode cX8_names 65 = .ok (.iastore, 1) := by decide +kernel
theorem dX8_names_66 : decode cX8_names 66 = .ok (.aload_n 0, 1) := by decide +kernel
theorem dX8_names_67 : decode cX8_names 67 = .ok (.dup, 1) := by decide +kernel
theorem dX8_names_68 : decode cX8_names 68 = .ok (.getfield 158, 3) := by decide +kernel
theorem dX8_names_71 : decode cX8_names 71 = .ok (.iconst 1, 1) := by decide +kernel
theorem dX8_names_72 : decode cX8_names 72 = .ok (.iadd, 1) := by decide +kernel
theorem dX8_names_73 : decode cX8_names 73 = .ok (.putfield 158, 3) := by decide +kernel
theorem dX8_names_76 : decode cX8_names 76 = .ok (.goto 49, 3) := by decide +kernel
theorem dX8_names_79 : decode cX8_names 79 = .ok (.iload 4, 2) := by decide +kernel
theorem dX8_names_81 : decode cX8_names 81 = .ok (.sipush 20000, 3) := by decide +kernel
theorem dX8_names_84 : decode cX8_names 84 = .ok (.if_icmp .ge 19, 3) := by decide +kernel
theorem dX8_names_87 : decode cX8_names 87 = .ok (.aload_n 0, 1) := by decide +kernel
theorem dX8_names_88 : decode cX8_names 88 = .ok (.iload_n 1, 1) := by decide +kernel
theorem dX8_names_89 : decode cX8_names 89 = .ok (.iload 4, 2) := by decide +kernel
theorem dX8_names_91 : decode cX8_names 91 = .ok (.sipush 1000, 3) := by decide +kernel
theorem dX8_names_94 : decode cX8_names 94 = .ok (.isub, 1) := by decide +kernel
theorem dX8_names_95 : decode cX8_names 95 = .ok (.invokevirtual 161, 3) := by decide +kernel
theorem dX8_names_98 : decode cX8_names 98 = .ok (.ifCond .ne 27, 3) := by decide +kernel
theorem dX8_names_101 : decode cX8_names 101 = .ok (.iconst 0, 1) := by decide +kernel
theorem dX8_names_102 : decode cX8_names 102 = .ok (.ireturn, 1) := by decide +kernel
theorem dX8_names_103 : decode cX8_names 103 = .ok (.aload_n 0, 1) := by decide +kernel
theorem dX8_names_104 : decode cX8_names 104 = .ok (.iload 4, 2) := by decide +kernel
theorem dX8_names_106 : decode cX8_names 106 = .ok (.sipush 20000, 3) := by decide +kernel
theorem dX8_names_109 : decode cX8_names 109 = .ok (.isub, 1) := by decide +kernel
theorem dX8_names_110 : decode cX8_names 110 = .ok (.bipush 100, 2) := by decide +kernel
theorem dX8_names_112 : decode cX8_names 112 = .ok (.idiv, 1) := by decide +kernel
theorem dX8_names_113 : decode cX8_names 113 = .ok (.iload 4, 2) := by decide +kernel
theorem dX8_names_115 : decode cX8_names 115 = .ok (.sipush 20000, 3) := by decide +kernel
theorem dX8_names_118 : decode cX8_names 118 = .ok (.isub, 1) := by decide +kernel
theorem dX8_names_119 : decode cX8_names 119 = .ok (.bipush 100, 2) := by decide +kernel
theorem dX8_names_121 : decode cX8_names 121 = .ok (.irem, 1) := by decide +kernel
theorem dX8_names_122 : decode cX8_names 122 = .ok (.invokevirtual 164, 3) := by decide +kernel
theorem dX8_names_125 : decode cX8_names 125 = .ok (.aload_n 0, 1) := by decide +kernel
theorem dX8_names_126 : decode cX8_names 126 = .ok (.getfield 158, 3) := by decide +kernel
theorem dX8_names_129 : decode cX8_names 129 = .ok (.iload_n 3, 1) := by decide +kernel
theorem dX8_names_130 : decode cX8_names 130 = .ok (.isub, 1) := by decide +kernel
theorem dX8_names_131 : decode cX8_names 131 = .ok (.aload_n 0, 1) := by decide +kernel
theorem dX8_names_132 : decode cX8_names 132 = .ok (.getfield 142, 3) := by decide +kernel
theorem dX8_names_135 : decode cX8_names 135 = .ok (.iadd, 1) := by decide +kernel
theorem dX8_names_136 : decode cX8_names 136 = .ok (.bipush 20, 2) := by decide +kernel
theorem dX8_names_138 : decode cX8_names 138 = .ok (.if_icmp .le 5, 3) := by decide +kernel
theorem dX8_names_141 : decode cX8_names 141 = .ok (.iconst 0, 1) := by decide +kernel
theorem dX8_names_142 : decode cX8_names 142 = .ok (.ireturn, 1) := by decide +kernel
theorem dX8_names_143 : decode cX8_names 143 = .ok (.goto (-124), 3) := by decide +kernel
theorem dX8_names_146 : decode cX8_names 146 = .ok (.iconst 1, 1) := by decide +kernel
theorem dX8_names_147 : decode cX8_names 147 = .ok (.ireturn, 1) := by decide +kernel
theorem dX8_takesForm_0 : decode cX8_takesForm 0 = .ok (.aload_n 0, 1) := by decide +kernel
theorem dX8_takesForm_1 : decode cX8_takesForm 1 = .ok (.iload_n 1, 1) := by decide +kernel
theorem dX8_takesForm_2 : decode cX8_takesForm 2 = .ok (.aload_n 0, 1) := by decide +kernel
theorem dX8_takesForm_3 : decode cX8_takesForm 3 = .ok (.getfield 70, 3) := by decide +kernel
theorem dX8_takesForm_6 : decode cX8_takesForm 6 = .ok (.aload_n 0, 1) := by decide +kernel
theorem dX8_takesForm_7 : decode cX8_takesForm 7 = .ok (.getfield 158, 3) := by decide +kernel
theorem dX8_takesForm_10 : decode cX8_takesForm 10 = .ok (.iconst 1, 1) := by decide +kernel
theorem dX8_takesForm_11 : decode cX8_takesForm 11 = .ok (.isub, 1) := by decide +kernel
theorem dX8_takesForm_12 : decode cX8_takesForm 12 = .ok (.iaload, 1) := by decide +kernel
theorem dX8_takesForm_13 : decode cX8_takesForm 13 = .ok (.iload_n 2, 1) := by decide +kernel
theorem dX8_takesForm_14 : decode cX8_takesForm 14 = .ok (.invokevirtual 138, 3) := by decide +kernel
theorem dX8_takesForm_17 : decode cX8_takesForm 17 = .ok (.istore_n 3, 1) := by decide +kernel
theorem dX8_takesForm_18 : decode cX8_takesForm 18 = .ok (.aload_n 0, 1) := by decide +kernel
theorem dX8_takesForm_19 : decode cX8_takesForm 19 = .ok (.getfield 70, 3) := by decide +kernel
theorem dX8_takesForm_22 : decode cX8_takesForm 22 = .ok (.aload_n 0, 1) := by decide +kernel
theorem dX8_takesForm_23 : decode cX8_takesForm 23 = .ok (.getfield 158, 3) := by decide +kernel
theorem dX8_takesForm_26 : decode cX8_takesForm 26 = .ok (.iconst 1, 1) := by decide +kernel
theorem dX8_takesForm_27 : decode cX8_takesForm 27 = .ok (.isub, 1) := by decide +kernel
theorem dX8_takesForm_28 : decode cX8_takesForm 28 = .ok (.iload_n 3, 1) := by decide +kernel
theorem dX8_takesForm_29 : decode cX8_takesForm 29 = .ok (.iconst (-1), 1) := by decide +kernel
theorem dX8_takesForm_30 : decode cX8_takesForm 30 = .ok (.if_icmp .ne 17, 3) := by decide +kernel
theorem dX8_takesForm_33 : decode cX8_takesForm 33 = .ok (.aload_n 0, 1) := by decide +kernel
theorem dX8_takesForm_34 : decode cX8_takesForm 34 = .ok (.getfield 70, 3) := by decide +kernel
theorem dX8_takesForm_37 : decode cX8_takesForm 37 = .ok (.aload_n 0, 1) := by decide +kernel
theorem dX8_takesForm_38 : decode cX8_takesForm 38 = .ok (.getfield 158, 3) := by decide +kernel
theorem dX8_takesForm_41 : decode cX8_takesForm 41 = .ok (.iconst 1, 1) := by decide +kernel
theorem dX8_takesForm_42 : decode cX8_takesForm 42 = .ok (.isub, 1) := by decide +kernel
theorem dX8_takesForm_43 : decode cX8_takesForm 43 = .ok (.iaload, 1) := by decide +kernel
theorem dX8_takesForm_44 : decode cX8_takesForm 44 = .ok (.goto 9, 3) := by decide +kernel
theorem dX8_takesForm_47 : decode cX8_takesForm 47 = .ok (.aload_n 0, 1) := by decide +kernel
theorem dX8_takesForm_48 : decode cX8_takesForm 48 = .ok (.getfield 52, 3) := by decide +kernel
theorem dX8_takesForm_51 : decode cX8_takesForm 51 = .ok (.iload_n 3, 1) := by decide +kernel
theorem dX8_takesForm_52 : decode cX8_takesForm 52 = .ok (.iaload, 1) := by decide +kernel
theorem dX8_takesForm_53 : decode cX8_takesForm 53 = .ok (.iastore, 1) := by decide +kernel
theorem dX8_takesForm_54 : decode cX8_takesForm 54 = .ok (.return_, 1) := by decide +kernel
theorem dX8_takesOrdinal_0 : decode cX8_takesOrdinal 0 = .ok (.aload_n 0, 1) := by decide +kernel
theorem dX8_takesOrdinal_1 : decode cX8_takesOrdinal 1 = .ok (.iload_n 1, 1) := by decide +kernel
theorem dX8_takesOrdinal_2 : decode cX8_takesOrdinal 2 = .ok (.aload_n 0, 1) := by decide +kernel
theorem dX8_takesOrdinal_3 : decode cX8_takesOrdinal 3 = .ok (.getfield 70, 3) := by decide +kernel
theorem dX8_takesOrdinal_6 : decode cX8_takesOrdinal 6 = .ok (.aload_n 0, 1) := by decide +kernel
theorem dX8_takesOrdinal_7 : decode cX8_takesOrdinal 7 = .ok (.getfield 158, 3) := by decide +kernel
theorem dX8_takesOrdinal_10 : decode cX8_takesOrdinal 10 = .ok (.iconst 1, 1) := by decide +kernel
theorem dX8_takesOrdinal_11 : decode cX8_takesOrdinal 11 = .ok (.isub, 1) := by decide +kernel
theorem dX8_takesOrdinal_12 : decode cX8_takesOrdinal 12 = .ok (.iaload, 1) := by decide +kernel
theorem dX8_takesOrdinal_13 : decode cX8_takesOrdinal 13 = .ok (.iconst 3, 1) := by decide +kernel
theorem dX8_takesOrdinal_14 : decode cX8_takesOrdinal 14 = .ok (.invokevirtual 138, 3) := by decide +kernel
theorem dX8_takesOrdinal_17 : decode cX8_takesOrdinal 17 = .ok (.istore_n 2, 1) := by decide +kernel
theorem dX8_takesOrdinal_18 : decode cX8_takesOrdinal 18 = .ok (.iload_n 2, 1) := by decide +kernel
theorem dX8_takesOrdinal_19 : decode cX8_takesOrdinal 19 = .ok (.iconst (-1), 1) := by decide +kernel
theorem dX8_takesOrdinal_20 : decode cX8_takesOrdinal 20 = .ok (.if_icmp .eq 23, 3) := by decide +kernel
theorem dX8_takesOrdinal_23 : decode cX8_takesOrdinal 23 = .ok (.aload_n 0, 1) := by decide +kernel
theorem dX8_takesOrdinal_24 : decode cX8_takesOrdinal 24 = .ok (.getfield 70, 3) := by decide +kernel
theorem dX8_takesOrdinal_27 : decode cX8_takesOrdinal 27 = .ok (.aload_n 0, 1) := by decide +kernel
theorem dX8_takesOrdinal_28 : decode cX8_takesOrdinal 28 = .ok (.getfield 158, 3) := by decide +kernel
theorem dX8_takesOrdinal_31 : decode cX8_takesOrdinal 31 = .ok (.iconst 1, 1) := by decide +kernel
theorem dX8_takesOrdinal_32 : decode cX8_takesOrdinal 32 = .ok (.isub, 1) := by decide +kernel
theorem dX8_takesOrdinal_33 : decode cX8_takesOrdinal 33 = .ok (.aload_n 0, 1) := by decide +kernel
theorem dX8_takesOrdinal_34 : decode cX8_takesOrdinal 34 = .ok (.getfield 52, 3) := by decide +kernel
theorem dX8_takesOrdinal_37 : decode cX8_takesOrdinal 37 = .ok (.iload_n 2, 1) := by decide +kernel
theorem dX8_takesOrdinal_38 : decode cX8_takesOrdinal 38 = .ok (.iaload, 1) := by decide +kernel
theorem dX8_takesOrdinal_39 : decode cX8_takesOrdinal 39 = .ok (.iastore, 1) := by decide +kernel
theorem dX8_takesOrdinal_40 : decode cX8_takesOrdinal 40 = .ok (.goto 38, 3) := by decide +kernel
theorem dX8_takesOrdinal_43 : decode cX8_takesOrdinal 43 = .ok (.aload_n 0, 1) := by decide +kernel
theorem dX8_takesOrdinal_44 : decode cX8_takesOrdinal 44 = .ok (.getfield 55, 3) := by decide +kernel
theorem dX8_takesOrdinal_47 : decode cX8_takesOrdinal 47 = .ok (.iload_n 1, 1) := by decide +kernel
theorem dX8_takesOrdinal_48 : decode cX8_takesOrdinal 48 = .ok (.iaload, 1) := by decide +kernel
theorem dX8_takesOrdinal_49 : decode cX8_takesOrdinal 49 = .ok (.iconst (-1), 1) := by decide +kernel
theorem dX8_takesOrdinal_50 : decode cX8_takesOrdinal 50 = .ok (.if_icmp .eq 28, 3) := by decide +kernel
theorem dX8_takesOrdinal_53 : decode cX8_takesOrdinal 53 = .ok (.aload_n 0, 1) := by decide +kernel
theorem dX8_takesOrdinal_54 : decode cX8_takesOrdinal 54 = .ok (.getfield 70, 3) := by decide +kernel
theorem dX8_takesOrdinal_57 : decode cX8_takesOrdinal 57 = .ok (.aload_n 0, 1) := by decide +kernel
theorem dX8_takesOrdinal_58 : decode cX8_takesOrdinal 58 = .ok (.getfield 158, 3) := by decide +kernel
theorem dX8_takesOrdinal_61 : decode cX8_takesOrdinal 61 = .ok (.aload_n 0, 1) := by decide +kernel
theorem dX8_takesOrdinal_62 : decode cX8_takesOrdinal 62 = .ok (.getfield 55, 3) := by decide +kernel
theorem dX8_takesOrdinal_65 : decode cX8_takesOrdinal 65 = .ok (.iload_n 1, 1) := by decide +kernel
theorem dX8_takesOrdinal_66 : decode cX8_takesOrdinal 66 = .ok (.iaload, 1) := by decide +kernel
theorem dX8_takesOrdinal_67 : decode cX8_takesOrdinal 67 = .ok (.iastore, 1) := by decide +kernel
theorem dX8_takesOrdinal_68 : decode cX8_takesOrdinal 68 = .ok (.aload_n 0, 1) := by decide +kernel
theorem dX8_takesOrdinal_69 : decode cX8_takesOrdinal 69 = .ok (.dup, 1) := by decide +kernel
theorem dX8_takesOrdinal_70 : decode cX8_takesOrdinal 70 = .ok (.getfield 158, 3) := by decide +kernel
theorem dX8_takesOrdinal_73 : decode cX8_takesOrdinal 73 = .ok (.iconst 1, 1) := by decide +kernel
theorem dX8_takesOrdinal_74 : decode cX8_takesOrdinal 74 = .ok (.iadd, 1) := by decide +kernel
theorem dX8_takesOrdinal_75 : decode cX8_takesOrdinal 75 = .ok (.putfield 158, 3) := by decide +kernel
theorem dX8_takesOrdinal_78 : decode cX8_takesOrdinal 78 = .ok (.return_, 1) := by decide +kernel
theorem dX8_melts_0 : decode cX8_melts 0 = .ok (.bipush 6, 2) := by decide +kernel
theorem dX8_melts_2 : decode cX8_melts 2 = .ok (.iload_n 1, 1) := by decide +kernel
theorem dX8_melts_3 : decode cX8_melts 3 = .ok (.imul, 1) := by decide +kernel
theorem dX8_melts_4 : decode cX8_melts 4 = .ok (.istore_n 2, 1) := by decide +kernel
theorem dX8_melts_5 : decode cX8_melts 5 = .ok (.iload_n 2, 1) := by decide +kernel
theorem dX8_melts_6 : decode cX8_melts 6 = .ok (.bipush 6, 2) := by decide +kernel
theorem dX8_melts_8 : decode cX8_melts 8 = .ok (.iload_n 1, 1) := by decide +kernel
theorem dX8_melts_9 : decode cX8_melts 9 = .ok (.imul, 1) := by decide +kernel
theorem dX8_melts_10 : decode cX8_melts 10 = .ok (.aload_n 0, 1) := by decide +kernel
theorem dX8_melts_11 : decode cX8_melts 11 = .ok (.getfield 58, 3) := by decide +kernel
theorem dX8_melts_14 : decode cX8_melts 14 = .ok (.iload_n 1, 1) := by decide +kernel
theorem dX8_melts_15 : decode cX8_melts 15 = .ok (.iaload, 1) := by decide +kernel
theorem dX8_melts_16 : decode cX8_melts 16 = .ok (.iadd, 1) := by decide +kernel
theorem dX8_melts_17 : decode cX8_melts 17 = .ok (.if_icmp .ge 117, 3) := by decide +kernel
theorem dX8_melts_20 : decode cX8_melts 20 = .ok (.iconst 0, 1) := by decide +kernel
theorem dX8_melts_21 : decode cX8_melts 21 = .ok (.istore_n 3, 1) := by decide +kernel
theorem dX8_melts_22 : decode cX8_melts 22 = .ok (.iload_n 3, 1) := by decide +kernel
theorem dX8_melts_23 : decode cX8_melts 23 = .ok (.iconst 1, 1) := by decide +kernel
theorem dX8_melts_24 : decode cX8_melts 24 = .ok (.iadd, 1) := by decide +kernel
theorem dX8_melts_25 : decode cX8_melts 25 = .ok (.aload_n 0, 1) := by decide +kernel
theorem dX8_melts_26 : decode cX8_melts 26 = .ok (.getfield 158, 3) := by decide +kernel
theorem dX8_melts_29 : decode cX8_melts 29 = .ok (.if_icmp .ge 99, 3) := by decide +kernel
theorem dX8_melts_32 : decode cX8_melts 32 = .ok (.aload_n 0, 1) := by decide +kernel
theorem dX8_melts_33 : decode cX8_melts 33 = .ok (.getfield 70, 3) := by decide +kernel
theorem dX8_melts_36 : decode cX8_melts 36 = .ok (.iload_n 3, 1) := by decide +kernel
theorem dX8_melts_37 : decode cX8_melts 37 = .ok (.iaload, 1) := by decide +kernel
theorem dX8_melts_38 : decode cX8_melts 38 = .ok (.aload_n 0, 1) := by decide +kernel
theorem dX8_melts_39 : decode cX8_melts 39 = .ok (.getfield 61, 3) := by decide +kernel
theorem dX8_melts_42 : decode cX8_melts 42 = .ok (.iload_n 2, 1) := by decide +kernel
theorem dX8_melts_43 : decode cX8_melts 43 = .ok (.iaload, 1) := by decide +kernel
theorem dX8_melts_44 : decode cX8_melts 44 = .ok (.if_icmp .ne 78, 3) := by decide +kernel
theorem dX8_melts_47 : decode cX8_melts 47 = .ok (.aload_n 0, 1) := by decide +kernel
theorem dX8_melts_48 : decode cX8_melts 48 = .ok (.getfield 70, 3) := by decide +kernel
theorem dX8_melts_51 : decode cX8_melts 51 = .ok (.iload_n 3, 1) := by decide +kernel
theorem dX8_melts_52 : decode cX8_melts 52 = .ok (.iconst 1, 1) := by decide +kernel
theorem dX8_melts_53 : decode cX8_melts 53 = .ok (.iadd, 1) := by decide +kernel
theorem dX8_melts_54 : decode cX8_melts 54 = .ok (.iaload, 1) := by decide +kernel
theorem dX8_melts_55 : decode cX8_melts 55 = .ok (.aload_n 0, 1) := by decide +kernel
theorem dX8_melts_56 : decode cX8_melts 56 = .ok (.getfield 64, 3) := by decide +kernel
theorem dX8_melts_59 : decode cX8_melts 59 = .ok (.iload_n 2, 1) := by decide +kernel
theorem dX8_melts_60 : decode cX8_melts 60 = .ok (.iaload, 1) := by decide +kernel
theorem dX8_melts_61 : decode cX8_melts 61 = .ok (.if_icmp .ne 61, 3) := by decide +kernel
theorem dX8_melts_64 : decode cX8_melts 64 = .ok (.aload_n 0, 1) := by decide +kernel
theorem dX8_melts_65 : decode cX8_melts 65 = .ok (.getfield 70, 3) := by decide +kernel
theorem dX8_melts_68 : decode cX8_melts 68 = .ok (.iload_n 3, 1) := by decide +kernel
theorem dX8_melts_69 : decode cX8_melts 69 = .ok (.aload_n 0, 1) := by decide +kernel
theorem dX8_melts_70 : decode cX8_melts 70 = .ok (.getfield 67, 3) := by decide +kernel
theorem dX8_melts_73 : decode cX8_melts 73 = .ok (.iload_n 2, 1) := by decide +kernel
theorem dX8_melts_74 : decode cX8_melts 74 = .ok (.iaload, 1) := by decide +kernel
theorem dX8_melts_75 : decode cX8_melts 75 = .ok (.iastore, 1) := by decide +kernel
theorem dX8_melts_76 : decode cX8_melts 76 = .ok (.aload_n 0, 1) := by decide +kernel
theorem dX8_melts_77 : decode cX8_melts 77 = .ok (.dup, 1) := by decide +kernel
theorem dX8_melts_78 : decode cX8_melts 78 = .ok (.getfield 158, 3) := by decide +kernel
theorem dX8_melts_81 : decode cX8_melts 81 = .ok (.iconst 1, 1) := by decide +kernel
theorem dX8_melts_82 : decode cX8_melts 82 = .ok (.isub, 1) := by decide +kernel
theorem dX8_melts_83 : decode cX8_melts 83 = .ok (.putfield 158, 3) := by decide +kernel
theorem dX8_melts_86 : decode cX8_melts 86 = .ok (.iload_n 3, 1) := by decide +kernel
theorem dX8_melts_87 : decode cX8_melts 87 = .ok (.iconst 1, 1) := by decide +kernel
theorem dX8_melts_88 : decode cX8_melts 88 = .ok (.iadd, 1) := by decide +kernel
theorem dX8_melts_89 : decode cX8_melts 89 = .ok (.istore 4, 2) := by decide +kernel
theorem dX8_melts_91 : decode cX8_melts 91 = .ok (.iload 4, 2) := by decide +kernel
theorem dX8_melts_93 : decode cX8_melts 93 = .ok (.aload_n 0, 1) := by decide +kernel
theorem dX8_melts_94 : decode cX8_melts 94 = .ok (.getfield 158, 3) := by decide +kernel
theorem dX8_melts_97 : decode cX8_melts 97 = .ok (.if_icmp .ge 25, 3) := by decide +kernel
theorem dX8_melts_100 : decode cX8_melts 100 = .ok (.aload_n 0, 1) := by decide +kernel
theorem dX8_melts_101 : decode cX8_melts 101 = .ok (.getfield 70, 3) := by decide +kernel
theorem dX8_melts_104 : decode cX8_melts 104 = .ok (.iload 4, 2) := by decide +kernel
theorem dX8_melts_106 : decode cX8_melts 106 = .ok (.aload_n 0, 1) := by decide +kernel
theorem dX8_melts_107 : decode cX8_melts 107 = .ok (.getfield 70, 3) := by decide +kernel
theorem dX8_melts_110 : decode cX8_melts 110 = .ok (.iload 4, 2) := by decide +kernel
theorem dX8_melts_112 : decode cX8_melts 112 = .ok (.iconst 1, 1) := by decide +kernel
theorem dX8_melts_113 : decode cX8_melts 113 = .ok (.iadd, 1) := by decide +kernel
theorem dX8_melts_114 : decode cX8_melts 114 = .ok (.iaload, 1) := by decide +kernel
theorem dX8_melts_115 : decode cX8_melts 115 = .ok (.iastore, 1) := by decide +kernel
theorem dX8_melts_116 : decode cX8_melts 116 = .ok (.iinc 4 1, 3) := by decide +kernel
theorem dX8_melts_119 : decode cX8_melts 119 = .ok (.goto (-28), 3) := by decide +kernel
theorem dX8_melts_122 : decode cX8_melts 122 = .ok (.iinc 3 1, 3) := by decide +kernel
theorem dX8_melts_125 : decode cX8_melts 125 = .ok (.goto (-103), 3) := by decide +kernel
theorem dX8_melts_128 : decode cX8_melts 128 = .ok (.iinc 2 1, 3) := by decide +kernel
theorem dX8_melts_131 : decode cX8_melts 131 = .ok (.goto (-126), 3) := by decide +kernel
theorem dX8_melts_134 : decode cX8_melts 134 = .ok (.return_, 1) := by decide +kernel
theorem dX8_ends_0 : decode cX8_ends 0 = .ok (.iload_n 2, 1) := by decide +kernel
theorem dX8_ends_1 : decode cX8_ends 1 = .ok (.ifCond .eq 12, 3) := by decide +kernel
theorem dX8_ends_4 : decode cX8_ends 4 = .ok (.aload_n 0, 1) := by decide +kernel
theorem dX8_ends_5 : decode cX8_ends 5 = .ok (.getfield 158, 3) := by decide +kernel
theorem dX8_ends_8 : decode cX8_ends 8 = .ok (.bipush 20, 2) := by decide +kernel
theorem dX8_ends_10 : decode cX8_ends 10 = .ok (.if_icmp .le 10, 3) := by decide +kernel
theorem dX8_ends_13 : decode cX8_ends 13 = .ok (.aload_n 0, 1) := by decide +kernel
theorem dX8_ends_14 : decode cX8_ends 14 = .ok (.iconst 0, 1) := by decide +kernel
theorem dX8_ends_15 : decode cX8_ends 15 = .ok (.putfield 158, 3) := by decide +kernel
theorem dX8_ends_18 : decode cX8_ends 18 = .ok (.iconst 0, 1) := by decide +kernel
theorem dX8_ends_19 : decode cX8_ends 19 = .ok (.ireturn, 1) := by decide +kernel
theorem dX8_ends_20 : decode cX8_ends 20 = .ok (.aload_n 0, 1) := by decide +kernel
theorem dX8_ends_21 : decode cX8_ends 21 = .ok (.iload_n 1, 1) := by decide +kernel
theorem dX8_ends_22 : decode cX8_ends 22 = .ok (.invokevirtual 168, 3) := by decide +kernel
theorem dX8_ends_25 : decode cX8_ends 25 = .ok (.aload_n 0, 1) := by decide +kernel
theorem dX8_ends_26 : decode cX8_ends 26 = .ok (.getfield 158, 3) := by decide +kernel
theorem dX8_ends_29 : decode cX8_ends 29 = .ok (.ireturn, 1) := by decide +kernel
theorem dX8_finds_0 : decode cX8_finds 0 = .ok (.aload_n 0, 1) := by decide +kernel
theorem dX8_finds_1 : decode cX8_finds 1 = .ok (.iconst 0, 1) := by decide +kernel
theorem dX8_finds_2 : decode cX8_finds 2 = .ok (.putfield 158, 3) := by decide +kernel
theorem dX8_finds_5 : decode cX8_finds 5 = .ok (.aload_n 0, 1) := by decide +kernel
theorem dX8_finds_6 : decode cX8_finds 6 = .ok (.iload_n 1, 1) := by decide +kernel
theorem dX8_finds_7 : decode cX8_finds 7 = .ok (.iload_n 2, 1) := by decide +kernel
theorem dX8_finds_8 : decode cX8_finds 8 = .ok (.invokevirtual 171, 3) := by decide +kernel
theorem dX8_finds_11 : decode cX8_finds 11 = .ok (.istore 4, 2) := by decide +kernel
theorem dX8_finds_13 : decode cX8_finds 13 = .ok (.iload 4, 2) := by decide +kernel
theorem dX8_finds_15 : decode cX8_finds 15 = .ok (.ifCond .eq 9, 3) := by decide +kernel
theorem dX8_finds_18 : decode cX8_finds 18 = .ok (.aload_n 0, 1) := by decide +kernel
theorem dX8_finds_19 : decode cX8_finds 19 = .ok (.iload_n 1, 1) := by decide +kernel
theorem dX8_finds_20 : decode cX8_finds 20 = .ok (.iload_n 3, 1) := by decide +kernel
theorem dX8_finds_21 : decode cX8_finds 21 = .ok (.invokevirtual 174, 3) := by decide +kernel
theorem dX8_finds_24 : decode cX8_finds 24 = .ok (.aload_n 0, 1) := by decide +kernel
theorem dX8_finds_25 : decode cX8_finds 25 = .ok (.iload_n 1, 1) := by decide +kernel
theorem dX8_finds_26 : decode cX8_finds 26 = .ok (.iload 4, 2) := by decide +kernel
theorem dX8_finds_28 : decode cX8_finds 28 = .ok (.invokevirtual 177, 3) := by decide +kernel
theorem dX8_finds_31 : decode cX8_finds 31 = .ok (.ireturn, 1) := by decide +kernel
theorem dX8_keepsSaying_0 : decode cX8_keepsSaying 0 = .ok (.aload_n 0, 1) := by decide +kernel
theorem dX8_keepsSaying_1 : decode cX8_keepsSaying 1 = .ok (.aload_n 0, 1) := by decide +kernel
theorem dX8_keepsSaying_2 : decode cX8_keepsSaying 2 = .ok (.getfield 158, 3) := by decide +kernel
theorem dX8_keepsSaying_5 : decode cX8_keepsSaying 5 = .ok (.putfield 181, 3) := by decide +kernel
theorem dX8_keepsSaying_8 : decode cX8_keepsSaying 8 = .ok (.iconst 0, 1) := by decide +kernel
theorem dX8_keepsSaying_9 : decode cX8_keepsSaying 9 = .ok (.istore_n 1, 1) := by decide +kernel
theorem dX8_keepsSaying_10 : decode cX8_keepsSaying 10 = .ok (.iload_n 1, 1) := by decide +kernel
theorem dX8_keepsSaying_11 : decode cX8_keepsSaying 11 = .ok (.aload_n 0, 1) := by decide +kernel
theorem dX8_keepsSaying_12 : decode cX8_keepsSaying 12 = .ok (.getfield 158, 3) := by decide +kernel
theorem dX8_keepsSaying_15 : decode cX8_keepsSaying 15 = .ok (.if_icmp .ge 21, 3) := by decide +kernel
theorem dX8_keepsSaying_18 : decode cX8_keepsSaying 18 = .ok (.aload_n 0, 1) := by decide +kernel
theorem dX8_keepsSaying_19 : decode cX8_keepsSaying 19 = .ok (.getfield 73, 3) := by decide +kernel
theorem dX8_keepsSaying_22 : decode cX8_keepsSaying 22 = .ok (.iload_n 1, 1) := by decide +kernel
theorem dX8_keepsSaying_23 : decode cX8_keepsSaying 23 = .ok (.aload_n 0, 1) := by decide +kernel
theorem dX8_keepsSaying_24 : decode cX8_keepsSaying 24 = .ok (.getfield 70, 3) := by decide +kernel
theorem dX8_keepsSaying_27 : decode cX8_keepsSaying 27 = .ok (.iload_n 1, 1) := by decide +kernel
theorem dX8_keepsSaying_28 : decode cX8_keepsSaying 28 = .ok (.iaload, 1) := by decide +kernel
theorem dX8_keepsSaying_29 : decode cX8_keepsSaying 29 = .ok (.iastore, 1) := by decide +kernel
theorem dX8_keepsSaying_30 : decode cX8_keepsSaying 30 = .ok (.iinc 1 1, 3) := by decide +kernel
theorem dX8_keepsSaying_33 : decode cX8_keepsSaying 33 = .ok (.goto (-23), 3) := by decide +kernel
theorem dX8_keepsSaying_36 : decode cX8_keepsSaying 36 = .ok (.aload_n 0, 1) := by decide +kernel
theorem dX8_keepsSaying_37 : decode cX8_keepsSaying 37 = .ok (.getfield 158, 3) := by decide +kernel
theorem dX8_keepsSaying_40 : decode cX8_keepsSaying 40 = .ok (.ireturn, 1) := by decide +kernel
theorem dX8_say_0 : decode cX8_say 0 = .ok (.iload_n 1, 1) := by decide +kernel
theorem dX8_say_1 : decode cX8_say 1 = .ok (.invokestatic 114, 3) := by decide +kernel
theorem dX8_say_4 : decode cX8_say 4 = .ok (.ifCond .eq 14, 3) := by decide +kernel
theorem dX8_say_7 : decode cX8_say 7 = .ok (.iload_n 3, 1) := by decide +kernel
theorem dX8_say_8 : decode cX8_say 8 = .ok (.invokestatic 184, 3) := by decide +kernel
theorem dX8_say_11 : decode cX8_say 11 = .ok (.ifCond .eq 7, 3) := by decide +kernel
theorem dX8_say_14 : decode cX8_say 14 = .ok (.iconst 1, 1) := by decide +kernel
theorem dX8_say_15 : decode cX8_say 15 = .ok (.goto 4, 3) := by decide +kernel
theorem dX8_say_18 : decode cX8_say 18 = .ok (.iconst 0, 1) := by decide +kernel
theorem dX8_say_19 : decode cX8_say 19 = .ok (.istore 4, 2) := by decide +kernel
theorem dX8_say_21 : decode cX8_say 21 = .ok (.aload_n 0, 1) := by decide +kernel
theorem dX8_say_22 : decode cX8_say 22 = .ok (.iload 4, 2) := by decide +kernel
theorem dX8_say_24 : decode cX8_say 24 = .ok (.ifCond .ne 7, 3) := by decide +kernel
theorem dX8_say_27 : decode cX8_say 27 = .ok (.iconst 1, 1) := by decide +kernel
theorem dX8_say_28 : decode cX8_say 28 = .ok (.goto 15, 3) := by decide +kernel
theorem dX8_say_31 : decode cX8_say 31 = .ok (.iload_n 2, 1) := by decide +kernel
theorem dX8_say_32 : decode cX8_say 32 = .ok (.invokestatic 121, 3) := by decide +kernel
theorem dX8_say_35 : decode cX8_say 35 = .ok (.ifCond .eq 7, 3) := by decide +kernel
theorem dX8_say_38 : decode cX8_say 38 = .ok (.iconst 0, 1) := by decide +kernel
theorem dX8_say_39 : decode cX8_say 39 = .ok (.goto 4, 3) := by decide +kernel
theorem dX8_say_42 : decode cX8_say 42 = .ok (.iconst 2, 1) := by decide +kernel
theorem dX8_say_43 : decode cX8_say 43 = .ok (.invokevirtual 128, 3) := by decide +kernel
theorem dX8_say_46 : decode cX8_say 46 = .ok (.ifCond .ne 5, 3) := by decide +kernel
theorem dX8_say_49 : decode cX8_say 49 = .ok (.iconst 0, 1) := by decide +kernel
theorem dX8_say_50 : decode cX8_say 50 = .ok (.ireturn, 1) := by decide +kernel
theorem dX8_say_51 : decode cX8_say 51 = .ok (.aload_n 0, 1) := by decide +kernel
theorem dX8_say_52 : decode cX8_say 52 = .ok (.iload_n 1, 1) := by decide +kernel
theorem dX8_say_53 : decode cX8_say 53 = .ok (.iload_n 2, 1) := by decide +kernel
theorem dX8_say_54 : decode cX8_say 54 = .ok (.iload_n 3, 1) := by decide +kernel
theorem dX8_say_55 : decode cX8_say 55 = .ok (.invokevirtual 187, 3) := by decide +kernel
theorem dX8_say_58 : decode cX8_say 58 = .ok (.istore 5, 2) := by decide +kernel
theorem dX8_say_60 : decode cX8_say 60 = .ok (.aload_n 0, 1) := by decide +kernel
theorem dX8_say_61 : decode cX8_say 61 = .ok (.invokevirtual 190, 3) := by decide +kernel
theorem dX8_say_64 : decode cX8_say 64 = .ok (.ireturn, 1) := by decide +kernel
theorem dX8_sayOrdinal_0 : decode cX8_sayOrdinal 0 = .ok (.aload_n 0, 1) := by decide +kernel
theorem dX8_sayOrdinal_1 : decode cX8_sayOrdinal 1 = .ok (.iload_n 1, 1) := by decide +kernel
theorem dX8_sayOrdinal_2 : decode cX8_sayOrdinal 2 = .ok (.invokestatic 114, 3) := by decide +kernel
theorem dX8_sayOrdinal_5 : decode cX8_sayOrdinal 5 = .ok (.ifCond .ne 7, 3) := by decide +kernel
theorem dX8_sayOrdinal_8 : decode cX8_sayOrdinal 8 = .ok (.iconst 1, 1) := by decide +kernel
theorem dX8_sayOrdinal_9 : decode cX8_sayOrdinal 9 = .ok (.goto 15, 3) := by decide +kernel
theorem dX8_sayOrdinal_12 : decode cX8_sayOrdinal 12 = .ok (.iload_n 2, 1) := by decide +kernel
theorem dX8_sayOrdinal_13 : decode cX8_sayOrdinal 13 = .ok (.invokestatic 121, 3) := by decide +kernel
theorem dX8_sayOrdinal_16 : decode cX8_sayOrdinal 16 = .ok (.ifCond .eq 7, 3) := by decide +kernel
theorem dX8_sayOrdinal_19 : decode cX8_sayOrdinal 19 = .ok (.iconst 0, 1) := by decide +kernel
theorem dX8_sayOrdinal_20 : decode cX8_sayOrdinal 20 = .ok (.goto 4, 3) := by decide +kernel
theorem dX8_sayOrdinal_23 : decode cX8_sayOrdinal 23 = .ok (.iconst 2, 1) := by decide +kernel
theorem dX8_sayOrdinal_24 : decode cX8_sayOrdinal 24 = .ok (.invokevirtual 128, 3) := by decide +kernel
theorem dX8_sayOrdinal_27 : decode cX8_sayOrdinal 27 = .ok (.ifCond .ne 5, 3) := by decide +kernel
theorem dX8_sayOrdinal_30 : decode cX8_sayOrdinal 30 = .ok (.iconst 0, 1) := by decide +kernel
theorem dX8_sayOrdinal_31 : decode cX8_sayOrdinal 31 = .ok (.ireturn, 1) := by decide +kernel
theorem dX8_sayOrdinal_32 : decode cX8_sayOrdinal 32 = .ok (.aload_n 0, 1) := by decide +kernel
theorem dX8_sayOrdinal_33 : decode cX8_sayOrdinal 33 = .ok (.iconst 0, 1) := by decide +kernel
theorem dX8_sayOrdinal_34 : decode cX8_sayOrdinal 34 = .ok (.putfield 158, 3) := by decide +kernel
theorem dX8_sayOrdinal_37 : decode cX8_sayOrdinal 37 = .ok (.aload_n 0, 1) := by decide +kernel
theorem dX8_sayOrdinal_38 : decode cX8_sayOrdinal 38 = .ok (.iload_n 1, 1) := by decide +kernel
theorem dX8_sayOrdinal_39 : decode cX8_sayOrdinal 39 = .ok (.iload_n 2, 1) := by decide +kernel
theorem dX8_sayOrdinal_40 : decode cX8_sayOrdinal 40 = .ok (.invokevirtual 171, 3) := by decide +kernel
theorem dX8_sayOrdinal_43 : decode cX8_sayOrdinal 43 = .ok (.istore_n 3, 1) := by decide +kernel
theorem dX8_sayOrdinal_44 : decode cX8_sayOrdinal 44 = .ok (.iload_n 3, 1) := by decide +kernel
theorem dX8_sayOrdinal_45 : decode cX8_sayOrdinal 45 = .ok (.ifCond .eq 8, 3) := by decide +kernel
theorem dX8_sayOrdinal_48 : decode cX8_sayOrdinal 48 = .ok (.aload_n 0, 1) := by decide +kernel
theorem dX8_sayOrdinal_49 : decode cX8_sayOrdinal 49 = .ok (.iload_n 1, 1) := by decide +kernel
theorem dX8_sayOrdinal_50 : decode cX8_sayOrdinal 50 = .ok (.invokevirtual 194, 3) := by decide +kernel
theorem dX8_sayOrdinal_53 : decode cX8_sayOrdinal 53 = .ok (.aload_n 0, 1) := by decide +kernel
theorem dX8_sayOrdinal_54 : decode cX8_sayOrdinal 54 = .ok (.iload_n 1, 1) := by decide +kernel
theorem dX8_sayOrdinal_55 : decode cX8_sayOrdinal 55 = .ok (.iload_n 3, 1) := by decide +kernel
theorem dX8_sayOrdinal_56 : decode cX8_sayOrdinal 56 = .ok (.invokevirtual 177, 3) := by decide +kernel
theorem dX8_sayOrdinal_59 : decode cX8_sayOrdinal 59 = .ok (.istore 4, 2) := by decide +kernel
theorem dX8_sayOrdinal_61 : decode cX8_sayOrdinal 61 = .ok (.aload_n 0, 1) := by decide +kernel
theorem dX8_sayOrdinal_62 : decode cX8_sayOrdinal 62 = .ok (.invokevirtual 190, 3) := by decide +kernel
theorem dX8_sayOrdinal_65 : decode cX8_sayOrdinal 65 = .ok (.ireturn, 1) := by decide +kernel
theorem dX8_sayFraction_0 : decode cX8_sayFraction 0 = .ok (.iload_n 1, 1) := by decide +kernel
theorem dX8_sayFraction_1 : decode cX8_sayFraction 1 = .ok (.invokestatic 114, 3) := by decide +kernel
theorem dX8_sayFraction_4 : decode cX8_sayFraction 4 = .ok (.ifCond .eq 15, 3) := by decide +kernel
theorem dX8_sayFraction_7 : decode cX8_sayFraction 7 = .ok (.iload 4, 2) := by decide +kernel
theorem dX8_sayFraction_9 : decode cX8_sayFraction 9 = .ok (.invokestatic 184, 3) := by decide +kernel
theorem dX8_sayFraction_12 : decode cX8_sayFraction 12 = .ok (.ifCond .eq 7, 3) := by decide +kernel
theorem dX8_sayFraction_15 : decode cX8_sayFraction 15 = .ok (.iconst 1, 1) := by decide +kernel
theorem dX8_sayFraction_16 : decode cX8_sayFraction 16 = .ok (.goto 4, 3) := by decide +kernel
theorem dX8_sayFraction_19 : decode cX8_sayFraction 19 = .ok (.iconst 0, 1) := by decide +kernel
theorem dX8_sayFraction_20 : decode cX8_sayFraction 20 = .ok (.istore 5, 2) := by decide +kernel
theorem dX8_sayFraction_22 : decode cX8_sayFraction 22 = .ok (.iload_n 2, 1) := by decide +kernel
theorem dX8_sayFraction_23 : decode cX8_sayFraction 23 = .ok (.invokestatic 121, 3) := by decide +kernel
theorem dX8_sayFraction_26 : decode cX8_sayFraction 26 = .ok (.ifCond .eq 18, 3) := by decide +kernel
theorem dX8_sayFraction_29 : decode cX8_sayFraction 29 = .ok (.iload_n 3, 1) := by decide +kernel
theorem dX8_sayFraction_30 : decode cX8_sayFraction 30 = .ok (.invokestatic 121, 3) := by decide +kernel
theorem dX8_sayFraction_33 : decode cX8_sayFraction 33 = .ok (.ifCond .eq 11, 3) := by decide +kernel
theorem dX8_sayFraction_36 : decode cX8_sayFraction 36 = .ok (.iload_n 3, 1) := by decide +kernel
theorem dX8_sayFraction_37 : decode cX8_sayFraction 37 = .ok (.ifCond .le 7, 3) := by decide +kernel
theorem dX8_sayFraction_40 : decode cX8_sayFraction 40 = .ok (.iconst 1, 1) := by decide +kernel
theorem dX8_sayFraction_41 : decode cX8_sayFraction 41 = .ok (.goto 4, 3) := by decide +kernel
theorem dX8_sayFraction_44 : decode cX8_sayFraction 44 = .ok (.iconst 0, 1) := by decide +kernel
theorem dX8_sayFraction_45 : decode cX8_sayFraction 45 = .ok (.istore 6, 2) := by decide +kernel
theorem dX8_sayFraction_47 : decode cX8_sayFraction 47 = .ok (.aload_n 0, 1) := by decide +kernel
theorem dX8_sayFraction_48 : decode cX8_sayFraction 48 = .ok (.iload 5, 2) := by decide +kernel
theorem dX8_sayFraction_50 : decode cX8_sayFraction 50 = .ok (.ifCond .ne 7, 3) := by decide +kernel
theorem dX8_sayFraction_53 : decode cX8_sayFraction 53 = .ok (.iconst 1, 1) := by decide +kernel
theorem dX8_sayFraction_54 : decode cX8_sayFraction 54 = .ok (.goto 13, 3) := by decide +kernel
theorem dX8_sayFraction_57 : decode cX8_sayFraction 57 = .ok (.iload 6, 2) := by decide +kernel
theorem dX8_sayFraction_59 : decode cX8_sayFraction 59 = .ok (.ifCond .eq 7, 3) := by decide +kernel
theorem dX8_sayFraction_62 : decode cX8_sayFraction 62 = .ok (.iconst 0, 1) := by decide +kernel
theorem dX8_sayFraction_63 : decode cX8_sayFraction 63 = .ok (.goto 4, 3) := by decide +kernel
theorem dX8_sayFraction_66 : decode cX8_sayFraction 66 = .ok (.iconst 2, 1) := by decide +kernel
theorem dX8_sayFraction_67 : decode cX8_sayFraction 67 = .ok (.invokevirtual 128, 3) := by decide +kernel
theorem dX8_sayFraction_70 : decode cX8_sayFraction 70 = .ok (.ifCond .ne 5, 3) := by decide +kernel
theorem dX8_sayFraction_73 : decode cX8_sayFraction 73 = .ok (.iconst 0, 1) := by decide +kernel
theorem dX8_sayFraction_74 : decode cX8_sayFraction 74 = .ok (.ireturn, 1) := by decide +kernel
theorem dX8_sayFraction_75 : decode cX8_sayFraction 75 = .ok (.aload_n 0, 1) := by decide +kernel
theorem dX8_sayFraction_76 : decode cX8_sayFraction 76 = .ok (.iconst 0, 1) := by decide +kernel
theorem dX8_sayFraction_77 : decode cX8_sayFraction 77 = .ok (.putfield 158, 3) := by decide +kernel
theorem dX8_sayFraction_80 : decode cX8_sayFraction 80 = .ok (.aload_n 0, 1) := by decide +kernel
theorem dX8_sayFraction_81 : decode cX8_sayFraction 81 = .ok (.iload_n 1, 1) := by decide +kernel
theorem dX8_sayFraction_82 : decode cX8_sayFraction 82 = .ok (.iload_n 2, 1) := by decide +kernel
theorem dX8_sayFraction_83 : decode cX8_sayFraction 83 = .ok (.invokevirtual 171, 3) := by decide +kernel
theorem dX8_sayFraction_86 : decode cX8_sayFraction 86 = .ok (.istore 7, 2) := by decide +kernel
theorem dX8_sayFraction_88 : decode cX8_sayFraction 88 = .ok (.iload 7, 2) := by decide +kernel
theorem dX8_sayFraction_90 : decode cX8_sayFraction 90 = .ok (.ifCond .eq 18, 3) := by decide +kernel
theorem dX8_sayFraction_93 : decode cX8_sayFraction 93 = .ok (.aload_n 0, 1) := by decide +kernel
theorem dX8_sayFraction_94 : decode cX8_sayFraction 94 = .ok (.iload_n 1, 1) := by decide +kernel
theorem dX8_sayFraction_95 : decode cX8_sayFraction 95 = .ok (.iload 4, 2) := by decide +kernel
theorem dX8_sayFraction_97 : decode cX8_sayFraction 97 = .ok (.invokevirtual 174, 3) := by decide +kernel
theorem dX8_sayFraction_100 : decode cX8_sayFraction 100 = .ok (.aload_n 0, 1) := by decide +kernel
theorem dX8_sayFraction_101 : decode cX8_sayFraction 101 = .ok (.iload_n 1, 1) := by decide +kernel
theorem dX8_sayFraction_102 : decode cX8_sayFraction 102 = .ok (.iload_n 3, 1) := by decide +kernel
theorem dX8_sayFraction_103 : decode cX8_sayFraction 103 = .ok (.invokevirtual 171, 3) := by decide +kernel
theorem dX8_sayFraction_106 : decode cX8_sayFraction 106 = .ok (.istore 7, 2) := by decide +kernel
theorem dX8_sayFraction_108 : decode cX8_sayFraction 108 = .ok (.iload 7, 2) := by decide +kernel
theorem dX8_sayFraction_110 : decode cX8_sayFraction 110 = .ok (.ifCond .eq 8, 3) := by decide +kernel
theorem dX8_sayFraction_113 : decode cX8_sayFraction 113 = .ok (.aload_n 0, 1) := by decide +kernel
theorem dX8_sayFraction_114 : decode cX8_sayFraction 114 = .ok (.iload_n 1, 1) := by decide +kernel
theorem dX8_sayFraction_115 : decode cX8_sayFraction 115 = .ok (.invokevirtual 194, 3) := by decide +kernel
theorem dX8_sayFraction_118 : decode cX8_sayFraction 118 = .ok (.aload_n 0, 1) := by decide +kernel
theorem dX8_sayFraction_119 : decode cX8_sayFraction 119 = .ok (.iload_n 1, 1) := by decide +kernel
theorem dX8_sayFraction_120 : decode cX8_sayFraction 120 = .ok (.iload 7, 2) := by decide +kernel
theorem dX8_sayFraction_122 : decode cX8_sayFraction 122 = .ok (.invokevirtual 177, 3) := by decide +kernel
theorem dX8_sayFraction_125 : decode cX8_sayFraction 125 = .ok (.istore 8, 2) := by decide +kernel
theorem dX8_sayFraction_127 : decode cX8_sayFraction 127 = .ok (.aload_n 0, 1) := by decide +kernel
theorem dX8_sayFraction_128 : decode cX8_sayFraction 128 = .ok (.invokevirtual 190, 3) := by decide +kernel
theorem dX8_sayFraction_131 : decode cX8_sayFraction 131 = .ok (.ireturn, 1) := by decide +kernel
theorem dX8_said_0 : decode cX8_said 0 = .ok (.aload_n 0, 1) := by decide +kernel
theorem dX8_said_1 : decode cX8_said 1 = .ok (.iload_n 1, 1) := by decide +kernel
theorem dX8_said_2 : decode cX8_said 2 = .ok (.iconst 0, 1) := by decide +kernel
theorem dX8_said_3 : decode cX8_said 3 = .ok (.aload_n 0, 1) := by decide +kernel
theorem dX8_said_4 : decode cX8_said 4 = .ok (.getfield 181, 3) := by decide +kernel
theorem dX8_said_7 : decode cX8_said 7 = .ok (.iconst 1, 1) := by decide +kernel
theorem dX8_said_8 : decode cX8_said 8 = .ok (.isub, 1) := by decide +kernel
theorem dX8_said_9 : decode cX8_said 9 = .ok (.invokestatic 110, 3) := by decide +kernel
theorem dX8_said_12 : decode cX8_said 12 = .ok (.ifCond .eq 7, 3) := by decide +kernel
theorem dX8_said_15 : decode cX8_said 15 = .ok (.iconst 0, 1) := by decide +kernel
theorem dX8_said_16 : decode cX8_said 16 = .ok (.goto 4, 3) := by decide +kernel
theorem dX8_said_19 : decode cX8_said 19 = .ok (.iconst 1, 1) := by decide +kernel
theorem dX8_said_20 : decode cX8_said 20 = .ok (.invokevirtual 128, 3) := by decide +kernel
theorem dX8_said_23 : decode cX8_said 23 = .ok (.ifCond .eq 12, 3) := by decide +kernel
theorem dX8_said_26 : decode cX8_said 26 = .ok (.aload_n 0, 1) := by decide +kernel
theorem dX8_said_27 : decode cX8_said 27 = .ok (.getfield 73, 3) := by decide +kernel
theorem dX8_said_30 : decode cX8_said 30 = .ok (.iload_n 1, 1) := by decide +kernel
theorem dX8_said_31 : decode cX8_said 31 = .ok (.iaload, 1) := by decide +kernel
theorem dX8_said_32 : decode cX8_said 32 = .ok (.goto 4, 3) := by decide +kernel
theorem dX8_said_35 : decode cX8_said 35 = .ok (.iconst 0, 1) := by decide +kernel
theorem dX8_said_36 : decode cX8_said 36 = .ok (.ireturn, 1) := by decide +kernel
theorem dX8_hear_0 : decode cX8_hear 0 = .ok (.aload_n 0, 1) := by decide +kernel
theorem dX8_hear_1 : decode cX8_hear 1 = .ok (.iload_n 1, 1) := by decide +kernel
theorem dX8_hear_2 : decode cX8_hear 2 = .ok (.invokestatic 135, 3) := by decide +kernel
theorem dX8_hear_5 : decode cX8_hear 5 = .ok (.ifCond .ne 7, 3) := by decide +kernel
theorem dX8_hear_8 : decode cX8_hear 8 = .ok (.iconst 1, 1) := by decide +kernel
theorem dX8_hear_9 : decode cX8_hear 9 = .ok (.goto 17, 3) := by decide +kernel
theorem dX8_hear_12 : decode cX8_hear 12 = .ok (.aload_n 0, 1) := by decide +kernel
theorem dX8_hear_13 : decode cX8_hear 13 = .ok (.getfield 197, 3) := by decide +kernel
theorem dX8_hear_16 : decode cX8_hear 16 = .ok (.bipush 20, 2) := by decide +kernel
theorem dX8_hear_18 : decode cX8_hear 18 = .ok (.if_icmp .ne 7, 3) := by decide +kernel
theorem dX8_hear_21 : decode cX8_hear 21 = .ok (.iconst 2, 1) := by decide +kernel
theorem dX8_hear_22 : decode cX8_hear 22 = .ok (.goto 4, 3) := by decide +kernel
theorem dX8_hear_25 : decode cX8_hear 25 = .ok (.iconst 0, 1) := by decide +kernel
theorem dX8_hear_26 : decode cX8_hear 26 = .ok (.invokevirtual 128, 3) := by decide +kernel
theorem dX8_hear_29 : decode cX8_hear 29 = .ok (.ifCond .ne 5, 3) := by decide +kernel
theorem dX8_hear_32 : decode cX8_hear 32 = .ok (.iconst 0, 1) := by decide +kernel
theorem dX8_hear_33 : decode cX8_hear 33 = .ok (.ireturn, 1) := by decide +kernel
theorem dX8_hear_34 : decode cX8_hear 34 = .ok (.aload_n 0, 1) := by decide +kernel
theorem dX8_hear_35 : decode cX8_hear 35 = .ok (.getfield 79, 3) := by decide +kernel
theorem dX8_hear_38 : decode cX8_hear 38 = .ok (.aload_n 0, 1) := by decide +kernel
theorem dX8_hear_39 : decode cX8_hear 39 = .ok (.getfield 197, 3) := by decide +kernel
theorem dX8_hear_42 : decode cX8_hear 42 = .ok (.iload_n 1, 1) := by decide +kernel
theorem dX8_hear_43 : decode cX8_hear 43 = .ok (.iastore, 1) := by decide +kernel
theorem dX8_hear_44 : decode cX8_hear 44 = .ok (.aload_n 0, 1) := by decide +kernel
theorem dX8_hear_45 : decode cX8_hear 45 = .ok (.dup, 1) := by decide +kernel
theorem dX8_hear_46 : decode cX8_hear 46 = .ok (.getfield 197, 3) := by decide +kernel
theorem dX8_hear_49 : decode cX8_hear 49 = .ok (.iconst 1, 1) := by decide +kernel
theorem dX8_hear_50 : decode cX8_hear 50 = .ok (.iadd, 1) := by decide +kernel
theorem dX8_hear_51 : decode cX8_hear 51 = .ok (.putfield 197, 3) := by decide +kernel
theorem dX8_hear_54 : decode cX8_hear 54 = .ok (.aload_n 0, 1) := by decide +kernel
theorem dX8_hear_55 : decode cX8_hear 55 = .ok (.getfield 197, 3) := by decide +kernel
theorem dX8_hear_58 : decode cX8_hear 58 = .ok (.ireturn, 1) := by decide +kernel
theorem dX8_hearSaid_0 : decode cX8_hearSaid 0 = .ok (.aload_n 0, 1) := by decide +kernel
theorem dX8_hearSaid_1 : decode cX8_hearSaid 1 = .ok (.iconst 0, 1) := by decide +kernel
theorem dX8_hearSaid_2 : decode cX8_hearSaid 2 = .ok (.putfield 106, 3) := by decide +kernel
theorem dX8_hearSaid_5 : decode cX8_hearSaid 5 = .ok (.aload_n 0, 1) := by decide +kernel
theorem dX8_hearSaid_6 : decode cX8_hearSaid 6 = .ok (.aload_n 0, 1) := by decide +kernel
theorem dX8_hearSaid_7 : decode cX8_hearSaid 7 = .ok (.getfield 181, 3) := by decide +kernel
theorem dX8_hearSaid_10 : decode cX8_hearSaid 10 = .ok (.putfield 197, 3) := by decide +kernel
theorem dX8_hearSaid_13 : decode cX8_hearSaid 13 = .ok (.iconst 0, 1) := by decide +kernel
theorem dX8_hearSaid_14 : decode cX8_hearSaid 14 = .ok (.istore_n 1, 1) := by decide +kernel
theorem dX8_hearSaid_15 : decode cX8_hearSaid 15 = .ok (.iload_n 1, 1) := by decide +kernel
theorem dX8_hearSaid_16 : decode cX8_hearSaid 16 = .ok (.aload_n 0, 1) := by decide +kernel
theorem dX8_hearSaid_17 : decode cX8_hearSaid 17 = .ok (.getfield 197, 3) := by decide +kernel
theorem dX8_hearSaid_20 : decode cX8_hearSaid 20 = .ok (.if_icmp .ge 21, 3) := by decide +kernel
theorem dX8_hearSaid_23 : decode cX8_hearSaid 23 = .ok (.aload_n 0, 1) := by decide +kernel
theorem dX8_hearSaid_24 : decode cX8_hearSaid 24 = .ok (.getfield 79, 3) := by decide +kernel
theorem dX8_hearSaid_27 : decode cX8_hearSaid 27 = .ok (.iload_n 1, 1) := by decide +kernel
theorem dX8_hearSaid_28 : decode cX8_hearSaid 28 = .ok (.aload_n 0, 1) := by decide +kernel
theorem dX8_hearSaid_29 : decode cX8_hearSaid 29 = .ok (.getfield 73, 3) := by decide +kernel
theorem dX8_hearSaid_32 : decode cX8_hearSaid 32 = .ok (.iload_n 1, 1) := by decide +kernel
theorem dX8_hearSaid_33 : decode cX8_hearSaid 33 = .ok (.iaload, 1) := by decide +kernel
theorem dX8_hearSaid_34 : decode cX8_hearSaid 34 = .ok (.iastore, 1) := by decide +kernel
theorem dX8_hearSaid_35 : decode cX8_hearSaid 35 = .ok (.iinc 1 1, 3) := by decide +kernel
theorem dX8_hearSaid_38 : decode cX8_hearSaid 38 = .ok (.goto (-23), 3) := by decide +kernel
theorem dX8_hearSaid_41 : decode cX8_hearSaid 41 = .ok (.aload_n 0, 1) := by decide +kernel
theorem dX8_hearSaid_42 : decode cX8_hearSaid 42 = .ok (.getfield 197, 3) := by decide +kernel
theorem dX8_hearSaid_45 : decode cX8_hearSaid 45 = .ok (.ireturn, 1) := by decide +kernel
theorem dX8_forget_0 : decode cX8_forget 0 = .ok (.aload_n 0, 1) := by decide +kernel
theorem dX8_forget_1 : decode cX8_forget 1 = .ok (.iconst 0, 1) := by decide +kernel
theorem dX8_forget_2 : decode cX8_forget 2 = .ok (.putfield 106, 3) := by decide +kernel
theorem dX8_forget_5 : decode cX8_forget 5 = .ok (.aload_n 0, 1) := by decide +kernel
theorem dX8_forget_6 : decode cX8_forget 6 = .ok (.getfield 197, 3) := by decide +kernel
theorem dX8_forget_9 : decode cX8_forget 9 = .ok (.istore_n 1, 1) := by decide +kernel
theorem dX8_forget_10 : decode cX8_forget 10 = .ok (.aload_n 0, 1) := by decide +kernel
theorem dX8_forget_11 : decode cX8_forget 11 = .ok (.iconst 0, 1) := by decide +kernel
theorem dX8_forget_12 : decode cX8_forget 12 = .ok (.putfield 197, 3) := by decide +kernel
theorem dX8_forget_15 : decode cX8_forget 15 = .ok (.iload_n 1, 1) := by decide +kernel
theorem dX8_forget_16 : decode cX8_forget 16 = .ok (.ireturn, 1) := by decide +kernel
theorem dX8_isHeard_0 : decode cX8_isHeard 0 = .ok (.aload_n 0, 1) := by decide +kernel
theorem dX8_isHeard_1 : decode cX8_isHeard 1 = .ok (.getfield 158, 3) := by decide +kernel
theorem dX8_isHeard_4 : decode cX8_isHeard 4 = .ok (.aload_n 0, 1) := by decide +kernel
theorem dX8_isHeard_5 : decode cX8_isHeard 5 = .ok (.getfield 197, 3) := by decide +kernel
theorem dX8_isHeard_8 : decode cX8_isHeard 8 = .ok (.if_icmp .ne 14, 3) := by decide +kernel
theorem dX8_isHeard_11 : decode cX8_isHeard 11 = .ok (.aload_n 0, 1) := by decide +kernel
theorem dX8_isHeard_12 : decode cX8_isHeard 12 = .ok (.getfield 197, 3) := by decide +kernel
theorem dX8_isHeard_15 : decode cX8_isHeard 15 = .ok (.ifCond .le 7, 3) := by decide +kernel
theorem dX8_isHeard_18 : decode cX8_isHeard 18 = .ok (.iconst 1, 1) := by decide +kernel
theorem dX8_isHeard_19 : decode cX8_isHeard 19 = .ok (.goto 4, 3) := by decide +kernel
theorem dX8_isHeard_22 : decode cX8_isHeard 22 = .ok (.iconst 0, 1) := by decide +kernel
theorem dX8_isHeard_23 : decode cX8_isHeard 23 = .ok (.istore_n 1, 1) := by decide +kernel
theorem dX8_isHeard_24 : decode cX8_isHeard 24 = .ok (.iconst 0, 1) := by decide +kernel
theorem dX8_isHeard_25 : decode cX8_isHeard 25 = .ok (.istore_n 2, 1) := by decide +kernel
theorem dX8_isHeard_26 : decode cX8_isHeard 26 = .ok (.iload_n 2, 1) := by decide +kernel
theorem dX8_isHeard_27 : decode cX8_isHeard 27 = .ok (.aload_n 0, 1) := by decide +kernel
theorem dX8_isHeard_28 : decode cX8_isHeard 28 = .ok (.getfield 197, 3) := by decide +kernel
theorem dX8_isHeard_31 : decode cX8_isHeard 31 = .ok (.if_icmp .ge 44, 3) := by decide +kernel
theorem dX8_isHeard_34 : decode cX8_isHeard 34 = .ok (.iload_n 1, 1) := by decide +kernel
theorem dX8_isHeard_35 : decode cX8_isHeard 35 = .ok (.ifCond .eq 40, 3) := by decide +kernel
theorem dX8_isHeard_38 : decode cX8_isHeard 38 = .ok (.aload_n 0, 1) := by decide +kernel
theorem dX8_isHeard_39 : decode cX8_isHeard 39 = .ok (.getfield 79, 3) := by decide +kernel
theorem dX8_isHeard_42 : decode cX8_isHeard 42 = .ok (.iload_n 2, 1) := by decide +kernel
theorem dX8_isHeard_43 : decode cX8_isHeard 43 = .ok (.iaload, 1) := by decide +kernel
theorem dX8_isHeard_44 : decode cX8_isHeard 44 = .ok (.iconst (-1), 1) := by decide +kernel
theorem dX8_isHeard_45 : decode cX8_isHeard 45 = .ok (.if_icmp .eq 18, 3) := by decide +kernel
theorem dX8_isHeard_48 : decode cX8_isHeard 48 = .ok (.aload_n 0, 1) := by decide +kernel
theorem dX8_isHeard_49 : decode cX8_isHeard 49 = .ok (.getfield 79, 3) := by decide +kernel
theorem dX8_isHeard_52 : decode cX8_isHeard 52 = .ok (.iload_n 2, 1) := by decide +kernel
theorem dX8_isHeard_53 : decode cX8_isHeard 53 = .ok (.iaload, 1) := by decide +kernel
theorem dX8_isHeard_54 : decode cX8_isHeard 54 = .ok (.aload_n 0, 1) := by decide +kernel
theorem dX8_isHeard_55 : decode cX8_isHeard 55 = .ok (.getfield 70, 3) := by decide +kernel
theorem dX8_isHeard_58 : decode cX8_isHeard 58 = .ok (.iload_n 2, 1) := by decide +kernel
theorem dX8_isHeard_59 : decode cX8_isHeard 59 = .ok (.iaload, 1) := by decide +kernel
theorem dX8_isHeard_60 : decode cX8_isHeard 60 = .ok (.if_icmp .ne 7, 3) := by decide +kernel
theorem dX8_isHeard_63 : decode cX8_isHeard 63 = .ok (.iconst 1, 1) := by decide +kernel
theorem dX8_isHeard_64 : decode cX8_isHeard 64 = .ok (.goto 4, 3) := by decide +kernel
theorem dX8_isHeard_67 : decode cX8_isHeard 67 = .ok (.iconst 0, 1) := by decide +kernel
theorem dX8_isHeard_68 : decode cX8_isHeard 68 = .ok (.istore_n 1, 1) := by decide +kernel
theorem dX8_isHeard_69 : decode cX8_isHeard 69 = .ok (.iinc 2 1, 3) := by decide +kernel
theorem dX8_isHeard_72 : decode cX8_isHeard 72 = .ok (.goto (-46), 3) := by decide +kernel
theorem dX8_isHeard_75 : decode cX8_isHeard 75 = .ok (.iload_n 1, 1) := by decide +kernel
theorem dX8_isHeard_76 : decode cX8_isHeard 76 = .ok (.ireturn, 1) := by decide +kernel
theorem dX8_canBound_0 : decode cX8_canBound 0 = .ok (.aload_n 0, 1) := by decide +kernel
theorem dX8_canBound_1 : decode cX8_canBound 1 = .ok (.iload_n 1, 1) := by decide +kernel
theorem dX8_canBound_2 : decode cX8_canBound 2 = .ok (.invokestatic 114, 3) := by decide +kernel
theorem dX8_canBound_5 : decode cX8_canBound 5 = .ok (.ifCond .eq 10, 3) := by decide +kernel
theorem dX8_canBound_8 : decode cX8_canBound 8 = .ok (.iload_n 2, 1) := by decide +kernel
theorem dX8_canBound_9 : decode cX8_canBound 9 = .ok (.invokestatic 184, 3) := by decide +kernel
theorem dX8_canBound_12 : decode cX8_canBound 12 = .ok (.ifCond .ne 7, 3) := by decide +kernel
theorem dX8_canBound_15 : decode cX8_canBound 15 = .ok (.iconst 1, 1) := by decide +kernel
theorem dX8_canBound_16 : decode cX8_canBound 16 = .ok (.goto 23, 3) := by decide +kernel
theorem dX8_canBound_19 : decode cX8_canBound 19 = .ok (.iload_n 3, 1) := by decide +kernel
theorem dX8_canBound_20 : decode cX8_canBound 20 = .ok (.iconst 0, 1) := by decide +kernel
theorem dX8_canBound_21 : decode cX8_canBound 21 = .ok (.iload 4, 2) := by decide +kernel
theorem dX8_canBound_23 : decode cX8_canBound 23 = .ok (.invokestatic 110, 3) := by decide +kernel
theorem dX8_canBound_26 : decode cX8_canBound 26 = .ok (.ifCond .eq 12, 3) := by decide +kernel
theorem dX8_canBound_29 : decode cX8_canBound 29 = .ok (.iload 5, 2) := by decide +kernel
theorem dX8_canBound_31 : decode cX8_canBound 31 = .ok (.ifCond .eq 7, 3) := by decide +kernel
theorem dX8_canBound_34 : decode cX8_canBound 34 = .ok (.iconst 0, 1) := by decide +kernel
theorem dX8_canBound_35 : decode cX8_canBound 35 = .ok (.goto 4, 3) := by decide +kernel
theorem dX8_canBound_38 : decode cX8_canBound 38 = .ok (.iconst 2, 1) := by decide +kernel
theorem dX8_canBound_39 : decode cX8_canBound 39 = .ok (.invokevirtual 128, 3) := by decide +kernel
theorem dX8_canBound_42 : decode cX8_canBound 42 = .ok (.ireturn, 1) := by decide +kernel
theorem dX8_fitsIt_0 : decode cX8_fitsIt 0 = .ok (.aload_n 0, 1) := by decide +kernel
theorem dX8_fitsIt_1 : decode cX8_fitsIt 1 = .ok (.iload_n 1, 1) := by decide +kernel
theorem dX8_fitsIt_2 : decode cX8_fitsIt 2 = .ok (.iload_n 3, 1) := by decide +kernel
theorem dX8_fitsIt_3 : decode cX8_fitsIt 3 = .ok (.iload_n 2, 1) := by decide +kernel
theorem dX8_fitsIt_4 : decode cX8_fitsIt 4 = .ok (.invokevirtual 187, 3) := by decide +kernel
theorem dX8_fitsIt_7 : decode cX8_fitsIt 7 = .ok (.istore 4, 2) := by decide +kernel
theorem dX8_fitsIt_9 : decode cX8_fitsIt 9 = .ok (.aload_n 0, 1) := by decide +kernel
theorem dX8_fitsIt_10 : decode cX8_fitsIt 10 = .ok (.invokevirtual 200, 3) := by decide +kernel
theorem dX8_fitsIt_13 : decode cX8_fitsIt 13 = .ok (.ireturn, 1) := by decide +kernel
theorem dX8_fits_0 : decode cX8_fits 0 = .ok (.aload_n 0, 1) := by decide +kernel
theorem dX8_fits_1 : decode cX8_fits 1 = .ok (.iload_n 1, 1) := by decide +kernel
theorem dX8_fits_2 : decode cX8_fits 2 = .ok (.iload_n 2, 1) := by decide +kernel
theorem dX8_fits_3 : decode cX8_fits 3 = .ok (.iload_n 3, 1) := by decide +kernel
theorem dX8_fits_4 : decode cX8_fits 4 = .ok (.sipush 999, 3) := by decide +kernel
theorem dX8_fits_7 : decode cX8_fits 7 = .ok (.iconst 1, 1) := by decide +kernel
theorem dX8_fits_8 : decode cX8_fits 8 = .ok (.invokevirtual 204, 3) := by decide +kernel
theorem dX8_fits_11 : decode cX8_fits 11 = .ok (.ifCond .ne 5, 3) := by decide +kernel
theorem dX8_fits_14 : decode cX8_fits 14 = .ok (.iconst 0, 1) := by decide +kernel
theorem dX8_fits_15 : decode cX8_fits 15 = .ok (.ireturn, 1) := by decide +kernel
theorem dX8_fits_16 : decode cX8_fits 16 = .ok (.iconst 0, 1) := by decide +kernel
theorem dX8_fits_17 : decode cX8_fits 17 = .ok (.istore 4, 2) := by decide +kernel
theorem dX8_fits_19 : decode cX8_fits 19 = .ok (.iconst 0, 1) := by decide +kernel
theorem dX8_fits_20 : decode cX8_fits 20 = .ok (.istore 5, 2) := by decide +kernel
theorem dX8_fits_22 : decode cX8_fits 22 = .ok (.iload 5, 2) := by decide +kernel
theorem dX8_fits_24 : decode cX8_fits 24 = .ok (.iload_n 3, 1) := by decide +kernel
theorem dX8_fits_25 : decode cX8_fits 25 = .ok (.if_icmp .gt 30, 3) := by decide +kernel
theorem dX8_fits_28 : decode cX8_fits 28 = .ok (.iload 4, 2) := by decide +kernel
theorem dX8_fits_30 : decode cX8_fits 30 = .ok (.aload_n 0, 1) := by decide +kernel
theorem dX8_fits_31 : decode cX8_fits 31 = .ok (.iload_n 1, 1) := by decide +kernel
theorem dX8_fits_32 : decode cX8_fits 32 = .ok (.iload_n 2, 1) := by decide +kernel
theorem dX8_fits_33 : decode cX8_fits 33 = .ok (.iload 5, 2) := by decide +kernel
theorem dX8_fits_35 : decode cX8_fits 35 = .ok (.invokevirtual 208, 3) := by decide +kernel
theorem dX8_fits_38 : decode cX8_fits 38 = .ok (.ifCond .eq 7, 3) := by decide +kernel
theorem dX8_fits_41 : decode cX8_fits 41 = .ok (.iconst 1, 1) := by decide +kernel
theorem dX8_fits_42 : decode cX8_fits 42 = .ok (.goto 4, 3) := by decide +kernel
theorem dX8_fits_45 : decode cX8_fits 45 = .ok (.iconst 0, 1) := by decide +kernel
theorem dX8_fits_46 : decode cX8_fits 46 = .ok (.iadd, 1) := by decide +kernel
theorem dX8_fits_47 : decode cX8_fits 47 = .ok (.istore 4, 2) := by decide +kernel
theorem dX8_fits_49 : decode cX8_fits 49 = .ok (.iinc 5 1, 3) := by decide +kernel
theorem dX8_fits_52 : decode cX8_fits 52 = .ok (.goto (-30), 3) := by decide +kernel
theorem dX8_fits_55 : decode cX8_fits 55 = .ok (.iload 4, 2) := by decide +kernel
theorem dX8_fits_57 : decode cX8_fits 57 = .ok (.ireturn, 1) := by decide +kernel
theorem dX8_fit_0 : decode cX8_fit 0 = .ok (.aload_n 0, 1) := by decide +kernel
theorem dX8_fit_1 : decode cX8_fit 1 = .ok (.iload_n 1, 1) := by decide +kernel
theorem dX8_fit_2 : decode cX8_fit 2 = .ok (.iload_n 2, 1) := by decide +kernel
theorem dX8_fit_3 : decode cX8_fit 3 = .ok (.iload_n 3, 1) := by decide +kernel
theorem dX8_fit_4 : decode cX8_fit 4 = .ok (.sipush 999, 3) := by decide +kernel
theorem dX8_fit_7 : decode cX8_fit 7 = .ok (.iload 4, 2) := by decide +kernel
theorem dX8_fit_9 : decode cX8_fit 9 = .ok (.ifCond .lt 7, 3) := by decide +kernel
theorem dX8_fit_12 : decode cX8_fit 12 = .ok (.iconst 1, 1) := by decide +kernel
theorem dX8_fit_13 : decode cX8_fit 13 = .ok (.goto 4, 3) := by decide +kernel
theorem dX8_fit_16 : decode cX8_fit 16 = .ok (.iconst 0, 1) := by decide +kernel
theorem dX8_fit_17 : decode cX8_fit 17 = .ok (.invokevirtual 204, 3) := by decide +kernel
theorem dX8_fit_20 : decode cX8_fit 20 = .ok (.ifCond .ne 5, 3) := by decide +kernel
theorem dX8_fit_23 : decode cX8_fit 23 = .ok (.iconst 0, 1) := by decide +kernel
theorem dX8_fit_24 : decode cX8_fit 24 = .ok (.ireturn, 1) := by decide +kernel
theorem dX8_fit_25 : decode cX8_fit 25 = .ok (.iconst 0, 1) := by decide +kernel
theorem dX8_fit_26 : decode cX8_fit 26 = .ok (.istore 5, 2) := by decide +kernel
theorem dX8_fit_28 : decode cX8_fit 28 = .ok (.iconst 0, 1) := by decide +kernel
theorem dX8_fit_29 : decode cX8_fit 29 = .ok (.istore 6, 2) := by decide +kernel
theorem dX8_fit_31 : decode cX8_fit 31 = .ok (.iload 6, 2) := by decide +kernel
theorem dX8_fit_33 : decode cX8_fit 33 = .ok (.iload_n 3, 1) := by decide +kernel
theorem dX8_fit_34 : decode cX8_fit 34 = .ok (.if_icmp .gt 33, 3) := by decide +kernel
theorem dX8_fit_37 : decode cX8_fit 37 = .ok (.aload_n 0, 1) := by decide +kernel
theorem dX8_fit_38 : decode cX8_fit 38 = .ok (.iload_n 1, 1) := by decide +kernel
theorem dX8_fit_39 : decode cX8_fit 39 = .ok (.iload_n 2, 1) := by decide +kernel
theorem dX8_fit_40 : decode cX8_fit 40 = .ok (.iload 6, 2) := by decide +kernel
theorem dX8_fit_42 : decode cX8_fit 42 = .ok (.invokevirtual 208, 3) := by decide +kernel
theorem dX8_fit_45 : decode cX8_fit 45 = .ok (.ifCond .eq 16, 3) := by decide +kernel
theorem dX8_fit_48 : decode cX8_fit 48 = .ok (.iload 5, 2) := by decide +kernel
theorem dX8_fit_50 : decode cX8_fit 50 = .ok (.iload 4, 2) := by decide +kernel
theorem dX8_fit_52 : decode cX8_fit 52 = .ok (.if_icmp .ne 6, 3) := by decide +kernel
theorem dX8_fit_55 : decode cX8_fit 55 = .ok (.iload 6, 2) := by decide +kernel
theorem dX8_fit_57 : decode cX8_fit 57 = .ok (.ireturn, 1) := by decide +kernel
theorem dX8_fit_58 : decode cX8_fit 58 = .ok (.iinc 5 1, 3) := by decide +kernel
theorem dX8_fit_61 : decode cX8_fit 61 = .ok (.iinc 6 1, 3) := by decide +kernel
theorem dX8_fit_64 : decode cX8_fit 64 = .ok (.goto (-33), 3) := by decide +kernel
theorem dX8_fit_67 : decode cX8_fit 67 = .ok (.iconst (-1), 1) := by decide +kernel
theorem dX8_fit_68 : decode cX8_fit 68 = .ok (.ireturn, 1) := by decide +kernel
theorem dX8_keepsRow_0 : decode cX8_keepsRow 0 = .ok (.aload_n 0, 1) := by decide +kernel
theorem dX8_keepsRow_1 : decode cX8_keepsRow 1 = .ok (.getfield 91, 3) := by decide +kernel
theorem dX8_keepsRow_4 : decode cX8_keepsRow 4 = .ok (.iload_n 1, 1) := by decide +kernel
theorem dX8_keepsRow_5 : decode cX8_keepsRow 5 = .ok (.aload_n 0, 1) := by decide +kernel
theorem dX8_keepsRow_6 : decode cX8_keepsRow 6 = .ok (.getfield 158, 3) := by decide +kernel
theorem dX8_keepsRow_9 : decode cX8_keepsRow 9 = .ok (.iastore, 1) := by decide +kernel
theorem dX8_keepsRow_10 : decode cX8_keepsRow 10 = .ok (.iconst 0, 1) := by decide +kernel
theorem dX8_keepsRow_11 : decode cX8_keepsRow 11 = .ok (.istore_n 2, 1) := by decide +kernel
theorem dX8_keepsRow_12 : decode cX8_keepsRow 12 = .ok (.iload_n 2, 1) := by decide +kernel
theorem dX8_keepsRow_13 : decode cX8_keepsRow 13 = .ok (.aload_n 0, 1) := by decide +kernel
theorem dX8_keepsRow_14 : decode cX8_keepsRow 14 = .ok (.getfield 158, 3) := by decide +kernel
theorem dX8_keepsRow_17 : decode cX8_keepsRow 17 = .ok (.if_icmp .ge 26, 3) := by decide +kernel
theorem dX8_keepsRow_20 : decode cX8_keepsRow 20 = .ok (.aload_n 0, 1) := by decide +kernel
theorem dX8_keepsRow_21 : decode cX8_keepsRow 21 = .ok (.getfield 94, 3) := by decide +kernel
theorem dX8_keepsRow_24 : decode cX8_keepsRow 24 = .ok (.bipush 20, 2) := by decide +kernel
theorem dX8_keepsRow_26 : decode cX8_keepsRow 26 = .ok (.iload_n 1, 1) := by decide +kernel
theorem dX8_keepsRow_27 : decode cX8_keepsRow 27 = .ok (.imul, 1) := by decide +kernel
theorem dX8_keepsRow_28 : decode cX8_keepsRow 28 = .ok (.iload_n 2, 1) := by decide +kernel
theorem dX8_keepsRow_29 : decode cX8_keepsRow 29 = .ok (.iadd, 1) := by decide +kernel
theorem dX8_keepsRow_30 : decode cX8_keepsRow 30 = .ok (.aload_n 0, 1) := by decide +kernel
theorem dX8_keepsRow_31 : decode cX8_keepsRow 31 = .ok (.getfield 70, 3) := by decide +kernel
theorem dX8_keepsRow_34 : decode cX8_keepsRow 34 = .ok (.iload_n 2, 1) := by decide +kernel
theorem dX8_keepsRow_35 : decode cX8_keepsRow 35 = .ok (.iaload, 1) := by decide +kernel
theorem dX8_keepsRow_36 : decode cX8_keepsRow 36 = .ok (.iastore, 1) := by decide +kernel
theorem dX8_keepsRow_37 : decode cX8_keepsRow 37 = .ok (.iinc 2 1, 3) := by decide +kernel
theorem dX8_keepsRow_40 : decode cX8_keepsRow 40 = .ok (.goto (-28), 3) := by decide +kernel
theorem dX8_keepsRow_43 : decode cX8_keepsRow 43 = .ok (.return_, 1) := by decide +kernel
theorem dX8_greatestAt_0 : decode cX8_greatestAt 0 = .ok (.iconst 0, 1) := by decide +kernel
theorem dX8_greatestAt_1 : decode cX8_greatestAt 1 = .ok (.istore_n 3, 1) := by decide +kernel
theorem dX8_greatestAt_2 : decode cX8_greatestAt 2 = .ok (.iload_n 3, 1) := by decide +kernel
theorem dX8_greatestAt_3 : decode cX8_greatestAt 3 = .ok (.sipush 200, 3) := by decide +kernel
theorem dX8_greatestAt_6 : decode cX8_greatestAt 6 = .ok (.if_icmp .ge 16, 3) := by decide +kernel
theorem dX8_greatestAt_9 : decode cX8_greatestAt 9 = .ok (.aload_n 0, 1) := by decide +kernel
theorem dX8_greatestAt_10 : decode cX8_greatestAt 10 = .ok (.getfield 103, 3) := by decide +kernel
theorem dX8_greatestAt_13 : decode cX8_greatestAt 13 = .ok (.iload_n 3, 1) := by decide +kernel
theorem dX8_greatestAt_14 : decode cX8_greatestAt 14 = .ok (.iconst 0, 1) := by decide +kernel
theorem dX8_greatestAt_15 : decode cX8_greatestAt 15 = .ok (.iastore, 1) := by decide +kernel
theorem dX8_greatestAt_16 : decode cX8_greatestAt 16 = .ok (.iinc 3 1, 3) := by decide +kernel
theorem dX8_greatestAt_19 : decode cX8_greatestAt 19 = .ok (.goto (-17), 3) := by decide +kernel
theorem dX8_greatestAt_22 : decode cX8_greatestAt 22 = .ok (.iconst 0, 1) := by decide +kernel
theorem dX8_greatestAt_23 : decode cX8_greatestAt 23 = .ok (.istore_n 3, 1) := by decide +kernel
theorem dX8_greatestAt_24 : decode cX8_greatestAt 24 = .ok (.iconst 0, 1) := by decide +kernel
theorem dX8_greatestAt_25 : decode cX8_greatestAt 25 = .ok (.istore 4, 2) := by decide +kernel
theorem dX8_greatestAt_27 : decode cX8_greatestAt 27 = .ok (.iload 4, 2) := by decide +kernel
theorem dX8_greatestAt_29 : decode cX8_greatestAt 29 = .ok (.iload_n 1, 1) := by decide +kernel
theorem dX8_greatestAt_30 : decode cX8_greatestAt 30 = .ok (.if_icmp .ge 57, 3) := by decide +kernel
theorem dX8_greatestAt_33 : decode cX8_greatestAt 33 = .ok (.aload_n 0, 1) := by decide +kernel
theorem dX8_greatestAt_34 : decode cX8_greatestAt 34 = .ok (.getfield 94, 3) := by decide +kernel
theorem dX8_greatestAt_37 : decode cX8_greatestAt 37 = .ok (.bipush 20, 2) := by decide +kernel
theorem dX8_greatestAt_39 : decode cX8_greatestAt 39 = .ok (.iload 4, 2) := by decide +kernel
theorem dX8_greatestAt_41 : decode cX8_greatestAt 41 = .ok (.imul, 1) := by decide +kernel
theorem dX8_greatestAt_42 : decode cX8_greatestAt 42 = .ok (.iload_n 2, 1) := by decide +kernel
theorem dX8_greatestAt_43 : decode cX8_greatestAt 43 = .ok (.iadd, 1) := by decide +kernel
theorem dX8_greatestAt_44 : decode cX8_greatestAt 44 = .ok (.iaload, 1) := by decide +kernel
theorem dX8_greatestAt_45 : decode cX8_greatestAt 45 = .ok (.istore 5, 2) := by decide +kernel
theorem dX8_greatestAt_47 : decode cX8_greatestAt 47 = .ok (.aload_n 0, 1) := by decide +kernel
theorem dX8_greatestAt_48 : decode cX8_greatestAt 48 = .ok (.getfield 103, 3) := by decide +kernel
theorem dX8_greatestAt_51 : decode cX8_greatestAt 51 = .ok (.iload 5, 2) := by decide +kernel
theorem dX8_greatestAt_53 : decode cX8_greatestAt 53 = .ok (.dup2, 1) := by decide +kernel
theorem dX8_greatestAt_54 : decode cX8_greatestAt 54 = .ok (.iaload, 1) := by decide +kernel
theorem dX8_greatestAt_55 : decode cX8_greatestAt 55 = .ok (.iconst 1, 1) := by decide +kernel
theorem dX8_greatestAt_56 : decode cX8_greatestAt 56 = .ok (.iadd, 1) := by decide +kernel
theorem dX8_greatestAt_57 : decode cX8_greatestAt 57 = .ok (.iastore, 1) := by decide +kernel
theorem dX8_greatestAt_58 : decode cX8_greatestAt 58 = .ok (.aload_n 0, 1) := by decide +kernel
theorem dX8_greatestAt_59 : decode cX8_greatestAt 59 = .ok (.getfield 103, 3) := by decide +kernel
theorem dX8_greatestAt_62 : decode cX8_greatestAt 62 = .ok (.iload 5, 2) := by decide +kernel
theorem dX8_greatestAt_64 : decode cX8_greatestAt 64 = .ok (.iaload, 1) := by decide +kernel
theorem dX8_greatestAt_65 : decode cX8_greatestAt 65 = .ok (.iload_n 3, 1) := by decide +kernel
theorem dX8_greatestAt_66 : decode cX8_greatestAt 66 = .ok (.if_icmp .le 13, 3) := by decide +kernel
theorem dX8_greatestAt_69 : decode cX8_greatestAt 69 = .ok (.aload_n 0, 1) := by decide +kernel
theorem dX8_greatestAt_70 : decode cX8_greatestAt 70 = .ok (.getfield 103, 3) := by decide +kernel
theorem dX8_greatestAt_73 : decode cX8_greatestAt 73 = .ok (.iload 5, 2) := by decide +kernel
theorem dX8_greatestAt_75 : decode cX8_greatestAt 75 = .ok (.iaload, 1) := by decide +kernel
theorem dX8_greatestAt_76 : decode cX8_greatestAt 76 = .ok (.goto 4, 3) := by decide +kernel
theorem dX8_greatestAt_79 : decode cX8_greatestAt 79 = .ok (.iload_n 3, 1) := by decide +kernel
theorem dX8_greatestAt_80 : decode cX8_greatestAt 80 = .ok (.istore_n 3, 1) := by decide +kernel
theorem dX8_greatestAt_81 : decode cX8_greatestAt 81 = .ok (.iinc 4 1, 3) := by decide +kernel
theorem dX8_greatestAt_84 : decode cX8_greatestAt 84 = .ok (.goto (-57), 3) := by decide +kernel
theorem dX8_greatestAt_87 : decode cX8_greatestAt 87 = .ok (.iload_n 3, 1) := by decide +kernel
theorem dX8_greatestAt_88 : decode cX8_greatestAt 88 = .ok (.ireturn, 1) := by decide +kernel
theorem dX8_askWord_0 : decode cX8_askWord 0 = .ok (.aload_n 0, 1) := by decide +kernel
theorem dX8_askWord_1 : decode cX8_askWord 1 = .ok (.iload_n 1, 1) := by decide +kernel
theorem dX8_askWord_2 : decode cX8_askWord 2 = .ok (.iload_n 2, 1) := by decide +kernel
theorem dX8_askWord_3 : decode cX8_askWord 3 = .ok (.iload_n 3, 1) := by decide +kernel
theorem dX8_askWord_4 : decode cX8_askWord 4 = .ok (.sipush 999, 3) := by decide +kernel
theorem dX8_askWord_7 : decode cX8_askWord 7 = .ok (.iconst 1, 1) := by decide +kernel
theorem dX8_askWord_8 : decode cX8_askWord 8 = .ok (.invokevirtual 204, 3) := by decide +kernel
theorem dX8_askWord_11 : decode cX8_askWord 11 = .ok (.ifCond .ne 5, 3) := by decide +kernel
theorem dX8_askWord_14 : decode cX8_askWord 14 = .ok (.iconst 0, 1) := by decide +kernel
theorem dX8_askWord_15 : decode cX8_askWord 15 = .ok (.ireturn, 1) := by decide +kernel
theorem dX8_askWord_16 : decode cX8_askWord 16 = .ok (.iconst 0, 1) := by decide +kernel
theorem dX8_askWord_17 : decode cX8_askWord 17 = .ok (.istore 4, 2) := by decide +kernel
theorem dX8_askWord_19 : decode cX8_askWord 19 = .ok (.iconst 0, 1) := by decide +kernel
theorem dX8_askWord_20 : decode cX8_askWord 20 = .ok (.istore 5, 2) := by decide +kernel
theorem dX8_askWord_22 : decode cX8_askWord 22 = .ok (.iload 5, 2) := by decide +kernel
theorem dX8_askWord_24 : decode cX8_askWord 24 = .ok (.iload_n 3, 1) := by decide +kernel
theorem dX8_askWord_25 : decode cX8_askWord 25 = .ok (.if_icmp .gt 29, 3) := by decide +kernel
theorem dX8_askWord_28 : decode cX8_askWord 28 = .ok (.aload_n 0, 1) := by decide +kernel
theorem dX8_askWord_29 : decode cX8_askWord 29 = .ok (.iload_n 1, 1) := by decide +kernel
theorem dX8_askWord_30 : decode cX8_askWord 30 = .ok (.iload_n 2, 1) := by decide +kernel
theorem dX8_askWord_31 : decode cX8_askWord 31 = .ok (.iload 5, 2) := by decide +kernel
theorem dX8_askWord_33 : decode cX8_askWord 33 = .ok (.invokevirtual 208, 3) := by decide +kernel
theorem dX8_askWord_36 : decode cX8_askWord 36 = .ok (.ifCond .eq 12, 3) := by decide +kernel
theorem dX8_askWord_39 : decode cX8_askWord 39 = .ok (.aload_n 0, 1) := by decide +kernel
theorem dX8_askWord_40 : decode cX8_askWord 40 = .ok (.iload 4, 2) := by decide +kernel
theorem dX8_askWord_42 : decode cX8_askWord 42 = .ok (.invokevirtual 211, 3) := by decide +kernel
theorem dX8_askWord_45 : decode cX8_askWord 45 = .ok (.iinc 4 1, 3) := by decide +kernel
theorem dX8_askWord_48 : decode cX8_askWord 48 = .ok (.iinc 5 1, 3) := by decide +kernel
theorem dX8_askWord_51 : decode cX8_askWord 51 = .ok (.goto (-29), 3) := by decide +kernel
theorem dX8_askWord_54 : decode cX8_askWord 54 = .ok (.iconst (-1), 1) := by decide +kernel
theorem dX8_askWord_55 : decode cX8_askWord 55 = .ok (.istore 5, 2) := by decide +kernel
theorem dX8_askWord_57 : decode cX8_askWord 57 = .ok (.iconst 0, 1) := by decide +kernel
theorem dX8_askWord_58 : decode cX8_askWord 58 = .ok (.istore 6, 2) := by decide +kernel
theorem dX8_askWord_60 : decode cX8_askWord 60 = .ok (.iconst 0, 1) := by decide +kernel
theorem dX8_askWord_61 : decode cX8_askWord 61 = .ok (.istore 7, 2) := by decide +kernel
theorem dX8_askWord_63 : decode cX8_askWord 63 = .ok (.iload 7, 2) := by decide +kernel
theorem dX8_askWord_65 : decode cX8_askWord 65 = .ok (.aload_n 0, 1) := by decide +kernel
theorem dX8_askWord_66 : decode cX8_askWord 66 = .ok (.getfield 197, 3) := by decide +kernel
theorem dX8_askWord_69 : decode cX8_askWord 69 = .ok (.if_icmp .ge 66, 3) := by decide +kernel
theorem dX8_askWord_72 : decode cX8_askWord 72 = .ok (.iload 4, 2) := by decide +kernel
theorem dX8_askWord_74 : decode cX8_askWord 74 = .ok (.iconst 1, 1) := by decide +kernel
theorem dX8_askWord_75 : decode cX8_askWord 75 = .ok (.if_icmp .le 60, 3) := by decide +kernel
theorem dX8_askWord_78 : decode cX8_askWord 78 = .ok (.aload_n 0, 1) := by decide +kernel
theorem dX8_askWord_79 : decode cX8_askWord 79 = .ok (.getfield 79, 3) := by decide +kernel
theorem dX8_askWord_82 : decode cX8_askWord 82 = .ok (.iload 7, 2) := by decide +kernel
theorem dX8_askWord_84 : decode cX8_askWord 84 = .ok (.iaload, 1) := by decide +kernel
theorem dX8_askWord_85 : decode cX8_askWord 85 = .ok (.iconst (-1), 1) := by decide +kernel
theorem dX8_askWord_86 : decode cX8_askWord 86 = .ok (.if_icmp .ne 14, 3) := by decide +kernel
theorem dX8_askWord_89 : decode cX8_askWord 89 = .ok (.aload_n 0, 1) := by decide +kernel
theorem dX8_askWord_90 : decode cX8_askWord 90 = .ok (.iload 4, 2) := by decide +kernel
theorem dX8_askWord_92 : decode cX8_askWord 92 = .ok (.iload 7, 2) := by decide +kernel
theorem dX8_askWord_94 : decode cX8_askWord 94 = .ok (.invokevirtual 214, 3) := by decide +kernel
theorem dX8_askWord_97 : decode cX8_askWord 97 = .ok (.goto 4, 3) := by decide +kernel
theorem dX8_askWord_100 : decode cX8_askWord 100 = .ok (.iconst 0, 1) := by decide +kernel
theorem dX8_askWord_101 : decode cX8_askWord 101 = .ok (.istore 8, 2) := by decide +kernel
theorem dX8_askWord_103 : decode cX8_askWord 103 = .ok (.iload 8, 2) := by decide +kernel
theorem dX8_askWord_105 : decode cX8_askWord 105 = .ok (.ifCond .le 24, 3) := by decide +kernel
theorem dX8_askWord_108 : decode cX8_askWord 108 = .ok (.iload 5, 2) := by decide +kernel
theorem dX8_askWord_110 : decode cX8_askWord 110 = .ok (.iconst (-1), 1) := by decide +kernel
theorem dX8_askWord_111 : decode cX8_askWord 111 = .ok (.if_icmp .eq 10, 3) := by decide +kernel
theorem dX8_askWord_114 : decode cX8_askWord 114 = .ok (.iload 8, 2) := by decide +kernel
theorem dX8_askWord_116 : decode cX8_askWord 116 = .ok (.iload 6, 2) := by decide +kernel
theorem dX8_askWord_118 : decode cX8_askWord 118 = .ok (.if_icmp .ge 11, 3) := by decide +kernel
theorem dX8_askWord_121 : decode cX8_askWord 121 = .ok (.iload 7, 2) := by decide +kernel
theorem dX8_askWord_123 : decode cX8_askWord 123 = .ok (.istore 5, 2) := by decide +kernel
theorem dX8_askWord_125 : decode cX8_askWord 125 = .ok (.iload 8, 2) := by decide +kernel
theorem dX8_askWord_127 : decode cX8_askWord 127 = .ok (.istore 6, 2) := by decide +kernel
theorem dX8_askWord_129 : decode cX8_askWord 129 = .ok (.iinc 7 1, 3) := by decide +kernel
theorem dX8_askWord_132 : decode cX8_askWord 132 = .ok (.goto (-69), 3) := by decide +kernel
theorem dX8_askWord_135 : decode cX8_askWord 135 = .ok (.iload 5, 2) := by decide +kernel
theorem dX8_askWord_137 : decode cX8_askWord 137 = .ok (.ireturn, 1) := by decide +kernel
theorem dX8_gap_0 : decode cX8_gap 0 = .ok (.aload_n 0, 1) := by decide +kernel
theorem dX8_gap_1 : decode cX8_gap 1 = .ok (.iload_n 1, 1) := by decide +kernel
theorem dX8_gap_2 : decode cX8_gap 2 = .ok (.iconst 0, 1) := by decide +kernel
theorem dX8_gap_3 : decode cX8_gap 3 = .ok (.iload_n 2, 1) := by decide +kernel
theorem dX8_gap_4 : decode cX8_gap 4 = .ok (.sipush 999, 3) := by decide +kernel
theorem dX8_gap_7 : decode cX8_gap 7 = .ok (.iconst 1, 1) := by decide +kernel
theorem dX8_gap_8 : decode cX8_gap 8 = .ok (.invokevirtual 204, 3) := by decide +kernel
theorem dX8_gap_11 : decode cX8_gap 11 = .ok (.ifCond .ne 5, 3) := by decide +kernel
theorem dX8_gap_14 : decode cX8_gap 14 = .ok (.iconst 0, 1) := by decide +kernel
theorem dX8_gap_15 : decode cX8_gap 15 = .ok (.ireturn, 1) := by decide +kernel
theorem dX8_gap_16 : decode cX8_gap 16 = .ok (.iconst 0, 1) := by decide +kernel
theorem dX8_gap_17 : decode cX8_gap 17 = .ok (.istore_n 3, 1) := by decide +kernel
theorem dX8_gap_18 : decode cX8_gap 18 = .ok (.iload_n 3, 1) := by decide +kernel
theorem dX8_gap_19 : decode cX8_gap 19 = .ok (.iload_n 2, 1) := by decide +kernel
theorem dX8_gap_20 : decode cX8_gap 20 = .ok (.if_icmp .gt 21, 3) := by decide +kernel
theorem dX8_gap_23 : decode cX8_gap 23 = .ok (.aload_n 0, 1) := by decide +kernel
theorem dX8_gap_24 : decode cX8_gap 24 = .ok (.iload_n 1, 1) := by decide +kernel
theorem dX8_gap_25 : decode cX8_gap 25 = .ok (.iload_n 3, 1) := by decide +kernel
theorem dX8_gap_26 : decode cX8_gap 26 = .ok (.iconst 0, 1) := by decide +kernel
theorem dX8_gap_27 : decode cX8_gap 27 = .ok (.invokevirtual 187, 3) := by decide +kernel
theorem dX8_gap_30 : decode cX8_gap 30 = .ok (.ifCond .ne 5, 3) := by decide +kernel
theorem dX8_gap_33 : decode cX8_gap 33 = .ok (.iload_n 3, 1) := by decide +kernel
theorem dX8_gap_34 : decode cX8_gap 34 = .ok (.ireturn, 1) := by decide +kernel
theorem dX8_gap_35 : decode cX8_gap 35 = .ok (.iinc 3 1, 3) := by decide +kernel
theorem dX8_gap_38 : decode cX8_gap 38 = .ok (.goto (-20), 3) := by decide +kernel
theorem dX8_gap_41 : decode cX8_gap 41 = .ok (.iconst (-1), 1) := by decide +kernel
theorem dX8_gap_42 : decode cX8_gap 42 = .ok (.ireturn, 1) := by decide +kernel
theorem dX8_areAlike_0 : decode cX8_areAlike 0 = .ok (.aload_n 0, 1) := by decide +kernel
theorem dX8_areAlike_1 : decode cX8_areAlike 1 = .ok (.getfield 91, 3) := by decide +kernel
theorem dX8_areAlike_4 : decode cX8_areAlike 4 = .ok (.iload_n 1, 1) := by decide +kernel
theorem dX8_areAlike_5 : decode cX8_areAlike 5 = .ok (.iaload, 1) := by decide +kernel
theorem dX8_areAlike_6 : decode cX8_areAlike 6 = .ok (.aload_n 0, 1) := by decide +kernel
theorem dX8_areAlike_7 : decode cX8_areAlike 7 = .ok (.getfield 91, 3) := by decide +kernel
theorem dX8_areAlike_10 : decode cX8_areAlike 10 = .ok (.iload_n 2, 1) := by decide +kernel
theorem dX8_areAlike_11 : decode cX8_areAlike 11 = .ok (.iaload, 1) := by decide +kernel
theorem dX8_areAlike_12 : decode cX8_areAlike 12 = .ok (.if_icmp .ne 7, 3) := by decide +kernel
theorem dX8_areAlike_15 : decode cX8_areAlike 15 = .ok (.iconst 1, 1) := by decide +kernel
theorem dX8_areAlike_16 : decode cX8_areAlike 16 = .ok (.goto 4, 3) := by decide +kernel
theorem dX8_areAlike_19 : decode cX8_areAlike 19 = .ok (.iconst 0, 1) := by decide +kernel
theorem dX8_areAlike_20 : decode cX8_areAlike 20 = .ok (.istore_n 3, 1) := by decide +kernel
theorem dX8_areAlike_21 : decode cX8_areAlike 21 = .ok (.iconst 0, 1) := by decide +kernel
theorem dX8_areAlike_22 : decode cX8_areAlike 22 = .ok (.istore 4, 2) := by decide +kernel
theorem dX8_areAlike_24 : decode cX8_areAlike 24 = .ok (.iload 4, 2) := by decide +kernel
theorem dX8_areAlike_26 : decode cX8_areAlike 26 = .ok (.aload_n 0, 1) := by decide +kernel
theorem dX8_areAlike_27 : decode cX8_areAlike 27 = .ok (.getfield 91, 3) := by decide +kernel
theorem dX8_areAlike_30 : decode cX8_areAlike 30 = .ok (.iload_n 1, 1) := by decide +kernel
theorem dX8_areAlike_31 : decode cX8_areAlike 31 = .ok (.iaload, 1) := by decide +kernel
theorem dX8_areAlike_32 : decode cX8_areAlike 32 = .ok (.if_icmp .ge 46, 3) := by decide +kernel
theorem dX8_areAlike_35 : decode cX8_areAlike 35 = .ok (.iload_n 3, 1) := by decide +kernel
theorem dX8_areAlike_36 : decode cX8_areAlike 36 = .ok (.ifCond .eq 42, 3) := by decide +kernel
theorem dX8_areAlike_39 : decode cX8_areAlike 39 = .ok (.aload_n 0, 1) := by decide +kernel
theorem dX8_areAlike_40 : decode cX8_areAlike 40 = .ok (.getfield 94, 3) := by decide +kernel
theorem dX8_areAlike_43 : decode cX8_areAlike 43 = .ok (.bipush 20, 2) := by decide +kernel
theorem dX8_areAlike_45 : decode cX8_areAlike 45 = .ok (.iload_n 1, 1) := by decide +kernel
theorem dX8_areAlike_46 : decode cX8_areAlike 46 = .ok (.imul, 1) := by decide +kernel
theorem dX8_areAlike_47 : decode cX8_areAlike 47 = .ok (.iload 4, 2) := by decide +kernel
theorem dX8_areAlike_49 : decode cX8_areAlike 49 = .ok (.iadd, 1) := by decide +kernel
theorem dX8_areAlike_50 : decode cX8_areAlike 50 = .ok (.iaload, 1) := by decide +kernel
theorem dX8_areAlike_51 : decode cX8_areAlike 51 = .ok (.aload_n 0, 1) := by decide +kernel
theorem dX8_areAlike_52 : decode cX8_areAlike 52 = .ok (.getfield 94, 3) := by decide +kernel
theorem dX8_areAlike_55 : decode cX8_areAlike 55 = .ok (.bipush 20, 2) := by decide +kernel
theorem dX8_areAlike_57 : decode cX8_areAlike 57 = .ok (.iload_n 2, 1) := by decide +kernel
theorem dX8_areAlike_58 : decode cX8_areAlike 58 = .ok (.imul, 1) := by decide +kernel
theorem dX8_areAlike_59 : decode cX8_areAlike 59 = .ok (.iload 4, 2) := by decide +kernel
theorem dX8_areAlike_61 : decode cX8_areAlike 61 = .ok (.iadd, 1) := by decide +kernel
theorem dX8_areAlike_62 : decode cX8_areAlike 62 = .ok (.iaload, 1) := by decide +kernel
theorem dX8_areAlike_63 : decode cX8_areAlike 63 = .ok (.if_icmp .ne 7, 3) := by decide +kernel
theorem dX8_areAlike_66 : decode cX8_areAlike 66 = .ok (.iconst 1, 1) := by decide +kernel
theorem dX8_areAlike_67 : decode cX8_areAlike 67 = .ok (.goto 4, 3) := by decide +kernel
theorem dX8_areAlike_70 : decode cX8_areAlike 70 = .ok (.iconst 0, 1) := by decide +kernel
theorem dX8_areAlike_71 : decode cX8_areAlike 71 = .ok (.istore_n 3, 1) := by decide +kernel
theorem dX8_areAlike_72 : decode cX8_areAlike 72 = .ok (.iinc 4 1, 3) := by decide +kernel
theorem dX8_areAlike_75 : decode cX8_areAlike 75 = .ok (.goto (-51), 3) := by decide +kernel
theorem dX8_areAlike_78 : decode cX8_areAlike 78 = .ok (.iload_n 3, 1) := by decide +kernel
theorem dX8_areAlike_79 : decode cX8_areAlike 79 = .ok (.ireturn, 1) := by decide +kernel
theorem dX8_clash_0 : decode cX8_clash 0 = .ok (.aload_n 0, 1) := by decide +kernel
theorem dX8_clash_1 : decode cX8_clash 1 = .ok (.iload_n 1, 1) := by decide +kernel
theorem dX8_clash_2 : decode cX8_clash 2 = .ok (.iload_n 2, 1) := by decide +kernel
theorem dX8_clash_3 : decode cX8_clash 3 = .ok (.iload_n 3, 1) := by decide +kernel
theorem dX8_clash_4 : decode cX8_clash 4 = .ok (.sipush 999, 3) := by decide +kernel
theorem dX8_clash_7 : decode cX8_clash 7 = .ok (.iconst 1, 1) := by decide +kernel
theorem dX8_clash_8 : decode cX8_clash 8 = .ok (.invokevirtual 204, 3) := by decide +kernel
theorem dX8_clash_11 : decode cX8_clash 11 = .ok (.ifCond .ne 5, 3) := by decide +kernel
theorem dX8_clash_14 : decode cX8_clash 14 = .ok (.iconst 0, 1) := by decide +kernel
theorem dX8_clash_15 : decode cX8_clash 15 = .ok (.ireturn, 1) := by decide +kernel
theorem dX8_clash_16 : decode cX8_clash 16 = .ok (.iconst 0, 1) := by decide +kernel
theorem dX8_clash_17 : decode cX8_clash 17 = .ok (.istore 4, 2) := by decide +kernel
theorem dX8_clash_19 : decode cX8_clash 19 = .ok (.iload 4, 2) := by decide +kernel
theorem dX8_clash_21 : decode cX8_clash 21 = .ok (.iload_n 3, 1) := by decide +kernel
theorem dX8_clash_22 : decode cX8_clash 22 = .ok (.if_icmp .gt 60, 3) := by decide +kernel
theorem dX8_clash_25 : decode cX8_clash 25 = .ok (.aload_n 0, 1) := by decide +kernel
theorem dX8_clash_26 : decode cX8_clash 26 = .ok (.iload_n 1, 1) := by decide +kernel
theorem dX8_clash_27 : decode cX8_clash 27 = .ok (.iload 4, 2) := by decide +kernel
theorem dX8_clash_29 : decode cX8_clash 29 = .ok (.iload_n 2, 1) := by decide +kernel
theorem dX8_clash_30 : decode cX8_clash 30 = .ok (.invokevirtual 187, 3) := by decide +kernel
theorem dX8_clash_33 : decode cX8_clash 33 = .ok (.istore 5, 2) := by decide +kernel
theorem dX8_clash_35 : decode cX8_clash 35 = .ok (.aload_n 0, 1) := by decide +kernel
theorem dX8_clash_36 : decode cX8_clash 36 = .ok (.iload 4, 2) := by decide +kernel
theorem dX8_clash_38 : decode cX8_clash 38 = .ok (.invokevirtual 211, 3) := by decide +kernel
theorem dX8_clash_41 : decode cX8_clash 41 = .ok (.iconst 0, 1) := by decide +kernel
theorem dX8_clash_42 : decode cX8_clash 42 = .ok (.istore 6, 2) := by decide +kernel
theorem dX8_clash_44 : decode cX8_clash 44 = .ok (.iload 6, 2) := by decide +kernel
theorem dX8_clash_46 : decode cX8_clash 46 = .ok (.iload 4, 2) := by decide +kernel
theorem dX8_clash_48 : decode cX8_clash 48 = .ok (.if_icmp .ge 28, 3) := by decide +kernel
theorem dX8_clash_51 : decode cX8_clash 51 = .ok (.iload 5, 2) := by decide +kernel
theorem dX8_clash_53 : decode cX8_clash 53 = .ok (.ifCond .le 23, 3) := by decide +kernel
theorem dX8_clash_56 : decode cX8_clash 56 = .ok (.aload_n 0, 1) := by decide +kernel
theorem dX8_clash_57 : decode cX8_clash 57 = .ok (.iload 6, 2) := by decide +kernel
theorem dX8_clash_59 : decode cX8_clash 59 = .ok (.iload 4, 2) := by decide +kernel
theorem dX8_clash_61 : decode cX8_clash 61 = .ok (.invokevirtual 217, 3) := by decide +kernel
theorem dX8_clash_64 : decode cX8_clash 64 = .ok (.ifCond .eq 6, 3) := by decide +kernel
theorem dX8_clash_67 : decode cX8_clash 67 = .ok (.iload 4, 2) := by decide +kernel
theorem dX8_clash_69 : decode cX8_clash 69 = .ok (.ireturn, 1) := by decide +kernel
theorem dX8_clash_70 : decode cX8_clash 70 = .ok (.iinc 6 1, 3) := by decide +kernel
theorem dX8_clash_73 : decode cX8_clash 73 = .ok (.goto (-29), 3) := by decide +kernel
theorem dX8_clash_76 : decode cX8_clash 76 = .ok (.iinc 4 1, 3) := by decide +kernel
theorem dX8_clash_79 : decode cX8_clash 79 = .ok (.goto (-60), 3) := by decide +kernel
theorem dX8_clash_82 : decode cX8_clash 82 = .ok (.iconst (-1), 1) := by decide +kernel
theorem dX8_clash_83 : decode cX8_clash 83 = .ok (.ireturn, 1) := by decide +kernel
theorem dX8_example_0 : decode cX8_example 0 = .ok (.aload_n 0, 1) := by decide +kernel
theorem dX8_example_1 : decode cX8_example 1 = .ok (.getfield 197, 3) := by decide +kernel
theorem dX8_example_4 : decode cX8_example 4 = .ok (.ifCond .le 7, 3) := by decide +kernel
theorem dX8_example_7 : decode cX8_example 7 = .ok (.iconst 1, 1) := by decide +kernel
theorem dX8_example_8 : decode cX8_example 8 = .ok (.goto 4, 3) := by decide +kernel
theorem dX8_example_11 : decode cX8_example 11 = .ok (.iconst 0, 1) := by decide +kernel
theorem dX8_example_12 : decode cX8_example 12 = .ok (.istore_n 2, 1) := by decide +kernel
theorem dX8_example_13 : decode cX8_example 13 = .ok (.iconst 0, 1) := by decide +kernel
theorem dX8_example_14 : decode cX8_example 14 = .ok (.istore_n 3, 1) := by decide +kernel
theorem dX8_example_15 : decode cX8_example 15 = .ok (.iload_n 3, 1) := by decide +kernel
theorem dX8_example_16 : decode cX8_example 16 = .ok (.aload_n 0, 1) := by decide +kernel
theorem dX8_example_17 : decode cX8_example 17 = .ok (.getfield 197, 3) := by decide +kernel
theorem dX8_example_20 : decode cX8_example 20 = .ok (.if_icmp .ge 29, 3) := by decide +kernel
theorem dX8_example_23 : decode cX8_example 23 = .ok (.iload_n 2, 1) := by decide +kernel
theorem dX8_example_24 : decode cX8_example 24 = .ok (.ifCond .eq 17, 3) := by decide +kernel
theorem dX8_example_27 : decode cX8_example 27 = .ok (.aload_n 0, 1) := by decide +kernel
theorem dX8_example_28 : decode cX8_example 28 = .ok (.getfield 79, 3) := by decide +kernel
theorem dX8_example_31 : decode cX8_example 31 = .ok (.iload_n 3, 1) := by decide +kernel
theorem dX8_example_32 : decode cX8_example 32 = .ok (.iaload, 1) := by decide +kernel
theorem dX8_example_33 : decode cX8_example 33 = .ok (.iconst (-1), 1) := by decide +kernel
theorem dX8_example_34 : decode cX8_example 34 = .ok (.if_icmp .eq 7, 3) := by decide +kernel
theorem dX8_example_37 : decode cX8_example 37 = .ok (.iconst 1, 1) := by decide +kernel
theorem dX8_example_38 : decode cX8_example 38 = .ok (.goto 4, 3) := by decide +kernel
theorem dX8_example_41 : decode cX8_example 41 = .ok (.iconst 0, 1) := by decide +kernel
theorem dX8_example_42 : decode cX8_example 42 = .ok (.istore_n 2, 1) := by decide +kernel
theorem dX8_example_43 : decode cX8_example 43 = .ok (.iinc 3 1, 3) := by decide +kernel
theorem dX8_example_46 : decode cX8_example 46 = .ok (.goto (-31), 3) := by decide +kernel
theorem dX8_example_49 : decode cX8_example 49 = .ok (.aload_n 0, 1) := by decide +kernel
theorem dX8_example_50 : decode cX8_example 50 = .ok (.iload_n 1, 1) := by decide +kernel
theorem dX8_example_51 : decode cX8_example 51 = .ok (.invokestatic 121, 3) := by decide +kernel
theorem dX8_example_54 : decode cX8_example 54 = .ok (.ifCond .ne 7, 3) := by decide +kernel
theorem dX8_example_57 : decode cX8_example 57 = .ok (.iconst 1, 1) := by decide +kernel
theorem dX8_example_58 : decode cX8_example 58 = .ok (.goto 21, 3) := by decide +kernel
theorem dX8_example_61 : decode cX8_example 61 = .ok (.aload_n 0, 1) := by decide +kernel
theorem dX8_example_62 : decode cX8_example 62 = .ok (.getfield 220, 3) := by decide +kernel
theorem dX8_example_65 : decode cX8_example 65 = .ok (.bipush 20, 2) := by decide +kernel
theorem dX8_example_67 : decode cX8_example 67 = .ok (.if_icmp .eq 7, 3) := by decide +kernel
theorem dX8_example_70 : decode cX8_example 70 = .ok (.iload_n 2, 1) := by decide +kernel
theorem dX8_example_71 : decode cX8_example 71 = .ok (.ifCond .ne 7, 3) := by decide +kernel
theorem dX8_example_74 : decode cX8_example 74 = .ok (.iconst 2, 1) := by decide +kernel
theorem dX8_example_75 : decode cX8_example 75 = .ok (.goto 4, 3) := by decide +kernel
theorem dX8_example_78 : decode cX8_example 78 = .ok (.iconst 0, 1) := by decide +kernel
theorem dX8_example_79 : decode cX8_example 79 = .ok (.invokevirtual 128, 3) := by decide +kernel
theorem dX8_example_82 : decode cX8_example 82 = .ok (.ifCond .ne 5, 3) := by decide +kernel
theorem dX8_example_85 : decode cX8_example 85 = .ok (.iconst 0, 1) := by decide +kernel
theorem dX8_example_86 : decode cX8_example 86 = .ok (.ireturn, 1) := by decide +kernel
theorem dX8_example_87 : decode cX8_example 87 = .ok (.aload_n 0, 1) := by decide +kernel
theorem dX8_example_88 : decode cX8_example 88 = .ok (.getfield 82, 3) := by decide +kernel
theorem dX8_example_91 : decode cX8_example 91 = .ok (.aload_n 0, 1) := by decide +kernel
theorem dX8_example_92 : decode cX8_example 92 = .ok (.getfield 220, 3) := by decide +kernel
theorem dX8_example_95 : decode cX8_example 95 = .ok (.iload_n 1, 1) := by decide +kernel
theorem dX8_example_96 : decode cX8_example 96 = .ok (.iastore, 1) := by decide +kernel
theorem dX8_example_97 : decode cX8_example 97 = .ok (.aload_n 0, 1) := by decide +kernel
theorem dX8_example_98 : decode cX8_example 98 = .ok (.getfield 85, 3) := by decide +kernel
theorem dX8_example_101 : decode cX8_example 101 = .ok (.aload_n 0, 1) := by decide +kernel
theorem dX8_example_102 : decode cX8_example 102 = .ok (.getfield 220, 3) := by decide +kernel
theorem dX8_example_105 : decode cX8_example 105 = .ok (.aload_n 0, 1) := by decide +kernel
theorem dX8_example_106 : decode cX8_example 106 = .ok (.getfield 197, 3) := by decide +kernel
theorem dX8_example_109 : decode cX8_example 109 = .ok (.iastore, 1) := by decide +kernel
theorem dX8_example_110 : decode cX8_example 110 = .ok (.iconst 0, 1) := by decide +kernel
theorem dX8_example_111 : decode cX8_example 111 = .ok (.istore_n 3, 1) := by decide +kernel
theorem dX8_example_112 : decode cX8_example 112 = .ok (.iload_n 3, 1) := by decide +kernel
theorem dX8_example_113 : decode cX8_example 113 = .ok (.aload_n 0, 1) := by decide +kernel
theorem dX8_example_114 : decode cX8_example 114 = .ok (.getfield 197, 3) := by decide +kernel
theorem dX8_example_117 : decode cX8_example 117 = .ok (.if_icmp .ge 29, 3) := by decide +kernel
theorem dX8_example_120 : decode cX8_example 120 = .ok (.aload_n 0, 1) := by decide +kernel
theorem dX8_example_121 : decode cX8_example 121 = .ok (.getfield 88, 3) := by decide +kernel
theorem dX8_example_124 : decode cX8_example 124 = .ok (.bipush 20, 2) := by decide +kernel
theorem dX8_example_126 : decode cX8_example 126 = .ok (.aload_n 0, 1) := by decide +kernel
theorem dX8_example_127 : decode cX8_example 127 = .ok (.getfield 220, 3) := by decide +kernel
theorem dX8_example_130 : decode cX8_example 130 = .ok (.imul, 1) := by decide +kernel
theorem dX8_example_131 : decode cX8_example 131 = .ok (.iload_n 3, 1) := by decide +kernel
theorem dX8_example_132 : decode cX8_example 132 = .ok (.iadd, 1) := by decide +kernel
theorem dX8_example_133 : decode cX8_example 133 = .ok (.aload_n 0, 1) := by decide +kernel
theorem dX8_example_134 : decode cX8_example 134 = .ok (.getfield 79, 3) := by decide +kernel
theorem dX8_example_137 : decode cX8_example 137 = .ok (.iload_n 3, 1) := by decide +kernel
theorem dX8_example_138 : decode cX8_example 138 = .ok (.iaload, 1) := by decide +kernel
theorem dX8_example_139 : decode cX8_example 139 = .ok (.iastore, 1) := by decide +kernel
theorem dX8_example_140 : decode cX8_example 140 = .ok (.iinc 3 1, 3) := by decide +kernel
theorem dX8_example_143 : decode cX8_example 143 = .ok (.goto (-31), 3) := by decide +kernel
theorem dX8_example_146 : decode cX8_example 146 = .ok (.aload_n 0, 1) := by decide +kernel
theorem dX8_example_147 : decode cX8_example 147 = .ok (.dup, 1) := by decide +kernel
theorem dX8_example_148 : decode cX8_example 148 = .ok (.getfield 220, 3) := by decide +kernel
theorem dX8_example_151 : decode cX8_example 151 = .ok (.iconst 1, 1) := by decide +kernel
theorem dX8_example_152 : decode cX8_example 152 = .ok (.iadd, 1) := by decide +kernel
theorem dX8_example_153 : decode cX8_example 153 = .ok (.putfield 220, 3) := by decide +kernel
theorem dX8_example_156 : decode cX8_example 156 = .ok (.aload_n 0, 1) := by decide +kernel
theorem dX8_example_157 : decode cX8_example 157 = .ok (.getfield 220, 3) := by decide +kernel
theorem dX8_example_160 : decode cX8_example 160 = .ok (.ireturn, 1) := by decide +kernel
theorem dX8_dropExamples_0 : decode cX8_dropExamples 0 = .ok (.aload_n 0, 1) := by decide +kernel
theorem dX8_dropExamples_1 : decode cX8_dropExamples 1 = .ok (.iconst 0, 1) := by decide +kernel
theorem dX8_dropExamples_2 : decode cX8_dropExamples 2 = .ok (.putfield 106, 3) := by decide +kernel
theorem dX8_dropExamples_5 : decode cX8_dropExamples 5 = .ok (.aload_n 0, 1) := by decide +kernel
theorem dX8_dropExamples_6 : decode cX8_dropExamples 6 = .ok (.getfield 220, 3) := by decide +kernel
theorem dX8_dropExamples_9 : decode cX8_dropExamples 9 = .ok (.istore_n 1, 1) := by decide +kernel
theorem dX8_dropExamples_10 : decode cX8_dropExamples 10 = .ok (.aload_n 0, 1) := by decide +kernel
theorem dX8_dropExamples_11 : decode cX8_dropExamples 11 = .ok (.iconst 0, 1) := by decide +kernel
theorem dX8_dropExamples_12 : decode cX8_dropExamples 12 = .ok (.putfield 220, 3) := by decide +kernel
theorem dX8_dropExamples_15 : decode cX8_dropExamples 15 = .ok (.iload_n 1, 1) := by decide +kernel
theorem dX8_dropExamples_16 : decode cX8_dropExamples 16 = .ok (.ireturn, 1) := by decide +kernel
theorem dX8_isExample_0 : decode cX8_isExample 0 = .ok (.aload_n 0, 1) := by decide +kernel
theorem dX8_isExample_1 : decode cX8_isExample 1 = .ok (.getfield 158, 3) := by decide +kernel
theorem dX8_isExample_4 : decode cX8_isExample 4 = .ok (.aload_n 0, 1) := by decide +kernel
theorem dX8_isExample_5 : decode cX8_isExample 5 = .ok (.getfield 85, 3) := by decide +kernel
theorem dX8_isExample_8 : decode cX8_isExample 8 = .ok (.iload_n 1, 1) := by decide +kernel
theorem dX8_isExample_9 : decode cX8_isExample 9 = .ok (.iaload, 1) := by decide +kernel
theorem dX8_isExample_10 : decode cX8_isExample 10 = .ok (.if_icmp .ne 7, 3) := by decide +kernel
theorem dX8_isExample_13 : decode cX8_isExample 13 = .ok (.iconst 1, 1) := by decide +kernel
theorem dX8_isExample_14 : decode cX8_isExample 14 = .ok (.goto 4, 3) := by decide +kernel
theorem dX8_isExample_17 : decode cX8_isExample 17 = .ok (.iconst 0, 1) := by decide +kernel
theorem dX8_isExample_18 : decode cX8_isExample 18 = .ok (.istore_n 2, 1) := by decide +kernel
theorem dX8_isExample_19 : decode cX8_isExample 19 = .ok (.iconst 0, 1) := by decide +kernel
theorem dX8_isExample_20 : decode cX8_isExample 20 = .ok (.istore_n 3, 1) := by decide +kernel
theorem dX8_isExample_21 : decode cX8_isExample 21 = .ok (.iload_n 3, 1) := by decide +kernel
theorem dX8_isExample_22 : decode cX8_isExample 22 = .ok (.aload_n 0, 1) := by decide +kernel
theorem dX8_isExample_23 : decode cX8_isExample 23 = .ok (.getfield 158, 3) := by decide +kernel
theorem dX8_isExample_26 : decode cX8_isExample 26 = .ok (.if_icmp .ge 39, 3) := by decide +kernel
theorem dX8_isExample_29 : decode cX8_isExample 29 = .ok (.iload_n 2, 1) := by decide +kernel
theorem dX8_isExample_30 : decode cX8_isExample 30 = .ok (.ifCond .eq 35, 3) := by decide +kernel
theorem dX8_isExample_33 : decode cX8_isExample 33 = .ok (.aload_n 0, 1) := by decide +kernel
theorem dX8_isExample_34 : decode cX8_isExample 34 = .ok (.getfield 70, 3) := by decide +kernel
theorem dX8_isExample_37 : decode cX8_isExample 37 = .ok (.iload_n 3, 1) := by decide +kernel
theorem dX8_isExample_38 : decode cX8_isExample 38 = .ok (.iaload, 1) := by decide +kernel
theorem dX8_isExample_39 : decode cX8_isExample 39 = .ok (.aload_n 0, 1) := by decide +kernel
theorem dX8_isExample_40 : decode cX8_isExample 40 = .ok (.getfield 88, 3) := by decide +kernel
theorem dX8_isExample_43 : decode cX8_isExample 43 = .ok (.bipush 20, 2) := by decide +kernel
theorem dX8_isExample_45 : decode cX8_isExample 45 = .ok (.iload_n 1, 1) := by decide +kernel
theorem dX8_isExample_46 : decode cX8_isExample 46 = .ok (.imul, 1) := by decide +kernel
theorem dX8_isExample_47 : decode cX8_isExample 47 = .ok (.iload_n 3, 1) := by decide +kernel
theorem dX8_isExample_48 : decode cX8_isExample 48 = .ok (.iadd, 1) := by decide +kernel
theorem dX8_isExample_49 : decode cX8_isExample 49 = .ok (.iaload, 1) := by decide +kernel
theorem dX8_isExample_50 : decode cX8_isExample 50 = .ok (.if_icmp .ne 7, 3) := by decide +kernel
theorem dX8_isExample_53 : decode cX8_isExample 53 = .ok (.iconst 1, 1) := by decide +kernel
theorem dX8_isExample_54 : decode cX8_isExample 54 = .ok (.goto 4, 3) := by decide +kernel
theorem dX8_isExample_57 : decode cX8_isExample 57 = .ok (.iconst 0, 1) := by decide +kernel
theorem dX8_isExample_58 : decode cX8_isExample 58 = .ok (.istore_n 2, 1) := by decide +kernel
theorem dX8_isExample_59 : decode cX8_isExample 59 = .ok (.iinc 3 1, 3) := by decide +kernel
theorem dX8_isExample_62 : decode cX8_isExample 62 = .ok (.goto (-41), 3) := by decide +kernel
theorem dX8_isExample_65 : decode cX8_isExample 65 = .ok (.iload_n 2, 1) := by decide +kernel
theorem dX8_isExample_66 : decode cX8_isExample 66 = .ok (.ireturn, 1) := by decide +kernel
theorem dX8_fitsAll_0 : decode cX8_fitsAll 0 = .ok (.iconst 1, 1) := by decide +kernel
theorem dX8_fitsAll_1 : decode cX8_fitsAll 1 = .ok (.istore_n 2, 1) := by decide +kernel
theorem dX8_fitsAll_2 : decode cX8_fitsAll 2 = .ok (.iconst 0, 1) := by decide +kernel
theorem dX8_fitsAll_3 : decode cX8_fitsAll 3 = .ok (.istore_n 3, 1) := by decide +kernel
theorem dX8_fitsAll_4 : decode cX8_fitsAll 4 = .ok (.iload_n 3, 1) := by decide +kernel
theorem dX8_fitsAll_5 : decode cX8_fitsAll 5 = .ok (.aload_n 0, 1) := by decide +kernel
theorem dX8_fitsAll_6 : decode cX8_fitsAll 6 = .ok (.getfield 220, 3) := by decide +kernel
theorem dX8_fitsAll_9 : decode cX8_fitsAll 9 = .ok (.if_icmp .ge 33, 3) := by decide +kernel
theorem dX8_fitsAll_12 : decode cX8_fitsAll 12 = .ok (.iload_n 2, 1) := by decide +kernel
theorem dX8_fitsAll_13 : decode cX8_fitsAll 13 = .ok (.ifCond .eq 29, 3) := by decide +kernel
theorem dX8_fitsAll_16 : decode cX8_fitsAll 16 = .ok (.aload_n 0, 1) := by decide +kernel
theorem dX8_fitsAll_17 : decode cX8_fitsAll 17 = .ok (.iload_n 1, 1) := by decide +kernel
theorem dX8_fitsAll_18 : decode cX8_fitsAll 18 = .ok (.aload_n 0, 1) := by decide +kernel
theorem dX8_fitsAll_19 : decode cX8_fitsAll 19 = .ok (.getfield 82, 3) := by decide +kernel
theorem dX8_fitsAll_22 : decode cX8_fitsAll 22 = .ok (.iload_n 3, 1) := by decide +kernel
theorem dX8_fitsAll_23 : decode cX8_fitsAll 23 = .ok (.iaload, 1) := by decide +kernel
theorem dX8_fitsAll_24 : decode cX8_fitsAll 24 = .ok (.iconst 0, 1) := by decide +kernel
theorem dX8_fitsAll_25 : decode cX8_fitsAll 25 = .ok (.invokevirtual 187, 3) := by decide +kernel
theorem dX8_fitsAll_28 : decode cX8_fitsAll 28 = .ok (.istore 4, 2) := by decide +kernel
theorem dX8_fitsAll_30 : decode cX8_fitsAll 30 = .ok (.aload_n 0, 1) := by decide +kernel
theorem dX8_fitsAll_31 : decode cX8_fitsAll 31 = .ok (.iload_n 3, 1) := by decide +kernel
theorem dX8_fitsAll_32 : decode cX8_fitsAll 32 = .ok (.invokevirtual 223, 3) := by decide +kernel
theorem dX8_fitsAll_35 : decode cX8_fitsAll 35 = .ok (.istore_n 2, 1) := by decide +kernel
theorem dX8_fitsAll_36 : decode cX8_fitsAll 36 = .ok (.iinc 3 1, 3) := by decide +kernel
theorem dX8_fitsAll_39 : decode cX8_fitsAll 39 = .ok (.goto (-35), 3) := by decide +kernel
theorem dX8_fitsAll_42 : decode cX8_fitsAll 42 = .ok (.iload_n 2, 1) := by decide +kernel
theorem dX8_fitsAll_43 : decode cX8_fitsAll 43 = .ok (.ireturn, 1) := by decide +kernel
theorem dX8_sets_0 : decode cX8_sets 0 = .ok (.aload_n 0, 1) := by decide +kernel
theorem dX8_sets_1 : decode cX8_sets 1 = .ok (.getfield 31, 3) := by decide +kernel
theorem dX8_sets_4 : decode cX8_sets 4 = .ok (.iload_n 1, 1) := by decide +kernel
theorem dX8_sets_5 : decode cX8_sets 5 = .ok (.iload_n 2, 1) := by decide +kernel
theorem dX8_sets_6 : decode cX8_sets 6 = .ok (.iconst 2, 1) := by decide +kernel
theorem dX8_sets_7 : decode cX8_sets 7 = .ok (.idiv, 1) := by decide +kernel
theorem dX8_sets_8 : decode cX8_sets 8 = .ok (.iastore, 1) := by decide +kernel
theorem dX8_sets_9 : decode cX8_sets 9 = .ok (.aload_n 0, 1) := by decide +kernel
theorem dX8_sets_10 : decode cX8_sets 10 = .ok (.getfield 34, 3) := by decide +kernel
theorem dX8_sets_13 : decode cX8_sets 13 = .ok (.iload_n 1, 1) := by decide +kernel
theorem dX8_sets_14 : decode cX8_sets 14 = .ok (.iload_n 2, 1) := by decide +kernel
theorem dX8_sets_15 : decode cX8_sets 15 = .ok (.iconst 2, 1) := by decide +kernel
theorem dX8_sets_16 : decode cX8_sets 16 = .ok (.irem, 1) := by decide +kernel
theorem dX8_sets_17 : decode cX8_sets 17 = .ok (.iconst 1, 1) := by decide +kernel
theorem dX8_sets_18 : decode cX8_sets 18 = .ok (.if_icmp .ne 7, 3) := by decide +kernel
theorem dX8_sets_21 : decode cX8_sets 21 = .ok (.iload_n 3, 1) := by decide +kernel
theorem dX8_sets_22 : decode cX8_sets 22 = .ok (.goto 4, 3) := by decide +kernel
theorem dX8_sets_25 : decode cX8_sets 25 = .ok (.iconst (-1), 1) := by decide +kernel
theorem dX8_sets_26 : decode cX8_sets 26 = .ok (.iastore, 1) := by decide +kernel
theorem dX8_sets_27 : decode cX8_sets 27 = .ok (.return_, 1) := by decide +kernel
theorem dX8_fitting_0 : decode cX8_fitting 0 = .ok (.aload_n 0, 1) := by decide +kernel
theorem dX8_fitting_1 : decode cX8_fitting 1 = .ok (.getfield 31, 3) := by decide +kernel
theorem dX8_fitting_4 : decode cX8_fitting 4 = .ok (.iload_n 2, 1) := by decide +kernel
theorem dX8_fitting_5 : decode cX8_fitting 5 = .ok (.iaload, 1) := by decide +kernel
theorem dX8_fitting_6 : decode cX8_fitting 6 = .ok (.istore 4, 2) := by decide +kernel
theorem dX8_fitting_8 : decode cX8_fitting 8 = .ok (.aload_n 0, 1) := by decide +kernel
theorem dX8_fitting_9 : decode cX8_fitting 9 = .ok (.getfield 34, 3) := by decide +kernel
theorem dX8_fitting_12 : decode cX8_fitting 12 = .ok (.iload_n 2, 1) := by decide +kernel
theorem dX8_fitting_13 : decode cX8_fitting 13 = .ok (.iaload, 1) := by decide +kernel
theorem dX8_fitting_14 : decode cX8_fitting 14 = .ok (.istore 5, 2) := by decide +kernel
theorem dX8_fitting_16 : decode cX8_fitting 16 = .ok (.lconst 0, 1) := by decide +kernel
theorem dX8_fitting_17 : decode cX8_fitting 17 = .ok (.lstore 6, 2) := by decide +kernel
theorem dX8_fitting_19 : decode cX8_fitting 19 = .ok (.iconst 0, 1) := by decide +kernel
theorem dX8_fitting_20 : decode cX8_fitting 20 = .ok (.istore 8, 2) := by decide +kernel
theorem dX8_fitting_22 : decode cX8_fitting 22 = .ok (.iload 8, 2) := by decide +kernel
theorem dX8_fitting_24 : decode cX8_fitting 24 = .ok (.bipush 32, 2) := by decide +kernel
theorem dX8_fitting_26 : decode cX8_fitting 26 = .ok (.if_icmp .ge 38, 3) := by decide +kernel
theorem dX8_fitting_29 : decode cX8_fitting 29 = .ok (.aload_n 0, 1) := by decide +kernel
theorem dX8_fitting_30 : decode cX8_fitting 30 = .ok (.iload_n 2, 1) := by decide +kernel
theorem dX8_fitting_31 : decode cX8_fitting 31 = .ok (.iload 8, 2) := by decide +kernel
theorem dX8_fitting_33 : decode cX8_fitting 33 = .ok (.iload_n 3, 1) := by decide +kernel
theorem dX8_fitting_34 : decode cX8_fitting 34 = .ok (.invokevirtual 226, 3) := by decide +kernel
theorem dX8_fitting_37 : decode cX8_fitting 37 = .ok (.lload 6, 2) := by decide +kernel
theorem dX8_fitting_39 : decode cX8_fitting 39 = .ok (.aload_n 0, 1) := by decide +kernel
theorem dX8_fitting_40 : decode cX8_fitting 40 = .ok (.iload_n 1, 1) := by decide +kernel
theorem dX8_fitting_41 : decode cX8_fitting 41 = .ok (.invokevirtual 230, 3) := by decide +kernel
theorem dX8_fitting_44 : decode cX8_fitting 44 = .ok (.ifCond .eq 10, 3) := by decide +kernel
theorem dX8_fitting_47 : decode cX8_fitting 47 = .ok (.lconst 1, 1) := by decide +kernel
theorem dX8_fitting_48 : decode cX8_fitting 48 = .ok (.iload 8, 2) := by decide +kernel
theorem dX8_fitting_50 : decode cX8_fitting 50 = .ok (.lshl, 1) := by decide +kernel
theorem dX8_fitting_51 : decode cX8_fitting 51 = .ok (.goto 4, 3) := by decide +kernel
theorem dX8_fitting_54 : decode cX8_fitting 54 = .ok (.lconst 0, 1) := by decide +kernel
theorem dX8_fitting_55 : decode cX8_fitting 55 = .ok (.lor, 1) := by decide +kernel
theorem dX8_fitting_56 : decode cX8_fitting 56 = .ok (.lstore 6, 2) := by decide +kernel
theorem dX8_fitting_58 : decode cX8_fitting 58 = .ok (.iinc 8 1, 3) := by decide +kernel
theorem dX8_fitting_61 : decode cX8_fitting 61 = .ok (.goto (-39), 3) := by decide +kernel
theorem dX8_fitting_64 : decode cX8_fitting 64 = .ok (.aload_n 0, 1) := by decide +kernel
theorem dX8_fitting_65 : decode cX8_fitting 65 = .ok (.getfield 31, 3) := by decide +kernel
theorem dX8_fitting_68 : decode cX8_fitting 68 = .ok (.iload_n 2, 1) := by decide +kernel
theorem dX8_fitting_69 : decode cX8_fitting 69 = .ok (.iload 4, 2) := by decide +kernel
theorem dX8_fitting_71 : decode cX8_fitting 71 = .ok (.iastore, 1) := by decide +kernel
theorem dX8_fitting_72 : decode cX8_fitting 72 = .ok (.aload_n 0, 1) := by decide +kernel
theorem dX8_fitting_73 : decode cX8_fitting 73 = .ok (.getfield 34, 3) := by decide +kernel
theorem dX8_fitting_76 : decode cX8_fitting 76 = .ok (.iload_n 2, 1) := by decide +kernel
theorem dX8_fitting_77 : decode cX8_fitting 77 = .ok (.iload 5, 2) := by decide +kernel
theorem dX8_fitting_79 : decode cX8_fitting 79 = .ok (.iastore, 1) := by decide +kernel
theorem dX8_fitting_80 : decode cX8_fitting 80 = .ok (.lload 6, 2) := by decide +kernel
theorem dX8_fitting_82 : decode cX8_fitting 82 = .ok (.lreturn, 1) := by decide +kernel
theorem dX8_many_0 : decode cX8_many 0 = .ok (.iconst 0, 1) := by decide +kernel
theorem dX8_many_1 : decode cX8_many 1 = .ok (.istore_n 2, 1) := by decide +kernel
theorem dX8_many_2 : decode cX8_many 2 = .ok (.iconst 0, 1) := by decide +kernel
theorem dX8_many_3 : decode cX8_many 3 = .ok (.istore_n 3, 1) := by decide +kernel
theorem dX8_many_4 : decode cX8_many 4 = .ok (.iload_n 3, 1) := by decide +kernel
theorem dX8_many_5 : decode cX8_many 5 = .ok (.bipush 32, 2) := by decide +kernel
theorem dX8_many_7 : decode cX8_many 7 = .ok (.if_icmp .ge 18, 3) := by decide +kernel
theorem dX8_many_10 : decode cX8_many 10 = .ok (.iload_n 2, 1) := by decide +kernel
theorem dX8_many_11 : decode cX8_many 11 = .ok (.lload_n 0, 1) := by decide +kernel
theorem dX8_many_12 : decode cX8_many 12 = .ok (.iload_n 3, 1) := by decide +kernel
theorem dX8_many_13 : decode cX8_many 13 = .ok (.lshr, 1) := by decide +kernel
theorem dX8_many_14 : decode cX8_many 14 = .ok (.lconst 1, 1) := by decide +kernel
theorem dX8_many_15 : decode cX8_many 15 = .ok (.land, 1) := by decide +kernel
theorem dX8_many_16 : decode cX8_many 16 = .ok (.l2i, 1) := by decide +kernel
theorem dX8_many_17 : decode cX8_many 17 = .ok (.iadd, 1) := by decide +kernel
theorem dX8_many_18 : decode cX8_many 18 = .ok (.istore_n 2, 1) := by decide +kernel
theorem dX8_many_19 : decode cX8_many 19 = .ok (.iinc 3 1, 3) := by decide +kernel
theorem dX8_many_22 : decode cX8_many 22 = .ok (.goto (-18), 3) := by decide +kernel
theorem dX8_many_25 : decode cX8_many 25 = .ok (.iload_n 2, 1) := by decide +kernel
theorem dX8_many_26 : decode cX8_many 26 = .ok (.ireturn, 1) := by decide +kernel
theorem dX8_settings_0 : decode cX8_settings 0 = .ok (.aload_n 0, 1) := by decide +kernel
theorem dX8_settings_1 : decode cX8_settings 1 = .ok (.aload_n 0, 1) := by decide +kernel
theorem dX8_settings_2 : decode cX8_settings 2 = .ok (.iload_n 1, 1) := by decide +kernel
theorem dX8_settings_3 : decode cX8_settings 3 = .ok (.iload_n 2, 1) := by decide +kernel
theorem dX8_settings_4 : decode cX8_settings 4 = .ok (.invokevirtual 131, 3) := by decide +kernel
theorem dX8_settings_7 : decode cX8_settings 7 = .ok (.ifCond .eq 14, 3) := by decide +kernel
theorem dX8_settings_10 : decode cX8_settings 10 = .ok (.iload_n 3, 1) := by decide +kernel
theorem dX8_settings_11 : decode cX8_settings 11 = .ok (.invokestatic 118, 3) := by decide +kernel
theorem dX8_settings_14 : decode cX8_settings 14 = .ok (.ifCond .eq 7, 3) := by decide +kernel
theorem dX8_settings_17 : decode cX8_settings 17 = .ok (.iconst 0, 1) := by decide +kernel
theorem dX8_settings_18 : decode cX8_settings 18 = .ok (.goto 4, 3) := by decide +kernel
theorem dX8_settings_21 : decode cX8_settings 21 = .ok (.iconst 1, 1) := by decide +kernel
theorem dX8_settings_22 : decode cX8_settings 22 = .ok (.invokevirtual 128, 3) := by decide +kernel
theorem dX8_settings_25 : decode cX8_settings 25 = .ok (.ifCond .ne 5, 3) := by decide +kernel
theorem dX8_settings_28 : decode cX8_settings 28 = .ok (.iconst 0, 1) := by decide +kernel
theorem dX8_settings_29 : decode cX8_settings 29 = .ok (.ireturn, 1) := by decide +kernel
theorem dX8_settings_30 : decode cX8_settings 30 = .ok (.aload_n 0, 1) := by decide +kernel
theorem dX8_settings_31 : decode cX8_settings 31 = .ok (.iload_n 1, 1) := by decide +kernel
theorem dX8_settings_32 : decode cX8_settings 32 = .ok (.iconst 5, 1) := by decide +kernel
theorem dX8_settings_33 : decode cX8_settings 33 = .ok (.iload_n 1, 1) := by decide +kernel
theorem dX8_settings_34 : decode cX8_settings 34 = .ok (.imul, 1) := by decide +kernel
theorem dX8_settings_35 : decode cX8_settings 35 = .ok (.iload_n 2, 1) := by decide +kernel
theorem dX8_settings_36 : decode cX8_settings 36 = .ok (.iadd, 1) := by decide +kernel
theorem dX8_settings_37 : decode cX8_settings 37 = .ok (.iload_n 3, 1) := by decide +kernel
theorem dX8_settings_38 : decode cX8_settings 38 = .ok (.invokevirtual 233, 3) := by decide +kernel
theorem dX8_settings_41 : decode cX8_settings 41 = .ok (.invokestatic 237, 3) := by decide +kernel
theorem dX8_settings_44 : decode cX8_settings 44 = .ok (.ireturn, 1) := by decide +kernel
theorem dX8_learn_0 : decode cX8_learn 0 = .ok (.aload_n 0, 1) := by decide +kernel
theorem dX8_learn_1 : decode cX8_learn 1 = .ok (.iload_n 1, 1) := by decide +kernel
theorem dX8_learn_2 : decode cX8_learn 2 = .ok (.iload_n 2, 1) := by decide +kernel
theorem dX8_learn_3 : decode cX8_learn 3 = .ok (.invokevirtual 131, 3) := by decide +kernel
theorem dX8_learn_6 : decode cX8_learn 6 = .ok (.ifCond .eq 14, 3) := by decide +kernel
theorem dX8_learn_9 : decode cX8_learn 9 = .ok (.iload_n 3, 1) := by decide +kernel
theorem dX8_learn_10 : decode cX8_learn 10 = .ok (.invokestatic 118, 3) := by decide +kernel
theorem dX8_learn_13 : decode cX8_learn 13 = .ok (.ifCond .eq 7, 3) := by decide +kernel
theorem dX8_learn_16 : decode cX8_learn 16 = .ok (.iconst 1, 1) := by decide +kernel
theorem dX8_learn_17 : decode cX8_learn 17 = .ok (.goto 4, 3) := by decide +kernel
theorem dX8_learn_20 : decode cX8_learn 20 = .ok (.iconst 0, 1) := by decide +kernel
theorem dX8_learn_21 : decode cX8_learn 21 = .ok (.istore 4, 2) := by decide +kernel
theorem dX8_learn_23 : decode cX8_learn 23 = .ok (.iconst 5, 1) := by decide +kernel
theorem dX8_learn_24 : decode cX8_learn 24 = .ok (.iload_n 1, 1) := by decide +kernel
theorem dX8_learn_25 : decode cX8_learn 25 = .ok (.imul, 1) := by decide +kernel
theorem dX8_learn_26 : decode cX8_learn 26 = .ok (.iload_n 2, 1) := by decide +kernel
theorem dX8_learn_27 : decode cX8_learn 27 = .ok (.iadd, 1) := by decide +kernel
theorem dX8_learn_28 : decode cX8_learn 28 = .ok (.istore 5, 2) := by decide +kernel
theorem dX8_learn_30 : decode cX8_learn 30 = .ok (.iload 4, 2) := by decide +kernel
theorem dX8_learn_32 : decode cX8_learn 32 = .ok (.ifCond .eq 14, 3) := by decide +kernel
theorem dX8_learn_35 : decode cX8_learn 35 = .ok (.aload_n 0, 1) := by decide +kernel
theorem dX8_learn_36 : decode cX8_learn 36 = .ok (.iload_n 1, 1) := by decide +kernel
theorem dX8_learn_37 : decode cX8_learn 37 = .ok (.iload 5, 2) := by decide +kernel
theorem dX8_learn_39 : decode cX8_learn 39 = .ok (.iload_n 3, 1) := by decide +kernel
theorem dX8_learn_40 : decode cX8_learn 40 = .ok (.invokevirtual 233, 3) := by decide +kernel
theorem dX8_learn_43 : decode cX8_learn 43 = .ok (.goto 4, 3) := by decide +kernel
theorem dX8_learn_46 : decode cX8_learn 46 = .ok (.lconst 0, 1) := by decide +kernel
theorem dX8_learn_47 : decode cX8_learn 47 = .ok (.lstore 6, 2) := by decide +kernel
theorem dX8_learn_49 : decode cX8_learn 49 = .ok (.aload_n 0, 1) := by decide +kernel
theorem dX8_learn_50 : decode cX8_learn 50 = .ok (.iload 4, 2) := by decide +kernel
theorem dX8_learn_52 : decode cX8_learn 52 = .ok (.ifCond .ne 7, 3) := by decide +kernel
theorem dX8_learn_55 : decode cX8_learn 55 = .ok (.iconst 1, 1) := by decide +kernel
theorem dX8_learn_56 : decode cX8_learn 56 = .ok (.goto 15, 3) := by decide +kernel
theorem dX8_learn_59 : decode cX8_learn 59 = .ok (.lload 6, 2) := by decide +kernel
theorem dX8_learn_61 : decode cX8_learn 61 = .ok (.lconst 0, 1) := by decide +kernel
theorem dX8_learn_62 : decode cX8_learn 62 = .ok (.lcmp, 1) := by decide +kernel
theorem dX8_learn_63 : decode cX8_learn 63 = .ok (.ifCond .ne 7, 3) := by decide +kernel
theorem dX8_learn_66 : decode cX8_learn 66 = .ok (.iconst 2, 1) := by decide +kernel
theorem dX8_learn_67 : decode cX8_learn 67 = .ok (.goto 4, 3) := by decide +kernel
theorem dX8_learn_70 : decode cX8_learn 70 = .ok (.iconst 0, 1) := by decide +kernel
theorem dX8_learn_71 : decode cX8_learn 71 = .ok (.invokevirtual 128, 3) := by decide +kernel
theorem dX8_learn_74 : decode cX8_learn 74 = .ok (.ifCond .ne 5, 3) := by decide +kernel
theorem dX8_learn_77 : decode cX8_learn 77 = .ok (.iconst 0, 1) := by decide +kernel
theorem dX8_learn_78 : decode cX8_learn 78 = .ok (.ireturn, 1) := by decide +kernel
theorem dX8_learn_79 : decode cX8_learn 79 = .ok (.iconst 0, 1) := by decide +kernel
theorem dX8_learn_80 : decode cX8_learn 80 = .ok (.istore 8, 2) := by decide +kernel
theorem dX8_learn_82 : decode cX8_learn 82 = .ok (.lload 6, 2) := by decide +kernel
theorem dX8_learn_84 : decode cX8_learn 84 = .ok (.iload 8, 2) := by decide +kernel
theorem dX8_learn_86 : decode cX8_learn 86 = .ok (.lshr, 1) := by decide +kernel
theorem dX8_learn_87 : decode cX8_learn 87 = .ok (.lconst 1, 1) := by decide +kernel
theorem dX8_learn_88 : decode cX8_learn 88 = .ok (.land, 1) := by decide +kernel
theorem dX8_learn_89 : decode cX8_learn 89 = .ok (.lconst 0, 1) := by decide +kernel
theorem dX8_learn_90 : decode cX8_learn 90 = .ok (.lcmp, 1) := by decide +kernel
theorem dX8_learn_91 : decode cX8_learn 91 = .ok (.ifCond .ne 9, 3) := by decide +kernel
theorem dX8_learn_94 : decode cX8_learn 94 = .ok (.iinc 8 1, 3) := by decide +kernel
theorem dX8_learn_97 : decode cX8_learn 97 = .ok (.goto (-15), 3) := by decide +kernel
theorem dX8_learn_100 : decode cX8_learn 100 = .ok (.aload_n 0, 1) := by decide +kernel
theorem dX8_learn_101 : decode cX8_learn 101 = .ok (.iload 5, 2) := by decide +kernel
theorem dX8_learn_103 : decode cX8_learn 103 = .ok (.iload 8, 2) := by decide +kernel
theorem dX8_learn_105 : decode cX8_learn 105 = .ok (.iload_n 3, 1) := by decide +kernel
theorem dX8_learn_106 : decode cX8_learn 106 = .ok (.invokevirtual 226, 3) := by decide +kernel
theorem dX8_learn_109 : decode cX8_learn 109 = .ok (.iload 8, 2) := by decide +kernel
theorem dX8_learn_111 : decode cX8_learn 111 = .ok (.ireturn, 1) := by decide +kernel
theorem dX8_greatestBy_0 : decode cX8_greatestBy 0 = .ok (.iconst 0, 1) := by decide +kernel
theorem dX8_greatestBy_1 : decode cX8_greatestBy 1 = .ok (.istore 7, 2) := by decide +kernel
theorem dX8_greatestBy_3 : decode cX8_greatestBy 3 = .ok (.iconst 0, 1) := by decide +kernel
theorem dX8_greatestBy_4 : decode cX8_greatestBy 4 = .ok (.istore 8, 2) := by decide +kernel
theorem dX8_greatestBy_6 : decode cX8_greatestBy 6 = .ok (.iload 8, 2) := by decide +kernel
theorem dX8_greatestBy_8 : decode cX8_greatestBy 8 = .ok (.bipush 32, 2) := by decide +kernel
theorem dX8_greatestBy_10 : decode cX8_greatestBy 10 = .ok (.if_icmp .ge 48, 3) := by decide +kernel
theorem dX8_greatestBy_13 : decode cX8_greatestBy 13 = .ok (.lload 4, 2) := by decide +kernel
theorem dX8_greatestBy_15 : decode cX8_greatestBy 15 = .ok (.iload 8, 2) := by decide +kernel
theorem dX8_greatestBy_17 : decode cX8_greatestBy 17 = .ok (.lshr, 1) := by decide +kernel
theorem dX8_greatestBy_18 : decode cX8_greatestBy 18 = .ok (.lconst 1, 1) := by decide +kernel
theorem dX8_greatestBy_19 : decode cX8_greatestBy 19 = .ok (.land, 1) := by decide +kernel
theorem dX8_greatestBy_20 : decode cX8_greatestBy 20 = .ok (.lconst 1, 1) := by decide +kernel
theorem dX8_greatestBy_21 : decode cX8_greatestBy 21 = .ok (.lcmp, 1) := by decide +kernel
theorem dX8_greatestBy_22 : decode cX8_greatestBy 22 = .ok (.ifCond .ne 30, 3) := by decide +kernel
theorem dX8_greatestBy_25 : decode cX8_greatestBy 25 = .ok (.aload_n 0, 1) := by decide +kernel
theorem dX8_greatestBy_26 : decode cX8_greatestBy 26 = .ok (.iload_n 2, 1) := by decide +kernel
theorem dX8_greatestBy_27 : decode cX8_greatestBy 27 = .ok (.iload 8, 2) := by decide +kernel
theorem dX8_greatestBy_29 : decode cX8_greatestBy 29 = .ok (.iload_n 3, 1) := by decide +kernel
theorem dX8_greatestBy_30 : decode cX8_greatestBy 30 = .ok (.invokevirtual 226, 3) := by decide +kernel
theorem dX8_greatestBy_33 : decode cX8_greatestBy 33 = .ok (.aload_n 0, 1) := by decide +kernel
theorem dX8_greatestBy_34 : decode cX8_greatestBy 34 = .ok (.iload_n 1, 1) := by decide +kernel
theorem dX8_greatestBy_35 : decode cX8_greatestBy 35 = .ok (.iload 6, 2) := by decide +kernel
theorem dX8_greatestBy_37 : decode cX8_greatestBy 37 = .ok (.iconst 0, 1) := by decide +kernel
theorem dX8_greatestBy_38 : decode cX8_greatestBy 38 = .ok (.invokevirtual 187, 3) := by decide +kernel
theorem dX8_greatestBy_41 : decode cX8_greatestBy 41 = .ok (.istore 9, 2) := by decide +kernel
theorem dX8_greatestBy_43 : decode cX8_greatestBy 43 = .ok (.aload_n 0, 1) := by decide +kernel
theorem dX8_greatestBy_44 : decode cX8_greatestBy 44 = .ok (.iload 7, 2) := by decide +kernel
theorem dX8_greatestBy_46 : decode cX8_greatestBy 46 = .ok (.invokevirtual 211, 3) := by decide +kernel
theorem dX8_greatestBy_49 : decode cX8_greatestBy 49 = .ok (.iinc 7 1, 3) := by decide +kernel
theorem dX8_greatestBy_52 : decode cX8_greatestBy 52 = .ok (.iinc 8 1, 3) := by decide +kernel
theorem dX8_greatestBy_55 : decode cX8_greatestBy 55 = .ok (.goto (-49), 3) := by decide +kernel
theorem dX8_greatestBy_58 : decode cX8_greatestBy 58 = .ok (.iconst 0, 1) := by decide +kernel
theorem dX8_greatestBy_59 : decode cX8_greatestBy 59 = .ok (.istore 8, 2) := by decide +kernel
theorem dX8_greatestBy_61 : decode cX8_greatestBy 61 = .ok (.iconst 0, 1) := by decide +kernel
theorem dX8_greatestBy_62 : decode cX8_greatestBy 62 = .ok (.istore 9, 2) := by decide +kernel
theorem dX8_greatestBy_64 : decode cX8_greatestBy 64 = .ok (.iload 9, 2) := by decide +kernel
theorem dX8_greatestBy_66 : decode cX8_greatestBy 66 = .ok (.iload 7, 2) := by decide +kernel
theorem dX8_greatestBy_68 : decode cX8_greatestBy 68 = .ok (.if_icmp .ge 65, 3) := by decide +kernel
theorem dX8_greatestBy_71 : decode cX8_greatestBy 71 = .ok (.iconst 0, 1) := by decide +kernel
theorem dX8_greatestBy_72 : decode cX8_greatestBy 72 = .ok (.istore 10, 2) := by decide +kernel
theorem dX8_greatestBy_74 : decode cX8_greatestBy 74 = .ok (.iconst 0, 1) := by decide +kernel
theorem dX8_greatestBy_75 : decode cX8_greatestBy 75 = .ok (.istore 11, 2) := by decide +kernel
theorem dX8_greatestBy_77 : decode cX8_greatestBy 77 = .ok (.iload 11, 2) := by decide +kernel
theorem dX8_greatestBy_79 : decode cX8_greatestBy 79 = .ok (.iload 7, 2) := by decide +kernel
theorem dX8_greatestBy_81 : decode cX8_greatestBy 81 = .ok (.if_icmp .ge 30, 3) := by decide +kernel
theorem dX8_greatestBy_84 : decode cX8_greatestBy 84 = .ok (.iload 10, 2) := by decide +kernel
theorem dX8_greatestBy_86 : decode cX8_greatestBy 86 = .ok (.aload_n 0, 1) := by decide +kernel
theorem dX8_greatestBy_87 : decode cX8_greatestBy 87 = .ok (.iload 11, 2) := by decide +kernel
theorem dX8_greatestBy_89 : decode cX8_greatestBy 89 = .ok (.iload 9, 2) := by decide +kernel
theorem dX8_greatestBy_91 : decode cX8_greatestBy 91 = .ok (.invokevirtual 217, 3) := by decide +kernel
theorem dX8_greatestBy_94 : decode cX8_greatestBy 94 = .ok (.ifCond .eq 7, 3) := by decide +kernel
theorem dX8_greatestBy_97 : decode cX8_greatestBy 97 = .ok (.iconst 1, 1) := by decide +kernel
theorem dX8_greatestBy_98 : decode cX8_greatestBy 98 = .ok (.goto 4, 3) := by decide +kernel
theorem dX8_greatestBy_101 : decode cX8_greatestBy 101 = .ok (.iconst 0, 1) := by decide +kernel
theorem dX8_greatestBy_102 : decode cX8_greatestBy 102 = .ok (.iadd, 1) := by decide +kernel
theorem dX8_greatestBy_103 : decode cX8_greatestBy 103 = .ok (.istore 10, 2) := by decide +kernel
theorem dX8_greatestBy_105 : decode cX8_greatestBy 105 = .ok (.iinc 11 1, 3) := by decide +kernel
theorem dX8_greatestBy_108 : decode cX8_greatestBy 108 = .ok (.goto (-31), 3) := by decide +kernel
theorem dX8_greatestBy_111 : decode cX8_greatestBy 111 = .ok (.iload 10, 2) := by decide +kernel
theorem dX8_greatestBy_113 : decode cX8_greatestBy 113 = .ok (.iload 8, 2) := by decide +kernel
theorem dX8_greatestBy_115 : decode cX8_greatestBy 115 = .ok (.if_icmp .le 8, 3) := by decide +kernel
theorem dX8_greatestBy_118 : decode cX8_greatestBy 118 = .ok (.iload 10, 2) := by decide +kernel
theorem dX8_greatestBy_120 : decode cX8_greatestBy 120 = .ok (.goto 5, 3) := by decide +kernel
end
section
theorem dX8_greatestBy_123 : decode cX8_greatestBy 123 = .ok (.iload 8, 2) := by decide +kernel
theorem dX8_greatestBy_125 : decode cX8_greatestBy 125 = .ok (.istore 8, 2) := by decide +kernel
theorem dX8_greatestBy_127 : decode cX8_greatestBy 127 = .ok (.iinc 9 1, 3) := by decide +kernel
theorem dX8_greatestBy_130 : decode cX8_greatestBy 130 = .ok (.goto (-66), 3) := by decide +kernel
theorem dX8_greatestBy_133 : decode cX8_greatestBy 133 = .ok (.iload 8, 2) := by decide +kernel
theorem dX8_greatestBy_135 : decode cX8_greatestBy 135 = .ok (.ireturn, 1) := by decide +kernel
theorem dX8_askNumber_0 : decode cX8_askNumber 0 = .ok (.aload_n 0, 1) := by decide +kernel
theorem dX8_askNumber_1 : decode cX8_askNumber 1 = .ok (.iload_n 1, 1) := by decide +kernel
theorem dX8_askNumber_2 : decode cX8_askNumber 2 = .ok (.iload_n 2, 1) := by decide +kernel
theorem dX8_askNumber_3 : decode cX8_askNumber 3 = .ok (.invokevirtual 131, 3) := by decide +kernel
theorem dX8_askNumber_6 : decode cX8_askNumber 6 = .ok (.ifCond .eq 14, 3) := by decide +kernel
theorem dX8_askNumber_9 : decode cX8_askNumber 9 = .ok (.iload_n 3, 1) := by decide +kernel
theorem dX8_askNumber_10 : decode cX8_askNumber 10 = .ok (.invokestatic 118, 3) := by decide +kernel
theorem dX8_askNumber_13 : decode cX8_askNumber 13 = .ok (.ifCond .eq 7, 3) := by decide +kernel
theorem dX8_askNumber_16 : decode cX8_askNumber 16 = .ok (.iconst 1, 1) := by decide +kernel
theorem dX8_askNumber_17 : decode cX8_askNumber 17 = .ok (.goto 4, 3) := by decide +kernel
theorem dX8_askNumber_20 : decode cX8_askNumber 20 = .ok (.iconst 0, 1) := by decide +kernel
theorem dX8_askNumber_21 : decode cX8_askNumber 21 = .ok (.istore 5, 2) := by decide +kernel
theorem dX8_askNumber_23 : decode cX8_askNumber 23 = .ok (.aload_n 0, 1) := by decide +kernel
theorem dX8_askNumber_24 : decode cX8_askNumber 24 = .ok (.iload 5, 2) := by decide +kernel
theorem dX8_askNumber_26 : decode cX8_askNumber 26 = .ok (.ifCond .ne 7, 3) := by decide +kernel
theorem dX8_askNumber_29 : decode cX8_askNumber 29 = .ok (.iconst 1, 1) := by decide +kernel
theorem dX8_askNumber_30 : decode cX8_askNumber 30 = .ok (.goto 19, 3) := by decide +kernel
theorem dX8_askNumber_33 : decode cX8_askNumber 33 = .ok (.iload 4, 2) := by decide +kernel
theorem dX8_askNumber_35 : decode cX8_askNumber 35 = .ok (.iconst 0, 1) := by decide +kernel
theorem dX8_askNumber_36 : decode cX8_askNumber 36 = .ok (.bipush 99, 2) := by decide +kernel
theorem dX8_askNumber_38 : decode cX8_askNumber 38 = .ok (.invokestatic 110, 3) := by decide +kernel
theorem dX8_askNumber_41 : decode cX8_askNumber 41 = .ok (.ifCond .eq 7, 3) := by decide +kernel
theorem dX8_askNumber_44 : decode cX8_askNumber 44 = .ok (.iconst 0, 1) := by decide +kernel
theorem dX8_askNumber_45 : decode cX8_askNumber 45 = .ok (.goto 4, 3) := by decide +kernel
theorem dX8_askNumber_48 : decode cX8_askNumber 48 = .ok (.iconst 2, 1) := by decide +kernel
theorem dX8_askNumber_49 : decode cX8_askNumber 49 = .ok (.invokevirtual 128, 3) := by decide +kernel
theorem dX8_askNumber_52 : decode cX8_askNumber 52 = .ok (.ifCond .ne 5, 3) := by decide +kernel
theorem dX8_askNumber_55 : decode cX8_askNumber 55 = .ok (.iconst 0, 1) := by decide +kernel
theorem dX8_askNumber_56 : decode cX8_askNumber 56 = .ok (.ireturn, 1) := by decide +kernel
theorem dX8_askNumber_57 : decode cX8_askNumber 57 = .ok (.iconst 5, 1) := by decide +kernel
theorem dX8_askNumber_58 : decode cX8_askNumber 58 = .ok (.iload_n 1, 1) := by decide +kernel
theorem dX8_askNumber_59 : decode cX8_askNumber 59 = .ok (.imul, 1) := by decide +kernel
theorem dX8_askNumber_60 : decode cX8_askNumber 60 = .ok (.iload_n 2, 1) := by decide +kernel
theorem dX8_askNumber_61 : decode cX8_askNumber 61 = .ok (.iadd, 1) := by decide +kernel
theorem dX8_askNumber_62 : decode cX8_askNumber 62 = .ok (.istore 6, 2) := by decide +kernel
theorem dX8_askNumber_64 : decode cX8_askNumber 64 = .ok (.aload_n 0, 1) := by decide +kernel
theorem dX8_askNumber_65 : decode cX8_askNumber 65 = .ok (.getfield 31, 3) := by decide +kernel
theorem dX8_askNumber_68 : decode cX8_askNumber 68 = .ok (.iload 6, 2) := by decide +kernel
theorem dX8_askNumber_70 : decode cX8_askNumber 70 = .ok (.iaload, 1) := by decide +kernel
theorem dX8_askNumber_71 : decode cX8_askNumber 71 = .ok (.istore 7, 2) := by decide +kernel
theorem dX8_askNumber_73 : decode cX8_askNumber 73 = .ok (.aload_n 0, 1) := by decide +kernel
theorem dX8_askNumber_74 : decode cX8_askNumber 74 = .ok (.getfield 34, 3) := by decide +kernel
theorem dX8_askNumber_77 : decode cX8_askNumber 77 = .ok (.iload 6, 2) := by decide +kernel
theorem dX8_askNumber_79 : decode cX8_askNumber 79 = .ok (.iaload, 1) := by decide +kernel
theorem dX8_askNumber_80 : decode cX8_askNumber 80 = .ok (.istore 8, 2) := by decide +kernel
theorem dX8_askNumber_82 : decode cX8_askNumber 82 = .ok (.aload_n 0, 1) := by decide +kernel
theorem dX8_askNumber_83 : decode cX8_askNumber 83 = .ok (.iload_n 1, 1) := by decide +kernel
theorem dX8_askNumber_84 : decode cX8_askNumber 84 = .ok (.iload 6, 2) := by decide +kernel
theorem dX8_askNumber_86 : decode cX8_askNumber 86 = .ok (.iload_n 3, 1) := by decide +kernel
theorem dX8_askNumber_87 : decode cX8_askNumber 87 = .ok (.invokevirtual 233, 3) := by decide +kernel
theorem dX8_askNumber_90 : decode cX8_askNumber 90 = .ok (.lstore 9, 2) := by decide +kernel
theorem dX8_askNumber_92 : decode cX8_askNumber 92 = .ok (.iconst (-1), 1) := by decide +kernel
theorem dX8_askNumber_93 : decode cX8_askNumber 93 = .ok (.istore 11, 2) := by decide +kernel
theorem dX8_askNumber_95 : decode cX8_askNumber 95 = .ok (.lload 9, 2) := by decide +kernel
theorem dX8_askNumber_97 : decode cX8_askNumber 97 = .ok (.invokestatic 237, 3) := by decide +kernel
theorem dX8_askNumber_100 : decode cX8_askNumber 100 = .ok (.istore 12, 2) := by decide +kernel
theorem dX8_askNumber_102 : decode cX8_askNumber 102 = .ok (.iconst 0, 1) := by decide +kernel
theorem dX8_askNumber_103 : decode cX8_askNumber 103 = .ok (.istore 13, 2) := by decide +kernel
theorem dX8_askNumber_105 : decode cX8_askNumber 105 = .ok (.iload 13, 2) := by decide +kernel
theorem dX8_askNumber_107 : decode cX8_askNumber 107 = .ok (.iload 4, 2) := by decide +kernel
theorem dX8_askNumber_109 : decode cX8_askNumber 109 = .ok (.if_icmp .gt 64, 3) := by decide +kernel
theorem dX8_askNumber_112 : decode cX8_askNumber 112 = .ok (.lload 9, 2) := by decide +kernel
theorem dX8_askNumber_114 : decode cX8_askNumber 114 = .ok (.invokestatic 237, 3) := by decide +kernel
theorem dX8_askNumber_117 : decode cX8_askNumber 117 = .ok (.iconst 1, 1) := by decide +kernel
theorem dX8_askNumber_118 : decode cX8_askNumber 118 = .ok (.if_icmp .le 55, 3) := by decide +kernel
theorem dX8_askNumber_121 : decode cX8_askNumber 121 = .ok (.aload_n 0, 1) := by decide +kernel
theorem dX8_askNumber_122 : decode cX8_askNumber 122 = .ok (.iload_n 1, 1) := by decide +kernel
theorem dX8_askNumber_123 : decode cX8_askNumber 123 = .ok (.iload 6, 2) := by decide +kernel
theorem dX8_askNumber_125 : decode cX8_askNumber 125 = .ok (.iload_n 3, 1) := by decide +kernel
theorem dX8_askNumber_126 : decode cX8_askNumber 126 = .ok (.lload 9, 2) := by decide +kernel
theorem dX8_askNumber_128 : decode cX8_askNumber 128 = .ok (.iload 13, 2) := by decide +kernel
theorem dX8_askNumber_130 : decode cX8_askNumber 130 = .ok (.invokevirtual 241, 3) := by decide +kernel
theorem dX8_askNumber_133 : decode cX8_askNumber 133 = .ok (.istore 14, 2) := by decide +kernel
theorem dX8_askNumber_135 : decode cX8_askNumber 135 = .ok (.iload 14, 2) := by decide +kernel
theorem dX8_askNumber_137 : decode cX8_askNumber 137 = .ok (.iload 12, 2) := by decide +kernel
theorem dX8_askNumber_139 : decode cX8_askNumber 139 = .ok (.if_icmp .ge 8, 3) := by decide +kernel
theorem dX8_askNumber_142 : decode cX8_askNumber 142 = .ok (.iload 13, 2) := by decide +kernel
theorem dX8_askNumber_144 : decode cX8_askNumber 144 = .ok (.goto 5, 3) := by decide +kernel
theorem dX8_askNumber_147 : decode cX8_askNumber 147 = .ok (.iload 11, 2) := by decide +kernel
theorem dX8_askNumber_149 : decode cX8_askNumber 149 = .ok (.istore 11, 2) := by decide +kernel
theorem dX8_askNumber_151 : decode cX8_askNumber 151 = .ok (.iload 14, 2) := by decide +kernel
theorem dX8_askNumber_153 : decode cX8_askNumber 153 = .ok (.iload 12, 2) := by decide +kernel
theorem dX8_askNumber_155 : decode cX8_askNumber 155 = .ok (.if_icmp .ge 8, 3) := by decide +kernel
theorem dX8_askNumber_158 : decode cX8_askNumber 158 = .ok (.iload 14, 2) := by decide +kernel
theorem dX8_askNumber_160 : decode cX8_askNumber 160 = .ok (.goto 5, 3) := by decide +kernel
theorem dX8_askNumber_163 : decode cX8_askNumber 163 = .ok (.iload 12, 2) := by decide +kernel
theorem dX8_askNumber_165 : decode cX8_askNumber 165 = .ok (.istore 12, 2) := by decide +kernel
theorem dX8_askNumber_167 : decode cX8_askNumber 167 = .ok (.iinc 13 1, 3) := by decide +kernel
theorem dX8_askNumber_170 : decode cX8_askNumber 170 = .ok (.goto (-65), 3) := by decide +kernel
theorem dX8_askNumber_173 : decode cX8_askNumber 173 = .ok (.aload_n 0, 1) := by decide +kernel
theorem dX8_askNumber_174 : decode cX8_askNumber 174 = .ok (.getfield 31, 3) := by decide +kernel
theorem dX8_askNumber_177 : decode cX8_askNumber 177 = .ok (.iload 6, 2) := by decide +kernel
theorem dX8_askNumber_179 : decode cX8_askNumber 179 = .ok (.iload 7, 2) := by decide +kernel
theorem dX8_askNumber_181 : decode cX8_askNumber 181 = .ok (.iastore, 1) := by decide +kernel
theorem dX8_askNumber_182 : decode cX8_askNumber 182 = .ok (.aload_n 0, 1) := by decide +kernel
theorem dX8_askNumber_183 : decode cX8_askNumber 183 = .ok (.getfield 34, 3) := by decide +kernel
theorem dX8_askNumber_186 : decode cX8_askNumber 186 = .ok (.iload 6, 2) := by decide +kernel
theorem dX8_askNumber_188 : decode cX8_askNumber 188 = .ok (.iload 8, 2) := by decide +kernel
theorem dX8_askNumber_190 : decode cX8_askNumber 190 = .ok (.iastore, 1) := by decide +kernel
theorem dX8_askNumber_191 : decode cX8_askNumber 191 = .ok (.iload 11, 2) := by decide +kernel
theorem dX8_askNumber_193 : decode cX8_askNumber 193 = .ok (.ireturn, 1) := by decide +kernel
theorem dX8_baseTold_0 : decode cX8_baseTold 0 = .ok (.aload_n 0, 1) := by decide +kernel
theorem dX8_baseTold_1 : decode cX8_baseTold 1 = .ok (.aload_n 0, 1) := by decide +kernel
theorem dX8_baseTold_2 : decode cX8_baseTold 2 = .ok (.iload_n 1, 1) := by decide +kernel
theorem dX8_baseTold_3 : decode cX8_baseTold 3 = .ok (.iload_n 2, 1) := by decide +kernel
theorem dX8_baseTold_4 : decode cX8_baseTold 4 = .ok (.invokevirtual 131, 3) := by decide +kernel
theorem dX8_baseTold_7 : decode cX8_baseTold 7 = .ok (.ifCond .ne 7, 3) := by decide +kernel
theorem dX8_baseTold_10 : decode cX8_baseTold 10 = .ok (.iconst 1, 1) := by decide +kernel
theorem dX8_baseTold_11 : decode cX8_baseTold 11 = .ok (.goto 18, 3) := by decide +kernel
theorem dX8_baseTold_14 : decode cX8_baseTold 14 = .ok (.iload_n 3, 1) := by decide +kernel
theorem dX8_baseTold_15 : decode cX8_baseTold 15 = .ok (.iconst 0, 1) := by decide +kernel
theorem dX8_baseTold_16 : decode cX8_baseTold 16 = .ok (.bipush 6, 2) := by decide +kernel
theorem dX8_baseTold_18 : decode cX8_baseTold 18 = .ok (.invokestatic 110, 3) := by decide +kernel
theorem dX8_baseTold_21 : decode cX8_baseTold 21 = .ok (.ifCond .eq 7, 3) := by decide +kernel
theorem dX8_baseTold_24 : decode cX8_baseTold 24 = .ok (.iconst 0, 1) := by decide +kernel
theorem dX8_baseTold_25 : decode cX8_baseTold 25 = .ok (.goto 4, 3) := by decide +kernel
theorem dX8_baseTold_28 : decode cX8_baseTold 28 = .ok (.iconst 2, 1) := by decide +kernel
theorem dX8_baseTold_29 : decode cX8_baseTold 29 = .ok (.invokevirtual 128, 3) := by decide +kernel
theorem dX8_baseTold_32 : decode cX8_baseTold 32 = .ok (.ifCond .ne 5, 3) := by decide +kernel
theorem dX8_baseTold_35 : decode cX8_baseTold 35 = .ok (.iconst 0, 1) := by decide +kernel
theorem dX8_baseTold_36 : decode cX8_baseTold 36 = .ok (.ireturn, 1) := by decide +kernel
theorem dX8_baseTold_37 : decode cX8_baseTold 37 = .ok (.iconst 5, 1) := by decide +kernel
theorem dX8_baseTold_38 : decode cX8_baseTold 38 = .ok (.iload_n 1, 1) := by decide +kernel
theorem dX8_baseTold_39 : decode cX8_baseTold 39 = .ok (.imul, 1) := by decide +kernel
theorem dX8_baseTold_40 : decode cX8_baseTold 40 = .ok (.iload_n 2, 1) := by decide +kernel
theorem dX8_baseTold_41 : decode cX8_baseTold 41 = .ok (.iadd, 1) := by decide +kernel
theorem dX8_baseTold_42 : decode cX8_baseTold 42 = .ok (.istore 4, 2) := by decide +kernel
theorem dX8_baseTold_44 : decode cX8_baseTold 44 = .ok (.iload_n 3, 1) := by decide +kernel
theorem dX8_baseTold_45 : decode cX8_baseTold 45 = .ok (.tableswitch 87 0 5 #[39, 47, 55, 63, 71, 79], 39) := by decide +kernel
theorem dX8_baseTold_84 : decode cX8_baseTold 84 = .ok (.aload_n 0, 1) := by decide +kernel
theorem dX8_baseTold_85 : decode cX8_baseTold 85 = .ok (.getfield 22, 3) := by decide +kernel
theorem dX8_baseTold_88 : decode cX8_baseTold 88 = .ok (.iload 4, 2) := by decide +kernel
theorem dX8_baseTold_90 : decode cX8_baseTold 90 = .ok (.iaload, 1) := by decide +kernel
theorem dX8_baseTold_91 : decode cX8_baseTold 91 = .ok (.ireturn, 1) := by decide +kernel
theorem dX8_baseTold_92 : decode cX8_baseTold 92 = .ok (.aload_n 0, 1) := by decide +kernel
theorem dX8_baseTold_93 : decode cX8_baseTold 93 = .ok (.getfield 25, 3) := by decide +kernel
theorem dX8_baseTold_96 : decode cX8_baseTold 96 = .ok (.iload 4, 2) := by decide +kernel
theorem dX8_baseTold_98 : decode cX8_baseTold 98 = .ok (.iaload, 1) := by decide +kernel
theorem dX8_baseTold_99 : decode cX8_baseTold 99 = .ok (.ireturn, 1) := by decide +kernel
theorem dX8_baseTold_100 : decode cX8_baseTold 100 = .ok (.aload_n 0, 1) := by decide +kernel
theorem dX8_baseTold_101 : decode cX8_baseTold 101 = .ok (.getfield 28, 3) := by decide +kernel
theorem dX8_baseTold_104 : decode cX8_baseTold 104 = .ok (.iload 4, 2) := by decide +kernel
theorem dX8_baseTold_106 : decode cX8_baseTold 106 = .ok (.iaload, 1) := by decide +kernel
theorem dX8_baseTold_107 : decode cX8_baseTold 107 = .ok (.ireturn, 1) := by decide +kernel
theorem dX8_baseTold_108 : decode cX8_baseTold 108 = .ok (.aload_n 0, 1) := by decide +kernel
theorem dX8_baseTold_109 : decode cX8_baseTold 109 = .ok (.getfield 31, 3) := by decide +kernel
theorem dX8_baseTold_112 : decode cX8_baseTold 112 = .ok (.iload 4, 2) := by decide +kernel
theorem dX8_baseTold_114 : decode cX8_baseTold 114 = .ok (.iaload, 1) := by decide +kernel
theorem dX8_baseTold_115 : decode cX8_baseTold 115 = .ok (.ireturn, 1) := by decide +kernel
theorem dX8_baseTold_116 : decode cX8_baseTold 116 = .ok (.aload_n 0, 1) := by decide +kernel
theorem dX8_baseTold_117 : decode cX8_baseTold 117 = .ok (.getfield 34, 3) := by decide +kernel
theorem dX8_baseTold_120 : decode cX8_baseTold 120 = .ok (.iload 4, 2) := by decide +kernel
theorem dX8_baseTold_122 : decode cX8_baseTold 122 = .ok (.iaload, 1) := by decide +kernel
theorem dX8_baseTold_123 : decode cX8_baseTold 123 = .ok (.ireturn, 1) := by decide +kernel
theorem dX8_baseTold_124 : decode cX8_baseTold 124 = .ok (.aload_n 0, 1) := by decide +kernel
theorem dX8_baseTold_125 : decode cX8_baseTold 125 = .ok (.getfield 37, 3) := by decide +kernel
theorem dX8_baseTold_128 : decode cX8_baseTold 128 = .ok (.iload 4, 2) := by decide +kernel
theorem dX8_baseTold_130 : decode cX8_baseTold 130 = .ok (.iaload, 1) := by decide +kernel
theorem dX8_baseTold_131 : decode cX8_baseTold 131 = .ok (.ireturn, 1) := by decide +kernel
theorem dX8_baseTold_132 : decode cX8_baseTold 132 = .ok (.aload_n 0, 1) := by decide +kernel
theorem dX8_baseTold_133 : decode cX8_baseTold 133 = .ok (.getfield 40, 3) := by decide +kernel
theorem dX8_baseTold_136 : decode cX8_baseTold 136 = .ok (.iload 4, 2) := by decide +kernel
theorem dX8_baseTold_138 : decode cX8_baseTold 138 = .ok (.iaload, 1) := by decide +kernel
theorem dX8_baseTold_139 : decode cX8_baseTold 139 = .ok (.ireturn, 1) := by decide +kernel
theorem dX8_numberOf_0 : decode cX8_numberOf 0 = .ok (.aload_n 0, 1) := by decide +kernel
theorem dX8_numberOf_1 : decode cX8_numberOf 1 = .ok (.iload_n 1, 1) := by decide +kernel
theorem dX8_numberOf_2 : decode cX8_numberOf 2 = .ok (.invokestatic 114, 3) := by decide +kernel
theorem dX8_numberOf_5 : decode cX8_numberOf 5 = .ok (.ifCond .eq 14, 3) := by decide +kernel
theorem dX8_numberOf_8 : decode cX8_numberOf 8 = .ok (.iload_n 2, 1) := by decide +kernel
theorem dX8_numberOf_9 : decode cX8_numberOf 9 = .ok (.invokestatic 118, 3) := by decide +kernel
theorem dX8_numberOf_12 : decode cX8_numberOf 12 = .ok (.ifCond .eq 7, 3) := by decide +kernel
theorem dX8_numberOf_15 : decode cX8_numberOf 15 = .ok (.iconst 0, 1) := by decide +kernel
theorem dX8_numberOf_16 : decode cX8_numberOf 16 = .ok (.goto 4, 3) := by decide +kernel
theorem dX8_numberOf_19 : decode cX8_numberOf 19 = .ok (.iconst 1, 1) := by decide +kernel
theorem dX8_numberOf_20 : decode cX8_numberOf 20 = .ok (.invokevirtual 128, 3) := by decide +kernel
theorem dX8_numberOf_23 : decode cX8_numberOf 23 = .ok (.ifCond .ne 5, 3) := by decide +kernel
theorem dX8_numberOf_26 : decode cX8_numberOf 26 = .ok (.iconst 0, 1) := by decide +kernel
theorem dX8_numberOf_27 : decode cX8_numberOf 27 = .ok (.ireturn, 1) := by decide +kernel
theorem dX8_numberOf_28 : decode cX8_numberOf 28 = .ok (.sipush 10000, 3) := by decide +kernel
theorem dX8_numberOf_31 : decode cX8_numberOf 31 = .ok (.istore_n 3, 1) := by decide +kernel
theorem dX8_numberOf_32 : decode cX8_numberOf 32 = .ok (.bipush 40, 2) := by decide +kernel
theorem dX8_numberOf_34 : decode cX8_numberOf 34 = .ok (.iload_n 1, 1) := by decide +kernel
theorem dX8_numberOf_35 : decode cX8_numberOf 35 = .ok (.imul, 1) := by decide +kernel
theorem dX8_numberOf_36 : decode cX8_numberOf 36 = .ok (.istore 4, 2) := by decide +kernel
theorem dX8_numberOf_38 : decode cX8_numberOf 38 = .ok (.iload 4, 2) := by decide +kernel
theorem dX8_numberOf_40 : decode cX8_numberOf 40 = .ok (.bipush 40, 2) := by decide +kernel
theorem dX8_numberOf_42 : decode cX8_numberOf 42 = .ok (.iload_n 1, 1) := by decide +kernel
theorem dX8_numberOf_43 : decode cX8_numberOf 43 = .ok (.imul, 1) := by decide +kernel
theorem dX8_numberOf_44 : decode cX8_numberOf 44 = .ok (.aload_n 0, 1) := by decide +kernel
theorem dX8_numberOf_45 : decode cX8_numberOf 45 = .ok (.getfield 7, 3) := by decide +kernel
theorem dX8_numberOf_48 : decode cX8_numberOf 48 = .ok (.iload_n 1, 1) := by decide +kernel
theorem dX8_numberOf_49 : decode cX8_numberOf 49 = .ok (.iaload, 1) := by decide +kernel
theorem dX8_numberOf_50 : decode cX8_numberOf 50 = .ok (.iadd, 1) := by decide +kernel
theorem dX8_numberOf_51 : decode cX8_numberOf 51 = .ok (.if_icmp .ge 43, 3) := by decide +kernel
theorem dX8_numberOf_54 : decode cX8_numberOf 54 = .ok (.aload_n 0, 1) := by decide +kernel
theorem dX8_numberOf_55 : decode cX8_numberOf 55 = .ok (.getfield 16, 3) := by decide +kernel
theorem dX8_numberOf_58 : decode cX8_numberOf 58 = .ok (.iload 4, 2) := by decide +kernel
theorem dX8_numberOf_60 : decode cX8_numberOf 60 = .ok (.iaload, 1) := by decide +kernel
theorem dX8_numberOf_61 : decode cX8_numberOf 61 = .ok (.iload_n 2, 1) := by decide +kernel
theorem dX8_numberOf_62 : decode cX8_numberOf 62 = .ok (.if_icmp .ne 24, 3) := by decide +kernel
theorem dX8_numberOf_65 : decode cX8_numberOf 65 = .ok (.aload_n 0, 1) := by decide +kernel
theorem dX8_numberOf_66 : decode cX8_numberOf 66 = .ok (.getfield 13, 3) := by decide +kernel
theorem dX8_numberOf_69 : decode cX8_numberOf 69 = .ok (.iload 4, 2) := by decide +kernel
theorem dX8_numberOf_71 : decode cX8_numberOf 71 = .ok (.iaload, 1) := by decide +kernel
theorem dX8_numberOf_72 : decode cX8_numberOf 72 = .ok (.iload_n 3, 1) := by decide +kernel
theorem dX8_numberOf_73 : decode cX8_numberOf 73 = .ok (.if_icmp .ge 13, 3) := by decide +kernel
theorem dX8_numberOf_76 : decode cX8_numberOf 76 = .ok (.aload_n 0, 1) := by decide +kernel
theorem dX8_numberOf_77 : decode cX8_numberOf 77 = .ok (.getfield 13, 3) := by decide +kernel
theorem dX8_numberOf_80 : decode cX8_numberOf 80 = .ok (.iload 4, 2) := by decide +kernel
theorem dX8_numberOf_82 : decode cX8_numberOf 82 = .ok (.iaload, 1) := by decide +kernel
theorem dX8_numberOf_83 : decode cX8_numberOf 83 = .ok (.goto 4, 3) := by decide +kernel
theorem dX8_numberOf_86 : decode cX8_numberOf 86 = .ok (.iload_n 3, 1) := by decide +kernel
theorem dX8_numberOf_87 : decode cX8_numberOf 87 = .ok (.istore_n 3, 1) := by decide +kernel
theorem dX8_numberOf_88 : decode cX8_numberOf 88 = .ok (.iinc 4 1, 3) := by decide +kernel
theorem dX8_numberOf_91 : decode cX8_numberOf 91 = .ok (.goto (-53), 3) := by decide +kernel
theorem dX8_numberOf_94 : decode cX8_numberOf 94 = .ok (.iconst 5, 1) := by decide +kernel
theorem dX8_numberOf_95 : decode cX8_numberOf 95 = .ok (.iload_n 1, 1) := by decide +kernel
theorem dX8_numberOf_96 : decode cX8_numberOf 96 = .ok (.imul, 1) := by decide +kernel
theorem dX8_numberOf_97 : decode cX8_numberOf 97 = .ok (.istore 4, 2) := by decide +kernel
theorem dX8_numberOf_99 : decode cX8_numberOf 99 = .ok (.iload 4, 2) := by decide +kernel
theorem dX8_numberOf_101 : decode cX8_numberOf 101 = .ok (.iconst 5, 1) := by decide +kernel
theorem dX8_numberOf_102 : decode cX8_numberOf 102 = .ok (.iload_n 1, 1) := by decide +kernel
theorem dX8_numberOf_103 : decode cX8_numberOf 103 = .ok (.imul, 1) := by decide +kernel
theorem dX8_numberOf_104 : decode cX8_numberOf 104 = .ok (.aload_n 0, 1) := by decide +kernel
theorem dX8_numberOf_105 : decode cX8_numberOf 105 = .ok (.getfield 19, 3) := by decide +kernel
theorem dX8_numberOf_108 : decode cX8_numberOf 108 = .ok (.iload_n 1, 1) := by decide +kernel
theorem dX8_numberOf_109 : decode cX8_numberOf 109 = .ok (.iaload, 1) := by decide +kernel
theorem dX8_numberOf_110 : decode cX8_numberOf 110 = .ok (.iadd, 1) := by decide +kernel
theorem dX8_numberOf_111 : decode cX8_numberOf 111 = .ok (.if_icmp .ge 43, 3) := by decide +kernel
theorem dX8_numberOf_114 : decode cX8_numberOf 114 = .ok (.aload_n 0, 1) := by decide +kernel
theorem dX8_numberOf_115 : decode cX8_numberOf 115 = .ok (.getfield 25, 3) := by decide +kernel
theorem dX8_numberOf_118 : decode cX8_numberOf 118 = .ok (.iload 4, 2) := by decide +kernel
theorem dX8_numberOf_120 : decode cX8_numberOf 120 = .ok (.iaload, 1) := by decide +kernel
theorem dX8_numberOf_121 : decode cX8_numberOf 121 = .ok (.iload_n 2, 1) := by decide +kernel
theorem dX8_numberOf_122 : decode cX8_numberOf 122 = .ok (.if_icmp .ne 24, 3) := by decide +kernel
theorem dX8_numberOf_125 : decode cX8_numberOf 125 = .ok (.aload_n 0, 1) := by decide +kernel
theorem dX8_numberOf_126 : decode cX8_numberOf 126 = .ok (.getfield 22, 3) := by decide +kernel
theorem dX8_numberOf_129 : decode cX8_numberOf 129 = .ok (.iload 4, 2) := by decide +kernel
theorem dX8_numberOf_131 : decode cX8_numberOf 131 = .ok (.iaload, 1) := by decide +kernel
theorem dX8_numberOf_132 : decode cX8_numberOf 132 = .ok (.iload_n 3, 1) := by decide +kernel
theorem dX8_numberOf_133 : decode cX8_numberOf 133 = .ok (.if_icmp .ge 13, 3) := by decide +kernel
theorem dX8_numberOf_136 : decode cX8_numberOf 136 = .ok (.aload_n 0, 1) := by decide +kernel
theorem dX8_numberOf_137 : decode cX8_numberOf 137 = .ok (.getfield 22, 3) := by decide +kernel
theorem dX8_numberOf_140 : decode cX8_numberOf 140 = .ok (.iload 4, 2) := by decide +kernel
theorem dX8_numberOf_142 : decode cX8_numberOf 142 = .ok (.iaload, 1) := by decide +kernel
theorem dX8_numberOf_143 : decode cX8_numberOf 143 = .ok (.goto 4, 3) := by decide +kernel
theorem dX8_numberOf_146 : decode cX8_numberOf 146 = .ok (.iload_n 3, 1) := by decide +kernel
theorem dX8_numberOf_147 : decode cX8_numberOf 147 = .ok (.istore_n 3, 1) := by decide +kernel
theorem dX8_numberOf_148 : decode cX8_numberOf 148 = .ok (.iinc 4 1, 3) := by decide +kernel
theorem dX8_numberOf_151 : decode cX8_numberOf 151 = .ok (.goto (-52), 3) := by decide +kernel
theorem dX8_numberOf_154 : decode cX8_numberOf 154 = .ok (.iload_n 3, 1) := by decide +kernel
theorem dX8_numberOf_155 : decode cX8_numberOf 155 = .ok (.sipush 10000, 3) := by decide +kernel
theorem dX8_numberOf_158 : decode cX8_numberOf 158 = .ok (.if_icmp .ne 7, 3) := by decide +kernel
theorem dX8_numberOf_161 : decode cX8_numberOf 161 = .ok (.iconst (-1), 1) := by decide +kernel
theorem dX8_numberOf_162 : decode cX8_numberOf 162 = .ok (.goto 4, 3) := by decide +kernel
theorem dX8_numberOf_165 : decode cX8_numberOf 165 = .ok (.iload_n 3, 1) := by decide +kernel
theorem dX8_numberOf_166 : decode cX8_numberOf 166 = .ok (.ireturn, 1) := by decide +kernel
theorem dX8_isCord_0 : decode cX8_isCord 0 = .ok (.iload_n 0, 1) := by decide +kernel
theorem dX8_isCord_1 : decode cX8_isCord 1 = .ok (.iconst 0, 1) := by decide +kernel
theorem dX8_isCord_2 : decode cX8_isCord 2 = .ok (.iconst 5, 1) := by decide +kernel
theorem dX8_isCord_3 : decode cX8_isCord 3 = .ok (.invokestatic 110, 3) := by decide +kernel
theorem dX8_isCord_6 : decode cX8_isCord 6 = .ok (.ireturn, 1) := by decide +kernel
theorem dX8_cord_0 : decode cX8_cord 0 = .ok (.aload_n 0, 1) := by decide +kernel
theorem dX8_cord_1 : decode cX8_cord 1 = .ok (.iload_n 1, 1) := by decide +kernel
theorem dX8_cord_2 : decode cX8_cord 2 = .ok (.invokestatic 245, 3) := by decide +kernel
theorem dX8_cord_5 : decode cX8_cord 5 = .ok (.ifCond .ne 7, 3) := by decide +kernel
theorem dX8_cord_8 : decode cX8_cord 8 = .ok (.iconst 1, 1) := by decide +kernel
theorem dX8_cord_9 : decode cX8_cord 9 = .ok (.goto 18, 3) := by decide +kernel
theorem dX8_cord_12 : decode cX8_cord 12 = .ok (.iload_n 2, 1) := by decide +kernel
theorem dX8_cord_13 : decode cX8_cord 13 = .ok (.iconst 2, 1) := by decide +kernel
theorem dX8_cord_14 : decode cX8_cord 14 = .ok (.bipush 60, 2) := by decide +kernel
theorem dX8_cord_16 : decode cX8_cord 16 = .ok (.invokestatic 110, 3) := by decide +kernel
theorem dX8_cord_19 : decode cX8_cord 19 = .ok (.ifCond .eq 7, 3) := by decide +kernel
theorem dX8_cord_22 : decode cX8_cord 22 = .ok (.iconst 0, 1) := by decide +kernel
theorem dX8_cord_23 : decode cX8_cord 23 = .ok (.goto 4, 3) := by decide +kernel
theorem dX8_cord_26 : decode cX8_cord 26 = .ok (.iconst 2, 1) := by decide +kernel
theorem dX8_cord_27 : decode cX8_cord 27 = .ok (.invokevirtual 128, 3) := by decide +kernel
theorem dX8_cord_30 : decode cX8_cord 30 = .ok (.ifCond .ne 5, 3) := by decide +kernel
theorem dX8_cord_33 : decode cX8_cord 33 = .ok (.iconst 0, 1) := by decide +kernel
theorem dX8_cord_34 : decode cX8_cord 34 = .ok (.ireturn, 1) := by decide +kernel
theorem dX8_cord_35 : decode cX8_cord 35 = .ok (.aload_n 0, 1) := by decide +kernel
theorem dX8_cord_36 : decode cX8_cord 36 = .ok (.getfield 97, 3) := by decide +kernel
theorem dX8_cord_39 : decode cX8_cord 39 = .ok (.iload_n 1, 1) := by decide +kernel
theorem dX8_cord_40 : decode cX8_cord 40 = .ok (.iaload, 1) := by decide +kernel
theorem dX8_cord_41 : decode cX8_cord 41 = .ok (.istore_n 3, 1) := by decide +kernel
theorem dX8_cord_42 : decode cX8_cord 42 = .ok (.aload_n 0, 1) := by decide +kernel
theorem dX8_cord_43 : decode cX8_cord 43 = .ok (.getfield 97, 3) := by decide +kernel
theorem dX8_cord_46 : decode cX8_cord 46 = .ok (.iload_n 1, 1) := by decide +kernel
theorem dX8_cord_47 : decode cX8_cord 47 = .ok (.iload_n 2, 1) := by decide +kernel
theorem dX8_cord_48 : decode cX8_cord 48 = .ok (.iastore, 1) := by decide +kernel
theorem dX8_cord_49 : decode cX8_cord 49 = .ok (.iconst 0, 1) := by decide +kernel
theorem dX8_cord_50 : decode cX8_cord 50 = .ok (.istore 4, 2) := by decide +kernel
theorem dX8_cord_52 : decode cX8_cord 52 = .ok (.iload 4, 2) := by decide +kernel
theorem dX8_cord_54 : decode cX8_cord 54 = .ok (.bipush 6, 2) := by decide +kernel
theorem dX8_cord_56 : decode cX8_cord 56 = .ok (.if_icmp .ge 17, 3) := by decide +kernel
theorem dX8_cord_59 : decode cX8_cord 59 = .ok (.aload_n 0, 1) := by decide +kernel
theorem dX8_cord_60 : decode cX8_cord 60 = .ok (.getfield 100, 3) := by decide +kernel
theorem dX8_cord_63 : decode cX8_cord 63 = .ok (.iload 4, 2) := by decide +kernel
theorem dX8_cord_65 : decode cX8_cord 65 = .ok (.iconst 0, 1) := by decide +kernel
theorem dX8_cord_66 : decode cX8_cord 66 = .ok (.iastore, 1) := by decide +kernel
theorem dX8_cord_67 : decode cX8_cord 67 = .ok (.iinc 4 1, 3) := by decide +kernel
theorem dX8_cord_70 : decode cX8_cord 70 = .ok (.goto (-18), 3) := by decide +kernel
theorem dX8_cord_73 : decode cX8_cord 73 = .ok (.aload_n 0, 1) := by decide +kernel
theorem dX8_cord_74 : decode cX8_cord 74 = .ok (.lconst 0, 1) := by decide +kernel
theorem dX8_cord_75 : decode cX8_cord 75 = .ok (.putfield 248, 3) := by decide +kernel
theorem dX8_cord_78 : decode cX8_cord 78 = .ok (.iload_n 3, 1) := by decide +kernel
theorem dX8_cord_79 : decode cX8_cord 79 = .ok (.ireturn, 1) := by decide +kernel
theorem dX8_count_0 : decode cX8_count 0 = .ok (.aload_n 0, 1) := by decide +kernel
theorem dX8_count_1 : decode cX8_count 1 = .ok (.iconst 0, 1) := by decide +kernel
theorem dX8_count_2 : decode cX8_count 2 = .ok (.putfield 106, 3) := by decide +kernel
theorem dX8_count_5 : decode cX8_count 5 = .ok (.lload_n 1, 1) := by decide +kernel
theorem dX8_count_6 : decode cX8_count 6 = .ok (.lstore_n 3, 1) := by decide +kernel
theorem dX8_count_7 : decode cX8_count 7 = .ok (.iconst 0, 1) := by decide +kernel
theorem dX8_count_8 : decode cX8_count 8 = .ok (.istore 5, 2) := by decide +kernel
theorem dX8_count_10 : decode cX8_count 10 = .ok (.iload 5, 2) := by decide +kernel
theorem dX8_count_12 : decode cX8_count 12 = .ok (.bipush 6, 2) := by decide +kernel
theorem dX8_count_14 : decode cX8_count 14 = .ok (.if_icmp .ge 121, 3) := by decide +kernel
theorem dX8_count_17 : decode cX8_count 17 = .ok (.lload_n 3, 1) := by decide +kernel
theorem dX8_count_18 : decode cX8_count 18 = .ok (.aload_n 0, 1) := by decide +kernel
theorem dX8_count_19 : decode cX8_count 19 = .ok (.getfield 97, 3) := by decide +kernel
theorem dX8_count_22 : decode cX8_count 22 = .ok (.iload 5, 2) := by decide +kernel
theorem dX8_count_24 : decode cX8_count 24 = .ok (.iaload, 1) := by decide +kernel
theorem dX8_count_25 : decode cX8_count 25 = .ok (.i2l, 1) := by decide +kernel
theorem dX8_count_26 : decode cX8_count 26 = .ok (.lrem, 1) := by decide +kernel
theorem dX8_count_27 : decode cX8_count 27 = .ok (.lstore 6, 2) := by decide +kernel
theorem dX8_count_29 : decode cX8_count 29 = .ok (.lload_n 3, 1) := by decide +kernel
theorem dX8_count_30 : decode cX8_count 30 = .ok (.aload_n 0, 1) := by decide +kernel
theorem dX8_count_31 : decode cX8_count 31 = .ok (.getfield 97, 3) := by decide +kernel
theorem dX8_count_34 : decode cX8_count 34 = .ok (.iload 5, 2) := by decide +kernel
theorem dX8_count_36 : decode cX8_count 36 = .ok (.iaload, 1) := by decide +kernel
theorem dX8_count_37 : decode cX8_count 37 = .ok (.i2l, 1) := by decide +kernel
theorem dX8_count_38 : decode cX8_count 38 = .ok (.ldiv, 1) := by decide +kernel
theorem dX8_count_39 : decode cX8_count 39 = .ok (.lstore 8, 2) := by decide +kernel
theorem dX8_count_41 : decode cX8_count 41 = .ok (.lload 8, 2) := by decide +kernel
theorem dX8_count_43 : decode cX8_count 43 = .ok (.lload 6, 2) := by decide +kernel
theorem dX8_count_45 : decode cX8_count 45 = .ok (.lconst 0, 1) := by decide +kernel
theorem dX8_count_46 : decode cX8_count 46 = .ok (.lcmp, 1) := by decide +kernel
theorem dX8_count_47 : decode cX8_count 47 = .ok (.ifCond .ge 7, 3) := by decide +kernel
theorem dX8_count_50 : decode cX8_count 50 = .ok (.lconst 1, 1) := by decide +kernel
theorem dX8_count_51 : decode cX8_count 51 = .ok (.goto 4, 3) := by decide +kernel
theorem dX8_count_54 : decode cX8_count 54 = .ok (.lconst 0, 1) := by decide +kernel
theorem dX8_count_55 : decode cX8_count 55 = .ok (.lsub, 1) := by decide +kernel
theorem dX8_count_56 : decode cX8_count 56 = .ok (.lstore 8, 2) := by decide +kernel
theorem dX8_count_58 : decode cX8_count 58 = .ok (.lload 6, 2) := by decide +kernel
theorem dX8_count_60 : decode cX8_count 60 = .ok (.lload 6, 2) := by decide +kernel
theorem dX8_count_62 : decode cX8_count 62 = .ok (.lconst 0, 1) := by decide +kernel
theorem dX8_count_63 : decode cX8_count 63 = .ok (.lcmp, 1) := by decide +kernel
theorem dX8_count_64 : decode cX8_count 64 = .ok (.ifCond .ge 14, 3) := by decide +kernel
theorem dX8_count_67 : decode cX8_count 67 = .ok (.aload_n 0, 1) := by decide +kernel
theorem dX8_count_68 : decode cX8_count 68 = .ok (.getfield 97, 3) := by decide +kernel
theorem dX8_count_71 : decode cX8_count 71 = .ok (.iload 5, 2) := by decide +kernel
theorem dX8_count_73 : decode cX8_count 73 = .ok (.iaload, 1) := by decide +kernel
theorem dX8_count_74 : decode cX8_count 74 = .ok (.i2l, 1) := by decide +kernel
theorem dX8_count_75 : decode cX8_count 75 = .ok (.goto 4, 3) := by decide +kernel
theorem dX8_count_78 : decode cX8_count 78 = .ok (.lconst 0, 1) := by decide +kernel
theorem dX8_count_79 : decode cX8_count 79 = .ok (.ladd, 1) := by decide +kernel
theorem dX8_count_80 : decode cX8_count 80 = .ok (.lstore 6, 2) := by decide +kernel
theorem dX8_count_82 : decode cX8_count 82 = .ok (.lload 6, 2) := by decide +kernel
theorem dX8_count_84 : decode cX8_count 84 = .ok (.aload_n 0, 1) := by decide +kernel
theorem dX8_count_85 : decode cX8_count 85 = .ok (.getfield 100, 3) := by decide +kernel
theorem dX8_count_88 : decode cX8_count 88 = .ok (.iload 5, 2) := by decide +kernel
theorem dX8_count_90 : decode cX8_count 90 = .ok (.iaload, 1) := by decide +kernel
theorem dX8_count_91 : decode cX8_count 91 = .ok (.i2l, 1) := by decide +kernel
theorem dX8_count_92 : decode cX8_count 92 = .ok (.ladd, 1) := by decide +kernel
theorem dX8_count_93 : decode cX8_count 93 = .ok (.lstore 6, 2) := by decide +kernel
theorem dX8_count_95 : decode cX8_count 95 = .ok (.aload_n 0, 1) := by decide +kernel
theorem dX8_count_96 : decode cX8_count 96 = .ok (.getfield 100, 3) := by decide +kernel
theorem dX8_count_99 : decode cX8_count 99 = .ok (.iload 5, 2) := by decide +kernel
theorem dX8_count_101 : decode cX8_count 101 = .ok (.lload 6, 2) := by decide +kernel
theorem dX8_count_103 : decode cX8_count 103 = .ok (.aload_n 0, 1) := by decide +kernel
theorem dX8_count_104 : decode cX8_count 104 = .ok (.getfield 97, 3) := by decide +kernel
theorem dX8_count_107 : decode cX8_count 107 = .ok (.iload 5, 2) := by decide +kernel
theorem dX8_count_109 : decode cX8_count 109 = .ok (.iaload, 1) := by decide +kernel
theorem dX8_count_110 : decode cX8_count 110 = .ok (.i2l, 1) := by decide +kernel
theorem dX8_count_111 : decode cX8_count 111 = .ok (.lrem, 1) := by decide +kernel
theorem dX8_count_112 : decode cX8_count 112 = .ok (.l2i, 1) := by decide +kernel
theorem dX8_count_113 : decode cX8_count 113 = .ok (.iastore, 1) := by decide +kernel
theorem dX8_count_114 : decode cX8_count 114 = .ok (.lload 8, 2) := by decide +kernel
theorem dX8_count_116 : decode cX8_count 116 = .ok (.lload 6, 2) := by decide +kernel
theorem dX8_count_118 : decode cX8_count 118 = .ok (.aload_n 0, 1) := by decide +kernel
theorem dX8_count_119 : decode cX8_count 119 = .ok (.getfield 97, 3) := by decide +kernel
theorem dX8_count_122 : decode cX8_count 122 = .ok (.iload 5, 2) := by decide +kernel
theorem dX8_count_124 : decode cX8_count 124 = .ok (.iaload, 1) := by decide +kernel
theorem dX8_count_125 : decode cX8_count 125 = .ok (.i2l, 1) := by decide +kernel
theorem dX8_count_126 : decode cX8_count 126 = .ok (.ldiv, 1) := by decide +kernel
theorem dX8_count_127 : decode cX8_count 127 = .ok (.ladd, 1) := by decide +kernel
theorem dX8_count_128 : decode cX8_count 128 = .ok (.lstore_n 3, 1) := by decide +kernel
theorem dX8_count_129 : decode cX8_count 129 = .ok (.iinc 5 1, 3) := by decide +kernel
theorem dX8_count_132 : decode cX8_count 132 = .ok (.goto (-122), 3) := by decide +kernel
theorem dX8_count_135 : decode cX8_count 135 = .ok (.aload_n 0, 1) := by decide +kernel
theorem dX8_count_136 : decode cX8_count 136 = .ok (.dup, 1) := by decide +kernel
theorem dX8_count_137 : decode cX8_count 137 = .ok (.getfield 248, 3) := by decide +kernel
theorem dX8_count_140 : decode cX8_count 140 = .ok (.lload_n 3, 1) := by decide +kernel
theorem dX8_count_141 : decode cX8_count 141 = .ok (.ladd, 1) := by decide +kernel
theorem dX8_count_142 : decode cX8_count 142 = .ok (.putfield 248, 3) := by decide +kernel
theorem dX8_count_145 : decode cX8_count 145 = .ok (.lload_n 3, 1) := by decide +kernel
theorem dX8_count_146 : decode cX8_count 146 = .ok (.lreturn, 1) := by decide +kernel
theorem dX8_knots_0 : decode cX8_knots 0 = .ok (.aload_n 0, 1) := by decide +kernel
theorem dX8_knots_1 : decode cX8_knots 1 = .ok (.iload_n 1, 1) := by decide +kernel
theorem dX8_knots_2 : decode cX8_knots 2 = .ok (.invokestatic 245, 3) := by decide +kernel
theorem dX8_knots_5 : decode cX8_knots 5 = .ok (.ifCond .eq 7, 3) := by decide +kernel
theorem dX8_knots_8 : decode cX8_knots 8 = .ok (.iconst 0, 1) := by decide +kernel
theorem dX8_knots_9 : decode cX8_knots 9 = .ok (.goto 4, 3) := by decide +kernel
theorem dX8_knots_12 : decode cX8_knots 12 = .ok (.iconst 1, 1) := by decide +kernel
theorem dX8_knots_13 : decode cX8_knots 13 = .ok (.invokevirtual 128, 3) := by decide +kernel
theorem dX8_knots_16 : decode cX8_knots 16 = .ok (.ifCond .eq 12, 3) := by decide +kernel
theorem dX8_knots_19 : decode cX8_knots 19 = .ok (.aload_n 0, 1) := by decide +kernel
theorem dX8_knots_20 : decode cX8_knots 20 = .ok (.getfield 100, 3) := by decide +kernel
theorem dX8_knots_23 : decode cX8_knots 23 = .ok (.iload_n 1, 1) := by decide +kernel
theorem dX8_knots_24 : decode cX8_knots 24 = .ok (.iaload, 1) := by decide +kernel
theorem dX8_knots_25 : decode cX8_knots 25 = .ok (.goto 4, 3) := by decide +kernel
theorem dX8_knots_28 : decode cX8_knots 28 = .ok (.iconst 0, 1) := by decide +kernel
theorem dX8_knots_29 : decode cX8_knots 29 = .ok (.ireturn, 1) := by decide +kernel
theorem dX8_lost_0 : decode cX8_lost 0 = .ok (.aload_n 0, 1) := by decide +kernel
theorem dX8_lost_1 : decode cX8_lost 1 = .ok (.iconst 0, 1) := by decide +kernel
theorem dX8_lost_2 : decode cX8_lost 2 = .ok (.putfield 106, 3) := by decide +kernel
theorem dX8_lost_5 : decode cX8_lost 5 = .ok (.aload_n 0, 1) := by decide +kernel
theorem dX8_lost_6 : decode cX8_lost 6 = .ok (.getfield 248, 3) := by decide +kernel
theorem dX8_lost_9 : decode cX8_lost 9 = .ok (.lreturn, 1) := by decide +kernel
theorem dX8_shown_0 : decode cX8_shown 0 = .ok (.aload_n 0, 1) := by decide +kernel
theorem dX8_shown_1 : decode cX8_shown 1 = .ok (.iconst 0, 1) := by decide +kernel
theorem dX8_shown_2 : decode cX8_shown 2 = .ok (.putfield 106, 3) := by decide +kernel
theorem dX8_shown_5 : decode cX8_shown 5 = .ok (.lconst 0, 1) := by decide +kernel
theorem dX8_shown_6 : decode cX8_shown 6 = .ok (.lstore_n 1, 1) := by decide +kernel
theorem dX8_shown_7 : decode cX8_shown 7 = .ok (.iconst 5, 1) := by decide +kernel
theorem dX8_shown_8 : decode cX8_shown 8 = .ok (.istore_n 3, 1) := by decide +kernel
theorem dX8_shown_9 : decode cX8_shown 9 = .ok (.iload_n 3, 1) := by decide +kernel
theorem dX8_shown_10 : decode cX8_shown 10 = .ok (.ifCond .lt 27, 3) := by decide +kernel
theorem dX8_shown_13 : decode cX8_shown 13 = .ok (.lload_n 1, 1) := by decide +kernel
theorem dX8_shown_14 : decode cX8_shown 14 = .ok (.aload_n 0, 1) := by decide +kernel
theorem dX8_shown_15 : decode cX8_shown 15 = .ok (.getfield 97, 3) := by decide +kernel
theorem dX8_shown_18 : decode cX8_shown 18 = .ok (.iload_n 3, 1) := by decide +kernel
theorem dX8_shown_19 : decode cX8_shown 19 = .ok (.iaload, 1) := by decide +kernel
theorem dX8_shown_20 : decode cX8_shown 20 = .ok (.i2l, 1) := by decide +kernel
theorem dX8_shown_21 : decode cX8_shown 21 = .ok (.lmul, 1) := by decide +kernel
theorem dX8_shown_22 : decode cX8_shown 22 = .ok (.aload_n 0, 1) := by decide +kernel
theorem dX8_shown_23 : decode cX8_shown 23 = .ok (.getfield 100, 3) := by decide +kernel
theorem dX8_shown_26 : decode cX8_shown 26 = .ok (.iload_n 3, 1) := by decide +kernel
theorem dX8_shown_27 : decode cX8_shown 27 = .ok (.iaload, 1) := by decide +kernel
theorem dX8_shown_28 : decode cX8_shown 28 = .ok (.i2l, 1) := by decide +kernel
theorem dX8_shown_29 : decode cX8_shown 29 = .ok (.ladd, 1) := by decide +kernel
theorem dX8_shown_30 : decode cX8_shown 30 = .ok (.lstore_n 1, 1) := by decide +kernel
theorem dX8_shown_31 : decode cX8_shown 31 = .ok (.iinc 3 (-1), 3) := by decide +kernel
theorem dX8_shown_34 : decode cX8_shown 34 = .ok (.goto (-25), 3) := by decide +kernel
theorem dX8_shown_37 : decode cX8_shown 37 = .ok (.lload_n 1, 1) := by decide +kernel
theorem dX8_shown_38 : decode cX8_shown 38 = .ok (.lreturn, 1) := by decide +kernel
theorem dJ9_floorDiv_f86c9_0 : decode cJ9_floorDiv_f86c9 0 = .ok (.lload_n 0, 1) := by decide +kernel
theorem dJ9_floorDiv_f86c9_1 : decode cJ9_floorDiv_f86c9 1 = .ok (.lload_n 2, 1) := by decide +kernel
theorem dJ9_floorDiv_f86c9_2 : decode cJ9_floorDiv_f86c9 2 = .ok (.ldiv, 1) := by decide +kernel
theorem dJ9_floorDiv_f86c9_3 : decode cJ9_floorDiv_f86c9 3 = .ok (.lstore 4, 2) := by decide +kernel
theorem dJ9_floorDiv_f86c9_5 : decode cJ9_floorDiv_f86c9 5 = .ok (.lload_n 0, 1) := by decide +kernel
theorem dJ9_floorDiv_f86c9_6 : decode cJ9_floorDiv_f86c9 6 = .ok (.lload_n 2, 1) := by decide +kernel
theorem dJ9_floorDiv_f86c9_7 : decode cJ9_floorDiv_f86c9 7 = .ok (.lxor, 1) := by decide +kernel
theorem dJ9_floorDiv_f86c9_8 : decode cJ9_floorDiv_f86c9 8 = .ok (.lconst 0, 1) := by decide +kernel
theorem dJ9_floorDiv_f86c9_9 : decode cJ9_floorDiv_f86c9 9 = .ok (.lcmp, 1) := by decide +kernel
theorem dJ9_floorDiv_f86c9_10 : decode cJ9_floorDiv_f86c9 10 = .ok (.ifCond .ge 17, 3) := by decide +kernel
theorem dJ9_floorDiv_f86c9_13 : decode cJ9_floorDiv_f86c9 13 = .ok (.lload 4, 2) := by decide +kernel
theorem dJ9_floorDiv_f86c9_15 : decode cJ9_floorDiv_f86c9 15 = .ok (.lload_n 2, 1) := by decide +kernel
theorem dJ9_floorDiv_f86c9_16 : decode cJ9_floorDiv_f86c9 16 = .ok (.lmul, 1) := by decide +kernel
theorem dJ9_floorDiv_f86c9_17 : decode cJ9_floorDiv_f86c9 17 = .ok (.lload_n 0, 1) := by decide +kernel
theorem dJ9_floorDiv_f86c9_18 : decode cJ9_floorDiv_f86c9 18 = .ok (.lcmp, 1) := by decide +kernel
theorem dJ9_floorDiv_f86c9_19 : decode cJ9_floorDiv_f86c9 19 = .ok (.ifCond .eq 8, 3) := by decide +kernel
theorem dJ9_floorDiv_f86c9_22 : decode cJ9_floorDiv_f86c9 22 = .ok (.lload 4, 2) := by decide +kernel
theorem dJ9_floorDiv_f86c9_24 : decode cJ9_floorDiv_f86c9 24 = .ok (.lconst 1, 1) := by decide +kernel
theorem dJ9_floorDiv_f86c9_25 : decode cJ9_floorDiv_f86c9 25 = .ok (.lsub, 1) := by decide +kernel
theorem dJ9_floorDiv_f86c9_26 : decode cJ9_floorDiv_f86c9 26 = .ok (.lreturn, 1) := by decide +kernel
theorem dJ9_floorDiv_f86c9_27 : decode cJ9_floorDiv_f86c9 27 = .ok (.lload 4, 2) := by decide +kernel
theorem dJ9_floorDiv_f86c9_29 : decode cJ9_floorDiv_f86c9 29 = .ok (.lreturn, 1) := by decide +kernel
theorem dJ9_floorMod_f86c9_0 : decode cJ9_floorMod_f86c9 0 = .ok (.lload_n 0, 1) := by decide +kernel
theorem dJ9_floorMod_f86c9_1 : decode cJ9_floorMod_f86c9 1 = .ok (.lload_n 2, 1) := by decide +kernel
theorem dJ9_floorMod_f86c9_2 : decode cJ9_floorMod_f86c9 2 = .ok (.lrem, 1) := by decide +kernel
theorem dJ9_floorMod_f86c9_3 : decode cJ9_floorMod_f86c9 3 = .ok (.lstore 4, 2) := by decide +kernel
theorem dJ9_floorMod_f86c9_5 : decode cJ9_floorMod_f86c9 5 = .ok (.lload_n 0, 1) := by decide +kernel
theorem dJ9_floorMod_f86c9_6 : decode cJ9_floorMod_f86c9 6 = .ok (.lload_n 2, 1) := by decide +kernel
theorem dJ9_floorMod_f86c9_7 : decode cJ9_floorMod_f86c9 7 = .ok (.lxor, 1) := by decide +kernel
theorem dJ9_floorMod_f86c9_8 : decode cJ9_floorMod_f86c9 8 = .ok (.lconst 0, 1) := by decide +kernel
theorem dJ9_floorMod_f86c9_9 : decode cJ9_floorMod_f86c9 9 = .ok (.lcmp, 1) := by decide +kernel
theorem dJ9_floorMod_f86c9_10 : decode cJ9_floorMod_f86c9 10 = .ok (.ifCond .ge 15, 3) := by decide +kernel
theorem dJ9_floorMod_f86c9_13 : decode cJ9_floorMod_f86c9 13 = .ok (.lload 4, 2) := by decide +kernel
theorem dJ9_floorMod_f86c9_15 : decode cJ9_floorMod_f86c9 15 = .ok (.lconst 0, 1) := by decide +kernel
theorem dJ9_floorMod_f86c9_16 : decode cJ9_floorMod_f86c9 16 = .ok (.lcmp, 1) := by decide +kernel
theorem dJ9_floorMod_f86c9_17 : decode cJ9_floorMod_f86c9 17 = .ok (.ifCond .eq 8, 3) := by decide +kernel
theorem dJ9_floorMod_f86c9_20 : decode cJ9_floorMod_f86c9 20 = .ok (.lload 4, 2) := by decide +kernel
theorem dJ9_floorMod_f86c9_22 : decode cJ9_floorMod_f86c9 22 = .ok (.lload_n 2, 1) := by decide +kernel
theorem dJ9_floorMod_f86c9_23 : decode cJ9_floorMod_f86c9 23 = .ok (.ladd, 1) := by decide +kernel
theorem dJ9_floorMod_f86c9_24 : decode cJ9_floorMod_f86c9 24 = .ok (.lreturn, 1) := by decide +kernel
theorem dJ9_floorMod_f86c9_25 : decode cJ9_floorMod_f86c9 25 = .ok (.lload 4, 2) := by decide +kernel
theorem dJ9_floorMod_f86c9_27 : decode cJ9_floorMod_f86c9 27 = .ok (.lreturn, 1) := by decide +kernel
theorem dJ9_max_7cf53_0 : decode cJ9_max_7cf53 0 = .ok (.iload_n 0, 1) := by decide +kernel
theorem dJ9_max_7cf53_1 : decode cJ9_max_7cf53 1 = .ok (.iload_n 1, 1) := by decide +kernel
theorem dJ9_max_7cf53_2 : decode cJ9_max_7cf53 2 = .ok (.if_icmp .lt 7, 3) := by decide +kernel
theorem dJ9_max_7cf53_5 : decode cJ9_max_7cf53 5 = .ok (.iload_n 0, 1) := by decide +kernel
theorem dJ9_max_7cf53_6 : decode cJ9_max_7cf53 6 = .ok (.goto 4, 3) := by decide +kernel
theorem dJ9_max_7cf53_9 : decode cJ9_max_7cf53 9 = .ok (.iload_n 1, 1) := by decide +kernel
theorem dJ9_max_7cf53_10 : decode cJ9_max_7cf53 10 = .ok (.ireturn, 1) := by decide +kernel
theorem dJ7_fill_53178_0 : decode cJ7_fill_53178 0 = .ok (.iconst 0, 1) := by decide +kernel
theorem dJ7_fill_53178_1 : decode cJ7_fill_53178 1 = .ok (.istore_n 2, 1) := by decide +kernel
theorem dJ7_fill_53178_2 : decode cJ7_fill_53178 2 = .ok (.aload_n 0, 1) := by decide +kernel
theorem dJ7_fill_53178_3 : decode cJ7_fill_53178 3 = .ok (.arraylength, 1) := by decide +kernel
theorem dJ7_fill_53178_4 : decode cJ7_fill_53178 4 = .ok (.istore_n 3, 1) := by decide +kernel
theorem dJ7_fill_53178_5 : decode cJ7_fill_53178 5 = .ok (.iload_n 2, 1) := by decide +kernel
theorem dJ7_fill_53178_6 : decode cJ7_fill_53178 6 = .ok (.iload_n 3, 1) := by decide +kernel
theorem dJ7_fill_53178_7 : decode cJ7_fill_53178 7 = .ok (.if_icmp .ge 13, 3) := by decide +kernel
theorem dJ7_fill_53178_10 : decode cJ7_fill_53178 10 = .ok (.aload_n 0, 1) := by decide +kernel
theorem dJ7_fill_53178_11 : decode cJ7_fill_53178 11 = .ok (.iload_n 2, 1) := by decide +kernel
theorem dJ7_fill_53178_12 : decode cJ7_fill_53178 12 = .ok (.iload_n 1, 1) := by decide +kernel
theorem dJ7_fill_53178_13 : decode cJ7_fill_53178 13 = .ok (.iastore, 1) := by decide +kernel
theorem dJ7_fill_53178_14 : decode cJ7_fill_53178 14 = .ok (.iinc 2 1, 3) := by decide +kernel
theorem dJ7_fill_53178_17 : decode cJ7_fill_53178 17 = .ok (.goto (-12), 3) := by decide +kernel
theorem dJ7_fill_53178_20 : decode cJ7_fill_53178 20 = .ok (.return_, 1) := by decide +kernel
theorem dL_atom_0 : decode cL_atom 0 = .ok (.aload 4, 2) := by decide +kernel
theorem dL_atom_2 : decode cL_atom 2 = .ok (.iconst 0, 1) := by decide +kernel
theorem dL_atom_3 : decode cL_atom 3 = .ok (.aload_n 0, 1) := by decide +kernel
theorem dL_atom_4 : decode cL_atom 4 = .ok (.iload_n 1, 1) := by decide +kernel
theorem dL_atom_5 : decode cL_atom 5 = .ok (.iload_n 2, 1) := by decide +kernel
theorem dL_atom_6 : decode cL_atom 6 = .ok (.iload_n 3, 1) := by decide +kernel
theorem dL_atom_7 : decode cL_atom 7 = .ok (.invokevirtual 7, 3) := by decide +kernel
theorem dL_atom_10 : decode cL_atom 10 = .ok (.i2l, 1) := by decide +kernel
theorem dL_atom_11 : decode cL_atom 11 = .ok (.lastore, 1) := by decide +kernel
theorem dL_atom_12 : decode cL_atom 12 = .ok (.goto 15, 3) := by decide +kernel
theorem dL_atom_15 : decode cL_atom 15 = .ok (.astore 5, 2) := by decide +kernel
theorem dL_atom_17 : decode cL_atom 17 = .ok (.iconst 1, 1) := by decide +kernel
theorem dL_atom_18 : decode cL_atom 18 = .ok (.ireturn, 1) := by decide +kernel
theorem dL_atom_19 : decode cL_atom 19 = .ok (.astore 5, 2) := by decide +kernel
theorem dL_atom_21 : decode cL_atom 21 = .ok (.iconst 2, 1) := by decide +kernel
theorem dL_atom_22 : decode cL_atom 22 = .ok (.ireturn, 1) := by decide +kernel
theorem dL_atom_23 : decode cL_atom 23 = .ok (.astore 5, 2) := by decide +kernel
theorem dL_atom_25 : decode cL_atom 25 = .ok (.iconst 3, 1) := by decide +kernel
theorem dL_atom_26 : decode cL_atom 26 = .ok (.ireturn, 1) := by decide +kernel
theorem dL_atom_27 : decode cL_atom 27 = .ok (.iconst 0, 1) := by decide +kernel
theorem dL_atom_28 : decode cL_atom 28 = .ok (.ireturn, 1) := by decide +kernel
theorem dL_dropAtom_0 : decode cL_dropAtom 0 = .ok (.aload_n 3, 1) := by decide +kernel
theorem dL_dropAtom_1 : decode cL_dropAtom 1 = .ok (.iconst 0, 1) := by decide +kernel
theorem dL_dropAtom_2 : decode cL_dropAtom 2 = .ok (.aload_n 0, 1) := by decide +kernel
theorem dL_dropAtom_3 : decode cL_dropAtom 3 = .ok (.iload_n 1, 1) := by decide +kernel
theorem dL_dropAtom_4 : decode cL_dropAtom 4 = .ok (.iload_n 2, 1) := by decide +kernel
theorem dL_dropAtom_5 : decode cL_dropAtom 5 = .ok (.invokevirtual 19, 3) := by decide +kernel
theorem dL_dropAtom_8 : decode cL_dropAtom 8 = .ok (.i2l, 1) := by decide +kernel
theorem dL_dropAtom_9 : decode cL_dropAtom 9 = .ok (.lastore, 1) := by decide +kernel
theorem dL_dropAtom_10 : decode cL_dropAtom 10 = .ok (.goto 7, 3) := by decide +kernel
theorem dL_dropAtom_13 : decode cL_dropAtom 13 = .ok (.astore 4, 2) := by decide +kernel
theorem dL_dropAtom_15 : decode cL_dropAtom 15 = .ok (.iconst 1, 1) := by decide +kernel
theorem dL_dropAtom_16 : decode cL_dropAtom 16 = .ok (.ireturn, 1) := by decide +kernel
theorem dL_dropAtom_17 : decode cL_dropAtom 17 = .ok (.iconst 0, 1) := by decide +kernel
theorem dL_dropAtom_18 : decode cL_dropAtom 18 = .ok (.ireturn, 1) := by decide +kernel
theorem dL_base_0 : decode cL_base 0 = .ok (.aload 6, 2) := by decide +kernel
theorem dL_base_2 : decode cL_base 2 = .ok (.iconst 0, 1) := by decide +kernel
theorem dL_base_3 : decode cL_base 3 = .ok (.aload_n 0, 1) := by decide +kernel
theorem dL_base_4 : decode cL_base 4 = .ok (.iload_n 1, 1) := by decide +kernel
theorem dL_base_5 : decode cL_base 5 = .ok (.iload_n 2, 1) := by decide +kernel
theorem dL_base_6 : decode cL_base 6 = .ok (.iload_n 3, 1) := by decide +kernel
theorem dL_base_7 : decode cL_base 7 = .ok (.iload 4, 2) := by decide +kernel
theorem dL_base_9 : decode cL_base 9 = .ok (.iload 5, 2) := by decide +kernel
theorem dL_base_11 : decode cL_base 11 = .ok (.invokevirtual 23, 3) := by decide +kernel
theorem dL_base_14 : decode cL_base 14 = .ok (.i2l, 1) := by decide +kernel
theorem dL_base_15 : decode cL_base 15 = .ok (.lastore, 1) := by decide +kernel
theorem dL_base_16 : decode cL_base 16 = .ok (.goto 15, 3) := by decide +kernel
theorem dL_base_19 : decode cL_base 19 = .ok (.astore 7, 2) := by decide +kernel
theorem dL_base_21 : decode cL_base 21 = .ok (.iconst 1, 1) := by decide +kernel
theorem dL_base_22 : decode cL_base 22 = .ok (.ireturn, 1) := by decide +kernel
theorem dL_base_23 : decode cL_base 23 = .ok (.astore 7, 2) := by decide +kernel
theorem dL_base_25 : decode cL_base 25 = .ok (.iconst 2, 1) := by decide +kernel
theorem dL_base_26 : decode cL_base 26 = .ok (.ireturn, 1) := by decide +kernel
theorem dL_base_27 : decode cL_base 27 = .ok (.astore 7, 2) := by decide +kernel
theorem dL_base_29 : decode cL_base 29 = .ok (.iconst 3, 1) := by decide +kernel
theorem dL_base_30 : decode cL_base 30 = .ok (.ireturn, 1) := by decide +kernel
theorem dL_base_31 : decode cL_base 31 = .ok (.iconst 0, 1) := by decide +kernel
theorem dL_base_32 : decode cL_base 32 = .ok (.ireturn, 1) := by decide +kernel
theorem dL_joint_0 : decode cL_joint 0 = .ok (.aload 4, 2) := by decide +kernel
theorem dL_joint_2 : decode cL_joint 2 = .ok (.iconst 0, 1) := by decide +kernel
theorem dL_joint_3 : decode cL_joint 3 = .ok (.aload_n 0, 1) := by decide +kernel
theorem dL_joint_4 : decode cL_joint 4 = .ok (.iload_n 1, 1) := by decide +kernel
theorem dL_joint_5 : decode cL_joint 5 = .ok (.iload_n 2, 1) := by decide +kernel
theorem dL_joint_6 : decode cL_joint 6 = .ok (.iload_n 3, 1) := by decide +kernel
theorem dL_joint_7 : decode cL_joint 7 = .ok (.invokevirtual 27, 3) := by decide +kernel
theorem dL_joint_10 : decode cL_joint 10 = .ok (.i2l, 1) := by decide +kernel
theorem dL_joint_11 : decode cL_joint 11 = .ok (.lastore, 1) := by decide +kernel
theorem dL_joint_12 : decode cL_joint 12 = .ok (.goto 7, 3) := by decide +kernel
theorem dL_joint_15 : decode cL_joint 15 = .ok (.astore 5, 2) := by decide +kernel
theorem dL_joint_17 : decode cL_joint 17 = .ok (.iconst 1, 1) := by decide +kernel
theorem dL_joint_18 : decode cL_joint 18 = .ok (.ireturn, 1) := by decide +kernel
theorem dL_joint_19 : decode cL_joint 19 = .ok (.iconst 0, 1) := by decide +kernel
theorem dL_joint_20 : decode cL_joint 20 = .ok (.ireturn, 1) := by decide +kernel
theorem dL_less_0 : decode cL_less 0 = .ok (.aload 5, 2) := by decide +kernel
theorem dL_less_2 : decode cL_less 2 = .ok (.iconst 0, 1) := by decide +kernel
theorem dL_less_3 : decode cL_less 3 = .ok (.aload_n 0, 1) := by decide +kernel
theorem dL_less_4 : decode cL_less 4 = .ok (.iload_n 1, 1) := by decide +kernel
theorem dL_less_5 : decode cL_less 5 = .ok (.iload_n 2, 1) := by decide +kernel
theorem dL_less_6 : decode cL_less 6 = .ok (.iload_n 3, 1) := by decide +kernel
theorem dL_less_7 : decode cL_less 7 = .ok (.iload 4, 2) := by decide +kernel
theorem dL_less_9 : decode cL_less 9 = .ok (.invokevirtual 30, 3) := by decide +kernel
theorem dL_less_12 : decode cL_less 12 = .ok (.i2l, 1) := by decide +kernel
theorem dL_less_13 : decode cL_less 13 = .ok (.lastore, 1) := by decide +kernel
theorem dL_less_14 : decode cL_less 14 = .ok (.goto 11, 3) := by decide +kernel
theorem dL_less_17 : decode cL_less 17 = .ok (.astore 6, 2) := by decide +kernel
theorem dL_less_19 : decode cL_less 19 = .ok (.iconst 1, 1) := by decide +kernel
theorem dL_less_20 : decode cL_less 20 = .ok (.ireturn, 1) := by decide +kernel
theorem dL_less_21 : decode cL_less 21 = .ok (.astore 6, 2) := by decide +kernel
theorem dL_less_23 : decode cL_less 23 = .ok (.iconst 2, 1) := by decide +kernel
theorem dL_less_24 : decode cL_less 24 = .ok (.ireturn, 1) := by decide +kernel
theorem dL_less_25 : decode cL_less 25 = .ok (.iconst 0, 1) := by decide +kernel
theorem dL_less_26 : decode cL_less 26 = .ok (.ireturn, 1) := by decide +kernel
theorem dL_form_0 : decode cL_form 0 = .ok (.aload 5, 2) := by decide +kernel
theorem dL_form_2 : decode cL_form 2 = .ok (.iconst 0, 1) := by decide +kernel
theorem dL_form_3 : decode cL_form 3 = .ok (.aload_n 0, 1) := by decide +kernel
theorem dL_form_4 : decode cL_form 4 = .ok (.iload_n 1, 1) := by decide +kernel
theorem dL_form_5 : decode cL_form 5 = .ok (.iload_n 2, 1) := by decide +kernel
theorem dL_form_6 : decode cL_form 6 = .ok (.iload_n 3, 1) := by decide +kernel
theorem dL_form_7 : decode cL_form 7 = .ok (.iload 4, 2) := by decide +kernel
theorem dL_form_9 : decode cL_form 9 = .ok (.invokevirtual 34, 3) := by decide +kernel
theorem dL_form_12 : decode cL_form 12 = .ok (.i2l, 1) := by decide +kernel
theorem dL_form_13 : decode cL_form 13 = .ok (.lastore, 1) := by decide +kernel
theorem dL_form_14 : decode cL_form 14 = .ok (.goto 15, 3) := by decide +kernel
theorem dL_form_17 : decode cL_form 17 = .ok (.astore 6, 2) := by decide +kernel
theorem dL_form_19 : decode cL_form 19 = .ok (.iconst 1, 1) := by decide +kernel
theorem dL_form_20 : decode cL_form 20 = .ok (.ireturn, 1) := by decide +kernel
theorem dL_form_21 : decode cL_form 21 = .ok (.astore 6, 2) := by decide +kernel
theorem dL_form_23 : decode cL_form 23 = .ok (.iconst 2, 1) := by decide +kernel
theorem dL_form_24 : decode cL_form 24 = .ok (.ireturn, 1) := by decide +kernel
theorem dL_form_25 : decode cL_form 25 = .ok (.astore 6, 2) := by decide +kernel
theorem dL_form_27 : decode cL_form 27 = .ok (.iconst 3, 1) := by decide +kernel
theorem dL_form_28 : decode cL_form 28 = .ok (.ireturn, 1) := by decide +kernel
theorem dL_form_29 : decode cL_form 29 = .ok (.iconst 0, 1) := by decide +kernel
theorem dL_form_30 : decode cL_form 30 = .ok (.ireturn, 1) := by decide +kernel
theorem dL_ordinal_0 : decode cL_ordinal 0 = .ok (.aload_n 3, 1) := by decide +kernel
theorem dL_ordinal_1 : decode cL_ordinal 1 = .ok (.iconst 0, 1) := by decide +kernel
theorem dL_ordinal_2 : decode cL_ordinal 2 = .ok (.aload_n 0, 1) := by decide +kernel
theorem dL_ordinal_3 : decode cL_ordinal 3 = .ok (.iload_n 1, 1) := by decide +kernel
theorem dL_ordinal_4 : decode cL_ordinal 4 = .ok (.iload_n 2, 1) := by decide +kernel
theorem dL_ordinal_5 : decode cL_ordinal 5 = .ok (.invokevirtual 37, 3) := by decide +kernel
theorem dL_ordinal_8 : decode cL_ordinal 8 = .ok (.i2l, 1) := by decide +kernel
theorem dL_ordinal_9 : decode cL_ordinal 9 = .ok (.lastore, 1) := by decide +kernel
theorem dL_ordinal_10 : decode cL_ordinal 10 = .ok (.goto 7, 3) := by decide +kernel
theorem dL_ordinal_13 : decode cL_ordinal 13 = .ok (.astore 4, 2) := by decide +kernel
theorem dL_ordinal_15 : decode cL_ordinal 15 = .ok (.iconst 1, 1) := by decide +kernel
theorem dL_ordinal_16 : decode cL_ordinal 16 = .ok (.ireturn, 1) := by decide +kernel
theorem dL_ordinal_17 : decode cL_ordinal 17 = .ok (.iconst 0, 1) := by decide +kernel
theorem dL_ordinal_18 : decode cL_ordinal 18 = .ok (.ireturn, 1) := by decide +kernel
theorem dL_seam_0 : decode cL_seam 0 = .ok (.aload 5, 2) := by decide +kernel
theorem dL_seam_2 : decode cL_seam 2 = .ok (.iconst 0, 1) := by decide +kernel
theorem dL_seam_3 : decode cL_seam 3 = .ok (.aload_n 0, 1) := by decide +kernel
theorem dL_seam_4 : decode cL_seam 4 = .ok (.iload_n 1, 1) := by decide +kernel
theorem dL_seam_5 : decode cL_seam 5 = .ok (.iload_n 2, 1) := by decide +kernel
theorem dL_seam_6 : decode cL_seam 6 = .ok (.iload_n 3, 1) := by decide +kernel
theorem dL_seam_7 : decode cL_seam 7 = .ok (.iload 4, 2) := by decide +kernel
theorem dL_seam_9 : decode cL_seam 9 = .ok (.invokevirtual 40, 3) := by decide +kernel
theorem dL_seam_12 : decode cL_seam 12 = .ok (.i2l, 1) := by decide +kernel
theorem dL_seam_13 : decode cL_seam 13 = .ok (.lastore, 1) := by decide +kernel
theorem dL_seam_14 : decode cL_seam 14 = .ok (.goto 11, 3) := by decide +kernel
theorem dL_seam_17 : decode cL_seam 17 = .ok (.astore 6, 2) := by decide +kernel
theorem dL_seam_19 : decode cL_seam 19 = .ok (.iconst 1, 1) := by decide +kernel
theorem dL_seam_20 : decode cL_seam 20 = .ok (.ireturn, 1) := by decide +kernel
theorem dL_seam_21 : decode cL_seam 21 = .ok (.astore 6, 2) := by decide +kernel
theorem dL_seam_23 : decode cL_seam 23 = .ok (.iconst 2, 1) := by decide +kernel
theorem dL_seam_24 : decode cL_seam 24 = .ok (.ireturn, 1) := by decide +kernel
theorem dL_seam_25 : decode cL_seam 25 = .ok (.iconst 0, 1) := by decide +kernel
theorem dL_seam_26 : decode cL_seam 26 = .ok (.ireturn, 1) := by decide +kernel
theorem dL_empty_0 : decode cL_empty 0 = .ok (.aload_n 2, 1) := by decide +kernel
theorem dL_empty_1 : decode cL_empty 1 = .ok (.iconst 0, 1) := by decide +kernel
theorem dL_empty_2 : decode cL_empty 2 = .ok (.aload_n 0, 1) := by decide +kernel
theorem dL_empty_3 : decode cL_empty 3 = .ok (.iload_n 1, 1) := by decide +kernel
theorem dL_empty_4 : decode cL_empty 4 = .ok (.invokevirtual 43, 3) := by decide +kernel
theorem dL_empty_7 : decode cL_empty 7 = .ok (.i2l, 1) := by decide +kernel
theorem dL_empty_8 : decode cL_empty 8 = .ok (.lastore, 1) := by decide +kernel
theorem dL_empty_9 : decode cL_empty 9 = .ok (.goto 6, 3) := by decide +kernel
theorem dL_empty_12 : decode cL_empty 12 = .ok (.astore_n 3, 1) := by decide +kernel
theorem dL_empty_13 : decode cL_empty 13 = .ok (.iconst 1, 1) := by decide +kernel
theorem dL_empty_14 : decode cL_empty 14 = .ok (.ireturn, 1) := by decide +kernel
theorem dL_empty_15 : decode cL_empty 15 = .ok (.iconst 0, 1) := by decide +kernel
theorem dL_empty_16 : decode cL_empty 16 = .ok (.ireturn, 1) := by decide +kernel
theorem dL_say_0 : decode cL_say 0 = .ok (.aload 4, 2) := by decide +kernel
theorem dL_say_2 : decode cL_say 2 = .ok (.iconst 0, 1) := by decide +kernel
theorem dL_say_3 : decode cL_say 3 = .ok (.aload_n 0, 1) := by decide +kernel
theorem dL_say_4 : decode cL_say 4 = .ok (.iload_n 1, 1) := by decide +kernel
theorem dL_say_5 : decode cL_say 5 = .ok (.iload_n 2, 1) := by decide +kernel
theorem dL_say_6 : decode cL_say 6 = .ok (.iload_n 3, 1) := by decide +kernel
theorem dL_say_7 : decode cL_say 7 = .ok (.invokevirtual 47, 3) := by decide +kernel
theorem dL_say_10 : decode cL_say 10 = .ok (.i2l, 1) := by decide +kernel
theorem dL_say_11 : decode cL_say 11 = .ok (.lastore, 1) := by decide +kernel
theorem dL_say_12 : decode cL_say 12 = .ok (.goto 11, 3) := by decide +kernel
theorem dL_say_15 : decode cL_say 15 = .ok (.astore 5, 2) := by decide +kernel
theorem dL_say_17 : decode cL_say 17 = .ok (.iconst 1, 1) := by decide +kernel
theorem dL_say_18 : decode cL_say 18 = .ok (.ireturn, 1) := by decide +kernel
theorem dL_say_19 : decode cL_say 19 = .ok (.astore 5, 2) := by decide +kernel
theorem dL_say_21 : decode cL_say 21 = .ok (.iconst 2, 1) := by decide +kernel
theorem dL_say_22 : decode cL_say 22 = .ok (.ireturn, 1) := by decide +kernel
theorem dL_say_23 : decode cL_say 23 = .ok (.iconst 0, 1) := by decide +kernel
theorem dL_say_24 : decode cL_say 24 = .ok (.ireturn, 1) := by decide +kernel
theorem dL_sayOrdinal_0 : decode cL_sayOrdinal 0 = .ok (.aload_n 3, 1) := by decide +kernel
theorem dL_sayOrdinal_1 : decode cL_sayOrdinal 1 = .ok (.iconst 0, 1) := by decide +kernel
theorem dL_sayOrdinal_2 : decode cL_sayOrdinal 2 = .ok (.aload_n 0, 1) := by decide +kernel
theorem dL_sayOrdinal_3 : decode cL_sayOrdinal 3 = .ok (.iload_n 1, 1) := by decide +kernel
theorem dL_sayOrdinal_4 : decode cL_sayOrdinal 4 = .ok (.iload_n 2, 1) := by decide +kernel
theorem dL_sayOrdinal_5 : decode cL_sayOrdinal 5 = .ok (.invokevirtual 50, 3) := by decide +kernel
theorem dL_sayOrdinal_8 : decode cL_sayOrdinal 8 = .ok (.i2l, 1) := by decide +kernel
theorem dL_sayOrdinal_9 : decode cL_sayOrdinal 9 = .ok (.lastore, 1) := by decide +kernel
theorem dL_sayOrdinal_10 : decode cL_sayOrdinal 10 = .ok (.goto 11, 3) := by decide +kernel
theorem dL_sayOrdinal_13 : decode cL_sayOrdinal 13 = .ok (.astore 4, 2) := by decide +kernel
theorem dL_sayOrdinal_15 : decode cL_sayOrdinal 15 = .ok (.iconst 1, 1) := by decide +kernel
theorem dL_sayOrdinal_16 : decode cL_sayOrdinal 16 = .ok (.ireturn, 1) := by decide +kernel
theorem dL_sayOrdinal_17 : decode cL_sayOrdinal 17 = .ok (.astore 4, 2) := by decide +kernel
theorem dL_sayOrdinal_19 : decode cL_sayOrdinal 19 = .ok (.iconst 2, 1) := by decide +kernel
theorem dL_sayOrdinal_20 : decode cL_sayOrdinal 20 = .ok (.ireturn, 1) := by decide +kernel
theorem dL_sayOrdinal_21 : decode cL_sayOrdinal 21 = .ok (.iconst 0, 1) := by decide +kernel
theorem dL_sayOrdinal_22 : decode cL_sayOrdinal 22 = .ok (.ireturn, 1) := by decide +kernel
theorem dL_sayFraction_0 : decode cL_sayFraction 0 = .ok (.aload 5, 2) := by decide +kernel
theorem dL_sayFraction_2 : decode cL_sayFraction 2 = .ok (.iconst 0, 1) := by decide +kernel
theorem dL_sayFraction_3 : decode cL_sayFraction 3 = .ok (.aload_n 0, 1) := by decide +kernel
theorem dL_sayFraction_4 : decode cL_sayFraction 4 = .ok (.iload_n 1, 1) := by decide +kernel
theorem dL_sayFraction_5 : decode cL_sayFraction 5 = .ok (.iload_n 2, 1) := by decide +kernel
theorem dL_sayFraction_6 : decode cL_sayFraction 6 = .ok (.iload_n 3, 1) := by decide +kernel
theorem dL_sayFraction_7 : decode cL_sayFraction 7 = .ok (.iload 4, 2) := by decide +kernel
theorem dL_sayFraction_9 : decode cL_sayFraction 9 = .ok (.invokevirtual 53, 3) := by decide +kernel
theorem dL_sayFraction_12 : decode cL_sayFraction 12 = .ok (.i2l, 1) := by decide +kernel
theorem dL_sayFraction_13 : decode cL_sayFraction 13 = .ok (.lastore, 1) := by decide +kernel
theorem dL_sayFraction_14 : decode cL_sayFraction 14 = .ok (.goto 11, 3) := by decide +kernel
theorem dL_sayFraction_17 : decode cL_sayFraction 17 = .ok (.astore 6, 2) := by decide +kernel
theorem dL_sayFraction_19 : decode cL_sayFraction 19 = .ok (.iconst 1, 1) := by decide +kernel
theorem dL_sayFraction_20 : decode cL_sayFraction 20 = .ok (.ireturn, 1) := by decide +kernel
theorem dL_sayFraction_21 : decode cL_sayFraction 21 = .ok (.astore 6, 2) := by decide +kernel
theorem dL_sayFraction_23 : decode cL_sayFraction 23 = .ok (.iconst 2, 1) := by decide +kernel
theorem dL_sayFraction_24 : decode cL_sayFraction 24 = .ok (.ireturn, 1) := by decide +kernel
theorem dL_sayFraction_25 : decode cL_sayFraction 25 = .ok (.iconst 0, 1) := by decide +kernel
theorem dL_sayFraction_26 : decode cL_sayFraction 26 = .ok (.ireturn, 1) := by decide +kernel
theorem dL_said_0 : decode cL_said 0 = .ok (.aload_n 2, 1) := by decide +kernel
theorem dL_said_1 : decode cL_said 1 = .ok (.iconst 0, 1) := by decide +kernel
theorem dL_said_2 : decode cL_said 2 = .ok (.aload_n 0, 1) := by decide +kernel
theorem dL_said_3 : decode cL_said 3 = .ok (.iload_n 1, 1) := by decide +kernel
theorem dL_said_4 : decode cL_said 4 = .ok (.invokevirtual 56, 3) := by decide +kernel
theorem dL_said_7 : decode cL_said 7 = .ok (.i2l, 1) := by decide +kernel
theorem dL_said_8 : decode cL_said 8 = .ok (.lastore, 1) := by decide +kernel
theorem dL_said_9 : decode cL_said 9 = .ok (.goto 6, 3) := by decide +kernel
theorem dL_said_12 : decode cL_said 12 = .ok (.astore_n 3, 1) := by decide +kernel
theorem dL_said_13 : decode cL_said 13 = .ok (.iconst 1, 1) := by decide +kernel
theorem dL_said_14 : decode cL_said 14 = .ok (.ireturn, 1) := by decide +kernel
theorem dL_said_15 : decode cL_said 15 = .ok (.iconst 0, 1) := by decide +kernel
theorem dL_said_16 : decode cL_said 16 = .ok (.ireturn, 1) := by decide +kernel
theorem dL_hear_0 : decode cL_hear 0 = .ok (.aload_n 2, 1) := by decide +kernel
theorem dL_hear_1 : decode cL_hear 1 = .ok (.iconst 0, 1) := by decide +kernel
theorem dL_hear_2 : decode cL_hear 2 = .ok (.aload_n 0, 1) := by decide +kernel
theorem dL_hear_3 : decode cL_hear 3 = .ok (.iload_n 1, 1) := by decide +kernel
theorem dL_hear_4 : decode cL_hear 4 = .ok (.invokevirtual 59, 3) := by decide +kernel
theorem dL_hear_7 : decode cL_hear 7 = .ok (.i2l, 1) := by decide +kernel
theorem dL_hear_8 : decode cL_hear 8 = .ok (.lastore, 1) := by decide +kernel
theorem dL_hear_9 : decode cL_hear 9 = .ok (.goto 9, 3) := by decide +kernel
theorem dL_hear_12 : decode cL_hear 12 = .ok (.astore_n 3, 1) := by decide +kernel
theorem dL_hear_13 : decode cL_hear 13 = .ok (.iconst 1, 1) := by decide +kernel
theorem dL_hear_14 : decode cL_hear 14 = .ok (.ireturn, 1) := by decide +kernel
theorem dL_hear_15 : decode cL_hear 15 = .ok (.astore_n 3, 1) := by decide +kernel
theorem dL_hear_16 : decode cL_hear 16 = .ok (.iconst 2, 1) := by decide +kernel
theorem dL_hear_17 : decode cL_hear 17 = .ok (.ireturn, 1) := by decide +kernel
theorem dL_hear_18 : decode cL_hear 18 = .ok (.iconst 0, 1) := by decide +kernel
theorem dL_hear_19 : decode cL_hear 19 = .ok (.ireturn, 1) := by decide +kernel
theorem dL_fits_0 : decode cL_fits 0 = .ok (.aload 4, 2) := by decide +kernel
theorem dL_fits_2 : decode cL_fits 2 = .ok (.iconst 0, 1) := by decide +kernel
theorem dL_fits_3 : decode cL_fits 3 = .ok (.aload_n 0, 1) := by decide +kernel
theorem dL_fits_4 : decode cL_fits 4 = .ok (.iload_n 1, 1) := by decide +kernel
theorem dL_fits_5 : decode cL_fits 5 = .ok (.iload_n 2, 1) := by decide +kernel
theorem dL_fits_6 : decode cL_fits 6 = .ok (.iload_n 3, 1) := by decide +kernel
theorem dL_fits_7 : decode cL_fits 7 = .ok (.invokevirtual 62, 3) := by decide +kernel
theorem dL_fits_10 : decode cL_fits 10 = .ok (.i2l, 1) := by decide +kernel
theorem dL_fits_11 : decode cL_fits 11 = .ok (.lastore, 1) := by decide +kernel
theorem dL_fits_12 : decode cL_fits 12 = .ok (.goto 11, 3) := by decide +kernel
theorem dL_fits_15 : decode cL_fits 15 = .ok (.astore 5, 2) := by decide +kernel
theorem dL_fits_17 : decode cL_fits 17 = .ok (.iconst 1, 1) := by decide +kernel
theorem dL_fits_18 : decode cL_fits 18 = .ok (.ireturn, 1) := by decide +kernel
theorem dL_fits_19 : decode cL_fits 19 = .ok (.astore 5, 2) := by decide +kernel
theorem dL_fits_21 : decode cL_fits 21 = .ok (.iconst 2, 1) := by decide +kernel
theorem dL_fits_22 : decode cL_fits 22 = .ok (.ireturn, 1) := by decide +kernel
theorem dL_fits_23 : decode cL_fits 23 = .ok (.iconst 0, 1) := by decide +kernel
theorem dL_fits_24 : decode cL_fits 24 = .ok (.ireturn, 1) := by decide +kernel
theorem dL_fit_0 : decode cL_fit 0 = .ok (.aload 5, 2) := by decide +kernel
theorem dL_fit_2 : decode cL_fit 2 = .ok (.iconst 0, 1) := by decide +kernel
theorem dL_fit_3 : decode cL_fit 3 = .ok (.aload_n 0, 1) := by decide +kernel
theorem dL_fit_4 : decode cL_fit 4 = .ok (.iload_n 1, 1) := by decide +kernel
theorem dL_fit_5 : decode cL_fit 5 = .ok (.iload_n 2, 1) := by decide +kernel
theorem dL_fit_6 : decode cL_fit 6 = .ok (.iload_n 3, 1) := by decide +kernel
theorem dL_fit_7 : decode cL_fit 7 = .ok (.iload 4, 2) := by decide +kernel
theorem dL_fit_9 : decode cL_fit 9 = .ok (.invokevirtual 65, 3) := by decide +kernel
theorem dL_fit_12 : decode cL_fit 12 = .ok (.i2l, 1) := by decide +kernel
theorem dL_fit_13 : decode cL_fit 13 = .ok (.lastore, 1) := by decide +kernel
theorem dL_fit_14 : decode cL_fit 14 = .ok (.goto 11, 3) := by decide +kernel
theorem dL_fit_17 : decode cL_fit 17 = .ok (.astore 6, 2) := by decide +kernel
theorem dL_fit_19 : decode cL_fit 19 = .ok (.iconst 1, 1) := by decide +kernel
theorem dL_fit_20 : decode cL_fit 20 = .ok (.ireturn, 1) := by decide +kernel
theorem dL_fit_21 : decode cL_fit 21 = .ok (.astore 6, 2) := by decide +kernel
theorem dL_fit_23 : decode cL_fit 23 = .ok (.iconst 2, 1) := by decide +kernel
theorem dL_fit_24 : decode cL_fit 24 = .ok (.ireturn, 1) := by decide +kernel
theorem dL_fit_25 : decode cL_fit 25 = .ok (.iconst 0, 1) := by decide +kernel
theorem dL_fit_26 : decode cL_fit 26 = .ok (.ireturn, 1) := by decide +kernel
theorem dL_askWord_0 : decode cL_askWord 0 = .ok (.aload 4, 2) := by decide +kernel
theorem dL_askWord_2 : decode cL_askWord 2 = .ok (.iconst 0, 1) := by decide +kernel
theorem dL_askWord_3 : decode cL_askWord 3 = .ok (.aload_n 0, 1) := by decide +kernel
theorem dL_askWord_4 : decode cL_askWord 4 = .ok (.iload_n 1, 1) := by decide +kernel
theorem dL_askWord_5 : decode cL_askWord 5 = .ok (.iload_n 2, 1) := by decide +kernel
theorem dL_askWord_6 : decode cL_askWord 6 = .ok (.iload_n 3, 1) := by decide +kernel
theorem dL_askWord_7 : decode cL_askWord 7 = .ok (.invokevirtual 68, 3) := by decide +kernel
theorem dL_askWord_10 : decode cL_askWord 10 = .ok (.i2l, 1) := by decide +kernel
theorem dL_askWord_11 : decode cL_askWord 11 = .ok (.lastore, 1) := by decide +kernel
theorem dL_askWord_12 : decode cL_askWord 12 = .ok (.goto 11, 3) := by decide +kernel
theorem dL_askWord_15 : decode cL_askWord 15 = .ok (.astore 5, 2) := by decide +kernel
theorem dL_askWord_17 : decode cL_askWord 17 = .ok (.iconst 1, 1) := by decide +kernel
theorem dL_askWord_18 : decode cL_askWord 18 = .ok (.ireturn, 1) := by decide +kernel
theorem dL_askWord_19 : decode cL_askWord 19 = .ok (.astore 5, 2) := by decide +kernel
theorem dL_askWord_21 : decode cL_askWord 21 = .ok (.iconst 2, 1) := by decide +kernel
theorem dL_askWord_22 : decode cL_askWord 22 = .ok (.ireturn, 1) := by decide +kernel
theorem dL_askWord_23 : decode cL_askWord 23 = .ok (.iconst 0, 1) := by decide +kernel
theorem dL_askWord_24 : decode cL_askWord 24 = .ok (.ireturn, 1) := by decide +kernel
theorem dL_gap_0 : decode cL_gap 0 = .ok (.aload_n 3, 1) := by decide +kernel
theorem dL_gap_1 : decode cL_gap 1 = .ok (.iconst 0, 1) := by decide +kernel
theorem dL_gap_2 : decode cL_gap 2 = .ok (.aload_n 0, 1) := by decide +kernel
theorem dL_gap_3 : decode cL_gap 3 = .ok (.iload_n 1, 1) := by decide +kernel
theorem dL_gap_4 : decode cL_gap 4 = .ok (.iload_n 2, 1) := by decide +kernel
theorem dL_gap_5 : decode cL_gap 5 = .ok (.invokevirtual 71, 3) := by decide +kernel
theorem dL_gap_8 : decode cL_gap 8 = .ok (.i2l, 1) := by decide +kernel
theorem dL_gap_9 : decode cL_gap 9 = .ok (.lastore, 1) := by decide +kernel
theorem dL_gap_10 : decode cL_gap 10 = .ok (.goto 11, 3) := by decide +kernel
theorem dL_gap_13 : decode cL_gap 13 = .ok (.astore 4, 2) := by decide +kernel
theorem dL_gap_15 : decode cL_gap 15 = .ok (.iconst 1, 1) := by decide +kernel
theorem dL_gap_16 : decode cL_gap 16 = .ok (.ireturn, 1) := by decide +kernel
theorem dL_gap_17 : decode cL_gap 17 = .ok (.astore 4, 2) := by decide +kernel
theorem dL_gap_19 : decode cL_gap 19 = .ok (.iconst 2, 1) := by decide +kernel
theorem dL_gap_20 : decode cL_gap 20 = .ok (.ireturn, 1) := by decide +kernel
theorem dL_gap_21 : decode cL_gap 21 = .ok (.iconst 0, 1) := by decide +kernel
theorem dL_gap_22 : decode cL_gap 22 = .ok (.ireturn, 1) := by decide +kernel
theorem dL_clash_0 : decode cL_clash 0 = .ok (.aload 4, 2) := by decide +kernel
theorem dL_clash_2 : decode cL_clash 2 = .ok (.iconst 0, 1) := by decide +kernel
theorem dL_clash_3 : decode cL_clash 3 = .ok (.aload_n 0, 1) := by decide +kernel
theorem dL_clash_4 : decode cL_clash 4 = .ok (.iload_n 1, 1) := by decide +kernel
theorem dL_clash_5 : decode cL_clash 5 = .ok (.iload_n 2, 1) := by decide +kernel
theorem dL_clash_6 : decode cL_clash 6 = .ok (.iload_n 3, 1) := by decide +kernel
theorem dL_clash_7 : decode cL_clash 7 = .ok (.invokevirtual 74, 3) := by decide +kernel
theorem dL_clash_10 : decode cL_clash 10 = .ok (.i2l, 1) := by decide +kernel
theorem dL_clash_11 : decode cL_clash 11 = .ok (.lastore, 1) := by decide +kernel
theorem dL_clash_12 : decode cL_clash 12 = .ok (.goto 11, 3) := by decide +kernel
theorem dL_clash_15 : decode cL_clash 15 = .ok (.astore 5, 2) := by decide +kernel
theorem dL_clash_17 : decode cL_clash 17 = .ok (.iconst 1, 1) := by decide +kernel
theorem dL_clash_18 : decode cL_clash 18 = .ok (.ireturn, 1) := by decide +kernel
theorem dL_clash_19 : decode cL_clash 19 = .ok (.astore 5, 2) := by decide +kernel
theorem dL_clash_21 : decode cL_clash 21 = .ok (.iconst 2, 1) := by decide +kernel
theorem dL_clash_22 : decode cL_clash 22 = .ok (.ireturn, 1) := by decide +kernel
theorem dL_clash_23 : decode cL_clash 23 = .ok (.iconst 0, 1) := by decide +kernel
theorem dL_clash_24 : decode cL_clash 24 = .ok (.ireturn, 1) := by decide +kernel
theorem dL_example_0 : decode cL_example 0 = .ok (.aload_n 2, 1) := by decide +kernel
theorem dL_example_1 : decode cL_example 1 = .ok (.iconst 0, 1) := by decide +kernel
theorem dL_example_2 : decode cL_example 2 = .ok (.aload_n 0, 1) := by decide +kernel
theorem dL_example_3 : decode cL_example 3 = .ok (.iload_n 1, 1) := by decide +kernel
theorem dL_example_4 : decode cL_example 4 = .ok (.invokevirtual 77, 3) := by decide +kernel
theorem dL_example_7 : decode cL_example 7 = .ok (.i2l, 1) := by decide +kernel
theorem dL_example_8 : decode cL_example 8 = .ok (.lastore, 1) := by decide +kernel
theorem dL_example_9 : decode cL_example 9 = .ok (.goto 9, 3) := by decide +kernel
theorem dL_example_12 : decode cL_example 12 = .ok (.astore_n 3, 1) := by decide +kernel
theorem dL_example_13 : decode cL_example 13 = .ok (.iconst 1, 1) := by decide +kernel
theorem dL_example_14 : decode cL_example 14 = .ok (.ireturn, 1) := by decide +kernel
theorem dL_example_15 : decode cL_example 15 = .ok (.astore_n 3, 1) := by decide +kernel
theorem dL_example_16 : decode cL_example 16 = .ok (.iconst 2, 1) := by decide +kernel
theorem dL_example_17 : decode cL_example 17 = .ok (.ireturn, 1) := by decide +kernel
theorem dL_example_18 : decode cL_example 18 = .ok (.iconst 0, 1) := by decide +kernel
theorem dL_example_19 : decode cL_example 19 = .ok (.ireturn, 1) := by decide +kernel
theorem dL_settings_0 : decode cL_settings 0 = .ok (.aload 4, 2) := by decide +kernel
theorem dL_settings_2 : decode cL_settings 2 = .ok (.iconst 0, 1) := by decide +kernel
theorem dL_settings_3 : decode cL_settings 3 = .ok (.aload_n 0, 1) := by decide +kernel
theorem dL_settings_4 : decode cL_settings 4 = .ok (.iload_n 1, 1) := by decide +kernel
theorem dL_settings_5 : decode cL_settings 5 = .ok (.iload_n 2, 1) := by decide +kernel
theorem dL_settings_6 : decode cL_settings 6 = .ok (.iload_n 3, 1) := by decide +kernel
theorem dL_settings_7 : decode cL_settings 7 = .ok (.invokevirtual 80, 3) := by decide +kernel
theorem dL_settings_10 : decode cL_settings 10 = .ok (.i2l, 1) := by decide +kernel
theorem dL_settings_11 : decode cL_settings 11 = .ok (.lastore, 1) := by decide +kernel
theorem dL_settings_12 : decode cL_settings 12 = .ok (.goto 7, 3) := by decide +kernel
theorem dL_settings_15 : decode cL_settings 15 = .ok (.astore 5, 2) := by decide +kernel
theorem dL_settings_17 : decode cL_settings 17 = .ok (.iconst 1, 1) := by decide +kernel
theorem dL_settings_18 : decode cL_settings 18 = .ok (.ireturn, 1) := by decide +kernel
theorem dL_settings_19 : decode cL_settings 19 = .ok (.iconst 0, 1) := by decide +kernel
theorem dL_settings_20 : decode cL_settings 20 = .ok (.ireturn, 1) := by decide +kernel
theorem dL_learn_0 : decode cL_learn 0 = .ok (.aload 4, 2) := by decide +kernel
theorem dL_learn_2 : decode cL_learn 2 = .ok (.iconst 0, 1) := by decide +kernel
theorem dL_learn_3 : decode cL_learn 3 = .ok (.aload_n 0, 1) := by decide +kernel
theorem dL_learn_4 : decode cL_learn 4 = .ok (.iload_n 1, 1) := by decide +kernel
theorem dL_learn_5 : decode cL_learn 5 = .ok (.iload_n 2, 1) := by decide +kernel
theorem dL_learn_6 : decode cL_learn 6 = .ok (.iload_n 3, 1) := by decide +kernel
theorem dL_learn_7 : decode cL_learn 7 = .ok (.invokevirtual 83, 3) := by decide +kernel
theorem dL_learn_10 : decode cL_learn 10 = .ok (.i2l, 1) := by decide +kernel
theorem dL_learn_11 : decode cL_learn 11 = .ok (.lastore, 1) := by decide +kernel
theorem dL_learn_12 : decode cL_learn 12 = .ok (.goto 11, 3) := by decide +kernel
theorem dL_learn_15 : decode cL_learn 15 = .ok (.astore 5, 2) := by decide +kernel
theorem dL_learn_17 : decode cL_learn 17 = .ok (.iconst 1, 1) := by decide +kernel
theorem dL_learn_18 : decode cL_learn 18 = .ok (.ireturn, 1) := by decide +kernel
theorem dL_learn_19 : decode cL_learn 19 = .ok (.astore 5, 2) := by decide +kernel
theorem dL_learn_21 : decode cL_learn 21 = .ok (.iconst 2, 1) := by decide +kernel
theorem dL_learn_22 : decode cL_learn 22 = .ok (.ireturn, 1) := by decide +kernel
theorem dL_learn_23 : decode cL_learn 23 = .ok (.iconst 0, 1) := by decide +kernel
theorem dL_learn_24 : decode cL_learn 24 = .ok (.ireturn, 1) := by decide +kernel
theorem dL_askNumber_0 : decode cL_askNumber 0 = .ok (.aload 5, 2) := by decide +kernel
theorem dL_askNumber_2 : decode cL_askNumber 2 = .ok (.iconst 0, 1) := by decide +kernel
theorem dL_askNumber_3 : decode cL_askNumber 3 = .ok (.aload_n 0, 1) := by decide +kernel
theorem dL_askNumber_4 : decode cL_askNumber 4 = .ok (.iload_n 1, 1) := by decide +kernel
theorem dL_askNumber_5 : decode cL_askNumber 5 = .ok (.iload_n 2, 1) := by decide +kernel
theorem dL_askNumber_6 : decode cL_askNumber 6 = .ok (.iload_n 3, 1) := by decide +kernel
theorem dL_askNumber_7 : decode cL_askNumber 7 = .ok (.iload 4, 2) := by decide +kernel
theorem dL_askNumber_9 : decode cL_askNumber 9 = .ok (.invokevirtual 86, 3) := by decide +kernel
theorem dL_askNumber_12 : decode cL_askNumber 12 = .ok (.i2l, 1) := by decide +kernel
theorem dL_askNumber_13 : decode cL_askNumber 13 = .ok (.lastore, 1) := by decide +kernel
theorem dL_askNumber_14 : decode cL_askNumber 14 = .ok (.goto 11, 3) := by decide +kernel
theorem dL_askNumber_17 : decode cL_askNumber 17 = .ok (.astore 6, 2) := by decide +kernel
theorem dL_askNumber_19 : decode cL_askNumber 19 = .ok (.iconst 1, 1) := by decide +kernel
theorem dL_askNumber_20 : decode cL_askNumber 20 = .ok (.ireturn, 1) := by decide +kernel
theorem dL_askNumber_21 : decode cL_askNumber 21 = .ok (.astore 6, 2) := by decide +kernel
theorem dL_askNumber_23 : decode cL_askNumber 23 = .ok (.iconst 2, 1) := by decide +kernel
theorem dL_askNumber_24 : decode cL_askNumber 24 = .ok (.ireturn, 1) := by decide +kernel
theorem dL_askNumber_25 : decode cL_askNumber 25 = .ok (.iconst 0, 1) := by decide +kernel
theorem dL_askNumber_26 : decode cL_askNumber 26 = .ok (.ireturn, 1) := by decide +kernel
theorem dL_baseTold_0 : decode cL_baseTold 0 = .ok (.aload 4, 2) := by decide +kernel
theorem dL_baseTold_2 : decode cL_baseTold 2 = .ok (.iconst 0, 1) := by decide +kernel
theorem dL_baseTold_3 : decode cL_baseTold 3 = .ok (.aload_n 0, 1) := by decide +kernel
theorem dL_baseTold_4 : decode cL_baseTold 4 = .ok (.iload_n 1, 1) := by decide +kernel
theorem dL_baseTold_5 : decode cL_baseTold 5 = .ok (.iload_n 2, 1) := by decide +kernel
theorem dL_baseTold_6 : decode cL_baseTold 6 = .ok (.iload_n 3, 1) := by decide +kernel
theorem dL_baseTold_7 : decode cL_baseTold 7 = .ok (.invokevirtual 89, 3) := by decide +kernel
theorem dL_baseTold_10 : decode cL_baseTold 10 = .ok (.i2l, 1) := by decide +kernel
theorem dL_baseTold_11 : decode cL_baseTold 11 = .ok (.lastore, 1) := by decide +kernel
theorem dL_baseTold_12 : decode cL_baseTold 12 = .ok (.goto 11, 3) := by decide +kernel
theorem dL_baseTold_15 : decode cL_baseTold 15 = .ok (.astore 5, 2) := by decide +kernel
theorem dL_baseTold_17 : decode cL_baseTold 17 = .ok (.iconst 1, 1) := by decide +kernel
theorem dL_baseTold_18 : decode cL_baseTold 18 = .ok (.ireturn, 1) := by decide +kernel
theorem dL_baseTold_19 : decode cL_baseTold 19 = .ok (.astore 5, 2) := by decide +kernel
theorem dL_baseTold_21 : decode cL_baseTold 21 = .ok (.iconst 2, 1) := by decide +kernel
theorem dL_baseTold_22 : decode cL_baseTold 22 = .ok (.ireturn, 1) := by decide +kernel
theorem dL_baseTold_23 : decode cL_baseTold 23 = .ok (.iconst 0, 1) := by decide +kernel
theorem dL_baseTold_24 : decode cL_baseTold 24 = .ok (.ireturn, 1) := by decide +kernel
theorem dL_numberOf_0 : decode cL_numberOf 0 = .ok (.aload_n 3, 1) := by decide +kernel
theorem dL_numberOf_1 : decode cL_numberOf 1 = .ok (.iconst 0, 1) := by decide +kernel
theorem dL_numberOf_2 : decode cL_numberOf 2 = .ok (.aload_n 0, 1) := by decide +kernel
theorem dL_numberOf_3 : decode cL_numberOf 3 = .ok (.iload_n 1, 1) := by decide +kernel
theorem dL_numberOf_4 : decode cL_numberOf 4 = .ok (.iload_n 2, 1) := by decide +kernel
theorem dL_numberOf_5 : decode cL_numberOf 5 = .ok (.invokevirtual 92, 3) := by decide +kernel
theorem dL_numberOf_8 : decode cL_numberOf 8 = .ok (.i2l, 1) := by decide +kernel
theorem dL_numberOf_9 : decode cL_numberOf 9 = .ok (.lastore, 1) := by decide +kernel
theorem dL_numberOf_10 : decode cL_numberOf 10 = .ok (.goto 7, 3) := by decide +kernel
theorem dL_numberOf_13 : decode cL_numberOf 13 = .ok (.astore 4, 2) := by decide +kernel
theorem dL_numberOf_15 : decode cL_numberOf 15 = .ok (.iconst 1, 1) := by decide +kernel
theorem dL_numberOf_16 : decode cL_numberOf 16 = .ok (.ireturn, 1) := by decide +kernel
theorem dL_numberOf_17 : decode cL_numberOf 17 = .ok (.iconst 0, 1) := by decide +kernel
theorem dL_numberOf_18 : decode cL_numberOf 18 = .ok (.ireturn, 1) := by decide +kernel
theorem dL_cord_0 : decode cL_cord 0 = .ok (.aload_n 3, 1) := by decide +kernel
theorem dL_cord_1 : decode cL_cord 1 = .ok (.iconst 0, 1) := by decide +kernel
theorem dL_cord_2 : decode cL_cord 2 = .ok (.aload_n 0, 1) := by decide +kernel
theorem dL_cord_3 : decode cL_cord 3 = .ok (.iload_n 1, 1) := by decide +kernel
theorem dL_cord_4 : decode cL_cord 4 = .ok (.iload_n 2, 1) := by decide +kernel
theorem dL_cord_5 : decode cL_cord 5 = .ok (.invokevirtual 95, 3) := by decide +kernel
theorem dL_cord_8 : decode cL_cord 8 = .ok (.i2l, 1) := by decide +kernel
theorem dL_cord_9 : decode cL_cord 9 = .ok (.lastore, 1) := by decide +kernel
theorem dL_cord_10 : decode cL_cord 10 = .ok (.goto 11, 3) := by decide +kernel
theorem dL_cord_13 : decode cL_cord 13 = .ok (.astore 4, 2) := by decide +kernel
theorem dL_cord_15 : decode cL_cord 15 = .ok (.iconst 1, 1) := by decide +kernel
theorem dL_cord_16 : decode cL_cord 16 = .ok (.ireturn, 1) := by decide +kernel
theorem dL_cord_17 : decode cL_cord 17 = .ok (.astore 4, 2) := by decide +kernel
theorem dL_cord_19 : decode cL_cord 19 = .ok (.iconst 2, 1) := by decide +kernel
theorem dL_cord_20 : decode cL_cord 20 = .ok (.ireturn, 1) := by decide +kernel
theorem dL_cord_21 : decode cL_cord 21 = .ok (.iconst 0, 1) := by decide +kernel
theorem dL_cord_22 : decode cL_cord 22 = .ok (.ireturn, 1) := by decide +kernel
theorem dL_knots_0 : decode cL_knots 0 = .ok (.aload_n 2, 1) := by decide +kernel
theorem dL_knots_1 : decode cL_knots 1 = .ok (.iconst 0, 1) := by decide +kernel
theorem dL_knots_2 : decode cL_knots 2 = .ok (.aload_n 0, 1) := by decide +kernel
theorem dL_knots_3 : decode cL_knots 3 = .ok (.iload_n 1, 1) := by decide +kernel
theorem dL_knots_4 : decode cL_knots 4 = .ok (.invokevirtual 98, 3) := by decide +kernel
theorem dL_knots_7 : decode cL_knots 7 = .ok (.i2l, 1) := by decide +kernel
theorem dL_knots_8 : decode cL_knots 8 = .ok (.lastore, 1) := by decide +kernel
theorem dL_knots_9 : decode cL_knots 9 = .ok (.goto 6, 3) := by decide +kernel
theorem dL_knots_12 : decode cL_knots 12 = .ok (.astore_n 3, 1) := by decide +kernel
theorem dL_knots_13 : decode cL_knots 13 = .ok (.iconst 1, 1) := by decide +kernel
theorem dL_knots_14 : decode cL_knots 14 = .ok (.ireturn, 1) := by decide +kernel
theorem dL_knots_15 : decode cL_knots 15 = .ok (.iconst 0, 1) := by decide +kernel
theorem dL_knots_16 : decode cL_knots 16 = .ok (.ireturn, 1) := by decide +kernel
theorem dL_law_0 : decode cL_law 0 = .ok (.new 8, 3) := by decide +kernel
theorem dL_law_3 : decode cL_law 3 = .ok (.dup, 1) := by decide +kernel
theorem dL_law_4 : decode cL_law 4 = .ok (.invokespecial 101, 3) := by decide +kernel
theorem dL_law_7 : decode cL_law 7 = .ok (.astore_n 1, 1) := by decide +kernel
theorem dL_law_8 : decode cL_law 8 = .ok (.new 102, 3) := by decide +kernel
theorem dL_law_11 : decode cL_law 11 = .ok (.dup, 1) := by decide +kernel
theorem dL_law_12 : decode cL_law 12 = .ok (.invokespecial 104, 3) := by decide +kernel
theorem dL_law_15 : decode cL_law 15 = .ok (.astore_n 2, 1) := by decide +kernel
theorem dL_law_16 : decode cL_law 16 = .ok (.iconst 1, 1) := by decide +kernel
theorem dL_law_17 : decode cL_law 17 = .ok (.newarray .long, 2) := by decide +kernel
theorem dL_law_19 : decode cL_law 19 = .ok (.astore_n 3, 1) := by decide +kernel
theorem dL_law_20 : decode cL_law 20 = .ok (.iconst 0, 1) := by decide +kernel
theorem dL_law_21 : decode cL_law 21 = .ok (.istore 4, 2) := by decide +kernel
theorem dL_law_23 : decode cL_law 23 = .ok (.iload 4, 2) := by decide +kernel
theorem dL_law_25 : decode cL_law 25 = .ok (.aload_n 0, 1) := by decide +kernel
theorem dL_law_26 : decode cL_law 26 = .ok (.arraylength, 1) := by decide +kernel
theorem dL_law_27 : decode cL_law 27 = .ok (.bipush 6, 2) := by decide +kernel
theorem dL_law_29 : decode cL_law 29 = .ok (.isub, 1) := by decide +kernel
theorem dL_law_30 : decode cL_law 30 = .ok (.if_icmp .gt 2353, 3) := by decide +kernel
theorem dL_law_33 : decode cL_law 33 = .ok (.aload_n 0, 1) := by decide +kernel
theorem dL_law_34 : decode cL_law 34 = .ok (.iload 4, 2) := by decide +kernel
theorem dL_law_36 : decode cL_law 36 = .ok (.iaload, 1) := by decide +kernel
theorem dL_law_37 : decode cL_law 37 = .ok (.bipush 63, 2) := by decide +kernel
theorem dL_law_39 : decode cL_law 39 = .ok (.iand, 1) := by decide +kernel
theorem dL_law_40 : decode cL_law 40 = .ok (.tableswitch 2337 0 32 #[148, 228, 296, 400, 480, 572, 664, 732, 824, 880, 960, 1028, 1120, 1176, 1232, 1245, 1258, 1338, 1430, 1510, 1578, 1658, 1714, 1727, 1807, 1887, 1979, 2059, 2127, 2195, 2253, 2309, 2323], 148) := by decide +kernel
theorem dL_law_188 : decode cL_law 188 = .ok (.aload_n 1, 1) := by decide +kernel
theorem dL_law_189 : decode cL_law 189 = .ok (.aload_n 0, 1) := by decide +kernel
theorem dL_law_190 : decode cL_law 190 = .ok (.iload 4, 2) := by decide +kernel
theorem dL_law_192 : decode cL_law 192 = .ok (.iconst 1, 1) := by decide +kernel
theorem dL_law_193 : decode cL_law 193 = .ok (.iadd, 1) := by decide +kernel
theorem dL_law_194 : decode cL_law 194 = .ok (.iaload, 1) := by decide +kernel
theorem dL_law_195 : decode cL_law 195 = .ok (.aload_n 0, 1) := by decide +kernel
theorem dL_law_196 : decode cL_law 196 = .ok (.iload 4, 2) := by decide +kernel
theorem dL_law_198 : decode cL_law 198 = .ok (.iconst 2, 1) := by decide +kernel
theorem dL_law_199 : decode cL_law 199 = .ok (.iadd, 1) := by decide +kernel
theorem dL_law_200 : decode cL_law 200 = .ok (.iaload, 1) := by decide +kernel
theorem dL_law_201 : decode cL_law 201 = .ok (.aload_n 0, 1) := by decide +kernel
theorem dL_law_202 : decode cL_law 202 = .ok (.iload 4, 2) := by decide +kernel
theorem dL_law_204 : decode cL_law 204 = .ok (.iconst 3, 1) := by decide +kernel
theorem dL_law_205 : decode cL_law 205 = .ok (.iadd, 1) := by decide +kernel
theorem dL_law_206 : decode cL_law 206 = .ok (.iaload, 1) := by decide +kernel
theorem dL_law_207 : decode cL_law 207 = .ok (.aload_n 3, 1) := by decide +kernel
theorem dL_law_208 : decode cL_law 208 = .ok (.invokestatic 105, 3) := by decide +kernel
theorem dL_law_211 : decode cL_law 211 = .ok (.istore 5, 2) := by decide +kernel
theorem dL_law_213 : decode cL_law 213 = .ok (.aload_n 2, 1) := by decide +kernel
theorem dL_law_214 : decode cL_law 214 = .ok (.aload_n 0, 1) := by decide +kernel
theorem dL_law_215 : decode cL_law 215 = .ok (.iload 4, 2) := by decide +kernel
theorem dL_law_217 : decode cL_law 217 = .ok (.iconst 1, 1) := by decide +kernel
theorem dL_law_218 : decode cL_law 218 = .ok (.iadd, 1) := by decide +kernel
theorem dL_law_219 : decode cL_law 219 = .ok (.iaload, 1) := by decide +kernel
theorem dL_law_220 : decode cL_law 220 = .ok (.aload_n 0, 1) := by decide +kernel
theorem dL_law_221 : decode cL_law 221 = .ok (.iload 4, 2) := by decide +kernel
theorem dL_law_223 : decode cL_law 223 = .ok (.iconst 2, 1) := by decide +kernel
theorem dL_law_224 : decode cL_law 224 = .ok (.iadd, 1) := by decide +kernel
theorem dL_law_225 : decode cL_law 225 = .ok (.iaload, 1) := by decide +kernel
theorem dL_law_226 : decode cL_law 226 = .ok (.aload_n 0, 1) := by decide +kernel
theorem dL_law_227 : decode cL_law 227 = .ok (.iload 4, 2) := by decide +kernel
theorem dL_law_229 : decode cL_law 229 = .ok (.iconst 3, 1) := by decide +kernel
theorem dL_law_230 : decode cL_law 230 = .ok (.iadd, 1) := by decide +kernel
theorem dL_law_231 : decode cL_law 231 = .ok (.iaload, 1) := by decide +kernel
theorem dL_law_232 : decode cL_law 232 = .ok (.invokevirtual 110, 3) := by decide +kernel
theorem dL_law_235 : decode cL_law 235 = .ok (.istore 6, 2) := by decide +kernel
theorem dL_law_237 : decode cL_law 237 = .ok (.aload_n 2, 1) := by decide +kernel
theorem dL_law_238 : decode cL_law 238 = .ok (.invokevirtual 111, 3) := by decide +kernel
theorem dL_law_241 : decode cL_law 241 = .ok (.iload 5, 2) := by decide +kernel
theorem dL_law_243 : decode cL_law 243 = .ok (.if_icmp .eq 5, 3) := by decide +kernel
theorem dL_law_246 : decode cL_law 246 = .ok (.iconst 0, 1) := by decide +kernel
theorem dL_law_247 : decode cL_law 247 = .ok (.ireturn, 1) := by decide +kernel
theorem dL_law_248 : decode cL_law 248 = .ok (.iload 5, 2) := by decide +kernel
theorem dL_law_250 : decode cL_law 250 = .ok (.ifCond .ne 15, 3) := by decide +kernel
theorem dL_law_253 : decode cL_law 253 = .ok (.aload_n 3, 1) := by decide +kernel
theorem dL_law_254 : decode cL_law 254 = .ok (.iconst 0, 1) := by decide +kernel
theorem dL_law_255 : decode cL_law 255 = .ok (.laload, 1) := by decide +kernel
theorem dL_law_256 : decode cL_law 256 = .ok (.iload 6, 2) := by decide +kernel
theorem dL_law_258 : decode cL_law 258 = .ok (.i2l, 1) := by decide +kernel
theorem dL_law_259 : decode cL_law 259 = .ok (.lcmp, 1) := by decide +kernel
theorem dL_law_260 : decode cL_law 260 = .ok (.ifCond .eq 5, 3) := by decide +kernel
theorem dL_law_263 : decode cL_law 263 = .ok (.iconst 0, 1) := by decide +kernel
theorem dL_law_264 : decode cL_law 264 = .ok (.ireturn, 1) := by decide +kernel
theorem dL_law_265 : decode cL_law 265 = .ok (.goto 2112, 3) := by decide +kernel
theorem dL_law_268 : decode cL_law 268 = .ok (.aload_n 1, 1) := by decide +kernel
theorem dL_law_269 : decode cL_law 269 = .ok (.aload_n 0, 1) := by decide +kernel
theorem dL_law_270 : decode cL_law 270 = .ok (.iload 4, 2) := by decide +kernel
theorem dL_law_272 : decode cL_law 272 = .ok (.iconst 1, 1) := by decide +kernel
theorem dL_law_273 : decode cL_law 273 = .ok (.iadd, 1) := by decide +kernel
theorem dL_law_274 : decode cL_law 274 = .ok (.iaload, 1) := by decide +kernel
theorem dL_law_275 : decode cL_law 275 = .ok (.aload_n 0, 1) := by decide +kernel
theorem dL_law_276 : decode cL_law 276 = .ok (.iload 4, 2) := by decide +kernel
theorem dL_law_278 : decode cL_law 278 = .ok (.iconst 2, 1) := by decide +kernel
theorem dL_law_279 : decode cL_law 279 = .ok (.iadd, 1) := by decide +kernel
theorem dL_law_280 : decode cL_law 280 = .ok (.iaload, 1) := by decide +kernel
theorem dL_law_281 : decode cL_law 281 = .ok (.aload_n 3, 1) := by decide +kernel
theorem dL_law_282 : decode cL_law 282 = .ok (.invokestatic 115, 3) := by decide +kernel
theorem dL_law_285 : decode cL_law 285 = .ok (.istore 5, 2) := by decide +kernel
theorem dL_law_287 : decode cL_law 287 = .ok (.aload_n 2, 1) := by decide +kernel
theorem dL_law_288 : decode cL_law 288 = .ok (.aload_n 0, 1) := by decide +kernel
theorem dL_law_289 : decode cL_law 289 = .ok (.iload 4, 2) := by decide +kernel
theorem dL_law_291 : decode cL_law 291 = .ok (.iconst 1, 1) := by decide +kernel
theorem dL_law_292 : decode cL_law 292 = .ok (.iadd, 1) := by decide +kernel
theorem dL_law_293 : decode cL_law 293 = .ok (.iaload, 1) := by decide +kernel
theorem dL_law_294 : decode cL_law 294 = .ok (.aload_n 0, 1) := by decide +kernel
theorem dL_law_295 : decode cL_law 295 = .ok (.iload 4, 2) := by decide +kernel
theorem dL_law_297 : decode cL_law 297 = .ok (.iconst 2, 1) := by decide +kernel
theorem dL_law_298 : decode cL_law 298 = .ok (.iadd, 1) := by decide +kernel
theorem dL_law_299 : decode cL_law 299 = .ok (.iaload, 1) := by decide +kernel
theorem dL_law_300 : decode cL_law 300 = .ok (.invokevirtual 118, 3) := by decide +kernel
theorem dL_law_303 : decode cL_law 303 = .ok (.istore 6, 2) := by decide +kernel
theorem dL_law_305 : decode cL_law 305 = .ok (.aload_n 2, 1) := by decide +kernel
theorem dL_law_306 : decode cL_law 306 = .ok (.invokevirtual 111, 3) := by decide +kernel
theorem dL_law_309 : decode cL_law 309 = .ok (.iload 5, 2) := by decide +kernel
theorem dL_law_311 : decode cL_law 311 = .ok (.if_icmp .eq 5, 3) := by decide +kernel
theorem dL_law_314 : decode cL_law 314 = .ok (.iconst 0, 1) := by decide +kernel
theorem dL_law_315 : decode cL_law 315 = .ok (.ireturn, 1) := by decide +kernel
theorem dL_law_316 : decode cL_law 316 = .ok (.iload 5, 2) := by decide +kernel
theorem dL_law_318 : decode cL_law 318 = .ok (.ifCond .ne 15, 3) := by decide +kernel
theorem dL_law_321 : decode cL_law 321 = .ok (.aload_n 3, 1) := by decide +kernel
theorem dL_law_322 : decode cL_law 322 = .ok (.iconst 0, 1) := by decide +kernel
theorem dL_law_323 : decode cL_law 323 = .ok (.laload, 1) := by decide +kernel
theorem dL_law_324 : decode cL_law 324 = .ok (.iload 6, 2) := by decide +kernel
theorem dL_law_326 : decode cL_law 326 = .ok (.i2l, 1) := by decide +kernel
theorem dL_law_327 : decode cL_law 327 = .ok (.lcmp, 1) := by decide +kernel
theorem dL_law_328 : decode cL_law 328 = .ok (.ifCond .eq 5, 3) := by decide +kernel
theorem dL_law_331 : decode cL_law 331 = .ok (.iconst 0, 1) := by decide +kernel
theorem dL_law_332 : decode cL_law 332 = .ok (.ireturn, 1) := by decide +kernel
theorem dL_law_333 : decode cL_law 333 = .ok (.goto 2044, 3) := by decide +kernel
theorem dL_law_336 : decode cL_law 336 = .ok (.aload_n 1, 1) := by decide +kernel
theorem dL_law_337 : decode cL_law 337 = .ok (.aload_n 0, 1) := by decide +kernel
theorem dL_law_338 : decode cL_law 338 = .ok (.iload 4, 2) := by decide +kernel
theorem dL_law_340 : decode cL_law 340 = .ok (.iconst 1, 1) := by decide +kernel
theorem dL_law_341 : decode cL_law 341 = .ok (.iadd, 1) := by decide +kernel
theorem dL_law_342 : decode cL_law 342 = .ok (.iaload, 1) := by decide +kernel
theorem dL_law_343 : decode cL_law 343 = .ok (.aload_n 0, 1) := by decide +kernel
theorem dL_law_344 : decode cL_law 344 = .ok (.iload 4, 2) := by decide +kernel
theorem dL_law_346 : decode cL_law 346 = .ok (.iconst 2, 1) := by decide +kernel
theorem dL_law_347 : decode cL_law 347 = .ok (.iadd, 1) := by decide +kernel
theorem dL_law_348 : decode cL_law 348 = .ok (.iaload, 1) := by decide +kernel
theorem dL_law_349 : decode cL_law 349 = .ok (.aload_n 0, 1) := by decide +kernel
theorem dL_law_350 : decode cL_law 350 = .ok (.iload 4, 2) := by decide +kernel
theorem dL_law_352 : decode cL_law 352 = .ok (.iconst 3, 1) := by decide +kernel
theorem dL_law_353 : decode cL_law 353 = .ok (.iadd, 1) := by decide +kernel
theorem dL_law_354 : decode cL_law 354 = .ok (.iaload, 1) := by decide +kernel
theorem dL_law_355 : decode cL_law 355 = .ok (.aload_n 0, 1) := by decide +kernel
theorem dL_law_356 : decode cL_law 356 = .ok (.iload 4, 2) := by decide +kernel
theorem dL_law_358 : decode cL_law 358 = .ok (.iconst 4, 1) := by decide +kernel
theorem dL_law_359 : decode cL_law 359 = .ok (.iadd, 1) := by decide +kernel
theorem dL_law_360 : decode cL_law 360 = .ok (.iaload, 1) := by decide +kernel
theorem dL_law_361 : decode cL_law 361 = .ok (.aload_n 0, 1) := by decide +kernel
theorem dL_law_362 : decode cL_law 362 = .ok (.iload 4, 2) := by decide +kernel
theorem dL_law_364 : decode cL_law 364 = .ok (.iconst 5, 1) := by decide +kernel
theorem dL_law_365 : decode cL_law 365 = .ok (.iadd, 1) := by decide +kernel
theorem dL_law_366 : decode cL_law 366 = .ok (.iaload, 1) := by decide +kernel
theorem dL_law_367 : decode cL_law 367 = .ok (.aload_n 3, 1) := by decide +kernel
theorem dL_law_368 : decode cL_law 368 = .ok (.invokestatic 119, 3) := by decide +kernel
theorem dL_law_371 : decode cL_law 371 = .ok (.istore 5, 2) := by decide +kernel
theorem dL_law_373 : decode cL_law 373 = .ok (.aload_n 2, 1) := by decide +kernel
theorem dL_law_374 : decode cL_law 374 = .ok (.aload_n 0, 1) := by decide +kernel
theorem dL_law_375 : decode cL_law 375 = .ok (.iload 4, 2) := by decide +kernel
theorem dL_law_377 : decode cL_law 377 = .ok (.iconst 1, 1) := by decide +kernel
theorem dL_law_378 : decode cL_law 378 = .ok (.iadd, 1) := by decide +kernel
theorem dL_law_379 : decode cL_law 379 = .ok (.iaload, 1) := by decide +kernel
theorem dL_law_380 : decode cL_law 380 = .ok (.aload_n 0, 1) := by decide +kernel
theorem dL_law_381 : decode cL_law 381 = .ok (.iload 4, 2) := by decide +kernel
theorem dL_law_383 : decode cL_law 383 = .ok (.iconst 2, 1) := by decide +kernel
theorem dL_law_384 : decode cL_law 384 = .ok (.iadd, 1) := by decide +kernel
theorem dL_law_385 : decode cL_law 385 = .ok (.iaload, 1) := by decide +kernel
theorem dL_law_386 : decode cL_law 386 = .ok (.aload_n 0, 1) := by decide +kernel
theorem dL_law_387 : decode cL_law 387 = .ok (.iload 4, 2) := by decide +kernel
theorem dL_law_389 : decode cL_law 389 = .ok (.iconst 3, 1) := by decide +kernel
theorem dL_law_390 : decode cL_law 390 = .ok (.iadd, 1) := by decide +kernel
theorem dL_law_391 : decode cL_law 391 = .ok (.iaload, 1) := by decide +kernel
theorem dL_law_392 : decode cL_law 392 = .ok (.aload_n 0, 1) := by decide +kernel
theorem dL_law_393 : decode cL_law 393 = .ok (.iload 4, 2) := by decide +kernel
theorem dL_law_395 : decode cL_law 395 = .ok (.iconst 4, 1) := by decide +kernel
theorem dL_law_396 : decode cL_law 396 = .ok (.iadd, 1) := by decide +kernel
theorem dL_law_397 : decode cL_law 397 = .ok (.iaload, 1) := by decide +kernel
theorem dL_law_398 : decode cL_law 398 = .ok (.aload_n 0, 1) := by decide +kernel
theorem dL_law_399 : decode cL_law 399 = .ok (.iload 4, 2) := by decide +kernel
theorem dL_law_401 : decode cL_law 401 = .ok (.iconst 5, 1) := by decide +kernel
theorem dL_law_402 : decode cL_law 402 = .ok (.iadd, 1) := by decide +kernel
theorem dL_law_403 : decode cL_law 403 = .ok (.iaload, 1) := by decide +kernel
theorem dL_law_404 : decode cL_law 404 = .ok (.invokevirtual 122, 3) := by decide +kernel
theorem dL_law_407 : decode cL_law 407 = .ok (.istore 6, 2) := by decide +kernel
theorem dL_law_409 : decode cL_law 409 = .ok (.aload_n 2, 1) := by decide +kernel
theorem dL_law_410 : decode cL_law 410 = .ok (.invokevirtual 111, 3) := by decide +kernel
theorem dL_law_413 : decode cL_law 413 = .ok (.iload 5, 2) := by decide +kernel
theorem dL_law_415 : decode cL_law 415 = .ok (.if_icmp .eq 5, 3) := by decide +kernel
theorem dL_law_418 : decode cL_law 418 = .ok (.iconst 0, 1) := by decide +kernel
theorem dL_law_419 : decode cL_law 419 = .ok (.ireturn, 1) := by decide +kernel
theorem dL_law_420 : decode cL_law 420 = .ok (.iload 5, 2) := by decide +kernel
theorem dL_law_422 : decode cL_law 422 = .ok (.ifCond .ne 15, 3) := by decide +kernel
theorem dL_law_425 : decode cL_law 425 = .ok (.aload_n 3, 1) := by decide +kernel
theorem dL_law_426 : decode cL_law 426 = .ok (.iconst 0, 1) := by decide +kernel
theorem dL_law_427 : decode cL_law 427 = .ok (.laload, 1) := by decide +kernel
theorem dL_law_428 : decode cL_law 428 = .ok (.iload 6, 2) := by decide +kernel
theorem dL_law_430 : decode cL_law 430 = .ok (.i2l, 1) := by decide +kernel
theorem dL_law_431 : decode cL_law 431 = .ok (.lcmp, 1) := by decide +kernel
theorem dL_law_432 : decode cL_law 432 = .ok (.ifCond .eq 5, 3) := by decide +kernel
theorem dL_law_435 : decode cL_law 435 = .ok (.iconst 0, 1) := by decide +kernel
theorem dL_law_436 : decode cL_law 436 = .ok (.ireturn, 1) := by decide +kernel
theorem dL_law_437 : decode cL_law 437 = .ok (.goto 1940, 3) := by decide +kernel
theorem dL_law_440 : decode cL_law 440 = .ok (.aload_n 1, 1) := by decide +kernel
theorem dL_law_441 : decode cL_law 441 = .ok (.aload_n 0, 1) := by decide +kernel
theorem dL_law_442 : decode cL_law 442 = .ok (.iload 4, 2) := by decide +kernel
theorem dL_law_444 : decode cL_law 444 = .ok (.iconst 1, 1) := by decide +kernel
theorem dL_law_445 : decode cL_law 445 = .ok (.iadd, 1) := by decide +kernel
theorem dL_law_446 : decode cL_law 446 = .ok (.iaload, 1) := by decide +kernel
theorem dL_law_447 : decode cL_law 447 = .ok (.aload_n 0, 1) := by decide +kernel
theorem dL_law_448 : decode cL_law 448 = .ok (.iload 4, 2) := by decide +kernel
theorem dL_law_450 : decode cL_law 450 = .ok (.iconst 2, 1) := by decide +kernel
theorem dL_law_451 : decode cL_law 451 = .ok (.iadd, 1) := by decide +kernel
theorem dL_law_452 : decode cL_law 452 = .ok (.iaload, 1) := by decide +kernel
theorem dL_law_453 : decode cL_law 453 = .ok (.aload_n 0, 1) := by decide +kernel
theorem dL_law_454 : decode cL_law 454 = .ok (.iload 4, 2) := by decide +kernel
theorem dL_law_456 : decode cL_law 456 = .ok (.iconst 3, 1) := by decide +kernel
theorem dL_law_457 : decode cL_law 457 = .ok (.iadd, 1) := by decide +kernel
theorem dL_law_458 : decode cL_law 458 = .ok (.iaload, 1) := by decide +kernel
theorem dL_law_459 : decode cL_law 459 = .ok (.aload_n 3, 1) := by decide +kernel
theorem dL_law_460 : decode cL_law 460 = .ok (.invokestatic 123, 3) := by decide +kernel
theorem dL_law_463 : decode cL_law 463 = .ok (.istore 5, 2) := by decide +kernel
theorem dL_law_465 : decode cL_law 465 = .ok (.aload_n 2, 1) := by decide +kernel
theorem dL_law_466 : decode cL_law 466 = .ok (.aload_n 0, 1) := by decide +kernel
theorem dL_law_467 : decode cL_law 467 = .ok (.iload 4, 2) := by decide +kernel
theorem dL_law_469 : decode cL_law 469 = .ok (.iconst 1, 1) := by decide +kernel
theorem dL_law_470 : decode cL_law 470 = .ok (.iadd, 1) := by decide +kernel
theorem dL_law_471 : decode cL_law 471 = .ok (.iaload, 1) := by decide +kernel
theorem dL_law_472 : decode cL_law 472 = .ok (.aload_n 0, 1) := by decide +kernel
theorem dL_law_473 : decode cL_law 473 = .ok (.iload 4, 2) := by decide +kernel
theorem dL_law_475 : decode cL_law 475 = .ok (.iconst 2, 1) := by decide +kernel
theorem dL_law_476 : decode cL_law 476 = .ok (.iadd, 1) := by decide +kernel
theorem dL_law_477 : decode cL_law 477 = .ok (.iaload, 1) := by decide +kernel
theorem dL_law_478 : decode cL_law 478 = .ok (.aload_n 0, 1) := by decide +kernel
theorem dL_law_479 : decode cL_law 479 = .ok (.iload 4, 2) := by decide +kernel
theorem dL_law_481 : decode cL_law 481 = .ok (.iconst 3, 1) := by decide +kernel
theorem dL_law_482 : decode cL_law 482 = .ok (.iadd, 1) := by decide +kernel
theorem dL_law_483 : decode cL_law 483 = .ok (.iaload, 1) := by decide +kernel
theorem dL_law_484 : decode cL_law 484 = .ok (.invokevirtual 125, 3) := by decide +kernel
theorem dL_law_487 : decode cL_law 487 = .ok (.istore 6, 2) := by decide +kernel
theorem dL_law_489 : decode cL_law 489 = .ok (.aload_n 2, 1) := by decide +kernel
theorem dL_law_490 : decode cL_law 490 = .ok (.invokevirtual 111, 3) := by decide +kernel
theorem dL_law_493 : decode cL_law 493 = .ok (.iload 5, 2) := by decide +kernel
theorem dL_law_495 : decode cL_law 495 = .ok (.if_icmp .eq 5, 3) := by decide +kernel
theorem dL_law_498 : decode cL_law 498 = .ok (.iconst 0, 1) := by decide +kernel
theorem dL_law_499 : decode cL_law 499 = .ok (.ireturn, 1) := by decide +kernel
theorem dL_law_500 : decode cL_law 500 = .ok (.iload 5, 2) := by decide +kernel
theorem dL_law_502 : decode cL_law 502 = .ok (.ifCond .ne 15, 3) := by decide +kernel
theorem dL_law_505 : decode cL_law 505 = .ok (.aload_n 3, 1) := by decide +kernel
theorem dL_law_506 : decode cL_law 506 = .ok (.iconst 0, 1) := by decide +kernel
theorem dL_law_507 : decode cL_law 507 = .ok (.laload, 1) := by decide +kernel
theorem dL_law_508 : decode cL_law 508 = .ok (.iload 6, 2) := by decide +kernel
theorem dL_law_510 : decode cL_law 510 = .ok (.i2l, 1) := by decide +kernel
theorem dL_law_511 : decode cL_law 511 = .ok (.lcmp, 1) := by decide +kernel
theorem dL_law_512 : decode cL_law 512 = .ok (.ifCond .eq 5, 3) := by decide +kernel
theorem dL_law_515 : decode cL_law 515 = .ok (.iconst 0, 1) := by decide +kernel
theorem dL_law_516 : decode cL_law 516 = .ok (.ireturn, 1) := by decide +kernel
theorem dL_law_517 : decode cL_law 517 = .ok (.goto 1860, 3) := by decide +kernel
theorem dL_law_520 : decode cL_law 520 = .ok (.aload_n 1, 1) := by decide +kernel
theorem dL_law_521 : decode cL_law 521 = .ok (.aload_n 0, 1) := by decide +kernel
theorem dL_law_522 : decode cL_law 522 = .ok (.iload 4, 2) := by decide +kernel
theorem dL_law_524 : decode cL_law 524 = .ok (.iconst 1, 1) := by decide +kernel
theorem dL_law_525 : decode cL_law 525 = .ok (.iadd, 1) := by decide +kernel
theorem dL_law_526 : decode cL_law 526 = .ok (.iaload, 1) := by decide +kernel
theorem dL_law_527 : decode cL_law 527 = .ok (.aload_n 0, 1) := by decide +kernel
theorem dL_law_528 : decode cL_law 528 = .ok (.iload 4, 2) := by decide +kernel
theorem dL_law_530 : decode cL_law 530 = .ok (.iconst 2, 1) := by decide +kernel
theorem dL_law_531 : decode cL_law 531 = .ok (.iadd, 1) := by decide +kernel
theorem dL_law_532 : decode cL_law 532 = .ok (.iaload, 1) := by decide +kernel
theorem dL_law_533 : decode cL_law 533 = .ok (.aload_n 0, 1) := by decide +kernel
theorem dL_law_534 : decode cL_law 534 = .ok (.iload 4, 2) := by decide +kernel
theorem dL_law_536 : decode cL_law 536 = .ok (.iconst 3, 1) := by decide +kernel
theorem dL_law_537 : decode cL_law 537 = .ok (.iadd, 1) := by decide +kernel
theorem dL_law_538 : decode cL_law 538 = .ok (.iaload, 1) := by decide +kernel
theorem dL_law_539 : decode cL_law 539 = .ok (.aload_n 0, 1) := by decide +kernel
theorem dL_law_540 : decode cL_law 540 = .ok (.iload 4, 2) := by decide +kernel
theorem dL_law_542 : decode cL_law 542 = .ok (.iconst 4, 1) := by decide +kernel
theorem dL_law_543 : decode cL_law 543 = .ok (.iadd, 1) := by decide +kernel
theorem dL_law_544 : decode cL_law 544 = .ok (.iaload, 1) := by decide +kernel
theorem dL_law_545 : decode cL_law 545 = .ok (.aload_n 3, 1) := by decide +kernel
theorem dL_law_546 : decode cL_law 546 = .ok (.invokestatic 126, 3) := by decide +kernel
theorem dL_law_549 : decode cL_law 549 = .ok (.istore 5, 2) := by decide +kernel
theorem dL_law_551 : decode cL_law 551 = .ok (.aload_n 2, 1) := by decide +kernel
theorem dL_law_552 : decode cL_law 552 = .ok (.aload_n 0, 1) := by decide +kernel
theorem dL_law_553 : decode cL_law 553 = .ok (.iload 4, 2) := by decide +kernel
theorem dL_law_555 : decode cL_law 555 = .ok (.iconst 1, 1) := by decide +kernel
theorem dL_law_556 : decode cL_law 556 = .ok (.iadd, 1) := by decide +kernel
theorem dL_law_557 : decode cL_law 557 = .ok (.iaload, 1) := by decide +kernel
theorem dL_law_558 : decode cL_law 558 = .ok (.aload_n 0, 1) := by decide +kernel
theorem dL_law_559 : decode cL_law 559 = .ok (.iload 4, 2) := by decide +kernel
theorem dL_law_561 : decode cL_law 561 = .ok (.iconst 2, 1) := by decide +kernel
theorem dL_law_562 : decode cL_law 562 = .ok (.iadd, 1) := by decide +kernel
theorem dL_law_563 : decode cL_law 563 = .ok (.iaload, 1) := by decide +kernel
theorem dL_law_564 : decode cL_law 564 = .ok (.aload_n 0, 1) := by decide +kernel
theorem dL_law_565 : decode cL_law 565 = .ok (.iload 4, 2) := by decide +kernel
theorem dL_law_567 : decode cL_law 567 = .ok (.iconst 3, 1) := by decide +kernel
theorem dL_law_568 : decode cL_law 568 = .ok (.iadd, 1) := by decide +kernel
theorem dL_law_569 : decode cL_law 569 = .ok (.iaload, 1) := by decide +kernel
theorem dL_law_570 : decode cL_law 570 = .ok (.aload_n 0, 1) := by decide +kernel
theorem dL_law_571 : decode cL_law 571 = .ok (.iload 4, 2) := by decide +kernel
theorem dL_law_573 : decode cL_law 573 = .ok (.iconst 4, 1) := by decide +kernel
theorem dL_law_574 : decode cL_law 574 = .ok (.iadd, 1) := by decide +kernel
theorem dL_law_575 : decode cL_law 575 = .ok (.iaload, 1) := by decide +kernel
theorem dL_law_576 : decode cL_law 576 = .ok (.invokevirtual 129, 3) := by decide +kernel
theorem dL_law_579 : decode cL_law 579 = .ok (.istore 6, 2) := by decide +kernel
theorem dL_law_581 : decode cL_law 581 = .ok (.aload_n 2, 1) := by decide +kernel
theorem dL_law_582 : decode cL_law 582 = .ok (.invokevirtual 111, 3) := by decide +kernel
theorem dL_law_585 : decode cL_law 585 = .ok (.iload 5, 2) := by decide +kernel
theorem dL_law_587 : decode cL_law 587 = .ok (.if_icmp .eq 5, 3) := by decide +kernel
theorem dL_law_590 : decode cL_law 590 = .ok (.iconst 0, 1) := by decide +kernel
theorem dL_law_591 : decode cL_law 591 = .ok (.ireturn, 1) := by decide +kernel
theorem dL_law_592 : decode cL_law 592 = .ok (.iload 5, 2) := by decide +kernel
theorem dL_law_594 : decode cL_law 594 = .ok (.ifCond .ne 15, 3) := by decide +kernel
theorem dL_law_597 : decode cL_law 597 = .ok (.aload_n 3, 1) := by decide +kernel
theorem dL_law_598 : decode cL_law 598 = .ok (.iconst 0, 1) := by decide +kernel
theorem dL_law_599 : decode cL_law 599 = .ok (.laload, 1) := by decide +kernel
theorem dL_law_600 : decode cL_law 600 = .ok (.iload 6, 2) := by decide +kernel
theorem dL_law_602 : decode cL_law 602 = .ok (.i2l, 1) := by decide +kernel
theorem dL_law_603 : decode cL_law 603 = .ok (.lcmp, 1) := by decide +kernel
theorem dL_law_604 : decode cL_law 604 = .ok (.ifCond .eq 5, 3) := by decide +kernel
theorem dL_law_607 : decode cL_law 607 = .ok (.iconst 0, 1) := by decide +kernel
theorem dL_law_608 : decode cL_law 608 = .ok (.ireturn, 1) := by decide +kernel
theorem dL_law_609 : decode cL_law 609 = .ok (.goto 1768, 3) := by decide +kernel
theorem dL_law_612 : decode cL_law 612 = .ok (.aload_n 1, 1) := by decide +kernel
theorem dL_law_613 : decode cL_law 613 = .ok (.aload_n 0, 1) := by decide +kernel
theorem dL_law_614 : decode cL_law 614 = .ok (.iload 4, 2) := by decide +kernel
theorem dL_law_616 : decode cL_law 616 = .ok (.iconst 1, 1) := by decide +kernel
theorem dL_law_617 : decode cL_law 617 = .ok (.iadd, 1) := by decide +kernel
theorem dL_law_618 : decode cL_law 618 = .ok (.iaload, 1) := by decide +kernel
theorem dL_law_619 : decode cL_law 619 = .ok (.aload_n 0, 1) := by decide +kernel
theorem dL_law_620 : decode cL_law 620 = .ok (.iload 4, 2) := by decide +kernel
theorem dL_law_622 : decode cL_law 622 = .ok (.iconst 2, 1) := by decide +kernel
theorem dL_law_623 : decode cL_law 623 = .ok (.iadd, 1) := by decide +kernel
theorem dL_law_624 : decode cL_law 624 = .ok (.iaload, 1) := by decide +kernel
theorem dL_law_625 : decode cL_law 625 = .ok (.aload_n 0, 1) := by decide +kernel
theorem dL_law_626 : decode cL_law 626 = .ok (.iload 4, 2) := by decide +kernel
theorem dL_law_628 : decode cL_law 628 = .ok (.iconst 3, 1) := by decide +kernel
theorem dL_law_629 : decode cL_law 629 = .ok (.iadd, 1) := by decide +kernel
theorem dL_law_630 : decode cL_law 630 = .ok (.iaload, 1) := by decide +kernel
theorem dL_law_631 : decode cL_law 631 = .ok (.aload_n 0, 1) := by decide +kernel
theorem dL_law_632 : decode cL_law 632 = .ok (.iload 4, 2) := by decide +kernel
theorem dL_law_634 : decode cL_law 634 = .ok (.iconst 4, 1) := by decide +kernel
theorem dL_law_635 : decode cL_law 635 = .ok (.iadd, 1) := by decide +kernel
theorem dL_law_636 : decode cL_law 636 = .ok (.iaload, 1) := by decide +kernel
theorem dL_law_637 : decode cL_law 637 = .ok (.aload_n 3, 1) := by decide +kernel
theorem dL_law_638 : decode cL_law 638 = .ok (.invokestatic 130, 3) := by decide +kernel
theorem dL_law_641 : decode cL_law 641 = .ok (.istore 5, 2) := by decide +kernel
theorem dL_law_643 : decode cL_law 643 = .ok (.aload_n 2, 1) := by decide +kernel
theorem dL_law_644 : decode cL_law 644 = .ok (.aload_n 0, 1) := by decide +kernel
theorem dL_law_645 : decode cL_law 645 = .ok (.iload 4, 2) := by decide +kernel
theorem dL_law_647 : decode cL_law 647 = .ok (.iconst 1, 1) := by decide +kernel
theorem dL_law_648 : decode cL_law 648 = .ok (.iadd, 1) := by decide +kernel
theorem dL_law_649 : decode cL_law 649 = .ok (.iaload, 1) := by decide +kernel
theorem dL_law_650 : decode cL_law 650 = .ok (.aload_n 0, 1) := by decide +kernel
theorem dL_law_651 : decode cL_law 651 = .ok (.iload 4, 2) := by decide +kernel
theorem dL_law_653 : decode cL_law 653 = .ok (.iconst 2, 1) := by decide +kernel
theorem dL_law_654 : decode cL_law 654 = .ok (.iadd, 1) := by decide +kernel
theorem dL_law_655 : decode cL_law 655 = .ok (.iaload, 1) := by decide +kernel
theorem dL_law_656 : decode cL_law 656 = .ok (.aload_n 0, 1) := by decide +kernel
theorem dL_law_657 : decode cL_law 657 = .ok (.iload 4, 2) := by decide +kernel
theorem dL_law_659 : decode cL_law 659 = .ok (.iconst 3, 1) := by decide +kernel
theorem dL_law_660 : decode cL_law 660 = .ok (.iadd, 1) := by decide +kernel
theorem dL_law_661 : decode cL_law 661 = .ok (.iaload, 1) := by decide +kernel
theorem dL_law_662 : decode cL_law 662 = .ok (.aload_n 0, 1) := by decide +kernel
theorem dL_law_663 : decode cL_law 663 = .ok (.iload 4, 2) := by decide +kernel
theorem dL_law_665 : decode cL_law 665 = .ok (.iconst 4, 1) := by decide +kernel
theorem dL_law_666 : decode cL_law 666 = .ok (.iadd, 1) := by decide +kernel
theorem dL_law_667 : decode cL_law 667 = .ok (.iaload, 1) := by decide +kernel
theorem dL_law_668 : decode cL_law 668 = .ok (.invokevirtual 132, 3) := by decide +kernel
theorem dL_law_671 : decode cL_law 671 = .ok (.istore 6, 2) := by decide +kernel
theorem dL_law_673 : decode cL_law 673 = .ok (.aload_n 2, 1) := by decide +kernel
theorem dL_law_674 : decode cL_law 674 = .ok (.invokevirtual 111, 3) := by decide +kernel
theorem dL_law_677 : decode cL_law 677 = .ok (.iload 5, 2) := by decide +kernel
theorem dL_law_679 : decode cL_law 679 = .ok (.if_icmp .eq 5, 3) := by decide +kernel
theorem dL_law_682 : decode cL_law 682 = .ok (.iconst 0, 1) := by decide +kernel
theorem dL_law_683 : decode cL_law 683 = .ok (.ireturn, 1) := by decide +kernel
theorem dL_law_684 : decode cL_law 684 = .ok (.iload 5, 2) := by decide +kernel
theorem dL_law_686 : decode cL_law 686 = .ok (.ifCond .ne 15, 3) := by decide +kernel
theorem dL_law_689 : decode cL_law 689 = .ok (.aload_n 3, 1) := by decide +kernel
theorem dL_law_690 : decode cL_law 690 = .ok (.iconst 0, 1) := by decide +kernel
theorem dL_law_691 : decode cL_law 691 = .ok (.laload, 1) := by decide +kernel
theorem dL_law_692 : decode cL_law 692 = .ok (.iload 6, 2) := by decide +kernel
theorem dL_law_694 : decode cL_law 694 = .ok (.i2l, 1) := by decide +kernel
theorem dL_law_695 : decode cL_law 695 = .ok (.lcmp, 1) := by decide +kernel
theorem dL_law_696 : decode cL_law 696 = .ok (.ifCond .eq 5, 3) := by decide +kernel
theorem dL_law_699 : decode cL_law 699 = .ok (.iconst 0, 1) := by decide +kernel
theorem dL_law_700 : decode cL_law 700 = .ok (.ireturn, 1) := by decide +kernel
theorem dL_law_701 : decode cL_law 701 = .ok (.goto 1676, 3) := by decide +kernel
theorem dL_law_704 : decode cL_law 704 = .ok (.aload_n 1, 1) := by decide +kernel
theorem dL_law_705 : decode cL_law 705 = .ok (.aload_n 0, 1) := by decide +kernel
theorem dL_law_706 : decode cL_law 706 = .ok (.iload 4, 2) := by decide +kernel
theorem dL_law_708 : decode cL_law 708 = .ok (.iconst 1, 1) := by decide +kernel
theorem dL_law_709 : decode cL_law 709 = .ok (.iadd, 1) := by decide +kernel
theorem dL_law_710 : decode cL_law 710 = .ok (.iaload, 1) := by decide +kernel
theorem dL_law_711 : decode cL_law 711 = .ok (.aload_n 0, 1) := by decide +kernel
theorem dL_law_712 : decode cL_law 712 = .ok (.iload 4, 2) := by decide +kernel
theorem dL_law_714 : decode cL_law 714 = .ok (.iconst 2, 1) := by decide +kernel
theorem dL_law_715 : decode cL_law 715 = .ok (.iadd, 1) := by decide +kernel
theorem dL_law_716 : decode cL_law 716 = .ok (.iaload, 1) := by decide +kernel
theorem dL_law_717 : decode cL_law 717 = .ok (.aload_n 3, 1) := by decide +kernel
theorem dL_law_718 : decode cL_law 718 = .ok (.invokestatic 133, 3) := by decide +kernel
theorem dL_law_721 : decode cL_law 721 = .ok (.istore 5, 2) := by decide +kernel
theorem dL_law_723 : decode cL_law 723 = .ok (.aload_n 2, 1) := by decide +kernel
theorem dL_law_724 : decode cL_law 724 = .ok (.aload_n 0, 1) := by decide +kernel
theorem dL_law_725 : decode cL_law 725 = .ok (.iload 4, 2) := by decide +kernel
theorem dL_law_727 : decode cL_law 727 = .ok (.iconst 1, 1) := by decide +kernel
theorem dL_law_728 : decode cL_law 728 = .ok (.iadd, 1) := by decide +kernel
theorem dL_law_729 : decode cL_law 729 = .ok (.iaload, 1) := by decide +kernel
theorem dL_law_730 : decode cL_law 730 = .ok (.aload_n 0, 1) := by decide +kernel
theorem dL_law_731 : decode cL_law 731 = .ok (.iload 4, 2) := by decide +kernel
theorem dL_law_733 : decode cL_law 733 = .ok (.iconst 2, 1) := by decide +kernel
theorem dL_law_734 : decode cL_law 734 = .ok (.iadd, 1) := by decide +kernel
theorem dL_law_735 : decode cL_law 735 = .ok (.iaload, 1) := by decide +kernel
theorem dL_law_736 : decode cL_law 736 = .ok (.invokevirtual 135, 3) := by decide +kernel
theorem dL_law_739 : decode cL_law 739 = .ok (.istore 6, 2) := by decide +kernel
theorem dL_law_741 : decode cL_law 741 = .ok (.aload_n 2, 1) := by decide +kernel
theorem dL_law_742 : decode cL_law 742 = .ok (.invokevirtual 111, 3) := by decide +kernel
theorem dL_law_745 : decode cL_law 745 = .ok (.iload 5, 2) := by decide +kernel
theorem dL_law_747 : decode cL_law 747 = .ok (.if_icmp .eq 5, 3) := by decide +kernel
theorem dL_law_750 : decode cL_law 750 = .ok (.iconst 0, 1) := by decide +kernel
theorem dL_law_751 : decode cL_law 751 = .ok (.ireturn, 1) := by decide +kernel
theorem dL_law_752 : decode cL_law 752 = .ok (.iload 5, 2) := by decide +kernel
theorem dL_law_754 : decode cL_law 754 = .ok (.ifCond .ne 15, 3) := by decide +kernel
theorem dL_law_757 : decode cL_law 757 = .ok (.aload_n 3, 1) := by decide +kernel
theorem dL_law_758 : decode cL_law 758 = .ok (.iconst 0, 1) := by decide +kernel
theorem dL_law_759 : decode cL_law 759 = .ok (.laload, 1) := by decide +kernel
theorem dL_law_760 : decode cL_law 760 = .ok (.iload 6, 2) := by decide +kernel
theorem dL_law_762 : decode cL_law 762 = .ok (.i2l, 1) := by decide +kernel
theorem dL_law_763 : decode cL_law 763 = .ok (.lcmp, 1) := by decide +kernel
theorem dL_law_764 : decode cL_law 764 = .ok (.ifCond .eq 5, 3) := by decide +kernel
theorem dL_law_767 : decode cL_law 767 = .ok (.iconst 0, 1) := by decide +kernel
theorem dL_law_768 : decode cL_law 768 = .ok (.ireturn, 1) := by decide +kernel
theorem dL_law_769 : decode cL_law 769 = .ok (.goto 1608, 3) := by decide +kernel
theorem dL_law_772 : decode cL_law 772 = .ok (.aload_n 1, 1) := by decide +kernel
theorem dL_law_773 : decode cL_law 773 = .ok (.aload_n 0, 1) := by decide +kernel
theorem dL_law_774 : decode cL_law 774 = .ok (.iload 4, 2) := by decide +kernel
theorem dL_law_776 : decode cL_law 776 = .ok (.iconst 1, 1) := by decide +kernel
theorem dL_law_777 : decode cL_law 777 = .ok (.iadd, 1) := by decide +kernel
theorem dL_law_778 : decode cL_law 778 = .ok (.iaload, 1) := by decide +kernel
theorem dL_law_779 : decode cL_law 779 = .ok (.aload_n 0, 1) := by decide +kernel
theorem dL_law_780 : decode cL_law 780 = .ok (.iload 4, 2) := by decide +kernel
theorem dL_law_782 : decode cL_law 782 = .ok (.iconst 2, 1) := by decide +kernel
theorem dL_law_783 : decode cL_law 783 = .ok (.iadd, 1) := by decide +kernel
theorem dL_law_784 : decode cL_law 784 = .ok (.iaload, 1) := by decide +kernel
theorem dL_law_785 : decode cL_law 785 = .ok (.aload_n 0, 1) := by decide +kernel
theorem dL_law_786 : decode cL_law 786 = .ok (.iload 4, 2) := by decide +kernel
theorem dL_law_788 : decode cL_law 788 = .ok (.iconst 3, 1) := by decide +kernel
theorem dL_law_789 : decode cL_law 789 = .ok (.iadd, 1) := by decide +kernel
theorem dL_law_790 : decode cL_law 790 = .ok (.iaload, 1) := by decide +kernel
theorem dL_law_791 : decode cL_law 791 = .ok (.aload_n 0, 1) := by decide +kernel
theorem dL_law_792 : decode cL_law 792 = .ok (.iload 4, 2) := by decide +kernel
theorem dL_law_794 : decode cL_law 794 = .ok (.iconst 4, 1) := by decide +kernel
theorem dL_law_795 : decode cL_law 795 = .ok (.iadd, 1) := by decide +kernel
theorem dL_law_796 : decode cL_law 796 = .ok (.iaload, 1) := by decide +kernel
theorem dL_law_797 : decode cL_law 797 = .ok (.aload_n 3, 1) := by decide +kernel
theorem dL_law_798 : decode cL_law 798 = .ok (.invokestatic 136, 3) := by decide +kernel
theorem dL_law_801 : decode cL_law 801 = .ok (.istore 5, 2) := by decide +kernel
theorem dL_law_803 : decode cL_law 803 = .ok (.aload_n 2, 1) := by decide +kernel
theorem dL_law_804 : decode cL_law 804 = .ok (.aload_n 0, 1) := by decide +kernel
theorem dL_law_805 : decode cL_law 805 = .ok (.iload 4, 2) := by decide +kernel
theorem dL_law_807 : decode cL_law 807 = .ok (.iconst 1, 1) := by decide +kernel
theorem dL_law_808 : decode cL_law 808 = .ok (.iadd, 1) := by decide +kernel
theorem dL_law_809 : decode cL_law 809 = .ok (.iaload, 1) := by decide +kernel
theorem dL_law_810 : decode cL_law 810 = .ok (.aload_n 0, 1) := by decide +kernel
theorem dL_law_811 : decode cL_law 811 = .ok (.iload 4, 2) := by decide +kernel
theorem dL_law_813 : decode cL_law 813 = .ok (.iconst 2, 1) := by decide +kernel
theorem dL_law_814 : decode cL_law 814 = .ok (.iadd, 1) := by decide +kernel
theorem dL_law_815 : decode cL_law 815 = .ok (.iaload, 1) := by decide +kernel
theorem dL_law_816 : decode cL_law 816 = .ok (.aload_n 0, 1) := by decide +kernel
theorem dL_law_817 : decode cL_law 817 = .ok (.iload 4, 2) := by decide +kernel
theorem dL_law_819 : decode cL_law 819 = .ok (.iconst 3, 1) := by decide +kernel
theorem dL_law_820 : decode cL_law 820 = .ok (.iadd, 1) := by decide +kernel
theorem dL_law_821 : decode cL_law 821 = .ok (.iaload, 1) := by decide +kernel
theorem dL_law_822 : decode cL_law 822 = .ok (.aload_n 0, 1) := by decide +kernel
theorem dL_law_823 : decode cL_law 823 = .ok (.iload 4, 2) := by decide +kernel
theorem dL_law_825 : decode cL_law 825 = .ok (.iconst 4, 1) := by decide +kernel
theorem dL_law_826 : decode cL_law 826 = .ok (.iadd, 1) := by decide +kernel
theorem dL_law_827 : decode cL_law 827 = .ok (.iaload, 1) := by decide +kernel
theorem dL_law_828 : decode cL_law 828 = .ok (.invokevirtual 138, 3) := by decide +kernel
theorem dL_law_831 : decode cL_law 831 = .ok (.istore 6, 2) := by decide +kernel
theorem dL_law_833 : decode cL_law 833 = .ok (.aload_n 2, 1) := by decide +kernel
theorem dL_law_834 : decode cL_law 834 = .ok (.invokevirtual 111, 3) := by decide +kernel
theorem dL_law_837 : decode cL_law 837 = .ok (.iload 5, 2) := by decide +kernel
theorem dL_law_839 : decode cL_law 839 = .ok (.if_icmp .eq 5, 3) := by decide +kernel
theorem dL_law_842 : decode cL_law 842 = .ok (.iconst 0, 1) := by decide +kernel
theorem dL_law_843 : decode cL_law 843 = .ok (.ireturn, 1) := by decide +kernel
theorem dL_law_844 : decode cL_law 844 = .ok (.iload 5, 2) := by decide +kernel
theorem dL_law_846 : decode cL_law 846 = .ok (.ifCond .ne 15, 3) := by decide +kernel
theorem dL_law_849 : decode cL_law 849 = .ok (.aload_n 3, 1) := by decide +kernel
theorem dL_law_850 : decode cL_law 850 = .ok (.iconst 0, 1) := by decide +kernel
theorem dL_law_851 : decode cL_law 851 = .ok (.laload, 1) := by decide +kernel
theorem dL_law_852 : decode cL_law 852 = .ok (.iload 6, 2) := by decide +kernel
theorem dL_law_854 : decode cL_law 854 = .ok (.i2l, 1) := by decide +kernel
theorem dL_law_855 : decode cL_law 855 = .ok (.lcmp, 1) := by decide +kernel
theorem dL_law_856 : decode cL_law 856 = .ok (.ifCond .eq 5, 3) := by decide +kernel
theorem dL_law_859 : decode cL_law 859 = .ok (.iconst 0, 1) := by decide +kernel
theorem dL_law_860 : decode cL_law 860 = .ok (.ireturn, 1) := by decide +kernel
theorem dL_law_861 : decode cL_law 861 = .ok (.goto 1516, 3) := by decide +kernel
theorem dL_law_864 : decode cL_law 864 = .ok (.aload_n 1, 1) := by decide +kernel
theorem dL_law_865 : decode cL_law 865 = .ok (.aload_n 0, 1) := by decide +kernel
theorem dL_law_866 : decode cL_law 866 = .ok (.iload 4, 2) := by decide +kernel
theorem dL_law_868 : decode cL_law 868 = .ok (.iconst 1, 1) := by decide +kernel
theorem dL_law_869 : decode cL_law 869 = .ok (.iadd, 1) := by decide +kernel
theorem dL_law_870 : decode cL_law 870 = .ok (.iaload, 1) := by decide +kernel
theorem dL_law_871 : decode cL_law 871 = .ok (.aload_n 3, 1) := by decide +kernel
theorem dL_law_872 : decode cL_law 872 = .ok (.invokestatic 139, 3) := by decide +kernel
theorem dL_law_875 : decode cL_law 875 = .ok (.istore 5, 2) := by decide +kernel
theorem dL_law_877 : decode cL_law 877 = .ok (.aload_n 2, 1) := by decide +kernel
theorem dL_law_878 : decode cL_law 878 = .ok (.aload_n 0, 1) := by decide +kernel
theorem dL_law_879 : decode cL_law 879 = .ok (.iload 4, 2) := by decide +kernel
theorem dL_law_881 : decode cL_law 881 = .ok (.iconst 1, 1) := by decide +kernel
theorem dL_law_882 : decode cL_law 882 = .ok (.iadd, 1) := by decide +kernel
theorem dL_law_883 : decode cL_law 883 = .ok (.iaload, 1) := by decide +kernel
theorem dL_law_884 : decode cL_law 884 = .ok (.invokevirtual 142, 3) := by decide +kernel
theorem dL_law_887 : decode cL_law 887 = .ok (.istore 6, 2) := by decide +kernel
theorem dL_law_889 : decode cL_law 889 = .ok (.aload_n 2, 1) := by decide +kernel
theorem dL_law_890 : decode cL_law 890 = .ok (.invokevirtual 111, 3) := by decide +kernel
theorem dL_law_893 : decode cL_law 893 = .ok (.iload 5, 2) := by decide +kernel
theorem dL_law_895 : decode cL_law 895 = .ok (.if_icmp .eq 5, 3) := by decide +kernel
theorem dL_law_898 : decode cL_law 898 = .ok (.iconst 0, 1) := by decide +kernel
theorem dL_law_899 : decode cL_law 899 = .ok (.ireturn, 1) := by decide +kernel
theorem dL_law_900 : decode cL_law 900 = .ok (.iload 5, 2) := by decide +kernel
theorem dL_law_902 : decode cL_law 902 = .ok (.ifCond .ne 15, 3) := by decide +kernel
theorem dL_law_905 : decode cL_law 905 = .ok (.aload_n 3, 1) := by decide +kernel
theorem dL_law_906 : decode cL_law 906 = .ok (.iconst 0, 1) := by decide +kernel
theorem dL_law_907 : decode cL_law 907 = .ok (.laload, 1) := by decide +kernel
theorem dL_law_908 : decode cL_law 908 = .ok (.iload 6, 2) := by decide +kernel
theorem dL_law_910 : decode cL_law 910 = .ok (.i2l, 1) := by decide +kernel
theorem dL_law_911 : decode cL_law 911 = .ok (.lcmp, 1) := by decide +kernel
theorem dL_law_912 : decode cL_law 912 = .ok (.ifCond .eq 5, 3) := by decide +kernel
theorem dL_law_915 : decode cL_law 915 = .ok (.iconst 0, 1) := by decide +kernel
theorem dL_law_916 : decode cL_law 916 = .ok (.ireturn, 1) := by decide +kernel
theorem dL_law_917 : decode cL_law 917 = .ok (.goto 1460, 3) := by decide +kernel
theorem dL_law_920 : decode cL_law 920 = .ok (.aload_n 1, 1) := by decide +kernel
theorem dL_law_921 : decode cL_law 921 = .ok (.aload_n 0, 1) := by decide +kernel
theorem dL_law_922 : decode cL_law 922 = .ok (.iload 4, 2) := by decide +kernel
theorem dL_law_924 : decode cL_law 924 = .ok (.iconst 1, 1) := by decide +kernel
theorem dL_law_925 : decode cL_law 925 = .ok (.iadd, 1) := by decide +kernel
theorem dL_law_926 : decode cL_law 926 = .ok (.iaload, 1) := by decide +kernel
theorem dL_law_927 : decode cL_law 927 = .ok (.aload_n 0, 1) := by decide +kernel
theorem dL_law_928 : decode cL_law 928 = .ok (.iload 4, 2) := by decide +kernel
theorem dL_law_930 : decode cL_law 930 = .ok (.iconst 2, 1) := by decide +kernel
theorem dL_law_931 : decode cL_law 931 = .ok (.iadd, 1) := by decide +kernel
theorem dL_law_932 : decode cL_law 932 = .ok (.iaload, 1) := by decide +kernel
theorem dL_law_933 : decode cL_law 933 = .ok (.aload_n 0, 1) := by decide +kernel
theorem dL_law_934 : decode cL_law 934 = .ok (.iload 4, 2) := by decide +kernel
theorem dL_law_936 : decode cL_law 936 = .ok (.iconst 3, 1) := by decide +kernel
theorem dL_law_937 : decode cL_law 937 = .ok (.iadd, 1) := by decide +kernel
theorem dL_law_938 : decode cL_law 938 = .ok (.iaload, 1) := by decide +kernel
theorem dL_law_939 : decode cL_law 939 = .ok (.aload_n 3, 1) := by decide +kernel
theorem dL_law_940 : decode cL_law 940 = .ok (.invokestatic 143, 3) := by decide +kernel
theorem dL_law_943 : decode cL_law 943 = .ok (.istore 5, 2) := by decide +kernel
theorem dL_law_945 : decode cL_law 945 = .ok (.aload_n 2, 1) := by decide +kernel
theorem dL_law_946 : decode cL_law 946 = .ok (.aload_n 0, 1) := by decide +kernel
theorem dL_law_947 : decode cL_law 947 = .ok (.iload 4, 2) := by decide +kernel
theorem dL_law_949 : decode cL_law 949 = .ok (.iconst 1, 1) := by decide +kernel
theorem dL_law_950 : decode cL_law 950 = .ok (.iadd, 1) := by decide +kernel
theorem dL_law_951 : decode cL_law 951 = .ok (.iaload, 1) := by decide +kernel
theorem dL_law_952 : decode cL_law 952 = .ok (.aload_n 0, 1) := by decide +kernel
theorem dL_law_953 : decode cL_law 953 = .ok (.iload 4, 2) := by decide +kernel
theorem dL_law_955 : decode cL_law 955 = .ok (.iconst 2, 1) := by decide +kernel
theorem dL_law_956 : decode cL_law 956 = .ok (.iadd, 1) := by decide +kernel
theorem dL_law_957 : decode cL_law 957 = .ok (.iaload, 1) := by decide +kernel
theorem dL_law_958 : decode cL_law 958 = .ok (.aload_n 0, 1) := by decide +kernel
theorem dL_law_959 : decode cL_law 959 = .ok (.iload 4, 2) := by decide +kernel
theorem dL_law_961 : decode cL_law 961 = .ok (.iconst 3, 1) := by decide +kernel
theorem dL_law_962 : decode cL_law 962 = .ok (.iadd, 1) := by decide +kernel
theorem dL_law_963 : decode cL_law 963 = .ok (.iaload, 1) := by decide +kernel
theorem dL_law_964 : decode cL_law 964 = .ok (.invokevirtual 145, 3) := by decide +kernel
theorem dL_law_967 : decode cL_law 967 = .ok (.istore 6, 2) := by decide +kernel
theorem dL_law_969 : decode cL_law 969 = .ok (.aload_n 2, 1) := by decide +kernel
theorem dL_law_970 : decode cL_law 970 = .ok (.invokevirtual 111, 3) := by decide +kernel
theorem dL_law_973 : decode cL_law 973 = .ok (.iload 5, 2) := by decide +kernel
theorem dL_law_975 : decode cL_law 975 = .ok (.if_icmp .eq 5, 3) := by decide +kernel
theorem dL_law_978 : decode cL_law 978 = .ok (.iconst 0, 1) := by decide +kernel
theorem dL_law_979 : decode cL_law 979 = .ok (.ireturn, 1) := by decide +kernel
theorem dL_law_980 : decode cL_law 980 = .ok (.iload 5, 2) := by decide +kernel
theorem dL_law_982 : decode cL_law 982 = .ok (.ifCond .ne 15, 3) := by decide +kernel
theorem dL_law_985 : decode cL_law 985 = .ok (.aload_n 3, 1) := by decide +kernel
theorem dL_law_986 : decode cL_law 986 = .ok (.iconst 0, 1) := by decide +kernel
theorem dL_law_987 : decode cL_law 987 = .ok (.laload, 1) := by decide +kernel
theorem dL_law_988 : decode cL_law 988 = .ok (.iload 6, 2) := by decide +kernel
theorem dL_law_990 : decode cL_law 990 = .ok (.i2l, 1) := by decide +kernel
theorem dL_law_991 : decode cL_law 991 = .ok (.lcmp, 1) := by decide +kernel
theorem dL_law_992 : decode cL_law 992 = .ok (.ifCond .eq 5, 3) := by decide +kernel
theorem dL_law_995 : decode cL_law 995 = .ok (.iconst 0, 1) := by decide +kernel
theorem dL_law_996 : decode cL_law 996 = .ok (.ireturn, 1) := by decide +kernel
theorem dL_law_997 : decode cL_law 997 = .ok (.goto 1380, 3) := by decide +kernel
theorem dL_law_1000 : decode cL_law 1000 = .ok (.aload_n 1, 1) := by decide +kernel
theorem dL_law_1001 : decode cL_law 1001 = .ok (.aload_n 0, 1) := by decide +kernel
theorem dL_law_1002 : decode cL_law 1002 = .ok (.iload 4, 2) := by decide +kernel
theorem dL_law_1004 : decode cL_law 1004 = .ok (.iconst 1, 1) := by decide +kernel
theorem dL_law_1005 : decode cL_law 1005 = .ok (.iadd, 1) := by decide +kernel
theorem dL_law_1006 : decode cL_law 1006 = .ok (.iaload, 1) := by decide +kernel
theorem dL_law_1007 : decode cL_law 1007 = .ok (.aload_n 0, 1) := by decide +kernel
theorem dL_law_1008 : decode cL_law 1008 = .ok (.iload 4, 2) := by decide +kernel
theorem dL_law_1010 : decode cL_law 1010 = .ok (.iconst 2, 1) := by decide +kernel
theorem dL_law_1011 : decode cL_law 1011 = .ok (.iadd, 1) := by decide +kernel
theorem dL_law_1012 : decode cL_law 1012 = .ok (.iaload, 1) := by decide +kernel
theorem dL_law_1013 : decode cL_law 1013 = .ok (.aload_n 3, 1) := by decide +kernel
theorem dL_law_1014 : decode cL_law 1014 = .ok (.invokestatic 146, 3) := by decide +kernel
theorem dL_law_1017 : decode cL_law 1017 = .ok (.istore 5, 2) := by decide +kernel
theorem dL_law_1019 : decode cL_law 1019 = .ok (.aload_n 2, 1) := by decide +kernel
theorem dL_law_1020 : decode cL_law 1020 = .ok (.aload_n 0, 1) := by decide +kernel
theorem dL_law_1021 : decode cL_law 1021 = .ok (.iload 4, 2) := by decide +kernel
theorem dL_law_1023 : decode cL_law 1023 = .ok (.iconst 1, 1) := by decide +kernel
theorem dL_law_1024 : decode cL_law 1024 = .ok (.iadd, 1) := by decide +kernel
theorem dL_law_1025 : decode cL_law 1025 = .ok (.iaload, 1) := by decide +kernel
theorem dL_law_1026 : decode cL_law 1026 = .ok (.aload_n 0, 1) := by decide +kernel
theorem dL_law_1027 : decode cL_law 1027 = .ok (.iload 4, 2) := by decide +kernel
theorem dL_law_1029 : decode cL_law 1029 = .ok (.iconst 2, 1) := by decide +kernel
theorem dL_law_1030 : decode cL_law 1030 = .ok (.iadd, 1) := by decide +kernel
theorem dL_law_1031 : decode cL_law 1031 = .ok (.iaload, 1) := by decide +kernel
theorem dL_law_1032 : decode cL_law 1032 = .ok (.invokevirtual 148, 3) := by decide +kernel
theorem dL_law_1035 : decode cL_law 1035 = .ok (.istore 6, 2) := by decide +kernel
theorem dL_law_1037 : decode cL_law 1037 = .ok (.aload_n 2, 1) := by decide +kernel
theorem dL_law_1038 : decode cL_law 1038 = .ok (.invokevirtual 111, 3) := by decide +kernel
theorem dL_law_1041 : decode cL_law 1041 = .ok (.iload 5, 2) := by decide +kernel
theorem dL_law_1043 : decode cL_law 1043 = .ok (.if_icmp .eq 5, 3) := by decide +kernel
theorem dL_law_1046 : decode cL_law 1046 = .ok (.iconst 0, 1) := by decide +kernel
theorem dL_law_1047 : decode cL_law 1047 = .ok (.ireturn, 1) := by decide +kernel
theorem dL_law_1048 : decode cL_law 1048 = .ok (.iload 5, 2) := by decide +kernel
theorem dL_law_1050 : decode cL_law 1050 = .ok (.ifCond .ne 15, 3) := by decide +kernel
theorem dL_law_1053 : decode cL_law 1053 = .ok (.aload_n 3, 1) := by decide +kernel
theorem dL_law_1054 : decode cL_law 1054 = .ok (.iconst 0, 1) := by decide +kernel
theorem dL_law_1055 : decode cL_law 1055 = .ok (.laload, 1) := by decide +kernel
theorem dL_law_1056 : decode cL_law 1056 = .ok (.iload 6, 2) := by decide +kernel
theorem dL_law_1058 : decode cL_law 1058 = .ok (.i2l, 1) := by decide +kernel
theorem dL_law_1059 : decode cL_law 1059 = .ok (.lcmp, 1) := by decide +kernel
theorem dL_law_1060 : decode cL_law 1060 = .ok (.ifCond .eq 5, 3) := by decide +kernel
theorem dL_law_1063 : decode cL_law 1063 = .ok (.iconst 0, 1) := by decide +kernel
theorem dL_law_1064 : decode cL_law 1064 = .ok (.ireturn, 1) := by decide +kernel
theorem dL_law_1065 : decode cL_law 1065 = .ok (.goto 1312, 3) := by decide +kernel
theorem dL_law_1068 : decode cL_law 1068 = .ok (.aload_n 1, 1) := by decide +kernel
theorem dL_law_1069 : decode cL_law 1069 = .ok (.aload_n 0, 1) := by decide +kernel
theorem dL_law_1070 : decode cL_law 1070 = .ok (.iload 4, 2) := by decide +kernel
theorem dL_law_1072 : decode cL_law 1072 = .ok (.iconst 1, 1) := by decide +kernel
theorem dL_law_1073 : decode cL_law 1073 = .ok (.iadd, 1) := by decide +kernel
theorem dL_law_1074 : decode cL_law 1074 = .ok (.iaload, 1) := by decide +kernel
theorem dL_law_1075 : decode cL_law 1075 = .ok (.aload_n 0, 1) := by decide +kernel
theorem dL_law_1076 : decode cL_law 1076 = .ok (.iload 4, 2) := by decide +kernel
theorem dL_law_1078 : decode cL_law 1078 = .ok (.iconst 2, 1) := by decide +kernel
theorem dL_law_1079 : decode cL_law 1079 = .ok (.iadd, 1) := by decide +kernel
theorem dL_law_1080 : decode cL_law 1080 = .ok (.iaload, 1) := by decide +kernel
theorem dL_law_1081 : decode cL_law 1081 = .ok (.aload_n 0, 1) := by decide +kernel
theorem dL_law_1082 : decode cL_law 1082 = .ok (.iload 4, 2) := by decide +kernel
theorem dL_law_1084 : decode cL_law 1084 = .ok (.iconst 3, 1) := by decide +kernel
theorem dL_law_1085 : decode cL_law 1085 = .ok (.iadd, 1) := by decide +kernel
theorem dL_law_1086 : decode cL_law 1086 = .ok (.iaload, 1) := by decide +kernel
theorem dL_law_1087 : decode cL_law 1087 = .ok (.aload_n 0, 1) := by decide +kernel
theorem dL_law_1088 : decode cL_law 1088 = .ok (.iload 4, 2) := by decide +kernel
theorem dL_law_1090 : decode cL_law 1090 = .ok (.iconst 4, 1) := by decide +kernel
theorem dL_law_1091 : decode cL_law 1091 = .ok (.iadd, 1) := by decide +kernel
theorem dL_law_1092 : decode cL_law 1092 = .ok (.iaload, 1) := by decide +kernel
theorem dL_law_1093 : decode cL_law 1093 = .ok (.aload_n 3, 1) := by decide +kernel
theorem dL_law_1094 : decode cL_law 1094 = .ok (.invokestatic 149, 3) := by decide +kernel
theorem dL_law_1097 : decode cL_law 1097 = .ok (.istore 5, 2) := by decide +kernel
theorem dL_law_1099 : decode cL_law 1099 = .ok (.aload_n 2, 1) := by decide +kernel
theorem dL_law_1100 : decode cL_law 1100 = .ok (.aload_n 0, 1) := by decide +kernel
theorem dL_law_1101 : decode cL_law 1101 = .ok (.iload 4, 2) := by decide +kernel
theorem dL_law_1103 : decode cL_law 1103 = .ok (.iconst 1, 1) := by decide +kernel
theorem dL_law_1104 : decode cL_law 1104 = .ok (.iadd, 1) := by decide +kernel
theorem dL_law_1105 : decode cL_law 1105 = .ok (.iaload, 1) := by decide +kernel
theorem dL_law_1106 : decode cL_law 1106 = .ok (.aload_n 0, 1) := by decide +kernel
theorem dL_law_1107 : decode cL_law 1107 = .ok (.iload 4, 2) := by decide +kernel
theorem dL_law_1109 : decode cL_law 1109 = .ok (.iconst 2, 1) := by decide +kernel
theorem dL_law_1110 : decode cL_law 1110 = .ok (.iadd, 1) := by decide +kernel
theorem dL_law_1111 : decode cL_law 1111 = .ok (.iaload, 1) := by decide +kernel
theorem dL_law_1112 : decode cL_law 1112 = .ok (.aload_n 0, 1) := by decide +kernel
theorem dL_law_1113 : decode cL_law 1113 = .ok (.iload 4, 2) := by decide +kernel
theorem dL_law_1115 : decode cL_law 1115 = .ok (.iconst 3, 1) := by decide +kernel
theorem dL_law_1116 : decode cL_law 1116 = .ok (.iadd, 1) := by decide +kernel
theorem dL_law_1117 : decode cL_law 1117 = .ok (.iaload, 1) := by decide +kernel
theorem dL_law_1118 : decode cL_law 1118 = .ok (.aload_n 0, 1) := by decide +kernel
theorem dL_law_1119 : decode cL_law 1119 = .ok (.iload 4, 2) := by decide +kernel
theorem dL_law_1121 : decode cL_law 1121 = .ok (.iconst 4, 1) := by decide +kernel
theorem dL_law_1122 : decode cL_law 1122 = .ok (.iadd, 1) := by decide +kernel
theorem dL_law_1123 : decode cL_law 1123 = .ok (.iaload, 1) := by decide +kernel
theorem dL_law_1124 : decode cL_law 1124 = .ok (.invokevirtual 151, 3) := by decide +kernel
theorem dL_law_1127 : decode cL_law 1127 = .ok (.istore 6, 2) := by decide +kernel
theorem dL_law_1129 : decode cL_law 1129 = .ok (.aload_n 2, 1) := by decide +kernel
theorem dL_law_1130 : decode cL_law 1130 = .ok (.invokevirtual 111, 3) := by decide +kernel
theorem dL_law_1133 : decode cL_law 1133 = .ok (.iload 5, 2) := by decide +kernel
theorem dL_law_1135 : decode cL_law 1135 = .ok (.if_icmp .eq 5, 3) := by decide +kernel
theorem dL_law_1138 : decode cL_law 1138 = .ok (.iconst 0, 1) := by decide +kernel
theorem dL_law_1139 : decode cL_law 1139 = .ok (.ireturn, 1) := by decide +kernel
theorem dL_law_1140 : decode cL_law 1140 = .ok (.iload 5, 2) := by decide +kernel
theorem dL_law_1142 : decode cL_law 1142 = .ok (.ifCond .ne 15, 3) := by decide +kernel
theorem dL_law_1145 : decode cL_law 1145 = .ok (.aload_n 3, 1) := by decide +kernel
theorem dL_law_1146 : decode cL_law 1146 = .ok (.iconst 0, 1) := by decide +kernel
theorem dL_law_1147 : decode cL_law 1147 = .ok (.laload, 1) := by decide +kernel
theorem dL_law_1148 : decode cL_law 1148 = .ok (.iload 6, 2) := by decide +kernel
theorem dL_law_1150 : decode cL_law 1150 = .ok (.i2l, 1) := by decide +kernel
theorem dL_law_1151 : decode cL_law 1151 = .ok (.lcmp, 1) := by decide +kernel
theorem dL_law_1152 : decode cL_law 1152 = .ok (.ifCond .eq 5, 3) := by decide +kernel
theorem dL_law_1155 : decode cL_law 1155 = .ok (.iconst 0, 1) := by decide +kernel
theorem dL_law_1156 : decode cL_law 1156 = .ok (.ireturn, 1) := by decide +kernel
theorem dL_law_1157 : decode cL_law 1157 = .ok (.goto 1220, 3) := by decide +kernel
theorem dL_law_1160 : decode cL_law 1160 = .ok (.aload_n 1, 1) := by decide +kernel
theorem dL_law_1161 : decode cL_law 1161 = .ok (.aload_n 0, 1) := by decide +kernel
theorem dL_law_1162 : decode cL_law 1162 = .ok (.iload 4, 2) := by decide +kernel
theorem dL_law_1164 : decode cL_law 1164 = .ok (.iconst 1, 1) := by decide +kernel
theorem dL_law_1165 : decode cL_law 1165 = .ok (.iadd, 1) := by decide +kernel
theorem dL_law_1166 : decode cL_law 1166 = .ok (.iaload, 1) := by decide +kernel
theorem dL_law_1167 : decode cL_law 1167 = .ok (.aload_n 3, 1) := by decide +kernel
theorem dL_law_1168 : decode cL_law 1168 = .ok (.invokestatic 152, 3) := by decide +kernel
theorem dL_law_1171 : decode cL_law 1171 = .ok (.istore 5, 2) := by decide +kernel
theorem dL_law_1173 : decode cL_law 1173 = .ok (.aload_n 2, 1) := by decide +kernel
theorem dL_law_1174 : decode cL_law 1174 = .ok (.aload_n 0, 1) := by decide +kernel
theorem dL_law_1175 : decode cL_law 1175 = .ok (.iload 4, 2) := by decide +kernel
theorem dL_law_1177 : decode cL_law 1177 = .ok (.iconst 1, 1) := by decide +kernel
theorem dL_law_1178 : decode cL_law 1178 = .ok (.iadd, 1) := by decide +kernel
theorem dL_law_1179 : decode cL_law 1179 = .ok (.iaload, 1) := by decide +kernel
theorem dL_law_1180 : decode cL_law 1180 = .ok (.invokevirtual 154, 3) := by decide +kernel
theorem dL_law_1183 : decode cL_law 1183 = .ok (.istore 6, 2) := by decide +kernel
theorem dL_law_1185 : decode cL_law 1185 = .ok (.aload_n 2, 1) := by decide +kernel
theorem dL_law_1186 : decode cL_law 1186 = .ok (.invokevirtual 111, 3) := by decide +kernel
theorem dL_law_1189 : decode cL_law 1189 = .ok (.iload 5, 2) := by decide +kernel
theorem dL_law_1191 : decode cL_law 1191 = .ok (.if_icmp .eq 5, 3) := by decide +kernel
theorem dL_law_1194 : decode cL_law 1194 = .ok (.iconst 0, 1) := by decide +kernel
theorem dL_law_1195 : decode cL_law 1195 = .ok (.ireturn, 1) := by decide +kernel
theorem dL_law_1196 : decode cL_law 1196 = .ok (.iload 5, 2) := by decide +kernel
theorem dL_law_1198 : decode cL_law 1198 = .ok (.ifCond .ne 15, 3) := by decide +kernel
theorem dL_law_1201 : decode cL_law 1201 = .ok (.aload_n 3, 1) := by decide +kernel
theorem dL_law_1202 : decode cL_law 1202 = .ok (.iconst 0, 1) := by decide +kernel
theorem dL_law_1203 : decode cL_law 1203 = .ok (.laload, 1) := by decide +kernel
theorem dL_law_1204 : decode cL_law 1204 = .ok (.iload 6, 2) := by decide +kernel
theorem dL_law_1206 : decode cL_law 1206 = .ok (.i2l, 1) := by decide +kernel
theorem dL_law_1207 : decode cL_law 1207 = .ok (.lcmp, 1) := by decide +kernel
theorem dL_law_1208 : decode cL_law 1208 = .ok (.ifCond .eq 5, 3) := by decide +kernel
theorem dL_law_1211 : decode cL_law 1211 = .ok (.iconst 0, 1) := by decide +kernel
theorem dL_law_1212 : decode cL_law 1212 = .ok (.ireturn, 1) := by decide +kernel
theorem dL_law_1213 : decode cL_law 1213 = .ok (.goto 1164, 3) := by decide +kernel
theorem dL_law_1216 : decode cL_law 1216 = .ok (.aload_n 1, 1) := by decide +kernel
theorem dL_law_1217 : decode cL_law 1217 = .ok (.aload_n 0, 1) := by decide +kernel
theorem dL_law_1218 : decode cL_law 1218 = .ok (.iload 4, 2) := by decide +kernel
theorem dL_law_1220 : decode cL_law 1220 = .ok (.iconst 1, 1) := by decide +kernel
theorem dL_law_1221 : decode cL_law 1221 = .ok (.iadd, 1) := by decide +kernel
theorem dL_law_1222 : decode cL_law 1222 = .ok (.iaload, 1) := by decide +kernel
theorem dL_law_1223 : decode cL_law 1223 = .ok (.aload_n 3, 1) := by decide +kernel
theorem dL_law_1224 : decode cL_law 1224 = .ok (.invokestatic 155, 3) := by decide +kernel
theorem dL_law_1227 : decode cL_law 1227 = .ok (.istore 5, 2) := by decide +kernel
theorem dL_law_1229 : decode cL_law 1229 = .ok (.aload_n 2, 1) := by decide +kernel
theorem dL_law_1230 : decode cL_law 1230 = .ok (.aload_n 0, 1) := by decide +kernel
theorem dL_law_1231 : decode cL_law 1231 = .ok (.iload 4, 2) := by decide +kernel
theorem dL_law_1233 : decode cL_law 1233 = .ok (.iconst 1, 1) := by decide +kernel
theorem dL_law_1234 : decode cL_law 1234 = .ok (.iadd, 1) := by decide +kernel
theorem dL_law_1235 : decode cL_law 1235 = .ok (.iaload, 1) := by decide +kernel
theorem dL_law_1236 : decode cL_law 1236 = .ok (.invokevirtual 157, 3) := by decide +kernel
theorem dL_law_1239 : decode cL_law 1239 = .ok (.istore 6, 2) := by decide +kernel
theorem dL_law_1241 : decode cL_law 1241 = .ok (.aload_n 2, 1) := by decide +kernel
theorem dL_law_1242 : decode cL_law 1242 = .ok (.invokevirtual 111, 3) := by decide +kernel
theorem dL_law_1245 : decode cL_law 1245 = .ok (.iload 5, 2) := by decide +kernel
theorem dL_law_1247 : decode cL_law 1247 = .ok (.if_icmp .eq 5, 3) := by decide +kernel
theorem dL_law_1250 : decode cL_law 1250 = .ok (.iconst 0, 1) := by decide +kernel
theorem dL_law_1251 : decode cL_law 1251 = .ok (.ireturn, 1) := by decide +kernel
theorem dL_law_1252 : decode cL_law 1252 = .ok (.iload 5, 2) := by decide +kernel
theorem dL_law_1254 : decode cL_law 1254 = .ok (.ifCond .ne 15, 3) := by decide +kernel
theorem dL_law_1257 : decode cL_law 1257 = .ok (.aload_n 3, 1) := by decide +kernel
theorem dL_law_1258 : decode cL_law 1258 = .ok (.iconst 0, 1) := by decide +kernel
theorem dL_law_1259 : decode cL_law 1259 = .ok (.laload, 1) := by decide +kernel
theorem dL_law_1260 : decode cL_law 1260 = .ok (.iload 6, 2) := by decide +kernel
theorem dL_law_1262 : decode cL_law 1262 = .ok (.i2l, 1) := by decide +kernel
theorem dL_law_1263 : decode cL_law 1263 = .ok (.lcmp, 1) := by decide +kernel
theorem dL_law_1264 : decode cL_law 1264 = .ok (.ifCond .eq 5, 3) := by decide +kernel
theorem dL_law_1267 : decode cL_law 1267 = .ok (.iconst 0, 1) := by decide +kernel
theorem dL_law_1268 : decode cL_law 1268 = .ok (.ireturn, 1) := by decide +kernel
theorem dL_law_1269 : decode cL_law 1269 = .ok (.goto 1108, 3) := by decide +kernel
theorem dL_law_1272 : decode cL_law 1272 = .ok (.aload_n 1, 1) := by decide +kernel
theorem dL_law_1273 : decode cL_law 1273 = .ok (.invokevirtual 158, 3) := by decide +kernel
theorem dL_law_1276 : decode cL_law 1276 = .ok (.aload_n 2, 1) := by decide +kernel
theorem dL_law_1277 : decode cL_law 1277 = .ok (.invokevirtual 161, 3) := by decide +kernel
theorem dL_law_1280 : decode cL_law 1280 = .ok (.if_icmp .eq 1097, 3) := by decide +kernel
theorem dL_law_1283 : decode cL_law 1283 = .ok (.iconst 0, 1) := by decide +kernel
theorem dL_law_1284 : decode cL_law 1284 = .ok (.ireturn, 1) := by decide +kernel
theorem dL_law_1285 : decode cL_law 1285 = .ok (.aload_n 1, 1) := by decide +kernel
theorem dL_law_1286 : decode cL_law 1286 = .ok (.invokevirtual 162, 3) := by decide +kernel
theorem dL_law_1289 : decode cL_law 1289 = .ok (.aload_n 2, 1) := by decide +kernel
theorem dL_law_1290 : decode cL_law 1290 = .ok (.invokevirtual 165, 3) := by decide +kernel
theorem dL_law_1293 : decode cL_law 1293 = .ok (.if_icmp .eq 1084, 3) := by decide +kernel
theorem dL_law_1296 : decode cL_law 1296 = .ok (.iconst 0, 1) := by decide +kernel
theorem dL_law_1297 : decode cL_law 1297 = .ok (.ireturn, 1) := by decide +kernel
theorem dL_law_1298 : decode cL_law 1298 = .ok (.aload_n 1, 1) := by decide +kernel
theorem dL_law_1299 : decode cL_law 1299 = .ok (.aload_n 0, 1) := by decide +kernel
theorem dL_law_1300 : decode cL_law 1300 = .ok (.iload 4, 2) := by decide +kernel
theorem dL_law_1302 : decode cL_law 1302 = .ok (.iconst 1, 1) := by decide +kernel
theorem dL_law_1303 : decode cL_law 1303 = .ok (.iadd, 1) := by decide +kernel
theorem dL_law_1304 : decode cL_law 1304 = .ok (.iaload, 1) := by decide +kernel
theorem dL_law_1305 : decode cL_law 1305 = .ok (.aload_n 0, 1) := by decide +kernel
theorem dL_law_1306 : decode cL_law 1306 = .ok (.iload 4, 2) := by decide +kernel
theorem dL_law_1308 : decode cL_law 1308 = .ok (.iconst 2, 1) := by decide +kernel
theorem dL_law_1309 : decode cL_law 1309 = .ok (.iadd, 1) := by decide +kernel
theorem dL_law_1310 : decode cL_law 1310 = .ok (.iaload, 1) := by decide +kernel
theorem dL_law_1311 : decode cL_law 1311 = .ok (.aload_n 0, 1) := by decide +kernel
theorem dL_law_1312 : decode cL_law 1312 = .ok (.iload 4, 2) := by decide +kernel
theorem dL_law_1314 : decode cL_law 1314 = .ok (.iconst 3, 1) := by decide +kernel
theorem dL_law_1315 : decode cL_law 1315 = .ok (.iadd, 1) := by decide +kernel
theorem dL_law_1316 : decode cL_law 1316 = .ok (.iaload, 1) := by decide +kernel
theorem dL_law_1317 : decode cL_law 1317 = .ok (.aload_n 3, 1) := by decide +kernel
theorem dL_law_1318 : decode cL_law 1318 = .ok (.invokestatic 166, 3) := by decide +kernel
theorem dL_law_1321 : decode cL_law 1321 = .ok (.istore 5, 2) := by decide +kernel
theorem dL_law_1323 : decode cL_law 1323 = .ok (.aload_n 2, 1) := by decide +kernel
theorem dL_law_1324 : decode cL_law 1324 = .ok (.aload_n 0, 1) := by decide +kernel
theorem dL_law_1325 : decode cL_law 1325 = .ok (.iload 4, 2) := by decide +kernel
theorem dL_law_1327 : decode cL_law 1327 = .ok (.iconst 1, 1) := by decide +kernel
theorem dL_law_1328 : decode cL_law 1328 = .ok (.iadd, 1) := by decide +kernel
theorem dL_law_1329 : decode cL_law 1329 = .ok (.iaload, 1) := by decide +kernel
theorem dL_law_1330 : decode cL_law 1330 = .ok (.aload_n 0, 1) := by decide +kernel
theorem dL_law_1331 : decode cL_law 1331 = .ok (.iload 4, 2) := by decide +kernel
theorem dL_law_1333 : decode cL_law 1333 = .ok (.iconst 2, 1) := by decide +kernel
theorem dL_law_1334 : decode cL_law 1334 = .ok (.iadd, 1) := by decide +kernel
theorem dL_law_1335 : decode cL_law 1335 = .ok (.iaload, 1) := by decide +kernel
theorem dL_law_1336 : decode cL_law 1336 = .ok (.aload_n 0, 1) := by decide +kernel
theorem dL_law_1337 : decode cL_law 1337 = .ok (.iload 4, 2) := by decide +kernel
theorem dL_law_1339 : decode cL_law 1339 = .ok (.iconst 3, 1) := by decide +kernel
theorem dL_law_1340 : decode cL_law 1340 = .ok (.iadd, 1) := by decide +kernel
theorem dL_law_1341 : decode cL_law 1341 = .ok (.iaload, 1) := by decide +kernel
theorem dL_law_1342 : decode cL_law 1342 = .ok (.invokevirtual 168, 3) := by decide +kernel
theorem dL_law_1345 : decode cL_law 1345 = .ok (.istore 6, 2) := by decide +kernel
theorem dL_law_1347 : decode cL_law 1347 = .ok (.aload_n 2, 1) := by decide +kernel
theorem dL_law_1348 : decode cL_law 1348 = .ok (.invokevirtual 111, 3) := by decide +kernel
theorem dL_law_1351 : decode cL_law 1351 = .ok (.iload 5, 2) := by decide +kernel
theorem dL_law_1353 : decode cL_law 1353 = .ok (.if_icmp .eq 5, 3) := by decide +kernel
theorem dL_law_1356 : decode cL_law 1356 = .ok (.iconst 0, 1) := by decide +kernel
theorem dL_law_1357 : decode cL_law 1357 = .ok (.ireturn, 1) := by decide +kernel
theorem dL_law_1358 : decode cL_law 1358 = .ok (.iload 5, 2) := by decide +kernel
theorem dL_law_1360 : decode cL_law 1360 = .ok (.ifCond .ne 15, 3) := by decide +kernel
theorem dL_law_1363 : decode cL_law 1363 = .ok (.aload_n 3, 1) := by decide +kernel
theorem dL_law_1364 : decode cL_law 1364 = .ok (.iconst 0, 1) := by decide +kernel
theorem dL_law_1365 : decode cL_law 1365 = .ok (.laload, 1) := by decide +kernel
theorem dL_law_1366 : decode cL_law 1366 = .ok (.iload 6, 2) := by decide +kernel
theorem dL_law_1368 : decode cL_law 1368 = .ok (.i2l, 1) := by decide +kernel
theorem dL_law_1369 : decode cL_law 1369 = .ok (.lcmp, 1) := by decide +kernel
theorem dL_law_1370 : decode cL_law 1370 = .ok (.ifCond .eq 5, 3) := by decide +kernel
theorem dL_law_1373 : decode cL_law 1373 = .ok (.iconst 0, 1) := by decide +kernel
theorem dL_law_1374 : decode cL_law 1374 = .ok (.ireturn, 1) := by decide +kernel
theorem dL_law_1375 : decode cL_law 1375 = .ok (.goto 1002, 3) := by decide +kernel
theorem dL_law_1378 : decode cL_law 1378 = .ok (.aload_n 1, 1) := by decide +kernel
theorem dL_law_1379 : decode cL_law 1379 = .ok (.aload_n 0, 1) := by decide +kernel
theorem dL_law_1380 : decode cL_law 1380 = .ok (.iload 4, 2) := by decide +kernel
theorem dL_law_1382 : decode cL_law 1382 = .ok (.iconst 1, 1) := by decide +kernel
theorem dL_law_1383 : decode cL_law 1383 = .ok (.iadd, 1) := by decide +kernel
theorem dL_law_1384 : decode cL_law 1384 = .ok (.iaload, 1) := by decide +kernel
theorem dL_law_1385 : decode cL_law 1385 = .ok (.aload_n 0, 1) := by decide +kernel
theorem dL_law_1386 : decode cL_law 1386 = .ok (.iload 4, 2) := by decide +kernel
theorem dL_law_1388 : decode cL_law 1388 = .ok (.iconst 2, 1) := by decide +kernel
theorem dL_law_1389 : decode cL_law 1389 = .ok (.iadd, 1) := by decide +kernel
theorem dL_law_1390 : decode cL_law 1390 = .ok (.iaload, 1) := by decide +kernel
theorem dL_law_1391 : decode cL_law 1391 = .ok (.aload_n 0, 1) := by decide +kernel
theorem dL_law_1392 : decode cL_law 1392 = .ok (.iload 4, 2) := by decide +kernel
theorem dL_law_1394 : decode cL_law 1394 = .ok (.iconst 3, 1) := by decide +kernel
theorem dL_law_1395 : decode cL_law 1395 = .ok (.iadd, 1) := by decide +kernel
theorem dL_law_1396 : decode cL_law 1396 = .ok (.iaload, 1) := by decide +kernel
theorem dL_law_1397 : decode cL_law 1397 = .ok (.aload_n 0, 1) := by decide +kernel
theorem dL_law_1398 : decode cL_law 1398 = .ok (.iload 4, 2) := by decide +kernel
theorem dL_law_1400 : decode cL_law 1400 = .ok (.iconst 4, 1) := by decide +kernel
theorem dL_law_1401 : decode cL_law 1401 = .ok (.iadd, 1) := by decide +kernel
theorem dL_law_1402 : decode cL_law 1402 = .ok (.iaload, 1) := by decide +kernel
theorem dL_law_1403 : decode cL_law 1403 = .ok (.aload_n 3, 1) := by decide +kernel
theorem dL_law_1404 : decode cL_law 1404 = .ok (.invokestatic 169, 3) := by decide +kernel
theorem dL_law_1407 : decode cL_law 1407 = .ok (.istore 5, 2) := by decide +kernel
theorem dL_law_1409 : decode cL_law 1409 = .ok (.aload_n 2, 1) := by decide +kernel
theorem dL_law_1410 : decode cL_law 1410 = .ok (.aload_n 0, 1) := by decide +kernel
theorem dL_law_1411 : decode cL_law 1411 = .ok (.iload 4, 2) := by decide +kernel
theorem dL_law_1413 : decode cL_law 1413 = .ok (.iconst 1, 1) := by decide +kernel
theorem dL_law_1414 : decode cL_law 1414 = .ok (.iadd, 1) := by decide +kernel
theorem dL_law_1415 : decode cL_law 1415 = .ok (.iaload, 1) := by decide +kernel
theorem dL_law_1416 : decode cL_law 1416 = .ok (.aload_n 0, 1) := by decide +kernel
theorem dL_law_1417 : decode cL_law 1417 = .ok (.iload 4, 2) := by decide +kernel
theorem dL_law_1419 : decode cL_law 1419 = .ok (.iconst 2, 1) := by decide +kernel
theorem dL_law_1420 : decode cL_law 1420 = .ok (.iadd, 1) := by decide +kernel
theorem dL_law_1421 : decode cL_law 1421 = .ok (.iaload, 1) := by decide +kernel
theorem dL_law_1422 : decode cL_law 1422 = .ok (.aload_n 0, 1) := by decide +kernel
theorem dL_law_1423 : decode cL_law 1423 = .ok (.iload 4, 2) := by decide +kernel
theorem dL_law_1425 : decode cL_law 1425 = .ok (.iconst 3, 1) := by decide +kernel
theorem dL_law_1426 : decode cL_law 1426 = .ok (.iadd, 1) := by decide +kernel
theorem dL_law_1427 : decode cL_law 1427 = .ok (.iaload, 1) := by decide +kernel
theorem dL_law_1428 : decode cL_law 1428 = .ok (.aload_n 0, 1) := by decide +kernel
theorem dL_law_1429 : decode cL_law 1429 = .ok (.iload 4, 2) := by decide +kernel
theorem dL_law_1431 : decode cL_law 1431 = .ok (.iconst 4, 1) := by decide +kernel
theorem dL_law_1432 : decode cL_law 1432 = .ok (.iadd, 1) := by decide +kernel
theorem dL_law_1433 : decode cL_law 1433 = .ok (.iaload, 1) := by decide +kernel
theorem dL_law_1434 : decode cL_law 1434 = .ok (.invokevirtual 171, 3) := by decide +kernel
theorem dL_law_1437 : decode cL_law 1437 = .ok (.istore 6, 2) := by decide +kernel
theorem dL_law_1439 : decode cL_law 1439 = .ok (.aload_n 2, 1) := by decide +kernel
theorem dL_law_1440 : decode cL_law 1440 = .ok (.invokevirtual 111, 3) := by decide +kernel
theorem dL_law_1443 : decode cL_law 1443 = .ok (.iload 5, 2) := by decide +kernel
theorem dL_law_1445 : decode cL_law 1445 = .ok (.if_icmp .eq 5, 3) := by decide +kernel
theorem dL_law_1448 : decode cL_law 1448 = .ok (.iconst 0, 1) := by decide +kernel
theorem dL_law_1449 : decode cL_law 1449 = .ok (.ireturn, 1) := by decide +kernel
theorem dL_law_1450 : decode cL_law 1450 = .ok (.iload 5, 2) := by decide +kernel
theorem dL_law_1452 : decode cL_law 1452 = .ok (.ifCond .ne 15, 3) := by decide +kernel
theorem dL_law_1455 : decode cL_law 1455 = .ok (.aload_n 3, 1) := by decide +kernel
theorem dL_law_1456 : decode cL_law 1456 = .ok (.iconst 0, 1) := by decide +kernel
theorem dL_law_1457 : decode cL_law 1457 = .ok (.laload, 1) := by decide +kernel
theorem dL_law_1458 : decode cL_law 1458 = .ok (.iload 6, 2) := by decide +kernel
theorem dL_law_1460 : decode cL_law 1460 = .ok (.i2l, 1) := by decide +kernel
theorem dL_law_1461 : decode cL_law 1461 = .ok (.lcmp, 1) := by decide +kernel
theorem dL_law_1462 : decode cL_law 1462 = .ok (.ifCond .eq 5, 3) := by decide +kernel
theorem dL_law_1465 : decode cL_law 1465 = .ok (.iconst 0, 1) := by decide +kernel
theorem dL_law_1466 : decode cL_law 1466 = .ok (.ireturn, 1) := by decide +kernel
theorem dL_law_1467 : decode cL_law 1467 = .ok (.goto 910, 3) := by decide +kernel
theorem dL_law_1470 : decode cL_law 1470 = .ok (.aload_n 1, 1) := by decide +kernel
theorem dL_law_1471 : decode cL_law 1471 = .ok (.aload_n 0, 1) := by decide +kernel
theorem dL_law_1472 : decode cL_law 1472 = .ok (.iload 4, 2) := by decide +kernel
theorem dL_law_1474 : decode cL_law 1474 = .ok (.iconst 1, 1) := by decide +kernel
theorem dL_law_1475 : decode cL_law 1475 = .ok (.iadd, 1) := by decide +kernel
theorem dL_law_1476 : decode cL_law 1476 = .ok (.iaload, 1) := by decide +kernel
theorem dL_law_1477 : decode cL_law 1477 = .ok (.aload_n 0, 1) := by decide +kernel
theorem dL_law_1478 : decode cL_law 1478 = .ok (.iload 4, 2) := by decide +kernel
theorem dL_law_1480 : decode cL_law 1480 = .ok (.iconst 2, 1) := by decide +kernel
theorem dL_law_1481 : decode cL_law 1481 = .ok (.iadd, 1) := by decide +kernel
theorem dL_law_1482 : decode cL_law 1482 = .ok (.iaload, 1) := by decide +kernel
theorem dL_law_1483 : decode cL_law 1483 = .ok (.aload_n 0, 1) := by decide +kernel
theorem dL_law_1484 : decode cL_law 1484 = .ok (.iload 4, 2) := by decide +kernel
theorem dL_law_1486 : decode cL_law 1486 = .ok (.iconst 3, 1) := by decide +kernel
theorem dL_law_1487 : decode cL_law 1487 = .ok (.iadd, 1) := by decide +kernel
theorem dL_law_1488 : decode cL_law 1488 = .ok (.iaload, 1) := by decide +kernel
theorem dL_law_1489 : decode cL_law 1489 = .ok (.aload_n 3, 1) := by decide +kernel
theorem dL_law_1490 : decode cL_law 1490 = .ok (.invokestatic 172, 3) := by decide +kernel
theorem dL_law_1493 : decode cL_law 1493 = .ok (.istore 5, 2) := by decide +kernel
theorem dL_law_1495 : decode cL_law 1495 = .ok (.aload_n 2, 1) := by decide +kernel
theorem dL_law_1496 : decode cL_law 1496 = .ok (.aload_n 0, 1) := by decide +kernel
theorem dL_law_1497 : decode cL_law 1497 = .ok (.iload 4, 2) := by decide +kernel
theorem dL_law_1499 : decode cL_law 1499 = .ok (.iconst 1, 1) := by decide +kernel
theorem dL_law_1500 : decode cL_law 1500 = .ok (.iadd, 1) := by decide +kernel
theorem dL_law_1501 : decode cL_law 1501 = .ok (.iaload, 1) := by decide +kernel
theorem dL_law_1502 : decode cL_law 1502 = .ok (.aload_n 0, 1) := by decide +kernel
theorem dL_law_1503 : decode cL_law 1503 = .ok (.iload 4, 2) := by decide +kernel
theorem dL_law_1505 : decode cL_law 1505 = .ok (.iconst 2, 1) := by decide +kernel
theorem dL_law_1506 : decode cL_law 1506 = .ok (.iadd, 1) := by decide +kernel
theorem dL_law_1507 : decode cL_law 1507 = .ok (.iaload, 1) := by decide +kernel
theorem dL_law_1508 : decode cL_law 1508 = .ok (.aload_n 0, 1) := by decide +kernel
theorem dL_law_1509 : decode cL_law 1509 = .ok (.iload 4, 2) := by decide +kernel
theorem dL_law_1511 : decode cL_law 1511 = .ok (.iconst 3, 1) := by decide +kernel
theorem dL_law_1512 : decode cL_law 1512 = .ok (.iadd, 1) := by decide +kernel
theorem dL_law_1513 : decode cL_law 1513 = .ok (.iaload, 1) := by decide +kernel
theorem dL_law_1514 : decode cL_law 1514 = .ok (.invokevirtual 174, 3) := by decide +kernel
theorem dL_law_1517 : decode cL_law 1517 = .ok (.istore 6, 2) := by decide +kernel
theorem dL_law_1519 : decode cL_law 1519 = .ok (.aload_n 2, 1) := by decide +kernel
theorem dL_law_1520 : decode cL_law 1520 = .ok (.invokevirtual 111, 3) := by decide +kernel
theorem dL_law_1523 : decode cL_law 1523 = .ok (.iload 5, 2) := by decide +kernel
theorem dL_law_1525 : decode cL_law 1525 = .ok (.if_icmp .eq 5, 3) := by decide +kernel
theorem dL_law_1528 : decode cL_law 1528 = .ok (.iconst 0, 1) := by decide +kernel
theorem dL_law_1529 : decode cL_law 1529 = .ok (.ireturn, 1) := by decide +kernel
theorem dL_law_1530 : decode cL_law 1530 = .ok (.iload 5, 2) := by decide +kernel
theorem dL_law_1532 : decode cL_law 1532 = .ok (.ifCond .ne 15, 3) := by decide +kernel
theorem dL_law_1535 : decode cL_law 1535 = .ok (.aload_n 3, 1) := by decide +kernel
theorem dL_law_1536 : decode cL_law 1536 = .ok (.iconst 0, 1) := by decide +kernel
theorem dL_law_1537 : decode cL_law 1537 = .ok (.laload, 1) := by decide +kernel
theorem dL_law_1538 : decode cL_law 1538 = .ok (.iload 6, 2) := by decide +kernel
theorem dL_law_1540 : decode cL_law 1540 = .ok (.i2l, 1) := by decide +kernel
theorem dL_law_1541 : decode cL_law 1541 = .ok (.lcmp, 1) := by decide +kernel
theorem dL_law_1542 : decode cL_law 1542 = .ok (.ifCond .eq 5, 3) := by decide +kernel
theorem dL_law_1545 : decode cL_law 1545 = .ok (.iconst 0, 1) := by decide +kernel
theorem dL_law_1546 : decode cL_law 1546 = .ok (.ireturn, 1) := by decide +kernel
theorem dL_law_1547 : decode cL_law 1547 = .ok (.goto 830, 3) := by decide +kernel
theorem dL_law_1550 : decode cL_law 1550 = .ok (.aload_n 1, 1) := by decide +kernel
theorem dL_law_1551 : decode cL_law 1551 = .ok (.aload_n 0, 1) := by decide +kernel
theorem dL_law_1552 : decode cL_law 1552 = .ok (.iload 4, 2) := by decide +kernel
theorem dL_law_1554 : decode cL_law 1554 = .ok (.iconst 1, 1) := by decide +kernel
theorem dL_law_1555 : decode cL_law 1555 = .ok (.iadd, 1) := by decide +kernel
theorem dL_law_1556 : decode cL_law 1556 = .ok (.iaload, 1) := by decide +kernel
theorem dL_law_1557 : decode cL_law 1557 = .ok (.aload_n 0, 1) := by decide +kernel
theorem dL_law_1558 : decode cL_law 1558 = .ok (.iload 4, 2) := by decide +kernel
theorem dL_law_1560 : decode cL_law 1560 = .ok (.iconst 2, 1) := by decide +kernel
theorem dL_law_1561 : decode cL_law 1561 = .ok (.iadd, 1) := by decide +kernel
theorem dL_law_1562 : decode cL_law 1562 = .ok (.iaload, 1) := by decide +kernel
theorem dL_law_1563 : decode cL_law 1563 = .ok (.aload_n 3, 1) := by decide +kernel
theorem dL_law_1564 : decode cL_law 1564 = .ok (.invokestatic 175, 3) := by decide +kernel
theorem dL_law_1567 : decode cL_law 1567 = .ok (.istore 5, 2) := by decide +kernel
theorem dL_law_1569 : decode cL_law 1569 = .ok (.aload_n 2, 1) := by decide +kernel
theorem dL_law_1570 : decode cL_law 1570 = .ok (.aload_n 0, 1) := by decide +kernel
theorem dL_law_1571 : decode cL_law 1571 = .ok (.iload 4, 2) := by decide +kernel
theorem dL_law_1573 : decode cL_law 1573 = .ok (.iconst 1, 1) := by decide +kernel
theorem dL_law_1574 : decode cL_law 1574 = .ok (.iadd, 1) := by decide +kernel
theorem dL_law_1575 : decode cL_law 1575 = .ok (.iaload, 1) := by decide +kernel
theorem dL_law_1576 : decode cL_law 1576 = .ok (.aload_n 0, 1) := by decide +kernel
theorem dL_law_1577 : decode cL_law 1577 = .ok (.iload 4, 2) := by decide +kernel
theorem dL_law_1579 : decode cL_law 1579 = .ok (.iconst 2, 1) := by decide +kernel
theorem dL_law_1580 : decode cL_law 1580 = .ok (.iadd, 1) := by decide +kernel
theorem dL_law_1581 : decode cL_law 1581 = .ok (.iaload, 1) := by decide +kernel
theorem dL_law_1582 : decode cL_law 1582 = .ok (.invokevirtual 177, 3) := by decide +kernel
theorem dL_law_1585 : decode cL_law 1585 = .ok (.istore 6, 2) := by decide +kernel
theorem dL_law_1587 : decode cL_law 1587 = .ok (.aload_n 2, 1) := by decide +kernel
theorem dL_law_1588 : decode cL_law 1588 = .ok (.invokevirtual 111, 3) := by decide +kernel
theorem dL_law_1591 : decode cL_law 1591 = .ok (.iload 5, 2) := by decide +kernel
theorem dL_law_1593 : decode cL_law 1593 = .ok (.if_icmp .eq 5, 3) := by decide +kernel
theorem dL_law_1596 : decode cL_law 1596 = .ok (.iconst 0, 1) := by decide +kernel
theorem dL_law_1597 : decode cL_law 1597 = .ok (.ireturn, 1) := by decide +kernel
theorem dL_law_1598 : decode cL_law 1598 = .ok (.iload 5, 2) := by decide +kernel
theorem dL_law_1600 : decode cL_law 1600 = .ok (.ifCond .ne 15, 3) := by decide +kernel
theorem dL_law_1603 : decode cL_law 1603 = .ok (.aload_n 3, 1) := by decide +kernel
theorem dL_law_1604 : decode cL_law 1604 = .ok (.iconst 0, 1) := by decide +kernel
theorem dL_law_1605 : decode cL_law 1605 = .ok (.laload, 1) := by decide +kernel
theorem dL_law_1606 : decode cL_law 1606 = .ok (.iload 6, 2) := by decide +kernel
theorem dL_law_1608 : decode cL_law 1608 = .ok (.i2l, 1) := by decide +kernel
theorem dL_law_1609 : decode cL_law 1609 = .ok (.lcmp, 1) := by decide +kernel
theorem dL_law_1610 : decode cL_law 1610 = .ok (.ifCond .eq 5, 3) := by decide +kernel
theorem dL_law_1613 : decode cL_law 1613 = .ok (.iconst 0, 1) := by decide +kernel
theorem dL_law_1614 : decode cL_law 1614 = .ok (.ireturn, 1) := by decide +kernel
theorem dL_law_1615 : decode cL_law 1615 = .ok (.goto 762, 3) := by decide +kernel
theorem dL_law_1618 : decode cL_law 1618 = .ok (.aload_n 1, 1) := by decide +kernel
theorem dL_law_1619 : decode cL_law 1619 = .ok (.aload_n 0, 1) := by decide +kernel
theorem dL_law_1620 : decode cL_law 1620 = .ok (.iload 4, 2) := by decide +kernel
theorem dL_law_1622 : decode cL_law 1622 = .ok (.iconst 1, 1) := by decide +kernel
theorem dL_law_1623 : decode cL_law 1623 = .ok (.iadd, 1) := by decide +kernel
theorem dL_law_1624 : decode cL_law 1624 = .ok (.iaload, 1) := by decide +kernel
theorem dL_law_1625 : decode cL_law 1625 = .ok (.aload_n 0, 1) := by decide +kernel
theorem dL_law_1626 : decode cL_law 1626 = .ok (.iload 4, 2) := by decide +kernel
theorem dL_law_1628 : decode cL_law 1628 = .ok (.iconst 2, 1) := by decide +kernel
theorem dL_law_1629 : decode cL_law 1629 = .ok (.iadd, 1) := by decide +kernel
theorem dL_law_1630 : decode cL_law 1630 = .ok (.iaload, 1) := by decide +kernel
theorem dL_law_1631 : decode cL_law 1631 = .ok (.aload_n 0, 1) := by decide +kernel
theorem dL_law_1632 : decode cL_law 1632 = .ok (.iload 4, 2) := by decide +kernel
theorem dL_law_1634 : decode cL_law 1634 = .ok (.iconst 3, 1) := by decide +kernel
theorem dL_law_1635 : decode cL_law 1635 = .ok (.iadd, 1) := by decide +kernel
theorem dL_law_1636 : decode cL_law 1636 = .ok (.iaload, 1) := by decide +kernel
theorem dL_law_1637 : decode cL_law 1637 = .ok (.aload_n 3, 1) := by decide +kernel
theorem dL_law_1638 : decode cL_law 1638 = .ok (.invokestatic 178, 3) := by decide +kernel
theorem dL_law_1641 : decode cL_law 1641 = .ok (.istore 5, 2) := by decide +kernel
theorem dL_law_1643 : decode cL_law 1643 = .ok (.aload_n 2, 1) := by decide +kernel
theorem dL_law_1644 : decode cL_law 1644 = .ok (.aload_n 0, 1) := by decide +kernel
theorem dL_law_1645 : decode cL_law 1645 = .ok (.iload 4, 2) := by decide +kernel
theorem dL_law_1647 : decode cL_law 1647 = .ok (.iconst 1, 1) := by decide +kernel
theorem dL_law_1648 : decode cL_law 1648 = .ok (.iadd, 1) := by decide +kernel
theorem dL_law_1649 : decode cL_law 1649 = .ok (.iaload, 1) := by decide +kernel
theorem dL_law_1650 : decode cL_law 1650 = .ok (.aload_n 0, 1) := by decide +kernel
theorem dL_law_1651 : decode cL_law 1651 = .ok (.iload 4, 2) := by decide +kernel
theorem dL_law_1653 : decode cL_law 1653 = .ok (.iconst 2, 1) := by decide +kernel
theorem dL_law_1654 : decode cL_law 1654 = .ok (.iadd, 1) := by decide +kernel
theorem dL_law_1655 : decode cL_law 1655 = .ok (.iaload, 1) := by decide +kernel
theorem dL_law_1656 : decode cL_law 1656 = .ok (.aload_n 0, 1) := by decide +kernel
theorem dL_law_1657 : decode cL_law 1657 = .ok (.iload 4, 2) := by decide +kernel
theorem dL_law_1659 : decode cL_law 1659 = .ok (.iconst 3, 1) := by decide +kernel
theorem dL_law_1660 : decode cL_law 1660 = .ok (.iadd, 1) := by decide +kernel
theorem dL_law_1661 : decode cL_law 1661 = .ok (.iaload, 1) := by decide +kernel
theorem dL_law_1662 : decode cL_law 1662 = .ok (.invokevirtual 180, 3) := by decide +kernel
theorem dL_law_1665 : decode cL_law 1665 = .ok (.istore 6, 2) := by decide +kernel
theorem dL_law_1667 : decode cL_law 1667 = .ok (.aload_n 2, 1) := by decide +kernel
theorem dL_law_1668 : decode cL_law 1668 = .ok (.invokevirtual 111, 3) := by decide +kernel
theorem dL_law_1671 : decode cL_law 1671 = .ok (.iload 5, 2) := by decide +kernel
theorem dL_law_1673 : decode cL_law 1673 = .ok (.if_icmp .eq 5, 3) := by decide +kernel
theorem dL_law_1676 : decode cL_law 1676 = .ok (.iconst 0, 1) := by decide +kernel
theorem dL_law_1677 : decode cL_law 1677 = .ok (.ireturn, 1) := by decide +kernel
theorem dL_law_1678 : decode cL_law 1678 = .ok (.iload 5, 2) := by decide +kernel
theorem dL_law_1680 : decode cL_law 1680 = .ok (.ifCond .ne 15, 3) := by decide +kernel
theorem dL_law_1683 : decode cL_law 1683 = .ok (.aload_n 3, 1) := by decide +kernel
theorem dL_law_1684 : decode cL_law 1684 = .ok (.iconst 0, 1) := by decide +kernel
theorem dL_law_1685 : decode cL_law 1685 = .ok (.laload, 1) := by decide +kernel
theorem dL_law_1686 : decode cL_law 1686 = .ok (.iload 6, 2) := by decide +kernel
theorem dL_law_1688 : decode cL_law 1688 = .ok (.i2l, 1) := by decide +kernel
theorem dL_law_1689 : decode cL_law 1689 = .ok (.lcmp, 1) := by decide +kernel
theorem dL_law_1690 : decode cL_law 1690 = .ok (.ifCond .eq 5, 3) := by decide +kernel
theorem dL_law_1693 : decode cL_law 1693 = .ok (.iconst 0, 1) := by decide +kernel
theorem dL_law_1694 : decode cL_law 1694 = .ok (.ireturn, 1) := by decide +kernel
theorem dL_law_1695 : decode cL_law 1695 = .ok (.goto 682, 3) := by decide +kernel
theorem dL_law_1698 : decode cL_law 1698 = .ok (.aload_n 1, 1) := by decide +kernel
theorem dL_law_1699 : decode cL_law 1699 = .ok (.aload_n 0, 1) := by decide +kernel
theorem dL_law_1700 : decode cL_law 1700 = .ok (.iload 4, 2) := by decide +kernel
theorem dL_law_1702 : decode cL_law 1702 = .ok (.iconst 1, 1) := by decide +kernel
theorem dL_law_1703 : decode cL_law 1703 = .ok (.iadd, 1) := by decide +kernel
theorem dL_law_1704 : decode cL_law 1704 = .ok (.iaload, 1) := by decide +kernel
theorem dL_law_1705 : decode cL_law 1705 = .ok (.aload_n 3, 1) := by decide +kernel
theorem dL_law_1706 : decode cL_law 1706 = .ok (.invokestatic 181, 3) := by decide +kernel
theorem dL_law_1709 : decode cL_law 1709 = .ok (.istore 5, 2) := by decide +kernel
theorem dL_law_1711 : decode cL_law 1711 = .ok (.aload_n 2, 1) := by decide +kernel
theorem dL_law_1712 : decode cL_law 1712 = .ok (.aload_n 0, 1) := by decide +kernel
theorem dL_law_1713 : decode cL_law 1713 = .ok (.iload 4, 2) := by decide +kernel
theorem dL_law_1715 : decode cL_law 1715 = .ok (.iconst 1, 1) := by decide +kernel
theorem dL_law_1716 : decode cL_law 1716 = .ok (.iadd, 1) := by decide +kernel
theorem dL_law_1717 : decode cL_law 1717 = .ok (.iaload, 1) := by decide +kernel
theorem dL_law_1718 : decode cL_law 1718 = .ok (.invokevirtual 183, 3) := by decide +kernel
theorem dL_law_1721 : decode cL_law 1721 = .ok (.istore 6, 2) := by decide +kernel
theorem dL_law_1723 : decode cL_law 1723 = .ok (.aload_n 2, 1) := by decide +kernel
theorem dL_law_1724 : decode cL_law 1724 = .ok (.invokevirtual 111, 3) := by decide +kernel
theorem dL_law_1727 : decode cL_law 1727 = .ok (.iload 5, 2) := by decide +kernel
theorem dL_law_1729 : decode cL_law 1729 = .ok (.if_icmp .eq 5, 3) := by decide +kernel
theorem dL_law_1732 : decode cL_law 1732 = .ok (.iconst 0, 1) := by decide +kernel
theorem dL_law_1733 : decode cL_law 1733 = .ok (.ireturn, 1) := by decide +kernel
theorem dL_law_1734 : decode cL_law 1734 = .ok (.iload 5, 2) := by decide +kernel
theorem dL_law_1736 : decode cL_law 1736 = .ok (.ifCond .ne 15, 3) := by decide +kernel
theorem dL_law_1739 : decode cL_law 1739 = .ok (.aload_n 3, 1) := by decide +kernel
theorem dL_law_1740 : decode cL_law 1740 = .ok (.iconst 0, 1) := by decide +kernel
theorem dL_law_1741 : decode cL_law 1741 = .ok (.laload, 1) := by decide +kernel
theorem dL_law_1742 : decode cL_law 1742 = .ok (.iload 6, 2) := by decide +kernel
theorem dL_law_1744 : decode cL_law 1744 = .ok (.i2l, 1) := by decide +kernel
theorem dL_law_1745 : decode cL_law 1745 = .ok (.lcmp, 1) := by decide +kernel
theorem dL_law_1746 : decode cL_law 1746 = .ok (.ifCond .eq 5, 3) := by decide +kernel
theorem dL_law_1749 : decode cL_law 1749 = .ok (.iconst 0, 1) := by decide +kernel
theorem dL_law_1750 : decode cL_law 1750 = .ok (.ireturn, 1) := by decide +kernel
theorem dL_law_1751 : decode cL_law 1751 = .ok (.goto 626, 3) := by decide +kernel
theorem dL_law_1754 : decode cL_law 1754 = .ok (.aload_n 1, 1) := by decide +kernel
theorem dL_law_1755 : decode cL_law 1755 = .ok (.invokevirtual 184, 3) := by decide +kernel
theorem dL_law_1758 : decode cL_law 1758 = .ok (.aload_n 2, 1) := by decide +kernel
theorem dL_law_1759 : decode cL_law 1759 = .ok (.invokevirtual 187, 3) := by decide +kernel
theorem dL_law_1762 : decode cL_law 1762 = .ok (.if_icmp .eq 615, 3) := by decide +kernel
theorem dL_law_1765 : decode cL_law 1765 = .ok (.iconst 0, 1) := by decide +kernel
theorem dL_law_1766 : decode cL_law 1766 = .ok (.ireturn, 1) := by decide +kernel
theorem dL_law_1767 : decode cL_law 1767 = .ok (.aload_n 1, 1) := by decide +kernel
theorem dL_law_1768 : decode cL_law 1768 = .ok (.aload_n 0, 1) := by decide +kernel
theorem dL_law_1769 : decode cL_law 1769 = .ok (.iload 4, 2) := by decide +kernel
theorem dL_law_1771 : decode cL_law 1771 = .ok (.iconst 1, 1) := by decide +kernel
theorem dL_law_1772 : decode cL_law 1772 = .ok (.iadd, 1) := by decide +kernel
theorem dL_law_1773 : decode cL_law 1773 = .ok (.iaload, 1) := by decide +kernel
theorem dL_law_1774 : decode cL_law 1774 = .ok (.aload_n 0, 1) := by decide +kernel
theorem dL_law_1775 : decode cL_law 1775 = .ok (.iload 4, 2) := by decide +kernel
theorem dL_law_1777 : decode cL_law 1777 = .ok (.iconst 2, 1) := by decide +kernel
theorem dL_law_1778 : decode cL_law 1778 = .ok (.iadd, 1) := by decide +kernel
theorem dL_law_1779 : decode cL_law 1779 = .ok (.iaload, 1) := by decide +kernel
theorem dL_law_1780 : decode cL_law 1780 = .ok (.aload_n 0, 1) := by decide +kernel
theorem dL_law_1781 : decode cL_law 1781 = .ok (.iload 4, 2) := by decide +kernel
theorem dL_law_1783 : decode cL_law 1783 = .ok (.iconst 3, 1) := by decide +kernel
theorem dL_law_1784 : decode cL_law 1784 = .ok (.iadd, 1) := by decide +kernel
theorem dL_law_1785 : decode cL_law 1785 = .ok (.iaload, 1) := by decide +kernel
theorem dL_law_1786 : decode cL_law 1786 = .ok (.aload_n 3, 1) := by decide +kernel
theorem dL_law_1787 : decode cL_law 1787 = .ok (.invokestatic 188, 3) := by decide +kernel
theorem dL_law_1790 : decode cL_law 1790 = .ok (.istore 5, 2) := by decide +kernel
theorem dL_law_1792 : decode cL_law 1792 = .ok (.aload_n 2, 1) := by decide +kernel
theorem dL_law_1793 : decode cL_law 1793 = .ok (.aload_n 0, 1) := by decide +kernel
theorem dL_law_1794 : decode cL_law 1794 = .ok (.iload 4, 2) := by decide +kernel
theorem dL_law_1796 : decode cL_law 1796 = .ok (.iconst 1, 1) := by decide +kernel
theorem dL_law_1797 : decode cL_law 1797 = .ok (.iadd, 1) := by decide +kernel
theorem dL_law_1798 : decode cL_law 1798 = .ok (.iaload, 1) := by decide +kernel
theorem dL_law_1799 : decode cL_law 1799 = .ok (.aload_n 0, 1) := by decide +kernel
theorem dL_law_1800 : decode cL_law 1800 = .ok (.iload 4, 2) := by decide +kernel
theorem dL_law_1802 : decode cL_law 1802 = .ok (.iconst 2, 1) := by decide +kernel
theorem dL_law_1803 : decode cL_law 1803 = .ok (.iadd, 1) := by decide +kernel
theorem dL_law_1804 : decode cL_law 1804 = .ok (.iaload, 1) := by decide +kernel
theorem dL_law_1805 : decode cL_law 1805 = .ok (.aload_n 0, 1) := by decide +kernel
theorem dL_law_1806 : decode cL_law 1806 = .ok (.iload 4, 2) := by decide +kernel
theorem dL_law_1808 : decode cL_law 1808 = .ok (.iconst 3, 1) := by decide +kernel
theorem dL_law_1809 : decode cL_law 1809 = .ok (.iadd, 1) := by decide +kernel
theorem dL_law_1810 : decode cL_law 1810 = .ok (.iaload, 1) := by decide +kernel
theorem dL_law_1811 : decode cL_law 1811 = .ok (.invokevirtual 190, 3) := by decide +kernel
theorem dL_law_1814 : decode cL_law 1814 = .ok (.istore 6, 2) := by decide +kernel
theorem dL_law_1816 : decode cL_law 1816 = .ok (.aload_n 2, 1) := by decide +kernel
theorem dL_law_1817 : decode cL_law 1817 = .ok (.invokevirtual 111, 3) := by decide +kernel
theorem dL_law_1820 : decode cL_law 1820 = .ok (.iload 5, 2) := by decide +kernel
theorem dL_law_1822 : decode cL_law 1822 = .ok (.if_icmp .eq 5, 3) := by decide +kernel
theorem dL_law_1825 : decode cL_law 1825 = .ok (.iconst 0, 1) := by decide +kernel
theorem dL_law_1826 : decode cL_law 1826 = .ok (.ireturn, 1) := by decide +kernel
theorem dL_law_1827 : decode cL_law 1827 = .ok (.iload 5, 2) := by decide +kernel
theorem dL_law_1829 : decode cL_law 1829 = .ok (.ifCond .ne 15, 3) := by decide +kernel
theorem dL_law_1832 : decode cL_law 1832 = .ok (.aload_n 3, 1) := by decide +kernel
theorem dL_law_1833 : decode cL_law 1833 = .ok (.iconst 0, 1) := by decide +kernel
theorem dL_law_1834 : decode cL_law 1834 = .ok (.laload, 1) := by decide +kernel
theorem dL_law_1835 : decode cL_law 1835 = .ok (.iload 6, 2) := by decide +kernel
theorem dL_law_1837 : decode cL_law 1837 = .ok (.i2l, 1) := by decide +kernel
theorem dL_law_1838 : decode cL_law 1838 = .ok (.lcmp, 1) := by decide +kernel
theorem dL_law_1839 : decode cL_law 1839 = .ok (.ifCond .eq 5, 3) := by decide +kernel
theorem dL_law_1842 : decode cL_law 1842 = .ok (.iconst 0, 1) := by decide +kernel
theorem dL_law_1843 : decode cL_law 1843 = .ok (.ireturn, 1) := by decide +kernel
theorem dL_law_1844 : decode cL_law 1844 = .ok (.goto 533, 3) := by decide +kernel
theorem dL_law_1847 : decode cL_law 1847 = .ok (.aload_n 1, 1) := by decide +kernel
theorem dL_law_1848 : decode cL_law 1848 = .ok (.aload_n 0, 1) := by decide +kernel
theorem dL_law_1849 : decode cL_law 1849 = .ok (.iload 4, 2) := by decide +kernel
theorem dL_law_1851 : decode cL_law 1851 = .ok (.iconst 1, 1) := by decide +kernel
theorem dL_law_1852 : decode cL_law 1852 = .ok (.iadd, 1) := by decide +kernel
theorem dL_law_1853 : decode cL_law 1853 = .ok (.iaload, 1) := by decide +kernel
theorem dL_law_1854 : decode cL_law 1854 = .ok (.aload_n 0, 1) := by decide +kernel
theorem dL_law_1855 : decode cL_law 1855 = .ok (.iload 4, 2) := by decide +kernel
theorem dL_law_1857 : decode cL_law 1857 = .ok (.iconst 2, 1) := by decide +kernel
theorem dL_law_1858 : decode cL_law 1858 = .ok (.iadd, 1) := by decide +kernel
theorem dL_law_1859 : decode cL_law 1859 = .ok (.iaload, 1) := by decide +kernel
theorem dL_law_1860 : decode cL_law 1860 = .ok (.aload_n 0, 1) := by decide +kernel
theorem dL_law_1861 : decode cL_law 1861 = .ok (.iload 4, 2) := by decide +kernel
theorem dL_law_1863 : decode cL_law 1863 = .ok (.iconst 3, 1) := by decide +kernel
theorem dL_law_1864 : decode cL_law 1864 = .ok (.iadd, 1) := by decide +kernel
theorem dL_law_1865 : decode cL_law 1865 = .ok (.iaload, 1) := by decide +kernel
theorem dL_law_1866 : decode cL_law 1866 = .ok (.aload_n 3, 1) := by decide +kernel
theorem dL_law_1867 : decode cL_law 1867 = .ok (.invokestatic 191, 3) := by decide +kernel
theorem dL_law_1870 : decode cL_law 1870 = .ok (.istore 5, 2) := by decide +kernel
theorem dL_law_1872 : decode cL_law 1872 = .ok (.aload_n 2, 1) := by decide +kernel
theorem dL_law_1873 : decode cL_law 1873 = .ok (.aload_n 0, 1) := by decide +kernel
theorem dL_law_1874 : decode cL_law 1874 = .ok (.iload 4, 2) := by decide +kernel
theorem dL_law_1876 : decode cL_law 1876 = .ok (.iconst 1, 1) := by decide +kernel
theorem dL_law_1877 : decode cL_law 1877 = .ok (.iadd, 1) := by decide +kernel
theorem dL_law_1878 : decode cL_law 1878 = .ok (.iaload, 1) := by decide +kernel
theorem dL_law_1879 : decode cL_law 1879 = .ok (.aload_n 0, 1) := by decide +kernel
theorem dL_law_1880 : decode cL_law 1880 = .ok (.iload 4, 2) := by decide +kernel
theorem dL_law_1882 : decode cL_law 1882 = .ok (.iconst 2, 1) := by decide +kernel
theorem dL_law_1883 : decode cL_law 1883 = .ok (.iadd, 1) := by decide +kernel
theorem dL_law_1884 : decode cL_law 1884 = .ok (.iaload, 1) := by decide +kernel
theorem dL_law_1885 : decode cL_law 1885 = .ok (.aload_n 0, 1) := by decide +kernel
theorem dL_law_1886 : decode cL_law 1886 = .ok (.iload 4, 2) := by decide +kernel
theorem dL_law_1888 : decode cL_law 1888 = .ok (.iconst 3, 1) := by decide +kernel
theorem dL_law_1889 : decode cL_law 1889 = .ok (.iadd, 1) := by decide +kernel
theorem dL_law_1890 : decode cL_law 1890 = .ok (.iaload, 1) := by decide +kernel
theorem dL_law_1891 : decode cL_law 1891 = .ok (.invokevirtual 193, 3) := by decide +kernel
theorem dL_law_1894 : decode cL_law 1894 = .ok (.istore 6, 2) := by decide +kernel
theorem dL_law_1896 : decode cL_law 1896 = .ok (.aload_n 2, 1) := by decide +kernel
theorem dL_law_1897 : decode cL_law 1897 = .ok (.invokevirtual 111, 3) := by decide +kernel
theorem dL_law_1900 : decode cL_law 1900 = .ok (.iload 5, 2) := by decide +kernel
theorem dL_law_1902 : decode cL_law 1902 = .ok (.if_icmp .eq 5, 3) := by decide +kernel
theorem dL_law_1905 : decode cL_law 1905 = .ok (.iconst 0, 1) := by decide +kernel
theorem dL_law_1906 : decode cL_law 1906 = .ok (.ireturn, 1) := by decide +kernel
theorem dL_law_1907 : decode cL_law 1907 = .ok (.iload 5, 2) := by decide +kernel
theorem dL_law_1909 : decode cL_law 1909 = .ok (.ifCond .ne 15, 3) := by decide +kernel
theorem dL_law_1912 : decode cL_law 1912 = .ok (.aload_n 3, 1) := by decide +kernel
theorem dL_law_1913 : decode cL_law 1913 = .ok (.iconst 0, 1) := by decide +kernel
theorem dL_law_1914 : decode cL_law 1914 = .ok (.laload, 1) := by decide +kernel
theorem dL_law_1915 : decode cL_law 1915 = .ok (.iload 6, 2) := by decide +kernel
theorem dL_law_1917 : decode cL_law 1917 = .ok (.i2l, 1) := by decide +kernel
theorem dL_law_1918 : decode cL_law 1918 = .ok (.lcmp, 1) := by decide +kernel
theorem dL_law_1919 : decode cL_law 1919 = .ok (.ifCond .eq 5, 3) := by decide +kernel
theorem dL_law_1922 : decode cL_law 1922 = .ok (.iconst 0, 1) := by decide +kernel
theorem dL_law_1923 : decode cL_law 1923 = .ok (.ireturn, 1) := by decide +kernel
theorem dL_law_1924 : decode cL_law 1924 = .ok (.goto 453, 3) := by decide +kernel
theorem dL_law_1927 : decode cL_law 1927 = .ok (.aload_n 1, 1) := by decide +kernel
theorem dL_law_1928 : decode cL_law 1928 = .ok (.aload_n 0, 1) := by decide +kernel
theorem dL_law_1929 : decode cL_law 1929 = .ok (.iload 4, 2) := by decide +kernel
theorem dL_law_1931 : decode cL_law 1931 = .ok (.iconst 1, 1) := by decide +kernel
theorem dL_law_1932 : decode cL_law 1932 = .ok (.iadd, 1) := by decide +kernel
theorem dL_law_1933 : decode cL_law 1933 = .ok (.iaload, 1) := by decide +kernel
theorem dL_law_1934 : decode cL_law 1934 = .ok (.aload_n 0, 1) := by decide +kernel
theorem dL_law_1935 : decode cL_law 1935 = .ok (.iload 4, 2) := by decide +kernel
theorem dL_law_1937 : decode cL_law 1937 = .ok (.iconst 2, 1) := by decide +kernel
theorem dL_law_1938 : decode cL_law 1938 = .ok (.iadd, 1) := by decide +kernel
theorem dL_law_1939 : decode cL_law 1939 = .ok (.iaload, 1) := by decide +kernel
theorem dL_law_1940 : decode cL_law 1940 = .ok (.aload_n 0, 1) := by decide +kernel
theorem dL_law_1941 : decode cL_law 1941 = .ok (.iload 4, 2) := by decide +kernel
theorem dL_law_1943 : decode cL_law 1943 = .ok (.iconst 3, 1) := by decide +kernel
theorem dL_law_1944 : decode cL_law 1944 = .ok (.iadd, 1) := by decide +kernel
theorem dL_law_1945 : decode cL_law 1945 = .ok (.iaload, 1) := by decide +kernel
theorem dL_law_1946 : decode cL_law 1946 = .ok (.aload_n 0, 1) := by decide +kernel
theorem dL_law_1947 : decode cL_law 1947 = .ok (.iload 4, 2) := by decide +kernel
theorem dL_law_1949 : decode cL_law 1949 = .ok (.iconst 4, 1) := by decide +kernel
theorem dL_law_1950 : decode cL_law 1950 = .ok (.iadd, 1) := by decide +kernel
theorem dL_law_1951 : decode cL_law 1951 = .ok (.iaload, 1) := by decide +kernel
theorem dL_law_1952 : decode cL_law 1952 = .ok (.aload_n 3, 1) := by decide +kernel
theorem dL_law_1953 : decode cL_law 1953 = .ok (.invokestatic 194, 3) := by decide +kernel
theorem dL_law_1956 : decode cL_law 1956 = .ok (.istore 5, 2) := by decide +kernel
theorem dL_law_1958 : decode cL_law 1958 = .ok (.aload_n 2, 1) := by decide +kernel
theorem dL_law_1959 : decode cL_law 1959 = .ok (.aload_n 0, 1) := by decide +kernel
theorem dL_law_1960 : decode cL_law 1960 = .ok (.iload 4, 2) := by decide +kernel
theorem dL_law_1962 : decode cL_law 1962 = .ok (.iconst 1, 1) := by decide +kernel
theorem dL_law_1963 : decode cL_law 1963 = .ok (.iadd, 1) := by decide +kernel
theorem dL_law_1964 : decode cL_law 1964 = .ok (.iaload, 1) := by decide +kernel
theorem dL_law_1965 : decode cL_law 1965 = .ok (.aload_n 0, 1) := by decide +kernel
theorem dL_law_1966 : decode cL_law 1966 = .ok (.iload 4, 2) := by decide +kernel
theorem dL_law_1968 : decode cL_law 1968 = .ok (.iconst 2, 1) := by decide +kernel
theorem dL_law_1969 : decode cL_law 1969 = .ok (.iadd, 1) := by decide +kernel
theorem dL_law_1970 : decode cL_law 1970 = .ok (.iaload, 1) := by decide +kernel
theorem dL_law_1971 : decode cL_law 1971 = .ok (.aload_n 0, 1) := by decide +kernel
theorem dL_law_1972 : decode cL_law 1972 = .ok (.iload 4, 2) := by decide +kernel
theorem dL_law_1974 : decode cL_law 1974 = .ok (.iconst 3, 1) := by decide +kernel
theorem dL_law_1975 : decode cL_law 1975 = .ok (.iadd, 1) := by decide +kernel
theorem dL_law_1976 : decode cL_law 1976 = .ok (.iaload, 1) := by decide +kernel
theorem dL_law_1977 : decode cL_law 1977 = .ok (.aload_n 0, 1) := by decide +kernel
theorem dL_law_1978 : decode cL_law 1978 = .ok (.iload 4, 2) := by decide +kernel
theorem dL_law_1980 : decode cL_law 1980 = .ok (.iconst 4, 1) := by decide +kernel
theorem dL_law_1981 : decode cL_law 1981 = .ok (.iadd, 1) := by decide +kernel
theorem dL_law_1982 : decode cL_law 1982 = .ok (.iaload, 1) := by decide +kernel
theorem dL_law_1983 : decode cL_law 1983 = .ok (.invokevirtual 196, 3) := by decide +kernel
theorem dL_law_1986 : decode cL_law 1986 = .ok (.istore 6, 2) := by decide +kernel
theorem dL_law_1988 : decode cL_law 1988 = .ok (.aload_n 2, 1) := by decide +kernel
theorem dL_law_1989 : decode cL_law 1989 = .ok (.invokevirtual 111, 3) := by decide +kernel
theorem dL_law_1992 : decode cL_law 1992 = .ok (.iload 5, 2) := by decide +kernel
theorem dL_law_1994 : decode cL_law 1994 = .ok (.if_icmp .eq 5, 3) := by decide +kernel
theorem dL_law_1997 : decode cL_law 1997 = .ok (.iconst 0, 1) := by decide +kernel
theorem dL_law_1998 : decode cL_law 1998 = .ok (.ireturn, 1) := by decide +kernel
theorem dL_law_1999 : decode cL_law 1999 = .ok (.iload 5, 2) := by decide +kernel
theorem dL_law_2001 : decode cL_law 2001 = .ok (.ifCond .ne 15, 3) := by decide +kernel
theorem dL_law_2004 : decode cL_law 2004 = .ok (.aload_n 3, 1) := by decide +kernel
theorem dL_law_2005 : decode cL_law 2005 = .ok (.iconst 0, 1) := by decide +kernel
theorem dL_law_2006 : decode cL_law 2006 = .ok (.laload, 1) := by decide +kernel
theorem dL_law_2007 : decode cL_law 2007 = .ok (.iload 6, 2) := by decide +kernel
theorem dL_law_2009 : decode cL_law 2009 = .ok (.i2l, 1) := by decide +kernel
theorem dL_law_2010 : decode cL_law 2010 = .ok (.lcmp, 1) := by decide +kernel
theorem dL_law_2011 : decode cL_law 2011 = .ok (.ifCond .eq 5, 3) := by decide +kernel
theorem dL_law_2014 : decode cL_law 2014 = .ok (.iconst 0, 1) := by decide +kernel
theorem dL_law_2015 : decode cL_law 2015 = .ok (.ireturn, 1) := by decide +kernel
theorem dL_law_2016 : decode cL_law 2016 = .ok (.goto 361, 3) := by decide +kernel
theorem dL_law_2019 : decode cL_law 2019 = .ok (.aload_n 1, 1) := by decide +kernel
theorem dL_law_2020 : decode cL_law 2020 = .ok (.aload_n 0, 1) := by decide +kernel
theorem dL_law_2021 : decode cL_law 2021 = .ok (.iload 4, 2) := by decide +kernel
theorem dL_law_2023 : decode cL_law 2023 = .ok (.iconst 1, 1) := by decide +kernel
theorem dL_law_2024 : decode cL_law 2024 = .ok (.iadd, 1) := by decide +kernel
theorem dL_law_2025 : decode cL_law 2025 = .ok (.iaload, 1) := by decide +kernel
theorem dL_law_2026 : decode cL_law 2026 = .ok (.aload_n 0, 1) := by decide +kernel
theorem dL_law_2027 : decode cL_law 2027 = .ok (.iload 4, 2) := by decide +kernel
theorem dL_law_2029 : decode cL_law 2029 = .ok (.iconst 2, 1) := by decide +kernel
theorem dL_law_2030 : decode cL_law 2030 = .ok (.iadd, 1) := by decide +kernel
theorem dL_law_2031 : decode cL_law 2031 = .ok (.iaload, 1) := by decide +kernel
theorem dL_law_2032 : decode cL_law 2032 = .ok (.aload_n 0, 1) := by decide +kernel
theorem dL_law_2033 : decode cL_law 2033 = .ok (.iload 4, 2) := by decide +kernel
theorem dL_law_2035 : decode cL_law 2035 = .ok (.iconst 3, 1) := by decide +kernel
theorem dL_law_2036 : decode cL_law 2036 = .ok (.iadd, 1) := by decide +kernel
theorem dL_law_2037 : decode cL_law 2037 = .ok (.iaload, 1) := by decide +kernel
theorem dL_law_2038 : decode cL_law 2038 = .ok (.aload_n 3, 1) := by decide +kernel
theorem dL_law_2039 : decode cL_law 2039 = .ok (.invokestatic 197, 3) := by decide +kernel
theorem dL_law_2042 : decode cL_law 2042 = .ok (.istore 5, 2) := by decide +kernel
theorem dL_law_2044 : decode cL_law 2044 = .ok (.aload_n 2, 1) := by decide +kernel
theorem dL_law_2045 : decode cL_law 2045 = .ok (.aload_n 0, 1) := by decide +kernel
theorem dL_law_2046 : decode cL_law 2046 = .ok (.iload 4, 2) := by decide +kernel
theorem dL_law_2048 : decode cL_law 2048 = .ok (.iconst 1, 1) := by decide +kernel
theorem dL_law_2049 : decode cL_law 2049 = .ok (.iadd, 1) := by decide +kernel
theorem dL_law_2050 : decode cL_law 2050 = .ok (.iaload, 1) := by decide +kernel
theorem dL_law_2051 : decode cL_law 2051 = .ok (.aload_n 0, 1) := by decide +kernel
theorem dL_law_2052 : decode cL_law 2052 = .ok (.iload 4, 2) := by decide +kernel
theorem dL_law_2054 : decode cL_law 2054 = .ok (.iconst 2, 1) := by decide +kernel
theorem dL_law_2055 : decode cL_law 2055 = .ok (.iadd, 1) := by decide +kernel
theorem dL_law_2056 : decode cL_law 2056 = .ok (.iaload, 1) := by decide +kernel
theorem dL_law_2057 : decode cL_law 2057 = .ok (.aload_n 0, 1) := by decide +kernel
theorem dL_law_2058 : decode cL_law 2058 = .ok (.iload 4, 2) := by decide +kernel
theorem dL_law_2060 : decode cL_law 2060 = .ok (.iconst 3, 1) := by decide +kernel
theorem dL_law_2061 : decode cL_law 2061 = .ok (.iadd, 1) := by decide +kernel
theorem dL_law_2062 : decode cL_law 2062 = .ok (.iaload, 1) := by decide +kernel
theorem dL_law_2063 : decode cL_law 2063 = .ok (.invokevirtual 199, 3) := by decide +kernel
theorem dL_law_2066 : decode cL_law 2066 = .ok (.istore 6, 2) := by decide +kernel
theorem dL_law_2068 : decode cL_law 2068 = .ok (.aload_n 2, 1) := by decide +kernel
theorem dL_law_2069 : decode cL_law 2069 = .ok (.invokevirtual 111, 3) := by decide +kernel
theorem dL_law_2072 : decode cL_law 2072 = .ok (.iload 5, 2) := by decide +kernel
theorem dL_law_2074 : decode cL_law 2074 = .ok (.if_icmp .eq 5, 3) := by decide +kernel
theorem dL_law_2077 : decode cL_law 2077 = .ok (.iconst 0, 1) := by decide +kernel
theorem dL_law_2078 : decode cL_law 2078 = .ok (.ireturn, 1) := by decide +kernel
theorem dL_law_2079 : decode cL_law 2079 = .ok (.iload 5, 2) := by decide +kernel
theorem dL_law_2081 : decode cL_law 2081 = .ok (.ifCond .ne 15, 3) := by decide +kernel
theorem dL_law_2084 : decode cL_law 2084 = .ok (.aload_n 3, 1) := by decide +kernel
theorem dL_law_2085 : decode cL_law 2085 = .ok (.iconst 0, 1) := by decide +kernel
theorem dL_law_2086 : decode cL_law 2086 = .ok (.laload, 1) := by decide +kernel
theorem dL_law_2087 : decode cL_law 2087 = .ok (.iload 6, 2) := by decide +kernel
theorem dL_law_2089 : decode cL_law 2089 = .ok (.i2l, 1) := by decide +kernel
theorem dL_law_2090 : decode cL_law 2090 = .ok (.lcmp, 1) := by decide +kernel
theorem dL_law_2091 : decode cL_law 2091 = .ok (.ifCond .eq 5, 3) := by decide +kernel
theorem dL_law_2094 : decode cL_law 2094 = .ok (.iconst 0, 1) := by decide +kernel
theorem dL_law_2095 : decode cL_law 2095 = .ok (.ireturn, 1) := by decide +kernel
theorem dL_law_2096 : decode cL_law 2096 = .ok (.goto 281, 3) := by decide +kernel
theorem dL_law_2099 : decode cL_law 2099 = .ok (.aload_n 1, 1) := by decide +kernel
theorem dL_law_2100 : decode cL_law 2100 = .ok (.aload_n 0, 1) := by decide +kernel
theorem dL_law_2101 : decode cL_law 2101 = .ok (.iload 4, 2) := by decide +kernel
theorem dL_law_2103 : decode cL_law 2103 = .ok (.iconst 1, 1) := by decide +kernel
theorem dL_law_2104 : decode cL_law 2104 = .ok (.iadd, 1) := by decide +kernel
theorem dL_law_2105 : decode cL_law 2105 = .ok (.iaload, 1) := by decide +kernel
theorem dL_law_2106 : decode cL_law 2106 = .ok (.aload_n 0, 1) := by decide +kernel
theorem dL_law_2107 : decode cL_law 2107 = .ok (.iload 4, 2) := by decide +kernel
theorem dL_law_2109 : decode cL_law 2109 = .ok (.iconst 2, 1) := by decide +kernel
theorem dL_law_2110 : decode cL_law 2110 = .ok (.iadd, 1) := by decide +kernel
theorem dL_law_2111 : decode cL_law 2111 = .ok (.iaload, 1) := by decide +kernel
theorem dL_law_2112 : decode cL_law 2112 = .ok (.aload_n 3, 1) := by decide +kernel
theorem dL_law_2113 : decode cL_law 2113 = .ok (.invokestatic 200, 3) := by decide +kernel
theorem dL_law_2116 : decode cL_law 2116 = .ok (.istore 5, 2) := by decide +kernel
theorem dL_law_2118 : decode cL_law 2118 = .ok (.aload_n 2, 1) := by decide +kernel
theorem dL_law_2119 : decode cL_law 2119 = .ok (.aload_n 0, 1) := by decide +kernel
theorem dL_law_2120 : decode cL_law 2120 = .ok (.iload 4, 2) := by decide +kernel
theorem dL_law_2122 : decode cL_law 2122 = .ok (.iconst 1, 1) := by decide +kernel
theorem dL_law_2123 : decode cL_law 2123 = .ok (.iadd, 1) := by decide +kernel
theorem dL_law_2124 : decode cL_law 2124 = .ok (.iaload, 1) := by decide +kernel
theorem dL_law_2125 : decode cL_law 2125 = .ok (.aload_n 0, 1) := by decide +kernel
theorem dL_law_2126 : decode cL_law 2126 = .ok (.iload 4, 2) := by decide +kernel
theorem dL_law_2128 : decode cL_law 2128 = .ok (.iconst 2, 1) := by decide +kernel
theorem dL_law_2129 : decode cL_law 2129 = .ok (.iadd, 1) := by decide +kernel
theorem dL_law_2130 : decode cL_law 2130 = .ok (.iaload, 1) := by decide +kernel
theorem dL_law_2131 : decode cL_law 2131 = .ok (.invokevirtual 202, 3) := by decide +kernel
theorem dL_law_2134 : decode cL_law 2134 = .ok (.istore 6, 2) := by decide +kernel
theorem dL_law_2136 : decode cL_law 2136 = .ok (.aload_n 2, 1) := by decide +kernel
theorem dL_law_2137 : decode cL_law 2137 = .ok (.invokevirtual 111, 3) := by decide +kernel
theorem dL_law_2140 : decode cL_law 2140 = .ok (.iload 5, 2) := by decide +kernel
theorem dL_law_2142 : decode cL_law 2142 = .ok (.if_icmp .eq 5, 3) := by decide +kernel
theorem dL_law_2145 : decode cL_law 2145 = .ok (.iconst 0, 1) := by decide +kernel
theorem dL_law_2146 : decode cL_law 2146 = .ok (.ireturn, 1) := by decide +kernel
theorem dL_law_2147 : decode cL_law 2147 = .ok (.iload 5, 2) := by decide +kernel
theorem dL_law_2149 : decode cL_law 2149 = .ok (.ifCond .ne 15, 3) := by decide +kernel
theorem dL_law_2152 : decode cL_law 2152 = .ok (.aload_n 3, 1) := by decide +kernel
theorem dL_law_2153 : decode cL_law 2153 = .ok (.iconst 0, 1) := by decide +kernel
theorem dL_law_2154 : decode cL_law 2154 = .ok (.laload, 1) := by decide +kernel
theorem dL_law_2155 : decode cL_law 2155 = .ok (.iload 6, 2) := by decide +kernel
theorem dL_law_2157 : decode cL_law 2157 = .ok (.i2l, 1) := by decide +kernel
theorem dL_law_2158 : decode cL_law 2158 = .ok (.lcmp, 1) := by decide +kernel
theorem dL_law_2159 : decode cL_law 2159 = .ok (.ifCond .eq 5, 3) := by decide +kernel
theorem dL_law_2162 : decode cL_law 2162 = .ok (.iconst 0, 1) := by decide +kernel
theorem dL_law_2163 : decode cL_law 2163 = .ok (.ireturn, 1) := by decide +kernel
theorem dL_law_2164 : decode cL_law 2164 = .ok (.goto 213, 3) := by decide +kernel
theorem dL_law_2167 : decode cL_law 2167 = .ok (.aload_n 1, 1) := by decide +kernel
theorem dL_law_2168 : decode cL_law 2168 = .ok (.aload_n 0, 1) := by decide +kernel
theorem dL_law_2169 : decode cL_law 2169 = .ok (.iload 4, 2) := by decide +kernel
theorem dL_law_2171 : decode cL_law 2171 = .ok (.iconst 1, 1) := by decide +kernel
theorem dL_law_2172 : decode cL_law 2172 = .ok (.iadd, 1) := by decide +kernel
theorem dL_law_2173 : decode cL_law 2173 = .ok (.iaload, 1) := by decide +kernel
theorem dL_law_2174 : decode cL_law 2174 = .ok (.aload_n 0, 1) := by decide +kernel
theorem dL_law_2175 : decode cL_law 2175 = .ok (.iload 4, 2) := by decide +kernel
theorem dL_law_2177 : decode cL_law 2177 = .ok (.iconst 2, 1) := by decide +kernel
theorem dL_law_2178 : decode cL_law 2178 = .ok (.iadd, 1) := by decide +kernel
theorem dL_law_2179 : decode cL_law 2179 = .ok (.iaload, 1) := by decide +kernel
theorem dL_law_2180 : decode cL_law 2180 = .ok (.aload_n 3, 1) := by decide +kernel
theorem dL_law_2181 : decode cL_law 2181 = .ok (.invokestatic 203, 3) := by decide +kernel
theorem dL_law_2184 : decode cL_law 2184 = .ok (.istore 5, 2) := by decide +kernel
theorem dL_law_2186 : decode cL_law 2186 = .ok (.aload_n 2, 1) := by decide +kernel
theorem dL_law_2187 : decode cL_law 2187 = .ok (.aload_n 0, 1) := by decide +kernel
theorem dL_law_2188 : decode cL_law 2188 = .ok (.iload 4, 2) := by decide +kernel
theorem dL_law_2190 : decode cL_law 2190 = .ok (.iconst 1, 1) := by decide +kernel
theorem dL_law_2191 : decode cL_law 2191 = .ok (.iadd, 1) := by decide +kernel
theorem dL_law_2192 : decode cL_law 2192 = .ok (.iaload, 1) := by decide +kernel
theorem dL_law_2193 : decode cL_law 2193 = .ok (.aload_n 0, 1) := by decide +kernel
theorem dL_law_2194 : decode cL_law 2194 = .ok (.iload 4, 2) := by decide +kernel
theorem dL_law_2196 : decode cL_law 2196 = .ok (.iconst 2, 1) := by decide +kernel
theorem dL_law_2197 : decode cL_law 2197 = .ok (.iadd, 1) := by decide +kernel
theorem dL_law_2198 : decode cL_law 2198 = .ok (.iaload, 1) := by decide +kernel
theorem dL_law_2199 : decode cL_law 2199 = .ok (.invokevirtual 205, 3) := by decide +kernel
theorem dL_law_2202 : decode cL_law 2202 = .ok (.istore 6, 2) := by decide +kernel
theorem dL_law_2204 : decode cL_law 2204 = .ok (.aload_n 2, 1) := by decide +kernel
theorem dL_law_2205 : decode cL_law 2205 = .ok (.invokevirtual 111, 3) := by decide +kernel
theorem dL_law_2208 : decode cL_law 2208 = .ok (.iload 5, 2) := by decide +kernel
theorem dL_law_2210 : decode cL_law 2210 = .ok (.if_icmp .eq 5, 3) := by decide +kernel
theorem dL_law_2213 : decode cL_law 2213 = .ok (.iconst 0, 1) := by decide +kernel
theorem dL_law_2214 : decode cL_law 2214 = .ok (.ireturn, 1) := by decide +kernel
theorem dL_law_2215 : decode cL_law 2215 = .ok (.iload 5, 2) := by decide +kernel
theorem dL_law_2217 : decode cL_law 2217 = .ok (.ifCond .ne 15, 3) := by decide +kernel
theorem dL_law_2220 : decode cL_law 2220 = .ok (.aload_n 3, 1) := by decide +kernel
theorem dL_law_2221 : decode cL_law 2221 = .ok (.iconst 0, 1) := by decide +kernel
theorem dL_law_2222 : decode cL_law 2222 = .ok (.laload, 1) := by decide +kernel
theorem dL_law_2223 : decode cL_law 2223 = .ok (.iload 6, 2) := by decide +kernel
theorem dL_law_2225 : decode cL_law 2225 = .ok (.i2l, 1) := by decide +kernel
theorem dL_law_2226 : decode cL_law 2226 = .ok (.lcmp, 1) := by decide +kernel
theorem dL_law_2227 : decode cL_law 2227 = .ok (.ifCond .eq 5, 3) := by decide +kernel
theorem dL_law_2230 : decode cL_law 2230 = .ok (.iconst 0, 1) := by decide +kernel
theorem dL_law_2231 : decode cL_law 2231 = .ok (.ireturn, 1) := by decide +kernel
theorem dL_law_2232 : decode cL_law 2232 = .ok (.goto 145, 3) := by decide +kernel
theorem dL_law_2235 : decode cL_law 2235 = .ok (.aload_n 1, 1) := by decide +kernel
theorem dL_law_2236 : decode cL_law 2236 = .ok (.aload_n 0, 1) := by decide +kernel
theorem dL_law_2237 : decode cL_law 2237 = .ok (.iload 4, 2) := by decide +kernel
theorem dL_law_2239 : decode cL_law 2239 = .ok (.iconst 1, 1) := by decide +kernel
theorem dL_law_2240 : decode cL_law 2240 = .ok (.iadd, 1) := by decide +kernel
theorem dL_law_2241 : decode cL_law 2241 = .ok (.iaload, 1) := by decide +kernel
theorem dL_law_2242 : decode cL_law 2242 = .ok (.i2l, 1) := by decide +kernel
theorem dL_law_2243 : decode cL_law 2243 = .ok (.bipush 32, 2) := by decide +kernel
theorem dL_law_2245 : decode cL_law 2245 = .ok (.lshl, 1) := by decide +kernel
theorem dL_law_2246 : decode cL_law 2246 = .ok (.aload_n 0, 1) := by decide +kernel
theorem dL_law_2247 : decode cL_law 2247 = .ok (.iload 4, 2) := by decide +kernel
theorem dL_law_2249 : decode cL_law 2249 = .ok (.iconst 2, 1) := by decide +kernel
theorem dL_law_2250 : decode cL_law 2250 = .ok (.iadd, 1) := by decide +kernel
theorem dL_law_2251 : decode cL_law 2251 = .ok (.iaload, 1) := by decide +kernel
theorem dL_law_2252 : decode cL_law 2252 = .ok (.i2l, 1) := by decide +kernel
theorem dL_law_2253 : decode cL_law 2253 = .ok (.ldc2_w 206, 3) := by decide +kernel
theorem dL_law_2256 : decode cL_law 2256 = .ok (.land, 1) := by decide +kernel
theorem dL_law_2257 : decode cL_law 2257 = .ok (.lor, 1) := by decide +kernel
theorem dL_law_2258 : decode cL_law 2258 = .ok (.invokevirtual 208, 3) := by decide +kernel
theorem dL_law_2261 : decode cL_law 2261 = .ok (.aload_n 2, 1) := by decide +kernel
theorem dL_law_2262 : decode cL_law 2262 = .ok (.aload_n 0, 1) := by decide +kernel
theorem dL_law_2263 : decode cL_law 2263 = .ok (.iload 4, 2) := by decide +kernel
theorem dL_law_2265 : decode cL_law 2265 = .ok (.iconst 1, 1) := by decide +kernel
theorem dL_law_2266 : decode cL_law 2266 = .ok (.iadd, 1) := by decide +kernel
theorem dL_law_2267 : decode cL_law 2267 = .ok (.iaload, 1) := by decide +kernel
theorem dL_law_2268 : decode cL_law 2268 = .ok (.i2l, 1) := by decide +kernel
theorem dL_law_2269 : decode cL_law 2269 = .ok (.bipush 32, 2) := by decide +kernel
theorem dL_law_2271 : decode cL_law 2271 = .ok (.lshl, 1) := by decide +kernel
theorem dL_law_2272 : decode cL_law 2272 = .ok (.aload_n 0, 1) := by decide +kernel
theorem dL_law_2273 : decode cL_law 2273 = .ok (.iload 4, 2) := by decide +kernel
theorem dL_law_2275 : decode cL_law 2275 = .ok (.iconst 2, 1) := by decide +kernel
theorem dL_law_2276 : decode cL_law 2276 = .ok (.iadd, 1) := by decide +kernel
theorem dL_law_2277 : decode cL_law 2277 = .ok (.iaload, 1) := by decide +kernel
theorem dL_law_2278 : decode cL_law 2278 = .ok (.i2l, 1) := by decide +kernel
theorem dL_law_2279 : decode cL_law 2279 = .ok (.ldc2_w 206, 3) := by decide +kernel
theorem dL_law_2282 : decode cL_law 2282 = .ok (.land, 1) := by decide +kernel
theorem dL_law_2283 : decode cL_law 2283 = .ok (.lor, 1) := by decide +kernel
theorem dL_law_2284 : decode cL_law 2284 = .ok (.invokevirtual 212, 3) := by decide +kernel
theorem dL_law_2287 : decode cL_law 2287 = .ok (.lcmp, 1) := by decide +kernel
theorem dL_law_2288 : decode cL_law 2288 = .ok (.ifCond .eq 89, 3) := by decide +kernel
theorem dL_law_2291 : decode cL_law 2291 = .ok (.iconst 0, 1) := by decide +kernel
theorem dL_law_2292 : decode cL_law 2292 = .ok (.ireturn, 1) := by decide +kernel
theorem dL_law_2293 : decode cL_law 2293 = .ok (.aload_n 1, 1) := by decide +kernel
theorem dL_law_2294 : decode cL_law 2294 = .ok (.aload_n 0, 1) := by decide +kernel
theorem dL_law_2295 : decode cL_law 2295 = .ok (.iload 4, 2) := by decide +kernel
theorem dL_law_2297 : decode cL_law 2297 = .ok (.iconst 1, 1) := by decide +kernel
theorem dL_law_2298 : decode cL_law 2298 = .ok (.iadd, 1) := by decide +kernel
theorem dL_law_2299 : decode cL_law 2299 = .ok (.iaload, 1) := by decide +kernel
theorem dL_law_2300 : decode cL_law 2300 = .ok (.aload_n 3, 1) := by decide +kernel
theorem dL_law_2301 : decode cL_law 2301 = .ok (.invokestatic 213, 3) := by decide +kernel
theorem dL_law_2304 : decode cL_law 2304 = .ok (.istore 5, 2) := by decide +kernel
theorem dL_law_2306 : decode cL_law 2306 = .ok (.aload_n 2, 1) := by decide +kernel
theorem dL_law_2307 : decode cL_law 2307 = .ok (.aload_n 0, 1) := by decide +kernel
theorem dL_law_2308 : decode cL_law 2308 = .ok (.iload 4, 2) := by decide +kernel
theorem dL_law_2310 : decode cL_law 2310 = .ok (.iconst 1, 1) := by decide +kernel
theorem dL_law_2311 : decode cL_law 2311 = .ok (.iadd, 1) := by decide +kernel
theorem dL_law_2312 : decode cL_law 2312 = .ok (.iaload, 1) := by decide +kernel
theorem dL_law_2313 : decode cL_law 2313 = .ok (.invokevirtual 215, 3) := by decide +kernel
theorem dL_law_2316 : decode cL_law 2316 = .ok (.istore 6, 2) := by decide +kernel
theorem dL_law_2318 : decode cL_law 2318 = .ok (.aload_n 2, 1) := by decide +kernel
theorem dL_law_2319 : decode cL_law 2319 = .ok (.invokevirtual 111, 3) := by decide +kernel
theorem dL_law_2322 : decode cL_law 2322 = .ok (.iload 5, 2) := by decide +kernel
theorem dL_law_2324 : decode cL_law 2324 = .ok (.if_icmp .eq 5, 3) := by decide +kernel
theorem dL_law_2327 : decode cL_law 2327 = .ok (.iconst 0, 1) := by decide +kernel
theorem dL_law_2328 : decode cL_law 2328 = .ok (.ireturn, 1) := by decide +kernel
theorem dL_law_2329 : decode cL_law 2329 = .ok (.iload 5, 2) := by decide +kernel
theorem dL_law_2331 : decode cL_law 2331 = .ok (.ifCond .ne 15, 3) := by decide +kernel
theorem dL_law_2334 : decode cL_law 2334 = .ok (.aload_n 3, 1) := by decide +kernel
theorem dL_law_2335 : decode cL_law 2335 = .ok (.iconst 0, 1) := by decide +kernel
theorem dL_law_2336 : decode cL_law 2336 = .ok (.laload, 1) := by decide +kernel
theorem dL_law_2337 : decode cL_law 2337 = .ok (.iload 6, 2) := by decide +kernel
theorem dL_law_2339 : decode cL_law 2339 = .ok (.i2l, 1) := by decide +kernel
theorem dL_law_2340 : decode cL_law 2340 = .ok (.lcmp, 1) := by decide +kernel
theorem dL_law_2341 : decode cL_law 2341 = .ok (.ifCond .eq 5, 3) := by decide +kernel
theorem dL_law_2344 : decode cL_law 2344 = .ok (.iconst 0, 1) := by decide +kernel
theorem dL_law_2345 : decode cL_law 2345 = .ok (.ireturn, 1) := by decide +kernel
theorem dL_law_2346 : decode cL_law 2346 = .ok (.goto 31, 3) := by decide +kernel
theorem dL_law_2349 : decode cL_law 2349 = .ok (.aload_n 1, 1) := by decide +kernel
theorem dL_law_2350 : decode cL_law 2350 = .ok (.invokevirtual 216, 3) := by decide +kernel
theorem dL_law_2353 : decode cL_law 2353 = .ok (.aload_n 2, 1) := by decide +kernel
theorem dL_law_2354 : decode cL_law 2354 = .ok (.invokevirtual 220, 3) := by decide +kernel
theorem dL_law_2357 : decode cL_law 2357 = .ok (.lcmp, 1) := by decide +kernel
theorem dL_law_2358 : decode cL_law 2358 = .ok (.ifCond .eq 19, 3) := by decide +kernel
theorem dL_law_2361 : decode cL_law 2361 = .ok (.iconst 0, 1) := by decide +kernel
theorem dL_law_2362 : decode cL_law 2362 = .ok (.ireturn, 1) := by decide +kernel
theorem dL_law_2363 : decode cL_law 2363 = .ok (.aload_n 1, 1) := by decide +kernel
theorem dL_law_2364 : decode cL_law 2364 = .ok (.invokevirtual 221, 3) := by decide +kernel
theorem dL_law_2367 : decode cL_law 2367 = .ok (.aload_n 2, 1) := by decide +kernel
theorem dL_law_2368 : decode cL_law 2368 = .ok (.invokevirtual 224, 3) := by decide +kernel
theorem dL_law_2371 : decode cL_law 2371 = .ok (.lcmp, 1) := by decide +kernel
theorem dL_law_2372 : decode cL_law 2372 = .ok (.ifCond .eq 5, 3) := by decide +kernel
theorem dL_law_2375 : decode cL_law 2375 = .ok (.iconst 0, 1) := by decide +kernel
theorem dL_law_2376 : decode cL_law 2376 = .ok (.ireturn, 1) := by decide +kernel
theorem dL_law_2377 : decode cL_law 2377 = .ok (.iinc 4 6, 3) := by decide +kernel
theorem dL_law_2380 : decode cL_law 2380 = .ok (.goto (-2357), 3) := by decide +kernel
theorem dL_law_2383 : decode cL_law 2383 = .ok (.iconst 1, 1) := by decide +kernel
theorem dL_law_2384 : decode cL_law 2384 = .ok (.ireturn, 1) := by decide +kernel
end
section
/-! The cells behind the constructors: an abstract world of 229 cells by their order; kinds of cells (0 to 8 a class, 10 ints, 11 longs, 12 to 14 references), the references that never change. -/
def sh_L : List (Nat × Nat) := [(7, 0), (12, 4), (6, 0), (10, 20), (6, 0), (10, 20), (6, 0), (10, 20), (6, 0), (10, 20), (10, 4000), (10, 20), (5, 0), (10, 256), (10, 1000), (10, 1000), (10, 20), (13, 20), (10, 32), (13, 32), (2, 0), (10, 6), (10, 6), (4, 0), (0, 0), (10, 40), (10, 40), (14, 5), (3, 0), (10, 30), (10, 30), (10, 30), (10, 6), (10, 6), (10, 6), (1, 0), (1, 0), (1, 0), (1, 0), (1, 0), (4, 0), (0, 0), (10, 40), (10, 40), (14, 5), (3, 0), (10, 30), (10, 30), (10, 30), (10, 6), (10, 6), (10, 6), (1, 0), (1, 0), (1, 0), (1, 0), (1, 0), (4, 0), (0, 0), (10, 40), (10, 40), (14, 5), (3, 0), (10, 30), (10, 30), (10, 30), (10, 6), (10, 6), (10, 6), (1, 0), (1, 0), (1, 0), (1, 0), (1, 0), (4, 0), (0, 0), (10, 40), (10, 40), (14, 5), (3, 0), (10, 30), (10, 30), (10, 30), (10, 6), (10, 6), (10, 6), (1, 0), (1, 0), (1, 0), (1, 0), (1, 0), (6, 0), (10, 20), (6, 0), (10, 20), (6, 0), (10, 20), (6, 0), (10, 20), (6, 0), (10, 20), (6, 0), (10, 20), (6, 0), (10, 20), (6, 0), (10, 20), (6, 0), (10, 20), (6, 0), (10, 20), (6, 0), (10, 20), (6, 0), (10, 20), (6, 0), (10, 20), (6, 0), (10, 20), (6, 0), (10, 20), (6, 0), (10, 20), (6, 0), (10, 20), (6, 0), (10, 20), (6, 0), (10, 20), (6, 0), (10, 20), (6, 0), (10, 20), (6, 0), (10, 20), (6, 0), (10, 20), (6, 0), (10, 20), (6, 0), (10, 20), (6, 0), (10, 20), (6, 0), (10, 20), (6, 0), (10, 20), (6, 0), (10, 20), (6, 0), (10, 20), (6, 0), (10, 20), (6, 0), (10, 20), (6, 0), (10, 20), (6, 0), (10, 20), (6, 0), (10, 20), (6, 0), (10, 20), (6, 0), (10, 20), (6, 0), (10, 20), (6, 0), (10, 20), (6, 0), (10, 20), (6, 0), (10, 20), (6, 0), (10, 20), (6, 0), (10, 20), (6, 0), (10, 20), (6, 0), (10, 20), (6, 0), (10, 20), (6, 0), (10, 20), (6, 0), (10, 20), (6, 0), (10, 20), (6, 0), (10, 20), (6, 0), (10, 20), (6, 0), (10, 20), (8, 0), (10, 4), (10, 160), (10, 160), (10, 4), (10, 20), (10, 20), (10, 20), (10, 20), (10, 20), (10, 20), (10, 20), (10, 4), (10, 120), (10, 120), (10, 120), (10, 4), (10, 4), (10, 24), (10, 24), (10, 24), (10, 48), (10, 48), (10, 48), (10, 20), (10, 20), (10, 20), (10, 400), (10, 1000), (10, 20000), (10, 6), (10, 6), (10, 200), (11, 1)]
def shp (a : Nat) : Nat × Nat := sh_L.getD a (99, 0)
def rf_L : List (List Nat) := [[1, 2, 4, 6, 8, 10, 11, 12, 16, 17, 0, 18, 19, 20], [23, 40, 57, 74], [3], [], [5], [], [7], [], [9], [], [], [], [13, 14, 15], [], [], [], [], [91, 93, 95, 97, 99, 101, 103, 105, 107, 109, 111, 113, 115, 117, 119, 121, 123, 125, 127, 129], [], [131, 133, 135, 137, 139, 141, 143, 145, 147, 149, 151, 153, 155, 157, 159, 161, 163, 165, 167, 169, 171, 173, 175, 177, 179, 181, 183, 185, 187, 189, 191, 193], [21, 22], [], [], [24, 27, 0, 28, 0, 32, 33, 34], [25, 26], [], [], [35, 36, 37, 38, 39], [29, 30, 31], [], [], [], [], [], [], [], [], [], [], [], [41, 44, 0, 45, 0, 49, 50, 51], [42, 43], [], [], [52, 53, 54, 55, 56], [46, 47, 48], [], [], [], [], [], [], [], [], [], [], [], [58, 61, 0, 62, 0, 66, 67, 68], [59, 60], [], [], [69, 70, 71, 72, 73], [63, 64, 65], [], [], [], [], [], [], [], [], [], [], [], [75, 78, 0, 79, 0, 83, 84, 85], [76, 77], [], [], [86, 87, 88, 89, 90], [80, 81, 82], [], [], [], [], [], [], [], [], [], [], [], [92], [], [94], [], [96], [], [98], [], [100], [], [102], [], [104], [], [106], [], [108], [], [110], [], [112], [], [114], [], [116], [], [118], [], [120], [], [122], [], [124], [], [126], [], [128], [], [130], [], [132], [], [134], [], [136], [], [138], [], [140], [], [142], [], [144], [], [146], [], [148], [], [150], [], [152], [], [154], [], [156], [], [158], [], [160], [], [162], [], [164], [], [166], [], [168], [], [170], [], [172], [], [174], [], [176], [], [178], [], [180], [], [182], [], [184], [], [186], [], [188], [], [190], [], [192], [], [194], [], [196, 197, 198, 199, 200, 201, 202, 203, 204, 205, 206, 207, 208, 209, 210, 211, 212, 213, 214, 215, 0, 216, 0, 217, 0, 218, 0, 219, 0, 220, 221, 222, 223, 224, 225, 226, 0, 0, 227], [], [], [], [], [], [], [], [], [], [], [], [], [], [], [], [], [], [], [], [], [], [], [], [], [], [], [], [], [], [], [], [], []]
def rfs (a k : Nat) : Nat := (rf_L.getD a []).getD k 0
/-- fields: how many, and their kinds: 0 int, 1 long, 2 a reference -/
def fk_L : List (List Nat) := [[2, 2, 0], [0, 0, 0, 0, 0, 0, 0], [2, 2, 1], [2, 2, 2, 0], [2, 2, 0, 2, 0, 2, 2, 2, 0], [2, 2, 2], [2, 0], [2, 2, 2, 2, 2, 2, 2, 2, 2, 2, 0, 2, 2, 2], [2, 2, 2, 2, 2, 2, 2, 2, 2, 2, 2, 2, 2, 2, 2, 2, 2, 2, 2, 2, 0, 2, 0, 2, 0, 2, 0, 2, 0, 2, 2, 2, 2, 2, 2, 2, 1, 0, 2]]
def fkd (c k : Nat) : Nat := (fk_L.getD c []).getD k 9
def nfd (c : Nat) : Nat := (fk_L.getD c []).length
theorem shp_lt {a c n : Nat} (h : shp a = (c, n)) (hc : c < 99) : a < 229 := by
  rcases Nat.lt_or_ge a 229 with q | q
  · exact q
  · exfalso
    have h2 : shp a = (99, 0) := by
      unfold shp
      rw [List.getD_eq_getElem?_getD, List.getElem?_eq_none (by show sh_L.length ≤ a; exact Nat.le_trans (by decide +kernel) q)]
      rfl
    rw [h2] at h
    have := congrArg Prod.fst h
    simp at this
    omega
theorem shp_all {P : Nat → Prop} {c n : Nat} (hc : c < 99) (hP : ∀ a, a < 229 → shp a = (c, n) → P a) {a : Nat} (h : shp a = (c, n)) : P a := hP a (shp_lt h hc) h
theorem sh_0 : shp 0 = (7, 0) := by decide +kernel
theorem sh_1 : shp 1 = (12, 4) := by decide +kernel
theorem sh_10 : shp 10 = (10, 4000) := by decide +kernel
theorem sh_11 : shp 11 = (10, 20) := by decide +kernel
theorem sh_12 : shp 12 = (5, 0) := by decide +kernel
theorem sh_13 : shp 13 = (10, 256) := by decide +kernel
theorem sh_14 : shp 14 = (10, 1000) := by decide +kernel
theorem sh_15 : shp 15 = (10, 1000) := by decide +kernel
theorem sh_16 : shp 16 = (10, 20) := by decide +kernel
theorem sh_17 : shp 17 = (13, 20) := by decide +kernel
theorem sh_18 : shp 18 = (10, 32) := by decide +kernel
theorem sh_19 : shp 19 = (13, 32) := by decide +kernel
theorem sh_20 : shp 20 = (2, 0) := by decide +kernel
theorem sh_21 : shp 21 = (10, 6) := by decide +kernel
theorem sh_22 : shp 22 = (10, 6) := by decide +kernel
theorem sh_195 : shp 195 = (8, 0) := by decide +kernel
theorem sh_196 : shp 196 = (10, 4) := by decide +kernel
theorem sh_197 : shp 197 = (10, 160) := by decide +kernel
theorem sh_198 : shp 198 = (10, 160) := by decide +kernel
theorem sh_199 : shp 199 = (10, 4) := by decide +kernel
theorem sh_200 : shp 200 = (10, 20) := by decide +kernel
theorem sh_201 : shp 201 = (10, 20) := by decide +kernel
theorem sh_202 : shp 202 = (10, 20) := by decide +kernel
theorem sh_203 : shp 203 = (10, 20) := by decide +kernel
theorem sh_204 : shp 204 = (10, 20) := by decide +kernel
theorem sh_205 : shp 205 = (10, 20) := by decide +kernel
theorem sh_206 : shp 206 = (10, 20) := by decide +kernel
theorem sh_207 : shp 207 = (10, 4) := by decide +kernel
theorem sh_208 : shp 208 = (10, 120) := by decide +kernel
theorem sh_209 : shp 209 = (10, 120) := by decide +kernel
theorem sh_210 : shp 210 = (10, 120) := by decide +kernel
theorem sh_211 : shp 211 = (10, 4) := by decide +kernel
theorem sh_212 : shp 212 = (10, 4) := by decide +kernel
theorem sh_213 : shp 213 = (10, 24) := by decide +kernel
theorem sh_214 : shp 214 = (10, 24) := by decide +kernel
theorem sh_215 : shp 215 = (10, 24) := by decide +kernel
theorem sh_216 : shp 216 = (10, 48) := by decide +kernel
theorem sh_217 : shp 217 = (10, 48) := by decide +kernel
theorem sh_218 : shp 218 = (10, 48) := by decide +kernel
theorem sh_219 : shp 219 = (10, 20) := by decide +kernel
theorem sh_220 : shp 220 = (10, 20) := by decide +kernel
theorem sh_221 : shp 221 = (10, 20) := by decide +kernel
theorem sh_222 : shp 222 = (10, 400) := by decide +kernel
theorem sh_223 : shp 223 = (10, 1000) := by decide +kernel
theorem sh_224 : shp 224 = (10, 20000) := by decide +kernel
theorem sh_225 : shp 225 = (10, 6) := by decide +kernel
theorem sh_226 : shp 226 = (10, 6) := by decide +kernel
theorem sh_227 : shp 227 = (10, 200) := by decide +kernel
theorem sh_228 : shp 228 = (11, 1) := by decide +kernel
theorem sh_2 : shp 2 = (6, 0) := by decide +kernel
theorem sh_4 : shp 4 = (6, 0) := by decide +kernel
theorem sh_6 : shp 6 = (6, 0) := by decide +kernel
theorem sh_8 : shp 8 = (6, 0) := by decide +kernel
theorem rf_0_0 : rfs 0 0 = 1 := by decide +kernel
theorem rf_0_1 : rfs 0 1 = 2 := by decide +kernel
theorem rf_0_2 : rfs 0 2 = 4 := by decide +kernel
theorem rf_0_3 : rfs 0 3 = 6 := by decide +kernel
theorem rf_0_4 : rfs 0 4 = 8 := by decide +kernel
theorem rf_0_5 : rfs 0 5 = 10 := by decide +kernel
theorem rf_0_6 : rfs 0 6 = 11 := by decide +kernel
theorem rf_0_7 : rfs 0 7 = 12 := by decide +kernel
theorem rf_0_8 : rfs 0 8 = 16 := by decide +kernel
theorem rf_0_9 : rfs 0 9 = 17 := by decide +kernel
theorem rf_0_11 : rfs 0 11 = 18 := by decide +kernel
theorem rf_0_12 : rfs 0 12 = 19 := by decide +kernel
theorem rf_0_13 : rfs 0 13 = 20 := by decide +kernel
theorem rf_195_0 : rfs 195 0 = 196 := by decide +kernel
theorem rf_195_1 : rfs 195 1 = 197 := by decide +kernel
theorem rf_195_2 : rfs 195 2 = 198 := by decide +kernel
theorem rf_195_3 : rfs 195 3 = 199 := by decide +kernel
theorem rf_195_4 : rfs 195 4 = 200 := by decide +kernel
theorem rf_195_5 : rfs 195 5 = 201 := by decide +kernel
theorem rf_195_6 : rfs 195 6 = 202 := by decide +kernel
theorem rf_195_7 : rfs 195 7 = 203 := by decide +kernel
theorem rf_195_8 : rfs 195 8 = 204 := by decide +kernel
theorem rf_195_9 : rfs 195 9 = 205 := by decide +kernel
theorem rf_195_10 : rfs 195 10 = 206 := by decide +kernel
theorem rf_195_11 : rfs 195 11 = 207 := by decide +kernel
theorem rf_195_12 : rfs 195 12 = 208 := by decide +kernel
theorem rf_195_13 : rfs 195 13 = 209 := by decide +kernel
theorem rf_195_14 : rfs 195 14 = 210 := by decide +kernel
theorem rf_195_15 : rfs 195 15 = 211 := by decide +kernel
theorem rf_195_16 : rfs 195 16 = 212 := by decide +kernel
theorem rf_195_17 : rfs 195 17 = 213 := by decide +kernel
theorem rf_195_18 : rfs 195 18 = 214 := by decide +kernel
theorem rf_195_19 : rfs 195 19 = 215 := by decide +kernel
theorem rf_195_21 : rfs 195 21 = 216 := by decide +kernel
theorem rf_195_23 : rfs 195 23 = 217 := by decide +kernel
theorem rf_195_25 : rfs 195 25 = 218 := by decide +kernel
theorem rf_195_27 : rfs 195 27 = 219 := by decide +kernel
theorem rf_195_29 : rfs 195 29 = 220 := by decide +kernel
theorem rf_195_30 : rfs 195 30 = 221 := by decide +kernel
theorem rf_195_31 : rfs 195 31 = 222 := by decide +kernel
theorem rf_195_32 : rfs 195 32 = 223 := by decide +kernel
theorem rf_195_33 : rfs 195 33 = 224 := by decide +kernel
theorem rf_195_34 : rfs 195 34 = 225 := by decide +kernel
theorem rf_195_35 : rfs 195 35 = 226 := by decide +kernel
theorem rf_195_38 : rfs 195 38 = 227 := by decide +kernel
theorem rf_12_0 : rfs 12 0 = 13 := by decide +kernel
theorem rf_12_1 : rfs 12 1 = 14 := by decide +kernel
theorem rf_12_2 : rfs 12 2 = 15 := by decide +kernel
theorem rf_20_0 : rfs 20 0 = 21 := by decide +kernel
theorem rf_20_1 : rfs 20 1 = 22 := by decide +kernel
theorem rfc_0_0 {a : Nat} (h : shp a = (0, 0)) : rfs a 0 = a + 1 := shp_all (P := fun a => rfs a 0 = a + 1) (by decide) (by decide +kernel) h
theorem shc_0_0 {a : Nat} (h : shp a = (0, 0)) : shp (a + 1) = (10, 40) := shp_all (P := fun a => shp (a + 1) = (10, 40)) (by decide) (by decide +kernel) h
theorem rfc_0_1 {a : Nat} (h : shp a = (0, 0)) : rfs a 1 = a + 2 := shp_all (P := fun a => rfs a 1 = a + 2) (by decide) (by decide +kernel) h
theorem shc_0_1 {a : Nat} (h : shp a = (0, 0)) : shp (a + 2) = (10, 40) := shp_all (P := fun a => shp (a + 2) = (10, 40)) (by decide) (by decide +kernel) h
theorem rfc_3_0 {a : Nat} (h : shp a = (3, 0)) : rfs a 0 = a + 1 := shp_all (P := fun a => rfs a 0 = a + 1) (by decide) (by decide +kernel) h
theorem shc_3_0 {a : Nat} (h : shp a = (3, 0)) : shp (a + 1) = (10, 30) := shp_all (P := fun a => shp (a + 1) = (10, 30)) (by decide) (by decide +kernel) h
theorem rfc_3_1 {a : Nat} (h : shp a = (3, 0)) : rfs a 1 = a + 2 := shp_all (P := fun a => rfs a 1 = a + 2) (by decide) (by decide +kernel) h
theorem shc_3_1 {a : Nat} (h : shp a = (3, 0)) : shp (a + 2) = (10, 30) := shp_all (P := fun a => shp (a + 2) = (10, 30)) (by decide) (by decide +kernel) h
theorem rfc_3_2 {a : Nat} (h : shp a = (3, 0)) : rfs a 2 = a + 3 := shp_all (P := fun a => rfs a 2 = a + 3) (by decide) (by decide +kernel) h
theorem shc_3_2 {a : Nat} (h : shp a = (3, 0)) : shp (a + 3) = (10, 30) := shp_all (P := fun a => shp (a + 3) = (10, 30)) (by decide) (by decide +kernel) h
theorem rfc_4_0 {a : Nat} (h : shp a = (4, 0)) : rfs a 0 = a + 1 := shp_all (P := fun a => rfs a 0 = a + 1) (by decide) (by decide +kernel) h
theorem shc_4_0 {a : Nat} (h : shp a = (4, 0)) : shp (a + 1) = (0, 0) := shp_all (P := fun a => shp (a + 1) = (0, 0)) (by decide) (by decide +kernel) h
theorem rfc_4_1 {a : Nat} (h : shp a = (4, 0)) : rfs a 1 = a + 4 := shp_all (P := fun a => rfs a 1 = a + 4) (by decide) (by decide +kernel) h
theorem shc_4_1 {a : Nat} (h : shp a = (4, 0)) : shp (a + 4) = (14, 5) := shp_all (P := fun a => shp (a + 4) = (14, 5)) (by decide) (by decide +kernel) h
theorem rfc_4_3 {a : Nat} (h : shp a = (4, 0)) : rfs a 3 = a + 5 := shp_all (P := fun a => rfs a 3 = a + 5) (by decide) (by decide +kernel) h
theorem shc_4_3 {a : Nat} (h : shp a = (4, 0)) : shp (a + 5) = (3, 0) := shp_all (P := fun a => shp (a + 5) = (3, 0)) (by decide) (by decide +kernel) h
theorem rfc_4_5 {a : Nat} (h : shp a = (4, 0)) : rfs a 5 = a + 9 := shp_all (P := fun a => rfs a 5 = a + 9) (by decide) (by decide +kernel) h
theorem shc_4_5 {a : Nat} (h : shp a = (4, 0)) : shp (a + 9) = (10, 6) := shp_all (P := fun a => shp (a + 9) = (10, 6)) (by decide) (by decide +kernel) h
theorem rfc_4_6 {a : Nat} (h : shp a = (4, 0)) : rfs a 6 = a + 10 := shp_all (P := fun a => rfs a 6 = a + 10) (by decide) (by decide +kernel) h
theorem shc_4_6 {a : Nat} (h : shp a = (4, 0)) : shp (a + 10) = (10, 6) := shp_all (P := fun a => shp (a + 10) = (10, 6)) (by decide) (by decide +kernel) h
theorem rfc_4_7 {a : Nat} (h : shp a = (4, 0)) : rfs a 7 = a + 11 := shp_all (P := fun a => rfs a 7 = a + 11) (by decide) (by decide +kernel) h
theorem shc_4_7 {a : Nat} (h : shp a = (4, 0)) : shp (a + 11) = (10, 6) := shp_all (P := fun a => shp (a + 11) = (10, 6)) (by decide) (by decide +kernel) h
theorem rfc_6_0 {a : Nat} (h : shp a = (6, 0)) : rfs a 0 = a + 1 := shp_all (P := fun a => rfs a 0 = a + 1) (by decide) (by decide +kernel) h
theorem shc_6_0 {a : Nat} (h : shp a = (6, 0)) : shp (a + 1) = (10, 20) := shp_all (P := fun a => shp (a + 1) = (10, 20)) (by decide) (by decide +kernel) h
theorem rfa_1 {k : Nat} (h : k < 4) : rfs 1 k = 23 + 17 * k := by revert k; decide +kernel
theorem sha_1 {k : Nat} (h : k < 4) : shp (23 + 17 * k) = (4, 0) := by revert k; decide +kernel
theorem rfa_17 {k : Nat} (h : k < 20) : rfs 17 k = 91 + 2 * k := by revert k; decide +kernel
theorem sha_17 {k : Nat} (h : k < 20) : shp (91 + 2 * k) = (6, 0) := by revert k; decide +kernel
theorem rfa_19 {k : Nat} (h : k < 32) : rfs 19 k = 131 + 2 * k := by revert k; decide +kernel
theorem sha_19 {k : Nat} (h : k < 32) : shp (131 + 2 * k) = (6, 0) := by revert k; decide +kernel
theorem rfa_14 {a : Nat} (h : shp a = (14, 5)) {k : Nat} (hk : k < 5) : rfs a k = a + 8 + k := shp_all (P := fun a => ∀ k, k < 5 → rfs a k = a + 8 + k) (by decide) (by decide +kernel) h k hk
theorem sha_14 {a : Nat} (h : shp a = (14, 5)) {k : Nat} (hk : k < 5) : shp (a + 8 + k) = (1, 0) := shp_all (P := fun a => ∀ k, k < 5 → shp (a + 8 + k) = (1, 0)) (by decide) (by decide +kernel) h k hk
theorem id_4 {a : Nat} (h : shp a = (4, 0)) : a = 23 ∨ a = 40 ∨ a = 57 ∨ a = 74 := shp_all (P := fun a => a = 23 ∨ a = 40 ∨ a = 57 ∨ a = 74) (by decide) (by decide +kernel) h
theorem id_6 {a : Nat} (h : shp a = (6, 0)) : (a = 2 ∨ a = 4 ∨ a = 6 ∨ a = 8) ∨ (91 ≤ a ∧ a < 195 ∧ a % 2 = 1) := shp_all (P := fun a => (a = 2 ∨ a = 4 ∨ a = 6 ∨ a = 8) ∨ (91 ≤ a ∧ a < 195 ∧ a % 2 = 1)) (by decide) (by decide +kernel) h
theorem id_1 {a : Nat} (h : shp a = (1, 0)) : (35 ≤ a ∧ a < 40) ∨ (52 ≤ a ∧ a < 57) ∨ (69 ≤ a ∧ a < 74) ∨ (86 ≤ a ∧ a < 91) := shp_all (P := fun a => (35 ≤ a ∧ a < 40) ∨ (52 ≤ a ∧ a < 57) ∨ (69 ≤ a ∧ a < 74) ∨ (86 ≤ a ∧ a < 91)) (by decide) (by decide +kernel) h
end
section
/-! Abstract values: whole numbers in place of ints and longs, cells by their order; the world that they stand for; the judgement SW: from a frame over abstract locals, stack and cells the machine comes to its end. -/
abbrev sv_V : Type := Int ⊕ Int ⊕ Nat ⊕ Bool
abbrev vI (z : Int) : sv_V := Sum.inl z
abbrev vL (z : Int) : sv_V := Sum.inr (Sum.inl z)
abbrev vR (a : Nat) : sv_V := Sum.inr (Sum.inr (Sum.inl a))
abbrev vN : sv_V := Sum.inr (Sum.inr (Sum.inr false))
abbrev vS : sv_V := Sum.inr (Sum.inr (Sum.inr true))
abbrev sv_G : Type := Nat → Int → Int
/-- where the cells begin; the script; the classes of arrays; the classes and their slots -/
abbrev sv_E : Type := Nat × Nat × (Nat → ClassId) × va_G
def cv (E : sv_E) : sv_V → Value
  | .inl z => .int (Int32.ofInt z)
  | .inr (.inl z) => .long (Int64.ofInt z)
  | .inr (.inr (.inl a)) => .ref (E.1 + a)
  | .inr (.inr (.inr false)) => .null
  | .inr (.inr (.inr true)) => .ref E.2.1
def up (σ : sv_G) (a : Nat) (k v : Int) : sv_G := fun a' k' => if a' = a ∧ k' = k then v else σ a' k'
theorem up_s (σ : sv_G) (a : Nat) (k v : Int) : up σ a k v a k = v := by simp [up]
theorem up_a {σ : sv_G} {a a' : Nat} {k k' v : Int} (h : a' ≠ a) : up σ a k v a' k' = σ a' k' := by simp [up, h]
theorem up_k {σ : sv_G} {a a' : Nat} {k k' v : Int} (h : k' ≠ k) : up σ a k v a' k' = σ a' k' := by simp [up, h]
theorem up_n {σ : sv_G} {a a' : Nat} {k k' v : Int} (h : a' ≠ a ∨ k' ≠ k) : up σ a k v a' k' = σ a' k' := by
  rcases h with h | h <;> simp [up, h]
def fld (E : sv_E) (σ : sv_G) (a c k : Nat) : Value := match fkd c k with
  | 0 => .int (Int32.ofInt (σ a k))
  | 1 => .long (Int64.ofInt (σ a k))
  | _ => .ref (E.1 + rfs a k)
def celO (E : sv_E) (σ : sv_G) (a c : Nat) : va_E := .inr (c, (List.range (nfd c)).map (fld E σ a c))
def celI (E : sv_E) (σ : sv_G) (a n : Nat) : va_E := .inl (E.2.2.1 0, n, .inl fun k => Int32.ofInt (σ a k))
def celL (E : sv_E) (σ : sv_G) (a n : Nat) : va_E := .inl (E.2.2.1 1, n, .inr (.inl fun k => Int64.ofInt (σ a k)))
def celR (E : sv_E) (a t n : Nat) : va_E := .inl (E.2.2.1 t, n, .inr (.inr (.inr (.inr fun k => if k < n then some (E.1 + rfs a k) else none))))
def cel (E : sv_E) (σ : sv_G) (a : Nat) : va_E := match shp a with
  | (10, n) => celI E σ a n
  | (11, n) => celL E σ a n
  | (12, n) => celR E a 2 n
  | (13, n) => celR E a 3 n
  | (14, n) => celR E a 4 n
  | (c, _) => celO E σ a c
def sv_ws (E : sv_E) (σ : sv_G) : va_W := (List.range 229).map fun a => (E.1 + a, cel E σ a)
def sv_tys (E : sv_E) : List (ClassId × FieldType) := [(E.2.2.1 0, .int), (E.2.2.1 1, .long), (E.2.2.1 2, .object RX4), (E.2.2.1 3, .object RX6), (E.2.2.1 4, .object RX1)]
theorem sv_ws_at {E : sv_E} {σ : sv_G} {a : Nat} (h : a < 229) : (sv_ws E σ)[a]? = some (E.1 + a, cel E σ a) := by
  simp [sv_ws, h]
theorem cel_O {E : sv_E} {σ : sv_G} {a c : Nat} (h : shp a = (c, 0)) (hc : c < 10) : cel E σ a = celO E σ a c := by
  unfold cel
  rw [h]
  match c, hc with
  | 0, _ | 1, _ | 2, _ | 3, _ | 4, _ | 5, _ | 6, _ | 7, _ | 8, _ | 9, _ => rfl
theorem cel_I {E : sv_E} {σ : sv_G} {a n : Nat} (h : shp a = (10, n)) : cel E σ a = celI E σ a n := by unfold cel; rw [h]; rfl
theorem cel_L {E : sv_E} {σ : sv_G} {a n : Nat} (h : shp a = (11, n)) : cel E σ a = celL E σ a n := by unfold cel; rw [h]; rfl
theorem cel_R {E : sv_E} {σ : sv_G} {a n t : Nat} (h : shp a = (10 + t, n)) (h1 : 2 ≤ t) (h2 : t ≤ 4) : cel E σ a = celR E a t n := by
  unfold cel
  rw [h]
  match t, h1, h2 with
  | 2, _, _ | 3, _, _ | 4, _, _ => rfl
/-- which cells' parts are longs -/
def isLg (a : Nat) (k : Int) : Bool := if (shp a).1 < 10 then fkd (shp a).1 k.toNat == 1 else (shp a).1 == 11
def RG (σ : sv_G) : Prop := ∀ (a : Nat) (k : Int), (isLg a k = false → -2147483648 ≤ σ a k ∧ σ a k ≤ 2147483647) ∧ (-9223372036854775808 ≤ σ a k ∧ σ a k ≤ 9223372036854775807)
theorem RG.i {σ : sv_G} (h : RG σ) {a : Nat} {k : Int} (hk : isLg a k = false) : -2147483648 ≤ σ a k ∧ σ a k ≤ 2147483647 := (h a k).1 hk
theorem RG.upI {σ : sv_G} (h : RG σ) {a : Nat} {k v : Int} (hv : -2147483648 ≤ v ∧ v ≤ 2147483647) : RG (up σ a k v) := by
  intro a' k'
  unfold up
  by_cases q : a' = a ∧ k' = k
  · rw [if_pos q]; exact ⟨fun _ => hv, by omega, by omega⟩
  · rw [if_neg q]; exact h a' k'
theorem RG.upL {σ : sv_G} (h : RG σ) {a : Nat} {k v : Int} (hk : isLg a k = true) (hv : -9223372036854775808 ≤ v ∧ v ≤ 9223372036854775807) : RG (up σ a k v) := by
  intro a' k'
  unfold up
  by_cases q : a' = a ∧ k' = k
  · rw [if_pos q]
    refine ⟨fun z => ?_, hv⟩
    rw [q.1, q.2, hk] at z
    cases z
  · rw [if_neg q]; exact h a' k'
theorem isLg_O {a c k : Nat} (h : shp a = (c, 0)) (hc : c < 10) : isLg a (k : Int) = (fkd c k == 1) := by
  unfold isLg
  rw [h]
  simp [hc]
theorem isLg_A {a n : Nat} {k : Int} (h : shp a = (10, n)) : isLg a k = false := by unfold isLg; rw [h]; rfl
theorem isLg_J {a n : Nat} {k : Int} (h : shp a = (11, n)) : isLg a k = true := by unfold isLg; rw [h]; rfl
-- words
def LW : List Cond := lw_tbl.filter goodWord
def isNw : Cond → Bool
  | .fieldLinkNest .. => true
  | .methodLinkNest .. => true
  | .castable .. => true
  | _ => false
def NW : List Cond := lw_tbl.filter isNw
theorem LW_in {w : Cond} (i : Nat) (h : lw_tbl[i]? = some w) (g : goodWord w = true) : w ∈ LW := List.mem_filter.mpr ⟨List.mem_of_getElem? h, g⟩
theorem NW_in {w : Cond} (i : Nat) (h : lw_tbl[i]? = some w) (g : isNw w = true) : w ∈ NW := List.mem_filter.mpr ⟨List.mem_of_getElem? h, g⟩
theorem LW_sub {ws : List Cond} (is : List Nat) (h : ws = is.filterMap (fun i => lw_tbl[i]?)) (g : ws.all goodWord = true) : ∀ w ∈ ws, w ∈ LW := by
  intro w hw
  have g1 := List.all_eq_true.mp g w hw
  rw [h] at hw
  obtain ⟨i, -, hi⟩ := List.mem_filterMap.mp hw
  exact LW_in i hi g1
theorem LW_good : ∀ w ∈ LW, goodWord w = true := fun _ h => (List.mem_filter.mp h).2
theorem GoodLW {y : MethodName} {b b' : ByteArray} {n n' : Nat} {y' : MethodName} {r r' : Option FieldType} (h : Cond.code y' b' n' r' ∈ LW) : GoodIn (Cond.code y b n r :: LW) (Cond.code y' b' n' r' :: LW) := by
  intro w hw
  rcases List.mem_cons.mp hw with rfl | hw
  · exact ⟨List.mem_cons_of_mem _ h, good_of_word (LW_good _ h)⟩
  · exact ⟨List.mem_cons_of_mem _ hw, good_of_word (LW_good _ hw)⟩
theorem GoodLW0 {y' : MethodName} {b' : ByteArray} {n' : Nat} {r' : Option FieldType} (h : Cond.code y' b' n' r' ∈ LW) : GoodIn LW (Cond.code y' b' n' r' :: LW) := by
  intro w hw
  rcases List.mem_cons.mp hw with rfl | hw
  · exact ⟨h, good_of_word (LW_good _ h)⟩
  · exact ⟨hw, good_of_word (LW_good _ hw)⟩
def AO_l : List String := [RX4, RX6, RX1]
/-- what the machine gives of its tables that isn't among the good words, and the two statics that a throw reads -/
def SR_l : List (String × Nat × String) := [(RX7, 296, "no such grammar"), (RX7, 303, "no such word"), (RX7, 309, "out of range"), (RX7, 98, "there are 40 atoms"), (RX7, 117, "there are 5 bases, or it is there"), (RX7, 298, "no such base"), (RX7, 152, "there are 30 forms"), (RX7, 162, "there are 6 seams"), (RX7, 305, "no such class"), (RX7, 187, "the latest saying has not so many words"), (RX7, 196, "20 words were heard"), (RX7, 213, "place below 0"), (RX7, 240, "there are 20 examples, or not all was heard"), (RX7, 246, "no setting fits"), (RX7, 270, "what is out of range"), (RX7, 307, "no such cord")]
def xI : String := "java/lang/IndexOutOfBoundsException"
def xA : String := "java/lang/IllegalArgumentException"
def xS : String := "java/lang/IllegalStateException"
def NC_l : List (String × String) := [(xA, xI), (xS, xI), (xI, xA), (xS, xA), (xI, xS), (xA, xS)]
def MW (E : sv_E) (U : State) : Prop :=
  (∀ w ∈ NW, w.before #[] U = true) ∧ (∀ C ∈ AO_l, va_AO C U) ∧ vx_Zq Bundle.tN "UNASSIGNED_STACK" Bundle.steD (fun q => E.1 ≤ q) U U.heap ∧ vx_Zq Bundle.tN "SUPPRESSED_SENTINEL" Bundle.listD (fun q => E.1 ≤ q) U U.heap ∧
  (∀ q ∈ SR_l, ∃ a, vk_R q.1 q.2.1 q.2.2 a U) ∧ (∀ q ∈ NC_l, va_Nc q.1 q.2 U)
theorem NW_mv {w : Cond} (h : isNw w = true) {u U : State} (hW : u.WarmedH U.vm) (hw : w.before #[] u = true) : w.before #[] U = true := by
  cases w <;> first
    | exact va_Nw.warmF hW hw
    | exact va_Nw.warmM hW hw
    | exact va_Nw.warmC hW hw
    | (simp [isNw] at h; done)
theorem MW.mv {E : sv_E} {u U : State} (hW : u.WarmedH U.vm) (hh : ∀ q : Nat, q < u.heap.size → ¬ E.1 ≤ q → U.heap[q]? = u.heap[q]?) (h : MW E u) : MW E U := by
  obtain ⟨h1, h2, h3, h4, h5, h6⟩ := h
  exact ⟨fun w hw => NW_mv (List.mem_filter.mp hw).2 hW (h1 w hw), fun C hC => (h2 C hC).moved hW.alike, (h3.kept hh).moved hW.alike, (h4.kept hh).moved hW.alike, fun q hq => (h5 q hq).imp fun a ha => vk_R.warm hW ha, fun q hq => (h6 q hq).moved hW.alike⟩
-- the judgement
abbrev sx_T : Type := Program × Launch × Env × Room × State × MethodId × Array Value × List Frame × Method × Code
/-- a method's own: its class, code, locals, what it returns, its handlers; how deep it calls; cells and slots that it may make -/
abbrev sd_T : Type := String × ByteArray × Nat × Option FieldType × List ExceptionTableEntry × Nat × Nat × Nat
def sx_ok (X : sx_T) (E : sv_E) (D : sd_T) : Prop := match X, D with
  | (p, l, e, R, s, m, args, below, meth, c), (own, cc, nL, rt, tb, k, mc, ms) =>
    p.tables.exec = Jvm.exec ∧ c.code = cc ∧ c.maxLocals = nL ∧ s.vm.findClass own = some m.cls ∧ (∀ w ∈ LW, w.before args s = true) ∧ MW E s ∧ va_K E.2.2.2 vwCl (sv_tys E) s ∧
    meth.sig.returnType = rt ∧ meth.locks = false ∧ c.exceptionTable.toList = tb ∧ l.stackTraces = false ∧ k ≤ R.frames ∧ 40 * k ≤ R.locals ∧ mc ≤ R.cells ∧ ms ≤ R.slots
def sv_R (E : sv_E) (H0 : Heap) (σ : sv_G) (H : Heap) (locs : List Loc) : Prop :=
  va_P E.2.2.2 vwCl (sv_ws E σ) H ∧ va_D (fun q => E.1 ≤ q) (sv_ws E σ) ∧ va_S (fun q => E.1 ≤ q) H0 H locs ∧ RG σ
def sv_L (E : sv_E) (lsA : Array Slot) (nL : Nat) (ls : List (Option sv_V)) : Prop := lsA.size = nL ∧ lv_wf lsA ∧ ∀ (i : Nat) (v : sv_V), ls[i]? = some (some v) → lsA[i]? = some (.val (cv E v))
def SW (X : sx_T) (E : sv_E) (Q : State → Prop) (u w : Nat) (pc : Nat) (ls : List (Option sv_V)) (st : List sv_V) (σ : sv_G) : Prop := match X with
  | (p, l, e, R, s, m, args, below, meth, c) => ∀ (H : Heap) (locs : List Loc) (lsA : Array Slot), sv_R E s.heap σ H locs → sv_L E lsA c.maxLocals ls → W p l e R s m args below meth c H locs u w Q (F0 m pc lsA (st.map (cv E)))
-- locals
def sv_cl (ls : List (Option sv_V)) (i : Nat) : List (Option sv_V) := match i with
  | 0 => ls
  | j + 1 => match ls[j]? with
    | some (some (.inr (.inl _))) => ls.set j none
    | _ => ls
def sv_st1 (ls : List (Option sv_V)) (i : Nat) (v : Option sv_V) : List (Option sv_V) := (sv_cl ls i).set i v
def sv_st2 (ls : List (Option sv_V)) (i : Nat) (v : Option sv_V) : List (Option sv_V) := ((sv_cl ls i).set i v).set (i + 1) none
def sv_pr (E : sv_E) (ls : List (Option sv_V)) : List (Nat × Value) := ls.zipIdx.filterMap fun q => q.1.map fun v => (q.2, cv E v)
theorem sv_pr_in {E : sv_E} {ls : List (Option sv_V)} {i : Nat} {x : Value} : (i, x) ∈ sv_pr E ls ↔ ∃ v, ls[i]? = some (some v) ∧ x = cv E v := by
  unfold sv_pr
  rw [List.mem_filterMap]
  constructor
  · rintro ⟨⟨o, j⟩, h1, h2⟩
    cases o with
    | none => simp at h2
    | some v =>
      simp only [Option.map_some, Option.some.injEq, Prod.mk.injEq] at h2
      obtain ⟨rfl, rfl⟩ := h2
      exact ⟨v, List.mem_zipIdx_iff_getElem?.mp h1, rfl⟩
  · rintro ⟨v, h1, rfl⟩
    exact ⟨(some v, i), List.mem_zipIdx_iff_getElem?.mpr h1, rfl⟩
theorem sv_L.has {E : sv_E} {lsA : Array Slot} {nL : Nat} {ls : List (Option sv_V)} (h : sv_L E lsA nL ls) : lv_has lsA nL (sv_pr E ls) := by
  refine ⟨h.1, h.2.1, fun q hq => ?_⟩
  obtain ⟨v, h1, h2⟩ := sv_pr_in.mp (show (q.1, q.2) ∈ sv_pr E ls from hq)
  rw [h2]
  exact h.2.2 _ _ h1
theorem sv_cl_get {ls : List (Option sv_V)} {i j : Nat} {v : sv_V} (h : (sv_cl ls i)[j]? = some (some v)) : ls[j]? = some (some v) ∧ ¬ (j + 1 = i ∧ ∃ z, v = vL z) := by
  unfold sv_cl at h
  split at h
  · exact ⟨h, fun q => by omega⟩
  · rename_i k
    split at h
    · rename_i z hz
      by_cases q : j = k
      · subst q
        rw [List.getElem?_set_self (List.getElem?_eq_some_iff.mp hz).1] at h
        cases h
      · rw [List.getElem?_set_ne (Ne.symm q)] at h
        exact ⟨h, fun q2 => by omega⟩
    · rename_i hn
      refine ⟨h, fun q2 => ?_⟩
      obtain ⟨q3, z, rfl⟩ := q2
      have q4 : j = k := by omega
      subst q4
      exact hn z h
theorem cv_cat2 {E : sv_E} {v : sv_V} (h : (cv E v).category = 2) : ∃ z, v = vL z := by
  match v with
  | .inl z => simp [cv, Value.category] at h
  | .inr (.inl z) => exact ⟨z, rfl⟩
  | .inr (.inr (.inl a)) => simp [cv, Value.category] at h
  | .inr (.inr (.inr false)) => simp [cv, Value.category] at h
  | .inr (.inr (.inr true)) => simp [cv, Value.category] at h
theorem sv_L.st1 {E : sv_E} {lsA : Array Slot} {nL : Nat} {ls : List (Option sv_V)} {i : Nat} {x : Value} {o : Option sv_V} (ho : ∀ v, o = some v → x = cv E v)
    (h : lv_has lsA nL ((i, x) :: (sv_pr E ls).filter (fun q => !(q.1 == i) && !(q.1 + 1 == i && q.2.category == 2)))) : sv_L E lsA nL (sv_st1 ls i o) := by
  refine ⟨h.1, h.2.1, fun j v hj => ?_⟩
  unfold sv_st1 at hj
  by_cases q : j = i
  · subst q
    by_cases q2 : j < (sv_cl ls j).length
    · rw [List.getElem?_set_self q2] at hj
      rw [← ho v (Option.some.inj hj)]
      exact h.2.2 (j, x) List.mem_cons_self
    · rw [List.getElem?_eq_none (by rw [List.length_set]; omega)] at hj
      cases hj
  · rw [List.getElem?_set_ne (Ne.symm q)] at hj
    obtain ⟨g1, g2⟩ := sv_cl_get hj
    refine h.2.2 (j, cv E v) (List.mem_cons_of_mem _ (List.mem_filter.mpr ⟨sv_pr_in.mpr ⟨v, g1, rfl⟩, ?_⟩))
    simp only [Bool.and_eq_true, Bool.not_eq_true', beq_eq_false_iff_ne, ne_eq, Bool.and_eq_false_iff]
    refine ⟨q, ?_⟩
    by_cases q3 : j + 1 = i
    · right
      intro q4
      exact g2 ⟨q3, cv_cat2 q4⟩
    · exact Or.inl q3
theorem sv_L.st2 {E : sv_E} {lsA : Array Slot} {nL : Nat} {ls : List (Option sv_V)} {i : Nat} {x : Value} {o : Option sv_V} (ho : ∀ v, o = some v → x = cv E v)
    (h : lv_has lsA nL ((i, x) :: (sv_pr E ls).filter (fun q => !(q.1 == i) && (!(q.1 == i + 1) && !(q.1 + 1 == i && q.2.category == 2))))) : sv_L E lsA nL (sv_st2 ls i o) := by
  refine ⟨h.1, h.2.1, fun j v hj => ?_⟩
  unfold sv_st2 at hj
  by_cases q0 : j = i + 1
  · subst q0
    by_cases q2 : i + 1 < ((sv_cl ls i).set i o).length
    · rw [List.getElem?_set_self q2] at hj
      cases hj
    · rw [List.getElem?_eq_none (by rw [List.length_set]; omega)] at hj
      cases hj
  rw [List.getElem?_set_ne (Ne.symm q0)] at hj
  by_cases q : j = i
  · subst q
    by_cases q2 : j < (sv_cl ls j).length
    · rw [List.getElem?_set_self q2] at hj
      rw [← ho v (Option.some.inj hj)]
      exact h.2.2 (j, x) List.mem_cons_self
    · rw [List.getElem?_eq_none (by rw [List.length_set]; omega)] at hj
      cases hj
  · rw [List.getElem?_set_ne (Ne.symm q)] at hj
    obtain ⟨g1, g2⟩ := sv_cl_get hj
    refine h.2.2 (j, cv E v) (List.mem_cons_of_mem _ (List.mem_filter.mpr ⟨sv_pr_in.mpr ⟨v, g1, rfl⟩, ?_⟩))
    simp only [Bool.and_eq_true, Bool.not_eq_true', beq_eq_false_iff_ne, ne_eq, Bool.and_eq_false_iff]
    refine ⟨q, q0, ?_⟩
    by_cases q3 : j + 1 = i
    · right
      intro q4
      exact g2 ⟨q3, cv_cat2 q4⟩
    · exact Or.inl q3
theorem sv_refl (U : State) : U.WarmedH U.vm := State.WarmedH.refl U
end
section
/-! One instruction a row, over abstract values. -/
theorem sn_ofI {z : Int} (h : -2147483648 ≤ z ∧ z ≤ 2147483647) : (Int32.ofInt z).toInt = z := Int32.toInt_ofInt_of_le (by omega) (by omega)
theorem sn_ofL {z : Int} (h : -9223372036854775808 ≤ z ∧ z ≤ 9223372036854775807) : (Int64.ofInt z).toInt = z := Int64.toInt_ofInt_of_le (by omega) (by omega)
theorem sn_lt {x y : Int} (hx : -2147483648 ≤ x ∧ x ≤ 2147483647) (hy : -2147483648 ≤ y ∧ y ≤ 2147483647) : Int32.ofInt x < Int32.ofInt y ↔ x < y := by rw [Int32.lt_iff_toInt_lt, sn_ofI hx, sn_ofI hy]
theorem sn_le {x y : Int} (hx : -2147483648 ≤ x ∧ x ≤ 2147483647) (hy : -2147483648 ≤ y ∧ y ≤ 2147483647) : Int32.ofInt x ≤ Int32.ofInt y ↔ x ≤ y := by rw [Int32.le_iff_toInt_le, sn_ofI hx, sn_ofI hy]
theorem sn_eq {x y : Int} (hx : -2147483648 ≤ x ∧ x ≤ 2147483647) (hy : -2147483648 ≤ y ∧ y ≤ 2147483647) : Int32.ofInt x = Int32.ofInt y ↔ x = y := by rw [← Int32.toInt_inj, sn_ofI hx, sn_ofI hy]
theorem sn_0 : Int32.ofInt 0 = 0 := rfl
theorem sn_inj {x y : Int} (hx : -9223372036854775808 ≤ x ∧ x ≤ 9223372036854775807) (hy : -9223372036854775808 ≤ y ∧ y ≤ 9223372036854775807) : Int64.ofInt x = Int64.ofInt y ↔ x = y := by rw [← Int64.toInt_inj, sn_ofL hx, sn_ofL hy]
theorem sn_div {x y : Int} (hx : 0 ≤ x ∧ x ≤ 2147483647) (hy : 0 < y ∧ y ≤ 2147483647) : Int32.ofInt x / Int32.ofInt y = Int32.ofInt (x / y) := by
  rw [← Int.tdiv_eq_ediv_of_nonneg hx.1]
  exact (Int32.ofInt_tdiv (by show (-2147483648 : Int) ≤ x; omega) (by show x ≤ (2147483647 : Int); omega) (by show (-2147483648 : Int) ≤ y; omega) (by show y ≤ (2147483647 : Int); omega)).symm
theorem sn_ne0 {y : Int} (hy : 0 < y ∧ y ≤ 2147483647) : ¬ Int32.ofInt y = 0 := by
  rw [← sn_0, sn_eq (by omega) (by omega)]; omega
theorem sn_rem {x y : Int} (hx : 0 ≤ x ∧ x ≤ 2147483647) (hy : 0 < y ∧ y ≤ 2147483647) : Int32.ofInt x - Int32.ofInt x / Int32.ofInt y * Int32.ofInt y = Int32.ofInt (x % y) := by
  rw [sn_div hx hy, ← Int32.ofInt_mul, ← Int32.ofInt_sub, Int.emod_def, Int.mul_comm]
theorem sn_divL {x y : Int} (hx : -9223372036854775808 ≤ x ∧ x ≤ 9223372036854775807) (hy : 0 < y ∧ y ≤ 9223372036854775807) : Int64.ofInt x / Int64.ofInt y = Int64.ofInt (x.tdiv y) :=
  (Int64.ofInt_tdiv (by show (-9223372036854775808 : Int) ≤ x; omega) (by show x ≤ (9223372036854775807 : Int); omega) (by show (-9223372036854775808 : Int) ≤ y; omega) (by show y ≤ (9223372036854775807 : Int); omega)).symm
theorem sn_ne0L {y : Int} (hy : 0 < y ∧ y ≤ 9223372036854775807) : ¬ Int64.ofInt y = 0 := by
  rw [show (0 : Int64) = Int64.ofInt 0 from rfl, sn_inj (by omega) (by omega)]; omega
theorem sn_remL {x y : Int} (hx : -9223372036854775808 ≤ x ∧ x ≤ 9223372036854775807) (hy : 0 < y ∧ y ≤ 9223372036854775807) : Int64.ofInt x - Int64.ofInt x / Int64.ofInt y * Int64.ofInt y = Int64.ofInt (x.tmod y) := by
  rw [sn_divL hx hy, ← Int64.ofInt_mul, ← Int64.ofInt_sub, Int.tmod_def, Int.mul_comm]
def landI (x y : Int) : Int := (Int32.ofInt x &&& Int32.ofInt y).toInt
def landL (x y : Int) : Int := (Int64.ofInt x &&& Int64.ofInt y).toInt
def lorL (x y : Int) : Int := (Int64.ofInt x ||| Int64.ofInt y).toInt
def shlL (x y : Int) : Int := (Int64.ofInt x <<< ((Int32.ofInt y).toInt64 &&& 63)).toInt
def shrL (x y : Int) : Int := (Int64.ofInt x >>> ((Int32.ofInt y).toInt64 &&& 63)).toInt
def cmpL (x y : Int) : Int := if x > y then 1 else if x = y then 0 else -1
theorem sn_i2l {x : Int} (hx : -2147483648 ≤ x ∧ x ≤ 2147483647) : (Int32.ofInt x).toInt64 = Int64.ofInt x := Int32.toInt64_ofInt (by show (-2147483648 : Int) ≤ x; omega) (by show x ≤ (2147483647 : Int); omega)
theorem sn_cmp {x y : Int} (hx : -9223372036854775808 ≤ x ∧ x ≤ 9223372036854775807) (hy : -9223372036854775808 ≤ y ∧ y ≤ 9223372036854775807) : lg_cmp (Int64.ofInt x) (Int64.ofInt y) = Int32.ofInt (cmpL x y) := by
  unfold lg_cmp cmpL
  simp only [gt_iff_lt, Int64.lt_iff_toInt_lt, sn_inj hx hy, sn_ofL hx, sn_ofL hy]
  split
  · rfl
  · split <;> rfl
def sv_isR : sv_V → Bool
  | .inr (.inr _) => true
  | _ => false
def sv_c1 : sv_V → Bool
  | .inr (.inl _) => false
  | _ => true
theorem sv_c1_cat {E : sv_E} {v : sv_V} (h : sv_c1 v = true) : (cv E v).category = 1 := by
  match v, h with
  | .inl _, _ => rfl
  | .inr (.inr (.inl _)), _ => rfl
  | .inr (.inr (.inr false)), _ => rfl
  | .inr (.inr (.inr true)), _ => rfl

theorem s_iconst {X : sx_T} {E : sv_E} {D : sd_T} {Q : State → Prop} {u w pc : Nat} {ls : List (Option sv_V)} {st : List sv_V} {σ : sv_G} {n : Int} (C : sx_ok X E D) (hd : decode D.2.1 pc = .ok (.iconst n, 1))  (kk : SW X E Q u w (pc + 1) ls (vI n :: st) σ) : SW X E Q u w pc ls (st) σ := by
  obtain ⟨p, l, e, R, s, m, args, below, meth, c⟩ := X
  obtain ⟨own, cc, nL, rt, tb, k, mc, ms⟩ := D
  obtain ⟨hx, hb, hnl, -⟩ := C
  intro H locs lsA hR hL
  have kk := kk H locs lsA hR hL
  refine lv_iconst hx hb hd rfl ?_
  exact kk
theorem s_bipush {X : sx_T} {E : sv_E} {D : sd_T} {Q : State → Prop} {u w pc : Nat} {ls : List (Option sv_V)} {st : List sv_V} {σ : sv_G} {n : Int} (C : sx_ok X E D) (hd : decode D.2.1 pc = .ok (.bipush n, 2)) (hn : -128 ≤ n ∧ n ≤ 127) (kk : SW X E Q u w (pc + 2) ls (vI n :: st) σ) : SW X E Q u w pc ls (st) σ := by
  obtain ⟨p, l, e, R, s, m, args, below, meth, c⟩ := X
  obtain ⟨own, cc, nL, rt, tb, k, mc, ms⟩ := D
  obtain ⟨hx, hb, hnl, -⟩ := C
  intro H locs lsA hR hL
  have kk := kk H locs lsA hR hL
  refine lv_bipush hx hb hd (Int8.toInt32_ofInt (by show (-128 : Int) ≤ n; omega) (by show n ≤ (127 : Int); omega)) ?_
  exact kk
theorem s_sipush {X : sx_T} {E : sv_E} {D : sd_T} {Q : State → Prop} {u w pc : Nat} {ls : List (Option sv_V)} {st : List sv_V} {σ : sv_G} {n : Int} (C : sx_ok X E D) (hd : decode D.2.1 pc = .ok (.sipush n, 3)) (hn : -32768 ≤ n ∧ n ≤ 32767) (kk : SW X E Q u w (pc + 3) ls (vI n :: st) σ) : SW X E Q u w pc ls (st) σ := by
  obtain ⟨p, l, e, R, s, m, args, below, meth, c⟩ := X
  obtain ⟨own, cc, nL, rt, tb, k, mc, ms⟩ := D
  obtain ⟨hx, hb, hnl, -⟩ := C
  intro H locs lsA hR hL
  have kk := kk H locs lsA hR hL
  refine lv_sipush hx hb hd (Int16.toInt32_ofInt (by show (-32768 : Int) ≤ n; omega) (by show n ≤ (32767 : Int); omega)) ?_
  exact kk
theorem s_lconst {X : sx_T} {E : sv_E} {D : sd_T} {Q : State → Prop} {u w pc : Nat} {ls : List (Option sv_V)} {st : List sv_V} {σ : sv_G} {n : Fin 2} (C : sx_ok X E D) (hd : decode D.2.1 pc = .ok (.lconst n, 1))  (kk : SW X E Q u w (pc + 1) ls (vL (n : Nat) :: st) σ) : SW X E Q u w pc ls (st) σ := by
  obtain ⟨p, l, e, R, s, m, args, below, meth, c⟩ := X
  obtain ⟨own, cc, nL, rt, tb, k, mc, ms⟩ := D
  obtain ⟨hx, hb, hnl, -⟩ := C
  intro H locs lsA hR hL
  have kk := kk H locs lsA hR hL
  refine lv_lconst hx hb hd (Int64.ofInt_eq_ofNat (n := (n : Nat))).symm ?_
  exact kk
theorem s_iload_n {X : sx_T} {E : sv_E} {D : sd_T} {Q : State → Prop} {u w pc : Nat} {ls : List (Option sv_V)} {st : List sv_V} {σ : sv_G} {j : Fin 4} {z : Int} (C : sx_ok X E D) (hd : decode D.2.1 pc = .ok (.iload_n j, 1)) (hl : ls[(j : Nat)]? = some (some (vI z))) (kk : SW X E Q u w (pc + 1) ls (vI z :: st) σ) : SW X E Q u w pc ls (st) σ := by
  obtain ⟨p, l, e, R, s, m, args, below, meth, c⟩ := X
  obtain ⟨own, cc, nL, rt, tb, k, mc, ms⟩ := D
  obtain ⟨hx, hb, hnl, -⟩ := C
  intro H locs lsA hR hL
  have kk := kk H locs lsA hR hL
  refine lv_iload_n hx hb hd rfl (hL.2.2 _ _ hl) ?_
  exact kk
theorem s_iload {X : sx_T} {E : sv_E} {D : sd_T} {Q : State → Prop} {u w pc : Nat} {ls : List (Option sv_V)} {st : List sv_V} {σ : sv_G} {j : Nat} {z : Int} (C : sx_ok X E D) (hd : decode D.2.1 pc = .ok (.iload j, 2)) (hl : ls[j]? = some (some (vI z))) (kk : SW X E Q u w (pc + 2) ls (vI z :: st) σ) : SW X E Q u w pc ls (st) σ := by
  obtain ⟨p, l, e, R, s, m, args, below, meth, c⟩ := X
  obtain ⟨own, cc, nL, rt, tb, k, mc, ms⟩ := D
  obtain ⟨hx, hb, hnl, -⟩ := C
  intro H locs lsA hR hL
  have kk := kk H locs lsA hR hL
  refine lv_iload hx hb hd (hL.2.2 _ _ hl) ?_
  exact kk
theorem s_lload_n {X : sx_T} {E : sv_E} {D : sd_T} {Q : State → Prop} {u w pc : Nat} {ls : List (Option sv_V)} {st : List sv_V} {σ : sv_G} {j : Fin 4} {z : Int} (C : sx_ok X E D) (hd : decode D.2.1 pc = .ok (.lload_n j, 1)) (hl : ls[(j : Nat)]? = some (some (vL z))) (kk : SW X E Q u w (pc + 1) ls (vL z :: st) σ) : SW X E Q u w pc ls (st) σ := by
  obtain ⟨p, l, e, R, s, m, args, below, meth, c⟩ := X
  obtain ⟨own, cc, nL, rt, tb, k, mc, ms⟩ := D
  obtain ⟨hx, hb, hnl, -⟩ := C
  intro H locs lsA hR hL
  have kk := kk H locs lsA hR hL
  refine lv_lload_n hx hb hd rfl (hL.2.2 _ _ hl) ?_
  exact kk
theorem s_lload {X : sx_T} {E : sv_E} {D : sd_T} {Q : State → Prop} {u w pc : Nat} {ls : List (Option sv_V)} {st : List sv_V} {σ : sv_G} {j : Nat} {z : Int} (C : sx_ok X E D) (hd : decode D.2.1 pc = .ok (.lload j, 2)) (hl : ls[j]? = some (some (vL z))) (kk : SW X E Q u w (pc + 2) ls (vL z :: st) σ) : SW X E Q u w pc ls (st) σ := by
  obtain ⟨p, l, e, R, s, m, args, below, meth, c⟩ := X
  obtain ⟨own, cc, nL, rt, tb, k, mc, ms⟩ := D
  obtain ⟨hx, hb, hnl, -⟩ := C
  intro H locs lsA hR hL
  have kk := kk H locs lsA hR hL
  refine lv_lload hx hb hd (hL.2.2 _ _ hl) ?_
  exact kk
theorem s_aload_n {X : sx_T} {E : sv_E} {D : sd_T} {Q : State → Prop} {u w pc : Nat} {ls : List (Option sv_V)} {st : List sv_V} {σ : sv_G} {j : Fin 4} {z : Nat} (C : sx_ok X E D) (hd : decode D.2.1 pc = .ok (.aload_n j, 1)) (hl : ls[(j : Nat)]? = some (some (vR z))) (kk : SW X E Q u w (pc + 1) ls (vR z :: st) σ) : SW X E Q u w pc ls (st) σ := by
  obtain ⟨p, l, e, R, s, m, args, below, meth, c⟩ := X
  obtain ⟨own, cc, nL, rt, tb, k, mc, ms⟩ := D
  obtain ⟨hx, hb, hnl, -⟩ := C
  intro H locs lsA hR hL
  have kk := kk H locs lsA hR hL
  refine lv_aload_n hx hb hd rfl (hL.2.2 _ _ hl) ?_
  exact kk
theorem s_aload {X : sx_T} {E : sv_E} {D : sd_T} {Q : State → Prop} {u w pc : Nat} {ls : List (Option sv_V)} {st : List sv_V} {σ : sv_G} {j : Nat} {z : Nat} (C : sx_ok X E D) (hd : decode D.2.1 pc = .ok (.aload j, 2)) (hl : ls[j]? = some (some (vR z))) (kk : SW X E Q u w (pc + 2) ls (vR z :: st) σ) : SW X E Q u w pc ls (st) σ := by
  obtain ⟨p, l, e, R, s, m, args, below, meth, c⟩ := X
  obtain ⟨own, cc, nL, rt, tb, k, mc, ms⟩ := D
  obtain ⟨hx, hb, hnl, -⟩ := C
  intro H locs lsA hR hL
  have kk := kk H locs lsA hR hL
  refine lv_aload hx hb hd (hL.2.2 _ _ hl) ?_
  exact kk
theorem s_aloadS_n {X : sx_T} {E : sv_E} {D : sd_T} {Q : State → Prop} {u w pc : Nat} {ls : List (Option sv_V)} {st : List sv_V} {σ : sv_G} {j : Fin 4} (C : sx_ok X E D) (hd : decode D.2.1 pc = .ok (.aload_n j, 1)) (hl : ls[(j : Nat)]? = some (some (vS))) (kk : SW X E Q u w (pc + 1) ls (vS :: st) σ) : SW X E Q u w pc ls (st) σ := by
  obtain ⟨p, l, e, R, s, m, args, below, meth, c⟩ := X
  obtain ⟨own, cc, nL, rt, tb, k, mc, ms⟩ := D
  obtain ⟨hx, hb, hnl, -⟩ := C
  intro H locs lsA hR hL
  have kk := kk H locs lsA hR hL
  refine lv_aload_n hx hb hd rfl (hL.2.2 _ _ hl) ?_
  exact kk
theorem s_aloadN_n {X : sx_T} {E : sv_E} {D : sd_T} {Q : State → Prop} {u w pc : Nat} {ls : List (Option sv_V)} {st : List sv_V} {σ : sv_G} {j : Fin 4} (C : sx_ok X E D) (hd : decode D.2.1 pc = .ok (.aload_n j, 1)) (hl : ls[(j : Nat)]? = some (some (vN))) (kk : SW X E Q u w (pc + 1) ls (vN :: st) σ) : SW X E Q u w pc ls (st) σ := by
  obtain ⟨p, l, e, R, s, m, args, below, meth, c⟩ := X
  obtain ⟨own, cc, nL, rt, tb, k, mc, ms⟩ := D
  obtain ⟨hx, hb, hnl, -⟩ := C
  intro H locs lsA hR hL
  have kk := kk H locs lsA hR hL
  refine lv_aload_nN hx hb hd rfl (hL.2.2 _ _ hl) ?_
  exact kk
theorem s_aloadN {X : sx_T} {E : sv_E} {D : sd_T} {Q : State → Prop} {u w pc : Nat} {ls : List (Option sv_V)} {st : List sv_V} {σ : sv_G} {j : Nat} (C : sx_ok X E D) (hd : decode D.2.1 pc = .ok (.aload j, 2)) (hl : ls[j]? = some (some (vN))) (kk : SW X E Q u w (pc + 2) ls (vN :: st) σ) : SW X E Q u w pc ls (st) σ := by
  obtain ⟨p, l, e, R, s, m, args, below, meth, c⟩ := X
  obtain ⟨own, cc, nL, rt, tb, k, mc, ms⟩ := D
  obtain ⟨hx, hb, hnl, -⟩ := C
  intro H locs lsA hR hL
  have kk := kk H locs lsA hR hL
  refine lv_aloadN hx hb hd (hL.2.2 _ _ hl) ?_
  exact kk
theorem s_istore_n {X : sx_T} {E : sv_E} {D : sd_T} {Q : State → Prop} {u w pc : Nat} {ls : List (Option sv_V)} {st : List sv_V} {σ : sv_G} {j : Fin 4} {z : Int} {ls2 : List (Option sv_V)} (C : sx_ok X E D) (hd : decode D.2.1 pc = .ok (.istore_n j, 1)) (hn : (j : Nat) < D.2.2.1) (hl : sv_st1 ls (j : Nat) (some (vI z)) = ls2) (kk : SW X E Q u w (pc + 1) ls2 st σ) : SW X E Q u w pc ls (vI z :: st) σ := by
  obtain ⟨p, l, e, R, s, m, args, below, meth, c⟩ := X
  obtain ⟨own, cc, nL, rt, tb, k, mc, ms⟩ := D
  obtain ⟨hx, hb, hnl, -⟩ := C
  intro H locs lsA hR hL
  subst hl
  refine lv_istore_n hx hb hd rfl hL.has (by rw [hnl]; exact hn) rfl (fun ls9 h9 => ?_)
  exact kk H locs ls9 hR (sv_L.st1 (fun v hv => by cases hv; rfl) h9)
theorem s_istore {X : sx_T} {E : sv_E} {D : sd_T} {Q : State → Prop} {u w pc : Nat} {ls : List (Option sv_V)} {st : List sv_V} {σ : sv_G} {j : Nat} {z : Int} {ls2 : List (Option sv_V)} (C : sx_ok X E D) (hd : decode D.2.1 pc = .ok (.istore j, 2)) (hn : j < D.2.2.1) (hl : sv_st1 ls j (some (vI z)) = ls2) (kk : SW X E Q u w (pc + 2) ls2 st σ) : SW X E Q u w pc ls (vI z :: st) σ := by
  obtain ⟨p, l, e, R, s, m, args, below, meth, c⟩ := X
  obtain ⟨own, cc, nL, rt, tb, k, mc, ms⟩ := D
  obtain ⟨hx, hb, hnl, -⟩ := C
  intro H locs lsA hR hL
  subst hl
  refine lv_istore hx hb hd hL.has (by rw [hnl]; exact hn) rfl (fun ls9 h9 => ?_)
  exact kk H locs ls9 hR (sv_L.st1 (fun v hv => by cases hv; rfl) h9)
theorem s_lstore_n {X : sx_T} {E : sv_E} {D : sd_T} {Q : State → Prop} {u w pc : Nat} {ls : List (Option sv_V)} {st : List sv_V} {σ : sv_G} {j : Fin 4} {z : Int} {ls2 : List (Option sv_V)} (C : sx_ok X E D) (hd : decode D.2.1 pc = .ok (.lstore_n j, 1)) (hn : (j : Nat) + 1 < D.2.2.1) (hl : sv_st2 ls (j : Nat) (some (vL z)) = ls2) (kk : SW X E Q u w (pc + 1) ls2 st σ) : SW X E Q u w pc ls (vL z :: st) σ := by
  obtain ⟨p, l, e, R, s, m, args, below, meth, c⟩ := X
  obtain ⟨own, cc, nL, rt, tb, k, mc, ms⟩ := D
  obtain ⟨hx, hb, hnl, -⟩ := C
  intro H locs lsA hR hL
  subst hl
  refine lv_lstore_n hx hb hd rfl hL.has (by rw [hnl]; exact hn) rfl (fun ls9 h9 => ?_)
  exact kk H locs ls9 hR (sv_L.st2 (fun v hv => by cases hv; rfl) h9)
theorem s_lstore {X : sx_T} {E : sv_E} {D : sd_T} {Q : State → Prop} {u w pc : Nat} {ls : List (Option sv_V)} {st : List sv_V} {σ : sv_G} {j : Nat} {z : Int} {ls2 : List (Option sv_V)} (C : sx_ok X E D) (hd : decode D.2.1 pc = .ok (.lstore j, 2)) (hn : j + 1 < D.2.2.1) (hl : sv_st2 ls j (some (vL z)) = ls2) (kk : SW X E Q u w (pc + 2) ls2 st σ) : SW X E Q u w pc ls (vL z :: st) σ := by
  obtain ⟨p, l, e, R, s, m, args, below, meth, c⟩ := X
  obtain ⟨own, cc, nL, rt, tb, k, mc, ms⟩ := D
  obtain ⟨hx, hb, hnl, -⟩ := C
  intro H locs lsA hR hL
  subst hl
  refine lv_lstore hx hb hd hL.has (by rw [hnl]; exact hn) rfl (fun ls9 h9 => ?_)
  exact kk H locs ls9 hR (sv_L.st2 (fun v hv => by cases hv; rfl) h9)
theorem s_astore_n {X : sx_T} {E : sv_E} {D : sd_T} {Q : State → Prop} {u w pc : Nat} {ls : List (Option sv_V)} {st : List sv_V} {σ : sv_G} {j : Fin 4} {z : Nat} {ls2 : List (Option sv_V)} (C : sx_ok X E D) (hd : decode D.2.1 pc = .ok (.astore_n j, 1)) (hn : (j : Nat) < D.2.2.1) (hl : sv_st1 ls (j : Nat) (some (vR z)) = ls2) (kk : SW X E Q u w (pc + 1) ls2 st σ) : SW X E Q u w pc ls (vR z :: st) σ := by
  obtain ⟨p, l, e, R, s, m, args, below, meth, c⟩ := X
  obtain ⟨own, cc, nL, rt, tb, k, mc, ms⟩ := D
  obtain ⟨hx, hb, hnl, -⟩ := C
  intro H locs lsA hR hL
  subst hl
  refine lv_astore_n hx hb hd rfl hL.has (by rw [hnl]; exact hn) rfl (fun ls9 h9 => ?_)
  exact kk H locs ls9 hR (sv_L.st1 (fun v hv => by cases hv; rfl) h9)
theorem s_astore {X : sx_T} {E : sv_E} {D : sd_T} {Q : State → Prop} {u w pc : Nat} {ls : List (Option sv_V)} {st : List sv_V} {σ : sv_G} {j : Nat} {z : Nat} {ls2 : List (Option sv_V)} (C : sx_ok X E D) (hd : decode D.2.1 pc = .ok (.astore j, 2)) (hn : j < D.2.2.1) (hl : sv_st1 ls j (some (vR z)) = ls2) (kk : SW X E Q u w (pc + 2) ls2 st σ) : SW X E Q u w pc ls (vR z :: st) σ := by
  obtain ⟨p, l, e, R, s, m, args, below, meth, c⟩ := X
  obtain ⟨own, cc, nL, rt, tb, k, mc, ms⟩ := D
  obtain ⟨hx, hb, hnl, -⟩ := C
  intro H locs lsA hR hL
  subst hl
  refine lv_astore hx hb hd hL.has (by rw [hnl]; exact hn) rfl (fun ls9 h9 => ?_)
  exact kk H locs ls9 hR (sv_L.st1 (fun v hv => by cases hv; rfl) h9)
theorem s_astoreN_n {X : sx_T} {E : sv_E} {D : sd_T} {Q : State → Prop} {u w pc : Nat} {ls : List (Option sv_V)} {st : List sv_V} {σ : sv_G} {j : Fin 4} {ls2 : List (Option sv_V)} (C : sx_ok X E D) (hd : decode D.2.1 pc = .ok (.astore_n j, 1)) (hn : (j : Nat) < D.2.2.1) (hl : sv_st1 ls (j : Nat) (some (vN)) = ls2) (kk : SW X E Q u w (pc + 1) ls2 st σ) : SW X E Q u w pc ls (vN :: st) σ := by
  obtain ⟨p, l, e, R, s, m, args, below, meth, c⟩ := X
  obtain ⟨own, cc, nL, rt, tb, k, mc, ms⟩ := D
  obtain ⟨hx, hb, hnl, -⟩ := C
  intro H locs lsA hR hL
  subst hl
  refine lv_astore_nN hx hb hd rfl hL.has (by rw [hnl]; exact hn) rfl (fun ls9 h9 => ?_)
  exact kk H locs ls9 hR (sv_L.st1 (fun v hv => by cases hv; rfl) h9)
theorem s_astoreN {X : sx_T} {E : sv_E} {D : sd_T} {Q : State → Prop} {u w pc : Nat} {ls : List (Option sv_V)} {st : List sv_V} {σ : sv_G} {j : Nat} {ls2 : List (Option sv_V)} (C : sx_ok X E D) (hd : decode D.2.1 pc = .ok (.astore j, 2)) (hn : j < D.2.2.1) (hl : sv_st1 ls j (some (vN)) = ls2) (kk : SW X E Q u w (pc + 2) ls2 st σ) : SW X E Q u w pc ls (vN :: st) σ := by
  obtain ⟨p, l, e, R, s, m, args, below, meth, c⟩ := X
  obtain ⟨own, cc, nL, rt, tb, k, mc, ms⟩ := D
  obtain ⟨hx, hb, hnl, -⟩ := C
  intro H locs lsA hR hL
  subst hl
  refine lv_astoreN hx hb hd hL.has (by rw [hnl]; exact hn) rfl (fun ls9 h9 => ?_)
  exact kk H locs ls9 hR (sv_L.st1 (fun v hv => by cases hv; rfl) h9)
theorem s_iinc {X : sx_T} {E : sv_E} {D : sd_T} {Q : State → Prop} {u w pc : Nat} {ls : List (Option sv_V)} {st : List sv_V} {σ : sv_G} {j : Nat} {n z z2 : Int} {ls2 : List (Option sv_V)} (C : sx_ok X E D) (hd : decode D.2.1 pc = .ok (.iinc j n, 3)) (hn : j < D.2.2.1) (hz : ls[j]? = some (some (vI z))) (hz2 : z2 = z + n) (hl : sv_st1 ls j (some (vI z2)) = ls2) (kk : SW X E Q u w (pc + 3) ls2 st σ) : SW X E Q u w pc ls st σ := by
  obtain ⟨p, l, e, R, s, m, args, below, meth, c⟩ := X
  obtain ⟨own, cc, nL, rt, tb, k, mc, ms⟩ := D
  obtain ⟨hx, hb, hnl, -⟩ := C
  intro H locs lsA hR hL
  subst hl
  subst hz2
  obtain ⟨i9, h9⟩ := List.getElem?_of_mem (sv_pr_in.mpr ⟨_, hz, rfl⟩ : (j, cv E (vI z)) ∈ sv_pr E ls)
  refine lv_iinc (v := Int32.ofInt (z + n)) hx hb hd hL.has h9 (Int32.ofInt_add z n).symm (by rw [hnl]; exact hn) rfl (fun ls9 h9 => ?_)
  exact kk H locs ls9 hR (sv_L.st1 (fun v hv => by cases hv; rfl) h9)
theorem s_iadd {X : sx_T} {E : sv_E} {D : sd_T} {Q : State → Prop} {u w pc : Nat} {ls : List (Option sv_V)} {st : List sv_V} {σ : sv_G} {x y : Int} (C : sx_ok X E D) (hd : decode D.2.1 pc = .ok (.iadd, 1))  (kk : SW X E Q u w (pc + 1) ls (vI (x + y) :: st) σ) : SW X E Q u w pc ls (vI y :: vI x :: st) σ := by
  obtain ⟨p, l, e, R, s, m, args, below, meth, c⟩ := X
  obtain ⟨own, cc, nL, rt, tb, k, mc, ms⟩ := D
  obtain ⟨hx, hb, hnl, -⟩ := C
  intro H locs lsA hR hL
  have kk := kk H locs lsA hR hL
  refine lv_iadd hx hb hd  ?_
  rw [← Int32.ofInt_add]; exact kk
theorem s_isub {X : sx_T} {E : sv_E} {D : sd_T} {Q : State → Prop} {u w pc : Nat} {ls : List (Option sv_V)} {st : List sv_V} {σ : sv_G} {x y : Int} (C : sx_ok X E D) (hd : decode D.2.1 pc = .ok (.isub, 1))  (kk : SW X E Q u w (pc + 1) ls (vI (x - y) :: st) σ) : SW X E Q u w pc ls (vI y :: vI x :: st) σ := by
  obtain ⟨p, l, e, R, s, m, args, below, meth, c⟩ := X
  obtain ⟨own, cc, nL, rt, tb, k, mc, ms⟩ := D
  obtain ⟨hx, hb, hnl, -⟩ := C
  intro H locs lsA hR hL
  have kk := kk H locs lsA hR hL
  refine lv_isub hx hb hd  ?_
  rw [← Int32.ofInt_sub]; exact kk
theorem s_imul {X : sx_T} {E : sv_E} {D : sd_T} {Q : State → Prop} {u w pc : Nat} {ls : List (Option sv_V)} {st : List sv_V} {σ : sv_G} {x y : Int} (C : sx_ok X E D) (hd : decode D.2.1 pc = .ok (.imul, 1))  (kk : SW X E Q u w (pc + 1) ls (vI (x * y) :: st) σ) : SW X E Q u w pc ls (vI y :: vI x :: st) σ := by
  obtain ⟨p, l, e, R, s, m, args, below, meth, c⟩ := X
  obtain ⟨own, cc, nL, rt, tb, k, mc, ms⟩ := D
  obtain ⟨hx, hb, hnl, -⟩ := C
  intro H locs lsA hR hL
  have kk := kk H locs lsA hR hL
  refine lv_imul hx hb hd  ?_
  rw [← Int32.ofInt_mul]; exact kk
theorem s_ladd {X : sx_T} {E : sv_E} {D : sd_T} {Q : State → Prop} {u w pc : Nat} {ls : List (Option sv_V)} {st : List sv_V} {σ : sv_G} {x y : Int} (C : sx_ok X E D) (hd : decode D.2.1 pc = .ok (.ladd, 1))  (kk : SW X E Q u w (pc + 1) ls (vL (x + y) :: st) σ) : SW X E Q u w pc ls (vL y :: vL x :: st) σ := by
  obtain ⟨p, l, e, R, s, m, args, below, meth, c⟩ := X
  obtain ⟨own, cc, nL, rt, tb, k, mc, ms⟩ := D
  obtain ⟨hx, hb, hnl, -⟩ := C
  intro H locs lsA hR hL
  have kk := kk H locs lsA hR hL
  refine lv_ladd hx hb hd  ?_
  rw [← Int64.ofInt_add]; exact kk
theorem s_lsub {X : sx_T} {E : sv_E} {D : sd_T} {Q : State → Prop} {u w pc : Nat} {ls : List (Option sv_V)} {st : List sv_V} {σ : sv_G} {x y : Int} (C : sx_ok X E D) (hd : decode D.2.1 pc = .ok (.lsub, 1))  (kk : SW X E Q u w (pc + 1) ls (vL (x - y) :: st) σ) : SW X E Q u w pc ls (vL y :: vL x :: st) σ := by
  obtain ⟨p, l, e, R, s, m, args, below, meth, c⟩ := X
  obtain ⟨own, cc, nL, rt, tb, k, mc, ms⟩ := D
  obtain ⟨hx, hb, hnl, -⟩ := C
  intro H locs lsA hR hL
  have kk := kk H locs lsA hR hL
  refine lv_lsub hx hb hd  ?_
  rw [← Int64.ofInt_sub]; exact kk
theorem s_lmul {X : sx_T} {E : sv_E} {D : sd_T} {Q : State → Prop} {u w pc : Nat} {ls : List (Option sv_V)} {st : List sv_V} {σ : sv_G} {x y : Int} (C : sx_ok X E D) (hd : decode D.2.1 pc = .ok (.lmul, 1))  (kk : SW X E Q u w (pc + 1) ls (vL (x * y) :: st) σ) : SW X E Q u w pc ls (vL y :: vL x :: st) σ := by
  obtain ⟨p, l, e, R, s, m, args, below, meth, c⟩ := X
  obtain ⟨own, cc, nL, rt, tb, k, mc, ms⟩ := D
  obtain ⟨hx, hb, hnl, -⟩ := C
  intro H locs lsA hR hL
  have kk := kk H locs lsA hR hL
  refine lv_lmul hx hb hd  ?_
  rw [← Int64.ofInt_mul]; exact kk
theorem s_idiv {X : sx_T} {E : sv_E} {D : sd_T} {Q : State → Prop} {u w pc : Nat} {ls : List (Option sv_V)} {st : List sv_V} {σ : sv_G} {x y : Int} (C : sx_ok X E D) (hd : decode D.2.1 pc = .ok (.idiv, 1)) (hx9 : 0 ≤ x ∧ x ≤ 2147483647) (hy9 : 0 < y ∧ y ≤ 2147483647) (kk : SW X E Q u w (pc + 1) ls (vI (x / y) :: st) σ) : SW X E Q u w pc ls (vI y :: vI x :: st) σ := by
  obtain ⟨p, l, e, R, s, m, args, below, meth, c⟩ := X
  obtain ⟨own, cc, nL, rt, tb, k, mc, ms⟩ := D
  obtain ⟨hx, hb, hnl, -⟩ := C
  intro H locs lsA hR hL
  have kk := kk H locs lsA hR hL
  refine lv_idiv hx hb hd (sn_ne0 hy9) ?_
  rw [sn_div hx9 hy9]; exact kk
theorem s_irem {X : sx_T} {E : sv_E} {D : sd_T} {Q : State → Prop} {u w pc : Nat} {ls : List (Option sv_V)} {st : List sv_V} {σ : sv_G} {x y : Int} (C : sx_ok X E D) (hd : decode D.2.1 pc = .ok (.irem, 1)) (hx9 : 0 ≤ x ∧ x ≤ 2147483647) (hy9 : 0 < y ∧ y ≤ 2147483647) (kk : SW X E Q u w (pc + 1) ls (vI (x % y) :: st) σ) : SW X E Q u w pc ls (vI y :: vI x :: st) σ := by
  obtain ⟨p, l, e, R, s, m, args, below, meth, c⟩ := X
  obtain ⟨own, cc, nL, rt, tb, k, mc, ms⟩ := D
  obtain ⟨hx, hb, hnl, -⟩ := C
  intro H locs lsA hR hL
  have kk := kk H locs lsA hR hL
  refine lv_irem hx hb hd (sn_ne0 hy9) ?_
  rw [sn_rem hx9 hy9]; exact kk
theorem s_ldiv {X : sx_T} {E : sv_E} {D : sd_T} {Q : State → Prop} {u w pc : Nat} {ls : List (Option sv_V)} {st : List sv_V} {σ : sv_G} {x y : Int} (C : sx_ok X E D) (hd : decode D.2.1 pc = .ok (.ldiv, 1)) (hx9 : -9223372036854775808 ≤ x ∧ x ≤ 9223372036854775807) (hy9 : 0 < y ∧ y ≤ 9223372036854775807) (kk : SW X E Q u w (pc + 1) ls (vL (x.tdiv y) :: st) σ) : SW X E Q u w pc ls (vL y :: vL x :: st) σ := by
  obtain ⟨p, l, e, R, s, m, args, below, meth, c⟩ := X
  obtain ⟨own, cc, nL, rt, tb, k, mc, ms⟩ := D
  obtain ⟨hx, hb, hnl, -⟩ := C
  intro H locs lsA hR hL
  have kk := kk H locs lsA hR hL
  refine lv_ldiv hx hb hd (sn_ne0L hy9) ?_
  rw [sn_divL hx9 hy9]; exact kk
theorem s_lrem {X : sx_T} {E : sv_E} {D : sd_T} {Q : State → Prop} {u w pc : Nat} {ls : List (Option sv_V)} {st : List sv_V} {σ : sv_G} {x y : Int} (C : sx_ok X E D) (hd : decode D.2.1 pc = .ok (.lrem, 1)) (hx9 : -9223372036854775808 ≤ x ∧ x ≤ 9223372036854775807) (hy9 : 0 < y ∧ y ≤ 9223372036854775807) (kk : SW X E Q u w (pc + 1) ls (vL (x.tmod y) :: st) σ) : SW X E Q u w pc ls (vL y :: vL x :: st) σ := by
  obtain ⟨p, l, e, R, s, m, args, below, meth, c⟩ := X
  obtain ⟨own, cc, nL, rt, tb, k, mc, ms⟩ := D
  obtain ⟨hx, hb, hnl, -⟩ := C
  intro H locs lsA hR hL
  have kk := kk H locs lsA hR hL
  refine lv_lrem hx hb hd (sn_ne0L hy9) ?_
  rw [sn_remL hx9 hy9]; exact kk
theorem s_iand {X : sx_T} {E : sv_E} {D : sd_T} {Q : State → Prop} {u w pc : Nat} {ls : List (Option sv_V)} {st : List sv_V} {σ : sv_G} {x y : Int} (C : sx_ok X E D) (hd : decode D.2.1 pc = .ok (.iand, 1))  (kk : SW X E Q u w (pc + 1) ls (vI (landI x y) :: st) σ) : SW X E Q u w pc ls (vI y :: vI x :: st) σ := by
  obtain ⟨p, l, e, R, s, m, args, below, meth, c⟩ := X
  obtain ⟨own, cc, nL, rt, tb, k, mc, ms⟩ := D
  obtain ⟨hx, hb, hnl, -⟩ := C
  intro H locs lsA hR hL
  have kk := kk H locs lsA hR hL
  refine lv_iand hx hb hd  ?_
  unfold landI at kk; simp only [List.map_cons] at kk; rw [show cv E (vI (Int32.ofInt x &&& Int32.ofInt y).toInt) = Value.int (Int32.ofInt x &&& Int32.ofInt y) from congrArg Value.int (Int32.ofInt_toInt _)] at kk; exact kk
theorem s_land {X : sx_T} {E : sv_E} {D : sd_T} {Q : State → Prop} {u w pc : Nat} {ls : List (Option sv_V)} {st : List sv_V} {σ : sv_G} {x y : Int} (C : sx_ok X E D) (hd : decode D.2.1 pc = .ok (.land, 1))  (kk : SW X E Q u w (pc + 1) ls (vL (landL x y) :: st) σ) : SW X E Q u w pc ls (vL y :: vL x :: st) σ := by
  obtain ⟨p, l, e, R, s, m, args, below, meth, c⟩ := X
  obtain ⟨own, cc, nL, rt, tb, k, mc, ms⟩ := D
  obtain ⟨hx, hb, hnl, -⟩ := C
  intro H locs lsA hR hL
  have kk := kk H locs lsA hR hL
  refine lv_land hx hb hd  ?_
  unfold landL at kk; simp only [List.map_cons] at kk; rw [show cv E (vL (Int64.ofInt x &&& Int64.ofInt y).toInt) = Value.long (Int64.ofInt x &&& Int64.ofInt y) from congrArg Value.long (Int64.ofInt_toInt _)] at kk; exact kk
theorem s_lor {X : sx_T} {E : sv_E} {D : sd_T} {Q : State → Prop} {u w pc : Nat} {ls : List (Option sv_V)} {st : List sv_V} {σ : sv_G} {x y : Int} (C : sx_ok X E D) (hd : decode D.2.1 pc = .ok (.lor, 1))  (kk : SW X E Q u w (pc + 1) ls (vL (lorL x y) :: st) σ) : SW X E Q u w pc ls (vL y :: vL x :: st) σ := by
  obtain ⟨p, l, e, R, s, m, args, below, meth, c⟩ := X
  obtain ⟨own, cc, nL, rt, tb, k, mc, ms⟩ := D
  obtain ⟨hx, hb, hnl, -⟩ := C
  intro H locs lsA hR hL
  have kk := kk H locs lsA hR hL
  refine lv_lor hx hb hd  ?_
  unfold lorL at kk; simp only [List.map_cons] at kk; rw [show cv E (vL (Int64.ofInt x ||| Int64.ofInt y).toInt) = Value.long (Int64.ofInt x ||| Int64.ofInt y) from congrArg Value.long (Int64.ofInt_toInt _)] at kk; exact kk
theorem s_lshl {X : sx_T} {E : sv_E} {D : sd_T} {Q : State → Prop} {u w pc : Nat} {ls : List (Option sv_V)} {st : List sv_V} {σ : sv_G} {x y : Int} (C : sx_ok X E D) (hd : decode D.2.1 pc = .ok (.lshl, 1))  (kk : SW X E Q u w (pc + 1) ls (vL (shlL x y) :: st) σ) : SW X E Q u w pc ls (vI y :: vL x :: st) σ := by
  obtain ⟨p, l, e, R, s, m, args, below, meth, c⟩ := X
  obtain ⟨own, cc, nL, rt, tb, k, mc, ms⟩ := D
  obtain ⟨hx, hb, hnl, -⟩ := C
  intro H locs lsA hR hL
  have kk := kk H locs lsA hR hL
  refine lv_lshl hx hb hd (v := Int64.ofInt (shlL x y)) (by unfold shlL; rw [Int64.ofInt_toInt]) ?_
  exact kk
theorem s_lshr {X : sx_T} {E : sv_E} {D : sd_T} {Q : State → Prop} {u w pc : Nat} {ls : List (Option sv_V)} {st : List sv_V} {σ : sv_G} {x y : Int} (C : sx_ok X E D) (hd : decode D.2.1 pc = .ok (.lshr, 1))  (kk : SW X E Q u w (pc + 1) ls (vL (shrL x y) :: st) σ) : SW X E Q u w pc ls (vI y :: vL x :: st) σ := by
  obtain ⟨p, l, e, R, s, m, args, below, meth, c⟩ := X
  obtain ⟨own, cc, nL, rt, tb, k, mc, ms⟩ := D
  obtain ⟨hx, hb, hnl, -⟩ := C
  intro H locs lsA hR hL
  have kk := kk H locs lsA hR hL
  refine lv_lshr hx hb hd (v := Int64.ofInt (shrL x y)) (by unfold shrL; rw [Int64.ofInt_toInt]) ?_
  exact kk
theorem s_i2l {X : sx_T} {E : sv_E} {D : sd_T} {Q : State → Prop} {u w pc : Nat} {ls : List (Option sv_V)} {st : List sv_V} {σ : sv_G} {x : Int} (C : sx_ok X E D) (hd : decode D.2.1 pc = .ok (.i2l, 1)) (hx9 : -2147483648 ≤ x ∧ x ≤ 2147483647) (kk : SW X E Q u w (pc + 1) ls (vL x :: st) σ) : SW X E Q u w pc ls (vI x :: st) σ := by
  obtain ⟨p, l, e, R, s, m, args, below, meth, c⟩ := X
  obtain ⟨own, cc, nL, rt, tb, k, mc, ms⟩ := D
  obtain ⟨hx, hb, hnl, -⟩ := C
  intro H locs lsA hR hL
  have kk := kk H locs lsA hR hL
  refine lv_i2l hx hb hd (sn_i2l hx9) ?_
  exact kk
theorem s_l2i {X : sx_T} {E : sv_E} {D : sd_T} {Q : State → Prop} {u w pc : Nat} {ls : List (Option sv_V)} {st : List sv_V} {σ : sv_G} {x : Int} (C : sx_ok X E D) (hd : decode D.2.1 pc = .ok (.l2i, 1))  (kk : SW X E Q u w (pc + 1) ls (vI x :: st) σ) : SW X E Q u w pc ls (vL x :: st) σ := by
  obtain ⟨p, l, e, R, s, m, args, below, meth, c⟩ := X
  obtain ⟨own, cc, nL, rt, tb, k, mc, ms⟩ := D
  obtain ⟨hx, hb, hnl, -⟩ := C
  intro H locs lsA hR hL
  have kk := kk H locs lsA hR hL
  refine lv_l2i hx hb hd (v := Int32.ofInt x) Int64.toInt32_ofInt ?_
  exact kk
theorem s_lcmp {X : sx_T} {E : sv_E} {D : sd_T} {Q : State → Prop} {u w pc : Nat} {ls : List (Option sv_V)} {st : List sv_V} {σ : sv_G} {x y : Int} (C : sx_ok X E D) (hd : decode D.2.1 pc = .ok (.lcmp, 1)) (hx9 : -9223372036854775808 ≤ x ∧ x ≤ 9223372036854775807) (hy9 : -9223372036854775808 ≤ y ∧ y ≤ 9223372036854775807) (kk : SW X E Q u w (pc + 1) ls (vI (cmpL x y) :: st) σ) : SW X E Q u w pc ls (vL y :: vL x :: st) σ := by
  obtain ⟨p, l, e, R, s, m, args, below, meth, c⟩ := X
  obtain ⟨own, cc, nL, rt, tb, k, mc, ms⟩ := D
  obtain ⟨hx, hb, hnl, -⟩ := C
  intro H locs lsA hR hL
  have kk := kk H locs lsA hR hL
  refine W.lcmp hx hb hd  ?_
  rw [sn_cmp hx9 hy9]; exact kk
theorem s_dup {X : sx_T} {E : sv_E} {D : sd_T} {Q : State → Prop} {u w pc : Nat} {ls : List (Option sv_V)} {st : List sv_V} {σ : sv_G} {v : sv_V} (C : sx_ok X E D) (hd : decode D.2.1 pc = .ok (.dup, 1)) (hv : sv_c1 v = true) (kk : SW X E Q u w (pc + 1) ls (v :: v :: st) σ) : SW X E Q u w pc ls (v :: st) σ := by
  obtain ⟨p, l, e, R, s, m, args, below, meth, c⟩ := X
  obtain ⟨own, cc, nL, rt, tb, k, mc, ms⟩ := D
  obtain ⟨hx, hb, hnl, -⟩ := C
  intro H locs lsA hR hL
  have kk := kk H locs lsA hR hL
  refine lv_dup hx hb hd (sv_c1_cat hv) ?_
  exact kk
theorem s_pop {X : sx_T} {E : sv_E} {D : sd_T} {Q : State → Prop} {u w pc : Nat} {ls : List (Option sv_V)} {st : List sv_V} {σ : sv_G} {v : sv_V} (C : sx_ok X E D) (hd : decode D.2.1 pc = .ok (.pop, 1)) (hv : sv_c1 v = true) (kk : SW X E Q u w (pc + 1) ls (st) σ) : SW X E Q u w pc ls (v :: st) σ := by
  obtain ⟨p, l, e, R, s, m, args, below, meth, c⟩ := X
  obtain ⟨own, cc, nL, rt, tb, k, mc, ms⟩ := D
  obtain ⟨hx, hb, hnl, -⟩ := C
  intro H locs lsA hR hL
  have kk := kk H locs lsA hR hL
  refine lv_pop hx hb hd (sv_c1_cat hv) ?_
  exact kk
theorem s_dup2 {X : sx_T} {E : sv_E} {D : sd_T} {Q : State → Prop} {u w pc : Nat} {ls : List (Option sv_V)} {st : List sv_V} {σ : sv_G} {v v2 : sv_V} (C : sx_ok X E D) (hd : decode D.2.1 pc = .ok (.dup2, 1)) (hv : sv_c1 v = true) (hv2 : sv_c1 v2 = true) (kk : SW X E Q u w (pc + 1) ls (v :: v2 :: v :: v2 :: st) σ) : SW X E Q u w pc ls (v :: v2 :: st) σ := by
  obtain ⟨p, l, e, R, s, m, args, below, meth, c⟩ := X
  obtain ⟨own, cc, nL, rt, tb, k, mc, ms⟩ := D
  obtain ⟨hx, hb, hnl, -⟩ := C
  intro H locs lsA hR hL
  have kk := kk H locs lsA hR hL
  refine lv_dup2_11 hx hb hd (sv_c1_cat hv) (sv_c1_cat hv2) ?_
  exact kk
theorem s_dup2L {X : sx_T} {E : sv_E} {D : sd_T} {Q : State → Prop} {u w pc : Nat} {ls : List (Option sv_V)} {st : List sv_V} {σ : sv_G} {x : Int} (C : sx_ok X E D) (hd : decode D.2.1 pc = .ok (.dup2, 1))  (kk : SW X E Q u w (pc + 1) ls (vL x :: vL x :: st) σ) : SW X E Q u w pc ls (vL x :: st) σ := by
  obtain ⟨p, l, e, R, s, m, args, below, meth, c⟩ := X
  obtain ⟨own, cc, nL, rt, tb, k, mc, ms⟩ := D
  obtain ⟨hx, hb, hnl, -⟩ := C
  intro H locs lsA hR hL
  have kk := kk H locs lsA hR hL
  refine lv_dup2_2 hx hb hd rfl ?_
  exact kk
theorem s_null {X : sx_T} {E : sv_E} {D : sd_T} {Q : State → Prop} {u w pc : Nat} {ls : List (Option sv_V)} {st : List sv_V} {σ : sv_G}  (C : sx_ok X E D) (hd : decode D.2.1 pc = .ok (.aconst_null, 1))  (kk : SW X E Q u w (pc + 1) ls (vN :: st) σ) : SW X E Q u w pc ls (st) σ := by
  obtain ⟨p, l, e, R, s, m, args, below, meth, c⟩ := X
  obtain ⟨own, cc, nL, rt, tb, k, mc, ms⟩ := D
  obtain ⟨hx, hb, hnl, -⟩ := C
  intro H locs lsA hR hL
  have kk := kk H locs lsA hR hL
  refine lv_null hx hb hd  ?_
  exact kk
theorem s_topI {X : sx_T} {E : sv_E} {D : sd_T} {Q : State → Prop} {u w pc : Nat} {ls : List (Option sv_V)} {st : List sv_V} {σ : sv_G} {x : Int} (kk : ∀ y : Int, y = x → SW X E Q u w pc ls (vI y :: st) σ) : SW X E Q u w pc ls (vI x :: st) σ := kk x rfl
theorem s_topL {X : sx_T} {E : sv_E} {D : sd_T} {Q : State → Prop} {u w pc : Nat} {ls : List (Option sv_V)} {st : List sv_V} {σ : sv_G} {x : Int} (kk : ∀ y : Int, y = x → SW X E Q u w pc ls (vL y :: st) σ) : SW X E Q u w pc ls (vL x :: st) σ := kk x rfl
theorem s_asI {X : sx_T} {E : sv_E} {D : sd_T} {Q : State → Prop} {u w pc : Nat} {ls : List (Option sv_V)} {st : List sv_V} {σ : sv_G} {x y : Int} (h : Int32.ofInt x = Int32.ofInt y) (kk : SW X E Q u w pc ls (vI y :: st) σ) : SW X E Q u w pc ls (vI x :: st) σ := by
  obtain ⟨p, l, e, R, s, m, args, below, meth, c⟩ := X
  intro H locs lsA hR hL
  have kk := kk H locs lsA hR hL
  simp only [List.map_cons, cv] at kk ⊢
  rw [h]
  exact kk
theorem s_asL {X : sx_T} {E : sv_E} {D : sd_T} {Q : State → Prop} {u w pc : Nat} {ls : List (Option sv_V)} {st : List sv_V} {σ : sv_G} {x y : Int} (h : Int64.ofInt x = Int64.ofInt y) (kk : SW X E Q u w pc ls (vL y :: st) σ) : SW X E Q u w pc ls (vL x :: st) σ := by
  obtain ⟨p, l, e, R, s, m, args, below, meth, c⟩ := X
  intro H locs lsA hR hL
  have kk := kk H locs lsA hR hL
  simp only [List.map_cons, cv] at kk ⊢
  rw [h]
  exact kk
theorem s_icmp_eq {X : sx_T} {E : sv_E} {D : sd_T} {Q : State → Prop} {u w pc : Nat} {ls : List (Option sv_V)} {st : List sv_V} {σ : sv_G} {x y : Int} {off : Int} {tgt : Nat} (C : sx_ok X E D) (hd : decode D.2.1 pc = .ok (.if_icmp .eq off, 3)) (ht : (pc : Int) + off = (tgt : Int)) (hx9 : -2147483648 ≤ x ∧ x ≤ 2147483647) (hy9 : -2147483648 ≤ y ∧ y ≤ 2147483647) (kt : x = y → SW X E Q u w tgt ls st σ) (kf : ¬ (x = y) → SW X E Q u w (pc + 3) ls st σ) : SW X E Q u w pc ls (vI y :: vI x :: st) σ := by
  obtain ⟨p, l, e, R, s, m, args, below, meth, c⟩ := X
  obtain ⟨own, cc, nL, rt, tb, k, mc, ms⟩ := D
  obtain ⟨hx, hb, hnl, -⟩ := C
  intro H locs lsA hR hL
  have hq := sn_eq hx9 hy9
  refine lv_icmp_eq hx hb hd ht (fun h => kt ?_ H locs lsA hR hL) (fun h => kf ?_ H locs lsA hR hL)
  · exact hq.mp h
  · exact fun z => h (hq.mpr z)
theorem s_if_eq {X : sx_T} {E : sv_E} {D : sd_T} {Q : State → Prop} {u w pc : Nat} {ls : List (Option sv_V)} {st : List sv_V} {σ : sv_G} {x : Int} {off : Int} {tgt : Nat} (C : sx_ok X E D) (hd : decode D.2.1 pc = .ok (.ifCond .eq off, 3)) (ht : (pc : Int) + off = (tgt : Int)) (hx9 : -2147483648 ≤ x ∧ x ≤ 2147483647)  (kt : x = 0 → SW X E Q u w tgt ls st σ) (kf : ¬ (x = 0) → SW X E Q u w (pc + 3) ls st σ) : SW X E Q u w pc ls (vI x :: st) σ := by
  obtain ⟨p, l, e, R, s, m, args, below, meth, c⟩ := X
  obtain ⟨own, cc, nL, rt, tb, k, mc, ms⟩ := D
  obtain ⟨hx, hb, hnl, -⟩ := C
  intro H locs lsA hR hL
  have hq := sn_eq hx9 (show (-2147483648 : Int) ≤ 0 ∧ (0 : Int) ≤ 2147483647 by decide)
  refine lv_if_eq hx hb hd ht (fun h => kt ?_ H locs lsA hR hL) (fun h => kf ?_ H locs lsA hR hL)
  · exact hq.mp h
  · exact fun z => h (hq.mpr z)
theorem s_icmp_ne {X : sx_T} {E : sv_E} {D : sd_T} {Q : State → Prop} {u w pc : Nat} {ls : List (Option sv_V)} {st : List sv_V} {σ : sv_G} {x y : Int} {off : Int} {tgt : Nat} (C : sx_ok X E D) (hd : decode D.2.1 pc = .ok (.if_icmp .ne off, 3)) (ht : (pc : Int) + off = (tgt : Int)) (hx9 : -2147483648 ≤ x ∧ x ≤ 2147483647) (hy9 : -2147483648 ≤ y ∧ y ≤ 2147483647) (kt : x ≠ y → SW X E Q u w tgt ls st σ) (kf : x = y → SW X E Q u w (pc + 3) ls st σ) : SW X E Q u w pc ls (vI y :: vI x :: st) σ := by
  obtain ⟨p, l, e, R, s, m, args, below, meth, c⟩ := X
  obtain ⟨own, cc, nL, rt, tb, k, mc, ms⟩ := D
  obtain ⟨hx, hb, hnl, -⟩ := C
  intro H locs lsA hR hL
  have hq := sn_eq hx9 hy9
  refine lv_icmp_ne hx hb hd ht (fun h => kt ?_ H locs lsA hR hL) (fun h => kf ?_ H locs lsA hR hL)
  · exact fun z => h (hq.mpr z)
  · exact hq.mp h
theorem s_if_ne {X : sx_T} {E : sv_E} {D : sd_T} {Q : State → Prop} {u w pc : Nat} {ls : List (Option sv_V)} {st : List sv_V} {σ : sv_G} {x : Int} {off : Int} {tgt : Nat} (C : sx_ok X E D) (hd : decode D.2.1 pc = .ok (.ifCond .ne off, 3)) (ht : (pc : Int) + off = (tgt : Int)) (hx9 : -2147483648 ≤ x ∧ x ≤ 2147483647)  (kt : x ≠ 0 → SW X E Q u w tgt ls st σ) (kf : x = 0 → SW X E Q u w (pc + 3) ls st σ) : SW X E Q u w pc ls (vI x :: st) σ := by
  obtain ⟨p, l, e, R, s, m, args, below, meth, c⟩ := X
  obtain ⟨own, cc, nL, rt, tb, k, mc, ms⟩ := D
  obtain ⟨hx, hb, hnl, -⟩ := C
  intro H locs lsA hR hL
  have hq := sn_eq hx9 (show (-2147483648 : Int) ≤ 0 ∧ (0 : Int) ≤ 2147483647 by decide)
  refine lv_if_ne hx hb hd ht (fun h => kt ?_ H locs lsA hR hL) (fun h => kf ?_ H locs lsA hR hL)
  · exact fun z => h (hq.mpr z)
  · exact hq.mp h
theorem s_icmp_lt {X : sx_T} {E : sv_E} {D : sd_T} {Q : State → Prop} {u w pc : Nat} {ls : List (Option sv_V)} {st : List sv_V} {σ : sv_G} {x y : Int} {off : Int} {tgt : Nat} (C : sx_ok X E D) (hd : decode D.2.1 pc = .ok (.if_icmp .lt off, 3)) (ht : (pc : Int) + off = (tgt : Int)) (hx9 : -2147483648 ≤ x ∧ x ≤ 2147483647) (hy9 : -2147483648 ≤ y ∧ y ≤ 2147483647) (kt : x < y → SW X E Q u w tgt ls st σ) (kf : ¬ (x < y) → SW X E Q u w (pc + 3) ls st σ) : SW X E Q u w pc ls (vI y :: vI x :: st) σ := by
  obtain ⟨p, l, e, R, s, m, args, below, meth, c⟩ := X
  obtain ⟨own, cc, nL, rt, tb, k, mc, ms⟩ := D
  obtain ⟨hx, hb, hnl, -⟩ := C
  intro H locs lsA hR hL
  have hq := sn_lt hx9 hy9
  refine lv_icmp_lt hx hb hd ht (fun h => kt ?_ H locs lsA hR hL) (fun h => kf ?_ H locs lsA hR hL)
  · exact hq.mp h
  · exact fun z => h (hq.mpr z)
theorem s_if_lt {X : sx_T} {E : sv_E} {D : sd_T} {Q : State → Prop} {u w pc : Nat} {ls : List (Option sv_V)} {st : List sv_V} {σ : sv_G} {x : Int} {off : Int} {tgt : Nat} (C : sx_ok X E D) (hd : decode D.2.1 pc = .ok (.ifCond .lt off, 3)) (ht : (pc : Int) + off = (tgt : Int)) (hx9 : -2147483648 ≤ x ∧ x ≤ 2147483647)  (kt : x < 0 → SW X E Q u w tgt ls st σ) (kf : ¬ (x < 0) → SW X E Q u w (pc + 3) ls st σ) : SW X E Q u w pc ls (vI x :: st) σ := by
  obtain ⟨p, l, e, R, s, m, args, below, meth, c⟩ := X
  obtain ⟨own, cc, nL, rt, tb, k, mc, ms⟩ := D
  obtain ⟨hx, hb, hnl, -⟩ := C
  intro H locs lsA hR hL
  have hq := sn_lt hx9 (show (-2147483648 : Int) ≤ 0 ∧ (0 : Int) ≤ 2147483647 by decide)
  refine lv_if_lt hx hb hd ht (fun h => kt ?_ H locs lsA hR hL) (fun h => kf ?_ H locs lsA hR hL)
  · exact hq.mp h
  · exact fun z => h (hq.mpr z)
theorem s_icmp_ge {X : sx_T} {E : sv_E} {D : sd_T} {Q : State → Prop} {u w pc : Nat} {ls : List (Option sv_V)} {st : List sv_V} {σ : sv_G} {x y : Int} {off : Int} {tgt : Nat} (C : sx_ok X E D) (hd : decode D.2.1 pc = .ok (.if_icmp .ge off, 3)) (ht : (pc : Int) + off = (tgt : Int)) (hx9 : -2147483648 ≤ x ∧ x ≤ 2147483647) (hy9 : -2147483648 ≤ y ∧ y ≤ 2147483647) (kt : y ≤ x → SW X E Q u w tgt ls st σ) (kf : ¬ (y ≤ x) → SW X E Q u w (pc + 3) ls st σ) : SW X E Q u w pc ls (vI y :: vI x :: st) σ := by
  obtain ⟨p, l, e, R, s, m, args, below, meth, c⟩ := X
  obtain ⟨own, cc, nL, rt, tb, k, mc, ms⟩ := D
  obtain ⟨hx, hb, hnl, -⟩ := C
  intro H locs lsA hR hL
  have hq := sn_le hy9 hx9
  refine lv_icmp_ge hx hb hd ht (fun h => kt ?_ H locs lsA hR hL) (fun h => kf ?_ H locs lsA hR hL)
  · exact hq.mp h
  · exact fun z => h (hq.mpr z)
theorem s_if_ge {X : sx_T} {E : sv_E} {D : sd_T} {Q : State → Prop} {u w pc : Nat} {ls : List (Option sv_V)} {st : List sv_V} {σ : sv_G} {x : Int} {off : Int} {tgt : Nat} (C : sx_ok X E D) (hd : decode D.2.1 pc = .ok (.ifCond .ge off, 3)) (ht : (pc : Int) + off = (tgt : Int)) (hx9 : -2147483648 ≤ x ∧ x ≤ 2147483647)  (kt : 0 ≤ x → SW X E Q u w tgt ls st σ) (kf : ¬ (0 ≤ x) → SW X E Q u w (pc + 3) ls st σ) : SW X E Q u w pc ls (vI x :: st) σ := by
  obtain ⟨p, l, e, R, s, m, args, below, meth, c⟩ := X
  obtain ⟨own, cc, nL, rt, tb, k, mc, ms⟩ := D
  obtain ⟨hx, hb, hnl, -⟩ := C
  intro H locs lsA hR hL
  have hq := sn_le (show (-2147483648 : Int) ≤ 0 ∧ (0 : Int) ≤ 2147483647 by decide) hx9
  refine lv_if_ge hx hb hd ht (fun h => kt ?_ H locs lsA hR hL) (fun h => kf ?_ H locs lsA hR hL)
  · exact hq.mp h
  · exact fun z => h (hq.mpr z)
theorem s_icmp_gt {X : sx_T} {E : sv_E} {D : sd_T} {Q : State → Prop} {u w pc : Nat} {ls : List (Option sv_V)} {st : List sv_V} {σ : sv_G} {x y : Int} {off : Int} {tgt : Nat} (C : sx_ok X E D) (hd : decode D.2.1 pc = .ok (.if_icmp .gt off, 3)) (ht : (pc : Int) + off = (tgt : Int)) (hx9 : -2147483648 ≤ x ∧ x ≤ 2147483647) (hy9 : -2147483648 ≤ y ∧ y ≤ 2147483647) (kt : y < x → SW X E Q u w tgt ls st σ) (kf : ¬ (y < x) → SW X E Q u w (pc + 3) ls st σ) : SW X E Q u w pc ls (vI y :: vI x :: st) σ := by
  obtain ⟨p, l, e, R, s, m, args, below, meth, c⟩ := X
  obtain ⟨own, cc, nL, rt, tb, k, mc, ms⟩ := D
  obtain ⟨hx, hb, hnl, -⟩ := C
  intro H locs lsA hR hL
  have hq := sn_lt hy9 hx9
  refine lv_icmp_gt hx hb hd ht (fun h => kt ?_ H locs lsA hR hL) (fun h => kf ?_ H locs lsA hR hL)
  · exact hq.mp h
  · exact fun z => h (hq.mpr z)
theorem s_if_gt {X : sx_T} {E : sv_E} {D : sd_T} {Q : State → Prop} {u w pc : Nat} {ls : List (Option sv_V)} {st : List sv_V} {σ : sv_G} {x : Int} {off : Int} {tgt : Nat} (C : sx_ok X E D) (hd : decode D.2.1 pc = .ok (.ifCond .gt off, 3)) (ht : (pc : Int) + off = (tgt : Int)) (hx9 : -2147483648 ≤ x ∧ x ≤ 2147483647)  (kt : 0 < x → SW X E Q u w tgt ls st σ) (kf : ¬ (0 < x) → SW X E Q u w (pc + 3) ls st σ) : SW X E Q u w pc ls (vI x :: st) σ := by
  obtain ⟨p, l, e, R, s, m, args, below, meth, c⟩ := X
  obtain ⟨own, cc, nL, rt, tb, k, mc, ms⟩ := D
  obtain ⟨hx, hb, hnl, -⟩ := C
  intro H locs lsA hR hL
  have hq := sn_lt (show (-2147483648 : Int) ≤ 0 ∧ (0 : Int) ≤ 2147483647 by decide) hx9
  refine lv_if_gt hx hb hd ht (fun h => kt ?_ H locs lsA hR hL) (fun h => kf ?_ H locs lsA hR hL)
  · exact hq.mp h
  · exact fun z => h (hq.mpr z)
theorem s_icmp_le {X : sx_T} {E : sv_E} {D : sd_T} {Q : State → Prop} {u w pc : Nat} {ls : List (Option sv_V)} {st : List sv_V} {σ : sv_G} {x y : Int} {off : Int} {tgt : Nat} (C : sx_ok X E D) (hd : decode D.2.1 pc = .ok (.if_icmp .le off, 3)) (ht : (pc : Int) + off = (tgt : Int)) (hx9 : -2147483648 ≤ x ∧ x ≤ 2147483647) (hy9 : -2147483648 ≤ y ∧ y ≤ 2147483647) (kt : x ≤ y → SW X E Q u w tgt ls st σ) (kf : ¬ (x ≤ y) → SW X E Q u w (pc + 3) ls st σ) : SW X E Q u w pc ls (vI y :: vI x :: st) σ := by
  obtain ⟨p, l, e, R, s, m, args, below, meth, c⟩ := X
  obtain ⟨own, cc, nL, rt, tb, k, mc, ms⟩ := D
  obtain ⟨hx, hb, hnl, -⟩ := C
  intro H locs lsA hR hL
  have hq := sn_le hx9 hy9
  refine lv_icmp_le hx hb hd ht (fun h => kt ?_ H locs lsA hR hL) (fun h => kf ?_ H locs lsA hR hL)
  · exact hq.mp h
  · exact fun z => h (hq.mpr z)
theorem s_if_le {X : sx_T} {E : sv_E} {D : sd_T} {Q : State → Prop} {u w pc : Nat} {ls : List (Option sv_V)} {st : List sv_V} {σ : sv_G} {x : Int} {off : Int} {tgt : Nat} (C : sx_ok X E D) (hd : decode D.2.1 pc = .ok (.ifCond .le off, 3)) (ht : (pc : Int) + off = (tgt : Int)) (hx9 : -2147483648 ≤ x ∧ x ≤ 2147483647)  (kt : x ≤ 0 → SW X E Q u w tgt ls st σ) (kf : ¬ (x ≤ 0) → SW X E Q u w (pc + 3) ls st σ) : SW X E Q u w pc ls (vI x :: st) σ := by
  obtain ⟨p, l, e, R, s, m, args, below, meth, c⟩ := X
  obtain ⟨own, cc, nL, rt, tb, k, mc, ms⟩ := D
  obtain ⟨hx, hb, hnl, -⟩ := C
  intro H locs lsA hR hL
  have hq := sn_le hx9 (show (-2147483648 : Int) ≤ 0 ∧ (0 : Int) ≤ 2147483647 by decide)
  refine lv_if_le hx hb hd ht (fun h => kt ?_ H locs lsA hR hL) (fun h => kf ?_ H locs lsA hR hL)
  · exact hq.mp h
  · exact fun z => h (hq.mpr z)
theorem s_goto {X : sx_T} {E : sv_E} {D : sd_T} {Q : State → Prop} {u w pc : Nat} {ls : List (Option sv_V)} {st : List sv_V} {σ : sv_G} {off : Int} {tgt : Nat} (C : sx_ok X E D) (hd : decode D.2.1 pc = .ok (.goto off, 3)) (ht : (pc : Int) + off = (tgt : Int)) (kk : SW X E Q u w tgt ls st σ) : SW X E Q u w pc ls st σ := by
  obtain ⟨p, l, e, R, s, m, args, below, meth, c⟩ := X
  obtain ⟨own, cc, nL, rt, tb, k, mc, ms⟩ := D
  obtain ⟨hx, hb, hnl, -⟩ := C
  intro H locs lsA hR hL
  exact lv_goto hx hb hd ht (kk H locs lsA hR hL)
theorem s_ifnull {X : sx_T} {E : sv_E} {D : sd_T} {Q : State → Prop} {u w pc : Nat} {ls : List (Option sv_V)} {st : List sv_V} {σ : sv_G} {a : Nat} {off : Int} (C : sx_ok X E D) (hd : decode D.2.1 pc = .ok (.ifnull off, 3)) (kk : SW X E Q u w (pc + 3) ls st σ) : SW X E Q u w pc ls (vR a :: st) σ := by
  obtain ⟨p, l, e, R, s, m, args, below, meth, c⟩ := X
  obtain ⟨own, cc, nL, rt, tb, k, mc, ms⟩ := D
  obtain ⟨hx, hb, hnl, -⟩ := C
  intro H locs lsA hR hL
  exact lv_ifnull hx hb hd (kk H locs lsA hR hL)
theorem s_ifnullN {X : sx_T} {E : sv_E} {D : sd_T} {Q : State → Prop} {u w pc : Nat} {ls : List (Option sv_V)} {st : List sv_V} {σ : sv_G} {off : Int} {tgt : Nat} (C : sx_ok X E D) (hd : decode D.2.1 pc = .ok (.ifnull off, 3)) (ht : (pc : Int) + off = (tgt : Int)) (kk : SW X E Q u w tgt ls st σ) : SW X E Q u w pc ls (vN :: st) σ := by
  obtain ⟨p, l, e, R, s, m, args, below, meth, c⟩ := X
  obtain ⟨own, cc, nL, rt, tb, k, mc, ms⟩ := D
  obtain ⟨hx, hb, hnl, -⟩ := C
  intro H locs lsA hR hL
  exact lv_ifnullN hx hb hd ht (kk H locs lsA hR hL)
theorem s_tsIn {X : sx_T} {E : sv_E} {D : sd_T} {Q : State → Prop} {u w pc : Nat} {ls : List (Option sv_V)} {st : List sv_V} {σ : sv_G} {x dflt lo hi off : Int} {offs : Array Int} {len tgt : Nat} (C : sx_ok X E D) (hd : decode D.2.1 pc = .ok (.tableswitch dflt lo hi offs, len)) (hx9 : -2147483648 ≤ x ∧ x ≤ 2147483647) (h1 : ¬ x < lo) (h2 : ¬ hi < x) (ho : offs[(x - lo).toNat]? = some off) (ht : (pc : Int) + off = (tgt : Int)) (kk : SW X E Q u w tgt ls st σ) : SW X E Q u w pc ls (vI x :: st) σ := by
  obtain ⟨p, l, e, R, s, m, args, below, meth, c⟩ := X
  obtain ⟨own, cc, nL, rt, tb, k, mc, ms⟩ := D
  obtain ⟨hx, hb, hnl, -⟩ := C
  intro H locs lsA hR hL
  have hq := sn_ofI hx9
  exact lv_tableIn hx hb hd (by rw [hq]; exact h1) (by rw [hq]; exact h2) (by rw [hq]; exact ho) ht (kk H locs lsA hR hL)
theorem s_tsOut {X : sx_T} {E : sv_E} {D : sd_T} {Q : State → Prop} {u w pc : Nat} {ls : List (Option sv_V)} {st : List sv_V} {σ : sv_G} {x dflt lo hi : Int} {offs : Array Int} {len tgt : Nat} (C : sx_ok X E D) (hd : decode D.2.1 pc = .ok (.tableswitch dflt lo hi offs, len)) (hx9 : -2147483648 ≤ x ∧ x ≤ 2147483647) (h : x < lo ∨ hi < x) (ht : (pc : Int) + dflt = (tgt : Int)) (kk : SW X E Q u w tgt ls st σ) : SW X E Q u w pc ls (vI x :: st) σ := by
  obtain ⟨p, l, e, R, s, m, args, below, meth, c⟩ := X
  obtain ⟨own, cc, nL, rt, tb, k, mc, ms⟩ := D
  obtain ⟨hx, hb, hnl, -⟩ := C
  intro H locs lsA hR hL
  have hq := sn_ofI hx9
  exact lv_tableOut hx hb hd (by rw [hq]; exact h) ht (kk H locs lsA hR hL)
theorem s_ldc2 {X : sx_T} {E : sv_E} {D : sd_T} {Q : State → Prop} {u w pc : Nat} {ls : List (Option sv_V)} {st : List sv_V} {σ : sv_G} {n : Int} {v : Int64} {idx : Nat} (C : sx_ok X E D) (hd : decode D.2.1 pc = .ok (.ldc2_w idx, 3)) (hw : Cond.constantLong D.1 idx v ∈ LW) (hv : v = Int64.ofInt n) (kk : SW X E Q u w (pc + 3) ls (vL n :: st) σ) : SW X E Q u w pc ls st σ := by
  obtain ⟨p, l, e, R, s, m, args, below, meth, c⟩ := X
  obtain ⟨own, cc, nL, rt, tb, k, mc, ms⟩ := D
  obtain ⟨hx, hb, hnl, hown, hts, -⟩ := C
  intro H locs lsA hR hL
  have kk := kk H locs lsA hR hL
  subst hv
  exact lv_ldc2 hx hb hown (hts _ hw) hd kk
end
section
/-! Fields and rows of the cells. -/
theorem ic_0 : ∀ w ∈ u_ws RX0 TX0 3, w ∈ LW := LW_sub [178, 180, 182] (by decide +kernel) (by decide +kernel)
theorem ic_1 : ∀ w ∈ u_ws RX1 TX1 7, w ∈ LW := LW_sub [232, 234, 236, 238, 240, 242, 244] (by decide +kernel) (by decide +kernel)
theorem ic_2 : ∀ w ∈ u_ws RX2 TX2 3, w ∈ LW := LW_sub [155, 157, 159] (by decide +kernel) (by decide +kernel)
theorem ic_3 : ∀ w ∈ u_ws RX3 TX3 4, w ∈ LW := LW_sub [198, 200, 202, 204] (by decide +kernel) (by decide +kernel)
theorem ic_4 : ∀ w ∈ u_ws RX4 TX4 9, w ∈ LW := LW_sub [262, 264, 266, 268, 270, 272, 274, 276, 278] (by decide +kernel) (by decide +kernel)
theorem ic_5 : ∀ w ∈ u_ws RX5 TX5 3, w ∈ LW := LW_sub [135, 137, 139] (by decide +kernel) (by decide +kernel)
theorem ic_6 : ∀ w ∈ u_ws RX6 TX6 2, w ∈ LW := LW_sub [120, 122] (by decide +kernel) (by decide +kernel)
theorem ic_7 : ∀ w ∈ u_ws RX7 TX7 14, w ∈ LW := LW_sub [295, 297, 299, 301, 303, 305, 307, 309, 311, 313, 315, 317, 319, 321] (by decide +kernel) (by decide +kernel)
theorem ic_8 : ∀ w ∈ u_ws RX8 TX8 39, w ∈ LW := LW_sub [955, 957, 959, 961, 963, 965, 967, 969, 971, 973, 975, 977, 979, 981, 983, 985, 987, 989, 991, 993, 995, 997, 999, 1001, 1003, 1005, 1007, 1009, 1011, 1013, 1015, 1017, 1019, 1021, 1023, 1025, 1027, 1029, 1031] (by decide +kernel) (by decide +kernel)
def cl_ok (c : Nat) (C : String) (T : u_T) (N : Nat) : Prop := vwCl[c]? = some (C, T, N) ∧ N = nfd c ∧ c < 9 ∧ (∀ w ∈ u_ws C T N, w ∈ LW) ∧ (∀ a, a < N → ∀ b, b < N → a ≠ b → (T a).2.1 ≠ (T b).2.1) ∧ (∃ ty : Nat → FieldType, (∀ k, k < N → parseFieldDescriptor (T k).2.2.1 = some (ty k)) ∧ ∀ k, k < N → (fkd c k = 0 → ty k = .int) ∧ (fkd c k = 1 → ty k = .long))
theorem cl_0 : cl_ok 0 RX0 TX0 3 := ⟨rfl, by decide +kernel, by decide, ic_0, nmX0, tyX0, tyX0_ok, by decide +kernel⟩
theorem cl_1 : cl_ok 1 RX1 TX1 7 := ⟨rfl, by decide +kernel, by decide, ic_1, nmX1, tyX1, tyX1_ok, by decide +kernel⟩
theorem cl_2 : cl_ok 2 RX2 TX2 3 := ⟨rfl, by decide +kernel, by decide, ic_2, nmX2, tyX2, tyX2_ok, by decide +kernel⟩
theorem cl_3 : cl_ok 3 RX3 TX3 4 := ⟨rfl, by decide +kernel, by decide, ic_3, nmX3, tyX3, tyX3_ok, by decide +kernel⟩
theorem cl_4 : cl_ok 4 RX4 TX4 9 := ⟨rfl, by decide +kernel, by decide, ic_4, nmX4, tyX4, tyX4_ok, by decide +kernel⟩
theorem cl_5 : cl_ok 5 RX5 TX5 3 := ⟨rfl, by decide +kernel, by decide, ic_5, nmX5, tyX5, tyX5_ok, by decide +kernel⟩
theorem cl_6 : cl_ok 6 RX6 TX6 2 := ⟨rfl, by decide +kernel, by decide, ic_6, nmX6, tyX6, tyX6_ok, by decide +kernel⟩
theorem cl_7 : cl_ok 7 RX7 TX7 14 := ⟨rfl, by decide +kernel, by decide, ic_7, nmX7, tyX7, tyX7_ok, by decide +kernel⟩
theorem cl_8 : cl_ok 8 RX8 TX8 39 := ⟨rfl, by decide +kernel, by decide, ic_8, nmX8, tyX8, tyX8_ok, by decide +kernel⟩
/-- entry idx of class own's pool names field k of class c -/
def fl_ok (own : String) (idx c k : Nat) : Prop := ∃ (C : String) (T : u_T) (N : Nat), cl_ok c C T N ∧ k < N ∧ (Cond.fieldLink own idx (T k).1 (T k).2.1 (T k).2.2.1 ∈ LW ∨ ∃ h, Cond.fieldLinkNest own idx (T k).1 (T k).2.1 (T k).2.2.1 h ∈ NW)
theorem fl_A {own : String} {idx c k : Nat} {C : String} {T : u_T} {N : Nat} (i : Nat) (hc : cl_ok c C T N) (hk : k < N) (h : lw_tbl[i]? = some (Cond.fieldLink own idx (T k).1 (T k).2.1 (T k).2.2.1)) : fl_ok own idx c k := ⟨C, T, N, hc, hk, Or.inl (LW_in i h rfl)⟩
theorem fl_N {own : String} {idx c k : Nat} {C : String} {T : u_T} {N : Nat} {hh : String} (i : Nat) (hc : cl_ok c C T N) (hk : k < N) (h : lw_tbl[i]? = some (Cond.fieldLinkNest own idx (T k).1 (T k).2.1 (T k).2.2.1 hh)) : fl_ok own idx c k := ⟨C, T, N, hc, hk, Or.inr ⟨hh, NW_in i h rfl⟩⟩
theorem fl_6_9 : fl_ok RX6 9 6 0 := fl_A 117 cl_6 (by decide) (by decide +kernel)
theorem fl_6_15 : fl_ok RX6 15 6 1 := fl_A 118 cl_6 (by decide) (by decide +kernel)
theorem fl_7_180 : fl_ok RX7 180 6 1 := fl_N (hh := "NumeralBabel") 119 cl_6 (by decide) (by decide +kernel)
theorem fl_5_9 : fl_ok RX5 9 5 0 := fl_A 132 cl_5 (by decide) (by decide +kernel)
theorem fl_5_15 : fl_ok RX5 15 5 1 := fl_A 133 cl_5 (by decide) (by decide +kernel)
theorem fl_5_18 : fl_ok RX5 18 5 2 := fl_A 134 cl_5 (by decide) (by decide +kernel)
theorem fl_2_9 : fl_ok RX2 9 2 0 := fl_A 149 cl_2 (by decide) (by decide +kernel)
theorem fl_7_278 : fl_ok RX7 278 2 0 := fl_N (hh := "NumeralBabel") 150 cl_2 (by decide) (by decide +kernel)
theorem fl_2_15 : fl_ok RX2 15 2 1 := fl_A 151 cl_2 (by decide) (by decide +kernel)
theorem fl_7_285 : fl_ok RX7 285 2 1 := fl_N (hh := "NumeralBabel") 152 cl_2 (by decide) (by decide +kernel)
theorem fl_2_18 : fl_ok RX2 18 2 2 := fl_A 153 cl_2 (by decide) (by decide +kernel)
theorem fl_7_288 : fl_ok RX7 288 2 2 := fl_N (hh := "NumeralBabel") 154 cl_2 (by decide) (by decide +kernel)
theorem fl_0_9 : fl_ok RX0 9 0 0 := fl_A 173 cl_0 (by decide) (by decide +kernel)
theorem fl_0_15 : fl_ok RX0 15 0 1 := fl_A 174 cl_0 (by decide) (by decide +kernel)
theorem fl_0_18 : fl_ok RX0 18 0 2 := fl_A 175 cl_0 (by decide) (by decide +kernel)
theorem fl_4_52 : fl_ok RX4 52 0 2 := fl_N (hh := "NumeralBabel") 176 cl_0 (by decide) (by decide +kernel)
theorem fl_7_167 : fl_ok RX7 167 0 2 := fl_N (hh := "NumeralBabel") 177 cl_0 (by decide) (by decide +kernel)
theorem fl_3_9 : fl_ok RX3 9 3 0 := fl_A 193 cl_3 (by decide) (by decide +kernel)
theorem fl_3_15 : fl_ok RX3 15 3 1 := fl_A 194 cl_3 (by decide) (by decide +kernel)
theorem fl_3_18 : fl_ok RX3 18 3 2 := fl_A 195 cl_3 (by decide) (by decide +kernel)
theorem fl_3_21 : fl_ok RX3 21 3 3 := fl_A 196 cl_3 (by decide) (by decide +kernel)
theorem fl_4_55 : fl_ok RX4 55 3 3 := fl_N (hh := "NumeralBabel") 197 cl_3 (by decide) (by decide +kernel)
theorem fl_1_9 : fl_ok RX1 9 1 0 := fl_A 212 cl_1 (by decide) (by decide +kernel)
theorem fl_4_56 : fl_ok RX4 56 1 0 := fl_N (hh := "NumeralBabel") 213 cl_1 (by decide) (by decide +kernel)
theorem fl_7_258 : fl_ok RX7 258 1 0 := fl_N (hh := "NumeralBabel") 214 cl_1 (by decide) (by decide +kernel)
theorem fl_1_15 : fl_ok RX1 15 1 1 := fl_A 215 cl_1 (by decide) (by decide +kernel)
theorem fl_4_67 : fl_ok RX4 67 1 1 := fl_N (hh := "NumeralBabel") 216 cl_1 (by decide) (by decide +kernel)
theorem fl_7_261 : fl_ok RX7 261 1 1 := fl_N (hh := "NumeralBabel") 217 cl_1 (by decide) (by decide +kernel)
theorem fl_1_18 : fl_ok RX1 18 1 2 := fl_A 218 cl_1 (by decide) (by decide +kernel)
theorem fl_4_134 : fl_ok RX4 134 1 2 := fl_N (hh := "NumeralBabel") 219 cl_1 (by decide) (by decide +kernel)
theorem fl_7_264 : fl_ok RX7 264 1 2 := fl_N (hh := "NumeralBabel") 220 cl_1 (by decide) (by decide +kernel)
theorem fl_1_21 : fl_ok RX1 21 1 3 := fl_A 221 cl_1 (by decide) (by decide +kernel)
theorem fl_7_267 : fl_ok RX7 267 1 3 := fl_N (hh := "NumeralBabel") 222 cl_1 (by decide) (by decide +kernel)
theorem fl_1_24 : fl_ok RX1 24 1 4 := fl_A 223 cl_1 (by decide) (by decide +kernel)
theorem fl_7_130 : fl_ok RX7 130 1 4 := fl_N (hh := "NumeralBabel") 224 cl_1 (by decide) (by decide +kernel)
theorem fl_4_131 : fl_ok RX4 131 1 4 := fl_N (hh := "NumeralBabel") 225 cl_1 (by decide) (by decide +kernel)
theorem fl_1_27 : fl_ok RX1 27 1 5 := fl_A 226 cl_1 (by decide) (by decide +kernel)
theorem fl_7_135 : fl_ok RX7 135 1 5 := fl_N (hh := "NumeralBabel") 227 cl_1 (by decide) (by decide +kernel)
theorem fl_4_122 : fl_ok RX4 122 1 5 := fl_N (hh := "NumeralBabel") 228 cl_1 (by decide) (by decide +kernel)
theorem fl_1_30 : fl_ok RX1 30 1 6 := fl_A 229 cl_1 (by decide) (by decide +kernel)
theorem fl_7_138 : fl_ok RX7 138 1 6 := fl_N (hh := "NumeralBabel") 230 cl_1 (by decide) (by decide +kernel)
theorem fl_4_125 : fl_ok RX4 125 1 6 := fl_N (hh := "NumeralBabel") 231 cl_1 (by decide) (by decide +kernel)
theorem fl_4_12 : fl_ok RX4 12 4 0 := fl_A 247 cl_4 (by decide) (by decide +kernel)
theorem fl_7_74 : fl_ok RX7 74 4 0 := fl_N (hh := "NumeralBabel") 248 cl_4 (by decide) (by decide +kernel)
theorem fl_4_20 : fl_ok RX4 20 4 1 := fl_A 249 cl_4 (by decide) (by decide +kernel)
theorem fl_7_300 : fl_ok RX7 300 4 1 := fl_N (hh := "NumeralBabel") 250 cl_4 (by decide) (by decide +kernel)
theorem fl_4_24 : fl_ok RX4 24 4 2 := fl_A 251 cl_4 (by decide) (by decide +kernel)
theorem fl_7_110 : fl_ok RX7 110 4 2 := fl_N (hh := "NumeralBabel") 252 cl_4 (by decide) (by decide +kernel)
theorem fl_4_31 : fl_ok RX4 31 4 3 := fl_A 253 cl_4 (by decide) (by decide +kernel)
theorem fl_7_141 : fl_ok RX7 141 4 3 := fl_N (hh := "NumeralBabel") 254 cl_4 (by decide) (by decide +kernel)
theorem fl_4_35 : fl_ok RX4 35 4 4 := fl_A 255 cl_4 (by decide) (by decide +kernel)
theorem fl_7_156 : fl_ok RX7 156 4 4 := fl_N (hh := "NumeralBabel") 256 cl_4 (by decide) (by decide +kernel)
theorem fl_4_38 : fl_ok RX4 38 4 5 := fl_A 257 cl_4 (by decide) (by decide +kernel)
theorem fl_4_42 : fl_ok RX4 42 4 6 := fl_A 258 cl_4 (by decide) (by decide +kernel)
theorem fl_4_45 : fl_ok RX4 45 4 7 := fl_A 259 cl_4 (by decide) (by decide +kernel)
theorem fl_4_48 : fl_ok RX4 48 4 8 := fl_A 260 cl_4 (by decide) (by decide +kernel)
theorem fl_7_159 : fl_ok RX7 159 4 8 := fl_N (hh := "NumeralBabel") 261 cl_4 (by decide) (by decide +kernel)
theorem fl_7_11 : fl_ok RX7 11 7 0 := fl_A 281 cl_7 (by decide) (by decide +kernel)
theorem fl_7_18 : fl_ok RX7 18 7 1 := fl_A 282 cl_7 (by decide) (by decide +kernel)
theorem fl_7_22 : fl_ok RX7 22 7 2 := fl_A 283 cl_7 (by decide) (by decide +kernel)
theorem fl_7_25 : fl_ok RX7 25 7 3 := fl_A 284 cl_7 (by decide) (by decide +kernel)
theorem fl_7_28 : fl_ok RX7 28 7 4 := fl_A 285 cl_7 (by decide) (by decide +kernel)
theorem fl_7_31 : fl_ok RX7 31 7 5 := fl_A 286 cl_7 (by decide) (by decide +kernel)
theorem fl_7_35 : fl_ok RX7 35 7 6 := fl_A 287 cl_7 (by decide) (by decide +kernel)
theorem fl_7_41 : fl_ok RX7 41 7 7 := fl_A 288 cl_7 (by decide) (by decide +kernel)
theorem fl_7_45 : fl_ok RX7 45 7 8 := fl_A 289 cl_7 (by decide) (by decide +kernel)
theorem fl_7_48 : fl_ok RX7 48 7 9 := fl_A 290 cl_7 (by decide) (by decide +kernel)
theorem fl_7_52 : fl_ok RX7 52 7 10 := fl_A 291 cl_7 (by decide) (by decide +kernel)
theorem fl_7_56 : fl_ok RX7 56 7 11 := fl_A 292 cl_7 (by decide) (by decide +kernel)
theorem fl_7_59 : fl_ok RX7 59 7 12 := fl_A 293 cl_7 (by decide) (by decide +kernel)
theorem fl_7_65 : fl_ok RX7 65 7 13 := fl_A 294 cl_7 (by decide) (by decide +kernel)
theorem fl_8_7 : fl_ok RX8 7 8 0 := fl_A 916 cl_8 (by decide) (by decide +kernel)
theorem fl_8_13 : fl_ok RX8 13 8 1 := fl_A 917 cl_8 (by decide) (by decide +kernel)
theorem fl_8_16 : fl_ok RX8 16 8 2 := fl_A 918 cl_8 (by decide) (by decide +kernel)
theorem fl_8_19 : fl_ok RX8 19 8 3 := fl_A 919 cl_8 (by decide) (by decide +kernel)
theorem fl_8_22 : fl_ok RX8 22 8 4 := fl_A 920 cl_8 (by decide) (by decide +kernel)
theorem fl_8_25 : fl_ok RX8 25 8 5 := fl_A 921 cl_8 (by decide) (by decide +kernel)
theorem fl_8_28 : fl_ok RX8 28 8 6 := fl_A 922 cl_8 (by decide) (by decide +kernel)
theorem fl_8_31 : fl_ok RX8 31 8 7 := fl_A 923 cl_8 (by decide) (by decide +kernel)
theorem fl_8_34 : fl_ok RX8 34 8 8 := fl_A 924 cl_8 (by decide) (by decide +kernel)
theorem fl_8_37 : fl_ok RX8 37 8 9 := fl_A 925 cl_8 (by decide) (by decide +kernel)
theorem fl_8_40 : fl_ok RX8 40 8 10 := fl_A 926 cl_8 (by decide) (by decide +kernel)
theorem fl_8_43 : fl_ok RX8 43 8 11 := fl_A 927 cl_8 (by decide) (by decide +kernel)
theorem fl_8_46 : fl_ok RX8 46 8 12 := fl_A 928 cl_8 (by decide) (by decide +kernel)
theorem fl_8_49 : fl_ok RX8 49 8 13 := fl_A 929 cl_8 (by decide) (by decide +kernel)
theorem fl_8_52 : fl_ok RX8 52 8 14 := fl_A 930 cl_8 (by decide) (by decide +kernel)
theorem fl_8_55 : fl_ok RX8 55 8 15 := fl_A 931 cl_8 (by decide) (by decide +kernel)
theorem fl_8_58 : fl_ok RX8 58 8 16 := fl_A 932 cl_8 (by decide) (by decide +kernel)
theorem fl_8_61 : fl_ok RX8 61 8 17 := fl_A 933 cl_8 (by decide) (by decide +kernel)
theorem fl_8_64 : fl_ok RX8 64 8 18 := fl_A 934 cl_8 (by decide) (by decide +kernel)
theorem fl_8_67 : fl_ok RX8 67 8 19 := fl_A 935 cl_8 (by decide) (by decide +kernel)
theorem fl_8_158 : fl_ok RX8 158 8 20 := fl_A 936 cl_8 (by decide) (by decide +kernel)
theorem fl_8_70 : fl_ok RX8 70 8 21 := fl_A 937 cl_8 (by decide) (by decide +kernel)
theorem fl_8_181 : fl_ok RX8 181 8 22 := fl_A 938 cl_8 (by decide) (by decide +kernel)
theorem fl_8_73 : fl_ok RX8 73 8 23 := fl_A 939 cl_8 (by decide) (by decide +kernel)
theorem fl_8_142 : fl_ok RX8 142 8 24 := fl_A 940 cl_8 (by decide) (by decide +kernel)
theorem fl_8_76 : fl_ok RX8 76 8 25 := fl_A 941 cl_8 (by decide) (by decide +kernel)
theorem fl_8_197 : fl_ok RX8 197 8 26 := fl_A 942 cl_8 (by decide) (by decide +kernel)
theorem fl_8_79 : fl_ok RX8 79 8 27 := fl_A 943 cl_8 (by decide) (by decide +kernel)
theorem fl_8_220 : fl_ok RX8 220 8 28 := fl_A 944 cl_8 (by decide) (by decide +kernel)
theorem fl_8_82 : fl_ok RX8 82 8 29 := fl_A 945 cl_8 (by decide) (by decide +kernel)
theorem fl_8_85 : fl_ok RX8 85 8 30 := fl_A 946 cl_8 (by decide) (by decide +kernel)
theorem fl_8_88 : fl_ok RX8 88 8 31 := fl_A 947 cl_8 (by decide) (by decide +kernel)
theorem fl_8_91 : fl_ok RX8 91 8 32 := fl_A 948 cl_8 (by decide) (by decide +kernel)
theorem fl_8_94 : fl_ok RX8 94 8 33 := fl_A 949 cl_8 (by decide) (by decide +kernel)
theorem fl_8_97 : fl_ok RX8 97 8 34 := fl_A 950 cl_8 (by decide) (by decide +kernel)
theorem fl_8_100 : fl_ok RX8 100 8 35 := fl_A 951 cl_8 (by decide) (by decide +kernel)
theorem fl_8_248 : fl_ok RX8 248 8 36 := fl_A 952 cl_8 (by decide) (by decide +kernel)
theorem fl_8_106 : fl_ok RX8 106 8 37 := fl_A 953 cl_8 (by decide) (by decide +kernel)
theorem fl_8_103 : fl_ok RX8 103 8 38 := fl_A 954 cl_8 (by decide) (by decide +kernel)
theorem fld_at {E : sv_E} {σ : sv_G} {a c k : Nat} (hk : k < nfd c) : ((List.range (nfd c)).map (fld E σ a c))[k]? = some (fld E σ a c k) := by simp [hk]
theorem up_cel {E : sv_E} {σ : sv_G} {a b : Nat} {k v : Int} (h : b ≠ a) : cel E (up σ a k v) b = cel E σ b := by
  have e : ∀ j, up σ a k v b j = σ b j := fun j => up_a h
  have e1 : ∀ c, fld E (up σ a k v) b c = fld E σ b c := by
    intro c
    funext j
    unfold fld
    rw [e]
  unfold cel
  split <;> simp only [celI, celL, celR, celO, e, e1]
theorem ws_set {E : sv_E} {σ : sv_G} {a : Nat} {k v : Int} (ha : a < 229) : (sv_ws E σ).set a (E.1 + a, cel E (up σ a k v) a) = sv_ws E (up σ a k v) := by
  apply List.ext_getElem?
  intro i
  by_cases q : i = a
  · subst q
    rw [List.getElem?_set_self (by simp [sv_ws, ha]), sv_ws_at ha]
  · rw [List.getElem?_set_ne (Ne.symm q)]
    by_cases q2 : i < 229
    · rw [sv_ws_at q2, sv_ws_at q2, up_cel q]
    · rw [List.getElem?_eq_none (by simp [sv_ws]; omega), List.getElem?_eq_none (by simp [sv_ws]; omega)]
theorem fld_set {E : sv_E} {σ : sv_G} {a c k : Nat} {v : Int} (x : Value) (hk : k < nfd c) (hx : fld E (up σ a k v) a c k = x) : ((List.range (nfd c)).map (fld E σ a c)).set k x = (List.range (nfd c)).map (fld E (up σ a k v) a c) := by
  apply List.ext_getElem?
  intro i
  by_cases q : i = k
  · subst q
    rw [List.getElem?_set_self (by simp [hk])]
    simp [hk, hx]
  · rw [List.getElem?_set_ne (Ne.symm q)]
    by_cases q2 : i < nfd c
    · simp only [List.getElem?_map, List.getElem?_range q2, Option.map_some]
      congr 1
      unfold fld
      rw [up_k (by omega : (i : Int) ≠ (k : Int))]
    · rw [List.getElem?_eq_none (by simp; omega), List.getElem?_eq_none (by simp; omega)]
theorem shp_n {a c n : Nat} (h : shp a = (c, n)) (hc : c < 99) : n ≤ 20000 := by
  have ha := shp_lt h hc
  have hh : ∀ a, a < 229 → (shp a).2 ≤ 20000 := by decide +kernel
  have h2 := hh a ha
  rw [h] at h2
  exact h2
theorem ix_in {i : Int} {n : Nat} (h0 : 0 ≤ i) (h1 : i < (n : Int)) (hn : n ≤ 20000) : vp_in (Int32.ofInt i) n := vp_in_iff.mpr (by rw [sn_ofI (by omega)]; exact ⟨h0, h1⟩)
theorem ix_cl {i : Int} (h0 : 0 ≤ i) (h1 : i ≤ 2147483647) : (((Int32.ofInt i).toNatClampNeg : Nat) : Int) = i := by
  have h3 : ((i.toNat : Nat) : Int) = i := Int.toNat_of_nonneg h0
  have h2 : Int32.ofInt ((i.toNat : Nat) : Int) = nI i.toNat := Int32.ofInt_eq_ofNat
  rw [h3] at h2
  rw [h2, nI_clamp (by omega)]
  omega
theorem SW.withG {X : sx_T} {E : sv_E} {Q : State → Prop} {u w pc : Nat} {ls : List (Option sv_V)} {st : List sv_V} {σ : sv_G} (h : RG σ → SW X E Q u w pc ls st σ) : SW X E Q u w pc ls st σ := by
  obtain ⟨p, l, e, R, s, m, args, below, meth, c⟩ := X
  intro H locs lsA hR hL
  exact h hR.2.2.2 H locs lsA hR hL
theorem s_getX {X : sx_T} {E : sv_E} {D : sd_T} {Q : State → Prop} {u w pc : Nat} {ls : List (Option sv_V)} {st : List sv_V} {σ : sv_G} {idx a c k9 : Nat} {v : sv_V} (C : sx_ok X E D) (hf : fl_ok D.1 idx c k9) (hd : decode D.2.1 pc = .ok (.getfield idx, 3)) (ha : shp a = (c, 0)) (hv : fld E σ a c k9 = cv E v) (kk : SW X E Q u w (pc + 3) ls (v :: st) σ) : SW X E Q u w pc ls (vR a :: st) σ := by
  obtain ⟨p, l, e, R, s, m, args, below, meth, c_⟩ := X
  obtain ⟨own, cc, nL, rt, tb, k, mc, ms⟩ := D
  obtain ⟨hx, hb, hnl, hown, hts, hMW, hK, -⟩ := C
  intro H locs lsA hR hL
  obtain ⟨hP, hD, hS, hG⟩ := hR
  have kk := kk H locs lsA ⟨hP, hD, hS, hG⟩ hL
  obtain ⟨C9, T9, N9, ⟨g1, rfl, g3, g4, -⟩, hk9, hl⟩ := hf
  have hw : (sv_ws E σ)[a]? = some (E.1 + a, .inr (c, (List.range (nfd c)).map (fld E σ a c))) := by rw [sv_ws_at (shp_lt ha (by omega)), cel_O ha (by omega)]; rfl
  have hv9 : ((List.range (nfd c)).map (fld E σ a c))[k9]? = some (cv E v) := by rw [fld_at hk9, hv]
  rcases hl with hl | ⟨h9, hl⟩
  · exact va_get (T := T9) hx hb hts g4 hown hK hP a hw g1 k9 hk9 (hts _ hl) (fun _ h => h) hv9 hd kk
  · exact va_getN (T := T9) hx hb hts g4 hown hK hP a hw g1 k9 hk9 (va_Nw.use rfl (hMW.1 _ hl)) (fun _ h => h) hv9 hd kk
theorem s_getI {X : sx_T} {E : sv_E} {D : sd_T} {Q : State → Prop} {u w pc : Nat} {ls : List (Option sv_V)} {st : List sv_V} {σ : sv_G} {idx a c k9 : Nat} (C : sx_ok X E D) (hf : fl_ok D.1 idx c k9) (hd : decode D.2.1 pc = .ok (.getfield idx, 3)) (ha : shp a = (c, 0)) (hk : fkd c k9 = 0) (kk : (-2147483648 ≤ σ a k9 ∧ σ a k9 ≤ 2147483647) → SW X E Q u w (pc + 3) ls (vI (σ a k9) :: st) σ) : SW X E Q u w pc ls (vR a :: st) σ := by
  have hc : c < 10 := by obtain ⟨_, _, _, ⟨_, _, g3, _⟩, _⟩ := hf; omega
  refine SW.withG fun hG => ?_
  exact s_getX C hf hd ha (v := vI (σ a k9)) (by unfold fld; rw [hk]; rfl) (kk (hG.i (by rw [isLg_O ha hc, hk]; rfl)))
theorem s_getL {X : sx_T} {E : sv_E} {D : sd_T} {Q : State → Prop} {u w pc : Nat} {ls : List (Option sv_V)} {st : List sv_V} {σ : sv_G} {idx a c k9 : Nat} (C : sx_ok X E D) (hf : fl_ok D.1 idx c k9) (hd : decode D.2.1 pc = .ok (.getfield idx, 3)) (ha : shp a = (c, 0)) (hk : fkd c k9 = 1) (kk : (-9223372036854775808 ≤ σ a k9 ∧ σ a k9 ≤ 9223372036854775807) → SW X E Q u w (pc + 3) ls (vL (σ a k9) :: st) σ) : SW X E Q u w pc ls (vR a :: st) σ := by
  refine SW.withG fun hG => ?_
  exact s_getX C hf hd ha (v := vL (σ a k9)) (by unfold fld; rw [hk]; rfl) (kk (hG a k9).2)
theorem s_getR {X : sx_T} {E : sv_E} {D : sd_T} {Q : State → Prop} {u w pc : Nat} {ls : List (Option sv_V)} {st : List sv_V} {σ : sv_G} {idx a c k9 b : Nat} (C : sx_ok X E D) (hf : fl_ok D.1 idx c k9) (hd : decode D.2.1 pc = .ok (.getfield idx, 3)) (ha : shp a = (c, 0)) (hk : fkd c k9 = 2) (hr : rfs a k9 = b) (kk : SW X E Q u w (pc + 3) ls (vR b :: st) σ) : SW X E Q u w pc ls (vR a :: st) σ := by
  subst hr
  exact s_getX C hf hd ha (v := vR (rfs a k9)) (by unfold fld; rw [hk]; rfl) kk
theorem s_putI {X : sx_T} {E : sv_E} {D : sd_T} {Q : State → Prop} {u w pc : Nat} {ls : List (Option sv_V)} {st : List sv_V} {σ : sv_G} {idx a c k9 : Nat} {z : Int} (C : sx_ok X E D) (hf : fl_ok D.1 idx c k9) (hd : decode D.2.1 pc = .ok (.putfield idx, 3)) (ha : shp a = (c, 0)) (hk : fkd c k9 = 0) (hfin : ∀ (C9 : String) (T9 : u_T), vwCl[c]? = some (C9, T9, nfd c) → (T9 k9).2.2.2 = false) (hz : -2147483648 ≤ z ∧ z ≤ 2147483647) (kk : SW X E Q u w (pc + 3) ls st (up σ a k9 z)) : SW X E Q u w pc ls (vI z :: vR a :: st) σ := by
  obtain ⟨p, l, e, R, s, m, args, below, meth, c_⟩ := X
  obtain ⟨own, cc, nL, rt, tb, k, mc, ms⟩ := D
  obtain ⟨hx, hb, hnl, hown, hts, hMW, hK, -⟩ := C
  intro H locs lsA hR hL
  obtain ⟨hP, hD, hS, hG⟩ := hR
  obtain ⟨C9, T9, N9, ⟨g1, rfl, g3, g4, g5, ty, g6, g7⟩, hk9, hl⟩ := hf
  have ha9 := shp_lt ha (by omega)
  have hw : (sv_ws E σ)[a]? = some (E.1 + a, .inr (c, (List.range (nfd c)).map (fld E σ a c))) := by rw [sv_ws_at ha9, cel_O ha (by omega)]; rfl
  have he : (sv_ws E σ).set a (E.1 + a, .inr (c, ((List.range (nfd c)).map (fld E σ a c)).set k9 (.int (Int32.ofInt z)))) = sv_ws E (up σ a k9 z) := by
    rw [fld_set (v := z) _ hk9 (by unfold fld; rw [hk]; simp only [up_s]), ← ws_set (k := (k9 : Int)) (v := z) ha9, cel_O ha (by omega)]; rfl
  have kk9 : ∀ (H1 : Heap) (locs1 : List Loc), va_P E.2.2.2 vwCl ((sv_ws E σ).set a (E.1 + a, .inr (c, ((List.range (nfd c)).map (fld E σ a c)).set k9 (.int (Int32.ofInt z))))) H1 → va_D (fun q => E.1 ≤ q) ((sv_ws E σ).set a (E.1 + a, .inr (c, ((List.range (nfd c)).map (fld E σ a c)).set k9 (.int (Int32.ofInt z))))) → va_S (fun q => E.1 ≤ q) s.heap H1 locs1 → W p l e R s m args below meth c_ H1 locs1 u w Q (F0 m (pc + 3) lsA (st.map (cv E))) := by
    rw [he]
    exact fun H1 locs1 a1 a2 a3 => kk H1 locs1 lsA ⟨a1, a2, a3, hG.upI hz⟩ hL
  rcases hl with hl | ⟨h9, hl⟩
  · exact va_put (T := T9) (ty := .int) hx hb hts g4 ty g6 g5 hown hK hP hD hS a hw g1 k9 hk9 (hts _ hl) (fun _ h => h) (hfin C9 T9 g1) (by rw [g6 k9 hk9, (g7 k9 hk9).1 hk]) rfl rfl (by simp [hk9]) hd kk9
  · exact va_putN (T := T9) (ty := .int) hx hb hts g4 ty g6 g5 hown hK hP hD hS a hw g1 k9 hk9 (va_Nw.use rfl (hMW.1 _ hl)) (fun _ h => h) (hfin C9 T9 g1) (by rw [g6 k9 hk9, (g7 k9 hk9).1 hk]) rfl rfl (by simp [hk9]) hd kk9
theorem s_putL {X : sx_T} {E : sv_E} {D : sd_T} {Q : State → Prop} {u w pc : Nat} {ls : List (Option sv_V)} {st : List sv_V} {σ : sv_G} {idx a c k9 : Nat} {z : Int} (C : sx_ok X E D) (hf : fl_ok D.1 idx c k9) (hd : decode D.2.1 pc = .ok (.putfield idx, 3)) (ha : shp a = (c, 0)) (hk : fkd c k9 = 1) (hfin : ∀ (C9 : String) (T9 : u_T), vwCl[c]? = some (C9, T9, nfd c) → (T9 k9).2.2.2 = false) (hz : -9223372036854775808 ≤ z ∧ z ≤ 9223372036854775807) (kk : SW X E Q u w (pc + 3) ls st (up σ a k9 z)) : SW X E Q u w pc ls (vL z :: vR a :: st) σ := by
  obtain ⟨p, l, e, R, s, m, args, below, meth, c_⟩ := X
  obtain ⟨own, cc, nL, rt, tb, k, mc, ms⟩ := D
  obtain ⟨hx, hb, hnl, hown, hts, hMW, hK, -⟩ := C
  intro H locs lsA hR hL
  obtain ⟨hP, hD, hS, hG⟩ := hR
  obtain ⟨C9, T9, N9, ⟨g1, rfl, g3, g4, g5, ty, g6, g7⟩, hk9, hl⟩ := hf
  have ha9 := shp_lt ha (by omega)
  have hw : (sv_ws E σ)[a]? = some (E.1 + a, .inr (c, (List.range (nfd c)).map (fld E σ a c))) := by rw [sv_ws_at ha9, cel_O ha (by omega)]; rfl
  have he : (sv_ws E σ).set a (E.1 + a, .inr (c, ((List.range (nfd c)).map (fld E σ a c)).set k9 (.long (Int64.ofInt z)))) = sv_ws E (up σ a k9 z) := by
    rw [fld_set (v := z) _ hk9 (by unfold fld; rw [hk]; simp only [up_s]), ← ws_set (k := (k9 : Int)) (v := z) ha9, cel_O ha (by omega)]; rfl
  have kk9 : ∀ (H1 : Heap) (locs1 : List Loc), va_P E.2.2.2 vwCl ((sv_ws E σ).set a (E.1 + a, .inr (c, ((List.range (nfd c)).map (fld E σ a c)).set k9 (.long (Int64.ofInt z))))) H1 → va_D (fun q => E.1 ≤ q) ((sv_ws E σ).set a (E.1 + a, .inr (c, ((List.range (nfd c)).map (fld E σ a c)).set k9 (.long (Int64.ofInt z))))) → va_S (fun q => E.1 ≤ q) s.heap H1 locs1 → W p l e R s m args below meth c_ H1 locs1 u w Q (F0 m (pc + 3) lsA (st.map (cv E))) := by
    rw [he]
    exact fun H1 locs1 a1 a2 a3 => kk H1 locs1 lsA ⟨a1, a2, a3, hG.upL (by rw [isLg_O ha (by omega), hk]; rfl) hz⟩ hL
  rcases hl with hl | ⟨h9, hl⟩
  · exact va_put (T := T9) (ty := .long) hx hb hts g4 ty g6 g5 hown hK hP hD hS a hw g1 k9 hk9 (hts _ hl) (fun _ h => h) (hfin C9 T9 g1) (by rw [g6 k9 hk9, (g7 k9 hk9).2 hk]) rfl rfl (by simp [hk9]) hd kk9
  · exact va_putN (T := T9) (ty := .long) hx hb hts g4 ty g6 g5 hown hK hP hD hS a hw g1 k9 hk9 (va_Nw.use rfl (hMW.1 _ hl)) (fun _ h => h) (hfin C9 T9 g1) (by rw [g6 k9 hk9, (g7 k9 hk9).2 hk]) rfl rfl (by simp [hk9]) hd kk9
theorem s_iald {X : sx_T} {E : sv_E} {D : sd_T} {Q : State → Prop} {u w pc : Nat} {ls : List (Option sv_V)} {st : List sv_V} {σ : sv_G} {a n : Nat} {i : Int} (C : sx_ok X E D) (hd : decode D.2.1 pc = .ok (.iaload, 1)) (ha : shp a = (10, n)) (hi : 0 ≤ i ∧ i < (n : Int)) (kk : (-2147483648 ≤ σ a i ∧ σ a i ≤ 2147483647) → SW X E Q u w (pc + 1) ls (vI (σ a i) :: st) σ) : SW X E Q u w pc ls (vI i :: vR a :: st) σ := by
  obtain ⟨p, l, e, R, s, m, args, below, meth, c⟩ := X
  obtain ⟨own, cc, nL, rt, tb, k, mc, ms⟩ := D
  obtain ⟨hx, hb, hnl, hown, hts, hMW, hK, -⟩ := C
  intro H locs lsA hR hL
  obtain ⟨hP, hD, hS, hG⟩ := hR
  have kk := kk (hG.i (isLg_A ha)) H locs lsA ⟨hP, hD, hS, hG⟩ hL
  have hn := shp_n ha (by omega)
  refine va_iald hx hb hK hP a 0 (f := fun k => Int32.ofInt (σ a k)) (by rw [sv_ws_at (shp_lt ha (by omega)), cel_I ha]; rfl) rfl (ix_in hi.1 hi.2 hn) hd ?_
  simp only [ix_cl hi.1 (by omega : i ≤ 2147483647)]
  exact kk
theorem s_lald {X : sx_T} {E : sv_E} {D : sd_T} {Q : State → Prop} {u w pc : Nat} {ls : List (Option sv_V)} {st : List sv_V} {σ : sv_G} {a n : Nat} {i : Int} (C : sx_ok X E D) (hd : decode D.2.1 pc = .ok (.laload, 1)) (ha : shp a = (11, n)) (hi : 0 ≤ i ∧ i < (n : Int)) (kk : (-9223372036854775808 ≤ σ a i ∧ σ a i ≤ 9223372036854775807) → SW X E Q u w (pc + 1) ls (vL (σ a i) :: st) σ) : SW X E Q u w pc ls (vI i :: vR a :: st) σ := by
  obtain ⟨p, l, e, R, s, m, args, below, meth, c⟩ := X
  obtain ⟨own, cc, nL, rt, tb, k, mc, ms⟩ := D
  obtain ⟨hx, hb, hnl, hown, hts, hMW, hK, -⟩ := C
  intro H locs lsA hR hL
  obtain ⟨hP, hD, hS, hG⟩ := hR
  have kk := kk ((hG a i).2) H locs lsA ⟨hP, hD, hS, hG⟩ hL
  have hn := shp_n ha (by omega)
  refine va_lald hx hb hK hP a 1 (f := fun k => Int64.ofInt (σ a k)) (by rw [sv_ws_at (shp_lt ha (by omega)), cel_L ha]; rfl) rfl (ix_in hi.1 hi.2 hn) hd ?_
  simp only [ix_cl hi.1 (by omega : i ≤ 2147483647)]
  exact kk
theorem s_iast {X : sx_T} {E : sv_E} {D : sd_T} {Q : State → Prop} {u w pc : Nat} {ls : List (Option sv_V)} {st : List sv_V} {σ : sv_G} {a n : Nat} {i z : Int} (C : sx_ok X E D) (hd : decode D.2.1 pc = .ok (.iastore, 1)) (ha : shp a = (10, n)) (hi : 0 ≤ i ∧ i < (n : Int)) (hz : -2147483648 ≤ z ∧ z ≤ 2147483647) (kk : SW X E Q u w (pc + 1) ls st (up σ a i z)) : SW X E Q u w pc ls (vI z :: vI i :: vR a :: st) σ := by
  obtain ⟨p, l, e, R, s, m, args, below, meth, c⟩ := X
  obtain ⟨own, cc, nL, rt, tb, k, mc, ms⟩ := D
  obtain ⟨hx, hb, hnl, hown, hts, hMW, hK, -⟩ := C
  intro H locs lsA hR hL
  obtain ⟨hP, hD, hS, hG⟩ := hR
  have hn := shp_n ha (by omega)
  have ha9 := shp_lt ha (by omega)
  have he : upd (fun k : Nat => Int32.ofInt (σ a k)) (Int32.ofInt i).toNatClampNeg (Int32.ofInt z) = fun k : Nat => Int32.ofInt (up σ a i z a k) := by
    funext k
    have h1 := ix_cl hi.1 (by omega : i ≤ 2147483647)
    unfold upd up
    by_cases q : k = (Int32.ofInt i).toNatClampNeg
    · rw [if_pos q, if_pos ⟨rfl, by omega⟩]
    · rw [if_neg q, if_neg (by omega)]
  have he2 : cel E (up σ a i z) a = celI E (up σ a i z) a n := cel_I ha
  refine va_iast hx hb hK hP hD hS a 0 (f := fun k => Int32.ofInt (σ a k)) (by rw [sv_ws_at ha9, cel_I ha]; rfl) rfl (ix_in hi.1 hi.2 hn) hd (fun H1 locs1 a1 a2 a3 => ?_)
  rw [he] at a1 a2
  refine kk H1 locs1 lsA ⟨?_, ?_, a3, hG.upI hz⟩ hL
  · rw [← ws_set ha9, he2]; exact a1
  · rw [← ws_set ha9, he2]; exact a2
theorem s_last {X : sx_T} {E : sv_E} {D : sd_T} {Q : State → Prop} {u w pc : Nat} {ls : List (Option sv_V)} {st : List sv_V} {σ : sv_G} {a n : Nat} {i z : Int} (C : sx_ok X E D) (hd : decode D.2.1 pc = .ok (.lastore, 1)) (ha : shp a = (11, n)) (hi : 0 ≤ i ∧ i < (n : Int)) (hz : -9223372036854775808 ≤ z ∧ z ≤ 9223372036854775807) (kk : SW X E Q u w (pc + 1) ls st (up σ a i z)) : SW X E Q u w pc ls (vL z :: vI i :: vR a :: st) σ := by
  obtain ⟨p, l, e, R, s, m, args, below, meth, c⟩ := X
  obtain ⟨own, cc, nL, rt, tb, k, mc, ms⟩ := D
  obtain ⟨hx, hb, hnl, hown, hts, hMW, hK, -⟩ := C
  intro H locs lsA hR hL
  obtain ⟨hP, hD, hS, hG⟩ := hR
  have hn := shp_n ha (by omega)
  have ha9 := shp_lt ha (by omega)
  have he : vp_updL (fun k : Nat => Int64.ofInt (σ a k)) (Int32.ofInt i).toNatClampNeg (Int64.ofInt z) = fun k : Nat => Int64.ofInt (up σ a i z a k) := by
    funext k
    have h1 := ix_cl hi.1 (by omega : i ≤ 2147483647)
    unfold vp_updL up
    by_cases q : k = (Int32.ofInt i).toNatClampNeg
    · rw [if_pos q, if_pos ⟨rfl, by omega⟩]
    · rw [if_neg q, if_neg (by omega)]
  have he2 : cel E (up σ a i z) a = celL E (up σ a i z) a n := cel_L ha
  refine va_last hx hb hK hP hD hS a 1 (f := fun k => Int64.ofInt (σ a k)) (by rw [sv_ws_at ha9, cel_L ha]; rfl) rfl (ix_in hi.1 hi.2 hn) hd (fun H1 locs1 a1 a2 a3 => ?_)
  rw [he] at a1 a2
  refine kk H1 locs1 lsA ⟨?_, ?_, a3, hG.upL (isLg_J ha) hz⟩ hL
  · rw [← ws_set ha9, he2]; exact a1
  · rw [← ws_set ha9, he2]; exact a2
theorem s_aald {X : sx_T} {E : sv_E} {D : sd_T} {Q : State → Prop} {u w pc : Nat} {ls : List (Option sv_V)} {st : List sv_V} {σ : sv_G} {a n t b : Nat} {i : Int} (C : sx_ok X E D) (hd : decode D.2.1 pc = .ok (.aaload, 1)) (ha : shp a = (10 + t, n)) (ht : 2 ≤ t ∧ t ≤ 4) (hi : 0 ≤ i ∧ i < (n : Int)) (hr : rfs a i.toNat = b) (kk : SW X E Q u w (pc + 1) ls (vR b :: st) σ) : SW X E Q u w pc ls (vI i :: vR a :: st) σ := by
  obtain ⟨p, l, e, R, s, m, args, below, meth, c⟩ := X
  obtain ⟨own, cc, nL, rt, tb, k, mc, ms⟩ := D
  obtain ⟨hx, hb, hnl, hown, hts, hMW, hK, -⟩ := C
  intro H locs lsA hR hL
  obtain ⟨hP, hD, hS, hG⟩ := hR
  subst hr
  have kk := kk H locs lsA ⟨hP, hD, hS, hG⟩ hL
  have hn := shp_n ha (by omega)
  have hty : ∃ C9, (sv_tys E)[t]? = some (E.2.2.1 t, .object C9) := by
    match t, ht with
    | 2, _ => exact ⟨_, rfl⟩
    | 3, _ => exact ⟨_, rfl⟩
    | 4, _ => exact ⟨_, rfl⟩
  obtain ⟨C9, hty⟩ := hty
  have hc := ix_cl hi.1 (by omega : i ≤ 2147483647)
  have hc2 : (Int32.ofInt i).toNatClampNeg = i.toNat := by omega
  refine va_aldq hx hb hK hP a t (f := fun k => if k < n then some (E.1 + rfs a k) else none) (by rw [sv_ws_at (shp_lt ha (by omega)), cel_R ha ht.1 ht.2]; rfl) hty (ix_in hi.1 hi.2 hn) hd ?_
  simp only [hc2, if_pos (show i.toNat < n by omega)]
  exact kk
end
section
/-! Methods: their contracts, their entry, their ends, calls, throws. -/
/-- a method: name, code, locals, what it returns, how many cells it may make (a throw makes one, of six slots) -/
abbrev md_T : Type := MethodName × ByteArray × Nat × Option FieldType × Nat
abbrev mdM (M : md_T) : Nat := M.2.2.2.2
abbrev dRt (D : sd_T) : Option FieldType := D.2.2.2.1
abbrev dTb (D : sd_T) : List ExceptionTableEntry := D.2.2.2.2.1
abbrev dK (D : sd_T) : Nat := D.2.2.2.2.2.1
abbrev dMc (D : sd_T) : Nat := D.2.2.2.2.2.2.1
abbrev dMs (D : sd_T) : Nat := D.2.2.2.2.2.2.2
def rm_of (M : md_T) (k : Nat) : Room := { frames := k, cells := mdM M, slots := 6 * mdM M, locals := 40 * k }
def WdH (E : sv_E) (σ : sv_G) (H : Heap) : Prop := va_P E.2.2.2 vwCl (sv_ws E σ) H ∧ va_D (fun q => E.1 ≤ q) (sv_ws E σ) ∧ RG σ
def Wd (E : sv_E) (σ : sv_G) (U : State) : Prop := WdH E σ U.heap ∧ va_K E.2.2.2 vwCl (sv_tys E) U ∧ MW E U
def QcP (E : sv_E) (Post : Option sv_V → sv_G → Prop) : Array Value → State → Outcome → State → Prop := fun _ st oc t => (∃ o σ', oc = .returned (o.map (cv E)) ∧ Post o σ' ∧ WdH E σ' t.heap) ∧ va_F (fun q => E.1 ≤ q) st t
def XcP (E : sv_E) (PX : String → sv_G → Prop) : String → State → State → Prop := fun En st t => ∃ σ', PX En σ' ∧ WdH E σ' t.heap ∧ va_F (fun q => E.1 ≤ q) st t
abbrev mcd (M : md_T) : Cond := Cond.code M.1 M.2.1 M.2.2.1 M.2.2.2.1
def CT (E : sv_E) (M : md_T) (k : Nat) (av : List sv_V) (σ : sv_G) (Post : Option sv_V → sv_G → Prop) : Prop := ∀ l : Launch, l.stackTraces = false →
  Met l M.1 (mcd M :: LW) (rm_of M k) (va_Pc (av.map (cv E)) (Wd E σ)) (QcP E Post) (mdM M) (6 * mdM M) (fun q => E.1 ≤ q)
def CX (E : sv_E) (M : md_T) (k : Nat) (av : List sv_V) (σ : sv_G) (Post : Option sv_V → sv_G → Prop) (PX : String → sv_G → Prop) : Prop := ∀ l : Launch, l.stackTraces = false →
  vx_Met l M.1 (mcd M :: LW) (rm_of M k) (va_Pc (av.map (cv E)) (Wd E σ)) (QcP E Post) (XcP E PX) (mdM M) (6 * mdM M) (fun q => E.1 ≤ q)
def CW (E : sv_E) (M : md_T) (hh : List (Nat × Nat × Nat × Nat)) (k : Nat) (av : List sv_V) (σ : sv_G) (Post : Option sv_V → sv_G → Prop) : Prop := ∀ l : Launch, l.stackTraces = false →
  Met l M.1 (Cond.codeWith M.1 M.2.1 M.2.2.1 M.2.2.2.1 hh :: LW) (rm_of M k) (va_Pc (av.map (cv E)) (Wd E σ)) (QcP E Post) (mdM M) (6 * mdM M) (fun q => E.1 ≤ q)
/-- the end that a body owes where it returns .. -/
def QR (X : sx_T) (E : sv_E) (Q : State → Prop) (mc : Nat) (Post : Option sv_V → sv_G → Prop) : Prop := match X with
  | (p, l, e, R, s, m, args, below, meth, c) => ∀ (H : Heap) (locs : List Loc) (g : JFrame), W p l e R s m args below meth c H locs mc (6 * mc) (MQ below (QcP E Post) args s mc (6 * mc) (fun q => E.1 ≤ q)) g → W p l e R s m args below meth c H locs mc (6 * mc) Q g
/-- .. and where it throws -/
def QT (X : sx_T) (E : sv_E) (Q : State → Prop) (mc : Nat) (PX : String → sv_G → Prop) : Prop := match X with
  | (p, l, e, R, s, m, args, below, meth, c) => ∃ Qc, Q = vx_MQ below Qc (XcP E PX) args s mc (6 * mc) (fun q => E.1 ≤ q)
theorem Wd.calling {E : sv_E} {σ : sv_G} {U : State} (g : JFrame) (mk : MethodId) (a : Array Value) (h : Wd E σ U) : Wd E σ (U.calling g mk a) :=
  ⟨h.1, va_K.moved (u := U) (U := U.calling g mk a) (Vm.Alike.refl U.vm) h.2.1, MW.mv (u := U) (U := U.calling g mk a) (sv_refl U) (fun _ _ _ => rfl) h.2.2⟩
theorem Wd.blind {E : sv_E} {σ : sv_G} {av : List Value} : FrameBlind (va_Pc av (Wd E σ)) := fun _ _ g mk h => ⟨h.1, h.2.calling g mk _⟩
-- the locals at the entry
def sv_in : List sv_V → List (Option sv_V)
  | [] => []
  | v :: r => match v with
    | .inr (.inl z) => some (vL z) :: none :: sv_in r
    | v => some v :: sv_in r
def sv_ini (av : List sv_V) (nL : Nat) : List (Option sv_V) := sv_in av ++ List.replicate (nL - (sv_in av).length) none
theorem cv_c1 {E : sv_E} {v : sv_V} (h : ∀ z, v ≠ vL z) : ¬ (cv E v).category = 2 := fun q => by
  obtain ⟨z, hz⟩ := cv_cat2 q
  exact h z hz
theorem sv_in_cons {v : sv_V} {r : List sv_V} (h : ∀ z, v ≠ vL z) : sv_in (v :: r) = some v :: sv_in r := by
  match v, h with
  | .inl _, _ => rfl
  | .inr (.inl z), h => exact absurd rfl (h z)
  | .inr (.inr _), _ => rfl
theorem lg_sl_L (z : Int64) (l : List Value) : (lg_sl (Value.long z :: l)).length = 2 + (lg_sl l).length := by
  have h : lg_sl (Value.long z :: l) = [.val (.long z), .second] ++ lg_sl l := by simp [lg_sl, Value.category]
  rw [h, List.length_append]
  rfl
theorem sv_in_len {E : sv_E} : ∀ av : List sv_V, (lg_sl (av.map (cv E))).length = (sv_in av).length
  | [] => rfl
  | v :: r => by
    by_cases h : ∃ z, v = vL z
    · obtain ⟨z, rfl⟩ := h
      show (lg_sl (Value.long (Int64.ofInt z) :: r.map (cv E))).length = (some (vL z) :: none :: sv_in r).length
      rw [lg_sl_L, sv_in_len (E := E) r]
      simp only [List.length_cons]
      omega
    · have h2 : ∀ z, v ≠ vL z := fun z q => h ⟨z, q⟩
      rw [sv_in_cons h2]
      have h3 := cv_c1 (E := E) h2
      simp only [lg_sl, List.map_cons, List.flatMap_cons, if_neg h3, List.length_append, List.length_cons, List.length_nil]
      have := sv_in_len (E := E) r
      simp only [lg_sl] at this
      omega
theorem sv_in_at {E : sv_E} : ∀ (av : List sv_V) (i0 i : Nat) (v : sv_V), (sv_in av)[i]? = some (some v) → (i0 + i, cv E v) ∈ lv_args i0 (av.map (cv E))
  | [], _, _, _, h => by simp [sv_in] at h
  | x :: r, i0, i, v, h => by
    by_cases q : ∃ z, x = vL z
    · obtain ⟨z, rfl⟩ := q
      have h1 : (some (vL z) :: none :: sv_in r)[i]? = some (some v) := h
      show (i0 + i, cv E v) ∈ (i0, cv E (vL z)) :: lv_args (if (cv E (vL z)).category = 2 then i0 + 2 else i0 + 1) (r.map (cv E))
      rw [if_pos (show (cv E (vL z)).category = 2 from rfl)]
      match i, h1 with
      | 0, h1 => cases h1; exact List.mem_cons_self
      | 1, h1 => cases h1
      | i + 2, h1 =>
        have h2 := sv_in_at (E := E) r (i0 + 2) i v h1
        rw [show i0 + (i + 2) = i0 + 2 + i by omega]
        exact List.mem_cons_of_mem _ h2
    · have q2 : ∀ z, x ≠ vL z := fun z q3 => q ⟨z, q3⟩
      rw [sv_in_cons q2] at h
      show (i0 + i, cv E v) ∈ (i0, cv E x) :: lv_args (if (cv E x).category = 2 then i0 + 2 else i0 + 1) (r.map (cv E))
      rw [if_neg (cv_c1 q2)]
      match i, h with
      | 0, h => cases h; exact List.mem_cons_self
      | i + 1, h =>
        have h2 := sv_in_at (E := E) r (i0 + 1) i v h
        rw [show i0 + (i + 1) = i0 + 1 + i by omega]
        exact List.mem_cons_of_mem _ h2
theorem sv_entry {E : sv_E} {av : List sv_V} {nL : Nat} (h : (sv_in av).length ≤ nL) : sv_L E ((lg_sl (av.map (cv E)) ++ List.replicate (nL - (lg_sl (av.map (cv E))).length) Slot.unset).toArray) nL (sv_ini av nL) := by
  have h1 := lv_entry (av.map (cv E)) (n := nL) (by rw [sv_in_len]; exact h)
  refine ⟨h1.1, h1.2.1, fun i v hi => ?_⟩
  have h2 : (sv_in av)[i]? = some (some v) := by
    unfold sv_ini at hi
    by_cases q : i < (sv_in av).length
    · rwa [List.getElem?_append_left q] at hi
    · rw [List.getElem?_append_right (by omega)] at hi
      have := List.eq_of_mem_replicate (List.mem_of_getElem? hi)
      cases this
  have h3 := sv_in_at (E := E) av 0 i v h2
  rw [Nat.zero_add] at h3
  exact h1.2.2 _ h3
/-- what the tables say of a method: its code, its class, how many parameters -/
def mo (M : md_T) (n : Nat) : Prop := mcd M ∈ LW ∧ Cond.initialized M.1.cls ∈ LW ∧ (M.1.cls ≠ "java/lang/invoke/MethodHandle" ∧ M.1.cls ≠ "java/lang/invoke/VarHandle") ∧ (parseMethodDescriptor M.1.desc).map (fun d => d.parameters.length) = some n ∧ plainName M.1.cls = true ∧ M.2.2.1 ≤ 21
def mov (M : md_T) : Prop := Cond.instanceMethod M.1 ∈ LW ∧ Cond.selects M.1.cls M.1 M.1 ∈ LW
def mos (M : md_T) : Prop := Cond.static M.1 ∈ LW
theorem mo_of {M : md_T} {n : Nat} (i j : Nat) (h1 : lw_tbl[i]? = some (mcd M)) (h2 : lw_tbl[j]? = some (Cond.initialized M.1.cls)) (h3 : (M.1.cls ≠ "java/lang/invoke/MethodHandle" ∧ M.1.cls ≠ "java/lang/invoke/VarHandle") ∧ (parseMethodDescriptor M.1.desc).map (fun d => d.parameters.length) = some n ∧ plainName M.1.cls = true) (h4 : M.2.2.1 ≤ 21) : mo M n := ⟨LW_in i h1 rfl, LW_in j h2 rfl, h3.1, h3.2.1, h3.2.2, h4⟩
theorem mov_of {M : md_T} (i j : Nat) (h1 : lw_tbl[i]? = some (Cond.instanceMethod M.1)) (h2 : lw_tbl[j]? = some (Cond.selects M.1.cls M.1 M.1)) : mov M := ⟨LW_in i h1 rfl, LW_in j h2 rfl⟩
theorem CT.of {E : sv_E} {M : md_T} {n k : Nat} {av : List sv_V} {σ : sv_G} {Post : Option sv_V → sv_G → Prop} (D : sd_T) (hD : (M.1.cls, M.2.1, M.2.2.1, M.2.2.2.1, ([] : List ExceptionTableEntry), k, mdM M, 6 * mdM M) = D) (ho : mo M n) (hl : (sv_in av).length ≤ M.2.2.1) {ls0 : List (Option sv_V)} (hls : sv_ini av M.2.2.1 = ls0)
    (body : ∀ (X : sx_T) (Q : State → Prop), sx_ok X E D → QR X E Q (mdM M) Post → SW X E Q 0 0 0 ls0 [] σ) : CT E M k av σ Post := by
  intro l hlt
  subst hD
  subst hls
  refine Met.ofW (cc := M.2.1) (maxL := M.2.2.1) (ret := M.2.2.2.1) ho.2.2.2.2.1 rfl ?_
  intro p e s m args below meth c s₁ B hml hv
  obtain ⟨rfl, ⟨hP, hD, hG⟩, hK, hMW⟩ := hv
  have hts := atoms_spec (ws := mcd M :: LW) B.pre
  have hown : s.vm.findClass M.1.cls = some m.cls := findClass_of_methodNamed B.named
  have htab : c.exceptionTable.toList = [] := by
    obtain ⟨meth9, c9, h1, h2, -, -, -, -, h7, -⟩ := Cond.code_spec B.named (hts _ List.mem_cons_self)
    cases Option.some.inj (h1.symm.trans B.method)
    cases Option.some.inj (h2.symm.trans (Stand.of_body B).code)
    rw [Array.isEmpty_iff.mp h7]
  have hb := body (p, l, e, (headSpec (mcd M :: LW) (rm_of M k)).room, s, m, (av.map (cv E)).toArray, below, meth, c) _ ⟨B.exec, B.bytes, hml, hown, fun w h => hts w (List.mem_cons_of_mem _ h), hMW, hK, B.returns, B.notSynchronized, htab, hlt, Nat.le_refl _, Nat.le_refl _, Nat.le_refl _, Nat.le_refl _⟩ (fun H locs g h => h)
  rw [lg_entry_eq]
  exact hb s.heap [] _ ⟨hP, hD, va_S.rf, hG⟩ (by rw [hml]; exact sv_entry hl)
theorem CX.of {E : sv_E} {M : md_T} {n k : Nat} {av : List sv_V} {σ : sv_G} {Post : Option sv_V → sv_G → Prop} {PX : String → sv_G → Prop} (D : sd_T) (hD : (M.1.cls, M.2.1, M.2.2.1, M.2.2.2.1, ([] : List ExceptionTableEntry), k, mdM M, 6 * mdM M) = D) (ho : mo M n) (hl : (sv_in av).length ≤ M.2.2.1) {ls0 : List (Option sv_V)} (hls : sv_ini av M.2.2.1 = ls0)
    (body : ∀ (X : sx_T) (Q : State → Prop), sx_ok X E D → QR X E Q (mdM M) Post → QT X E Q (mdM M) PX → SW X E Q 0 0 0 ls0 [] σ) : CX E M k av σ Post PX := by
  intro l hlt
  subst hD
  subst hls
  refine vx_ofW (cc := M.2.1) (maxL := M.2.2.1) (ret := M.2.2.2.1) ho.2.2.2.2.1 rfl ?_
  intro p e s m args below meth c s₁ B hml ht hv
  obtain ⟨rfl, ⟨hP, hD, hG⟩, hK, hMW⟩ := hv
  have hts := atoms_spec (ws := mcd M :: LW) B.pre
  have hown : s.vm.findClass M.1.cls = some m.cls := findClass_of_methodNamed B.named
  have htab : c.exceptionTable.toList = [] := List.eq_nil_iff_forall_not_mem.mpr ht
  have hb := body (p, l, e, (headSpec (mcd M :: LW) (rm_of M k)).room, s, m, (av.map (cv E)).toArray, below, meth, c) _ ⟨B.exec, B.bytes, hml, hown, fun w h => hts w (List.mem_cons_of_mem _ h), hMW, hK, B.returns, B.notSynchronized, htab, hlt, Nat.le_refl _, Nat.le_refl _, Nat.le_refl _, Nat.le_refl _⟩ (fun H locs g h => vx_ret h) ⟨_, rfl⟩
  rw [lg_entry_eq]
  exact hb s.heap [] _ ⟨hP, hD, va_S.rf, hG⟩ (by rw [hml]; exact sv_entry hl)

theorem s_iret {X : sx_T} {E : sv_E} {D : sd_T} {Q : State → Prop} {u w pc : Nat} {ls : List (Option sv_V)} {st : List sv_V} {σ : sv_G} {z : Int} {mc9 : Nat} {Post : Option sv_V → sv_G → Prop} (C : sx_ok X E D) (hQ : QR X E Q mc9 Post) (hd : decode D.2.1 pc = .ok (.ireturn, 1)) (hr : dRt D = some .int)  (hp : Post (some (vI z)) σ) (hu : u ≤ mc9 ∧ w ≤ 6 * mc9) : SW X E Q u w pc ls [vI z] σ := by
  obtain ⟨p, l, e, R, s, m, args, below, meth, c⟩ := X
  obtain ⟨own, cc, nL, rt, tb, k, mc, ms⟩ := D
  obtain ⟨hx, hb, hnl, hown, hts, hMW, hK, hret, hlocks, htab, htr, hRf, hRl, hRc, hRs⟩ := C
  intro H locs lsA hR hL
  obtain ⟨hP, hD, hS, hG⟩ := hR
  refine W.widen hu.1 hu.2 (hQ H locs _ ?_)
  exact W.iret (v := Int32.ofInt z) hx hb (hret.trans hr) (fun t ht hW => ⟨⟨some (vI z), σ, rfl, hp, by rw [ht]; exact ⟨hP, hD, hG⟩⟩, hS.F ht⟩) hS.2.2 hd hlocks
theorem s_zret {X : sx_T} {E : sv_E} {D : sd_T} {Q : State → Prop} {u w pc : Nat} {ls : List (Option sv_V)} {st : List sv_V} {σ : sv_G} {z : Int} {mc9 : Nat} {Post : Option sv_V → sv_G → Prop} (C : sx_ok X E D) (hQ : QR X E Q mc9 Post) (hd : decode D.2.1 pc = .ok (.ireturn, 1)) (hr : dRt D = some .boolean) (hz : z = 0 ∨ z = 1) (hp : Post (some (vI z)) σ) (hu : u ≤ mc9 ∧ w ≤ 6 * mc9) : SW X E Q u w pc ls [vI z] σ := by
  obtain ⟨p, l, e, R, s, m, args, below, meth, c⟩ := X
  obtain ⟨own, cc, nL, rt, tb, k, mc, ms⟩ := D
  obtain ⟨hx, hb, hnl, hown, hts, hMW, hK, hret, hlocks, htab, htr, hRf, hRl, hRc, hRs⟩ := C
  intro H locs lsA hR hL
  obtain ⟨hP, hD, hS, hG⟩ := hR
  refine W.widen hu.1 hu.2 (hQ H locs _ ?_)
  exact W.zret (v := Int32.ofInt z) hx hb (hret.trans hr) (by rcases hz with rfl | rfl <;> rfl) (fun t ht hW => ⟨⟨some (vI z), σ, rfl, hp, by rw [ht]; exact ⟨hP, hD, hG⟩⟩, hS.F ht⟩) hS.2.2 hd hlocks
theorem s_lret {X : sx_T} {E : sv_E} {D : sd_T} {Q : State → Prop} {u w pc : Nat} {ls : List (Option sv_V)} {st : List sv_V} {σ : sv_G} {z : Int} {mc9 : Nat} {Post : Option sv_V → sv_G → Prop} (C : sx_ok X E D) (hQ : QR X E Q mc9 Post) (hd : decode D.2.1 pc = .ok (.lreturn, 1)) (hr : dRt D = some .long)  (hp : Post (some (vL z)) σ) (hu : u ≤ mc9 ∧ w ≤ 6 * mc9) : SW X E Q u w pc ls [vL z] σ := by
  obtain ⟨p, l, e, R, s, m, args, below, meth, c⟩ := X
  obtain ⟨own, cc, nL, rt, tb, k, mc, ms⟩ := D
  obtain ⟨hx, hb, hnl, hown, hts, hMW, hK, hret, hlocks, htab, htr, hRf, hRl, hRc, hRs⟩ := C
  intro H locs lsA hR hL
  obtain ⟨hP, hD, hS, hG⟩ := hR
  refine W.widen hu.1 hu.2 (hQ H locs _ ?_)
  exact W.lret (v := Int64.ofInt z) hx hb (hret.trans hr) (fun t ht hW => ⟨⟨some (vL z), σ, rfl, hp, by rw [ht]; exact ⟨hP, hD, hG⟩⟩, hS.F ht⟩) hS.2.2 hd hlocks
theorem s_aret {X : sx_T} {E : sv_E} {D : sd_T} {Q : State → Prop} {u w pc : Nat} {ls : List (Option sv_V)} {st : List sv_V} {σ : sv_G} {z : Nat} {mc9 : Nat} {Post : Option sv_V → sv_G → Prop} (C : sx_ok X E D) (hQ : QR X E Q mc9 Post) (hd : decode D.2.1 pc = .ok (.areturn, 1)) {rt9 : String} (hr : dRt D = some (.object rt9))  (hp : Post (some (vR z)) σ) (hu : u ≤ mc9 ∧ w ≤ 6 * mc9) : SW X E Q u w pc ls [vR z] σ := by
  obtain ⟨p, l, e, R, s, m, args, below, meth, c⟩ := X
  obtain ⟨own, cc, nL, rt, tb, k, mc, ms⟩ := D
  obtain ⟨hx, hb, hnl, hown, hts, hMW, hK, hret, hlocks, htab, htr, hRf, hRl, hRc, hRs⟩ := C
  intro H locs lsA hR hL
  obtain ⟨hP, hD, hS, hG⟩ := hR
  refine W.widen hu.1 hu.2 (hQ H locs _ ?_)
  exact W.aret (v := .ref (E.1 + z)) hx hb (hret.trans hr) (Or.inl ⟨_, rfl⟩) (Or.inr ⟨_, rfl⟩) (fun t ht hW => ⟨⟨some (vR z), σ, rfl, hp, by rw [ht]; exact ⟨hP, hD, hG⟩⟩, hS.F ht⟩) hS.2.2 hd hlocks
theorem s_aretN {X : sx_T} {E : sv_E} {D : sd_T} {Q : State → Prop} {u w pc : Nat} {ls : List (Option sv_V)} {st : List sv_V} {σ : sv_G} {mc9 : Nat} {Post : Option sv_V → sv_G → Prop} (C : sx_ok X E D) (hQ : QR X E Q mc9 Post) (hd : decode D.2.1 pc = .ok (.areturn, 1)) {rt9 : String} (hr : dRt D = some (.object rt9)) (hp : Post (some vN) σ) (hu : u ≤ mc9 ∧ w ≤ 6 * mc9) : SW X E Q u w pc ls [vN] σ := by
  obtain ⟨p, l, e, R, s, m, args, below, meth, c⟩ := X
  obtain ⟨own, cc, nL, rt, tb, k, mc, ms⟩ := D
  obtain ⟨hx, hb, hnl, hown, hts, hMW, hK, hret, hlocks, htab, htr, hRf, hRl, hRc, hRs⟩ := C
  intro H locs lsA hR hL
  obtain ⟨hP, hD, hS, hG⟩ := hR
  refine W.widen hu.1 hu.2 (hQ H locs _ ?_)
  exact W.aret (v := .null) hx hb (hret.trans hr) (Or.inl ⟨_, rfl⟩) (Or.inl rfl) (fun t ht hW => ⟨⟨some vN, σ, rfl, hp, by rw [ht]; exact ⟨hP, hD, hG⟩⟩, hS.F ht⟩) hS.2.2 hd hlocks
theorem s_vret {X : sx_T} {E : sv_E} {D : sd_T} {Q : State → Prop} {u w pc : Nat} {ls : List (Option sv_V)} {st : List sv_V} {σ : sv_G} {mc9 : Nat} {Post : Option sv_V → sv_G → Prop} (C : sx_ok X E D) (hQ : QR X E Q mc9 Post) (hd : decode D.2.1 pc = .ok (.return_, 1)) (hr : dRt D = none) (hp : Post none σ) (hu : u ≤ mc9 ∧ w ≤ 6 * mc9) : SW X E Q u w pc ls [] σ := by
  obtain ⟨p, l, e, R, s, m, args, below, meth, c⟩ := X
  obtain ⟨own, cc, nL, rt, tb, k, mc, ms⟩ := D
  obtain ⟨hx, hb, hnl, hown, hts, hMW, hK, hret, hlocks, htab, htr, hRf, hRl, hRc, hRs⟩ := C
  intro H locs lsA hR hL
  obtain ⟨hP, hD, hS, hG⟩ := hR
  refine W.widen hu.1 hu.2 (hQ H locs _ ?_)
  exact W.vret hx hb (hret.trans hr) (fun t ht hW => ⟨⟨none, σ, rfl, hp, by rw [ht]; exact ⟨hP, hD, hG⟩⟩, hS.F ht⟩) hS.2.2 hd hlocks

section RUN
variable {p : Program} {l : Launch} {e : Env} {R : Room} {s : State} {m : MethodId} {args : Array Value} {below : List Frame} {meth : Method} {c : Code} {H : Heap} {locs : List Loc} {u w : Nat} {Q : State → Prop}
theorem sw_run {E : sv_E} {Post : Option sv_V → sv_G → Prop} {a : Array Value} {mc ms pc : Nat} {lsA : Array Slot} {st0 rest : List Value} (hr : va_Run p l e R s m args below meth c H locs u w mc ms (F0 m pc lsA st0) rest (QcP E Post a) (fun q => E.1 ≤ q)) (hS : va_S (fun q => E.1 ≤ q) s.heap H locs)
    (kk : ∀ (o : Option sv_V) (σ' : sv_G) (H1 : Heap) (locs1 : List Loc), Post o σ' → sv_R E s.heap σ' H1 locs1 → W p l e R s m args below meth c H1 locs1 (u + mc) (w + ms) Q (F0 m (pc + 3) lsA ((o.map (cv E)).toList ++ rest))) : W p l e R s m args below meth c H locs u w Q (F0 m pc lsA st0) := by
  intro T hT X
  obtain ⟨v, st₀, t, T', L, h0, X', hL, e1, e2, ⟨⟨o, σ', hv, hp, hP, hD, hG⟩, hF⟩, st⟩ := hr T hT X
  cases hv
  obtain ⟨-, -, k3⟩ := vx_keep h0 e1 hS (fun _ _ h => h) (fun _ h => h) hL hF
  obtain ⟨t2, a1, b1⟩ := kk o σ' T'.heap (locs ++ L) hp ⟨by rw [e1]; exact hP, hD, k3, hG⟩ T' rfl X'
  exact ⟨t2, st t2 a1, b1⟩
theorem sx_run {E : sv_E} {Post : Option sv_V → sv_G → Prop} {PX : String → sv_G → Prop} {a : Array Value} {mc ms pc : Nat} {lsA : Array Slot} {st0 rest : List Value} (hr : vx_Run p l e R s m args below meth c H locs u w mc ms (F0 m pc lsA st0) rest (QcP E Post a) (XcP E PX) (fun q => E.1 ≤ q)) (hS : va_S (fun q => E.1 ≤ q) s.heap H locs)
    (kx : ∀ (En : String) (ce : Cell) (q9 : Addr) (σ' : sv_G) (H1 : Heap) (locs1 : List Loc), PX En σ' → sv_R E s.heap σ' H1 locs1 → H1[q9]? = some ce → ce.vm = .none → s.vm.findClass En = some ce.cls → vx_W p l e R s m args below meth c H1 locs1 (u + mc) (w + ms) Q (F0 m pc lsA rest) q9)
    (kk : ∀ (o : Option sv_V) (σ' : sv_G) (H1 : Heap) (locs1 : List Loc), Post o σ' → sv_R E s.heap σ' H1 locs1 → W p l e R s m args below meth c H1 locs1 (u + mc) (w + ms) Q (F0 m (pc + 3) lsA ((o.map (cv E)).toList ++ rest))) : W p l e R s m args below meth c H locs u w Q (F0 m pc lsA st0) := by
  intro T hT X
  rcases hr T hT X with ⟨v, st₀, t, T', L, h0, X', hL, e1, e2, ⟨⟨o, σ', hv, hp, hP, hD, hG⟩, hF⟩, st⟩ | ⟨q, st₀, t, T', L, En, ce, h0, X', hL, e1, e2, ⟨σ', hp, ⟨hP, hD, hG⟩, hF⟩, hce, hcv, hcl, st⟩
  · cases hv
    obtain ⟨-, -, k3⟩ := vx_keep h0 e1 hS (fun _ _ h => h) (fun _ h => h) hL hF
    obtain ⟨t2, a1, b1⟩ := kk o σ' T'.heap (locs ++ L) hp ⟨by rw [e1]; exact hP, hD, k3, hG⟩ T' rfl X'
    exact ⟨t2, st t2 a1, b1⟩
  · obtain ⟨-, -, k3⟩ := vx_keep h0 e1 hS (fun _ _ h => h) (fun _ h => h) hL hF
    obtain ⟨t2, a1, b1⟩ := kx En ce q σ' T'.heap (locs ++ L) hp ⟨by rw [e1]; exact hP, hD, k3, hG⟩ (by rw [e1]; exact hce) hcv hcl T' rfl X'
    exact ⟨t2, st.trans a1, b1⟩
end RUN
theorem sv_room {E : sv_E} {m : MethodId} {pc : Nat} {lsA : Array Slot} {st : List Value} {rest : List sv_V} (h : rest.length ≤ 4) : 2 * (F0 m pc lsA st).monitorRoom + ((rest.map (cv E)).map fun v => v.category).sum ≤ 8 := by
  refine lv_room ?_
  have h1 : ∀ l : List sv_V, ((l.map (cv E)).map fun v => v.category).sum ≤ 2 * l.length := by
    intro l
    induction l with
    | nil => simp
    | cons v r ih =>
      simp only [List.map_cons, List.sum_cons, List.length_cons]
      have := lv_cat (cv E v)
      omega
  have := h1 rest
  omega
theorem sv_pre {E : sv_E} {s : State} {σ : sv_G} {H : Heap} {locs : List Loc} {av : List sv_V} (hR : sv_R E s.heap σ H locs) (hMW : MW E s) (hK : va_K E.2.2.2 vwCl (sv_tys E) s) : ∀ U : State, U.heap = H → s.WarmedH U.vm → va_Pc (av.map (cv E)) (Wd E σ) ((av.map (cv E)).toArray) U := by
  intro U hU hW
  obtain ⟨hP, hD, hS, hG⟩ := hR
  exact ⟨rfl, ⟨by rw [hU]; exact hP, hD, hG⟩, va_K.moved hW.alike hK, MW.mv hW (fun q h1 h2 => by rw [hU]; exact hS.2.1 q h1 h2) hMW⟩
theorem sv_pars {M : md_T} {n : Nat} (ho : mo M n) : ∀ sig, parseMethodDescriptor M.1.desc = some sig → n = sig.parameters.length := fun sig h => by
  have h2 := ho.2.2.2.1
  rw [h] at h2
  exact (Option.some.inj h2).symm
theorem sv_pay {args : Array Value} {s : State} {M : md_T} (h : mcd M ∈ LW) (hts : ∀ w ∈ LW, w.before args s = true) : ∀ w ∈ mcd M :: LW, ∀ (a' : Array Value) (U : State), s.WarmedH U.vm → w.before a' U = true := pay_in hts (GoodLW0 h)
theorem sv_cell {E : sv_E} {σ : sv_G} {s : State} {H : Heap} {a c : Nat} {C : String} (hP : va_P E.2.2.2 vwCl (sv_ws E σ) H) (hK : va_K E.2.2.2 vwCl (sv_tys E) s) (ha : shp a = (c, 0)) (hc : ∃ T N, vwCl[c]? = some (C, T, N)) (h9 : c < 10) : ∃ cellB : Cell, H[E.1 + a]? = some cellB ∧ cellB.vm.isStatics = false ∧ s.vm.findClass C = some cellB.cls := by
  obtain ⟨T, N, hc⟩ := hc
  exact va_recv hK hP hc (q0 := a) (by rw [sv_ws_at (shp_lt ha (by omega)), cel_O ha h9]; rfl)

theorem s_cV {X : sx_T} {E : sv_E} {D : sd_T} {Q : State → Prop} {u w pc : Nat} {ls : List (Option sv_V)} {st : List sv_V} {σ : sv_G} {M : md_T} {idx n9 k9 a c9 : Nat} {as9 rest : List sv_V} {Post : Option sv_V → sv_G → Prop} (C : sx_ok X E D) (hd : decode D.2.1 pc = .ok (.invokevirtual idx, 3)) (hl : Cond.methodLink D.1 idx M.1 ∈ LW) (ho : mo M n9) (hv : mov M) (hM : CT E M k9 (vR a :: as9) σ Post) (ha : shp a = (c9, 0)) (hc : ∃ T N, vwCl[c9]? = some (M.1.cls, T, N)) (hn : as9.length = n9) (hk : k9 + 1 ≤ dK D) (hrest : rest.length ≤ 4) (hb9 : u + mdM M ≤ dMc D ∧ w + 6 * mdM M ≤ dMs D) (kk : ∀ o9 σ9, Post o9 σ9 → SW X E Q (u + mdM M) (w + 6 * mdM M) (pc + 3) ls (o9.toList ++ rest) σ9) : SW X E Q u w pc ls (as9.reverse ++ vR a :: rest) σ := by
  obtain ⟨p, l, e, R, s, m, args, below, meth, c⟩ := X
  obtain ⟨own, cc, nL, rt, tb, k, mc, ms⟩ := D
  obtain ⟨hx, hb, hnl, hown, hts, hMW, hK, hret, hlocks, htab, htr, hRf, hRl, hRc, hRs⟩ := C
  intro H locs lsA hR hL
  obtain ⟨hP, hD, hS, hG⟩ := hR
  have hR : sv_R E s.heap σ H locs := ⟨hP, hD, hS, hG⟩
  have hlen : (as9.map (cv E)).length = n9 := by rw [List.length_map]; exact hn
  have hst : (as9.reverse ++ vR a :: rest).map (cv E) = (as9.map (cv E)).reverse ++ Value.ref (E.1 + a) :: rest.map (cv E) := by simp [cv]
  have hRf2 : k ≤ R.frames := hRf
  have hRl2 : 40 * k ≤ R.locals := hRl
  have hk2 : k9 + 1 ≤ k := hk
  have h21 : M.2.2.1 ≤ 21 := ho.2.2.2.2.2
  have hb1 : u + mdM M ≤ mc := hb9.1
  have hb2 : w + 6 * mdM M ≤ ms := hb9.2
  have hfr : (rm_of M k9).frames + 1 ≤ R.frames := Nat.le_trans hk2 hRf2
  have hlo : 8 + (M.2.2.1 + 11) + (rm_of M k9).locals ≤ R.locals := by show 8 + (M.2.2.1 + 11) + 40 * k9 ≤ R.locals; omega
  rw [hst]
  have hc9 : c9 < 10 := by
    obtain ⟨T, N, hc⟩ := hc
    have := (List.getElem?_eq_some_iff.mp hc).1
    have h9 : vwCl.length = 9 := rfl
    omega
  have hp : PreV s H M.1.cls (E.1 + a) (va_Pc ((vR a :: as9).map (cv E)) (Wd E σ)) (as9.map (cv E)) := ⟨Wd.blind, sv_cell hP hK ha hc hc9, sv_pre hR hMW hK⟩
  refine sw_run (va_runV (nL := nL) (rest := rest.map (cv E)) (Ts := LW) (own := own) ⟨hx, hb, hnl, hown, hts⟩ (hM l htr) (n := n9) ⟨⟨rfl, rfl, hfr, hlo, sv_pay ho.1 hts, List.mem_cons_self, hts _ ho.1, hts _ ho.2.1, ho.2.2.1, sv_pars ho, hts _ hl⟩, hts _ hv.1, hts _ hv.2⟩ hp rfl hlen (hL.1.trans hnl) rfl (sv_room hrest) hd ⟨Nat.le_trans hb1 hRc, Nat.le_trans hb2 hRs⟩) hS (fun o9 σ9 H1 locs1 hp9 hR9 => by
    have h := kk o9 σ9 hp9 H1 locs1 lsA hR9 hL
    rw [List.map_append, show (o9.toList.map (cv E)) = (o9.map (cv E)).toList by cases o9 <;> rfl] at h
    exact h)
theorem s_cN {X : sx_T} {E : sv_E} {D : sd_T} {Q : State → Prop} {u w pc : Nat} {ls : List (Option sv_V)} {st : List sv_V} {σ : sv_G} {M : md_T} {idx n9 k9 a c9 : Nat} {as9 rest : List sv_V} {Post : Option sv_V → sv_G → Prop} (C : sx_ok X E D) (hd : decode D.2.1 pc = .ok (.invokevirtual idx, 3)) (hl : ∃ h, Cond.methodLinkNest D.1 idx M.1 h ∈ NW) (ho : mo M n9) (hv : mov M) (hM : CT E M k9 (vR a :: as9) σ Post) (ha : shp a = (c9, 0)) (hc : ∃ T N, vwCl[c9]? = some (M.1.cls, T, N)) (hn : as9.length = n9) (hk : k9 + 1 ≤ dK D) (hrest : rest.length ≤ 4) (hb9 : u + mdM M ≤ dMc D ∧ w + 6 * mdM M ≤ dMs D) (kk : ∀ o9 σ9, Post o9 σ9 → SW X E Q (u + mdM M) (w + 6 * mdM M) (pc + 3) ls (o9.toList ++ rest) σ9) : SW X E Q u w pc ls (as9.reverse ++ vR a :: rest) σ := by
  obtain ⟨p, l, e, R, s, m, args, below, meth, c⟩ := X
  obtain ⟨own, cc, nL, rt, tb, k, mc, ms⟩ := D
  obtain ⟨hx, hb, hnl, hown, hts, hMW, hK, hret, hlocks, htab, htr, hRf, hRl, hRc, hRs⟩ := C
  intro H locs lsA hR hL
  obtain ⟨hP, hD, hS, hG⟩ := hR
  have hR : sv_R E s.heap σ H locs := ⟨hP, hD, hS, hG⟩
  have hlen : (as9.map (cv E)).length = n9 := by rw [List.length_map]; exact hn
  have hst : (as9.reverse ++ vR a :: rest).map (cv E) = (as9.map (cv E)).reverse ++ Value.ref (E.1 + a) :: rest.map (cv E) := by simp [cv]
  have hRf2 : k ≤ R.frames := hRf
  have hRl2 : 40 * k ≤ R.locals := hRl
  have hk2 : k9 + 1 ≤ k := hk
  have h21 : M.2.2.1 ≤ 21 := ho.2.2.2.2.2
  have hb1 : u + mdM M ≤ mc := hb9.1
  have hb2 : w + 6 * mdM M ≤ ms := hb9.2
  have hfr : (rm_of M k9).frames + 1 ≤ R.frames := Nat.le_trans hk2 hRf2
  have hlo : 8 + (M.2.2.1 + 11) + (rm_of M k9).locals ≤ R.locals := by show 8 + (M.2.2.1 + 11) + 40 * k9 ≤ R.locals; omega
  rw [hst]
  have hc9 : c9 < 10 := by
    obtain ⟨T, N, hc⟩ := hc
    have := (List.getElem?_eq_some_iff.mp hc).1
    have h9 : vwCl.length = 9 := rfl
    omega
  have hp : PreV s H M.1.cls (E.1 + a) (va_Pc ((vR a :: as9).map (cv E)) (Wd E σ)) (as9.map (cv E)) := ⟨Wd.blind, sv_cell hP hK ha hc hc9, sv_pre hR hMW hK⟩
  obtain ⟨host, hl⟩ := hl
  refine sw_run (va_runVN (nL := nL) (rest := rest.map (cv E)) (host := host) (Ts := LW) (own := own) ⟨hx, hb, hnl, hown, hts⟩ (hM l htr) (n := n9) ⟨⟨⟨rfl, rfl, hfr, hlo, sv_pay ho.1 hts, List.mem_cons_self⟩, hts _ ho.1, hts _ ho.2.1, ho.2.2.1, sv_pars ho, va_Nw.use rfl (hMW.1 _ hl)⟩, hts _ hv.1, hts _ hv.2⟩ hp rfl hlen (hL.1.trans hnl) rfl (sv_room hrest) hd ⟨Nat.le_trans hb1 hRc, Nat.le_trans hb2 hRs⟩) hS (fun o9 σ9 H1 locs1 hp9 hR9 => by
    have h := kk o9 σ9 hp9 H1 locs1 lsA hR9 hL
    rw [List.map_append, show (o9.toList.map (cv E)) = (o9.map (cv E)).toList by cases o9 <;> rfl] at h
    exact h)
theorem s_cS {X : sx_T} {E : sv_E} {D : sd_T} {Q : State → Prop} {u w pc : Nat} {ls : List (Option sv_V)} {st : List sv_V} {σ : sv_G} {M : md_T} {idx n9 k9 : Nat} {as9 rest : List sv_V} {Post : Option sv_V → sv_G → Prop} (C : sx_ok X E D) (hd : decode D.2.1 pc = .ok (.invokestatic idx, 3)) (hl : Cond.methodLink D.1 idx M.1 ∈ LW) (ho : mo M n9) (hv : mos M) (hM : CT E M k9 (as9) σ Post) (hn : as9.length = n9) (hk : k9 + 1 ≤ dK D) (hrest : rest.length ≤ 4) (hb9 : u + mdM M ≤ dMc D ∧ w + 6 * mdM M ≤ dMs D) (kk : ∀ o9 σ9, Post o9 σ9 → SW X E Q (u + mdM M) (w + 6 * mdM M) (pc + 3) ls (o9.toList ++ rest) σ9) : SW X E Q u w pc ls (as9.reverse ++ rest) σ := by
  obtain ⟨p, l, e, R, s, m, args, below, meth, c⟩ := X
  obtain ⟨own, cc, nL, rt, tb, k, mc, ms⟩ := D
  obtain ⟨hx, hb, hnl, hown, hts, hMW, hK, hret, hlocks, htab, htr, hRf, hRl, hRc, hRs⟩ := C
  intro H locs lsA hR hL
  obtain ⟨hP, hD, hS, hG⟩ := hR
  have hR : sv_R E s.heap σ H locs := ⟨hP, hD, hS, hG⟩
  have hlen : (as9.map (cv E)).length = n9 := by rw [List.length_map]; exact hn
  have hst : (as9.reverse ++ rest).map (cv E) = (as9.map (cv E)).reverse ++ rest.map (cv E) := by simp [cv]
  have hRf2 : k ≤ R.frames := hRf
  have hRl2 : 40 * k ≤ R.locals := hRl
  have hk2 : k9 + 1 ≤ k := hk
  have h21 : M.2.2.1 ≤ 21 := ho.2.2.2.2.2
  have hb1 : u + mdM M ≤ mc := hb9.1
  have hb2 : w + 6 * mdM M ≤ ms := hb9.2
  have hfr : (rm_of M k9).frames + 1 ≤ R.frames := Nat.le_trans hk2 hRf2
  have hlo : 8 + (M.2.2.1 + 11) + (rm_of M k9).locals ≤ R.locals := by show 8 + (M.2.2.1 + 11) + 40 * k9 ≤ R.locals; omega
  rw [hst]
  have hp : PreS s H (va_Pc (as9.map (cv E)) (Wd E σ)) (as9.map (cv E)) := ⟨Wd.blind, sv_pre hR hMW hK⟩
  refine sw_run (va_runS (nL := nL) (rest := rest.map (cv E)) (Ts := LW) (own := own) ⟨hx, hb, hnl, hown, hts⟩ (hM l htr) (n := n9) ⟨⟨rfl, rfl, hfr, hlo, sv_pay ho.1 hts, List.mem_cons_self, hts _ ho.1, hts _ ho.2.1, ho.2.2.1, sv_pars ho, hts _ hl⟩, hts _ hv⟩ hp rfl hlen (hL.1.trans hnl) rfl (sv_room hrest) hd ⟨Nat.le_trans hb1 hRc, Nat.le_trans hb2 hRs⟩) hS (fun o9 σ9 H1 locs1 hp9 hR9 => by
    have h := kk o9 σ9 hp9 H1 locs1 lsA hR9 hL
    rw [List.map_append, show (o9.toList.map (cv E)) = (o9.map (cv E)).toList by cases o9 <;> rfl] at h
    exact h)
theorem sx_cV {X : sx_T} {E : sv_E} {D : sd_T} {Q : State → Prop} {u w pc : Nat} {ls : List (Option sv_V)} {st : List sv_V} {σ : sv_G} {M : md_T} {idx n9 k9 a c9 : Nat} {as9 rest : List sv_V} {Post : Option sv_V → sv_G → Prop} {PX PX0 : String → sv_G → Prop} {mc9 : Nat} (C : sx_ok X E D) (hd : decode D.2.1 pc = .ok (.invokevirtual idx, 3)) (hl : Cond.methodLink D.1 idx M.1 ∈ LW) (ho : mo M n9) (hv : mov M) (hM : CX E M k9 (vR a :: as9) σ Post PX) (ha : shp a = (c9, 0)) (hc : ∃ T N, vwCl[c9]? = some (M.1.cls, T, N)) (hn : as9.length = n9) (hk : k9 + 1 ≤ dK D) (hrest : rest.length ≤ 4) (hb9 : u + mdM M ≤ dMc D ∧ w + 6 * mdM M ≤ dMs D) (hQ : QT X E Q mc9 PX0) (htb : dTb D = []) (hb8 : u + mdM M ≤ mc9 ∧ w + 6 * mdM M ≤ 6 * mc9) (hpx : ∀ En σ9, PX En σ9 → PX0 En σ9) (kk : ∀ o9 σ9, Post o9 σ9 → SW X E Q (u + mdM M) (w + 6 * mdM M) (pc + 3) ls (o9.toList ++ rest) σ9) : SW X E Q u w pc ls (as9.reverse ++ vR a :: rest) σ := by
  obtain ⟨p, l, e, R, s, m, args, below, meth, c⟩ := X
  obtain ⟨own, cc, nL, rt, tb, k, mc, ms⟩ := D
  obtain ⟨hx, hb, hnl, hown, hts, hMW, hK, hret, hlocks, htab, htr, hRf, hRl, hRc, hRs⟩ := C
  intro H locs lsA hR hL
  obtain ⟨hP, hD, hS, hG⟩ := hR
  have hR : sv_R E s.heap σ H locs := ⟨hP, hD, hS, hG⟩
  have hlen : (as9.map (cv E)).length = n9 := by rw [List.length_map]; exact hn
  have hst : (as9.reverse ++ vR a :: rest).map (cv E) = (as9.map (cv E)).reverse ++ Value.ref (E.1 + a) :: rest.map (cv E) := by simp [cv]
  have hRf2 : k ≤ R.frames := hRf
  have hRl2 : 40 * k ≤ R.locals := hRl
  have hk2 : k9 + 1 ≤ k := hk
  have h21 : M.2.2.1 ≤ 21 := ho.2.2.2.2.2
  have hb1 : u + mdM M ≤ mc := hb9.1
  have hb2 : w + 6 * mdM M ≤ ms := hb9.2
  have hfr : (rm_of M k9).frames + 1 ≤ R.frames := Nat.le_trans hk2 hRf2
  have hlo : 8 + (M.2.2.1 + 11) + (rm_of M k9).locals ≤ R.locals := by show 8 + (M.2.2.1 + 11) + 40 * k9 ≤ R.locals; omega
  rw [hst]
  have hc9 : c9 < 10 := by
    obtain ⟨T, N, hc⟩ := hc
    have := (List.getElem?_eq_some_iff.mp hc).1
    have h9 : vwCl.length = 9 := rfl
    omega
  have hp : PreV s H M.1.cls (E.1 + a) (va_Pc ((vR a :: as9).map (cv E)) (Wd E σ)) (as9.map (cv E)) := ⟨Wd.blind, sv_cell hP hK ha hc hc9, sv_pre hR hMW hK⟩
  obtain ⟨Qc9, rfl⟩ := hQ
  refine sx_run (vx_runV (nL := nL) (rest := rest.map (cv E)) (Ts := LW) (own := own) ⟨hx, hb, hnl, hown, hts⟩ (hM l htr) (n := n9) ⟨⟨rfl, rfl, hfr, hlo, sv_pay ho.1 hts, List.mem_cons_self, hts _ ho.1, hts _ ho.2.1, ho.2.2.1, sv_pars ho, hts _ hl⟩, hts _ hv.1, hts _ hv.2⟩ hp rfl hlen (hL.1.trans hnl) rfl (sv_room hrest) hd ⟨Nat.le_trans hb1 hRc, Nat.le_trans hb2 hRs⟩) hS (fun En ce q9 σ9 H1 locs1 hp9 hR9 h1 h2 h3 => ?_) (fun o9 σ9 H1 locs1 hp9 hR9 => by
    have h := kk o9 σ9 hp9 H1 locs1 lsA hR9 hL
    rw [List.map_append, show (o9.toList.map (cv E)) = (o9.map (cv E)).toList by cases o9 <;> rfl] at h
    exact h)
  obtain ⟨gP, gD, gS, gG⟩ := hR9
  have htb2 : c.exceptionTable.toList = [] := htab.trans htb
  exact vx_out (by rw [htb2]; exact fun x hx => nomatch hx) hlocks h1 h2 h3 (fun t ht hA => ⟨σ9, hpx _ _ hp9, by rw [ht]; exact ⟨gP, gD, gG⟩, gS.F ht⟩) gS.2.2 hb8.1 hb8.2
theorem sx_cS {X : sx_T} {E : sv_E} {D : sd_T} {Q : State → Prop} {u w pc : Nat} {ls : List (Option sv_V)} {st : List sv_V} {σ : sv_G} {M : md_T} {idx n9 k9 : Nat} {as9 rest : List sv_V} {Post : Option sv_V → sv_G → Prop} {PX PX0 : String → sv_G → Prop} {mc9 : Nat} (C : sx_ok X E D) (hd : decode D.2.1 pc = .ok (.invokestatic idx, 3)) (hl : Cond.methodLink D.1 idx M.1 ∈ LW) (ho : mo M n9) (hv : mos M) (hM : CX E M k9 (as9) σ Post PX) (hn : as9.length = n9) (hk : k9 + 1 ≤ dK D) (hrest : rest.length ≤ 4) (hb9 : u + mdM M ≤ dMc D ∧ w + 6 * mdM M ≤ dMs D) (hQ : QT X E Q mc9 PX0) (htb : dTb D = []) (hb8 : u + mdM M ≤ mc9 ∧ w + 6 * mdM M ≤ 6 * mc9) (hpx : ∀ En σ9, PX En σ9 → PX0 En σ9) (kk : ∀ o9 σ9, Post o9 σ9 → SW X E Q (u + mdM M) (w + 6 * mdM M) (pc + 3) ls (o9.toList ++ rest) σ9) : SW X E Q u w pc ls (as9.reverse ++ rest) σ := by
  obtain ⟨p, l, e, R, s, m, args, below, meth, c⟩ := X
  obtain ⟨own, cc, nL, rt, tb, k, mc, ms⟩ := D
  obtain ⟨hx, hb, hnl, hown, hts, hMW, hK, hret, hlocks, htab, htr, hRf, hRl, hRc, hRs⟩ := C
  intro H locs lsA hR hL
  obtain ⟨hP, hD, hS, hG⟩ := hR
  have hR : sv_R E s.heap σ H locs := ⟨hP, hD, hS, hG⟩
  have hlen : (as9.map (cv E)).length = n9 := by rw [List.length_map]; exact hn
  have hst : (as9.reverse ++ rest).map (cv E) = (as9.map (cv E)).reverse ++ rest.map (cv E) := by simp [cv]
  have hRf2 : k ≤ R.frames := hRf
  have hRl2 : 40 * k ≤ R.locals := hRl
  have hk2 : k9 + 1 ≤ k := hk
  have h21 : M.2.2.1 ≤ 21 := ho.2.2.2.2.2
  have hb1 : u + mdM M ≤ mc := hb9.1
  have hb2 : w + 6 * mdM M ≤ ms := hb9.2
  have hfr : (rm_of M k9).frames + 1 ≤ R.frames := Nat.le_trans hk2 hRf2
  have hlo : 8 + (M.2.2.1 + 11) + (rm_of M k9).locals ≤ R.locals := by show 8 + (M.2.2.1 + 11) + 40 * k9 ≤ R.locals; omega
  rw [hst]
  have hp : PreS s H (va_Pc (as9.map (cv E)) (Wd E σ)) (as9.map (cv E)) := ⟨Wd.blind, sv_pre hR hMW hK⟩
  obtain ⟨Qc9, rfl⟩ := hQ
  refine sx_run (vx_runS (nL := nL) (rest := rest.map (cv E)) (Ts := LW) (own := own) ⟨hx, hb, hnl, hown, hts⟩ (hM l htr) (n := n9) ⟨⟨rfl, rfl, hfr, hlo, sv_pay ho.1 hts, List.mem_cons_self, hts _ ho.1, hts _ ho.2.1, ho.2.2.1, sv_pars ho, hts _ hl⟩, hts _ hv⟩ hp rfl hlen (hL.1.trans hnl) rfl (sv_room hrest) hd ⟨Nat.le_trans hb1 hRc, Nat.le_trans hb2 hRs⟩) hS (fun En ce q9 σ9 H1 locs1 hp9 hR9 h1 h2 h3 => ?_) (fun o9 σ9 H1 locs1 hp9 hR9 => by
    have h := kk o9 σ9 hp9 H1 locs1 lsA hR9 hL
    rw [List.map_append, show (o9.toList.map (cv E)) = (o9.map (cv E)).toList by cases o9 <;> rfl] at h
    exact h)
  obtain ⟨gP, gD, gS, gG⟩ := hR9
  have htb2 : c.exceptionTable.toList = [] := htab.trans htb
  exact vx_out (by rw [htb2]; exact fun x hx => nomatch hx) hlocks h1 h2 h3 (fun t ht hA => ⟨σ9, hpx _ _ hp9, by rw [ht]; exact ⟨gP, gD, gG⟩, gS.F ht⟩) gS.2.2 hb8.1 hb8.2
end
section
theorem zz_probe : 1 = 1 := rfl
end
